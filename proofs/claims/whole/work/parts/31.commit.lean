/-! committing, as a function of the state -/
section CM
def sl1 (τ : SS) (p : Nat) : SS := if 0 < rat τ (τ 1 0) p ∧ 128 ≤ τ 12 (rat τ (τ 1 0) p) then (if τ 6 (rat τ (τ 1 0) p) = 2 ∧ τ 8 (rat τ (τ 1 0) p) ≠ 0 then stf (sp τ 12 (rat τ (τ 1 0) p) (τ 1 0)) (rat τ (τ 1 0) p) else sp τ 12 (rat τ (τ 1 0) p) (τ 1 0)) else τ
def slf : Nat → Nat → SS → SS
  | 0, _, τ => τ
  | u + 1, p, τ => slf u (p + 1) (sl1 τ p)
theorem sl_0 {τ : SS} {p : Nat} (h : rat τ (τ 1 0) p = 0 ∨ τ 12 (rat τ (τ 1 0) p) < 128) : sl1 τ p = τ := if_neg (by omega)
theorem sl_1 {τ : SS} {p : Nat} (h : 0 < rat τ (τ 1 0) p) (h2 : 128 ≤ τ 12 (rat τ (τ 1 0) p)) (h3 : τ 6 (rat τ (τ 1 0) p) ≠ 2 ∨ τ 8 (rat τ (τ 1 0) p) = 0) : sl1 τ p = sp τ 12 (rat τ (τ 1 0) p) (τ 1 0) := by
  unfold sl1
  rw [if_pos ⟨h, h2⟩, if_neg]
  rintro ⟨z1, z2⟩
  rcases h3 with h3 | h3
  · exact h3 z1
  · exact z2 h3
theorem sl_2 {τ : SS} {p : Nat} (h : 0 < rat τ (τ 1 0) p) (h2 : 128 ≤ τ 12 (rat τ (τ 1 0) p)) (h3 : τ 6 (rat τ (τ 1 0) p) = 2) (h4 : τ 8 (rat τ (τ 1 0) p) ≠ 0) : sl1 τ p = stf (sp τ 12 (rat τ (τ 1 0) p) (τ 1 0)) (rat τ (τ 1 0) p) := by
  unfold sl1
  rw [if_pos ⟨h, h2⟩, if_pos ⟨h3, h4⟩]
def SJ (τ : SS) : Prop := rB τ ∧ (∀ j, τ 0 j < 1300) ∧ (∀ j, τ 12 j < 256) ∧ (∀ j, τ 13 j < 1300) ∧ (∀ j, τ 15 j ≤ 512) ∧ (∀ j, τ 7 j < 128) ∧ (∀ j, τ 17 j < 2 ^ 48) ∧ (∀ j, τ 9 j < 2 ^ 48) ∧ (∀ j, τ 11 j < 1000) ∧ τ 1 0 ≤ 15
theorem SJ_12 {τ : SS} {n v : Nat} (h : SJ τ) (hv : v < 256) : SJ (sp τ 12 n v) := by
  obtain ⟨a, b, c, d, e, f, g, h8, h9, h10⟩ := h
  refine ⟨rB_sp a (by omega), b, fun j => ?_, d, e, f, g, h8, h9, h10⟩
  rw [sp_at]
  split
  · exact hv
  · exact c j
theorem SJ_15 {τ : SS} {n v : Nat} (h : SJ τ) (hv : v ≤ 512) : SJ (sp τ 15 n v) := by
  obtain ⟨a, b, c, d, e, f, g, h8, h9, h10⟩ := h
  refine ⟨rB_sp a (by omega), b, c, d, fun j => ?_, f, g, h8, h9, h10⟩
  rw [sp_at]
  split
  · exact hv
  · exact e j
theorem SJ_17 {τ : SS} {n v : Nat} (h : SJ τ) (hv : v < 2 ^ 48) : SJ (sp τ 17 n v) := by
  obtain ⟨a, b, c, d, e, f, g, h8, h9, h10⟩ := h
  refine ⟨rB_spL a (Or.inr rfl), b, c, d, e, f, fun j => ?_, h8, h9, h10⟩
  rw [sp_at]
  split
  · exact hv
  · exact g j
theorem SJ_x {τ : SS} {f n v : Nat} (h : SJ τ) (hv : v < 32768) (hf : f = 18 ∨ f = 19 ∨ f = 20 ∨ f = 16) : SJ (sp τ f n v) := by
  obtain ⟨a, b, c, d, e, f, g, h8, h9, h10⟩ := h
  rcases hf with rfl | rfl | rfl | rfl
  · exact ⟨rB_sp a hv, b, c, d, e, f, g, h8, h9, h10⟩
  · exact ⟨rB_sp a hv, b, c, d, e, f, g, h8, h9, h10⟩
  · exact ⟨rB_sp a hv, b, c, d, e, f, g, h8, h9, h10⟩
  · exact ⟨rB_sp a hv, b, c, d, e, f, g, h8, h9, h10⟩
theorem SJ_st5 {τ : SS} {n bv cv : Nat} (h : SJ τ) (hS : τ 16 0 < 512) (hb : bv < 32768) (hc : cv < 32768) : SJ (st5 τ n bv cv) := by
  unfold st5
  have h7 := h.2.2.2.2.2.1 n
  have h9 := h.2.2.2.2.2.2.2.1 n
  exact SJ_15 (SJ_x (SJ_x (SJ_x (SJ_x (SJ_17 h h9) (by omega) (Or.inl rfl)) hb (Or.inr (Or.inl rfl))) hc (Or.inr (Or.inr (Or.inl rfl)))) (by omega) (Or.inr (Or.inr (Or.inr rfl)))) (by omega)
theorem SJ_stf {τ : SS} {n : Nat} (h : SJ τ) (hS : τ 16 0 < 512) : SJ (stf τ n) := by
  have h1 : SJ (sp τ 15 n 0) := SJ_15 h (by omega)
  have hS1 : sp τ 15 n 0 16 0 < 512 := hS
  unfold stf
  generalize sp τ 15 n 0 = θ at h1 hS1
  unfold st2
  split
  · exact h1
  · split
    · exact SJ_15 h1 (by omega)
    · unfold st3
      have ho : oldf θ n ≤ 512 := by
        unfold oldf
        split
        · exact h1.2.2.2.2.1 _
        · omega
      have hal := alw_le (c := θ 11 n) 20 0
      split
      · exact SJ_st5 h1 hS1 (by omega) (by omega)
      · exact SJ_st5 h1 hS1 (by omega) (by omega)
theorem SJ_sl1 {τ : SS} {p : Nat} (h : SJ τ) (hS : τ 16 0 < 512) : SJ (sl1 τ p) := by
  have h1 := h.2.2.2.2.2.2.2.2.2
  unfold sl1
  split
  · split
    · exact SJ_stf (SJ_12 h (by omega)) hS
    · exact SJ_12 h (by omega)
  · exact h
def cm2 (τ : SS) (t : Nat) : SS := sp (fil (sp τ 1 0 (τ 1 0 + 1)) (τ 1 0 + 1) (16 + t) 125) 2 t 0
def cm1 (σ : SS) (t : Nat) : SS × Nat := if σ 0 (125 * σ 1 0) ≠ σ 0 (125 * σ 3 t) then (if σ 0 (2000 + 125 * t) = σ 0 (125 * σ 3 t) then (fil σ (16 + t) (σ 1 0) 125, 125) else if (mg1 t false 4 σ).2 = 125 then (jn (mg1 t true 4 σ).1 t 0, 125) else (σ, (mg1 t false 4 σ).2)) else (σ, 125)
theorem cm1_s {σ : SS} {t : Nat} (h : σ 0 (125 * σ 1 0) = σ 0 (125 * σ 3 t)) : cm1 σ t = (σ, 125) := if_neg (fun z => z h)
theorem cm1_f {σ : SS} {t : Nat} (h : σ 0 (125 * σ 1 0) ≠ σ 0 (125 * σ 3 t)) (h2 : σ 0 (2000 + 125 * t) = σ 0 (125 * σ 3 t)) : cm1 σ t = (fil σ (16 + t) (σ 1 0) 125, 125) := by
  unfold cm1
  rw [if_pos h, if_pos h2]
theorem cm1_j {σ : SS} {t : Nat} (h : σ 0 (125 * σ 1 0) ≠ σ 0 (125 * σ 3 t)) (h2 : σ 0 (2000 + 125 * t) ≠ σ 0 (125 * σ 3 t)) (h3 : (mg1 t false 4 σ).2 = 125) : cm1 σ t = (jn (mg1 t true 4 σ).1 t 0, 125) := by
  unfold cm1
  rw [if_pos h, if_neg h2, if_pos h3]
theorem cm1_c {σ : SS} {t : Nat} (h : σ 0 (125 * σ 1 0) ≠ σ 0 (125 * σ 3 t)) (h2 : σ 0 (2000 + 125 * t) ≠ σ 0 (125 * σ 3 t)) (h3 : (mg1 t false 4 σ).2 ≠ 125) : cm1 σ t = (σ, (mg1 t false 4 σ).2) := by
  unfold cm1
  rw [if_pos h, if_neg h2, if_neg h3]
def cmb (σ : SS) (t : Nat) : Bool := opb σ t && decide (σ 1 0 ≠ 15)
theorem cmb_1 {σ : SS} {t : Nat} (h : opb σ t = false) : ¬ cmb σ t = true := by simp [cmb, h]
theorem cmb_2 {σ : SS} {t : Nat} (h : σ 1 0 = 15) : ¬ cmb σ t = true := by simp [cmb, h]
theorem cmb_t {σ : SS} {t : Nat} (h : opb σ t = true) (h2 : σ 1 0 ≠ 15) : cmb σ t = true := by simp [cmb, h, h2]
def cmO (σ : SS) (t : Nat) : SS := if cmb σ t = true then (if (cm1 σ t).2 = 125 then slf 125 0 (cm2 (cm1 σ t).1 t) else σ) else σ
def cmA (σ : SS) (t : Nat) : Int32 := if cmb σ t = true then (if (cm1 σ t).2 = 125 then nI (cmO σ t 1 0) else -2 - nI (cm1 σ t).2) else -1
theorem cmO_f {σ : SS} {t : Nat} (h : ¬ cmb σ t = true) : cmO σ t = σ := if_neg h
theorem cmA_f {σ : SS} {t : Nat} (h : ¬ cmb σ t = true) : cmA σ t = -1 := if_neg h
theorem cmO_c {σ : SS} {t : Nat} (h : cmb σ t = true) (h2 : (cm1 σ t).2 ≠ 125) : cmO σ t = σ := by unfold cmO; rw [if_pos h, if_neg h2]
theorem cmA_c {σ : SS} {t : Nat} (h : cmb σ t = true) (h2 : (cm1 σ t).2 ≠ 125) : cmA σ t = -2 - nI (cm1 σ t).2 := by unfold cmA; rw [if_pos h, if_neg h2]
theorem cmO_t {σ : SS} {t : Nat} (h : cmb σ t = true) (h2 : (cm1 σ t).2 = 125) : cmO σ t = slf 125 0 (cm2 (cm1 σ t).1 t) := by unfold cmO; rw [if_pos h, if_pos h2]
theorem cmA_t {σ : SS} {t : Nat} (h : cmb σ t = true) (h2 : (cm1 σ t).2 = 125) : cmA σ t = nI (cmO σ t 1 0) := by unfold cmA; rw [if_pos h, if_pos h2]
theorem mg3_f {t p : Nat} : ∀ n τ, (mg3 t p false n τ).1 = τ
  | 0, τ => rfl
  | n + 1, τ => by
    unfold mg3
    split
    · rfl
    · rw [stl_f]; exact mg3_f n τ
theorem md3_f {t p : Nat} {τ : SS} : (md3 t p false τ).1 = τ := by
  unfold md3
  rw [stl_f]
  split
  · exact mg3_f 4 τ
  · rfl
theorem mg2_f {t o : Nat} : ∀ n τ, (mg2 t o false n τ).1 = τ
  | 0, τ => rfl
  | n + 1, τ => by
    unfold mg2
    split
    · rfl
    · split
      · rw [md3_f]; exact mg2_f n τ
      · exact md3_f
theorem md2_f {t o : Nat} {τ : SS} : (md2 t o false τ).1 = τ := by
  unfold md2
  rw [stl_f]
  split
  · exact mg2_f 4 τ
  · rfl
theorem mg1_f {t : Nat} : ∀ n τ, (mg1 t false n τ).1 = τ
  | 0, τ => rfl
  | n + 1, τ => by
    unfold mg1
    split
    · rfl
    · split
      · rw [md2_f]; exact mg1_f n τ
      · exact md2_f
theorem mI_lt {r : Nat} (hr : r < 2 ^ 31) (h : mI r < 0) : r = 125 := by
  rcases Nat.decEq r 125 with z | z
  · rw [mI_n z] at h
    exact absurd h (nI_pos hr)
  · exact z
theorem mI_nlt {r : Nat} (h : ¬ mI r < 0) : r ≠ 125 := by rintro rfl; exact h (by decide)
theorem mg3_2 {t p : Nat} {d : Bool} (hp : p < 25) : ∀ n τ, (mg3 t p d n τ).2 ≤ 125
  | 0, τ => Nat.le_refl _
  | n + 1, τ => by
    unfold mg3
    split
    · show p + 25 * (5 - (n + 1)) ≤ 125
      omega
    · exact mg3_2 hp n _
theorem mg2_2 {t o : Nat} {d : Bool} (ho : o < 5) : ∀ n τ, (mg2 t o d n τ).2 ≤ 125
  | 0, τ => Nat.le_refl _
  | n + 1, τ => by
    have hd : (md3 t (o + 5 * (5 - (n + 1))) d τ).2 ≤ 125 := by
      unfold md3
      split
      · exact mg3_2 (by omega) 4 _
      · exact Nat.le_refl _
    unfold mg2
    split
    · show o + 5 * (5 - (n + 1)) ≤ 125
      omega
    · split
      · exact mg2_2 ho n _
      · exact hd
theorem mg1_2 {t : Nat} {d : Bool} : ∀ n τ, (mg1 t d n τ).2 ≤ 125
  | 0, τ => Nat.le_refl _
  | n + 1, τ => by
    have hd : (md2 t (5 - (n + 1)) d τ).2 ≤ 125 := by
      unfold md2
      split
      · exact mg2_2 (by omega) 4 _
      · exact Nat.le_refl _
    unfold mg1
    split
    · show 5 - (n + 1) ≤ 125
      omega
    · split
      · exact mg1_2 n _
      · exact hd
end CM
