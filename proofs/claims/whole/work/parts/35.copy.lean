/-! copying, as a function of the state -/
section CP
theorem pd_ub {p : Nat} (h : p < 125) : p < pu (pd p) := by
  unfold pd pu
  (repeat' split) <;> omega
theorem pm_lt {w f g : Nat} (hw : w < 125) (hg : g < 125) (hf : f < 125) (hd : pd f ≤ pd w) (h : ¬ 3 < pd g + pd w - pd f) : pm w f g < 125 := by
  have h1 := pd_ub hw
  have h2 := pd_ub hg
  have w3 := pd_le w
  have g3 := pd_le g
  have f3 := pd_le f
  unfold pm
  generalize pd w = a at *
  generalize pd g = b at *
  generalize pd f = c at *
  have ha : a = 0 ∨ a = 1 ∨ a = 2 ∨ a = 3 := by omega
  have hb : b = 0 ∨ b = 1 ∨ b = 2 ∨ b = 3 := by omega
  have hc : c = 0 ∨ c = 1 ∨ c = 2 ∨ c = 3 := by omega
  have p0 : pu 0 = 1 := rfl
  have p1 : pu 1 = 5 := rfl
  have p2 : pu 2 = 25 := rfl
  have p3 : pu 3 = 125 := rfl
  rcases ha with rfl | rfl | rfl | rfl <;> rcases hb with rfl | rfl | rfl | rfl <;> rcases hc with rfl | rfl | rfl | rfl <;> simp only [p0, p1, p2, p3] at * <;> omega
/-- no node at or below f of revision r would come too deep at g -/
def cof (σ : SS) (r f g : Nat) : Nat → Nat → Bool
  | 0, _ => true
  | u + 1, w => if 0 < rat σ r w ∧ pun w f = true ∧ 3 < pd g + pd w - pd f then false else cof σ r f g u (w + 1)
theorem cof_f {σ : SS} {r f g u w : Nat} (h : 0 < rat σ r w) (h2 : pun w f = true) (h3 : 3 < pd g + pd w - pd f) : cof σ r f g (u + 1) w = false := if_pos ⟨h, h2, h3⟩
theorem cof_g {σ : SS} {r f g u w : Nat} (h : ¬ (0 < rat σ r w ∧ pun w f = true ∧ 3 < pd g + pd w - pd f)) : cof σ r f g (u + 1) w = cof σ r f g u (w + 1) := if_neg h
theorem cof_of {σ : SS} {r f g : Nat} : ∀ u w, cof σ r f g u w = true → ∀ k, w ≤ k → k < w + u → ¬ (0 < rat σ r k ∧ pun k f = true ∧ 3 < pd g + pd k - pd f)
  | 0, w, _, k, h1, h2 => by omega
  | u + 1, w, h, k, h1, h2 => by
    unfold cof at h
    split at h
    · cases h
    · next hc =>
      by_cases e : k = w
      · subst e; exact hc
      · exact cof_of u (w + 1) h k (by omega) (by omega)
/-- the nodes at and below f of revision r are put at and below g -/
def gff (t r f g n : Nat) : Nat → Nat → SS → SS
  | 0, _, τ => τ
  | u + 1, w, τ => gff t r f g n u (w + 1) (if 0 < rat τ r w ∧ pun w f = true then plc τ t (pm w f g) (if w = f then n else rat τ r w) else τ)
def cpb (σ : SS) (t r f g : Nat) : Bool := rmb σ t g && decide (r < 16) && decide (rat σ r f ≠ 0) && cof σ r f g 125 0
theorem cpb_1 {σ : SS} {t r f g : Nat} (h : rmb σ t g = false) : ¬ cpb σ t r f g = true := by simp [cpb, h]
theorem cpb_2 {σ : SS} {t r f g : Nat} (h : r = 16) : ¬ cpb σ t r f g = true := by simp [cpb, h]
theorem cpb_3 {σ : SS} {t r f g : Nat} (h : rat σ r f = 0) : ¬ cpb σ t r f g = true := by simp [cpb, h]
theorem cpb_4 {σ : SS} {t r f g : Nat} (h : cof σ r f g 125 0 = false) : ¬ cpb σ t r f g = true := by simp [cpb, h]
theorem cpb_t {σ : SS} {t r f g : Nat} (h : rmb σ t g = true) (h1 : r < 16) (h2 : rat σ r f ≠ 0) (h3 : cof σ r f g 125 0 = true) : cpb σ t r f g = true := by simp [cpb, h, h1, h2, h3]
/-- the copied node -/
def cp3 (σ : SS) (t r f : Nat) : SS := sp (sp (sp (nod1 σ t (σ 6 (rat σ r f)) (rat σ r f)) 5 0 (σ 5 0 + 1)) 10 (σ 4 0 + 1) (σ 5 0 + 1)) 14 (σ 4 0 + 1) (125 * r + f + 1)
def cp4 (σ : SS) (t r f g : Nat) : SS := gff t r f g (σ 4 0 + 1) 125 0 (cp3 σ t r f)
theorem cp4_e {σ : SS} {t r f g : Nat} : cp4 σ t r f g = gff t r f g (σ 4 0 + 1) 125 0 (cp3 σ t r f) := rfl
theorem rat_cp3 {σ : SS} {t r f k w : Nat} : rat (cp3 σ t r f) k w = rat σ k w := by
  have h : cp3 σ t r f 0 = σ 0 := rfl
  unfold rat
  rw [h]
theorem gff_0 {t r f g n w : Nat} {τ : SS} : gff t r f g n 0 w τ = τ := rfl
theorem gff_s {t r f g n u w : Nat} {τ : SS} : gff t r f g n (u + 1) w τ = gff t r f g n u (w + 1) (if 0 < rat τ r w ∧ pun w f = true then plc τ t (pm w f g) (if w = f then n else rat τ r w) else τ) := rfl
def cpO (σ : SS) (t r f g : Nat) : SS := if cpb σ t r f g = true then tch (pd (pp g)) (cp4 σ t r f g) t (pp g) else σ
theorem cpO_f {σ : SS} {t r f g : Nat} (h : ¬ cpb σ t r f g = true) : cpO σ t r f g = σ := if_neg h
theorem cpO_t {σ : SS} {t r f g : Nat} (h : cpb σ t r f g = true) : cpO σ t r f g = tch (pd (pp g)) (cp4 σ t r f g) t (pp g) := if_pos h
/-- while the copied nodes are put down: tables of revisions stay, ids stay small -/
def GJ (σ τ : SS) (r : Nat) : Prop := rB τ ∧ (∀ j, τ 0 j < 1300) ∧ ∀ w, rat τ r w = rat σ r w
theorem GJ_plc {σ τ : SS} {t r q v : Nat} (hr : r < 16) (hq : q < 125) (hv : v < 1300) (h : GJ σ τ r) : GJ σ (plc τ t q v) r := by
  refine ⟨rB_sp h.1 (by omega), fun j => ?_, fun w => ?_⟩
  · unfold plc
    rw [sp_at]
    split
    · exact hv
    · exact h.2.1 j
  · rw [← h.2.2 w]
    unfold rat plc
    by_cases hp : pgb w = true
    · rw [if_pos hp, if_pos hp, sp_n]
      have := (pgb_t.mp hp).1
      omega
    · rw [if_neg hp, if_neg hp]
end CP
