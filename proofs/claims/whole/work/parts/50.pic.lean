/-! the class's picture of a state -/
section PIC
def nq (na : Nat → Nat) (n : Nat) : Option Nat := if n = 0 then none else some (na n)
theorem nq_0 {na : Nat → Nat} : nq na 0 = none := rfl
theorem nq_n {na : Nat → Nat} {n : Nat} (h : 0 < n) : nq na n = some (na n) := if_neg (by omega)
theorem nq_none {na : Nat → Nat} {n : Nat} (h : nq na n = none) : n = 0 := by
  rcases Nat.eq_zero_or_pos n with z | z
  · exact z
  · rw [nq_n z] at h
    cases h
theorem nq_some {na : Nat → Nat} {n a : Nat} (h : nq na n = some a) : 0 < n ∧ a = na n := by
  rcases Nat.eq_zero_or_pos n with z | z
  · rw [z, nq_0] at h
    cases h
  · rw [nq_n z] at h
    exact ⟨z, (Option.some.inj h).symm⟩
def rowf (σ : SS) (na : Nat → Nat) (k : Nat) : Nat → Option Nat := fun j => if j < 125 then nq na (σ 0 (125 * k + j)) else none
theorem rowf_lt {σ : SS} {na : Nat → Nat} {k j : Nat} (h : j < 125) : rowf σ na k j = nq na (σ 0 (125 * k + j)) := if_pos h
theorem rowf_ge {σ : SS} {na : Nat → Nat} {k j : Nat} (h : ¬ j < 125) : rowf σ na k j = none := if_neg h
def crI (b : Nat) : Int32 := if b < 128 then nI b else -1
def srI (s : Nat) : Int32 := if s = 0 then -1 else nI ((s - 1) / 125)
def spI (s : Nat) : Int32 := if s = 0 then -1 else nI ((s - 1) % 125)
def shI (s : Nat) : Int32 := if s = 0 then -1 else nI (s - 1)
theorem crI_n {b : Nat} (h : b < 128) : crI b = nI b := if_pos h
theorem crI_m {b : Nat} (h : 128 ≤ b) : crI b = -1 := if_neg (by omega)
theorem crI_1 {b : Nat} : crI b = -1 ↔ 128 ≤ b := by
  rcases Nat.lt_or_ge b 128 with h | h
  · rw [crI_n h]
    constructor
    · intro z
      have h2 := nI_toInt (n := b) (by omega)
      rw [z] at h2
      have h3 : (-1 : Int32).toInt = -1 := by decide
      rw [h3] at h2
      omega
    · intro z
      omega
  · rw [crI_m h]
    exact ⟨fun _ => h, fun _ => rfl⟩
abbrev ndf (σ : SS) (na ta : Nat → Nat) (n : Nat) : List Value := [.int (nI (σ 10 n)), .int (bz (decide (σ 6 n = 1))), .ref (ta n), .int (nI (σ 11 n)), .int (crI (σ 12 n)), va_rf (nq na (σ 13 n)), .int (srI (σ 14 n)), .int (spI (σ 14 n)), .int (bz (decide (σ 8 n ≠ 0))), .int (shI (σ 15 n))]
abbrev txf (X z : Nat) : va_E := .inr (4, [.long (lN X), .int (nI z)])
abbrev cT (σ : SS) (ca : Nat → Nat) : List Value := [.ref (ca 1), .ref (ca 2), .ref (ca 3), .ref (ca 4), .int (nI (σ 1 0)), .int (nI (σ 5 0))]
abbrev cX (σ : SS) (ca : Nat → Nat) (j : Nat) : List Value := [.ref (ca (16 + j + 5)), .int (bz (decide (σ 2 j ≠ 0))), .int (nI (σ 3 j))]
abbrev arT (E : Ev) (ca : Nat → Nat) : va_E := .inl (E.2.1 1, 16, .inr (.inr (.inr (.inr (fun i => if i < 16 then some (ca (i + 5)) else none)))))
abbrev arX (E : Ev) (ca : Nat → Nat) : va_E := .inl (E.2.1 2, 3, .inr (.inr (.inr (.inr (fun i => if i < 3 then some (ca (i + 43)) else none)))))
abbrev arO (E : Ev) (cap n : Nat) (ra : Nat → Nat) : va_E := .inl (E.2.1 3, cap, .inr (.inr (.inr (.inr (fun i => if i < n then some (ra i) else none)))))
abbrev rpf (σ : SS) (rt : Nat → Nat) (k : Nat) : List Value := [.ref (rt k), .int (nI (σ 19 k) - nI 1), .int (nI (σ 20 k)), .int (nI (cstK σ k))]
def pO (E : Ev) (σ : SS) (ca : Nat → Nat) (M : mp_M) : Prop := M (ca 0) = some (.inr (0, cT σ ca)) ∧ M (ca 1) = some (arT E ca) ∧ M (ca 2) = some (arX E ca) ∧ M (ca 4) = some (txf 0 0) ∧ ∀ k, k < 19 → M (ca (k + 5)) = some (.inr (1, [.ref (ca (k + 24))]))
def pX (σ : SS) (ca : Nat → Nat) (M : mp_M) : Prop := ∀ j, j < 3 → M (ca (j + 43)) = some (.inr (2, cX σ ca j))
def pA (E : Ev) (σ : SS) (ca na : Nat → Nat) (M : mp_M) : Prop := ∀ k, k < 19 → M (ca (k + 24)) = some (refs E (rowf σ na k))
def pN (σ : SS) (na ta : Nat → Nat) (M : mp_M) : Prop := ∀ n, 0 < n → n ≤ σ 4 0 → M (na n) = some (.inr (3, ndf σ na ta n)) ∧ M (ta n) = some (txf (σ 9 n) (σ 7 n))
def pK1 (E : Ev) (σ : SS) (ca : Nat → Nat) (M : mp_M) (ra rt : Nat → Nat) (ea cap : Nat) (mcn : Int32) : Prop :=
  M (ca 3) = some (.inr (7, [.int mcn, .ref ea, .int (nI (σ 16 0))])) ∧ ((σ 16 0 = 0 ∧ ea = E.2.2 ∧ cap = 0) ∨ (M ea = some (arO E cap (σ 16 0) ra) ∧ 10 ≤ cap)) ∧ σ 16 0 ≤ cap ∧ cap ≤ 800 ∧ ((∀ k, k < 19 → ea ≠ ca (k + 24)) ∧ ea ≠ ca 1 ∧ ea ≠ ca 2) ∧ ∀ k, k < σ 16 0 → M (ra k) = some (.inr (5, rpf σ rt k)) ∧ M (rt k) = some (txf (σ 17 k) (σ 18 k))
def pK (E : Ev) (σ : SS) (ca : Nat → Nat) (M : mp_M) : Prop := ∃ (ra rt : Nat → Nat) (ea cap : Nat) (mcn : Int32), pK1 E σ ca M ra rt ea cap mcn
def pZ (σ : SS) : Prop := (∀ j, σ 0 j ≤ σ 4 0) ∧ (∀ n, σ 13 n ≤ σ 4 0) ∧ ∀ k q, k < 19 → q < 125 → pgb q = false → σ 0 (125 * k + q) = 0
def pJ (σ : SS) (ca na : Nat → Nat) : Prop := (∀ i j, i < 19 → j < 19 → ca (i + 24) = ca (j + 24) → i = j) ∧ (∀ i j, i < 3 → j < 3 → ca (i + 43) = ca (j + 43) → i = j) ∧ (∀ n m, 0 < n → n ≤ σ 4 0 → 0 < m → m ≤ σ 4 0 → na n = na m → n = m) ∧ (∀ k, k < 19 → ca 1 ≠ ca (k + 24) ∧ ca 2 ≠ ca (k + 24))
def PIC (E : Ev) (σ : SS) (ca na ta : Nat → Nat) (M : mp_M) : Prop := pO E σ ca M ∧ pX σ ca M ∧ pA E σ ca na M ∧ pN σ na ta M ∧ pK E σ ca M ∧ pJ σ ca na ∧ pZ σ
variable {E : Ev} {σ τ : SS} {ca na ta : Nat → Nat} {M : mp_M} {a b : Nat} {e e' : va_E}
theorem pic_o (h : PIC E σ ca na ta M) : M (ca 0) = some (.inr (0, cT σ ca)) := h.1.1
theorem pic_r (h : PIC E σ ca na ta M) : M (ca 1) = some (arT E ca) := h.1.2.1
theorem pic_x (h : PIC E σ ca na ta M) : M (ca 2) = some (arX E ca) := h.1.2.2.1
theorem pic_e (h : PIC E σ ca na ta M) : M (ca 4) = some (txf 0 0) := h.1.2.2.2.1
theorem pic_t (h : PIC E σ ca na ta M) {k : Nat} (hk : k < 19) : M (ca (k + 5)) = some (.inr (1, [.ref (ca (k + 24))])) := h.1.2.2.2.2 k hk
theorem pic_u (h : PIC E σ ca na ta M) {j : Nat} (hj : j < 3) : M (ca (16 + j + 5)) = some (.inr (1, [.ref (ca (16 + j + 24))])) := h.1.2.2.2.2 (16 + j) (by omega)
theorem pic_j (h : PIC E σ ca na ta M) {j : Nat} (hj : j < 3) : M (ca (j + 43)) = some (.inr (2, cX σ ca j)) := h.2.1 j hj
theorem pic_a (h : PIC E σ ca na ta M) {k : Nat} (hk : k < 19) : M (ca (k + 24)) = some (refs E (rowf σ na k)) := h.2.2.1 k hk
theorem pic_n (h : PIC E σ ca na ta M) {n : Nat} (h0 : 0 < n) (hn : n ≤ σ 4 0) : M (na n) = some (.inr (3, ndf σ na ta n)) := (h.2.2.2.1 n h0 hn).1
theorem pic_tx (h : PIC E σ ca na ta M) {n : Nat} (h0 : 0 < n) (hn : n ≤ σ 4 0) : M (ta n) = some (txf (σ 9 n) (σ 7 n)) := (h.2.2.2.1 n h0 hn).2
theorem pic_z (h : PIC E σ ca na ta M) : pZ σ := h.2.2.2.2.2.2
theorem rat_le (h : pZ σ) {k q : Nat} : rat σ k q ≤ σ 4 0 := by
  unfold rat
  split
  · exact h.1 _
  · exact Nat.zero_le _
theorem rat_z (h : pZ σ) {k q : Nat} (hk : k < 19) (hq : q < 125) : σ 0 (125 * k + q) = rat σ k q := by
  unfold rat
  cases hp : pgb q with
  | true => rw [if_pos rfl]
  | false => rw [if_neg (by decide)]; exact h.2.2 k q hk hq hp
theorem rat_125 {k : Nat} : rat σ k 125 = 0 := if_neg (by decide)
theorem row_n (h : pZ σ) {k q : Nat} (hk : k < 19) (hq : q < 125) : rowf σ na k q = nq na (rat σ k q) := by
  unfold rowf
  rw [if_pos hq, rat_z h hk hq]
theorem tat_row (h : pZ σ) {k : Nat} (hk : k < 19) {x : Int32} : tat (rowf σ na k) x = nq na (rat σ k (ix x)) := by
  unfold tat
  by_cases hx : ix x < 125
  · rw [if_pos hx, row_n h hk hx]
  · have := ix_le x
    rw [if_neg hx, show ix x = 125 by omega, rat_125, nq_0]
theorem pic_row_n (h : PIC E σ ca na ta M) {k : Nat} : ∀ j b, rowf σ na k j = some b → ∃ fv, M b = some (.inr (3, fv)) := by
  intro j b hb
  unfold rowf at hb
  split at hb
  · obtain ⟨h1, rfl⟩ := nq_some hb
    exact ⟨_, pic_n h h1 (h.2.2.2.2.2.2.1 _)⟩
  · cases hb
/-! what a change of one cell leaves -/
def kd : va_E → Nat
  | .inl _ => 99
  | .inr c => c.1
def avd (M : mp_M) (a : Nat) (ks : List Nat) : Prop := ∀ e, M a = some e → kd e ∉ ks
theorem av_n {ks : List Nat} (h : M a = none) : avd M a ks := fun e he => by rw [h] at he; cases he
theorem av_i {ks : List Nat} {i : Nat} {fs : List Value} (h : M a = some (.inr (i, fs))) (hi : i ∉ ks) : avd M a ks := fun e he => by
  rw [h] at he
  cases he
  exact hi
theorem av_l {ks : List Nat} {x : ClassId × vp_A} (h : M a = some (.inl x)) (hi : 99 ∉ ks) : avd M a ks := fun e he => by
  rw [h] at he
  cases he
  exact hi
theorem av_up {ks : List Nat} (h : avd M a ks) (hb : M b = some e') (hk : kd e' ∈ ks) : mp_up M a e b = some e' := by
  rw [mp_up_n]
  · exact hb
  · rintro rfl
    exact h e' hb hk
theorem pO_up (h : pO E σ ca M) (hv : avd M a [0, 1, 4]) (h1 : ca 1 ≠ a) (h2 : ca 2 ≠ a) : pO E σ ca (mp_up M a e) :=
  ⟨av_up hv h.1 (by simp [kd]), (mp_up_n h1).trans h.2.1, (mp_up_n h2).trans h.2.2.1, av_up hv h.2.2.2.1 (by simp [kd]), fun k hk => av_up hv (h.2.2.2.2 k hk) (by simp [kd])⟩
theorem pO_ar (h : pO E σ ca M) (hv : avd M a [99]) : ca 1 ≠ a ∧ ca 2 ≠ a := by
  constructor
  · rintro rfl
    exact hv _ h.2.1 (by simp [kd])
  · rintro rfl
    exact hv _ h.2.2.1 (by simp [kd])
theorem pX_up (h : pX σ ca M) (hv : avd M a [2]) : pX σ ca (mp_up M a e) := fun j hj => av_up hv (h j hj) (by simp [kd])
theorem pA_up (h : pA E σ ca na M) (hv : avd M a [99]) : pA E σ ca na (mp_up M a e) := fun j hj => av_up hv (h j hj) (by simp [kd])
theorem pN_up (h : pN σ na ta M) (hv : avd M a [3, 4]) : pN σ na ta (mp_up M a e) := fun n h0 hn => ⟨av_up hv (h n h0 hn).1 (by simp [kd]), av_up hv (h n h0 hn).2 (by simp [kd])⟩
theorem pK_up (h : pK E σ ca M) (hv : avd M a [4, 5, 7]) (h9 : (∃ k, k < 19 ∧ a = ca (k + 24)) ∨ avd M a [99]) : pK E σ ca (mp_up M a e) := by
  obtain ⟨ra, rt, ea, cap, mcn, h1, h2, h3, h4, h5, h6⟩ := h
  refine ⟨ra, rt, ea, cap, mcn, av_up hv h1 (by simp [kd]), ?_, h3, h4, h5, fun k hk => ⟨av_up hv (h6 k hk).1 (by simp [kd]), av_up hv (h6 k hk).2 (by simp [kd])⟩⟩
  rcases h2 with h2 | ⟨h2, h7⟩
  · exact Or.inl h2
  · refine Or.inr ⟨?_, h7⟩
    rcases h9 with ⟨k, hk, rfl⟩ | h9
    · exact (mp_up_n (h5.1 k hk)).trans h2
    · exact av_up h9 h2 (by simp [kd])
/-- a new cell that the picture doesn't name -/
theorem pic_fresh (h : PIC E σ ca na ta M) (ha : M a = none) : PIC E σ ca na ta (mp_up M a e) := by
  obtain ⟨h1, h2, h3, h4, h5, h6⟩ := h
  have hr := pO_ar h1 (av_n ha)
  exact ⟨pO_up h1 (av_n ha) hr.1 hr.2, pX_up h2 (av_n ha), pA_up h3 (av_n ha), pN_up h4 (av_n ha), pK_up h5 (av_n ha) (Or.inr (av_n ha)), h6⟩
/-- a change of a cell of class 6 -/
theorem pic_mrg (h : PIC E σ ca na ta M) {fs : List Value} (ha : M a = some (.inr (6, fs))) : PIC E σ ca na ta (mp_up M a e) := by
  obtain ⟨h1, h2, h3, h4, h5, h6⟩ := h
  have hr := pO_ar h1 (av_i ha (by decide))
  exact ⟨pO_up h1 (av_i ha (by decide)) hr.1 hr.2, pX_up h2 (av_i ha (by decide)), pA_up h3 (av_i ha (by decide)), pN_up h4 (av_i ha (by decide)), pK_up h5 (av_i ha (by decide)) (Or.inr (av_i ha (by decide))), h6⟩
/-! the state changes in rows that a part doesn't read -/
theorem pO_c (h : pO E σ ca M) (h1 : τ 1 0 = σ 1 0) (h5 : τ 5 0 = σ 5 0) : pO E τ ca M := by
  unfold pO cT
  rw [h1, h5]
  exact h
theorem pX_c (h : pX σ ca M) (h2 : τ 2 = σ 2) (h3 : τ 3 = σ 3) : pX τ ca M := by
  unfold pX cX
  rw [h2, h3]
  exact h
theorem rowf_c {k : Nat} (h0 : τ 0 = σ 0) : rowf τ na k = rowf σ na k := by
  unfold rowf
  rw [h0]
theorem pA_c (h : pA E σ ca na M) (h0 : τ 0 = σ 0) : pA E τ ca na M := fun k hk => by
  rw [rowf_c h0]
  exact h k hk
theorem ndf_c {n : Nat} (hr : ∀ f, 6 ≤ f → f ≤ 15 → τ f n = σ f n) : ndf τ na ta n = ndf σ na ta n := by
  unfold ndf
  rw [hr 10 (by decide) (by decide), hr 6 (by decide) (by decide), hr 11 (by decide) (by decide), hr 12 (by decide) (by decide), hr 13 (by decide) (by decide), hr 14 (by decide) (by decide), hr 8 (by decide) (by decide), hr 15 (by decide) (by decide)]
theorem pN_c (h : pN σ na ta M) (h4 : τ 4 0 = σ 4 0) (hr : ∀ f n, 6 ≤ f → f ≤ 15 → τ f n = σ f n) : pN τ na ta M := fun n h0 hn => by
  rw [ndf_c (fun f h1 h2 => hr f n h1 h2), hr 9 n (by decide) (by decide), hr 7 n (by decide) (by decide)]
  exact h n h0 (by omega)
theorem cstK_c {k : Nat} (h7 : τ 17 = σ 17) (h8 : τ 18 = σ 18) (h9 : τ 19 = σ 19) : cstK τ k = cstK σ k := by
  unfold cstK
  rw [h7, h8, h9]
theorem pK_c (h : pK E σ ca M) (hr : ∀ f, 16 ≤ f → f ≤ 20 → τ f = σ f) : pK E τ ca M := by
  obtain ⟨ra, rt, ea, cap, mcn, h1⟩ := h
  refine ⟨ra, rt, ea, cap, mcn, ?_⟩
  have e6 := hr 16 (by decide) (by decide)
  have e7 := hr 17 (by decide) (by decide)
  have e8 := hr 18 (by decide) (by decide)
  have e9 := hr 19 (by decide) (by decide)
  have e0 := hr 20 (by decide) (by decide)
  unfold pK1 rpf at h1 ⊢
  simp only [cstK_c e7 e8 e9, e6, e7, e8, e9, e0]
  exact h1
theorem pJ_c (h : pJ σ ca na) (h4 : τ 4 0 = σ 4 0) : pJ τ ca na := by
  unfold pJ at h ⊢
  rw [h4]
  exact h
theorem pZ_c (h : pZ σ) (h0 : τ 0 = σ 0) (h4 : τ 4 0 = σ 4 0) (h13 : τ 13 = σ 13) : pZ τ := by
  unfold pZ at h ⊢
  rw [h4, h0, h13]
  exact h
/-! the steps -/
/-- fields newest and lastLine -/
theorem pic_obj (h : PIC E σ ca na ta M) (hr : ∀ f, f ≠ 1 → f ≠ 5 → τ f = σ f) : PIC E τ ca na ta (mp_up M (ca 0) (.inr (0, cT τ ca))) := by
  have ho := pic_o h
  obtain ⟨h1, h2, h3, h4, h5, h6, h7⟩ := h
  have hr2 := pO_ar h1 (av_i ho (by decide))
  refine ⟨⟨mp_up_s, (mp_up_n hr2.1).trans h1.2.1, (mp_up_n hr2.2).trans h1.2.2.1, ?_, fun k hk => ?_⟩, pX_c (pX_up h2 (av_i ho (by decide))) (hr 2 (by decide) (by decide)) (hr 3 (by decide) (by decide)), pA_c (pA_up h3 (av_i ho (by decide))) (hr 0 (by decide) (by decide)), pN_c (pN_up h4 (av_i ho (by decide))) (by rw [hr 4 (by decide) (by decide)]) (fun f n h8 h9 => by rw [hr f (by omega) (by omega)]), pK_c (pK_up h5 (av_i ho (by decide)) (Or.inr (av_i ho (by decide)))) (fun f h8 h9 => hr f (by omega) (by omega)), pJ_c h6 (by rw [hr 4 (by decide) (by decide)]), pZ_c h7 (hr 0 (by decide) (by decide)) (by rw [hr 4 (by decide) (by decide)]) (hr 13 (by decide) (by decide))⟩
  · exact av_up (av_i (ks := [4]) ho (by decide)) h1.2.2.2.1 (by simp [kd])
  · exact av_up (av_i (ks := [1]) ho (by decide)) (h1.2.2.2.2 k hk) (by simp [kd])
/-- fields open and base of transaction t -/
theorem pic_txn (h : PIC E σ ca na ta M) {t : Nat} (ht : t < 3) (hr : ∀ f, f ≠ 2 → f ≠ 3 → τ f = σ f) (h2 : ∀ j, j ≠ t → τ 2 j = σ 2 j ∧ τ 3 j = σ 3 j) : PIC E τ ca na ta (mp_up M (ca (t + 43)) (.inr (2, cX τ ca t))) := by
  have ho := pic_j h ht
  obtain ⟨h1, hx, h3, h4, h5, h6, h7⟩ := h
  have hr2 := pO_ar h1 (av_i ho (by decide))
  refine ⟨pO_c (pO_up h1 (av_i ho (by decide)) hr2.1 hr2.2) (by rw [hr 1 (by decide) (by decide)]) (by rw [hr 5 (by decide) (by decide)]), fun j hj => ?_, pA_c (pA_up h3 (av_i ho (by decide))) (hr 0 (by decide) (by decide)), pN_c (pN_up h4 (av_i ho (by decide))) (by rw [hr 4 (by decide) (by decide)]) (fun f n h8 h9 => by rw [hr f (by omega) (by omega)]), pK_c (pK_up h5 (av_i ho (by decide)) (Or.inr (av_i ho (by decide)))) (fun f h8 h9 => hr f (by omega) (by omega)), pJ_c h6 (by rw [hr 4 (by decide) (by decide)]), pZ_c h7 (hr 0 (by decide) (by decide)) (by rw [hr 4 (by decide) (by decide)]) (hr 13 (by decide) (by decide))⟩
  by_cases e : j = t
  · subst e
    exact mp_up_s
  · rw [mp_up_n (fun z => e (h6.2.1 j t hj ht z)), hx j hj]
    unfold cX
    rw [(h2 j e).1, (h2 j e).2]
/-- the row of table k -/
theorem pic_row (h : PIC E σ ca na ta M) {k : Nat} {f : Nat → Option Nat} (hk : k < 19) (hr : ∀ f, f ≠ 0 → τ f = σ f) (h2 : ∀ i, i < 19 → i ≠ k → ∀ j, j < 125 → τ 0 (125 * i + j) = σ 0 (125 * i + j)) (hf : rowf τ na k = f) (hz : pZ τ) : PIC E τ ca na ta (mp_up M (ca (k + 24)) (refs E f)) := by
  have ho := pic_a h hk
  obtain ⟨h1, hx, h3, h4, h5, h6, h7⟩ := h
  refine ⟨pO_c (pO_up h1 (av_l ho (by decide)) (h6.2.2.2 k hk).1 (h6.2.2.2 k hk).2) (by rw [hr 1 (by decide)]) (by rw [hr 5 (by decide)]), pX_c (pX_up hx (av_l ho (by decide))) (hr 2 (by decide)) (hr 3 (by decide)), fun i hi => ?_, pN_c (pN_up h4 (av_l ho (by decide))) (by rw [hr 4 (by decide)]) (fun f n h8 h9 => by rw [hr f (by omega)]), pK_c (pK_up h5 (av_l ho (by decide)) (Or.inl ⟨k, hk, rfl⟩)) (fun f h8 h9 => hr f (by omega)), pJ_c h6 (by rw [hr 4 (by decide)]), hz⟩
  by_cases e : i = k
  · subst e
    rw [hf]
    exact mp_up_s
  · rw [mp_up_n (fun z => e (h6.1 i k hi hk z)), h3 i hi]
    have : rowf τ na i = rowf σ na i := by
      funext j
      unfold rowf
      split
      · next hj => rw [h2 i hi e j hj]
      · rfl
    rw [this]
/-- the fields of node n, all but its text -/
theorem pic_nod (h : PIC E σ ca na ta M) {n : Nat} (h0 : 0 < n) (hn : n ≤ σ 4 0) (hr : ∀ f, f < 6 ∨ 15 < f ∨ f = 7 ∨ f = 9 → τ f = σ f) (h2 : ∀ f j, j ≠ n → τ f j = σ f j) (h13 : τ 13 n ≤ σ 4 0) : PIC E τ ca na ta (mp_up M (na n) (.inr (3, ndf τ na ta n))) := by
  have ho := pic_n h h0 hn
  obtain ⟨h1, hx, h3, h4, h5, h6, h7⟩ := h
  have hr2 := pO_ar h1 (av_i ho (by decide))
  have e4 : τ 4 0 = σ 4 0 := by rw [hr 4 (by decide)]
  refine ⟨pO_c (pO_up h1 (av_i ho (by decide)) hr2.1 hr2.2) (by rw [hr 1 (by decide)]) (by rw [hr 5 (by decide)]), pX_c (pX_up hx (av_i ho (by decide))) (hr 2 (by decide)) (hr 3 (by decide)), pA_c (pA_up h3 (av_i ho (by decide))) (hr 0 (by decide)), fun m m0 hm => ?_, pK_c (pK_up h5 (av_i ho (by decide)) (Or.inr (av_i ho (by decide)))) (fun f h8 h9 => hr f (by omega)), pJ_c h6 e4, ⟨?_, fun j => ?_, ?_⟩⟩
  · rw [e4] at hm
    constructor
    · by_cases e : m = n
      · subst e
        exact mp_up_s
      · rw [mp_up_n (fun z => e (h6.2.2.1 m n m0 hm h0 hn z)), ndf_c (fun f _ _ => h2 f m e)]
        exact (h4 m m0 hm).1
    · rw [hr 9 (by decide), hr 7 (by decide)]
      exact av_up (av_i (ks := [4]) ho (by decide)) (h4 m m0 hm).2 (by simp [kd])
  · rw [hr 0 (by decide), e4]
    exact h7.1
  · rw [e4]
    by_cases e : j = n
    · subst e
      exact h13
    · rw [h2 13 j e]
      exact h7.2.1 j
  · rw [hr 0 (by decide)]
    exact h7.2.2
/-- node n gets the text at b -/
theorem pic_wrt (h : PIC E σ ca na ta M) {n b : Nat} (h0 : 0 < n) (hn : n ≤ σ 4 0) (hr : ∀ f, f ≠ 7 → f ≠ 8 → f ≠ 9 → τ f = σ f) (h2 : ∀ f j, j ≠ n → τ f j = σ f j) (hb : M b = some (txf (τ 9 n) (τ 7 n))) : PIC E τ ca na (va_up ta n b) (mp_up M (na n) (.inr (3, ndf τ na (va_up ta n b) n))) := by
  have ho := pic_n h h0 hn
  obtain ⟨h1, hx, h3, h4, h5, h6, h7⟩ := h
  have hr2 := pO_ar h1 (av_i ho (by decide))
  have g : ∀ f, f ≠ 7 → f ≠ 8 → f ≠ 9 → τ f = σ f := hr
  have e4 : τ 4 0 = σ 4 0 := by rw [hr 4 (by decide) (by decide) (by decide)]
  refine ⟨pO_c (pO_up h1 (av_i ho (by decide)) hr2.1 hr2.2) (by rw [hr 1 (by decide) (by decide) (by decide)]) (by rw [hr 5 (by decide) (by decide) (by decide)]), pX_c (pX_up hx (av_i ho (by decide))) (hr 2 (by decide) (by decide) (by decide)) (hr 3 (by decide) (by decide) (by decide)), pA_c (pA_up h3 (av_i ho (by decide))) (hr 0 (by decide) (by decide) (by decide)), fun m m0 hm => ?_, pK_c (pK_up h5 (av_i ho (by decide)) (Or.inr (av_i ho (by decide)))) (fun f h8 h9 => hr f (by omega) (by omega) (by omega)), pJ_c h6 e4, pZ_c h7 (hr 0 (by decide) (by decide) (by decide)) e4 (hr 13 (by decide) (by decide) (by decide))⟩
  rw [e4] at hm
  by_cases e : m = n
  · subst e
    refine ⟨mp_up_s, ?_⟩
    have : va_up ta m b m = b := by simp [va_up]
    rw [this]
    exact av_up (av_i (ks := [4]) ho (by decide)) hb (by simp [kd])
  · have et : va_up ta n b m = ta m := by simp [va_up, e]
    have en : ndf τ na (va_up ta n b) m = ndf σ na ta m := by
      rw [ndf_c (σ := σ) (fun f _ _ => h2 f m e)]
      unfold ndf
      rw [et]
    rw [en, et, h2 9 m e, h2 7 m e]
    exact ⟨(mp_up_n (fun z => e (h6.2.2.1 m n m0 hm h0 hn z))).trans (h4 m m0 hm).1, av_up (av_i (ks := [4]) ho (by decide)) (h4 m m0 hm).2 (by simp [kd])⟩
/-- a new node at q, with the text at b -/
theorem pic_new (h : PIC E σ ca na ta M) {m q b : Nat} (hq : M q = none) (hm : σ 4 0 + 1 = m) (e4 : τ 4 0 = m) (hr : ∀ f, f ≠ 4 → f < 6 ∨ 15 < f → τ f = σ f) (h2 : ∀ f j, 6 ≤ f → f ≤ 15 → j ≠ m → τ f j = σ f j) (h13 : τ 13 m ≤ σ 4 0) (hb : M b = some (txf (τ 9 m) (τ 7 m))) : PIC E τ ca (va_up na m q) (va_up ta m b) (mp_up M q (.inr (3, ndf τ na (va_up ta m b) m))) := by
  obtain ⟨h1, hx, h3, h4, h5, h6, h7⟩ := h
  have hr2 := pO_ar h1 (av_n hq)
  have nqe : ∀ n, n ≤ σ 4 0 → nq (va_up na m q) n = nq na n := by
    intro n hn
    unfold nq
    have : va_up na m q n = na n := by
      have : n ≠ m := by omega
      simp [va_up, this]
    rw [this]
  have e0 : τ 0 = σ 0 := hr 0 (by decide) (by decide)
  refine ⟨pO_c (pO_up h1 (av_n hq) hr2.1 hr2.2) (by rw [hr 1 (by decide) (by decide)]) (by rw [hr 5 (by decide) (by decide)]), pX_c (pX_up hx (av_n hq)) (hr 2 (by decide) (by decide)) (hr 3 (by decide) (by decide)), fun k hk => ?_, fun n n0 hn => ?_, pK_c (pK_up h5 (av_n hq) (Or.inr (av_n hq))) (fun f h8 h9 => hr f (by omega) (by omega)), ⟨h6.1, h6.2.1, fun i j i0 hi j0 hj hij => ?_, h6.2.2.2⟩, ⟨fun j => ?_, fun j => ?_, ?_⟩⟩
  · have : rowf τ (va_up na m q) k = rowf σ na k := by
      funext j
      unfold rowf
      rw [e0]
      split
      · exact nqe _ (h7.1 _)
      · rfl
    rw [this]
    exact (mp_up_n (ne_of (h3 k hk) hq)).trans (h3 k hk)
  · rw [e4] at hn
    by_cases e : n = m
    · subst e
      have t1 : va_up na n q n = q := by simp [va_up]
      have t2 : va_up ta n b n = b := by simp [va_up]
      rw [t1, t2]
      refine ⟨?_, (mp_up_n (ne_of hb hq)).trans hb⟩
      rw [mp_up_s]
      have hp : va_rf (nq (va_up na n q) (τ 13 n)) = va_rf (nq na (τ 13 n)) := by rw [nqe _ h13]
      have hn : ndf τ (va_up na n q) (va_up ta n b) n = ndf τ na (va_up ta n b) n := by
        unfold ndf
        rw [hp]
      rw [hn]
    · have t1 : va_up na m q n = na n := by simp [va_up, e]
      have t2 : va_up ta m b n = ta n := by simp [va_up, e]
      have hn' : n ≤ σ 4 0 := by omega
      have en : ndf τ (va_up na m q) (va_up ta m b) n = ndf σ na ta n := by
        rw [ndf_c (σ := σ) (fun f g1 g2 => h2 f n g1 g2 e)]
        unfold ndf
        rw [t2, nqe _ (h7.2.1 n)]
      rw [t1, t2, en, h2 9 n (by decide) (by decide) e, h2 7 n (by decide) (by decide) e]
      exact ⟨(mp_up_n (ne_of (h4 n n0 hn').1 hq)).trans (h4 n n0 hn').1, (mp_up_n (ne_of (h4 n n0 hn').2 hq)).trans (h4 n n0 hn').2⟩
  · rw [e4] at hi hj
    by_cases ei : i = m
    · by_cases ej : j = m
      · omega
      · exfalso
        have t1 : va_up na m q i = q := by simp [va_up, ei]
        have t2 : va_up na m q j = na j := by simp [va_up, ej]
        rw [t1, t2] at hij
        have := (h4 j j0 (by omega)).1
        rw [← hij, hq] at this
        cases this
    · by_cases ej : j = m
      · exfalso
        have t1 : va_up na m q i = na i := by simp [va_up, ei]
        have t2 : va_up na m q j = q := by simp [va_up, ej]
        rw [t1, t2] at hij
        have := (h4 i i0 (by omega)).1
        rw [hij, hq] at this
        cases this
      · have t1 : va_up na m q i = na i := by simp [va_up, ei]
        have t2 : va_up na m q j = na j := by simp [va_up, ej]
        rw [t1, t2] at hij
        exact h6.2.2.1 i j i0 (by omega) j0 (by omega) hij
  · rw [e0, e4]
    have := h7.1 j
    omega
  · rw [e4]
    by_cases e : j = m
    · subst e
      omega
    · rw [h2 13 j (by decide) (by decide) e]
      have := h7.2.1 j
      omega
  · rw [e0]
    exact h7.2.2
/-! rows of the tables, as the class's functions -/
theorem pZ_row (h : pZ σ) (hr : ∀ f, f ≠ 0 → τ f = σ f) (h1 : ∀ j, τ 0 j = σ 0 j ∨ τ 0 j ≤ σ 4 0) (h2 : ∀ k q, k < 19 → q < 125 → pgb q = false → τ 0 (125 * k + q) = 0) : pZ τ := by
  refine ⟨fun j => ?_, ?_, h2⟩
  · rw [hr 4 (by decide)]
    rcases h1 j with z | z
    · rw [z]; exact h.1 j
    · exact z
  · rw [hr 4 (by decide), hr 13 (by decide)]
    exact h.2.1
theorem plc_at {t q n f j : Nat} : plc σ t q n f j = if f = 0 ∧ j = 2000 + 125 * t + q then n else σ f j := sp_at
theorem plc_o {t q n f : Nat} (h : f ≠ 0) : plc σ t q n f = σ f := sp_o h
theorem row_plc {t q n : Nat} (hq : q < 125) : rowf (plc σ t q n) na (16 + t) = va_up (rowf σ na (16 + t)) q (nq na n) := by
  funext j
  show _ = if j = q then nq na n else rowf σ na (16 + t) j
  by_cases hj : j < 125
  · rw [rowf_lt hj, rowf_lt hj, plc_at]
    by_cases e : j = q
    · rw [if_pos e, if_pos ⟨rfl, by omega⟩]
    · rw [if_neg e, if_neg (by omega)]
  · rw [rowf_ge hj, rowf_ge hj, if_neg (by omega)]
theorem pZ_plc (h : pZ σ) {t q n : Nat} (ht : t < 3) (hq : pgb q = true) (hn : n ≤ σ 4 0) : pZ (plc σ t q n) := by
  refine pZ_row h (fun f hf => plc_o hf) (fun j => ?_) (fun k w hk hw hp => ?_)
  · rw [plc_at]
    split
    · exact Or.inr hn
    · exact Or.inl rfl
  · rw [plc_at, if_neg]
    · exact h.2.2 k w hk hw hp
    · rintro ⟨-, z⟩
      have hq' := (pgb_t.mp hq).1
      have : w = q := by omega
      rw [this, hq] at hp
      cases hp
theorem pic_plc (h : PIC E σ ca na ta M) {t q n : Nat} {f : Nat → Option Nat} (ht : t < 3) (hq : pgb q = true) (hn : n ≤ σ 4 0) (hf : va_up (rowf σ na (16 + t)) q (nq na n) = f) : PIC E (plc σ t q n) ca na ta (mp_up M (ca (16 + t + 24)) (refs E f)) := by
  have hq' := (pgb_t.mp hq).1
  refine pic_row h (by omega) (fun f hf => plc_o hf) (fun i hi hik j hj => ?_) (by rw [row_plc hq']; exact hf) (pZ_plc (pic_z h) ht hq hn)
  rw [plc_at, if_neg (by omega)]
theorem row_fil {x y : Nat} : rowf (fil σ x y 125) na x = trg (rowf σ na x) (rowf σ na y) 0 125 := by
  funext j
  show _ = if j < 125 ∧ pun j 0 = true then rowf σ na y j else rowf σ na x j
  by_cases hj : j < 125
  · have hp : pun j 0 = true := beq_iff_eq.mpr (Nat.mod_one j)
    rw [if_pos ⟨hj, hp⟩, rowf_lt hj, rowf_lt hj]
    show nq na (if 125 * x ≤ 125 * x + j ∧ 125 * x + j < 125 * x + 125 then σ 0 (125 * x + j - 125 * x + 125 * y) else σ 0 (125 * x + j)) = _
    rw [if_pos (by omega), show 125 * x + j - 125 * x + 125 * y = 125 * y + j by omega]
  · rw [if_neg (fun z => hj z.1), rowf_ge hj, rowf_ge hj]
theorem fil_o {x y i f : Nat} (h : f ≠ 0) : fil σ x y i f = σ f := if_neg h
theorem pZ_fil (h : pZ σ) {x y : Nat} (hx : x < 19) (hy : y < 19) : pZ (fil σ x y 125) := by
  refine pZ_row h (fun f hf => fil_o hf) (fun j => ?_) (fun k w hk hw hp => ?_)
  · unfold fil upf
    rw [if_pos rfl]
    split
    · exact Or.inr (h.1 _)
    · exact Or.inl rfl
  · unfold fil upf
    rw [if_pos rfl]
    split
    · next hc =>
      have : 125 * k + w - 125 * x + 125 * y = 125 * y + w := by omega
      rw [this]
      exact h.2.2 y w hy hw hp
    · exact h.2.2 k w hk hw hp
theorem pic_fil (h : PIC E σ ca na ta M) {x y : Nat} (hx : x < 19) (hy : y < 19) : PIC E (fil σ x y 125) ca na ta (mp_up M (ca (x + 24)) (refs E (trg (rowf σ na x) (rowf σ na y) 0 125))) := by
  refine pic_row h hx (fun f hf => fil_o hf) (fun i hi hik j hj => ?_) row_fil (pZ_fil (pic_z h) hx hy)
  unfold fil upf
  rw [if_pos rfl, if_neg (by omega)]
theorem clr_o {t q i f : Nat} (h : f ≠ 0) : clr σ t q i f = σ f := if_neg h
theorem clr_at {t q j : Nat} : clr σ t q 125 0 j = if 2000 + 125 * t ≤ j ∧ j < 2000 + 125 * t + 125 ∧ pun (j - (2000 + 125 * t)) q = true then 0 else σ 0 j := rfl
theorem fil_at {x y j : Nat} : fil σ x y 125 0 j = if 125 * x ≤ j ∧ j < 125 * x + 125 then σ 0 (j - 125 * x + 125 * y) else σ 0 j := rfl
theorem row_clr {t q : Nat} : rowf (clr σ t q 125) na (16 + t) = trg (rowf σ na (16 + t)) (fun _ => none) q 125 := by
  funext j
  show _ = if j < 125 ∧ pun j q = true then none else rowf σ na (16 + t) j
  by_cases hj : j < 125
  · rw [rowf_lt hj, rowf_lt hj, clr_at, show 125 * (16 + t) + j - (2000 + 125 * t) = j by omega]
    by_cases hp : pun j q = true
    · rw [if_pos ⟨by omega, by omega, hp⟩, if_pos ⟨hj, hp⟩, nq_0]
    · rw [if_neg (fun z => hp z.2.2), if_neg (fun z => hp z.2)]
  · rw [rowf_ge hj, rowf_ge hj, if_neg (fun z => hj z.1)]
theorem pZ_clr (h : pZ σ) {t q : Nat} : pZ (clr σ t q 125) := by
  refine pZ_row h (fun f hf => clr_o hf) (fun j => ?_) (fun k w hk hw hp => ?_)
  · unfold clr upf
    rw [if_pos rfl]
    split
    · exact Or.inr (Nat.zero_le _)
    · exact Or.inl rfl
  · unfold clr upf
    rw [if_pos rfl]
    split
    · rfl
    · exact h.2.2 k w hk hw hp
theorem pic_clr (h : PIC E σ ca na ta M) {t q : Nat} (ht : t < 3) : PIC E (clr σ t q 125) ca na ta (mp_up M (ca (16 + t + 24)) (refs E (trg (rowf σ na (16 + t)) (fun _ => none) q 125))) := by
  refine pic_row h (by omega) (fun f hf => clr_o hf) (fun i hi hik j hj => ?_) row_clr (pZ_clr (pic_z h))
  unfold clr upf
  rw [if_pos rfl, if_neg (by omega)]
theorem tkn_o {t q i f : Nat} (h : f ≠ 0) : tkn σ t q i f = σ f := if_neg h
theorem tkn_at {t q j : Nat} : tkn σ t q 125 0 j = if 2000 + 125 * t ≤ j ∧ j < 2000 + 125 * t + 125 ∧ (pgb (j - (2000 + 125 * t)) && pun (j - (2000 + 125 * t)) q) = true then σ 0 (125 * σ 1 0 + (j - (2000 + 125 * t))) else σ 0 j := rfl
theorem pZ_tkn (h : pZ σ) {t q : Nat} (hy : σ 1 0 ≤ 15) : pZ (tkn σ t q 125) := by
  refine pZ_row h (fun f hf => tkn_o hf) (fun j => ?_) (fun k w hk hw hp => ?_)
  · rw [tkn_at]
    split
    · exact Or.inr (h.1 _)
    · exact Or.inl rfl
  · rw [tkn_at]
    split
    · next hc =>
      have e : 125 * k + w - (2000 + 125 * t) = w := by omega
      rw [e]
      exact h.2.2 (σ 1 0) w (by omega) hw hp
    · exact h.2.2 k w hk hw hp
theorem row_tkn (h : pZ σ) {t q : Nat} (ht : t < 3) (hy : σ 1 0 ≤ 15) : rowf (tkn σ t q 125) na (16 + t) = trg (rowf σ na (16 + t)) (rowf σ na (σ 1 0)) q 125 := by
  funext j
  show _ = if j < 125 ∧ pun j q = true then rowf σ na (σ 1 0) j else rowf σ na (16 + t) j
  by_cases hj : j < 125
  · rw [rowf_lt hj, rowf_lt hj, rowf_lt hj, tkn_at, show 125 * (16 + t) + j - (2000 + 125 * t) = j by omega]
    by_cases hp : pun j q = true
    · rw [if_pos (show j < 125 ∧ pun j q = true from ⟨hj, hp⟩)]
      cases hg : pgb j with
      | true => rw [if_pos ⟨by omega, by omega, by rw [hp]; rfl⟩]
      | false => rw [if_neg (fun z => by have := z.2.2; simp at this), h.2.2 (16 + t) j (by omega) hj hg, h.2.2 (σ 1 0) j (by omega) hj hg]
    · rw [if_neg (show ¬ (j < 125 ∧ pun j q = true) from fun z => hp z.2), if_neg (fun z => hp (by have := z.2.2; simp only [Bool.and_eq_true] at this; exact this.2))]
  · rw [rowf_ge hj, if_neg (fun z => hj z.1), rowf_ge hj]
theorem pic_tkn (h : PIC E σ ca na ta M) {t q : Nat} (ht : t < 3) (hy : σ 1 0 ≤ 15) : PIC E (tkn σ t q 125) ca na ta (mp_up M (ca (16 + t + 24)) (refs E (trg (rowf σ na (16 + t)) (rowf σ na (σ 1 0)) q 125))) := by
  refine pic_row h (by omega) (fun f hf => tkn_o hf) (fun i hi hik j hj => ?_) (row_tkn (pic_z h) ht hy) (pZ_tkn (pic_z h) hy)
  rw [tkn_at, if_neg (by omega)]
/-! a node behind another -/
theorem nod1_4 {t w old : Nat} : nod1 σ t w old 4 0 = σ 4 0 + 1 := by simp [nod1, sp_at]
theorem nod1_r {t w old f : Nat} (h4 : f ≠ 4) (h : f < 6 ∨ 15 < f) : nod1 σ t w old f = σ f := by
  unfold nod1
  rw [sp_o (by omega), sp_o (by omega), sp_o (by omega), sp_o (by omega), sp_o (by omega), sp_o (by omega), sp_o (by omega), sp_o (by omega), sp_o (by omega)]
theorem nod1_n {t w old f j : Nat} (h6 : 6 ≤ f) (hj : j ≠ σ 4 0 + 1) : nod1 σ t w old f j = σ f j := by
  unfold nod1
  simp only [sp_at, hj, and_false, if_false]
  rw [if_neg (by omega)]
theorem nod0_4 {t w : Nat} : nod0 σ t w 4 0 = σ 4 0 + 1 := by simp [nod0, sp_at]
theorem nod0_r {t w f : Nat} (h4 : f ≠ 4) (h : f < 6 ∨ 15 < f) : nod0 σ t w f = σ f := by
  unfold nod0
  rw [sp_o (by omega), sp_o (by omega), sp_o (by omega), sp_o (by omega), sp_o (by omega), sp_o (by omega), sp_o (by omega), sp_o (by omega), sp_o (by omega)]
theorem nod0_n {t w f j : Nat} (h6 : 6 ≤ f) (hj : j ≠ σ 4 0 + 1) : nod0 σ t w f j = σ f j := by
  unfold nod0
  simp only [sp_at, hj, and_false, if_false]
  rw [if_neg (by omega)]
end PIC
