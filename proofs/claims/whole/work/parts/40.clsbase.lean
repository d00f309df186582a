/-! rows for the class's cells -/
section CB
theorem mp_up_up {M : mp_M} {a : Nat} {e1 e2 : va_E} : mp_up (mp_up M a e1) a e2 = mp_up M a e2 := by
  funext j
  unfold mp_up
  split <;> rfl
theorem put_he {D : va_G} {cl : List vw_C} {A : Nat → Prop} {H0 H : Heap} {M : mp_M} {a : Nat} {e : va_E} {locs : List Loc} (_ : mw D cl A H0 (mp_up M a e) H locs) : mp_up M a e a = some e := mp_up_s
theorem ne_of {M : mp_M} {a b : Nat} {e : va_E} (h1 : M a = some e) (h2 : M b = none) : a ≠ b := by
  rintro rfl
  rw [h2] at h1
  cases h1
theorem fit_bz {b : Bool} : fits .boolean (.int (bz b)) = true := by cases b <;> rfl
/-- what a tree's row gives at an int -/
def tat (f : Nat → Option Nat) (x : Int32) : Option Nat := if ix x < 125 then f (ix x) else none
theorem tat_n {f : Nat → Option Nat} {k : Nat} (h : k < 125) : tat f (nI k) = f k := by
  unfold tat
  rw [ix_n h, if_pos h]
theorem tat_b {f : Nat → Option Nat} {x : Int32} (h : ix x = 125) : tat f x = none := by
  unfold tat
  rw [h, if_neg (by decide)]
abbrev refs (E : Ev) (f : Nat → Option Nat) : va_E := .inl (E.2.1 0, 125, .inr (.inr (.inr (.inr f))))
theorem va_up_self2 {f : Nat → Option Nat} {k : Nat} : va_up f k (f k) = f := by
  funext j
  unfold va_up
  split
  · next h => rw [h]
  · rfl
/-- of the first i places those at and below q are v's -/
def trg (f v : Nat → Option Nat) (q i : Nat) : Nat → Option Nat := fun j => if j < i ∧ pun j q = true then v j else f j
theorem trg_0 {f v : Nat → Option Nat} {q : Nat} : trg f v q 0 = f := by
  funext j
  unfold trg
  rw [if_neg (by omega)]
theorem trg_t {f v : Nat → Option Nat} {q i : Nat} (h : pun i q = true) : va_up (trg f v q i) i (v i) = trg f v q (i + 1) := by
  funext j
  unfold va_up trg
  by_cases hj : j = i
  · subst hj
    rw [if_pos rfl, if_pos ⟨by omega, h⟩]
  · rw [if_neg hj]
    by_cases h2 : j < i ∧ pun j q = true
    · rw [if_pos h2, if_pos ⟨by omega, h2.2⟩]
    · rw [if_neg h2, if_neg (fun z => h2 ⟨by omega, z.2⟩)]
theorem trg_f {f v : Nat → Option Nat} {q i : Nat} (h : pun i q = false) : trg f v q i = trg f v q (i + 1) := by
  funext j
  unfold trg
  by_cases h2 : j < i ∧ pun j q = true
  · rw [if_pos h2, if_pos ⟨by omega, h2.2⟩]
  · rw [if_neg h2, if_neg]
    rintro ⟨z1, z2⟩
    by_cases hj : j = i
    · subst hj
      rw [h] at z2
      cases z2
    · exact h2 ⟨by omega, z2⟩
theorem nI_of3b {x M : Int32} {n : Nat} (hM : M.toInt = n) (h : ¬ x < 0) (h5 : ¬ M ≤ x) : ∃ j : Nat, j < n ∧ x = nI j := by
  refine nI_of3 hM h ?_
  rw [Int32.lt_iff_toInt_lt]
  rw [Int32.le_iff_toInt_le] at h5
  omega
end CB
