/-! texts of the class -/
section TX
theorem mx {a b : Nat} (ha : a < 2 ^ 31) (hb : b < 2 ^ 31) : (if nI a < nI b then nI b else nI a) = nI (if a < b then b else a) := by
  by_cases h : a < b
  · rw [if_pos h, if_pos ((nI_ltI ha hb).mpr h)]
  · rw [if_neg h, if_neg (fun z => h ((nI_ltI ha hb).mp z))]
theorem inc_2 (T : Nat) : nI T + Int32.ofInt 2 = nI (T + 2) := nI_add T 2
theorem and15 {m : Nat} (h : m < 2 ^ 64) : lN m &&& 15 = lN (m % 16) := by
  have e : (15 : Int64) = lN (2 ^ 4 - 1) := by decide
  rw [e, wb_mask h (by decide)]
theorem lgf_s {X n p Y m u j L : Nat} : lgf X n p Y m (u + 1) j L = lgf X n p Y m u (j + 1) (if L < pcf X n p Y m j 13 0 then pcf X n p Y m j 13 0 else L) := rfl
theorem sm_t {n m X Y : Nat} (h : n = m) (h2 : X = Y) : (decide (n = m) && decide (X = Y)) = true := by simp [h, h2]
theorem sm_1 {n m X Y : Nat} (h : n ≠ m) : ¬ (decide (n = m) && decide (X = Y)) = true := by simp [h]
theorem sm_2 {n m X Y : Nat} (h : X = Y → False) : ¬ (decide (n = m) && decide (X = Y)) = true := by
  have h : X ≠ Y := h
  simp [h]
end TX
