/-! answers of the reading calls -/
section AN
/-- the table of revision or transaction x: 19 where there is none -/
def tbn (σ : SS) (x : Int32) : Nat := if 0 ≤ x then (if x ≤ nI (σ 1 0) then x.toNatClampNeg else 19) else if opb σ (tx (-1 - x)) = true then 16 + tx (-1 - x) else 19
def tI (n : Nat) : Int32 := if n = 19 then -1 else nI n
def fI (n : Nat) : Int32 := if n = 40000 then -1 else nI n
def fd (σ : SS) (x y : Int32) : Nat := if tbn σ x = 19 then 40000 else rat σ (tbn σ x) (ix y)
theorem tI_n {n : Nat} (h : n ≠ 19) : tI n = nI n := if_neg h
theorem fI_n {n : Nat} (h : n ≠ 40000) : fI n = nI n := if_neg h
theorem fI_ge {v : Nat} (h : 0 ≤ fI v) : v ≠ 40000 := by rintro rfl; exact absurd h (by decide)
theorem fI_nge {v : Nat} (hv : v < 2 ^ 31) (h : ¬ 0 ≤ fI v) : v = 40000 := by
  rcases Nat.decEq v 40000 with z | z
  · rw [fI_n z] at h
    exact absurd (nI_pos' hv) h
  · exact z
theorem fI_le {v : Nat} (hv : v < 2 ^ 31) (h : fI v ≤ 0) : v = 40000 ∨ v = 0 := by
  rcases Nat.decEq v 40000 with z | z
  · rw [fI_n z] at h
    exact Or.inr ((nI_q hv).mp h)
  · exact Or.inl z
theorem fI_nle {v : Nat} (hv : v < 2 ^ 31) (h : ¬ fI v ≤ 0) : v ≠ 40000 ∧ 0 < v := by
  have h1 : v ≠ 40000 := by rintro rfl; exact h (by decide)
  refine ⟨h1, ?_⟩
  rw [fI_n h1] at h
  rcases Nat.eq_zero_or_pos v with z | z
  · exact absurd ((nI_q hv).mpr z) h
  · exact z
theorem tI_ge {v : Nat} (h : 0 ≤ tI v) : v ≠ 19 := by rintro rfl; exact absurd h (by decide)
theorem tI_nge {v : Nat} (hv : v < 2 ^ 31) (h : ¬ 0 ≤ tI v) : v = 19 := by
  rcases Nat.decEq v 19 with z | z
  · rw [tI_n z] at h
    exact absurd (nI_pos' hv) h
  · exact z
theorem ge_of {x : Int32} (h : ¬ x < 0) : 0 ≤ x := by
  rw [Int32.le_iff_toInt_le]
  rw [Int32.lt_iff_toInt_lt] at h
  omega
theorem le_of {x y : Int32} (h : ¬ y < x) : x ≤ y := by
  rw [Int32.le_iff_toInt_le]
  rw [Int32.lt_iff_toInt_lt] at h
  omega
theorem nge_of {x : Int32} (h : x < 0) : ¬ 0 ≤ x := by
  rw [Int32.le_iff_toInt_le]
  rw [Int32.lt_iff_toInt_lt] at h
  omega
theorem nle_of {x y : Int32} (h : y < x) : ¬ x ≤ y := by
  rw [Int32.le_iff_toInt_le]
  rw [Int32.lt_iff_toInt_lt] at h
  omega
theorem tb_1 {σ : SS} {x : Int32} (hy : σ 1 0 ≤ 15) (h1 : ¬ x < 0) (h2 : ¬ nI (σ 1 0) < x) : tbn σ x ≤ 15 ∧ x = nI (tbn σ x) := by
  obtain ⟨k, hk, rfl⟩ := nI_of2b (M := nI (σ 1 0)) (n := σ 1 0) (nI_toInt (by omega)) h1 h2
  unfold tbn
  rw [if_pos (ge_of h1), if_pos (le_of h2), nI_clamp (by omega)]
  exact ⟨by omega, rfl⟩
theorem tb_2 {σ : SS} {x : Int32} (h1 : 0 ≤ x) (h2 : nI (σ 1 0) < x) : tbn σ x = 19 := by
  unfold tbn
  rw [if_pos h1, if_neg (nle_of h2)]
theorem neg3 {x : Int32} (h1 : ¬ 0 ≤ x) (h2 : ¬ x < -3) : ∃ t, t < 3 ∧ x = -1 - nI t := by
  rw [Int32.le_iff_toInt_le] at h1
  rw [Int32.lt_iff_toInt_lt] at h2
  have e0 : (0 : Int32).toInt = 0 := by decide
  have e3 : (-3 : Int32).toInt = -3 := by decide
  rw [e0] at h1
  rw [e3] at h2
  rcases (show x.toInt = -1 ∨ x.toInt = -2 ∨ x.toInt = -3 by omega) with h | h | h
  · exact ⟨0, by omega, Int32.toInt_inj.mp (h.trans (by decide))⟩
  · exact ⟨1, by omega, Int32.toInt_inj.mp (h.trans (by decide))⟩
  · exact ⟨2, by omega, Int32.toInt_inj.mp (h.trans (by decide))⟩
theorem neg_t {t : Nat} (h : t < 3) : -1 - (-1 - nI t) = nI t := by
  rcases (show t = 0 ∨ t = 1 ∨ t = 2 by omega) with rfl | rfl | rfl <;> decide
theorem neg_u {t : Nat} (h : t < 3) : nI 15 - (-1 - nI t) = nI (16 + t) := by
  rcases (show t = 0 ∨ t = 1 ∨ t = 2 by omega) with rfl | rfl | rfl <;> decide
theorem neg_l {t : Nat} (h : t < 3) : ¬ (0 : Int32) ≤ -1 - nI t := by
  rcases (show t = 0 ∨ t = 1 ∨ t = 2 by omega) with rfl | rfl | rfl <;> decide
theorem tb_4 {σ : SS} {t : Nat} (ht : t < 3) (h : σ 2 t = 0) : tbn σ (-1 - nI t) = 19 := by
  unfold tbn
  rw [if_neg (neg_l ht), neg_t ht, tx_n ht, if_neg (opb_f h)]
theorem tb_5 {σ : SS} {t : Nat} (ht : t < 3) (h : σ 2 t ≠ 0) : tbn σ (-1 - nI t) = 16 + t := by
  unfold tbn
  rw [if_neg (neg_l ht), neg_t ht, tx_n ht, if_pos (opb_t ht h)]
theorem tx_bad {x : Int32} (h : x < -3) : tx (-1 - x) = 3 := by
  apply tx_gt
  rw [Int32.lt_iff_toInt_lt] at h ⊢
  have e3 : (-3 : Int32).toInt = -3 := by decide
  have e2 : (nI 2).toInt = 2 := by decide
  have e1 : (-1 : Int32).toInt = -1 := by decide
  have hlo := Int32.le_toInt x
  rw [e3] at h
  rw [e2, Int32.toInt_sub, e1, Int.bmod_eq_of_le (by omega) (by omega)]
  omega
theorem tb_3 {σ : SS} {x : Int32} (h1 : ¬ 0 ≤ x) (h : x < -3) : tbn σ x = 19 := by
  unfold tbn
  rw [if_neg h1, tx_bad h, if_neg opb_3]
theorem tbn_le {σ : SS} (hy : σ 1 0 ≤ 15) (x : Int32) : tbn σ x ≤ 19 := by
  unfold tbn
  split
  · split
    · next h1 h2 =>
      obtain ⟨k, hk, rfl⟩ := nI_of2 (M := nI (σ 1 0)) (n := σ 1 0) (nI_toInt (by omega)) (fun z => nge_of z h1) h2
      rw [nI_clamp (by omega)]
      omega
    · omega
  · split
    · next h1 h2 =>
      obtain ⟨t, ht, e, -⟩ := opb_of h2
      rw [e, tx_n ht]
      omega
    · omega
theorem fd_N {σ : SS} (h : ∀ j, σ 0 j < 1300) (x y : Int32) : fd σ x y = 40000 ∨ fd σ x y < 1300 := by
  unfold fd
  split
  · exact Or.inl rfl
  · exact Or.inr (rat_N h)
/-- is node n a file -/
def flb (σ : SS) (n : Nat) : Bool := decide (n ≠ 40000) && decide (n ≠ 0) && decide (σ 6 n = 2)
theorem flb_1 {σ : SS} {n : Nat} (h : n = 40000 ∨ n = 0) : ¬ flb σ n = true := by rcases h with rfl | rfl <;> simp [flb]
theorem flb_2 {σ : SS} {n : Nat} (h : σ 6 n ≠ 2) : ¬ flb σ n = true := by simp [flb, h]
theorem flb_t {σ : SS} {n : Nat} (h : n ≠ 40000 ∧ 0 < n) (h2 : σ 6 n = 2) : flb σ n = true := by
  have h3 : n ≠ 0 := by omega
  simp [flb, h.1, h3, h2]
theorem flb_of {σ : SS} {n : Nat} (h : flb σ n = true) : n ≠ 40000 ∧ 0 < n ∧ σ 6 n = 2 := by
  simp only [flb, Bool.and_eq_true, decide_eq_true_eq] at h
  exact ⟨h.1.1, by omega, h.2⟩
def aKind (σ : SS) (n : Nat) : Int32 := if n = 40000 then -1 else nI (σ 6 n)
def aText (σ : SS) (n : Nat) : Int64 := if flb σ n = true then lN (σ 9 n) else -1
def aLen (σ : SS) (n : Nat) : Int32 := if flb σ n = true then nI (σ 7 n) else -1
def aLine (σ : SS) (n : Nat) : Int32 := if n = 40000 ∨ n = 0 then -1 else nI (σ 10 n)
def aCount (σ : SS) (n : Nat) : Int32 := if n = 40000 ∨ n = 0 then -1 else nI (σ 11 n)
def aBorn (σ : SS) (n : Nat) : Int32 := if (n = 40000 ∨ n = 0) ∨ 128 ≤ σ 12 n then -1 else nI (σ 12 n)
/-- the revision of an int: 16 where it is none -/
def rvn (σ : SS) (x : Int32) : Nat := if 0 ≤ x ∧ x ≤ nI (σ 1 0) then x.toNatClampNeg else 16
def aRep (σ : SS) (x y : Int32) : Int32 := if rvn σ x = 16 then -1 else if flb σ (rat σ (rvn σ x) (ix y)) = true ∧ 0 < σ 15 (rat σ (rvn σ x) (ix y)) then nI (σ 15 (rat σ (rvn σ x) (ix y)) - 1) else -1
theorem rv_1 {σ : SS} {x : Int32} (hy : σ 1 0 ≤ 15) (h1 : ¬ x < 0) (h2 : x ≤ nI (σ 1 0)) : ∃ r, r ≤ σ 1 0 ∧ x = nI r ∧ rvn σ x = r := by
  obtain ⟨k, hk, rfl⟩ := nI_of2 (M := nI (σ 1 0)) (n := σ 1 0) (nI_toInt (by omega)) h1 h2
  refine ⟨k, hk, rfl, ?_⟩
  unfold rvn
  rw [if_pos ⟨ge_of h1, h2⟩, nI_clamp (by omega)]
theorem rv_2 {σ : SS} {x : Int32} (h : x < 0) : rvn σ x = 16 := if_neg (fun z => nge_of h z.1)
theorem rv_3 {σ : SS} {x : Int32} (h : ¬ x ≤ nI (σ 1 0)) : rvn σ x = 16 := if_neg (fun z => h z.2)
def abO (σ : SS) (t : Nat) : SS := if opb σ t = true then sp σ 2 t 0 else σ
theorem abO_f {σ : SS} {t : Nat} (h : opb σ t = false) : abO σ t = σ := if_neg (by rw [h]; decide)
theorem abO_t {σ : SS} {t : Nat} (h : opb σ t = true) : abO σ t = sp σ 2 t 0 := if_pos h
end AN
