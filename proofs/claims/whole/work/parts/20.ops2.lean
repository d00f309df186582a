/-! begin, remove, write as functions of the state -/
section OP2
def bgb (σ : SS) (t : Nat) : Bool := decide (t < 3) && decide (σ 2 t = 0)
theorem bgb_3 {σ : SS} : ¬ bgb σ 3 = true := by simp [bgb]
theorem bgb_f {σ : SS} {t : Nat} (h : σ 2 t ≠ 0) : ¬ bgb σ t = true := by simp [bgb, h]
theorem bgb_t {σ : SS} {t : Nat} (ht : t < 3) (h : σ 2 t = 0) : bgb σ t = true := by simp [bgb, h, ht]
def bgO (σ : SS) (t : Nat) : SS := if bgb σ t = true then fil (sp (sp σ 2 t 1) 3 t (σ 1 0)) (16 + t) (σ 1 0) 125 else σ
theorem bgO_f {σ : SS} {t : Nat} (h : ¬ bgb σ t = true) : bgO σ t = σ := if_neg h
theorem bgO_t {σ : SS} {t : Nat} (h : bgb σ t = true) : bgO σ t = fil (sp (sp σ 2 t 1) 3 t (σ 1 0)) (16 + t) (σ 1 0) 125 := if_pos h
/-- of the first i places of transaction t those at and below q are empty -/
def clr (σ : SS) (t q i : Nat) : SS := upf σ 0 (fun j => if 2000 + 125 * t ≤ j ∧ j < 2000 + 125 * t + i ∧ pun (j - (2000 + 125 * t)) q = true then 0 else σ 0 j)
theorem clr_0 {σ : SS} {t q : Nat} : clr σ t q 0 = σ := by
  funext f j
  unfold clr upf
  by_cases h : f = 0
  · subst h
    rw [if_pos rfl, if_neg (by omega)]
  · rw [if_neg h]
theorem clr_t {σ : SS} {t q i : Nat} (h : pun i q = true) : plc (clr σ t q i) t i 0 = clr σ t q (i + 1) := by
  funext f j
  unfold plc
  rw [sp_at]
  by_cases hf : f = 0
  · subst hf
    simp only [clr, upf, if_true, true_and]
    by_cases hj : j = 2000 + 125 * t + i
    · subst hj
      rw [if_pos rfl, if_pos ⟨by omega, by omega, by rw [show 2000 + 125 * t + i - (2000 + 125 * t) = i by omega]; exact h⟩]
    · rw [if_neg hj]
      by_cases h2 : 2000 + 125 * t ≤ j ∧ j < 2000 + 125 * t + i ∧ pun (j - (2000 + 125 * t)) q = true
      · rw [if_pos h2, if_pos ⟨h2.1, by omega, h2.2.2⟩]
      · rw [if_neg h2, if_neg (fun z => h2 ⟨z.1, by omega, z.2.2⟩)]
  · rw [if_neg (by omega)]
    simp only [clr, upf, if_neg hf]
theorem clr_f {σ : SS} {t q i : Nat} (h : pun i q = false) : clr σ t q i = clr σ t q (i + 1) := by
  funext f j
  by_cases hf : f = 0
  · subst hf
    simp only [clr, upf, if_true]
    by_cases h2 : 2000 + 125 * t ≤ j ∧ j < 2000 + 125 * t + i ∧ pun (j - (2000 + 125 * t)) q = true
    · rw [if_pos h2, if_pos ⟨h2.1, by omega, h2.2.2⟩]
    · rw [if_neg h2, if_neg]
      rintro ⟨z1, z2, z3⟩
      by_cases hj : j = 2000 + 125 * t + i
      · subst hj
        rw [show 2000 + 125 * t + i - (2000 + 125 * t) = i by omega, h] at z3
        cases z3
      · exact h2 ⟨z1, by omega, z3⟩
  · simp only [clr, upf, if_neg hf]
theorem rB_clr {σ : SS} {t q i : Nat} (h : rB σ) : rB (clr σ t q i) := by
  intro f j h1 h2
  unfold clr upf
  split
  · show (if _ then 0 else σ 0 j) < 32768
    split
    · omega
    · exact h _ _ (by decide) (by decide)
  · exact h f j h1 h2
theorem rat_good {σ : SS} {k p : Nat} (h : rat σ k p ≠ 0) : pgb p = true := by
  unfold rat at h
  by_cases hp : pgb p = true
  · exact hp
  · rw [if_neg hp] at h
    exact absurd rfl h
def rvb (σ : SS) (t q : Nat) : Bool := opb σ t && decide (q ≠ 0) && decide (rat σ (16 + t) q ≠ 0)
theorem rvb_1 {σ : SS} {t q : Nat} (h : opb σ t = false) : ¬ rvb σ t q = true := by simp [rvb, h]
theorem rvb_2 {σ : SS} {t q : Nat} (h : q = 0) : ¬ rvb σ t q = true := by simp [rvb, h]
theorem rvb_3 {σ : SS} {t q : Nat} (h : rat σ (16 + t) q = 0) : ¬ rvb σ t q = true := by simp [rvb, h]
theorem rvb_t {σ : SS} {t q : Nat} (h : opb σ t = true) (h2 : q ≠ 0) (h3 : rat σ (16 + t) q ≠ 0) : rvb σ t q = true := by simp [rvb, h, h2, h3]
def rmO (σ : SS) (t q : Nat) : SS := if rvb σ t q = true then tch (pd (pp q)) (clr σ t q 125) t (pp q) else σ
theorem rmO_f {σ : SS} {t q : Nat} (h : ¬ rvb σ t q = true) : rmO σ t q = σ := if_neg h
theorem rmO_t {σ : SS} {t q : Nat} (h : rvb σ t q = true) : rmO σ t q = tch (pd (pp q)) (clr σ t q 125) t (pp q) := if_pos h
theorem ix_0 : ix 0 = 0 := ix_n (k := 0) (by decide)
/-- the number of digits of a text: 13 where the int is none -/
def zn (x : Int32) : Nat := if 0 ≤ x ∧ x ≤ nI 12 then x.toNatClampNeg else 13
theorem zn_n {k : Nat} (h : k < 13) : zn (nI k) = k := by
  unfold zn
  rw [if_pos ⟨nI_pos' (by omega), nI_le (by omega) (by decide)⟩, nI_clamp (by omega)]
theorem zn_lt {x : Int32} (h : x < 0) : zn x = 13 := if_neg (fun z => nge_of h z.1)
theorem zn_gt {x : Int32} (h : nI 12 < x) : zn x = 13 := if_neg (fun z => nle_of h z.2)
def wrb (σ : SS) (t q z : Nat) : Bool := opb σ t && decide (z < 13) && decide (rat σ (16 + t) q ≠ 0) && decide (σ 6 (rat σ (16 + t) q) = 2)
theorem wrb_1 {σ : SS} {t q z : Nat} (h : opb σ t = false) : ¬ wrb σ t q z = true := by simp [wrb, h]
theorem wrb_2 {σ : SS} {t q z : Nat} (h : z = 13) : ¬ wrb σ t q z = true := by simp [wrb, h]
theorem wrb_3 {σ : SS} {t q z : Nat} (h : rat σ (16 + t) q = 0) : ¬ wrb σ t q z = true := by simp [wrb, h]
theorem wrb_4 {σ : SS} {t q z : Nat} (h : σ 6 (rat σ (16 + t) q) ≠ 2) : ¬ wrb σ t q z = true := by simp [wrb, h]
theorem wrb_t {σ : SS} {t q z : Nat} (h : opb σ t = true) (h1 : z < 13) (h2 : rat σ (16 + t) q ≠ 0) (h3 : σ 6 (rat σ (16 + t) q) = 2) : wrb σ t q z = true := by simp [wrb, h, h1, h2, h3]
/-- node n gets the text D of z digits -/
def wr3 (σ : SS) (n D z : Nat) : SS := sp (sp (sp σ 8 n 1) 7 n z) 9 n (D % 2 ^ (4 * z))
def wrO (σ : SS) (t q D z : Nat) : SS := if wrb σ t q z = true then wr3 (tch (pd q) σ t q) (rat (tch (pd q) σ t q) (16 + t) q) D z else σ
theorem wrO_f {σ : SS} {t q D z : Nat} (h : ¬ wrb σ t q z = true) : wrO σ t q D z = σ := if_neg h
theorem wrO_t {σ : SS} {t q D z : Nat} (h : wrb σ t q z = true) : wrO σ t q D z = wr3 (tch (pd q) σ t q) (rat (tch (pd q) σ t q) (16 + t) q) D z := if_pos h
theorem msk {D z : Nat} (hD : D < 2 ^ 64) (hz : z < 13) : lN D &&& ((1 : Int64) <<< ((nI (4 * z)).toInt64 &&& 63) - 1) = lN (D % 2 ^ (4 * z)) := by
  have h1 : (1 : Int64) = lN 1 := by decide
  have h2 : (1 : Int64) <<< ((nI (4 * z)).toInt64 &&& 63) = lN (2 ^ (4 * z)) := by
    rw [h1, wb_shl 1 (by omega), Nat.one_mul]
  have h3 : 1 ≤ 2 ^ (4 * z) := Nat.one_le_two_pow
  rw [h2, h1, lN_sub h3, wb_mask hD (by omega)]
end OP2
