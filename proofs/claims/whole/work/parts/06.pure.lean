/-! paths and the state, as numbers -/
section PU
def bz (b : Bool) : Int32 := if b = true then nI 1 else nI 0
/-- weight of a name behind d names -/
def pu (d : Nat) : Nat := if d = 0 then 1 else if d = 1 then 5 else if d = 2 then 25 else 125
/-- how many names -/
def pd (p : Nat) : Nat := if p = 0 then 0 else if p < 5 then 1 else if p < 25 then 2 else 3
/-- a path -/
def pg (p : Nat) : Prop := p < 125 ∧ (0 < p % 5 ∨ p = 0) ∧ (0 < p / 5 % 5 ∨ p < 5)
def pgb (p : Nat) : Bool := decide (p < 125) && (decide (0 < p % 5) || decide (p = 0)) && (decide (0 < p / 5 % 5) || decide (p < 5))
theorem pgb_t {p : Nat} : pgb p = true ↔ pg p := by simp [pgb, pg, and_assoc]
/-- the path above -/
def pp (p : Nat) : Nat := p % pu (pd p - 1)
def pun (w p : Nat) : Bool := w % pu (pd p) == p
/-- where w goes when f goes to g -/
def pm (w f g : Nat) : Nat := g + w / pu (pd f) * pu (pd g)
/-- an int as a path: 125 where it is none -/
def ix (x : Int32) : Nat := if 0 ≤ x ∧ x ≤ nI 124 then x.toNatClampNeg else 125
theorem ix_n {k : Nat} (h : k < 125) : ix (nI k) = k := by
  unfold ix
  rw [if_pos ⟨nI_pos' (by omega), nI_le (by omega) (by decide)⟩, nI_clamp (by omega)]
theorem ix_lt {x : Int32} (h : x < 0) : ix x = 125 := by
  unfold ix
  rw [if_neg]
  rintro ⟨a, -⟩
  rw [Int32.lt_iff_toInt_lt] at h
  rw [Int32.le_iff_toInt_le] at a
  omega
theorem ix_gt {x : Int32} (h : ¬ x ≤ nI 124) : ix x = 125 := by
  unfold ix
  rw [if_neg (fun z => h z.2)]
theorem ix_le (x : Int32) : ix x ≤ 125 := by
  unfold ix
  by_cases h : 0 ≤ x ∧ x ≤ nI 124
  · rw [if_pos h]
    obtain ⟨k, hk, rfl⟩ := nI_of2 (M := nI 124) (n := 124) (by decide) (fun z => by
      have h1 := h.1
      rw [Int32.lt_iff_toInt_lt] at z
      rw [Int32.le_iff_toInt_le] at h1
      omega) h.2
    rw [nI_clamp (by omega)]
    omega
  · rw [if_neg h]
    exact Nat.le_refl _
theorem pg_125 : ¬ pg 125 := by unfold pg; omega
theorem pu_lt (d : Nat) : 0 < pu d ∧ pu d ≤ 125 := by
  unfold pu
  split
  · omega
  · split
    · omega
    · split <;> omega
theorem pd_le (p : Nat) : pd p ≤ 3 := by
  unfold pd
  split
  · omega
  · split
    · omega
    · split <;> omega
theorem bz_t {b : Bool} (h : b = true) : nI 1 = bz b := by rw [h]; rfl
theorem bz_f {b : Bool} (h : ¬ b = true) : nI 0 = bz b := by cases b with
  | true => exact absurd rfl h
  | false => rfl
theorem pd_pos {p : Nat} (h : 0 < p) : 1 ≤ pd p := by
  unfold pd
  rw [if_neg (by omega)]
  split
  · omega
  · split <;> omega
theorem nI_of3 {x M : Int32} {n : Nat} (hM : M.toInt = n) (h : ¬ x < 0) (h5 : x < M) : ∃ j : Nat, j < n ∧ x = nI j := by
  obtain ⟨j, hj, rfl⟩ := nI_of h
  rw [Int32.lt_iff_toInt_lt, nI_toInt hj, hM] at h5
  exact ⟨j, by omega, rfl⟩
theorem ix_ge {x : Int32} (h : ¬ x < nI 125) : ix x = 125 := by
  apply ix_gt
  intro z
  apply h
  have h1 : (nI 124).toInt = 124 := by decide
  have h2 : (nI 125).toInt = 125 := by decide
  rw [Int32.le_iff_toInt_le, h1] at z
  rw [Int32.lt_iff_toInt_lt, h2]
  omega
theorem pun_pd {w n : Nat} (hw : w < 125) (hn : n < 125) (h : pun w n = true) : pd n ≤ pd w := by
  have h : w % pu (pd n) = n := beq_iff_eq.mp h
  unfold pd pu at *
  (repeat' split at h) <;> (repeat' split) <;> omega
end PU
