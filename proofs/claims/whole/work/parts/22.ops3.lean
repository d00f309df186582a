/-! merging, as functions of the state -/
section OP3
/-- of the first i places of transaction t those of g have the values v -/
def rng (σ : SS) (t i : Nat) (g : Nat → Bool) (v : Nat → Nat) : SS := upf σ 0 (fun j => if 2000 + 125 * t ≤ j ∧ j < 2000 + 125 * t + i ∧ g (j - (2000 + 125 * t)) = true then v (j - (2000 + 125 * t)) else σ 0 j)
theorem rng_0 {σ : SS} {t : Nat} {g : Nat → Bool} {v : Nat → Nat} : rng σ t 0 g v = σ := by
  funext f j
  unfold rng upf
  by_cases h : f = 0
  · subst h
    rw [if_pos rfl, if_neg (by omega)]
  · rw [if_neg h]
theorem rng_t {σ : SS} {t i : Nat} {g : Nat → Bool} {v : Nat → Nat} (h : g i = true) : sp (rng σ t i g v) 0 (2000 + 125 * t + i) (v i) = rng σ t (i + 1) g v := by
  funext f j
  rw [sp_at]
  by_cases hf : f = 0
  · subst hf
    simp only [rng, upf, if_true, true_and]
    by_cases hj : j = 2000 + 125 * t + i
    · subst hj
      have e : 2000 + 125 * t + i - (2000 + 125 * t) = i := by omega
      rw [if_pos rfl, if_pos ⟨by omega, by omega, by rw [e]; exact h⟩, e]
    · rw [if_neg hj]
      by_cases h2 : 2000 + 125 * t ≤ j ∧ j < 2000 + 125 * t + i ∧ g (j - (2000 + 125 * t)) = true
      · rw [if_pos h2, if_pos ⟨h2.1, by omega, h2.2.2⟩]
      · rw [if_neg h2, if_neg (fun z => h2 ⟨z.1, by omega, z.2.2⟩)]
  · rw [if_neg (by omega)]
    simp only [rng, upf, if_neg hf]
theorem rng_f {σ : SS} {t i : Nat} {g : Nat → Bool} {v : Nat → Nat} (h : g i = false) : rng σ t i g v = rng σ t (i + 1) g v := by
  funext f j
  by_cases hf : f = 0
  · subst hf
    simp only [rng, upf, if_true]
    by_cases h2 : 2000 + 125 * t ≤ j ∧ j < 2000 + 125 * t + i ∧ g (j - (2000 + 125 * t)) = true
    · rw [if_pos h2, if_pos ⟨h2.1, by omega, h2.2.2⟩]
    · rw [if_neg h2, if_neg]
      rintro ⟨z1, z2, z3⟩
      by_cases hj : j = 2000 + 125 * t + i
      · subst hj
        rw [show 2000 + 125 * t + i - (2000 + 125 * t) = i by omega, h] at z3
        cases z3
      · exact h2 ⟨z1, by omega, z3⟩
  · simp only [rng, upf, if_neg hf]
theorem rng_lo {σ : SS} {t i j : Nat} {g : Nat → Bool} {v : Nat → Nat} (h : j < 2000) : rng σ t i g v 0 j = σ 0 j := by
  show (if 2000 + 125 * t ≤ j ∧ j < 2000 + 125 * t + i ∧ g (j - (2000 + 125 * t)) = true then v (j - (2000 + 125 * t)) else σ 0 j) = σ 0 j
  rw [if_neg (by omega)]
theorem rB_rng {σ : SS} {t i : Nat} {g : Nat → Bool} {v : Nat → Nat} (hv : ∀ k, v k < 32768) (h : rB σ) : rB (rng σ t i g v) := by
  intro f j h1 h2
  unfold rng upf
  split
  · show (if _ then v (j - (2000 + 125 * t)) else σ 0 j) < 32768
    split
    · exact hv _
    · exact h _ _ (by decide) (by decide)
  · exact h f j h1 h2
def wyf (σ : SS) (b y o : Nat) : Nat := if y = b then 0 else if o = b then 1 else if (0 < b ∧ 0 < y ∧ 0 < o ∧ σ 6 b = 1 ∧ σ 6 y = 1 ∧ σ 6 o = 1) ∧ σ 10 b = σ 10 y ∧ σ 10 b = σ 10 o then 2 else 3
/-- how path q of transaction t is merged: 0 stays, 1 taken, 2 joined, 3 a conflict -/
def wy (σ : SS) (t q : Nat) : Nat := wyf σ (σ 0 (125 * σ 3 t + q)) (σ 0 (125 * σ 1 0 + q)) (σ 0 (2000 + 125 * t + q))
theorem wy_le (σ : SS) (t q : Nat) : wy σ t q ≤ 3 := by
  unfold wy wyf
  split
  · omega
  · split
    · omega
    · split <;> omega
/-- what is at and below q comes from the youngest revision -/
def tkn (σ : SS) (t q i : Nat) : SS := rng σ t i (fun w => pgb w && pun w q) (fun w => σ 0 (125 * σ 1 0 + w))
def jn (σ : SS) (t q : Nat) : SS := sp (sp σ 13 (σ 0 (2000 + 125 * t + q)) (σ 0 (125 * σ 1 0 + q))) 11 (σ 0 (2000 + 125 * t + q)) (σ 11 (σ 0 (125 * σ 1 0 + q)) + 1)
def stl (σ : SS) (t q w : Nat) (d : Bool) : SS := if d = true then (if w = 1 then tkn σ t q 125 else if w = 2 then jn σ t q else σ) else σ
theorem stl_f {σ : SS} {t q w : Nat} : stl σ t q w false = σ := if_neg (by decide)
theorem stl_1 {σ : SS} {t q w : Nat} (h : w = 1) : stl σ t q w true = tkn σ t q 125 := by unfold stl; rw [if_pos rfl, if_pos h]
theorem stl_2 {σ : SS} {t q w : Nat} (h : w = 2) : stl σ t q w true = jn σ t q := by unfold stl; rw [if_pos rfl, if_neg (by omega), if_pos h]
theorem stl_0 {σ : SS} {t q w : Nat} (h1 : w ≠ 1) (h : w ≠ 2) : stl σ t q w true = σ := by unfold stl; rw [if_pos rfl, if_neg h1, if_neg h]
/-- the greatest chain at count c -/
def alw : Nat → Nat → Nat → Nat
  | 0, _, k => k
  | n + 1, c, k => if 2 ^ (k + 1) ≤ 1 + c then alw n c (k + 1) else k
def dgt (x k : Nat) : Nat := x / 2 ^ (4 * k) % 16
end OP3
