/-! following a place back, as a function of the state -/
section LO
theorem bI_eq {b r : Nat} (hb : b < 256) (hr : r < 128) : bI b = nI r ↔ b = r := by
  constructor
  · intro h
    rcases Nat.lt_or_ge b 128 with z | z
    · rw [bI_n z] at h
      exact (nI_eq (by omega) (by omega)).mp h
    · have := (bI_lt hb).mpr z
      rw [h] at this
      exact absurd this (nI_pos (by omega))
  · rintro rfl
    exact bI_n hr
def cI (f : Nat) : Int32 := if f = 125 then -1 else nI f
theorem cI_n {f : Nat} (h : f ≠ 125) : cI f = nI f := if_neg h
theorem cI_125 : cI 125 = -1 := rfl
/-- was the node at path q of revision r copied there -/
def cpc (σ : SS) (r q : Nat) : Bool := decide (0 < rat σ r q) && decide (0 < σ 14 (rat σ r q)) && decide (σ 12 (rat σ r q) = r)
theorem cpc_1 {σ : SS} {r q : Nat} (h : rat σ r q = 0) : cpc σ r q = false := by simp [cpc, h]
theorem cpc_2 {σ : SS} {r q : Nat} (h : σ 14 (rat σ r q) = 0) : cpc σ r q = false := by simp [cpc, h]
theorem cpc_3 {σ : SS} {r q : Nat} (h : σ 12 (rat σ r q) ≠ r) : cpc σ r q = false := by simp [cpc, h]
theorem cpc_t {σ : SS} {r q : Nat} (h : 0 < rat σ r q) (h2 : 0 < σ 14 (rat σ r q)) (h3 : σ 12 (rat σ r q) = r) : cpc σ r q = true := by simp [cpc, h, h2, h3]
theorem cpc_of {σ : SS} {r q : Nat} (h : cpc σ r q = true) : 0 < rat σ r q ∧ 0 < σ 14 (rat σ r q) ∧ σ 12 (rat σ r q) = r := by
  simp only [cpc, Bool.and_eq_true, decide_eq_true_eq] at h
  exact ⟨h.1.1, h.1.2, h.2⟩
def cpf (σ : SS) (r p : Nat) : Nat → Nat → Nat → Nat
  | 0, _, f => f
  | u + 1, i, f => cpf σ r p u (i + 1) (if cpc σ r (p % pu i) = true then p % pu i else f)
/-- the deepest path, p or above it, copied in revision r; 125 without one -/
def cpd (σ : SS) (r p : Nat) : Nat := cpf σ r p (pd p + 1) 0 125
theorem cpf_le {σ : SS} {r p : Nat} : ∀ u i f, (f = 125 ∨ (f ≤ p ∧ cpc σ r f = true)) → (cpf σ r p u i f = 125 ∨ (cpf σ r p u i f ≤ p ∧ cpc σ r (cpf σ r p u i f) = true))
  | 0, _, f, h => h
  | u + 1, i, f, h => by
    unfold cpf
    refine cpf_le u (i + 1) _ ?_
    split
    · next hc => exact Or.inr ⟨Nat.mod_le _ _, hc⟩
    · exact h
theorem cpd_le (σ : SS) (r p : Nat) : cpd σ r p = 125 ∨ (cpd σ r p ≤ p ∧ cpc σ r (cpd σ r p) = true) := cpf_le _ _ _ (Or.inl rfl)
theorem pd_mono {a b : Nat} (h : a ≤ b) : pd a ≤ pd b := by
  unfold pd
  (repeat' split) <;> omega
theorem pm_big {w f g : Nat} (hw : w < 125) (hg : g < 125) : pm w f g < 2 ^ 31 := by
  unfold pm
  have h1 := pu_lt (pd f)
  have h2 := pu_lt (pd g)
  have h3 : w / pu (pd f) ≤ w := Nat.div_le_self _ _
  have h4 : w / pu (pd f) * pu (pd g) ≤ 124 * 125 := Nat.mul_le_mul (by omega) h2.2
  omega
theorem rat_ix {σ : SS} {s n : Nat} (hn : n < 2 ^ 31) : rat σ s (ix (nI n)) = rat σ s n := by
  rcases Nat.lt_or_ge n 125 with h | h
  · rw [ix_n h]
  · rw [ix_gt (fun z => by rw [nI_leI hn (by decide)] at z; omega)]
    unfold rat
    rw [if_neg (by decide), if_neg (fun z => by have := (pgb_t.mp z).1; omega)]
theorem rat_lt125 {σ : SS} {s n : Nat} (h : rat σ s n ≠ 0) : n < 125 := (pgb_t.mp (rat_good h)).1
/-- one step back: revision and path, 125 where it ends -/
def lsB (σ : SS) (now path c s g : Nat) : Nat := if ¬ 3 < pd g + pd path - pd c ∧ rat σ s (pm path c g) ≠ 0 ∧ (c = path ∨ σ 10 (rat σ s (pm path c g)) = σ 10 (rat σ now path)) then pm path c g else 125
def lsA (σ : SS) (now path : Nat) : Nat := if rat σ (now - 1) path ≠ 0 ∧ σ 10 (rat σ (now - 1) path) = σ 10 (rat σ now path) then path else 125
def ls1 (σ : SS) (now path : Nat) : Nat := if cpd σ now path = 125 then now - 1 else (σ 14 (rat σ now (cpd σ now path)) - 1) / 125
def ls2 (σ : SS) (now path : Nat) : Nat := if cpd σ now path = 125 then lsA σ now path else lsB σ now path (cpd σ now path) ((σ 14 (rat σ now (cpd σ now path)) - 1) / 125) ((σ 14 (rat σ now (cpd σ now path)) - 1) % 125)
def lcf (σ : SS) (a : Nat) : Nat → Nat → Nat → Nat
  | 0, now, path => if now = a then path else 125
  | u + 1, now, path => if now = a then path else if ls2 σ now path = 125 ∨ ls1 σ now path < a then 125 else lcf σ a u (ls1 σ now path) (ls2 σ now path)
theorem lc_e {σ : SS} {a u now path : Nat} (h : now = a) : lcf σ a u now path = path := by
  cases u with
  | zero => exact if_pos h
  | succ u => exact if_pos h
theorem lc_z {σ : SS} {a now path : Nat} (h : now ≠ a) : lcf σ a 0 now path = 125 := if_neg h
theorem lc_n {σ : SS} {a u now path : Nat} (h : now ≠ a) (h2 : ls2 σ now path = 125 ∨ ls1 σ now path < a) : lcf σ a (u + 1) now path = 125 := by
  show (if _ then _ else _) = _
  rw [if_neg h, if_pos h2]
theorem lc_g {σ : SS} {a u now path s v : Nat} (h : now ≠ a) (h2 : ls2 σ now path = v) (h1 : ls1 σ now path = s) (hv : v ≠ 125) (hs : a ≤ s) : lcf σ a (u + 1) now path = lcf σ a u s v := by
  show (if _ then _ else _) = _
  rw [if_neg h, if_neg (by omega), h2, h1]
/-- the answer of locate -/
def lcA (σ : SS) (x y z : Int32) : Nat := if rvn σ x = 16 ∨ z < 0 ∨ x < z ∨ rat σ (rvn σ x) (ix y) = 0 then 125 else lcf σ z.toNatClampNeg 16 (rvn σ x) (ix y)
end LO
