/-! digits, pieces, costs, as numbers -/
section CO
theorem shl1 : ∀ k : Fin 30, nI 1 <<< (nI (k.val + 1) &&& 31) = nI (2 ^ (k.val + 1)) := by decide +kernel
theorem shl2 {k : Nat} (h : k < 30) : nI 1 <<< (nI (k + 1) &&& 31) = nI (2 ^ (k + 1)) := shl1 ⟨k, h⟩
theorem dg_and (m : Nat) : nI m &&& nI 15 = nI (m % 16) := by
  rw [pk_and (nI m) 4 (by decide)]
  have : (nI m).toBitVec.toNat = m % 2 ^ 32 := BitVec.toNat_ofNat m 32
  rw [this]
  congr 1
  omega
theorem dg_shr {X k : Nat} (hX : X < 2 ^ 48) (hk : k < 13) : lN X >>> ((nI (4 * k)).toInt64 &&& 63) = lN (X / 2 ^ (4 * k)) := by
  rw [wb_c (4 * k) (by omega)]
  refine pf_shr ?_ (by omega)
  rw [wb_tb, wb_sm (4 * k) (by omega), BitVec.toNat_ofNat]
  omega
def pcf (X n k Y m j : Nat) : Nat → Nat → Nat
  | 0, f => f
  | u + 1, f => if k + f < n ∧ j + f < m ∧ dgt X (k + f) = dgt Y (j + f) then pcf X n k Y m j u (f + 1) else f
theorem pcf_le {X n k Y m j : Nat} : ∀ u f, pcf X n k Y m j u f ≤ f + u
  | 0, f => Nat.le_refl _
  | u + 1, f => by
    unfold pcf
    split
    · have := pcf_le (X := X) (n := n) (k := k) (Y := Y) (m := m) (j := j) u (f + 1)
      omega
    · omega
def lgf (X n p Y m : Nat) : Nat → Nat → Nat → Nat
  | 0, _, L => L
  | u + 1, j, L => lgf X n p Y m u (j + 1) (if L < pcf X n p Y m j 13 0 then pcf X n p Y m j 13 0 else L)
theorem lgf_le {X n p Y m : Nat} : ∀ u j L, L ≤ 13 → lgf X n p Y m u j L ≤ 13
  | 0, _, L, h => h
  | u + 1, j, L, h => by
    unfold lgf
    refine lgf_le u (j + 1) _ ?_
    split
    · have := pcf_le (X := X) (n := n) (k := p) (Y := Y) (m := m) (j := j) 13 0
      omega
    · exact h
def csf (X n Y m : Nat) : Nat → Nat → Nat → Bool → Nat
  | 0, _, T, _ => T
  | u + 1, p, T, s => if p < n then (if 3 ≤ lgf X n p Y m m 0 0 then csf X n Y m u (p + lgf X n p Y m m 0 0) (T + 2) false else csf X n Y m u (p + 1) (T + (if s = true then 1 else 2)) true) else T
theorem csf_e {X n Y m p T : Nat} {s : Bool} (h : n ≤ p) : ∀ u, csf X n Y m u p T s = T
  | 0 => rfl
  | u + 1 => by unfold csf; rw [if_neg (by omega)]
/-- the cost of representation k -/
def cstK (σ : SS) (k : Nat) : Nat := if σ 19 k = 0 then csf (σ 17 k) (σ 18 k) 0 0 13 0 0 false else csf (σ 17 k) (σ 18 k) (σ 17 (σ 19 k - 1)) (σ 18 (σ 19 k - 1)) 13 0 0 false
def aSto (σ : SS) (x y : Int32) : Int32 :=
  if x < 0 ∨ nI (σ 16 0) ≤ x then -1 else
  if y = 0 then nI (σ 19 x.toNatClampNeg) - nI 1 else if y = nI 1 then nI (σ 20 x.toNatClampNeg) else if y = nI 2 then nI (cstK σ x.toNatClampNeg) else if y = nI 3 then nI (σ 18 x.toNatClampNeg) else -1
theorem csf_1 {X n Y m u p T : Nat} {s : Bool} (h1 : p < n) (h2 : 3 ≤ lgf X n p Y m m 0 0) : csf X n Y m (u + 1) p T s = csf X n Y m u (p + lgf X n p Y m m 0 0) (T + 2) false := by
  show (if p < n then _ else T) = _
  rw [if_pos h1, if_pos h2]
theorem csf_2 {X n Y m u p T : Nat} {s : Bool} (h1 : p < n) (h2 : lgf X n p Y m m 0 0 < 3) : csf X n Y m (u + 1) p T s = csf X n Y m u (p + 1) (T + (if s = true then 1 else 2)) true := by
  show (if p < n then _ else T) = _
  rw [if_pos h1, if_neg (by omega)]
theorem sto_1 {σ : SS} {x : Int32} (hS : σ 16 0 < 2 ^ 31) (h1 : ¬ x < 0) (h2 : x < nI (σ 16 0)) : ∃ k, k < σ 16 0 ∧ x = nI k ∧ ∀ y, aSto σ x y = if y = 0 then nI (σ 19 k) - nI 1 else if y = nI 1 then nI (σ 20 k) else if y = nI 2 then nI (cstK σ k) else if y = nI 3 then nI (σ 18 k) else -1 := by
  obtain ⟨k, hk, rfl⟩ := nI_of3 (M := nI (σ 16 0)) (n := σ 16 0) (nI_toInt hS) h1 h2
  refine ⟨k, hk, rfl, fun y => ?_⟩
  unfold aSto
  rw [if_neg, nI_clamp (by omega)]
  rintro (z | z)
  · exact h1 z
  · exact absurd z (fun z => nle_of h2 z)
end CO
