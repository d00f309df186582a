/-! storing a text, as a function of the state -/
section STO
theorem nx_nd (a b : Nat) : nI a &&& nI b = nI (a &&& b) := by
  apply Int32.toBitVec_inj.mp
  rw [Int32.toBitVec_and]
  show BitVec.ofNat 32 a &&& BitVec.ofNat 32 b = BitVec.ofNat 32 (a &&& b)
  apply BitVec.eq_of_toNat_eq
  rw [BitVec.toNat_and, BitVec.toNat_ofNat, BitVec.toNat_ofNat, BitVec.toNat_ofNat, Nat.and_mod_two_pow]
theorem cmp_eq {x y : Nat} (hx : x < 2 ^ 63) (hy : y < 2 ^ 63) : lg_cmp (lN x) (lN y) = 0 ↔ x = y := by
  unfold lg_cmp
  constructor
  · intro h
    split at h
    · exact absurd h (by decide)
    · split at h
      · next e => exact (pk_lEQ hx hy).mp e
      · exact absurd h (by decide)
  · rintro rfl
    rw [if_neg (by show ¬ lN x < lN x; rw [pk_lLT hx hx]; omega), if_pos rfl]
/-- how far back the base of a text of count c is sought -/
def frb (c : Nat) : Nat := c - (c &&& (c - 1))
theorem frb_0 : frb 0 = 0 := by decide
def eqf (τ : SS) (n : Nat) : Nat → Nat → Nat
  | 0, k => k
  | u + 1, k => if τ 18 k = τ 7 n ∧ τ 17 k = τ 9 n then k else eqf τ n u (k + 1)
theorem eqf_le {τ : SS} {n : Nat} : ∀ u k, eqf τ n u k ≤ k + u
  | 0, k => Nat.le_refl _
  | u + 1, k => by
    unfold eqf
    split
    · omega
    · have := eqf_le (τ := τ) (n := n) u (k + 1)
      omega
def anc (τ : SS) : Nat → Nat → Nat
  | 0, a => a
  | u + 1, a => anc τ u (τ 13 a)
def st5 (τ : SS) (n bv cv : Nat) : SS := sp (sp (sp (sp (sp (sp τ 17 (τ 16 0) (τ 9 n)) 18 (τ 16 0) (τ 7 n)) 19 (τ 16 0) bv) 20 (τ 16 0) cv) 16 0 (τ 16 0 + 1)) 15 n (τ 16 0 + 1)
/-- the representation of the ancestor, plus one -/
def oldf (τ : SS) (n : Nat) : Nat := if τ 6 (anc τ (frb (τ 11 n)) n) = 2 ∧ 0 < τ 11 n then τ 15 (anc τ (frb (τ 11 n)) n) else 0
def st3 (τ : SS) (n : Nat) : SS := if 0 < oldf τ n ∧ τ 20 (oldf τ n - 1) < 1 + alw 20 (τ 11 n) 0 then st5 τ n (oldf τ n) (τ 20 (oldf τ n - 1) + 1) else st5 τ n 0 1
def st2 (τ : SS) (n : Nat) : SS := if τ 7 n = 0 then τ else if eqf τ n (τ 16 0) 0 < τ 16 0 then sp τ 15 n (eqf τ n (τ 16 0) 0 + 1) else st3 τ n
/-- the text of node n is stored -/
def stf (σ : SS) (n : Nat) : SS := st2 (sp σ 15 n 0) n
theorem st2_0 {τ : SS} {n : Nat} (h : τ 7 n = 0) : st2 τ n = τ := if_pos h
theorem st2_1 {τ : SS} {n k : Nat} (h : τ 7 n ≠ 0) (h1 : eqf τ n (τ 16 0) 0 = k) (h2 : k < τ 16 0) : st2 τ n = sp τ 15 n (k + 1) := by
  unfold st2
  rw [if_neg h, if_pos (by omega), h1]
theorem st2_3 {τ : SS} {n : Nat} (h : τ 7 n ≠ 0) (h1 : eqf τ n (τ 16 0) 0 = τ 16 0) : st2 τ n = st3 τ n := by
  unfold st2
  rw [if_neg h, if_neg (by omega)]
theorem oldf_0 {τ : SS} {n a : Nat} (ha : anc τ (frb (τ 11 n)) n = a) (h : τ 6 a ≠ 2 ∨ τ 11 n = 0) : oldf τ n = 0 := by
  unfold oldf
  rw [ha, if_neg]
  rintro ⟨z1, z2⟩
  rcases h with h | h
  · exact h z1
  · omega
theorem oldf_1 {τ : SS} {n a : Nat} (ha : anc τ (frb (τ 11 n)) n = a) (h : τ 6 a = 2) (h2 : 0 < τ 11 n) : oldf τ n = τ 15 a := by
  unfold oldf
  rw [ha, if_pos ⟨h, h2⟩]
theorem st3_f {τ : SS} {n o : Nat} (ho : oldf τ n = o) (h : o = 0 ∨ 1 + alw 20 (τ 11 n) 0 ≤ τ 20 (o - 1)) : st3 τ n = st5 τ n 0 1 := by
  unfold st3
  rw [ho, if_neg]
  rintro ⟨z1, z2⟩
  omega
theorem st3_t {τ : SS} {n o : Nat} (ho : oldf τ n = o) (h : 0 < o) (h2 : τ 20 (o - 1) < 1 + alw 20 (τ 11 n) 0) : st3 τ n = st5 τ n o (τ 20 (o - 1) + 1) := by
  unfold st3
  rw [ho, if_pos ⟨h, h2⟩]
theorem alw_le {c : Nat} : ∀ u k, alw u c k ≤ k + u
  | 0, k => Nat.le_refl _
  | u + 1, k => by
    unfold alw
    split
    · have := alw_le (c := c) u (k + 1)
      omega
    · omega
end STO
