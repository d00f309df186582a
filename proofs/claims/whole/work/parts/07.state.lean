/-! the state: twenty-one rows of numbers (the reference's fields in their order); a scalar stands at place 0 of its row
0 tree, 1 youngest, 2 open, 3 base, 4 nodes, 5 lines, 6 kind, 7 size, 8 wrote, 9 text, 10 line, 11 count, 12 birth, 13 before, 14 source, 15 shows, 16 stores, 17 storeText, 18 storeSize, 19 storeBase, 20 storeChain
a birth is a byte: 255 - t is that of a node of transaction t -/
section ST
abbrev SS : Type := Nat → Nat → Nat
def upf (σ : SS) (f : Nat) (g : Nat → Nat) : SS := fun i => if i = f then g else σ i
def sp (σ : SS) (f k v : Nat) : SS := upf σ f (va_up (σ f) k v)
theorem sp_s {σ : SS} {f k v : Nat} : sp σ f k v f k = v := by simp [sp, upf, va_up]
theorem sp_n {σ : SS} {f k v j : Nat} (h : j ≠ k) : sp σ f k v f j = σ f j := by simp [sp, upf, va_up, h]
theorem sp_o {σ : SS} {f k v g : Nat} (h : g ≠ f) : sp σ f k v g = σ g := by simp [sp, upf, h]
theorem sp_at {σ : SS} {f k v g j : Nat} : sp σ f k v g j = if g = f ∧ j = k then v else σ g j := by
  by_cases h : g = f
  · subst h
    by_cases h2 : j = k
    · subst h2; simp [sp_s]
    · simp [sp_n h2, h2]
  · simp [sp_o h, h]
def bI (b : Nat) : Int32 := (nI b).toInt8.toInt32
/-- what is at path p of table k -/
def rat (σ : SS) (k p : Nat) : Nat := if pgb p = true then σ 0 (125 * k + p) else 0
/-- a new node of transaction t, of kind w, without one before it -/
def nod0 (σ : SS) (t w : Nat) : SS :=
  sp (sp (sp (sp (sp (sp (sp (sp (sp σ 4 0 (σ 4 0 + 1)) 6 (σ 4 0 + 1) w) 12 (σ 4 0 + 1) (255 - t)) 13 (σ 4 0 + 1) 0) 11 (σ 4 0 + 1) 0) 7 (σ 4 0 + 1) 0) 9 (σ 4 0 + 1) 0) 15 (σ 4 0 + 1) 0) 10 (σ 4 0 + 1) 0
/-- a new node of transaction t, of kind w, behind node old -/
def nod1 (σ : SS) (t w old : Nat) : SS :=
  sp (sp (sp (sp (sp (sp (sp (sp (sp σ 4 0 (σ 4 0 + 1)) 6 (σ 4 0 + 1) w) 12 (σ 4 0 + 1) (255 - t)) 13 (σ 4 0 + 1) old) 11 (σ 4 0 + 1) (σ 11 old + 1)) 7 (σ 4 0 + 1) (σ 7 old)) 9 (σ 4 0 + 1) (σ 9 old)) 15 (σ 4 0 + 1) (σ 15 old)) 10 (σ 4 0 + 1) (σ 10 old)
def plc (σ : SS) (t p n : Nat) : SS := sp σ 0 (2000 + 125 * t + p) n
/-- the node at path q becomes one of transaction t -/
def tst (σ : SS) (t q : Nat) : SS := if σ 12 (rat σ (16 + t) q) < 128 then plc (nod1 σ t (σ 6 (rat σ (16 + t) q)) (rat σ (16 + t) q)) t q (σ 4 0 + 1) else σ
def tch : Nat → SS → Nat → Nat → SS
  | 0, σ, t, q => tst σ t q
  | n + 1, σ, t, q => tch n (tst σ t q) t (pp q)
theorem bI_t {t : Nat} (h : t < 3) : (-1 - nI t).toInt8.toInt32 = bI (255 - t) := by
  rcases (show t = 0 ∨ t = 1 ∨ t = 2 by omega) with rfl | rfl | rfl <;> decide
theorem bI_tab : ∀ b : Fin 256, (0 ≤ bI b.val ↔ b.val < 128) ∧ (bI b.val < 0 ↔ 128 ≤ b.val) := by decide +kernel
theorem bI_ge {b : Nat} (hb : b < 256) : 0 ≤ bI b ↔ b < 128 := (bI_tab ⟨b, hb⟩).1
theorem bI_lt {b : Nat} (hb : b < 256) : bI b < 0 ↔ 128 ≤ b := (bI_tab ⟨b, hb⟩).2
theorem bI_n {b : Nat} (hb : b < 128) : bI b = nI b := n8 hb
/-- what touching path q asks of the state -/
def tok1 (σ : SS) (t q : Nat) : Prop := q < 125 ∧ 0 < rat σ (16 + t) q ∧ rat σ (16 + t) q < 1300 ∧ σ 12 (rat σ (16 + t) q) < 256 ∧ (σ 12 (rat σ (16 + t) q) < 128 → σ 4 0 + 1 < 1300 ∧ σ 11 (rat σ (16 + t) q) + 1 < 32768 ∧ σ 7 (rat σ (16 + t) q) < 128 ∧ σ 6 (rat σ (16 + t) q) < 128)
def tok : Nat → SS → Nat → Nat → Prop
  | 0, σ, t, q => tok1 σ t q
  | n + 1, σ, t, q => (tok1 σ t q ∧ pd q = n + 1) ∧ tok n (tst σ t q) t (pp q)
end ST
section ST2
/-- an int as a transaction's number: 3 where it is none -/
def tx (x : Int32) : Nat := if 0 ≤ x ∧ x ≤ nI 2 then x.toNatClampNeg else 3
theorem tx_n {k : Nat} (h : k < 3) : tx (nI k) = k := by
  unfold tx
  rw [if_pos ⟨nI_pos' (by omega), nI_le (by omega) (by decide)⟩, nI_clamp (by omega)]
theorem tx_lt {x : Int32} (h : x < 0) : tx x = 3 := by
  unfold tx
  rw [if_neg]
  rintro ⟨a, -⟩
  rw [Int32.lt_iff_toInt_lt] at h
  rw [Int32.le_iff_toInt_le] at a
  omega
theorem tx_gt {x : Int32} (h : nI 2 < x) : tx x = 3 := by
  unfold tx
  rw [if_neg]
  rintro ⟨-, a⟩
  rw [Int32.lt_iff_toInt_lt] at h
  rw [Int32.le_iff_toInt_le] at a
  omega
theorem nI_of2b {x M : Int32} {n : Nat} (hM : M.toInt = n) (h : ¬ x < 0) (h5 : ¬ M < x) : ∃ j : Nat, j ≤ n ∧ x = nI j := by
  refine nI_of2 hM h ?_
  rw [Int32.le_iff_toInt_le]
  rw [Int32.lt_iff_toInt_lt] at h5
  omega
theorem ix_good {x : Int32} (h : pgb (ix x) = true) : ∃ j, j < 125 ∧ x = nI j := by
  have h1 := (pgb_t.mp h).1
  unfold ix at h1
  by_cases hc : 0 ≤ x ∧ x ≤ nI 124
  · obtain ⟨k, hk, rfl⟩ := nI_of2 (M := nI 124) (n := 124) (by decide) (fun z => by
      have h2 := hc.1
      rw [Int32.lt_iff_toInt_lt] at z
      rw [Int32.le_iff_toInt_le] at h2
      omega) hc.2
    exact ⟨k, by omega, rfl⟩
  · rw [if_neg hc] at h1
    omega
/-- is transaction t open -/
def opb (σ : SS) (t : Nat) : Bool := decide (t < 3) && decide (σ 2 t ≠ 0)
theorem opb_3 {σ : SS} : ¬ opb σ 3 = true := by simp [opb]
theorem opb_f {σ : SS} {t : Nat} (h : σ 2 t = 0) : ¬ opb σ t = true := by simp [opb, h]
theorem opb_t {σ : SS} {t : Nat} (ht : t < 3) (h : σ 2 t ≠ 0) : opb σ t = true := by simp [opb, h, ht]
theorem rat_lt {σ : SS} (h : ∀ f j, f ≠ 9 → f ≠ 17 → σ f j < 32768) {k p : Nat} : rat σ k p < 32768 := by
  unfold rat
  split
  · exact h _ _ (by decide) (by decide)
  · omega
/-- i places of table b have come into table a -/
def fil (σ : SS) (a b i : Nat) : SS := upf σ 0 (fun j => if 125 * a ≤ j ∧ j < 125 * a + i then σ 0 (j - 125 * a + 125 * b) else σ 0 j)
theorem fil_0 {σ : SS} {a b : Nat} : fil σ a b 0 = σ := by
  funext f j
  unfold fil upf
  by_cases h : f = 0
  · subst h
    rw [if_pos rfl, if_neg (by omega)]
  · rw [if_neg h]
theorem fil_s {σ : SS} {a b i : Nat} (hi : i < 125) (hab : a ≠ b) : sp (fil σ a b i) 0 (125 * a + i) (fil σ a b i 0 (125 * b + i)) = fil σ a b (i + 1) := by
  funext f j
  rw [sp_at]
  by_cases h : f = 0
  · subst h
    simp only [fil, upf, if_true, true_and]
    by_cases hj : j = 125 * a + i
    · rw [if_pos hj, if_neg (by omega), if_pos (by omega)]
      congr 1
      omega
    · rw [if_neg hj]
      by_cases h2 : 125 * a ≤ j ∧ j < 125 * a + i
      · rw [if_pos h2, if_pos (by omega)]
      · rw [if_neg h2, if_neg (by omega)]
  · rw [if_neg (by omega)]
    simp only [fil, upf, if_neg h]
theorem rB_fil' {σ : SS} {a b i : Nat} (h : ∀ f j, f ≠ 9 → f ≠ 17 → σ f j < 32768) : ∀ f j, f ≠ 9 → f ≠ 17 → fil σ a b i f j < 32768 := by
  intro f j h1 h2
  unfold fil upf
  split
  · show (if 125 * a ≤ j ∧ j < 125 * a + i then σ 0 (j - 125 * a + 125 * b) else σ 0 j) < 32768
    split <;> exact h _ _ (by decide) (by decide)
  · exact h f j h1 h2
theorem opb_of {σ : SS} {x : Int32} (h : opb σ (tx x) = true) : ∃ t, t < 3 ∧ x = nI t ∧ σ 2 t ≠ 0 := by
  unfold opb at h
  simp only [Bool.and_eq_true, decide_eq_true_eq] at h
  obtain ⟨h1, h2⟩ := h
  by_cases hc : 0 ≤ x ∧ x ≤ nI 2
  · obtain ⟨k, hk, rfl⟩ := nI_of2 (M := nI 2) (n := 2) (by decide) (fun z => by
      have h3 := hc.1
      rw [Int32.lt_iff_toInt_lt] at z
      rw [Int32.le_iff_toInt_le] at h3
      omega) hc.2
    rw [tx_n (by omega)] at h2
    exact ⟨k, by omega, rfl, h2⟩
  · unfold tx at h1
    rw [if_neg hc] at h1
    omega
theorem pp_lt (q : Nat) : pp q < 125 := by
  unfold pp
  have h := pu_lt (pd q - 1)
  have := Nat.mod_lt q h.1
  omega
theorem rat_N {σ : SS} {k p : Nat} (h : ∀ j, σ 0 j < 1300) : rat σ k p < 1300 := by
  unfold rat
  split
  · exact h _
  · omega
/-- may a node be put at path q of transaction t -/
def rmb (σ : SS) (t q : Nat) : Bool := opb σ t && pgb q && decide (q ≠ 0) && decide (rat σ (16 + t) q = 0) && decide (0 < rat σ (16 + t) (pp q)) && decide (σ 6 (rat σ (16 + t) (pp q)) = 1)
theorem rmb_1 {σ : SS} {t q : Nat} (h : opb σ t = false) : ¬ rmb σ t q = true := by simp [rmb, h]
theorem rmb_2 {σ : SS} {t q : Nat} (h : pgb q = false) : ¬ rmb σ t q = true := by simp [rmb, h]
theorem rmb_3 {σ : SS} {t q : Nat} (h : q = 0) : ¬ rmb σ t q = true := by simp [rmb, h]
theorem rmb_4 {σ : SS} {t q : Nat} (h : 0 < rat σ (16 + t) q) : ¬ rmb σ t q = true := by
  have : rat σ (16 + t) q ≠ 0 := by omega
  simp [rmb, this]
theorem rmb_5 {σ : SS} {t q : Nat} (h : rat σ (16 + t) (pp q) = 0) : ¬ rmb σ t q = true := by simp [rmb, h]
theorem rmb_6 {σ : SS} {t q : Nat} (h : σ 6 (rat σ (16 + t) (pp q)) ≠ 1) : ¬ rmb σ t q = true := by simp [rmb, h]
theorem rmb_t {σ : SS} {t q : Nat} (ht : t < 3) (h1 : σ 2 t ≠ 0) (h2 : pgb q = true) (h3 : 0 < q) (h4 : rat σ (16 + t) q = 0) (h5 : 0 < rat σ (16 + t) (pp q)) (h6 : σ 6 (rat σ (16 + t) (pp q)) = 1) : rmb σ t q = true := by
  have h3 : q ≠ 0 := by omega
  simp [rmb, opb_t ht h1, h2, h3, h4, h5, h6]
theorem pos_of_pd {q n : Nat} (h : pd q = n + 1) : 0 < q := by
  rcases Nat.eq_zero_or_pos q with z | z
  · subst z
    have : pd 0 = 0 := rfl
    omega
  · exact z
theorem dec_n (n : Nat) : nI (n + 1) + Int32.ofInt (-1) = nI n := pk_m1 n
theorem dec_0 : nI 0 + Int32.ofInt (-1) = -1 := by decide
end ST2
