/-! merging in the class's order -/
section MR
variable {σ τ : SS}
/-- the child of q with name j -/
def cq (q j : Nat) : Nat := q + j * pu (pd q)
set_option maxRecDepth 100000 in
theorem cq_tab : ∀ q : Fin 125, pgb q.val = true → ∀ j : Fin 5, 0 < j.val → pd q.val < 3 → pgb (cq q.val j.val) = true ∧ pd (cq q.val j.val) = pd q.val + 1 ∧ pp (cq q.val j.val) = q.val ∧ pq (cq q.val j.val) (pd q.val) = q.val := by decide +kernel
theorem cq_all {q j : Nat} (hq : pgb q = true) (hj : 0 < j) (hj5 : j < 5) (hd : pd q < 3) : pgb (cq q j) = true ∧ pd (cq q j) = pd q + 1 ∧ pp (cq q j) = q ∧ pq (cq q j) (pd q) = q := cq_tab ⟨q, (pgb_t.mp hq).1⟩ hq ⟨j, hj5⟩ hj hd
theorem cq_inj {q i j : Nat} (h : cq q i = cq q j) : i = j := by
  unfold cq at h
  have h1 := (pu_lt (pd q)).1
  exact Nat.eq_of_mul_eq_mul_right h1 (by omega)
/-- two children have nothing in common below them -/
theorem cq_dis {q i j w : Nat} (hq : pgb q = true) (hi : 0 < i) (hi5 : i < 5) (hj : 0 < j) (hj5 : j < 5) (hd : pd q < 3) (h1 : pun w (cq q i) = true) (h2 : pun w (cq q j) = true) : i = j := by
  have a := cq_all hq hi hi5 hd
  have b := cq_all hq hj hj5 hd
  rw [pun_iff, a.2.1] at h1
  rw [pun_iff, b.2.1] at h2
  exact cq_inj (h1.symm.trans h2)
def cgl (c : SS → Nat → SS) (q : Nat) : Nat → SS → SS
  | 0, τ => τ
  | n + 1, τ => cgl c q n (c τ (cq q (5 - (n + 1))))
/-- the class's merging at q, with d names that may follow -/
def cg (t : Nat) : Nat → SS → Nat → SS
  | 0, τ, q => stl τ t q (wy τ t q) true
  | d + 1, τ, q => if wy τ t q = 2 then jn (cgl (cg t d) q 4 τ) t q else stl τ t q (wy τ t q) true
def cfl (c : Nat → Nat) (q : Nat) : Nat → Nat
  | 0 => 125
  | n + 1 => if c (cq q (5 - (n + 1))) = 125 then cfl c q n else c (cq q (5 - (n + 1)))
/-- the first conflict at or below q -/
def cf (τ : SS) (t : Nat) : Nat → Nat → Nat
  | 0, q => if wy τ t q = 3 then q else 125
  | d + 1, q => if wy τ t q = 3 then q else if wy τ t q = 2 then cfl (cf τ t d) q 4 else 125
/-- what is joined is the transaction's own -/
def gd (τ : SS) (t : Nat) : Nat → Nat → Prop
  | 0, q => wy τ t q = 2 → 128 ≤ τ 12 (rat τ (16 + t) q)
  | d + 1, q => wy τ t q = 2 → 128 ≤ τ 12 (rat τ (16 + t) q) ∧ ∀ j, 0 < j → j < 5 → gd τ t d (cq q j)
theorem cfl_125 {c : Nat → Nat} {q : Nat} : ∀ n, n ≤ 4 → cfl c q n = 125 → ∀ j, 5 - n ≤ j → j < 5 → c (cq q j) = 125
  | 0, _, _, j, h1, h2 => by omega
  | n + 1, hn, h, j, h1, h2 => by
    unfold cfl at h
    split at h
    · next hc =>
      by_cases e : j = 5 - (n + 1)
      · rw [e]; exact hc
      · exact cfl_125 n (by omega) h j (by omega) h2
    · next hc => exact absurd h hc
/-- the two states are alike for what is at and below q -/
def AG (t q : Nat) (τ σ : SS) : Prop := (∀ w, pun w q = true → w < 125 → τ 0 (2000 + 125 * t + w) = σ 0 (2000 + 125 * t + w)) ∧ (∀ j, j < 2000 → τ 0 j = σ 0 j) ∧ ∀ f, f ≠ 0 → f ≠ 11 → f ≠ 13 → τ f = σ f
theorem AG_wy {t q w : Nat} (h : AG t q τ σ) (hy : σ 1 0 ≤ 15) (h3 : σ 3 t ≤ 15) (hw : w < 125) (hu : pun w q = true) : wy τ t w = wy σ t w := by
  unfold wy
  rw [h.2.2 3 (by decide) (by decide) (by decide), h.2.2 1 (by decide) (by decide) (by decide), h.1 w hu hw, h.2.1 _ (by omega), h.2.1 _ (by omega)]
  unfold wyf
  rw [h.2.2 6 (by decide) (by decide) (by decide), h.2.2 10 (by decide) (by decide) (by decide)]
theorem AG_rat {t q w : Nat} (h : AG t q τ σ) (hu : pun w q = true) : rat τ (16 + t) w = rat σ (16 + t) w := by
  unfold rat
  by_cases hp : pgb w = true
  · rw [if_pos hp, if_pos hp]
    have := h.1 w hu (pgb_t.mp hp).1
    rw [show 125 * (16 + t) + w = 2000 + 125 * t + w by omega]
    exact this
  · rw [if_neg hp, if_neg hp]
theorem AG_t {t q : Nat} {θ : SS} (h : AG t q θ τ) (h2 : AG t q τ σ) : AG t q θ σ := ⟨fun w a b => (h.1 w a b).trans (h2.1 w a b), fun j a => (h.2.1 j a).trans (h2.2.1 j a), fun f a b c => (h.2.2 f a b c).trans (h2.2.2 f a b c)⟩
theorem AG_r {t q : Nat} : AG t q σ σ := ⟨fun _ _ _ => rfl, fun _ _ => rfl, fun _ _ _ _ => rfl⟩
theorem AG_d {t q r : Nat} (h : AG t q τ σ) (hr : pun r q = true) (hd : pd q ≤ pd r) : AG t r τ σ := ⟨fun w a b => h.1 w (pun_t a hr hd) b, h.2⟩
theorem cf_c {t : Nat} (hy : σ 1 0 ≤ 15) (h3 : σ 3 t ≤ 15) : ∀ d q, pgb q = true → pd q + d = 3 → AG t q τ σ → cf τ t d q = cf σ t d q := by
  intro d
  induction d with
  | zero =>
    intro q hq hd h
    unfold cf
    rw [AG_wy h hy h3 (pgb_t.mp hq).1 (pun_r hq)]
  | succ d ih =>
    intro q hq hd h
    have hl : ∀ n, n ≤ 4 → cfl (cf τ t d) q n = cfl (cf σ t d) q n := by
      intro n
      induction n with
      | zero => intro _; rfl
      | succ n ihn =>
        intro hn
        have a := cq_all hq (j := 5 - (n + 1)) (by omega) (by omega) (by omega)
        have e := ih (cq q (5 - (n + 1))) a.1 (by omega) (AG_d h (pun_iff.mpr a.2.2.2) (by omega))
        unfold cfl
        rw [e, ihn (by omega)]
    unfold cf
    rw [AG_wy h hy h3 (pgb_t.mp hq).1 (pun_r hq), hl 4 (by omega)]
theorem gd_c {t : Nat} (hy : σ 1 0 ≤ 15) (h3 : σ 3 t ≤ 15) : ∀ d q, pgb q = true → pd q + d = 3 → AG t q τ σ → gd σ t d q → gd τ t d q := by
  intro d
  induction d with
  | zero =>
    intro q hq hd h g w
    rw [AG_wy h hy h3 (pgb_t.mp hq).1 (pun_r hq)] at w
    rw [AG_rat h (pun_r hq), h.2.2 12 (by decide) (by decide) (by decide)]
    exact g w
  | succ d ih =>
    intro q hq hd h g w
    rw [AG_wy h hy h3 (pgb_t.mp hq).1 (pun_r hq)] at w
    rw [AG_rat h (pun_r hq), h.2.2 12 (by decide) (by decide) (by decide)]
    refine ⟨(g w).1, fun j h1 h5 => ?_⟩
    have a := cq_all hq h1 h5 (by omega)
    exact ih _ a.1 (by omega) (AG_d h (pun_iff.mpr a.2.2.2) (by omega)) ((g w).2 j h1 h5)
/-! one step -/
theorem wy_1 {t q : Nat} (h : wy τ t q = 1) : τ 0 (2000 + 125 * t + q) = τ 0 (125 * τ 3 t + q) := by
  unfold wy wyf at h
  split at h
  · cases h
  · split at h
    · next e => exact e
    · split at h <;> cases h
theorem wy_2 {t q : Nat} (h : wy τ t q = 2) : 0 < τ 0 (125 * τ 3 t + q) ∧ 0 < τ 0 (125 * τ 1 0 + q) ∧ 0 < τ 0 (2000 + 125 * t + q) ∧ τ 6 (τ 0 (2000 + 125 * t + q)) = 1 ∧ τ 10 (τ 0 (125 * τ 3 t + q)) = τ 10 (τ 0 (2000 + 125 * t + q)) ∧ τ 0 (2000 + 125 * t + q) ≠ τ 0 (125 * τ 3 t + q) := by
  unfold wy wyf at h
  split at h
  · cases h
  · split at h
    · cases h
    · next e =>
      split at h
      · next c => exact ⟨c.1.1, c.1.2.1, c.1.2.2.1, c.1.2.2.2.2.2, c.2.2, e⟩
      · cases h
theorem own_rat (hz : pZ τ) {t q : Nat} (ht : t < 3) (hq : q < 125) : τ 0 (2000 + 125 * t + q) = rat τ (16 + t) q := by
  rw [← rat_z hz (by omega) hq]
  congr 1
  omega
theorem jn_o {t q f : Nat} (h1 : f ≠ 11) (h2 : f ≠ 13) : jn τ t q f = τ f := by
  unfold jn
  rw [sp_o h1, sp_o h2]
theorem jn_n {t q f j : Nat} (h : j ≠ τ 0 (2000 + 125 * t + q)) : jn τ t q f j = τ f j := by
  unfold jn
  rw [sp_at, if_neg (fun z => h z.2), sp_at, if_neg (fun z => h z.2)]
theorem jn_13 {t q : Nat} : jn τ t q 13 (τ 0 (2000 + 125 * t + q)) = τ 0 (125 * τ 1 0 + q) := by
  unfold jn
  rw [sp_o (by decide), sp_s]
theorem jn_11 {t q : Nat} : jn τ t q 11 (τ 0 (2000 + 125 * t + q)) = τ 11 (τ 0 (125 * τ 1 0 + q)) + 1 := by
  unfold jn
  rw [sp_s]
theorem AG_jn {t q p : Nat} : AG t q (jn τ t p) τ := ⟨fun w _ _ => by rw [jn_o (by decide) (by decide)], fun j _ => by rw [jn_o (by decide) (by decide)], fun f _ h1 h2 => jn_o h1 h2⟩
theorem rat_tkn (hz : pZ τ) {t q k w : Nat} (hk : k < 19) (ht : t < 3) (hy : τ 1 0 ≤ 15) : rat (tkn τ t q 125) k w = if k = 16 + t ∧ pun w q = true then rat τ (τ 1 0) w else rat τ k w := by
  unfold rat
  by_cases hp : pgb w = true
  · have hw := (pgb_t.mp hp).1
    rw [if_pos hp, if_pos hp, if_pos hp, tkn_at]
    by_cases c : k = 16 + t ∧ pun w q = true
    · obtain ⟨rfl, c⟩ := c
      have e : 125 * (16 + t) + w - (2000 + 125 * t) = w := by omega
      rw [e, if_pos ⟨by omega, by omega, by rw [hp, c]; rfl⟩, if_pos ⟨rfl, c⟩]
    · rw [if_neg c, if_neg]
      rintro ⟨z1, z2, z3⟩
      have : k = 16 + t := by omega
      subst this
      rw [show 125 * (16 + t) + w - (2000 + 125 * t) = w by omega] at z3
      simp only [Bool.and_eq_true] at z3
      exact c ⟨rfl, z3.2⟩
  · rw [if_neg hp, if_neg hp, if_neg hp]
    split <;> rfl
theorem inv_tkn {t q : Nat} (h : INV τ t) (ht : t < 3) (ho : τ 2 t ≠ 0) (hg : pgb q = true) (h0 : 0 < q) (hp : 0 < rat τ (16 + t) (pp q)) (hp6 : τ 6 (rat τ (16 + t) (pp q)) = 1) : INV (tkn τ t q 125) t := by
  obtain ⟨g1, g2, g3, g4⟩ := h.2.2.2.2.2.2 t ht ho
  have hy : τ 1 0 ≤ 15 := h.2.1.1
  obtain ⟨y1, y2⟩ := h.2.2.2.2.2.1 (τ 1 0) (Nat.le_refl _)
  have h12 := h.2.2.1.1.2.2.1
  have R : ∀ w, rat (tkn τ t q 125) (16 + t) w = if pun w q = true then rat τ (τ 1 0) w else rat τ (16 + t) w := fun w => by
    rw [rat_tkn h.1 (by omega) ht hy]
    by_cases e : pun w q = true
    · rw [if_pos ⟨rfl, e⟩, if_pos e]
    · rw [if_neg (fun z => e z.2), if_neg e]
  have O : ∀ f, f ≠ 0 → tkn τ t q 125 f = τ f := fun f hf => tkn_o hf
  have n0 : ¬ pun 0 q = true := fun z => by
    have := pun_pd (by decide) (pgb_t.mp hg).1 z
    have := pd_pos h0
    have : pd 0 = 0 := rfl
    omega
  have hdp := pp_d hg h0
  have ppn : ¬ pun (pp q) q = true := fun z => by
    have := pun_pd (pgb_t.mp (pp_good hg)).1 (pgb_t.mp hg).1 z
    omega
  refine inv_tree h ht O (pZ_tkn h.1 hy) (fun k w hk hne => by rw [rat_tkn h.1 hk ht hy, if_neg (fun z => hne z.1)]) ⟨⟨?_, fun w w0 hw => ?_⟩, fun w => ?_, fun w p h1 h2 => ?_, fun hs => absurd rfl hs⟩
  · rw [R, if_neg n0, O 6 (by decide), O 10 (by decide), O 14 (by decide)]
    exact g1.1
  · rw [R] at hw
    by_cases e : pun w q = true
    · rw [if_pos e] at hw
      have hgw := rat_good (σ := τ) (k := τ 1 0) (p := w) (by omega)
      by_cases e2 : w = q
      · subst e2
        rw [R, if_neg ppn, O 6 (by decide)]
        exact ⟨hp, hp6⟩
      · rw [R, if_pos (pun_up hgw hg e e2).1, O 6 (by decide)]
        exact y1.2 w w0 hw
    · rw [if_neg e] at hw
      have hgw := rat_good (σ := τ) (k := 16 + t) (p := w) (by omega)
      rw [R, if_neg (fun z => e (pun_dn hgw z hg)), O 6 (by decide)]
      exact g1.2 w w0 hw
  · rw [R, O 12 (by decide)]
    split
    · exact Or.inl (y2 w)
    · exact g2 w
  · rw [R, O 12 (by decide)] at h1
    rw [R, R] at h2
    by_cases e1 : pun w q = true
    · rw [if_pos e1] at h1
      have := y2 w
      omega
    · rw [if_neg e1] at h1 h2
      by_cases e2 : pun p q = true
      · rw [if_pos e2] at h2
        rw [← h2] at h1
        have := y2 p
        omega
      · rw [if_neg e2] at h2
        exact g3 w p h1 h2
theorem inv_jn {t q : Nat} (h : INV τ t) (ht : t < 3) (hq : q < 125) (hb : 128 ≤ τ 12 (rat τ (16 + t) q)) : INV (jn τ t q) t := by
  obtain ⟨hz, hB, hN, hV, hS, hT⟩ := h
  have eo := own_rat hz ht hq
  have hy := hB.1
  have ey := rat_z hz (k := τ 1 0) (by omega) hq
  have y2 := (hT.1 (τ 1 0) (Nat.le_refl _)).2 q
  obtain ⟨k1, k2, -⟩ := hN.2.2.2 (rat τ (τ 1 0) q)
  obtain ⟨b1, b2, b3, b4, b5, b6, b7, b8⟩ := hN.2.2.2 (rat τ (16 + t) q)
  have hyc := k1 y2
  have hob := b2 hb
  have e13 : ∀ j, jn τ t q 13 j = if j = rat τ (16 + t) q then rat τ (τ 1 0) q else τ 13 j := fun j => by
    by_cases e : j = rat τ (16 + t) q
    · rw [if_pos e, e, ← eo, jn_13, ey]
    · rw [if_neg e, jn_n (by rw [eo]; exact e)]
  have e11 : ∀ j, jn τ t q 11 j = if j = rat τ (16 + t) q then τ 11 (rat τ (τ 1 0) q) + 1 else τ 11 j := fun j => by
    by_cases e : j = rat τ (16 + t) q
    · rw [if_pos e, e, ← eo, jn_11, ey]
    · rw [if_neg e, jn_n (by rw [eo]; exact e)]
  have O : ∀ f, f ≠ 11 → f ≠ 13 → jn τ t q f = τ f := fun f h1 h2 => jn_o h1 h2
  have hne : rat τ (16 + t) q ≠ 0 := fun z => by rw [z, hN.1.2.2.1] at hb; omega
  generalize jn τ t q = F at e13 e11 O
  have o0 := O 0 (by decide) (by decide)
  have o1 := O 1 (by decide) (by decide)
  have o4 := O 4 (by decide) (by decide)
  have o6 := O 6 (by decide) (by decide)
  have o10 := O 10 (by decide) (by decide)
  have o12 := O 12 (by decide) (by decide)
  have o14 := O 14 (by decide) (by decide)
  have o16 := O 16 (by decide) (by decide)
  have rr : ∀ k q, rat F k q = rat τ k q := fun k q => rat_c (fun j _ => by rw [o0]) q
  refine ⟨⟨?_, fun j => ?_, ?_⟩, ?_, ⟨?_, ?_, ?_, fun j => ?_⟩, fun j hj => ?_, ?_, TF_c hz hT o0 (by rw [o1]) (O 2 (by decide) (by decide)) (O 3 (by decide) (by decide)) (fun j _ => by rw [o6, o10, o12, o14]; exact ⟨rfl, rfl, rfl, rfl⟩)⟩
  · rw [o0, o4]; exact hz.1
  · rw [e13, o4]
    split
    · exact rat_le hz
    · exact hz.2.1 j
  · rw [o0]; exact hz.2.2
  · unfold BF
    rw [o1, o4, O 3 (by decide) (by decide), O 5 (by decide) (by decide)]
    exact hB
  · rw [o6, o10, o12, o14, e13, if_neg (fun z => hne z.symm), O 15 (by decide) (by decide)]
    exact hN.1
  · rw [o4, o14, O 8 (by decide) (by decide)]; exact hN.2.1
  · rw [o4, o6]; exact hN.2.2.1
  · obtain ⟨g1, g2, g3, g4, g5, g6, g7, g8⟩ := hN.2.2.2 j
    unfold NB
    rw [o1, o6, o10, o12, o16, O 5 (by decide) (by decide), O 7 (by decide) (by decide), O 8 (by decide) (by decide), O 9 (by decide) (by decide), O 15 (by decide) (by decide), e11, e13]
    by_cases e : j = rat τ (16 + t) q
    · rw [if_pos e, if_pos e]
      rw [e]
      exact ⟨fun z => by omega, fun _ => ⟨hob.1, hob.2.1, by omega⟩, b3, b4, b5, fun _ => ⟨y2, by omega⟩, b7, b8⟩
    · rw [if_neg e, if_neg e]
      exact ⟨g1, g2, g3, g4, g5, g6, g7, g8⟩
  · rw [o14] at hj ⊢
    rw [o1, rr]
    exact hV j hj
  · unfold SF
    rw [o16, O 17 (by decide) (by decide), O 18 (by decide) (by decide), O 19 (by decide) (by decide), O 20 (by decide) (by decide)]
    exact hS
/-! joining goes past what happens below -/
theorem upf_sp {F : Nat → Nat} {f g k v : Nat} (h : f ≠ g) : upf (sp τ f k v) g F = sp (upf τ g F) f k v := by
  funext i j
  unfold sp upf
  by_cases e : i = g
  · subst e
    rw [if_pos rfl, if_neg (fun z => h z.symm), if_pos rfl]
  · rw [if_neg e]
    by_cases e2 : i = f
    · subst e2
      rw [if_pos rfl, if_pos rfl, if_neg e]
    · rw [if_neg e2, if_neg e2, if_neg e]
theorem jn_tkn {t p q : Nat} (hy : τ 1 0 ≤ 15) (hp : p < 125) (h : pun p q = false) : tkn (jn τ t p) t q 125 = jn (tkn τ t q 125) t p := by
  have e1 : tkn τ t q 125 0 (2000 + 125 * t + p) = τ 0 (2000 + 125 * t + p) := by
    rw [tkn_at, if_neg]
    rintro ⟨-, -, z⟩
    rw [show 2000 + 125 * t + p - (2000 + 125 * t) = p by omega, h] at z
    simp at z
  have e2 : tkn τ t q 125 0 (125 * τ 1 0 + p) = τ 0 (125 * τ 1 0 + p) := by rw [tkn_at, if_neg (by omega)]
  have e3 : tkn τ t q 125 1 = τ 1 := tkn_o (by decide)
  have e4 : tkn τ t q 125 11 = τ 11 := tkn_o (by decide)
  unfold jn
  rw [e3, e1, e2, e4]
  unfold tkn rng
  rw [upf_sp (by decide), upf_sp (by decide)]
  rfl
theorem jn_jn {t p q : Nat} (hz : pZ τ) (ht : t < 3) (hp : p < 125) (hq : q < 125) (hy : τ 1 0 ≤ 15) (h1 : rat τ (16 + t) p ≠ rat τ (16 + t) q) (h2 : rat τ (16 + t) p ≠ rat τ (τ 1 0) q) (h3 : rat τ (16 + t) q ≠ rat τ (τ 1 0) p) : jn (jn τ t p) t q = jn (jn τ t q) t p := by
  have ep := own_rat hz ht hp
  have eq := own_rat hz ht hq
  have yp := rat_z hz (k := τ 1 0) (by omega) hp
  have yq := rat_z hz (k := τ 1 0) (by omega) hq
  have a : ∀ x, jn τ t x 0 = τ 0 := fun x => jn_o (by decide) (by decide)
  have b : ∀ x, jn τ t x 1 = τ 1 := fun x => jn_o (by decide) (by decide)
  have c1 : jn τ t p 11 (τ 0 (125 * τ 1 0 + q)) = τ 11 (τ 0 (125 * τ 1 0 + q)) := jn_n (by rw [ep, yq]; exact fun z => h2 z.symm)
  have c2 : jn τ t q 11 (τ 0 (125 * τ 1 0 + p)) = τ 11 (τ 0 (125 * τ 1 0 + p)) := jn_n (by rw [eq, yp]; exact fun z => h3 z.symm)
  have L : jn (jn τ t p) t q = sp (sp (jn τ t p) 13 (jn τ t p 0 (2000 + 125 * t + q)) (jn τ t p 0 (125 * jn τ t p 1 0 + q))) 11 (jn τ t p 0 (2000 + 125 * t + q)) (jn τ t p 11 (jn τ t p 0 (125 * jn τ t p 1 0 + q)) + 1) := rfl
  have R : jn (jn τ t q) t p = sp (sp (jn τ t q) 13 (jn τ t q 0 (2000 + 125 * t + p)) (jn τ t q 0 (125 * jn τ t q 1 0 + p))) 11 (jn τ t q 0 (2000 + 125 * t + p)) (jn τ t q 11 (jn τ t q 0 (125 * jn τ t q 1 0 + p)) + 1) := rfl
  rw [a p, b p, c1] at L
  rw [a q, b q, c2] at R
  rw [L, R]
  unfold jn
  rw [← ep, ← eq] at h1
  generalize τ 0 (2000 + 125 * t + p) = P at *
  generalize τ 0 (2000 + 125 * t + q) = Q at *
  funext f j
  simp only [sp_at]
  by_cases f1 : f = 11
  · subst f1
    by_cases j1 : j = Q
    · subst j1
      simp [h1.symm]
    · by_cases j2 : j = P
      · subst j2
        simp [h1]
      · simp [j1, j2]
  · by_cases f2 : f = 13
    · subst f2
      by_cases j1 : j = Q
      · subst j1
        simp [h1.symm]
      · by_cases j2 : j = P
        · subst j2
          simp [h1]
        · simp [j1, j2]
    · simp [f1, f2]
end MR
