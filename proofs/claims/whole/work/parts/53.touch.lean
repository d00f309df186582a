/-! touching keeps the invariant; what it costs -/
section TCH
variable {σ τ : SS}
theorem nod1_v {t w old : Nat} : nod1 σ t w old 6 (σ 4 0 + 1) = w ∧ nod1 σ t w old 12 (σ 4 0 + 1) = 255 - t ∧ nod1 σ t w old 13 (σ 4 0 + 1) = old ∧ nod1 σ t w old 11 (σ 4 0 + 1) = σ 11 old + 1 ∧ nod1 σ t w old 7 (σ 4 0 + 1) = σ 7 old ∧ nod1 σ t w old 9 (σ 4 0 + 1) = σ 9 old ∧ nod1 σ t w old 15 (σ 4 0 + 1) = σ 15 old ∧ nod1 σ t w old 10 (σ 4 0 + 1) = σ 10 old ∧ nod1 σ t w old 8 = σ 8 ∧ nod1 σ t w old 14 = σ 14 := by
  refine ⟨?_, ?_, ?_, ?_, ?_, ?_, ?_, ?_, ?_, ?_⟩
  · simp [nod1, sp_at]
  · simp [nod1, sp_at]
  · simp [nod1, sp_at]
  · simp [nod1, sp_at]
  · simp [nod1, sp_at]
  · simp [nod1, sp_at]
  · simp [nod1, sp_at]
  · simp [nod1, sp_at]
  · funext j; simp [nod1, sp_at]
  · funext j; simp [nod1, sp_at]
theorem nod1_5 {t w old : Nat} : nod1 σ t w old 5 = σ 5 := nod1_r (by decide) (by decide)
theorem NX_nod1 {t w old : Nat} : NX σ (nod1 σ t w old) := ⟨nod1_4, fun f h4 h5 h => nod1_r h4 h, fun f j h6 h15 hj => nod1_n h6 hj, by rw [nod1_5]; exact Nat.le_refl _, by rw [nod1_5]; omega⟩
/-- a node of transaction t behind a committed one -/
theorem inv_nod1 {s t old : Nat} (h : INV σ s) (ht : t < 3) (h0 : 0 < old) (ho : old ≤ σ 4 0) (hb : σ 12 old < 128) : INV (nod1 σ t (σ 6 old) old) s := by
  obtain ⟨v6, v12, v13, v11, v7, v9, v15, v10, v8, v14⟩ := nod1_v (σ := σ) (t := t) (w := σ 6 old) (old := old)
  have hN := h.2.2.1
  obtain ⟨g1, g2, g3, g4, g5, g6, g7, g8⟩ := hN.2.2.2 old
  have hm := hN.2.1 (σ 4 0 + 1) (by omega)
  refine NX_inv h NX_nod1 rfl (by rw [v13]; exact ho) (by rw [v6]; exact hN.2.2.1 old h0 ho) ?_ (fun z => absurd (by rw [v14]; exact hm.2) z)
  unfold NB
  rw [v12, v11, v7, v9, v10, v13, v15, v6, v8, nod1_r (by decide) (by decide), nod1_r (f := 5) (by decide) (by decide), nod1_r (f := 16) (by decide) (by decide), nod1_n (f := 12) (by decide) (by omega)]
  have := g1 hb
  exact ⟨fun z => by omega, fun _ => by omega, g3, g4, g5, fun _ => ⟨hb, by omega⟩, g7, fun z => ⟨(g8 z).1, hm.1⟩⟩
theorem tst_t {t q : Nat} (h : σ 12 (rat σ (16 + t) q) < 128) : tst σ t q = plc (nod1 σ t (σ 6 (rat σ (16 + t) q)) (rat σ (16 + t) q)) t q (σ 4 0 + 1) := if_pos h
theorem tst_f {t q : Nat} (h : ¬ σ 12 (rat σ (16 + t) q) < 128) : tst σ t q = σ := if_neg h
theorem rat_nod1 {t w old k q : Nat} : rat (nod1 σ t w old) k q = rat σ k q := rat_c (fun j _ => by rw [nod1_r (by decide) (by decide)]) q
theorem inv_tst {s t q : Nat} (h : INV σ s) (ht : t < 3) (ho : σ 2 t ≠ 0) (hq : 0 < rat σ (16 + t) q) : INV (tst σ t q) s := by
  by_cases hb : σ 12 (rat σ (16 + t) q) < 128
  · rw [tst_t hb]
    have hle := inv_le h (k := 16 + t) (q := q)
    have h1 := inv_nod1 (t := t) h ht hq hle hb
    obtain ⟨v6, v12, v13, v11, v7, v9, v15, v10, v8, v14⟩ := nod1_v (σ := σ) (t := t) (w := σ 6 (rat σ (16 + t) q)) (old := rat σ (16 + t) q)
    have hm := h.2.2.1.2.1 (σ 4 0 + 1) (by omega)
    refine inv_rep h1 ht (by rw [nod1_r (by decide) (by decide)]; exact ho) (by rw [rat_nod1]; exact hq) (by omega) (by rw [nod1_4]; exact Nat.le_refl _) v12 ?_ ?_ (by rw [v14]; exact hm.2) (fun p => ?_)
    · rw [v6, rat_nod1, nod1_n (by decide) (by omega)]
    · rw [v10, rat_nod1, nod1_n (by decide) (by omega)]
    · rw [rat_nod1]
      have := inv_le h (k := 16 + t) (q := p)
      omega
  · rw [tst_f hb]
    exact h
/-- places and births behind a touching -/
theorem tst_rat {t q : Nat} (hz : pZ σ) (hg : pgb q = true) {k w : Nat} (hk : k < 19) : rat (tst σ t q) k w = if k = 16 + t ∧ w = q ∧ σ 12 (rat σ (16 + t) q) < 128 then σ 4 0 + 1 else rat σ k w := by
  by_cases hb : σ 12 (rat σ (16 + t) q) < 128
  · rw [tst_t hb, rat_plc hg hk, rat_nod1]
    by_cases c : k = 16 + t ∧ w = q
    · rw [if_pos c, if_pos ⟨c.1, c.2, hb⟩]
    · rw [if_neg c, if_neg (fun z => c ⟨z.1, z.2.1⟩)]
  · rw [tst_f hb, if_neg (fun z => hb z.2.2)]
theorem tst_o {t q f : Nat} (h4 : f ≠ 4) (h : (0 < f ∧ f < 6) ∨ 15 < f) : tst σ t q f = σ f := by
  by_cases hb : σ 12 (rat σ (16 + t) q) < 128
  · rw [tst_t hb, plc_o (by omega), nod1_r h4 (by omega)]
  · rw [tst_f hb]
theorem tst_n {t q f n : Nat} (h6 : 6 ≤ f) (hn : n ≤ σ 4 0) : tst σ t q f n = σ f n := by
  by_cases hb : σ 12 (rat σ (16 + t) q) < 128
  · rw [tst_t hb, plc_o (by omega), nod1_n h6 (by omega)]
  · rw [tst_f hb]
theorem tst_4 {t q : Nat} : tst σ t q 4 0 = if σ 12 (rat σ (16 + t) q) < 128 then σ 4 0 + 1 else σ 4 0 := by
  by_cases hb : σ 12 (rat σ (16 + t) q) < 128
  · rw [tst_t hb, if_pos hb, plc_o (by decide), nod1_4]
  · rw [tst_f hb, if_neg hb]
theorem tst_8 {t q : Nat} : tst σ t q 8 = σ 8 := by
  by_cases hb : σ 12 (rat σ (16 + t) q) < 128
  · rw [tst_t hb, plc_o (by decide)]
    exact nod1_v.2.2.2.2.2.2.2.2.1
  · rw [tst_f hb]
theorem tst_12 {t q : Nat} (h : σ 12 (rat σ (16 + t) q) < 128) : tst σ t q 12 (σ 4 0 + 1) = 255 - t := by
  rw [tst_t h, plc_o (by decide)]
  exact nod1_v.2.1
theorem tst_pos {t q w : Nat} (hz : pZ σ) (hg : pgb q = true) (ht : t < 3) (h : 0 < rat σ (16 + t) w) : 0 < rat (tst σ t q) (16 + t) w := by
  rw [tst_rat hz hg (by omega)]
  split
  · omega
  · exact h
theorem tst_kind {t q w : Nat} (hz : pZ σ) (hg : pgb q = true) (ht : t < 3) : tst σ t q 6 (rat (tst σ t q) (16 + t) w) = σ 6 (rat σ (16 + t) w) := by
  rw [tst_rat hz hg (by omega)]
  split
  · next c =>
    obtain ⟨-, rfl, hb⟩ := c
    rw [tst_t hb, plc_o (by decide)]
    exact nod1_v.1
  · exact tst_n (by decide) (rat_le hz)
/-- the places that are not yet of the transaction -/
def nb (σ : SS) (t q : Nat) : Nat := if σ 12 (rat σ (16 + t) q) < 128 then 1 else 0
def w2 (σ : SS) (t : Nat) : Nat := if σ 2 t = 0 then 1 else 2 * nb σ t 0 + nb σ t 1 + nb σ t 2 + nb σ t 3 + nb σ t 4
def PT (σ : SS) : Nat := 2 * σ 4 0 + w2 σ 0 + w2 σ 1 + w2 σ 2
def cs (d : Nat) : Nat := if d = 0 then 0 else if d = 1 then 1 else 2
theorem nb_le {t q : Nat} : nb σ t q ≤ 1 := by
  unfold nb
  split <;> omega
theorem w2_le {t : Nat} : w2 σ t ≤ 6 := by
  unfold w2
  have h0 := nb_le (σ := σ) (t := t) (q := 0)
  have h1 := nb_le (σ := σ) (t := t) (q := 1)
  have h2 := nb_le (σ := σ) (t := t) (q := 2)
  have h3 := nb_le (σ := σ) (t := t) (q := 3)
  have h4 := nb_le (σ := σ) (t := t) (q := 4)
  split <;> omega
theorem nb_c {t : Nat} {q : Nat} (h : τ 12 (rat τ (16 + t) q) = σ 12 (rat σ (16 + t) q)) : nb τ t q = nb σ t q := by
  unfold nb
  rw [h]
theorem w2_c {t : Nat} (h2 : τ 2 t = σ 2 t) (h : ∀ q, τ 12 (rat τ (16 + t) q) = σ 12 (rat σ (16 + t) q)) : w2 τ t = w2 σ t := by
  unfold w2
  rw [h2, nb_c (h 0), nb_c (h 1), nb_c (h 2), nb_c (h 3), nb_c (h 4)]
theorem nb_tst {t q u w : Nat} (hz : pZ σ) (hg : pgb q = true) (ht : t < 3) (hu : u < 3) : nb (tst σ t q) u w = if u = t ∧ w = q then 0 else nb σ u w := by
  have hr := tst_rat (t := t) (q := q) hz hg (k := 16 + u) (w := w) (by omega)
  unfold nb
  by_cases c : u = t ∧ w = q
  · rw [if_pos c]
    obtain ⟨rfl, rfl⟩ := c
    by_cases hb : σ 12 (rat σ (16 + u) w) < 128
    · rw [if_pos ⟨rfl, rfl, hb⟩] at hr
      rw [hr, tst_12 hb, if_neg (by omega)]
    · rw [tst_f hb, if_neg hb]
  · rw [if_neg c]
    rw [if_neg (fun z => c ⟨by omega, z.2.1⟩)] at hr
    rw [hr, tst_n (by decide) (rat_le hz)]
theorem w2_tst {t q u : Nat} (hz : pZ σ) (hg : pgb q = true) (ht : t < 3) (hu : u < 3) (hut : u ≠ t) : w2 (tst σ t q) u = w2 σ u := by
  have N : ∀ w, nb (tst σ t q) u w = nb σ u w := fun w => by rw [nb_tst hz hg ht hu, if_neg (fun z => hut z.1)]
  unfold w2
  rw [tst_o (by decide) (by decide), N, N, N, N, N]
theorem w2_tst' {t q : Nat} (hz : pZ σ) (hg : pgb q = true) (ht : t < 3) (ho : σ 2 t ≠ 0) : 2 * nb σ t q + w2 (tst σ t q) t ≤ w2 σ t + cs (pd q) := by
  have hq := (pgb_t.mp hg).1
  have hn := nb_le (σ := σ) (t := t) (q := q)
  have N : ∀ w, w ≠ q → nb (tst σ t q) t w = nb σ t w := fun w hw => by rw [nb_tst hz hg ht ht, if_neg (fun z => hw z.2)]
  have N0 : nb (tst σ t q) t q = 0 := by rw [nb_tst hz hg ht ht, if_pos ⟨rfl, rfl⟩]
  have o2 : tst σ t q 2 t = σ 2 t := by rw [tst_o (by decide) (by decide)]
  unfold w2
  rw [o2, if_neg ho, if_neg ho]
  by_cases q0 : q = 0
  · subst q0
    rw [N0, N 1 (by decide), N 2 (by decide), N 3 (by decide), N 4 (by decide)]
    omega
  · rw [N 0 (fun z => q0 z.symm)]
    have hd := pd_pos (p := q) (by omega)
    by_cases q5 : q < 5
    · have hc : cs (pd q) = 1 := by
        have : pd q = 1 := by unfold pd; rw [if_neg q0, if_pos q5]
        rw [this]; rfl
      rw [hc]
      rcases (show q = 1 ∨ q = 2 ∨ q = 3 ∨ q = 4 by omega) with rfl | rfl | rfl | rfl
      · rw [N0, N 2 (by decide), N 3 (by decide), N 4 (by decide)]; omega
      · rw [N0, N 1 (by decide), N 3 (by decide), N 4 (by decide)]; omega
      · rw [N0, N 1 (by decide), N 2 (by decide), N 4 (by decide)]; omega
      · rw [N0, N 1 (by decide), N 2 (by decide), N 3 (by decide)]; omega
    · have hc : cs (pd q) = 2 := by
        have : pd q ≠ 1 := by unfold pd; rw [if_neg q0, if_neg q5]; split <;> omega
        unfold cs
        rw [if_neg (by omega), if_neg this]
      rw [hc, N 1 (by omega), N 2 (by omega), N 3 (by omega), N 4 (by omega)]
      omega
theorem PT_tst {t q : Nat} (hz : pZ σ) (hg : pgb q = true) (ht : t < 3) (ho : σ 2 t ≠ 0) : PT (tst σ t q) ≤ PT σ + cs (pd q) := by
  have h1 := w2_tst' hz hg ht ho
  have h4 : tst σ t q 4 0 = σ 4 0 + nb σ t q := by
    rw [tst_4]
    unfold nb
    split <;> omega
  unfold PT
  rw [h4]
  rcases (show t = 0 ∨ t = 1 ∨ t = 2 by omega) with rfl | rfl | rfl
  · rw [w2_tst hz hg ht (u := 1) (by omega) (by omega), w2_tst hz hg ht (u := 2) (by omega) (by omega)]; omega
  · rw [w2_tst hz hg ht (u := 0) (by omega) (by omega), w2_tst hz hg ht (u := 2) (by omega) (by omega)]; omega
  · rw [w2_tst hz hg ht (u := 0) (by omega) (by omega), w2_tst hz hg ht (u := 1) (by omega) (by omega)]; omega
/-- the texts written and not yet stored -/
def cw (σ : SS) : Nat → Nat
  | 0 => 0
  | n + 1 => cw σ n + if 128 ≤ σ 12 (n + 1) ∧ σ 8 (n + 1) ≠ 0 then 1 else 0
theorem cw_c {n : Nat} : (∀ j, j ≤ n → τ 12 j = σ 12 j ∧ τ 8 j = σ 8 j) → cw τ n = cw σ n := by
  induction n with
  | zero => intro _; rfl
  | succ n ih =>
    intro h
    show cw τ n + _ = cw σ n + _
    rw [ih (fun j hj => h j (by omega)), (h (n + 1) (by omega)).1, (h (n + 1) (by omega)).2]
def CW (σ : SS) : Nat := σ 16 0 + cw σ (σ 4 0)
theorem cw_s {n : Nat} (h : σ 8 (n + 1) = 0) : cw σ (n + 1) = cw σ n := by
  show cw σ n + _ = _
  rw [if_neg (fun z => z.2 h)]
  rfl
theorem CW_tst {s t q : Nat} (h : INV σ s) : CW (tst σ t q) = CW σ := by
  unfold CW
  rw [tst_o (by decide) (by decide), tst_4]
  have hm := h.2.2.1.2.1 (σ 4 0 + 1) (by omega)
  have e : cw (tst σ t q) (σ 4 0) = cw σ (σ 4 0) := cw_c (fun j hj => ⟨tst_n (by decide) hj, by rw [tst_8]⟩)
  split
  · rw [cw_s (by rw [tst_8]; exact hm.1), e]
  · rw [e]
/-- what a touching gives, whole -/
def tcs (n : Nat) : Nat := if n = 0 then 0 else if n = 1 then 1 else if n = 2 then 3 else 5
theorem tch_1 {s t q : Nat} (ht : t < 3) (h : INV σ s) (ho : σ 2 t ≠ 0) (hq : 0 < rat σ (16 + t) q) (hN : σ 4 0 + 1 < 1300) : tok1 σ t q ∧ INV (tst σ t q) s ∧ PT (tst σ t q) ≤ PT σ + cs (pd q) ∧ CW (tst σ t q) = CW σ ∧ tst σ t q 4 0 ≤ σ 4 0 + 1 := by
  have hg := rat_good (σ := σ) (k := 16 + t) (p := q) (by omega)
  have hq5 := (pgb_t.mp hg).1
  have hle := inv_le h (k := 16 + t) (q := q)
  obtain ⟨g1, g2, g3, g4, g5, g6, g7, g8⟩ := h.2.2.1.2.2.2 (rat σ (16 + t) q)
  have hy := h.2.1.1
  have hkd := h.2.2.1.2.2.1 _ hq hle
  refine ⟨⟨hq5, hq, by omega, ?_, fun hb => ⟨by omega, ?_, by omega, by omega⟩⟩, inv_tst h ht ho hq, PT_tst h.1 hg ht ho, CW_tst h, ?_⟩
  · rcases Nat.lt_or_ge (σ 12 (rat σ (16 + t) q)) 128 with z | z
    · omega
    · have := g2 z; omega
  · have := g1 hb; omega
  · rw [tst_4]
    split <;> omega
theorem tch_all {s t : Nat} (ht : t < 3) : ∀ n (σ : SS) (q : Nat), INV σ s → σ 2 t ≠ 0 → 0 < rat σ (16 + t) q → pd q = n → σ 4 0 + n + 1 < 1300 → tok n σ t q ∧ INV (tch n σ t q) s ∧ PT (tch n σ t q) ≤ PT σ + tcs n ∧ CW (tch n σ t q) = CW σ ∧ tch n σ t q 4 0 ≤ σ 4 0 + n + 1 ∧ (∀ f, f ≠ 4 → (0 < f ∧ f < 6) ∨ 15 < f → tch n σ t q f = σ f) ∧ ∀ w, (0 < rat σ (16 + t) w → 0 < rat (tch n σ t q) (16 + t) w) ∧ tch n σ t q 6 (rat (tch n σ t q) (16 + t) w) = σ 6 (rat σ (16 + t) w) := by
  intro n
  induction n with
  | zero =>
    intro σ q h ho hq hd hN
    obtain ⟨a1, a2, a3, a4, a5⟩ := tch_1 ht h ho hq (by omega)
    have hg := rat_good (σ := σ) (k := 16 + t) (p := q) (by omega)
    rw [hd] at a3
    exact ⟨a1, a2, a3, a4, by show tst σ t q 4 0 ≤ _; omega, fun f h4 hf => tst_o h4 hf, fun w => ⟨tst_pos h.1 hg ht, tst_kind h.1 hg ht⟩⟩
  | succ n ih =>
    intro σ q h ho hq hd hN
    obtain ⟨a1, a2, a3, a4, a5⟩ := tch_1 ht h ho hq (by omega)
    have hg := rat_good (σ := σ) (k := 16 + t) (p := q) (by omega)
    rw [hd] at a3
    have h0 := pos_of_pd hd
    have hpd := pp_d hg h0
    have ho1 : tst σ t q 2 t ≠ 0 := by rw [tst_o (by decide) (by decide)]; exact ho
    have hpq := ((h.2.2.2.2.2.2 t ht ho).1.2 q h0 hq).1
    obtain ⟨r1, r2, r3, r4, r5, r6, r7⟩ := ih (tst σ t q) (pp q) a2 ho1 (tst_pos h.1 hg ht hpq) (by omega) (by omega)
    have hn3 := pd_le q
    refine ⟨⟨⟨a1, hd⟩, r1⟩, r2, ?_, r4.trans a4, by show tch n (tst σ t q) t (pp q) 4 0 ≤ _; omega, fun f hf4 hf => (r6 f hf4 hf).trans (tst_o hf4 hf), fun w => ⟨fun hw => (r7 w).1 (tst_pos h.1 hg ht hw), (r7 w).2.trans (tst_kind h.1 hg ht)⟩⟩
    show PT (tch n (tst σ t q) t (pp q)) ≤ _
    have : cs (n + 1) + tcs n ≤ tcs (n + 1) := by
      rcases (show n = 0 ∨ n = 1 ∨ n = 2 by omega) with rfl | rfl | rfl <;> decide
    omega
end TCH
