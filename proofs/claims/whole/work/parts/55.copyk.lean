/-! copy keeps the invariant -/
section CPK
variable {σ τ : SS}
theorem cp3_r {t r f g : Nat} (h4 : g ≠ 4) (h5 : g ≠ 5) (h : g < 6 ∨ 15 < g) : cp3 σ t r f g = σ g := by
  unfold cp3
  rw [sp_o (by omega), sp_o (by omega), sp_o (by omega), nod1_r h4 h]
theorem cp3_n {t r f g j : Nat} (h6 : 6 ≤ g) (hj : j ≠ σ 4 0 + 1) : cp3 σ t r f g j = σ g j := by
  unfold cp3
  rw [sp_at, if_neg (fun z => hj z.2), sp_at, if_neg (fun z => hj z.2), sp_o (by omega), nod1_n h6 hj]
theorem cp3_4 {t r f : Nat} : cp3 σ t r f 4 0 = σ 4 0 + 1 := by
  unfold cp3
  rw [sp_o (by decide), sp_o (by decide), sp_o (by decide), nod1_4]
theorem cp3_5 {t r f : Nat} : cp3 σ t r f 5 0 = σ 5 0 + 1 := by
  unfold cp3
  rw [sp_o (by decide), sp_o (by decide), sp_s]
theorem cp3_v {t r f : Nat} : cp3 σ t r f 6 (σ 4 0 + 1) = σ 6 (rat σ r f) ∧ cp3 σ t r f 12 (σ 4 0 + 1) = 255 - t ∧ cp3 σ t r f 13 (σ 4 0 + 1) = rat σ r f ∧ cp3 σ t r f 11 (σ 4 0 + 1) = σ 11 (rat σ r f) + 1 ∧ cp3 σ t r f 7 (σ 4 0 + 1) = σ 7 (rat σ r f) ∧ cp3 σ t r f 9 (σ 4 0 + 1) = σ 9 (rat σ r f) ∧ cp3 σ t r f 15 (σ 4 0 + 1) = σ 15 (rat σ r f) ∧ cp3 σ t r f 10 (σ 4 0 + 1) = σ 5 0 + 1 ∧ cp3 σ t r f 8 = σ 8 ∧ cp3 σ t r f 14 (σ 4 0 + 1) = 125 * r + f + 1 := by
  obtain ⟨v6, v12, v13, v11, v7, v9, v15, v10, v8, v14⟩ := nod1_v (σ := σ) (t := t) (w := σ 6 (rat σ r f)) (old := rat σ r f)
  unfold cp3
  refine ⟨?_, ?_, ?_, ?_, ?_, ?_, ?_, ?_, ?_, ?_⟩
  · rw [sp_o (by decide), sp_o (by decide), sp_o (by decide), v6]
  · rw [sp_o (by decide), sp_o (by decide), sp_o (by decide), v12]
  · rw [sp_o (by decide), sp_o (by decide), sp_o (by decide), v13]
  · rw [sp_o (by decide), sp_o (by decide), sp_o (by decide), v11]
  · rw [sp_o (by decide), sp_o (by decide), sp_o (by decide), v7]
  · rw [sp_o (by decide), sp_o (by decide), sp_o (by decide), v9]
  · rw [sp_o (by decide), sp_o (by decide), sp_o (by decide), v15]
  · rw [sp_o (by decide), sp_s]
  · rw [sp_o (by decide), sp_o (by decide), sp_o (by decide), v8]
  · rw [sp_s]
theorem NX_cp3 {t r f : Nat} : NX σ (cp3 σ t r f) := ⟨cp3_4, fun g h4 h5 h => cp3_r h4 h5 h, fun g j h6 _ hj => cp3_n h6 hj, by rw [cp3_5]; omega, by rw [cp3_5]; omega⟩
theorem inv_cp3 {s t r f : Nat} (h : INV σ s) (ht : t < 3) (hr : r ≤ σ 1 0) (hf : 0 < rat σ r f) : INV (cp3 σ t r f) s := by
  obtain ⟨v6, v12, v13, v11, v7, v9, v15, v10, v8, v14⟩ := cp3_v (σ := σ) (t := t) (r := r) (f := f)
  have hf5 := rat_lt125 (σ := σ) (s := r) (n := f) (by omega)
  have hm := h.2.2.1.2.1 (σ 4 0 + 1) (by omega)
  have hle := inv_le h (k := r) (q := f)
  have hb := (h.2.2.2.2.2.1 r hr).2 f
  obtain ⟨g1, g2, g3, g4, g5, g6, g7, g8⟩ := h.2.2.1.2.2.2 (rat σ r f)
  refine NX_inv h NX_cp3 rfl (by rw [v13]; exact hle) (by rw [v6]; exact h.2.2.1.2.2.1 _ hf hle) ?_ (fun _ => ?_)
  · unfold NB
    rw [v12, v11, v7, v9, v10, v13, v15, v6, v8, cp3_r (by decide) (by decide) (by decide), cp3_5, cp3_r (g := 16) (by decide) (by decide) (by decide), cp3_n (g := 12) (by decide) (by omega)]
    have := g1 hb
    exact ⟨fun z => by omega, fun _ => by omega, g3, g4, Nat.le_refl _, fun _ => ⟨hb, by omega⟩, g7, fun z => ⟨(g8 z).1, hm.1⟩⟩
  · rw [v14, show (125 * r + f + 1 - 1) / 125 = r by omega, show (125 * r + f + 1 - 1) % 125 = f by omega]
    exact ⟨hr, hf⟩
theorem gff_o {t r f g n : Nat} : ∀ u w (τ : SS) {F : Nat}, F ≠ 0 → gff t r f g n u w τ F = τ F
  | 0, w, τ, F, _ => rfl
  | u + 1, w, τ, F, hF => by
    rw [gff_s, gff_o u (w + 1) _ hF]
    split
    · exact plc_o hF
    · rfl
/-- the places behind the copying: all facts at once -/
theorem gff_all {t r f g n : Nat} (ht : t < 3) (hr : r < 16) (hf : pgb f = true) (hg : pgb g = true) : ∀ u w (τ : SS), pZ τ → n ≤ τ 4 0 → (∀ w, 0 < rat τ r w → pun w f = true → ¬ 3 < pd g + pd w - pd f) → pZ (gff t r f g n u w τ) ∧ (∀ k q, k < 19 → k ≠ 16 + t → rat (gff t r f g n u w τ) k q = rat τ k q) ∧ ∀ q, rat (gff t r f g n u w τ) (16 + t) q = if (w ≤ bk f g q ∧ bk f g q < w + u) ∧ 0 < rat τ r (bk f g q) ∧ pun (bk f g q) f = true ∧ pm (bk f g q) f g = q then (if bk f g q = f then n else rat τ r (bk f g q)) else rat τ (16 + t) q := by
  intro u
  induction u with
  | zero =>
    intro w τ hz hn hd
    exact ⟨hz, fun k q _ _ => rfl, fun q => by rw [if_neg (fun z => by omega)]; rfl⟩
  | succ u ih =>
    intro w τ hz hn hd
    rw [gff_s]
    by_cases c : 0 < rat τ r w ∧ pun w f = true
    · rw [if_pos c]
      have hw := rat_good (σ := τ) (k := r) (p := w) (by omega)
      obtain ⟨p1, p2, p3, p4, p5⟩ := pm_good hw hf hg c.2 (hd w c.1 c.2)
      have hb := bk_pm hw hf hg c.2
      obtain ⟨v, hv⟩ : ∃ v, (if w = f then n else rat τ r w) = v := ⟨_, rfl⟩
      have hvN : v ≤ τ 4 0 := by
        rw [← hv]
        split
        · exact hn
        · exact rat_le hz
      rw [hv]
      have hz1 := pZ_plc (t := t) hz ht p1 hvN
      have R : ∀ q, rat (plc τ t (pm w f g) v) r q = rat τ r q := fun q => by rw [rat_plc p1 (by omega), if_neg (by omega)]
      obtain ⟨i1, i2, i3⟩ := ih (w + 1) (plc τ t (pm w f g) v) hz1 (by rw [plc_o (by decide)]; exact hn) (fun x hx hu => hd x (by rw [← R]; exact hx) hu)
      refine ⟨i1, fun k q hk hne => ?_, fun q => ?_⟩
      · rw [i2 k q hk hne, rat_plc p1 hk, if_neg (fun z => hne z.1)]
      · rw [i3 q, R, rat_plc p1 (by omega)]
        by_cases e : q = pm w f g
        · subst e
          rw [hb, if_neg (fun z => by omega), if_pos ⟨rfl, rfl⟩, if_pos ⟨by omega, c.1, c.2, rfl⟩, hv]
        · rw [if_neg (show ¬ (16 + t = 16 + t ∧ q = pm w f g) from fun z => e z.2)]
          by_cases e2 : bk f g q = w
          · rw [if_neg (fun z => by omega), if_neg (fun z => e (by rw [← e2]; exact z.2.2.2.symm))]
          · by_cases c2 : (w + 1 ≤ bk f g q ∧ bk f g q < w + 1 + u) ∧ 0 < rat τ r (bk f g q) ∧ pun (bk f g q) f = true ∧ pm (bk f g q) f g = q
            · rw [if_pos c2, if_pos (show (w ≤ bk f g q ∧ bk f g q < w + (u + 1)) ∧ 0 < rat τ r (bk f g q) ∧ pun (bk f g q) f = true ∧ pm (bk f g q) f g = q from ⟨by omega, c2.2⟩)]
            · rw [if_neg c2, if_neg (fun z => c2 ⟨by omega, z.2⟩)]
    · rw [if_neg c]
      obtain ⟨i1, i2, i3⟩ := ih (w + 1) τ hz hn hd
      refine ⟨i1, i2, fun q => ?_⟩
      rw [i3 q]
      by_cases e2 : bk f g q = w
      · rw [if_neg (fun z => by omega), if_neg (fun z => c (by rw [← e2]; exact ⟨z.2.1, z.2.2.1⟩))]
      · by_cases c2 : (w + 1 ≤ bk f g q ∧ bk f g q < w + 1 + u) ∧ 0 < rat τ r (bk f g q) ∧ pun (bk f g q) f = true ∧ pm (bk f g q) f g = q
        · rw [if_pos c2, if_pos (show (w ≤ bk f g q ∧ bk f g q < w + (u + 1)) ∧ 0 < rat τ r (bk f g q) ∧ pun (bk f g q) f = true ∧ pm (bk f g q) f g = q from ⟨by omega, c2.2⟩)]
        · rw [if_neg c2, if_neg (fun z => c2 ⟨by omega, z.2⟩)]
theorem cpb_all {t r f g : Nat} (h : cpb σ t r f g = true) : rmb σ t g = true ∧ r < 16 ∧ 0 < rat σ r f ∧ cof σ r f g 125 0 = true := by
  unfold cpb at h
  simp only [Bool.and_eq_true, decide_eq_true_eq] at h
  exact ⟨h.1.1.1, h.1.1.2, by omega, h.2⟩
theorem cp4_inv {t r f g : Nat} (h : INV σ 3) (hc : cpb σ t r f g = true) (hr : r ≤ σ 1 0) : INV (cp4 σ t r f g) 3 ∧ PT (cp4 σ t r f g) ≤ PT σ + 2 ∧ CW (cp4 σ t r f g) = CW σ ∧ cp4 σ t r f g 4 0 = σ 4 0 + 1 ∧ (∀ q, pun q g = false → rat (cp4 σ t r f g) (16 + t) q = rat σ (16 + t) q) ∧ (∀ F, F ≠ 0 → cp4 σ t r f g F = cp3 σ t r f F) := by
  obtain ⟨hm, hr6, hf0, hco⟩ := cpb_all hc
  obtain ⟨ht, ho, hg, h0, hq, hp, hp6⟩ := rmb_all hm
  have hf := rat_good (σ := σ) (k := r) (p := f) (by omega)
  have h1 := inv_cp3 (t := t) h ht hr hf0
  obtain ⟨v6, v12, v13, v11, v7, v9, v15, v10, v8, v14⟩ := cp3_v (σ := σ) (t := t) (r := r) (f := f)
  have hco2 : ∀ w, 0 < rat σ r w → pun w f = true → ¬ 3 < pd g + pd w - pd f := fun w hw hu z => by
    have hw5 := rat_lt125 (σ := σ) (s := r) (n := w) (by omega)
    exact cof_of 125 0 hco w (by omega) (by omega) ⟨hw, hu, z⟩
  have hgd := pp_d hg h0
  obtain ⟨g1, g2, g3, g4⟩ := h.2.2.2.2.2.2 t ht ho
  have hT := (h.2.2.2.2.2.1 r hr)
  have hLe : ∀ k q, rat σ k q ≤ σ 4 0 := fun k q => inv_le h
  have h12 := h.2.2.1.1.2.2.1
  have a1 := gff_all (t := t) (r := r) (f := f) (g := g) (n := σ 4 0 + 1) ht hr6 hf hg 125 0 (cp3 σ t r f) h1.1 (by rw [cp3_4]; exact Nat.le_refl _) (fun w hw hu => hco2 w (by rw [rat_cp3] at hw; exact hw) hu)
  have a0 : ∀ F, F ≠ 0 → gff t r f g (σ 4 0 + 1) 125 0 (cp3 σ t r f) F = cp3 σ t r f F := fun F hF => gff_o 125 0 _ hF
  rw [cp4_e]
  generalize gff t r f g (σ 4 0 + 1) 125 0 (cp3 σ t r f) = G at a0 a1
  obtain ⟨z1, z2, z3⟩ := a1
  have n0 : ∀ q, q ≤ σ 4 0 → ∀ F, 6 ≤ F → G F q = σ F q := fun q hq F hF => by rw [a0 F (by omega), cp3_n hF (by omega)]
  have m0 : ∀ F, 6 ≤ F → G F (σ 4 0 + 1) = cp3 σ t r f F (σ 4 0 + 1) := fun F hF => by rw [a0 F (by omega)]
  have A : ∀ q, pun q g = false → rat G (16 + t) q = rat σ (16 + t) q := fun q hu => by
    rw [z3 q, if_neg, rat_cp3]
    rintro ⟨-, y1, y2, y3⟩
    rw [rat_cp3] at y1
    have hw := rat_good (σ := σ) (k := r) (p := bk f g q) (by omega)
    have := (pm_good hw hf hg y2 (hco2 _ y1 y2)).2.2.1
    rw [y3, hu] at this
    cases this
  have D : ∀ w, 0 < rat σ r w → pun w f = true → rat G (16 + t) (pm w f g) = if w = f then σ 4 0 + 1 else rat σ r w := fun w hw hu => by
    have hgw := rat_good (σ := σ) (k := r) (p := w) (by omega)
    have hw5 := (pgb_t.mp hgw).1
    rw [z3, bk_pm hgw hf hg hu, rat_cp3, if_pos ⟨by omega, hw, hu, rfl⟩]
  have B : rat G (16 + t) g = σ 4 0 + 1 := by
    have := D f hf0 (pun_r hf)
    rw [pm_f hf, if_pos rfl] at this
    exact this
  have Z : ∀ q, pun q g = true → q ≠ g → rat σ (16 + t) q = 0 := fun q hu hne => by
    rcases Nat.eq_zero_or_pos (rat σ (16 + t) q) with z | z
    · exact z
    · exfalso
      have hgq := rat_good (σ := σ) (k := 16 + t) (p := q) (by omega)
      have := (TR_anc g1 (pd q) q rfl z (pd g) (pun_pd (pgb_t.mp hgq).1 (pgb_t.mp hg).1 hu)).1
      rw [pun_iff.mp hu, hq] at this
      omega
  have C : ∀ q, 0 < rat G (16 + t) q → (pun q g = false ∧ rat G (16 + t) q = rat σ (16 + t) q) ∨ (q = g ∧ rat G (16 + t) q = σ 4 0 + 1) ∨ ∃ w, 0 < rat σ r w ∧ pun w f = true ∧ w ≠ f ∧ pm w f g = q ∧ rat G (16 + t) q = rat σ r w := fun q hq0 => by
    cases hu : pun q g with
    | false => exact Or.inl ⟨rfl, A q hu⟩
    | true =>
      by_cases e : q = g
      · exact Or.inr (Or.inl ⟨e, by rw [e]; exact B⟩)
      · refine Or.inr (Or.inr ⟨bk f g q, ?_⟩)
        have hz3 := z3 q
        simp only [rat_cp3] at hz3
        by_cases c : (0 ≤ bk f g q ∧ bk f g q < 0 + 125) ∧ 0 < rat σ r (bk f g q) ∧ pun (bk f g q) f = true ∧ pm (bk f g q) f g = q
        · rw [if_pos c] at hz3
          have hne : bk f g q ≠ f := fun z => by
            have := c.2.2.2
            rw [z, pm_f hf] at this
            exact e this.symm
          rw [if_neg hne] at hz3
          exact ⟨c.2.1, c.2.2.1, hne, c.2.2.2, hz3⟩
        · rw [if_neg c, Z q hu e] at hz3
          omega
  have gng : ¬ pun 0 g = true := fun z => by
    have := pun_pd (by decide) (pgb_t.mp hg).1 z
    have := pd_pos h0
    have : pd 0 = 0 := rfl
    omega
  have ppg : pun (pp g) g = false := by
    cases hu : pun (pp g) g with
    | false => rfl
    | true =>
      have := pun_pd (pgb_t.mp (pp_good hg)).1 (pgb_t.mp hg).1 hu
      omega
  have hTt : TR G (16 + t) ∧ TT G t ∧ T1 G t ∧ (t ≠ 3 → T2 G t) := by
    refine ⟨⟨?_, fun q q0 hq0 => ?_⟩, fun q => ?_, fun q p b1 b2 => ?_, fun _ q hq0 hch => ?_⟩
    · have e : pun 0 g = false := by
        cases hu : pun 0 g with
        | false => rfl
        | true => exact absurd hu gng
      rw [A 0 e, n0 _ (hLe _ _) 6 (by decide), n0 _ (hLe _ _) 10 (by decide), n0 _ (hLe _ _) 14 (by decide)]
      exact g1.1
    · rcases C q hq0 with ⟨u1, u2⟩ | ⟨rfl, u2⟩ | ⟨w, w1, w2, w3, w4, w5⟩
      · rw [u2] at hq0
        have hgq := rat_good (σ := σ) (k := 16 + t) (p := q) (by omega)
        have e : pun (pp q) g = false := by
          cases hu : pun (pp q) g with
          | false => rfl
          | true => rw [pun_dn hgq hu hg] at u1; cases u1
        rw [A _ e, n0 _ (hLe _ _) 6 (by decide)]
        exact g1.2 q q0 hq0
      · rw [A _ ppg, n0 _ (hLe _ _) 6 (by decide)]
        exact ⟨hp, hp6⟩
      · have hgw := rat_good (σ := σ) (k := r) (p := w) (by omega)
        obtain ⟨p1, p2, p3, p4, p5⟩ := pm_good hgw hf hg w2 (hco2 w w1 w2)
        obtain ⟨p6, p7⟩ := p5 (p4 w3)
        have w0 : 0 < w := by
          rcases Nat.eq_zero_or_pos w with z | z
          · exfalso
            subst z
            have := pun_pd (by decide) (pgb_t.mp hf).1 w2
            have e0 : pd 0 = 0 := rfl
            exact w3 (pd_z (by omega)).symm
          · exact z
        obtain ⟨q1, q2⟩ := hT.1.2 w w0 w1
        rw [← w4, p6, D (pp w) q1 p7]
        by_cases e : pp w = f
        · rw [if_pos e, m0 6 (by decide), v6, ← e]
          exact ⟨by omega, q2⟩
        · rw [if_neg e, n0 _ (hLe _ _) 6 (by decide)]
          exact ⟨q1, q2⟩
    · rcases Nat.eq_zero_or_pos (rat G (16 + t) q) with z | z
      · rw [z, n0 0 (by omega) 12 (by decide), h12]
        exact Or.inl (by omega)
      · rcases C q z with ⟨u1, u2⟩ | ⟨u1, u2⟩ | ⟨w, w1, w2, w3, w4, w5⟩
        · rw [u2, n0 _ (hLe _ _) 12 (by decide)]; exact g2 q
        · rw [u2, m0 12 (by decide), v12]; exact Or.inr rfl
        · rw [w5, n0 _ (hLe _ _) 12 (by decide)]; exact Or.inl (hT.2 w)
    · have z : 0 < rat G (16 + t) q := by
        rcases Nat.eq_zero_or_pos (rat G (16 + t) q) with z | z
        · rw [z, n0 0 (by omega) 12 (by decide), h12] at b1; omega
        · exact z
      have zp : 0 < rat G (16 + t) p := by omega
      rcases C q z with ⟨u1, u2⟩ | ⟨u1, u2⟩ | ⟨w, w1, w2, w3, w4, w5⟩
      · rcases C p zp with ⟨x1, x2⟩ | ⟨x1, x2⟩ | ⟨w', x1, x2, x3, x4, x5⟩
        · rw [u2, n0 _ (hLe _ _) 12 (by decide)] at b1
          exact g3 q p b1 (by rw [← x2, ← u2]; exact b2)
        · have := hLe (16 + t) q
          omega
        · rw [← b2, x5, n0 _ (hLe _ _) 12 (by decide)] at b1
          have := hT.2 w'
          omega
      · rcases C p zp with ⟨x1, x2⟩ | ⟨x1, x2⟩ | ⟨w', x1, x2, x3, x4, x5⟩
        · have := hLe (16 + t) p
          omega
        · rw [u1, x1]
        · have := hLe r w'
          omega
      · rw [w5, n0 _ (hLe _ _) 12 (by decide)] at b1
        have := hT.2 w
        omega
    · have e3 : G 3 = σ 3 := by rw [a0 3 (by decide), cp3_r (by decide) (by decide) (by decide)]
      have hy := h.2.1.2.1 t ht
      have hy2 := h.2.1.1
      have rb : ∀ w, rat G (σ 3 t) w = rat σ (σ 3 t) w := fun w => by rw [z2 _ _ (by omega) (by omega), rat_cp3]
      rw [e3, rb]
      rcases C q hq0 with ⟨u1, u2⟩ | ⟨u1, u2⟩ | ⟨w, w1, w2, w3, w4, w5⟩
      · rw [u2, n0 _ (hLe _ _) 12 (by decide)]
        rw [u2] at hq0
        have hgq := rat_good (σ := σ) (k := 16 + t) (p := q) (by omega)
        refine g4 (by omega) q hq0 (fun i hi => ?_)
        have hi4 : i < 4 := by have := pd_le q; omega
        have e : pun (pq q i) g = false := by
          cases hu : pun (pq q i) g with
          | false => rfl
          | true =>
            rw [pun_t (q := pq q i) (by rw [pun_iff, pq_d hgq (by omega)]) hu (pun_pd (pgb_t.mp (pq_good hgq hi4)).1 (pgb_t.mp hg).1 hu)] at u1
            cases u1
        have := hch i hi
        rw [e3, rb, A _ e, n0 _ (hLe _ _) 10 (by decide), n0 _ (hLe _ _) 10 (by decide)] at this
        exact this
      · rw [u2, m0 12 (by decide), v12]
        exact Or.inl (by omega)
      · exfalso
        have hgw := rat_good (σ := σ) (k := r) (p := w) (by omega)
        obtain ⟨p1, p2, p3, p4, p5⟩ := pm_good hgw hf hg w2 (hco2 w w1 w2)
        rw [w4] at p1 p2 p3
        have hdf := pun_up hgw hf w2 w3
        have := hch (pd g) (by omega)
        rw [pun_iff.mp p3, e3, rb, B, m0 10 (by decide), v10, n0 _ (hLe _ _) 10 (by decide)] at this
        have h5 := (h.2.2.1.2.2.2 (rat σ (σ 3 t) g)).2.2.2.2.1
        omega
  have hk9 : ∀ k q, k < 19 → k ≠ 16 + t → rat G k q = rat (cp3 σ t r f) k q := z2
  have hI : INV G 3 := inv_tree h1 ht a0 z1 hk9 hTt
  have hw2o : ∀ u, u < 3 → u ≠ t → w2 G u = w2 (cp3 σ t r f) u := fun u hu hut => w2_c (by rw [a0 2 (by decide)]) (fun q => by rw [z2 _ _ (by omega) (by omega), a0 12 (by decide)])
  have hnb : ∀ q, q < 5 → nb G t q ≤ nb (cp3 σ t r f) t q := fun q hq5 => by
    by_cases e : q = g
    · subst e
      unfold nb
      rw [B, m0 12 (by decide), v12, if_neg (by omega)]
      exact Nat.zero_le _
    · have hu : pun q g = false := by
        cases hu : pun q g with
        | false => rfl
        | true =>
          exfalso
          rcases Nat.eq_zero_or_pos q with z | z
          · subst z; exact gng hu
          · have hgq : pgb q = true := by
              rcases (show q = 1 ∨ q = 2 ∨ q = 3 ∨ q = 4 by omega) with rfl | rfl | rfl | rfl <;> decide
            have := (pun_up hgq hg hu e).2
            have h1 : pd q = 1 := by unfold pd; rw [if_neg (by omega), if_pos hq5]
            have := pd_pos h0
            omega
      unfold nb
      rw [A q hu, rat_cp3, n0 _ (hLe _ _) 12 (by decide), cp3_n (by decide) (by have := hLe (16 + t) q; omega)]
      exact Nat.le_refl _
  have hw2t : w2 G t ≤ w2 (cp3 σ t r f) t := by
    unfold w2
    rw [a0 2 (by decide)]
    have b0 := hnb 0 (by omega)
    have b1 := hnb 1 (by omega)
    have b2 := hnb 2 (by omega)
    have b3 := hnb 3 (by omega)
    have b4 := hnb 4 (by omega)
    split <;> omega
  refine ⟨hI, ?_, ?_, by rw [a0 4 (by decide), cp3_4], A, a0⟩
  · have := PT_of (σ := cp3 σ t r f) (τ := G) (d := 0) ht (by rw [a0 4 (by decide)]) hw2o (by omega)
    rw [NX_PT h.1 NX_cp3] at this
    omega
  · have e1 : CW G = CW (cp3 σ t r f) := by
      unfold CW
      rw [a0 16 (by decide), a0 4 (by decide), cw_c (fun j _ => by rw [a0 12 (by decide), a0 8 (by decide)]; exact ⟨rfl, rfl⟩)]
    rw [e1]
    exact NX_CW NX_cp3 (by rw [v8]; exact (h.2.2.1.2.1 _ (by omega)).1)
theorem cpO_inv {t r f g : Nat} (h : INV σ 3) (hP : PT σ ≤ 2560) (hr : r < 16 → r ≤ σ 1 0) : (cpb σ t r f g = true → σ 4 0 + 1 < 1300 ∧ σ 5 0 + 1 < 32768 ∧ tok (pd (pp g)) (cp4 σ t r f g) t (pp g) ∧ σ 6 (rat σ r f) < 128 ∧ σ 11 (rat σ r f) + 1 < 32768 ∧ σ 7 (rat σ r f) < 128) ∧ INV (cpO σ t r f g) 3 ∧ PT (cpO σ t r f g) ≤ PT σ + 5 ∧ CW (cpO σ t r f g) = CW σ := by
  by_cases hc : cpb σ t r f g = true
  · rw [cpO_t hc]
    obtain ⟨hm, hr6, hf0, hco⟩ := cpb_all hc
    obtain ⟨ht, ho, hg, h0, hq, hp, hp6⟩ := rmb_all hm
    obtain ⟨i1, i2, i3, i4, i5, i6⟩ := cp4_inv h hc (hr hr6)
    have hN := PT_le (σ := σ)
    have h54 := h.2.1.2.2.1
    have hd := pp_d hg h0
    have hg3 := pd_le g
    have ppg : pun (pp g) g = false := by
      cases hu : pun (pp g) g with
      | false => rfl
      | true =>
        have := pun_pd (pgb_t.mp (pp_good hg)).1 (pgb_t.mp hg).1 hu
        omega
    have hle := inv_le h (k := r) (q := f)
    obtain ⟨g1, g2, g3, g4, g5, g6, g7, g8⟩ := h.2.2.1.2.2.2 (rat σ r f)
    have hk := h.2.2.1.2.2.1 _ hf0 hle
    have hb := (h.2.2.2.2.2.1 r (hr hr6)).2 f
    have hy := h.2.1.1
    obtain ⟨r1, r2, r3, r4, r5, r6, r7⟩ := tch_all ht (pd (pp g)) (cp4 σ t r f g) (pp g) i1 (by rw [i6 2 (by decide), cp3_r (by decide) (by decide) (by decide)]; exact ho) (by rw [i5 _ ppg]; exact hp) rfl (by omega)
    have hcs : tcs (pd (pp g)) ≤ 3 := by
      have : pd (pp g) = 0 ∨ pd (pp g) = 1 ∨ pd (pp g) = 2 := by omega
      rcases this with e | e | e <;> rw [e] <;> decide
    exact ⟨fun _ => ⟨by omega, by omega, r1, by omega, by have := g1 hb; omega, by omega⟩, r2, by omega, r4.trans i3⟩
  · rw [cpO_f hc]
    exact ⟨fun z => absurd z hc, h, by omega, rfl⟩
end CPK
