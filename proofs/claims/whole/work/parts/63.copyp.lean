/-! copy: the class's order and the reference's -/
section CPP
variable {σ τ : SS} {ca na ta : Nat → Nat} {E : Ev} {M : mp_M}
theorem plc_plc {t v x q y : Nat} (h : v ≠ q) : plc (plc τ t v x) t q y = plc (plc τ t q y) t v x := by
  funext f j
  rw [plc_at, plc_at, plc_at, plc_at]
  by_cases c1 : f = 0 ∧ j = 2000 + 125 * t + q
  · rw [if_pos c1, if_neg (by omega), if_pos c1]
  · rw [if_neg c1]
    by_cases c2 : f = 0 ∧ j = 2000 + 125 * t + v
    · rw [if_pos c2, if_pos c2]
    · rw [if_neg c2, if_neg c2, if_neg c1]
theorem plc_sp {t v x f k y : Nat} (h : f ≠ 0) : sp (plc τ t v x) f k y = plc (sp τ f k y) t v x := by
  funext g j
  rw [sp_at, plc_at, plc_at, sp_at]
  by_cases c1 : g = f ∧ j = k
  · rw [if_pos c1, if_neg (by omega), if_pos c1]
  · rw [if_neg c1, if_neg c1]
theorem nod1_plc {t v x w old : Nat} : nod1 (plc τ t v x) t w old = plc (nod1 τ t w old) t v x := by
  have o : ∀ f, f ≠ 0 → plc τ t v x f = τ f := fun f hf => plc_o hf
  unfold nod1
  rw [o 4 (by decide), o 11 (by decide), o 7 (by decide), o 9 (by decide), o 15 (by decide), o 10 (by decide)]
  rw [plc_sp (by decide), plc_sp (by decide), plc_sp (by decide), plc_sp (by decide), plc_sp (by decide), plc_sp (by decide), plc_sp (by decide), plc_sp (by decide), plc_sp (by decide)]
theorem tst_plc {t v x q : Nat} (ht : t < 3) (hv : pgb v = true) (h : v ≠ q) : tst (plc τ t v x) t q = plc (tst τ t q) t v x := by
  have r : rat (plc τ t v x) (16 + t) q = rat τ (16 + t) q := by rw [rat_plc hv (by omega), if_neg (fun z => h z.2.symm)]
  have o12 : plc τ t v x 12 = τ 12 := plc_o (by decide)
  have o6 : plc τ t v x 6 = τ 6 := plc_o (by decide)
  have o4 : plc τ t v x 4 = τ 4 := plc_o (by decide)
  by_cases c : τ 12 (rat τ (16 + t) q) < 128
  · rw [tst_t c, tst_t (by rw [r, o12]; exact c), r, o6, o4, nod1_plc, plc_plc h]
  · rw [tst_f c, tst_f (by rw [r, o12]; exact c)]
theorem tch_plc {t v x : Nat} (ht : t < 3) (hv : pgb v = true) : ∀ n (τ : SS) q, pgb q = true → pd q = n → n < pd v → tch n (plc τ t v x) t q = plc (tch n τ t q) t v x := by
  intro n
  induction n with
  | zero =>
    intro τ q hq hd hn
    exact tst_plc ht hv (fun z => by rw [z] at hn; omega)
  | succ n ih =>
    intro τ q hq hd hn
    show tch n (tst (plc τ t v x) t q) t (pp q) = plc (tch n (tst τ t q) t (pp q)) t v x
    rw [tst_plc ht hv (fun z => by rw [z] at hn; omega)]
    have := pp_d hq (pos_of_pd hd)
    exact ih _ _ (pp_good hq) (by omega) (by omega)
theorem pZ_tst (hz : pZ τ) {t q : Nat} (ht : t < 3) (hg : pgb q = true) : pZ (tst τ t q) := by
  by_cases c : τ 12 (rat τ (16 + t) q) < 128
  · rw [tst_t c]
    have h1 : pZ (nod1 τ t (τ 6 (rat τ (16 + t) q)) (rat τ (16 + t) q)) := by
      have e0 : nod1 τ t (τ 6 (rat τ (16 + t) q)) (rat τ (16 + t) q) 0 = τ 0 := nod1_r (by decide) (by decide)
      refine ⟨fun j => ?_, fun j => ?_, ?_⟩
      · rw [e0, nod1_4]
        have := hz.1 j
        omega
      · rw [nod1_4]
        by_cases e : j = τ 4 0 + 1
        · rw [e, nod1_v.2.2.1]
          have := rat_le hz (k := 16 + t) (q := q)
          omega
        · rw [nod1_n (by decide) e]
          have := hz.2.1 j
          omega
      · rw [e0]; exact hz.2.2
    exact pZ_plc h1 ht hg (by rw [nod1_4]; exact Nat.le_refl _)
  · rw [tst_f c]; exact hz
theorem tch_rat {t : Nat} (ht : t < 3) {k w : Nat} (hk : k < 16) : ∀ n (τ : SS) q, pZ τ → pgb q = true → rat (tch n τ t q) k w = rat τ k w := by
  intro n
  induction n with
  | zero =>
    intro τ q hz hq
    show rat (tst τ t q) k w = _
    rw [tst_rat hz hq (by omega), if_neg (by omega)]
  | succ n ih =>
    intro τ q hz hq
    show rat (tch n (tst τ t q) t (pp q)) k w = _
    rw [ih _ _ (pZ_tst hz ht hq) (pp_good hq), tst_rat hz hq (by omega), if_neg (by omega)]
theorem gff_skip {t r f g n : Nat} (hf : pgb f = true) : ∀ m w (τ : SS) u, w + m ≤ f → gff t r f g n (m + u) w τ = gff t r f g n u (w + m) τ := by
  intro m
  induction m with
  | zero => intro w τ u h; rw [Nat.zero_add, Nat.add_zero]
  | succ m ih =>
    intro w τ u h
    have hp : ¬ pun w f = true := fun z => by
      have z := pun_iff.mp z
      have : pq w (pd f) ≤ w := Nat.mod_le _ _
      omega
    rw [show m + 1 + u = (m + u) + 1 by omega, gff_s, if_neg (fun z => hp z.2), ih (w + 1) τ u (by omega), show w + 1 + m = w + (m + 1) by omega]
theorem gff_head {t r f g n : Nat} (hf : pgb f = true) (h0 : 0 < rat τ r f) : gff t r f g n 125 0 τ = gff t r f g n (124 - f) (f + 1) (plc τ t g n) := by
  have hf5 := (pgb_t.mp hf).1
  have e : 125 = f + ((124 - f) + 1) := by omega
  rw [show gff t r f g n 125 0 τ = gff t r f g n (f + ((124 - f) + 1)) 0 τ by rw [← e], gff_skip hf f 0 τ _ (by omega), Nat.zero_add, gff_s, if_pos ⟨h0, pun_r hf⟩, if_pos rfl, pm_f hf]
theorem grf_skip {v : Nat → Option Nat} {f g : Nat} : ∀ m w u (x : Nat → Option Nat), w + m ≤ f + 1 → grf v f g (m + u) w x = grf v f g u (w + m) x := by
  intro m
  induction m with
  | zero => intro w u x h; rw [Nat.zero_add, Nat.add_zero]
  | succ m ih =>
    intro w u x h
    have hp : ¬ (w ≠ f ∧ v w ≠ none ∧ pun w f = true) := fun z => by
      have z2 := pun_iff.mp z.2.2
      have : pq w (pd f) ≤ w := Nat.mod_le _ _
      omega
    rw [show m + 1 + u = (m + u) + 1 by omega, grf_s, if_neg hp, ih (w + 1) u x (by omega), show w + 1 + m = w + (m + 1) by omega]
/-- the row of the copied nodes -/
theorem row_gff {t r f g n : Nat} (ht : t < 3) (hr : r < 16) (hf : pgb f = true) (hg : pgb g = true) : ∀ u w (τ : SS), f < w → w + u = 125 → pZ τ → n ≤ τ 4 0 → (∀ w, 0 < rat τ r w → pun w f = true → ¬ 3 < pd g + pd w - pd f) → rowf (gff t r f g n u w τ) na (16 + t) = grf (rowf τ na r) f g u w (rowf τ na (16 + t)) := by
  intro u
  induction u with
  | zero => intro w τ _ _ _ _ _; rfl
  | succ u ih =>
    intro w τ hfw hwu hz hn hd
    rw [gff_s, grf_s]
    have erow : rowf τ na r w = nq na (rat τ r w) := row_n hz (by omega) (by omega)
    by_cases c : 0 < rat τ r w ∧ pun w f = true
    · have hw := rat_good (σ := τ) (k := r) (p := w) (by omega)
      obtain ⟨p1, p2, p3, p4, p5⟩ := pm_good hw hf hg c.2 (hd w c.1 c.2)
      have hle := rat_le hz (k := r) (q := w)
      have R : ∀ q, rat (plc τ t (pm w f g) (rat τ r w)) r q = rat τ r q := fun q => by rw [rat_plc p1 (by omega), if_neg (by omega)]
      rw [if_pos c, if_neg (by omega), ih (w + 1) _ (by omega) (by omega) (pZ_plc hz ht p1 hle) (by rw [plc_o (by decide)]; exact hn) (fun x hx hu => hd x (by rw [← R]; exact hx) hu), row_plc (pgb_t.mp p1).1]
      have e2 : rowf (plc τ t (pm w f g) (rat τ r w)) na r = rowf τ na r := by
        funext j
        by_cases hj : j < 125
        · rw [rowf_lt hj, rowf_lt hj, plc_at, if_neg (by omega)]
        · rw [rowf_ge hj, rowf_ge hj]
      rw [e2, if_pos ⟨by omega, by rw [erow, nq_n c.1]; exact fun z => (by cases z), c.2⟩, tput_n (pgb_t.mp p1).1, erow]
    · rw [if_neg c, ih (w + 1) τ (by omega) (by omega) hz hn hd, if_neg]
      rintro ⟨-, z2, z3⟩
      rw [erow] at z2
      apply c
      refine ⟨?_, z3⟩
      rcases Nat.eq_zero_or_pos (rat τ r w) with y | y
      · rw [y, nq_0] at z2
        exact absurd rfl z2
      · exact y
/-- the height test -/
theorem htf_ub {u : Nat → Option Nat} {q B : Nat} : ∀ n w b, htf u q n w b ≤ B ↔ b ≤ B ∧ ∀ k, w ≤ k → k < w + n → u k ≠ none → pun k q = true → pd k ≤ B := by
  intro n
  induction n with
  | zero => intro w b; exact ⟨fun h => ⟨h, fun k h1 h2 => by omega⟩, fun h => h.1⟩
  | succ n ih =>
    intro w b
    rw [htf_s]
    by_cases c : u w ≠ none ∧ pun w q = true
    · rw [if_pos c, ih]
      constructor
      · rintro ⟨h1, h2⟩
        have hb : b ≤ B ∧ pd w ≤ B := by split at h1 <;> omega
        refine ⟨hb.1, fun k k1 k2 k3 k4 => ?_⟩
        by_cases e : k = w
        · rw [e]; exact hb.2
        · exact h2 k (by omega) (by omega) k3 k4
      · rintro ⟨h1, h2⟩
        have := h2 w (Nat.le_refl _) (by omega) c.1 c.2
        exact ⟨by split <;> omega, fun k k1 k2 => h2 k (by omega) (by omega)⟩
    · rw [if_neg c, ih]
      constructor
      · rintro ⟨h1, h2⟩
        refine ⟨h1, fun k k1 k2 k3 k4 => ?_⟩
        by_cases e : k = w
        · rw [e] at k3 k4; exact absurd ⟨k3, k4⟩ c
        · exact h2 k (by omega) (by omega) k3 k4
      · rintro ⟨h1, h2⟩
        exact ⟨h1, fun k k1 k2 => h2 k (by omega) (by omega)⟩
theorem cof_iff {r f g : Nat} : ∀ u w, cof σ r f g u w = true ↔ ∀ k, w ≤ k → k < w + u → ¬ (0 < rat σ r k ∧ pun k f = true ∧ 3 < pd g + pd k - pd f) := by
  intro u
  induction u with
  | zero => intro w; exact ⟨fun _ k h1 h2 => by omega, fun _ => rfl⟩
  | succ u ih =>
    intro w
    by_cases c : 0 < rat σ r w ∧ pun w f = true ∧ 3 < pd g + pd w - pd f
    · rw [cof_f c.1 c.2.1 c.2.2]
      exact ⟨fun z => (by cases z), fun z => absurd c (z w (Nat.le_refl _) (by omega))⟩
    · rw [cof_g c, ih]
      constructor
      · intro h k k1 k2
        by_cases e : k = w
        · rw [e]; exact c
        · exact h k (by omega) (by omega)
      · intro h k k1 k2
        exact h k (by omega) (by omega)
theorem cof_h (hz : pZ σ) {r f g : Nat} (hr : r < 19) (hf : pgb f = true) (h0 : 0 < rat σ r f) : pd g + (htf (rowf σ na r) f 125 0 (pd f) - pd f) ≤ 3 ↔ cof σ r f g 125 0 = true := by
  have hg3 := pd_le g
  have hf3 := pd_le f
  have hH := htf_le (f := rowf σ na r) (q := f) 125 0 (pd f) hf3
  have e : pd g + (htf (rowf σ na r) f 125 0 (pd f) - pd f) ≤ 3 ↔ htf (rowf σ na r) f 125 0 (pd f) ≤ 3 + pd f - pd g := by omega
  have some0 : ∀ k, k < 125 → (rowf σ na r k ≠ none ↔ 0 < rat σ r k) := fun k hk => by
    rw [row_n hz hr hk]
    constructor
    · intro z
      rcases Nat.eq_zero_or_pos (rat σ r k) with y | y
      · rw [y, nq_0] at z; exact absurd rfl z
      · exact y
    · intro z
      rw [nq_n z]
      exact fun y => by cases y
  rw [e, htf_ub, cof_iff]
  constructor
  · rintro ⟨h1, h2⟩ k k1 k2 ⟨z1, z2, z3⟩
    have := h2 k k1 k2 ((some0 k (by omega)).mpr z1) z2
    have := pun_pd (by omega) (pgb_t.mp hf).1 z2
    omega
  · intro h
    refine ⟨?_, fun k k1 k2 k3 k4 => ?_⟩
    · omega
    · have h1 := h k k1 k2
      have h2 := (some0 k (by omega)).mp k3
      have := pun_pd (by omega) (pgb_t.mp hf).1 k4
      rcases Nat.lt_or_ge 3 (pd g + pd k - pd f) with y | y
      · exact absurd ⟨h2, k4, y⟩ h1
      · omega
theorem gff_tch {t r f g n p : Nat} (ht : t < 3) (hr : r < 16) (hf : pgb f = true) (hg : pgb g = true) (hp : pgb p = true) (hd : pd p < pd g) : ∀ u w (τ : SS), pZ τ → n ≤ τ 4 0 → (∀ w, 0 < rat τ r w → pun w f = true → ¬ 3 < pd g + pd w - pd f) → tch (pd p) (gff t r f g n u w τ) t p = gff t r f g n u w (tch (pd p) τ t p) := by
  intro u
  induction u with
  | zero => intro w τ _ _ _; rfl
  | succ u ih =>
    intro w τ hz hn hc
    rw [gff_s, gff_s, tch_rat ht hr (pd p) τ p hz hp]
    by_cases c : 0 < rat τ r w ∧ pun w f = true
    · have hw := rat_good (σ := τ) (k := r) (p := w) (by omega)
      obtain ⟨p1, p2, p3, p4, p5⟩ := pm_good hw hf hg c.2 (hc w c.1 c.2)
      have hle := rat_le hz (k := r) (q := w)
      have hwf := pun_pd (pgb_t.mp hw).1 (pgb_t.mp hf).1 c.2
      obtain ⟨v, hv⟩ : ∃ v, (if w = f then n else rat τ r w) = v := ⟨_, rfl⟩
      have hvN : v ≤ τ 4 0 := by
        rw [← hv]
        split
        · exact hn
        · exact hle
      have R : ∀ q, rat (plc τ t (pm w f g) v) r q = rat τ r q := fun q => by rw [rat_plc p1 (by omega), if_neg (by omega)]
      rw [if_pos c, if_pos c, hv, ih (w + 1) _ (pZ_plc hz ht p1 hvN) (by rw [plc_o (by decide)]; exact hn) (fun x hx hu => hc x (by rw [← R]; exact hx) hu), tch_plc ht p1 (pd p) τ p hp rfl (by omega)]
    · rw [if_neg c, if_neg c]
      exact ih (w + 1) τ hz hn hc
theorem cpa_inv {t r f g : Nat} (h : INV σ 3) (hc : cpb σ t r f g = true) (hr : r ≤ σ 1 0) : INV (plc (cp3 σ t r f) t g (σ 4 0 + 1)) 3 ∧ cp3 σ t r f 2 t ≠ 0 ∧ 0 < rat (plc (cp3 σ t r f) t g (σ 4 0 + 1)) (16 + t) (pp g) := by
  obtain ⟨hm, hr6, hf0, hco⟩ := cpb_all hc
  obtain ⟨ht, ho, hg, h0, hq, hp, hp6⟩ := rmb_all hm
  have h1 := inv_cp3 (t := t) h ht hr hf0
  obtain ⟨v6, v12, v13, v11, v7, v9, v15, v10, v8, v14⟩ := cp3_v (σ := σ) (t := t) (r := r) (f := f)
  have hle := inv_le h (k := 16 + t) (q := pp g)
  have e2 : cp3 σ t r f 2 t ≠ 0 := by rw [cp3_r (by decide) (by decide) (by decide)]; exact ho
  have hd := pp_d hg h0
  have hpq : pp g ≠ g := fun z => by rw [z] at hd; omega
  refine ⟨inv_add h1 ht e2 hg h0 (by rw [rat_cp3]; exact hq) (by rw [rat_cp3]; exact hp) (by rw [rat_cp3, cp3_n (by decide) (by omega)]; exact hp6) (by omega) (by rw [cp3_4]; exact Nat.le_refl _) v12 (fun p => ?_), e2, ?_⟩
  · rw [rat_cp3]
    have := inv_le h (k := 16 + t) (q := p)
    omega
  · rw [rat_plc hg (by omega), if_neg (fun z => hpq z.2), rat_cp3]
    exact hp
theorem cp_order {t r f g : Nat} (h : INV σ 3) (hc : cpb σ t r f g = true) (hr : r ≤ σ 1 0) : cpO σ t r f g = gff t r f g (σ 4 0 + 1) (124 - f) (f + 1) (tch (pd (pp g)) (plc (cp3 σ t r f) t g (σ 4 0 + 1)) t (pp g)) := by
  obtain ⟨hm, hr6, hf0, hco⟩ := cpb_all hc
  obtain ⟨ht, ho, hg, h0, hq, hp, hp6⟩ := rmb_all hm
  have hf := rat_good (σ := σ) (k := r) (p := f) (by omega)
  obtain ⟨i1, i2, i3⟩ := cpa_inv h hc hr
  have hd := pp_d hg h0
  rw [cpO_t hc, cp4_e, gff_head hf (by rw [rat_cp3]; exact hf0)]
  refine gff_tch ht hr6 hf hg (pp_good hg) (by omega) _ _ _ i1.1 (by rw [plc_o (by decide), cp3_4]; exact Nat.le_refl _) (fun w hw hu z => ?_)
  rw [rat_plc hg (by omega), if_neg (by omega), rat_cp3] at hw
  have hw5 := rat_lt125 (σ := σ) (s := r) (n := w) (by omega)
  exact cof_of 125 0 hco w (by omega) (by omega) ⟨hw, hu, z⟩
theorem pic_gff {t r f g n : Nat} (hP : PIC E τ ca na ta M) (ht : t < 3) (hr : r < 16) (hf : pgb f = true) (hg : pgb g = true) (hn : n ≤ τ 4 0) (hc : ∀ w, 0 < rat τ r w → pun w f = true → ¬ 3 < pd g + pd w - pd f) : PIC E (gff t r f g n (124 - f) (f + 1) τ) ca na ta (mp_up M (ca (16 + t + 24)) (refs E (grf (rowf τ na r) f g 125 0 (rowf τ na (16 + t))))) := by
  have hz := pic_z hP
  have hf5 := (pgb_t.mp hf).1
  obtain ⟨a1, a2, a3⟩ := gff_all (n := n) ht hr hf hg (124 - f) (f + 1) τ hz hn hc
  refine pic_row hP (by omega) (fun F hF => gff_o _ _ _ hF) (fun i hi hne j hj => ?_) ?_ a1
  · rw [rat_z a1 hi hj, rat_z hz hi hj]
    exact a2 i j hi hne
  · rw [row_gff ht hr hf hg (124 - f) (f + 1) τ (by omega) (by omega) hz hn hc]
    have e : grf (rowf τ na r) f g 125 0 (rowf τ na (16 + t)) = grf (rowf τ na r) f g ((f + 1) + (124 - f)) 0 (rowf τ na (16 + t)) := by rw [show (f + 1) + (124 - f) = 125 by omega]
    rw [e, grf_skip (f + 1) 0 (124 - f) _ (by omega), Nat.zero_add]
theorem pic_cp {s t r f q : Nat} (hP : PIC E σ ca na ta M) (hI : INV σ s) (ht : t < 3) (hf0 : 0 < rat σ r f) (hf5 : f < 125) (hq : M q = none) : PIC E (cp3 σ t r f) ca (va_up na (σ 4 0 + 1) q) (va_up ta (σ 4 0 + 1) (ta (rat σ r f))) (mp_up (mp_up M (ca 0) (.inr (0, cT (sp σ 5 0 (σ 5 0 + 1)) ca))) q (.inr (3, [.int (nI (σ 5 0 + 1)), .int (bz (decide (σ 6 (rat σ r f) = 1))), .ref (ta (rat σ r f)), .int (nI (σ 11 (rat σ r f) + 1)), .int (-1), .ref (na (rat σ r f)), .int (nI r), .int (nI f), .int (nI 0), .int (shI (σ 15 (rat σ r f)))]))) := by
  have h1 := pic_obj (τ := sp σ 5 0 (σ 5 0 + 1)) hP (fun f _ h5 => sp_o h5)
  have hne := ne_of (pic_o hP) hq
  have hq1 : mp_up M (ca 0) (.inr (0, cT (sp σ 5 0 (σ 5 0 + 1)) ca)) q = none := (mp_up_n (fun z => hne z.symm)).trans hq
  obtain ⟨v6, v12, v13, v11, v7, v9, v15, v10, v8, v14⟩ := cp3_v (σ := σ) (t := t) (r := r) (f := f)
  have hm := hI.2.2.1.2.1 (σ 4 0 + 1) (by omega)
  have hle := rat_le (pic_z hP) (k := r) (q := f)
  have e4 : sp σ 5 0 (σ 5 0 + 1) 4 = σ 4 := sp_o (by decide)
  have e5 : cp3 σ t r f 5 = sp σ 5 0 (σ 5 0 + 1) 5 := by
    funext j
    unfold cp3
    rw [sp_o (by decide), sp_o (by decide), sp_at, sp_at, nod1_5]
  have h := pic_new (τ := cp3 σ t r f) (b := ta (rat σ r f)) (m := σ 4 0 + 1) h1 hq1 (by rw [e4]) cp3_4 (fun F h4 hF => by
      by_cases h5 : F = 5
      · subst h5; exact e5
      · rw [cp3_r h4 h5 hF, sp_o h5]) (fun F j h6 h15 hj => by rw [cp3_n h6 hj, sp_o (by omega)]) (by rw [v13, e4]; exact hle) (by rw [v9, v7]; exact pic_tx h1 hf0 (by rw [e4]; exact hle))
  have e : ndf (cp3 σ t r f) na (va_up ta (σ 4 0 + 1) (ta (rat σ r f))) (σ 4 0 + 1) = [.int (nI (σ 5 0 + 1)), .int (bz (decide (σ 6 (rat σ r f) = 1))), .ref (ta (rat σ r f)), .int (nI (σ 11 (rat σ r f) + 1)), .int (-1), .ref (na (rat σ r f)), .int (nI r), .int (nI f), .int (nI 0), .int (shI (σ 15 (rat σ r f)))] := by
    have et : va_up ta (σ 4 0 + 1) (ta (rat σ r f)) (σ 4 0 + 1) = ta (rat σ r f) := by simp [va_up]
    have es : srI (125 * r + f + 1) = nI r := by
      unfold srI
      rw [if_neg (by omega), show (125 * r + f + 1 - 1) / 125 = r by omega]
    have ep : spI (125 * r + f + 1) = nI f := by
      unfold spI
      rw [if_neg (by omega), show (125 * r + f + 1 - 1) % 125 = f by omega]
    unfold ndf
    rw [v10, v6, v11, v12, v13, v14, v8, v15, hm.1, et, nq_n hf0, crI_m (by omega), es, ep]
    rfl
  rw [e] at h
  exact h
end CPP
