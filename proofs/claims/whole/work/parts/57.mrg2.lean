/-! the reference's merging and the class's are one -/
section MR2
variable {σ τ : SS}
def OUT (t q : Nat) (θ τ : SS) : Prop := (∀ w, w < 125 → pun w q = false → θ 0 (2000 + 125 * t + w) = τ 0 (2000 + 125 * t + w)) ∧ (∀ j, j < 2000 + 125 * t ∨ 2000 + 125 * t + 125 ≤ j → θ 0 j = τ 0 j) ∧ ∀ f, f ≠ 0 → f ≠ 11 → f ≠ 13 → θ f = τ f
theorem OUT_r {t q : Nat} : OUT t q σ σ := ⟨fun _ _ _ => rfl, fun _ _ => rfl, fun _ _ _ _ => rfl⟩
theorem OUT_rat {t q w : Nat} {θ : SS} (h : OUT t q θ τ) (hu : pun w q = false) : rat θ (16 + t) w = rat τ (16 + t) w := by
  unfold rat
  by_cases hp : pgb w = true
  · rw [if_pos hp, if_pos hp, show 125 * (16 + t) + w = 2000 + 125 * t + w by omega]
    exact h.1 w (pgb_t.mp hp).1 hu
  · rw [if_neg hp, if_neg hp]
theorem OUT_jn {t q p : Nat} {θ : SS} (h : OUT t q θ τ) : OUT t q (jn θ t p) τ := ⟨fun w a b => by rw [jn_o (by decide) (by decide)]; exact h.1 w a b, fun j a => by rw [jn_o (by decide) (by decide)]; exact h.2.1 j a, fun f a b c => by rw [jn_o b c]; exact h.2.2 f a b c⟩
/-- p above w is not below w -/
theorem pun_no {w p : Nat} (hw : pgb w = true) (hp : pgb p = true) (hd : pd p < pd w) : pun p w = false := by
  cases h : pun p w with
  | false => rfl
  | true =>
    have := pun_pd (pgb_t.mp hp).1 (pgb_t.mp hw).1 h
    omega
def CGP (t d : Nat) : Prop := ∀ (τ : SS) (q : Nat), pgb q = true → pd q + d = 3 → INV τ t → τ 2 t ≠ 0 → 0 < q → 0 < rat τ (16 + t) (pp q) → τ 6 (rat τ (16 + t) (pp q)) = 1 → cf τ t d q = 125 → gd τ t d q → INV (cg t d τ q) t ∧ OUT t q (cg t d τ q) τ ∧ ∀ p, pgb p = true → pun q p = true → pd p < pd q → 128 ≤ τ 12 (rat τ (16 + t) p) → cg t d (jn τ t p) q = jn (cg t d τ q) t p
def HY (t d n : Nat) (τ : SS) (q : Nat) : Prop := pgb q = true ∧ pd q + d = 2 ∧ INV τ t ∧ τ 2 t ≠ 0 ∧ 0 < rat τ (16 + t) q ∧ τ 6 (rat τ (16 + t) q) = 1 ∧ ∀ j, 5 - n ≤ j → j < 5 → cf τ t d (cq q j) = 125 ∧ gd τ t d (cq q j)
theorem hy_step {t d n q : Nat} (ht : t < 3) (hC : CGP t d) (hn : n < 4) (h : HY t d (n + 1) τ q) : HY t d n (cg t d τ (cq q (5 - (n + 1)))) q ∧ OUT t (cq q (5 - (n + 1))) (cg t d τ (cq q (5 - (n + 1)))) τ ∧ ∀ p, pgb p = true → pun q p = true → pd p ≤ pd q → 128 ≤ τ 12 (rat τ (16 + t) p) → cg t d (jn τ t p) (cq q (5 - (n + 1))) = jn (cg t d τ (cq q (5 - (n + 1)))) t p := by
  obtain ⟨h1, h2, h3, h4, h5, h6, h7⟩ := h
  have a := cq_all h1 (j := 5 - (n + 1)) (by omega) (by omega) (by omega)
  obtain ⟨c1, c2⟩ := h7 (5 - (n + 1)) (by omega) (by omega)
  generalize hw : cq q (5 - (n + 1)) = w at *
  obtain ⟨a1, a2, a3, a4⟩ := a
  obtain ⟨r1, r2, r3⟩ := hC τ w a1 (by omega) h3 h4 (by rcases Nat.eq_zero_or_pos w with z | z; rw [z] at a2; have : pd 0 = 0 := rfl; omega; exact z) (by rw [a3]; exact h5) (by rw [a3]; exact h6) c1 c2
  have hy := h3.2.1.1
  have hb := h3.2.1.2.1 t ht
  have hqw : pun q w = false := pun_no a1 h1 (by omega)
  have hwq : pun w q = true := pun_iff.mpr a4
  refine ⟨⟨h1, h2, r1, by rw [r2.2.2 2 (by decide) (by decide) (by decide)]; exact h4, by rw [OUT_rat r2 hqw]; exact h5, by rw [OUT_rat r2 hqw, r2.2.2 6 (by decide) (by decide) (by decide)]; exact h6, fun j j1 j2 => ?_⟩, r2, fun p p1 p2 p3 p4 => ?_⟩
  · have b := cq_all h1 (j := j) (by omega) j2 (by omega)
    have hA : AG t (cq q j) (cg t d τ w) τ := by
      refine ⟨fun x x1 x2 => r2.1 x x2 ?_, fun i i1 => r2.2.1 i (by omega), r2.2.2⟩
      cases hx : pun x w with
      | false => rfl
      | true =>
        rw [← hw] at hx
        have := cq_dis h1 (by omega) (by omega) (by omega) j2 (by omega) hx x1
        omega
    obtain ⟨d1, d2⟩ := h7 j (by omega) j2
    exact ⟨(cf_c hy (by omega) d _ b.1 (by omega) hA).trans d1, gd_c hy (by omega) d _ b.1 (by omega) hA d2⟩
  · exact r3 p p1 (pun_t hwq p2 p3) (by omega) p4
theorem fold_all {t d q : Nat} (ht : t < 3) (hC : CGP t d) : ∀ n, n ≤ 4 → ∀ τ, HY t d n τ q → HY t d 0 (cgl (cg t d) q n τ) q ∧ ((∀ w, w < 125 → (pun w q = false ∨ w = q) → cgl (cg t d) q n τ 0 (2000 + 125 * t + w) = τ 0 (2000 + 125 * t + w)) ∧ OUT t q (cgl (cg t d) q n τ) τ) ∧ ∀ p, pgb p = true → pun q p = true → pd p ≤ pd q → 128 ≤ τ 12 (rat τ (16 + t) p) → cgl (cg t d) q n (jn τ t p) = jn (cgl (cg t d) q n τ) t p := by
  intro n
  induction n with
  | zero =>
    intro _ τ h
    exact ⟨h, ⟨fun _ _ _ => rfl, OUT_r⟩, fun _ _ _ _ _ => rfl⟩
  | succ n ih =>
    intro hn τ h
    obtain ⟨s1, s2, s3⟩ := hy_step ht hC (by omega) h
    have h1 := h.1
    have hd := h.2.1
    have a := cq_all h1 (j := 5 - (n + 1)) (by omega) (by omega) (by omega)
    obtain ⟨i1, ⟨i2, i3⟩, i4⟩ := ih (by omega) _ s1
    have key : ∀ w, w < 125 → (pun w q = false ∨ w = q) → pun w (cq q (5 - (n + 1))) = false := fun w hw hc => by
      cases hx : pun w (cq q (5 - (n + 1))) with
      | false => rfl
      | true =>
        rcases hc with hc | hc
        · rw [pun_t hx (pun_iff.mpr a.2.2.2) (by omega)] at hc
          cases hc
        · rw [hc, pun_no a.1 h1 (by omega)] at hx
          cases hx
    refine ⟨i1, ⟨fun w hw hc => (i2 w hw hc).trans (s2.1 w hw (key w hw hc)), fun w hw hc => (i3.1 w hw hc).trans (s2.1 w hw (key w hw (Or.inl hc))), fun j hj => (i3.2.1 j hj).trans (s2.2.1 j hj), fun f f0 f1 f2 => (i3.2.2 f f0 f1 f2).trans (s2.2.2 f f0 f1 f2)⟩, fun p p1 p2 p3 p4 => ?_⟩
    show cgl (cg t d) q n (cg t d (jn τ t p) (cq q (5 - (n + 1)))) = _
    rw [s3 p p1 p2 p3 p4]
    refine i4 p p1 p2 p3 ?_
    rw [OUT_rat s2 (pun_no a.1 p1 (by omega)), s2.2.2 12 (by decide) (by decide) (by decide)]
    exact p4
theorem cf_3 {t d q : Nat} (hq : q < 125) (h : cf τ t d q = 125) : wy τ t q ≠ 3 := by
  intro z
  cases d with
  | zero =>
    unfold cf at h
    rw [if_pos z] at h
    omega
  | succ d =>
    unfold cf at h
    rw [if_pos z] at h
    omega
theorem cf_2 {t d q : Nat} (hq : q < 125) (h : cf τ t (d + 1) q = 125) (h2 : wy τ t q = 2) : ∀ j, 0 < j → j < 5 → cf τ t d (cq q j) = 125 := by
  unfold cf at h
  rw [if_neg (by omega), if_pos h2] at h
  exact fun j h1 h5 => cfl_125 4 (Nat.le_refl _) h j (by omega) h5
/-- what the class's step at q does when it is not joined -/
theorem cgp_01 {t q : Nat} (ht : t < 3) (hq : pgb q = true) (hI : INV τ t) (ho : τ 2 t ≠ 0) (h0 : 0 < q) (hp : 0 < rat τ (16 + t) (pp q)) (hp6 : τ 6 (rat τ (16 + t) (pp q)) = 1) (h3 : wy τ t q ≠ 3) (h2 : wy τ t q ≠ 2) : INV (stl τ t q (wy τ t q) true) t ∧ OUT t q (stl τ t q (wy τ t q) true) τ ∧ ∀ p, pgb p = true → pd p < pd q → stl (jn τ t p) t q (wy (jn τ t p) t q) true = jn (stl τ t q (wy τ t q) true) t p := by
  have hy := hI.2.1.1
  have hb := hI.2.1.2.1 t ht
  have hw : ∀ p, wy (jn τ t p) t q = wy τ t q := fun p => AG_wy (q := q) AG_jn hy (by omega) (pgb_t.mp hq).1 (pun_r hq)
  have hle := wy_le τ t q
  by_cases h1 : wy τ t q = 1
  · rw [stl_1 h1]
    refine ⟨inv_tkn hI ht ho hq h0 hp hp6, ⟨fun w w5 hu => ?_, fun j hj => ?_, fun f f0 _ _ => tkn_o f0⟩, fun p p1 p2 => ?_⟩
    · rw [tkn_at, if_neg]
      rintro ⟨-, -, z⟩
      rw [show 2000 + 125 * t + w - (2000 + 125 * t) = w by omega, hu] at z
      simp at z
    · rw [tkn_at, if_neg (by omega)]
    · rw [stl_1 (by rw [hw]; exact h1)]
      exact jn_tkn hy (pgb_t.mp p1).1 (pun_no hq p1 p2)
  · rw [stl_0 h1 h2]
    refine ⟨hI, OUT_r, fun p p1 p2 => ?_⟩
    rw [hw, stl_0 h1 h2]
theorem jj_ok {t p q : Nat} (ht : t < 3) (hI : INV τ t) (ho : τ 2 t ≠ 0) (hp : pgb p = true) (hq : pgb q = true) (hd : pd p < pd q) (bp : 128 ≤ τ 12 (rat τ (16 + t) p)) (bq : 128 ≤ τ 12 (rat τ (16 + t) q)) : jn (jn τ t p) t q = jn (jn τ t q) t p := by
  have hy := hI.2.1.1
  have hT1 := (hI.2.2.2.2.2.2 t ht ho).2.2.1
  have hTB := (hI.2.2.2.2.2.1 (τ 1 0) (Nat.le_refl _)).2
  refine jn_jn hI.1 ht (pgb_t.mp hp).1 (pgb_t.mp hq).1 hy (fun z => ?_) (fun z => ?_) (fun z => ?_)
  · have := hT1 q p bq z
    subst this
    omega
  · rw [z] at bp
    have := hTB q
    omega
  · rw [z] at bq
    have := hTB p
    omega
theorem cgp_all {t : Nat} (ht : t < 3) : ∀ d, CGP t d := by
  intro d
  induction d with
  | zero =>
    intro τ q hq hd hI ho h0 hp hp6 hc hg
    have h3 := cf_3 (pgb_t.mp hq).1 hc
    have hy := hI.2.1.1
    have hb := hI.2.1.2.1 t ht
    by_cases h2 : wy τ t q = 2
    · have hbq : 128 ≤ τ 12 (rat τ (16 + t) q) := hg h2
      show INV (stl τ t q (wy τ t q) true) t ∧ OUT t q (stl τ t q (wy τ t q) true) τ ∧ _
      rw [stl_2 h2]
      refine ⟨inv_jn hI ht (pgb_t.mp hq).1 hbq, OUT_jn OUT_r, fun p p1 p2 p3 p4 => ?_⟩
      show stl (jn τ t p) t q (wy (jn τ t p) t q) true = jn (stl τ t q (wy τ t q) true) t p
      rw [stl_2 h2, stl_2 (by rw [AG_wy (q := q) AG_jn hy (by omega) (pgb_t.mp hq).1 (pun_r hq)]; exact h2)]
      exact jj_ok ht hI ho p1 hq p3 p4 hbq
    · obtain ⟨r1, r2, r3⟩ := cgp_01 ht hq hI ho h0 hp hp6 h3 h2
      exact ⟨r1, r2, fun p p1 p2 p3 p4 => r3 p p1 p3⟩
  | succ d ih =>
    intro τ q hq hd hI ho h0 hp hp6 hc hg
    have h3 := cf_3 (pgb_t.mp hq).1 hc
    have hy := hI.2.1.1
    have hb := hI.2.1.2.1 t ht
    by_cases h2 : wy τ t q = 2
    · obtain ⟨hbq, hgj⟩ := hg h2
      have hcj := cf_2 (pgb_t.mp hq).1 hc h2
      have w2 := wy_2 h2
      have eo := own_rat hI.1 ht (pgb_t.mp hq).1
      rw [eo] at w2
      have hH : HY t d 4 τ q := ⟨hq, by omega, hI, ho, w2.2.2.1, w2.2.2.2.1, fun j j1 j2 => ⟨hcj j (by omega) j2, hgj j (by omega) j2⟩⟩
      obtain ⟨f1, ⟨f2, f3⟩, f4⟩ := fold_all ht ih 4 (Nat.le_refl _) τ hH
      have e : ∀ θ, wy θ t q = 2 → cg t (d + 1) θ q = jn (cgl (cg t d) q 4 θ) t q := fun θ z => if_pos z
      rw [e τ h2]
      have hr : rat (cgl (cg t d) q 4 τ) (16 + t) q = rat τ (16 + t) q := by
        rw [← own_rat f1.2.2.1.1 ht (pgb_t.mp hq).1, ← eo]
        exact f2 q (pgb_t.mp hq).1 (Or.inr rfl)
      have e12 := f3.2.2 12 (by decide) (by decide) (by decide)
      have hbX : 128 ≤ cgl (cg t d) q 4 τ 12 (rat (cgl (cg t d) q 4 τ) (16 + t) q) := by rw [hr, e12]; exact hbq
      refine ⟨inv_jn f1.2.2.1 ht (pgb_t.mp hq).1 hbX, OUT_jn f3, fun p p1 p2 p3 p4 => ?_⟩
      rw [e (jn τ t p) (by rw [AG_wy (q := q) AG_jn hy (by omega) (pgb_t.mp hq).1 (pun_r hq)]; exact h2), f4 p p1 p2 (by omega) p4]
      refine jj_ok ht f1.2.2.1 f1.2.2.2.1 p1 hq p3 ?_ hbX
      rw [OUT_rat f3 (pun_no hq p1 p3), e12]
      exact p4
    · have e : ∀ θ, wy θ t q ≠ 2 → cg t (d + 1) θ q = stl θ t q (wy θ t q) true := fun θ z => if_neg z
      obtain ⟨r1, r2, r3⟩ := cgp_01 ht hq hI ho h0 hp hp6 h3 h2
      rw [e τ h2]
      refine ⟨r1, r2, fun p p1 p2 p3 p4 => ?_⟩
      rw [e (jn τ t p) (by rw [AG_wy (q := q) AG_jn hy (by omega) (pgb_t.mp hq).1 (pun_r hq)]; exact h2)]
      exact r3 p p1 p3
/-- the state behind a join, for what is below -/
theorem hy_jn {t d q : Nat} (ht : t < 3) (h : HY t d 4 τ q) (hb : 128 ≤ τ 12 (rat τ (16 + t) q)) : HY t d 4 (jn τ t q) q := by
  obtain ⟨h1, h2, h3, h4, h5, h6, h7⟩ := h
  have hy := h3.2.1.1
  have hb3 := h3.2.1.2.1 t ht
  have rr : rat (jn τ t q) (16 + t) q = rat τ (16 + t) q := rat_c (fun j _ => by rw [jn_o (by decide) (by decide)]) q
  refine ⟨h1, h2, inv_jn h3 ht (pgb_t.mp h1).1 hb, by rw [jn_o (by decide) (by decide)]; exact h4, by rw [rr]; exact h5, by rw [rr, jn_o (by decide) (by decide)]; exact h6, fun j j1 j2 => ?_⟩
  have b := cq_all h1 (j := j) (by omega) j2 (by omega)
  exact ⟨(cf_c hy (by omega) d _ b.1 (by omega) AG_jn).trans (h7 j j1 j2).1, gd_c hy (by omega) d _ b.1 (by omega) AG_jn (h7 j j1 j2).2⟩
/-- the step that hy_step takes, as a call of CGP -/
theorem hy_use {t d q j : Nat} (h : HY t d 4 τ q) (h1 : 0 < j) (h5 : j < 5) : pgb (cq q j) = true ∧ pd (cq q j) + d = 3 ∧ INV τ t ∧ τ 2 t ≠ 0 ∧ 0 < cq q j ∧ 0 < rat τ (16 + t) (pp (cq q j)) ∧ τ 6 (rat τ (16 + t) (pp (cq q j))) = 1 := by
  have a := cq_all h.1 h1 h5 (by have := h.2.1; omega)
  refine ⟨a.1, by have := h.2.1; omega, h.2.2.1, h.2.2.2.1, ?_, by rw [a.2.2.1]; exact h.2.2.2.2.1, by rw [a.2.2.1]; exact h.2.2.2.2.2.1⟩
  rcases Nat.eq_zero_or_pos (cq q j) with z | z
  · have := a.2.1
    rw [z] at this
    have e : pd 0 = 0 := rfl
    omega
  · exact z
theorem mg3_e {t q : Nat} (ht : t < 3) : ∀ n, n ≤ 4 → ∀ τ, HY t 0 n τ q → mg3 t q true n τ = (cgl (cg t 0) q n τ, 125) := by
  intro n
  induction n with
  | zero => intro _ τ _; rfl
  | succ n ih =>
    intro hn τ h
    obtain ⟨s1, -, -⟩ := hy_step ht (cgp_all ht 0) (by omega) h
    have hd := h.2.1
    have e : q + 25 * (5 - (n + 1)) = cq q (5 - (n + 1)) := by
      unfold cq
      rw [show pd q = 2 by omega]
      show q + 25 * (5 - (n + 1)) = q + (5 - (n + 1)) * 25
      omega
    have a := cq_all h.1 (j := 5 - (n + 1)) (by omega) (by omega) (by omega)
    have hw := cf_3 (pgb_t.mp a.1).1 (h.2.2.2.2.2.2 (5 - (n + 1)) (by omega) (by omega)).1
    rw [mg3_g (by rw [e]; exact hw), e]
    exact ih (by omega) _ s1
theorem md3_e {t q : Nat} (ht : t < 3) (hq : pgb q = true) (hd : pd q = 2) (hI : INV τ t) (ho : τ 2 t ≠ 0) (hc : cf τ t 1 q = 125) (hg : gd τ t 1 q) : md3 t q true τ = (cg t 1 τ q, 125) := by
  by_cases h2 : wy τ t q = 2
  · obtain ⟨hbq, hgj⟩ := hg h2
    have hcj := cf_2 (pgb_t.mp hq).1 hc h2
    have w2 := wy_2 h2
    rw [own_rat hI.1 ht (pgb_t.mp hq).1] at w2
    have hH : HY t 0 4 τ q := ⟨hq, by omega, hI, ho, w2.2.2.1, w2.2.2.2.1, fun j j1 j2 => ⟨hcj j (by omega) j2, hgj j (by omega) j2⟩⟩
    rw [md3_2 h2, stl_2 h2, mg3_e ht 4 (Nat.le_refl _) _ (hy_jn ht hH hbq), (fold_all ht (cgp_all ht 0) 4 (Nat.le_refl _) τ hH).2.2 q hq (pun_r hq) (Nat.le_refl _) hbq]
    show _ = ((if wy τ t q = 2 then _ else _), 125)
    rw [if_pos h2]
  · rw [md3_n h2]
    show _ = ((if wy τ t q = 2 then _ else _), 125)
    rw [if_neg h2]
theorem mg2_e {t q : Nat} (ht : t < 3) : ∀ n, n ≤ 4 → ∀ τ, HY t 1 n τ q → mg2 t q true n τ = (cgl (cg t 1) q n τ, 125) := by
  intro n
  induction n with
  | zero => intro _ τ _; rfl
  | succ n ih =>
    intro hn τ h
    obtain ⟨s1, -, -⟩ := hy_step ht (cgp_all ht 1) (by omega) h
    have hd := h.2.1
    have e : q + 5 * (5 - (n + 1)) = cq q (5 - (n + 1)) := by
      unfold cq
      rw [show pd q = 1 by omega]
      show q + 5 * (5 - (n + 1)) = q + (5 - (n + 1)) * 5
      omega
    have a := cq_all h.1 (j := 5 - (n + 1)) (by omega) (by omega) (by omega)
    obtain ⟨c1, c2⟩ := h.2.2.2.2.2.2 (5 - (n + 1)) (by omega) (by omega)
    have hw := cf_3 (pgb_t.mp a.1).1 c1
    have hm := md3_e ht a.1 (by omega) h.2.2.1 h.2.2.2.1 c1 c2
    rw [mg2_g (by rw [e]; exact hw) (by rw [e, hm]), e, hm]
    exact ih (by omega) _ s1
theorem md2_e {t q : Nat} (ht : t < 3) (hq : pgb q = true) (hd : pd q = 1) (hI : INV τ t) (ho : τ 2 t ≠ 0) (hc : cf τ t 2 q = 125) (hg : gd τ t 2 q) : md2 t q true τ = (cg t 2 τ q, 125) := by
  by_cases h2 : wy τ t q = 2
  · obtain ⟨hbq, hgj⟩ := hg h2
    have hcj := cf_2 (pgb_t.mp hq).1 hc h2
    have w2 := wy_2 h2
    rw [own_rat hI.1 ht (pgb_t.mp hq).1] at w2
    have hH : HY t 1 4 τ q := ⟨hq, by omega, hI, ho, w2.2.2.1, w2.2.2.2.1, fun j j1 j2 => ⟨hcj j (by omega) j2, hgj j (by omega) j2⟩⟩
    rw [md2_2 h2, stl_2 h2, mg2_e ht 4 (Nat.le_refl _) _ (hy_jn ht hH hbq), (fold_all ht (cgp_all ht 1) 4 (Nat.le_refl _) τ hH).2.2 q hq (pun_r hq) (Nat.le_refl _) hbq]
    show _ = ((if wy τ t q = 2 then _ else _), 125)
    rw [if_pos h2]
  · rw [md2_n h2]
    show _ = ((if wy τ t q = 2 then _ else _), 125)
    rw [if_neg h2]
theorem mg1_e {t : Nat} (ht : t < 3) : ∀ n, n ≤ 4 → ∀ τ, HY t 2 n τ 0 → mg1 t true n τ = (cgl (cg t 2) 0 n τ, 125) := by
  intro n
  induction n with
  | zero => intro _ τ _; rfl
  | succ n ih =>
    intro hn τ h
    obtain ⟨s1, -, -⟩ := hy_step ht (cgp_all ht 2) (by omega) h
    have e : 5 - (n + 1) = cq 0 (5 - (n + 1)) := by
      unfold cq
      show 5 - (n + 1) = 0 + (5 - (n + 1)) * 1
      omega
    have a := cq_all h.1 (j := 5 - (n + 1)) (by omega) (by omega) (by decide)
    obtain ⟨c1, c2⟩ := h.2.2.2.2.2.2 (5 - (n + 1)) (by omega) (by omega)
    have hw := cf_3 (pgb_t.mp a.1).1 c1
    have hm := md2_e ht a.1 a.2.1 h.2.2.1 h.2.2.2.1 c1 c2
    rw [mg1_g (by rw [e]; exact hw) (by rw [e, hm]), e, hm]
    rw [← e] at hm ⊢
    rw [← e] at s1
    have e2 : cgl (cg t 2) 0 (n + 1) τ = cgl (cg t 2) 0 n (cg t 2 τ (5 - (n + 1))) := by
      show cgl (cg t 2) 0 n (cg t 2 τ (cq 0 (5 - (n + 1)))) = _
      rw [← e]
    rw [e2]
    exact ih (by omega) _ s1
/-! conflicts -/
theorem mg3_x {t q : Nat} (hq : pgb q = true) (hd : pd q = 2) : ∀ n, n ≤ 4 → (mg3 t q false n τ).2 = cfl (cf τ t 0) q n := by
  intro n
  induction n with
  | zero => intro _; rfl
  | succ n ih =>
    intro hn
    have e : q + 25 * (5 - (n + 1)) = cq q (5 - (n + 1)) := by
      unfold cq
      rw [hd]
      show q + 25 * (5 - (n + 1)) = q + (5 - (n + 1)) * 25
      omega
    have a := (pgb_t.mp (cq_all hq (j := 5 - (n + 1)) (by omega) (by omega) (by omega)).1).1
    show _ = if cf τ t 0 (cq q (5 - (n + 1))) = 125 then cfl (cf τ t 0) q n else cf τ t 0 (cq q (5 - (n + 1)))
    have c : cf τ t 0 (cq q (5 - (n + 1))) = if wy τ t (cq q (5 - (n + 1))) = 3 then cq q (5 - (n + 1)) else 125 := rfl
    by_cases h : wy τ t (cq q (5 - (n + 1))) = 3
    · rw [mg3_c (by rw [e]; exact h), e, c, if_pos h, if_neg (by omega)]
    · rw [mg3_g (by rw [e]; exact h), stl_f, ih (by omega), c, if_neg h, if_pos rfl]
theorem md3_x {t q : Nat} (hq : pgb q = true) (hd : pd q = 2) (h3 : wy τ t q ≠ 3) : (md3 t q false τ).2 = cf τ t 1 q := by
  show _ = if wy τ t q = 3 then q else if wy τ t q = 2 then cfl (cf τ t 0) q 4 else 125
  rw [if_neg h3]
  by_cases h : wy τ t q = 2
  · rw [md3_2 h, stl_f, if_pos h, mg3_x hq hd 4 (Nat.le_refl _)]
  · rw [md3_n h, if_neg h]
theorem mg2_x {t q : Nat} (hq : pgb q = true) (hd : pd q = 1) : ∀ n, n ≤ 4 → (mg2 t q false n τ).2 = cfl (cf τ t 1) q n := by
  intro n
  induction n with
  | zero => intro _; rfl
  | succ n ih =>
    intro hn
    have e : q + 5 * (5 - (n + 1)) = cq q (5 - (n + 1)) := by
      unfold cq
      rw [hd]
      show q + 5 * (5 - (n + 1)) = q + (5 - (n + 1)) * 5
      omega
    have a := cq_all hq (j := 5 - (n + 1)) (by omega) (by omega) (by omega)
    have a5 := (pgb_t.mp a.1).1
    show _ = if cf τ t 1 (cq q (5 - (n + 1))) = 125 then cfl (cf τ t 1) q n else cf τ t 1 (cq q (5 - (n + 1)))
    by_cases h : wy τ t (cq q (5 - (n + 1))) = 3
    · have c : cf τ t 1 (cq q (5 - (n + 1))) = cq q (5 - (n + 1)) := if_pos h
      rw [mg2_c (by rw [e]; exact h), e, c, if_neg (by omega)]
    · have hm := md3_x (τ := τ) (t := t) a.1 (by omega) h
      by_cases h2 : cf τ t 1 (cq q (5 - (n + 1))) = 125
      · rw [mg2_g (by rw [e]; exact h) (by rw [e, hm]; exact h2), e, md3_f, ih (by omega), if_pos h2]
      · rw [mg2_d (by rw [e]; exact h) (by rw [e, hm]; exact h2), e, hm, if_neg h2]
theorem md2_x {t q : Nat} (hq : pgb q = true) (hd : pd q = 1) (h3 : wy τ t q ≠ 3) : (md2 t q false τ).2 = cf τ t 2 q := by
  show _ = if wy τ t q = 3 then q else if wy τ t q = 2 then cfl (cf τ t 1) q 4 else 125
  rw [if_neg h3]
  by_cases h : wy τ t q = 2
  · rw [md2_2 h, stl_f, if_pos h, mg2_x hq hd 4 (Nat.le_refl _)]
  · rw [md2_n h, if_neg h]
theorem mg1_x {t : Nat} : ∀ n, n ≤ 4 → (mg1 t false n τ).2 = cfl (cf τ t 2) 0 n := by
  intro n
  induction n with
  | zero => intro _; rfl
  | succ n ih =>
    intro hn
    have e : 5 - (n + 1) = cq 0 (5 - (n + 1)) := by
      unfold cq
      show 5 - (n + 1) = 0 + (5 - (n + 1)) * 1
      omega
    have a := cq_all pg_0 (j := 5 - (n + 1)) (by omega) (by omega) (by decide)
    have a5 := (pgb_t.mp a.1).1
    have a2 : pd (cq 0 (5 - (n + 1))) = 1 := a.2.1
    show _ = if cf τ t 2 (cq 0 (5 - (n + 1))) = 125 then cfl (cf τ t 2) 0 n else cf τ t 2 (cq 0 (5 - (n + 1)))
    rw [← e] at a a5 a2 ⊢
    by_cases h : wy τ t (5 - (n + 1)) = 3
    · have c : cf τ t 2 (5 - (n + 1)) = 5 - (n + 1) := if_pos h
      rw [mg1_c h, c, if_neg (by omega)]
    · have hm := md2_x (τ := τ) (t := t) a.1 a2 h
      by_cases h2 : cf τ t 2 (5 - (n + 1)) = 125
      · rw [mg1_g h (by rw [hm]; exact h2), md2_f, ih (by omega), if_pos h2]
      · rw [mg1_d h (by rw [hm]; exact h2), hm, if_neg h2]
/-! the whole -/
theorem inv_drop {s : Nat} (h : INV σ 3) : INV σ s := ⟨h.1, h.2.1, h.2.2.1, h.2.2.2.1, h.2.2.2.2.1, h.2.2.2.2.2.1, fun t ht h2 => ⟨(h.2.2.2.2.2.2 t ht h2).1, (h.2.2.2.2.2.2 t ht h2).2.1, (h.2.2.2.2.2.2 t ht h2).2.2.1, fun _ => (h.2.2.2.2.2.2 t ht h2).2.2.2 (by omega)⟩⟩
theorem gd_inv {t : Nat} (h : INV σ 3) (ht : t < 3) (ho : σ 2 t ≠ 0) : ∀ d q, pgb q = true → pd q + d = 3 → (∀ i, i < pd q → wy σ t (pq q i) = 2) → gd σ t d q := by
  obtain ⟨g1, g2, g3, g4⟩ := h.2.2.2.2.2.2 t ht ho
  have hb3 := h.2.1.2.1 t ht
  have hy := h.2.1.1
  have one : ∀ q, pgb q = true → (∀ i, i < pd q → wy σ t (pq q i) = 2) → wy σ t q = 2 → 128 ≤ σ 12 (rat σ (16 + t) q) := fun q hq hc hw => by
    have w := wy_2 hw
    have hq5 := (pgb_t.mp hq).1
    rw [own_rat h.1 ht hq5, rat_z h.1 (k := σ 3 t) (by omega) hq5] at w
    rcases g4 (by omega) q w.2.2.1 (fun i hi => by
      have w' := wy_2 (hc i hi)
      have hi5 := (pgb_t.mp (pq_good hq (i := i) (by have := pd_le q; omega))).1
      rw [own_rat h.1 ht hi5, rat_z h.1 (k := σ 3 t) (by omega) hi5] at w'
      exact w'.2.2.2.2.1.symm) with z | z
    · exact z
    · exact absurd z w.2.2.2.2.2
  intro d
  induction d with
  | zero => intro q hq hd hc hw; exact one q hq hc hw
  | succ d ih =>
    intro q hq hd hc hw
    refine ⟨one q hq hc hw, fun j j1 j5 => ?_⟩
    have a := cq_all hq j1 j5 (by omega)
    refine ih _ a.1 (by omega) (fun i hi => ?_)
    by_cases e : i = pd q
    · rw [e, a.2.2.2]; exact hw
    · have : pq (cq q j) i = pq q i := by
        rw [← a.2.2.2]
        rw [pq_pq (by omega) (by omega), a.2.2.2]
      rw [this]
      exact hc i (by omega)
theorem wy_root {t : Nat} (h : INV σ 3) (ht : t < 3) (ho : σ 2 t ≠ 0) (h1 : σ 0 (125 * σ 1 0) ≠ σ 0 (125 * σ 3 t)) (h2 : σ 0 (2000 + 125 * t) ≠ σ 0 (125 * σ 3 t)) : wy σ t 0 = 2 := by
  have hb3 := h.2.1.2.1 t ht
  have hy := h.2.1.1
  have ro := (h.2.2.2.2.2.2 t ht ho).1.1
  have rb := (h.2.2.2.2.2.1 (σ 3 t) hb3).1.1
  have ry := (h.2.2.2.2.2.1 (σ 1 0) (Nat.le_refl _)).1.1
  rw [← own_rat h.1 ht (by decide)] at ro
  rw [← rat_z h.1 (by omega) (by decide)] at rb ry
  unfold wy wyf
  rw [if_neg (by exact h1), if_neg (by exact h2), if_pos]
  exact ⟨⟨rb.1, ry.1, ro.1, rb.2.1, ry.2.1, ro.2.1⟩, rb.2.2.1.trans ry.2.2.1.symm, rb.2.2.1.trans ro.2.2.1.symm⟩
theorem fil_tkn (hz : pZ σ) {t : Nat} (ht : t < 3) (hy : σ 1 0 ≤ 15) : fil σ (16 + t) (σ 1 0) 125 = tkn σ t 0 125 := by
  funext f j
  by_cases hf : f = 0
  · subst hf
    rw [tkn_at]
    show (if 125 * (16 + t) ≤ j ∧ j < 125 * (16 + t) + 125 then σ 0 (j - 125 * (16 + t) + 125 * σ 1 0) else σ 0 j) = _
    by_cases c : 125 * (16 + t) ≤ j ∧ j < 125 * (16 + t) + 125
    · obtain ⟨w, hw, rfl⟩ : ∃ w, w < 125 ∧ j = 125 * (16 + t) + w := ⟨j - 125 * (16 + t), by omega, by omega⟩
      have e : 125 * (16 + t) + w - (2000 + 125 * t) = w := by omega
      rw [if_pos c, e]
      cases hg : pgb w with
      | true =>
        rw [if_pos ⟨by omega, by omega, by rw [pun_0]; rfl⟩]
        congr 1
        omega
      | false =>
        rw [if_neg (fun z => by have := z.2.2; simp at this), hz.2.2 (16 + t) w (by omega) hw hg, show 125 * (16 + t) + w - 125 * (16 + t) + 125 * σ 1 0 = 125 * σ 1 0 + w by omega]
        exact hz.2.2 (σ 1 0) w (by omega) hw hg
    · rw [if_neg c, if_neg (by omega)]
  · rw [fil_o hf, tkn_o hf]
theorem cm1_e {t : Nat} (h : INV σ 3) (ht : t < 3) (ho : σ 2 t ≠ 0) : cm1 σ t = (if cf σ t 3 0 = 125 then cg t 3 σ 0 else σ, cf σ t 3 0) ∧ (cf σ t 3 0 = 125 → INV (cg t 3 σ 0) t ∧ OUT t 0 (cg t 3 σ 0) σ) := by
  have hb3 := h.2.1.2.1 t ht
  have hy := h.2.1.1
  have hI : INV σ t := inv_drop h
  by_cases h1 : σ 0 (125 * σ 1 0) = σ 0 (125 * σ 3 t)
  · have hw : wy σ t 0 = 0 := if_pos h1
    have c : cf σ t 3 0 = 125 := by
      show (if wy σ t 0 = 3 then 0 else if wy σ t 0 = 2 then _ else 125) = 125
      rw [hw, if_neg (by decide), if_neg (by decide)]
    have g : cg t 3 σ 0 = σ := by
      show (if wy σ t 0 = 2 then _ else stl σ t 0 (wy σ t 0) true) = σ
      rw [hw, if_neg (by decide), stl_0 (by decide) (by decide)]
    rw [cm1_s h1, c, g, if_pos rfl]
    exact ⟨rfl, fun _ => ⟨hI, OUT_r⟩⟩
  · by_cases h2 : σ 0 (2000 + 125 * t) = σ 0 (125 * σ 3 t)
    · have hw : wy σ t 0 = 1 := by
        unfold wy wyf
        rw [if_neg (by exact h1), if_pos (by exact h2)]
      have c : cf σ t 3 0 = 125 := by
        show (if wy σ t 0 = 3 then 0 else if wy σ t 0 = 2 then _ else 125) = 125
        rw [hw, if_neg (by decide), if_neg (by decide)]
      have g : cg t 3 σ 0 = fil σ (16 + t) (σ 1 0) 125 := by
        show (if wy σ t 0 = 2 then _ else stl σ t 0 (wy σ t 0) true) = _
        rw [hw, if_neg (by decide), stl_1 rfl, fil_tkn h.1 ht hy]
      rw [cm1_f h1 h2, c, g, if_pos rfl]
      refine ⟨rfl, fun _ => ⟨?_, fun w _ hu => ?_, fun j hj => ?_, fun f f0 _ _ => fil_o f0⟩⟩
      · obtain ⟨y1, y2⟩ := h.2.2.2.2.2.1 (σ 1 0) (Nat.le_refl _)
        have R : ∀ w, rat (fil σ (16 + t) (σ 1 0) 125) (16 + t) w = rat σ (σ 1 0) w := fun w => by rw [rat_fil (by omega) (by omega), if_pos rfl]
        refine inv_tree hI ht (fun f hf => fil_o hf) (pZ_fil h.1 (by omega) (by omega)) (fun k w hk hne => by rw [rat_fil hk (by omega), if_neg hne]) ⟨⟨?_, fun w w0 hw0 => ?_⟩, fun w => ?_, fun w p b1 b2 => ?_, fun hs => absurd rfl hs⟩
        · rw [R, fil_o (by decide), fil_o (by decide), fil_o (by decide)]; exact y1.1
        · rw [R] at hw0
          rw [R, fil_o (by decide)]
          exact y1.2 w w0 hw0
        · rw [R, fil_o (by decide)]; exact Or.inl (y2 w)
        · rw [R, fil_o (by decide)] at b1
          have := y2 w
          omega
      · rw [pun_0] at hu
        cases hu
      · show (if 125 * (16 + t) ≤ j ∧ j < 125 * (16 + t) + 125 then _ else σ 0 j) = σ 0 j
        rw [if_neg (by omega)]
    · have hw := wy_root h ht ho h1 h2
      have hx := mg1_x (τ := σ) (t := t) 4 (Nat.le_refl _)
      have c : cf σ t 3 0 = cfl (cf σ t 2) 0 4 := by
        show (if wy σ t 0 = 3 then 0 else if wy σ t 0 = 2 then _ else 125) = _
        rw [hw, if_neg (by decide), if_pos rfl]
      rw [← c] at hx
      by_cases h3 : cf σ t 3 0 = 125
      · have hg := gd_inv h ht ho 3 0 pg_0 rfl (fun i hi => absurd hi (by have : pd 0 = 0 := rfl; omega))
        obtain ⟨hbq, hgj⟩ := hg hw
        have hcj := cf_2 (by decide) h3 hw
        have w2 := wy_2 hw
        rw [own_rat h.1 ht (by decide)] at w2
        have hH : HY t 2 4 σ 0 := ⟨pg_0, rfl, hI, ho, w2.2.2.1, w2.2.2.2.1, fun j j1 j2 => ⟨hcj j (by omega) j2, hgj j (by omega) j2⟩⟩
        obtain ⟨f1, ⟨f2, f3⟩, f4⟩ := fold_all ht (cgp_all ht 2) 4 (Nat.le_refl _) σ hH
        have g : cg t 3 σ 0 = jn (cgl (cg t 2) 0 4 σ) t 0 := if_pos hw
        rw [cm1_j h1 h2 (by rw [hx]; exact h3), mg1_e ht 4 (Nat.le_refl _) σ hH, if_pos h3, g, h3]
        refine ⟨rfl, fun _ => ⟨inv_jn f1.2.2.1 ht (by decide) ?_, OUT_jn f3⟩⟩
        have hr : rat (cgl (cg t 2) 0 4 σ) (16 + t) 0 = rat σ (16 + t) 0 := by
          rw [← own_rat f1.2.2.1.1 ht (by decide), ← own_rat h.1 ht (by decide)]
          exact f2 0 (by decide) (Or.inr rfl)
        rw [hr, f3.2.2 12 (by decide) (by decide) (by decide)]
        exact hbq
      · rw [cm1_c h1 h2 (by rw [hx]; exact h3), hx, if_neg h3]
        exact ⟨rfl, fun z => absurd z h3⟩
end MR2
