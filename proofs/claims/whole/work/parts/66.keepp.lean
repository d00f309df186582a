/-! storing: what the class does, as functions of the state -/
section KPP
variable {σ τ : SS} {ca na ta : Nat → Nat} {E : Ev} {M : mp_M}
theorem anc_c {n : Nat} : ∀ u a, anc (sp σ 15 n 0) u a = anc σ u a := by
  intro u
  induction u with
  | zero => intro a; rfl
  | succ u ih => intro a; show anc (sp σ 15 n 0) u (sp σ 15 n 0 13 a) = anc σ u (σ 13 a); rw [ih]; rfl
theorem anc_0 (h : σ 13 0 = 0) : ∀ u, anc σ u 0 = 0 := by
  intro u
  induction u with
  | zero => rfl
  | succ u ih => show anc σ u (σ 13 0) = 0; rw [h]; exact ih
theorem anc_lt (h : σ 13 0 = 0) (hb : ∀ n, σ 13 n ≠ 0 → σ 12 (σ 13 n) < σ 12 n) : ∀ u a, anc σ (u + 1) a = 0 ∨ σ 12 (anc σ (u + 1) a) < σ 12 a := by
  intro u
  induction u with
  | zero =>
    intro a
    by_cases e : σ 13 a = 0
    · exact Or.inl e
    · exact Or.inr (hb a e)
  | succ u ih =>
    intro a
    show anc σ (u + 1) (σ 13 a) = 0 ∨ σ 12 (anc σ (u + 1) (σ 13 a)) < σ 12 a
    by_cases e : σ 13 a = 0
    · rw [e]; exact Or.inl (anc_0 h _)
    · rcases ih (σ 13 a) with z | z
      · exact Or.inl z
      · exact Or.inr (Nat.lt_trans z (hb a e))
theorem anc_le (hz : pZ σ) : ∀ u a, a ≤ σ 4 0 → anc σ u a ≤ σ 4 0 := by
  intro u
  induction u with
  | zero => intro a h; exact h
  | succ u ih => intro a h; exact ih _ (hz.2.1 a)
theorem frb_pos : ∀ c : Fin 17, 0 < c.val → 0 < frb c.val ∧ frb c.val ≤ c.val := by decide +kernel
theorem alw_29 : ∀ c : Fin 17, alw 29 c.val 0 = alw 20 c.val 0 := by decide +kernel
/-- the ancestor's representation, plus one -/
theorem oldf_k (hN : NF σ) {n : Nat} (hn : 0 < n) (hc : σ 11 n ≤ 16) (h0 : 0 < σ 11 n) : oldf (sp σ 15 n 0) n = σ 15 (anc σ (frb (σ 11 n)) n) := by
  have hf := (frb_pos ⟨σ 11 n, by omega⟩ h0).1
  simp only at hf
  obtain ⟨u, hu⟩ : ∃ u, frb (σ 11 n) = u + 1 := ⟨frb (σ 11 n) - 1, by omega⟩
  have o : ∀ f, f ≠ 15 → sp σ 15 n 0 f = σ f := fun f hf => sp_o hf
  unfold oldf
  rw [o 6 (by decide), o 11 (by decide), anc_c]
  have hne : anc σ (frb (σ 11 n)) n ≠ n := by
    rw [hu]
    rcases anc_lt hN.1.2.2.2.1 (fun n z => ((hN.2.2.2 n).2.2.2.2.2.1 z).2) u n with z | z
    · rw [z]; omega
    · intro y
      rw [y] at z
      omega
  rw [sp_n hne]
  by_cases k : σ 6 (anc σ (frb (σ 11 n)) n) = 2
  · rw [if_pos ⟨k, h0⟩]
  · rw [if_neg (fun z => k z.1), ((hN.2.2.2 _).2.2.2.2.2.2.2 k).1]
theorem oldf_z {n : Nat} (h0 : σ 11 n = 0) : oldf (sp σ 15 n 0) n = 0 := by
  unfold oldf
  rw [if_neg]
  rintro ⟨-, z⟩
  rw [sp_o (by decide)] at z
  omega
/-- the base that baseFor finds, plus one -/
def bfo (σ : SS) (n : Nat) : Nat := if 0 < oldf (sp σ 15 n 0) n ∧ σ 20 (oldf (sp σ 15 n 0) n - 1) < 1 + alw 20 (σ 11 n) 0 then oldf (sp σ 15 n 0) n else 0
/-- storing, but the node itself not yet told -/
def kp (σ : SS) (n : Nat) : SS := fun f => if f = 15 then σ 15 else stf σ n f
theorem kp_15 {n : Nat} : kp σ n 15 = σ 15 := if_pos rfl
theorem kp_o {n f : Nat} (h : f ≠ 15) : kp σ n f = stf σ n f := if_neg h
theorem eqf_c {n : Nat} : ∀ u k, eqf (sp σ 15 n 0) n u k = eqf σ n u k := by
  intro u
  induction u with
  | zero => intro k; rfl
  | succ u ih =>
    intro k
    show (if sp σ 15 n 0 18 k = sp σ 15 n 0 7 n ∧ sp σ 15 n 0 17 k = sp σ 15 n 0 9 n then k else eqf (sp σ 15 n 0) n u (k + 1)) = (if σ 18 k = σ 7 n ∧ σ 17 k = σ 9 n then k else eqf σ n u (k + 1))
    rw [sp_o (by decide), sp_o (by decide), sp_o (by decide), sp_o (by decide), ih]
theorem stf_0 {n : Nat} (h : σ 7 n = 0) : stf σ n = sp σ 15 n 0 := st2_0 (by rw [sp_o (by decide)]; exact h)
theorem stf_1 {n : Nat} (h : σ 7 n ≠ 0) (h2 : eqf σ n (σ 16 0) 0 < σ 16 0) : stf σ n = sp (sp σ 15 n 0) 15 n (eqf σ n (σ 16 0) 0 + 1) := by
  have e16 : sp σ 15 n 0 16 = σ 16 := sp_o (by decide)
  exact st2_1 (by rw [sp_o (by decide)]; exact h) (by rw [e16, eqf_c]) (by rw [e16]; exact h2)
theorem stf_3 {n : Nat} (h : σ 7 n ≠ 0) (h2 : ¬ eqf σ n (σ 16 0) 0 < σ 16 0) : stf σ n = st5 (sp σ 15 n 0) n (bfo σ n) (if bfo σ n = 0 then 1 else σ 20 (bfo σ n - 1) + 1) := by
  have e16 : sp σ 15 n 0 16 = σ 16 := sp_o (by decide)
  have e20 : sp σ 15 n 0 20 = σ 20 := sp_o (by decide)
  have e11 : sp σ 15 n 0 11 = σ 11 := sp_o (by decide)
  have hle := eqf_le (τ := σ) (n := n) (σ 16 0) 0
  unfold stf
  rw [st2_3 (by rw [sp_o (by decide)]; exact h) (by rw [e16, eqf_c]; omega)]
  unfold bfo
  by_cases c : 0 < oldf (sp σ 15 n 0) n ∧ σ 20 (oldf (sp σ 15 n 0) n - 1) < 1 + alw 20 (σ 11 n) 0
  · rw [if_pos c, if_neg (by omega), st3_t rfl c.1 (by rw [e20, e11]; exact c.2), e20]
  · rw [if_neg c, if_pos rfl]
    refine st3_f rfl ?_
    rw [e20, e11]
    omega
theorem kp_same {n : Nat} (h : ∀ f, f ≠ 15 → stf σ n f = σ f) : kp σ n = σ := by
  funext f
  by_cases e : f = 15
  · subst e; exact kp_15
  · rw [kp_o e, h f e]
def ieI (S e : Nat) : Int32 := if e < S then nI e else -1
/-- telling the node -/
theorem stf_kp {n : Nat} : stf σ n = sp (kp σ n) 15 n (stf σ n 15 n) ∨ ∃ j, j ≠ n ∧ stf σ n 15 j ≠ σ 15 j := by
  by_cases h : ∀ j, j ≠ n → stf σ n 15 j = σ 15 j
  · refine Or.inl ?_
    funext f j
    rw [sp_at]
    by_cases c : f = 15 ∧ j = n
    · rw [if_pos c, c.1, c.2]
    · rw [if_neg c]
      by_cases e : f = 15
      · subst e
        rw [kp_15]
        exact h j (fun z => c ⟨rfl, z⟩)
      · rw [kp_o e]
  · refine Or.inr ?_
    simp only [Classical.not_forall] at h
    obtain ⟨j, hj, hne⟩ := h
    exact ⟨j, hj, hne⟩
/-- a representation more -/
theorem pic_rep {n bv cv ea cap ea' cap' q : Nat} {mcn mcn' : Int32} {ra rt : Nat → Nat} {M' : mp_M} (hP : PIC E σ ca na ta M) (hS : SF σ) (h0 : 0 < n) (hn : n ≤ σ 4 0) (hk : pK1 E σ ca M ra rt ea cap mcn) (hlo : ∀ f, f < 16 → τ f = σ f) (e16 : τ 16 0 = σ 16 0 + 1) (e17 : τ 17 = va_up (σ 17) (σ 16 0) (σ 9 n)) (e18 : τ 18 = va_up (σ 18) (σ 16 0) (σ 7 n)) (e19 : τ 19 = va_up (σ 19) (σ 16 0) bv) (e20 : τ 20 = va_up (σ 20) (σ 16 0) cv) (hbv : bv ≤ σ 16 0)
    (hq : M q = none) (hq' : M' q = some (.inr (5, [.ref (ta n), .int (nI bv - nI 1), .int (nI cv), .int (nI (cstK τ (σ 16 0)))]))) (m1 : M' (ca 3) = some (.inr (7, [.int mcn', .ref ea', .int (nI (σ 16 0 + 1))]))) (m2 : M' ea' = some (arO E cap' (σ 16 0 + 1) (va_up ra (σ 16 0) q))) (c1 : 10 ≤ cap') (c2 : σ 16 0 + 1 ≤ cap') (c3 : cap' ≤ 800) (hea : ea' = ea ∨ (M ea' = none ∧ ea' ≠ q)) (hfr : ∀ b e, M b = some e → b ≠ ca 3 → ¬ (b = ea ∧ 10 ≤ cap) → M' b = some e) : PIC E τ ca na ta M' := by
  have hP0 := hP
  obtain ⟨p1, p2, p3, p4, p5, p6, p7⟩ := hP
  obtain ⟨k1, k2, k3, k4, ⟨k5, k51, k52⟩, k6⟩ := hk
  have nk : ∀ b e, M b = some e → kd e ≠ 7 → b ≠ ca 3 := fun b e hb hk z => by
    rw [z, k1] at hb
    cases hb
    exact hk rfl
  have na99 : ∀ b e, M b = some e → kd e ≠ 99 → ¬ (b = ea ∧ 10 ≤ cap) := fun b e hb hk z => by
    rcases k2 with y | y
    · omega
    · rw [z.1, y.1] at hb
      cases hb
      exact hk rfl
  have fr : ∀ b e, M b = some e → kd e ≠ 7 → kd e ≠ 99 → M' b = some e := fun b e hb h7 h9 => hfr b e hb (nk b e hb h7) (na99 b e hb h9)
  have r0 := hlo 0 (by decide)
  have r4 : τ 4 0 = σ 4 0 := by rw [hlo 4 (by decide)]
  have rn : ∀ f n, 6 ≤ f → f ≤ 15 → τ f n = σ f n := fun f n _ h => by rw [hlo f (by omega)]
  have va_o : ∀ (g : Nat → Nat) v k, k ≠ σ 16 0 → va_up g (σ 16 0) v k = g k := fun g v k hk => by simp [va_up, hk]
  have va_s : ∀ (g : Nat → Nat) v, va_up g (σ 16 0) v (σ 16 0) = v := fun g v => by simp [va_up]
  refine ⟨pO_c ⟨fr _ _ p1.1 (by simp [kd]) (by simp [kd]), hfr _ _ p1.2.1 (nk _ _ p1.2.1 (by simp [kd])) (fun z => k51 z.1.symm), hfr _ _ p1.2.2.1 (nk _ _ p1.2.2.1 (by simp [kd])) (fun z => k52 z.1.symm), fr _ _ p1.2.2.2.1 (by simp [kd]) (by simp [kd]), fun k hk => fr _ _ (p1.2.2.2.2 k hk) (by simp [kd]) (by simp [kd])⟩ (by rw [hlo 1 (by decide)]) (by rw [hlo 5 (by decide)]), pX_c (fun j hj => fr _ _ (p2 j hj) (by simp [kd]) (by simp [kd])) (hlo 2 (by decide)) (hlo 3 (by decide)), pA_c (fun k hk => hfr _ _ (p3 k hk) (nk _ _ (p3 k hk) (by simp [kd])) (fun z => k5 k hk z.1.symm)) r0, pN_c (fun m m0 hm => ⟨fr _ _ (p4 m m0 hm).1 (by simp [kd]) (by simp [kd]), fr _ _ (p4 m m0 hm).2 (by simp [kd]) (by simp [kd])⟩) r4 rn, ⟨va_up ra (σ 16 0) q, va_up rt (σ 16 0) (ta n), ea', cap', mcn', by rw [e16]; exact m1, Or.inr ⟨by rw [e16]; exact m2, c1⟩, by rw [e16]; exact c2, c3, ?_, fun k hk => ?_⟩, pJ_c p6 r4, pZ_c p7 r0 r4 (hlo 13 (by decide))⟩
  · rcases hea with z | z
    · rw [z]; exact ⟨k5, k51, k52⟩
    · refine ⟨fun k hk y => ?_, fun y => ?_, fun y => ?_⟩
      · have := p3 k hk
        rw [← y, z.1] at this
        cases this
      · have := p1.2.1
        rw [← y, z.1] at this
        cases this
      · have := p1.2.2.1
        rw [← y, z.1] at this
        cases this
  · rw [e16] at hk
    by_cases e : k = σ 16 0
    · subst e
      unfold rpf
      rw [va_s, va_s, e17, e18, e19, e20, va_s, va_s, va_s, va_s]
      refine ⟨?_, fr _ _ (pic_tx hP0 h0 hn) (by simp [kd]) (by simp [kd])⟩
      exact hq'
    · have hk' : k < σ 16 0 := by omega
      have h19 := (hS.2 k).2.2.1
      have ec : cstK τ k = cstK σ k := by
        unfold cstK
        rw [e17, e18, e19, va_o _ _ k e, va_o _ _ k e, va_o _ _ k e]
        split
        · rfl
        · rw [va_o _ _ _ (by omega), va_o _ _ _ (by omega)]
      unfold rpf
      rw [va_o _ _ k e, va_o _ _ k e, e17, e18, e19, e20, va_o _ _ k e, va_o _ _ k e, va_o _ _ k e, va_o _ _ k e, ec]
      exact ⟨fr _ _ (k6 k hk').1 (by simp [kd]) (by simp [kd]), fr _ _ (k6 k hk').2 (by simp [kd]) (by simp [kd])⟩
/-- the rows behind storing a new text -/
theorem kp_st5 {n bv cv : Nat} (h : stf σ n = st5 (sp σ 15 n 0) n bv cv) : (∀ f, f < 16 → kp σ n f = σ f) ∧ kp σ n 16 0 = σ 16 0 + 1 ∧ kp σ n 17 = va_up (σ 17) (σ 16 0) (σ 9 n) ∧ kp σ n 18 = va_up (σ 18) (σ 16 0) (σ 7 n) ∧ kp σ n 19 = va_up (σ 19) (σ 16 0) bv ∧ kp σ n 20 = va_up (σ 20) (σ 16 0) cv ∧ stf σ n 15 n = σ 16 0 + 1 := by
  have o : ∀ f, f ≠ 15 → sp σ 15 n 0 f = σ f := fun f hf => sp_o hf
  have e16 := o 16 (by decide)
  have up : ∀ (τ : SS) f k v, sp τ f k v f = va_up (τ f) k v := fun τ f k v => if_pos rfl
  refine ⟨fun f hf => ?_, ?_, ?_, ?_, ?_, ?_, ?_⟩
  · by_cases e : f = 15
    · subst e; exact kp_15
    · rw [kp_o e, h]
      unfold st5
      rw [sp_o (by omega), sp_o (by omega), sp_o (by omega), sp_o (by omega), sp_o (by omega), sp_o (by omega), o f e]
  · rw [kp_o (by decide), h]
    unfold st5
    rw [sp_o (by decide), sp_s, e16]
  · rw [kp_o (by decide), h]
    unfold st5
    rw [sp_o (by decide), sp_o (by decide), sp_o (by decide), sp_o (by decide), sp_o (by decide), up, o 17 (by decide), o 9 (by decide), e16]
  · rw [kp_o (by decide), h]
    unfold st5
    rw [sp_o (by decide), sp_o (by decide), sp_o (by decide), sp_o (by decide), up, sp_o (by decide), o 18 (by decide), o 7 (by decide), e16]
  · rw [kp_o (by decide), h]
    unfold st5
    rw [sp_o (by decide), sp_o (by decide), sp_o (by decide), up, sp_o (by decide), sp_o (by decide), o 19 (by decide), e16]
  · rw [kp_o (by decide), h]
    unfold st5
    rw [sp_o (by decide), sp_o (by decide), up, sp_o (by decide), sp_o (by decide), sp_o (by decide), o 20 (by decide), e16]
  · rw [h]
    unfold st5
    rw [sp_s, e16]
end KPP
