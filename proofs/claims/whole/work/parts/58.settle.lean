/-! committing keeps the invariant -/
section SE
variable {σ τ θ : SS}
def SV (θ : SS) (t i : Nat) : Prop := pZ θ ∧ BF θ ∧ NF θ ∧ NV θ ∧ SF θ ∧ (∀ k, k ≤ θ 1 0 → TR θ k) ∧ (∀ k, k < θ 1 0 → TB θ k) ∧ (∀ q, θ 12 (rat θ (θ 1 0) q) < 128 ∨ (i ≤ q ∧ θ 12 (rat θ (θ 1 0) q) = 255 - t)) ∧ (∀ u, u < 3 → θ 2 u ≠ 0 → u ≠ t ∧ TR θ (16 + u) ∧ TT θ u ∧ T1 θ u ∧ T2 θ u) ∧ ∀ n, θ 12 n = 255 - t → θ 11 n ≤ θ 1 0 ∧ (θ 13 n ≠ 0 → θ 12 (θ 13 n) < θ 1 0)
theorem cm2_o {t f : Nat} (h0 : f ≠ 0) (h1 : f ≠ 1) (h2 : f ≠ 2) : cm2 τ t f = τ f := by
  unfold cm2
  rw [sp_o h2, fil_o h0, sp_o h1]
theorem cm2_1 {t : Nat} : cm2 τ t 1 0 = τ 1 0 + 1 := by
  unfold cm2
  rw [sp_o (by decide), fil_o (by decide), sp_s]
theorem cm2_2 {t u : Nat} : cm2 τ t 2 u = if u = t then 0 else τ 2 u := by
  unfold cm2
  rw [sp_at, fil_o (by decide), sp_o (by decide)]
  by_cases e : u = t
  · rw [if_pos ⟨rfl, e⟩, if_pos e]
  · rw [if_neg (fun z => e z.2), if_neg e]
theorem cm2_rat {t k q : Nat} (hy : τ 1 0 ≤ 14) (hk : k < 19) : rat (cm2 τ t) k q = if k = τ 1 0 + 1 then rat τ (16 + t) q else rat τ k q := by
  have e : rat (cm2 τ t) k q = rat (fil (sp τ 1 0 (τ 1 0 + 1)) (τ 1 0 + 1) (16 + t) 125) k q := rat_c (fun j _ => by unfold cm2; rw [sp_o (by decide)]) q
  have e2 : ∀ i, rat (sp τ 1 0 (τ 1 0 + 1)) i q = rat τ i q := fun i => rat_c (fun j _ => by rw [sp_o (by decide)]) q
  rw [e, rat_fil hk (by omega), e2, e2]
theorem sv_cm2 {t : Nat} (h : INV τ t) (ht : t < 3) (ho : τ 2 t ≠ 0) (hy : τ 1 0 ≤ 14) : SV (cm2 τ t) t 0 := by
  obtain ⟨hz, hB, hN, hV, hS, hT⟩ := h
  have O : ∀ f, f ≠ 0 → f ≠ 1 → f ≠ 2 → cm2 τ t f = τ f := fun f a b c => cm2_o a b c
  have R : ∀ k q, k < 19 → rat (cm2 τ t) k q = if k = τ 1 0 + 1 then rat τ (16 + t) q else rat τ k q := fun k q hk => cm2_rat hy hk
  have e1 := cm2_1 (τ := τ) (t := t)
  have e2 : ∀ u, cm2 τ t 2 u = if u = t then 0 else τ 2 u := fun u => cm2_2
  have hz1 : pZ (cm2 τ t) := by
    have h1 : pZ (sp τ 1 0 (τ 1 0 + 1)) := by
      unfold pZ
      rw [sp_o (by decide), sp_o (by decide), sp_o (by decide)]
      exact hz
    have h2 := pZ_fil h1 (x := τ 1 0 + 1) (y := 16 + t) (by omega) (by omega)
    unfold pZ at h2 ⊢
    unfold cm2
    rw [sp_o (by decide), sp_o (by decide), sp_o (by decide)]
    exact h2
  obtain ⟨g1, g2, g3, -⟩ := hT.2 t ht ho
  generalize cm2 τ t = F at O R e1 e2 hz1
  have f4 := O 4 (by decide) (by decide) (by decide)
  have f6 := O 6 (by decide) (by decide) (by decide)
  have f10 := O 10 (by decide) (by decide) (by decide)
  have f11 := O 11 (by decide) (by decide) (by decide)
  have f12 := O 12 (by decide) (by decide) (by decide)
  have f13 := O 13 (by decide) (by decide) (by decide)
  have f14 := O 14 (by decide) (by decide) (by decide)
  have f16 := O 16 (by decide) (by decide) (by decide)
  have f3 := O 3 (by decide) (by decide) (by decide)
  have lo : ∀ k, k ≤ τ 1 0 → ∀ q, rat F k q = rat τ k q := fun k hk q => by rw [R k q (by omega), if_neg (by omega)]
  have top : ∀ q, rat F (τ 1 0 + 1) q = rat τ (16 + t) q := fun q => by rw [R _ q (by omega), if_pos rfl]
  refine ⟨hz1, ⟨by omega, fun u hu => ?_, ?_, ?_⟩, ⟨?_, ?_, ?_, fun n => ?_⟩, fun n hn => ?_, ?_, fun k hk => ?_, fun k hk => ?_, fun q => ?_, fun u hu h2 => ?_, fun n hn => ?_⟩
  · rw [f3, e1]
    have := hB.2.1 u hu
    omega
  · rw [O 5 (by decide) (by decide) (by decide), f4]; exact hB.2.2.1
  · rw [f4]; exact hB.2.2.2
  · rw [f6, f10, f12, f13, f14, O 15 (by decide) (by decide) (by decide)]; exact hN.1
  · rw [f4, f14, O 8 (by decide) (by decide) (by decide)]; exact hN.2.1
  · rw [f4, f6]; exact hN.2.2.1
  · obtain ⟨n1, n2, n3, n4, n5, n6, n7, n8⟩ := hN.2.2.2 n
    unfold NB
    rw [e1, f6, f10, f11, f12, f13, f16, O 5 (by decide) (by decide) (by decide), O 7 (by decide) (by decide) (by decide), O 8 (by decide) (by decide) (by decide), O 9 (by decide) (by decide) (by decide), O 15 (by decide) (by decide) (by decide)]
    exact ⟨fun z => by have := n1 z; omega, fun z => by have := n2 z; omega, n3, n4, n5, n6, n7, n8⟩
  · rw [f14] at hn ⊢
    have := hV n hn
    rw [e1, lo _ this.1]
    exact ⟨by omega, this.2⟩
  · unfold SF
    rw [f16, O 17 (by decide) (by decide) (by decide), O 18 (by decide) (by decide) (by decide), O 19 (by decide) (by decide) (by decide), O 20 (by decide) (by decide) (by decide)]
    exact hS
  · rw [e1] at hk
    by_cases e : k = τ 1 0 + 1
    · subst e
      refine ⟨?_, fun q q0 hq => ?_⟩
      · rw [top, f6, f10, f14]; exact g1.1
      · rw [top] at hq
        rw [top, f6]
        exact g1.2 q q0 hq
    · exact TR_c (hT.1 k (by omega)).1 (lo k (by omega)) (fun q => by rw [f6, f10, f14]; exact ⟨rfl, rfl, rfl⟩)
  · rw [e1] at hk
    exact TB_c (hT.1 k (by omega)).2 (lo k (by omega)) (fun q => by rw [f12])
  · rw [e1, top, f12]
    rcases g2 q with z | z
    · exact Or.inl z
    · exact Or.inr ⟨Nat.zero_le _, z⟩
  · rw [e2] at h2
    by_cases e : u = t
    · rw [if_pos e] at h2
      exact absurd rfl h2
    · rw [if_neg e] at h2
      obtain ⟨k1, k2, k3, k4⟩ := hT.2 u hu h2
      have hb3 := hB.2.1 u hu
      have hq : ∀ q, rat F (16 + u) q = rat τ (16 + u) q := fun q => by rw [R _ q (by omega), if_neg (by omega)]
      exact ⟨e, TR_c k1 hq (fun q => by rw [f6, f10, f14]; exact ⟨rfl, rfl, rfl⟩), TT_c k2 hq (fun q => by rw [f12]), T1_c k3 hq (fun q => by rw [f12]), T2_c (k4 e) (by rw [f3]) hq (lo _ hb3) (fun q => by rw [f12, f10]; exact ⟨rfl, rfl⟩) (fun q => by rw [f10])⟩
  · rw [f12] at hn
    obtain ⟨n1, n2, n3, n4, n5, n6, n7, n8⟩ := hN.2.2.2 n
    rw [e1, f11, f12, f13]
    refine ⟨(n2 (by omega)).2.2, fun z => ?_⟩
    have := n6 z
    have := ((hN.2.2.2 (τ 13 n)).1 this.1).1
    omega
/-- a node gets its birth -/
theorem sv_12 {t i n : Nat} (h : SV θ t i) (ht : t < 3) (hn : n = rat θ (θ 1 0) i) (hb : θ 12 n = 255 - t) : SV (sp θ 12 n (θ 1 0)) t (i + 1) := by
  obtain ⟨hz, hB, hN, hV, hS, hR, hTB, hq, hu, hx⟩ := h
  have O : ∀ f, f ≠ 12 → sp θ 12 n (θ 1 0) f = θ f := fun f hf => sp_o hf
  have e12 : ∀ j, sp θ 12 n (θ 1 0) 12 j = if j = n then θ 1 0 else θ 12 j := fun j => by
    rw [sp_at]
    by_cases e : j = n
    · rw [if_pos ⟨rfl, e⟩, if_pos e]
    · rw [if_neg (fun z => e z.2), if_neg e]
  have hy := hB.1
  have n0 : n ≠ 0 := fun z => by rw [z, hN.1.2.2.1] at hb; omega
  have ne : ∀ j, θ 12 j ≠ 255 - t → j ≠ n := fun j hj z => hj (by rw [z]; exact hb)
  generalize sp θ 12 n (θ 1 0) = F at O e12
  have k12 : ∀ j, θ 12 j ≠ 255 - t → F 12 j = θ 12 j := fun j hj => by rw [e12, if_neg (ne j hj)]
  have rr : ∀ k q, rat F k q = rat θ k q := fun k q => rat_c (fun j _ => by rw [O 0 (by decide)]) q
  have o1 := O 1 (by decide)
  have o4 := O 4 (by decide)
  have o6 := O 6 (by decide)
  have o10 := O 10 (by decide)
  have o11 := O 11 (by decide)
  have o13 := O 13 (by decide)
  have o14 := O 14 (by decide)
  have o16 := O 16 (by decide)
  refine ⟨?_, ?_, ⟨?_, ?_, ?_, fun j => ?_⟩, fun j hj => ?_, ?_, fun k hk => ?_, fun k hk => ?_, fun q => ?_, fun u hu3 h2 => ?_, fun j hj => ?_⟩
  · unfold pZ
    rw [O 0 (by decide), o4, o13]
    exact hz
  · unfold BF
    rw [o1, o4, O 3 (by decide), O 5 (by decide)]
    exact hB
  · rw [o6, o10, k12 0 (by rw [hN.1.2.2.1]; omega), o13, o14, O 15 (by decide)]; exact hN.1
  · rw [o4, o14, O 8 (by decide)]; exact hN.2.1
  · rw [o4, o6]; exact hN.2.2.1
  · obtain ⟨n1, n2, n3, n4, n5, n6, n7, n8⟩ := hN.2.2.2 j
    unfold NB
    rw [o1, o6, o10, o11, o13, o16, O 5 (by decide), O 7 (by decide), O 8 (by decide), O 9 (by decide), O 15 (by decide)]
    by_cases e : j = n
    · have hj : θ 12 j = 255 - t := by rw [e]; exact hb
      obtain ⟨x1, x2⟩ := hx j hj
      rw [e12 j, if_pos e]
      refine ⟨fun _ => ⟨Nat.le_refl _, x1⟩, fun z => by omega, n3, n4, n5, fun z => ?_, n7, n8⟩
      have := x2 z
      rw [k12 _ (by omega)]
      exact ⟨by omega, this⟩
    · rw [e12 j, if_neg e]
      refine ⟨n1, n2, n3, n4, n5, fun z => ?_, n7, n8⟩
      have := n6 z
      rw [k12 _ (by omega)]
      exact this
  · rw [o14] at hj ⊢
    rw [o1, rr]
    exact hV j hj
  · unfold SF
    rw [o16, O 17 (by decide), O 18 (by decide), O 19 (by decide), O 20 (by decide)]
    exact hS
  · rw [o1] at hk
    exact TR_c (hR k hk) (rr k) (fun q => by rw [o6, o10, o14]; exact ⟨rfl, rfl, rfl⟩)
  · rw [o1] at hk
    exact TB_c (hTB k hk) (rr k) (fun q => k12 _ (by have := hTB k hk q; omega))
  · rw [o1, rr]
    by_cases e : rat θ (θ 1 0) q = n
    · rw [e12, if_pos e]
      exact Or.inl (by omega)
    · rw [e12, if_neg e]
      rcases hq q with z | ⟨z1, z2⟩
      · exact Or.inl z
      · refine Or.inr ⟨?_, z2⟩
        by_cases e2 : q = i
        · subst e2; exact absurd hn.symm e
        · omega
  · rw [O 2 (by decide)] at h2
    obtain ⟨k0, k1, k2, k3, k4⟩ := hu u hu3 h2
    have hb3 := hB.2.1 u hu3
    have kk : ∀ q, F 12 (rat θ (16 + u) q) = θ 12 (rat θ (16 + u) q) := fun q => k12 _ (by rcases k2 q with z | z <;> omega)
    exact ⟨k0, TR_c k1 (rr _) (fun q => by rw [o6, o10, o14]; exact ⟨rfl, rfl, rfl⟩), TT_c k2 (rr _) kk, T1_c k3 (rr _) kk, T2_c k4 (by rw [O 3 (by decide)]) (rr _) (rr _) (fun q => by rw [kk, o10]; exact ⟨rfl, rfl⟩) (fun q => by rw [o10])⟩
  · have hjn : j ≠ n := fun z => by rw [z, e12, if_pos rfl] at hj; omega
    rw [e12, if_neg hjn] at hj
    obtain ⟨x1, x2⟩ := hx j hj
    rw [o11, o1, o13]
    refine ⟨x1, fun z => ?_⟩
    have := x2 z
    rw [k12 _ (by omega)]
    exact this
/-- what storing changes -/
theorem stf_all {n : Nat} (hS : SF θ) (h15 : ∀ j, θ 15 j ≤ θ 16 0) (h7 : θ 7 n ≤ 12) (h9 : θ 9 n < 2 ^ 48) (hs : θ 16 0 < 512) : (∀ f, f < 15 → stf θ n f = θ f) ∧ (∀ j, j ≠ n → stf θ n 15 j = θ 15 j) ∧ (θ 16 0 ≤ stf θ n 16 0 ∧ stf θ n 16 0 ≤ θ 16 0 + 1) ∧ stf θ n 15 n ≤ stf θ n 16 0 ∧ SF (stf θ n) := by
  obtain ⟨κ, hκ⟩ : ∃ κ, κ = sp θ 15 n 0 := ⟨_, rfl⟩
  have O : ∀ f, f ≠ 15 → κ f = θ f := fun f hf => by rw [hκ, sp_o hf]
  have a : ∀ j, j ≠ n → κ 15 j = θ 15 j := fun j hj => by rw [hκ, sp_n hj]
  have b : κ 15 n = 0 := by rw [hκ, sp_s]
  have c15 : ∀ j, κ 15 j ≤ κ 16 0 := fun j => by
    rw [O 16 (by decide)]
    by_cases e : j = n
    · rw [e, b]; exact Nat.zero_le _
    · rw [a j e]; exact h15 j
  have hSκ : SF κ := by
    unfold SF
    rw [O 16 (by decide), O 17 (by decide), O 18 (by decide), O 19 (by decide), O 20 (by decide)]
    exact hS
  have e5 : ∀ bv cv, bv ≤ κ 16 0 → cv ≤ 22 → (∀ f, f < 15 → st5 κ n bv cv f = θ f) ∧ (∀ j, j ≠ n → st5 κ n bv cv 15 j = θ 15 j) ∧ (θ 16 0 ≤ st5 κ n bv cv 16 0 ∧ st5 κ n bv cv 16 0 ≤ θ 16 0 + 1) ∧ st5 κ n bv cv 15 n ≤ st5 κ n bv cv 16 0 ∧ SF (st5 κ n bv cv) := by
    intro bv cv hbv hcv
    have s16 : st5 κ n bv cv 16 0 = κ 16 0 + 1 := by
      unfold st5
      rw [sp_o (by decide), sp_s]
    have e16 := O 16 (by decide)
    refine ⟨fun f hf => ?_, fun j hj => ?_, ⟨by rw [s16, e16]; omega, by rw [s16, e16]; exact Nat.le_refl _⟩, ?_, ?_⟩
    · unfold st5
      rw [sp_o (by omega), sp_o (by omega), sp_o (by omega), sp_o (by omega), sp_o (by omega), sp_o (by omega), O f (by omega)]
    · unfold st5
      rw [sp_n hj, sp_o (by decide), sp_o (by decide), sp_o (by decide), sp_o (by decide), sp_o (by decide), a j hj]
    · rw [s16]
      unfold st5
      rw [sp_s]
      exact Nat.le_refl _
    · refine ⟨by rw [s16, e16]; omega, fun k => ?_⟩
      have hk := hSκ.2 k
      have g17 : st5 κ n bv cv 17 k = if k = κ 16 0 then κ 9 n else κ 17 k := by
        unfold st5
        rw [sp_o (by decide), sp_o (by decide), sp_o (by decide), sp_o (by decide), sp_o (by decide), sp_at]
        by_cases e : k = κ 16 0
        · rw [if_pos ⟨rfl, e⟩, if_pos e]
        · rw [if_neg (fun z => e z.2), if_neg e]
      have g18 : st5 κ n bv cv 18 k = if k = κ 16 0 then κ 7 n else κ 18 k := by
        unfold st5
        rw [sp_o (by decide), sp_o (by decide), sp_o (by decide), sp_o (by decide), sp_at, sp_o (by decide)]
        by_cases e : k = κ 16 0
        · rw [if_pos ⟨rfl, e⟩, if_pos e]
        · rw [if_neg (fun z => e z.2), if_neg e]
      have g19 : st5 κ n bv cv 19 k = if k = κ 16 0 then bv else κ 19 k := by
        unfold st5
        rw [sp_o (by decide), sp_o (by decide), sp_o (by decide), sp_at, sp_o (by decide), sp_o (by decide)]
        by_cases e : k = κ 16 0
        · rw [if_pos ⟨rfl, e⟩, if_pos e]
        · rw [if_neg (fun z => e z.2), if_neg e]
      have g20 : st5 κ n bv cv 20 k = if k = κ 16 0 then cv else κ 20 k := by
        unfold st5
        rw [sp_o (by decide), sp_o (by decide), sp_at, sp_o (by decide), sp_o (by decide), sp_o (by decide)]
        by_cases e : k = κ 16 0
        · rw [if_pos ⟨rfl, e⟩, if_pos e]
        · rw [if_neg (fun z => e z.2), if_neg e]
      have k9 := O 9 (by decide)
      have k7 := O 7 (by decide)
      rw [g17, g18, g19, g20, s16]
      by_cases e : k = κ 16 0
      · rw [if_pos e, if_pos e, if_pos e, if_pos e, k9, k7]
        exact ⟨h9, h7, by omega, by omega, hcv⟩
      · rw [if_neg e, if_neg e, if_neg e, if_neg e]
        exact ⟨hk.1, hk.2.1, hk.2.2.1, by omega, hk.2.2.2.2⟩
  have e0 : stf θ n = st2 κ n := by unfold stf; rw [hκ]
  rw [e0]
  unfold st2
  have e16 := O 16 (by decide)
  split
  · exact ⟨fun f hf => O f (by omega), a, ⟨by rw [e16]; exact Nat.le_refl _, by rw [e16]; omega⟩, c15 n, hSκ⟩
  · split
    · next hc =>
      have s16 : sp κ 15 n (eqf κ n (κ 16 0) 0 + 1) 16 = κ 16 := sp_o (by decide)
      refine ⟨fun f hf => by rw [sp_o (by omega), O f (by omega)], fun j hj => by rw [sp_n hj, a j hj], ⟨by rw [s16, e16]; exact Nat.le_refl _, by rw [s16, e16]; omega⟩, by rw [sp_s, s16]; omega, ?_⟩
      unfold SF
      rw [s16, sp_o (by decide), sp_o (by decide), sp_o (by decide), sp_o (by decide)]
      exact hSκ
    · unfold st3
      have ho : oldf κ n ≤ κ 16 0 := by
        unfold oldf
        split
        · exact c15 _
        · exact Nat.zero_le _
      have hal := alw_le (c := κ 11 n) 20 0
      split
      · exact e5 _ _ ho (by omega)
      · exact e5 _ _ (Nat.zero_le _) (by omega)
theorem sv_stf {t i n : Nat} (h : SV θ t i) (h6 : θ 6 n = 2) (hs : θ 16 0 < 512) : SV (stf θ n) t i ∧ (∀ f, f < 15 → stf θ n f = θ f) ∧ stf θ n 16 0 ≤ θ 16 0 + 1 := by
  obtain ⟨hz, hB, hN, hV, hS, hR, hTB, hq, hu, hx⟩ := h
  obtain ⟨a1, a2, a3, a4, a5⟩ := stf_all (n := n) hS (fun j => (hN.2.2.2 j).2.2.2.2.2.2.1) (hN.2.2.2 n).2.2.1 (hN.2.2.2 n).2.2.2.1 hs
  generalize stf θ n = F at a1 a2 a3 a4 a5
  have n0 : n ≠ 0 := fun z => by rw [z, hN.1.1] at h6; omega
  have rr : ∀ k q, rat F k q = rat θ k q := fun k q => rat_c (fun j _ => by rw [a1 0 (by decide)]) q
  have o1 := a1 1 (by decide)
  have o3 := a1 3 (by decide)
  have o4 := a1 4 (by decide)
  have o6 := a1 6 (by decide)
  have o10 := a1 10 (by decide)
  have o11 := a1 11 (by decide)
  have o12 := a1 12 (by decide)
  have o13 := a1 13 (by decide)
  have o14 := a1 14 (by decide)
  refine ⟨⟨?_, ?_, ⟨?_, ?_, ?_, fun j => ?_⟩, fun j hj => ?_, a5, fun k hk => ?_, fun k hk => ?_, fun q => ?_, fun u hu3 h2 => ?_, fun j hj => ?_⟩, a1, a3.2⟩
  · unfold pZ
    rw [a1 0 (by decide), o4, o13]
    exact hz
  · unfold BF
    rw [o1, o3, o4, a1 5 (by decide)]
    exact hB
  · rw [o6, o10, o12, o13, o14, a2 0 (fun z => n0 z.symm)]; exact hN.1
  · rw [o4, o14, a1 8 (by decide)]; exact hN.2.1
  · rw [o4, o6]; exact hN.2.2.1
  · obtain ⟨n1, n2, n3, n4, n5, n6, n7, n8⟩ := hN.2.2.2 j
    unfold NB
    rw [o1, o6, o10, o11, o12, o13, a1 5 (by decide), a1 7 (by decide), a1 8 (by decide), a1 9 (by decide)]
    by_cases e : j = n
    · rw [e] at n1 n2 n3 n4 n5 n6 n7 n8 ⊢
      exact ⟨n1, n2, n3, n4, n5, n6, a4, fun z => absurd h6 z⟩
    · rw [a2 j e]
      exact ⟨n1, n2, n3, n4, n5, n6, by omega, n8⟩
  · rw [o14] at hj ⊢
    rw [o1, rr]
    exact hV j hj
  · rw [o1] at hk
    exact TR_c (hR k hk) (rr k) (fun q => by rw [o6, o10, o14]; exact ⟨rfl, rfl, rfl⟩)
  · rw [o1] at hk
    exact TB_c (hTB k hk) (rr k) (fun q => by rw [o12])
  · rw [o1, rr, o12]; exact hq q
  · rw [a1 2 (by decide)] at h2
    obtain ⟨k0, k1, k2, k3, k4⟩ := hu u hu3 h2
    exact ⟨k0, TR_c k1 (rr _) (fun q => by rw [o6, o10, o14]; exact ⟨rfl, rfl, rfl⟩), TT_c k2 (rr _) (fun q => by rw [o12]), T1_c k3 (rr _) (fun q => by rw [o12]), T2_c k4 (by rw [o3]) (rr _) (rr _) (fun q => by rw [o12, o10]; exact ⟨rfl, rfl⟩) (fun q => by rw [o10])⟩
  · rw [o12] at hj
    rw [o11, o1, o13, o12]
    exact hx j hj
theorem cw_set {n v : Nat} (hv : v < 128) (hb : 128 ≤ θ 12 n) : ∀ k, n ≤ k → 0 < n → cw (sp θ 12 n v) k + (if θ 8 n ≠ 0 then 1 else 0) = cw θ k := by
  intro k
  induction k with
  | zero => intro h1 h2; omega
  | succ k ih =>
    intro h1 h2
    show cw (sp θ 12 n v) k + (if 128 ≤ sp θ 12 n v 12 (k + 1) ∧ sp θ 12 n v 8 (k + 1) ≠ 0 then 1 else 0) + _ = cw θ k + (if 128 ≤ θ 12 (k + 1) ∧ θ 8 (k + 1) ≠ 0 then 1 else 0)
    have o8 : sp θ 12 n v 8 = θ 8 := sp_o (by decide)
    rw [o8]
    by_cases e : k + 1 = n
    · subst e
      have e1 : cw (sp θ 12 (k + 1) v) k = cw θ k := cw_c (fun j hj => ⟨by rw [sp_n (by omega)], by rw [o8]⟩)
      have e2 : sp θ 12 (k + 1) v 12 (k + 1) = v := sp_s
      rw [e1, e2, if_neg (show ¬ (128 ≤ v ∧ θ 8 (k + 1) ≠ 0) from fun z => by omega)]
      by_cases h8 : θ 8 (k + 1) = 0
      · rw [if_neg (show ¬ θ 8 (k + 1) ≠ 0 from fun z => z h8), if_neg (show ¬ (128 ≤ θ 12 (k + 1) ∧ θ 8 (k + 1) ≠ 0) from fun z => z.2 h8)]
      · rw [if_pos h8, if_pos (show 128 ≤ θ 12 (k + 1) ∧ θ 8 (k + 1) ≠ 0 from ⟨hb, h8⟩)]
    · have e2 : sp θ 12 n v 12 (k + 1) = θ 12 (k + 1) := sp_n e
      rw [e2]
      have := ih (by omega) h2
      omega
theorem sv_sl1 {t i : Nat} (h : SV θ t i) (ht : t < 3) (hs : CW θ ≤ 511) : SV (sl1 θ i) t (i + 1) ∧ CW (sl1 θ i) ≤ CW θ ∧ (∀ f, f < 12 → sl1 θ i f = θ f) ∧ ∀ u, u < 3 → w2 (sl1 θ i) u = w2 θ u := by
  have h' := h
  obtain ⟨hz, hB, hN, hV, hS, hR, hTB, hq, hu, hx⟩ := h
  have hle := rat_le hz (k := θ 1 0) (q := i)
  have hs16 : θ 16 0 ≤ 511 := by unfold CW at hs; omega
  by_cases c : 0 < rat θ (θ 1 0) i ∧ 128 ≤ θ 12 (rat θ (θ 1 0) i)
  · have hb : θ 12 (rat θ (θ 1 0) i) = 255 - t := by
      rcases hq i with z | z
      · omega
      · exact z.2
    obtain ⟨n, hn⟩ : ∃ n, n = rat θ (θ 1 0) i := ⟨_, rfl⟩
    rw [← hn] at c hb hle
    have s1 := sv_12 h' ht hn hb
    have hy := hB.1
    have hcw := cw_set (θ := θ) (n := n) (v := θ 1 0) (by omega) c.2 (θ 4 0) hle c.1
    have o : ∀ f, f ≠ 12 → sp θ 12 n (θ 1 0) f = θ f := fun f hf => sp_o hf
    have hw2 : ∀ F : SS, F 2 = θ 2 → F 0 = θ 0 → F 12 = sp θ 12 n (θ 1 0) 12 → ∀ u, u < 3 → w2 F u = w2 θ u := fun F h2 h0 h12 u hu3 => by
      by_cases e : θ 2 u = 0
      · unfold w2
        rw [h2, if_pos e, if_pos e]
      · refine w2_c (by rw [h2]) (fun q => ?_)
        have : rat F (16 + u) q = rat θ (16 + u) q := rat_c (fun j _ => by rw [h0]) q
        rw [this, h12]
        obtain ⟨k0, k1, k2, k3, k4⟩ := hu u hu3 e
        refine sp_n (fun z => ?_)
        rw [← z] at hb
        rcases k2 q with y | y <;> omega
    by_cases c2 : θ 6 n = 2 ∧ θ 8 n ≠ 0
    · have e : sl1 θ i = stf (sp θ 12 n (θ 1 0)) n := by
        rw [sl_2 (by rw [← hn]; exact c.1) (by rw [← hn]; exact c.2) (by rw [← hn]; exact c2.1) (by rw [← hn]; exact c2.2), ← hn]
      rw [e]
      obtain ⟨r1, r2, r3⟩ := sv_stf (n := n) s1 (by rw [o 6 (by decide)]; exact c2.1) (by rw [o 16 (by decide)]; omega)
      refine ⟨r1, ?_, fun f hf => by rw [r2 f (by omega), o f (by omega)], hw2 _ (by rw [r2 2 (by decide), o 2 (by decide)]) (by rw [r2 0 (by decide), o 0 (by decide)]) (r2 12 (by decide))⟩
      unfold CW
      rw [r2 4 (by decide), o 4 (by decide), cw_c (σ := sp θ 12 n (θ 1 0)) (fun j _ => by rw [r2 12 (by decide), r2 8 (by decide)]; exact ⟨rfl, rfl⟩)]
      rw [o 16 (by decide)] at r3
      rw [if_pos c2.2] at hcw
      omega
    · have e : sl1 θ i = sp θ 12 n (θ 1 0) := by
        rw [sl_1 (by rw [← hn]; exact c.1) (by rw [← hn]; exact c.2) (by rw [← hn]; by_cases z : θ 6 n = 2; exact Or.inr (by by_cases y : θ 8 n = 0; exact y; exact absurd ⟨z, y⟩ c2); exact Or.inl z), ← hn]
      rw [e]
      refine ⟨s1, ?_, fun f hf => o f (by omega), hw2 _ (o 2 (by decide)) (o 0 (by decide)) rfl⟩
      unfold CW
      rw [o 4 (by decide), o 16 (by decide)]
      omega
  · have hlt : θ 12 (rat θ (θ 1 0) i) < 128 := by
      rcases Nat.eq_zero_or_pos (rat θ (θ 1 0) i) with z | z
      · rw [z, hN.1.2.2.1]; omega
      · rcases Nat.lt_or_ge (θ 12 (rat θ (θ 1 0) i)) 128 with y | y
        · exact y
        · exact absurd ⟨z, y⟩ c
    rw [sl_0 (Or.inr hlt)]
    refine ⟨⟨hz, hB, hN, hV, hS, hR, hTB, fun q => ?_, hu, hx⟩, Nat.le_refl _, fun f _ => rfl, fun u _ => rfl⟩
    rcases hq q with z | ⟨z1, z2⟩
    · exact Or.inl z
    · refine Or.inr ⟨?_, z2⟩
      by_cases e : q = i
      · subst e; omega
      · omega
theorem sv_slf {t : Nat} (ht : t < 3) : ∀ u p (θ : SS), SV θ t p → CW θ ≤ 511 → SV (slf u p θ) t (p + u) ∧ CW (slf u p θ) ≤ CW θ ∧ (∀ f, f < 12 → slf u p θ f = θ f) ∧ ∀ v, v < 3 → w2 (slf u p θ) v = w2 θ v := by
  intro u
  induction u with
  | zero => intro p θ h hs; exact ⟨h, Nat.le_refl _, fun _ _ => rfl, fun _ _ => rfl⟩
  | succ u ih =>
    intro p θ h hs
    obtain ⟨a1, a2, a3, a4⟩ := sv_sl1 h ht hs
    obtain ⟨b1, b2, b3, b4⟩ := ih (p + 1) (sl1 θ p) a1 (by omega)
    rw [show p + 1 + u = p + (u + 1) by omega] at b1
    exact ⟨b1, Nat.le_trans b2 a2, fun f hf => (b3 f hf).trans (a3 f hf), fun v hv => (b4 v hv).trans (a4 v hv)⟩
theorem sv_inv {t : Nat} (h : SV θ t 125) : INV θ 3 := by
  obtain ⟨hz, hB, hN, hV, hS, hR, hTB, hq, hu, hx⟩ := h
  refine ⟨hz, hB, hN, hV, hS, fun k hk => ⟨hR k hk, ?_⟩, fun u hu3 h2 => ⟨(hu u hu3 h2).2.1, (hu u hu3 h2).2.2.1, (hu u hu3 h2).2.2.2.1, fun _ => (hu u hu3 h2).2.2.2.2⟩⟩
  by_cases e : k = θ 1 0
  · intro q
    rw [e]
    rcases hq q with z | ⟨z1, z2⟩
    · exact z
    · have : rat θ (θ 1 0) q = 0 := by
        rcases Nat.eq_zero_or_pos (rat θ (θ 1 0) q) with y | y
        · exact y
        · have := rat_lt125 (σ := θ) (s := θ 1 0) (n := q) (by omega)
          omega
      rw [this, hN.1.2.2.1]
      omega
  · exact hTB k (by omega)
theorem cmO_inv {t : Nat} (h : INV σ 3) (hrB : rB σ) (hP : PT σ ≤ 2560) (hC : CW σ ≤ 511) : (cmb σ t = true → MJ σ t 100) ∧ (cmb σ t = true → (cm1 σ t).1 1 0 ≤ 14 ∧ ((cm1 σ t).2 = 125 → SJ (cm2 (cm1 σ t).1 t) ∧ ∀ i, i < 125 → slf i 0 (cm2 (cm1 σ t).1 t) 16 0 < 512)) ∧ INV (cmO σ t) 3 ∧ PT (cmO σ t) ≤ PT σ + 1 ∧ CW (cmO σ t) ≤ CW σ := by
  by_cases hc : cmb σ t = true
  · have hc' := hc
    unfold cmb at hc'
    simp only [Bool.and_eq_true, decide_eq_true_eq] at hc'
    obtain ⟨h1, h2⟩ := hc'
    obtain ⟨ht, ho⟩ := opb_lt h1
    have hy := h.2.1.1
    have hb3 := h.2.1.2.1 t ht
    have hPl := PT_le (σ := σ)
    obtain ⟨e, hx⟩ := cm1_e h ht ho
    have hcnt : ∀ n, σ 11 n ≤ 16 := fun n => by
      obtain ⟨n1, n2, -⟩ := h.2.2.1.2.2.2 n
      rcases Nat.lt_or_ge (σ 12 n) 128 with z | z
      · have := n1 z; omega
      · have := n2 z; omega
    have hMJ : MJ σ t 100 := ⟨hrB, fun j => by have := h.1.1 j; omega, hy, by omega, fun n => by have := hcnt n; omega⟩
    by_cases hf : cf σ t 3 0 = 125
    · obtain ⟨hI, hO⟩ := hx hf
      rw [if_pos hf, hf] at e
      have c1 : (cm1 σ t).1 = cg t 3 σ 0 := by rw [e]
      have c2 : (cm1 σ t).2 = 125 := by rw [e]
      have hrT : MJ (cm1 σ t).1 t 200 := by
        by_cases d1 : σ 0 (125 * σ 1 0) = σ 0 (125 * σ 3 t)
        · rw [cm1_s d1]; exact MJ_up hMJ (by omega)
        · by_cases d2 : σ 0 (2000 + 125 * t) = σ 0 (125 * σ 3 t)
          · rw [cm1_f d1 d2, fil_tkn h.1 ht hy]; exact MJ_up (MJ_tkn hMJ) (by omega)
          · by_cases d3 : (mg1 t false 4 σ).2 = 125
            · rw [cm1_j d1 d2 d3]
              exact MJ_up (MJ_jn (by omega) (MJ_1 4 100 σ (by omega) hMJ)) (by omega)
            · rw [cm1_c d1 d2 d3]; exact MJ_up hMJ (by omega)
      rw [c1] at hrT
      rw [c1, c2]
      have ho1 : cg t 3 σ 0 2 t ≠ 0 := by rw [hO.2.2 2 (by decide) (by decide) (by decide)]; exact ho
      have hy1 : cg t 3 σ 0 1 0 ≤ 14 := by rw [hO.2.2 1 (by decide) (by decide) (by decide)]; omega
      have hsv := sv_cm2 hI ht ho1 hy1
      have e4 : cm2 (cg t 3 σ 0) t 4 0 = σ 4 0 := by rw [cm2_o (by decide) (by decide) (by decide), hO.2.2 4 (by decide) (by decide) (by decide)]
      have eC : CW (cm2 (cg t 3 σ 0) t) = CW σ := by
        unfold CW
        rw [cm2_o (by decide) (by decide) (by decide), cm2_o (by decide) (by decide) (by decide), hO.2.2 16 (by decide) (by decide) (by decide), hO.2.2 4 (by decide) (by decide) (by decide), cw_c (fun j _ => by rw [cm2_o (by decide) (by decide) (by decide), cm2_o (by decide) (by decide) (by decide), hO.2.2 12 (by decide) (by decide) (by decide), hO.2.2 8 (by decide) (by decide) (by decide)]; exact ⟨rfl, rfl⟩)]
      have hsj : SJ (cm2 (cg t 3 σ 0) t) := by
        obtain ⟨hz, hB, hN, hV, hS, -⟩ := hsv
        refine ⟨?_, fun j => by have := hz.1 j; omega, fun j => ?_, fun j => by have := hz.2.1 j; omega, fun j => ?_, fun j => by have := (hN.2.2.2 j).2.2.1; omega, fun j => (hS.2 j).1, fun j => (hN.2.2.2 j).2.2.2.1, fun j => ?_, hB.1⟩
        · unfold cm2
          exact rB_sp (rB_fil (rB_sp hrT.1 (by omega))) (by omega)
        · obtain ⟨n1, n2, -⟩ := hN.2.2.2 j
          rcases Nat.lt_or_ge (cm2 (cg t 3 σ 0) t 12 j) 128 with z | z
          · omega
          · have := n2 z; omega
        · have := (hN.2.2.2 j).2.2.2.2.2.2.1
          have := hS.1
          omega
        · have := hB.1
          obtain ⟨n1, n2, -⟩ := hN.2.2.2 j
          rcases Nat.lt_or_ge (cm2 (cg t 3 σ 0) t 12 j) 128 with z | z
          · have := n1 z; omega
          · have := n2 z; omega
      obtain ⟨s1, s2, s3, s4⟩ := sv_slf ht 125 0 _ hsv (by rw [eC]; exact hC)
      refine ⟨fun _ => hMJ, fun _ => ⟨hy1, fun _ => ⟨hsj, fun i _ => ?_⟩⟩, ?_⟩
      · obtain ⟨-, b2, -, -⟩ := sv_slf ht i 0 _ hsv (by rw [eC]; exact hC)
        have : slf i 0 (cm2 (cg t 3 σ 0) t) 16 0 ≤ CW (slf i 0 (cm2 (cg t 3 σ 0) t)) := by unfold CW; omega
        omega
      · rw [cmO_t hc c2, c1]
        refine ⟨sv_inv s1, ?_, by omega⟩
        have w : ∀ u, u < 3 → w2 (slf 125 0 (cm2 (cg t 3 σ 0) t)) u = w2 (cm2 (cg t 3 σ 0) t) u := s4
        refine PT_of ht (by rw [s3 4 (by decide)]; exact e4) (fun u hu hut => ?_) ?_
        · rw [w u hu]
          refine w2_c (by rw [cm2_2, if_neg hut, hO.2.2 2 (by decide) (by decide) (by decide)]) (fun q => ?_)
          rw [cm2_rat hy1 (by omega), if_neg (by omega), cm2_o (by decide) (by decide) (by decide), hO.2.2 12 (by decide) (by decide) (by decide)]
          have : rat (cg t 3 σ 0) (16 + u) q = rat σ (16 + u) q := rat_c (fun j hj => hO.2.1 _ (by omega)) q
          rw [this]
        · rw [w t ht]
          unfold w2
          rw [cm2_2, if_pos rfl, if_pos rfl]
          omega
    · have c2 : (cm1 σ t).2 = cf σ t 3 0 := by rw [e]
      have c1 : (cm1 σ t).1 = σ := by rw [e, if_neg hf]
      rw [cmO_c hc (by rw [c2]; exact hf), c1, c2]
      exact ⟨fun _ => hMJ, fun _ => ⟨by omega, fun z => absurd z hf⟩, h, by omega, Nat.le_refl _⟩
  · rw [cmO_f hc]
    exact ⟨fun z => absurd z hc, fun z => absurd z hc, h, by omega, Nat.le_refl _⟩
/-- the first state -/
theorem inv_0 : INV σ0 3 ∧ PT σ0 ≤ 5 ∧ CW σ0 = 0 := by
  have z : ∀ f j, f ≠ 0 → f ≠ 4 → f ≠ 6 → σ0 f j = 0 := fun f j h0 h4 h6 => by
    unfold σ0
    rw [sp_o h0, sp_o h6, sp_o h4]
  have e4 : σ0 4 0 = 1 := rfl
  have e6 : ∀ j, σ0 6 j = if j = 1 then 1 else 0 := fun j => by
    unfold σ0
    rw [sp_o (by decide), sp_at, sp_o (by decide)]
    by_cases e : j = 1
    · rw [if_pos ⟨rfl, e⟩, if_pos e]
    · rw [if_neg (fun y => e y.2), if_neg e]
  have e0 : ∀ j, σ0 0 j = if j = 0 then 1 else 0 := fun j => by
    unfold σ0
    rw [sp_at, sp_o (by decide), sp_o (by decide)]
    by_cases e : j = 0
    · rw [if_pos ⟨rfl, e⟩, if_pos e]
    · rw [if_neg (fun y => e y.2), if_neg e]
  have r : ∀ k q, rat σ0 k q = if k = 0 ∧ q = 0 then 1 else 0 := fun k q => by
    unfold rat
    by_cases hp : pgb q = true
    · rw [if_pos hp, e0]
      by_cases e : k = 0 ∧ q = 0
      · rw [if_pos e, if_pos (by omega)]
      · rw [if_neg e, if_neg (by omega)]
    · rw [if_neg hp, if_neg]
      rintro ⟨-, rfl⟩
      exact hp pg_0
  have z1 : ∀ j, σ0 1 j = 0 := fun j => z 1 j (by decide) (by decide) (by decide)
  have z2 : ∀ j, σ0 2 j = 0 := fun j => z 2 j (by decide) (by decide) (by decide)
  have z3 : ∀ j, σ0 3 j = 0 := fun j => z 3 j (by decide) (by decide) (by decide)
  have z5 : ∀ j, σ0 5 j = 0 := fun j => z 5 j (by decide) (by decide) (by decide)
  have z7 : ∀ j, σ0 7 j = 0 := fun j => z 7 j (by decide) (by decide) (by decide)
  have z8 : ∀ j, σ0 8 j = 0 := fun j => z 8 j (by decide) (by decide) (by decide)
  have z9 : ∀ j, σ0 9 j = 0 := fun j => z 9 j (by decide) (by decide) (by decide)
  have z10 : ∀ j, σ0 10 j = 0 := fun j => z 10 j (by decide) (by decide) (by decide)
  have z11 : ∀ j, σ0 11 j = 0 := fun j => z 11 j (by decide) (by decide) (by decide)
  have z12 : ∀ j, σ0 12 j = 0 := fun j => z 12 j (by decide) (by decide) (by decide)
  have z13 : ∀ j, σ0 13 j = 0 := fun j => z 13 j (by decide) (by decide) (by decide)
  have z14 : ∀ j, σ0 14 j = 0 := fun j => z 14 j (by decide) (by decide) (by decide)
  have z15 : ∀ j, σ0 15 j = 0 := fun j => z 15 j (by decide) (by decide) (by decide)
  have z16 : ∀ j, σ0 16 j = 0 := fun j => z 16 j (by decide) (by decide) (by decide)
  have z17 : ∀ j, σ0 17 j = 0 := fun j => z 17 j (by decide) (by decide) (by decide)
  have z18 : ∀ j, σ0 18 j = 0 := fun j => z 18 j (by decide) (by decide) (by decide)
  have z19 : ∀ j, σ0 19 j = 0 := fun j => z 19 j (by decide) (by decide) (by decide)
  have z20 : ∀ j, σ0 20 j = 0 := fun j => z 20 j (by decide) (by decide) (by decide)
  have hw : ∀ u, w2 σ0 u = 1 := fun u => by unfold w2; rw [if_pos (z2 u)]
  refine ⟨⟨⟨fun j => ?_, fun j => ?_, fun k q hk hq hp => ?_⟩, ⟨?_, fun t _ => ?_, ?_, ?_⟩, ⟨?_, fun n _ => ?_, fun n n0 hn => ?_, fun n => ?_⟩, fun n hn => ?_, ⟨?_, fun k => ?_⟩, fun k hk => ⟨⟨?_, fun q q0 hq => ?_⟩, fun q => ?_⟩, fun t _ h2 => ?_⟩, ?_, ?_⟩
  · rw [e0, e4]; split <;> omega
  · rw [z13, e4]; omega
  · rw [e0, if_neg]
    intro y
    have : q = 0 := by omega
    rw [this] at hp
    exact absurd hp (by decide)
  · rw [z1]; omega
  · rw [z3, z1]; exact Nat.le_refl _
  · rw [z5]; exact Nat.zero_le _
  · rw [e4]; decide
  · rw [e6, if_neg (by decide), z10, z12, z13, z14, z15]
    exact ⟨rfl, rfl, rfl, rfl, rfl, rfl⟩
  · rw [z8, z14]; exact ⟨rfl, rfl⟩
  · rw [e4] at hn
    have : n = 1 := by omega
    rw [this, e6, if_pos rfl]
    exact Or.inl rfl
  · unfold NB
    rw [z1, z5, z7, z8, z9, z10, z11, z12, z13, z15, z16]
    exact ⟨fun _ => ⟨Nat.le_refl _, Nat.le_refl _⟩, fun y => by omega, by omega, by decide, Nat.le_refl _, fun y => absurd rfl y, Nat.le_refl _, fun _ => ⟨rfl, rfl⟩⟩
  · rw [z14] at hn
    exact absurd rfl hn
  · rw [z16]; omega
  · rw [z16, z17, z18, z19, z20]
    exact ⟨by decide, by omega, Nat.zero_le _, Nat.le_refl _, by omega⟩
  · rw [z1] at hk
    have : k = 0 := by omega
    rw [r, if_pos ⟨this, rfl⟩, e6, if_pos rfl, z10, z14]
    exact ⟨by decide, rfl, rfl, rfl⟩
  · rw [r, if_neg (by omega)] at hq
    omega
  · rw [z12]; decide
  · rw [z2] at h2
    exact absurd rfl h2
  · unfold PT
    rw [hw, hw, hw, e4]
    exact Nat.le_refl _
  · unfold CW
    rw [z16, e4, cw_s (n := 0) (z8 1)]
    rfl
end SE
