/-! begin, make, remove, write, abort keep the invariant -/
section KEEP
variable {σ τ : SS}
theorem if_le1 (p : Prop) [Decidable p] : (if p then 1 else 0) ≤ 1 := by split <;> omega
theorem PT_le : 2 * σ 4 0 ≤ PT σ := by unfold PT; omega
theorem opb_lt {t : Nat} (h : opb σ t = true) : t < 3 ∧ σ 2 t ≠ 0 := by
  unfold opb at h
  simp only [Bool.and_eq_true, decide_eq_true_eq] at h
  exact h
theorem PT_of {t : Nat} (ht : t < 3) {d : Nat} (h4 : τ 4 0 = σ 4 0) (ho : ∀ u, u < 3 → u ≠ t → w2 τ u = w2 σ u) (h : w2 τ t ≤ w2 σ t + d) : PT τ ≤ PT σ + d := by
  unfold PT
  rw [h4]
  rcases (show t = 0 ∨ t = 1 ∨ t = 2 by omega) with rfl | rfl | rfl
  · rw [ho 1 (by omega) (by omega), ho 2 (by omega) (by omega)]; omega
  · rw [ho 0 (by omega) (by omega), ho 2 (by omega) (by omega)]; omega
  · rw [ho 0 (by omega) (by omega), ho 1 (by omega) (by omega)]; omega
/-- a transaction is closed -/
theorem inv_close {s t : Nat} (h : INV σ s) : INV (sp σ 2 t 0) s := by
  obtain ⟨hz, hB, hN, hV, hS, hT⟩ := h
  have o : ∀ f, f ≠ 2 → sp σ 2 t 0 f = σ f := fun f hf => sp_o hf
  have hr : ∀ k q, rat (sp σ 2 t 0) k q = rat σ k q := fun k q => rat_c (fun j _ => by rw [o 0 (by decide)]) q
  refine ⟨hz, hB, hN, hV, hS, hT.1, fun u hu h2 => ?_⟩
  rw [sp_at] at h2
  split at h2
  · exact absurd rfl h2
  · exact hT.2 u hu h2
theorem abO_inv {s t : Nat} (h : INV σ s) : INV (abO σ t) s ∧ PT (abO σ t) ≤ PT σ + 1 ∧ CW (abO σ t) = CW σ := by
  by_cases hc : opb σ t = true
  · rw [abO_t hc]
    have ht := (opb_lt hc).1
    refine ⟨inv_close h, PT_of ht rfl (fun u hu hut => w2_c (by rw [sp_n hut]) (fun q => rfl)) ?_, ?_⟩
    · unfold w2
      rw [sp_s, if_pos rfl]
      omega
    · show sp σ 2 t 0 16 0 + cw (sp σ 2 t 0) (σ 4 0) = σ 16 0 + cw σ (σ 4 0)
      rw [cw_c (τ := sp σ 2 t 0) (σ := σ) (fun j _ => ⟨rfl, rfl⟩)]
      rfl
  · rw [abO, if_neg hc]
    exact ⟨h, by omega, rfl⟩
/-- a transaction is begun -/
theorem rat_fil {x y k q : Nat} (hk : k < 19) (hx : x < 19) : rat (fil σ x y 125) k q = if k = x then rat σ y q else rat σ k q := by
  unfold rat
  by_cases hp : pgb q = true
  · have hq := (pgb_t.mp hp).1
    rw [if_pos hp, if_pos hp, if_pos hp]
    unfold fil upf
    rw [if_pos rfl]
    by_cases e : k = x
    · subst e
      rw [if_pos rfl, if_pos (by omega)]
      congr 1
      omega
    · rw [if_neg e, if_neg (by omega)]
  · rw [if_neg hp, if_neg hp, if_neg hp]
    split <;> rfl
theorem bgO_inv {t : Nat} (h : INV σ 3) : INV (bgO σ t) 3 ∧ PT (bgO σ t) ≤ PT σ + 5 ∧ CW (bgO σ t) = CW σ := by
  by_cases hc : bgb σ t = true
  · rw [bgO_t hc]
    have hc' := hc
    unfold bgb at hc'
    simp only [Bool.and_eq_true, decide_eq_true_eq] at hc'
    obtain ⟨ht, h2⟩ := hc'
    have hy := h.2.1.1
    obtain ⟨θ, hθ⟩ : ∃ θ, θ = sp (sp σ 2 t 1) 3 t (σ 1 0) := ⟨_, rfl⟩
    have o : ∀ f, f ≠ 2 → f ≠ 3 → θ f = σ f := fun f h2 h3 => by rw [hθ, sp_o h3, sp_o h2]
    have hzθ : pZ θ := by
      unfold pZ
      rw [o 0 (by decide) (by decide), o 4 (by decide) (by decide), o 13 (by decide) (by decide)]
      exact h.1
    rw [← hθ]
    have R : ∀ k q, k < 19 → rat (fil θ (16 + t) (σ 1 0) 125) k q = if k = 16 + t then rat σ (σ 1 0) q else rat σ k q := fun k q hk => by
      rw [rat_fil hk (by omega)]
      have e : ∀ i, rat θ i q = rat σ i q := fun i => rat_c (fun j _ => by rw [o 0 (by decide) (by decide)]) q
      rw [e, e]
    have O : ∀ f, f ≠ 0 → f ≠ 2 → f ≠ 3 → fil θ (16 + t) (σ 1 0) 125 f = σ f := fun f h0 h2 h3 => by rw [fil_o h0, o f h2 h3]
    have e2 : ∀ u, fil θ (16 + t) (σ 1 0) 125 2 u = if u = t then 1 else σ 2 u := fun u => by
      rw [fil_o (by decide), hθ, sp_o (by decide), sp_at]
      by_cases e : u = t
      · rw [if_pos e, if_pos ⟨rfl, e⟩]
      · rw [if_neg e, if_neg (fun z => e z.2)]
    have e3 : ∀ u, fil θ (16 + t) (σ 1 0) 125 3 u = if u = t then σ 1 0 else σ 3 u := fun u => by
      rw [fil_o (by decide), hθ, sp_at, sp_o (by decide)]
      by_cases e : u = t
      · rw [if_pos e, if_pos ⟨rfl, e⟩]
      · rw [if_neg e, if_neg (fun z => e z.2)]
    have hzf := pZ_fil hzθ (x := 16 + t) (y := σ 1 0) (by omega) (by omega)
    generalize fil θ (16 + t) (σ 1 0) 125 = F at R O e2 e3 hzf
    obtain ⟨-, hB, hN, hV, hS, hT⟩ := h
    have f1 := O 1 (by decide) (by decide) (by decide)
    have f4 := O 4 (by decide) (by decide) (by decide)
    have f6 := O 6 (by decide) (by decide) (by decide)
    have f10 := O 10 (by decide) (by decide) (by decide)
    have f12 := O 12 (by decide) (by decide) (by decide)
    have f14 := O 14 (by decide) (by decide) (by decide)
    have f16 := O 16 (by decide) (by decide) (by decide)
    have f8 := O 8 (by decide) (by decide) (by decide)
    refine ⟨⟨hzf, ⟨by rw [f1]; exact hy, fun u hu => ?_, ?_, ?_⟩, ?_, fun n hn => ?_, ?_, fun k hk => ?_, fun u hu hu2 => ?_⟩, ?_, ?_⟩
    · rw [e3, f1]
      split
      · exact Nat.le_refl _
      · exact hB.2.1 u hu
    · rw [O 5 (by decide) (by decide) (by decide), f4]; exact hB.2.2.1
    · rw [f4]; exact hB.2.2.2
    · unfold NF NB
      rw [f1, f4, O 5 (by decide) (by decide) (by decide), f6, O 7 (by decide) (by decide) (by decide), f8, O 9 (by decide) (by decide) (by decide), f10, O 11 (by decide) (by decide) (by decide), f12, O 13 (by decide) (by decide) (by decide), f14, O 15 (by decide) (by decide) (by decide), f16]
      exact hN
    · rw [f14] at hn ⊢
      rw [f1]
      have := (hV n hn).1
      rw [R _ _ (by omega), if_neg (by omega)]
      exact hV n hn
    · unfold SF
      rw [f16, O 17 (by decide) (by decide) (by decide), O 18 (by decide) (by decide) (by decide), O 19 (by decide) (by decide) (by decide), O 20 (by decide) (by decide) (by decide)]
      exact hS
    · rw [f1] at hk
      have hq : ∀ q, rat F k q = rat σ k q := fun q => by rw [R k q (by omega), if_neg (by omega)]
      exact ⟨TR_c (hT.1 k hk).1 hq (fun q => by rw [f6, f10, f14]; exact ⟨rfl, rfl, rfl⟩), TB_c (hT.1 k hk).2 hq (fun q => by rw [f12])⟩
    · by_cases e : u = t
      · subst e
        have hq : ∀ q, rat F (16 + u) q = rat σ (σ 1 0) q := fun q => by rw [R _ q (by omega), if_pos rfl]
        have hq2 : ∀ q, rat F (σ 1 0) q = rat σ (σ 1 0) q := fun q => by rw [R _ q (by omega), if_neg (by omega)]
        have hb := (hT.1 (σ 1 0) (Nat.le_refl _))
        refine ⟨⟨?_, fun q q0 hq0 => ?_⟩, fun q => ?_, fun q p h1 h2 => ?_, fun _ q hq0 _ => ?_⟩
        · rw [hq, f6, f10, f14]; exact hb.1.1
        · rw [hq] at hq0
          rw [hq, f6]
          exact hb.1.2 q q0 hq0
        · rw [hq, f12]; exact Or.inl (hb.2 q)
        · rw [hq, f12] at h1
          have := hb.2 q
          omega
        · rw [e3, if_pos rfl, hq, hq2]
          exact Or.inr rfl
      · rw [e2, if_neg e] at hu2
        obtain ⟨g1, g2, g3, g4⟩ := hT.2 u hu hu2
        have hb3 := hB.2.1 u hu
        have hq : ∀ q, rat F (16 + u) q = rat σ (16 + u) q := fun q => by rw [R _ q (by omega), if_neg (by omega)]
        exact ⟨TR_c g1 hq (fun q => by rw [f6, f10, f14]; exact ⟨rfl, rfl, rfl⟩), TT_c g2 hq (fun q => by rw [f12]), T1_c g3 hq (fun q => by rw [f12]), fun hs => T2_c (g4 hs) (by rw [e3, if_neg e]) hq (fun q => by rw [R _ q (by omega), if_neg (by omega)]) (fun q => by rw [f12, f10]; exact ⟨rfl, rfl⟩) (fun q => by rw [f10])⟩
    · refine PT_of ht (by rw [f4]) (fun u hu hut => w2_c (by rw [e2, if_neg hut]) (fun q => by rw [R _ q (by omega), if_neg (by omega), f12])) ?_
      have h6 := w2_le (σ := F) (t := t)
      have : w2 σ t = 1 := by unfold w2; rw [if_pos h2]
      omega
    · unfold CW
      rw [f16, f4, cw_c (fun j _ => by rw [f12, f8]; exact ⟨rfl, rfl⟩)]
  · rw [bgO_f hc]
    exact ⟨h, by omega, rfl⟩
/-- the parts of rmb -/
theorem rmb_all {t q : Nat} (h : rmb σ t q = true) : t < 3 ∧ σ 2 t ≠ 0 ∧ pgb q = true ∧ 0 < q ∧ rat σ (16 + t) q = 0 ∧ 0 < rat σ (16 + t) (pp q) ∧ σ 6 (rat σ (16 + t) (pp q)) = 1 := by
  unfold rmb at h
  simp only [Bool.and_eq_true, decide_eq_true_eq] at h
  obtain ⟨⟨⟨⟨⟨h1, h2⟩, h3⟩, h4⟩, h5⟩, h6⟩ := h
  exact ⟨(opb_lt h1).1, (opb_lt h1).2, h2, by omega, h4, h5, h6⟩
theorem plc_w2 {t q m u : Nat} (hg : pgb q = true) (ht : t < 3) (hu : u < 3) (hut : u ≠ t) : w2 (plc σ t q m) u = w2 σ u := w2_c (by rw [plc_o (by decide)]) (fun w => by rw [rat_plc hg (by omega), if_neg (by omega), plc_o (by decide)])
/-- nb of a new node -/
theorem nb_plc {t q m w : Nat} (hg : pgb q = true) (ht : t < 3) (hb : 128 ≤ σ 12 m) : nb (plc σ t q m) t w = if w = q then 0 else nb σ t w := by
  have hr := rat_plc (σ := σ) (t := t) (n := m) (k := 16 + t) (w := w) hg (by omega)
  have o : plc σ t q m 12 = σ 12 := plc_o (by decide)
  unfold nb
  rw [o]
  by_cases e : w = q
  · rw [if_pos ⟨rfl, e⟩] at hr
    rw [hr, if_pos e, if_neg (by omega)]
  · rw [if_neg (fun z => e z.2)] at hr
    rw [hr, if_neg e]
theorem w2_plc {t q m : Nat} (hg : pgb q = true) (ht : t < 3) (hb : 128 ≤ σ 12 m) : w2 (plc σ t q m) t ≤ w2 σ t := by
  unfold w2
  rw [plc_o (by decide), nb_plc hg ht hb, nb_plc hg ht hb, nb_plc hg ht hb, nb_plc hg ht hb, nb_plc hg ht hb]
  split
  · omega
  · have : ∀ w, (if w = q then 0 else nb σ t w) ≤ nb σ t w := fun w => by split <;> omega
    have h0 := this 0
    have h1 := this 1
    have h2 := this 2
    have h3 := this 3
    have h4 := this 4
    omega
/-- make, all but the touching -/
def mk3 (σ : SS) (t w : Nat) : SS := sp (sp (nod0 σ t w) 5 0 (σ 5 0 + 1)) 10 (σ 4 0 + 1) (σ 5 0 + 1)
theorem mk4_e {t q w : Nat} : mk4 σ t q w = plc (mk3 σ t w) t q (σ 4 0 + 1) := rfl
theorem mk3_r {t w f : Nat} (h4 : f ≠ 4) (h5 : f ≠ 5) (h : f < 6 ∨ 15 < f) : mk3 σ t w f = σ f := by
  unfold mk3
  rw [sp_o (by omega), sp_o (by omega), nod0_r h4 h]
theorem mk3_n {t w f j : Nat} (h6 : 6 ≤ f) (hj : j ≠ σ 4 0 + 1) : mk3 σ t w f j = σ f j := by
  unfold mk3
  rw [sp_at, if_neg (fun z => hj z.2), sp_o (by omega), nod0_n h6 hj]
theorem mk3_4 {t w : Nat} : mk3 σ t w 4 0 = σ 4 0 + 1 := by
  unfold mk3
  rw [sp_o (by decide), sp_o (by decide), nod0_4]
theorem mk3_5 {t w : Nat} : mk3 σ t w 5 0 = σ 5 0 + 1 := by
  unfold mk3
  rw [sp_o (by decide), sp_s]
theorem mk3_v {t w : Nat} : mk3 σ t w 6 (σ 4 0 + 1) = w ∧ mk3 σ t w 12 (σ 4 0 + 1) = 255 - t ∧ mk3 σ t w 13 (σ 4 0 + 1) = 0 ∧ mk3 σ t w 11 (σ 4 0 + 1) = 0 ∧ mk3 σ t w 7 (σ 4 0 + 1) = 0 ∧ mk3 σ t w 9 (σ 4 0 + 1) = 0 ∧ mk3 σ t w 15 (σ 4 0 + 1) = 0 ∧ mk3 σ t w 10 (σ 4 0 + 1) = σ 5 0 + 1 ∧ mk3 σ t w 8 = σ 8 ∧ mk3 σ t w 14 = σ 14 := by
  refine ⟨?_, ?_, ?_, ?_, ?_, ?_, ?_, ?_, ?_, ?_⟩
  · simp [mk3, nod0, sp_at]
  · simp [mk3, nod0, sp_at]
  · simp [mk3, nod0, sp_at]
  · simp [mk3, nod0, sp_at]
  · simp [mk3, nod0, sp_at]
  · simp [mk3, nod0, sp_at]
  · simp [mk3, nod0, sp_at]
  · simp [mk3, nod0, sp_at]
  · funext j; simp [mk3, nod0, sp_at]
  · funext j; simp [mk3, nod0, sp_at]
theorem NX_mk3 {t w : Nat} : NX σ (mk3 σ t w) := ⟨mk3_4, fun f h4 h5 h => mk3_r h4 h5 h, fun f j h6 _ hj => mk3_n h6 hj, by rw [mk3_5]; omega, by rw [mk3_5]; omega⟩
theorem inv_mk3 {s t w : Nat} (h : INV σ s) (ht : t < 3) (hw : w = 1 ∨ w = 2) : INV (mk3 σ t w) s := by
  obtain ⟨v6, v12, v13, v11, v7, v9, v15, v10, v8, v14⟩ := mk3_v (σ := σ) (t := t) (w := w)
  have hm := h.2.2.1.2.1 (σ 4 0 + 1) (by omega)
  refine NX_inv h NX_mk3 rfl (by rw [v13]; exact Nat.zero_le _) (by rw [v6]; exact hw) ?_ (fun z => absurd (by rw [v14]; exact hm.2) z)
  unfold NB
  rw [v12, v11, v7, v9, v10, v13, v15, v6, v8, mk3_r (by decide) (by decide) (by decide), mk3_5, mk3_r (f := 16) (by decide) (by decide) (by decide)]
  exact ⟨fun z => by omega, fun _ => by omega, by omega, by decide, Nat.le_refl _, fun z => absurd rfl z, Nat.zero_le _, fun _ => ⟨rfl, hm.1⟩⟩
/-- the potentials behind a new node -/
theorem NX_PT (hz : pZ σ) (hx : NX σ τ) : PT τ = PT σ + 2 := by
  obtain ⟨x4, xr, xn, x5, x6⟩ := hx
  have e : ∀ u, w2 τ u = w2 σ u := fun u => w2_c (by rw [xr 2 (by decide) (by decide) (by decide)]) (fun q => by
    have : rat τ (16 + u) q = rat σ (16 + u) q := rat_c (fun j _ => by rw [xr 0 (by decide) (by decide) (by decide)]) q
    rw [this, xn 12 _ (by decide) (by decide) (by have := rat_le hz (k := 16 + u) (q := q); omega)])
  unfold PT
  rw [e, e, e, x4]
  omega
theorem NX_CW (hx : NX σ τ) (h8 : τ 8 (σ 4 0 + 1) = 0) : CW τ = CW σ := by
  obtain ⟨x4, xr, xn, x5, x6⟩ := hx
  unfold CW
  rw [x4, xr 16 (by decide) (by decide) (by decide), cw_s h8, cw_c (fun j hj => ⟨xn 12 j (by decide) (by decide) (by omega), xn 8 j (by decide) (by decide) (by omega)⟩)]
theorem plc_PT {t q m : Nat} (hg : pgb q = true) (ht : t < 3) (hb : 128 ≤ σ 12 m) : PT (plc σ t q m) ≤ PT σ := by
  have := PT_of (σ := σ) (τ := plc σ t q m) (d := 0) ht rfl (fun u hu hut => plc_w2 hg ht hu hut) (by have := w2_plc (σ := σ) hg ht hb; omega)
  omega
theorem plc_CW {t q m : Nat} : CW (plc σ t q m) = CW σ := by
  unfold CW
  rw [plc_o (by decide), plc_o (by decide), cw_c (fun j _ => by rw [plc_o (by decide), plc_o (by decide)]; exact ⟨rfl, rfl⟩)]
theorem mkO_inv {t q : Nat} {b : Bool} (h : INV σ 3) (hP : PT σ ≤ 2560) : (rmb σ t q = true → σ 4 0 + 1 < 1300 ∧ σ 5 0 + 1 < 32768 ∧ tok (pd (pp q)) (mk4 σ t q (if b = true then 1 else 2)) t (pp q)) ∧ INV (mkO σ t q b) 3 ∧ PT (mkO σ t q b) ≤ PT σ + 5 ∧ CW (mkO σ t q b) = CW σ := by
  by_cases hc : rmb σ t q = true
  · rw [mkO_t hc]
    obtain ⟨ht, ho, hg, h0, hq, hp, hp6⟩ := rmb_all hc
    have hN := PT_le (σ := σ)
    have h54 := h.2.1.2.2.1
    obtain ⟨w, hw, hw2⟩ : ∃ w, (if b = true then 1 else 2) = w ∧ (w = 1 ∨ w = 2) := by
      cases b
      · exact ⟨2, rfl, Or.inr rfl⟩
      · exact ⟨1, rfl, Or.inl rfl⟩
    rw [hw]
    have h1 := inv_mk3 (w := w) h ht hw2
    obtain ⟨v6, v12, v13, v11, v7, v9, v15, v10, v8, v14⟩ := mk3_v (σ := σ) (t := t) (w := w)
    have R : ∀ k p, rat (mk3 σ t w) k p = rat σ k p := fun k p => rat_c (fun j _ => by rw [mk3_r (by decide) (by decide) (by decide)]) p
    have hle := inv_le h (k := 16 + t) (q := pp q)
    have h2 : INV (mk4 σ t q w) 3 := by
      rw [mk4_e]
      refine inv_add h1 ht (by rw [mk3_r (by decide) (by decide) (by decide)]; exact ho) hg h0 (by rw [R]; exact hq) (by rw [R]; exact hp) (by rw [R, mk3_n (by decide) (by omega)]; exact hp6) (by omega) (by rw [mk3_4]; exact Nat.le_refl _) v12 (fun p => ?_)
      rw [R]
      have := inv_le h (k := 16 + t) (q := p)
      omega
    have hd := pp_d hg h0
    have hd3 := pd_le q
    have hb : 128 ≤ mk3 σ t w 12 (σ 4 0 + 1) := by rw [v12]; omega
    have hPT : PT (mk4 σ t q w) ≤ PT σ + 2 := by
      rw [mk4_e, ← NX_PT h.1 (NX_mk3 (t := t) (w := w))]
      exact plc_PT hg ht hb
    have hCW : CW (mk4 σ t q w) = CW σ := by
      rw [mk4_e, plc_CW]
      exact NX_CW NX_mk3 (by rw [v8]; exact (h.2.2.1.2.1 _ (by omega)).1)
    have hpq : pp q ≠ q := fun z => by rw [z] at hd; omega
    have e4 : mk4 σ t q w 4 0 = σ 4 0 + 1 := by rw [mk4_e, plc_o (by decide), mk3_4]
    obtain ⟨r1, r2, r3, r4, r5, r6, r7⟩ := tch_all ht (pd (pp q)) (mk4 σ t q w) (pp q) h2 (by rw [mk4_e, plc_o (by decide), mk3_r (by decide) (by decide) (by decide)]; exact ho) (by rw [mk4_e, rat_plc hg (by omega), if_neg (fun z => hpq z.2), R]; exact hp) rfl (by omega)
    have hcs : tcs (pd (pp q)) ≤ 3 := by
      have : pd (pp q) = 0 ∨ pd (pp q) = 1 ∨ pd (pp q) = 2 := by omega
      rcases this with e | e | e <;> rw [e] <;> decide
    exact ⟨fun _ => ⟨by omega, by omega, r1⟩, r2, by omega, r4.trans hCW⟩
  · rw [mkO, if_neg hc]
    exact ⟨fun z => absurd z hc, h, by omega, rfl⟩
/-- remove, all but the touching -/
theorem rat_clr {t q k w : Nat} (hk : k < 19) (ht : t < 3) : rat (clr σ t q 125) k w = if k = 16 + t ∧ pun w q = true then 0 else rat σ k w := by
  unfold rat
  by_cases hp : pgb w = true
  · have hw := (pgb_t.mp hp).1
    rw [if_pos hp, if_pos hp, clr_at]
    by_cases c : k = 16 + t ∧ pun w q = true
    · obtain ⟨rfl, c⟩ := c
      rw [show 125 * (16 + t) + w - (2000 + 125 * t) = w by omega, if_pos ⟨by omega, by omega, c⟩, if_pos ⟨rfl, c⟩]
    · rw [if_neg c, if_neg]
      rintro ⟨z1, z2, z3⟩
      have : k = 16 + t := by omega
      subst this
      rw [show 125 * (16 + t) + w - (2000 + 125 * t) = w by omega] at z3
      exact c ⟨rfl, z3⟩
  · rw [if_neg hp, if_neg hp]
    split <;> rfl
theorem inv_clr {s t q : Nat} (h : INV σ s) (ht : t < 3) (ho : σ 2 t ≠ 0) (hg : pgb q = true) (h0 : 0 < q) : INV (clr σ t q 125) s := by
  have hT := h.2.2.2.2.2.2 t ht ho
  obtain ⟨g1, g2, g3, g4⟩ := hT
  have hy : σ 3 t ≤ σ 1 0 := h.2.1.2.1 t ht
  have hy2 : σ 1 0 ≤ 15 := h.2.1.1
  have h12 := h.2.2.1.1.2.2.1
  have R : ∀ w, rat (clr σ t q 125) (16 + t) w = if pun w q = true then 0 else rat σ (16 + t) w := fun w => by
    rw [rat_clr (by omega) ht]
    by_cases e : pun w q = true
    · rw [if_pos ⟨rfl, e⟩, if_pos e]
    · rw [if_neg (fun z => e z.2), if_neg e]
  have R2 : ∀ w, rat (clr σ t q 125) (σ 3 t) w = rat σ (σ 3 t) w := fun w => by
    rw [rat_clr (by omega) ht, if_neg (by omega)]
  have O : ∀ f, f ≠ 0 → clr σ t q 125 f = σ f := fun f hf => clr_o hf
  have n0 : ¬ pun 0 q = true := fun z => by
    have := pun_pd (by decide) (pgb_t.mp hg).1 z
    have := pd_pos h0
    have : pd 0 = 0 := rfl
    omega
  refine inv_tree h ht O (pZ_clr h.1) (fun k w hk hne => by rw [rat_clr hk ht, if_neg (fun z => hne z.1)]) ⟨⟨?_, fun w w0 hw => ?_⟩, fun w => ?_, fun w p h1 h2 => ?_, fun hs w hw hc => ?_⟩
  · rw [R, if_neg n0, O 6 (by decide), O 10 (by decide), O 14 (by decide)]
    exact g1.1
  · rw [R] at hw
    by_cases e : pun w q = true
    · rw [if_pos e] at hw; omega
    · rw [if_neg e] at hw
      have hgw := rat_good (σ := σ) (k := 16 + t) (p := w) (by omega)
      rw [R, if_neg (fun z => e (pun_dn hgw z hg)), O 6 (by decide)]
      exact g1.2 w w0 hw
  · rw [R, O 12 (by decide)]
    split
    · rw [h12]; exact Or.inl (by omega)
    · exact g2 w
  · rw [R, O 12 (by decide)] at h1
    rw [R, R] at h2
    by_cases e1 : pun w q = true
    · rw [if_pos e1, h12] at h1; omega
    · rw [if_neg e1] at h1 h2
      by_cases e2 : pun p q = true
      · rw [if_pos e2] at h2
        rw [← h2, h12] at h1
        omega
      · rw [if_neg e2] at h2
        exact g3 w p h1 h2
  · rw [R] at hw
    by_cases e : pun w q = true
    · rw [if_pos e] at hw; omega
    · rw [if_neg e] at hw
      rw [O 3 (by decide), R, R2, O 12 (by decide), if_neg e]
      refine g4 hs w hw (fun i hi => ?_)
      have := hc i hi
      rw [O 3 (by decide), R, R2, O 10 (by decide)] at this
      have hgw := rat_good (σ := σ) (k := 16 + t) (p := w) (by omega)
      rw [if_neg] at this
      · exact this
      · intro z
        apply e
        have hi4 : i < 4 := by have := pd_le w; omega
        refine pun_t (q := pq w i) ?_ z (pun_pd (pgb_t.mp (pq_good hgw hi4)).1 (pgb_t.mp hg).1 z)
        rw [pun_iff, pq_d hgw (by omega)]
theorem clr_PT {t q : Nat} (h12 : σ 12 0 = 0) (ht : t < 3) (hq : 0 < q) (hg : pgb q = true) : PT (clr σ t q 125) ≤ PT σ + 1 := by
  refine PT_of ht rfl (fun u hu hut => w2_c (by rw [clr_o (by decide)]) (fun w => by rw [rat_clr (by omega) ht, if_neg (by omega), clr_o (by decide)])) ?_
  have N : ∀ w, nb (clr σ t q 125) t w = if pun w q = true then 1 else nb σ t w := fun w => by
    have hr := rat_clr (σ := σ) (t := t) (q := q) (k := 16 + t) (w := w) (by omega) ht
    have o : clr σ t q 125 12 = σ 12 := clr_o (by decide)
    unfold nb
    rw [o]
    by_cases e : pun w q = true
    · rw [if_pos ⟨rfl, e⟩] at hr
      rw [hr, if_pos e, h12, if_pos (by decide)]
    · rw [if_neg (fun z => e z.2)] at hr
      rw [hr, if_neg e]
  have n0 : ¬ pun 0 q = true := fun z => by
    have := pun_pd (by decide) (pgb_t.mp hg).1 z
    have := pd_pos hq
    have : pd 0 = 0 := rfl
    omega
  have one : ∀ w, w < 5 → pun w q = true → w = q := fun w hw z => by
    have hp := pun_pd (by omega) (pgb_t.mp hg).1 z
    have h1 := pd_pos hq
    have h2 := pun_iff.mp z
    have hwd : pd w ≤ 1 := by
      unfold pd
      split
      · omega
      · first | omega | (rw [if_pos hw]; exact Nat.le_refl _)
    have h3 : pd q = 1 := by omega
    rw [h3] at h2
    show w = q
    have : pq w 1 = w := Nat.mod_eq_of_lt hw
    omega
  have m : ∀ w, w < 5 → w ≠ q → nb (clr σ t q 125) t w = nb σ t w := fun w h5 hw => by rw [N, if_neg (fun z => hw (one w h5 z))]
  have k : ∀ w, nb (clr σ t q 125) t w ≤ nb σ t w + 1 := fun w => by
    have := nb_le (σ := clr σ t q 125) (t := t) (q := w)
    omega
  have o2 : clr σ t q 125 2 = σ 2 := clr_o (by decide)
  unfold w2
  rw [o2]
  by_cases ho : σ 2 t = 0
  · rw [if_pos ho, if_pos ho]
    omega
  · rw [if_neg ho, if_neg ho, m 0 (by omega) (by omega)]
    by_cases q1 : q = 1
    · have := k 1
      rw [m 2 (by omega) (by omega), m 3 (by omega) (by omega), m 4 (by omega) (by omega)]
      omega
    · rw [m 1 (by omega) (fun z => q1 z.symm)]
      by_cases q2 : q = 2
      · have := k 2
        rw [m 3 (by omega) (by omega), m 4 (by omega) (by omega)]
        omega
      · rw [m 2 (by omega) (fun z => q2 z.symm)]
        by_cases q3 : q = 3
        · have := k 3
          rw [m 4 (by omega) (by omega)]
          omega
        · have := k 4
          rw [m 3 (by omega) (fun z => q3 z.symm)]
          omega
theorem rmO_inv {t q : Nat} (h : INV σ 3) (hP : PT σ ≤ 2560) : (rvb σ t q = true → tok (pd (pp q)) (clr σ t q 125) t (pp q)) ∧ INV (rmO σ t q) 3 ∧ PT (rmO σ t q) ≤ PT σ + 5 ∧ CW (rmO σ t q) = CW σ := by
  by_cases hc : rvb σ t q = true
  · rw [rmO_t hc]
    have hc' := hc
    unfold rvb at hc'
    simp only [Bool.and_eq_true, decide_eq_true_eq] at hc'
    obtain ⟨⟨h1, h2⟩, h3⟩ := hc'
    obtain ⟨ht, ho⟩ := opb_lt h1
    have h0 : 0 < q := by omega
    have hg := rat_good h3
    have hN := PT_le (σ := σ)
    have hd := pp_d hg h0
    have hd3 := pd_le q
    have hp := ((h.2.2.2.2.2.2 t ht ho).1.2 q h0 (by omega)).1
    have hpn : ¬ pun (pp q) q = true := fun z => by
      have := pun_pd (pgb_t.mp (pp_good hg)).1 (pgb_t.mp hg).1 z
      omega
    have hPT := clr_PT (σ := σ) (t := t) h.2.2.1.1.2.2.1 ht h0 hg
    have hCW : CW (clr σ t q 125) = CW σ := by
      unfold CW
      rw [clr_o (by decide), clr_o (by decide), cw_c (fun j _ => by rw [clr_o (by decide), clr_o (by decide)]; exact ⟨rfl, rfl⟩)]
    obtain ⟨r1, r2, r3, r4, r5, r6, r7⟩ := tch_all ht (pd (pp q)) (clr σ t q 125) (pp q) (inv_clr h ht ho hg h0) (by rw [clr_o (by decide)]; exact ho) (by rw [rat_clr (by omega) ht, if_neg (fun z => hpn z.2)]; exact hp) rfl (by rw [clr_o (by decide)]; omega)
    have hcs : tcs (pd (pp q)) ≤ 3 := by
      have : pd (pp q) = 0 ∨ pd (pp q) = 1 ∨ pd (pp q) = 2 := by omega
      rcases this with e | e | e <;> rw [e] <;> decide
    exact ⟨fun _ => r1, r2, by omega, r4.trans hCW⟩
  · rw [rmO_f hc]
    exact ⟨fun z => absurd z hc, h, by omega, rfl⟩
/-- a text is written -/
theorem inv_wr3 {s n D z : Nat} (h : INV σ s) (hn : n ≤ σ 4 0) (h6 : σ 6 n = 2) (hz : z < 13) : INV (wr3 σ n D z) s ∧ PT (wr3 σ n D z) = PT σ ∧ CW (wr3 σ n D z) ≤ CW σ + 1 := by
  obtain ⟨hZ, hB, hN, hV, hS, hT⟩ := h
  have O : ∀ f, f ≠ 7 → f ≠ 8 → f ≠ 9 → wr3 σ n D z f = σ f := fun f h7 h8 h9 => by
    unfold wr3
    rw [sp_o h9, sp_o h7, sp_o h8]
  have o0 := O 0 (by decide) (by decide) (by decide)
  have o1 := O 1 (by decide) (by decide) (by decide)
  have o2 := O 2 (by decide) (by decide) (by decide)
  have o3 := O 3 (by decide) (by decide) (by decide)
  have o4 := O 4 (by decide) (by decide) (by decide)
  have o6 := O 6 (by decide) (by decide) (by decide)
  have o10 := O 10 (by decide) (by decide) (by decide)
  have o12 := O 12 (by decide) (by decide) (by decide)
  have o14 := O 14 (by decide) (by decide) (by decide)
  have o16 := O 16 (by decide) (by decide) (by decide)
  have e8 : ∀ j, wr3 σ n D z 8 j = if j = n then 1 else σ 8 j := fun j => by
    unfold wr3
    rw [sp_o (by decide), sp_o (by decide), sp_at]
    by_cases e : j = n
    · rw [if_pos e, if_pos ⟨rfl, e⟩]
    · rw [if_neg e, if_neg (fun q => e q.2)]
  have e7 : ∀ j, wr3 σ n D z 7 j = if j = n then z else σ 7 j := fun j => by
    unfold wr3
    rw [sp_o (by decide), sp_at, sp_o (by decide)]
    by_cases e : j = n
    · rw [if_pos e, if_pos ⟨rfl, e⟩]
    · rw [if_neg e, if_neg (fun q => e q.2)]
  have e9 : ∀ j, wr3 σ n D z 9 j = if j = n then D % 2 ^ (4 * z) else σ 9 j := fun j => by
    unfold wr3
    rw [sp_at, sp_o (by decide), sp_o (by decide)]
    by_cases e : j = n
    · rw [if_pos e, if_pos ⟨rfl, e⟩]
    · rw [if_neg e, if_neg (fun q => e q.2)]
  have hD : D % 2 ^ (4 * z) < 2 ^ 48 := Nat.lt_of_lt_of_le (Nat.mod_lt _ (Nat.two_pow_pos _)) (Nat.pow_le_pow_right (by decide) (by omega))
  generalize wr3 σ n D z = F at O o0 o1 o2 o3 o4 o6 o10 o12 o14 o16 e8 e7 e9
  have rr : ∀ k q, rat F k q = rat σ k q := fun k q => rat_c (fun j _ => by rw [o0]) q
  refine ⟨⟨?_, ?_, ⟨?_, fun j hj => ?_, ?_, fun j => ?_⟩, fun j hj => ?_, ?_, TF_c hZ hT o0 (by rw [o1]) o2 o3 (fun j _ => by rw [o6, o10, o12, o14]; exact ⟨rfl, rfl, rfl, rfl⟩)⟩, ?_, ?_⟩
  · unfold pZ
    rw [o0, o4, O 13 (by decide) (by decide) (by decide)]
    exact hZ
  · unfold BF
    rw [o1, o3, o4, O 5 (by decide) (by decide) (by decide)]
    exact hB
  · rw [o6, o10, o12, O 13 (by decide) (by decide) (by decide), o14, O 15 (by decide) (by decide) (by decide)]
    exact hN.1
  · rw [o4] at hj
    rw [e8, if_neg (by omega), o14]
    exact hN.2.1 j hj
  · rw [o4, o6]; exact hN.2.2.1
  · obtain ⟨g1, g2, g3, g4, g5, g6, g7, g8⟩ := hN.2.2.2 j
    unfold NB
    rw [o1, o6, o10, o12, o16, O 5 (by decide) (by decide) (by decide), O 11 (by decide) (by decide) (by decide), O 13 (by decide) (by decide) (by decide), O 15 (by decide) (by decide) (by decide), e7, e8, e9]
    refine ⟨g1, g2, ?_, ?_, g5, g6, g7, fun q => ?_⟩
    · split
      · omega
      · exact g3
    · split
      · exact hD
      · exact g4
    · by_cases e : j = n
      · rw [e] at q; exact absurd h6 q
      · rw [if_neg e]; exact g8 q
  · rw [o14] at hj ⊢
    rw [o1, rr]
    exact hV j hj
  · unfold SF
    rw [o16, O 17 (by decide) (by decide) (by decide), O 18 (by decide) (by decide) (by decide), O 19 (by decide) (by decide) (by decide), O 20 (by decide) (by decide) (by decide)]
    exact hS
  · have e : ∀ u, w2 F u = w2 σ u := fun u => w2_c (by rw [o2]) (fun q => by rw [rr, o12])
    unfold PT
    rw [e, e, e, o4]
  · unfold CW
    rw [o16, o4]
    have : ∀ k, cw F k ≤ cw σ k + if n ≤ k then 1 else 0 := by
      intro k
      induction k with
      | zero => exact Nat.zero_le _
      | succ k ih =>
        show cw F k + _ ≤ cw σ k + _ + _
        rw [o12, e8]
        by_cases e : k + 1 = n
        · rw [if_neg (show ¬ n ≤ k by omega)] at ih
          rw [if_pos (show n ≤ k + 1 by omega)]
          have := if_le1 (128 ≤ σ 12 (k + 1) ∧ (if k + 1 = n then 1 else σ 8 (k + 1)) ≠ 0)
          omega
        · rw [if_neg e]
          by_cases e2 : n ≤ k
          · rw [if_pos e2] at ih
            rw [if_pos (show n ≤ k + 1 by omega)]
            omega
          · rw [if_neg e2] at ih
            rw [if_neg (show ¬ n ≤ k + 1 by omega)]
            omega
    have h1 := this (σ 4 0)
    have h2 : (if n ≤ σ 4 0 then 1 else 0) ≤ 1 := by split <;> omega
    omega
theorem wrO_inv {t q D z : Nat} (h : INV σ 3) (hP : PT σ ≤ 2560) : (wrb σ t q z = true → tok (pd q) σ t q ∧ rat (tch (pd q) σ t q) (16 + t) q < 1300) ∧ INV (wrO σ t q D z) 3 ∧ PT (wrO σ t q D z) ≤ PT σ + 5 ∧ CW (wrO σ t q D z) ≤ CW σ + 1 := by
  by_cases hc : wrb σ t q z = true
  · rw [wrO_t hc]
    have hc' := hc
    unfold wrb at hc'
    simp only [Bool.and_eq_true, decide_eq_true_eq] at hc'
    obtain ⟨⟨⟨h1, h2⟩, h3⟩, h4⟩ := hc'
    obtain ⟨ht, ho⟩ := opb_lt h1
    have hN := PT_le (σ := σ)
    have hd3 := pd_le q
    obtain ⟨r1, r2, r3, r4, r5, r6, r7⟩ := tch_all ht (pd q) σ q h ho (by omega) rfl (by omega)
    have hle := inv_le r2 (k := 16 + t) (q := q)
    obtain ⟨w1, w3, w4⟩ := inv_wr3 (D := D) (z := z) r2 hle (by rw [(r7 q).2]; exact h4) h2
    have hcs : tcs (pd q) ≤ 5 := by
      have : pd q = 0 ∨ pd q = 1 ∨ pd q = 2 ∨ pd q = 3 := by omega
      rcases this with e | e | e | e <;> rw [e] <;> decide
    exact ⟨fun _ => ⟨r1, by omega⟩, w1, by omega, by omega⟩
  · rw [wrO_f hc]
    exact ⟨fun z => absurd z hc, h, by omega, by omega⟩
end KEEP
