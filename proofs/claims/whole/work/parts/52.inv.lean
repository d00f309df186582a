/-! the invariant of the state -/
section INV
variable {σ τ : SS}
def TR (σ : SS) (k : Nat) : Prop := (0 < rat σ k 0 ∧ σ 6 (rat σ k 0) = 1 ∧ σ 10 (rat σ k 0) = 0 ∧ σ 14 (rat σ k 0) = 0) ∧ ∀ q, 0 < q → 0 < rat σ k q → 0 < rat σ k (pp q) ∧ σ 6 (rat σ k (pp q)) = 1
def TB (σ : SS) (k : Nat) : Prop := ∀ q, σ 12 (rat σ k q) < 128
def TT (σ : SS) (t : Nat) : Prop := ∀ q, σ 12 (rat σ (16 + t) q) < 128 ∨ σ 12 (rat σ (16 + t) q) = 255 - t
def T1 (σ : SS) (t : Nat) : Prop := ∀ q p, 128 ≤ σ 12 (rat σ (16 + t) q) → rat σ (16 + t) p = rat σ (16 + t) q → p = q
/-- above q the lines are those of the base -/
def ch (σ : SS) (t q : Nat) : Prop := ∀ i, i < pd q → σ 10 (rat σ (16 + t) (pq q i)) = σ 10 (rat σ (σ 3 t) (pq q i))
def T2 (σ : SS) (t : Nat) : Prop := ∀ q, 0 < rat σ (16 + t) q → ch σ t q → 128 ≤ σ 12 (rat σ (16 + t) q) ∨ rat σ (16 + t) q = rat σ (σ 3 t) q
def NB (σ : SS) (n : Nat) : Prop := (σ 12 n < 128 → σ 12 n ≤ σ 1 0 ∧ σ 11 n ≤ σ 12 n) ∧ (128 ≤ σ 12 n → 253 ≤ σ 12 n ∧ σ 12 n ≤ 255 ∧ σ 11 n ≤ σ 1 0 + 1) ∧ σ 7 n ≤ 12 ∧ σ 9 n < 2 ^ 48 ∧ σ 10 n ≤ σ 5 0 ∧ (σ 13 n ≠ 0 → σ 12 (σ 13 n) < 128 ∧ σ 12 (σ 13 n) < σ 12 n) ∧ σ 15 n ≤ σ 16 0 ∧ (σ 6 n ≠ 2 → σ 15 n = 0 ∧ σ 8 n = 0)
def NF (σ : SS) : Prop := (σ 6 0 = 0 ∧ σ 10 0 = 0 ∧ σ 12 0 = 0 ∧ σ 13 0 = 0 ∧ σ 14 0 = 0 ∧ σ 15 0 = 0) ∧ (∀ n, σ 4 0 < n → σ 8 n = 0 ∧ σ 14 n = 0) ∧ (∀ n, 0 < n → n ≤ σ 4 0 → σ 6 n = 1 ∨ σ 6 n = 2) ∧ ∀ n, NB σ n
def NV (σ : SS) : Prop := ∀ n, σ 14 n ≠ 0 → (σ 14 n - 1) / 125 ≤ σ 1 0 ∧ 0 < rat σ ((σ 14 n - 1) / 125) ((σ 14 n - 1) % 125)
def SF (σ : SS) : Prop := σ 16 0 ≤ 512 ∧ ∀ k, σ 17 k < 2 ^ 48 ∧ σ 18 k ≤ 12 ∧ σ 19 k ≤ k ∧ σ 19 k ≤ σ 16 0 ∧ σ 20 k ≤ 22
def BF (σ : SS) : Prop := σ 1 0 ≤ 15 ∧ (∀ t, t < 3 → σ 3 t ≤ σ 1 0) ∧ σ 5 0 ≤ σ 4 0 ∧ 0 < σ 4 0
/-- tables; of transaction s the last part is left out -/
def TF (σ : SS) (s : Nat) : Prop := (∀ k, k ≤ σ 1 0 → TR σ k ∧ TB σ k) ∧ ∀ t, t < 3 → σ 2 t ≠ 0 → TR σ (16 + t) ∧ TT σ t ∧ T1 σ t ∧ (t ≠ s → T2 σ t)
def INV (σ : SS) (s : Nat) : Prop := pZ σ ∧ BF σ ∧ NF σ ∧ NV σ ∧ SF σ ∧ TF σ s
theorem rat_c {k : Nat} (h : ∀ q, q < 125 → τ 0 (125 * k + q) = σ 0 (125 * k + q)) (q : Nat) : rat τ k q = rat σ k q := by
  unfold rat
  by_cases hp : pgb q = true
  · rw [if_pos hp, if_pos hp, h q (pgb_t.mp hp).1]
  · rw [if_neg hp, if_neg hp]
/-- a table's facts need only its own places, and the kinds, lines, births and sources of its nodes -/
theorem TR_c {k : Nat} (h : TR σ k) (hr : ∀ q, rat τ k q = rat σ k q) (hn : ∀ q, τ 6 (rat σ k q) = σ 6 (rat σ k q) ∧ τ 10 (rat σ k q) = σ 10 (rat σ k q) ∧ τ 14 (rat σ k q) = σ 14 (rat σ k q)) : TR τ k := by
  refine ⟨?_, fun q h0 hq => ?_⟩
  · rw [hr 0, (hn 0).1, (hn 0).2.1, (hn 0).2.2]
    exact h.1
  · rw [hr] at hq
    rw [hr, (hn (pp q)).1]
    exact h.2 q h0 hq
theorem TB_c {k : Nat} (h : TB σ k) (hr : ∀ q, rat τ k q = rat σ k q) (hn : ∀ q, τ 12 (rat σ k q) = σ 12 (rat σ k q)) : TB τ k := fun q => by
  rw [hr, hn]
  exact h q
theorem TT_c {t : Nat} (h : TT σ t) (hr : ∀ q, rat τ (16 + t) q = rat σ (16 + t) q) (hn : ∀ q, τ 12 (rat σ (16 + t) q) = σ 12 (rat σ (16 + t) q)) : TT τ t := fun q => by
  rw [hr, hn]
  exact h q
theorem T1_c {t : Nat} (h : T1 σ t) (hr : ∀ q, rat τ (16 + t) q = rat σ (16 + t) q) (hn : ∀ q, τ 12 (rat σ (16 + t) q) = σ 12 (rat σ (16 + t) q)) : T1 τ t := fun q p h1 h2 => by
  rw [hr, hn] at h1
  rw [hr, hr] at h2
  exact h q p h1 h2
theorem T2_c {t : Nat} (h : T2 σ t) (h3 : τ 3 t = σ 3 t) (hr : ∀ q, rat τ (16 + t) q = rat σ (16 + t) q) (hr2 : ∀ q, rat τ (σ 3 t) q = rat σ (σ 3 t) q) (hn : ∀ q, τ 12 (rat σ (16 + t) q) = σ 12 (rat σ (16 + t) q) ∧ τ 10 (rat σ (16 + t) q) = σ 10 (rat σ (16 + t) q)) (hn2 : ∀ q, τ 10 (rat σ (σ 3 t) q) = σ 10 (rat σ (σ 3 t) q)) : T2 τ t := fun q h1 h2 => by
  rw [hr] at h1
  rw [h3, hr, hr2, (hn q).1]
  refine h q h1 (fun i hi => ?_)
  have := h2 i hi
  rw [h3, hr, hr2, (hn _).2, hn2] at this
  exact this
theorem inv_z {s : Nat} (h : INV σ s) : pZ σ := h.1
theorem inv_le {s : Nat} (h : INV σ s) {k q : Nat} : rat σ k q ≤ σ 4 0 := rat_le h.1
/-- all tables keep their facts when the tree rows stay and the nodes up to the old number keep kind, line, birth, source -/
theorem TF_c {s : Nat} (hz : pZ σ) (h : TF σ s) (e0 : τ 0 = σ 0) (e1 : τ 1 0 = σ 1 0) (e2 : τ 2 = σ 2) (e3 : τ 3 = σ 3) (hn : ∀ n, n ≤ σ 4 0 → τ 6 n = σ 6 n ∧ τ 10 n = σ 10 n ∧ τ 12 n = σ 12 n ∧ τ 14 n = σ 14 n) : TF τ s := by
  have hr : ∀ k q, rat τ k q = rat σ k q := fun k q => rat_c (fun j _ => by rw [e0]) q
  have hm : ∀ k q, τ 6 (rat σ k q) = σ 6 (rat σ k q) ∧ τ 10 (rat σ k q) = σ 10 (rat σ k q) ∧ τ 12 (rat σ k q) = σ 12 (rat σ k q) ∧ τ 14 (rat σ k q) = σ 14 (rat σ k q) := fun k q => hn _ (rat_le hz)
  refine ⟨fun k hk => ?_, fun t ht h2 => ?_⟩
  · rw [e1] at hk
    exact ⟨TR_c (h.1 k hk).1 (hr k) (fun q => ⟨(hm k q).1, (hm k q).2.1, (hm k q).2.2.2⟩), TB_c (h.1 k hk).2 (hr k) (fun q => (hm k q).2.2.1)⟩
  · rw [e2] at h2
    obtain ⟨g1, g2, g3, g4⟩ := h.2 t ht h2
    exact ⟨TR_c g1 (hr _) (fun q => ⟨(hm _ q).1, (hm _ q).2.1, (hm _ q).2.2.2⟩), TT_c g2 (hr _) (fun q => (hm _ q).2.2.1), T1_c g3 (hr _) (fun q => (hm _ q).2.2.1), fun hs => T2_c (g4 hs) (by rw [e3]) (hr _) (hr _) (fun q => ⟨(hm _ q).2.2.1, (hm _ q).2.1⟩) (fun q => (hm _ q).2.1)⟩
/-- a new node, in no table yet -/
def NX (σ τ : SS) : Prop := τ 4 0 = σ 4 0 + 1 ∧ (∀ f, f ≠ 4 → f ≠ 5 → f < 6 ∨ 15 < f → τ f = σ f) ∧ (∀ f j, 6 ≤ f → f ≤ 15 → j ≠ σ 4 0 + 1 → τ f j = σ f j) ∧ σ 5 0 ≤ τ 5 0 ∧ τ 5 0 ≤ σ 5 0 + 1
theorem NX_inv {s m : Nat} (h : INV σ s) (hx : NX σ τ) (hm : σ 4 0 + 1 = m) (h13 : τ 13 m ≤ σ 4 0) (hk : τ 6 m = 1 ∨ τ 6 m = 2) (hb : NB τ m) (hv : τ 14 m ≠ 0 → (τ 14 m - 1) / 125 ≤ σ 1 0 ∧ 0 < rat σ ((τ 14 m - 1) / 125) ((τ 14 m - 1) % 125)) : INV τ s := by
  obtain ⟨hz, hB, hN, hV, hS, hT⟩ := h
  obtain ⟨x4, xr, xn, x5, x6⟩ := hx
  have e0 := xr 0 (by decide) (by decide) (by decide)
  have e1 := xr 1 (by decide) (by decide) (by decide)
  have e2 := xr 2 (by decide) (by decide) (by decide)
  have e3 := xr 3 (by decide) (by decide) (by decide)
  have e16 := xr 16 (by decide) (by decide) (by decide)
  have hr : ∀ k q, rat τ k q = rat σ k q := fun k q => rat_c (fun j _ => by rw [e0]) q
  have lo : ∀ f n, 6 ≤ f → f ≤ 15 → n ≤ σ 4 0 → τ f n = σ f n := fun f n h1 h2 h3 => xn f n h1 h2 (by omega)
  refine ⟨⟨fun j => ?_, fun j => ?_, ?_⟩, ⟨?_, ?_, ?_, ?_⟩, ⟨?_, fun n hn => ?_, fun n n0 hn => ?_, fun n => ?_⟩, fun n hn => ?_, ⟨?_, fun k => ?_⟩, TF_c hz hT e0 (by rw [e1]) e2 e3 (fun n hn => ⟨lo 6 n (by decide) (by decide) hn, lo 10 n (by decide) (by decide) hn, lo 12 n (by decide) (by decide) hn, lo 14 n (by decide) (by decide) hn⟩)⟩
  · rw [e0, x4]
    have := hz.1 j
    omega
  · rw [x4]
    by_cases e : j = m
    · subst e; omega
    · rw [xn 13 j (by decide) (by decide) (by omega)]
      have := hz.2.1 j
      omega
  · rw [e0]; exact hz.2.2
  · rw [e1]; exact hB.1
  · rw [e1, e3]; exact hB.2.1
  · have := hB.2.2.1
    omega
  · omega
  · rw [lo 6 0 (by decide) (by decide) (by omega), lo 10 0 (by decide) (by decide) (by omega), lo 12 0 (by decide) (by decide) (by omega), lo 13 0 (by decide) (by decide) (by omega), lo 14 0 (by decide) (by decide) (by omega), lo 15 0 (by decide) (by decide) (by omega)]
    exact hN.1
  · rw [xn 8 n (by decide) (by decide) (by omega), xn 14 n (by decide) (by decide) (by omega)]
    exact hN.2.1 n (by omega)
  · by_cases e : n = m
    · subst e; exact hk
    · rw [lo 6 n (by decide) (by decide) (by omega)]
      exact hN.2.2.1 n n0 (by omega)
  · by_cases e : n = m
    · subst e; exact hb
    · have e' : n ≠ σ 4 0 + 1 := by omega
      obtain ⟨g1, g2, g3, g4, g5, g6, g7, g8⟩ := hN.2.2.2 n
      have h13' := hz.2.1 n
      unfold NB
      rw [xn 12 n (by decide) (by decide) e', xn 11 n (by decide) (by decide) e', xn 7 n (by decide) (by decide) e', xn 9 n (by decide) (by decide) e', xn 10 n (by decide) (by decide) e', xn 13 n (by decide) (by decide) e', xn 15 n (by decide) (by decide) e', xn 6 n (by decide) (by decide) e', xn 8 n (by decide) (by decide) e', lo 12 (σ 13 n) (by decide) (by decide) h13', e1, e16]
      exact ⟨g1, g2, g3, g4, by omega, g6, g7, g8⟩
  · rw [hr, e1]
    by_cases e : n = m
    · subst e; exact hv hn
    · rw [xn 14 n (by decide) (by decide) (by omega)] at hn ⊢
      exact hV n hn
  · rw [e16]; exact hS.1
  · rw [xr 17 (by decide) (by decide) (by decide), xr 18 (by decide) (by decide) (by decide), xr 19 (by decide) (by decide) (by decide), xr 20 (by decide) (by decide) (by decide), e16]
    exact hS.2 k
/-! a change of transaction t's table alone -/
theorem rat_plc {t q n k w : Nat} (hq : pgb q = true) (hk : k < 19) : rat (plc σ t q n) k w = if k = 16 + t ∧ w = q then n else rat σ k w := by
  have hq' := (pgb_t.mp hq).1
  unfold rat
  by_cases hw : pgb w = true
  · have hw' := (pgb_t.mp hw).1
    rw [if_pos hw, if_pos hw, plc_at]
    by_cases c : k = 16 + t ∧ w = q
    · rw [if_pos c, if_pos ⟨rfl, by omega⟩]
    · rw [if_neg c, if_neg (fun z => c (by omega))]
  · rw [if_neg hw, if_neg hw, if_neg]
    rintro ⟨-, rfl⟩
    exact hw hq
/-- what stays when only the tree of transaction t changes -/
theorem inv_tree {s t : Nat} (h : INV σ s) (ht : t < 3) (hr : ∀ f, f ≠ 0 → τ f = σ f) (hz : pZ τ) (hk : ∀ k q, k < 19 → k ≠ 16 + t → rat τ k q = rat σ k q) (hT : TR τ (16 + t) ∧ TT τ t ∧ T1 τ t ∧ (t ≠ s → T2 τ t)) : INV τ s := by
  obtain ⟨-, hB, hN, hV, hS, hF⟩ := h
  have e1 : τ 1 = σ 1 := hr 1 (by decide)
  have e3 : τ 3 = σ 3 := hr 3 (by decide)
  have hy : σ 1 0 ≤ 15 := hB.1
  refine ⟨hz, ?_, ?_, fun n hn => ?_, ?_, fun k hk2 => ?_, fun u hu h2 => ?_⟩
  · unfold BF
    rw [e1, e3, hr 4 (by decide), hr 5 (by decide)]
    exact hB
  · unfold NF NB
    rw [e1, hr 4 (by decide), hr 5 (by decide), hr 6 (by decide), hr 7 (by decide), hr 8 (by decide), hr 9 (by decide), hr 10 (by decide), hr 11 (by decide), hr 12 (by decide), hr 13 (by decide), hr 14 (by decide), hr 15 (by decide), hr 16 (by decide)]
    exact hN
  · rw [hr 14 (by decide)] at hn ⊢
    rw [e1]
    have := (hV n hn).1
    rw [hk _ _ (by omega) (by omega)]
    exact hV n hn
  · unfold SF
    rw [hr 16 (by decide), hr 17 (by decide), hr 18 (by decide), hr 19 (by decide), hr 20 (by decide)]
    exact hS
  · rw [e1] at hk2
    have hq : ∀ q, rat τ k q = rat σ k q := fun q => hk k q (by omega) (by omega)
    exact ⟨TR_c (hF.1 k hk2).1 hq (fun q => by rw [hr 6 (by decide), hr 10 (by decide), hr 14 (by decide)]; exact ⟨rfl, rfl, rfl⟩), TB_c (hF.1 k hk2).2 hq (fun q => by rw [hr 12 (by decide)])⟩
  · rw [hr 2 (by decide)] at h2
    by_cases e : u = t
    · subst e; exact hT
    · obtain ⟨g1, g2, g3, g4⟩ := hF.2 u hu h2
      have hb := hB.2.1 u hu
      have hq : ∀ q, rat τ (16 + u) q = rat σ (16 + u) q := fun q => hk _ q (by omega) (by omega)
      exact ⟨TR_c g1 hq (fun q => by rw [hr 6 (by decide), hr 10 (by decide), hr 14 (by decide)]; exact ⟨rfl, rfl, rfl⟩), TT_c g2 hq (fun q => by rw [hr 12 (by decide)]), T1_c g3 hq (fun q => by rw [hr 12 (by decide)]), fun hs => T2_c (g4 hs) (by rw [e3]) hq (fun q => hk _ q (by omega) (by omega)) (fun q => by rw [hr 12 (by decide), hr 10 (by decide)]; exact ⟨rfl, rfl⟩) (fun q => by rw [hr 10 (by decide)])⟩
/-- all names above a node are there -/
theorem TR_anc {k : Nat} (h : TR σ k) : ∀ d q, pd q = d → 0 < rat σ k q → ∀ i, i ≤ d → 0 < rat σ k (pq q i) ∧ (i < d → σ 6 (rat σ k (pq q i)) = 1)
  | 0, q, hd, hq, i, hi => by
    have := pd_z hd
    subst this
    have : i = 0 := by omega
    subst this
    exact ⟨h.1.1, fun z => by omega⟩
  | d + 1, q, hd, hq, i, hi => by
    have hg := rat_good (σ := σ) (k := k) (p := q) (by omega)
    have h0 := pos_of_pd hd
    have h1 := pp_d hg h0
    by_cases e : i = d + 1
    · subst e
      have := pd_le q
      rw [pq_s hg (by omega) (by omega)]
      exact ⟨hq, fun z => by omega⟩
    · obtain ⟨g1, g2⟩ := h.2 q h0 hq
      have ih := TR_anc h d (pp q) (by omega) g1 i (by omega)
      rw [pq_pp (by omega)] at ih
      refine ⟨ih.1, fun _ => ?_⟩
      by_cases e2 : i = d
      · have : pq q i = pp q := by rw [pp_pq]; congr 1; omega
        rw [this]
        exact g2
      · exact ih.2 (by omega)
/-- a node takes the place of another of the same kind and line -/
theorem inv_rep {s t q m : Nat} (h : INV σ s) (ht : t < 3) (ho : σ 2 t ≠ 0) (hq : 0 < rat σ (16 + t) q) (hm0 : 0 < m) (hm : m ≤ σ 4 0) (hb : σ 12 m = 255 - t) (h6 : σ 6 m = σ 6 (rat σ (16 + t) q)) (h10 : σ 10 m = σ 10 (rat σ (16 + t) q)) (h14 : σ 14 m = 0) (hfr : ∀ p, rat σ (16 + t) p ≠ m) : INV (plc σ t q m) s := by
  have hg := rat_good (σ := σ) (k := 16 + t) (p := q) (by omega)
  have hT := h.2.2.2.2.2.2 t ht ho
  obtain ⟨g1, g2, g3, g4⟩ := hT
  have hy : σ 3 t ≤ σ 1 0 := h.2.1.2.1 t ht
  have hy2 : σ 1 0 ≤ 15 := h.2.1.1
  have R : ∀ w, rat (plc σ t q m) (16 + t) w = if w = q then m else rat σ (16 + t) w := fun w => by
    rw [rat_plc hg (by omega)]
    by_cases e : w = q
    · rw [if_pos ⟨rfl, e⟩, if_pos e]
    · rw [if_neg (fun z => e z.2), if_neg e]
  have R2 : ∀ w, rat (plc σ t q m) (σ 3 t) w = rat σ (σ 3 t) w := fun w => by
    rw [rat_plc hg (by omega), if_neg (by omega)]
  have O : ∀ f, f ≠ 0 → plc σ t q m f = σ f := fun f hf => plc_o hf
  have K6 : ∀ w, σ 6 (if w = q then m else rat σ (16 + t) w) = σ 6 (rat σ (16 + t) w) := fun w => by
    split
    · next e => rw [e, h6]
    · rfl
  have K10 : ∀ w, σ 10 (if w = q then m else rat σ (16 + t) w) = σ 10 (rat σ (16 + t) w) := fun w => by
    split
    · next e => rw [e, h10]
    · rfl
  have P : ∀ w, (0 < if w = q then m else rat σ (16 + t) w) ↔ 0 < rat σ (16 + t) w := fun w => by
    split
    · next e => rw [e]; exact ⟨fun _ => hq, fun _ => hm0⟩
    · exact Iff.rfl
  refine inv_tree h ht O (pZ_plc h.1 ht hg hm) (fun k w hk hne => by rw [rat_plc hg hk, if_neg (fun z => hne z.1)]) ⟨⟨⟨?_, ?_, ?_, ?_⟩, fun w w0 hw => ?_⟩, fun w => ?_, fun w p h1 h2 => ?_, fun hs w hw hc => ?_⟩
  · rw [R, P]; exact g1.1.1
  · rw [R, O 6 (by decide), K6]; exact g1.1.2.1
  · rw [R, O 10 (by decide), K10]; exact g1.1.2.2.1
  · rw [R, O 14 (by decide)]
    split
    · exact h14
    · exact g1.1.2.2.2
  · rw [R, P] at hw
    rw [R, P, O 6 (by decide), K6]
    exact g1.2 w w0 hw
  · rw [R, O 12 (by decide)]
    split
    · exact Or.inr hb
    · exact g2 w
  · rw [R, O 12 (by decide)] at h1
    rw [R, R] at h2
    by_cases e1 : w = q
    · rw [if_pos e1] at h2
      by_cases e2 : p = q
      · rw [e1, e2]
      · rw [if_neg e2] at h2
        exact absurd h2 (hfr p)
    · rw [if_neg e1] at h1 h2
      by_cases e2 : p = q
      · rw [if_pos e2] at h2
        exact absurd h2.symm (hfr w)
      · rw [if_neg e2] at h2
        exact g3 w p h1 h2
  · have hc' : ch σ t w := fun i hi => by
      have := hc i hi
      rw [O 3 (by decide), R, R2, O 10 (by decide), K10] at this
      exact this
    rw [R, P] at hw
    rw [O 3 (by decide), R, R2, O 12 (by decide)]
    split
    · exact Or.inl (by omega)
    · exact g4 hs w hw hc'
/-- a node comes to an empty place -/
theorem inv_add {s t q m : Nat} (h : INV σ s) (ht : t < 3) (ho : σ 2 t ≠ 0) (hg : pgb q = true) (h0 : 0 < q) (hq : rat σ (16 + t) q = 0) (hp : 0 < rat σ (16 + t) (pp q)) (hp6 : σ 6 (rat σ (16 + t) (pp q)) = 1) (hm0 : 0 < m) (hm : m ≤ σ 4 0) (hb : σ 12 m = 255 - t) (hfr : ∀ p, rat σ (16 + t) p ≠ m) : INV (plc σ t q m) s := by
  have hT := h.2.2.2.2.2.2 t ht ho
  obtain ⟨g1, g2, g3, g4⟩ := hT
  have hy : σ 3 t ≤ σ 1 0 := h.2.1.2.1 t ht
  have hy2 : σ 1 0 ≤ 15 := h.2.1.1
  have hd := pp_d hg h0
  have hpq : pp q ≠ q := fun z => by rw [z] at hd; omega
  have R : ∀ w, rat (plc σ t q m) (16 + t) w = if w = q then m else rat σ (16 + t) w := fun w => by
    rw [rat_plc hg (by omega)]
    by_cases e : w = q
    · rw [if_pos ⟨rfl, e⟩, if_pos e]
    · rw [if_neg (fun z => e z.2), if_neg e]
  have R2 : ∀ w, rat (plc σ t q m) (σ 3 t) w = rat σ (σ 3 t) w := fun w => by
    rw [rat_plc hg (by omega), if_neg (by omega)]
  have O : ∀ f, f ≠ 0 → plc σ t q m f = σ f := fun f hf => plc_o hf
  refine inv_tree h ht O (pZ_plc h.1 ht hg hm) (fun k w hk hne => by rw [rat_plc hg hk, if_neg (fun z => hne z.1)]) ⟨⟨?_, fun w w0 hw => ?_⟩, fun w => ?_, fun w p h1 h2 => ?_, fun hs w hw hc => ?_⟩
  · rw [R, if_neg (by omega), O 6 (by decide), O 10 (by decide), O 14 (by decide)]
    exact g1.1
  · rw [O 6 (by decide), R]
    by_cases e : w = q
    · subst e
      rw [if_neg hpq]
      exact ⟨hp, hp6⟩
    · rw [R, if_neg e] at hw
      have := g1.2 w w0 hw
      by_cases e2 : pp w = q
      · rw [e2, hq] at this
        omega
      · rw [if_neg e2]
        exact this
  · rw [R, O 12 (by decide)]
    split
    · exact Or.inr hb
    · exact g2 w
  · rw [R, O 12 (by decide)] at h1
    rw [R, R] at h2
    by_cases e1 : w = q
    · rw [if_pos e1] at h2
      by_cases e2 : p = q
      · rw [e1, e2]
      · rw [if_neg e2] at h2
        exact absurd h2 (hfr p)
    · rw [if_neg e1] at h1 h2
      by_cases e2 : p = q
      · rw [if_pos e2] at h2
        exact absurd h2.symm (hfr w)
      · rw [if_neg e2] at h2
        exact g3 w p h1 h2
  · rw [O 3 (by decide), R, R2, O 12 (by decide)]
    by_cases e : w = q
    · rw [if_pos e]
      exact Or.inl (by omega)
    · rw [R, if_neg e] at hw
      rw [if_neg e]
      refine g4 hs w hw (fun i hi => ?_)
      have := hc i hi
      rw [O 3 (by decide), R, R2, O 10 (by decide)] at this
      have ha := (TR_anc g1 (pd w) w rfl hw i (by omega)).1
      rw [if_neg (fun z => by rw [z, hq] at ha; omega)] at this
      exact this
end INV
