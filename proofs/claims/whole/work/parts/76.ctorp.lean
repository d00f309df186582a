/-! the class's constructor: the cells that it makes -/
section CTO
variable {E : Ev} {M : mp_M} {a0 q1 q2 q3 q4 : Nat} {tr ar tx : Nat → Nat}
def CD (i j k : Nat) : Prop := k < i ∨ (16 ≤ k ∧ k < 16 + j)
abbrev aT (E : Ev) (i : Nat) (tr : Nat → Nat) : va_E := .inl (E.2.1 1, 16, .inr (.inr (.inr (.inr (fun k => if k < i then some (tr k) else none)))))
abbrev aX (E : Ev) (j : Nat) (tx : Nat → Nat) : va_E := .inl (E.2.1 2, 3, .inr (.inr (.inr (.inr (fun k => if k < j then some (tx k) else none)))))
def CT (E : Ev) (M : mp_M) (a0 q1 q2 q3 q4 : Nat) (tr ar tx : Nat → Nat) (i j : Nat) : Prop :=
  M a0 = some (.inr (0, [.ref q1, .ref q2, .ref q3, .ref q4, .int (nI 0), .int (nI 0)])) ∧ M q1 = some (aT E i tr) ∧ M q2 = some (aX E j tx) ∧ (∃ mcn, M q3 = some (.inr (7, [.int mcn, .ref E.2.2, .int (nI 0)]))) ∧ M q4 = some (txf 0 0) ∧ (∀ k, CD i j k → M (tr k) = some (.inr (1, [.ref (ar k)])) ∧ M (ar k) = some (refs E (fun _ => none)) ∧ ar k ≠ q1 ∧ ar k ≠ q2) ∧ (∀ k, k < j → M (tx k) = some (.inr (2, [.ref (tr (16 + k)), .int (nI 0), .int (nI 0)]))) ∧ (∀ k k', CD i j k → CD i j k' → ar k = ar k' → k = k') ∧ (∀ k k', k < j → k' < j → tx k = tx k' → k = k') ∧ q1 ≠ q2
/-- a tree, made -/
abbrev mt (E : Ev) (M : mp_M) (q r : Nat) : mp_M := mp_up (mp_up (mp_up M q (.inr (1, [.null]))) r (refs E (fun _ => none))) q (.inr (1, [.ref r]))
theorem mt_k {q r b : Nat} {e : va_E} (hq : M q = none) (hr : mp_up M q (.inr (1, [.null])) r = none) (hb : M b = some e) : mt E M q r b = some e ∧ b ≠ q ∧ b ≠ r ∧ q ≠ r ∧ M r = none := by
  have hbq := ne_of hb hq
  have hqr : q ≠ r := by
    rintro rfl
    rw [mp_up_s] at hr
    cases hr
  have hr2 : M r = none := by
    rw [mp_up_n (fun z => hqr z.symm)] at hr
    exact hr
  have hbr := ne_of hb hr2
  refine ⟨?_, hbq, hbr, hqr, hr2⟩
  unfold mt
  rw [mp_up_n hbq, mp_up_n hbr, mp_up_n hbq]
  exact hb
theorem mt_q {q r : Nat} : mt E M q r q = some (.inr (1, [.ref r])) := mp_up_s
theorem mt_r {q r : Nat} (h : q ≠ r) : mt E M q r r = some (refs E (fun _ => none)) := (mp_up_n (fun z => h z.symm)).trans mp_up_s
theorem aT_up {i q : Nat} {tr : Nat → Nat} : va_up (fun k => if k < i then some (tr k) else none) i (some q) = fun k => if k < i + 1 then some (va_up tr i q k) else none := arO_up
theorem ct_tree {i q r : Nat} (h : CT E M a0 q1 q2 q3 q4 tr ar tx i 0) (hi : i < 16) (hq : M q = none) (hr : mp_up M q (.inr (1, [.null])) r = none) : CT E (mp_up (mt E M q r) q1 (aT E (i + 1) (va_up tr i q))) a0 q1 q2 q3 q4 (va_up tr i q) (va_up ar i r) tx (i + 1) 0 := by
  obtain ⟨h1, h2, h3, ⟨mcn, h4⟩, h5, h6, h7, h8, h9, h10⟩ := h
  have k1 := mt_k (E := E) hq hr h1
  have k2 := mt_k (E := E) hq hr h2
  have k3 := mt_k (E := E) hq hr h3
  have k4 := mt_k (E := E) hq hr h4
  have k5 := mt_k (E := E) hq hr h5
  have e1 : mt E M q r q1 = some (aT E i tr) := k2.1
  have vs : ∀ (f : Nat → Nat) v, va_up f i v i = v := fun f v => by simp [va_up]
  have vo : ∀ (f : Nat → Nat) v k, k ≠ i → va_up f i v k = f k := fun f v k hk => by simp [va_up, hk]
  have fr : ∀ b c fs, mt E M q r b = some (.inr (c, fs)) → mp_up (mt E M q r) q1 (aT E (i + 1) (va_up tr i q)) b = some (.inr (c, fs)) := fun b c fs hb => by
    rw [mp_up_n]
    · exact hb
    · rintro rfl
      rw [e1] at hb
      cases hb
  refine ⟨fr _ _ _ k1.1, mp_up_s, (mp_up_n (fun z => h10 z.symm)).trans k3.1, ⟨mcn, fr _ _ _ k4.1⟩, fr _ _ _ k5.1, fun k hk => ?_, fun k hk => by omega, fun k k' hk hk' e => ?_, fun k k' hk => by omega, h10⟩
  · by_cases e : k = i
    · rw [e, vs, vs]
      exact ⟨fr _ _ _ mt_q, (mp_up_n (fun z => k2.2.2.1 z.symm)).trans (mt_r k1.2.2.2.1), fun z => k2.2.2.1 z.symm, fun z => k3.2.2.1 z.symm⟩
    · rw [vo _ _ k e, vo _ _ k e]
      have hk' : CD i 0 k := by unfold CD at hk ⊢; omega
      obtain ⟨a1, a2, a3, a4⟩ := h6 k hk'
      exact ⟨fr _ _ _ (mt_k (E := E) hq hr a1).1, (mp_up_n a3).trans (mt_k (E := E) hq hr a2).1, a3, a4⟩
  · by_cases c : k = i
    · by_cases c' : k' = i
      · omega
      · exfalso
        rw [c, vs, vo _ _ k' c'] at e
        have hk2 : CD i 0 k' := by unfold CD at hk' ⊢; omega
        exact (mt_k (E := E) hq hr (h6 k' hk2).2.1).2.2.1 e.symm
    · have hk1 : CD i 0 k := by unfold CD at hk ⊢; omega
      by_cases c' : k' = i
      · exfalso
        rw [c', vs, vo _ _ k c] at e
        exact (mt_k (E := E) hq hr (h6 k hk1).2.1).2.2.1 e
      · rw [vo _ _ k c, vo _ _ k' c'] at e
        have hk2 : CD i 0 k' := by unfold CD at hk' ⊢; omega
        exact h8 k k' hk1 hk2 e
/-- a transaction, made at x -/
theorem ct_tx {j q r x : Nat} {d : va_E} (h : CT E M a0 q1 q2 q3 q4 tr ar tx 16 j) (hj : j < 3) (hx : M x = none) (hq : mp_up M x d q = none) (hr : mp_up (mp_up M x d) q (.inr (1, [.null])) r = none) : CT E (mp_up (mp_up (mt E (mp_up M x d) q r) x (.inr (2, [.ref q, .int (nI 0), .int (nI 0)]))) q2 (aX E (j + 1) (va_up tx j x))) a0 q1 q2 q3 q4 (va_up tr (16 + j) q) (va_up ar (16 + j) r) (va_up tx j x) 16 (j + 1) := by
  obtain ⟨h1, h2, h3, ⟨mcn, h4⟩, h5, h6, h7, h8, h9, h10⟩ := h
  have up : ∀ b e, M b = some e → mp_up M x d b = some e := fun b e hb => (mp_up_n (ne_of hb hx)).trans hb
  have K : ∀ b e, M b = some e → mp_up (mt E (mp_up M x d) q r) x (.inr (2, [.ref q, .int (nI 0), .int (nI 0)])) b = some e ∧ b ≠ x ∧ b ≠ q ∧ b ≠ r := fun b e hb => by
    have k := mt_k (E := E) hq hr (up b e hb)
    exact ⟨(mp_up_n (ne_of hb hx)).trans k.1, ne_of hb hx, k.2.1, k.2.2.1⟩
  have kx := mt_k (E := E) hq hr (mp_up_s (M := M) (a := x) (e := d))
  have k2 := K _ _ h3
  have kq1 := K _ _ h2
  have vs : ∀ (f : Nat → Nat) n v, va_up f n v n = v := fun f n v => by simp [va_up]
  have vo : ∀ (f : Nat → Nat) n v k, k ≠ n → va_up f n v k = f k := fun f n v k hk => by simp [va_up, hk]
  have fr : ∀ b c fs, mp_up (mt E (mp_up M x d) q r) x (.inr (2, [.ref q, .int (nI 0), .int (nI 0)])) b = some (.inr (c, fs)) → mp_up (mp_up (mt E (mp_up M x d) q r) x (.inr (2, [.ref q, .int (nI 0), .int (nI 0)]))) q2 (aX E (j + 1) (va_up tx j x)) b = some (.inr (c, fs)) := fun b c fs hb => by
    rw [mp_up_n]
    · exact hb
    · rintro rfl
      rw [k2.1] at hb
      cases hb
  have hq' : mp_up (mt E (mp_up M x d) q r) x (.inr (2, [.ref q, .int (nI 0), .int (nI 0)])) q = some (.inr (1, [.ref r])) := (mp_up_n (fun z => kx.2.1 z.symm)).trans mt_q
  have hr' : mp_up (mt E (mp_up M x d) q r) x (.inr (2, [.ref q, .int (nI 0), .int (nI 0)])) r = some (refs E (fun _ => none)) := (mp_up_n (fun z => kx.2.2.1 z.symm)).trans (mt_r kx.2.2.2.1)
  refine ⟨fr _ _ _ (K _ _ h1).1, (mp_up_n h10).trans (by
    have e : aT E 16 tr = aT E 16 (va_up tr (16 + j) q) := by
      show (Sum.inl (E.2.1 1, 16, .inr (.inr (.inr (.inr (fun k => if k < 16 then some (tr k) else none))))) : va_E) = Sum.inl (E.2.1 1, 16, .inr (.inr (.inr (.inr (fun k => if k < 16 then some (va_up tr (16 + j) q k) else none)))))
      congr 7
      funext k
      by_cases c : k < 16
      · rw [if_pos c, if_pos c, vo _ _ _ k (by omega)]
      · rw [if_neg c, if_neg c]
    rw [← e]; exact kq1.1), mp_up_s, ⟨mcn, fr _ _ _ (K _ _ h4).1⟩, fr _ _ _ (K _ _ h5).1, fun k hk => ?_, fun k hk => ?_, fun k k' hk hk' e => ?_, fun k k' hk hk' e => ?_, h10⟩
  · by_cases e : k = 16 + j
    · rw [e, vs, vs]
      exact ⟨fr _ _ _ hq', (mp_up_n (fun z => k2.2.2.2 z.symm)).trans hr', fun z => kq1.2.2.2 z.symm, fun z => k2.2.2.2 z.symm⟩
    · rw [vo _ _ _ k e, vo _ _ _ k e]
      have hk' : CD 16 j k := by unfold CD at hk ⊢; omega
      obtain ⟨a1, a2, a3, a4⟩ := h6 k hk'
      exact ⟨fr _ _ _ (K _ _ a1).1, (mp_up_n a4).trans (K _ _ a2).1, a3, a4⟩
  · by_cases e : k = j
    · rw [e, vs, vs]
      exact fr _ _ _ mp_up_s
    · rw [vo _ _ _ k e, vo _ _ _ _ (show 16 + k ≠ 16 + j by omega)]
      exact fr _ _ _ (K _ _ (h7 k (by omega))).1
  · by_cases c : k = 16 + j
    · by_cases c' : k' = 16 + j
      · omega
      · exfalso
        rw [c, vs, vo _ _ _ k' c'] at e
        have hk2 : CD 16 j k' := by unfold CD at hk' ⊢; omega
        exact (K _ _ (h6 k' hk2).2.1).2.2.2 e.symm
    · have hk1 : CD 16 j k := by unfold CD at hk ⊢; omega
      by_cases c' : k' = 16 + j
      · exfalso
        rw [c', vs, vo _ _ _ k c] at e
        exact (K _ _ (h6 k hk1).2.1).2.2.2 e
      · rw [vo _ _ _ k c, vo _ _ _ k' c'] at e
        have hk2 : CD 16 j k' := by unfold CD at hk' ⊢; omega
        exact h8 k k' hk1 hk2 e
  · by_cases c : k = j
    · by_cases c' : k' = j
      · omega
      · exfalso
        rw [c, vs, vo _ _ _ k' c'] at e
        exact (K _ _ (h7 k' (by omega))).2.1 e.symm
    · by_cases c' : k' = j
      · exfalso
        rw [c', vs, vo _ _ _ k c] at e
        exact (K _ _ (h7 k (by omega))).2.1 e
      · rw [vo _ _ _ k c, vo _ _ _ k' c'] at e
        exact h9 k k' (by omega) (by omega) e
/-- the addresses of the picture -/
def cam (a0 q1 q2 q3 q4 : Nat) (tr ar tx : Nat → Nat) : Nat → Nat := fun x => if x = 0 then a0 else if x = 1 then q1 else if x = 2 then q2 else if x = 3 then q3 else if x = 4 then q4 else if x < 24 then tr (x - 5) else if x < 43 then ar (x - 24) else tx (x - 43)
theorem cam_t {k : Nat} (h : k < 19) : cam a0 q1 q2 q3 q4 tr ar tx (k + 5) = tr k := by
  unfold cam
  rw [if_neg (by omega), if_neg (by omega), if_neg (by omega), if_neg (by omega), if_neg (by omega), if_pos (by omega), Nat.add_sub_cancel]
theorem cam_a {k : Nat} (h : k < 19) : cam a0 q1 q2 q3 q4 tr ar tx (k + 24) = ar k := by
  unfold cam
  rw [if_neg (by omega), if_neg (by omega), if_neg (by omega), if_neg (by omega), if_neg (by omega), if_neg (by omega), if_pos (by omega), Nat.add_sub_cancel]
theorem cam_x {k : Nat} : cam a0 q1 q2 q3 q4 tr ar tx (k + 43) = tx k := by
  unfold cam
  rw [if_neg (by omega), if_neg (by omega), if_neg (by omega), if_neg (by omega), if_neg (by omega), if_neg (by omega), if_neg (by omega), Nat.add_sub_cancel]
theorem s0_0 {j : Nat} : σ0 0 j = if j = 0 then 1 else 0 := by
  unfold σ0
  rw [sp_at, sp_o (by decide), sp_o (by decide)]
  by_cases e : j = 0
  · rw [if_pos ⟨rfl, e⟩, if_pos e]
  · rw [if_neg (fun y => e y.2), if_neg e]
theorem ct_pic {n : Nat} (h : CT E M a0 q1 q2 q3 q4 tr ar tx 16 3) (hn : M n = none) (hz : ∀ b, M b ≠ none → b ≠ E.2.2) : PIC E σ0 (cam a0 q1 q2 q3 q4 tr ar tx) (fun _ => n) (fun _ => q4) (mp_up (mp_up M n (.inr (3, [.int (nI 0), .int (bz true), .ref q4, .int (nI 0), .int (nI 0), .null, .int (-1), .int (-1), .int (nI 0), .int (-1)]))) (ar 0) (refs E (tput (fun _ => none) (nI 0) (some n)))) := by
  obtain ⟨h1, h2, h3, ⟨mcn, h4⟩, h5, h6, h7, h8, h9, h10⟩ := h
  have hz0 : pZ σ0 := inv_0.1.1
  have cd : ∀ k, k < 19 → CD 16 3 k := fun k hk => by unfold CD; omega
  have a0r := (h6 0 (cd 0 (by omega))).2.1
  have fr : ∀ b c fs, M b = some (.inr (c, fs)) → mp_up (mp_up M n (.inr (3, [.int (nI 0), .int (bz true), .ref q4, .int (nI 0), .int (nI 0), .null, .int (-1), .int (-1), .int (nI 0), .int (-1)]))) (ar 0) (refs E (tput (fun _ => none) (nI 0) (some n))) b = some (.inr (c, fs)) := fun b c fs hb => by
    rw [mp_up_n, mp_up_n (ne_of hb hn)]
    · exact hb
    · rintro rfl
      rw [a0r] at hb
      cases hb
  have fr2 : ∀ b e, M b = some e → b ≠ ar 0 → mp_up (mp_up M n (.inr (3, [.int (nI 0), .int (bz true), .ref q4, .int (nI 0), .int (nI 0), .null, .int (-1), .int (-1), .int (nI 0), .int (-1)]))) (ar 0) (refs E (tput (fun _ => none) (nI 0) (some n))) b = some e := fun b e hb hne => by
    rw [mp_up_n hne, mp_up_n (ne_of hb hn)]
    exact hb
  have hnr : n ≠ ar 0 := fun z => by rw [← z, hn] at a0r; cases a0r
  refine ⟨⟨?_, ?_, ?_, fr _ _ _ h5, fun k hk => ?_⟩, fun j hj => ?_, fun k hk => ?_, fun m m0 hm => ?_, ⟨fun _ => 0, fun _ => 0, E.2.2, 0, mcn, fr _ _ _ h4, Or.inl ⟨rfl, rfl, rfl⟩, Nat.le_refl _, by omega, ⟨fun k hk z => ?_, fun z => ?_, fun z => ?_⟩, fun k hk => absurd hk (Nat.not_lt_zero k)⟩, ⟨fun i j hi hj e => ?_, fun i j hi hj e => ?_, fun i j i0 hi j0 hj e => ?_, fun k hk => ?_⟩, hz0⟩
  · exact fr _ _ _ h1
  · have hf : (fun i => if i < 16 then some (cam a0 q1 q2 q3 q4 tr ar tx (i + 5)) else none) = fun k => if k < 16 then some (tr k) else none := by
      funext k
      by_cases c : k < 16
      · rw [if_pos c, if_pos c, cam_t (by omega)]
      · rw [if_neg c, if_neg c]
    have e : arT E (cam a0 q1 q2 q3 q4 tr ar tx) = aT E 16 tr := by
      show (Sum.inl (E.2.1 1, 16, .inr (.inr (.inr (.inr (fun i => if i < 16 then some (cam a0 q1 q2 q3 q4 tr ar tx (i + 5)) else none))))) : va_E) = _
      rw [hf]
    rw [e]
    exact fr2 _ _ h2 (fun z => (h6 0 (cd 0 (by omega))).2.2.1 z.symm)
  · have hf : (fun i => if i < 3 then some (cam a0 q1 q2 q3 q4 tr ar tx (i + 43)) else none) = fun k => if k < 3 then some (tx k) else none := by
      funext k
      by_cases c : k < 3
      · rw [if_pos c, if_pos c, cam_x]
      · rw [if_neg c, if_neg c]
    have e : arX E (cam a0 q1 q2 q3 q4 tr ar tx) = aX E 3 tx := by
      show (Sum.inl (E.2.1 2, 3, .inr (.inr (.inr (.inr (fun i => if i < 3 then some (cam a0 q1 q2 q3 q4 tr ar tx (i + 43)) else none))))) : va_E) = _
      rw [hf]
    rw [e]
    exact fr2 _ _ h3 (fun z => (h6 0 (cd 0 (by omega))).2.2.2 z.symm)
  · rw [cam_t hk, cam_a hk]
    exact fr _ _ _ (h6 k (cd k hk)).1
  · have e : cX σ0 (cam a0 q1 q2 q3 q4 tr ar tx) j = [.ref (tr (16 + j)), .int (nI 0), .int (nI 0)] := by
      show [Value.ref (cam a0 q1 q2 q3 q4 tr ar tx (16 + j + 5)), .int (bz (decide (σ0 2 j ≠ 0))), .int (nI (σ0 3 j))] = _
      rw [cam_t (by omega)]
      rfl
    rw [e, cam_x]
    exact fr _ _ _ (h7 j hj)
  · rw [cam_a hk]
    by_cases c : k = 0
    · subst c
      have e : rowf σ0 (fun _ => n) 0 = tput (fun _ => none) (nI 0) (some n) := by
        rw [tput_n (by decide)]
        funext j
        show _ = if j = 0 then some n else none
        by_cases hj : j < 125
        · rw [rowf_lt hj, s0_0]
          by_cases c : j = 0
          · rw [if_pos (by omega), if_pos c]; rfl
          · rw [if_neg (by omega), if_neg c]; rfl
        · rw [rowf_ge hj, if_neg (by omega)]
      rw [e]
      exact mp_up_s
    · have e : rowf σ0 (fun _ => n) k = fun _ => none := by
        funext j
        by_cases hj : j < 125
        · rw [rowf_lt hj, s0_0, if_neg (by omega)]; rfl
        · rw [rowf_ge hj]
      rw [e]
      exact fr2 _ _ (h6 k (cd k hk)).2.1 (fun z => c (h8 k 0 (cd k hk) (cd 0 (by omega)) z))
  · have hm1 : m = 1 := by
      have e4 : σ0 4 0 = 1 := rfl
      omega
    subst hm1
    exact ⟨(mp_up_n hnr).trans mp_up_s, fr _ _ _ h5⟩
  · rw [cam_a hk] at z
    exact hz _ (by rw [(h6 k (cd k hk)).2.1]; exact fun y => (by cases y)) z.symm
  · exact hz q1 (by rw [h2]; exact fun y => (by cases y)) z.symm
  · exact hz q2 (by rw [h3]; exact fun y => (by cases y)) z.symm
  · rw [cam_a hi, cam_a hj] at e
    exact h8 i j (cd i hi) (cd j hj) e
  · rw [cam_x, cam_x] at e
    exact h9 i j hi hj e
  · have e4 : σ0 4 0 = 1 := rfl
    omega
  · rw [cam_a hk]
    exact ⟨fun z => (h6 k (cd k hk)).2.2.1 z.symm, fun z => (h6 k (cd k hk)).2.2.2 z.symm⟩
end CTO
