/-! helpers for the class's members -/
section CLB
variable {σ τ : SS} {ca na ta : Nat → Nat}
theorem cT_5 : (cT σ ca).set 5 (.int (nI (σ 5 0 + 1))) = cT (sp σ 5 0 (σ 5 0 + 1)) ca := rfl
theorem cT_4 {v : Nat} : (cT σ ca).set 4 (.int (nI v)) = cT (sp σ 1 0 v) ca := rfl
theorem cX_0 {j : Nat} : (cX σ ca j).set 1 (.int (nI 0)) = cX (sp σ 2 j 0) ca j := by
  unfold cX
  rw [sp_s, sp_o (by decide)]
  rfl
theorem cX_1 {j : Nat} : (cX σ ca j).set 1 (.int (nI 1)) = cX (sp σ 2 j 1) ca j := by
  unfold cX
  rw [sp_s, sp_o (by decide)]
  rfl
theorem cX_2 {j v : Nat} : (cX σ ca j).set 2 (.int (nI v)) = cX (sp σ 3 j v) ca j := by
  unfold cX
  rw [sp_s, sp_o (by decide)]
  rfl
def ivb (σ : SS) (x : Int32) : Bool := decide (rvn σ x ≠ 16)
theorem iv_t {x : Int32} (hy : σ 1 0 ≤ 15) (h1 : ¬ x < 0) (h2 : ¬ nI (σ 1 0) < x) : ivb σ x = true := by
  obtain ⟨r, hr, -, e⟩ := rv_1 hy h1 (le_of h2)
  unfold ivb
  rw [e]
  exact decide_eq_true (by omega)
theorem iv_1 {x : Int32} (h : x < 0) : ¬ ivb σ x = true := by
  unfold ivb
  rw [rv_2 h]
  decide
theorem iv_2 {x : Int32} (h : nI (σ 1 0) < x) : ¬ ivb σ x = true := by
  unfold ivb
  rw [rv_3 (nle_of h)]
  decide
theorem iv_of {x : Int32} (hy : σ 1 0 ≤ 15) (h : ivb σ x = true) : ∃ r, r ≤ σ 1 0 ∧ x = nI r ∧ rvn σ x = r := by
  have h := of_decide_eq_true h
  unfold rvn at h
  by_cases c : 0 ≤ x ∧ x ≤ nI (σ 1 0)
  · exact rv_1 hy (fun z => nge_of z c.1) c.2
  · rw [if_neg c] at h
    exact absurd rfl h
theorem iv_n {x : Int32} (h : ivb σ x = false) : rvn σ x = 16 := by
  have h := of_decide_eq_false h
  omega
theorem rvn_n {r : Nat} (hy : σ 1 0 ≤ 15) (hr : r ≤ σ 1 0) : rvn σ (nI r) = r := by
  unfold rvn
  rw [if_pos ⟨nI_pos' (by omega), (nI_leI (by omega) (by omega)).mpr hr⟩, nI_clamp (by omega)]
def oT (σ : SS) (ca : Nat → Nat) (x : Int32) : Option Nat := if opb σ (tx x) = true then some (ca (tx x + 43)) else none
theorem oT_t {k : Nat} (hk : k < 3) (h : σ 2 k ≠ 0) : some (ca (k + 43)) = oT σ ca (nI k) := by
  unfold oT
  rw [tx_n hk, if_pos (opb_t hk h)]
theorem oT_f {k : Nat} (hk : k < 3) (h : ¬ σ 2 k ≠ 0) : none = oT σ ca (nI k) := by
  unfold oT
  rw [tx_n hk, if_neg (opb_f (by omega))]
theorem oT_3 {x : Int32} (h : tx x = 3) : none = oT σ ca x := by
  unfold oT
  rw [h, if_neg opb_3]
theorem tx_ge {x : Int32} (h : nI 3 ≤ x) : tx x = 3 := by
  apply tx_gt
  rw [Int32.lt_iff_toInt_lt]
  rw [Int32.le_iff_toInt_le] at h
  have h2 : (nI 2).toInt = 2 := by decide
  have h3 : (nI 3).toInt = 3 := by decide
  omega
theorem oT_some {x : Int32} {a : Nat} (h : oT σ ca x = some a) : ∃ j, j < 3 ∧ σ 2 j ≠ 0 ∧ x = nI j ∧ a = ca (j + 43) := by
  unfold oT at h
  split at h
  · next c =>
    obtain ⟨t, ht, rfl, h2⟩ := opb_of c
    rw [tx_n ht] at h
    exact ⟨t, ht, h2, rfl, (Option.some.inj h).symm⟩
  · cases h
theorem oT_none {x : Int32} (h : oT σ ca x = none) : opb σ (tx x) = false := by
  unfold oT at h
  split at h
  · cases h
  · next c =>
    cases hc : opb σ (tx x) with
    | true => exact absurd hc c
    | false => rfl
def tT (σ : SS) (ca : Nat → Nat) (x : Int32) : Option Nat := if tbn σ x = 19 then none else some (ca (tbn σ x + 5))
theorem tbn_r {k : Nat} (hy : σ 1 0 ≤ 15) (hk : k ≤ σ 1 0) : tbn σ (nI k) = k := by
  unfold tbn
  rw [if_pos (nI_pos' (by omega)), if_pos ((nI_leI (by omega) (by omega)).mpr hk), nI_clamp (by omega)]
theorem tT_r {k : Nat} (hy : σ 1 0 ≤ 15) (hk : k ≤ σ 1 0) : some (ca (k + 5)) = tT σ ca (nI k) := by
  unfold tT
  rw [tbn_r hy hk, if_neg (by omega)]
theorem tT_1 {x : Int32} (hy : σ 1 0 ≤ 15) (h0 : ¬ x < 0) (h : ivb σ x = false) : none = tT σ ca x := by
  unfold tT
  have : tbn σ x = 19 := by
    unfold tbn
    rw [if_pos (ge_of h0), if_neg]
    intro z
    obtain ⟨r, hr, -, e⟩ := rv_1 hy h0 z
    have := iv_n h
    omega
  rw [if_pos this]
theorem tT_2 {x : Int32} (h0 : x < 0) (h : opb σ (tx (-1 - x)) = false) : none = tT σ ca x := by
  unfold tT
  have : tbn σ x = 19 := by
    unfold tbn
    rw [if_neg (nge_of h0), h, if_neg (by decide)]
  rw [if_pos this]
theorem tT_2w {x w : Int32} (h0 : x < 0) (hw : -1 - x = w) (h : opb σ (tx w) = false) : none = tT σ ca x := by
  subst hw
  exact tT_2 h0 h
theorem tT_3 {x : Int32} {j : Nat} (h0 : x < 0) (hj : j < 3) (h2 : σ 2 j ≠ 0) (e : -1 - x = nI j) : some (ca (16 + j + 5)) = tT σ ca x := by
  have : tbn σ x = 16 + j := by
    unfold tbn
    rw [if_neg (nge_of h0), e, tx_n hj, if_pos (opb_t hj h2)]
  unfold tT
  rw [this, if_neg (by omega)]
theorem tT_some {x : Int32} {a : Nat} (hy : σ 1 0 ≤ 15) (h : tT σ ca x = some a) : tbn σ x < 19 ∧ a = ca (tbn σ x + 5) := by
  unfold tT at h
  split at h
  · cases h
  · next c => exact ⟨by have := tbn_le hy x; omega, (Option.some.inj h).symm⟩
theorem tT_none {x : Int32} (h : tT σ ca x = none) : tbn σ x = 19 := by
  unfold tT at h
  split at h
  · next c => exact c
  · cases h
def nQ (na : Nat → Nat) (n : Nat) : Option Nat := if n = 40000 then none else nq na n
theorem fd_19 {x y : Int32} (h : tbn σ x = 19) : fd σ x y = 40000 := if_pos h
theorem fd_r {x y : Int32} (h : tbn σ x < 19) : fd σ x y = rat σ (tbn σ x) (ix y) := if_neg (by omega)
theorem fd_le {x y : Int32} (hz : pZ σ) (h : fd σ x y ≠ 40000) : fd σ x y ≤ σ 4 0 := by
  unfold fd at h ⊢
  split
  · next c => rw [if_pos c] at h; exact absurd rfl h
  · exact rat_le hz
theorem nQ_19 {x y : Int32} (h : tbn σ x = 19) : none = nQ na (fd σ x y) := by
  rw [fd_19 h]
  rfl
theorem nQ_r {x y : Int32} (hz : pZ σ) (hN : σ 4 0 < 1300) (h : tbn σ x < 19) : nq na (rat σ (tbn σ x) (ix y)) = nQ na (fd σ x y) := by
  unfold nQ
  rw [fd_r h, if_neg]
  have := rat_le hz (k := tbn σ x) (q := ix y)
  omega
theorem nQ_none {n : Nat} (h : nQ na n = none) : n = 40000 ∨ n = 0 := by
  unfold nQ at h
  split at h
  · next c => exact Or.inl c
  · exact Or.inr (nq_none h)
theorem nQ_some {n a : Nat} (h : nQ na n = some a) : n ≠ 40000 ∧ 0 < n ∧ a = na n := by
  unfold nQ at h
  split at h
  · cases h
  · next c => exact ⟨c, nq_some h⟩
theorem shI_0 : shI 0 = -1 := rfl
theorem shI_s {s : Nat} (h : 0 < s) : shI s = nI (s - 1) := if_neg (by omega)
/-- bounds that the members ask for -/
theorem inv_y {s : Nat} (h : INV σ s) : σ 1 0 ≤ 15 := h.2.1.1
theorem inv_k {s n : Nat} (h : INV σ s) (h0 : 0 < n) (hn : n ≤ σ 4 0) : σ 6 n = 1 ∨ σ 6 n = 2 := h.2.2.1.2.2.1 n h0 hn
theorem aKind_1 {s n : Nat} (h : INV σ s) (hn : n ≤ σ 4 0) (hN : σ 4 0 < 1300) {kk : Nat} (e : kk = σ 6 n) : nI kk = aKind σ n := by
  unfold aKind
  rw [if_neg (by omega), e]
theorem aLen_t {n : Nat} (h1 : n ≠ 40000) (h0 : 0 < n) (h : decide (σ 6 n = 1) = false) (hk : σ 6 n = 1 ∨ σ 6 n = 2) : flb σ n = true := by
  have h := of_decide_eq_false h
  exact flb_t ⟨h1, h0⟩ (by omega)
theorem aLen_f {n : Nat} (h : decide (σ 6 n = 1) = true) : ¬ flb σ n = true := by
  have h := of_decide_eq_true h
  exact flb_2 (by omega)
end CLB
section CLC
variable {σ τ : SS} {ca na ta : Nat → Nat} {E : Ev} {M : mp_M}
/-- texts stay -/
def tkp (M M' : mp_M) : Prop := ∀ b X z, M b = some (txf X z) → M' b = some (txf X z)
theorem tkp_r : tkp M M := fun _ _ _ h => h
theorem tkp_n {M' : mp_M} {a : Nat} {e : va_E} (h : tkp M M') (ha : M' a = none) : tkp M (mp_up M' a e) := fun b X z hb => (mp_up_n (ne_of (h b X z hb) ha)).trans (h b X z hb)
theorem tkp_i {M' : mp_M} {a i : Nat} {fs : List Value} {e : va_E} (h : tkp M M') (ha : M' a = some (.inr (i, fs))) (hi : i ≠ 4) : tkp M (mp_up M' a e) := fun b X z hb => av_up (av_i (ks := [4]) ha (by simpa using hi)) (h b X z hb) (by simp [kd])
theorem tkp_l {M' : mp_M} {a : Nat} {x : ClassId × vp_A} {e : va_E} (h : tkp M M') (ha : M' a = some (.inl x)) : tkp M (mp_up M' a e) := fun b X z hb => av_up (av_l (ks := [4]) ha (by decide)) (h b X z hb) (by simp [kd])
theorem pic_after {s t r q : Nat} (hP : PIC E σ ca na ta M) (hI : INV σ s) (ht : t < 3) (h0 : 0 < r) (hle : r ≤ σ 4 0) (hq : M q = none) : PIC E (nod1 σ t (σ 6 r) r) ca (va_up na (σ 4 0 + 1) q) (va_up ta (σ 4 0 + 1) (ta r)) (mp_up M q (.inr (3, [.int (nI (σ 10 r)), .int (bz (decide (σ 6 r = 1))), .ref (ta r), .int (nI (σ 11 r + 1)), .int (-1), .ref (na r), .int (-1), .int (-1), .int (nI 0), .int (shI (σ 15 r))]))) := by
  obtain ⟨v6, v12, v13, v11, v7, v9, v15, v10, v8, v14⟩ := nod1_v (σ := σ) (t := t) (w := σ 6 r) (old := r)
  have hm := hI.2.2.1.2.1 (σ 4 0 + 1) (by omega)
  have h := pic_new (τ := nod1 σ t (σ 6 r) r) (b := ta r) hP hq rfl nod1_4 (fun f h4 h => nod1_r h4 h) (fun f j h6 _ hj => nod1_n h6 hj) (by rw [v13]; exact hle) (by rw [v9, v7]; exact pic_tx hP h0 hle)
  have e : ndf (nod1 σ t (σ 6 r) r) na (va_up ta (σ 4 0 + 1) (ta r)) (σ 4 0 + 1) = [.int (nI (σ 10 r)), .int (bz (decide (σ 6 r = 1))), .ref (ta r), .int (nI (σ 11 r + 1)), .int (-1), .ref (na r), .int (-1), .int (-1), .int (nI 0), .int (shI (σ 15 r))] := by
    have et : va_up ta (σ 4 0 + 1) (ta r) (σ 4 0 + 1) = ta r := by simp [va_up]
    unfold ndf
    rw [v10, v6, v11, v12, v13, v14, v8, v15, hm.1, hm.2, et, nq_n h0, crI_m (by omega)]
    rfl
  rw [e] at h
  exact h
theorem va_same {f : Nat → Nat} {k v : Nat} : va_up f k v k = v := by simp [va_up]
theorem tst_pic {t q q' : Nat} {f : Nat → Option Nat} {na' ta' : Nat → Nat} (hb : σ 12 (rat σ (16 + t) q) < 128) (hP : PIC E (nod1 σ t (σ 6 (rat σ (16 + t) q)) (rat σ (16 + t) q)) ca na' ta' M) (hn : na' (σ 4 0 + 1) = q') (ht : t < 3) (hg : pgb q = true) (hf : va_up (rowf (nod1 σ t (σ 6 (rat σ (16 + t) q)) (rat σ (16 + t) q)) na' (16 + t)) q (some q') = f) : PIC E (tst σ t q) ca na' ta' (mp_up M (ca (16 + t + 24)) (refs E f)) := by
  rw [tst_t hb]
  refine pic_plc hP ht hg (by rw [nod1_4]; exact Nat.le_refl _) ?_
  rw [nq_n (by omega), hn]
  exact hf
end CLC
