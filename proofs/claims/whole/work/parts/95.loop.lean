theorem d_L_0 : decode code 0 = .ok (.new 7, 3) := by decide +kernel
theorem d_L_3 : decode code 3 = .ok (.dup, 1) := by decide +kernel
theorem d_L_4 : decode code 4 = .ok (.invokespecial 9, 3) := by decide +kernel
theorem d_L_7 : decode code 7 = .ok (.astore_n 1, 1) := by decide +kernel
theorem d_L_8 : decode code 8 = .ok (.new 10, 3) := by decide +kernel
theorem d_L_11 : decode code 11 = .ok (.dup, 1) := by decide +kernel
theorem d_L_12 : decode code 12 = .ok (.invokespecial 12, 3) := by decide +kernel
theorem d_L_15 : decode code 15 = .ok (.astore_n 2, 1) := by decide +kernel
theorem d_L_16 : decode code 16 = .ok (.iconst 0, 1) := by decide +kernel
theorem d_L_17 : decode code 17 = .ok (.istore_n 3, 1) := by decide +kernel
theorem d_L_18 : decode code 18 = .ok (.iload_n 3, 1) := by decide +kernel
theorem d_L_19 : decode code 19 = .ok (.aload_n 0, 1) := by decide +kernel
theorem d_L_20 : decode code 20 = .ok (.arraylength, 1) := by decide +kernel
theorem d_L_21 : decode code 21 = .ok (.bipush 6, 2) := by decide +kernel
theorem d_L_23 : decode code 23 = .ok (.isub, 1) := by decide +kernel
theorem d_L_24 : decode code 24 = .ok (.if_icmp .gt 733, 3) := by decide +kernel
theorem d_L_27 : decode code 27 = .ok (.aload_n 0, 1) := by decide +kernel
theorem d_L_28 : decode code 28 = .ok (.iload_n 3, 1) := by decide +kernel
theorem d_L_29 : decode code 29 = .ok (.iaload, 1) := by decide +kernel
theorem d_L_30 : decode code 30 = .ok (.bipush 31, 2) := by decide +kernel
theorem d_L_32 : decode code 32 = .ok (.iand, 1) := by decide +kernel
theorem d_L_33 : decode code 33 = .ok (.tableswitch 718 0 17 #[87, 110, 169, 202, 255, 338, 361, 384, 397, 430, 464, 497, 530, 563, 596, 639, 672, 685], 87) := by decide +kernel
theorem d_L_751 : decode code 751 = .ok (.iinc 3 6, 3) := by decide +kernel
theorem d_L_754 : decode code 754 = .ok (.goto (-736), 3) := by decide +kernel
theorem d_L_757 : decode code 757 = .ok (.iconst 1, 1) := by decide +kernel
theorem d_L_758 : decode code 758 = .ok (.ireturn, 1) := by decide +kernel
theorem rf_ex {E : Ev} {σ : SS} {ad : Nat → Nat} {q : Nat} {e : va_E} (h : rfM E σ ad q = some e) : ∃ i, ad i = q ∧ rfE E σ ad i = some e := by
  unfold rfM at h
  cases hf : rfx ad q with
  | none => rw [hf] at h; cases h
  | some i =>
    rw [hf] at h
    unfold rfx at hf
    exact ⟨i, by simpa using List.find?_some hf, h⟩
theorem rB_0 : rB σ0 := by
  unfold σ0
  refine rB_sp (rB_sp (rB_sp (fun f j _ _ => ?_) (by decide)) (by decide)) (by decide)
  show (0 : Nat) < 32768
  decide
theorem LI.up {E : Ev} {A : Nat → Prop} {H0 : Heap} {k : Nat} {σ : SS} {ca na ta ad : Nat → Nat} {M : mp_M} {H : Heap} {locs : List Loc} {cells slots : Nat} (h : LI E A H0 k σ ca na ta ad M H locs cells slots) : LI E A H0 (k + 1) σ ca na ta ad M H locs cells slots := by
  obtain ⟨hP, hI, hB, hPT, hCW, hJ, hw, hw2, hd, hcc, hss⟩ := h
  exact ⟨hP, hI, hB, by omega, by omega, hJ, hw, hw2, hd, by omega, by omega⟩
set_option maxHeartbeats 1000000 in
set_option maxRecDepth 100000 in
theorem lw_loop {p : Program} {l : Launch} {e : Env} {s : State} {m : MethodId} {below : List Frame} {meth : Method} {c : Code} {b L : Nat} {xs : Nat → Int32} {E : Ev} {ca ad : Nat → Nat} (hret : meth.sig.returnType = ret) (hlk : meth.locks = false) (X : LX p s m c b L xs E (fun q => s.heap.size ≤ q)) :
    ∀ (n k : Nat) (σ : SS) (na ta : Nat → Nat) (M : mp_M) (H : Heap) (locs : List Loc) (cells slots : Nat) (ls : Array Slot), L < 6 * k + 6 * n + 6 → 6 * k ≤ L → LI E (fun q => s.heap.size ≤ q) s.heap k σ ca na ta ad M H locs cells slots → lh ls [some (.ref b), some (.ref (ca 0)), some (.ref (ad 0)), some (.int (nI (6 * k)))] → W p l e room_1 s m #[Value.ref b] below meth c H locs cells slots (lw_Z below #[Value.ref b] s) (F0 m 18 ls []) := by
  have X' := X
  obtain ⟨⟨hx, hb, hml, hown, hts⟩, hE, hA, hX, hbl, hbA, hcl, hL⟩ := X'
  intro n
  induction n with
  | zero =>
    intro k σ na ta M H locs cells slots ls hn hk h hl
    obtain ⟨hP, hI, hB, hPT, hCW, hJ, hw, hw2, hd, hcc, hss⟩ := h
    have hy := inv_y hI
    refine x_iload_n hx hb d_L_18 hl rfl ?_
    refine x_aload_n hx hb d_L_19 hl rfl ?_
    refine va_slen hx hb hX hbl hbA hw.2.2 d_L_20 ?_
    refine lv_bipush (v := nI 6) hx hb d_L_21 (by decide) ?_
    refine lv_isub hx hb d_L_23 ?_
    have e1 : (nI L - nI 6).toInt = (L : Int) - 6 := pk_sub_toInt (by omega) (by omega)
    refine lv_icmp_gt (tgt := 757) hx hb d_L_24 rfl (fun _ => ?_) (fun hlt => absurd (Int32.lt_iff_toInt_lt.mpr (by rw [nI_toInt (by omega)]; show (nI L - nI 6).toInt < _; rw [e1]; omega)) hlt)
    refine lv_iconst (v := 1) hx hb d_L_757 (by decide) ?_
    exact va_forget (fun q hq => hw.2.2.2.2 q hq) (W.widen (by omega) (by omega) (lw_ret hx hb hret hlk d_L_758))
  | succ n ih =>
    intro k σ na ta M H locs cells slots ls hn hk h hl
    have hw := h.2.2.2.2.2.2.1
    have hy := inv_y h.2.1
    have hcc := h.2.2.2.2.2.2.2.2.2.1
    have hss := h.2.2.2.2.2.2.2.2.2.2
    have kk : ∀ (σ' : SS) (na' ta' : Nat → Nat) (M' : mp_M) (H' : Heap) (locs' : List Loc) (cells' slots' : Nat), 6 * k + 6 ≤ L → LI E (fun q => s.heap.size ≤ q) s.heap (k + 1) σ' ca na' ta' ad M' H' locs' cells' slots' → W p l e room_1 s m #[Value.ref b] below meth c H' locs' cells' slots' (lw_Z below #[Value.ref b] s) (F0 m 751 ls []) := by
      intro σ' na' ta' M' H' locs' cells' slots' h6 h'
      refine x_iinc (v := nI (6 * (k + 1))) hx hb d_L_751 hl rfl ?_ (lh_k (i := 2) rfl lk_r) (fun ls hl => ?_)
      · rw [show Int32.ofInt 6 = nI 6 from rfl, nI_add, show 6 * (k + 1) = 6 * k + 6 by omega]
      · refine lv_goto (tgt := 18) hx hb d_L_754 rfl ?_
        exact ih (k + 1) σ' na' ta' M' H' locs' cells' slots' ls (by omega) (by omega) h' hl
    refine x_iload_n hx hb d_L_18 hl rfl ?_
    refine x_aload_n hx hb d_L_19 hl rfl ?_
    refine va_slen hx hb hX hbl hbA hw.2.2 d_L_20 ?_
    refine lv_bipush (v := nI 6) hx hb d_L_21 (by decide) ?_
    refine lv_isub hx hb d_L_23 ?_
    have e1 : (nI L - nI 6).toInt = (L : Int) - 6 := pk_sub_toInt (by omega) (by omega)
    refine lv_icmp_gt (tgt := 757) hx hb d_L_24 rfl (fun _ => ?_) (fun hlt => ?_)
    · have hk9 : k ≤ 512 := by omega
      refine lv_iconst (v := 1) hx hb d_L_757 (by decide) ?_
      exact va_forget (fun q hq => hw.2.2.2.2 q hq) (W.widen (by omega) (by omega) (lw_ret hx hb hret hlk d_L_758))
    have h6 : 6 * k + 6 ≤ L := by
      refine Nat.not_lt.mp (fun z => hlt (Int32.lt_iff_toInt_lt.mpr ?_))
      rw [nI_toInt (by omega)]
      show (nI L - nI 6).toInt < _
      rw [e1]
      omega
    have kk := fun σ' na' ta' M' H' locs' cells' slots' => kk σ' na' ta' M' H' locs' cells' slots' h6
    refine x_scr0 hx hb hX hbl hbA hw.2.2 (by omega) hL hl rfl rfl d_L_27 d_L_28 d_L_29 ?_
    refine lv_bipush (v := 31) hx hb d_L_30 (by decide) ?_
    refine lv_iand hx hb d_L_32 ?_
    generalize xs (6 * k) &&& 31 = v
    by_cases hv : v.toInt < 0 ∨ 17 < v.toInt
    · exact lv_tableOut (tgt := 751) hx hb d_L_33 hv rfl (kk σ na ta M H locs cells slots h.up)
    have hv : v.toInt = 0 ∨ v.toInt = 1 ∨ v.toInt = 2 ∨ v.toInt = 3 ∨ v.toInt = 4 ∨ v.toInt = 5 ∨ v.toInt = 6 ∨ v.toInt = 7 ∨ v.toInt = 8 ∨ v.toInt = 9 ∨ v.toInt = 10 ∨ v.toInt = 11 ∨ v.toInt = 12 ∨ v.toInt = 13 ∨ v.toInt = 14 ∨ v.toInt = 15 ∨ v.toInt = 16 ∨ v.toInt = 17 := by omega
    rcases hv with hv | hv | hv | hv | hv | hv | hv | hv | hv | hv | hv | hv | hv | hv | hv | hv | hv | hv
    · exact lv_tableIn (off := 87) (tgt := 120) hx hb d_L_33 (by rw [hv]; decide) (by rw [hv]; decide) (by rw [hv]; rfl) rfl (lw_c0 X (by omega) h hl kk)
    · exact lv_tableIn (off := 110) (tgt := 143) hx hb d_L_33 (by rw [hv]; decide) (by rw [hv]; decide) (by rw [hv]; rfl) rfl (lw_c1 X (by omega) h hl kk)
    · exact lv_tableIn (off := 169) (tgt := 202) hx hb d_L_33 (by rw [hv]; decide) (by rw [hv]; decide) (by rw [hv]; rfl) rfl (lw_c2 X (by omega) h hl kk)
    · exact lv_tableIn (off := 202) (tgt := 235) hx hb d_L_33 (by rw [hv]; decide) (by rw [hv]; decide) (by rw [hv]; rfl) rfl (lw_c3 X (by omega) h hl kk)
    · exact lv_tableIn (off := 255) (tgt := 288) hx hb d_L_33 (by rw [hv]; decide) (by rw [hv]; decide) (by rw [hv]; rfl) rfl (lw_c4 X (by omega) h hl kk)
    · exact lv_tableIn (off := 338) (tgt := 371) hx hb d_L_33 (by rw [hv]; decide) (by rw [hv]; decide) (by rw [hv]; rfl) rfl (lw_c5 X (by omega) h hl kk)
    · exact lv_tableIn (off := 361) (tgt := 394) hx hb d_L_33 (by rw [hv]; decide) (by rw [hv]; decide) (by rw [hv]; rfl) rfl (lw_c6 X (by omega) h hl kk)
    · exact lv_tableIn (off := 384) (tgt := 417) hx hb d_L_33 (by rw [hv]; decide) (by rw [hv]; decide) (by rw [hv]; rfl) rfl (lw_c7 X (by omega) h hl kk)
    · exact lv_tableIn (off := 397) (tgt := 430) hx hb d_L_33 (by rw [hv]; decide) (by rw [hv]; decide) (by rw [hv]; rfl) rfl (lw_c8 X (by omega) h hl kk)
    · exact lv_tableIn (off := 430) (tgt := 463) hx hb d_L_33 (by rw [hv]; decide) (by rw [hv]; decide) (by rw [hv]; rfl) rfl (lw_c9 X (by omega) h hl kk)
    · exact lv_tableIn (off := 464) (tgt := 497) hx hb d_L_33 (by rw [hv]; decide) (by rw [hv]; decide) (by rw [hv]; rfl) rfl (lw_c10 X (by omega) h hl kk)
    · exact lv_tableIn (off := 497) (tgt := 530) hx hb d_L_33 (by rw [hv]; decide) (by rw [hv]; decide) (by rw [hv]; rfl) rfl (lw_c11 X (by omega) h hl kk)
    · exact lv_tableIn (off := 530) (tgt := 563) hx hb d_L_33 (by rw [hv]; decide) (by rw [hv]; decide) (by rw [hv]; rfl) rfl (lw_c12 X (by omega) h hl kk)
    · exact lv_tableIn (off := 563) (tgt := 596) hx hb d_L_33 (by rw [hv]; decide) (by rw [hv]; decide) (by rw [hv]; rfl) rfl (lw_c13 X (by omega) h hl kk)
    · exact lv_tableIn (off := 596) (tgt := 629) hx hb d_L_33 (by rw [hv]; decide) (by rw [hv]; decide) (by rw [hv]; rfl) rfl (lw_c14 X (by omega) h hl kk)
    · exact lv_tableIn (off := 639) (tgt := 672) hx hb d_L_33 (by rw [hv]; decide) (by rw [hv]; decide) (by rw [hv]; rfl) rfl (lw_c15 X (by omega) h hl kk)
    · exact lv_tableIn (off := 672) (tgt := 705) hx hb d_L_33 (by rw [hv]; decide) (by rw [hv]; decide) (by rw [hv]; rfl) rfl (lw_c16 X (by omega) h hl kk)
    · exact lv_tableIn (off := 685) (tgt := 718) hx hb d_L_33 (by rw [hv]; decide) (by rw [hv]; decide) (by rw [hv]; rfl) rfl (lw_c17 X (by omega) h hl kk)
set_option maxHeartbeats 1000000 in
set_option maxRecDepth 100000 in
theorem whole_start {p : Program} {e : Env} {s : State} {m : MethodId} {below : List Frame} {meth : Method} {c : Code} (l : Launch) {b L : Nat} {xs : Nat → Int32} (hL : L ≤ 3072) (C0 : lw_At p s m meth c b L xs) : W p l e room_1 s m #[Value.ref b] below meth c s.heap [] 0 0 (lw_Z below #[Value.ref b] s) (entryFrame m ([Value.ref b] : List Value).toArray 4) := by
  obtain ⟨hx, hb, hret, hml, hown, hts, hX, hbl, hlk, hg⟩ := C0
  obtain ⟨E, hE⟩ := en_start hts hg
  have hW : ∀ w ∈ WALL, w.before #[Value.ref b] s = true := fun w h => hts w (WALL_in w h)
  have hA : ∀ q, s.heap.size ≤ q → (fun q => s.heap.size ≤ q) q := fun q h => h
  have hbA : ¬ (fun q => s.heap.size ≤ q) b := fun z => absurd hbl (Nat.not_lt.mpr z)
  have hcl : (Cond.constantLong "TreeRevisionsLaw" 33 4294967295).before #[Value.ref b] s = true := hts _ (lt4 73 rfl)
  have X : LX p s m c b L xs E (fun q => s.heap.size ≤ q) := ⟨⟨hx, hb, hml, hown, hW⟩, hE, hA, hX, hbl, hbA, hcl, hL⟩
  have hK := hE.1
  have hl := lh_entry [Value.ref b] (n := 4) (Nat.le_of_ble_eq_true rfl)
  rw [show lh_e [Value.ref b] ++ List.replicate (4 - (lg_sl [Value.ref b]).length) none = [some (Value.ref b), none, none, none] from rfl] at hl
  rw [lg_entry_eq]
  generalize (lg_sl [Value.ref b] ++ List.replicate (4 - (lg_sl [Value.ref b]).length) Slot.unset).toArray = ls at hl ⊢
  have hw : mw E.1 vwCl (fun q => s.heap.size ≤ q) s.heap (fun _ => none) s.heap [] := ⟨fun a e h => (by cases h), fun a h => absurd rfl h, va_S.rf⟩
  refine m_new (fs := [.null, .null, .null, .null, .int 0, .int 0]) hx hb hW hown hK hw hA ci_T (wm1 19 rfl rfl) (wm1 20 rfl rfl) (wm1 1 rfl rfl) (fun j hj => by rcases (show j = 0 ∨ j = 1 ∨ j = 2 ∨ j = 3 ∨ j = 4 ∨ j = 5 by omega) with rfl | rfl | rfl | rfl | rfl | rfl <;> rfl) (Nat.le_of_ble_eq_true rfl) (Nat.le_of_ble_eq_true rfl) d_L_0 (fun q1 H hq1 hw => ?_)
  refine lv_dup hx hb d_L_3 rfl ?_
  refine m_callv (k_I ⟨hx, hb, hml, hown, hW⟩ hE hA hw (c_T_init mp_up_s) (wm1 21 rfl rfl) (wm1 22 rfl rfl) (wm1 1 rfl rfl) (wm1 23 rfl rfl) rfl rfl rfl ar_T_init ⟨Nat.le_of_ble_eq_true rfl, Nat.le_of_ble_eq_true rfl⟩ rfl hl.1 rfl (Nat.le_of_ble_eq_true rfl) d_L_4 ⟨by show 0 + 1 + 46 ≤ 600000; omega, by show 0 + 6 + 2437 ≤ 7302250; omega⟩) hw (mfr_in hw hA) (fun M1 H locs hP1 hw => ?_)
  obtain ⟨ca, na, ta, hca, hPic⟩ := hP1
  rw [← hca]
  refine x_astore_n hx hb d_L_7 hl (Nat.le_of_ble_eq_true rfl) (lh_k (i := 0) rfl lk_r) (fun ls hl => ?_)
  refine m_new (fs := [.null, .int 0, .null, .null, .int 0, .int 0, .null, .null, .null, .null, .null, .null, .null, .null, .null, .null, .int 0, .null, .null, .null, .null]) hx hb hW hown hK hw hA ci_M (wm3 66 rfl rfl) (wm3 67 rfl rfl) (wm1 9 rfl rfl) (fun j hj => by match j, hj with
    | 0, _ => rfl
    | 1, _ => rfl
    | 2, _ => rfl
    | 3, _ => rfl
    | 4, _ => rfl
    | 5, _ => rfl
    | 6, _ => rfl
    | 7, _ => rfl
    | 8, _ => rfl
    | 9, _ => rfl
    | 10, _ => rfl
    | 11, _ => rfl
    | 12, _ => rfl
    | 13, _ => rfl
    | 14, _ => rfl
    | 15, _ => rfl
    | 16, _ => rfl
    | 17, _ => rfl
    | 18, _ => rfl
    | 19, _ => rfl
    | 20, _ => rfl
    | j + 21, hj => exact absurd hj (by omega)) (Nat.le_of_ble_eq_true rfl) (Nat.le_of_ble_eq_true rfl) d_L_8 (fun q2 H hq2 hw => ?_)
  have hwS : mw E.1 vwCl (fun q => s.heap.size ≤ q) s.heap (mp_up (fun _ => none) q2 (.inr (8, [.null, .int 0, .null, .null, .int 0, .int 0, .null, .null, .null, .null, .null, .null, .null, .null, .null, .null, .int 0, .null, .null, .null, .null]))) H locs := mw_sub hw (fun q e h => by
    by_cases hq : q = q2
    · subst hq; rw [mp_up_s] at h ⊢; exact h
    · rw [mp_up_n hq] at h; cases h)
  have hwM : mw E.1 vwCl (fun q => s.heap.size ≤ q) s.heap M1 H locs := mw_sub hw (fun q e h => by
    have hq : q ≠ q2 := fun z => by subst z; rw [hq2] at h; cases h
    rw [mp_up_n hq]; exact h)
  have hd : mdj (mp_up (fun _ => none) q2 (.inr (8, [.null, .int 0, .null, .null, .int 0, .int 0, .null, .null, .null, .null, .null, .null, .null, .null, .null, .null, .int 0, .null, .null, .null, .null]))) M1 := fun q hq => by
    have hq' : q ≠ q2 := fun z => by subst z; exact hq hq2
    rw [mp_up_n hq']
  refine lv_dup hx hb d_L_11 rfl ?_
  refine f_callv (k_I ⟨hx, hb, hml, hown, hW⟩ hE hA hwS (c_M_init mp_up_s) (wm3 68 rfl rfl) (wm3 69 rfl rfl) (wm1 9 rfl rfl) (wm3 70 rfl rfl) rfl rfl rfl ar_M_init ⟨Nat.le_of_ble_eq_true rfl, Nat.le_of_ble_eq_true rfl⟩ rfl hl.1 rfl (Nat.le_of_ble_eq_true rfl) d_L_12 ⟨by show 0 + 1 + 46 + 1 + 17 ≤ 600000; omega, by show 0 + 6 + 2437 + 21 + 17429 ≤ 7302250; omega⟩) hwS hA hwM hd (fun M2 H locs hP2 hw2 hw hd => ?_)
  obtain ⟨ad, had, hJ, hcells⟩ := hP2
  rw [← had]
  have hsub : ∀ q e, rfM E σ0 ad q = some e → M2 q = some e := fun q e h => by
    obtain ⟨i, hi, he⟩ := rf_ex h
    rw [← hi]
    exact hcells i e he
  have hw2 := mw_sub hw2 hsub
  have hd : mdj M1 (rfM E σ0 ad) := fun q hq => by
    cases hm : rfM E σ0 ad q with
    | none => exact absurd hm hq
    | some e =>
      have h2 : M2 q ≠ none := by rw [hsub q e hm]; exact fun z => by cases z
      cases h1 : M1 q with
      | none => rfl
      | some e1 => exact absurd (hd q (by rw [h1]; exact fun z => by cases z)) h2
  refine x_astore_n hx hb d_L_15 hl (Nat.le_of_ble_eq_true rfl) (lh_k (i := 1) rfl lk_r) (fun ls hl => ?_)
  refine lv_iconst (v := nI 0) hx hb d_L_16 (by decide) ?_
  refine x_istore_n hx hb d_L_17 hl (Nat.le_of_ble_eq_true rfl) (lh_k (i := 2) rfl lk_r) (fun ls hl => ?_)
  obtain ⟨i1, i2, i3⟩ := inv_0
  exact lw_loop hret hlk X 512 0 σ0 na ta M1 H locs _ _ ls (by omega) (Nat.zero_le _) ⟨hPic, i1, rB_0, i2, Nat.le_of_eq i3, hJ, hw, hw2, hd, Nat.le_trans (Nat.le_of_ble_eq_true rfl) (Nat.le_add_right 100 _), Nat.le_trans (Nat.le_of_ble_eq_true rfl) (Nat.le_add_right 30000 _)⟩ hl
