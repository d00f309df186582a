theorem d_L_120 : decode code 120 = .ok (.aload_n 1, 1) := by decide +kernel
theorem d_L_121 : decode code 121 = .ok (.aload_n 0, 1) := by decide +kernel
theorem d_L_122 : decode code 122 = .ok (.iload_n 3, 1) := by decide +kernel
theorem d_L_123 : decode code 123 = .ok (.iconst 1, 1) := by decide +kernel
theorem d_L_124 : decode code 124 = .ok (.iadd, 1) := by decide +kernel
theorem d_L_125 : decode code 125 = .ok (.iaload, 1) := by decide +kernel
theorem d_L_126 : decode code 126 = .ok (.invokevirtual 13, 3) := by decide +kernel
theorem d_L_129 : decode code 129 = .ok (.aload_n 2, 1) := by decide +kernel
theorem d_L_130 : decode code 130 = .ok (.aload_n 0, 1) := by decide +kernel
theorem d_L_131 : decode code 131 = .ok (.iload_n 3, 1) := by decide +kernel
theorem d_L_132 : decode code 132 = .ok (.iconst 1, 1) := by decide +kernel
theorem d_L_133 : decode code 133 = .ok (.iadd, 1) := by decide +kernel
theorem d_L_134 : decode code 134 = .ok (.iaload, 1) := by decide +kernel
theorem d_L_135 : decode code 135 = .ok (.invokevirtual 17, 3) := by decide +kernel
theorem d_L_138 : decode code 138 = .ok (.if_icmp .eq 613, 3) := by decide +kernel
theorem d_L_141 : decode code 141 = .ok (.iconst 0, 1) := by decide +kernel
theorem d_L_142 : decode code 142 = .ok (.ireturn, 1) := by decide +kernel
theorem d_L_371 : decode code 371 = .ok (.aload_n 1, 1) := by decide +kernel
theorem d_L_372 : decode code 372 = .ok (.aload_n 0, 1) := by decide +kernel
theorem d_L_373 : decode code 373 = .ok (.iload_n 3, 1) := by decide +kernel
theorem d_L_374 : decode code 374 = .ok (.iconst 1, 1) := by decide +kernel
theorem d_L_375 : decode code 375 = .ok (.iadd, 1) := by decide +kernel
theorem d_L_376 : decode code 376 = .ok (.iaload, 1) := by decide +kernel
theorem d_L_377 : decode code 377 = .ok (.invokevirtual 40, 3) := by decide +kernel
theorem d_L_380 : decode code 380 = .ok (.aload_n 2, 1) := by decide +kernel
theorem d_L_381 : decode code 381 = .ok (.aload_n 0, 1) := by decide +kernel
theorem d_L_382 : decode code 382 = .ok (.iload_n 3, 1) := by decide +kernel
theorem d_L_383 : decode code 383 = .ok (.iconst 1, 1) := by decide +kernel
theorem d_L_384 : decode code 384 = .ok (.iadd, 1) := by decide +kernel
theorem d_L_385 : decode code 385 = .ok (.iaload, 1) := by decide +kernel
theorem d_L_386 : decode code 386 = .ok (.invokevirtual 44, 3) := by decide +kernel
theorem d_L_389 : decode code 389 = .ok (.if_icmp .eq 362, 3) := by decide +kernel
theorem d_L_392 : decode code 392 = .ok (.iconst 0, 1) := by decide +kernel
theorem d_L_393 : decode code 393 = .ok (.ireturn, 1) := by decide +kernel
set_option maxHeartbeats 1000000 in
set_option maxRecDepth 100000 in
theorem lw_c0 {p : Program} {l : Launch} {e : Env} {s : State} {m : MethodId} {below : List Frame} {meth : Method} {c : Code} {H : Heap} {locs : List Loc} {cells slots : Nat} {Q : State → Prop} {ls : Array Slot} {A : Nat → Prop} {b L k : Nat} {xs : Nat → Int32} {E : Ev} {σ : SS} {ca na ta ad : Nat → Nat} {M : mp_M} (X : LX p s m c b L xs E A) (hk : 6 * k + 6 ≤ L) (h : LI E A s.heap k σ ca na ta ad M H locs cells slots) (hl : lh ls [some (.ref b), some (.ref (ca 0)), some (.ref (ad 0)), some (.int (nI (6 * k)))])
    (kk : ∀ (σ' : SS) (na' ta' : Nat → Nat) (M' : mp_M) (H' : Heap) (locs' : List Loc) (cells' slots' : Nat), LI E A s.heap (k + 1) σ' ca na' ta' ad M' H' locs' cells' slots' → W p l e room_1 s m #[Value.ref b] below meth c H' locs' cells' slots' Q (F0 m 751 ls [])) : W p l e room_1 s m #[Value.ref b] below meth c H locs cells slots Q (F0 m 120 ls []) := by
  obtain ⟨⟨hx, hb, hml, hown, hts⟩, hE, hA, hX, hbl, hbA, hcl, hL⟩ := X
  obtain ⟨hP, hI, hB, hPT, hCW, hJ, hw, hw2, hd, hcc, hss⟩ := h
  have hy := inv_y hI
  have hpt := PT_le (σ := σ)
  have hN : ∀ j, σ 0 j < 1300 := fun j => by have := hI.1.1 j; omega
  obtain ⟨i1, i2, i3⟩ := bgO_inv (t := (tx (xs (6 * k + 1)))) hI
  have y1 : (bgO σ (tx (xs (6 * k + 1)))) 1 0 = σ 1 0 := bgO_y
  refine x_aload_n hx hb d_L_120 hl rfl ?_
  refine x_scr 1 hx hb hX hbl hbA hw.2.2 (by omega) hL hl rfl rfl d_L_121 d_L_122 d_L_123 rfl d_L_124 d_L_125 ?_
  refine f_calli (k_V ⟨hx, hb, hml, hown, hts⟩ hE hA hw (c_T_begin hP hy) (ci_T).1 rfl (pic_o hP) (wm1 179 rfl rfl) (wm1 180 rfl rfl) (wm1 181 rfl rfl) (wm1 1 rfl rfl) (wm1 182 rfl rfl) rfl rfl ar_T_begin ⟨Nat.le_of_ble_eq_true rfl, Nat.le_of_ble_eq_true rfl⟩ rfl hl.1 rfl (Nat.le_of_ble_eq_true rfl) d_L_126 ⟨by show cells + 0 ≤ 600000; omega, by show slots + 0 ≤ 7302250; omega⟩) hw hA hw2 hd (fun r1 M1 H locs hP1 hw hw2 hd => ?_)
  obtain ⟨hr1, hP1⟩ := hP1
  refine x_aload_n hx hb d_L_129 hl rfl ?_
  refine x_scr 1 hx hb hX hbl hbA hw.2.2 (by omega) hL hl rfl rfl d_L_130 d_L_131 d_L_132 rfl d_L_133 d_L_134 ?_
  refine f_calli (k_V ⟨hx, hb, hml, hown, hts⟩ hE hA hw2 (c_M_begin hJ hB hy) (ci_M).1 rfl (rf_at hJ 0 (by decide) rfl) (wm3 141 rfl rfl) (wm3 142 rfl rfl) (wm3 143 rfl rfl) (wm1 9 rfl rfl) (wm3 144 rfl rfl) rfl rfl ar_M_begin ⟨Nat.le_of_ble_eq_true rfl, Nat.le_of_ble_eq_true rfl⟩ rfl hl.1 rfl (Nat.le_of_ble_eq_true rfl) d_L_135 ⟨by show cells + 0 + 0 ≤ 600000; omega, by show slots + 0 + 0 ≤ 7302250; omega⟩) hw2 hA hw hd.symm (fun r2 M2 H locs hP2 hw2 hw hd => ?_)
  obtain ⟨hr2, hM2, hB2⟩ := hP2
  rw [hM2] at hw2 hd
  refine lv_icmp_eq (tgt := 751) hx hb d_L_138 rfl (fun _ => ?_) (fun hne => absurd (hr1.trans hr2.symm) hne)
  exact kk (bgO σ (tx (xs (6 * k + 1)))) na ta M1 H locs _ _ ⟨hP1, i1, hB2, by omega, by omega, hJ, hw, hw2, hd.symm, by omega, by omega⟩
set_option maxHeartbeats 1000000 in
set_option maxRecDepth 100000 in
theorem lw_c5 {p : Program} {l : Launch} {e : Env} {s : State} {m : MethodId} {below : List Frame} {meth : Method} {c : Code} {H : Heap} {locs : List Loc} {cells slots : Nat} {Q : State → Prop} {ls : Array Slot} {A : Nat → Prop} {b L k : Nat} {xs : Nat → Int32} {E : Ev} {σ : SS} {ca na ta ad : Nat → Nat} {M : mp_M} (X : LX p s m c b L xs E A) (hk : 6 * k + 6 ≤ L) (h : LI E A s.heap k σ ca na ta ad M H locs cells slots) (hl : lh ls [some (.ref b), some (.ref (ca 0)), some (.ref (ad 0)), some (.int (nI (6 * k)))])
    (kk : ∀ (σ' : SS) (na' ta' : Nat → Nat) (M' : mp_M) (H' : Heap) (locs' : List Loc) (cells' slots' : Nat), LI E A s.heap (k + 1) σ' ca na' ta' ad M' H' locs' cells' slots' → W p l e room_1 s m #[Value.ref b] below meth c H' locs' cells' slots' Q (F0 m 751 ls [])) : W p l e room_1 s m #[Value.ref b] below meth c H locs cells slots Q (F0 m 371 ls []) := by
  obtain ⟨⟨hx, hb, hml, hown, hts⟩, hE, hA, hX, hbl, hbA, hcl, hL⟩ := X
  obtain ⟨hP, hI, hB, hPT, hCW, hJ, hw, hw2, hd, hcc, hss⟩ := h
  have hy := inv_y hI
  have hpt := PT_le (σ := σ)
  have hN : ∀ j, σ 0 j < 1300 := fun j => by have := hI.1.1 j; omega
  obtain ⟨hMJ, hSS, i1, i2, i3⟩ := cmO_inv (t := (tx (xs (6 * k + 1)))) hI hB (by omega) (by omega)
  by_cases hsu : cmb σ (tx (xs (6 * k + 1))) = true ∧ cf σ (tx (xs (6 * k + 1))) 3 0 = 125
  · have y1 : cmO σ (tx (xs (6 * k + 1))) 1 0 = σ 1 0 + 1 := cmO_y hI (by omega) hsu.1 hsu.2
    refine x_aload_n hx hb d_L_371 hl rfl ?_
    refine x_scr 1 hx hb hX hbl hbA hw.2.2 (by omega) hL hl rfl rfl d_L_372 d_L_373 d_L_374 rfl d_L_375 d_L_376 ?_
    refine f_calli (k_V ⟨hx, hb, hml, hown, hts⟩ hE hA hw (c_T_commitA hP hI (by omega) (by omega)) (ci_T).1 rfl (pic_o hP) (wm2 50 rfl rfl) (wm2 51 rfl rfl) (wm2 52 rfl rfl) (wm1 1 rfl rfl) (wm2 53 rfl rfl) rfl rfl ar_T_commit ⟨Nat.le_of_ble_eq_true rfl, Nat.le_of_ble_eq_true rfl⟩ rfl hl.1 rfl (Nat.le_of_ble_eq_true rfl) d_L_377 ⟨by show cells + 251 ≤ 600000; omega, by show slots + 100503 ≤ 7302250; omega⟩) hw hA hw2 hd (fun r1 M1 H locs hP1 hw hw2 hd => ?_)
    obtain ⟨hr1, hP1⟩ := hP1
    refine x_aload_n hx hb d_L_380 hl rfl ?_
    refine x_scr 1 hx hb hX hbl hbA hw.2.2 (by omega) hL hl rfl rfl d_L_381 d_L_382 d_L_383 rfl d_L_384 d_L_385 ?_
    refine f_calli (k_V ⟨hx, hb, hml, hown, hts⟩ hE hA hw2 (c_M_commit hJ hB hMJ hSS) (ci_M).1 rfl (rf_at hJ 0 (by decide) rfl) (wm3 207 rfl rfl) (wm3 208 rfl rfl) (wm3 209 rfl rfl) (wm1 9 rfl rfl) (wm3 210 rfl rfl) rfl rfl ar_M_commit ⟨Nat.le_of_ble_eq_true rfl, Nat.le_of_ble_eq_true rfl⟩ rfl hl.1 rfl (Nat.le_of_ble_eq_true rfl) d_L_386 ⟨by show cells + 251 + 0 ≤ 600000; omega, by show slots + 100503 + 0 ≤ 7302250; omega⟩) hw2 hA hw hd.symm (fun r2 M2 H locs hP2 hw2 hw hd => ?_)
    obtain ⟨hr2, hM2, hB2⟩ := hP2
    rw [hM2] at hw2 hd
    refine lv_icmp_eq (tgt := 751) hx hb d_L_389 rfl (fun _ => ?_) (fun hne => absurd (hr1.trans hr2.symm) hne)
    exact kk (cmO σ (tx (xs (6 * k + 1)))) na ta M1 H locs _ _ ⟨hP1, i1, hB2, by omega, by omega, hJ, hw, hw2, hd.symm, by omega, by omega⟩
  · have y1 : cmO σ (tx (xs (6 * k + 1))) 1 0 = σ 1 0 := congrFun (congrFun (cmO_n hI hsu) 1) 0
    refine x_aload_n hx hb d_L_371 hl rfl ?_
    refine x_scr 1 hx hb hX hbl hbA hw.2.2 (by omega) hL hl rfl rfl d_L_372 d_L_373 d_L_374 rfl d_L_375 d_L_376 ?_
    refine f_calli (k_V ⟨hx, hb, hml, hown, hts⟩ hE hA hw (c_T_commitB hP hI (by omega) (fun t ht hxt hc hf => hsu (by rw [hxt, tx_n ht]; exact ⟨hc, hf⟩))) (ci_T).1 rfl (pic_o hP) (wm2 50 rfl rfl) (wm2 51 rfl rfl) (wm2 52 rfl rfl) (wm1 1 rfl rfl) (wm2 53 rfl rfl) rfl rfl ar_T_commit ⟨Nat.le_of_ble_eq_true rfl, Nat.le_of_ble_eq_true rfl⟩ rfl hl.1 rfl (Nat.le_of_ble_eq_true rfl) d_L_377 ⟨by show cells + 1 ≤ 600000; omega, by show slots + 3 ≤ 7302250; omega⟩) hw hA hw2 hd (fun r1 M1 H locs hP1 hw hw2 hd => ?_)
    obtain ⟨hr1, hP1⟩ := hP1
    refine x_aload_n hx hb d_L_380 hl rfl ?_
    refine x_scr 1 hx hb hX hbl hbA hw.2.2 (by omega) hL hl rfl rfl d_L_381 d_L_382 d_L_383 rfl d_L_384 d_L_385 ?_
    refine f_calli (k_V ⟨hx, hb, hml, hown, hts⟩ hE hA hw2 (c_M_commit hJ hB hMJ hSS) (ci_M).1 rfl (rf_at hJ 0 (by decide) rfl) (wm3 207 rfl rfl) (wm3 208 rfl rfl) (wm3 209 rfl rfl) (wm1 9 rfl rfl) (wm3 210 rfl rfl) rfl rfl ar_M_commit ⟨Nat.le_of_ble_eq_true rfl, Nat.le_of_ble_eq_true rfl⟩ rfl hl.1 rfl (Nat.le_of_ble_eq_true rfl) d_L_386 ⟨by show cells + 1 + 0 ≤ 600000; omega, by show slots + 3 + 0 ≤ 7302250; omega⟩) hw2 hA hw hd.symm (fun r2 M2 H locs hP2 hw2 hw hd => ?_)
    obtain ⟨hr2, hM2, hB2⟩ := hP2
    rw [hM2] at hw2 hd
    refine lv_icmp_eq (tgt := 751) hx hb d_L_389 rfl (fun _ => ?_) (fun hne => absurd (hr1.trans hr2.symm) hne)
    exact kk (cmO σ (tx (xs (6 * k + 1)))) na ta M1 H locs _ _ ⟨hP1, i1, hB2, by omega, by omega, hJ, hw, hw2, hd.symm, by omega, by omega⟩
