theorem d_L_497 : decode code 497 = .ok (.aload_n 1, 1) := by decide +kernel
theorem d_L_498 : decode code 498 = .ok (.aload_n 0, 1) := by decide +kernel
theorem d_L_499 : decode code 499 = .ok (.iload_n 3, 1) := by decide +kernel
theorem d_L_500 : decode code 500 = .ok (.iconst 1, 1) := by decide +kernel
theorem d_L_501 : decode code 501 = .ok (.iadd, 1) := by decide +kernel
theorem d_L_502 : decode code 502 = .ok (.iaload, 1) := by decide +kernel
theorem d_L_503 : decode code 503 = .ok (.aload_n 0, 1) := by decide +kernel
theorem d_L_504 : decode code 504 = .ok (.iload_n 3, 1) := by decide +kernel
theorem d_L_505 : decode code 505 = .ok (.iconst 2, 1) := by decide +kernel
theorem d_L_506 : decode code 506 = .ok (.iadd, 1) := by decide +kernel
theorem d_L_507 : decode code 507 = .ok (.iaload, 1) := by decide +kernel
theorem d_L_508 : decode code 508 = .ok (.invokevirtual 64, 3) := by decide +kernel
theorem d_L_511 : decode code 511 = .ok (.aload_n 2, 1) := by decide +kernel
theorem d_L_512 : decode code 512 = .ok (.aload_n 0, 1) := by decide +kernel
theorem d_L_513 : decode code 513 = .ok (.iload_n 3, 1) := by decide +kernel
theorem d_L_514 : decode code 514 = .ok (.iconst 1, 1) := by decide +kernel
theorem d_L_515 : decode code 515 = .ok (.iadd, 1) := by decide +kernel
theorem d_L_516 : decode code 516 = .ok (.iaload, 1) := by decide +kernel
theorem d_L_517 : decode code 517 = .ok (.aload_n 0, 1) := by decide +kernel
theorem d_L_518 : decode code 518 = .ok (.iload_n 3, 1) := by decide +kernel
theorem d_L_519 : decode code 519 = .ok (.iconst 2, 1) := by decide +kernel
theorem d_L_520 : decode code 520 = .ok (.iadd, 1) := by decide +kernel
theorem d_L_521 : decode code 521 = .ok (.iaload, 1) := by decide +kernel
theorem d_L_522 : decode code 522 = .ok (.invokevirtual 67, 3) := by decide +kernel
theorem d_L_525 : decode code 525 = .ok (.if_icmp .eq 226, 3) := by decide +kernel
theorem d_L_528 : decode code 528 = .ok (.iconst 0, 1) := by decide +kernel
theorem d_L_529 : decode code 529 = .ok (.ireturn, 1) := by decide +kernel
theorem d_L_530 : decode code 530 = .ok (.aload_n 1, 1) := by decide +kernel
theorem d_L_531 : decode code 531 = .ok (.aload_n 0, 1) := by decide +kernel
theorem d_L_532 : decode code 532 = .ok (.iload_n 3, 1) := by decide +kernel
theorem d_L_533 : decode code 533 = .ok (.iconst 1, 1) := by decide +kernel
theorem d_L_534 : decode code 534 = .ok (.iadd, 1) := by decide +kernel
theorem d_L_535 : decode code 535 = .ok (.iaload, 1) := by decide +kernel
theorem d_L_536 : decode code 536 = .ok (.aload_n 0, 1) := by decide +kernel
theorem d_L_537 : decode code 537 = .ok (.iload_n 3, 1) := by decide +kernel
theorem d_L_538 : decode code 538 = .ok (.iconst 2, 1) := by decide +kernel
theorem d_L_539 : decode code 539 = .ok (.iadd, 1) := by decide +kernel
theorem d_L_540 : decode code 540 = .ok (.iaload, 1) := by decide +kernel
theorem d_L_541 : decode code 541 = .ok (.invokevirtual 68, 3) := by decide +kernel
theorem d_L_544 : decode code 544 = .ok (.aload_n 2, 1) := by decide +kernel
theorem d_L_545 : decode code 545 = .ok (.aload_n 0, 1) := by decide +kernel
theorem d_L_546 : decode code 546 = .ok (.iload_n 3, 1) := by decide +kernel
theorem d_L_547 : decode code 547 = .ok (.iconst 1, 1) := by decide +kernel
theorem d_L_548 : decode code 548 = .ok (.iadd, 1) := by decide +kernel
theorem d_L_549 : decode code 549 = .ok (.iaload, 1) := by decide +kernel
theorem d_L_550 : decode code 550 = .ok (.aload_n 0, 1) := by decide +kernel
theorem d_L_551 : decode code 551 = .ok (.iload_n 3, 1) := by decide +kernel
theorem d_L_552 : decode code 552 = .ok (.iconst 2, 1) := by decide +kernel
theorem d_L_553 : decode code 553 = .ok (.iadd, 1) := by decide +kernel
theorem d_L_554 : decode code 554 = .ok (.iaload, 1) := by decide +kernel
theorem d_L_555 : decode code 555 = .ok (.invokevirtual 71, 3) := by decide +kernel
theorem d_L_558 : decode code 558 = .ok (.if_icmp .eq 193, 3) := by decide +kernel
theorem d_L_561 : decode code 561 = .ok (.iconst 0, 1) := by decide +kernel
theorem d_L_562 : decode code 562 = .ok (.ireturn, 1) := by decide +kernel
set_option maxHeartbeats 1000000 in
set_option maxRecDepth 100000 in
theorem lw_c10 {p : Program} {l : Launch} {e : Env} {s : State} {m : MethodId} {below : List Frame} {meth : Method} {c : Code} {H : Heap} {locs : List Loc} {cells slots : Nat} {Q : State → Prop} {ls : Array Slot} {A : Nat → Prop} {b L k : Nat} {xs : Nat → Int32} {E : Ev} {σ : SS} {ca na ta ad : Nat → Nat} {M : mp_M} (X : LX p s m c b L xs E A) (hk : 6 * k + 6 ≤ L) (h : LI E A s.heap k σ ca na ta ad M H locs cells slots) (hl : lh ls [some (.ref b), some (.ref (ca 0)), some (.ref (ad 0)), some (.int (nI (6 * k)))])
    (kk : ∀ (σ' : SS) (na' ta' : Nat → Nat) (M' : mp_M) (H' : Heap) (locs' : List Loc) (cells' slots' : Nat), LI E A s.heap (k + 1) σ' ca na' ta' ad M' H' locs' cells' slots' → W p l e room_1 s m #[Value.ref b] below meth c H' locs' cells' slots' Q (F0 m 751 ls [])) : W p l e room_1 s m #[Value.ref b] below meth c H locs cells slots Q (F0 m 497 ls []) := by
  obtain ⟨⟨hx, hb, hml, hown, hts⟩, hE, hA, hX, hbl, hbA, hcl, hL⟩ := X
  obtain ⟨hP, hI, hB, hPT, hCW, hJ, hw, hw2, hd, hcc, hss⟩ := h
  have hy := inv_y hI
  have hpt := PT_le (σ := σ)
  have hN : ∀ j, σ 0 j < 1300 := fun j => by have := hI.1.1 j; omega
  refine x_aload_n hx hb d_L_497 hl rfl ?_
  refine x_scr 1 hx hb hX hbl hbA hw.2.2 (by omega) hL hl rfl rfl d_L_498 d_L_499 d_L_500 rfl d_L_501 d_L_502 ?_
  refine x_scr 2 hx hb hX hbl hbA hw.2.2 (by omega) hL hl rfl rfl d_L_503 d_L_504 d_L_505 rfl d_L_506 d_L_507 ?_
  refine f_calli (k_V ⟨hx, hb, hml, hown, hts⟩ hE hA hw (c_T_length hP hI (by omega)) (ci_T).1 rfl (pic_o hP) (wm3 23 rfl rfl) (wm3 24 rfl rfl) (wm3 25 rfl rfl) (wm1 1 rfl rfl) (wm3 26 rfl rfl) rfl rfl ar_T_length ⟨Nat.le_of_ble_eq_true rfl, Nat.le_of_ble_eq_true rfl⟩ rfl hl.1 rfl (Nat.le_of_ble_eq_true rfl) d_L_508 ⟨by show cells + 0 ≤ 600000; omega, by show slots + 0 ≤ 7302250; omega⟩) hw hA hw2 hd (fun r1 M1 H locs hP1 hw hw2 hd => ?_)
  obtain ⟨hr1, hM1⟩ := hP1
  rw [hM1] at hw hd
  refine x_aload_n hx hb d_L_511 hl rfl ?_
  refine x_scr 1 hx hb hX hbl hbA hw.2.2 (by omega) hL hl rfl rfl d_L_512 d_L_513 d_L_514 rfl d_L_515 d_L_516 ?_
  refine x_scr 2 hx hb hX hbl hbA hw.2.2 (by omega) hL hl rfl rfl d_L_517 d_L_518 d_L_519 rfl d_L_520 d_L_521 ?_
  refine f_calli (k_V ⟨hx, hb, hml, hown, hts⟩ hE hA hw2 (c_M_length hJ hB hy hN) (ci_M).1 rfl (rf_at hJ 0 (by decide) rfl) (wm4 27 rfl rfl) (wm4 28 rfl rfl) (wm4 29 rfl rfl) (wm1 9 rfl rfl) (wm4 30 rfl rfl) rfl rfl ar_M_length ⟨Nat.le_of_ble_eq_true rfl, Nat.le_of_ble_eq_true rfl⟩ rfl hl.1 rfl (Nat.le_of_ble_eq_true rfl) d_L_522 ⟨by show cells + 0 + 0 ≤ 600000; omega, by show slots + 0 + 0 ≤ 7302250; omega⟩) hw2 hA hw hd.symm (fun r2 M2 H locs hP2 hw2 hw hd => ?_)
  obtain ⟨hr2, hM2⟩ := hP2
  rw [hM2] at hw2 hd
  refine lv_icmp_eq (tgt := 751) hx hb d_L_525 rfl (fun _ => ?_) (fun hne => absurd (hr1.trans hr2.symm) hne)
  exact kk σ na ta M H locs _ _ ⟨hP, hI, hB, by omega, by omega, hJ, hw, hw2, hd.symm, by omega, by omega⟩
set_option maxHeartbeats 1000000 in
set_option maxRecDepth 100000 in
theorem lw_c11 {p : Program} {l : Launch} {e : Env} {s : State} {m : MethodId} {below : List Frame} {meth : Method} {c : Code} {H : Heap} {locs : List Loc} {cells slots : Nat} {Q : State → Prop} {ls : Array Slot} {A : Nat → Prop} {b L k : Nat} {xs : Nat → Int32} {E : Ev} {σ : SS} {ca na ta ad : Nat → Nat} {M : mp_M} (X : LX p s m c b L xs E A) (hk : 6 * k + 6 ≤ L) (h : LI E A s.heap k σ ca na ta ad M H locs cells slots) (hl : lh ls [some (.ref b), some (.ref (ca 0)), some (.ref (ad 0)), some (.int (nI (6 * k)))])
    (kk : ∀ (σ' : SS) (na' ta' : Nat → Nat) (M' : mp_M) (H' : Heap) (locs' : List Loc) (cells' slots' : Nat), LI E A s.heap (k + 1) σ' ca na' ta' ad M' H' locs' cells' slots' → W p l e room_1 s m #[Value.ref b] below meth c H' locs' cells' slots' Q (F0 m 751 ls [])) : W p l e room_1 s m #[Value.ref b] below meth c H locs cells slots Q (F0 m 530 ls []) := by
  obtain ⟨⟨hx, hb, hml, hown, hts⟩, hE, hA, hX, hbl, hbA, hcl, hL⟩ := X
  obtain ⟨hP, hI, hB, hPT, hCW, hJ, hw, hw2, hd, hcc, hss⟩ := h
  have hy := inv_y hI
  have hpt := PT_le (σ := σ)
  have hN : ∀ j, σ 0 j < 1300 := fun j => by have := hI.1.1 j; omega
  refine x_aload_n hx hb d_L_530 hl rfl ?_
  refine x_scr 1 hx hb hX hbl hbA hw.2.2 (by omega) hL hl rfl rfl d_L_531 d_L_532 d_L_533 rfl d_L_534 d_L_535 ?_
  refine x_scr 2 hx hb hX hbl hbA hw.2.2 (by omega) hL hl rfl rfl d_L_536 d_L_537 d_L_538 rfl d_L_539 d_L_540 ?_
  refine f_calli (k_V ⟨hx, hb, hml, hown, hts⟩ hE hA hw (c_T_line hP hI (by omega)) (ci_T).1 rfl (pic_o hP) (wm3 27 rfl rfl) (wm3 28 rfl rfl) (wm3 29 rfl rfl) (wm1 1 rfl rfl) (wm3 30 rfl rfl) rfl rfl ar_T_line ⟨Nat.le_of_ble_eq_true rfl, Nat.le_of_ble_eq_true rfl⟩ rfl hl.1 rfl (Nat.le_of_ble_eq_true rfl) d_L_541 ⟨by show cells + 0 ≤ 600000; omega, by show slots + 0 ≤ 7302250; omega⟩) hw hA hw2 hd (fun r1 M1 H locs hP1 hw hw2 hd => ?_)
  obtain ⟨hr1, hM1⟩ := hP1
  rw [hM1] at hw hd
  refine x_aload_n hx hb d_L_544 hl rfl ?_
  refine x_scr 1 hx hb hX hbl hbA hw.2.2 (by omega) hL hl rfl rfl d_L_545 d_L_546 d_L_547 rfl d_L_548 d_L_549 ?_
  refine x_scr 2 hx hb hX hbl hbA hw.2.2 (by omega) hL hl rfl rfl d_L_550 d_L_551 d_L_552 rfl d_L_553 d_L_554 ?_
  refine f_calli (k_V ⟨hx, hb, hml, hown, hts⟩ hE hA hw2 (c_M_line hJ hB hy hN) (ci_M).1 rfl (rf_at hJ 0 (by decide) rfl) (wm4 31 rfl rfl) (wm4 32 rfl rfl) (wm4 33 rfl rfl) (wm1 9 rfl rfl) (wm4 34 rfl rfl) rfl rfl ar_M_line ⟨Nat.le_of_ble_eq_true rfl, Nat.le_of_ble_eq_true rfl⟩ rfl hl.1 rfl (Nat.le_of_ble_eq_true rfl) d_L_555 ⟨by show cells + 0 + 0 ≤ 600000; omega, by show slots + 0 + 0 ≤ 7302250; omega⟩) hw2 hA hw hd.symm (fun r2 M2 H locs hP2 hw2 hw hd => ?_)
  obtain ⟨hr2, hM2⟩ := hP2
  rw [hM2] at hw2 hd
  refine lv_icmp_eq (tgt := 751) hx hb d_L_558 rfl (fun _ => ?_) (fun hne => absurd (hr1.trans hr2.symm) hne)
  exact kk σ na ta M H locs _ _ ⟨hP, hI, hB, by omega, by omega, hJ, hw, hw2, hd.symm, by omega, by omega⟩
