theorem d_L_563 : decode code 563 = .ok (.aload_n 1, 1) := by decide +kernel
theorem d_L_564 : decode code 564 = .ok (.aload_n 0, 1) := by decide +kernel
theorem d_L_565 : decode code 565 = .ok (.iload_n 3, 1) := by decide +kernel
theorem d_L_566 : decode code 566 = .ok (.iconst 1, 1) := by decide +kernel
theorem d_L_567 : decode code 567 = .ok (.iadd, 1) := by decide +kernel
theorem d_L_568 : decode code 568 = .ok (.iaload, 1) := by decide +kernel
theorem d_L_569 : decode code 569 = .ok (.aload_n 0, 1) := by decide +kernel
theorem d_L_570 : decode code 570 = .ok (.iload_n 3, 1) := by decide +kernel
theorem d_L_571 : decode code 571 = .ok (.iconst 2, 1) := by decide +kernel
theorem d_L_572 : decode code 572 = .ok (.iadd, 1) := by decide +kernel
theorem d_L_573 : decode code 573 = .ok (.iaload, 1) := by decide +kernel
theorem d_L_574 : decode code 574 = .ok (.invokevirtual 72, 3) := by decide +kernel
theorem d_L_577 : decode code 577 = .ok (.aload_n 2, 1) := by decide +kernel
theorem d_L_578 : decode code 578 = .ok (.aload_n 0, 1) := by decide +kernel
theorem d_L_579 : decode code 579 = .ok (.iload_n 3, 1) := by decide +kernel
theorem d_L_580 : decode code 580 = .ok (.iconst 1, 1) := by decide +kernel
theorem d_L_581 : decode code 581 = .ok (.iadd, 1) := by decide +kernel
theorem d_L_582 : decode code 582 = .ok (.iaload, 1) := by decide +kernel
theorem d_L_583 : decode code 583 = .ok (.aload_n 0, 1) := by decide +kernel
theorem d_L_584 : decode code 584 = .ok (.iload_n 3, 1) := by decide +kernel
theorem d_L_585 : decode code 585 = .ok (.iconst 2, 1) := by decide +kernel
theorem d_L_586 : decode code 586 = .ok (.iadd, 1) := by decide +kernel
theorem d_L_587 : decode code 587 = .ok (.iaload, 1) := by decide +kernel
theorem d_L_588 : decode code 588 = .ok (.invokevirtual 75, 3) := by decide +kernel
theorem d_L_591 : decode code 591 = .ok (.if_icmp .eq 160, 3) := by decide +kernel
theorem d_L_594 : decode code 594 = .ok (.iconst 0, 1) := by decide +kernel
theorem d_L_595 : decode code 595 = .ok (.ireturn, 1) := by decide +kernel
theorem d_L_596 : decode code 596 = .ok (.aload_n 1, 1) := by decide +kernel
theorem d_L_597 : decode code 597 = .ok (.aload_n 0, 1) := by decide +kernel
theorem d_L_598 : decode code 598 = .ok (.iload_n 3, 1) := by decide +kernel
theorem d_L_599 : decode code 599 = .ok (.iconst 1, 1) := by decide +kernel
theorem d_L_600 : decode code 600 = .ok (.iadd, 1) := by decide +kernel
theorem d_L_601 : decode code 601 = .ok (.iaload, 1) := by decide +kernel
theorem d_L_602 : decode code 602 = .ok (.aload_n 0, 1) := by decide +kernel
theorem d_L_603 : decode code 603 = .ok (.iload_n 3, 1) := by decide +kernel
theorem d_L_604 : decode code 604 = .ok (.iconst 2, 1) := by decide +kernel
theorem d_L_605 : decode code 605 = .ok (.iadd, 1) := by decide +kernel
theorem d_L_606 : decode code 606 = .ok (.iaload, 1) := by decide +kernel
theorem d_L_607 : decode code 607 = .ok (.invokevirtual 76, 3) := by decide +kernel
theorem d_L_610 : decode code 610 = .ok (.aload_n 2, 1) := by decide +kernel
theorem d_L_611 : decode code 611 = .ok (.aload_n 0, 1) := by decide +kernel
theorem d_L_612 : decode code 612 = .ok (.iload_n 3, 1) := by decide +kernel
theorem d_L_613 : decode code 613 = .ok (.iconst 1, 1) := by decide +kernel
theorem d_L_614 : decode code 614 = .ok (.iadd, 1) := by decide +kernel
theorem d_L_615 : decode code 615 = .ok (.iaload, 1) := by decide +kernel
theorem d_L_616 : decode code 616 = .ok (.aload_n 0, 1) := by decide +kernel
theorem d_L_617 : decode code 617 = .ok (.iload_n 3, 1) := by decide +kernel
theorem d_L_618 : decode code 618 = .ok (.iconst 2, 1) := by decide +kernel
theorem d_L_619 : decode code 619 = .ok (.iadd, 1) := by decide +kernel
theorem d_L_620 : decode code 620 = .ok (.iaload, 1) := by decide +kernel
theorem d_L_621 : decode code 621 = .ok (.invokevirtual 79, 3) := by decide +kernel
theorem d_L_624 : decode code 624 = .ok (.if_icmp .eq 127, 3) := by decide +kernel
theorem d_L_627 : decode code 627 = .ok (.iconst 0, 1) := by decide +kernel
theorem d_L_628 : decode code 628 = .ok (.ireturn, 1) := by decide +kernel
set_option maxHeartbeats 1000000 in
set_option maxRecDepth 100000 in
theorem lw_c12 {p : Program} {l : Launch} {e : Env} {s : State} {m : MethodId} {below : List Frame} {meth : Method} {c : Code} {H : Heap} {locs : List Loc} {cells slots : Nat} {Q : State → Prop} {ls : Array Slot} {A : Nat → Prop} {b L k : Nat} {xs : Nat → Int32} {E : Ev} {σ : SS} {ca na ta ad : Nat → Nat} {M : mp_M} (X : LX p s m c b L xs E A) (hk : 6 * k + 6 ≤ L) (h : LI E A s.heap k σ ca na ta ad M H locs cells slots) (hl : lh ls [some (.ref b), some (.ref (ca 0)), some (.ref (ad 0)), some (.int (nI (6 * k)))])
    (kk : ∀ (σ' : SS) (na' ta' : Nat → Nat) (M' : mp_M) (H' : Heap) (locs' : List Loc) (cells' slots' : Nat), LI E A s.heap (k + 1) σ' ca na' ta' ad M' H' locs' cells' slots' → W p l e room_1 s m #[Value.ref b] below meth c H' locs' cells' slots' Q (F0 m 751 ls [])) : W p l e room_1 s m #[Value.ref b] below meth c H locs cells slots Q (F0 m 563 ls []) := by
  obtain ⟨⟨hx, hb, hml, hown, hts⟩, hE, hA, hX, hbl, hbA, hcl, hL⟩ := X
  obtain ⟨hP, hI, hB, hPT, hCW, hJ, hw, hw2, hd, hcc, hss⟩ := h
  have hy := inv_y hI
  have hpt := PT_le (σ := σ)
  have hN : ∀ j, σ 0 j < 1300 := fun j => by have := hI.1.1 j; omega
  refine x_aload_n hx hb d_L_563 hl rfl ?_
  refine x_scr 1 hx hb hX hbl hbA hw.2.2 (by omega) hL hl rfl rfl d_L_564 d_L_565 d_L_566 rfl d_L_567 d_L_568 ?_
  refine x_scr 2 hx hb hX hbl hbA hw.2.2 (by omega) hL hl rfl rfl d_L_569 d_L_570 d_L_571 rfl d_L_572 d_L_573 ?_
  refine f_calli (k_V ⟨hx, hb, hml, hown, hts⟩ hE hA hw (c_T_count hP hI (by omega)) (ci_T).1 rfl (pic_o hP) (wm3 31 rfl rfl) (wm3 32 rfl rfl) (wm3 33 rfl rfl) (wm1 1 rfl rfl) (wm3 34 rfl rfl) rfl rfl ar_T_count ⟨Nat.le_of_ble_eq_true rfl, Nat.le_of_ble_eq_true rfl⟩ rfl hl.1 rfl (Nat.le_of_ble_eq_true rfl) d_L_574 ⟨by show cells + 0 ≤ 600000; omega, by show slots + 0 ≤ 7302250; omega⟩) hw hA hw2 hd (fun r1 M1 H locs hP1 hw hw2 hd => ?_)
  obtain ⟨hr1, hM1⟩ := hP1
  rw [hM1] at hw hd
  refine x_aload_n hx hb d_L_577 hl rfl ?_
  refine x_scr 1 hx hb hX hbl hbA hw.2.2 (by omega) hL hl rfl rfl d_L_578 d_L_579 d_L_580 rfl d_L_581 d_L_582 ?_
  refine x_scr 2 hx hb hX hbl hbA hw.2.2 (by omega) hL hl rfl rfl d_L_583 d_L_584 d_L_585 rfl d_L_586 d_L_587 ?_
  refine f_calli (k_V ⟨hx, hb, hml, hown, hts⟩ hE hA hw2 (c_M_count hJ hB hy hN) (ci_M).1 rfl (rf_at hJ 0 (by decide) rfl) (wm4 35 rfl rfl) (wm4 36 rfl rfl) (wm4 37 rfl rfl) (wm1 9 rfl rfl) (wm4 38 rfl rfl) rfl rfl ar_M_count ⟨Nat.le_of_ble_eq_true rfl, Nat.le_of_ble_eq_true rfl⟩ rfl hl.1 rfl (Nat.le_of_ble_eq_true rfl) d_L_588 ⟨by show cells + 0 + 0 ≤ 600000; omega, by show slots + 0 + 0 ≤ 7302250; omega⟩) hw2 hA hw hd.symm (fun r2 M2 H locs hP2 hw2 hw hd => ?_)
  obtain ⟨hr2, hM2⟩ := hP2
  rw [hM2] at hw2 hd
  refine lv_icmp_eq (tgt := 751) hx hb d_L_591 rfl (fun _ => ?_) (fun hne => absurd (hr1.trans hr2.symm) hne)
  exact kk σ na ta M H locs _ _ ⟨hP, hI, hB, by omega, by omega, hJ, hw, hw2, hd.symm, by omega, by omega⟩
set_option maxHeartbeats 1000000 in
set_option maxRecDepth 100000 in
theorem lw_c13 {p : Program} {l : Launch} {e : Env} {s : State} {m : MethodId} {below : List Frame} {meth : Method} {c : Code} {H : Heap} {locs : List Loc} {cells slots : Nat} {Q : State → Prop} {ls : Array Slot} {A : Nat → Prop} {b L k : Nat} {xs : Nat → Int32} {E : Ev} {σ : SS} {ca na ta ad : Nat → Nat} {M : mp_M} (X : LX p s m c b L xs E A) (hk : 6 * k + 6 ≤ L) (h : LI E A s.heap k σ ca na ta ad M H locs cells slots) (hl : lh ls [some (.ref b), some (.ref (ca 0)), some (.ref (ad 0)), some (.int (nI (6 * k)))])
    (kk : ∀ (σ' : SS) (na' ta' : Nat → Nat) (M' : mp_M) (H' : Heap) (locs' : List Loc) (cells' slots' : Nat), LI E A s.heap (k + 1) σ' ca na' ta' ad M' H' locs' cells' slots' → W p l e room_1 s m #[Value.ref b] below meth c H' locs' cells' slots' Q (F0 m 751 ls [])) : W p l e room_1 s m #[Value.ref b] below meth c H locs cells slots Q (F0 m 596 ls []) := by
  obtain ⟨⟨hx, hb, hml, hown, hts⟩, hE, hA, hX, hbl, hbA, hcl, hL⟩ := X
  obtain ⟨hP, hI, hB, hPT, hCW, hJ, hw, hw2, hd, hcc, hss⟩ := h
  have hy := inv_y hI
  have hpt := PT_le (σ := σ)
  have hN : ∀ j, σ 0 j < 1300 := fun j => by have := hI.1.1 j; omega
  refine x_aload_n hx hb d_L_596 hl rfl ?_
  refine x_scr 1 hx hb hX hbl hbA hw.2.2 (by omega) hL hl rfl rfl d_L_597 d_L_598 d_L_599 rfl d_L_600 d_L_601 ?_
  refine x_scr 2 hx hb hX hbl hbA hw.2.2 (by omega) hL hl rfl rfl d_L_602 d_L_603 d_L_604 rfl d_L_605 d_L_606 ?_
  refine f_calli (k_V ⟨hx, hb, hml, hown, hts⟩ hE hA hw (c_T_created hP hI (by omega)) (ci_T).1 rfl (pic_o hP) (wm3 35 rfl rfl) (wm3 36 rfl rfl) (wm3 37 rfl rfl) (wm1 1 rfl rfl) (wm3 38 rfl rfl) rfl rfl ar_T_created ⟨Nat.le_of_ble_eq_true rfl, Nat.le_of_ble_eq_true rfl⟩ rfl hl.1 rfl (Nat.le_of_ble_eq_true rfl) d_L_607 ⟨by show cells + 0 ≤ 600000; omega, by show slots + 0 ≤ 7302250; omega⟩) hw hA hw2 hd (fun r1 M1 H locs hP1 hw hw2 hd => ?_)
  obtain ⟨hr1, hM1⟩ := hP1
  rw [hM1] at hw hd
  refine x_aload_n hx hb d_L_610 hl rfl ?_
  refine x_scr 1 hx hb hX hbl hbA hw.2.2 (by omega) hL hl rfl rfl d_L_611 d_L_612 d_L_613 rfl d_L_614 d_L_615 ?_
  refine x_scr 2 hx hb hX hbl hbA hw.2.2 (by omega) hL hl rfl rfl d_L_616 d_L_617 d_L_618 rfl d_L_619 d_L_620 ?_
  refine f_calli (k_V ⟨hx, hb, hml, hown, hts⟩ hE hA hw2 (c_M_created hJ hB hy hN (inv_b9 hI)) (ci_M).1 rfl (rf_at hJ 0 (by decide) rfl) (wm4 39 rfl rfl) (wm4 40 rfl rfl) (wm4 41 rfl rfl) (wm1 9 rfl rfl) (wm4 42 rfl rfl) rfl rfl ar_M_created ⟨Nat.le_of_ble_eq_true rfl, Nat.le_of_ble_eq_true rfl⟩ rfl hl.1 rfl (Nat.le_of_ble_eq_true rfl) d_L_621 ⟨by show cells + 0 + 0 ≤ 600000; omega, by show slots + 0 + 0 ≤ 7302250; omega⟩) hw2 hA hw hd.symm (fun r2 M2 H locs hP2 hw2 hw hd => ?_)
  obtain ⟨hr2, hM2⟩ := hP2
  rw [hM2] at hw2 hd
  refine lv_icmp_eq (tgt := 751) hx hb d_L_624 rfl (fun _ => ?_) (fun hne => absurd (hr1.trans hr2.symm) hne)
  exact kk σ na ta M H locs _ _ ⟨hP, hI, hB, by omega, by omega, hJ, hw, hw2, hd.symm, by omega, by omega⟩
