theorem d_L_629 : decode code 629 = .ok (.aload_n 1, 1) := by decide +kernel
theorem d_L_630 : decode code 630 = .ok (.aload_n 0, 1) := by decide +kernel
theorem d_L_631 : decode code 631 = .ok (.iload_n 3, 1) := by decide +kernel
theorem d_L_632 : decode code 632 = .ok (.iconst 1, 1) := by decide +kernel
theorem d_L_633 : decode code 633 = .ok (.iadd, 1) := by decide +kernel
theorem d_L_634 : decode code 634 = .ok (.iaload, 1) := by decide +kernel
theorem d_L_635 : decode code 635 = .ok (.aload_n 0, 1) := by decide +kernel
theorem d_L_636 : decode code 636 = .ok (.iload_n 3, 1) := by decide +kernel
theorem d_L_637 : decode code 637 = .ok (.iconst 2, 1) := by decide +kernel
theorem d_L_638 : decode code 638 = .ok (.iadd, 1) := by decide +kernel
theorem d_L_639 : decode code 639 = .ok (.iaload, 1) := by decide +kernel
theorem d_L_640 : decode code 640 = .ok (.aload_n 0, 1) := by decide +kernel
theorem d_L_641 : decode code 641 = .ok (.iload_n 3, 1) := by decide +kernel
theorem d_L_642 : decode code 642 = .ok (.iconst 3, 1) := by decide +kernel
theorem d_L_643 : decode code 643 = .ok (.iadd, 1) := by decide +kernel
theorem d_L_644 : decode code 644 = .ok (.iaload, 1) := by decide +kernel
theorem d_L_645 : decode code 645 = .ok (.invokevirtual 80, 3) := by decide +kernel
theorem d_L_648 : decode code 648 = .ok (.aload_n 2, 1) := by decide +kernel
theorem d_L_649 : decode code 649 = .ok (.aload_n 0, 1) := by decide +kernel
theorem d_L_650 : decode code 650 = .ok (.iload_n 3, 1) := by decide +kernel
theorem d_L_651 : decode code 651 = .ok (.iconst 1, 1) := by decide +kernel
theorem d_L_652 : decode code 652 = .ok (.iadd, 1) := by decide +kernel
theorem d_L_653 : decode code 653 = .ok (.iaload, 1) := by decide +kernel
theorem d_L_654 : decode code 654 = .ok (.aload_n 0, 1) := by decide +kernel
theorem d_L_655 : decode code 655 = .ok (.iload_n 3, 1) := by decide +kernel
theorem d_L_656 : decode code 656 = .ok (.iconst 2, 1) := by decide +kernel
theorem d_L_657 : decode code 657 = .ok (.iadd, 1) := by decide +kernel
theorem d_L_658 : decode code 658 = .ok (.iaload, 1) := by decide +kernel
theorem d_L_659 : decode code 659 = .ok (.aload_n 0, 1) := by decide +kernel
theorem d_L_660 : decode code 660 = .ok (.iload_n 3, 1) := by decide +kernel
theorem d_L_661 : decode code 661 = .ok (.iconst 3, 1) := by decide +kernel
theorem d_L_662 : decode code 662 = .ok (.iadd, 1) := by decide +kernel
theorem d_L_663 : decode code 663 = .ok (.iaload, 1) := by decide +kernel
theorem d_L_664 : decode code 664 = .ok (.invokevirtual 84, 3) := by decide +kernel
theorem d_L_667 : decode code 667 = .ok (.if_icmp .eq 84, 3) := by decide +kernel
theorem d_L_670 : decode code 670 = .ok (.iconst 0, 1) := by decide +kernel
theorem d_L_671 : decode code 671 = .ok (.ireturn, 1) := by decide +kernel
set_option maxHeartbeats 1000000 in
set_option maxRecDepth 100000 in
theorem lw_c14 {p : Program} {l : Launch} {e : Env} {s : State} {m : MethodId} {below : List Frame} {meth : Method} {c : Code} {H : Heap} {locs : List Loc} {cells slots : Nat} {Q : State → Prop} {ls : Array Slot} {A : Nat → Prop} {b L k : Nat} {xs : Nat → Int32} {E : Ev} {σ : SS} {ca na ta ad : Nat → Nat} {M : mp_M} (X : LX p s m c b L xs E A) (hk : 6 * k + 6 ≤ L) (h : LI E A s.heap k σ ca na ta ad M H locs cells slots) (hl : lh ls [some (.ref b), some (.ref (ca 0)), some (.ref (ad 0)), some (.int (nI (6 * k)))])
    (kk : ∀ (σ' : SS) (na' ta' : Nat → Nat) (M' : mp_M) (H' : Heap) (locs' : List Loc) (cells' slots' : Nat), LI E A s.heap (k + 1) σ' ca na' ta' ad M' H' locs' cells' slots' → W p l e room_1 s m #[Value.ref b] below meth c H' locs' cells' slots' Q (F0 m 751 ls [])) : W p l e room_1 s m #[Value.ref b] below meth c H locs cells slots Q (F0 m 629 ls []) := by
  obtain ⟨⟨hx, hb, hml, hown, hts⟩, hE, hA, hX, hbl, hbA, hcl, hL⟩ := X
  obtain ⟨hP, hI, hB, hPT, hCW, hJ, hw, hw2, hd, hcc, hss⟩ := h
  have hy := inv_y hI
  have hpt := PT_le (σ := σ)
  have hN : ∀ j, σ 0 j < 1300 := fun j => by have := hI.1.1 j; omega
  refine x_aload_n hx hb d_L_629 hl rfl ?_
  refine x_scr 1 hx hb hX hbl hbA hw.2.2 (by omega) hL hl rfl rfl d_L_630 d_L_631 d_L_632 rfl d_L_633 d_L_634 ?_
  refine x_scr 2 hx hb hX hbl hbA hw.2.2 (by omega) hL hl rfl rfl d_L_635 d_L_636 d_L_637 rfl d_L_638 d_L_639 ?_
  refine x_scr 3 hx hb hX hbl hbA hw.2.2 (by omega) hL hl rfl rfl d_L_640 d_L_641 d_L_642 rfl d_L_643 d_L_644 ?_
  refine f_calli (k_V ⟨hx, hb, hml, hown, hts⟩ hE hA hw (c_T_locate hP hI (by omega)) (ci_T).1 rfl (pic_o hP) (wm3 39 rfl rfl) (wm3 40 rfl rfl) (wm3 41 rfl rfl) (wm1 1 rfl rfl) (wm3 42 rfl rfl) rfl rfl ar_T_locate ⟨Nat.le_of_ble_eq_true rfl, Nat.le_of_ble_eq_true rfl⟩ rfl hl.1 rfl (Nat.le_of_ble_eq_true rfl) d_L_645 ⟨by show cells + 0 ≤ 600000; omega, by show slots + 0 ≤ 7302250; omega⟩) hw hA hw2 hd (fun r1 M1 H locs hP1 hw hw2 hd => ?_)
  obtain ⟨hr1, hM1⟩ := hP1
  rw [hM1] at hw hd
  refine x_aload_n hx hb d_L_648 hl rfl ?_
  refine x_scr 1 hx hb hX hbl hbA hw.2.2 (by omega) hL hl rfl rfl d_L_649 d_L_650 d_L_651 rfl d_L_652 d_L_653 ?_
  refine x_scr 2 hx hb hX hbl hbA hw.2.2 (by omega) hL hl rfl rfl d_L_654 d_L_655 d_L_656 rfl d_L_657 d_L_658 ?_
  refine x_scr 3 hx hb hX hbl hbA hw.2.2 (by omega) hL hl rfl rfl d_L_659 d_L_660 d_L_661 rfl d_L_662 d_L_663 ?_
  refine f_calli (k_V ⟨hx, hb, hml, hown, hts⟩ hE hA hw2 (c_M_locate hJ hB hy hN (inv_b9 hI) (sq_le hI)) (ci_M).1 rfl (rf_at hJ 0 (by decide) rfl) (wm4 43 rfl rfl) (wm4 44 rfl rfl) (wm4 45 rfl rfl) (wm1 9 rfl rfl) (wm4 46 rfl rfl) rfl rfl ar_M_locate ⟨Nat.le_of_ble_eq_true rfl, Nat.le_of_ble_eq_true rfl⟩ rfl hl.1 rfl (Nat.le_of_ble_eq_true rfl) d_L_664 ⟨by show cells + 0 + 0 ≤ 600000; omega, by show slots + 0 + 0 ≤ 7302250; omega⟩) hw2 hA hw hd.symm (fun r2 M2 H locs hP2 hw2 hw hd => ?_)
  obtain ⟨hr2, hM2⟩ := hP2
  rw [hM2] at hw2 hd
  refine lv_icmp_eq (tgt := 751) hx hb d_L_667 rfl (fun _ => ?_) (fun hne => absurd (hr1.trans hr2.symm) hne)
  exact kk σ na ta M H locs _ _ ⟨hP, hI, hB, by omega, by omega, hJ, hw, hw2, hd.symm, by omega, by omega⟩
