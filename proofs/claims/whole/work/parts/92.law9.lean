theorem d_L_672 : decode code 672 = .ok (.aload_n 1, 1) := by decide +kernel
theorem d_L_673 : decode code 673 = .ok (.aload_n 0, 1) := by decide +kernel
theorem d_L_674 : decode code 674 = .ok (.iload_n 3, 1) := by decide +kernel
theorem d_L_675 : decode code 675 = .ok (.iconst 1, 1) := by decide +kernel
theorem d_L_676 : decode code 676 = .ok (.iadd, 1) := by decide +kernel
theorem d_L_677 : decode code 677 = .ok (.iaload, 1) := by decide +kernel
theorem d_L_678 : decode code 678 = .ok (.aload_n 0, 1) := by decide +kernel
theorem d_L_679 : decode code 679 = .ok (.iload_n 3, 1) := by decide +kernel
theorem d_L_680 : decode code 680 = .ok (.iconst 2, 1) := by decide +kernel
theorem d_L_681 : decode code 681 = .ok (.iadd, 1) := by decide +kernel
theorem d_L_682 : decode code 682 = .ok (.iaload, 1) := by decide +kernel
theorem d_L_683 : decode code 683 = .ok (.invokevirtual 85, 3) := by decide +kernel
theorem d_L_686 : decode code 686 = .ok (.aload_n 2, 1) := by decide +kernel
theorem d_L_687 : decode code 687 = .ok (.aload_n 0, 1) := by decide +kernel
theorem d_L_688 : decode code 688 = .ok (.iload_n 3, 1) := by decide +kernel
theorem d_L_689 : decode code 689 = .ok (.iconst 1, 1) := by decide +kernel
theorem d_L_690 : decode code 690 = .ok (.iadd, 1) := by decide +kernel
theorem d_L_691 : decode code 691 = .ok (.iaload, 1) := by decide +kernel
theorem d_L_692 : decode code 692 = .ok (.aload_n 0, 1) := by decide +kernel
theorem d_L_693 : decode code 693 = .ok (.iload_n 3, 1) := by decide +kernel
theorem d_L_694 : decode code 694 = .ok (.iconst 2, 1) := by decide +kernel
theorem d_L_695 : decode code 695 = .ok (.iadd, 1) := by decide +kernel
theorem d_L_696 : decode code 696 = .ok (.iaload, 1) := by decide +kernel
theorem d_L_697 : decode code 697 = .ok (.invokevirtual 88, 3) := by decide +kernel
theorem d_L_700 : decode code 700 = .ok (.if_icmp .eq 51, 3) := by decide +kernel
theorem d_L_703 : decode code 703 = .ok (.iconst 0, 1) := by decide +kernel
theorem d_L_704 : decode code 704 = .ok (.ireturn, 1) := by decide +kernel
theorem d_L_705 : decode code 705 = .ok (.aload_n 1, 1) := by decide +kernel
theorem d_L_706 : decode code 706 = .ok (.invokevirtual 89, 3) := by decide +kernel
theorem d_L_709 : decode code 709 = .ok (.aload_n 2, 1) := by decide +kernel
theorem d_L_710 : decode code 710 = .ok (.invokevirtual 92, 3) := by decide +kernel
theorem d_L_713 : decode code 713 = .ok (.if_icmp .eq 38, 3) := by decide +kernel
theorem d_L_716 : decode code 716 = .ok (.iconst 0, 1) := by decide +kernel
theorem d_L_717 : decode code 717 = .ok (.ireturn, 1) := by decide +kernel
set_option maxHeartbeats 1000000 in
set_option maxRecDepth 100000 in
theorem lw_c15 {p : Program} {l : Launch} {e : Env} {s : State} {m : MethodId} {below : List Frame} {meth : Method} {c : Code} {H : Heap} {locs : List Loc} {cells slots : Nat} {Q : State → Prop} {ls : Array Slot} {A : Nat → Prop} {b L k : Nat} {xs : Nat → Int32} {E : Ev} {σ : SS} {ca na ta ad : Nat → Nat} {M : mp_M} (X : LX p s m c b L xs E A) (hk : 6 * k + 6 ≤ L) (h : LI E A s.heap k σ ca na ta ad M H locs cells slots) (hl : lh ls [some (.ref b), some (.ref (ca 0)), some (.ref (ad 0)), some (.int (nI (6 * k)))])
    (kk : ∀ (σ' : SS) (na' ta' : Nat → Nat) (M' : mp_M) (H' : Heap) (locs' : List Loc) (cells' slots' : Nat), LI E A s.heap (k + 1) σ' ca na' ta' ad M' H' locs' cells' slots' → W p l e room_1 s m #[Value.ref b] below meth c H' locs' cells' slots' Q (F0 m 751 ls [])) : W p l e room_1 s m #[Value.ref b] below meth c H locs cells slots Q (F0 m 672 ls []) := by
  obtain ⟨⟨hx, hb, hml, hown, hts⟩, hE, hA, hX, hbl, hbA, hcl, hL⟩ := X
  obtain ⟨hP, hI, hB, hPT, hCW, hJ, hw, hw2, hd, hcc, hss⟩ := h
  have hy := inv_y hI
  have hpt := PT_le (σ := σ)
  have hN : ∀ j, σ 0 j < 1300 := fun j => by have := hI.1.1 j; omega
  refine x_aload_n hx hb d_L_672 hl rfl ?_
  refine x_scr 1 hx hb hX hbl hbA hw.2.2 (by omega) hL hl rfl rfl d_L_673 d_L_674 d_L_675 rfl d_L_676 d_L_677 ?_
  refine x_scr 2 hx hb hX hbl hbA hw.2.2 (by omega) hL hl rfl rfl d_L_678 d_L_679 d_L_680 rfl d_L_681 d_L_682 ?_
  refine f_calli (k_V ⟨hx, hb, hml, hown, hts⟩ hE hA hw (c_T_rep hP hI (by omega)) (ci_T).1 rfl (pic_o hP) (wm3 54 rfl rfl) (wm3 55 rfl rfl) (wm3 56 rfl rfl) (wm1 1 rfl rfl) (wm3 57 rfl rfl) rfl rfl ar_T_representation ⟨Nat.le_of_ble_eq_true rfl, Nat.le_of_ble_eq_true rfl⟩ rfl hl.1 rfl (Nat.le_of_ble_eq_true rfl) d_L_683 ⟨by show cells + 0 ≤ 600000; omega, by show slots + 0 ≤ 7302250; omega⟩) hw hA hw2 hd (fun r1 M1 H locs hP1 hw hw2 hd => ?_)
  obtain ⟨hr1, hM1⟩ := hP1
  rw [hM1] at hw hd
  refine x_aload_n hx hb d_L_686 hl rfl ?_
  refine x_scr 1 hx hb hX hbl hbA hw.2.2 (by omega) hL hl rfl rfl d_L_687 d_L_688 d_L_689 rfl d_L_690 d_L_691 ?_
  refine x_scr 2 hx hb hX hbl hbA hw.2.2 (by omega) hL hl rfl rfl d_L_692 d_L_693 d_L_694 rfl d_L_695 d_L_696 ?_
  refine f_calli (k_V ⟨hx, hb, hml, hown, hts⟩ hE hA hw2 (c_M_rep hJ hB hy hN) (ci_M).1 rfl (rf_at hJ 0 (by decide) rfl) (wm4 51 rfl rfl) (wm4 52 rfl rfl) (wm4 53 rfl rfl) (wm1 9 rfl rfl) (wm4 54 rfl rfl) rfl rfl ar_M_representation ⟨Nat.le_of_ble_eq_true rfl, Nat.le_of_ble_eq_true rfl⟩ rfl hl.1 rfl (Nat.le_of_ble_eq_true rfl) d_L_697 ⟨by show cells + 0 + 0 ≤ 600000; omega, by show slots + 0 + 0 ≤ 7302250; omega⟩) hw2 hA hw hd.symm (fun r2 M2 H locs hP2 hw2 hw hd => ?_)
  obtain ⟨hr2, hM2⟩ := hP2
  rw [hM2] at hw2 hd
  refine lv_icmp_eq (tgt := 751) hx hb d_L_700 rfl (fun _ => ?_) (fun hne => absurd (hr1.trans hr2.symm) hne)
  exact kk σ na ta M H locs _ _ ⟨hP, hI, hB, by omega, by omega, hJ, hw, hw2, hd.symm, by omega, by omega⟩
set_option maxHeartbeats 1000000 in
set_option maxRecDepth 100000 in
theorem lw_c16 {p : Program} {l : Launch} {e : Env} {s : State} {m : MethodId} {below : List Frame} {meth : Method} {c : Code} {H : Heap} {locs : List Loc} {cells slots : Nat} {Q : State → Prop} {ls : Array Slot} {A : Nat → Prop} {b L k : Nat} {xs : Nat → Int32} {E : Ev} {σ : SS} {ca na ta ad : Nat → Nat} {M : mp_M} (X : LX p s m c b L xs E A) (hk : 6 * k + 6 ≤ L) (h : LI E A s.heap k σ ca na ta ad M H locs cells slots) (hl : lh ls [some (.ref b), some (.ref (ca 0)), some (.ref (ad 0)), some (.int (nI (6 * k)))])
    (kk : ∀ (σ' : SS) (na' ta' : Nat → Nat) (M' : mp_M) (H' : Heap) (locs' : List Loc) (cells' slots' : Nat), LI E A s.heap (k + 1) σ' ca na' ta' ad M' H' locs' cells' slots' → W p l e room_1 s m #[Value.ref b] below meth c H' locs' cells' slots' Q (F0 m 751 ls [])) : W p l e room_1 s m #[Value.ref b] below meth c H locs cells slots Q (F0 m 705 ls []) := by
  obtain ⟨⟨hx, hb, hml, hown, hts⟩, hE, hA, hX, hbl, hbA, hcl, hL⟩ := X
  obtain ⟨hP, hI, hB, hPT, hCW, hJ, hw, hw2, hd, hcc, hss⟩ := h
  have hy := inv_y hI
  have hpt := PT_le (σ := σ)
  have hN : ∀ j, σ 0 j < 1300 := fun j => by have := hI.1.1 j; omega
  refine x_aload_n hx hb d_L_705 hl rfl ?_
  refine f_calli (k_V ⟨hx, hb, hml, hown, hts⟩ hE hA hw (c_T_reps hP) (ci_T).1 rfl (pic_o hP) (wm3 58 rfl rfl) (wm3 59 rfl rfl) (wm3 60 rfl rfl) (wm1 1 rfl rfl) (wm3 61 rfl rfl) rfl rfl ar_T_representations ⟨Nat.le_of_ble_eq_true rfl, Nat.le_of_ble_eq_true rfl⟩ rfl hl.1 rfl (Nat.le_of_ble_eq_true rfl) d_L_706 ⟨by show cells + 0 ≤ 600000; omega, by show slots + 0 ≤ 7302250; omega⟩) hw hA hw2 hd (fun r1 M1 H locs hP1 hw hw2 hd => ?_)
  obtain ⟨hr1, hM1⟩ := hP1
  rw [hM1] at hw hd
  refine x_aload_n hx hb d_L_709 hl rfl ?_
  refine f_calli (k_V ⟨hx, hb, hml, hown, hts⟩ hE hA hw2 (c_M_reps hJ hB) (ci_M).1 rfl (rf_at hJ 0 (by decide) rfl) (wm4 55 rfl rfl) (wm4 56 rfl rfl) (wm4 57 rfl rfl) (wm1 9 rfl rfl) (wm4 58 rfl rfl) rfl rfl ar_M_representations ⟨Nat.le_of_ble_eq_true rfl, Nat.le_of_ble_eq_true rfl⟩ rfl hl.1 rfl (Nat.le_of_ble_eq_true rfl) d_L_710 ⟨by show cells + 0 + 0 ≤ 600000; omega, by show slots + 0 + 0 ≤ 7302250; omega⟩) hw2 hA hw hd.symm (fun r2 M2 H locs hP2 hw2 hw hd => ?_)
  obtain ⟨hr2, hM2⟩ := hP2
  rw [hM2] at hw2 hd
  refine lv_icmp_eq (tgt := 751) hx hb d_L_713 rfl (fun _ => ?_) (fun hne => absurd (hr1.trans hr2.symm) hne)
  exact kk σ na ta M H locs _ _ ⟨hP, hI, hB, by omega, by omega, hJ, hw, hw2, hd.symm, by omega, by omega⟩
