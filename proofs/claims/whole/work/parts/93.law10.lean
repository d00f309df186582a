theorem d_L_718 : decode code 718 = .ok (.aload_n 1, 1) := by decide +kernel
theorem d_L_719 : decode code 719 = .ok (.aload_n 0, 1) := by decide +kernel
theorem d_L_720 : decode code 720 = .ok (.iload_n 3, 1) := by decide +kernel
theorem d_L_721 : decode code 721 = .ok (.iconst 1, 1) := by decide +kernel
theorem d_L_722 : decode code 722 = .ok (.iadd, 1) := by decide +kernel
theorem d_L_723 : decode code 723 = .ok (.iaload, 1) := by decide +kernel
theorem d_L_724 : decode code 724 = .ok (.aload_n 0, 1) := by decide +kernel
theorem d_L_725 : decode code 725 = .ok (.iload_n 3, 1) := by decide +kernel
theorem d_L_726 : decode code 726 = .ok (.iconst 2, 1) := by decide +kernel
theorem d_L_727 : decode code 727 = .ok (.iadd, 1) := by decide +kernel
theorem d_L_728 : decode code 728 = .ok (.iaload, 1) := by decide +kernel
theorem d_L_729 : decode code 729 = .ok (.invokevirtual 93, 3) := by decide +kernel
theorem d_L_732 : decode code 732 = .ok (.aload_n 2, 1) := by decide +kernel
theorem d_L_733 : decode code 733 = .ok (.aload_n 0, 1) := by decide +kernel
theorem d_L_734 : decode code 734 = .ok (.iload_n 3, 1) := by decide +kernel
theorem d_L_735 : decode code 735 = .ok (.iconst 1, 1) := by decide +kernel
theorem d_L_736 : decode code 736 = .ok (.iadd, 1) := by decide +kernel
theorem d_L_737 : decode code 737 = .ok (.iaload, 1) := by decide +kernel
theorem d_L_738 : decode code 738 = .ok (.aload_n 0, 1) := by decide +kernel
theorem d_L_739 : decode code 739 = .ok (.iload_n 3, 1) := by decide +kernel
theorem d_L_740 : decode code 740 = .ok (.iconst 2, 1) := by decide +kernel
theorem d_L_741 : decode code 741 = .ok (.iadd, 1) := by decide +kernel
theorem d_L_742 : decode code 742 = .ok (.iaload, 1) := by decide +kernel
theorem d_L_743 : decode code 743 = .ok (.invokevirtual 96, 3) := by decide +kernel
theorem d_L_746 : decode code 746 = .ok (.if_icmp .eq 5, 3) := by decide +kernel
theorem d_L_749 : decode code 749 = .ok (.iconst 0, 1) := by decide +kernel
theorem d_L_750 : decode code 750 = .ok (.ireturn, 1) := by decide +kernel
set_option maxHeartbeats 1000000 in
set_option maxRecDepth 100000 in
theorem lw_c17 {p : Program} {l : Launch} {e : Env} {s : State} {m : MethodId} {below : List Frame} {meth : Method} {c : Code} {H : Heap} {locs : List Loc} {cells slots : Nat} {Q : State → Prop} {ls : Array Slot} {A : Nat → Prop} {b L k : Nat} {xs : Nat → Int32} {E : Ev} {σ : SS} {ca na ta ad : Nat → Nat} {M : mp_M} (X : LX p s m c b L xs E A) (hk : 6 * k + 6 ≤ L) (h : LI E A s.heap k σ ca na ta ad M H locs cells slots) (hl : lh ls [some (.ref b), some (.ref (ca 0)), some (.ref (ad 0)), some (.int (nI (6 * k)))])
    (kk : ∀ (σ' : SS) (na' ta' : Nat → Nat) (M' : mp_M) (H' : Heap) (locs' : List Loc) (cells' slots' : Nat), LI E A s.heap (k + 1) σ' ca na' ta' ad M' H' locs' cells' slots' → W p l e room_1 s m #[Value.ref b] below meth c H' locs' cells' slots' Q (F0 m 751 ls [])) : W p l e room_1 s m #[Value.ref b] below meth c H locs cells slots Q (F0 m 718 ls []) := by
  obtain ⟨⟨hx, hb, hml, hown, hts⟩, hE, hA, hX, hbl, hbA, hcl, hL⟩ := X
  obtain ⟨hP, hI, hB, hPT, hCW, hJ, hw, hw2, hd, hcc, hss⟩ := h
  have hy := inv_y hI
  have hpt := PT_le (σ := σ)
  have hN : ∀ j, σ 0 j < 1300 := fun j => by have := hI.1.1 j; omega
  refine x_aload_n hx hb d_L_718 hl rfl ?_
  refine x_scr 1 hx hb hX hbl hbA hw.2.2 (by omega) hL hl rfl rfl d_L_719 d_L_720 d_L_721 rfl d_L_722 d_L_723 ?_
  refine x_scr 2 hx hb hX hbl hbA hw.2.2 (by omega) hL hl rfl rfl d_L_724 d_L_725 d_L_726 rfl d_L_727 d_L_728 ?_
  refine f_calli (k_V ⟨hx, hb, hml, hown, hts⟩ hE hA hw (c_T_stored hP hI.2.2.2.2.1) (ci_T).1 rfl (pic_o hP) (wm3 62 rfl rfl) (wm3 63 rfl rfl) (wm3 64 rfl rfl) (wm1 1 rfl rfl) (wm3 65 rfl rfl) rfl rfl ar_T_stored ⟨Nat.le_of_ble_eq_true rfl, Nat.le_of_ble_eq_true rfl⟩ rfl hl.1 rfl (Nat.le_of_ble_eq_true rfl) d_L_729 ⟨by show cells + 0 ≤ 600000; omega, by show slots + 0 ≤ 7302250; omega⟩) hw hA hw2 hd (fun r1 M1 H locs hP1 hw hw2 hd => ?_)
  obtain ⟨hr1, hM1⟩ := hP1
  rw [hM1] at hw hd
  refine x_aload_n hx hb d_L_732 hl rfl ?_
  refine x_scr 1 hx hb hX hbl hbA hw.2.2 (by omega) hL hl rfl rfl d_L_733 d_L_734 d_L_735 rfl d_L_736 d_L_737 ?_
  refine x_scr 2 hx hb hX hbl hbA hw.2.2 (by omega) hL hl rfl rfl d_L_738 d_L_739 d_L_740 rfl d_L_741 d_L_742 ?_
  refine f_calli (k_V ⟨hx, hb, hml, hown, hts⟩ hE hA hw2 (c_M_stored hJ hB hI.2.2.2.2.1.1 (fun k => (hI.2.2.2.2.1.2 k).1) (fun k => by have := (hI.2.2.2.2.1.2 k).2.1; omega) (fun k => by have := (hI.2.2.2.2.1.2 k).2.2.2.1; have := hI.2.2.2.2.1.1; omega)) (ci_M).1 rfl (rf_at hJ 0 (by decide) rfl) (wm4 59 rfl rfl) (wm4 60 rfl rfl) (wm4 61 rfl rfl) (wm1 9 rfl rfl) (wm4 62 rfl rfl) rfl rfl ar_M_stored ⟨Nat.le_of_ble_eq_true rfl, Nat.le_of_ble_eq_true rfl⟩ rfl hl.1 rfl (Nat.le_of_ble_eq_true rfl) d_L_743 ⟨by show cells + 0 + 0 ≤ 600000; omega, by show slots + 0 + 0 ≤ 7302250; omega⟩) hw2 hA hw hd.symm (fun r2 M2 H locs hP2 hw2 hw hd => ?_)
  obtain ⟨hr2, hM2⟩ := hP2
  rw [hM2] at hw2 hd
  refine lv_icmp_eq (tgt := 751) hx hb d_L_746 rfl (fun _ => ?_) (fun hne => absurd (hr1.trans hr2.symm) hne)
  exact kk σ na ta M H locs _ _ ⟨hP, hI, hB, by omega, by omega, hJ, hw, hw2, hd.symm, by omega, by omega⟩
