theorem d_M_begin_0 : decode prog_10_method_11_code 0 = .ok (.iload_n 1, 1) := by decide +kernel
theorem d_M_begin_1 : decode prog_10_method_11_code 1 = .ok (.ifCond .lt 17, 3) := by decide +kernel
theorem d_M_begin_4 : decode prog_10_method_11_code 4 = .ok (.iload_n 1, 1) := by decide +kernel
theorem d_M_begin_5 : decode prog_10_method_11_code 5 = .ok (.iconst 2, 1) := by decide +kernel
theorem d_M_begin_6 : decode prog_10_method_11_code 6 = .ok (.if_icmp .gt 12, 3) := by decide +kernel
theorem d_M_begin_9 : decode prog_10_method_11_code 9 = .ok (.aload_n 0, 1) := by decide +kernel
theorem d_M_begin_10 : decode prog_10_method_11_code 10 = .ok (.getfield 13, 3) := by decide +kernel
theorem d_M_begin_13 : decode prog_10_method_11_code 13 = .ok (.iload_n 1, 1) := by decide +kernel
theorem d_M_begin_14 : decode prog_10_method_11_code 14 = .ok (.baload, 1) := by decide +kernel
theorem d_M_begin_15 : decode prog_10_method_11_code 15 = .ok (.ifCond .eq 5, 3) := by decide +kernel
theorem d_M_begin_18 : decode prog_10_method_11_code 18 = .ok (.iconst 0, 1) := by decide +kernel
theorem d_M_begin_19 : decode prog_10_method_11_code 19 = .ok (.ireturn, 1) := by decide +kernel
theorem d_M_begin_20 : decode prog_10_method_11_code 20 = .ok (.aload_n 0, 1) := by decide +kernel
theorem d_M_begin_21 : decode prog_10_method_11_code 21 = .ok (.getfield 13, 3) := by decide +kernel
theorem d_M_begin_24 : decode prog_10_method_11_code 24 = .ok (.iload_n 1, 1) := by decide +kernel
theorem d_M_begin_25 : decode prog_10_method_11_code 25 = .ok (.iconst 1, 1) := by decide +kernel
theorem d_M_begin_26 : decode prog_10_method_11_code 26 = .ok (.bastore, 1) := by decide +kernel
theorem d_M_begin_27 : decode prog_10_method_11_code 27 = .ok (.aload_n 0, 1) := by decide +kernel
theorem d_M_begin_28 : decode prog_10_method_11_code 28 = .ok (.getfield 17, 3) := by decide +kernel
theorem d_M_begin_31 : decode prog_10_method_11_code 31 = .ok (.iload_n 1, 1) := by decide +kernel
theorem d_M_begin_32 : decode prog_10_method_11_code 32 = .ok (.aload_n 0, 1) := by decide +kernel
theorem d_M_begin_33 : decode prog_10_method_11_code 33 = .ok (.getfield 76, 3) := by decide +kernel
theorem d_M_begin_36 : decode prog_10_method_11_code 36 = .ok (.iastore, 1) := by decide +kernel
theorem d_M_begin_37 : decode prog_10_method_11_code 37 = .ok (.aload_n 0, 1) := by decide +kernel
theorem d_M_begin_38 : decode prog_10_method_11_code 38 = .ok (.bipush 16, 2) := by decide +kernel
theorem d_M_begin_40 : decode prog_10_method_11_code 40 = .ok (.iload_n 1, 1) := by decide +kernel
theorem d_M_begin_41 : decode prog_10_method_11_code 41 = .ok (.iadd, 1) := by decide +kernel
theorem d_M_begin_42 : decode prog_10_method_11_code 42 = .ok (.aload_n 0, 1) := by decide +kernel
theorem d_M_begin_43 : decode prog_10_method_11_code 43 = .ok (.getfield 76, 3) := by decide +kernel
theorem d_M_begin_46 : decode prog_10_method_11_code 46 = .ok (.invokevirtual 83, 3) := by decide +kernel
theorem d_M_begin_49 : decode prog_10_method_11_code 49 = .ok (.iconst 1, 1) := by decide +kernel
theorem d_M_begin_50 : decode prog_10_method_11_code 50 = .ok (.ireturn, 1) := by decide +kernel

theorem d_M_remove_0 : decode prog_10_method_17_code 0 = .ok (.aload_n 0, 1) := by decide +kernel
theorem d_M_remove_1 : decode prog_10_method_17_code 1 = .ok (.iload_n 1, 1) := by decide +kernel
theorem d_M_remove_2 : decode prog_10_method_17_code 2 = .ok (.invokevirtual 102, 3) := by decide +kernel
theorem d_M_remove_5 : decode prog_10_method_17_code 5 = .ok (.ifCond .eq 19, 3) := by decide +kernel
theorem d_M_remove_8 : decode prog_10_method_17_code 8 = .ok (.iload_n 2, 1) := by decide +kernel
theorem d_M_remove_9 : decode prog_10_method_17_code 9 = .ok (.ifCond .eq 15, 3) := by decide +kernel
theorem d_M_remove_12 : decode prog_10_method_17_code 12 = .ok (.aload_n 0, 1) := by decide +kernel
theorem d_M_remove_13 : decode prog_10_method_17_code 13 = .ok (.bipush 16, 2) := by decide +kernel
theorem d_M_remove_15 : decode prog_10_method_17_code 15 = .ok (.iload_n 1, 1) := by decide +kernel
theorem d_M_remove_16 : decode prog_10_method_17_code 16 = .ok (.iadd, 1) := by decide +kernel
theorem d_M_remove_17 : decode prog_10_method_17_code 17 = .ok (.iload_n 2, 1) := by decide +kernel
theorem d_M_remove_18 : decode prog_10_method_17_code 18 = .ok (.invokevirtual 87, 3) := by decide +kernel
theorem d_M_remove_21 : decode prog_10_method_17_code 21 = .ok (.ifCond .ne 5, 3) := by decide +kernel
theorem d_M_remove_24 : decode prog_10_method_17_code 24 = .ok (.iconst 0, 1) := by decide +kernel
theorem d_M_remove_25 : decode prog_10_method_17_code 25 = .ok (.ireturn, 1) := by decide +kernel
theorem d_M_remove_26 : decode prog_10_method_17_code 26 = .ok (.iconst 0, 1) := by decide +kernel
theorem d_M_remove_27 : decode prog_10_method_17_code 27 = .ok (.istore_n 3, 1) := by decide +kernel
theorem d_M_remove_28 : decode prog_10_method_17_code 28 = .ok (.iload_n 3, 1) := by decide +kernel
theorem d_M_remove_29 : decode prog_10_method_17_code 29 = .ok (.bipush 125, 2) := by decide +kernel
theorem d_M_remove_31 : decode prog_10_method_17_code 31 = .ok (.if_icmp .ge 24, 3) := by decide +kernel
theorem d_M_remove_34 : decode prog_10_method_17_code 34 = .ok (.iload_n 3, 1) := by decide +kernel
theorem d_M_remove_35 : decode prog_10_method_17_code 35 = .ok (.iload_n 2, 1) := by decide +kernel
theorem d_M_remove_36 : decode prog_10_method_17_code 36 = .ok (.invokestatic 115, 3) := by decide +kernel
theorem d_M_remove_39 : decode prog_10_method_17_code 39 = .ok (.ifCond .eq 10, 3) := by decide +kernel
theorem d_M_remove_42 : decode prog_10_method_17_code 42 = .ok (.aload_n 0, 1) := by decide +kernel
theorem d_M_remove_43 : decode prog_10_method_17_code 43 = .ok (.iload_n 1, 1) := by decide +kernel
theorem d_M_remove_44 : decode prog_10_method_17_code 44 = .ok (.iload_n 3, 1) := by decide +kernel
theorem d_M_remove_45 : decode prog_10_method_17_code 45 = .ok (.iconst 0, 1) := by decide +kernel
theorem d_M_remove_46 : decode prog_10_method_17_code 46 = .ok (.invokevirtual 95, 3) := by decide +kernel
theorem d_M_remove_49 : decode prog_10_method_17_code 49 = .ok (.iinc 3 1, 3) := by decide +kernel
theorem d_M_remove_52 : decode prog_10_method_17_code 52 = .ok (.goto (-24), 3) := by decide +kernel
theorem d_M_remove_55 : decode prog_10_method_17_code 55 = .ok (.aload_n 0, 1) := by decide +kernel
theorem d_M_remove_56 : decode prog_10_method_17_code 56 = .ok (.iload_n 1, 1) := by decide +kernel
theorem d_M_remove_57 : decode prog_10_method_17_code 57 = .ok (.iload_n 2, 1) := by decide +kernel
theorem d_M_remove_58 : decode prog_10_method_17_code 58 = .ok (.invokestatic 99, 3) := by decide +kernel
theorem d_M_remove_61 : decode prog_10_method_17_code 61 = .ok (.invokevirtual 112, 3) := by decide +kernel
theorem d_M_remove_64 : decode prog_10_method_17_code 64 = .ok (.iconst 1, 1) := by decide +kernel
theorem d_M_remove_65 : decode prog_10_method_17_code 65 = .ok (.ireturn, 1) := by decide +kernel

theorem d_M_representation_0 : decode prog_10_method_41_code 0 = .ok (.iload_n 1, 1) := by decide +kernel
theorem d_M_representation_1 : decode prog_10_method_41_code 1 = .ok (.ifCond .lt 11, 3) := by decide +kernel
theorem d_M_representation_4 : decode prog_10_method_41_code 4 = .ok (.iload_n 1, 1) := by decide +kernel
theorem d_M_representation_5 : decode prog_10_method_41_code 5 = .ok (.aload_n 0, 1) := by decide +kernel
theorem d_M_representation_6 : decode prog_10_method_41_code 6 = .ok (.getfield 76, 3) := by decide +kernel
theorem d_M_representation_9 : decode prog_10_method_41_code 9 = .ok (.if_icmp .le 5, 3) := by decide +kernel
theorem d_M_representation_12 : decode prog_10_method_41_code 12 = .ok (.iconst (-1), 1) := by decide +kernel
theorem d_M_representation_13 : decode prog_10_method_41_code 13 = .ok (.ireturn, 1) := by decide +kernel
theorem d_M_representation_14 : decode prog_10_method_41_code 14 = .ok (.aload_n 0, 1) := by decide +kernel
theorem d_M_representation_15 : decode prog_10_method_41_code 15 = .ok (.iload_n 1, 1) := by decide +kernel
theorem d_M_representation_16 : decode prog_10_method_41_code 16 = .ok (.iload_n 2, 1) := by decide +kernel
theorem d_M_representation_17 : decode prog_10_method_41_code 17 = .ok (.invokevirtual 87, 3) := by decide +kernel
theorem d_M_representation_20 : decode prog_10_method_41_code 20 = .ok (.istore_n 3, 1) := by decide +kernel
theorem d_M_representation_21 : decode prog_10_method_41_code 21 = .ok (.aload_n 0, 1) := by decide +kernel
theorem d_M_representation_22 : decode prog_10_method_41_code 22 = .ok (.iload_n 3, 1) := by decide +kernel
theorem d_M_representation_23 : decode prog_10_method_41_code 23 = .ok (.invokevirtual 154, 3) := by decide +kernel
theorem d_M_representation_26 : decode prog_10_method_41_code 26 = .ok (.ifCond .eq 23, 3) := by decide +kernel
theorem d_M_representation_29 : decode prog_10_method_41_code 29 = .ok (.aload_n 0, 1) := by decide +kernel
theorem d_M_representation_30 : decode prog_10_method_41_code 30 = .ok (.getfield 50, 3) := by decide +kernel
theorem d_M_representation_33 : decode prog_10_method_41_code 33 = .ok (.iload_n 3, 1) := by decide +kernel
theorem d_M_representation_34 : decode prog_10_method_41_code 34 = .ok (.saload, 1) := by decide +kernel
theorem d_M_representation_35 : decode prog_10_method_41_code 35 = .ok (.ifCond .le 14, 3) := by decide +kernel
theorem d_M_representation_38 : decode prog_10_method_41_code 38 = .ok (.aload_n 0, 1) := by decide +kernel
theorem d_M_representation_39 : decode prog_10_method_41_code 39 = .ok (.getfield 50, 3) := by decide +kernel
theorem d_M_representation_42 : decode prog_10_method_41_code 42 = .ok (.iload_n 3, 1) := by decide +kernel
theorem d_M_representation_43 : decode prog_10_method_41_code 43 = .ok (.saload, 1) := by decide +kernel
theorem d_M_representation_44 : decode prog_10_method_41_code 44 = .ok (.iconst 1, 1) := by decide +kernel
theorem d_M_representation_45 : decode prog_10_method_41_code 45 = .ok (.isub, 1) := by decide +kernel
theorem d_M_representation_46 : decode prog_10_method_41_code 46 = .ok (.goto 4, 3) := by decide +kernel
theorem d_M_representation_49 : decode prog_10_method_41_code 49 = .ok (.iconst (-1), 1) := by decide +kernel
theorem d_M_representation_50 : decode prog_10_method_41_code 50 = .ok (.ireturn, 1) := by decide +kernel

theorem d_M_write_0 : decode prog_10_method_20_code 0 = .ok (.aload_n 0, 1) := by decide +kernel
theorem d_M_write_1 : decode prog_10_method_20_code 1 = .ok (.iload_n 1, 1) := by decide +kernel
theorem d_M_write_2 : decode prog_10_method_20_code 2 = .ok (.invokevirtual 102, 3) := by decide +kernel
theorem d_M_write_5 : decode prog_10_method_20_code 5 = .ok (.ifCond .eq 45, 3) := by decide +kernel
theorem d_M_write_8 : decode prog_10_method_20_code 8 = .ok (.iload 5, 2) := by decide +kernel
theorem d_M_write_10 : decode prog_10_method_20_code 10 = .ok (.ifCond .lt 40, 3) := by decide +kernel
theorem d_M_write_13 : decode prog_10_method_20_code 13 = .ok (.iload 5, 2) := by decide +kernel
theorem d_M_write_15 : decode prog_10_method_20_code 15 = .ok (.bipush 12, 2) := by decide +kernel
theorem d_M_write_17 : decode prog_10_method_20_code 17 = .ok (.if_icmp .gt 33, 3) := by decide +kernel
theorem d_M_write_20 : decode prog_10_method_20_code 20 = .ok (.aload_n 0, 1) := by decide +kernel
theorem d_M_write_21 : decode prog_10_method_20_code 21 = .ok (.bipush 16, 2) := by decide +kernel
theorem d_M_write_23 : decode prog_10_method_20_code 23 = .ok (.iload_n 1, 1) := by decide +kernel
theorem d_M_write_24 : decode prog_10_method_20_code 24 = .ok (.iadd, 1) := by decide +kernel
theorem d_M_write_25 : decode prog_10_method_20_code 25 = .ok (.iload_n 2, 1) := by decide +kernel
theorem d_M_write_26 : decode prog_10_method_20_code 26 = .ok (.invokevirtual 87, 3) := by decide +kernel
theorem d_M_write_29 : decode prog_10_method_20_code 29 = .ok (.ifCond .eq 21, 3) := by decide +kernel
theorem d_M_write_32 : decode prog_10_method_20_code 32 = .ok (.aload_n 0, 1) := by decide +kernel
theorem d_M_write_33 : decode prog_10_method_20_code 33 = .ok (.getfield 21, 3) := by decide +kernel
theorem d_M_write_36 : decode prog_10_method_20_code 36 = .ok (.aload_n 0, 1) := by decide +kernel
theorem d_M_write_37 : decode prog_10_method_20_code 37 = .ok (.bipush 16, 2) := by decide +kernel
theorem d_M_write_39 : decode prog_10_method_20_code 39 = .ok (.iload_n 1, 1) := by decide +kernel
theorem d_M_write_40 : decode prog_10_method_20_code 40 = .ok (.iadd, 1) := by decide +kernel
theorem d_M_write_41 : decode prog_10_method_20_code 41 = .ok (.iload_n 2, 1) := by decide +kernel
theorem d_M_write_42 : decode prog_10_method_20_code 42 = .ok (.invokevirtual 87, 3) := by decide +kernel
theorem d_M_write_45 : decode prog_10_method_20_code 45 = .ok (.baload, 1) := by decide +kernel
theorem d_M_write_46 : decode prog_10_method_20_code 46 = .ok (.iconst 2, 1) := by decide +kernel
theorem d_M_write_47 : decode prog_10_method_20_code 47 = .ok (.if_icmp .eq 5, 3) := by decide +kernel
theorem d_M_write_50 : decode prog_10_method_20_code 50 = .ok (.iconst 0, 1) := by decide +kernel
theorem d_M_write_51 : decode prog_10_method_20_code 51 = .ok (.ireturn, 1) := by decide +kernel
theorem d_M_write_52 : decode prog_10_method_20_code 52 = .ok (.aload_n 0, 1) := by decide +kernel
theorem d_M_write_53 : decode prog_10_method_20_code 53 = .ok (.iload_n 1, 1) := by decide +kernel
theorem d_M_write_54 : decode prog_10_method_20_code 54 = .ok (.iload_n 2, 1) := by decide +kernel
theorem d_M_write_55 : decode prog_10_method_20_code 55 = .ok (.invokevirtual 112, 3) := by decide +kernel
theorem d_M_write_58 : decode prog_10_method_20_code 58 = .ok (.aload_n 0, 1) := by decide +kernel
theorem d_M_write_59 : decode prog_10_method_20_code 59 = .ok (.bipush 16, 2) := by decide +kernel
theorem d_M_write_61 : decode prog_10_method_20_code 61 = .ok (.iload_n 1, 1) := by decide +kernel
theorem d_M_write_62 : decode prog_10_method_20_code 62 = .ok (.iadd, 1) := by decide +kernel
theorem d_M_write_63 : decode prog_10_method_20_code 63 = .ok (.iload_n 2, 1) := by decide +kernel
theorem d_M_write_64 : decode prog_10_method_20_code 64 = .ok (.invokevirtual 87, 3) := by decide +kernel
theorem d_M_write_67 : decode prog_10_method_20_code 67 = .ok (.istore 6, 2) := by decide +kernel
theorem d_M_write_69 : decode prog_10_method_20_code 69 = .ok (.aload_n 0, 1) := by decide +kernel
theorem d_M_write_70 : decode prog_10_method_20_code 70 = .ok (.getfield 28, 3) := by decide +kernel
theorem d_M_write_73 : decode prog_10_method_20_code 73 = .ok (.iload 6, 2) := by decide +kernel
theorem d_M_write_75 : decode prog_10_method_20_code 75 = .ok (.iconst 1, 1) := by decide +kernel
theorem d_M_write_76 : decode prog_10_method_20_code 76 = .ok (.bastore, 1) := by decide +kernel
theorem d_M_write_77 : decode prog_10_method_20_code 77 = .ok (.aload_n 0, 1) := by decide +kernel
theorem d_M_write_78 : decode prog_10_method_20_code 78 = .ok (.getfield 25, 3) := by decide +kernel
theorem d_M_write_81 : decode prog_10_method_20_code 81 = .ok (.iload 6, 2) := by decide +kernel
theorem d_M_write_83 : decode prog_10_method_20_code 83 = .ok (.iload 5, 2) := by decide +kernel
theorem d_M_write_85 : decode prog_10_method_20_code 85 = .ok (.i2b, 1) := by decide +kernel
theorem d_M_write_86 : decode prog_10_method_20_code 86 = .ok (.bastore, 1) := by decide +kernel
theorem d_M_write_87 : decode prog_10_method_20_code 87 = .ok (.aload_n 0, 1) := by decide +kernel
theorem d_M_write_88 : decode prog_10_method_20_code 88 = .ok (.getfield 31, 3) := by decide +kernel
theorem d_M_write_91 : decode prog_10_method_20_code 91 = .ok (.iload 6, 2) := by decide +kernel
theorem d_M_write_93 : decode prog_10_method_20_code 93 = .ok (.lload_n 3, 1) := by decide +kernel
theorem d_M_write_94 : decode prog_10_method_20_code 94 = .ok (.lconst 1, 1) := by decide +kernel
theorem d_M_write_95 : decode prog_10_method_20_code 95 = .ok (.iconst 4, 1) := by decide +kernel
theorem d_M_write_96 : decode prog_10_method_20_code 96 = .ok (.iload 5, 2) := by decide +kernel
theorem d_M_write_98 : decode prog_10_method_20_code 98 = .ok (.imul, 1) := by decide +kernel
theorem d_M_write_99 : decode prog_10_method_20_code 99 = .ok (.lshl, 1) := by decide +kernel
theorem d_M_write_100 : decode prog_10_method_20_code 100 = .ok (.lconst 1, 1) := by decide +kernel
theorem d_M_write_101 : decode prog_10_method_20_code 101 = .ok (.lsub, 1) := by decide +kernel
theorem d_M_write_102 : decode prog_10_method_20_code 102 = .ok (.land, 1) := by decide +kernel
theorem d_M_write_103 : decode prog_10_method_20_code 103 = .ok (.lastore, 1) := by decide +kernel
theorem d_M_write_104 : decode prog_10_method_20_code 104 = .ok (.iconst 1, 1) := by decide +kernel
theorem d_M_write_105 : decode prog_10_method_20_code 105 = .ok (.ireturn, 1) := by decide +kernel
set_option maxHeartbeats 4000000 in
set_option maxRecDepth 100000 in
theorem c_M_begin {l : Launch} {E : Ev} {σ : SS} {ad : Nat → Nat} (hI : rfI ad) (hB : rB σ) {sz : Nat} {x : Int32} (hy : σ 1 0 ≤ 15) : MCi l E y_M_begin prog_10_method_11_code 2 (some .boolean) 1 23 0 0 [.ref (ad 0), .int x] (rfM E σ ad) sz (fun r M' => r = bz (bgb σ (tx x)) ∧ M' = rfM E (bgO σ (tx x)) ad ∧ rB (bgO σ (tx x))) := by
  refine mc_of R_M rfl [some (.ref (ad 0)), some (.int x)] (by decide) (Nat.le_of_ble_eq_true rfl) rfl ?_
  intro p e R s m ag below meth c ls Q A X hAe hQ hR hsz hw hl
  rw [← hAe] at hQ
  obtain ⟨⟨hx, hb, hml, hown, hts⟩, hE, hA, hr, hlk, hnm⟩ := X
  have hK := hE.1
  refine x_iload_n hx hb d_M_begin_0 hl rfl ?_
  refine lv_if_lt hx hb d_M_begin_1 rfl (fun h1 => ?_) (fun h1 => ?_)
  · refine lv_iconst (v := nI 0) hx hb d_M_begin_18 (by decide) ?_
    exact x_reti hQ hx hb hr hlk (by first | exact nar_bz | decide) hw (by omega) (by omega) d_M_begin_19 (by first | (rw [tx_lt h1, bgO_f bgb_3]; exact ⟨bz_f bgb_3, rfl, hB⟩) | (rw [tx_gt h6, bgO_f bgb_3]; exact ⟨bz_f bgb_3, rfl, hB⟩) | (rw [tx_n (by omega), bgO_f (bgb_f h15)]; exact ⟨bz_f (bgb_f h15), rfl, hB⟩))
  · refine x_iload_n hx hb d_M_begin_4 hl rfl ?_
    refine lv_iconst (v := nI 2) hx hb d_M_begin_5 (by decide) ?_
    refine lv_icmp_gt hx hb d_M_begin_6 rfl (fun h6 => ?_) (fun h6 => ?_)
    · refine lv_iconst (v := nI 0) hx hb d_M_begin_18 (by decide) ?_
      exact x_reti hQ hx hb hr hlk (by first | exact nar_bz | decide) hw (by omega) (by omega) d_M_begin_19 (by first | (rw [tx_lt h1, bgO_f bgb_3]; exact ⟨bz_f bgb_3, rfl, hB⟩) | (rw [tx_gt h6, bgO_f bgb_3]; exact ⟨bz_f bgb_3, rfl, hB⟩) | (rw [tx_n (by omega), bgO_f (bgb_f h15)]; exact ⟨bz_f (bgb_f h15), rfl, hB⟩))
    · obtain ⟨t, ht, rfl⟩ := nI_of2b (M := nI 2) (n := 2) (by decide) h1 h6
      first | refine x_aload_n hx hb d_M_begin_9 hl rfl ?_ | refine x_aload_nQ hx hb d_M_begin_9 hl rfl ?_
      refine m_get hx hb hts hown hK hw ci_M (rf_at hI 0 (by decide) rfl) 2 (by decide) (wm3 74 rfl rfl) rfl d_M_begin_10 ?_
      refine x_iload_n hx hb d_M_begin_13 hl rfl ?_
      refine rl_2 hx hb hK hI hB hw (by omega) d_M_begin_14 (fun hv14 => ?_)
      refine x_if_eq hx hb d_M_begin_15 rfl (by omega) (fun h15 => ?_) (fun h15 => ?_)
      · first | refine x_aload_n hx hb d_M_begin_20 hl rfl ?_ | refine x_aload_nQ hx hb d_M_begin_20 hl rfl ?_
        refine m_get hx hb hts hown hK hw ci_M (rf_at hI 0 (by decide) rfl) 2 (by decide) (wm3 74 rfl rfl) rfl d_M_begin_21 ?_
        refine x_iload_n hx hb d_M_begin_24 hl rfl ?_
        refine lv_iconst (v := nI 1) hx hb d_M_begin_25 (by decide) ?_
        refine rs_2 hx hb hK hI hB hw (by omega) (by omega) d_M_begin_26 (fun H locs hw hB => ?_)
        first | refine x_aload_n hx hb d_M_begin_27 hl rfl ?_ | refine x_aload_nQ hx hb d_M_begin_27 hl rfl ?_
        refine m_get hx hb hts hown hK hw ci_M (rf_at hI 0 (by decide) rfl) 3 (by decide) (wm3 75 rfl rfl) rfl d_M_begin_28 ?_
        refine x_iload_n hx hb d_M_begin_31 hl rfl ?_
        first | refine x_aload_n hx hb d_M_begin_32 hl rfl ?_ | refine x_aload_nQ hx hb d_M_begin_32 hl rfl ?_
        refine m_get (v := .int (nI (σ 1 0))) hx hb hts hown hK hw ci_M (rf_at hI 0 (by decide) rfl) 1 (by decide) (wm3 73 rfl rfl) rfl d_M_begin_33 ?_
        refine rs_3 hx hb hK hI hB hw (by omega) (by omega) d_M_begin_36 (fun H locs hw hB => ?_)
        first | refine x_aload_n hx hb d_M_begin_37 hl rfl ?_ | refine x_aload_nQ hx hb d_M_begin_37 hl rfl ?_
        refine lv_bipush (v := nI 16) hx hb d_M_begin_38 (by decide) ?_
        refine x_iload_n hx hb d_M_begin_40 hl rfl ?_
        first | refine x_iadd hx hb d_M_begin_41 ?_ | refine lv_iadd hx hb d_M_begin_41 ?_
        first | refine x_aload_n hx hb d_M_begin_42 hl rfl ?_ | refine x_aload_nQ hx hb d_M_begin_42 hl rfl ?_
        refine m_get (v := .int (nI (σ 1 0))) hx hb hts hown hK hw ci_M (rf_at hI 0 (by decide) rfl) 1 (by decide) (wm3 73 rfl rfl) rfl d_M_begin_43 ?_
        refine m_callv (k_V ⟨hx, hb, hml, hown, hts⟩ hE hA hw (c_M_fill hI hB (by omega) (by omega) (by omega)) (ci_M).1 rfl (rf_at hI 0 (by decide) rfl) (wm3 145 rfl rfl) (wm3 147 rfl rfl) (wmp2 4 rfl) (wm1 9 rfl rfl) (wm3 148 rfl rfl) rfl rfl ar_M_fill ⟨Nat.le_trans (Nat.le_of_ble_eq_true rfl) hR.1, Nat.le_trans (Nat.le_of_ble_eq_true rfl) hR.2.1⟩ rfl hl.1 rfl (Nat.le_of_ble_eq_true rfl) d_M_begin_46 ⟨Nat.le_trans (Nat.le_of_ble_eq_true rfl) hR.2.2.1, Nat.le_trans (Nat.le_of_ble_eq_true rfl) hR.2.2.2⟩) hw (mfr_in hw hA) (fun M46 H locs hP46 hw => ?_)
        obtain ⟨hM46, hB⟩ := hP46
        rw [hM46] at hw
        refine lv_iconst (v := nI 1) hx hb d_M_begin_49 (by decide) ?_
        exact x_reti hQ hx hb hr hlk (by first | exact nar_bz | decide) hw (by omega) (by omega) d_M_begin_50 (by rw [tx_n (by omega), bgO_t (bgb_t (by omega) h15)]; exact ⟨bz_t (bgb_t (by omega) h15), rfl, hB⟩)
      · refine lv_iconst (v := nI 0) hx hb d_M_begin_18 (by decide) ?_
        exact x_reti hQ hx hb hr hlk (by first | exact nar_bz | decide) hw (by omega) (by omega) d_M_begin_19 (by first | (rw [tx_lt h1, bgO_f bgb_3]; exact ⟨bz_f bgb_3, rfl, hB⟩) | (rw [tx_gt h6, bgO_f bgb_3]; exact ⟨bz_f bgb_3, rfl, hB⟩) | (rw [tx_n (by omega), bgO_f (bgb_f h15)]; exact ⟨bz_f (bgb_f h15), rfl, hB⟩))

set_option maxHeartbeats 4000000 in
set_option maxRecDepth 100000 in
theorem c_M_remove {l : Launch} {E : Ev} {σ : SS} {ad : Nat → Nat} (hI : rfI ad) (hB : rB σ) {sz : Nat} {x y : Int32} (hk : rvb σ (tx x) (ix y) = true → tok (pd (pp (ix y))) (clr σ (tx x) (ix y) 125) (tx x) (pp (ix y))) : MCi l E y_M_remove prog_10_method_17_code 4 (some .boolean) 3 69 0 0 [.ref (ad 0), .int x, .int y] (rfM E σ ad) sz (fun r M' => r = bz (rvb σ (tx x) (ix y)) ∧ M' = rfM E (rmO σ (tx x) (ix y)) ad ∧ rB (rmO σ (tx x) (ix y))) := by
  refine mc_of R_M rfl [some (.ref (ad 0)), some (.int x), some (.int y), none] (by decide) (Nat.le_of_ble_eq_true rfl) rfl ?_
  intro p e R s m ag below meth c ls Q A X hAe hQ hR hsz hw hl
  rw [← hAe] at hQ
  obtain ⟨⟨hx, hb, hml, hown, hts⟩, hE, hA, hr, hlk, hnm⟩ := X
  have hK := hE.1
  first | refine x_aload_n hx hb d_M_remove_0 hl rfl ?_ | refine x_aload_nQ hx hb d_M_remove_0 hl rfl ?_
  refine x_iload_n hx hb d_M_remove_1 hl rfl ?_
  refine m_calli (k_V ⟨hx, hb, hml, hown, hts⟩ hE hA hw (c_M_isOpen hI hB) (ci_M).1 rfl (rf_at hI 0 (by decide) rfl) (wm3 157 rfl rfl) (wm3 159 rfl rfl) (wmp2 6 rfl) (wm1 9 rfl rfl) (wm3 160 rfl rfl) rfl rfl ar_M_isOpen ⟨Nat.le_trans (Nat.le_of_ble_eq_true rfl) hR.1, Nat.le_trans (Nat.le_of_ble_eq_true rfl) hR.2.1⟩ rfl hl.1 rfl (Nat.le_of_ble_eq_true rfl) d_M_remove_2 ⟨Nat.le_trans (Nat.le_of_ble_eq_true rfl) hR.2.2.1, Nat.le_trans (Nat.le_of_ble_eq_true rfl) hR.2.2.2⟩) hw (mfr_in hw hA) (fun r2 M2 H locs hP2 hw => ?_)
  obtain ⟨rfl, hM2⟩ := hP2
  rw [hM2] at hw
  refine x_if_eqB hx hb d_M_remove_5 rfl (fun h5 => ?_) (fun h5 => ?_)
  · refine lv_iconst (v := nI 0) hx hb d_M_remove_24 (by decide) ?_
    exact x_reti hQ hx hb hr hlk (by first | exact nar_bz | decide) hw (by omega) (by omega) d_M_remove_25 (by first | (rw [rmO_f (rvb_1 h5)]; exact ⟨bz_f (rvb_1 h5), rfl, hB⟩) | (rw [h9, ix_0, rmO_f (rvb_2 rfl)]; exact ⟨bz_f (rvb_2 rfl), rfl, hB⟩) | (rw [tx_n ht, rmO_f (rvb_3 h21)]; exact ⟨bz_f (rvb_3 h21), rfl, hB⟩))
  · obtain ⟨t, ht, rfl, ho⟩ := opb_of h5
    refine x_iload_n hx hb d_M_remove_8 hl rfl ?_
    refine lv_if_eq hx hb d_M_remove_9 rfl (fun h9 => ?_) (fun h9 => ?_)
    · refine lv_iconst (v := nI 0) hx hb d_M_remove_24 (by decide) ?_
      exact x_reti hQ hx hb hr hlk (by first | exact nar_bz | decide) hw (by omega) (by omega) d_M_remove_25 (by first | (rw [rmO_f (rvb_1 h5)]; exact ⟨bz_f (rvb_1 h5), rfl, hB⟩) | (rw [h9, ix_0, rmO_f (rvb_2 rfl)]; exact ⟨bz_f (rvb_2 rfl), rfl, hB⟩) | (rw [tx_n ht, rmO_f (rvb_3 h21)]; exact ⟨bz_f (rvb_3 h21), rfl, hB⟩))
    · first | refine x_aload_n hx hb d_M_remove_12 hl rfl ?_ | refine x_aload_nQ hx hb d_M_remove_12 hl rfl ?_
      refine lv_bipush (v := nI 16) hx hb d_M_remove_13 (by decide) ?_
      refine x_iload_n hx hb d_M_remove_15 hl rfl ?_
      first | refine x_iadd hx hb d_M_remove_16 ?_ | refine lv_iadd hx hb d_M_remove_16 ?_
      refine x_iload_n hx hb d_M_remove_17 hl rfl ?_
      refine m_calli (k_V ⟨hx, hb, hml, hown, hts⟩ hE hA hw (c_M_at hI hB (by omega)) (ci_M).1 rfl (rf_at hI 0 (by decide) rfl) (wm3 164 rfl rfl) (wm3 166 rfl rfl) (wmp2 7 rfl) (wm1 9 rfl rfl) (wm3 167 rfl rfl) rfl rfl ar_M_at ⟨Nat.le_trans (Nat.le_of_ble_eq_true rfl) hR.1, Nat.le_trans (Nat.le_of_ble_eq_true rfl) hR.2.1⟩ rfl hl.1 rfl (Nat.le_of_ble_eq_true rfl) d_M_remove_18 ⟨Nat.le_trans (Nat.le_of_ble_eq_true rfl) hR.2.2.1, Nat.le_trans (Nat.le_of_ble_eq_true rfl) hR.2.2.2⟩) hw (mfr_in hw hA) (fun r18 M18 H locs hP18 hw => ?_)
      obtain ⟨⟨rfl, hb18⟩, hM18⟩ := hP18
      rw [hM18] at hw
      refine x_if_ne hx hb d_M_remove_21 rfl (by omega) (fun h21 => ?_) (fun h21 => ?_)
      · refine lv_iconst (v := nI 0) hx hb d_M_remove_26 (by decide) ?_
        refine x_istore_n hx hb d_M_remove_27 hl (Nat.le_of_ble_eq_true rfl) (lh_k (i := 2) rfl (by first | exact lk_n | exact lk_i | exact lk_r | exact lk_q | exact lk_0)) (fun ls hl => ?_)
        obtain ⟨q, hq, rfl⟩ := ix_good (rat_good h21)
        rw [ix_n hq] at h21
        have hq0 : q ≠ 0 := fun z => h9 (by rw [z]; decide)
        have ho2 : opb σ t = true := opb_t ht ho
        have hrv := rvb_t ho2 hq0 h21
        have k3 := hk (by rw [tx_n ht, ix_n hq]; exact hrv)
        rw [tx_n ht, ix_n hq] at k3
        have hp1 := pp_lt q
        have loop : ∀ (k i : Nat) (H : Heap) (locs : List Loc) (ls : Array Slot), i + k = 125 → mw E.1 vwCl A s.heap (rfM E (clr σ t q i) ad) H locs → lh ls [some (.ref (ad 0)), some (.int (nI t)), some (.int (nI q)), some (.int (nI i))] → W p l e R s m ag below meth c H locs 0 0 Q (F0 m 28 ls []) := by
          intro k
          induction k with
          | zero =>
            intro i H locs ls hi hw hl
            obtain rfl : i = 125 := by omega
            have hB := rB_clr (t := t) (q := q) (i := 125) hB
            refine x_iload_n hx hb d_M_remove_28 hl rfl ?_
            refine lv_bipush (v := nI 125) hx hb d_M_remove_29 (by decide) ?_
            refine x_icmp_ge hx hb d_M_remove_31 rfl (by omega) (by omega) (fun h31 => ?_) (fun h31 => ?_)
            · first | refine x_aload_n hx hb d_M_remove_55 hl rfl ?_ | refine x_aload_nQ hx hb d_M_remove_55 hl rfl ?_
              refine x_iload_n hx hb d_M_remove_56 hl rfl ?_
              refine x_iload_n hx hb d_M_remove_57 hl rfl ?_
              refine m_calli (k_S ⟨hx, hb, hml, hown, hts⟩ hE hA hw (c_M_parent (by omega) (by omega)) (wm3 168 rfl rfl) (wm3 169 rfl rfl) (wm1 9 rfl rfl) (wm3 170 rfl rfl) rfl rfl ar_M_parent ⟨Nat.le_trans (Nat.le_of_ble_eq_true rfl) hR.1, Nat.le_trans (Nat.le_of_ble_eq_true rfl) hR.2.1⟩ rfl hl.1 rfl (Nat.le_of_ble_eq_true rfl) d_M_remove_58 ⟨Nat.le_trans (Nat.le_of_ble_eq_true rfl) hR.2.2.1, Nat.le_trans (Nat.le_of_ble_eq_true rfl) hR.2.2.2⟩) hw (mfr_in hw hA) (fun r58 M58 H locs hP58 hw => ?_)
              obtain ⟨rfl, hM58⟩ := hP58
              rw [hM58] at hw
              refine m_callv (k_V ⟨hx, hb, hml, hown, hts⟩ hE hA hw (c_M_touch hI hB (by omega) (by omega) k3) (ci_M).1 rfl (rf_at hI 0 (by decide) rfl) (wm3 185 rfl rfl) (wm3 187 rfl rfl) (wmp2 10 rfl) (wm1 9 rfl rfl) (wm3 188 rfl rfl) rfl rfl ar_M_touch ⟨Nat.le_trans (Nat.le_of_ble_eq_true rfl) hR.1, Nat.le_trans (Nat.le_of_ble_eq_true rfl) hR.2.1⟩ rfl hl.1 rfl (Nat.le_of_ble_eq_true rfl) d_M_remove_61 ⟨Nat.le_trans (Nat.le_of_ble_eq_true rfl) hR.2.2.1, Nat.le_trans (Nat.le_of_ble_eq_true rfl) hR.2.2.2⟩) hw (mfr_in hw hA) (fun M61 H locs hP61 hw => ?_)
              obtain ⟨hM61, hB⟩ := hP61
              rw [hM61] at hw
              refine lv_iconst (v := nI 1) hx hb d_M_remove_64 (by decide) ?_
              exact x_reti hQ hx hb hr hlk (by first | exact nar_bz | decide) hw (by omega) (by omega) d_M_remove_65 (by rw [tx_n ht, ix_n hq, rmO_t hrv]; exact ⟨bz_t hrv, rfl, hB⟩)
            · exact absurd h31 (by omega)
          | succ k ih =>
            intro i H locs ls hi hw hl
            have hB := rB_clr (t := t) (q := q) (i := i) hB
            refine x_iload_n hx hb d_M_remove_28 hl rfl ?_
            refine lv_bipush (v := nI 125) hx hb d_M_remove_29 (by decide) ?_
            refine x_icmp_ge hx hb d_M_remove_31 rfl (by omega) (by omega) (fun h31 => ?_) (fun h31 => ?_)
            · exact absurd h31 (by omega)
            · refine x_iload_n hx hb d_M_remove_34 hl rfl ?_
              refine x_iload_n hx hb d_M_remove_35 hl rfl ?_
              refine m_calli (k_S ⟨hx, hb, hml, hown, hts⟩ hE hA hw (c_M_under (by omega) (by omega)) (wm3 193 rfl rfl) (wm3 194 rfl rfl) (wm1 9 rfl rfl) (wm3 195 rfl rfl) rfl rfl ar_M_under ⟨Nat.le_trans (Nat.le_of_ble_eq_true rfl) hR.1, Nat.le_trans (Nat.le_of_ble_eq_true rfl) hR.2.1⟩ rfl hl.1 rfl (Nat.le_of_ble_eq_true rfl) d_M_remove_36 ⟨Nat.le_trans (Nat.le_of_ble_eq_true rfl) hR.2.2.1, Nat.le_trans (Nat.le_of_ble_eq_true rfl) hR.2.2.2⟩) hw (mfr_in hw hA) (fun r36 M36 H locs hP36 hw => ?_)
              obtain ⟨rfl, hM36⟩ := hP36
              rw [hM36] at hw
              refine x_if_eqB hx hb d_M_remove_39 rfl (fun h39 => ?_) (fun h39 => ?_)
              · have hcl := clr_f (σ := σ) (t := t) h39
                refine x_iincN hx hb d_M_remove_49 hl rfl (lh_k (i := 2) rfl (by first | exact lk_n | exact lk_i | exact lk_r | exact lk_q | exact lk_0)) (fun ls hl => ?_)
                refine lv_goto hx hb d_M_remove_52 rfl ?_
                rw [hcl] at hw
                exact ih (i + 1) H locs ls (by omega) hw hl
              · have hcl := clr_t (σ := σ) (t := t) h39
                first | refine x_aload_n hx hb d_M_remove_42 hl rfl ?_ | refine x_aload_nQ hx hb d_M_remove_42 hl rfl ?_
                refine x_iload_n hx hb d_M_remove_43 hl rfl ?_
                refine x_iload_n hx hb d_M_remove_44 hl rfl ?_
                refine lv_iconst (v := nI 0) hx hb d_M_remove_45 (by decide) ?_
                refine m_callv (k_V ⟨hx, hb, hml, hown, hts⟩ hE hA hw (c_M_place hI hB (by omega) (by omega) (by omega)) (ci_M).1 rfl (rf_at hI 0 (by decide) rfl) (wm3 181 rfl rfl) (wm3 183 rfl rfl) (wmp2 9 rfl) (wm1 9 rfl rfl) (wm3 184 rfl rfl) rfl rfl ar_M_place ⟨Nat.le_trans (Nat.le_of_ble_eq_true rfl) hR.1, Nat.le_trans (Nat.le_of_ble_eq_true rfl) hR.2.1⟩ rfl hl.1 rfl (Nat.le_of_ble_eq_true rfl) d_M_remove_46 ⟨Nat.le_trans (Nat.le_of_ble_eq_true rfl) hR.2.2.1, Nat.le_trans (Nat.le_of_ble_eq_true rfl) hR.2.2.2⟩) hw (mfr_in hw hA) (fun M46 H locs hP46 hw => ?_)
                obtain ⟨hM46, hB⟩ := hP46
                rw [hM46] at hw
                refine x_iincN hx hb d_M_remove_49 hl rfl (lh_k (i := 2) rfl (by first | exact lk_n | exact lk_i | exact lk_r | exact lk_q | exact lk_0)) (fun ls hl => ?_)
                refine lv_goto hx hb d_M_remove_52 rfl ?_
                rw [hcl] at hw
                exact ih (i + 1) H locs ls (by omega) hw hl
        exact loop 125 0 _ _ _ (by omega) (by rw [clr_0]; exact hw) hl
      · refine lv_iconst (v := nI 0) hx hb d_M_remove_24 (by decide) ?_
        exact x_reti hQ hx hb hr hlk (by first | exact nar_bz | decide) hw (by omega) (by omega) d_M_remove_25 (by first | (rw [rmO_f (rvb_1 h5)]; exact ⟨bz_f (rvb_1 h5), rfl, hB⟩) | (rw [h9, ix_0, rmO_f (rvb_2 rfl)]; exact ⟨bz_f (rvb_2 rfl), rfl, hB⟩) | (rw [tx_n ht, rmO_f (rvb_3 h21)]; exact ⟨bz_f (rvb_3 h21), rfl, hB⟩))

theorem c_M_isFileN {l : Launch} {E : Ev} {σ : SS} {ad : Nat → Nat} (hI : rfI ad) (hB : rB σ) {sz : Nat} {v : Nat} (hv : v < 1300) : MCi l E y_M_isFile prog_10_method_33_code 2 (some .boolean) 0 0 0 0 [.ref (ad 0), .int (nI v)] (rfM E σ ad) sz (fun r M' => r = bz (flb σ v) ∧ M' = rfM E σ ad) := by
  have h := c_M_isFile (l := l) (E := E) (sz := sz) (v := v) hI hB (Or.inr hv)
  rw [fI_n (by omega)] at h
  exact h

set_option maxHeartbeats 4000000 in
set_option maxRecDepth 100000 in
theorem c_M_rep {l : Launch} {E : Ev} {σ : SS} {ad : Nat → Nat} (hI : rfI ad) (hB : rB σ) {sz : Nat} {x y : Int32} (hy : σ 1 0 ≤ 15) (hN : ∀ j, σ 0 j < 1300) : MCi l E y_M_representation prog_10_method_41_code 4 (some .int) 2 43 0 0 [.ref (ad 0), .int x, .int y] (rfM E σ ad) sz (fun r M' => r = aRep σ x y ∧ M' = rfM E σ ad) := by
  refine mc_of R_M rfl [some (.ref (ad 0)), some (.int x), some (.int y), none] (by decide) (Nat.le_of_ble_eq_true rfl) rfl ?_
  intro p e R s m ag below meth c ls Q A X hAe hQ hR hsz hw hl
  rw [← hAe] at hQ
  obtain ⟨⟨hx, hb, hml, hown, hts⟩, hE, hA, hr, hlk, hnm⟩ := X
  have hK := hE.1
  refine x_iload_n hx hb d_M_representation_0 hl rfl ?_
  refine lv_if_lt hx hb d_M_representation_1 rfl (fun h1 => ?_) (fun h1 => ?_)
  · refine lv_iconst (v := -1) hx hb d_M_representation_12 (by decide) ?_
    exact x_reti hQ hx hb hr hlk rfl hw (by omega) (by omega) d_M_representation_13 (⟨by unfold aRep; first | rw [if_pos (rv_2 h1)] | rw [if_pos (rv_3 h9)], rfl⟩)
  · refine x_iload_n hx hb d_M_representation_4 hl rfl ?_
    first | refine x_aload_n hx hb d_M_representation_5 hl rfl ?_ | refine x_aload_nQ hx hb d_M_representation_5 hl rfl ?_
    refine m_get hx hb hts hown hK hw ci_M (rf_at hI 0 (by decide) rfl) 1 (by decide) (wm3 73 rfl rfl) rfl d_M_representation_6 ?_
    have hs6 := hB 1 0 (by decide) (by decide)
    refine lv_icmp_le hx hb d_M_representation_9 rfl (fun h9 => ?_) (fun h9 => ?_)
    · obtain ⟨r, hr1, rfl, hr2⟩ := rv_1 hy h1 h9
      first | refine x_aload_n hx hb d_M_representation_14 hl rfl ?_ | refine x_aload_nQ hx hb d_M_representation_14 hl rfl ?_
      refine x_iload_n hx hb d_M_representation_15 hl rfl ?_
      refine x_iload_n hx hb d_M_representation_16 hl rfl ?_
      refine m_calli (k_V ⟨hx, hb, hml, hown, hts⟩ hE hA hw (c_M_at hI hB (by omega)) (ci_M).1 rfl (rf_at hI 0 (by decide) rfl) (wm3 164 rfl rfl) (wm3 166 rfl rfl) (wmp2 7 rfl) (wm1 9 rfl rfl) (wm3 167 rfl rfl) rfl rfl ar_M_at ⟨Nat.le_trans (Nat.le_of_ble_eq_true rfl) hR.1, Nat.le_trans (Nat.le_of_ble_eq_true rfl) hR.2.1⟩ rfl hl.1 rfl (Nat.le_of_ble_eq_true rfl) d_M_representation_17 ⟨Nat.le_trans (Nat.le_of_ble_eq_true rfl) hR.2.2.1, Nat.le_trans (Nat.le_of_ble_eq_true rfl) hR.2.2.2⟩) hw (mfr_in hw hA) (fun r17 M17 H locs hP17 hw => ?_)
      obtain ⟨⟨rfl, hb17⟩, hM17⟩ := hP17
      rw [hM17] at hw
      have hN2 := rat_N (k := r) (p := ix y) hN
      refine x_istore_n hx hb d_M_representation_20 hl (Nat.le_of_ble_eq_true rfl) (lh_k (i := 2) rfl (by first | exact lk_n | exact lk_i | exact lk_r | exact lk_q | exact lk_0)) (fun ls hl => ?_)
      first | refine x_aload_n hx hb d_M_representation_21 hl rfl ?_ | refine x_aload_nQ hx hb d_M_representation_21 hl rfl ?_
      refine x_iload_n hx hb d_M_representation_22 hl rfl ?_
      refine m_calli (k_V ⟨hx, hb, hml, hown, hts⟩ hE hA hw (c_M_isFileN hI hB hN2) (ci_M).1 rfl (rf_at hI 0 (by decide) rfl) (wm4 22 rfl rfl) (wm4 24 rfl rfl) (wmp3 3 rfl) (wm1 9 rfl rfl) (wm4 25 rfl rfl) rfl rfl ar_M_isFile ⟨Nat.le_trans (Nat.le_of_ble_eq_true rfl) hR.1, Nat.le_trans (Nat.le_of_ble_eq_true rfl) hR.2.1⟩ rfl hl.1 rfl (Nat.le_of_ble_eq_true rfl) d_M_representation_23 ⟨Nat.le_trans (Nat.le_of_ble_eq_true rfl) hR.2.2.1, Nat.le_trans (Nat.le_of_ble_eq_true rfl) hR.2.2.2⟩) hw (mfr_in hw hA) (fun r23 M23 H locs hP23 hw => ?_)
      obtain ⟨rfl, hM23⟩ := hP23
      rw [hM23] at hw
      refine x_if_eqB hx hb d_M_representation_26 rfl (fun h26 => ?_) (fun h26 => ?_)
      · refine lv_iconst (v := -1) hx hb d_M_representation_49 (by decide) ?_
        exact x_reti hQ hx hb hr hlk rfl hw (by omega) (by omega) d_M_representation_50 (⟨by unfold aRep; rw [hr2, if_neg (by omega)]; first | exact (if_pos ⟨h26, h35⟩).symm | exact (if_neg (fun z => absurd z.2 (show ¬ 0 < _ by omega))).symm | exact (if_neg (fun z => Bool.false_ne_true (h26.symm.trans z.1))).symm, rfl⟩)
      · first | refine x_aload_n hx hb d_M_representation_29 hl rfl ?_ | refine x_aload_nQ hx hb d_M_representation_29 hl rfl ?_
        refine m_get hx hb hts hown hK hw ci_M (rf_at hI 0 (by decide) rfl) 15 (by decide) (wm3 87 rfl rfl) rfl d_M_representation_30 ?_
        refine x_iload_n hx hb d_M_representation_33 hl rfl ?_
        refine rl_15 hx hb hK hI hB hw (by omega) d_M_representation_34 (fun hv34 => ?_)
        refine x_if_le hx hb d_M_representation_35 rfl (by omega) (fun h35 => ?_) (fun h35 => ?_)
        · refine lv_iconst (v := -1) hx hb d_M_representation_49 (by decide) ?_
          exact x_reti hQ hx hb hr hlk rfl hw (by omega) (by omega) d_M_representation_50 (⟨by unfold aRep; rw [hr2, if_neg (by omega)]; first | exact (if_pos ⟨h26, h35⟩).symm | exact (if_neg (fun z => absurd z.2 (show ¬ 0 < _ by omega))).symm | exact (if_neg (fun z => Bool.false_ne_true (h26.symm.trans z.1))).symm, rfl⟩)
        · first | refine x_aload_n hx hb d_M_representation_38 hl rfl ?_ | refine x_aload_nQ hx hb d_M_representation_38 hl rfl ?_
          refine m_get hx hb hts hown hK hw ci_M (rf_at hI 0 (by decide) rfl) 15 (by decide) (wm3 87 rfl rfl) rfl d_M_representation_39 ?_
          refine x_iload_n hx hb d_M_representation_42 hl rfl ?_
          refine rl_15 hx hb hK hI hB hw (by omega) d_M_representation_43 (fun hv43 => ?_)
          refine lv_iconst (v := nI 1) hx hb d_M_representation_44 (by decide) ?_
          refine x_isub hx hb d_M_representation_45 (by omega) ?_
          refine lv_goto hx hb d_M_representation_46 rfl ?_
          exact x_reti hQ hx hb hr hlk rfl hw (by omega) (by omega) d_M_representation_50 (⟨by unfold aRep; rw [hr2, if_neg (by omega)]; first | exact (if_pos ⟨h26, h35⟩).symm | exact (if_neg (fun z => absurd z.2 (show ¬ 0 < _ by omega))).symm | exact (if_neg (fun z => Bool.false_ne_true (h26.symm.trans z.1))).symm, rfl⟩)
    · refine lv_iconst (v := -1) hx hb d_M_representation_12 (by decide) ?_
      exact x_reti hQ hx hb hr hlk rfl hw (by omega) (by omega) d_M_representation_13 (⟨by unfold aRep; first | rw [if_pos (rv_2 h1)] | rw [if_pos (rv_3 h9)], rfl⟩)

set_option maxHeartbeats 4000000 in
set_option maxRecDepth 100000 in
theorem c_M_write {l : Launch} {E : Ev} {σ : SS} {ad : Nat → Nat} (hI : rfI ad) (hB : rB σ) {sz : Nat} {x y z : Int32} {D : Nat} (hD : D < 2 ^ 64) (hN : ∀ j, σ 0 j < 1300) (hk : wrb σ (tx x) (ix y) (zn z) = true → tok (pd (ix y)) σ (tx x) (ix y) ∧ rat (tch (pd (ix y)) σ (tx x) (ix y)) (16 + tx x) (ix y) < 1300) : MCi l E y_M_write prog_10_method_20_code 7 (some .boolean) 3 69 0 0 [.ref (ad 0), .int x, .int y, .long (lN D), .int z] (rfM E σ ad) sz (fun r M' => r = bz (wrb σ (tx x) (ix y) (zn z)) ∧ M' = rfM E (wrO σ (tx x) (ix y) D (zn z)) ad ∧ rB (wrO σ (tx x) (ix y) D (zn z))) := by
  refine mc_of R_M rfl [some (.ref (ad 0)), some (.int x), some (.int y), some (.long (lN D)), none, some (.int z), none] (by decide) (Nat.le_of_ble_eq_true rfl) rfl ?_
  intro p e R s m ag below meth c ls Q A X hAe hQ hR hsz hw hl
  rw [← hAe] at hQ
  obtain ⟨⟨hx, hb, hml, hown, hts⟩, hE, hA, hr, hlk, hnm⟩ := X
  have hK := hE.1
  first | refine x_aload_n hx hb d_M_write_0 hl rfl ?_ | refine x_aload_nQ hx hb d_M_write_0 hl rfl ?_
  refine x_iload_n hx hb d_M_write_1 hl rfl ?_
  refine m_calli (k_V ⟨hx, hb, hml, hown, hts⟩ hE hA hw (c_M_isOpen hI hB) (ci_M).1 rfl (rf_at hI 0 (by decide) rfl) (wm3 157 rfl rfl) (wm3 159 rfl rfl) (wmp2 6 rfl) (wm1 9 rfl rfl) (wm3 160 rfl rfl) rfl rfl ar_M_isOpen ⟨Nat.le_trans (Nat.le_of_ble_eq_true rfl) hR.1, Nat.le_trans (Nat.le_of_ble_eq_true rfl) hR.2.1⟩ rfl hl.1 rfl (Nat.le_of_ble_eq_true rfl) d_M_write_2 ⟨Nat.le_trans (Nat.le_of_ble_eq_true rfl) hR.2.2.1, Nat.le_trans (Nat.le_of_ble_eq_true rfl) hR.2.2.2⟩) hw (mfr_in hw hA) (fun r2 M2 H locs hP2 hw => ?_)
  obtain ⟨rfl, hM2⟩ := hP2
  rw [hM2] at hw
  refine x_if_eqB hx hb d_M_write_5 rfl (fun h5 => ?_) (fun h5 => ?_)
  · refine lv_iconst (v := nI 0) hx hb d_M_write_50 (by decide) ?_
    exact x_reti hQ hx hb hr hlk (by first | exact nar_bz | decide) hw (by omega) (by omega) d_M_write_51 (by first | (rw [wrO_f (wrb_1 h5)]; exact ⟨bz_f (wrb_1 h5), rfl, hB⟩) | (rw [zn_lt h10, wrO_f (wrb_2 rfl)]; exact ⟨bz_f (wrb_2 rfl), rfl, hB⟩) | (rw [zn_gt h17, wrO_f (wrb_2 rfl)]; exact ⟨bz_f (wrb_2 rfl), rfl, hB⟩) | (rw [tx_n ht, wrO_f (wrb_3 h29)]; exact ⟨bz_f (wrb_3 h29), rfl, hB⟩) | (rw [tx_n ht, ix_n hq, wrO_f (wrb_4 h47)]; exact ⟨bz_f (wrb_4 h47), rfl, hB⟩))
  · obtain ⟨t, ht, rfl, ho⟩ := opb_of h5
    refine x_iload hx hb d_M_write_8 hl rfl ?_
    refine lv_if_lt hx hb d_M_write_10 rfl (fun h10 => ?_) (fun h10 => ?_)
    · refine lv_iconst (v := nI 0) hx hb d_M_write_50 (by decide) ?_
      exact x_reti hQ hx hb hr hlk (by first | exact nar_bz | decide) hw (by omega) (by omega) d_M_write_51 (by first | (rw [wrO_f (wrb_1 h5)]; exact ⟨bz_f (wrb_1 h5), rfl, hB⟩) | (rw [zn_lt h10, wrO_f (wrb_2 rfl)]; exact ⟨bz_f (wrb_2 rfl), rfl, hB⟩) | (rw [zn_gt h17, wrO_f (wrb_2 rfl)]; exact ⟨bz_f (wrb_2 rfl), rfl, hB⟩) | (rw [tx_n ht, wrO_f (wrb_3 h29)]; exact ⟨bz_f (wrb_3 h29), rfl, hB⟩) | (rw [tx_n ht, ix_n hq, wrO_f (wrb_4 h47)]; exact ⟨bz_f (wrb_4 h47), rfl, hB⟩))
    · refine x_iload hx hb d_M_write_13 hl rfl ?_
      refine lv_bipush (v := nI 12) hx hb d_M_write_15 (by decide) ?_
      refine lv_icmp_gt hx hb d_M_write_17 rfl (fun h17 => ?_) (fun h17 => ?_)
      · refine lv_iconst (v := nI 0) hx hb d_M_write_50 (by decide) ?_
        exact x_reti hQ hx hb hr hlk (by first | exact nar_bz | decide) hw (by omega) (by omega) d_M_write_51 (by first | (rw [wrO_f (wrb_1 h5)]; exact ⟨bz_f (wrb_1 h5), rfl, hB⟩) | (rw [zn_lt h10, wrO_f (wrb_2 rfl)]; exact ⟨bz_f (wrb_2 rfl), rfl, hB⟩) | (rw [zn_gt h17, wrO_f (wrb_2 rfl)]; exact ⟨bz_f (wrb_2 rfl), rfl, hB⟩) | (rw [tx_n ht, wrO_f (wrb_3 h29)]; exact ⟨bz_f (wrb_3 h29), rfl, hB⟩) | (rw [tx_n ht, ix_n hq, wrO_f (wrb_4 h47)]; exact ⟨bz_f (wrb_4 h47), rfl, hB⟩))
      · obtain ⟨k, hk9, rfl⟩ := nI_of2b (M := nI 12) (n := 12) (by decide) h10 h17
        first | refine x_aload_n hx hb d_M_write_20 hl rfl ?_ | refine x_aload_nQ hx hb d_M_write_20 hl rfl ?_
        refine lv_bipush (v := nI 16) hx hb d_M_write_21 (by decide) ?_
        refine x_iload_n hx hb d_M_write_23 hl rfl ?_
        first | refine x_iadd hx hb d_M_write_24 ?_ | refine lv_iadd hx hb d_M_write_24 ?_
        refine x_iload_n hx hb d_M_write_25 hl rfl ?_
        refine m_calli (k_V ⟨hx, hb, hml, hown, hts⟩ hE hA hw (c_M_at hI hB (by omega)) (ci_M).1 rfl (rf_at hI 0 (by decide) rfl) (wm3 164 rfl rfl) (wm3 166 rfl rfl) (wmp2 7 rfl) (wm1 9 rfl rfl) (wm3 167 rfl rfl) rfl rfl ar_M_at ⟨Nat.le_trans (Nat.le_of_ble_eq_true rfl) hR.1, Nat.le_trans (Nat.le_of_ble_eq_true rfl) hR.2.1⟩ rfl hl.1 rfl (Nat.le_of_ble_eq_true rfl) d_M_write_26 ⟨Nat.le_trans (Nat.le_of_ble_eq_true rfl) hR.2.2.1, Nat.le_trans (Nat.le_of_ble_eq_true rfl) hR.2.2.2⟩) hw (mfr_in hw hA) (fun r26 M26 H locs hP26 hw => ?_)
        obtain ⟨⟨rfl, hb26⟩, hM26⟩ := hP26
        rw [hM26] at hw
        refine x_if_eq hx hb d_M_write_29 rfl (by omega) (fun h29 => ?_) (fun h29 => ?_)
        · refine lv_iconst (v := nI 0) hx hb d_M_write_50 (by decide) ?_
          exact x_reti hQ hx hb hr hlk (by first | exact nar_bz | decide) hw (by omega) (by omega) d_M_write_51 (by first | (rw [wrO_f (wrb_1 h5)]; exact ⟨bz_f (wrb_1 h5), rfl, hB⟩) | (rw [zn_lt h10, wrO_f (wrb_2 rfl)]; exact ⟨bz_f (wrb_2 rfl), rfl, hB⟩) | (rw [zn_gt h17, wrO_f (wrb_2 rfl)]; exact ⟨bz_f (wrb_2 rfl), rfl, hB⟩) | (rw [tx_n ht, wrO_f (wrb_3 h29)]; exact ⟨bz_f (wrb_3 h29), rfl, hB⟩) | (rw [tx_n ht, ix_n hq, wrO_f (wrb_4 h47)]; exact ⟨bz_f (wrb_4 h47), rfl, hB⟩))
        · obtain ⟨q, hq, rfl⟩ := ix_good (rat_good h29)
          rw [ix_n hq] at h29
          have hN2 := rat_N (k := 16 + t) (p := q) hN
          first | refine x_aload_n hx hb d_M_write_32 hl rfl ?_ | refine x_aload_nQ hx hb d_M_write_32 hl rfl ?_
          refine m_get hx hb hts hown hK hw ci_M (rf_at hI 0 (by decide) rfl) 6 (by decide) (wm3 78 rfl rfl) rfl d_M_write_33 ?_
          first | refine x_aload_n hx hb d_M_write_36 hl rfl ?_ | refine x_aload_nQ hx hb d_M_write_36 hl rfl ?_
          refine lv_bipush (v := nI 16) hx hb d_M_write_37 (by decide) ?_
          refine x_iload_n hx hb d_M_write_39 hl rfl ?_
          first | refine x_iadd hx hb d_M_write_40 ?_ | refine lv_iadd hx hb d_M_write_40 ?_
          refine x_iload_n hx hb d_M_write_41 hl rfl ?_
          refine m_calli (k_V ⟨hx, hb, hml, hown, hts⟩ hE hA hw (c_M_atN hI hB (by omega) (by omega)) (ci_M).1 rfl (rf_at hI 0 (by decide) rfl) (wm3 164 rfl rfl) (wm3 166 rfl rfl) (wmp2 7 rfl) (wm1 9 rfl rfl) (wm3 167 rfl rfl) rfl rfl ar_M_at ⟨Nat.le_trans (Nat.le_of_ble_eq_true rfl) hR.1, Nat.le_trans (Nat.le_of_ble_eq_true rfl) hR.2.1⟩ rfl hl.1 rfl (Nat.le_of_ble_eq_true rfl) d_M_write_42 ⟨Nat.le_trans (Nat.le_of_ble_eq_true rfl) hR.2.2.1, Nat.le_trans (Nat.le_of_ble_eq_true rfl) hR.2.2.2⟩) hw (mfr_in hw hA) (fun r42 M42 H locs hP42 hw => ?_)
          obtain ⟨⟨rfl, hb42⟩, hM42⟩ := hP42
          rw [hM42] at hw
          refine rl_6 hx hb hK hI hB hw (by omega) d_M_write_45 (fun hv45 => ?_)
          refine lv_iconst (v := nI 2) hx hb d_M_write_46 (by decide) ?_
          refine x_icmp_eq hx hb d_M_write_47 rfl (by omega) (by omega) (fun h47 => ?_) (fun h47 => ?_)
          · have hwr := wrb_t (z := k) (opb_t ht ho) (by omega) h29 h47
            obtain ⟨k3, k4⟩ := hk (by rw [tx_n ht, ix_n hq, zn_n (by omega)]; exact hwr)
            rw [tx_n ht, ix_n hq] at k3
            rw [tx_n ht, ix_n hq] at k4
            first | refine x_aload_n hx hb d_M_write_52 hl rfl ?_ | refine x_aload_nQ hx hb d_M_write_52 hl rfl ?_
            refine x_iload_n hx hb d_M_write_53 hl rfl ?_
            refine x_iload_n hx hb d_M_write_54 hl rfl ?_
            refine m_callv (k_V ⟨hx, hb, hml, hown, hts⟩ hE hA hw (c_M_touch hI hB (by omega) (by omega) k3) (ci_M).1 rfl (rf_at hI 0 (by decide) rfl) (wm3 185 rfl rfl) (wm3 187 rfl rfl) (wmp2 10 rfl) (wm1 9 rfl rfl) (wm3 188 rfl rfl) rfl rfl ar_M_touch ⟨Nat.le_trans (Nat.le_of_ble_eq_true rfl) hR.1, Nat.le_trans (Nat.le_of_ble_eq_true rfl) hR.2.1⟩ rfl hl.1 rfl (Nat.le_of_ble_eq_true rfl) d_M_write_55 ⟨Nat.le_trans (Nat.le_of_ble_eq_true rfl) hR.2.2.1, Nat.le_trans (Nat.le_of_ble_eq_true rfl) hR.2.2.2⟩) hw (mfr_in hw hA) (fun M55 H locs hP55 hw => ?_)
            obtain ⟨hM55, hB⟩ := hP55
            rw [hM55] at hw
            first | refine x_aload_n hx hb d_M_write_58 hl rfl ?_ | refine x_aload_nQ hx hb d_M_write_58 hl rfl ?_
            refine lv_bipush (v := nI 16) hx hb d_M_write_59 (by decide) ?_
            refine x_iload_n hx hb d_M_write_61 hl rfl ?_
            first | refine x_iadd hx hb d_M_write_62 ?_ | refine lv_iadd hx hb d_M_write_62 ?_
            refine x_iload_n hx hb d_M_write_63 hl rfl ?_
            refine m_calli (k_V ⟨hx, hb, hml, hown, hts⟩ hE hA hw (c_M_atN hI hB (by omega) (by omega)) (ci_M).1 rfl (rf_at hI 0 (by decide) rfl) (wm3 164 rfl rfl) (wm3 166 rfl rfl) (wmp2 7 rfl) (wm1 9 rfl rfl) (wm3 167 rfl rfl) rfl rfl ar_M_at ⟨Nat.le_trans (Nat.le_of_ble_eq_true rfl) hR.1, Nat.le_trans (Nat.le_of_ble_eq_true rfl) hR.2.1⟩ rfl hl.1 rfl (Nat.le_of_ble_eq_true rfl) d_M_write_64 ⟨Nat.le_trans (Nat.le_of_ble_eq_true rfl) hR.2.2.1, Nat.le_trans (Nat.le_of_ble_eq_true rfl) hR.2.2.2⟩) hw (mfr_in hw hA) (fun r64 M64 H locs hP64 hw => ?_)
            obtain ⟨⟨rfl, hb64⟩, hM64⟩ := hP64
            rw [hM64] at hw
            refine x_istore hx hb d_M_write_67 hl (Nat.le_of_ble_eq_true rfl) (lh_k (i := 5) rfl (by first | exact lk_n | exact lk_i | exact lk_r | exact lk_q | exact lk_0)) (fun ls hl => ?_)
            first | refine x_aload_n hx hb d_M_write_69 hl rfl ?_ | refine x_aload_nQ hx hb d_M_write_69 hl rfl ?_
            refine m_get hx hb hts hown hK hw ci_M (rf_at hI 0 (by decide) rfl) 8 (by decide) (wm3 80 rfl rfl) rfl d_M_write_70 ?_
            refine x_iload hx hb d_M_write_73 hl rfl ?_
            refine lv_iconst (v := nI 1) hx hb d_M_write_75 (by decide) ?_
            refine rs_8 hx hb hK hI hB hw (by omega) (by omega) d_M_write_76 (fun H locs hw hB => ?_)
            first | refine x_aload_n hx hb d_M_write_77 hl rfl ?_ | refine x_aload_nQ hx hb d_M_write_77 hl rfl ?_
            refine m_get hx hb hts hown hK hw ci_M (rf_at hI 0 (by decide) rfl) 7 (by decide) (wm3 79 rfl rfl) rfl d_M_write_78 ?_
            refine x_iload hx hb d_M_write_81 hl rfl ?_
            refine x_iload hx hb d_M_write_83 hl rfl ?_
            first | refine x_i2b hx hb d_M_write_85 (by omega) ?_ | refine lv_i2b hx hb d_M_write_85 rfl ?_
            refine rs_7 hx hb hK hI hB hw (by omega) (by omega) d_M_write_86 (fun H locs hw hB => ?_)
            first | refine x_aload_n hx hb d_M_write_87 hl rfl ?_ | refine x_aload_nQ hx hb d_M_write_87 hl rfl ?_
            refine m_get hx hb hts hown hK hw ci_M (rf_at hI 0 (by decide) rfl) 9 (by decide) (wm3 81 rfl rfl) rfl d_M_write_88 ?_
            refine x_iload hx hb d_M_write_91 hl rfl ?_
            refine x_lload_n hx hb d_M_write_93 hl rfl ?_
            refine lv_lconst (v := 1) hx hb d_M_write_94 (by decide) ?_
            refine lv_iconst (v := nI 4) hx hb d_M_write_95 (by decide) ?_
            refine x_iload hx hb d_M_write_96 hl rfl ?_
            first | refine x_imul hx hb d_M_write_98 ?_ | refine lv_imul hx hb d_M_write_98 ?_
            refine lv_lshl hx hb d_M_write_99 rfl ?_
            refine lv_lconst (v := 1) hx hb d_M_write_100 (by decide) ?_
            refine lv_lsub hx hb d_M_write_101 ?_
            refine lv_land hx hb d_M_write_102 ?_
            rw [msk hD (by omega)]
            refine rs_9 hx hb hK hI hB hw (by omega) d_M_write_103 (fun H locs hw hB => ?_)
            refine lv_iconst (v := nI 1) hx hb d_M_write_104 (by decide) ?_
            exact x_reti hQ hx hb hr hlk (by first | exact nar_bz | decide) hw (by omega) (by omega) d_M_write_105 (by rw [tx_n ht, ix_n hq, zn_n (by omega), wrO_t hwr]; exact ⟨bz_t hwr, rfl, hB⟩)
          · refine lv_iconst (v := nI 0) hx hb d_M_write_50 (by decide) ?_
            exact x_reti hQ hx hb hr hlk (by first | exact nar_bz | decide) hw (by omega) (by omega) d_M_write_51 (by first | (rw [wrO_f (wrb_1 h5)]; exact ⟨bz_f (wrb_1 h5), rfl, hB⟩) | (rw [zn_lt h10, wrO_f (wrb_2 rfl)]; exact ⟨bz_f (wrb_2 rfl), rfl, hB⟩) | (rw [zn_gt h17, wrO_f (wrb_2 rfl)]; exact ⟨bz_f (wrb_2 rfl), rfl, hB⟩) | (rw [tx_n ht, wrO_f (wrb_3 h29)]; exact ⟨bz_f (wrb_3 h29), rfl, hB⟩) | (rw [tx_n ht, ix_n hq, wrO_f (wrb_4 h47)]; exact ⟨bz_f (wrb_4 h47), rfl, hB⟩))
