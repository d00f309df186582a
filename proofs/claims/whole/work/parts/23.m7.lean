theorem d_M_way_0 : decode prog_10_method_21_code 0 = .ok (.aload_n 0, 1) := by decide +kernel
theorem d_M_way_1 : decode prog_10_method_21_code 1 = .ok (.getfield 7, 3) := by decide +kernel
theorem d_M_way_4 : decode prog_10_method_21_code 4 = .ok (.bipush 125, 2) := by decide +kernel
theorem d_M_way_6 : decode prog_10_method_21_code 6 = .ok (.aload_n 0, 1) := by decide +kernel
theorem d_M_way_7 : decode prog_10_method_21_code 7 = .ok (.getfield 17, 3) := by decide +kernel
theorem d_M_way_10 : decode prog_10_method_21_code 10 = .ok (.iload_n 1, 1) := by decide +kernel
theorem d_M_way_11 : decode prog_10_method_21_code 11 = .ok (.iaload, 1) := by decide +kernel
theorem d_M_way_12 : decode prog_10_method_21_code 12 = .ok (.imul, 1) := by decide +kernel
theorem d_M_way_13 : decode prog_10_method_21_code 13 = .ok (.iload_n 2, 1) := by decide +kernel
theorem d_M_way_14 : decode prog_10_method_21_code 14 = .ok (.iadd, 1) := by decide +kernel
theorem d_M_way_15 : decode prog_10_method_21_code 15 = .ok (.saload, 1) := by decide +kernel
theorem d_M_way_16 : decode prog_10_method_21_code 16 = .ok (.istore_n 3, 1) := by decide +kernel
theorem d_M_way_17 : decode prog_10_method_21_code 17 = .ok (.aload_n 0, 1) := by decide +kernel
theorem d_M_way_18 : decode prog_10_method_21_code 18 = .ok (.getfield 7, 3) := by decide +kernel
theorem d_M_way_21 : decode prog_10_method_21_code 21 = .ok (.bipush 125, 2) := by decide +kernel
theorem d_M_way_23 : decode prog_10_method_21_code 23 = .ok (.aload_n 0, 1) := by decide +kernel
theorem d_M_way_24 : decode prog_10_method_21_code 24 = .ok (.getfield 76, 3) := by decide +kernel
theorem d_M_way_27 : decode prog_10_method_21_code 27 = .ok (.imul, 1) := by decide +kernel
theorem d_M_way_28 : decode prog_10_method_21_code 28 = .ok (.iload_n 2, 1) := by decide +kernel
theorem d_M_way_29 : decode prog_10_method_21_code 29 = .ok (.iadd, 1) := by decide +kernel
theorem d_M_way_30 : decode prog_10_method_21_code 30 = .ok (.saload, 1) := by decide +kernel
theorem d_M_way_31 : decode prog_10_method_21_code 31 = .ok (.istore 4, 2) := by decide +kernel
theorem d_M_way_33 : decode prog_10_method_21_code 33 = .ok (.aload_n 0, 1) := by decide +kernel
theorem d_M_way_34 : decode prog_10_method_21_code 34 = .ok (.getfield 7, 3) := by decide +kernel
theorem d_M_way_37 : decode prog_10_method_21_code 37 = .ok (.sipush 2000, 3) := by decide +kernel
theorem d_M_way_40 : decode prog_10_method_21_code 40 = .ok (.bipush 125, 2) := by decide +kernel
theorem d_M_way_42 : decode prog_10_method_21_code 42 = .ok (.iload_n 1, 1) := by decide +kernel
theorem d_M_way_43 : decode prog_10_method_21_code 43 = .ok (.imul, 1) := by decide +kernel
theorem d_M_way_44 : decode prog_10_method_21_code 44 = .ok (.iadd, 1) := by decide +kernel
theorem d_M_way_45 : decode prog_10_method_21_code 45 = .ok (.iload_n 2, 1) := by decide +kernel
theorem d_M_way_46 : decode prog_10_method_21_code 46 = .ok (.iadd, 1) := by decide +kernel
theorem d_M_way_47 : decode prog_10_method_21_code 47 = .ok (.saload, 1) := by decide +kernel
theorem d_M_way_48 : decode prog_10_method_21_code 48 = .ok (.istore 5, 2) := by decide +kernel
theorem d_M_way_50 : decode prog_10_method_21_code 50 = .ok (.iload 4, 2) := by decide +kernel
theorem d_M_way_52 : decode prog_10_method_21_code 52 = .ok (.iload_n 3, 1) := by decide +kernel
theorem d_M_way_53 : decode prog_10_method_21_code 53 = .ok (.if_icmp .ne 5, 3) := by decide +kernel
theorem d_M_way_56 : decode prog_10_method_21_code 56 = .ok (.iconst 0, 1) := by decide +kernel
theorem d_M_way_57 : decode prog_10_method_21_code 57 = .ok (.ireturn, 1) := by decide +kernel
theorem d_M_way_58 : decode prog_10_method_21_code 58 = .ok (.iload 5, 2) := by decide +kernel
theorem d_M_way_60 : decode prog_10_method_21_code 60 = .ok (.iload_n 3, 1) := by decide +kernel
theorem d_M_way_61 : decode prog_10_method_21_code 61 = .ok (.if_icmp .ne 5, 3) := by decide +kernel
theorem d_M_way_64 : decode prog_10_method_21_code 64 = .ok (.iconst 1, 1) := by decide +kernel
theorem d_M_way_65 : decode prog_10_method_21_code 65 = .ok (.ireturn, 1) := by decide +kernel
theorem d_M_way_66 : decode prog_10_method_21_code 66 = .ok (.iload_n 3, 1) := by decide +kernel
theorem d_M_way_67 : decode prog_10_method_21_code 67 = .ok (.ifCond .le 49, 3) := by decide +kernel
theorem d_M_way_70 : decode prog_10_method_21_code 70 = .ok (.iload 4, 2) := by decide +kernel
theorem d_M_way_72 : decode prog_10_method_21_code 72 = .ok (.ifCond .le 44, 3) := by decide +kernel
theorem d_M_way_75 : decode prog_10_method_21_code 75 = .ok (.iload 5, 2) := by decide +kernel
theorem d_M_way_77 : decode prog_10_method_21_code 77 = .ok (.ifCond .le 39, 3) := by decide +kernel
theorem d_M_way_80 : decode prog_10_method_21_code 80 = .ok (.aload_n 0, 1) := by decide +kernel
theorem d_M_way_81 : decode prog_10_method_21_code 81 = .ok (.getfield 21, 3) := by decide +kernel
theorem d_M_way_84 : decode prog_10_method_21_code 84 = .ok (.iload_n 3, 1) := by decide +kernel
theorem d_M_way_85 : decode prog_10_method_21_code 85 = .ok (.baload, 1) := by decide +kernel
theorem d_M_way_86 : decode prog_10_method_21_code 86 = .ok (.iconst 1, 1) := by decide +kernel
theorem d_M_way_87 : decode prog_10_method_21_code 87 = .ok (.if_icmp .ne 29, 3) := by decide +kernel
theorem d_M_way_90 : decode prog_10_method_21_code 90 = .ok (.aload_n 0, 1) := by decide +kernel
theorem d_M_way_91 : decode prog_10_method_21_code 91 = .ok (.getfield 21, 3) := by decide +kernel
theorem d_M_way_94 : decode prog_10_method_21_code 94 = .ok (.iload 4, 2) := by decide +kernel
theorem d_M_way_96 : decode prog_10_method_21_code 96 = .ok (.baload, 1) := by decide +kernel
theorem d_M_way_97 : decode prog_10_method_21_code 97 = .ok (.iconst 1, 1) := by decide +kernel
theorem d_M_way_98 : decode prog_10_method_21_code 98 = .ok (.if_icmp .ne 18, 3) := by decide +kernel
theorem d_M_way_101 : decode prog_10_method_21_code 101 = .ok (.aload_n 0, 1) := by decide +kernel
theorem d_M_way_102 : decode prog_10_method_21_code 102 = .ok (.getfield 21, 3) := by decide +kernel
theorem d_M_way_105 : decode prog_10_method_21_code 105 = .ok (.iload 5, 2) := by decide +kernel
theorem d_M_way_107 : decode prog_10_method_21_code 107 = .ok (.baload, 1) := by decide +kernel
theorem d_M_way_108 : decode prog_10_method_21_code 108 = .ok (.iconst 1, 1) := by decide +kernel
theorem d_M_way_109 : decode prog_10_method_21_code 109 = .ok (.if_icmp .ne 7, 3) := by decide +kernel
theorem d_M_way_112 : decode prog_10_method_21_code 112 = .ok (.iconst 1, 1) := by decide +kernel
theorem d_M_way_113 : decode prog_10_method_21_code 113 = .ok (.goto 4, 3) := by decide +kernel
theorem d_M_way_116 : decode prog_10_method_21_code 116 = .ok (.iconst 0, 1) := by decide +kernel
theorem d_M_way_117 : decode prog_10_method_21_code 117 = .ok (.istore 6, 2) := by decide +kernel
theorem d_M_way_119 : decode prog_10_method_21_code 119 = .ok (.iload 6, 2) := by decide +kernel
theorem d_M_way_121 : decode prog_10_method_21_code 121 = .ok (.ifCond .eq 39, 3) := by decide +kernel
theorem d_M_way_124 : decode prog_10_method_21_code 124 = .ok (.aload_n 0, 1) := by decide +kernel
theorem d_M_way_125 : decode prog_10_method_21_code 125 = .ok (.getfield 35, 3) := by decide +kernel
theorem d_M_way_128 : decode prog_10_method_21_code 128 = .ok (.iload_n 3, 1) := by decide +kernel
theorem d_M_way_129 : decode prog_10_method_21_code 129 = .ok (.saload, 1) := by decide +kernel
theorem d_M_way_130 : decode prog_10_method_21_code 130 = .ok (.aload_n 0, 1) := by decide +kernel
theorem d_M_way_131 : decode prog_10_method_21_code 131 = .ok (.getfield 35, 3) := by decide +kernel
theorem d_M_way_134 : decode prog_10_method_21_code 134 = .ok (.iload 4, 2) := by decide +kernel
theorem d_M_way_136 : decode prog_10_method_21_code 136 = .ok (.saload, 1) := by decide +kernel
theorem d_M_way_137 : decode prog_10_method_21_code 137 = .ok (.if_icmp .ne 23, 3) := by decide +kernel
theorem d_M_way_140 : decode prog_10_method_21_code 140 = .ok (.aload_n 0, 1) := by decide +kernel
theorem d_M_way_141 : decode prog_10_method_21_code 141 = .ok (.getfield 35, 3) := by decide +kernel
theorem d_M_way_144 : decode prog_10_method_21_code 144 = .ok (.iload_n 3, 1) := by decide +kernel
theorem d_M_way_145 : decode prog_10_method_21_code 145 = .ok (.saload, 1) := by decide +kernel
theorem d_M_way_146 : decode prog_10_method_21_code 146 = .ok (.aload_n 0, 1) := by decide +kernel
theorem d_M_way_147 : decode prog_10_method_21_code 147 = .ok (.getfield 35, 3) := by decide +kernel
theorem d_M_way_150 : decode prog_10_method_21_code 150 = .ok (.iload 5, 2) := by decide +kernel
theorem d_M_way_152 : decode prog_10_method_21_code 152 = .ok (.saload, 1) := by decide +kernel
theorem d_M_way_153 : decode prog_10_method_21_code 153 = .ok (.if_icmp .ne 7, 3) := by decide +kernel
theorem d_M_way_156 : decode prog_10_method_21_code 156 = .ok (.iconst 2, 1) := by decide +kernel
theorem d_M_way_157 : decode prog_10_method_21_code 157 = .ok (.goto 4, 3) := by decide +kernel
theorem d_M_way_160 : decode prog_10_method_21_code 160 = .ok (.iconst 3, 1) := by decide +kernel
theorem d_M_way_161 : decode prog_10_method_21_code 161 = .ok (.ireturn, 1) := by decide +kernel

theorem d_M_take_0 : decode prog_10_method_22_code 0 = .ok (.iconst 0, 1) := by decide +kernel
theorem d_M_take_1 : decode prog_10_method_22_code 1 = .ok (.istore_n 3, 1) := by decide +kernel
theorem d_M_take_2 : decode prog_10_method_22_code 2 = .ok (.iload_n 3, 1) := by decide +kernel
theorem d_M_take_3 : decode prog_10_method_22_code 3 = .ok (.bipush 125, 2) := by decide +kernel
theorem d_M_take_5 : decode prog_10_method_22_code 5 = .ok (.if_icmp .ge 53, 3) := by decide +kernel
theorem d_M_take_8 : decode prog_10_method_22_code 8 = .ok (.iload_n 3, 1) := by decide +kernel
theorem d_M_take_9 : decode prog_10_method_22_code 9 = .ok (.invokestatic 79, 3) := by decide +kernel
theorem d_M_take_12 : decode prog_10_method_22_code 12 = .ok (.ifCond .eq 40, 3) := by decide +kernel
theorem d_M_take_15 : decode prog_10_method_22_code 15 = .ok (.iload_n 3, 1) := by decide +kernel
theorem d_M_take_16 : decode prog_10_method_22_code 16 = .ok (.iload_n 2, 1) := by decide +kernel
theorem d_M_take_17 : decode prog_10_method_22_code 17 = .ok (.invokestatic 115, 3) := by decide +kernel
theorem d_M_take_20 : decode prog_10_method_22_code 20 = .ok (.ifCond .eq 32, 3) := by decide +kernel
theorem d_M_take_23 : decode prog_10_method_22_code 23 = .ok (.aload_n 0, 1) := by decide +kernel
theorem d_M_take_24 : decode prog_10_method_22_code 24 = .ok (.getfield 7, 3) := by decide +kernel
theorem d_M_take_27 : decode prog_10_method_22_code 27 = .ok (.sipush 2000, 3) := by decide +kernel
theorem d_M_take_30 : decode prog_10_method_22_code 30 = .ok (.bipush 125, 2) := by decide +kernel
theorem d_M_take_32 : decode prog_10_method_22_code 32 = .ok (.iload_n 1, 1) := by decide +kernel
theorem d_M_take_33 : decode prog_10_method_22_code 33 = .ok (.imul, 1) := by decide +kernel
theorem d_M_take_34 : decode prog_10_method_22_code 34 = .ok (.iadd, 1) := by decide +kernel
theorem d_M_take_35 : decode prog_10_method_22_code 35 = .ok (.iload_n 3, 1) := by decide +kernel
theorem d_M_take_36 : decode prog_10_method_22_code 36 = .ok (.iadd, 1) := by decide +kernel
theorem d_M_take_37 : decode prog_10_method_22_code 37 = .ok (.aload_n 0, 1) := by decide +kernel
theorem d_M_take_38 : decode prog_10_method_22_code 38 = .ok (.getfield 7, 3) := by decide +kernel
theorem d_M_take_41 : decode prog_10_method_22_code 41 = .ok (.bipush 125, 2) := by decide +kernel
theorem d_M_take_43 : decode prog_10_method_22_code 43 = .ok (.aload_n 0, 1) := by decide +kernel
theorem d_M_take_44 : decode prog_10_method_22_code 44 = .ok (.getfield 76, 3) := by decide +kernel
theorem d_M_take_47 : decode prog_10_method_22_code 47 = .ok (.imul, 1) := by decide +kernel
theorem d_M_take_48 : decode prog_10_method_22_code 48 = .ok (.iload_n 3, 1) := by decide +kernel
theorem d_M_take_49 : decode prog_10_method_22_code 49 = .ok (.iadd, 1) := by decide +kernel
theorem d_M_take_50 : decode prog_10_method_22_code 50 = .ok (.saload, 1) := by decide +kernel
theorem d_M_take_51 : decode prog_10_method_22_code 51 = .ok (.sastore, 1) := by decide +kernel
theorem d_M_take_52 : decode prog_10_method_22_code 52 = .ok (.iinc 3 1, 3) := by decide +kernel
theorem d_M_take_55 : decode prog_10_method_22_code 55 = .ok (.goto (-53), 3) := by decide +kernel
theorem d_M_take_58 : decode prog_10_method_22_code 58 = .ok (.return_, 1) := by decide +kernel

theorem d_M_join_0 : decode prog_10_method_23_code 0 = .ok (.aload_n 0, 1) := by decide +kernel
theorem d_M_join_1 : decode prog_10_method_23_code 1 = .ok (.getfield 7, 3) := by decide +kernel
theorem d_M_join_4 : decode prog_10_method_23_code 4 = .ok (.sipush 2000, 3) := by decide +kernel
theorem d_M_join_7 : decode prog_10_method_23_code 7 = .ok (.bipush 125, 2) := by decide +kernel
theorem d_M_join_9 : decode prog_10_method_23_code 9 = .ok (.iload_n 1, 1) := by decide +kernel
theorem d_M_join_10 : decode prog_10_method_23_code 10 = .ok (.imul, 1) := by decide +kernel
theorem d_M_join_11 : decode prog_10_method_23_code 11 = .ok (.iadd, 1) := by decide +kernel
theorem d_M_join_12 : decode prog_10_method_23_code 12 = .ok (.iload_n 2, 1) := by decide +kernel
theorem d_M_join_13 : decode prog_10_method_23_code 13 = .ok (.iadd, 1) := by decide +kernel
theorem d_M_join_14 : decode prog_10_method_23_code 14 = .ok (.saload, 1) := by decide +kernel
theorem d_M_join_15 : decode prog_10_method_23_code 15 = .ok (.istore_n 3, 1) := by decide +kernel
theorem d_M_join_16 : decode prog_10_method_23_code 16 = .ok (.aload_n 0, 1) := by decide +kernel
theorem d_M_join_17 : decode prog_10_method_23_code 17 = .ok (.getfield 7, 3) := by decide +kernel
theorem d_M_join_20 : decode prog_10_method_23_code 20 = .ok (.bipush 125, 2) := by decide +kernel
theorem d_M_join_22 : decode prog_10_method_23_code 22 = .ok (.aload_n 0, 1) := by decide +kernel
theorem d_M_join_23 : decode prog_10_method_23_code 23 = .ok (.getfield 76, 3) := by decide +kernel
theorem d_M_join_26 : decode prog_10_method_23_code 26 = .ok (.imul, 1) := by decide +kernel
theorem d_M_join_27 : decode prog_10_method_23_code 27 = .ok (.iload_n 2, 1) := by decide +kernel
theorem d_M_join_28 : decode prog_10_method_23_code 28 = .ok (.iadd, 1) := by decide +kernel
theorem d_M_join_29 : decode prog_10_method_23_code 29 = .ok (.saload, 1) := by decide +kernel
theorem d_M_join_30 : decode prog_10_method_23_code 30 = .ok (.istore 4, 2) := by decide +kernel
theorem d_M_join_32 : decode prog_10_method_23_code 32 = .ok (.aload_n 0, 1) := by decide +kernel
theorem d_M_join_33 : decode prog_10_method_23_code 33 = .ok (.getfield 44, 3) := by decide +kernel
theorem d_M_join_36 : decode prog_10_method_23_code 36 = .ok (.iload_n 3, 1) := by decide +kernel
theorem d_M_join_37 : decode prog_10_method_23_code 37 = .ok (.iload 4, 2) := by decide +kernel
theorem d_M_join_39 : decode prog_10_method_23_code 39 = .ok (.i2s, 1) := by decide +kernel
theorem d_M_join_40 : decode prog_10_method_23_code 40 = .ok (.sastore, 1) := by decide +kernel
theorem d_M_join_41 : decode prog_10_method_23_code 41 = .ok (.aload_n 0, 1) := by decide +kernel
theorem d_M_join_42 : decode prog_10_method_23_code 42 = .ok (.getfield 38, 3) := by decide +kernel
theorem d_M_join_45 : decode prog_10_method_23_code 45 = .ok (.iload_n 3, 1) := by decide +kernel
theorem d_M_join_46 : decode prog_10_method_23_code 46 = .ok (.aload_n 0, 1) := by decide +kernel
theorem d_M_join_47 : decode prog_10_method_23_code 47 = .ok (.getfield 38, 3) := by decide +kernel
theorem d_M_join_50 : decode prog_10_method_23_code 50 = .ok (.iload 4, 2) := by decide +kernel
theorem d_M_join_52 : decode prog_10_method_23_code 52 = .ok (.saload, 1) := by decide +kernel
theorem d_M_join_53 : decode prog_10_method_23_code 53 = .ok (.iconst 1, 1) := by decide +kernel
theorem d_M_join_54 : decode prog_10_method_23_code 54 = .ok (.iadd, 1) := by decide +kernel
theorem d_M_join_55 : decode prog_10_method_23_code 55 = .ok (.i2s, 1) := by decide +kernel
theorem d_M_join_56 : decode prog_10_method_23_code 56 = .ok (.sastore, 1) := by decide +kernel
theorem d_M_join_57 : decode prog_10_method_23_code 57 = .ok (.return_, 1) := by decide +kernel

theorem d_M_settle_0 : decode prog_10_method_24_code 0 = .ok (.iload_n 3, 1) := by decide +kernel
theorem d_M_settle_1 : decode prog_10_method_24_code 1 = .ok (.iconst 1, 1) := by decide +kernel
theorem d_M_settle_2 : decode prog_10_method_24_code 2 = .ok (.if_icmp .ne 14, 3) := by decide +kernel
theorem d_M_settle_5 : decode prog_10_method_24_code 5 = .ok (.iload 4, 2) := by decide +kernel
theorem d_M_settle_7 : decode prog_10_method_24_code 7 = .ok (.ifCond .eq 9, 3) := by decide +kernel
theorem d_M_settle_10 : decode prog_10_method_24_code 10 = .ok (.aload_n 0, 1) := by decide +kernel
theorem d_M_settle_11 : decode prog_10_method_24_code 11 = .ok (.iload_n 1, 1) := by decide +kernel
theorem d_M_settle_12 : decode prog_10_method_24_code 12 = .ok (.iload_n 2, 1) := by decide +kernel
theorem d_M_settle_13 : decode prog_10_method_24_code 13 = .ok (.invokevirtual 121, 3) := by decide +kernel
theorem d_M_settle_16 : decode prog_10_method_24_code 16 = .ok (.iload_n 3, 1) := by decide +kernel
theorem d_M_settle_17 : decode prog_10_method_24_code 17 = .ok (.iconst 2, 1) := by decide +kernel
theorem d_M_settle_18 : decode prog_10_method_24_code 18 = .ok (.if_icmp .ne 14, 3) := by decide +kernel
theorem d_M_settle_21 : decode prog_10_method_24_code 21 = .ok (.iload 4, 2) := by decide +kernel
theorem d_M_settle_23 : decode prog_10_method_24_code 23 = .ok (.ifCond .eq 9, 3) := by decide +kernel
theorem d_M_settle_26 : decode prog_10_method_24_code 26 = .ok (.aload_n 0, 1) := by decide +kernel
theorem d_M_settle_27 : decode prog_10_method_24_code 27 = .ok (.iload_n 1, 1) := by decide +kernel
theorem d_M_settle_28 : decode prog_10_method_24_code 28 = .ok (.iload_n 2, 1) := by decide +kernel
theorem d_M_settle_29 : decode prog_10_method_24_code 29 = .ok (.invokevirtual 124, 3) := by decide +kernel
theorem d_M_settle_32 : decode prog_10_method_24_code 32 = .ok (.return_, 1) := by decide +kernel
set_option maxHeartbeats 4000000 in
set_option maxRecDepth 100000 in
theorem c_M_way {l : Launch} {E : Ev} {σ : SS} {ad : Nat → Nat} (hI : rfI ad) (hB : rB σ) {sz : Nat} {t q : Nat} (ht : t < 3) (hq : q < 125) (hb3 : σ 3 t ≤ 15) (hy : σ 1 0 ≤ 15) (hN : ∀ j, σ 0 j < 1300) : MCi l E y_M_way prog_10_method_21_code 7 (some .int) 0 0 0 0 [.ref (ad 0), .int (nI t), .int (nI q)] (rfM E σ ad) sz (fun r M' => r = nI (wy σ t q) ∧ M' = rfM E σ ad) := by
  refine mc_of R_M rfl [some (.ref (ad 0)), some (.int (nI t)), some (.int (nI q)), none, none, none, none] (by decide) (Nat.le_of_ble_eq_true rfl) rfl ?_
  intro p e R s m ag below meth c ls Q A X hAe hQ hR hsz hw hl
  rw [← hAe] at hQ
  obtain ⟨⟨hx, hb, hml, hown, hts⟩, hE, hA, hr, hlk, hnm⟩ := X
  have hK := hE.1
  first | refine x_aload_n hx hb d_M_way_0 hl rfl ?_ | refine x_aload_nQ hx hb d_M_way_0 hl rfl ?_
  refine m_get hx hb hts hown hK hw ci_M (rf_at hI 0 (by decide) rfl) 0 (by decide) (wm3 72 rfl rfl) rfl d_M_way_1 ?_
  refine lv_bipush (v := nI 125) hx hb d_M_way_4 (by decide) ?_
  first | refine x_aload_n hx hb d_M_way_6 hl rfl ?_ | refine x_aload_nQ hx hb d_M_way_6 hl rfl ?_
  refine m_get hx hb hts hown hK hw ci_M (rf_at hI 0 (by decide) rfl) 3 (by decide) (wm3 75 rfl rfl) rfl d_M_way_7 ?_
  refine x_iload_n hx hb d_M_way_10 hl rfl ?_
  refine rl_3 hx hb hK hI hB hw (by omega) d_M_way_11 (fun hv11 => ?_)
  first | refine x_imul hx hb d_M_way_12 ?_ | refine lv_imul hx hb d_M_way_12 ?_
  refine x_iload_n hx hb d_M_way_13 hl rfl ?_
  first | refine x_iadd hx hb d_M_way_14 ?_ | refine lv_iadd hx hb d_M_way_14 ?_
  refine rl_0 hx hb hK hI hB hw (by omega) d_M_way_15 (fun hv15 => ?_)
  refine x_istore_n hx hb d_M_way_16 hl (Nat.le_of_ble_eq_true rfl) (lh_k (i := 2) rfl (by first | exact lk_n | exact lk_i | exact lk_r | exact lk_q | exact lk_0)) (fun ls hl => ?_)
  first | refine x_aload_n hx hb d_M_way_17 hl rfl ?_ | refine x_aload_nQ hx hb d_M_way_17 hl rfl ?_
  refine m_get hx hb hts hown hK hw ci_M (rf_at hI 0 (by decide) rfl) 0 (by decide) (wm3 72 rfl rfl) rfl d_M_way_18 ?_
  refine lv_bipush (v := nI 125) hx hb d_M_way_21 (by decide) ?_
  first | refine x_aload_n hx hb d_M_way_23 hl rfl ?_ | refine x_aload_nQ hx hb d_M_way_23 hl rfl ?_
  refine m_get hx hb hts hown hK hw ci_M (rf_at hI 0 (by decide) rfl) 1 (by decide) (wm3 73 rfl rfl) rfl d_M_way_24 ?_
  have hs24 := hB 1 0 (by decide) (by decide)
  first | refine x_imul hx hb d_M_way_27 ?_ | refine lv_imul hx hb d_M_way_27 ?_
  refine x_iload_n hx hb d_M_way_28 hl rfl ?_
  first | refine x_iadd hx hb d_M_way_29 ?_ | refine lv_iadd hx hb d_M_way_29 ?_
  refine rl_0 hx hb hK hI hB hw (by omega) d_M_way_30 (fun hv30 => ?_)
  refine x_istore hx hb d_M_way_31 hl (Nat.le_of_ble_eq_true rfl) (lh_k (i := 3) rfl (by first | exact lk_n | exact lk_i | exact lk_r | exact lk_q | exact lk_0)) (fun ls hl => ?_)
  first | refine x_aload_n hx hb d_M_way_33 hl rfl ?_ | refine x_aload_nQ hx hb d_M_way_33 hl rfl ?_
  refine m_get hx hb hts hown hK hw ci_M (rf_at hI 0 (by decide) rfl) 0 (by decide) (wm3 72 rfl rfl) rfl d_M_way_34 ?_
  refine lv_sipush (v := nI 2000) hx hb d_M_way_37 (by decide) ?_
  refine lv_bipush (v := nI 125) hx hb d_M_way_40 (by decide) ?_
  refine x_iload_n hx hb d_M_way_42 hl rfl ?_
  first | refine x_imul hx hb d_M_way_43 ?_ | refine lv_imul hx hb d_M_way_43 ?_
  first | refine x_iadd hx hb d_M_way_44 ?_ | refine lv_iadd hx hb d_M_way_44 ?_
  refine x_iload_n hx hb d_M_way_45 hl rfl ?_
  first | refine x_iadd hx hb d_M_way_46 ?_ | refine lv_iadd hx hb d_M_way_46 ?_
  refine rl_0 hx hb hK hI hB hw (by omega) d_M_way_47 (fun hv47 => ?_)
  refine x_istore hx hb d_M_way_48 hl (Nat.le_of_ble_eq_true rfl) (lh_k (i := 4) rfl (by first | exact lk_n | exact lk_i | exact lk_r | exact lk_q | exact lk_0)) (fun ls hl => ?_)
  refine x_iload hx hb d_M_way_50 hl rfl ?_
  refine x_iload_n hx hb d_M_way_52 hl rfl ?_
  refine x_icmp_ne hx hb d_M_way_53 rfl (by omega) (by omega) (fun h53 => ?_) (fun h53 => ?_)
  · refine x_iload hx hb d_M_way_58 hl rfl ?_
    refine x_iload_n hx hb d_M_way_60 hl rfl ?_
    refine x_icmp_ne hx hb d_M_way_61 rfl (by omega) (by omega) (fun h61 => ?_) (fun h61 => ?_)
    · have n1 := hN (125 * σ 3 t + q)
      have n2 := hN (125 * σ 1 0 + q)
      have n3 := hN (2000 + 125 * t + q)
      refine x_iload_n hx hb d_M_way_66 hl rfl ?_
      refine x_if_le hx hb d_M_way_67 rfl (by omega) (fun h67 => ?_) (fun h67 => ?_)
      · refine lv_iconst (v := nI 0) hx hb d_M_way_116 (by decide) ?_
        refine x_istore hx hb d_M_way_117 hl (Nat.le_of_ble_eq_true rfl) (lh_k (i := 5) rfl (by first | exact lk_n | exact lk_i | exact lk_r | exact lk_q | exact lk_0)) (fun ls hl => ?_)
        refine x_iload hx hb d_M_way_119 hl rfl ?_
        refine x_if_eq hx hb d_M_way_121 rfl (by omega) (fun h121 => ?_) (fun h121 => ?_)
        · first
            | exact absurd h121 (by omega)
            | refine lv_iconst (v := nI 3) hx hb d_M_way_160 (by decide) ?_
              exact x_reti hQ hx hb hr hlk rfl hw (by omega) (by omega) d_M_way_161 (⟨congrArg nI (by unfold wy wyf; rw [if_neg h53, if_neg h61]; first | exact (if_pos ⟨⟨h67, h72, h77, h87, h98, h109⟩, h137, h153⟩).symm | exact (if_neg (by omega)).symm), rfl⟩)
        · first
            | exact absurd h121 (by omega)
            | first | refine x_aload_n hx hb d_M_way_124 hl rfl ?_ | refine x_aload_nQ hx hb d_M_way_124 hl rfl ?_
              refine m_get hx hb hts hown hK hw ci_M (rf_at hI 0 (by decide) rfl) 10 (by decide) (wm3 82 rfl rfl) rfl d_M_way_125 ?_
              refine x_iload_n hx hb d_M_way_128 hl rfl ?_
              refine rl_10 hx hb hK hI hB hw (by omega) d_M_way_129 (fun hv129 => ?_)
              first | refine x_aload_n hx hb d_M_way_130 hl rfl ?_ | refine x_aload_nQ hx hb d_M_way_130 hl rfl ?_
              refine m_get hx hb hts hown hK hw ci_M (rf_at hI 0 (by decide) rfl) 10 (by decide) (wm3 82 rfl rfl) rfl d_M_way_131 ?_
              refine x_iload hx hb d_M_way_134 hl rfl ?_
              refine rl_10 hx hb hK hI hB hw (by omega) d_M_way_136 (fun hv136 => ?_)
              refine x_icmp_ne hx hb d_M_way_137 rfl (by omega) (by omega) (fun h137 => ?_) (fun h137 => ?_)
              · refine lv_iconst (v := nI 3) hx hb d_M_way_160 (by decide) ?_
                exact x_reti hQ hx hb hr hlk rfl hw (by omega) (by omega) d_M_way_161 (⟨congrArg nI (by unfold wy wyf; rw [if_neg h53, if_neg h61]; first | exact (if_pos ⟨⟨h67, h72, h77, h87, h98, h109⟩, h137, h153⟩).symm | exact (if_neg (by omega)).symm), rfl⟩)
              · first | refine x_aload_n hx hb d_M_way_140 hl rfl ?_ | refine x_aload_nQ hx hb d_M_way_140 hl rfl ?_
                refine m_get hx hb hts hown hK hw ci_M (rf_at hI 0 (by decide) rfl) 10 (by decide) (wm3 82 rfl rfl) rfl d_M_way_141 ?_
                refine x_iload_n hx hb d_M_way_144 hl rfl ?_
                refine rl_10 hx hb hK hI hB hw (by omega) d_M_way_145 (fun hv145 => ?_)
                first | refine x_aload_n hx hb d_M_way_146 hl rfl ?_ | refine x_aload_nQ hx hb d_M_way_146 hl rfl ?_
                refine m_get hx hb hts hown hK hw ci_M (rf_at hI 0 (by decide) rfl) 10 (by decide) (wm3 82 rfl rfl) rfl d_M_way_147 ?_
                refine x_iload hx hb d_M_way_150 hl rfl ?_
                refine rl_10 hx hb hK hI hB hw (by omega) d_M_way_152 (fun hv152 => ?_)
                refine x_icmp_ne hx hb d_M_way_153 rfl (by omega) (by omega) (fun h153 => ?_) (fun h153 => ?_)
                · refine lv_iconst (v := nI 3) hx hb d_M_way_160 (by decide) ?_
                  exact x_reti hQ hx hb hr hlk rfl hw (by omega) (by omega) d_M_way_161 (⟨congrArg nI (by unfold wy wyf; rw [if_neg h53, if_neg h61]; first | exact (if_pos ⟨⟨h67, h72, h77, h87, h98, h109⟩, h137, h153⟩).symm | exact (if_neg (by omega)).symm), rfl⟩)
                · refine lv_iconst (v := nI 2) hx hb d_M_way_156 (by decide) ?_
                  refine lv_goto hx hb d_M_way_157 rfl ?_
                  exact x_reti hQ hx hb hr hlk rfl hw (by omega) (by omega) d_M_way_161 (⟨congrArg nI (by unfold wy wyf; rw [if_neg h53, if_neg h61]; first | exact (if_pos ⟨⟨h67, h72, h77, h87, h98, h109⟩, h137, h153⟩).symm | exact (if_neg (by omega)).symm), rfl⟩)
      · refine x_iload hx hb d_M_way_70 hl rfl ?_
        refine x_if_le hx hb d_M_way_72 rfl (by omega) (fun h72 => ?_) (fun h72 => ?_)
        · refine lv_iconst (v := nI 0) hx hb d_M_way_116 (by decide) ?_
          refine x_istore hx hb d_M_way_117 hl (Nat.le_of_ble_eq_true rfl) (lh_k (i := 5) rfl (by first | exact lk_n | exact lk_i | exact lk_r | exact lk_q | exact lk_0)) (fun ls hl => ?_)
          refine x_iload hx hb d_M_way_119 hl rfl ?_
          refine x_if_eq hx hb d_M_way_121 rfl (by omega) (fun h121 => ?_) (fun h121 => ?_)
          · first
              | exact absurd h121 (by omega)
              | refine lv_iconst (v := nI 3) hx hb d_M_way_160 (by decide) ?_
                exact x_reti hQ hx hb hr hlk rfl hw (by omega) (by omega) d_M_way_161 (⟨congrArg nI (by unfold wy wyf; rw [if_neg h53, if_neg h61]; first | exact (if_pos ⟨⟨h67, h72, h77, h87, h98, h109⟩, h137, h153⟩).symm | exact (if_neg (by omega)).symm), rfl⟩)
          · first
              | exact absurd h121 (by omega)
              | first | refine x_aload_n hx hb d_M_way_124 hl rfl ?_ | refine x_aload_nQ hx hb d_M_way_124 hl rfl ?_
                refine m_get hx hb hts hown hK hw ci_M (rf_at hI 0 (by decide) rfl) 10 (by decide) (wm3 82 rfl rfl) rfl d_M_way_125 ?_
                refine x_iload_n hx hb d_M_way_128 hl rfl ?_
                refine rl_10 hx hb hK hI hB hw (by omega) d_M_way_129 (fun hv129 => ?_)
                first | refine x_aload_n hx hb d_M_way_130 hl rfl ?_ | refine x_aload_nQ hx hb d_M_way_130 hl rfl ?_
                refine m_get hx hb hts hown hK hw ci_M (rf_at hI 0 (by decide) rfl) 10 (by decide) (wm3 82 rfl rfl) rfl d_M_way_131 ?_
                refine x_iload hx hb d_M_way_134 hl rfl ?_
                refine rl_10 hx hb hK hI hB hw (by omega) d_M_way_136 (fun hv136 => ?_)
                refine x_icmp_ne hx hb d_M_way_137 rfl (by omega) (by omega) (fun h137 => ?_) (fun h137 => ?_)
                · refine lv_iconst (v := nI 3) hx hb d_M_way_160 (by decide) ?_
                  exact x_reti hQ hx hb hr hlk rfl hw (by omega) (by omega) d_M_way_161 (⟨congrArg nI (by unfold wy wyf; rw [if_neg h53, if_neg h61]; first | exact (if_pos ⟨⟨h67, h72, h77, h87, h98, h109⟩, h137, h153⟩).symm | exact (if_neg (by omega)).symm), rfl⟩)
                · first | refine x_aload_n hx hb d_M_way_140 hl rfl ?_ | refine x_aload_nQ hx hb d_M_way_140 hl rfl ?_
                  refine m_get hx hb hts hown hK hw ci_M (rf_at hI 0 (by decide) rfl) 10 (by decide) (wm3 82 rfl rfl) rfl d_M_way_141 ?_
                  refine x_iload_n hx hb d_M_way_144 hl rfl ?_
                  refine rl_10 hx hb hK hI hB hw (by omega) d_M_way_145 (fun hv145 => ?_)
                  first | refine x_aload_n hx hb d_M_way_146 hl rfl ?_ | refine x_aload_nQ hx hb d_M_way_146 hl rfl ?_
                  refine m_get hx hb hts hown hK hw ci_M (rf_at hI 0 (by decide) rfl) 10 (by decide) (wm3 82 rfl rfl) rfl d_M_way_147 ?_
                  refine x_iload hx hb d_M_way_150 hl rfl ?_
                  refine rl_10 hx hb hK hI hB hw (by omega) d_M_way_152 (fun hv152 => ?_)
                  refine x_icmp_ne hx hb d_M_way_153 rfl (by omega) (by omega) (fun h153 => ?_) (fun h153 => ?_)
                  · refine lv_iconst (v := nI 3) hx hb d_M_way_160 (by decide) ?_
                    exact x_reti hQ hx hb hr hlk rfl hw (by omega) (by omega) d_M_way_161 (⟨congrArg nI (by unfold wy wyf; rw [if_neg h53, if_neg h61]; first | exact (if_pos ⟨⟨h67, h72, h77, h87, h98, h109⟩, h137, h153⟩).symm | exact (if_neg (by omega)).symm), rfl⟩)
                  · refine lv_iconst (v := nI 2) hx hb d_M_way_156 (by decide) ?_
                    refine lv_goto hx hb d_M_way_157 rfl ?_
                    exact x_reti hQ hx hb hr hlk rfl hw (by omega) (by omega) d_M_way_161 (⟨congrArg nI (by unfold wy wyf; rw [if_neg h53, if_neg h61]; first | exact (if_pos ⟨⟨h67, h72, h77, h87, h98, h109⟩, h137, h153⟩).symm | exact (if_neg (by omega)).symm), rfl⟩)
        · refine x_iload hx hb d_M_way_75 hl rfl ?_
          refine x_if_le hx hb d_M_way_77 rfl (by omega) (fun h77 => ?_) (fun h77 => ?_)
          · refine lv_iconst (v := nI 0) hx hb d_M_way_116 (by decide) ?_
            refine x_istore hx hb d_M_way_117 hl (Nat.le_of_ble_eq_true rfl) (lh_k (i := 5) rfl (by first | exact lk_n | exact lk_i | exact lk_r | exact lk_q | exact lk_0)) (fun ls hl => ?_)
            refine x_iload hx hb d_M_way_119 hl rfl ?_
            refine x_if_eq hx hb d_M_way_121 rfl (by omega) (fun h121 => ?_) (fun h121 => ?_)
            · first
                | exact absurd h121 (by omega)
                | refine lv_iconst (v := nI 3) hx hb d_M_way_160 (by decide) ?_
                  exact x_reti hQ hx hb hr hlk rfl hw (by omega) (by omega) d_M_way_161 (⟨congrArg nI (by unfold wy wyf; rw [if_neg h53, if_neg h61]; first | exact (if_pos ⟨⟨h67, h72, h77, h87, h98, h109⟩, h137, h153⟩).symm | exact (if_neg (by omega)).symm), rfl⟩)
            · first
                | exact absurd h121 (by omega)
                | first | refine x_aload_n hx hb d_M_way_124 hl rfl ?_ | refine x_aload_nQ hx hb d_M_way_124 hl rfl ?_
                  refine m_get hx hb hts hown hK hw ci_M (rf_at hI 0 (by decide) rfl) 10 (by decide) (wm3 82 rfl rfl) rfl d_M_way_125 ?_
                  refine x_iload_n hx hb d_M_way_128 hl rfl ?_
                  refine rl_10 hx hb hK hI hB hw (by omega) d_M_way_129 (fun hv129 => ?_)
                  first | refine x_aload_n hx hb d_M_way_130 hl rfl ?_ | refine x_aload_nQ hx hb d_M_way_130 hl rfl ?_
                  refine m_get hx hb hts hown hK hw ci_M (rf_at hI 0 (by decide) rfl) 10 (by decide) (wm3 82 rfl rfl) rfl d_M_way_131 ?_
                  refine x_iload hx hb d_M_way_134 hl rfl ?_
                  refine rl_10 hx hb hK hI hB hw (by omega) d_M_way_136 (fun hv136 => ?_)
                  refine x_icmp_ne hx hb d_M_way_137 rfl (by omega) (by omega) (fun h137 => ?_) (fun h137 => ?_)
                  · refine lv_iconst (v := nI 3) hx hb d_M_way_160 (by decide) ?_
                    exact x_reti hQ hx hb hr hlk rfl hw (by omega) (by omega) d_M_way_161 (⟨congrArg nI (by unfold wy wyf; rw [if_neg h53, if_neg h61]; first | exact (if_pos ⟨⟨h67, h72, h77, h87, h98, h109⟩, h137, h153⟩).symm | exact (if_neg (by omega)).symm), rfl⟩)
                  · first | refine x_aload_n hx hb d_M_way_140 hl rfl ?_ | refine x_aload_nQ hx hb d_M_way_140 hl rfl ?_
                    refine m_get hx hb hts hown hK hw ci_M (rf_at hI 0 (by decide) rfl) 10 (by decide) (wm3 82 rfl rfl) rfl d_M_way_141 ?_
                    refine x_iload_n hx hb d_M_way_144 hl rfl ?_
                    refine rl_10 hx hb hK hI hB hw (by omega) d_M_way_145 (fun hv145 => ?_)
                    first | refine x_aload_n hx hb d_M_way_146 hl rfl ?_ | refine x_aload_nQ hx hb d_M_way_146 hl rfl ?_
                    refine m_get hx hb hts hown hK hw ci_M (rf_at hI 0 (by decide) rfl) 10 (by decide) (wm3 82 rfl rfl) rfl d_M_way_147 ?_
                    refine x_iload hx hb d_M_way_150 hl rfl ?_
                    refine rl_10 hx hb hK hI hB hw (by omega) d_M_way_152 (fun hv152 => ?_)
                    refine x_icmp_ne hx hb d_M_way_153 rfl (by omega) (by omega) (fun h153 => ?_) (fun h153 => ?_)
                    · refine lv_iconst (v := nI 3) hx hb d_M_way_160 (by decide) ?_
                      exact x_reti hQ hx hb hr hlk rfl hw (by omega) (by omega) d_M_way_161 (⟨congrArg nI (by unfold wy wyf; rw [if_neg h53, if_neg h61]; first | exact (if_pos ⟨⟨h67, h72, h77, h87, h98, h109⟩, h137, h153⟩).symm | exact (if_neg (by omega)).symm), rfl⟩)
                    · refine lv_iconst (v := nI 2) hx hb d_M_way_156 (by decide) ?_
                      refine lv_goto hx hb d_M_way_157 rfl ?_
                      exact x_reti hQ hx hb hr hlk rfl hw (by omega) (by omega) d_M_way_161 (⟨congrArg nI (by unfold wy wyf; rw [if_neg h53, if_neg h61]; first | exact (if_pos ⟨⟨h67, h72, h77, h87, h98, h109⟩, h137, h153⟩).symm | exact (if_neg (by omega)).symm), rfl⟩)
          · first | refine x_aload_n hx hb d_M_way_80 hl rfl ?_ | refine x_aload_nQ hx hb d_M_way_80 hl rfl ?_
            refine m_get hx hb hts hown hK hw ci_M (rf_at hI 0 (by decide) rfl) 6 (by decide) (wm3 78 rfl rfl) rfl d_M_way_81 ?_
            refine x_iload_n hx hb d_M_way_84 hl rfl ?_
            refine rl_6 hx hb hK hI hB hw (by omega) d_M_way_85 (fun hv85 => ?_)
            refine lv_iconst (v := nI 1) hx hb d_M_way_86 (by decide) ?_
            refine x_icmp_ne hx hb d_M_way_87 rfl (by omega) (by omega) (fun h87 => ?_) (fun h87 => ?_)
            · refine lv_iconst (v := nI 0) hx hb d_M_way_116 (by decide) ?_
              refine x_istore hx hb d_M_way_117 hl (Nat.le_of_ble_eq_true rfl) (lh_k (i := 5) rfl (by first | exact lk_n | exact lk_i | exact lk_r | exact lk_q | exact lk_0)) (fun ls hl => ?_)
              refine x_iload hx hb d_M_way_119 hl rfl ?_
              refine x_if_eq hx hb d_M_way_121 rfl (by omega) (fun h121 => ?_) (fun h121 => ?_)
              · first
                  | exact absurd h121 (by omega)
                  | refine lv_iconst (v := nI 3) hx hb d_M_way_160 (by decide) ?_
                    exact x_reti hQ hx hb hr hlk rfl hw (by omega) (by omega) d_M_way_161 (⟨congrArg nI (by unfold wy wyf; rw [if_neg h53, if_neg h61]; first | exact (if_pos ⟨⟨h67, h72, h77, h87, h98, h109⟩, h137, h153⟩).symm | exact (if_neg (by omega)).symm), rfl⟩)
              · first
                  | exact absurd h121 (by omega)
                  | first | refine x_aload_n hx hb d_M_way_124 hl rfl ?_ | refine x_aload_nQ hx hb d_M_way_124 hl rfl ?_
                    refine m_get hx hb hts hown hK hw ci_M (rf_at hI 0 (by decide) rfl) 10 (by decide) (wm3 82 rfl rfl) rfl d_M_way_125 ?_
                    refine x_iload_n hx hb d_M_way_128 hl rfl ?_
                    refine rl_10 hx hb hK hI hB hw (by omega) d_M_way_129 (fun hv129 => ?_)
                    first | refine x_aload_n hx hb d_M_way_130 hl rfl ?_ | refine x_aload_nQ hx hb d_M_way_130 hl rfl ?_
                    refine m_get hx hb hts hown hK hw ci_M (rf_at hI 0 (by decide) rfl) 10 (by decide) (wm3 82 rfl rfl) rfl d_M_way_131 ?_
                    refine x_iload hx hb d_M_way_134 hl rfl ?_
                    refine rl_10 hx hb hK hI hB hw (by omega) d_M_way_136 (fun hv136 => ?_)
                    refine x_icmp_ne hx hb d_M_way_137 rfl (by omega) (by omega) (fun h137 => ?_) (fun h137 => ?_)
                    · refine lv_iconst (v := nI 3) hx hb d_M_way_160 (by decide) ?_
                      exact x_reti hQ hx hb hr hlk rfl hw (by omega) (by omega) d_M_way_161 (⟨congrArg nI (by unfold wy wyf; rw [if_neg h53, if_neg h61]; first | exact (if_pos ⟨⟨h67, h72, h77, h87, h98, h109⟩, h137, h153⟩).symm | exact (if_neg (by omega)).symm), rfl⟩)
                    · first | refine x_aload_n hx hb d_M_way_140 hl rfl ?_ | refine x_aload_nQ hx hb d_M_way_140 hl rfl ?_
                      refine m_get hx hb hts hown hK hw ci_M (rf_at hI 0 (by decide) rfl) 10 (by decide) (wm3 82 rfl rfl) rfl d_M_way_141 ?_
                      refine x_iload_n hx hb d_M_way_144 hl rfl ?_
                      refine rl_10 hx hb hK hI hB hw (by omega) d_M_way_145 (fun hv145 => ?_)
                      first | refine x_aload_n hx hb d_M_way_146 hl rfl ?_ | refine x_aload_nQ hx hb d_M_way_146 hl rfl ?_
                      refine m_get hx hb hts hown hK hw ci_M (rf_at hI 0 (by decide) rfl) 10 (by decide) (wm3 82 rfl rfl) rfl d_M_way_147 ?_
                      refine x_iload hx hb d_M_way_150 hl rfl ?_
                      refine rl_10 hx hb hK hI hB hw (by omega) d_M_way_152 (fun hv152 => ?_)
                      refine x_icmp_ne hx hb d_M_way_153 rfl (by omega) (by omega) (fun h153 => ?_) (fun h153 => ?_)
                      · refine lv_iconst (v := nI 3) hx hb d_M_way_160 (by decide) ?_
                        exact x_reti hQ hx hb hr hlk rfl hw (by omega) (by omega) d_M_way_161 (⟨congrArg nI (by unfold wy wyf; rw [if_neg h53, if_neg h61]; first | exact (if_pos ⟨⟨h67, h72, h77, h87, h98, h109⟩, h137, h153⟩).symm | exact (if_neg (by omega)).symm), rfl⟩)
                      · refine lv_iconst (v := nI 2) hx hb d_M_way_156 (by decide) ?_
                        refine lv_goto hx hb d_M_way_157 rfl ?_
                        exact x_reti hQ hx hb hr hlk rfl hw (by omega) (by omega) d_M_way_161 (⟨congrArg nI (by unfold wy wyf; rw [if_neg h53, if_neg h61]; first | exact (if_pos ⟨⟨h67, h72, h77, h87, h98, h109⟩, h137, h153⟩).symm | exact (if_neg (by omega)).symm), rfl⟩)
            · first | refine x_aload_n hx hb d_M_way_90 hl rfl ?_ | refine x_aload_nQ hx hb d_M_way_90 hl rfl ?_
              refine m_get hx hb hts hown hK hw ci_M (rf_at hI 0 (by decide) rfl) 6 (by decide) (wm3 78 rfl rfl) rfl d_M_way_91 ?_
              refine x_iload hx hb d_M_way_94 hl rfl ?_
              refine rl_6 hx hb hK hI hB hw (by omega) d_M_way_96 (fun hv96 => ?_)
              refine lv_iconst (v := nI 1) hx hb d_M_way_97 (by decide) ?_
              refine x_icmp_ne hx hb d_M_way_98 rfl (by omega) (by omega) (fun h98 => ?_) (fun h98 => ?_)
              · refine lv_iconst (v := nI 0) hx hb d_M_way_116 (by decide) ?_
                refine x_istore hx hb d_M_way_117 hl (Nat.le_of_ble_eq_true rfl) (lh_k (i := 5) rfl (by first | exact lk_n | exact lk_i | exact lk_r | exact lk_q | exact lk_0)) (fun ls hl => ?_)
                refine x_iload hx hb d_M_way_119 hl rfl ?_
                refine x_if_eq hx hb d_M_way_121 rfl (by omega) (fun h121 => ?_) (fun h121 => ?_)
                · first
                    | exact absurd h121 (by omega)
                    | refine lv_iconst (v := nI 3) hx hb d_M_way_160 (by decide) ?_
                      exact x_reti hQ hx hb hr hlk rfl hw (by omega) (by omega) d_M_way_161 (⟨congrArg nI (by unfold wy wyf; rw [if_neg h53, if_neg h61]; first | exact (if_pos ⟨⟨h67, h72, h77, h87, h98, h109⟩, h137, h153⟩).symm | exact (if_neg (by omega)).symm), rfl⟩)
                · first
                    | exact absurd h121 (by omega)
                    | first | refine x_aload_n hx hb d_M_way_124 hl rfl ?_ | refine x_aload_nQ hx hb d_M_way_124 hl rfl ?_
                      refine m_get hx hb hts hown hK hw ci_M (rf_at hI 0 (by decide) rfl) 10 (by decide) (wm3 82 rfl rfl) rfl d_M_way_125 ?_
                      refine x_iload_n hx hb d_M_way_128 hl rfl ?_
                      refine rl_10 hx hb hK hI hB hw (by omega) d_M_way_129 (fun hv129 => ?_)
                      first | refine x_aload_n hx hb d_M_way_130 hl rfl ?_ | refine x_aload_nQ hx hb d_M_way_130 hl rfl ?_
                      refine m_get hx hb hts hown hK hw ci_M (rf_at hI 0 (by decide) rfl) 10 (by decide) (wm3 82 rfl rfl) rfl d_M_way_131 ?_
                      refine x_iload hx hb d_M_way_134 hl rfl ?_
                      refine rl_10 hx hb hK hI hB hw (by omega) d_M_way_136 (fun hv136 => ?_)
                      refine x_icmp_ne hx hb d_M_way_137 rfl (by omega) (by omega) (fun h137 => ?_) (fun h137 => ?_)
                      · refine lv_iconst (v := nI 3) hx hb d_M_way_160 (by decide) ?_
                        exact x_reti hQ hx hb hr hlk rfl hw (by omega) (by omega) d_M_way_161 (⟨congrArg nI (by unfold wy wyf; rw [if_neg h53, if_neg h61]; first | exact (if_pos ⟨⟨h67, h72, h77, h87, h98, h109⟩, h137, h153⟩).symm | exact (if_neg (by omega)).symm), rfl⟩)
                      · first | refine x_aload_n hx hb d_M_way_140 hl rfl ?_ | refine x_aload_nQ hx hb d_M_way_140 hl rfl ?_
                        refine m_get hx hb hts hown hK hw ci_M (rf_at hI 0 (by decide) rfl) 10 (by decide) (wm3 82 rfl rfl) rfl d_M_way_141 ?_
                        refine x_iload_n hx hb d_M_way_144 hl rfl ?_
                        refine rl_10 hx hb hK hI hB hw (by omega) d_M_way_145 (fun hv145 => ?_)
                        first | refine x_aload_n hx hb d_M_way_146 hl rfl ?_ | refine x_aload_nQ hx hb d_M_way_146 hl rfl ?_
                        refine m_get hx hb hts hown hK hw ci_M (rf_at hI 0 (by decide) rfl) 10 (by decide) (wm3 82 rfl rfl) rfl d_M_way_147 ?_
                        refine x_iload hx hb d_M_way_150 hl rfl ?_
                        refine rl_10 hx hb hK hI hB hw (by omega) d_M_way_152 (fun hv152 => ?_)
                        refine x_icmp_ne hx hb d_M_way_153 rfl (by omega) (by omega) (fun h153 => ?_) (fun h153 => ?_)
                        · refine lv_iconst (v := nI 3) hx hb d_M_way_160 (by decide) ?_
                          exact x_reti hQ hx hb hr hlk rfl hw (by omega) (by omega) d_M_way_161 (⟨congrArg nI (by unfold wy wyf; rw [if_neg h53, if_neg h61]; first | exact (if_pos ⟨⟨h67, h72, h77, h87, h98, h109⟩, h137, h153⟩).symm | exact (if_neg (by omega)).symm), rfl⟩)
                        · refine lv_iconst (v := nI 2) hx hb d_M_way_156 (by decide) ?_
                          refine lv_goto hx hb d_M_way_157 rfl ?_
                          exact x_reti hQ hx hb hr hlk rfl hw (by omega) (by omega) d_M_way_161 (⟨congrArg nI (by unfold wy wyf; rw [if_neg h53, if_neg h61]; first | exact (if_pos ⟨⟨h67, h72, h77, h87, h98, h109⟩, h137, h153⟩).symm | exact (if_neg (by omega)).symm), rfl⟩)
              · first | refine x_aload_n hx hb d_M_way_101 hl rfl ?_ | refine x_aload_nQ hx hb d_M_way_101 hl rfl ?_
                refine m_get hx hb hts hown hK hw ci_M (rf_at hI 0 (by decide) rfl) 6 (by decide) (wm3 78 rfl rfl) rfl d_M_way_102 ?_
                refine x_iload hx hb d_M_way_105 hl rfl ?_
                refine rl_6 hx hb hK hI hB hw (by omega) d_M_way_107 (fun hv107 => ?_)
                refine lv_iconst (v := nI 1) hx hb d_M_way_108 (by decide) ?_
                refine x_icmp_ne hx hb d_M_way_109 rfl (by omega) (by omega) (fun h109 => ?_) (fun h109 => ?_)
                · refine lv_iconst (v := nI 0) hx hb d_M_way_116 (by decide) ?_
                  refine x_istore hx hb d_M_way_117 hl (Nat.le_of_ble_eq_true rfl) (lh_k (i := 5) rfl (by first | exact lk_n | exact lk_i | exact lk_r | exact lk_q | exact lk_0)) (fun ls hl => ?_)
                  refine x_iload hx hb d_M_way_119 hl rfl ?_
                  refine x_if_eq hx hb d_M_way_121 rfl (by omega) (fun h121 => ?_) (fun h121 => ?_)
                  · first
                      | exact absurd h121 (by omega)
                      | refine lv_iconst (v := nI 3) hx hb d_M_way_160 (by decide) ?_
                        exact x_reti hQ hx hb hr hlk rfl hw (by omega) (by omega) d_M_way_161 (⟨congrArg nI (by unfold wy wyf; rw [if_neg h53, if_neg h61]; first | exact (if_pos ⟨⟨h67, h72, h77, h87, h98, h109⟩, h137, h153⟩).symm | exact (if_neg (by omega)).symm), rfl⟩)
                  · first
                      | exact absurd h121 (by omega)
                      | first | refine x_aload_n hx hb d_M_way_124 hl rfl ?_ | refine x_aload_nQ hx hb d_M_way_124 hl rfl ?_
                        refine m_get hx hb hts hown hK hw ci_M (rf_at hI 0 (by decide) rfl) 10 (by decide) (wm3 82 rfl rfl) rfl d_M_way_125 ?_
                        refine x_iload_n hx hb d_M_way_128 hl rfl ?_
                        refine rl_10 hx hb hK hI hB hw (by omega) d_M_way_129 (fun hv129 => ?_)
                        first | refine x_aload_n hx hb d_M_way_130 hl rfl ?_ | refine x_aload_nQ hx hb d_M_way_130 hl rfl ?_
                        refine m_get hx hb hts hown hK hw ci_M (rf_at hI 0 (by decide) rfl) 10 (by decide) (wm3 82 rfl rfl) rfl d_M_way_131 ?_
                        refine x_iload hx hb d_M_way_134 hl rfl ?_
                        refine rl_10 hx hb hK hI hB hw (by omega) d_M_way_136 (fun hv136 => ?_)
                        refine x_icmp_ne hx hb d_M_way_137 rfl (by omega) (by omega) (fun h137 => ?_) (fun h137 => ?_)
                        · refine lv_iconst (v := nI 3) hx hb d_M_way_160 (by decide) ?_
                          exact x_reti hQ hx hb hr hlk rfl hw (by omega) (by omega) d_M_way_161 (⟨congrArg nI (by unfold wy wyf; rw [if_neg h53, if_neg h61]; first | exact (if_pos ⟨⟨h67, h72, h77, h87, h98, h109⟩, h137, h153⟩).symm | exact (if_neg (by omega)).symm), rfl⟩)
                        · first | refine x_aload_n hx hb d_M_way_140 hl rfl ?_ | refine x_aload_nQ hx hb d_M_way_140 hl rfl ?_
                          refine m_get hx hb hts hown hK hw ci_M (rf_at hI 0 (by decide) rfl) 10 (by decide) (wm3 82 rfl rfl) rfl d_M_way_141 ?_
                          refine x_iload_n hx hb d_M_way_144 hl rfl ?_
                          refine rl_10 hx hb hK hI hB hw (by omega) d_M_way_145 (fun hv145 => ?_)
                          first | refine x_aload_n hx hb d_M_way_146 hl rfl ?_ | refine x_aload_nQ hx hb d_M_way_146 hl rfl ?_
                          refine m_get hx hb hts hown hK hw ci_M (rf_at hI 0 (by decide) rfl) 10 (by decide) (wm3 82 rfl rfl) rfl d_M_way_147 ?_
                          refine x_iload hx hb d_M_way_150 hl rfl ?_
                          refine rl_10 hx hb hK hI hB hw (by omega) d_M_way_152 (fun hv152 => ?_)
                          refine x_icmp_ne hx hb d_M_way_153 rfl (by omega) (by omega) (fun h153 => ?_) (fun h153 => ?_)
                          · refine lv_iconst (v := nI 3) hx hb d_M_way_160 (by decide) ?_
                            exact x_reti hQ hx hb hr hlk rfl hw (by omega) (by omega) d_M_way_161 (⟨congrArg nI (by unfold wy wyf; rw [if_neg h53, if_neg h61]; first | exact (if_pos ⟨⟨h67, h72, h77, h87, h98, h109⟩, h137, h153⟩).symm | exact (if_neg (by omega)).symm), rfl⟩)
                          · refine lv_iconst (v := nI 2) hx hb d_M_way_156 (by decide) ?_
                            refine lv_goto hx hb d_M_way_157 rfl ?_
                            exact x_reti hQ hx hb hr hlk rfl hw (by omega) (by omega) d_M_way_161 (⟨congrArg nI (by unfold wy wyf; rw [if_neg h53, if_neg h61]; first | exact (if_pos ⟨⟨h67, h72, h77, h87, h98, h109⟩, h137, h153⟩).symm | exact (if_neg (by omega)).symm), rfl⟩)
                · refine lv_iconst (v := nI 1) hx hb d_M_way_112 (by decide) ?_
                  refine lv_goto hx hb d_M_way_113 rfl ?_
                  refine x_istore hx hb d_M_way_117 hl (Nat.le_of_ble_eq_true rfl) (lh_k (i := 5) rfl (by first | exact lk_n | exact lk_i | exact lk_r | exact lk_q | exact lk_0)) (fun ls hl => ?_)
                  refine x_iload hx hb d_M_way_119 hl rfl ?_
                  refine x_if_eq hx hb d_M_way_121 rfl (by omega) (fun h121 => ?_) (fun h121 => ?_)
                  · first
                      | exact absurd h121 (by omega)
                      | refine lv_iconst (v := nI 3) hx hb d_M_way_160 (by decide) ?_
                        exact x_reti hQ hx hb hr hlk rfl hw (by omega) (by omega) d_M_way_161 (⟨congrArg nI (by unfold wy wyf; rw [if_neg h53, if_neg h61]; first | exact (if_pos ⟨⟨h67, h72, h77, h87, h98, h109⟩, h137, h153⟩).symm | exact (if_neg (by omega)).symm), rfl⟩)
                  · first
                      | exact absurd h121 (by omega)
                      | first | refine x_aload_n hx hb d_M_way_124 hl rfl ?_ | refine x_aload_nQ hx hb d_M_way_124 hl rfl ?_
                        refine m_get hx hb hts hown hK hw ci_M (rf_at hI 0 (by decide) rfl) 10 (by decide) (wm3 82 rfl rfl) rfl d_M_way_125 ?_
                        refine x_iload_n hx hb d_M_way_128 hl rfl ?_
                        refine rl_10 hx hb hK hI hB hw (by omega) d_M_way_129 (fun hv129 => ?_)
                        first | refine x_aload_n hx hb d_M_way_130 hl rfl ?_ | refine x_aload_nQ hx hb d_M_way_130 hl rfl ?_
                        refine m_get hx hb hts hown hK hw ci_M (rf_at hI 0 (by decide) rfl) 10 (by decide) (wm3 82 rfl rfl) rfl d_M_way_131 ?_
                        refine x_iload hx hb d_M_way_134 hl rfl ?_
                        refine rl_10 hx hb hK hI hB hw (by omega) d_M_way_136 (fun hv136 => ?_)
                        refine x_icmp_ne hx hb d_M_way_137 rfl (by omega) (by omega) (fun h137 => ?_) (fun h137 => ?_)
                        · refine lv_iconst (v := nI 3) hx hb d_M_way_160 (by decide) ?_
                          exact x_reti hQ hx hb hr hlk rfl hw (by omega) (by omega) d_M_way_161 (⟨congrArg nI (by unfold wy wyf; rw [if_neg h53, if_neg h61]; first | exact (if_pos ⟨⟨h67, h72, h77, h87, h98, h109⟩, h137, h153⟩).symm | exact (if_neg (by omega)).symm), rfl⟩)
                        · first | refine x_aload_n hx hb d_M_way_140 hl rfl ?_ | refine x_aload_nQ hx hb d_M_way_140 hl rfl ?_
                          refine m_get hx hb hts hown hK hw ci_M (rf_at hI 0 (by decide) rfl) 10 (by decide) (wm3 82 rfl rfl) rfl d_M_way_141 ?_
                          refine x_iload_n hx hb d_M_way_144 hl rfl ?_
                          refine rl_10 hx hb hK hI hB hw (by omega) d_M_way_145 (fun hv145 => ?_)
                          first | refine x_aload_n hx hb d_M_way_146 hl rfl ?_ | refine x_aload_nQ hx hb d_M_way_146 hl rfl ?_
                          refine m_get hx hb hts hown hK hw ci_M (rf_at hI 0 (by decide) rfl) 10 (by decide) (wm3 82 rfl rfl) rfl d_M_way_147 ?_
                          refine x_iload hx hb d_M_way_150 hl rfl ?_
                          refine rl_10 hx hb hK hI hB hw (by omega) d_M_way_152 (fun hv152 => ?_)
                          refine x_icmp_ne hx hb d_M_way_153 rfl (by omega) (by omega) (fun h153 => ?_) (fun h153 => ?_)
                          · refine lv_iconst (v := nI 3) hx hb d_M_way_160 (by decide) ?_
                            exact x_reti hQ hx hb hr hlk rfl hw (by omega) (by omega) d_M_way_161 (⟨congrArg nI (by unfold wy wyf; rw [if_neg h53, if_neg h61]; first | exact (if_pos ⟨⟨h67, h72, h77, h87, h98, h109⟩, h137, h153⟩).symm | exact (if_neg (by omega)).symm), rfl⟩)
                          · refine lv_iconst (v := nI 2) hx hb d_M_way_156 (by decide) ?_
                            refine lv_goto hx hb d_M_way_157 rfl ?_
                            exact x_reti hQ hx hb hr hlk rfl hw (by omega) (by omega) d_M_way_161 (⟨congrArg nI (by unfold wy wyf; rw [if_neg h53, if_neg h61]; first | exact (if_pos ⟨⟨h67, h72, h77, h87, h98, h109⟩, h137, h153⟩).symm | exact (if_neg (by omega)).symm), rfl⟩)
    · refine lv_iconst (v := nI 1) hx hb d_M_way_64 (by decide) ?_
      exact x_reti hQ hx hb hr hlk rfl hw (by omega) (by omega) d_M_way_65 (⟨congrArg nI (by unfold wy wyf; rw [if_neg h53]; exact (if_pos h61).symm), rfl⟩)
  · refine lv_iconst (v := nI 0) hx hb d_M_way_56 (by decide) ?_
    exact x_reti hQ hx hb hr hlk rfl hw (by omega) (by omega) d_M_way_57 (⟨congrArg nI (by unfold wy wyf; exact (if_pos h53).symm), rfl⟩)

set_option maxHeartbeats 4000000 in
set_option maxRecDepth 100000 in
theorem c_M_take {l : Launch} {E : Ev} {σ : SS} {ad : Nat → Nat} (hI : rfI ad) (hB : rB σ) {sz : Nat} {t q : Nat} (ht : t < 3) (hq : q < 125) (hy : σ 1 0 ≤ 15) : MCv l E y_M_take prog_10_method_22_code 4 none 2 41 0 0 [.ref (ad 0), .int (nI t), .int (nI q)] (rfM E σ ad) sz (fun M' => M' = rfM E (tkn σ t q 125) ad ∧ rB (tkn σ t q 125)) := by
  refine mc_of R_M rfl [some (.ref (ad 0)), some (.int (nI t)), some (.int (nI q)), none] (by decide) (Nat.le_of_ble_eq_true rfl) rfl ?_
  intro p e R s m ag below meth c ls Q A X hAe hQ hR hsz hw hl
  rw [← hAe] at hQ
  obtain ⟨⟨hx, hb, hml, hown, hts⟩, hE, hA, hr, hlk, hnm⟩ := X
  have hK := hE.1
  have loop : ∀ (k i : Nat) (H : Heap) (locs : List Loc) (ls : Array Slot), i + k = 125 → mw E.1 vwCl A s.heap (rfM E (tkn σ t q i) ad) H locs → lh ls [some (.ref (ad 0)), some (.int (nI t)), some (.int (nI q)), some (.int (nI i))] → W p l e R s m ag below meth c H locs 0 0 Q (F0 m 2 ls []) := by
    intro k
    induction k with
    | zero =>
      intro i H locs ls hi hw hl
      obtain rfl : i = 125 := by omega
      refine x_iload_n hx hb d_M_take_2 hl rfl ?_
      refine lv_bipush (v := nI 125) hx hb d_M_take_3 (by decide) ?_
      refine x_icmp_ge hx hb d_M_take_5 rfl (by omega) (by omega) (fun h5 => ?_) (fun h5 => ?_)
      · exact x_retv hQ hx hb hr hlk hw (by omega) (by omega) d_M_take_58 (⟨rfl, rB_rng (fun k => hB 0 _ (by decide) (by decide)) hB⟩)
      · exact absurd h5 (by omega)
    | succ k ih =>
      intro i H locs ls hi hw hl
      have hB0 := hB
      have hB : rB (tkn σ t q i) := rB_rng (fun k => hB0 0 _ (by decide) (by decide)) hB0
      refine x_iload_n hx hb d_M_take_2 hl rfl ?_
      refine lv_bipush (v := nI 125) hx hb d_M_take_3 (by decide) ?_
      refine x_icmp_ge hx hb d_M_take_5 rfl (by omega) (by omega) (fun h5 => ?_) (fun h5 => ?_)
      · exact absurd h5 (by omega)
      · refine x_iload_n hx hb d_M_take_8 hl rfl ?_
        refine m_calli (k_S ⟨hx, hb, hml, hown, hts⟩ hE hA hw (c_M_good) (wm3 161 rfl rfl) (wm3 162 rfl rfl) (wm1 9 rfl rfl) (wm3 163 rfl rfl) rfl rfl ar_M_good ⟨Nat.le_trans (Nat.le_of_ble_eq_true rfl) hR.1, Nat.le_trans (Nat.le_of_ble_eq_true rfl) hR.2.1⟩ rfl hl.1 rfl (Nat.le_of_ble_eq_true rfl) d_M_take_9 ⟨Nat.le_trans (Nat.le_of_ble_eq_true rfl) hR.2.2.1, Nat.le_trans (Nat.le_of_ble_eq_true rfl) hR.2.2.2⟩) hw (mfr_in hw hA) (fun r9 M9 H locs hP9 hw => ?_)
        obtain ⟨rfl, hM9⟩ := hP9
        rw [hM9] at hw
        refine x_if_eqB hx hb d_M_take_12 rfl (fun h12 => ?_) (fun h12 => ?_)
        · rw [ix_n (by omega)] at h12
          have hcl := rng_f (σ := σ) (t := t) (i := i) (g := fun w => pgb w && pun w q) (v := fun w => σ 0 (125 * σ 1 0 + w)) (by simp [h12])
          refine x_iincN hx hb d_M_take_52 hl rfl (lh_k (i := 2) rfl (by first | exact lk_n | exact lk_i | exact lk_r | exact lk_q | exact lk_0)) (fun ls hl => ?_)
          refine lv_goto hx hb d_M_take_55 rfl ?_
          have hw2 : mw E.1 vwCl A s.heap (rfM E (tkn σ t q (i + 1)) ad) H locs := by
            unfold tkn at hw ⊢
            rw [← hcl]
            exact hw
          exact ih (i + 1) H locs ls (by omega) hw2 hl
        · rw [ix_n (by omega)] at h12
          refine x_iload_n hx hb d_M_take_15 hl rfl ?_
          refine x_iload_n hx hb d_M_take_16 hl rfl ?_
          refine m_calli (k_S ⟨hx, hb, hml, hown, hts⟩ hE hA hw (c_M_under (by omega) (by omega)) (wm3 193 rfl rfl) (wm3 194 rfl rfl) (wm1 9 rfl rfl) (wm3 195 rfl rfl) rfl rfl ar_M_under ⟨Nat.le_trans (Nat.le_of_ble_eq_true rfl) hR.1, Nat.le_trans (Nat.le_of_ble_eq_true rfl) hR.2.1⟩ rfl hl.1 rfl (Nat.le_of_ble_eq_true rfl) d_M_take_17 ⟨Nat.le_trans (Nat.le_of_ble_eq_true rfl) hR.2.2.1, Nat.le_trans (Nat.le_of_ble_eq_true rfl) hR.2.2.2⟩) hw (mfr_in hw hA) (fun r17 M17 H locs hP17 hw => ?_)
          obtain ⟨rfl, hM17⟩ := hP17
          rw [hM17] at hw
          refine x_if_eqB hx hb d_M_take_20 rfl (fun h20 => ?_) (fun h20 => ?_)
          · have hcl := rng_f (σ := σ) (t := t) (i := i) (g := fun w => pgb w && pun w q) (v := fun w => σ 0 (125 * σ 1 0 + w)) (by simp [h20])
            refine x_iincN hx hb d_M_take_52 hl rfl (lh_k (i := 2) rfl (by first | exact lk_n | exact lk_i | exact lk_r | exact lk_q | exact lk_0)) (fun ls hl => ?_)
            refine lv_goto hx hb d_M_take_55 rfl ?_
            have hw2 : mw E.1 vwCl A s.heap (rfM E (tkn σ t q (i + 1)) ad) H locs := by
              unfold tkn at hw ⊢
              rw [← hcl]
              exact hw
            exact ih (i + 1) H locs ls (by omega) hw2 hl
          · first | refine x_aload_n hx hb d_M_take_23 hl rfl ?_ | refine x_aload_nQ hx hb d_M_take_23 hl rfl ?_
            refine m_get hx hb hts hown hK hw ci_M (rf_at hI 0 (by decide) rfl) 0 (by decide) (wm3 72 rfl rfl) rfl d_M_take_24 ?_
            refine lv_sipush (v := nI 2000) hx hb d_M_take_27 (by decide) ?_
            refine lv_bipush (v := nI 125) hx hb d_M_take_30 (by decide) ?_
            refine x_iload_n hx hb d_M_take_32 hl rfl ?_
            first | refine x_imul hx hb d_M_take_33 ?_ | refine lv_imul hx hb d_M_take_33 ?_
            first | refine x_iadd hx hb d_M_take_34 ?_ | refine lv_iadd hx hb d_M_take_34 ?_
            refine x_iload_n hx hb d_M_take_35 hl rfl ?_
            first | refine x_iadd hx hb d_M_take_36 ?_ | refine lv_iadd hx hb d_M_take_36 ?_
            first | refine x_aload_n hx hb d_M_take_37 hl rfl ?_ | refine x_aload_nQ hx hb d_M_take_37 hl rfl ?_
            refine m_get hx hb hts hown hK hw ci_M (rf_at hI 0 (by decide) rfl) 0 (by decide) (wm3 72 rfl rfl) rfl d_M_take_38 ?_
            refine lv_bipush (v := nI 125) hx hb d_M_take_41 (by decide) ?_
            first | refine x_aload_n hx hb d_M_take_43 hl rfl ?_ | refine x_aload_nQ hx hb d_M_take_43 hl rfl ?_
            refine m_get (v := .int (nI (σ 1 0))) hx hb hts hown hK hw ci_M (rf_at hI 0 (by decide) rfl) 1 (by decide) (wm3 73 rfl rfl) rfl d_M_take_44 ?_
            first | refine x_imul hx hb d_M_take_47 ?_ | refine lv_imul hx hb d_M_take_47 ?_
            refine x_iload_n hx hb d_M_take_48 hl rfl ?_
            first | refine x_iadd hx hb d_M_take_49 ?_ | refine lv_iadd hx hb d_M_take_49 ?_
            refine rl_0 hx hb hK hI hB hw (by omega) d_M_take_50 (fun hv50 => ?_)
            have hlo : tkn σ t q i 0 (125 * σ 1 0 + i) = σ 0 (125 * σ 1 0 + i) := rng_lo (by omega)
            rw [hlo]
            refine rs_0 hx hb hK hI hB hw (by omega) (by omega) d_M_take_51 (fun H locs hw hB => ?_)
            have hcl := rng_t (σ := σ) (t := t) (i := i) (g := fun w => pgb w && pun w q) (v := fun w => σ 0 (125 * σ 1 0 + w)) (by simp [h12, h20])
            refine x_iincN hx hb d_M_take_52 hl rfl (lh_k (i := 2) rfl (by first | exact lk_n | exact lk_i | exact lk_r | exact lk_q | exact lk_0)) (fun ls hl => ?_)
            refine lv_goto hx hb d_M_take_55 rfl ?_
            have hw2 : mw E.1 vwCl A s.heap (rfM E (tkn σ t q (i + 1)) ad) H locs := by
              unfold tkn at hw ⊢
              rw [← hcl]
              exact hw
            exact ih (i + 1) H locs ls (by omega) hw2 hl
  refine lv_iconst (v := nI 0) hx hb d_M_take_0 (by decide) ?_
  refine x_istore_n hx hb d_M_take_1 hl (Nat.le_of_ble_eq_true rfl) (lh_k (i := 2) rfl (by first | exact lk_n | exact lk_i | exact lk_r | exact lk_q | exact lk_0)) (fun ls hl => ?_)
  exact loop 125 0 _ _ _ (by omega) (by unfold tkn; rw [rng_0]; exact hw) hl

set_option maxHeartbeats 4000000 in
set_option maxRecDepth 100000 in
theorem c_M_join {l : Launch} {E : Ev} {σ : SS} {ad : Nat → Nat} (hI : rfI ad) (hB : rB σ) {sz : Nat} {t q : Nat} (ht : t < 3) (hq : q < 125) (hc : σ 11 (σ 0 (125 * σ 1 0 + q)) + 1 < 32768) (hy : σ 1 0 ≤ 15) (hN : ∀ j, σ 0 j < 1300) : MCv l E y_M_join prog_10_method_23_code 5 none 0 0 0 0 [.ref (ad 0), .int (nI t), .int (nI q)] (rfM E σ ad) sz (fun M' => M' = rfM E (jn σ t q) ad ∧ rB (jn σ t q)) := by
  refine mc_of R_M rfl [some (.ref (ad 0)), some (.int (nI t)), some (.int (nI q)), none, none] (by decide) (Nat.le_of_ble_eq_true rfl) rfl ?_
  intro p e R s m ag below meth c ls Q A X hAe hQ hR hsz hw hl
  rw [← hAe] at hQ
  obtain ⟨⟨hx, hb, hml, hown, hts⟩, hE, hA, hr, hlk, hnm⟩ := X
  have hK := hE.1
  first | refine x_aload_n hx hb d_M_join_0 hl rfl ?_ | refine x_aload_nQ hx hb d_M_join_0 hl rfl ?_
  refine m_get hx hb hts hown hK hw ci_M (rf_at hI 0 (by decide) rfl) 0 (by decide) (wm3 72 rfl rfl) rfl d_M_join_1 ?_
  refine lv_sipush (v := nI 2000) hx hb d_M_join_4 (by decide) ?_
  refine lv_bipush (v := nI 125) hx hb d_M_join_7 (by decide) ?_
  refine x_iload_n hx hb d_M_join_9 hl rfl ?_
  first | refine x_imul hx hb d_M_join_10 ?_ | refine lv_imul hx hb d_M_join_10 ?_
  first | refine x_iadd hx hb d_M_join_11 ?_ | refine lv_iadd hx hb d_M_join_11 ?_
  refine x_iload_n hx hb d_M_join_12 hl rfl ?_
  first | refine x_iadd hx hb d_M_join_13 ?_ | refine lv_iadd hx hb d_M_join_13 ?_
  refine rl_0 hx hb hK hI hB hw (by omega) d_M_join_14 (fun hv14 => ?_)
  refine x_istore_n hx hb d_M_join_15 hl (Nat.le_of_ble_eq_true rfl) (lh_k (i := 2) rfl (by first | exact lk_n | exact lk_i | exact lk_r | exact lk_q | exact lk_0)) (fun ls hl => ?_)
  have n3 := hN (2000 + 125 * t + q)
  first | refine x_aload_n hx hb d_M_join_16 hl rfl ?_ | refine x_aload_nQ hx hb d_M_join_16 hl rfl ?_
  refine m_get hx hb hts hown hK hw ci_M (rf_at hI 0 (by decide) rfl) 0 (by decide) (wm3 72 rfl rfl) rfl d_M_join_17 ?_
  refine lv_bipush (v := nI 125) hx hb d_M_join_20 (by decide) ?_
  first | refine x_aload_n hx hb d_M_join_22 hl rfl ?_ | refine x_aload_nQ hx hb d_M_join_22 hl rfl ?_
  refine m_get hx hb hts hown hK hw ci_M (rf_at hI 0 (by decide) rfl) 1 (by decide) (wm3 73 rfl rfl) rfl d_M_join_23 ?_
  have hs23 := hB 1 0 (by decide) (by decide)
  first | refine x_imul hx hb d_M_join_26 ?_ | refine lv_imul hx hb d_M_join_26 ?_
  refine x_iload_n hx hb d_M_join_27 hl rfl ?_
  first | refine x_iadd hx hb d_M_join_28 ?_ | refine lv_iadd hx hb d_M_join_28 ?_
  refine rl_0 hx hb hK hI hB hw (by omega) d_M_join_29 (fun hv29 => ?_)
  refine x_istore hx hb d_M_join_30 hl (Nat.le_of_ble_eq_true rfl) (lh_k (i := 3) rfl (by first | exact lk_n | exact lk_i | exact lk_r | exact lk_q | exact lk_0)) (fun ls hl => ?_)
  have n2 := hN (125 * σ 1 0 + q)
  first | refine x_aload_n hx hb d_M_join_32 hl rfl ?_ | refine x_aload_nQ hx hb d_M_join_32 hl rfl ?_
  refine m_get hx hb hts hown hK hw ci_M (rf_at hI 0 (by decide) rfl) 13 (by decide) (wm3 85 rfl rfl) rfl d_M_join_33 ?_
  refine x_iload_n hx hb d_M_join_36 hl rfl ?_
  refine x_iload hx hb d_M_join_37 hl rfl ?_
  first | refine x_i2s hx hb d_M_join_39 (by omega) ?_ | refine lv_i2s hx hb d_M_join_39 rfl ?_
  refine rs_13 hx hb hK hI hB hw (by omega) (by omega) d_M_join_40 (fun H locs hw hB => ?_)
  first | refine x_aload_n hx hb d_M_join_41 hl rfl ?_ | refine x_aload_nQ hx hb d_M_join_41 hl rfl ?_
  refine m_get hx hb hts hown hK hw ci_M (rf_at hI 0 (by decide) rfl) 11 (by decide) (wm3 83 rfl rfl) rfl d_M_join_42 ?_
  refine x_iload_n hx hb d_M_join_45 hl rfl ?_
  first | refine x_aload_n hx hb d_M_join_46 hl rfl ?_ | refine x_aload_nQ hx hb d_M_join_46 hl rfl ?_
  refine m_get hx hb hts hown hK hw ci_M (rf_at hI 0 (by decide) rfl) 11 (by decide) (wm3 83 rfl rfl) rfl d_M_join_47 ?_
  refine x_iload hx hb d_M_join_50 hl rfl ?_
  refine rl_11 hx hb hK hI hB hw (by omega) d_M_join_52 (fun hv52 => ?_)
  refine lv_iconst (v := nI 1) hx hb d_M_join_53 (by decide) ?_
  first | refine x_iadd hx hb d_M_join_54 ?_ | refine lv_iadd hx hb d_M_join_54 ?_
  refine x_i2s hx hb d_M_join_55 (show _ from hc) ?_
  refine rs_11 hx hb hK hI hB hw (by omega) hc d_M_join_56 (fun H locs hw hB => ?_)
  exact x_retv hQ hx hb hr hlk hw (by omega) (by omega) d_M_join_57 (⟨rfl, hB⟩)

set_option maxHeartbeats 4000000 in
set_option maxRecDepth 100000 in
theorem c_M_settle {l : Launch} {E : Ev} {σ : SS} {ad : Nat → Nat} (hI : rfI ad) (hB : rB σ) {sz : Nat} {t q w : Nat} {d : Bool} (ht : t < 3) (hq : q < 125) (hw9 : w < 32768) (hc : σ 11 (σ 0 (125 * σ 1 0 + q)) + 1 < 32768) (hy : σ 1 0 ≤ 15) (hN : ∀ j, σ 0 j < 1300) : MCv l E y_M_settle prog_10_method_24_code 5 none 3 64 0 0 [.ref (ad 0), .int (nI t), .int (nI q), .int (nI w), .int (bz d)] (rfM E σ ad) sz (fun M' => M' = rfM E (stl σ t q w d) ad ∧ rB (stl σ t q w d)) := by
  refine mc_of R_M rfl [some (.ref (ad 0)), some (.int (nI t)), some (.int (nI q)), some (.int (nI w)), some (.int (bz d))] (by decide) (Nat.le_of_ble_eq_true rfl) rfl ?_
  intro p e R s m ag below meth c ls Q A X hAe hQ hR hsz hw hl
  rw [← hAe] at hQ
  obtain ⟨⟨hx, hb, hml, hown, hts⟩, hE, hA, hr, hlk, hnm⟩ := X
  have hK := hE.1
  refine x_iload_n hx hb d_M_settle_0 hl rfl ?_
  refine lv_iconst (v := nI 1) hx hb d_M_settle_1 (by decide) ?_
  refine x_icmp_ne hx hb d_M_settle_2 rfl (by omega) (by omega) (fun h2 => ?_) (fun h2 => ?_)
  · refine x_iload_n hx hb d_M_settle_16 hl rfl ?_
    refine lv_iconst (v := nI 2) hx hb d_M_settle_17 (by decide) ?_
    refine x_icmp_ne hx hb d_M_settle_18 rfl (by omega) (by omega) (fun h18 => ?_) (fun h18 => ?_)
    · first
        | exact absurd h18 (by omega)
        | exact x_retv hQ hx hb hr hlk hw (by omega) (by omega) d_M_settle_32 (by first | (subst h7; rw [stl_f]; exact ⟨rfl, hB⟩) | (subst h23; rw [stl_f]; exact ⟨rfl, hB⟩) | (subst h7; rw [stl_1 h2]; exact ⟨rfl, hB⟩) | (subst h23; rw [stl_2 h18]; exact ⟨rfl, hB⟩) | (cases d with | false => (rw [stl_f]; exact ⟨rfl, hB⟩) | true => (rw [stl_0 h2 h18]; exact ⟨rfl, hB⟩)))
    · first
        | exact absurd h18 (by omega)
        | refine x_iload hx hb d_M_settle_21 hl rfl ?_
          refine x_if_eqB hx hb d_M_settle_23 rfl (fun h23 => ?_) (fun h23 => ?_)
          · exact x_retv hQ hx hb hr hlk hw (by omega) (by omega) d_M_settle_32 (by first | (subst h7; rw [stl_f]; exact ⟨rfl, hB⟩) | (subst h23; rw [stl_f]; exact ⟨rfl, hB⟩) | (subst h7; rw [stl_1 h2]; exact ⟨rfl, hB⟩) | (subst h23; rw [stl_2 h18]; exact ⟨rfl, hB⟩) | (cases d with | false => (rw [stl_f]; exact ⟨rfl, hB⟩) | true => (rw [stl_0 h2 h18]; exact ⟨rfl, hB⟩)))
          · first | refine x_aload_n hx hb d_M_settle_26 hl rfl ?_ | refine x_aload_nQ hx hb d_M_settle_26 hl rfl ?_
            refine x_iload_n hx hb d_M_settle_27 hl rfl ?_
            refine x_iload_n hx hb d_M_settle_28 hl rfl ?_
            refine m_callv (k_V ⟨hx, hb, hml, hown, hts⟩ hE hA hw (c_M_join hI hB (by omega) (by omega) hc hy hN) (ci_M).1 rfl (rf_at hI 0 (by decide) rfl) (wm3 227 rfl rfl) (wm3 229 rfl rfl) (wmp2 15 rfl) (wm1 9 rfl rfl) (wm3 230 rfl rfl) rfl rfl ar_M_join ⟨Nat.le_trans (Nat.le_of_ble_eq_true rfl) hR.1, Nat.le_trans (Nat.le_of_ble_eq_true rfl) hR.2.1⟩ rfl hl.1 rfl (Nat.le_of_ble_eq_true rfl) d_M_settle_29 ⟨Nat.le_trans (Nat.le_of_ble_eq_true rfl) hR.2.2.1, Nat.le_trans (Nat.le_of_ble_eq_true rfl) hR.2.2.2⟩) hw (mfr_in hw hA) (fun M29 H locs hP29 hw => ?_)
            obtain ⟨hM29, hB⟩ := hP29
            rw [hM29] at hw
            exact x_retv hQ hx hb hr hlk hw (by omega) (by omega) d_M_settle_32 (by first | (subst h7; rw [stl_f]; exact ⟨rfl, hB⟩) | (subst h23; rw [stl_f]; exact ⟨rfl, hB⟩) | (subst h7; rw [stl_1 h2]; exact ⟨rfl, hB⟩) | (subst h23; rw [stl_2 h18]; exact ⟨rfl, hB⟩) | (cases d with | false => (rw [stl_f]; exact ⟨rfl, hB⟩) | true => (rw [stl_0 h2 h18]; exact ⟨rfl, hB⟩)))
  · refine x_iload hx hb d_M_settle_5 hl rfl ?_
    refine x_if_eqB hx hb d_M_settle_7 rfl (fun h7 => ?_) (fun h7 => ?_)
    · refine x_iload_n hx hb d_M_settle_16 hl rfl ?_
      refine lv_iconst (v := nI 2) hx hb d_M_settle_17 (by decide) ?_
      refine x_icmp_ne hx hb d_M_settle_18 rfl (by omega) (by omega) (fun h18 => ?_) (fun h18 => ?_)
      · first
          | exact absurd h18 (by omega)
          | exact x_retv hQ hx hb hr hlk hw (by omega) (by omega) d_M_settle_32 (by first | (subst h7; rw [stl_f]; exact ⟨rfl, hB⟩) | (subst h23; rw [stl_f]; exact ⟨rfl, hB⟩) | (subst h7; rw [stl_1 h2]; exact ⟨rfl, hB⟩) | (subst h23; rw [stl_2 h18]; exact ⟨rfl, hB⟩) | (cases d with | false => (rw [stl_f]; exact ⟨rfl, hB⟩) | true => (rw [stl_0 h2 h18]; exact ⟨rfl, hB⟩)))
      · first
          | exact absurd h18 (by omega)
          | refine x_iload hx hb d_M_settle_21 hl rfl ?_
            refine x_if_eqB hx hb d_M_settle_23 rfl (fun h23 => ?_) (fun h23 => ?_)
            · exact x_retv hQ hx hb hr hlk hw (by omega) (by omega) d_M_settle_32 (by first | (subst h7; rw [stl_f]; exact ⟨rfl, hB⟩) | (subst h23; rw [stl_f]; exact ⟨rfl, hB⟩) | (subst h7; rw [stl_1 h2]; exact ⟨rfl, hB⟩) | (subst h23; rw [stl_2 h18]; exact ⟨rfl, hB⟩) | (cases d with | false => (rw [stl_f]; exact ⟨rfl, hB⟩) | true => (rw [stl_0 h2 h18]; exact ⟨rfl, hB⟩)))
            · first | refine x_aload_n hx hb d_M_settle_26 hl rfl ?_ | refine x_aload_nQ hx hb d_M_settle_26 hl rfl ?_
              refine x_iload_n hx hb d_M_settle_27 hl rfl ?_
              refine x_iload_n hx hb d_M_settle_28 hl rfl ?_
              refine m_callv (k_V ⟨hx, hb, hml, hown, hts⟩ hE hA hw (c_M_join hI hB (by omega) (by omega) hc hy hN) (ci_M).1 rfl (rf_at hI 0 (by decide) rfl) (wm3 227 rfl rfl) (wm3 229 rfl rfl) (wmp2 15 rfl) (wm1 9 rfl rfl) (wm3 230 rfl rfl) rfl rfl ar_M_join ⟨Nat.le_trans (Nat.le_of_ble_eq_true rfl) hR.1, Nat.le_trans (Nat.le_of_ble_eq_true rfl) hR.2.1⟩ rfl hl.1 rfl (Nat.le_of_ble_eq_true rfl) d_M_settle_29 ⟨Nat.le_trans (Nat.le_of_ble_eq_true rfl) hR.2.2.1, Nat.le_trans (Nat.le_of_ble_eq_true rfl) hR.2.2.2⟩) hw (mfr_in hw hA) (fun M29 H locs hP29 hw => ?_)
              obtain ⟨hM29, hB⟩ := hP29
              rw [hM29] at hw
              exact x_retv hQ hx hb hr hlk hw (by omega) (by omega) d_M_settle_32 (by first | (subst h7; rw [stl_f]; exact ⟨rfl, hB⟩) | (subst h23; rw [stl_f]; exact ⟨rfl, hB⟩) | (subst h7; rw [stl_1 h2]; exact ⟨rfl, hB⟩) | (subst h23; rw [stl_2 h18]; exact ⟨rfl, hB⟩) | (cases d with | false => (rw [stl_f]; exact ⟨rfl, hB⟩) | true => (rw [stl_0 h2 h18]; exact ⟨rfl, hB⟩)))
    · first | refine x_aload_n hx hb d_M_settle_10 hl rfl ?_ | refine x_aload_nQ hx hb d_M_settle_10 hl rfl ?_
      refine x_iload_n hx hb d_M_settle_11 hl rfl ?_
      refine x_iload_n hx hb d_M_settle_12 hl rfl ?_
      refine m_callv (k_V ⟨hx, hb, hml, hown, hts⟩ hE hA hw (c_M_take hI hB (by omega) (by omega) hy) (ci_M).1 rfl (rf_at hI 0 (by decide) rfl) (wm3 223 rfl rfl) (wm3 225 rfl rfl) (wmp2 14 rfl) (wm1 9 rfl rfl) (wm3 226 rfl rfl) rfl rfl ar_M_take ⟨Nat.le_trans (Nat.le_of_ble_eq_true rfl) hR.1, Nat.le_trans (Nat.le_of_ble_eq_true rfl) hR.2.1⟩ rfl hl.1 rfl (Nat.le_of_ble_eq_true rfl) d_M_settle_13 ⟨Nat.le_trans (Nat.le_of_ble_eq_true rfl) hR.2.2.1, Nat.le_trans (Nat.le_of_ble_eq_true rfl) hR.2.2.2⟩) hw (mfr_in hw hA) (fun M13 H locs hP13 hw => ?_)
      obtain ⟨hM13, hB⟩ := hP13
      rw [hM13] at hw
      refine x_iload_n hx hb d_M_settle_16 hl rfl ?_
      refine lv_iconst (v := nI 2) hx hb d_M_settle_17 (by decide) ?_
      refine x_icmp_ne hx hb d_M_settle_18 rfl (by omega) (by omega) (fun h18 => ?_) (fun h18 => ?_)
      · first
          | exact absurd h18 (by omega)
          | exact x_retv hQ hx hb hr hlk hw (by omega) (by omega) d_M_settle_32 (by first | (subst h7; rw [stl_f]; exact ⟨rfl, hB⟩) | (subst h23; rw [stl_f]; exact ⟨rfl, hB⟩) | (subst h7; rw [stl_1 h2]; exact ⟨rfl, hB⟩) | (subst h23; rw [stl_2 h18]; exact ⟨rfl, hB⟩) | (cases d with | false => (rw [stl_f]; exact ⟨rfl, hB⟩) | true => (rw [stl_0 h2 h18]; exact ⟨rfl, hB⟩)))
      · first
          | exact absurd h18 (by omega)
          | refine x_iload hx hb d_M_settle_21 hl rfl ?_
            refine x_if_eqB hx hb d_M_settle_23 rfl (fun h23 => ?_) (fun h23 => ?_)
            · exact x_retv hQ hx hb hr hlk hw (by omega) (by omega) d_M_settle_32 (by first | (subst h7; rw [stl_f]; exact ⟨rfl, hB⟩) | (subst h23; rw [stl_f]; exact ⟨rfl, hB⟩) | (subst h7; rw [stl_1 h2]; exact ⟨rfl, hB⟩) | (subst h23; rw [stl_2 h18]; exact ⟨rfl, hB⟩) | (cases d with | false => (rw [stl_f]; exact ⟨rfl, hB⟩) | true => (rw [stl_0 h2 h18]; exact ⟨rfl, hB⟩)))
            · first | refine x_aload_n hx hb d_M_settle_26 hl rfl ?_ | refine x_aload_nQ hx hb d_M_settle_26 hl rfl ?_
              refine x_iload_n hx hb d_M_settle_27 hl rfl ?_
              refine x_iload_n hx hb d_M_settle_28 hl rfl ?_
              refine m_callv (k_V ⟨hx, hb, hml, hown, hts⟩ hE hA hw (c_M_join hI hB (by omega) (by omega) hc hy hN) (ci_M).1 rfl (rf_at hI 0 (by decide) rfl) (wm3 227 rfl rfl) (wm3 229 rfl rfl) (wmp2 15 rfl) (wm1 9 rfl rfl) (wm3 230 rfl rfl) rfl rfl ar_M_join ⟨Nat.le_trans (Nat.le_of_ble_eq_true rfl) hR.1, Nat.le_trans (Nat.le_of_ble_eq_true rfl) hR.2.1⟩ rfl hl.1 rfl (Nat.le_of_ble_eq_true rfl) d_M_settle_29 ⟨Nat.le_trans (Nat.le_of_ble_eq_true rfl) hR.2.2.1, Nat.le_trans (Nat.le_of_ble_eq_true rfl) hR.2.2.2⟩) hw (mfr_in hw hA) (fun M29 H locs hP29 hw => ?_)
              obtain ⟨hM29, hB⟩ := hP29
              rw [hM29] at hw
              exact x_retv hQ hx hb hr hlk hw (by omega) (by omega) d_M_settle_32 (by first | (subst h7; rw [stl_f]; exact ⟨rfl, hB⟩) | (subst h23; rw [stl_f]; exact ⟨rfl, hB⟩) | (subst h7; rw [stl_1 h2]; exact ⟨rfl, hB⟩) | (subst h23; rw [stl_2 h18]; exact ⟨rfl, hB⟩) | (cases d with | false => (rw [stl_f]; exact ⟨rfl, hB⟩) | true => (rw [stl_0 h2 h18]; exact ⟨rfl, hB⟩)))
