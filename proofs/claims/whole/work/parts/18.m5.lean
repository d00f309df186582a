theorem d_M_table_0 : decode prog_10_method_7_code 0 = .ok (.iload_n 1, 1) := by decide +kernel
theorem d_M_table_1 : decode prog_10_method_7_code 1 = .ok (.ifCond .lt 15, 3) := by decide +kernel
theorem d_M_table_4 : decode prog_10_method_7_code 4 = .ok (.iload_n 1, 1) := by decide +kernel
theorem d_M_table_5 : decode prog_10_method_7_code 5 = .ok (.aload_n 0, 1) := by decide +kernel
theorem d_M_table_6 : decode prog_10_method_7_code 6 = .ok (.getfield 76, 3) := by decide +kernel
theorem d_M_table_9 : decode prog_10_method_7_code 9 = .ok (.if_icmp .gt 7, 3) := by decide +kernel
theorem d_M_table_12 : decode prog_10_method_7_code 12 = .ok (.iload_n 1, 1) := by decide +kernel
theorem d_M_table_13 : decode prog_10_method_7_code 13 = .ok (.goto 32, 3) := by decide +kernel
theorem d_M_table_16 : decode prog_10_method_7_code 16 = .ok (.iload_n 1, 1) := by decide +kernel
theorem d_M_table_17 : decode prog_10_method_7_code 17 = .ok (.ifCond .ge 27, 3) := by decide +kernel
theorem d_M_table_20 : decode prog_10_method_7_code 20 = .ok (.iload_n 1, 1) := by decide +kernel
theorem d_M_table_21 : decode prog_10_method_7_code 21 = .ok (.bipush (-3), 2) := by decide +kernel
theorem d_M_table_23 : decode prog_10_method_7_code 23 = .ok (.if_icmp .lt 21, 3) := by decide +kernel
theorem d_M_table_26 : decode prog_10_method_7_code 26 = .ok (.aload_n 0, 1) := by decide +kernel
theorem d_M_table_27 : decode prog_10_method_7_code 27 = .ok (.getfield 13, 3) := by decide +kernel
theorem d_M_table_30 : decode prog_10_method_7_code 30 = .ok (.iconst (-1), 1) := by decide +kernel
theorem d_M_table_31 : decode prog_10_method_7_code 31 = .ok (.iload_n 1, 1) := by decide +kernel
theorem d_M_table_32 : decode prog_10_method_7_code 32 = .ok (.isub, 1) := by decide +kernel
theorem d_M_table_33 : decode prog_10_method_7_code 33 = .ok (.baload, 1) := by decide +kernel
theorem d_M_table_34 : decode prog_10_method_7_code 34 = .ok (.ifCond .eq 10, 3) := by decide +kernel
theorem d_M_table_37 : decode prog_10_method_7_code 37 = .ok (.bipush 15, 2) := by decide +kernel
theorem d_M_table_39 : decode prog_10_method_7_code 39 = .ok (.iload_n 1, 1) := by decide +kernel
theorem d_M_table_40 : decode prog_10_method_7_code 40 = .ok (.isub, 1) := by decide +kernel
theorem d_M_table_41 : decode prog_10_method_7_code 41 = .ok (.goto 4, 3) := by decide +kernel
theorem d_M_table_44 : decode prog_10_method_7_code 44 = .ok (.iconst (-1), 1) := by decide +kernel
theorem d_M_table_45 : decode prog_10_method_7_code 45 = .ok (.ireturn, 1) := by decide +kernel

theorem d_M_find_0 : decode prog_10_method_31_code 0 = .ok (.aload_n 0, 1) := by decide +kernel
theorem d_M_find_1 : decode prog_10_method_31_code 1 = .ok (.iload_n 1, 1) := by decide +kernel
theorem d_M_find_2 : decode prog_10_method_31_code 2 = .ok (.invokevirtual 148, 3) := by decide +kernel
theorem d_M_find_5 : decode prog_10_method_31_code 5 = .ok (.istore_n 3, 1) := by decide +kernel
theorem d_M_find_6 : decode prog_10_method_31_code 6 = .ok (.iload_n 3, 1) := by decide +kernel
theorem d_M_find_7 : decode prog_10_method_31_code 7 = .ok (.ifCond .ge 7, 3) := by decide +kernel
theorem d_M_find_10 : decode prog_10_method_31_code 10 = .ok (.iconst (-1), 1) := by decide +kernel
theorem d_M_find_11 : decode prog_10_method_31_code 11 = .ok (.goto 9, 3) := by decide +kernel
theorem d_M_find_14 : decode prog_10_method_31_code 14 = .ok (.aload_n 0, 1) := by decide +kernel
theorem d_M_find_15 : decode prog_10_method_31_code 15 = .ok (.iload_n 3, 1) := by decide +kernel
theorem d_M_find_16 : decode prog_10_method_31_code 16 = .ok (.iload_n 2, 1) := by decide +kernel
theorem d_M_find_17 : decode prog_10_method_31_code 17 = .ok (.invokevirtual 87, 3) := by decide +kernel
theorem d_M_find_20 : decode prog_10_method_31_code 20 = .ok (.ireturn, 1) := by decide +kernel

theorem d_M_kind_0 : decode prog_10_method_32_code 0 = .ok (.aload_n 0, 1) := by decide +kernel
theorem d_M_kind_1 : decode prog_10_method_32_code 1 = .ok (.iload_n 1, 1) := by decide +kernel
theorem d_M_kind_2 : decode prog_10_method_32_code 2 = .ok (.iload_n 2, 1) := by decide +kernel
theorem d_M_kind_3 : decode prog_10_method_32_code 3 = .ok (.invokevirtual 151, 3) := by decide +kernel
theorem d_M_kind_6 : decode prog_10_method_32_code 6 = .ok (.istore_n 3, 1) := by decide +kernel
theorem d_M_kind_7 : decode prog_10_method_32_code 7 = .ok (.iload_n 3, 1) := by decide +kernel
theorem d_M_kind_8 : decode prog_10_method_32_code 8 = .ok (.ifCond .ge 7, 3) := by decide +kernel
theorem d_M_kind_11 : decode prog_10_method_32_code 11 = .ok (.iconst (-1), 1) := by decide +kernel
theorem d_M_kind_12 : decode prog_10_method_32_code 12 = .ok (.goto 9, 3) := by decide +kernel
theorem d_M_kind_15 : decode prog_10_method_32_code 15 = .ok (.aload_n 0, 1) := by decide +kernel
theorem d_M_kind_16 : decode prog_10_method_32_code 16 = .ok (.getfield 21, 3) := by decide +kernel
theorem d_M_kind_19 : decode prog_10_method_32_code 19 = .ok (.iload_n 3, 1) := by decide +kernel
theorem d_M_kind_20 : decode prog_10_method_32_code 20 = .ok (.baload, 1) := by decide +kernel
theorem d_M_kind_21 : decode prog_10_method_32_code 21 = .ok (.ireturn, 1) := by decide +kernel

theorem d_M_isFile_0 : decode prog_10_method_33_code 0 = .ok (.iload_n 1, 1) := by decide +kernel
theorem d_M_isFile_1 : decode prog_10_method_33_code 1 = .ok (.ifCond .le 17, 3) := by decide +kernel
theorem d_M_isFile_4 : decode prog_10_method_33_code 4 = .ok (.aload_n 0, 1) := by decide +kernel
theorem d_M_isFile_5 : decode prog_10_method_33_code 5 = .ok (.getfield 21, 3) := by decide +kernel
theorem d_M_isFile_8 : decode prog_10_method_33_code 8 = .ok (.iload_n 1, 1) := by decide +kernel
theorem d_M_isFile_9 : decode prog_10_method_33_code 9 = .ok (.baload, 1) := by decide +kernel
theorem d_M_isFile_10 : decode prog_10_method_33_code 10 = .ok (.iconst 2, 1) := by decide +kernel
theorem d_M_isFile_11 : decode prog_10_method_33_code 11 = .ok (.if_icmp .ne 7, 3) := by decide +kernel
theorem d_M_isFile_14 : decode prog_10_method_33_code 14 = .ok (.iconst 1, 1) := by decide +kernel
theorem d_M_isFile_15 : decode prog_10_method_33_code 15 = .ok (.goto 4, 3) := by decide +kernel
theorem d_M_isFile_18 : decode prog_10_method_33_code 18 = .ok (.iconst 0, 1) := by decide +kernel
theorem d_M_isFile_19 : decode prog_10_method_33_code 19 = .ok (.ireturn, 1) := by decide +kernel

theorem d_M_text_0 : decode prog_10_method_34_code 0 = .ok (.aload_n 0, 1) := by decide +kernel
theorem d_M_text_1 : decode prog_10_method_34_code 1 = .ok (.iload_n 1, 1) := by decide +kernel
theorem d_M_text_2 : decode prog_10_method_34_code 2 = .ok (.iload_n 2, 1) := by decide +kernel
theorem d_M_text_3 : decode prog_10_method_34_code 3 = .ok (.invokevirtual 151, 3) := by decide +kernel
theorem d_M_text_6 : decode prog_10_method_34_code 6 = .ok (.istore_n 3, 1) := by decide +kernel
theorem d_M_text_7 : decode prog_10_method_34_code 7 = .ok (.aload_n 0, 1) := by decide +kernel
theorem d_M_text_8 : decode prog_10_method_34_code 8 = .ok (.iload_n 3, 1) := by decide +kernel
theorem d_M_text_9 : decode prog_10_method_34_code 9 = .ok (.invokevirtual 154, 3) := by decide +kernel
theorem d_M_text_12 : decode prog_10_method_34_code 12 = .ok (.ifCond .eq 12, 3) := by decide +kernel
theorem d_M_text_15 : decode prog_10_method_34_code 15 = .ok (.aload_n 0, 1) := by decide +kernel
theorem d_M_text_16 : decode prog_10_method_34_code 16 = .ok (.getfield 31, 3) := by decide +kernel
theorem d_M_text_19 : decode prog_10_method_34_code 19 = .ok (.iload_n 3, 1) := by decide +kernel
theorem d_M_text_20 : decode prog_10_method_34_code 20 = .ok (.laload, 1) := by decide +kernel
theorem d_M_text_21 : decode prog_10_method_34_code 21 = .ok (.goto 6, 3) := by decide +kernel
theorem d_M_text_24 : decode prog_10_method_34_code 24 = .ok (.ldc2_w 157, 3) := by decide +kernel
theorem d_M_text_27 : decode prog_10_method_34_code 27 = .ok (.lreturn, 1) := by decide +kernel

theorem d_M_length_0 : decode prog_10_method_35_code 0 = .ok (.aload_n 0, 1) := by decide +kernel
theorem d_M_length_1 : decode prog_10_method_35_code 1 = .ok (.iload_n 1, 1) := by decide +kernel
theorem d_M_length_2 : decode prog_10_method_35_code 2 = .ok (.iload_n 2, 1) := by decide +kernel
theorem d_M_length_3 : decode prog_10_method_35_code 3 = .ok (.invokevirtual 151, 3) := by decide +kernel
theorem d_M_length_6 : decode prog_10_method_35_code 6 = .ok (.istore_n 3, 1) := by decide +kernel
theorem d_M_length_7 : decode prog_10_method_35_code 7 = .ok (.aload_n 0, 1) := by decide +kernel
theorem d_M_length_8 : decode prog_10_method_35_code 8 = .ok (.iload_n 3, 1) := by decide +kernel
theorem d_M_length_9 : decode prog_10_method_35_code 9 = .ok (.invokevirtual 154, 3) := by decide +kernel
theorem d_M_length_12 : decode prog_10_method_35_code 12 = .ok (.ifCond .eq 12, 3) := by decide +kernel
theorem d_M_length_15 : decode prog_10_method_35_code 15 = .ok (.aload_n 0, 1) := by decide +kernel
theorem d_M_length_16 : decode prog_10_method_35_code 16 = .ok (.getfield 25, 3) := by decide +kernel
theorem d_M_length_19 : decode prog_10_method_35_code 19 = .ok (.iload_n 3, 1) := by decide +kernel
theorem d_M_length_20 : decode prog_10_method_35_code 20 = .ok (.baload, 1) := by decide +kernel
theorem d_M_length_21 : decode prog_10_method_35_code 21 = .ok (.goto 4, 3) := by decide +kernel
theorem d_M_length_24 : decode prog_10_method_35_code 24 = .ok (.iconst (-1), 1) := by decide +kernel
theorem d_M_length_25 : decode prog_10_method_35_code 25 = .ok (.ireturn, 1) := by decide +kernel

theorem d_M_line_0 : decode prog_10_method_36_code 0 = .ok (.aload_n 0, 1) := by decide +kernel
theorem d_M_line_1 : decode prog_10_method_36_code 1 = .ok (.iload_n 1, 1) := by decide +kernel
theorem d_M_line_2 : decode prog_10_method_36_code 2 = .ok (.iload_n 2, 1) := by decide +kernel
theorem d_M_line_3 : decode prog_10_method_36_code 3 = .ok (.invokevirtual 151, 3) := by decide +kernel
theorem d_M_line_6 : decode prog_10_method_36_code 6 = .ok (.istore_n 3, 1) := by decide +kernel
theorem d_M_line_7 : decode prog_10_method_36_code 7 = .ok (.iload_n 3, 1) := by decide +kernel
theorem d_M_line_8 : decode prog_10_method_36_code 8 = .ok (.ifCond .le 12, 3) := by decide +kernel
theorem d_M_line_11 : decode prog_10_method_36_code 11 = .ok (.aload_n 0, 1) := by decide +kernel
theorem d_M_line_12 : decode prog_10_method_36_code 12 = .ok (.getfield 35, 3) := by decide +kernel
theorem d_M_line_15 : decode prog_10_method_36_code 15 = .ok (.iload_n 3, 1) := by decide +kernel
theorem d_M_line_16 : decode prog_10_method_36_code 16 = .ok (.saload, 1) := by decide +kernel
theorem d_M_line_17 : decode prog_10_method_36_code 17 = .ok (.goto 4, 3) := by decide +kernel
theorem d_M_line_20 : decode prog_10_method_36_code 20 = .ok (.iconst (-1), 1) := by decide +kernel
theorem d_M_line_21 : decode prog_10_method_36_code 21 = .ok (.ireturn, 1) := by decide +kernel

theorem d_M_count_0 : decode prog_10_method_37_code 0 = .ok (.aload_n 0, 1) := by decide +kernel
theorem d_M_count_1 : decode prog_10_method_37_code 1 = .ok (.iload_n 1, 1) := by decide +kernel
theorem d_M_count_2 : decode prog_10_method_37_code 2 = .ok (.iload_n 2, 1) := by decide +kernel
theorem d_M_count_3 : decode prog_10_method_37_code 3 = .ok (.invokevirtual 151, 3) := by decide +kernel
theorem d_M_count_6 : decode prog_10_method_37_code 6 = .ok (.istore_n 3, 1) := by decide +kernel
theorem d_M_count_7 : decode prog_10_method_37_code 7 = .ok (.iload_n 3, 1) := by decide +kernel
theorem d_M_count_8 : decode prog_10_method_37_code 8 = .ok (.ifCond .le 12, 3) := by decide +kernel
theorem d_M_count_11 : decode prog_10_method_37_code 11 = .ok (.aload_n 0, 1) := by decide +kernel
theorem d_M_count_12 : decode prog_10_method_37_code 12 = .ok (.getfield 38, 3) := by decide +kernel
theorem d_M_count_15 : decode prog_10_method_37_code 15 = .ok (.iload_n 3, 1) := by decide +kernel
theorem d_M_count_16 : decode prog_10_method_37_code 16 = .ok (.saload, 1) := by decide +kernel
theorem d_M_count_17 : decode prog_10_method_37_code 17 = .ok (.goto 4, 3) := by decide +kernel
theorem d_M_count_20 : decode prog_10_method_37_code 20 = .ok (.iconst (-1), 1) := by decide +kernel
theorem d_M_count_21 : decode prog_10_method_37_code 21 = .ok (.ireturn, 1) := by decide +kernel

theorem d_M_created_0 : decode prog_10_method_38_code 0 = .ok (.aload_n 0, 1) := by decide +kernel
theorem d_M_created_1 : decode prog_10_method_38_code 1 = .ok (.iload_n 1, 1) := by decide +kernel
theorem d_M_created_2 : decode prog_10_method_38_code 2 = .ok (.iload_n 2, 1) := by decide +kernel
theorem d_M_created_3 : decode prog_10_method_38_code 3 = .ok (.invokevirtual 151, 3) := by decide +kernel
theorem d_M_created_6 : decode prog_10_method_38_code 6 = .ok (.istore_n 3, 1) := by decide +kernel
theorem d_M_created_7 : decode prog_10_method_38_code 7 = .ok (.iload_n 3, 1) := by decide +kernel
theorem d_M_created_8 : decode prog_10_method_38_code 8 = .ok (.ifCond .le 21, 3) := by decide +kernel
theorem d_M_created_11 : decode prog_10_method_38_code 11 = .ok (.aload_n 0, 1) := by decide +kernel
theorem d_M_created_12 : decode prog_10_method_38_code 12 = .ok (.getfield 41, 3) := by decide +kernel
theorem d_M_created_15 : decode prog_10_method_38_code 15 = .ok (.iload_n 3, 1) := by decide +kernel
theorem d_M_created_16 : decode prog_10_method_38_code 16 = .ok (.baload, 1) := by decide +kernel
theorem d_M_created_17 : decode prog_10_method_38_code 17 = .ok (.ifCond .lt 12, 3) := by decide +kernel
theorem d_M_created_20 : decode prog_10_method_38_code 20 = .ok (.aload_n 0, 1) := by decide +kernel
theorem d_M_created_21 : decode prog_10_method_38_code 21 = .ok (.getfield 41, 3) := by decide +kernel
theorem d_M_created_24 : decode prog_10_method_38_code 24 = .ok (.iload_n 3, 1) := by decide +kernel
theorem d_M_created_25 : decode prog_10_method_38_code 25 = .ok (.baload, 1) := by decide +kernel
theorem d_M_created_26 : decode prog_10_method_38_code 26 = .ok (.goto 4, 3) := by decide +kernel
theorem d_M_created_29 : decode prog_10_method_38_code 29 = .ok (.iconst (-1), 1) := by decide +kernel
theorem d_M_created_30 : decode prog_10_method_38_code 30 = .ok (.ireturn, 1) := by decide +kernel

theorem d_M_youngest_0 : decode prog_10_method_30_code 0 = .ok (.aload_n 0, 1) := by decide +kernel
theorem d_M_youngest_1 : decode prog_10_method_30_code 1 = .ok (.getfield 76, 3) := by decide +kernel
theorem d_M_youngest_4 : decode prog_10_method_30_code 4 = .ok (.ireturn, 1) := by decide +kernel

theorem d_M_representations_0 : decode prog_10_method_42_code 0 = .ok (.aload_n 0, 1) := by decide +kernel
theorem d_M_representations_1 : decode prog_10_method_42_code 1 = .ok (.getfield 142, 3) := by decide +kernel
theorem d_M_representations_4 : decode prog_10_method_42_code 4 = .ok (.ireturn, 1) := by decide +kernel

theorem d_M_abort_0 : decode prog_10_method_29_code 0 = .ok (.aload_n 0, 1) := by decide +kernel
theorem d_M_abort_1 : decode prog_10_method_29_code 1 = .ok (.iload_n 1, 1) := by decide +kernel
theorem d_M_abort_2 : decode prog_10_method_29_code 2 = .ok (.invokevirtual 102, 3) := by decide +kernel
theorem d_M_abort_5 : decode prog_10_method_29_code 5 = .ok (.ifCond .ne 5, 3) := by decide +kernel
theorem d_M_abort_8 : decode prog_10_method_29_code 8 = .ok (.iconst 0, 1) := by decide +kernel
theorem d_M_abort_9 : decode prog_10_method_29_code 9 = .ok (.ireturn, 1) := by decide +kernel
theorem d_M_abort_10 : decode prog_10_method_29_code 10 = .ok (.aload_n 0, 1) := by decide +kernel
theorem d_M_abort_11 : decode prog_10_method_29_code 11 = .ok (.getfield 13, 3) := by decide +kernel
theorem d_M_abort_14 : decode prog_10_method_29_code 14 = .ok (.iload_n 1, 1) := by decide +kernel
theorem d_M_abort_15 : decode prog_10_method_29_code 15 = .ok (.iconst 0, 1) := by decide +kernel
theorem d_M_abort_16 : decode prog_10_method_29_code 16 = .ok (.bastore, 1) := by decide +kernel
theorem d_M_abort_17 : decode prog_10_method_29_code 17 = .ok (.iconst 1, 1) := by decide +kernel
theorem d_M_abort_18 : decode prog_10_method_29_code 18 = .ok (.ireturn, 1) := by decide +kernel
set_option maxHeartbeats 4000000 in
set_option maxRecDepth 100000 in
theorem c_M_table {l : Launch} {E : Ev} {σ : SS} {ad : Nat → Nat} (hI : rfI ad) (hB : rB σ) {sz : Nat} {x : Int32} (hy : σ 1 0 ≤ 15) : MCi l E y_M_table prog_10_method_7_code 2 (some .int) 0 0 0 0 [.ref (ad 0), .int x] (rfM E σ ad) sz (fun r M' => r = tI (tbn σ x) ∧ M' = rfM E σ ad) := by
  refine mc_of R_M rfl [some (.ref (ad 0)), some (.int x)] (by decide) (Nat.le_of_ble_eq_true rfl) rfl ?_
  intro p e R s m ag below meth c ls Q A X hAe hQ hR hsz hw hl
  rw [← hAe] at hQ
  obtain ⟨⟨hx, hb, hml, hown, hts⟩, hE, hA, hr, hlk, hnm⟩ := X
  have hK := hE.1
  refine x_iload_n hx hb d_M_table_0 hl rfl ?_
  refine lv_if_lt hx hb d_M_table_1 rfl (fun h1 => ?_) (fun h1 => ?_)
  · refine x_iload_n hx hb d_M_table_16 hl rfl ?_
    refine lv_if_ge hx hb d_M_table_17 rfl (fun h17 => ?_) (fun h17 => ?_)
    · refine lv_iconst (v := -1) hx hb d_M_table_44 (by decide) ?_
      exact x_reti hQ hx hb hr hlk rfl hw (by omega) (by omega) d_M_table_45 (⟨by first | (have z := tb_1 hy h1 h9; rw [tI_n (by omega)]; exact z.2) | (rw [tb_2 h17 h9]; rfl) | exact absurd h17 (nge_of h1) | (rw [tb_3 h17 h23]; rfl) | (rw [tb_4 ht h34]; rfl) | (rw [tb_5 ht h34, tI_n (by omega)]), rfl⟩)
    · refine x_iload_n hx hb d_M_table_20 hl rfl ?_
      refine lv_bipush (v := (-3)) hx hb d_M_table_21 (by decide) ?_
      refine lv_icmp_lt hx hb d_M_table_23 rfl (fun h23 => ?_) (fun h23 => ?_)
      · refine lv_iconst (v := -1) hx hb d_M_table_44 (by decide) ?_
        exact x_reti hQ hx hb hr hlk rfl hw (by omega) (by omega) d_M_table_45 (⟨by first | (have z := tb_1 hy h1 h9; rw [tI_n (by omega)]; exact z.2) | (rw [tb_2 h17 h9]; rfl) | exact absurd h17 (nge_of h1) | (rw [tb_3 h17 h23]; rfl) | (rw [tb_4 ht h34]; rfl) | (rw [tb_5 ht h34, tI_n (by omega)]), rfl⟩)
      · obtain ⟨t, ht, rfl⟩ := neg3 h17 h23
        first | refine x_aload_n hx hb d_M_table_26 hl rfl ?_ | refine x_aload_nQ hx hb d_M_table_26 hl rfl ?_
        refine m_get hx hb hts hown hK hw ci_M (rf_at hI 0 (by decide) rfl) 2 (by decide) (wm3 74 rfl rfl) rfl d_M_table_27 ?_
        refine lv_iconst (v := -1) hx hb d_M_table_30 (by decide) ?_
        refine x_iload_n hx hb d_M_table_31 hl rfl ?_
        refine lv_isub hx hb d_M_table_32 ?_
        rw [neg_t ht]
        refine rl_2 hx hb hK hI hB hw (by omega) d_M_table_33 (fun hv33 => ?_)
        refine x_if_eq hx hb d_M_table_34 rfl (by omega) (fun h34 => ?_) (fun h34 => ?_)
        · refine lv_iconst (v := -1) hx hb d_M_table_44 (by decide) ?_
          exact x_reti hQ hx hb hr hlk rfl hw (by omega) (by omega) d_M_table_45 (⟨by first | (have z := tb_1 hy h1 h9; rw [tI_n (by omega)]; exact z.2) | (rw [tb_2 h17 h9]; rfl) | exact absurd h17 (nge_of h1) | (rw [tb_3 h17 h23]; rfl) | (rw [tb_4 ht h34]; rfl) | (rw [tb_5 ht h34, tI_n (by omega)]), rfl⟩)
        · refine lv_bipush (v := nI 15) hx hb d_M_table_37 (by decide) ?_
          refine x_iload_n hx hb d_M_table_39 hl rfl ?_
          refine lv_isub hx hb d_M_table_40 ?_
          rw [neg_u ht]
          refine lv_goto hx hb d_M_table_41 rfl ?_
          exact x_reti hQ hx hb hr hlk rfl hw (by omega) (by omega) d_M_table_45 (⟨by first | (have z := tb_1 hy h1 h9; rw [tI_n (by omega)]; exact z.2) | (rw [tb_2 h17 h9]; rfl) | exact absurd h17 (nge_of h1) | (rw [tb_3 h17 h23]; rfl) | (rw [tb_4 ht h34]; rfl) | (rw [tb_5 ht h34, tI_n (by omega)]), rfl⟩)
  · refine x_iload_n hx hb d_M_table_4 hl rfl ?_
    first | refine x_aload_n hx hb d_M_table_5 hl rfl ?_ | refine x_aload_nQ hx hb d_M_table_5 hl rfl ?_
    refine m_get hx hb hts hown hK hw ci_M (rf_at hI 0 (by decide) rfl) 1 (by decide) (wm3 73 rfl rfl) rfl d_M_table_6 ?_
    have hs6 := hB 1 0 (by decide) (by decide)
    refine lv_icmp_gt hx hb d_M_table_9 rfl (fun h9 => ?_) (fun h9 => ?_)
    · refine x_iload_n hx hb d_M_table_16 hl rfl ?_
      refine lv_if_ge hx hb d_M_table_17 rfl (fun h17 => ?_) (fun h17 => ?_)
      · refine lv_iconst (v := -1) hx hb d_M_table_44 (by decide) ?_
        exact x_reti hQ hx hb hr hlk rfl hw (by omega) (by omega) d_M_table_45 (⟨by first | (have z := tb_1 hy h1 h9; rw [tI_n (by omega)]; exact z.2) | (rw [tb_2 h17 h9]; rfl) | exact absurd h17 (nge_of h1) | (rw [tb_3 h17 h23]; rfl) | (rw [tb_4 ht h34]; rfl) | (rw [tb_5 ht h34, tI_n (by omega)]), rfl⟩)
      · refine x_iload_n hx hb d_M_table_20 hl rfl ?_
        refine lv_bipush (v := (-3)) hx hb d_M_table_21 (by decide) ?_
        refine lv_icmp_lt hx hb d_M_table_23 rfl (fun h23 => ?_) (fun h23 => ?_)
        · refine lv_iconst (v := -1) hx hb d_M_table_44 (by decide) ?_
          exact x_reti hQ hx hb hr hlk rfl hw (by omega) (by omega) d_M_table_45 (⟨by first | (have z := tb_1 hy h1 h9; rw [tI_n (by omega)]; exact z.2) | (rw [tb_2 h17 h9]; rfl) | exact absurd h17 (nge_of h1) | (rw [tb_3 h17 h23]; rfl) | (rw [tb_4 ht h34]; rfl) | (rw [tb_5 ht h34, tI_n (by omega)]), rfl⟩)
        · obtain ⟨t, ht, rfl⟩ := neg3 h17 h23
          first | refine x_aload_n hx hb d_M_table_26 hl rfl ?_ | refine x_aload_nQ hx hb d_M_table_26 hl rfl ?_
          refine m_get hx hb hts hown hK hw ci_M (rf_at hI 0 (by decide) rfl) 2 (by decide) (wm3 74 rfl rfl) rfl d_M_table_27 ?_
          refine lv_iconst (v := -1) hx hb d_M_table_30 (by decide) ?_
          refine x_iload_n hx hb d_M_table_31 hl rfl ?_
          refine lv_isub hx hb d_M_table_32 ?_
          rw [neg_t ht]
          refine rl_2 hx hb hK hI hB hw (by omega) d_M_table_33 (fun hv33 => ?_)
          refine x_if_eq hx hb d_M_table_34 rfl (by omega) (fun h34 => ?_) (fun h34 => ?_)
          · refine lv_iconst (v := -1) hx hb d_M_table_44 (by decide) ?_
            exact x_reti hQ hx hb hr hlk rfl hw (by omega) (by omega) d_M_table_45 (⟨by first | (have z := tb_1 hy h1 h9; rw [tI_n (by omega)]; exact z.2) | (rw [tb_2 h17 h9]; rfl) | exact absurd h17 (nge_of h1) | (rw [tb_3 h17 h23]; rfl) | (rw [tb_4 ht h34]; rfl) | (rw [tb_5 ht h34, tI_n (by omega)]), rfl⟩)
          · refine lv_bipush (v := nI 15) hx hb d_M_table_37 (by decide) ?_
            refine x_iload_n hx hb d_M_table_39 hl rfl ?_
            refine lv_isub hx hb d_M_table_40 ?_
            rw [neg_u ht]
            refine lv_goto hx hb d_M_table_41 rfl ?_
            exact x_reti hQ hx hb hr hlk rfl hw (by omega) (by omega) d_M_table_45 (⟨by first | (have z := tb_1 hy h1 h9; rw [tI_n (by omega)]; exact z.2) | (rw [tb_2 h17 h9]; rfl) | exact absurd h17 (nge_of h1) | (rw [tb_3 h17 h23]; rfl) | (rw [tb_4 ht h34]; rfl) | (rw [tb_5 ht h34, tI_n (by omega)]), rfl⟩)
    · refine x_iload_n hx hb d_M_table_12 hl rfl ?_
      refine lv_goto hx hb d_M_table_13 rfl ?_
      exact x_reti hQ hx hb hr hlk rfl hw (by omega) (by omega) d_M_table_45 (⟨by first | (have z := tb_1 hy h1 h9; rw [tI_n (by omega)]; exact z.2) | (rw [tb_2 h17 h9]; rfl) | exact absurd h17 (nge_of h1) | (rw [tb_3 h17 h23]; rfl) | (rw [tb_4 ht h34]; rfl) | (rw [tb_5 ht h34, tI_n (by omega)]), rfl⟩)

set_option maxHeartbeats 4000000 in
set_option maxRecDepth 100000 in
theorem c_M_find {l : Launch} {E : Ev} {σ : SS} {ad : Nat → Nat} (hI : rfI ad) (hB : rB σ) {sz : Nat} {x y : Int32} (hy : σ 1 0 ≤ 15) : MCi l E y_M_find prog_10_method_31_code 4 (some .int) 2 43 0 0 [.ref (ad 0), .int x, .int y] (rfM E σ ad) sz (fun r M' => r = fI (fd σ x y) ∧ M' = rfM E σ ad) := by
  refine mc_of R_M rfl [some (.ref (ad 0)), some (.int x), some (.int y), none] (by decide) (Nat.le_of_ble_eq_true rfl) rfl ?_
  intro p e R s m ag below meth c ls Q A X hAe hQ hR hsz hw hl
  rw [← hAe] at hQ
  obtain ⟨⟨hx, hb, hml, hown, hts⟩, hE, hA, hr, hlk, hnm⟩ := X
  have hK := hE.1
  first | refine x_aload_n hx hb d_M_find_0 hl rfl ?_ | refine x_aload_nQ hx hb d_M_find_0 hl rfl ?_
  refine x_iload_n hx hb d_M_find_1 hl rfl ?_
  refine m_calli (k_V ⟨hx, hb, hml, hown, hts⟩ hE hA hw (c_M_table hI hB hy) (ci_M).1 rfl (rf_at hI 0 (by decide) rfl) (wm4 14 rfl rfl) (wm4 16 rfl rfl) (wmp3 2 rfl) (wm1 9 rfl rfl) (wm4 17 rfl rfl) rfl rfl ar_M_table ⟨Nat.le_trans (Nat.le_of_ble_eq_true rfl) hR.1, Nat.le_trans (Nat.le_of_ble_eq_true rfl) hR.2.1⟩ rfl hl.1 rfl (Nat.le_of_ble_eq_true rfl) d_M_find_2 ⟨Nat.le_trans (Nat.le_of_ble_eq_true rfl) hR.2.2.1, Nat.le_trans (Nat.le_of_ble_eq_true rfl) hR.2.2.2⟩) hw (mfr_in hw hA) (fun r2 M2 H locs hP2 hw => ?_)
  obtain ⟨rfl, hM2⟩ := hP2
  rw [hM2] at hw
  refine x_istore_n hx hb d_M_find_5 hl (Nat.le_of_ble_eq_true rfl) (lh_k (i := 2) rfl (by first | exact lk_n | exact lk_i | exact lk_r | exact lk_q | exact lk_0)) (fun ls hl => ?_)
  refine x_iload_n hx hb d_M_find_6 hl rfl ?_
  refine lv_if_ge hx hb d_M_find_7 rfl (fun h7 => ?_) (fun h7 => ?_)
  · have hz := tI_ge h7
    have hz2 := tbn_le hy x
    rw [tI_n hz] at hl
    first | refine x_aload_n hx hb d_M_find_14 hl rfl ?_ | refine x_aload_nQ hx hb d_M_find_14 hl rfl ?_
    refine x_iload_n hx hb d_M_find_15 hl rfl ?_
    refine x_iload_n hx hb d_M_find_16 hl rfl ?_
    refine m_calli (k_V ⟨hx, hb, hml, hown, hts⟩ hE hA hw (c_M_at hI hB (by omega)) (ci_M).1 rfl (rf_at hI 0 (by decide) rfl) (wm3 164 rfl rfl) (wm3 166 rfl rfl) (wmp2 7 rfl) (wm1 9 rfl rfl) (wm3 167 rfl rfl) rfl rfl ar_M_at ⟨Nat.le_trans (Nat.le_of_ble_eq_true rfl) hR.1, Nat.le_trans (Nat.le_of_ble_eq_true rfl) hR.2.1⟩ rfl hl.1 rfl (Nat.le_of_ble_eq_true rfl) d_M_find_17 ⟨Nat.le_trans (Nat.le_of_ble_eq_true rfl) hR.2.2.1, Nat.le_trans (Nat.le_of_ble_eq_true rfl) hR.2.2.2⟩) hw (mfr_in hw hA) (fun r17 M17 H locs hP17 hw => ?_)
    obtain ⟨⟨rfl, hb17⟩, hM17⟩ := hP17
    rw [hM17] at hw
    exact x_reti hQ hx hb hr hlk rfl hw (by omega) (by omega) d_M_find_20 (⟨by first | (unfold fd; rw [if_pos hz]; rfl) | (unfold fd; rw [if_neg hz, fI_n (by omega)]), rfl⟩)
  · have hz := tI_nge (by have := tbn_le hy x; omega) h7
    refine lv_iconst (v := -1) hx hb d_M_find_10 (by decide) ?_
    refine lv_goto hx hb d_M_find_11 rfl ?_
    exact x_reti hQ hx hb hr hlk rfl hw (by omega) (by omega) d_M_find_20 (⟨by first | (unfold fd; rw [if_pos hz]; rfl) | (unfold fd; rw [if_neg hz, fI_n (by omega)]), rfl⟩)

set_option maxHeartbeats 4000000 in
set_option maxRecDepth 100000 in
theorem c_M_kind {l : Launch} {E : Ev} {σ : SS} {ad : Nat → Nat} (hI : rfI ad) (hB : rB σ) {sz : Nat} {x y : Int32} (hy : σ 1 0 ≤ 15) (hN : ∀ j, σ 0 j < 1300) : MCi l E y_M_kind prog_10_method_32_code 4 (some .int) 3 66 0 0 [.ref (ad 0), .int x, .int y] (rfM E σ ad) sz (fun r M' => r = aKind σ (fd σ x y) ∧ M' = rfM E σ ad) := by
  refine mc_of R_M rfl [some (.ref (ad 0)), some (.int x), some (.int y), none] (by decide) (Nat.le_of_ble_eq_true rfl) rfl ?_
  intro p e R s m ag below meth c ls Q A X hAe hQ hR hsz hw hl
  rw [← hAe] at hQ
  obtain ⟨⟨hx, hb, hml, hown, hts⟩, hE, hA, hr, hlk, hnm⟩ := X
  have hK := hE.1
  have hf := fd_N hN x y
  first | refine x_aload_n hx hb d_M_kind_0 hl rfl ?_ | refine x_aload_nQ hx hb d_M_kind_0 hl rfl ?_
  refine x_iload_n hx hb d_M_kind_1 hl rfl ?_
  refine x_iload_n hx hb d_M_kind_2 hl rfl ?_
  refine m_calli (k_V ⟨hx, hb, hml, hown, hts⟩ hE hA hw (c_M_find hI hB hy) (ci_M).1 rfl (rf_at hI 0 (by decide) rfl) (wm4 10 rfl rfl) (wm4 12 rfl rfl) (wmp3 1 rfl) (wm1 9 rfl rfl) (wm4 13 rfl rfl) rfl rfl ar_M_find ⟨Nat.le_trans (Nat.le_of_ble_eq_true rfl) hR.1, Nat.le_trans (Nat.le_of_ble_eq_true rfl) hR.2.1⟩ rfl hl.1 rfl (Nat.le_of_ble_eq_true rfl) d_M_kind_3 ⟨Nat.le_trans (Nat.le_of_ble_eq_true rfl) hR.2.2.1, Nat.le_trans (Nat.le_of_ble_eq_true rfl) hR.2.2.2⟩) hw (mfr_in hw hA) (fun r3 M3 H locs hP3 hw => ?_)
  obtain ⟨rfl, hM3⟩ := hP3
  rw [hM3] at hw
  refine x_istore_n hx hb d_M_kind_6 hl (Nat.le_of_ble_eq_true rfl) (lh_k (i := 2) rfl (by first | exact lk_n | exact lk_i | exact lk_r | exact lk_q | exact lk_0)) (fun ls hl => ?_)
  refine x_iload_n hx hb d_M_kind_7 hl rfl ?_
  refine lv_if_ge hx hb d_M_kind_8 rfl (fun h8 => ?_) (fun h8 => ?_)
  · have hz := fI_ge h8
    rw [fI_n hz] at hl
    first | refine x_aload_n hx hb d_M_kind_15 hl rfl ?_ | refine x_aload_nQ hx hb d_M_kind_15 hl rfl ?_
    refine m_get hx hb hts hown hK hw ci_M (rf_at hI 0 (by decide) rfl) 6 (by decide) (wm3 78 rfl rfl) rfl d_M_kind_16 ?_
    refine x_iload_n hx hb d_M_kind_19 hl rfl ?_
    refine rl_6 hx hb hK hI hB hw (by omega) d_M_kind_20 (fun hv20 => ?_)
    exact x_reti hQ hx hb hr hlk rfl hw (by omega) (by omega) d_M_kind_21 (⟨by unfold aKind; first | rw [if_pos hz] | rw [if_neg hz], rfl⟩)
  · have hz := fI_nge (by omega) h8
    refine lv_iconst (v := -1) hx hb d_M_kind_11 (by decide) ?_
    refine lv_goto hx hb d_M_kind_12 rfl ?_
    exact x_reti hQ hx hb hr hlk rfl hw (by omega) (by omega) d_M_kind_21 (⟨by unfold aKind; first | rw [if_pos hz] | rw [if_neg hz], rfl⟩)

set_option maxHeartbeats 4000000 in
set_option maxRecDepth 100000 in
theorem c_M_isFile {l : Launch} {E : Ev} {σ : SS} {ad : Nat → Nat} (hI : rfI ad) (hB : rB σ) {sz : Nat} {v : Nat} (hv : v = 40000 ∨ v < 1300) : MCi l E y_M_isFile prog_10_method_33_code 2 (some .boolean) 0 0 0 0 [.ref (ad 0), .int (fI v)] (rfM E σ ad) sz (fun r M' => r = bz (flb σ v) ∧ M' = rfM E σ ad) := by
  refine mc_of R_M rfl [some (.ref (ad 0)), some (.int (fI v))] (by decide) (Nat.le_of_ble_eq_true rfl) rfl ?_
  intro p e R s m ag below meth c ls Q A X hAe hQ hR hsz hw hl
  rw [← hAe] at hQ
  obtain ⟨⟨hx, hb, hml, hown, hts⟩, hE, hA, hr, hlk, hnm⟩ := X
  have hK := hE.1
  refine x_iload_n hx hb d_M_isFile_0 hl rfl ?_
  refine lv_if_le hx hb d_M_isFile_1 rfl (fun h1 => ?_) (fun h1 => ?_)
  · have hz := fI_le (by omega) h1
    refine lv_iconst (v := nI 0) hx hb d_M_isFile_18 (by decide) ?_
    exact x_reti hQ hx hb hr hlk (by first | exact nar_bz | decide) hw (by omega) (by omega) d_M_isFile_19 (⟨by first | exact bz_f (flb_1 hz) | exact bz_f (flb_2 h11) | exact bz_t (flb_t hz h11), rfl⟩)
  · have hz := fI_nle (by omega) h1
    rw [fI_n hz.1] at hl
    first | refine x_aload_n hx hb d_M_isFile_4 hl rfl ?_ | refine x_aload_nQ hx hb d_M_isFile_4 hl rfl ?_
    refine m_get hx hb hts hown hK hw ci_M (rf_at hI 0 (by decide) rfl) 6 (by decide) (wm3 78 rfl rfl) rfl d_M_isFile_5 ?_
    refine x_iload_n hx hb d_M_isFile_8 hl rfl ?_
    refine rl_6 hx hb hK hI hB hw (by omega) d_M_isFile_9 (fun hv9 => ?_)
    refine lv_iconst (v := nI 2) hx hb d_M_isFile_10 (by decide) ?_
    refine x_icmp_ne hx hb d_M_isFile_11 rfl (by omega) (by omega) (fun h11 => ?_) (fun h11 => ?_)
    · refine lv_iconst (v := nI 0) hx hb d_M_isFile_18 (by decide) ?_
      exact x_reti hQ hx hb hr hlk (by first | exact nar_bz | decide) hw (by omega) (by omega) d_M_isFile_19 (⟨by first | exact bz_f (flb_1 hz) | exact bz_f (flb_2 h11) | exact bz_t (flb_t hz h11), rfl⟩)
    · refine lv_iconst (v := nI 1) hx hb d_M_isFile_14 (by decide) ?_
      refine lv_goto hx hb d_M_isFile_15 rfl ?_
      exact x_reti hQ hx hb hr hlk (by first | exact nar_bz | decide) hw (by omega) (by omega) d_M_isFile_19 (⟨by first | exact bz_f (flb_1 hz) | exact bz_f (flb_2 h11) | exact bz_t (flb_t hz h11), rfl⟩)

set_option maxHeartbeats 4000000 in
set_option maxRecDepth 100000 in
theorem c_M_text {l : Launch} {E : Ev} {σ : SS} {ad : Nat → Nat} (hI : rfI ad) (hB : rB σ) {sz : Nat} {x y : Int32} (hy : σ 1 0 ≤ 15) (hN : ∀ j, σ 0 j < 1300) : MCl l E y_M_text prog_10_method_34_code 4 (some .long) 3 66 0 0 [.ref (ad 0), .int x, .int y] (rfM E σ ad) sz (fun r M' => r = aText σ (fd σ x y) ∧ M' = rfM E σ ad) := by
  refine mc_of R_M rfl [some (.ref (ad 0)), some (.int x), some (.int y), none] (by decide) (Nat.le_of_ble_eq_true rfl) rfl ?_
  intro p e R s m ag below meth c ls Q A X hAe hQ hR hsz hw hl
  rw [← hAe] at hQ
  obtain ⟨⟨hx, hb, hml, hown, hts⟩, hE, hA, hr, hlk, hnm⟩ := X
  have hK := hE.1
  have hf := fd_N hN x y
  first | refine x_aload_n hx hb d_M_text_0 hl rfl ?_ | refine x_aload_nQ hx hb d_M_text_0 hl rfl ?_
  refine x_iload_n hx hb d_M_text_1 hl rfl ?_
  refine x_iload_n hx hb d_M_text_2 hl rfl ?_
  refine m_calli (k_V ⟨hx, hb, hml, hown, hts⟩ hE hA hw (c_M_find hI hB hy) (ci_M).1 rfl (rf_at hI 0 (by decide) rfl) (wm4 10 rfl rfl) (wm4 12 rfl rfl) (wmp3 1 rfl) (wm1 9 rfl rfl) (wm4 13 rfl rfl) rfl rfl ar_M_find ⟨Nat.le_trans (Nat.le_of_ble_eq_true rfl) hR.1, Nat.le_trans (Nat.le_of_ble_eq_true rfl) hR.2.1⟩ rfl hl.1 rfl (Nat.le_of_ble_eq_true rfl) d_M_text_3 ⟨Nat.le_trans (Nat.le_of_ble_eq_true rfl) hR.2.2.1, Nat.le_trans (Nat.le_of_ble_eq_true rfl) hR.2.2.2⟩) hw (mfr_in hw hA) (fun r3 M3 H locs hP3 hw => ?_)
  obtain ⟨rfl, hM3⟩ := hP3
  rw [hM3] at hw
  refine x_istore_n hx hb d_M_text_6 hl (Nat.le_of_ble_eq_true rfl) (lh_k (i := 2) rfl (by first | exact lk_n | exact lk_i | exact lk_r | exact lk_q | exact lk_0)) (fun ls hl => ?_)
  first | refine x_aload_n hx hb d_M_text_7 hl rfl ?_ | refine x_aload_nQ hx hb d_M_text_7 hl rfl ?_
  refine x_iload_n hx hb d_M_text_8 hl rfl ?_
  refine m_calli (k_V ⟨hx, hb, hml, hown, hts⟩ hE hA hw (c_M_isFile hI hB hf) (ci_M).1 rfl (rf_at hI 0 (by decide) rfl) (wm4 22 rfl rfl) (wm4 24 rfl rfl) (wmp3 3 rfl) (wm1 9 rfl rfl) (wm4 25 rfl rfl) rfl rfl ar_M_isFile ⟨Nat.le_trans (Nat.le_of_ble_eq_true rfl) hR.1, Nat.le_trans (Nat.le_of_ble_eq_true rfl) hR.2.1⟩ rfl hl.1 rfl (Nat.le_of_ble_eq_true rfl) d_M_text_9 ⟨Nat.le_trans (Nat.le_of_ble_eq_true rfl) hR.2.2.1, Nat.le_trans (Nat.le_of_ble_eq_true rfl) hR.2.2.2⟩) hw (mfr_in hw hA) (fun r9 M9 H locs hP9 hw => ?_)
  obtain ⟨rfl, hM9⟩ := hP9
  rw [hM9] at hw
  refine x_if_eqB hx hb d_M_text_12 rfl (fun h12 => ?_) (fun h12 => ?_)
  · refine lv_ldc2 (v := -1) hx hb hown (hts _ (wm4 26 rfl rfl)) d_M_text_24 ?_
    exact x_retl hQ hx hb hr hlk hw (by omega) (by omega) d_M_text_27 (⟨by unfold aText; first | rw [if_pos h12] | rw [if_neg (by rw [h12]; decide)], rfl⟩)
  · obtain ⟨hz, hz2, hz3⟩ := flb_of h12
    rw [fI_n hz] at hl
    first | refine x_aload_n hx hb d_M_text_15 hl rfl ?_ | refine x_aload_nQ hx hb d_M_text_15 hl rfl ?_
    refine m_get hx hb hts hown hK hw ci_M (rf_at hI 0 (by decide) rfl) 9 (by decide) (wm3 81 rfl rfl) rfl d_M_text_16 ?_
    refine x_iload_n hx hb d_M_text_19 hl rfl ?_
    refine rl_9 hx hb hK hI hw (by omega) d_M_text_20 ?_
    refine lv_goto hx hb d_M_text_21 rfl ?_
    exact x_retl hQ hx hb hr hlk hw (by omega) (by omega) d_M_text_27 (⟨by unfold aText; first | rw [if_pos h12] | rw [if_neg (by rw [h12]; decide)], rfl⟩)

set_option maxHeartbeats 4000000 in
set_option maxRecDepth 100000 in
theorem c_M_length {l : Launch} {E : Ev} {σ : SS} {ad : Nat → Nat} (hI : rfI ad) (hB : rB σ) {sz : Nat} {x y : Int32} (hy : σ 1 0 ≤ 15) (hN : ∀ j, σ 0 j < 1300) : MCi l E y_M_length prog_10_method_35_code 4 (some .int) 3 66 0 0 [.ref (ad 0), .int x, .int y] (rfM E σ ad) sz (fun r M' => r = aLen σ (fd σ x y) ∧ M' = rfM E σ ad) := by
  refine mc_of R_M rfl [some (.ref (ad 0)), some (.int x), some (.int y), none] (by decide) (Nat.le_of_ble_eq_true rfl) rfl ?_
  intro p e R s m ag below meth c ls Q A X hAe hQ hR hsz hw hl
  rw [← hAe] at hQ
  obtain ⟨⟨hx, hb, hml, hown, hts⟩, hE, hA, hr, hlk, hnm⟩ := X
  have hK := hE.1
  have hf := fd_N hN x y
  first | refine x_aload_n hx hb d_M_length_0 hl rfl ?_ | refine x_aload_nQ hx hb d_M_length_0 hl rfl ?_
  refine x_iload_n hx hb d_M_length_1 hl rfl ?_
  refine x_iload_n hx hb d_M_length_2 hl rfl ?_
  refine m_calli (k_V ⟨hx, hb, hml, hown, hts⟩ hE hA hw (c_M_find hI hB hy) (ci_M).1 rfl (rf_at hI 0 (by decide) rfl) (wm4 10 rfl rfl) (wm4 12 rfl rfl) (wmp3 1 rfl) (wm1 9 rfl rfl) (wm4 13 rfl rfl) rfl rfl ar_M_find ⟨Nat.le_trans (Nat.le_of_ble_eq_true rfl) hR.1, Nat.le_trans (Nat.le_of_ble_eq_true rfl) hR.2.1⟩ rfl hl.1 rfl (Nat.le_of_ble_eq_true rfl) d_M_length_3 ⟨Nat.le_trans (Nat.le_of_ble_eq_true rfl) hR.2.2.1, Nat.le_trans (Nat.le_of_ble_eq_true rfl) hR.2.2.2⟩) hw (mfr_in hw hA) (fun r3 M3 H locs hP3 hw => ?_)
  obtain ⟨rfl, hM3⟩ := hP3
  rw [hM3] at hw
  refine x_istore_n hx hb d_M_length_6 hl (Nat.le_of_ble_eq_true rfl) (lh_k (i := 2) rfl (by first | exact lk_n | exact lk_i | exact lk_r | exact lk_q | exact lk_0)) (fun ls hl => ?_)
  first | refine x_aload_n hx hb d_M_length_7 hl rfl ?_ | refine x_aload_nQ hx hb d_M_length_7 hl rfl ?_
  refine x_iload_n hx hb d_M_length_8 hl rfl ?_
  refine m_calli (k_V ⟨hx, hb, hml, hown, hts⟩ hE hA hw (c_M_isFile hI hB hf) (ci_M).1 rfl (rf_at hI 0 (by decide) rfl) (wm4 22 rfl rfl) (wm4 24 rfl rfl) (wmp3 3 rfl) (wm1 9 rfl rfl) (wm4 25 rfl rfl) rfl rfl ar_M_isFile ⟨Nat.le_trans (Nat.le_of_ble_eq_true rfl) hR.1, Nat.le_trans (Nat.le_of_ble_eq_true rfl) hR.2.1⟩ rfl hl.1 rfl (Nat.le_of_ble_eq_true rfl) d_M_length_9 ⟨Nat.le_trans (Nat.le_of_ble_eq_true rfl) hR.2.2.1, Nat.le_trans (Nat.le_of_ble_eq_true rfl) hR.2.2.2⟩) hw (mfr_in hw hA) (fun r9 M9 H locs hP9 hw => ?_)
  obtain ⟨rfl, hM9⟩ := hP9
  rw [hM9] at hw
  refine x_if_eqB hx hb d_M_length_12 rfl (fun h12 => ?_) (fun h12 => ?_)
  · refine lv_iconst (v := -1) hx hb d_M_length_24 (by decide) ?_
    exact x_reti hQ hx hb hr hlk rfl hw (by omega) (by omega) d_M_length_25 (⟨by unfold aLen; first | rw [if_pos h12] | rw [if_neg (by rw [h12]; decide)], rfl⟩)
  · obtain ⟨hz, hz2, hz3⟩ := flb_of h12
    rw [fI_n hz] at hl
    first | refine x_aload_n hx hb d_M_length_15 hl rfl ?_ | refine x_aload_nQ hx hb d_M_length_15 hl rfl ?_
    refine m_get hx hb hts hown hK hw ci_M (rf_at hI 0 (by decide) rfl) 7 (by decide) (wm3 79 rfl rfl) rfl d_M_length_16 ?_
    refine x_iload_n hx hb d_M_length_19 hl rfl ?_
    refine rl_7 hx hb hK hI hB hw (by omega) d_M_length_20 (fun hv20 => ?_)
    refine lv_goto hx hb d_M_length_21 rfl ?_
    exact x_reti hQ hx hb hr hlk rfl hw (by omega) (by omega) d_M_length_25 (⟨by unfold aLen; first | rw [if_pos h12] | rw [if_neg (by rw [h12]; decide)], rfl⟩)

set_option maxHeartbeats 4000000 in
set_option maxRecDepth 100000 in
theorem c_M_line {l : Launch} {E : Ev} {σ : SS} {ad : Nat → Nat} (hI : rfI ad) (hB : rB σ) {sz : Nat} {x y : Int32} (hy : σ 1 0 ≤ 15) (hN : ∀ j, σ 0 j < 1300) : MCi l E y_M_line prog_10_method_36_code 4 (some .int) 3 66 0 0 [.ref (ad 0), .int x, .int y] (rfM E σ ad) sz (fun r M' => r = aLine σ (fd σ x y) ∧ M' = rfM E σ ad) := by
  refine mc_of R_M rfl [some (.ref (ad 0)), some (.int x), some (.int y), none] (by decide) (Nat.le_of_ble_eq_true rfl) rfl ?_
  intro p e R s m ag below meth c ls Q A X hAe hQ hR hsz hw hl
  rw [← hAe] at hQ
  obtain ⟨⟨hx, hb, hml, hown, hts⟩, hE, hA, hr, hlk, hnm⟩ := X
  have hK := hE.1
  have hf := fd_N hN x y
  first | refine x_aload_n hx hb d_M_line_0 hl rfl ?_ | refine x_aload_nQ hx hb d_M_line_0 hl rfl ?_
  refine x_iload_n hx hb d_M_line_1 hl rfl ?_
  refine x_iload_n hx hb d_M_line_2 hl rfl ?_
  refine m_calli (k_V ⟨hx, hb, hml, hown, hts⟩ hE hA hw (c_M_find hI hB hy) (ci_M).1 rfl (rf_at hI 0 (by decide) rfl) (wm4 10 rfl rfl) (wm4 12 rfl rfl) (wmp3 1 rfl) (wm1 9 rfl rfl) (wm4 13 rfl rfl) rfl rfl ar_M_find ⟨Nat.le_trans (Nat.le_of_ble_eq_true rfl) hR.1, Nat.le_trans (Nat.le_of_ble_eq_true rfl) hR.2.1⟩ rfl hl.1 rfl (Nat.le_of_ble_eq_true rfl) d_M_line_3 ⟨Nat.le_trans (Nat.le_of_ble_eq_true rfl) hR.2.2.1, Nat.le_trans (Nat.le_of_ble_eq_true rfl) hR.2.2.2⟩) hw (mfr_in hw hA) (fun r3 M3 H locs hP3 hw => ?_)
  obtain ⟨rfl, hM3⟩ := hP3
  rw [hM3] at hw
  refine x_istore_n hx hb d_M_line_6 hl (Nat.le_of_ble_eq_true rfl) (lh_k (i := 2) rfl (by first | exact lk_n | exact lk_i | exact lk_r | exact lk_q | exact lk_0)) (fun ls hl => ?_)
  refine x_iload_n hx hb d_M_line_7 hl rfl ?_
  refine lv_if_le hx hb d_M_line_8 rfl (fun h8 => ?_) (fun h8 => ?_)
  · have hz := fI_le (by omega) h8
    refine lv_iconst (v := -1) hx hb d_M_line_20 (by decide) ?_
    exact x_reti hQ hx hb hr hlk rfl hw (by omega) (by omega) d_M_line_21 (⟨by unfold aLine; first | rw [if_pos hz] | rw [if_neg (by omega)], rfl⟩)
  · have hz := fI_nle (by omega) h8
    rw [fI_n hz.1] at hl
    first | refine x_aload_n hx hb d_M_line_11 hl rfl ?_ | refine x_aload_nQ hx hb d_M_line_11 hl rfl ?_
    refine m_get hx hb hts hown hK hw ci_M (rf_at hI 0 (by decide) rfl) 10 (by decide) (wm3 82 rfl rfl) rfl d_M_line_12 ?_
    refine x_iload_n hx hb d_M_line_15 hl rfl ?_
    refine rl_10 hx hb hK hI hB hw (by omega) d_M_line_16 (fun hv16 => ?_)
    refine lv_goto hx hb d_M_line_17 rfl ?_
    exact x_reti hQ hx hb hr hlk rfl hw (by omega) (by omega) d_M_line_21 (⟨by unfold aLine; first | rw [if_pos hz] | rw [if_neg (by omega)], rfl⟩)

set_option maxHeartbeats 4000000 in
set_option maxRecDepth 100000 in
theorem c_M_count {l : Launch} {E : Ev} {σ : SS} {ad : Nat → Nat} (hI : rfI ad) (hB : rB σ) {sz : Nat} {x y : Int32} (hy : σ 1 0 ≤ 15) (hN : ∀ j, σ 0 j < 1300) : MCi l E y_M_count prog_10_method_37_code 4 (some .int) 3 66 0 0 [.ref (ad 0), .int x, .int y] (rfM E σ ad) sz (fun r M' => r = aCount σ (fd σ x y) ∧ M' = rfM E σ ad) := by
  refine mc_of R_M rfl [some (.ref (ad 0)), some (.int x), some (.int y), none] (by decide) (Nat.le_of_ble_eq_true rfl) rfl ?_
  intro p e R s m ag below meth c ls Q A X hAe hQ hR hsz hw hl
  rw [← hAe] at hQ
  obtain ⟨⟨hx, hb, hml, hown, hts⟩, hE, hA, hr, hlk, hnm⟩ := X
  have hK := hE.1
  have hf := fd_N hN x y
  first | refine x_aload_n hx hb d_M_count_0 hl rfl ?_ | refine x_aload_nQ hx hb d_M_count_0 hl rfl ?_
  refine x_iload_n hx hb d_M_count_1 hl rfl ?_
  refine x_iload_n hx hb d_M_count_2 hl rfl ?_
  refine m_calli (k_V ⟨hx, hb, hml, hown, hts⟩ hE hA hw (c_M_find hI hB hy) (ci_M).1 rfl (rf_at hI 0 (by decide) rfl) (wm4 10 rfl rfl) (wm4 12 rfl rfl) (wmp3 1 rfl) (wm1 9 rfl rfl) (wm4 13 rfl rfl) rfl rfl ar_M_find ⟨Nat.le_trans (Nat.le_of_ble_eq_true rfl) hR.1, Nat.le_trans (Nat.le_of_ble_eq_true rfl) hR.2.1⟩ rfl hl.1 rfl (Nat.le_of_ble_eq_true rfl) d_M_count_3 ⟨Nat.le_trans (Nat.le_of_ble_eq_true rfl) hR.2.2.1, Nat.le_trans (Nat.le_of_ble_eq_true rfl) hR.2.2.2⟩) hw (mfr_in hw hA) (fun r3 M3 H locs hP3 hw => ?_)
  obtain ⟨rfl, hM3⟩ := hP3
  rw [hM3] at hw
  refine x_istore_n hx hb d_M_count_6 hl (Nat.le_of_ble_eq_true rfl) (lh_k (i := 2) rfl (by first | exact lk_n | exact lk_i | exact lk_r | exact lk_q | exact lk_0)) (fun ls hl => ?_)
  refine x_iload_n hx hb d_M_count_7 hl rfl ?_
  refine lv_if_le hx hb d_M_count_8 rfl (fun h8 => ?_) (fun h8 => ?_)
  · have hz := fI_le (by omega) h8
    refine lv_iconst (v := -1) hx hb d_M_count_20 (by decide) ?_
    exact x_reti hQ hx hb hr hlk rfl hw (by omega) (by omega) d_M_count_21 (⟨by unfold aCount; first | rw [if_pos hz] | rw [if_neg (by omega)], rfl⟩)
  · have hz := fI_nle (by omega) h8
    rw [fI_n hz.1] at hl
    first | refine x_aload_n hx hb d_M_count_11 hl rfl ?_ | refine x_aload_nQ hx hb d_M_count_11 hl rfl ?_
    refine m_get hx hb hts hown hK hw ci_M (rf_at hI 0 (by decide) rfl) 11 (by decide) (wm3 83 rfl rfl) rfl d_M_count_12 ?_
    refine x_iload_n hx hb d_M_count_15 hl rfl ?_
    refine rl_11 hx hb hK hI hB hw (by omega) d_M_count_16 (fun hv16 => ?_)
    refine lv_goto hx hb d_M_count_17 rfl ?_
    exact x_reti hQ hx hb hr hlk rfl hw (by omega) (by omega) d_M_count_21 (⟨by unfold aCount; first | rw [if_pos hz] | rw [if_neg (by omega)], rfl⟩)

set_option maxHeartbeats 4000000 in
set_option maxRecDepth 100000 in
theorem c_M_created {l : Launch} {E : Ev} {σ : SS} {ad : Nat → Nat} (hI : rfI ad) (hB : rB σ) {sz : Nat} {x y : Int32} (hy : σ 1 0 ≤ 15) (hN : ∀ j, σ 0 j < 1300) (hb9 : ∀ j, σ 12 j < 256) : MCi l E y_M_created prog_10_method_38_code 4 (some .int) 3 66 0 0 [.ref (ad 0), .int x, .int y] (rfM E σ ad) sz (fun r M' => r = aBorn σ (fd σ x y) ∧ M' = rfM E σ ad) := by
  refine mc_of R_M rfl [some (.ref (ad 0)), some (.int x), some (.int y), none] (by decide) (Nat.le_of_ble_eq_true rfl) rfl ?_
  intro p e R s m ag below meth c ls Q A X hAe hQ hR hsz hw hl
  rw [← hAe] at hQ
  obtain ⟨⟨hx, hb, hml, hown, hts⟩, hE, hA, hr, hlk, hnm⟩ := X
  have hK := hE.1
  have hf := fd_N hN x y
  first | refine x_aload_n hx hb d_M_created_0 hl rfl ?_ | refine x_aload_nQ hx hb d_M_created_0 hl rfl ?_
  refine x_iload_n hx hb d_M_created_1 hl rfl ?_
  refine x_iload_n hx hb d_M_created_2 hl rfl ?_
  refine m_calli (k_V ⟨hx, hb, hml, hown, hts⟩ hE hA hw (c_M_find hI hB hy) (ci_M).1 rfl (rf_at hI 0 (by decide) rfl) (wm4 10 rfl rfl) (wm4 12 rfl rfl) (wmp3 1 rfl) (wm1 9 rfl rfl) (wm4 13 rfl rfl) rfl rfl ar_M_find ⟨Nat.le_trans (Nat.le_of_ble_eq_true rfl) hR.1, Nat.le_trans (Nat.le_of_ble_eq_true rfl) hR.2.1⟩ rfl hl.1 rfl (Nat.le_of_ble_eq_true rfl) d_M_created_3 ⟨Nat.le_trans (Nat.le_of_ble_eq_true rfl) hR.2.2.1, Nat.le_trans (Nat.le_of_ble_eq_true rfl) hR.2.2.2⟩) hw (mfr_in hw hA) (fun r3 M3 H locs hP3 hw => ?_)
  obtain ⟨rfl, hM3⟩ := hP3
  rw [hM3] at hw
  refine x_istore_n hx hb d_M_created_6 hl (Nat.le_of_ble_eq_true rfl) (lh_k (i := 2) rfl (by first | exact lk_n | exact lk_i | exact lk_r | exact lk_q | exact lk_0)) (fun ls hl => ?_)
  refine x_iload_n hx hb d_M_created_7 hl rfl ?_
  refine lv_if_le hx hb d_M_created_8 rfl (fun h8 => ?_) (fun h8 => ?_)
  · have hz := fI_le (by omega) h8
    refine lv_iconst (v := -1) hx hb d_M_created_29 (by decide) ?_
    exact x_reti hQ hx hb hr hlk rfl hw (by omega) (by omega) d_M_created_30 (⟨by unfold aBorn; first | rw [if_pos (Or.inl hz)] | rw [if_pos (Or.inr h17)] | (rw [if_neg (by omega)]; exact bI_n (by omega)), rfl⟩)
  · have hz := fI_nle (by omega) h8
    rw [fI_n hz.1] at hl
    first | refine x_aload_n hx hb d_M_created_11 hl rfl ?_ | refine x_aload_nQ hx hb d_M_created_11 hl rfl ?_
    refine m_get hx hb hts hown hK hw ci_M (rf_at hI 0 (by decide) rfl) 12 (by decide) (wm3 84 rfl rfl) rfl d_M_created_12 ?_
    refine x_iload_n hx hb d_M_created_15 hl rfl ?_
    refine rl_12 hx hb hK hI hB hw (by omega) d_M_created_16 (fun hv16 => ?_)
    refine lv_if_lt hx hb d_M_created_17 rfl (fun h17 => ?_) (fun h17 => ?_)
    · have h17 := (bI_lt (hb9 _)).mp h17
      refine lv_iconst (v := -1) hx hb d_M_created_29 (by decide) ?_
      exact x_reti hQ hx hb hr hlk rfl hw (by omega) (by omega) d_M_created_30 (⟨by unfold aBorn; first | rw [if_pos (Or.inl hz)] | rw [if_pos (Or.inr h17)] | (rw [if_neg (by omega)]; exact bI_n (by omega)), rfl⟩)
    · have h17 : ¬ 128 ≤ _ := fun z => h17 ((bI_lt (hb9 _)).mpr z)
      first | refine x_aload_n hx hb d_M_created_20 hl rfl ?_ | refine x_aload_nQ hx hb d_M_created_20 hl rfl ?_
      refine m_get hx hb hts hown hK hw ci_M (rf_at hI 0 (by decide) rfl) 12 (by decide) (wm3 84 rfl rfl) rfl d_M_created_21 ?_
      refine x_iload_n hx hb d_M_created_24 hl rfl ?_
      refine rl_12 hx hb hK hI hB hw (by omega) d_M_created_25 (fun hv25 => ?_)
      refine lv_goto hx hb d_M_created_26 rfl ?_
      exact x_reti hQ hx hb hr hlk rfl hw (by omega) (by omega) d_M_created_30 (⟨by unfold aBorn; first | rw [if_pos (Or.inl hz)] | rw [if_pos (Or.inr h17)] | (rw [if_neg (by omega)]; exact bI_n (by omega)), rfl⟩)

set_option maxHeartbeats 4000000 in
set_option maxRecDepth 100000 in
theorem c_M_youngest {l : Launch} {E : Ev} {σ : SS} {ad : Nat → Nat} (hI : rfI ad) (hB : rB σ) {sz : Nat}  : MCi l E y_M_youngest prog_10_method_30_code 1 (some .int) 0 0 0 0 [.ref (ad 0)] (rfM E σ ad) sz (fun r M' => r = nI (σ 1 0) ∧ M' = rfM E σ ad) := by
  refine mc_of R_M rfl [some (.ref (ad 0))] (by decide) (Nat.le_of_ble_eq_true rfl) rfl ?_
  intro p e R s m ag below meth c ls Q A X hAe hQ hR hsz hw hl
  rw [← hAe] at hQ
  obtain ⟨⟨hx, hb, hml, hown, hts⟩, hE, hA, hr, hlk, hnm⟩ := X
  have hK := hE.1
  first | refine x_aload_n hx hb d_M_youngest_0 hl rfl ?_ | refine x_aload_nQ hx hb d_M_youngest_0 hl rfl ?_
  refine m_get hx hb hts hown hK hw ci_M (rf_at hI 0 (by decide) rfl) 1 (by decide) (wm3 73 rfl rfl) rfl d_M_youngest_1 ?_
  have hs1 := hB 1 0 (by decide) (by decide)
  exact x_reti hQ hx hb hr hlk rfl hw (by omega) (by omega) d_M_youngest_4 (⟨rfl, rfl⟩)

set_option maxHeartbeats 4000000 in
set_option maxRecDepth 100000 in
theorem c_M_reps {l : Launch} {E : Ev} {σ : SS} {ad : Nat → Nat} (hI : rfI ad) (hB : rB σ) {sz : Nat}  : MCi l E y_M_representations prog_10_method_42_code 1 (some .int) 0 0 0 0 [.ref (ad 0)] (rfM E σ ad) sz (fun r M' => r = nI (σ 16 0) ∧ M' = rfM E σ ad) := by
  refine mc_of R_M rfl [some (.ref (ad 0))] (by decide) (Nat.le_of_ble_eq_true rfl) rfl ?_
  intro p e R s m ag below meth c ls Q A X hAe hQ hR hsz hw hl
  rw [← hAe] at hQ
  obtain ⟨⟨hx, hb, hml, hown, hts⟩, hE, hA, hr, hlk, hnm⟩ := X
  have hK := hE.1
  first | refine x_aload_n hx hb d_M_representations_0 hl rfl ?_ | refine x_aload_nQ hx hb d_M_representations_0 hl rfl ?_
  refine m_get hx hb hts hown hK hw ci_M (rf_at hI 0 (by decide) rfl) 16 (by decide) (wm3 88 rfl rfl) rfl d_M_representations_1 ?_
  have hs1 := hB 16 0 (by decide) (by decide)
  exact x_reti hQ hx hb hr hlk rfl hw (by omega) (by omega) d_M_representations_4 (⟨rfl, rfl⟩)

set_option maxHeartbeats 4000000 in
set_option maxRecDepth 100000 in
theorem c_M_abort {l : Launch} {E : Ev} {σ : SS} {ad : Nat → Nat} (hI : rfI ad) (hB : rB σ) {sz : Nat} {x : Int32} : MCi l E y_M_abort prog_10_method_29_code 2 (some .boolean) 1 21 0 0 [.ref (ad 0), .int x] (rfM E σ ad) sz (fun r M' => r = bz (opb σ (tx x)) ∧ M' = rfM E (abO σ (tx x)) ad ∧ rB (abO σ (tx x))) := by
  refine mc_of R_M rfl [some (.ref (ad 0)), some (.int x)] (by decide) (Nat.le_of_ble_eq_true rfl) rfl ?_
  intro p e R s m ag below meth c ls Q A X hAe hQ hR hsz hw hl
  rw [← hAe] at hQ
  obtain ⟨⟨hx, hb, hml, hown, hts⟩, hE, hA, hr, hlk, hnm⟩ := X
  have hK := hE.1
  first | refine x_aload_n hx hb d_M_abort_0 hl rfl ?_ | refine x_aload_nQ hx hb d_M_abort_0 hl rfl ?_
  refine x_iload_n hx hb d_M_abort_1 hl rfl ?_
  refine m_calli (k_V ⟨hx, hb, hml, hown, hts⟩ hE hA hw (c_M_isOpen hI hB) (ci_M).1 rfl (rf_at hI 0 (by decide) rfl) (wm3 157 rfl rfl) (wm3 159 rfl rfl) (wmp2 6 rfl) (wm1 9 rfl rfl) (wm3 160 rfl rfl) rfl rfl ar_M_isOpen ⟨Nat.le_trans (Nat.le_of_ble_eq_true rfl) hR.1, Nat.le_trans (Nat.le_of_ble_eq_true rfl) hR.2.1⟩ rfl hl.1 rfl (Nat.le_of_ble_eq_true rfl) d_M_abort_2 ⟨Nat.le_trans (Nat.le_of_ble_eq_true rfl) hR.2.2.1, Nat.le_trans (Nat.le_of_ble_eq_true rfl) hR.2.2.2⟩) hw (mfr_in hw hA) (fun r2 M2 H locs hP2 hw => ?_)
  obtain ⟨rfl, hM2⟩ := hP2
  rw [hM2] at hw
  refine x_if_neB hx hb d_M_abort_5 rfl (fun h5 => ?_) (fun h5 => ?_)
  · obtain ⟨t, ht, rfl, ho⟩ := opb_of h5
    first | refine x_aload_n hx hb d_M_abort_10 hl rfl ?_ | refine x_aload_nQ hx hb d_M_abort_10 hl rfl ?_
    refine m_get hx hb hts hown hK hw ci_M (rf_at hI 0 (by decide) rfl) 2 (by decide) (wm3 74 rfl rfl) rfl d_M_abort_11 ?_
    refine x_iload_n hx hb d_M_abort_14 hl rfl ?_
    refine lv_iconst (v := nI 0) hx hb d_M_abort_15 (by decide) ?_
    refine rs_2 hx hb hK hI hB hw (by omega) (by omega) d_M_abort_16 (fun H locs hw hB => ?_)
    refine lv_iconst (v := nI 1) hx hb d_M_abort_17 (by decide) ?_
    exact x_reti hQ hx hb hr hlk (by first | exact nar_bz | decide) hw (by omega) (by omega) d_M_abort_18 (⟨bz_t h5, by rw [abO_t h5, tx_n ht], by rw [abO_t h5, tx_n ht]; exact hB⟩)
  · refine lv_iconst (v := nI 0) hx hb d_M_abort_8 (by decide) ?_
    exact x_reti hQ hx hb hr hlk (by first | exact nar_bz | decide) hw (by omega) (by omega) d_M_abort_9 (⟨bz_f (by rw [h5]; decide), by rw [abO_f h5], by rw [abO_f h5]; exact hB⟩)
