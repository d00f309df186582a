theorem d_T_newLine_0 : decode prog_1_method_20_code 0 = .ok (.aload_n 0, 1) := by decide +kernel
theorem d_T_newLine_1 : decode prog_1_method_20_code 1 = .ok (.dup, 1) := by decide +kernel
theorem d_T_newLine_2 : decode prog_1_method_20_code 2 = .ok (.getfield 41, 3) := by decide +kernel
theorem d_T_newLine_5 : decode prog_1_method_20_code 5 = .ok (.iconst 1, 1) := by decide +kernel
theorem d_T_newLine_6 : decode prog_1_method_20_code 6 = .ok (.iadd, 1) := by decide +kernel
theorem d_T_newLine_7 : decode prog_1_method_20_code 7 = .ok (.putfield 41, 3) := by decide +kernel
theorem d_T_newLine_10 : decode prog_1_method_20_code 10 = .ok (.aload_n 0, 1) := by decide +kernel
theorem d_T_newLine_11 : decode prog_1_method_20_code 11 = .ok (.getfield 41, 3) := by decide +kernel
theorem d_T_newLine_14 : decode prog_1_method_20_code 14 = .ok (.ireturn, 1) := by decide +kernel

theorem d_T_isRevision_0 : decode prog_1_method_21_code 0 = .ok (.iload_n 1, 1) := by decide +kernel
theorem d_T_isRevision_1 : decode prog_1_method_21_code 1 = .ok (.ifCond .lt 15, 3) := by decide +kernel
theorem d_T_isRevision_4 : decode prog_1_method_21_code 4 = .ok (.iload_n 1, 1) := by decide +kernel
theorem d_T_isRevision_5 : decode prog_1_method_21_code 5 = .ok (.aload_n 0, 1) := by decide +kernel
theorem d_T_isRevision_6 : decode prog_1_method_21_code 6 = .ok (.getfield 37, 3) := by decide +kernel
theorem d_T_isRevision_9 : decode prog_1_method_21_code 9 = .ok (.if_icmp .gt 7, 3) := by decide +kernel
theorem d_T_isRevision_12 : decode prog_1_method_21_code 12 = .ok (.iconst 1, 1) := by decide +kernel
theorem d_T_isRevision_13 : decode prog_1_method_21_code 13 = .ok (.goto 4, 3) := by decide +kernel
theorem d_T_isRevision_16 : decode prog_1_method_21_code 16 = .ok (.iconst 0, 1) := by decide +kernel
theorem d_T_isRevision_17 : decode prog_1_method_21_code 17 = .ok (.ireturn, 1) := by decide +kernel

theorem d_T_openTransaction_0 : decode prog_1_method_22_code 0 = .ok (.iload_n 1, 1) := by decide +kernel
theorem d_T_openTransaction_1 : decode prog_1_method_22_code 1 = .ok (.ifCond .lt 29, 3) := by decide +kernel
theorem d_T_openTransaction_4 : decode prog_1_method_22_code 4 = .ok (.iload_n 1, 1) := by decide +kernel
theorem d_T_openTransaction_5 : decode prog_1_method_22_code 5 = .ok (.iconst 3, 1) := by decide +kernel
theorem d_T_openTransaction_6 : decode prog_1_method_22_code 6 = .ok (.if_icmp .ge 24, 3) := by decide +kernel
theorem d_T_openTransaction_9 : decode prog_1_method_22_code 9 = .ok (.aload_n 0, 1) := by decide +kernel
theorem d_T_openTransaction_10 : decode prog_1_method_22_code 10 = .ok (.getfield 17, 3) := by decide +kernel
theorem d_T_openTransaction_13 : decode prog_1_method_22_code 13 = .ok (.iload_n 1, 1) := by decide +kernel
theorem d_T_openTransaction_14 : decode prog_1_method_22_code 14 = .ok (.aaload, 1) := by decide +kernel
theorem d_T_openTransaction_15 : decode prog_1_method_22_code 15 = .ok (.getfield 58, 3) := by decide +kernel
theorem d_T_openTransaction_18 : decode prog_1_method_22_code 18 = .ok (.ifCond .eq 12, 3) := by decide +kernel
theorem d_T_openTransaction_21 : decode prog_1_method_22_code 21 = .ok (.aload_n 0, 1) := by decide +kernel
theorem d_T_openTransaction_22 : decode prog_1_method_22_code 22 = .ok (.getfield 17, 3) := by decide +kernel
theorem d_T_openTransaction_25 : decode prog_1_method_22_code 25 = .ok (.iload_n 1, 1) := by decide +kernel
theorem d_T_openTransaction_26 : decode prog_1_method_22_code 26 = .ok (.aaload, 1) := by decide +kernel
theorem d_T_openTransaction_27 : decode prog_1_method_22_code 27 = .ok (.goto 4, 3) := by decide +kernel
theorem d_T_openTransaction_30 : decode prog_1_method_22_code 30 = .ok (.aconst_null, 1) := by decide +kernel
theorem d_T_openTransaction_31 : decode prog_1_method_22_code 31 = .ok (.areturn, 1) := by decide +kernel

theorem d_T_treeOf_0 : decode prog_1_method_23_code 0 = .ok (.iload_n 1, 1) := by decide +kernel
theorem d_T_treeOf_1 : decode prog_1_method_23_code 1 = .ok (.ifCond .lt 22, 3) := by decide +kernel
theorem d_T_treeOf_4 : decode prog_1_method_23_code 4 = .ok (.aload_n 0, 1) := by decide +kernel
theorem d_T_treeOf_5 : decode prog_1_method_23_code 5 = .ok (.iload_n 1, 1) := by decide +kernel
theorem d_T_treeOf_6 : decode prog_1_method_23_code 6 = .ok (.invokevirtual 105, 3) := by decide +kernel
theorem d_T_treeOf_9 : decode prog_1_method_23_code 9 = .ok (.ifCond .eq 12, 3) := by decide +kernel
theorem d_T_treeOf_12 : decode prog_1_method_23_code 12 = .ok (.aload_n 0, 1) := by decide +kernel
theorem d_T_treeOf_13 : decode prog_1_method_23_code 13 = .ok (.getfield 11, 3) := by decide +kernel
theorem d_T_treeOf_16 : decode prog_1_method_23_code 16 = .ok (.iload_n 1, 1) := by decide +kernel
theorem d_T_treeOf_17 : decode prog_1_method_23_code 17 = .ok (.aaload, 1) := by decide +kernel
theorem d_T_treeOf_18 : decode prog_1_method_23_code 18 = .ok (.goto 4, 3) := by decide +kernel
theorem d_T_treeOf_21 : decode prog_1_method_23_code 21 = .ok (.aconst_null, 1) := by decide +kernel
theorem d_T_treeOf_22 : decode prog_1_method_23_code 22 = .ok (.areturn, 1) := by decide +kernel
theorem d_T_treeOf_23 : decode prog_1_method_23_code 23 = .ok (.aload_n 0, 1) := by decide +kernel
theorem d_T_treeOf_24 : decode prog_1_method_23_code 24 = .ok (.iconst (-1), 1) := by decide +kernel
theorem d_T_treeOf_25 : decode prog_1_method_23_code 25 = .ok (.iload_n 1, 1) := by decide +kernel
theorem d_T_treeOf_26 : decode prog_1_method_23_code 26 = .ok (.isub, 1) := by decide +kernel
theorem d_T_treeOf_27 : decode prog_1_method_23_code 27 = .ok (.invokevirtual 73, 3) := by decide +kernel
theorem d_T_treeOf_30 : decode prog_1_method_23_code 30 = .ok (.astore_n 2, 1) := by decide +kernel
theorem d_T_treeOf_31 : decode prog_1_method_23_code 31 = .ok (.aload_n 2, 1) := by decide +kernel
theorem d_T_treeOf_32 : decode prog_1_method_23_code 32 = .ok (.ifnonnull 7, 3) := by decide +kernel
theorem d_T_treeOf_35 : decode prog_1_method_23_code 35 = .ok (.aconst_null, 1) := by decide +kernel
theorem d_T_treeOf_36 : decode prog_1_method_23_code 36 = .ok (.goto 7, 3) := by decide +kernel
theorem d_T_treeOf_39 : decode prog_1_method_23_code 39 = .ok (.aload_n 2, 1) := by decide +kernel
theorem d_T_treeOf_40 : decode prog_1_method_23_code 40 = .ok (.getfield 65, 3) := by decide +kernel
theorem d_T_treeOf_43 : decode prog_1_method_23_code 43 = .ok (.areturn, 1) := by decide +kernel

theorem d_T_nodeAt_0 : decode prog_1_method_24_code 0 = .ok (.aload_n 0, 1) := by decide +kernel
theorem d_T_nodeAt_1 : decode prog_1_method_24_code 1 = .ok (.iload_n 1, 1) := by decide +kernel
theorem d_T_nodeAt_2 : decode prog_1_method_24_code 2 = .ok (.invokevirtual 151, 3) := by decide +kernel
theorem d_T_nodeAt_5 : decode prog_1_method_24_code 5 = .ok (.astore_n 3, 1) := by decide +kernel
theorem d_T_nodeAt_6 : decode prog_1_method_24_code 6 = .ok (.aload_n 3, 1) := by decide +kernel
theorem d_T_nodeAt_7 : decode prog_1_method_24_code 7 = .ok (.ifnonnull 7, 3) := by decide +kernel
theorem d_T_nodeAt_10 : decode prog_1_method_24_code 10 = .ok (.aconst_null, 1) := by decide +kernel
theorem d_T_nodeAt_11 : decode prog_1_method_24_code 11 = .ok (.goto 8, 3) := by decide +kernel
theorem d_T_nodeAt_14 : decode prog_1_method_24_code 14 = .ok (.aload_n 3, 1) := by decide +kernel
theorem d_T_nodeAt_15 : decode prog_1_method_24_code 15 = .ok (.iload_n 2, 1) := by decide +kernel
theorem d_T_nodeAt_16 : decode prog_1_method_24_code 16 = .ok (.invokevirtual 88, 3) := by decide +kernel
theorem d_T_nodeAt_19 : decode prog_1_method_24_code 19 = .ok (.areturn, 1) := by decide +kernel

theorem d_T_kind_0 : decode prog_1_method_10_code 0 = .ok (.aload_n 0, 1) := by decide +kernel
theorem d_T_kind_1 : decode prog_1_method_10_code 1 = .ok (.iload_n 1, 1) := by decide +kernel
theorem d_T_kind_2 : decode prog_1_method_10_code 2 = .ok (.invokevirtual 151, 3) := by decide +kernel
theorem d_T_kind_5 : decode prog_1_method_10_code 5 = .ok (.astore_n 3, 1) := by decide +kernel
theorem d_T_kind_6 : decode prog_1_method_10_code 6 = .ok (.aload_n 3, 1) := by decide +kernel
theorem d_T_kind_7 : decode prog_1_method_10_code 7 = .ok (.ifnonnull 7, 3) := by decide +kernel
theorem d_T_kind_10 : decode prog_1_method_10_code 10 = .ok (.iconst (-1), 1) := by decide +kernel
theorem d_T_kind_11 : decode prog_1_method_10_code 11 = .ok (.goto 11, 3) := by decide +kernel
theorem d_T_kind_14 : decode prog_1_method_10_code 14 = .ok (.aload_n 3, 1) := by decide +kernel
theorem d_T_kind_15 : decode prog_1_method_10_code 15 = .ok (.iload_n 2, 1) := by decide +kernel
theorem d_T_kind_16 : decode prog_1_method_10_code 16 = .ok (.invokevirtual 88, 3) := by decide +kernel
theorem d_T_kind_19 : decode prog_1_method_10_code 19 = .ok (.invokestatic 128, 3) := by decide +kernel
theorem d_T_kind_22 : decode prog_1_method_10_code 22 = .ok (.ireturn, 1) := by decide +kernel

theorem d_T_text_0 : decode prog_1_method_11_code 0 = .ok (.aload_n 0, 1) := by decide +kernel
theorem d_T_text_1 : decode prog_1_method_11_code 1 = .ok (.iload_n 1, 1) := by decide +kernel
theorem d_T_text_2 : decode prog_1_method_11_code 2 = .ok (.iload_n 2, 1) := by decide +kernel
theorem d_T_text_3 : decode prog_1_method_11_code 3 = .ok (.invokevirtual 155, 3) := by decide +kernel
theorem d_T_text_6 : decode prog_1_method_11_code 6 = .ok (.astore_n 3, 1) := by decide +kernel
theorem d_T_text_7 : decode prog_1_method_11_code 7 = .ok (.aload_n 3, 1) := by decide +kernel
theorem d_T_text_8 : decode prog_1_method_11_code 8 = .ok (.ifnull 10, 3) := by decide +kernel
theorem d_T_text_11 : decode prog_1_method_11_code 11 = .ok (.aload_n 3, 1) := by decide +kernel
theorem d_T_text_12 : decode prog_1_method_11_code 12 = .ok (.getfield 159, 3) := by decide +kernel
theorem d_T_text_15 : decode prog_1_method_11_code 15 = .ok (.ifCond .eq 9, 3) := by decide +kernel
theorem d_T_text_18 : decode prog_1_method_11_code 18 = .ok (.ldc2_w 162, 3) := by decide +kernel
theorem d_T_text_21 : decode prog_1_method_11_code 21 = .ok (.goto 10, 3) := by decide +kernel
theorem d_T_text_24 : decode prog_1_method_11_code 24 = .ok (.aload_n 3, 1) := by decide +kernel
theorem d_T_text_25 : decode prog_1_method_11_code 25 = .ok (.getfield 164, 3) := by decide +kernel
theorem d_T_text_28 : decode prog_1_method_11_code 28 = .ok (.getfield 167, 3) := by decide +kernel
theorem d_T_text_31 : decode prog_1_method_11_code 31 = .ok (.lreturn, 1) := by decide +kernel

theorem d_T_length_0 : decode prog_1_method_12_code 0 = .ok (.aload_n 0, 1) := by decide +kernel
theorem d_T_length_1 : decode prog_1_method_12_code 1 = .ok (.iload_n 1, 1) := by decide +kernel
theorem d_T_length_2 : decode prog_1_method_12_code 2 = .ok (.iload_n 2, 1) := by decide +kernel
theorem d_T_length_3 : decode prog_1_method_12_code 3 = .ok (.invokevirtual 155, 3) := by decide +kernel
theorem d_T_length_6 : decode prog_1_method_12_code 6 = .ok (.astore_n 3, 1) := by decide +kernel
theorem d_T_length_7 : decode prog_1_method_12_code 7 = .ok (.aload_n 3, 1) := by decide +kernel
theorem d_T_length_8 : decode prog_1_method_12_code 8 = .ok (.ifnull 10, 3) := by decide +kernel
theorem d_T_length_11 : decode prog_1_method_12_code 11 = .ok (.aload_n 3, 1) := by decide +kernel
theorem d_T_length_12 : decode prog_1_method_12_code 12 = .ok (.getfield 159, 3) := by decide +kernel
theorem d_T_length_15 : decode prog_1_method_12_code 15 = .ok (.ifCond .eq 7, 3) := by decide +kernel
theorem d_T_length_18 : decode prog_1_method_12_code 18 = .ok (.iconst (-1), 1) := by decide +kernel
theorem d_T_length_19 : decode prog_1_method_12_code 19 = .ok (.goto 10, 3) := by decide +kernel
theorem d_T_length_22 : decode prog_1_method_12_code 22 = .ok (.aload_n 3, 1) := by decide +kernel
theorem d_T_length_23 : decode prog_1_method_12_code 23 = .ok (.getfield 164, 3) := by decide +kernel
theorem d_T_length_26 : decode prog_1_method_12_code 26 = .ok (.getfield 171, 3) := by decide +kernel
theorem d_T_length_29 : decode prog_1_method_12_code 29 = .ok (.ireturn, 1) := by decide +kernel

theorem d_T_line_0 : decode prog_1_method_13_code 0 = .ok (.aload_n 0, 1) := by decide +kernel
theorem d_T_line_1 : decode prog_1_method_13_code 1 = .ok (.iload_n 1, 1) := by decide +kernel
theorem d_T_line_2 : decode prog_1_method_13_code 2 = .ok (.iload_n 2, 1) := by decide +kernel
theorem d_T_line_3 : decode prog_1_method_13_code 3 = .ok (.invokevirtual 155, 3) := by decide +kernel
theorem d_T_line_6 : decode prog_1_method_13_code 6 = .ok (.astore_n 3, 1) := by decide +kernel
theorem d_T_line_7 : decode prog_1_method_13_code 7 = .ok (.aload_n 3, 1) := by decide +kernel
theorem d_T_line_8 : decode prog_1_method_13_code 8 = .ok (.ifnonnull 7, 3) := by decide +kernel
theorem d_T_line_11 : decode prog_1_method_13_code 11 = .ok (.iconst (-1), 1) := by decide +kernel
theorem d_T_line_12 : decode prog_1_method_13_code 12 = .ok (.goto 7, 3) := by decide +kernel
theorem d_T_line_15 : decode prog_1_method_13_code 15 = .ok (.aload_n 3, 1) := by decide +kernel
theorem d_T_line_16 : decode prog_1_method_13_code 16 = .ok (.getfield 174, 3) := by decide +kernel
theorem d_T_line_19 : decode prog_1_method_13_code 19 = .ok (.ireturn, 1) := by decide +kernel

theorem d_T_count_0 : decode prog_1_method_14_code 0 = .ok (.aload_n 0, 1) := by decide +kernel
theorem d_T_count_1 : decode prog_1_method_14_code 1 = .ok (.iload_n 1, 1) := by decide +kernel
theorem d_T_count_2 : decode prog_1_method_14_code 2 = .ok (.iload_n 2, 1) := by decide +kernel
theorem d_T_count_3 : decode prog_1_method_14_code 3 = .ok (.invokevirtual 155, 3) := by decide +kernel
theorem d_T_count_6 : decode prog_1_method_14_code 6 = .ok (.astore_n 3, 1) := by decide +kernel
theorem d_T_count_7 : decode prog_1_method_14_code 7 = .ok (.aload_n 3, 1) := by decide +kernel
theorem d_T_count_8 : decode prog_1_method_14_code 8 = .ok (.ifnonnull 7, 3) := by decide +kernel
theorem d_T_count_11 : decode prog_1_method_14_code 11 = .ok (.iconst (-1), 1) := by decide +kernel
theorem d_T_count_12 : decode prog_1_method_14_code 12 = .ok (.goto 7, 3) := by decide +kernel
theorem d_T_count_15 : decode prog_1_method_14_code 15 = .ok (.aload_n 3, 1) := by decide +kernel
theorem d_T_count_16 : decode prog_1_method_14_code 16 = .ok (.getfield 177, 3) := by decide +kernel
theorem d_T_count_19 : decode prog_1_method_14_code 19 = .ok (.ireturn, 1) := by decide +kernel

theorem d_T_created_0 : decode prog_1_method_15_code 0 = .ok (.aload_n 0, 1) := by decide +kernel
theorem d_T_created_1 : decode prog_1_method_15_code 1 = .ok (.iload_n 1, 1) := by decide +kernel
theorem d_T_created_2 : decode prog_1_method_15_code 2 = .ok (.iload_n 2, 1) := by decide +kernel
theorem d_T_created_3 : decode prog_1_method_15_code 3 = .ok (.invokevirtual 155, 3) := by decide +kernel
theorem d_T_created_6 : decode prog_1_method_15_code 6 = .ok (.astore_n 3, 1) := by decide +kernel
theorem d_T_created_7 : decode prog_1_method_15_code 7 = .ok (.aload_n 3, 1) := by decide +kernel
theorem d_T_created_8 : decode prog_1_method_15_code 8 = .ok (.ifnonnull 7, 3) := by decide +kernel
theorem d_T_created_11 : decode prog_1_method_15_code 11 = .ok (.iconst (-1), 1) := by decide +kernel
theorem d_T_created_12 : decode prog_1_method_15_code 12 = .ok (.goto 7, 3) := by decide +kernel
theorem d_T_created_15 : decode prog_1_method_15_code 15 = .ok (.aload_n 3, 1) := by decide +kernel
theorem d_T_created_16 : decode prog_1_method_15_code 16 = .ok (.getfield 51, 3) := by decide +kernel
theorem d_T_created_19 : decode prog_1_method_15_code 19 = .ok (.ireturn, 1) := by decide +kernel

theorem d_T_youngest_0 : decode prog_1_method_9_code 0 = .ok (.aload_n 0, 1) := by decide +kernel
theorem d_T_youngest_1 : decode prog_1_method_9_code 1 = .ok (.getfield 37, 3) := by decide +kernel
theorem d_T_youngest_4 : decode prog_1_method_9_code 4 = .ok (.ireturn, 1) := by decide +kernel

theorem d_T_representation_0 : decode prog_1_method_17_code 0 = .ok (.aload_n 0, 1) := by decide +kernel
theorem d_T_representation_1 : decode prog_1_method_17_code 1 = .ok (.iload_n 1, 1) := by decide +kernel
theorem d_T_representation_2 : decode prog_1_method_17_code 2 = .ok (.invokevirtual 105, 3) := by decide +kernel
theorem d_T_representation_5 : decode prog_1_method_17_code 5 = .ok (.ifCond .eq 16, 3) := by decide +kernel
theorem d_T_representation_8 : decode prog_1_method_17_code 8 = .ok (.aload_n 0, 1) := by decide +kernel
theorem d_T_representation_9 : decode prog_1_method_17_code 9 = .ok (.getfield 11, 3) := by decide +kernel
theorem d_T_representation_12 : decode prog_1_method_17_code 12 = .ok (.iload_n 1, 1) := by decide +kernel
theorem d_T_representation_13 : decode prog_1_method_17_code 13 = .ok (.aaload, 1) := by decide +kernel
theorem d_T_representation_14 : decode prog_1_method_17_code 14 = .ok (.iload_n 2, 1) := by decide +kernel
theorem d_T_representation_15 : decode prog_1_method_17_code 15 = .ok (.invokevirtual 88, 3) := by decide +kernel
theorem d_T_representation_18 : decode prog_1_method_17_code 18 = .ok (.goto 4, 3) := by decide +kernel
theorem d_T_representation_21 : decode prog_1_method_17_code 21 = .ok (.aconst_null, 1) := by decide +kernel
theorem d_T_representation_22 : decode prog_1_method_17_code 22 = .ok (.astore_n 3, 1) := by decide +kernel
theorem d_T_representation_23 : decode prog_1_method_17_code 23 = .ok (.aload_n 3, 1) := by decide +kernel
theorem d_T_representation_24 : decode prog_1_method_17_code 24 = .ok (.ifnull 10, 3) := by decide +kernel
theorem d_T_representation_27 : decode prog_1_method_17_code 27 = .ok (.aload_n 3, 1) := by decide +kernel
theorem d_T_representation_28 : decode prog_1_method_17_code 28 = .ok (.getfield 159, 3) := by decide +kernel
theorem d_T_representation_31 : decode prog_1_method_17_code 31 = .ok (.ifCond .eq 7, 3) := by decide +kernel
theorem d_T_representation_34 : decode prog_1_method_17_code 34 = .ok (.iconst (-1), 1) := by decide +kernel
theorem d_T_representation_35 : decode prog_1_method_17_code 35 = .ok (.goto 7, 3) := by decide +kernel
theorem d_T_representation_38 : decode prog_1_method_17_code 38 = .ok (.aload_n 3, 1) := by decide +kernel
theorem d_T_representation_39 : decode prog_1_method_17_code 39 = .ok (.getfield 192, 3) := by decide +kernel
theorem d_T_representation_42 : decode prog_1_method_17_code 42 = .ok (.ireturn, 1) := by decide +kernel

section CLR
variable {σ τ : SS} {ca na ta : Nat → Nat} {E : Ev} {M : mp_M}
theorem kind_0 {s k q : Nat} (hI : INV σ s) : nq na (rat σ k q) = none → σ 6 (rat σ k q) = 0 := fun h => by rw [nq_none h]; exact hI.2.2.1.1.1
theorem kind_1 {s k q : Nat} (hP : PIC E σ ca na ta M) (hI : INV σ s) : ∀ b, nq na (rat σ k q) = some b → ∃ (d : Bool) (y0 y2 y3 y4 y5 y6 y7 y8 y9 : Value), M b = some (.inr (3, [y0, .int (bz d), y2, y3, y4, y5, y6, y7, y8, y9])) ∧ σ 6 (rat σ k q) = if d = true then 1 else 2 := fun b h => by
  obtain ⟨h0, rfl⟩ := nq_some h
  have hle := rat_le (pic_z hP) (k := k) (q := q)
  refine ⟨_, _, _, _, _, _, _, _, _, _, pic_n hP h0 hle, ?_⟩
  rcases inv_k hI h0 hle with z | z
  · rw [z]; rfl
  · rw [z]; rfl
theorem cr_1 {n : Nat} (h4 : n ≠ 40000) (h0 : 0 < n) : crI (σ 12 n) = aBorn σ n := by
  unfold aBorn crI
  by_cases c : σ 12 n < 128
  · rw [if_pos c, if_neg (by omega)]
  · rw [if_neg c, if_pos (Or.inr (by omega))]
theorem rq_1 {x y : Int32} {k : Nat} (hr : rvn σ x = k) (hk6 : k < 16) (h0 : 0 < rat σ k (ix y)) (hle : rat σ k (ix y) ≤ σ 4 0) (hN : σ 4 0 < 1300) (h : decide (σ 6 (rat σ k (ix y)) = 1) = false) (hk : σ 6 (rat σ k (ix y)) = 1 ∨ σ 6 (rat σ k (ix y)) = 2) : shI (σ 15 (rat σ k (ix y))) = aRep σ x y := by
  unfold aRep
  rw [hr, if_neg (by omega)]
  have hf := aLen_t (by omega) h0 h hk
  unfold shI
  by_cases c : σ 15 (rat σ k (ix y)) = 0
  · rw [if_pos c, if_neg (by omega)]
  · rw [if_neg c, if_pos ⟨hf, by omega⟩]
theorem rq_2 {x y : Int32} {k : Nat} (hr : rvn σ x = k) (hk6 : k < 16) (h : decide (σ 6 (rat σ k (ix y)) = 1) = true) : -1 = aRep σ x y := by
  unfold aRep
  rw [hr, if_neg (by omega), if_neg (fun z => aLen_f h z.1)]
theorem rq_3 {x y : Int32} {k : Nat} (hr : rvn σ x = k) (hk6 : k < 16) (h : rat σ k (ix y) = 0) : -1 = aRep σ x y := by
  unfold aRep
  rw [hr, if_neg (by omega), if_neg (fun z => flb_1 (Or.inr h) z.1)]
theorem rq_4 {x y : Int32} (hr : rvn σ x = 16) : -1 = aRep σ x y := (if_pos hr).symm
end CLR

set_option maxHeartbeats 600000 in
set_option maxRecDepth 100000 in
theorem c_T_newLine {l : Launch} {E : Ev} {M : mp_M} {sz : Nat} {σ : SS} {ca na ta : Nat → Nat} (hP : PIC E σ ca na ta M) : MCi l E y_T_newLine prog_1_method_20_code 1 (some .int) 0 0 0 0 [.ref (ca 0)] M sz (fun r M' => r = nI (σ 5 0 + 1) ∧ M' = mp_up M (ca 0) (.inr (0, cT (sp σ 5 0 (σ 5 0 + 1)) ca))) := by
  refine mc_of R_T rfl [some (.ref (ca 0))] (by decide) (Nat.le_of_ble_eq_true rfl) rfl ?_
  intro p e R s m ag below meth c ls Q A X hAe hQ hR hsz hw hl
  rw [← hAe] at hQ
  obtain ⟨⟨hx, hb, hml, hown, hts⟩, hE, hA, hr, hlk, hnm⟩ := X
  have hK := hE.1
  first | refine x_aload_n hx hb d_T_newLine_0 hl rfl ?_ | refine x_aload_nQ hx hb d_T_newLine_0 hl rfl ?_
  first | refine lv_dup hx hb d_T_newLine_1 rfl ?_ | refine lv_dup hx hb d_T_newLine_1 (va_rf_c _) ?_
  refine m_get hx hb hts hown hK hw ci_T (pic_o hP) 5 (by decide) (wm1 165 rfl rfl) rfl d_T_newLine_2 ?_
  refine lv_iconst (v := nI 1) hx hb d_T_newLine_5 (by decide) ?_
  first | refine x_iadd hx hb d_T_newLine_6 ?_ | refine lv_iadd hx hb d_T_newLine_6 ?_
  refine m_put hx hb hts hown hK hw ci_T (pic_o hP) 5 (by decide) (wm1 165 rfl rfl) rfl (by first | rfl | exact nar_bz | exact nar_q) (by first | rfl | exact fit_bz | exact fit_q) (Nat.le_of_ble_eq_true rfl) d_T_newLine_7 (fun H locs hw => ?_)
  rw [cT_5] at hw
  have he0 := put_he hw
  first | refine x_aload_n hx hb d_T_newLine_10 hl rfl ?_ | refine x_aload_nQ hx hb d_T_newLine_10 hl rfl ?_
  refine m_get hx hb hts hown hK hw ci_T he0 5 (by decide) (wm1 165 rfl rfl) rfl d_T_newLine_11 ?_
  exact x_reti hQ hx hb hr hlk rfl hw (by omega) (by omega) d_T_newLine_14 (⟨rfl, rfl⟩)

set_option maxHeartbeats 600000 in
set_option maxRecDepth 100000 in
theorem c_T_isRev {l : Launch} {E : Ev} {M : mp_M} {sz : Nat} {σ : SS} {ca na ta : Nat → Nat} (hP : PIC E σ ca na ta M) {x : Int32} (hy : σ 1 0 ≤ 15) : MCi l E y_T_isRevision prog_1_method_21_code 2 (some .boolean) 0 0 0 0 [.ref (ca 0), .int x] M sz (fun r M' => r = bz (ivb σ x) ∧ M' = M) := by
  refine mc_of R_T rfl [some (.ref (ca 0)), some (.int x)] (by decide) (Nat.le_of_ble_eq_true rfl) rfl ?_
  intro p e R s m ag below meth c ls Q A X hAe hQ hR hsz hw hl
  rw [← hAe] at hQ
  obtain ⟨⟨hx, hb, hml, hown, hts⟩, hE, hA, hr, hlk, hnm⟩ := X
  have hK := hE.1
  refine x_iload_n hx hb d_T_isRevision_0 hl rfl ?_
  refine lv_if_lt hx hb d_T_isRevision_1 rfl (fun h1 => ?_) (fun h1 => ?_)
  · refine lv_iconst (v := nI 0) hx hb d_T_isRevision_16 (by decide) ?_
    exact x_reti hQ hx hb hr hlk (by first | exact nar_bz | decide) hw (by omega) (by omega) d_T_isRevision_17 (⟨by first | exact bz_t (iv_t hy h1 h9) | exact bz_f (iv_2 h9) | exact bz_f (iv_1 h1), rfl⟩)
  · refine x_iload_n hx hb d_T_isRevision_4 hl rfl ?_
    first | refine x_aload_n hx hb d_T_isRevision_5 hl rfl ?_ | refine x_aload_nQ hx hb d_T_isRevision_5 hl rfl ?_
    refine m_get hx hb hts hown hK hw ci_T (pic_o hP) 4 (by decide) (wm1 164 rfl rfl) rfl d_T_isRevision_6 ?_
    refine lv_icmp_gt hx hb d_T_isRevision_9 rfl (fun h9 => ?_) (fun h9 => ?_)
    · refine lv_iconst (v := nI 0) hx hb d_T_isRevision_16 (by decide) ?_
      exact x_reti hQ hx hb hr hlk (by first | exact nar_bz | decide) hw (by omega) (by omega) d_T_isRevision_17 (⟨by first | exact bz_t (iv_t hy h1 h9) | exact bz_f (iv_2 h9) | exact bz_f (iv_1 h1), rfl⟩)
    · refine lv_iconst (v := nI 1) hx hb d_T_isRevision_12 (by decide) ?_
      refine lv_goto hx hb d_T_isRevision_13 rfl ?_
      exact x_reti hQ hx hb hr hlk (by first | exact nar_bz | decide) hw (by omega) (by omega) d_T_isRevision_17 (⟨by first | exact bz_t (iv_t hy h1 h9) | exact bz_f (iv_2 h9) | exact bz_f (iv_1 h1), rfl⟩)

set_option maxHeartbeats 600000 in
set_option maxRecDepth 100000 in
theorem c_T_open {l : Launch} {E : Ev} {M : mp_M} {sz : Nat} {σ : SS} {ca na ta : Nat → Nat} (hP : PIC E σ ca na ta M) {x : Int32} : MCq l E y_T_openTransaction prog_1_method_22_code 2 (some (.object "TreeRevisions$Transaction")) 0 0 0 0 [.ref (ca 0), .int x] M sz (fun r M' => r = oT σ ca x ∧ M' = M) := by
  refine mc_of R_T rfl [some (.ref (ca 0)), some (.int x)] (by decide) (Nat.le_of_ble_eq_true rfl) rfl ?_
  intro p e R s m ag below meth c ls Q A X hAe hQ hR hsz hw hl
  rw [← hAe] at hQ
  obtain ⟨⟨hx, hb, hml, hown, hts⟩, hE, hA, hr, hlk, hnm⟩ := X
  have hK := hE.1
  refine x_iload_n hx hb d_T_openTransaction_0 hl rfl ?_
  refine lv_if_lt hx hb d_T_openTransaction_1 rfl (fun h1 => ?_) (fun h1 => ?_)
  · have hret : none = oT σ ca x := oT_3 (tx_lt h1)
    refine lv_null hx hb d_T_openTransaction_30 ?_
    first | exact x_retr hQ hx hb hr hlk hw (by omega) (by omega) d_T_openTransaction_31 (⟨hret, rfl⟩) | exact x_retq (v := none) hQ hx hb hr hlk hw (by omega) (by omega) d_T_openTransaction_31 (⟨hret, rfl⟩) | exact x_retq hQ hx hb hr hlk hw (by omega) (by omega) d_T_openTransaction_31 (⟨hret, rfl⟩)
  · refine x_iload_n hx hb d_T_openTransaction_4 hl rfl ?_
    refine lv_iconst (v := nI 3) hx hb d_T_openTransaction_5 (by decide) ?_
    refine lv_icmp_ge hx hb d_T_openTransaction_6 rfl (fun h6 => ?_) (fun h6 => ?_)
    · have hret : none = oT σ ca x := oT_3 (tx_ge h6)
      refine lv_null hx hb d_T_openTransaction_30 ?_
      first | exact x_retr hQ hx hb hr hlk hw (by omega) (by omega) d_T_openTransaction_31 (⟨hret, rfl⟩) | exact x_retq (v := none) hQ hx hb hr hlk hw (by omega) (by omega) d_T_openTransaction_31 (⟨hret, rfl⟩) | exact x_retq hQ hx hb hr hlk hw (by omega) (by omega) d_T_openTransaction_31 (⟨hret, rfl⟩)
    · obtain ⟨k, hk, rfl⟩ := nI_of3b (M := nI 3) (n := 3) (by decide) h1 h6
      first | refine x_aload_n hx hb d_T_openTransaction_9 hl rfl ?_ | refine x_aload_nQ hx hb d_T_openTransaction_9 hl rfl ?_
      refine m_get hx hb hts hown hK hw ci_T (pic_o hP) 1 (by decide) (wm1 161 rfl rfl) rfl d_T_openTransaction_10 ?_
      refine x_iload_n hx hb d_T_openTransaction_13 hl rfl ?_
      refine m_aald hx hb hK hw 2 (pic_x hP) rfl (by omega) (by decide) (if_pos hk) d_T_openTransaction_14 ?_
      refine m_get hx hb hts hown hK hw ci_Tx (pic_j hP hk) 1 (by decide) (wm1 93 rfl rfl) rfl d_T_openTransaction_15 ?_
      refine x_if_eqB hx hb d_T_openTransaction_18 rfl (fun h18 => ?_) (fun h18 => ?_)
      · have h18 := of_decide_eq_false h18
        have hret : none = oT σ ca (nI k) := oT_f hk h18
        refine lv_null hx hb d_T_openTransaction_30 ?_
        first | exact x_retr hQ hx hb hr hlk hw (by omega) (by omega) d_T_openTransaction_31 (⟨hret, rfl⟩) | exact x_retq (v := none) hQ hx hb hr hlk hw (by omega) (by omega) d_T_openTransaction_31 (⟨hret, rfl⟩) | exact x_retq hQ hx hb hr hlk hw (by omega) (by omega) d_T_openTransaction_31 (⟨hret, rfl⟩)
      · have h18 := of_decide_eq_true h18
        have hret : some (ca (k + 43)) = oT σ ca (nI k) := oT_t hk h18
        first | refine x_aload_n hx hb d_T_openTransaction_21 hl rfl ?_ | refine x_aload_nQ hx hb d_T_openTransaction_21 hl rfl ?_
        refine m_get hx hb hts hown hK hw ci_T (pic_o hP) 1 (by decide) (wm1 161 rfl rfl) rfl d_T_openTransaction_22 ?_
        refine x_iload_n hx hb d_T_openTransaction_25 hl rfl ?_
        refine m_aald hx hb hK hw 2 (pic_x hP) rfl (by omega) (by decide) (if_pos hk) d_T_openTransaction_26 ?_
        refine lv_goto hx hb d_T_openTransaction_27 rfl ?_
        first | exact x_retr hQ hx hb hr hlk hw (by omega) (by omega) d_T_openTransaction_31 (⟨hret, rfl⟩) | exact x_retq (v := none) hQ hx hb hr hlk hw (by omega) (by omega) d_T_openTransaction_31 (⟨hret, rfl⟩) | exact x_retq hQ hx hb hr hlk hw (by omega) (by omega) d_T_openTransaction_31 (⟨hret, rfl⟩)

set_option maxHeartbeats 600000 in
set_option maxRecDepth 100000 in
theorem c_T_treeOf {l : Launch} {E : Ev} {M : mp_M} {sz : Nat} {σ : SS} {ca na ta : Nat → Nat} (hP : PIC E σ ca na ta M) {x : Int32} (hy : σ 1 0 ≤ 15) : MCq l E y_T_treeOf prog_1_method_23_code 3 (some (.object "TreeRevisions$Tree")) 1 21 0 0 [.ref (ca 0), .int x] M sz (fun r M' => r = tT σ ca x ∧ M' = M) := by
  refine mc_of R_T rfl [some (.ref (ca 0)), some (.int x), none] (by decide) (Nat.le_of_ble_eq_true rfl) rfl ?_
  intro p e R s m ag below meth c ls Q A X hAe hQ hR hsz hw hl
  rw [← hAe] at hQ
  obtain ⟨⟨hx, hb, hml, hown, hts⟩, hE, hA, hr, hlk, hnm⟩ := X
  have hK := hE.1
  refine x_iload_n hx hb d_T_treeOf_0 hl rfl ?_
  refine lv_if_lt hx hb d_T_treeOf_1 rfl (fun h1 => ?_) (fun h1 => ?_)
  · first | refine x_aload_n hx hb d_T_treeOf_23 hl rfl ?_ | refine x_aload_nQ hx hb d_T_treeOf_23 hl rfl ?_
    refine lv_iconst (v := -1) hx hb d_T_treeOf_24 (by decide) ?_
    refine x_iload_n hx hb d_T_treeOf_25 hl rfl ?_
    refine lv_isub hx hb d_T_treeOf_26 ?_
    generalize hw9 : (-1 : Int32) - x = w
    refine m_callq (k_V ⟨hx, hb, hml, hown, hts⟩ hE hA hw (c_T_open hP) (ci_T).1 rfl (pic_o hP) (wm1 200 rfl rfl) (wm1 202 rfl rfl) (wmp1 0 rfl) (wm1 1 rfl rfl) (wm1 203 rfl rfl) rfl rfl ar_T_openTransaction ⟨Nat.le_trans (Nat.le_of_ble_eq_true rfl) hR.1, Nat.le_trans (Nat.le_of_ble_eq_true rfl) hR.2.1⟩ rfl hl.1 rfl (Nat.le_of_ble_eq_true rfl) d_T_treeOf_27 ⟨Nat.le_trans (Nat.le_of_ble_eq_true rfl) hR.2.2.1, Nat.le_trans (Nat.le_of_ble_eq_true rfl) hR.2.2.2⟩) hw (mfr_in hw hA) (fun r27 M27 H locs hP27 hw => ?_)
    obtain ⟨rfl, hM27⟩ := hP27
    rw [hM27] at hw
    first | refine x_astore_n hx hb d_T_treeOf_30 hl (Nat.le_of_ble_eq_true rfl) (lh_k (i := 1) rfl (by first | exact lk_n | exact lk_i | exact lk_r | exact lk_q | exact lk_0)) (fun ls hl => ?_) | refine x_astore_nQ hx hb d_T_treeOf_30 hl (Nat.le_of_ble_eq_true rfl) (lh_k (i := 1) rfl (by first | exact lk_n | exact lk_i | exact lk_r | exact lk_q | exact lk_0)) (fun ls hl => ?_)
    first | refine x_aload_n hx hb d_T_treeOf_31 hl rfl ?_ | refine x_aload_nQ hx hb d_T_treeOf_31 hl rfl ?_
    refine x_ifnonnullQ hx hb d_T_treeOf_32 rfl (fun a32 h32 => ?_) (fun h32 => ?_)
    · obtain ⟨j, hj, h2j, ej, rfl⟩ := oT_some h32
      rw [h32] at hl
      have hret : some (ca (16 + j + 5)) = tT σ ca x := tT_3 h1 hj h2j (hw9.trans ej)
      clear hw9
      first | refine x_aload_n hx hb d_T_treeOf_39 hl rfl ?_ | refine x_aload_nQ hx hb d_T_treeOf_39 hl rfl ?_
      refine m_get hx hb hts hown hK hw ci_Tx (pic_j hP hj) 0 (by decide) (wm1 91 rfl rfl) rfl d_T_treeOf_40 ?_
      first | exact x_retr hQ hx hb hr hlk hw (by omega) (by omega) d_T_treeOf_43 (⟨hret, rfl⟩) | exact x_retq (v := none) hQ hx hb hr hlk hw (by omega) (by omega) d_T_treeOf_43 (⟨hret, rfl⟩) | exact x_retq hQ hx hb hr hlk hw (by omega) (by omega) d_T_treeOf_43 (⟨hret, rfl⟩)
    · have h32 := oT_none h32
      have hret : none = tT σ ca x := tT_2w h1 hw9 h32
      clear hw9
      refine lv_null hx hb d_T_treeOf_35 ?_
      refine lv_goto hx hb d_T_treeOf_36 rfl ?_
      first | exact x_retr hQ hx hb hr hlk hw (by omega) (by omega) d_T_treeOf_43 (⟨hret, rfl⟩) | exact x_retq (v := none) hQ hx hb hr hlk hw (by omega) (by omega) d_T_treeOf_43 (⟨hret, rfl⟩) | exact x_retq hQ hx hb hr hlk hw (by omega) (by omega) d_T_treeOf_43 (⟨hret, rfl⟩)
  · first | refine x_aload_n hx hb d_T_treeOf_4 hl rfl ?_ | refine x_aload_nQ hx hb d_T_treeOf_4 hl rfl ?_
    refine x_iload_n hx hb d_T_treeOf_5 hl rfl ?_
    refine m_calli (k_V ⟨hx, hb, hml, hown, hts⟩ hE hA hw (c_T_isRev hP hy) (ci_T).1 rfl (pic_o hP) (wm2 19 rfl rfl) (wm2 21 rfl rfl) (wmp1 2 rfl) (wm1 1 rfl rfl) (wm2 22 rfl rfl) rfl rfl ar_T_isRevision ⟨Nat.le_trans (Nat.le_of_ble_eq_true rfl) hR.1, Nat.le_trans (Nat.le_of_ble_eq_true rfl) hR.2.1⟩ rfl hl.1 rfl (Nat.le_of_ble_eq_true rfl) d_T_treeOf_6 ⟨Nat.le_trans (Nat.le_of_ble_eq_true rfl) hR.2.2.1, Nat.le_trans (Nat.le_of_ble_eq_true rfl) hR.2.2.2⟩) hw (mfr_in hw hA) (fun r6 M6 H locs hP6 hw => ?_)
    obtain ⟨rfl, hM6⟩ := hP6
    rw [hM6] at hw
    refine x_if_eqB hx hb d_T_treeOf_9 rfl (fun h9 => ?_) (fun h9 => ?_)
    · refine lv_null hx hb d_T_treeOf_21 ?_
      first | exact x_retr hQ hx hb hr hlk hw (by omega) (by omega) d_T_treeOf_22 (⟨by first | exact tT_r hy hk | exact tT_1 hy h1 h9, rfl⟩) | exact x_retq (v := none) hQ hx hb hr hlk hw (by omega) (by omega) d_T_treeOf_22 (⟨by first | exact tT_r hy hk | exact tT_1 hy h1 h9, rfl⟩) | exact x_retq hQ hx hb hr hlk hw (by omega) (by omega) d_T_treeOf_22 (⟨by first | exact tT_r hy hk | exact tT_1 hy h1 h9, rfl⟩)
    · obtain ⟨k, hk, rfl, -⟩ := iv_of hy h9
      first | refine x_aload_n hx hb d_T_treeOf_12 hl rfl ?_ | refine x_aload_nQ hx hb d_T_treeOf_12 hl rfl ?_
      refine m_get hx hb hts hown hK hw ci_T (pic_o hP) 0 (by decide) (wm1 160 rfl rfl) rfl d_T_treeOf_13 ?_
      refine x_iload_n hx hb d_T_treeOf_16 hl rfl ?_
      refine m_aald hx hb hK hw 1 (pic_r hP) rfl (by omega) (by decide) (if_pos (by omega)) d_T_treeOf_17 ?_
      refine lv_goto hx hb d_T_treeOf_18 rfl ?_
      first | exact x_retr hQ hx hb hr hlk hw (by omega) (by omega) d_T_treeOf_22 (⟨by first | exact tT_r hy hk | exact tT_1 hy h1 h9, rfl⟩) | exact x_retq (v := none) hQ hx hb hr hlk hw (by omega) (by omega) d_T_treeOf_22 (⟨by first | exact tT_r hy hk | exact tT_1 hy h1 h9, rfl⟩) | exact x_retq hQ hx hb hr hlk hw (by omega) (by omega) d_T_treeOf_22 (⟨by first | exact tT_r hy hk | exact tT_1 hy h1 h9, rfl⟩)

set_option maxHeartbeats 600000 in
set_option maxRecDepth 100000 in
theorem c_T_nodeAt {l : Launch} {E : Ev} {M : mp_M} {sz : Nat} {σ : SS} {ca na ta : Nat → Nat} (hP : PIC E σ ca na ta M) {x y : Int32} (hy : σ 1 0 ≤ 15) (hN : σ 4 0 < 1300) : MCq l E y_T_nodeAt prog_1_method_24_code 4 (some (.object "TreeRevisions$Node")) 2 43 0 0 [.ref (ca 0), .int x, .int y] M sz (fun r M' => r = nQ na (fd σ x y) ∧ M' = M) := by
  refine mc_of R_T rfl [some (.ref (ca 0)), some (.int x), some (.int y), none] (by decide) (Nat.le_of_ble_eq_true rfl) rfl ?_
  intro p e R s m ag below meth c ls Q A X hAe hQ hR hsz hw hl
  rw [← hAe] at hQ
  obtain ⟨⟨hx, hb, hml, hown, hts⟩, hE, hA, hr, hlk, hnm⟩ := X
  have hK := hE.1
  first | refine x_aload_n hx hb d_T_nodeAt_0 hl rfl ?_ | refine x_aload_nQ hx hb d_T_nodeAt_0 hl rfl ?_
  refine x_iload_n hx hb d_T_nodeAt_1 hl rfl ?_
  refine m_callq (k_V ⟨hx, hb, hml, hown, hts⟩ hE hA hw (c_T_treeOf hP hy) (ci_T).1 rfl (pic_o hP) (wm3 10 rfl rfl) (wm3 12 rfl rfl) (wmp2 1 rfl) (wm1 1 rfl rfl) (wm3 13 rfl rfl) rfl rfl ar_T_treeOf ⟨Nat.le_trans (Nat.le_of_ble_eq_true rfl) hR.1, Nat.le_trans (Nat.le_of_ble_eq_true rfl) hR.2.1⟩ rfl hl.1 rfl (Nat.le_of_ble_eq_true rfl) d_T_nodeAt_2 ⟨Nat.le_trans (Nat.le_of_ble_eq_true rfl) hR.2.2.1, Nat.le_trans (Nat.le_of_ble_eq_true rfl) hR.2.2.2⟩) hw (mfr_in hw hA) (fun r2 M2 H locs hP2 hw => ?_)
  obtain ⟨rfl, hM2⟩ := hP2
  rw [hM2] at hw
  first | refine x_astore_n hx hb d_T_nodeAt_5 hl (Nat.le_of_ble_eq_true rfl) (lh_k (i := 2) rfl (by first | exact lk_n | exact lk_i | exact lk_r | exact lk_q | exact lk_0)) (fun ls hl => ?_) | refine x_astore_nQ hx hb d_T_nodeAt_5 hl (Nat.le_of_ble_eq_true rfl) (lh_k (i := 2) rfl (by first | exact lk_n | exact lk_i | exact lk_r | exact lk_q | exact lk_0)) (fun ls hl => ?_)
  first | refine x_aload_n hx hb d_T_nodeAt_6 hl rfl ?_ | refine x_aload_nQ hx hb d_T_nodeAt_6 hl rfl ?_
  refine x_ifnonnullQ hx hb d_T_nodeAt_7 rfl (fun a7 h7 => ?_) (fun h7 => ?_)
  · obtain ⟨hk, rfl⟩ := tT_some hy h7
    rw [h7] at hl
    first | refine x_aload_n hx hb d_T_nodeAt_14 hl rfl ?_ | refine x_aload_nQ hx hb d_T_nodeAt_14 hl rfl ?_
    refine x_iload_n hx hb d_T_nodeAt_15 hl rfl ?_
    refine m_callq (k_V ⟨hx, hb, hml, hown, hts⟩ hE hA hw (c_Tr_at (pic_t hP (k := tbn σ x) hk) (pic_a hP (k := tbn σ x) hk)) (ci_Tr).1 rfl (pic_t hP (k := tbn σ x) hk) (wm2 8 rfl rfl) (wm1 212 rfl rfl) (wm1 213 rfl rfl) (wm1 6 rfl rfl) (wm1 214 rfl rfl) rfl rfl ar_Tr_at ⟨Nat.le_trans (Nat.le_of_ble_eq_true rfl) hR.1, Nat.le_trans (Nat.le_of_ble_eq_true rfl) hR.2.1⟩ rfl hl.1 rfl (Nat.le_of_ble_eq_true rfl) d_T_nodeAt_16 ⟨Nat.le_trans (Nat.le_of_ble_eq_true rfl) hR.2.2.1, Nat.le_trans (Nat.le_of_ble_eq_true rfl) hR.2.2.2⟩) hw (mfr_in hw hA) (fun r16 M16 H locs hP16 hw => ?_)
    obtain ⟨rfl, hM16⟩ := hP16
    rw [hM16] at hw
    rw [tat_row (pic_z hP) (k := tbn σ x) hk]
    first | exact x_retr hQ hx hb hr hlk hw (by omega) (by omega) d_T_nodeAt_19 (⟨by first | exact nQ_19 h7 | exact nQ_r (pic_z hP) hN hk, rfl⟩) | exact x_retq (v := none) hQ hx hb hr hlk hw (by omega) (by omega) d_T_nodeAt_19 (⟨by first | exact nQ_19 h7 | exact nQ_r (pic_z hP) hN hk, rfl⟩) | exact x_retq hQ hx hb hr hlk hw (by omega) (by omega) d_T_nodeAt_19 (⟨by first | exact nQ_19 h7 | exact nQ_r (pic_z hP) hN hk, rfl⟩)
  · have h7 := tT_none h7
    refine lv_null hx hb d_T_nodeAt_10 ?_
    refine lv_goto hx hb d_T_nodeAt_11 rfl ?_
    first | exact x_retr hQ hx hb hr hlk hw (by omega) (by omega) d_T_nodeAt_19 (⟨by first | exact nQ_19 h7 | exact nQ_r (pic_z hP) hN hk, rfl⟩) | exact x_retq (v := none) hQ hx hb hr hlk hw (by omega) (by omega) d_T_nodeAt_19 (⟨by first | exact nQ_19 h7 | exact nQ_r (pic_z hP) hN hk, rfl⟩) | exact x_retq hQ hx hb hr hlk hw (by omega) (by omega) d_T_nodeAt_19 (⟨by first | exact nQ_19 h7 | exact nQ_r (pic_z hP) hN hk, rfl⟩)

set_option maxHeartbeats 600000 in
set_option maxRecDepth 100000 in
theorem c_T_kindQ {l : Launch} {E : Ev} {M : mp_M} {sz : Nat} {σ : SS} {ca na ta : Nat → Nat} (hP : PIC E σ ca na ta M) (hI : INV σ 3) (hN : σ 4 0 < 1300) {x y : Int32} : MCi l E y_T_kind prog_1_method_10_code 4 (some .int) 2 43 0 0 [.ref (ca 0), .int x, .int y] M sz (fun r M' => r = aKind σ (fd σ x y) ∧ M' = M) := by
  refine mc_of R_T rfl [some (.ref (ca 0)), some (.int x), some (.int y), none] (by decide) (Nat.le_of_ble_eq_true rfl) rfl ?_
  intro p e R s m ag below meth c ls Q A X hAe hQ hR hsz hw hl
  rw [← hAe] at hQ
  obtain ⟨⟨hx, hb, hml, hown, hts⟩, hE, hA, hr, hlk, hnm⟩ := X
  have hK := hE.1
  have hy := inv_y hI
  first | refine x_aload_n hx hb d_T_kind_0 hl rfl ?_ | refine x_aload_nQ hx hb d_T_kind_0 hl rfl ?_
  refine x_iload_n hx hb d_T_kind_1 hl rfl ?_
  refine m_callq (k_V ⟨hx, hb, hml, hown, hts⟩ hE hA hw (c_T_treeOf hP hy) (ci_T).1 rfl (pic_o hP) (wm3 10 rfl rfl) (wm3 12 rfl rfl) (wmp2 1 rfl) (wm1 1 rfl rfl) (wm3 13 rfl rfl) rfl rfl ar_T_treeOf ⟨Nat.le_trans (Nat.le_of_ble_eq_true rfl) hR.1, Nat.le_trans (Nat.le_of_ble_eq_true rfl) hR.2.1⟩ rfl hl.1 rfl (Nat.le_of_ble_eq_true rfl) d_T_kind_2 ⟨Nat.le_trans (Nat.le_of_ble_eq_true rfl) hR.2.2.1, Nat.le_trans (Nat.le_of_ble_eq_true rfl) hR.2.2.2⟩) hw (mfr_in hw hA) (fun r2 M2 H locs hP2 hw => ?_)
  obtain ⟨rfl, hM2⟩ := hP2
  rw [hM2] at hw
  first | refine x_astore_n hx hb d_T_kind_5 hl (Nat.le_of_ble_eq_true rfl) (lh_k (i := 2) rfl (by first | exact lk_n | exact lk_i | exact lk_r | exact lk_q | exact lk_0)) (fun ls hl => ?_) | refine x_astore_nQ hx hb d_T_kind_5 hl (Nat.le_of_ble_eq_true rfl) (lh_k (i := 2) rfl (by first | exact lk_n | exact lk_i | exact lk_r | exact lk_q | exact lk_0)) (fun ls hl => ?_)
  first | refine x_aload_n hx hb d_T_kind_6 hl rfl ?_ | refine x_aload_nQ hx hb d_T_kind_6 hl rfl ?_
  refine x_ifnonnullQ hx hb d_T_kind_7 rfl (fun a7 h7 => ?_) (fun h7 => ?_)
  · obtain ⟨hk, rfl⟩ := tT_some hy h7
    rw [h7] at hl
    first | refine x_aload_n hx hb d_T_kind_14 hl rfl ?_ | refine x_aload_nQ hx hb d_T_kind_14 hl rfl ?_
    refine x_iload_n hx hb d_T_kind_15 hl rfl ?_
    refine m_callq (k_V ⟨hx, hb, hml, hown, hts⟩ hE hA hw (c_Tr_at (pic_t hP (k := tbn σ x) hk) (pic_a hP (k := tbn σ x) hk)) (ci_Tr).1 rfl (pic_t hP (k := tbn σ x) hk) (wm2 8 rfl rfl) (wm1 212 rfl rfl) (wm1 213 rfl rfl) (wm1 6 rfl rfl) (wm1 214 rfl rfl) rfl rfl ar_Tr_at ⟨Nat.le_trans (Nat.le_of_ble_eq_true rfl) hR.1, Nat.le_trans (Nat.le_of_ble_eq_true rfl) hR.2.1⟩ rfl hl.1 rfl (Nat.le_of_ble_eq_true rfl) d_T_kind_16 ⟨Nat.le_trans (Nat.le_of_ble_eq_true rfl) hR.2.2.1, Nat.le_trans (Nat.le_of_ble_eq_true rfl) hR.2.2.2⟩) hw (mfr_in hw hA) (fun r16 M16 H locs hP16 hw => ?_)
    obtain ⟨rfl, hM16⟩ := hP16
    rw [hM16] at hw
    rw [tat_row (pic_z hP) (k := tbn σ x) hk]
    refine m_calli (k_S ⟨hx, hb, hml, hown, hts⟩ hE hA hw (c_T_kind (kk := σ 6 (rat σ (tbn σ x) (ix y))) (kind_0 hI) (kind_1 hP hI)) (wm2 45 rfl rfl) (wm1 219 rfl rfl) (wm1 1 rfl rfl) (wm1 220 rfl rfl) rfl rfl ar_T_kindOf ⟨Nat.le_trans (Nat.le_of_ble_eq_true rfl) hR.1, Nat.le_trans (Nat.le_of_ble_eq_true rfl) hR.2.1⟩ rfl hl.1 rfl (Nat.le_of_ble_eq_true rfl) d_T_kind_19 ⟨Nat.le_trans (Nat.le_of_ble_eq_true rfl) hR.2.2.1, Nat.le_trans (Nat.le_of_ble_eq_true rfl) hR.2.2.2⟩) hw (mfr_in hw hA) (fun r19 M19 H locs hP19 hw => ?_)
    obtain ⟨rfl, hM19⟩ := hP19
    rw [hM19] at hw
    exact x_reti hQ hx hb hr hlk rfl hw (by omega) (by omega) d_T_kind_22 (⟨by first | exact (if_pos (fd_19 h7)).symm | (rw [fd_r hk]; exact aKind_1 hI (rat_le (pic_z hP)) hN rfl), rfl⟩)
  · have h7 := tT_none h7
    refine lv_iconst (v := -1) hx hb d_T_kind_10 (by decide) ?_
    refine lv_goto hx hb d_T_kind_11 rfl ?_
    exact x_reti hQ hx hb hr hlk rfl hw (by omega) (by omega) d_T_kind_22 (⟨by first | exact (if_pos (fd_19 h7)).symm | (rw [fd_r hk]; exact aKind_1 hI (rat_le (pic_z hP)) hN rfl), rfl⟩)

set_option maxHeartbeats 600000 in
set_option maxRecDepth 100000 in
theorem c_T_text {l : Launch} {E : Ev} {M : mp_M} {sz : Nat} {σ : SS} {ca na ta : Nat → Nat} (hP : PIC E σ ca na ta M) (hI : INV σ 3) (hN : σ 4 0 < 1300) {x y : Int32} : MCl l E y_T_text prog_1_method_11_code 4 (some .long) 3 66 0 0 [.ref (ca 0), .int x, .int y] M sz (fun r M' => r = aText σ (fd σ x y) ∧ M' = M) := by
  refine mc_of R_T rfl [some (.ref (ca 0)), some (.int x), some (.int y), none] (by decide) (Nat.le_of_ble_eq_true rfl) rfl ?_
  intro p e R s m ag below meth c ls Q A X hAe hQ hR hsz hw hl
  rw [← hAe] at hQ
  obtain ⟨⟨hx, hb, hml, hown, hts⟩, hE, hA, hr, hlk, hnm⟩ := X
  have hK := hE.1
  first | refine x_aload_n hx hb d_T_text_0 hl rfl ?_ | refine x_aload_nQ hx hb d_T_text_0 hl rfl ?_
  refine x_iload_n hx hb d_T_text_1 hl rfl ?_
  refine x_iload_n hx hb d_T_text_2 hl rfl ?_
  refine m_callq (k_V ⟨hx, hb, hml, hown, hts⟩ hE hA hw (c_T_nodeAt hP (inv_y hI) hN) (ci_T).1 rfl (pic_o hP) (wm3 18 rfl rfl) (wm3 20 rfl rfl) (wmp2 2 rfl) (wm1 1 rfl rfl) (wm3 21 rfl rfl) rfl rfl ar_T_nodeAt ⟨Nat.le_trans (Nat.le_of_ble_eq_true rfl) hR.1, Nat.le_trans (Nat.le_of_ble_eq_true rfl) hR.2.1⟩ rfl hl.1 rfl (Nat.le_of_ble_eq_true rfl) d_T_text_3 ⟨Nat.le_trans (Nat.le_of_ble_eq_true rfl) hR.2.2.1, Nat.le_trans (Nat.le_of_ble_eq_true rfl) hR.2.2.2⟩) hw (mfr_in hw hA) (fun r3 M3 H locs hP3 hw => ?_)
  obtain ⟨rfl, hM3⟩ := hP3
  rw [hM3] at hw
  first | refine x_astore_n hx hb d_T_text_6 hl (Nat.le_of_ble_eq_true rfl) (lh_k (i := 2) rfl (by first | exact lk_n | exact lk_i | exact lk_r | exact lk_q | exact lk_0)) (fun ls hl => ?_) | refine x_astore_nQ hx hb d_T_text_6 hl (Nat.le_of_ble_eq_true rfl) (lh_k (i := 2) rfl (by first | exact lk_n | exact lk_i | exact lk_r | exact lk_q | exact lk_0)) (fun ls hl => ?_)
  first | refine x_aload_n hx hb d_T_text_7 hl rfl ?_ | refine x_aload_nQ hx hb d_T_text_7 hl rfl ?_
  refine x_ifnullQ hx hb d_T_text_8 rfl (fun h8 => ?_) (fun a8 h8 => ?_)
  · have h8 := nQ_none h8
    refine lv_ldc2 (v := -1) hx hb hown (hts _ (wm3 22 rfl rfl)) d_T_text_18 ?_
    refine lv_goto hx hb d_T_text_21 rfl ?_
    exact x_retl hQ hx hb hr hlk hw (by omega) (by omega) d_T_text_31 (⟨by first | exact (if_pos (aLen_t h4 h0 h15 (inv_k hI h0 hle))).symm | exact (if_neg (aLen_f h15)).symm | exact (if_neg (flb_1 h8)).symm, rfl⟩)
  · obtain ⟨h4, h0, rfl⟩ := nQ_some h8
    rw [h8] at hl
    have hle := fd_le (pic_z hP) h4
    first | refine x_aload_n hx hb d_T_text_11 hl rfl ?_ | refine x_aload_nQ hx hb d_T_text_11 hl rfl ?_
    refine m_get hx hb hts hown hK hw ci_N (pic_n hP h0 hle) 1 (by decide) (wm1 114 rfl rfl) rfl d_T_text_12 ?_
    refine x_if_eqB hx hb d_T_text_15 rfl (fun h15 => ?_) (fun h15 => ?_)
    · first | refine x_aload_n hx hb d_T_text_24 hl rfl ?_ | refine x_aload_nQ hx hb d_T_text_24 hl rfl ?_
      refine m_get hx hb hts hown hK hw ci_N (pic_n hP h0 hle) 2 (by decide) (wm1 117 rfl rfl) rfl d_T_text_25 ?_
      refine m_get hx hb hts hown hK hw ci_Te (pic_tx hP h0 hle) 0 (by decide) (wm1 64 rfl rfl) rfl d_T_text_28 ?_
      exact x_retl hQ hx hb hr hlk hw (by omega) (by omega) d_T_text_31 (⟨by first | exact (if_pos (aLen_t h4 h0 h15 (inv_k hI h0 hle))).symm | exact (if_neg (aLen_f h15)).symm | exact (if_neg (flb_1 h8)).symm, rfl⟩)
    · refine lv_ldc2 (v := -1) hx hb hown (hts _ (wm3 22 rfl rfl)) d_T_text_18 ?_
      refine lv_goto hx hb d_T_text_21 rfl ?_
      exact x_retl hQ hx hb hr hlk hw (by omega) (by omega) d_T_text_31 (⟨by first | exact (if_pos (aLen_t h4 h0 h15 (inv_k hI h0 hle))).symm | exact (if_neg (aLen_f h15)).symm | exact (if_neg (flb_1 h8)).symm, rfl⟩)

set_option maxHeartbeats 600000 in
set_option maxRecDepth 100000 in
theorem c_T_length {l : Launch} {E : Ev} {M : mp_M} {sz : Nat} {σ : SS} {ca na ta : Nat → Nat} (hP : PIC E σ ca na ta M) (hI : INV σ 3) (hN : σ 4 0 < 1300) {x y : Int32} : MCi l E y_T_length prog_1_method_12_code 4 (some .int) 3 66 0 0 [.ref (ca 0), .int x, .int y] M sz (fun r M' => r = aLen σ (fd σ x y) ∧ M' = M) := by
  refine mc_of R_T rfl [some (.ref (ca 0)), some (.int x), some (.int y), none] (by decide) (Nat.le_of_ble_eq_true rfl) rfl ?_
  intro p e R s m ag below meth c ls Q A X hAe hQ hR hsz hw hl
  rw [← hAe] at hQ
  obtain ⟨⟨hx, hb, hml, hown, hts⟩, hE, hA, hr, hlk, hnm⟩ := X
  have hK := hE.1
  first | refine x_aload_n hx hb d_T_length_0 hl rfl ?_ | refine x_aload_nQ hx hb d_T_length_0 hl rfl ?_
  refine x_iload_n hx hb d_T_length_1 hl rfl ?_
  refine x_iload_n hx hb d_T_length_2 hl rfl ?_
  refine m_callq (k_V ⟨hx, hb, hml, hown, hts⟩ hE hA hw (c_T_nodeAt hP (inv_y hI) hN) (ci_T).1 rfl (pic_o hP) (wm3 18 rfl rfl) (wm3 20 rfl rfl) (wmp2 2 rfl) (wm1 1 rfl rfl) (wm3 21 rfl rfl) rfl rfl ar_T_nodeAt ⟨Nat.le_trans (Nat.le_of_ble_eq_true rfl) hR.1, Nat.le_trans (Nat.le_of_ble_eq_true rfl) hR.2.1⟩ rfl hl.1 rfl (Nat.le_of_ble_eq_true rfl) d_T_length_3 ⟨Nat.le_trans (Nat.le_of_ble_eq_true rfl) hR.2.2.1, Nat.le_trans (Nat.le_of_ble_eq_true rfl) hR.2.2.2⟩) hw (mfr_in hw hA) (fun r3 M3 H locs hP3 hw => ?_)
  obtain ⟨rfl, hM3⟩ := hP3
  rw [hM3] at hw
  first | refine x_astore_n hx hb d_T_length_6 hl (Nat.le_of_ble_eq_true rfl) (lh_k (i := 2) rfl (by first | exact lk_n | exact lk_i | exact lk_r | exact lk_q | exact lk_0)) (fun ls hl => ?_) | refine x_astore_nQ hx hb d_T_length_6 hl (Nat.le_of_ble_eq_true rfl) (lh_k (i := 2) rfl (by first | exact lk_n | exact lk_i | exact lk_r | exact lk_q | exact lk_0)) (fun ls hl => ?_)
  first | refine x_aload_n hx hb d_T_length_7 hl rfl ?_ | refine x_aload_nQ hx hb d_T_length_7 hl rfl ?_
  refine x_ifnullQ hx hb d_T_length_8 rfl (fun h8 => ?_) (fun a8 h8 => ?_)
  · have h8 := nQ_none h8
    refine lv_iconst (v := -1) hx hb d_T_length_18 (by decide) ?_
    refine lv_goto hx hb d_T_length_19 rfl ?_
    exact x_reti hQ hx hb hr hlk rfl hw (by omega) (by omega) d_T_length_29 (⟨by first | exact (if_pos (aLen_t h4 h0 h15 (inv_k hI h0 hle))).symm | exact (if_neg (aLen_f h15)).symm | exact (if_neg (flb_1 h8)).symm, rfl⟩)
  · obtain ⟨h4, h0, rfl⟩ := nQ_some h8
    rw [h8] at hl
    have hle := fd_le (pic_z hP) h4
    first | refine x_aload_n hx hb d_T_length_11 hl rfl ?_ | refine x_aload_nQ hx hb d_T_length_11 hl rfl ?_
    refine m_get hx hb hts hown hK hw ci_N (pic_n hP h0 hle) 1 (by decide) (wm1 114 rfl rfl) rfl d_T_length_12 ?_
    refine x_if_eqB hx hb d_T_length_15 rfl (fun h15 => ?_) (fun h15 => ?_)
    · first | refine x_aload_n hx hb d_T_length_22 hl rfl ?_ | refine x_aload_nQ hx hb d_T_length_22 hl rfl ?_
      refine m_get hx hb hts hown hK hw ci_N (pic_n hP h0 hle) 2 (by decide) (wm1 117 rfl rfl) rfl d_T_length_23 ?_
      refine m_get hx hb hts hown hK hw ci_Te (pic_tx hP h0 hle) 1 (by decide) (wm1 66 rfl rfl) rfl d_T_length_26 ?_
      exact x_reti hQ hx hb hr hlk rfl hw (by omega) (by omega) d_T_length_29 (⟨by first | exact (if_pos (aLen_t h4 h0 h15 (inv_k hI h0 hle))).symm | exact (if_neg (aLen_f h15)).symm | exact (if_neg (flb_1 h8)).symm, rfl⟩)
    · refine lv_iconst (v := -1) hx hb d_T_length_18 (by decide) ?_
      refine lv_goto hx hb d_T_length_19 rfl ?_
      exact x_reti hQ hx hb hr hlk rfl hw (by omega) (by omega) d_T_length_29 (⟨by first | exact (if_pos (aLen_t h4 h0 h15 (inv_k hI h0 hle))).symm | exact (if_neg (aLen_f h15)).symm | exact (if_neg (flb_1 h8)).symm, rfl⟩)

set_option maxHeartbeats 600000 in
set_option maxRecDepth 100000 in
theorem c_T_line {l : Launch} {E : Ev} {M : mp_M} {sz : Nat} {σ : SS} {ca na ta : Nat → Nat} (hP : PIC E σ ca na ta M) (hI : INV σ 3) (hN : σ 4 0 < 1300) {x y : Int32} : MCi l E y_T_line prog_1_method_13_code 4 (some .int) 3 66 0 0 [.ref (ca 0), .int x, .int y] M sz (fun r M' => r = aLine σ (fd σ x y) ∧ M' = M) := by
  refine mc_of R_T rfl [some (.ref (ca 0)), some (.int x), some (.int y), none] (by decide) (Nat.le_of_ble_eq_true rfl) rfl ?_
  intro p e R s m ag below meth c ls Q A X hAe hQ hR hsz hw hl
  rw [← hAe] at hQ
  obtain ⟨⟨hx, hb, hml, hown, hts⟩, hE, hA, hr, hlk, hnm⟩ := X
  have hK := hE.1
  first | refine x_aload_n hx hb d_T_line_0 hl rfl ?_ | refine x_aload_nQ hx hb d_T_line_0 hl rfl ?_
  refine x_iload_n hx hb d_T_line_1 hl rfl ?_
  refine x_iload_n hx hb d_T_line_2 hl rfl ?_
  refine m_callq (k_V ⟨hx, hb, hml, hown, hts⟩ hE hA hw (c_T_nodeAt hP (inv_y hI) hN) (ci_T).1 rfl (pic_o hP) (wm3 18 rfl rfl) (wm3 20 rfl rfl) (wmp2 2 rfl) (wm1 1 rfl rfl) (wm3 21 rfl rfl) rfl rfl ar_T_nodeAt ⟨Nat.le_trans (Nat.le_of_ble_eq_true rfl) hR.1, Nat.le_trans (Nat.le_of_ble_eq_true rfl) hR.2.1⟩ rfl hl.1 rfl (Nat.le_of_ble_eq_true rfl) d_T_line_3 ⟨Nat.le_trans (Nat.le_of_ble_eq_true rfl) hR.2.2.1, Nat.le_trans (Nat.le_of_ble_eq_true rfl) hR.2.2.2⟩) hw (mfr_in hw hA) (fun r3 M3 H locs hP3 hw => ?_)
  obtain ⟨rfl, hM3⟩ := hP3
  rw [hM3] at hw
  first | refine x_astore_n hx hb d_T_line_6 hl (Nat.le_of_ble_eq_true rfl) (lh_k (i := 2) rfl (by first | exact lk_n | exact lk_i | exact lk_r | exact lk_q | exact lk_0)) (fun ls hl => ?_) | refine x_astore_nQ hx hb d_T_line_6 hl (Nat.le_of_ble_eq_true rfl) (lh_k (i := 2) rfl (by first | exact lk_n | exact lk_i | exact lk_r | exact lk_q | exact lk_0)) (fun ls hl => ?_)
  first | refine x_aload_n hx hb d_T_line_7 hl rfl ?_ | refine x_aload_nQ hx hb d_T_line_7 hl rfl ?_
  refine x_ifnonnullQ hx hb d_T_line_8 rfl (fun a8 h8 => ?_) (fun h8 => ?_)
  · obtain ⟨h4, h0, rfl⟩ := nQ_some h8
    rw [h8] at hl
    have hle := fd_le (pic_z hP) h4
    first | refine x_aload_n hx hb d_T_line_15 hl rfl ?_ | refine x_aload_nQ hx hb d_T_line_15 hl rfl ?_
    refine m_get hx hb hts hown hK hw ci_N (pic_n hP h0 hle) 0 (by decide) (wm1 112 rfl rfl) rfl d_T_line_16 ?_
    exact x_reti hQ hx hb hr hlk rfl hw (by omega) (by omega) d_T_line_19 (⟨by first | exact (if_neg (by omega)).symm | exact (if_pos h8).symm, rfl⟩)
  · have h8 := nQ_none h8
    refine lv_iconst (v := -1) hx hb d_T_line_11 (by decide) ?_
    refine lv_goto hx hb d_T_line_12 rfl ?_
    exact x_reti hQ hx hb hr hlk rfl hw (by omega) (by omega) d_T_line_19 (⟨by first | exact (if_neg (by omega)).symm | exact (if_pos h8).symm, rfl⟩)

set_option maxHeartbeats 600000 in
set_option maxRecDepth 100000 in
theorem c_T_count {l : Launch} {E : Ev} {M : mp_M} {sz : Nat} {σ : SS} {ca na ta : Nat → Nat} (hP : PIC E σ ca na ta M) (hI : INV σ 3) (hN : σ 4 0 < 1300) {x y : Int32} : MCi l E y_T_count prog_1_method_14_code 4 (some .int) 3 66 0 0 [.ref (ca 0), .int x, .int y] M sz (fun r M' => r = aCount σ (fd σ x y) ∧ M' = M) := by
  refine mc_of R_T rfl [some (.ref (ca 0)), some (.int x), some (.int y), none] (by decide) (Nat.le_of_ble_eq_true rfl) rfl ?_
  intro p e R s m ag below meth c ls Q A X hAe hQ hR hsz hw hl
  rw [← hAe] at hQ
  obtain ⟨⟨hx, hb, hml, hown, hts⟩, hE, hA, hr, hlk, hnm⟩ := X
  have hK := hE.1
  first | refine x_aload_n hx hb d_T_count_0 hl rfl ?_ | refine x_aload_nQ hx hb d_T_count_0 hl rfl ?_
  refine x_iload_n hx hb d_T_count_1 hl rfl ?_
  refine x_iload_n hx hb d_T_count_2 hl rfl ?_
  refine m_callq (k_V ⟨hx, hb, hml, hown, hts⟩ hE hA hw (c_T_nodeAt hP (inv_y hI) hN) (ci_T).1 rfl (pic_o hP) (wm3 18 rfl rfl) (wm3 20 rfl rfl) (wmp2 2 rfl) (wm1 1 rfl rfl) (wm3 21 rfl rfl) rfl rfl ar_T_nodeAt ⟨Nat.le_trans (Nat.le_of_ble_eq_true rfl) hR.1, Nat.le_trans (Nat.le_of_ble_eq_true rfl) hR.2.1⟩ rfl hl.1 rfl (Nat.le_of_ble_eq_true rfl) d_T_count_3 ⟨Nat.le_trans (Nat.le_of_ble_eq_true rfl) hR.2.2.1, Nat.le_trans (Nat.le_of_ble_eq_true rfl) hR.2.2.2⟩) hw (mfr_in hw hA) (fun r3 M3 H locs hP3 hw => ?_)
  obtain ⟨rfl, hM3⟩ := hP3
  rw [hM3] at hw
  first | refine x_astore_n hx hb d_T_count_6 hl (Nat.le_of_ble_eq_true rfl) (lh_k (i := 2) rfl (by first | exact lk_n | exact lk_i | exact lk_r | exact lk_q | exact lk_0)) (fun ls hl => ?_) | refine x_astore_nQ hx hb d_T_count_6 hl (Nat.le_of_ble_eq_true rfl) (lh_k (i := 2) rfl (by first | exact lk_n | exact lk_i | exact lk_r | exact lk_q | exact lk_0)) (fun ls hl => ?_)
  first | refine x_aload_n hx hb d_T_count_7 hl rfl ?_ | refine x_aload_nQ hx hb d_T_count_7 hl rfl ?_
  refine x_ifnonnullQ hx hb d_T_count_8 rfl (fun a8 h8 => ?_) (fun h8 => ?_)
  · obtain ⟨h4, h0, rfl⟩ := nQ_some h8
    rw [h8] at hl
    have hle := fd_le (pic_z hP) h4
    first | refine x_aload_n hx hb d_T_count_15 hl rfl ?_ | refine x_aload_nQ hx hb d_T_count_15 hl rfl ?_
    refine m_get hx hb hts hown hK hw ci_N (pic_n hP h0 hle) 3 (by decide) (wm1 119 rfl rfl) rfl d_T_count_16 ?_
    exact x_reti hQ hx hb hr hlk rfl hw (by omega) (by omega) d_T_count_19 (⟨by first | exact (if_neg (by omega)).symm | exact (if_pos h8).symm, rfl⟩)
  · have h8 := nQ_none h8
    refine lv_iconst (v := -1) hx hb d_T_count_11 (by decide) ?_
    refine lv_goto hx hb d_T_count_12 rfl ?_
    exact x_reti hQ hx hb hr hlk rfl hw (by omega) (by omega) d_T_count_19 (⟨by first | exact (if_neg (by omega)).symm | exact (if_pos h8).symm, rfl⟩)

set_option maxHeartbeats 600000 in
set_option maxRecDepth 100000 in
theorem c_T_created {l : Launch} {E : Ev} {M : mp_M} {sz : Nat} {σ : SS} {ca na ta : Nat → Nat} (hP : PIC E σ ca na ta M) (hI : INV σ 3) (hN : σ 4 0 < 1300) {x y : Int32} : MCi l E y_T_created prog_1_method_15_code 4 (some .int) 3 66 0 0 [.ref (ca 0), .int x, .int y] M sz (fun r M' => r = aBorn σ (fd σ x y) ∧ M' = M) := by
  refine mc_of R_T rfl [some (.ref (ca 0)), some (.int x), some (.int y), none] (by decide) (Nat.le_of_ble_eq_true rfl) rfl ?_
  intro p e R s m ag below meth c ls Q A X hAe hQ hR hsz hw hl
  rw [← hAe] at hQ
  obtain ⟨⟨hx, hb, hml, hown, hts⟩, hE, hA, hr, hlk, hnm⟩ := X
  have hK := hE.1
  first | refine x_aload_n hx hb d_T_created_0 hl rfl ?_ | refine x_aload_nQ hx hb d_T_created_0 hl rfl ?_
  refine x_iload_n hx hb d_T_created_1 hl rfl ?_
  refine x_iload_n hx hb d_T_created_2 hl rfl ?_
  refine m_callq (k_V ⟨hx, hb, hml, hown, hts⟩ hE hA hw (c_T_nodeAt hP (inv_y hI) hN) (ci_T).1 rfl (pic_o hP) (wm3 18 rfl rfl) (wm3 20 rfl rfl) (wmp2 2 rfl) (wm1 1 rfl rfl) (wm3 21 rfl rfl) rfl rfl ar_T_nodeAt ⟨Nat.le_trans (Nat.le_of_ble_eq_true rfl) hR.1, Nat.le_trans (Nat.le_of_ble_eq_true rfl) hR.2.1⟩ rfl hl.1 rfl (Nat.le_of_ble_eq_true rfl) d_T_created_3 ⟨Nat.le_trans (Nat.le_of_ble_eq_true rfl) hR.2.2.1, Nat.le_trans (Nat.le_of_ble_eq_true rfl) hR.2.2.2⟩) hw (mfr_in hw hA) (fun r3 M3 H locs hP3 hw => ?_)
  obtain ⟨rfl, hM3⟩ := hP3
  rw [hM3] at hw
  first | refine x_astore_n hx hb d_T_created_6 hl (Nat.le_of_ble_eq_true rfl) (lh_k (i := 2) rfl (by first | exact lk_n | exact lk_i | exact lk_r | exact lk_q | exact lk_0)) (fun ls hl => ?_) | refine x_astore_nQ hx hb d_T_created_6 hl (Nat.le_of_ble_eq_true rfl) (lh_k (i := 2) rfl (by first | exact lk_n | exact lk_i | exact lk_r | exact lk_q | exact lk_0)) (fun ls hl => ?_)
  first | refine x_aload_n hx hb d_T_created_7 hl rfl ?_ | refine x_aload_nQ hx hb d_T_created_7 hl rfl ?_
  refine x_ifnonnullQ hx hb d_T_created_8 rfl (fun a8 h8 => ?_) (fun h8 => ?_)
  · obtain ⟨h4, h0, rfl⟩ := nQ_some h8
    rw [h8] at hl
    have hle := fd_le (pic_z hP) h4
    first | refine x_aload_n hx hb d_T_created_15 hl rfl ?_ | refine x_aload_nQ hx hb d_T_created_15 hl rfl ?_
    refine m_get hx hb hts hown hK hw ci_N (pic_n hP h0 hle) 4 (by decide) (wm1 121 rfl rfl) rfl d_T_created_16 ?_
    exact x_reti hQ hx hb hr hlk rfl hw (by omega) (by omega) d_T_created_19 (⟨by first | exact cr_1 h4 h0 | exact (if_pos (Or.inl h8)).symm, rfl⟩)
  · have h8 := nQ_none h8
    refine lv_iconst (v := -1) hx hb d_T_created_11 (by decide) ?_
    refine lv_goto hx hb d_T_created_12 rfl ?_
    exact x_reti hQ hx hb hr hlk rfl hw (by omega) (by omega) d_T_created_19 (⟨by first | exact cr_1 h4 h0 | exact (if_pos (Or.inl h8)).symm, rfl⟩)

set_option maxHeartbeats 600000 in
set_option maxRecDepth 100000 in
theorem c_T_youngest {l : Launch} {E : Ev} {M : mp_M} {sz : Nat} {σ : SS} {ca na ta : Nat → Nat} (hP : PIC E σ ca na ta M) : MCi l E y_T_youngest prog_1_method_9_code 1 (some .int) 0 0 0 0 [.ref (ca 0)] M sz (fun r M' => r = nI (σ 1 0) ∧ M' = M) := by
  refine mc_of R_T rfl [some (.ref (ca 0))] (by decide) (Nat.le_of_ble_eq_true rfl) rfl ?_
  intro p e R s m ag below meth c ls Q A X hAe hQ hR hsz hw hl
  rw [← hAe] at hQ
  obtain ⟨⟨hx, hb, hml, hown, hts⟩, hE, hA, hr, hlk, hnm⟩ := X
  have hK := hE.1
  first | refine x_aload_n hx hb d_T_youngest_0 hl rfl ?_ | refine x_aload_nQ hx hb d_T_youngest_0 hl rfl ?_
  refine m_get hx hb hts hown hK hw ci_T (pic_o hP) 4 (by decide) (wm1 164 rfl rfl) rfl d_T_youngest_1 ?_
  exact x_reti hQ hx hb hr hlk rfl hw (by omega) (by omega) d_T_youngest_4 (⟨rfl, rfl⟩)

set_option maxHeartbeats 600000 in
set_option maxRecDepth 100000 in
theorem c_T_rep {l : Launch} {E : Ev} {M : mp_M} {sz : Nat} {σ : SS} {ca na ta : Nat → Nat} (hP : PIC E σ ca na ta M) (hI : INV σ 3) (hN : σ 4 0 < 1300) {x y : Int32} : MCi l E y_T_representation prog_1_method_17_code 4 (some .int) 1 21 0 0 [.ref (ca 0), .int x, .int y] M sz (fun r M' => r = aRep σ x y ∧ M' = M) := by
  refine mc_of R_T rfl [some (.ref (ca 0)), some (.int x), some (.int y), none] (by decide) (Nat.le_of_ble_eq_true rfl) rfl ?_
  intro p e R s m ag below meth c ls Q A X hAe hQ hR hsz hw hl
  rw [← hAe] at hQ
  obtain ⟨⟨hx, hb, hml, hown, hts⟩, hE, hA, hr, hlk, hnm⟩ := X
  have hK := hE.1
  have hy := inv_y hI
  first | refine x_aload_n hx hb d_T_representation_0 hl rfl ?_ | refine x_aload_nQ hx hb d_T_representation_0 hl rfl ?_
  refine x_iload_n hx hb d_T_representation_1 hl rfl ?_
  refine m_calli (k_V ⟨hx, hb, hml, hown, hts⟩ hE hA hw (c_T_isRev hP hy) (ci_T).1 rfl (pic_o hP) (wm2 19 rfl rfl) (wm2 21 rfl rfl) (wmp1 2 rfl) (wm1 1 rfl rfl) (wm2 22 rfl rfl) rfl rfl ar_T_isRevision ⟨Nat.le_trans (Nat.le_of_ble_eq_true rfl) hR.1, Nat.le_trans (Nat.le_of_ble_eq_true rfl) hR.2.1⟩ rfl hl.1 rfl (Nat.le_of_ble_eq_true rfl) d_T_representation_2 ⟨Nat.le_trans (Nat.le_of_ble_eq_true rfl) hR.2.2.1, Nat.le_trans (Nat.le_of_ble_eq_true rfl) hR.2.2.2⟩) hw (mfr_in hw hA) (fun r2 M2 H locs hP2 hw => ?_)
  obtain ⟨rfl, hM2⟩ := hP2
  rw [hM2] at hw
  refine x_if_eqB hx hb d_T_representation_5 rfl (fun h5 => ?_) (fun h5 => ?_)
  · have h5 := iv_n h5
    refine lv_null hx hb d_T_representation_21 ?_
    refine W.eq (g2 := F0 m 22 ls [va_rf none]) rfl ?_
    first | refine x_astore_n hx hb d_T_representation_22 hl (Nat.le_of_ble_eq_true rfl) (lh_k (i := 2) rfl (by first | exact lk_n | exact lk_i | exact lk_r | exact lk_q | exact lk_0)) (fun ls hl => ?_) | refine x_astore_nQ hx hb d_T_representation_22 hl (Nat.le_of_ble_eq_true rfl) (lh_k (i := 2) rfl (by first | exact lk_n | exact lk_i | exact lk_r | exact lk_q | exact lk_0)) (fun ls hl => ?_)
    first | refine x_aload_n hx hb d_T_representation_23 hl rfl ?_ | refine x_aload_nQ hx hb d_T_representation_23 hl rfl ?_
    refine x_ifnullQ hx hb d_T_representation_24 rfl (fun h24 => ?_) (fun a24 h24 => ?_)
    · refine lv_iconst (v := -1) hx hb d_T_representation_34 (by decide) ?_
      refine lv_goto hx hb d_T_representation_35 rfl ?_
      exact x_reti hQ hx hb hr hlk rfl hw (by omega) (by omega) d_T_representation_42 (⟨rq_4 h5, rfl⟩)
    · exact nomatch h24
  · obtain ⟨k, hk, rfl, hr9⟩ := iv_of hy h5
    first | refine x_aload_n hx hb d_T_representation_8 hl rfl ?_ | refine x_aload_nQ hx hb d_T_representation_8 hl rfl ?_
    refine m_get hx hb hts hown hK hw ci_T (pic_o hP) 0 (by decide) (wm1 160 rfl rfl) rfl d_T_representation_9 ?_
    refine x_iload_n hx hb d_T_representation_12 hl rfl ?_
    refine m_aald hx hb hK hw 1 (pic_r hP) rfl (by omega) (by decide) (if_pos (by omega)) d_T_representation_13 ?_
    refine x_iload_n hx hb d_T_representation_14 hl rfl ?_
    refine m_callq (k_V ⟨hx, hb, hml, hown, hts⟩ hE hA hw (c_Tr_at (pic_t hP (k := k) (by omega)) (pic_a hP (k := k) (by omega))) (ci_Tr).1 rfl (pic_t hP (k := k) (by omega)) (wm2 8 rfl rfl) (wm1 212 rfl rfl) (wm1 213 rfl rfl) (wm1 6 rfl rfl) (wm1 214 rfl rfl) rfl rfl ar_Tr_at ⟨Nat.le_trans (Nat.le_of_ble_eq_true rfl) hR.1, Nat.le_trans (Nat.le_of_ble_eq_true rfl) hR.2.1⟩ rfl hl.1 rfl (Nat.le_of_ble_eq_true rfl) d_T_representation_15 ⟨Nat.le_trans (Nat.le_of_ble_eq_true rfl) hR.2.2.1, Nat.le_trans (Nat.le_of_ble_eq_true rfl) hR.2.2.2⟩) hw (mfr_in hw hA) (fun r15 M15 H locs hP15 hw => ?_)
    obtain ⟨rfl, hM15⟩ := hP15
    rw [hM15] at hw
    rw [tat_row (pic_z hP) (k := k) (by omega)]
    refine lv_goto hx hb d_T_representation_18 rfl ?_
    first | refine x_astore_n hx hb d_T_representation_22 hl (Nat.le_of_ble_eq_true rfl) (lh_k (i := 2) rfl (by first | exact lk_n | exact lk_i | exact lk_r | exact lk_q | exact lk_0)) (fun ls hl => ?_) | refine x_astore_nQ hx hb d_T_representation_22 hl (Nat.le_of_ble_eq_true rfl) (lh_k (i := 2) rfl (by first | exact lk_n | exact lk_i | exact lk_r | exact lk_q | exact lk_0)) (fun ls hl => ?_)
    first | refine x_aload_n hx hb d_T_representation_23 hl rfl ?_ | refine x_aload_nQ hx hb d_T_representation_23 hl rfl ?_
    refine x_ifnullQ hx hb d_T_representation_24 rfl (fun h24 => ?_) (fun a24 h24 => ?_)
    · have h24 := nq_none h24
      refine lv_iconst (v := -1) hx hb d_T_representation_34 (by decide) ?_
      refine lv_goto hx hb d_T_representation_35 rfl ?_
      exact x_reti hQ hx hb hr hlk rfl hw (by omega) (by omega) d_T_representation_42 (⟨by first | exact rq_1 hr9 (by omega) h0 hle hN h31 (inv_k hI h0 hle) | exact rq_2 hr9 (by omega) h31 | exact rq_3 hr9 (by omega) h24, rfl⟩)
    · obtain ⟨h0, rfl⟩ := nq_some h24
      rw [h24] at hl
      have hle := rat_le (pic_z hP) (k := k) (q := ix y)
      first | refine x_aload_n hx hb d_T_representation_27 hl rfl ?_ | refine x_aload_nQ hx hb d_T_representation_27 hl rfl ?_
      refine m_get hx hb hts hown hK hw ci_N (pic_n hP h0 hle) 1 (by decide) (wm1 114 rfl rfl) rfl d_T_representation_28 ?_
      refine x_if_eqB hx hb d_T_representation_31 rfl (fun h31 => ?_) (fun h31 => ?_)
      · first | refine x_aload_n hx hb d_T_representation_38 hl rfl ?_ | refine x_aload_nQ hx hb d_T_representation_38 hl rfl ?_
        refine m_get hx hb hts hown hK hw ci_N (pic_n hP h0 hle) 9 (by decide) (wm1 134 rfl rfl) rfl d_T_representation_39 ?_
        exact x_reti hQ hx hb hr hlk rfl hw (by omega) (by omega) d_T_representation_42 (⟨by first | exact rq_1 hr9 (by omega) h0 hle hN h31 (inv_k hI h0 hle) | exact rq_2 hr9 (by omega) h31 | exact rq_3 hr9 (by omega) h24, rfl⟩)
      · refine lv_iconst (v := -1) hx hb d_T_representation_34 (by decide) ?_
        refine lv_goto hx hb d_T_representation_35 rfl ?_
        exact x_reti hQ hx hb hr hlk rfl hw (by omega) (by omega) d_T_representation_42 (⟨by first | exact rq_1 hr9 (by omega) h0 hle hN h31 (inv_k hI h0 hle) | exact rq_2 hr9 (by omega) h31 | exact rq_3 hr9 (by omega) h24, rfl⟩)
