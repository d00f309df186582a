theorem d_M_unit_0 : decode prog_10_method_2_code 0 = .ok (.iload_n 0, 1) := by decide +kernel
theorem d_M_unit_1 : decode prog_10_method_2_code 1 = .ok (.ifCond .ne 7, 3) := by decide +kernel
theorem d_M_unit_4 : decode prog_10_method_2_code 4 = .ok (.iconst 1, 1) := by decide +kernel
theorem d_M_unit_5 : decode prog_10_method_2_code 5 = .ok (.goto 24, 3) := by decide +kernel
theorem d_M_unit_8 : decode prog_10_method_2_code 8 = .ok (.iload_n 0, 1) := by decide +kernel
theorem d_M_unit_9 : decode prog_10_method_2_code 9 = .ok (.iconst 1, 1) := by decide +kernel
theorem d_M_unit_10 : decode prog_10_method_2_code 10 = .ok (.if_icmp .ne 7, 3) := by decide +kernel
theorem d_M_unit_13 : decode prog_10_method_2_code 13 = .ok (.iconst 5, 1) := by decide +kernel
theorem d_M_unit_14 : decode prog_10_method_2_code 14 = .ok (.goto 15, 3) := by decide +kernel
theorem d_M_unit_17 : decode prog_10_method_2_code 17 = .ok (.iload_n 0, 1) := by decide +kernel
theorem d_M_unit_18 : decode prog_10_method_2_code 18 = .ok (.iconst 2, 1) := by decide +kernel
theorem d_M_unit_19 : decode prog_10_method_2_code 19 = .ok (.if_icmp .ne 8, 3) := by decide +kernel
theorem d_M_unit_22 : decode prog_10_method_2_code 22 = .ok (.bipush 25, 2) := by decide +kernel
theorem d_M_unit_24 : decode prog_10_method_2_code 24 = .ok (.goto 5, 3) := by decide +kernel
theorem d_M_unit_27 : decode prog_10_method_2_code 27 = .ok (.bipush 125, 2) := by decide +kernel
theorem d_M_unit_29 : decode prog_10_method_2_code 29 = .ok (.ireturn, 1) := by decide +kernel

theorem d_M_depth_0 : decode prog_10_method_4_code 0 = .ok (.iload_n 0, 1) := by decide +kernel
theorem d_M_depth_1 : decode prog_10_method_4_code 1 = .ok (.ifCond .ne 7, 3) := by decide +kernel
theorem d_M_depth_4 : decode prog_10_method_4_code 4 = .ok (.iconst 0, 1) := by decide +kernel
theorem d_M_depth_5 : decode prog_10_method_4_code 5 = .ok (.goto 23, 3) := by decide +kernel
theorem d_M_depth_8 : decode prog_10_method_4_code 8 = .ok (.iload_n 0, 1) := by decide +kernel
theorem d_M_depth_9 : decode prog_10_method_4_code 9 = .ok (.iconst 5, 1) := by decide +kernel
theorem d_M_depth_10 : decode prog_10_method_4_code 10 = .ok (.if_icmp .ge 7, 3) := by decide +kernel
theorem d_M_depth_13 : decode prog_10_method_4_code 13 = .ok (.iconst 1, 1) := by decide +kernel
theorem d_M_depth_14 : decode prog_10_method_4_code 14 = .ok (.goto 14, 3) := by decide +kernel
theorem d_M_depth_17 : decode prog_10_method_4_code 17 = .ok (.iload_n 0, 1) := by decide +kernel
theorem d_M_depth_18 : decode prog_10_method_4_code 18 = .ok (.bipush 25, 2) := by decide +kernel
theorem d_M_depth_20 : decode prog_10_method_4_code 20 = .ok (.if_icmp .ge 7, 3) := by decide +kernel
theorem d_M_depth_23 : decode prog_10_method_4_code 23 = .ok (.iconst 2, 1) := by decide +kernel
theorem d_M_depth_24 : decode prog_10_method_4_code 24 = .ok (.goto 4, 3) := by decide +kernel
theorem d_M_depth_27 : decode prog_10_method_4_code 27 = .ok (.iconst 3, 1) := by decide +kernel
theorem d_M_depth_28 : decode prog_10_method_4_code 28 = .ok (.ireturn, 1) := by decide +kernel

theorem d_M_good_0 : decode prog_10_method_3_code 0 = .ok (.iload_n 0, 1) := by decide +kernel
theorem d_M_good_1 : decode prog_10_method_3_code 1 = .ok (.ifCond .lt 9, 3) := by decide +kernel
theorem d_M_good_4 : decode prog_10_method_3_code 4 = .ok (.iload_n 0, 1) := by decide +kernel
theorem d_M_good_5 : decode prog_10_method_3_code 5 = .ok (.bipush 124, 2) := by decide +kernel
theorem d_M_good_7 : decode prog_10_method_3_code 7 = .ok (.if_icmp .le 5, 3) := by decide +kernel
theorem d_M_good_10 : decode prog_10_method_3_code 10 = .ok (.iconst 0, 1) := by decide +kernel
theorem d_M_good_11 : decode prog_10_method_3_code 11 = .ok (.ireturn, 1) := by decide +kernel
theorem d_M_good_12 : decode prog_10_method_3_code 12 = .ok (.iload_n 0, 1) := by decide +kernel
theorem d_M_good_13 : decode prog_10_method_3_code 13 = .ok (.iconst 5, 1) := by decide +kernel
theorem d_M_good_14 : decode prog_10_method_3_code 14 = .ok (.idiv, 1) := by decide +kernel
theorem d_M_good_15 : decode prog_10_method_3_code 15 = .ok (.iconst 5, 1) := by decide +kernel
theorem d_M_good_16 : decode prog_10_method_3_code 16 = .ok (.irem, 1) := by decide +kernel
theorem d_M_good_17 : decode prog_10_method_3_code 17 = .ok (.ifCond .le 7, 3) := by decide +kernel
theorem d_M_good_20 : decode prog_10_method_3_code 20 = .ok (.iconst 1, 1) := by decide +kernel
theorem d_M_good_21 : decode prog_10_method_3_code 21 = .ok (.goto 4, 3) := by decide +kernel
theorem d_M_good_24 : decode prog_10_method_3_code 24 = .ok (.iconst 0, 1) := by decide +kernel
theorem d_M_good_25 : decode prog_10_method_3_code 25 = .ok (.istore_n 1, 1) := by decide +kernel
theorem d_M_good_26 : decode prog_10_method_3_code 26 = .ok (.iload_n 0, 1) := by decide +kernel
theorem d_M_good_27 : decode prog_10_method_3_code 27 = .ok (.iconst 5, 1) := by decide +kernel
theorem d_M_good_28 : decode prog_10_method_3_code 28 = .ok (.irem, 1) := by decide +kernel
theorem d_M_good_29 : decode prog_10_method_3_code 29 = .ok (.ifCond .gt 7, 3) := by decide +kernel
theorem d_M_good_32 : decode prog_10_method_3_code 32 = .ok (.iload_n 0, 1) := by decide +kernel
theorem d_M_good_33 : decode prog_10_method_3_code 33 = .ok (.ifCond .ne 16, 3) := by decide +kernel
theorem d_M_good_36 : decode prog_10_method_3_code 36 = .ok (.iload_n 1, 1) := by decide +kernel
theorem d_M_good_37 : decode prog_10_method_3_code 37 = .ok (.ifCond .ne 8, 3) := by decide +kernel
theorem d_M_good_40 : decode prog_10_method_3_code 40 = .ok (.iload_n 0, 1) := by decide +kernel
theorem d_M_good_41 : decode prog_10_method_3_code 41 = .ok (.iconst 5, 1) := by decide +kernel
theorem d_M_good_42 : decode prog_10_method_3_code 42 = .ok (.if_icmp .ge 7, 3) := by decide +kernel
theorem d_M_good_45 : decode prog_10_method_3_code 45 = .ok (.iconst 1, 1) := by decide +kernel
theorem d_M_good_46 : decode prog_10_method_3_code 46 = .ok (.goto 4, 3) := by decide +kernel
theorem d_M_good_49 : decode prog_10_method_3_code 49 = .ok (.iconst 0, 1) := by decide +kernel
theorem d_M_good_50 : decode prog_10_method_3_code 50 = .ok (.ireturn, 1) := by decide +kernel

theorem d_M_parent_0 : decode prog_10_method_5_code 0 = .ok (.iload_n 0, 1) := by decide +kernel
theorem d_M_parent_1 : decode prog_10_method_5_code 1 = .ok (.iload_n 0, 1) := by decide +kernel
theorem d_M_parent_2 : decode prog_10_method_5_code 2 = .ok (.invokestatic 69, 3) := by decide +kernel
theorem d_M_parent_5 : decode prog_10_method_5_code 5 = .ok (.iconst 1, 1) := by decide +kernel
theorem d_M_parent_6 : decode prog_10_method_5_code 6 = .ok (.isub, 1) := by decide +kernel
theorem d_M_parent_7 : decode prog_10_method_5_code 7 = .ok (.invokestatic 73, 3) := by decide +kernel
theorem d_M_parent_10 : decode prog_10_method_5_code 10 = .ok (.irem, 1) := by decide +kernel
theorem d_M_parent_11 : decode prog_10_method_5_code 11 = .ok (.ireturn, 1) := by decide +kernel

theorem d_M_under_0 : decode prog_10_method_6_code 0 = .ok (.iload_n 0, 1) := by decide +kernel
theorem d_M_under_1 : decode prog_10_method_6_code 1 = .ok (.iload_n 1, 1) := by decide +kernel
theorem d_M_under_2 : decode prog_10_method_6_code 2 = .ok (.invokestatic 69, 3) := by decide +kernel
theorem d_M_under_5 : decode prog_10_method_6_code 5 = .ok (.invokestatic 73, 3) := by decide +kernel
theorem d_M_under_8 : decode prog_10_method_6_code 8 = .ok (.irem, 1) := by decide +kernel
theorem d_M_under_9 : decode prog_10_method_6_code 9 = .ok (.iload_n 1, 1) := by decide +kernel
theorem d_M_under_10 : decode prog_10_method_6_code 10 = .ok (.if_icmp .ne 7, 3) := by decide +kernel
theorem d_M_under_13 : decode prog_10_method_6_code 13 = .ok (.iconst 1, 1) := by decide +kernel
theorem d_M_under_14 : decode prog_10_method_6_code 14 = .ok (.goto 4, 3) := by decide +kernel
theorem d_M_under_17 : decode prog_10_method_6_code 17 = .ok (.iconst 0, 1) := by decide +kernel
theorem d_M_under_18 : decode prog_10_method_6_code 18 = .ok (.ireturn, 1) := by decide +kernel

theorem d_M_moved_0 : decode prog_10_method_18_code 0 = .ok (.iload_n 2, 1) := by decide +kernel
theorem d_M_moved_1 : decode prog_10_method_18_code 1 = .ok (.invokestatic 69, 3) := by decide +kernel
theorem d_M_moved_4 : decode prog_10_method_18_code 4 = .ok (.iload_n 0, 1) := by decide +kernel
theorem d_M_moved_5 : decode prog_10_method_18_code 5 = .ok (.invokestatic 69, 3) := by decide +kernel
theorem d_M_moved_8 : decode prog_10_method_18_code 8 = .ok (.iadd, 1) := by decide +kernel
theorem d_M_moved_9 : decode prog_10_method_18_code 9 = .ok (.iload_n 1, 1) := by decide +kernel
theorem d_M_moved_10 : decode prog_10_method_18_code 10 = .ok (.invokestatic 69, 3) := by decide +kernel
theorem d_M_moved_13 : decode prog_10_method_18_code 13 = .ok (.isub, 1) := by decide +kernel
theorem d_M_moved_14 : decode prog_10_method_18_code 14 = .ok (.istore_n 3, 1) := by decide +kernel
theorem d_M_moved_15 : decode prog_10_method_18_code 15 = .ok (.iload_n 3, 1) := by decide +kernel
theorem d_M_moved_16 : decode prog_10_method_18_code 16 = .ok (.iconst 3, 1) := by decide +kernel
theorem d_M_moved_17 : decode prog_10_method_18_code 17 = .ok (.if_icmp .le 7, 3) := by decide +kernel
theorem d_M_moved_20 : decode prog_10_method_18_code 20 = .ok (.iconst (-1), 1) := by decide +kernel
theorem d_M_moved_21 : decode prog_10_method_18_code 21 = .ok (.goto 22, 3) := by decide +kernel
theorem d_M_moved_24 : decode prog_10_method_18_code 24 = .ok (.iload_n 2, 1) := by decide +kernel
theorem d_M_moved_25 : decode prog_10_method_18_code 25 = .ok (.iload_n 0, 1) := by decide +kernel
theorem d_M_moved_26 : decode prog_10_method_18_code 26 = .ok (.iload_n 1, 1) := by decide +kernel
theorem d_M_moved_27 : decode prog_10_method_18_code 27 = .ok (.invokestatic 69, 3) := by decide +kernel
theorem d_M_moved_30 : decode prog_10_method_18_code 30 = .ok (.invokestatic 73, 3) := by decide +kernel
theorem d_M_moved_33 : decode prog_10_method_18_code 33 = .ok (.idiv, 1) := by decide +kernel
theorem d_M_moved_34 : decode prog_10_method_18_code 34 = .ok (.iload_n 2, 1) := by decide +kernel
theorem d_M_moved_35 : decode prog_10_method_18_code 35 = .ok (.invokestatic 69, 3) := by decide +kernel
theorem d_M_moved_38 : decode prog_10_method_18_code 38 = .ok (.invokestatic 73, 3) := by decide +kernel
theorem d_M_moved_41 : decode prog_10_method_18_code 41 = .ok (.imul, 1) := by decide +kernel
theorem d_M_moved_42 : decode prog_10_method_18_code 42 = .ok (.iadd, 1) := by decide +kernel
theorem d_M_moved_43 : decode prog_10_method_18_code 43 = .ok (.ireturn, 1) := by decide +kernel
set_option maxHeartbeats 4000000 in
set_option maxRecDepth 100000 in
theorem c_M_unit {l : Launch} {E : Ev} {M : mp_M} {sz : Nat} {n : Nat} (hn : n < 2 ^ 31) : MCi l E y_M_unit prog_10_method_2_code 1 (some .int) 0 0 0 0 [.int (nI n)] M sz (fun r M' => r = nI (pu n) ∧ M' = M) := by
  refine mc_of R_M rfl [some (.int (nI n))] (by decide) (Nat.le_of_ble_eq_true rfl) rfl ?_
  intro p e R s m ag below meth c ls Q A X hAe hQ hR hsz hw hl
  rw [← hAe] at hQ
  obtain ⟨⟨hx, hb, hml, hown, hts⟩, hE, hA, hr, hlk, hnm⟩ := X
  have hK := hE.1
  refine x_iload_n hx hb d_M_unit_0 hl rfl ?_
  refine x_if_ne hx hb d_M_unit_1 rfl (by omega) (fun h1 => ?_) (fun h1 => ?_)
  · refine x_iload_n hx hb d_M_unit_8 hl rfl ?_
    refine lv_iconst (v := nI 1) hx hb d_M_unit_9 (by decide) ?_
    refine x_icmp_ne hx hb d_M_unit_10 rfl (by omega) (by omega) (fun h10 => ?_) (fun h10 => ?_)
    · refine x_iload_n hx hb d_M_unit_17 hl rfl ?_
      refine lv_iconst (v := nI 2) hx hb d_M_unit_18 (by decide) ?_
      refine x_icmp_ne hx hb d_M_unit_19 rfl (by omega) (by omega) (fun h19 => ?_) (fun h19 => ?_)
      · refine lv_bipush (v := nI 125) hx hb d_M_unit_27 (by decide) ?_
        exact x_reti hQ hx hb hr hlk rfl hw (by omega) (by omega) d_M_unit_29 (⟨congrArg nI (by unfold pu; (repeat' split) <;> omega), rfl⟩)
      · refine lv_bipush (v := nI 25) hx hb d_M_unit_22 (by decide) ?_
        refine lv_goto hx hb d_M_unit_24 rfl ?_
        exact x_reti hQ hx hb hr hlk rfl hw (by omega) (by omega) d_M_unit_29 (⟨congrArg nI (by unfold pu; (repeat' split) <;> omega), rfl⟩)
    · refine lv_iconst (v := nI 5) hx hb d_M_unit_13 (by decide) ?_
      refine lv_goto hx hb d_M_unit_14 rfl ?_
      exact x_reti hQ hx hb hr hlk rfl hw (by omega) (by omega) d_M_unit_29 (⟨congrArg nI (by unfold pu; (repeat' split) <;> omega), rfl⟩)
  · refine lv_iconst (v := nI 1) hx hb d_M_unit_4 (by decide) ?_
    refine lv_goto hx hb d_M_unit_5 rfl ?_
    exact x_reti hQ hx hb hr hlk rfl hw (by omega) (by omega) d_M_unit_29 (⟨congrArg nI (by unfold pu; (repeat' split) <;> omega), rfl⟩)

set_option maxHeartbeats 4000000 in
set_option maxRecDepth 100000 in
theorem c_M_depth {l : Launch} {E : Ev} {M : mp_M} {sz : Nat} {n : Nat} (hn : n < 2 ^ 31) : MCi l E y_M_depth prog_10_method_4_code 1 (some .int) 0 0 0 0 [.int (nI n)] M sz (fun r M' => r = nI (pd n) ∧ M' = M) := by
  refine mc_of R_M rfl [some (.int (nI n))] (by decide) (Nat.le_of_ble_eq_true rfl) rfl ?_
  intro p e R s m ag below meth c ls Q A X hAe hQ hR hsz hw hl
  rw [← hAe] at hQ
  obtain ⟨⟨hx, hb, hml, hown, hts⟩, hE, hA, hr, hlk, hnm⟩ := X
  have hK := hE.1
  refine x_iload_n hx hb d_M_depth_0 hl rfl ?_
  refine x_if_ne hx hb d_M_depth_1 rfl (by omega) (fun h1 => ?_) (fun h1 => ?_)
  · refine x_iload_n hx hb d_M_depth_8 hl rfl ?_
    refine lv_iconst (v := nI 5) hx hb d_M_depth_9 (by decide) ?_
    refine x_icmp_ge hx hb d_M_depth_10 rfl (by omega) (by omega) (fun h10 => ?_) (fun h10 => ?_)
    · refine x_iload_n hx hb d_M_depth_17 hl rfl ?_
      refine lv_bipush (v := nI 25) hx hb d_M_depth_18 (by decide) ?_
      refine x_icmp_ge hx hb d_M_depth_20 rfl (by omega) (by omega) (fun h20 => ?_) (fun h20 => ?_)
      · refine lv_iconst (v := nI 3) hx hb d_M_depth_27 (by decide) ?_
        exact x_reti hQ hx hb hr hlk rfl hw (by omega) (by omega) d_M_depth_28 (⟨congrArg nI (by unfold pd; (repeat' split) <;> omega), rfl⟩)
      · refine lv_iconst (v := nI 2) hx hb d_M_depth_23 (by decide) ?_
        refine lv_goto hx hb d_M_depth_24 rfl ?_
        exact x_reti hQ hx hb hr hlk rfl hw (by omega) (by omega) d_M_depth_28 (⟨congrArg nI (by unfold pd; (repeat' split) <;> omega), rfl⟩)
    · refine lv_iconst (v := nI 1) hx hb d_M_depth_13 (by decide) ?_
      refine lv_goto hx hb d_M_depth_14 rfl ?_
      exact x_reti hQ hx hb hr hlk rfl hw (by omega) (by omega) d_M_depth_28 (⟨congrArg nI (by unfold pd; (repeat' split) <;> omega), rfl⟩)
  · refine lv_iconst (v := nI 0) hx hb d_M_depth_4 (by decide) ?_
    refine lv_goto hx hb d_M_depth_5 rfl ?_
    exact x_reti hQ hx hb hr hlk rfl hw (by omega) (by omega) d_M_depth_28 (⟨congrArg nI (by unfold pd; (repeat' split) <;> omega), rfl⟩)

set_option maxHeartbeats 4000000 in
set_option maxRecDepth 100000 in
theorem c_M_good {l : Launch} {E : Ev} {M : mp_M} {sz : Nat} {x : Int32} : MCi l E y_M_good prog_10_method_3_code 2 (some .boolean) 0 0 0 0 [.int x] M sz (fun r M' => r = bz (pgb (ix x)) ∧ M' = M) := by
  refine mc_of R_M rfl [some (.int x), none] (by decide) (Nat.le_of_ble_eq_true rfl) rfl ?_
  intro p e R s m ag below meth c ls Q A X hAe hQ hR hsz hw hl
  rw [← hAe] at hQ
  obtain ⟨⟨hx, hb, hml, hown, hts⟩, hE, hA, hr, hlk, hnm⟩ := X
  have hK := hE.1
  refine x_iload_n hx hb d_M_good_0 hl rfl ?_
  refine lv_if_lt hx hb d_M_good_1 rfl (fun h1 => ?_) (fun h1 => ?_)
  · refine lv_iconst (v := nI 0) hx hb d_M_good_10 (by decide) ?_
    exact x_reti hQ hx hb hr hlk (by first | exact nar_bz | decide) hw (by omega) (by omega) d_M_good_11 (⟨by first | (rw [ix_lt h1]; decide) | (rw [ix_gt h7]; decide), rfl⟩)
  · refine x_iload_n hx hb d_M_good_4 hl rfl ?_
    refine lv_bipush (v := nI 124) hx hb d_M_good_5 (by decide) ?_
    refine lv_icmp_le hx hb d_M_good_7 rfl (fun h7 => ?_) (fun h7 => ?_)
    · obtain ⟨k, hk, rfl⟩ := nI_of2 (M := nI 124) (n := 124) (by decide) h1 h7
      refine x_iload_n hx hb d_M_good_12 hl rfl ?_
      refine lv_iconst (v := nI 5) hx hb d_M_good_13 (by decide) ?_
      refine x_idiv hx hb d_M_good_14 (by omega) (by omega) (by omega) ?_
      refine lv_iconst (v := nI 5) hx hb d_M_good_15 (by decide) ?_
      refine x_irem hx hb d_M_good_16 (by omega) (by omega) (by omega) ?_
      refine x_if_le hx hb d_M_good_17 rfl (by omega) (fun h17 => ?_) (fun h17 => ?_)
      · refine lv_iconst (v := nI 0) hx hb d_M_good_24 (by decide) ?_
        refine x_istore_n hx hb d_M_good_25 hl (Nat.le_of_ble_eq_true rfl) (lh_k (i := 0) rfl (by first | exact lk_n | exact lk_i | exact lk_r | exact lk_q | exact lk_0)) (fun ls hl => ?_)
        refine x_iload_n hx hb d_M_good_26 hl rfl ?_
        refine lv_iconst (v := nI 5) hx hb d_M_good_27 (by decide) ?_
        refine x_irem hx hb d_M_good_28 (by omega) (by omega) (by omega) ?_
        refine x_if_gt hx hb d_M_good_29 rfl (by omega) (fun h29 => ?_) (fun h29 => ?_)
        · refine x_iload_n hx hb d_M_good_36 hl rfl ?_
          refine x_if_ne hx hb d_M_good_37 rfl (by omega) (fun h37 => ?_) (fun h37 => ?_)
          · refine lv_iconst (v := nI 1) hx hb d_M_good_45 (by decide) ?_
            refine lv_goto hx hb d_M_good_46 rfl ?_
            exact x_reti hQ hx hb hr hlk (by first | exact nar_bz | decide) hw (by omega) (by omega) d_M_good_50 (⟨by rw [ix_n (by omega)]; first | exact bz_t (pgb_t.mpr (by unfold pg; omega)) | exact bz_f (fun z => by have z := pgb_t.mp z; unfold pg at z; omega), rfl⟩)
          · refine x_iload_n hx hb d_M_good_40 hl rfl ?_
            refine lv_iconst (v := nI 5) hx hb d_M_good_41 (by decide) ?_
            refine x_icmp_ge hx hb d_M_good_42 rfl (by omega) (by omega) (fun h42 => ?_) (fun h42 => ?_)
            · refine lv_iconst (v := nI 0) hx hb d_M_good_49 (by decide) ?_
              exact x_reti hQ hx hb hr hlk (by first | exact nar_bz | decide) hw (by omega) (by omega) d_M_good_50 (⟨by rw [ix_n (by omega)]; first | exact bz_t (pgb_t.mpr (by unfold pg; omega)) | exact bz_f (fun z => by have z := pgb_t.mp z; unfold pg at z; omega), rfl⟩)
            · refine lv_iconst (v := nI 1) hx hb d_M_good_45 (by decide) ?_
              refine lv_goto hx hb d_M_good_46 rfl ?_
              exact x_reti hQ hx hb hr hlk (by first | exact nar_bz | decide) hw (by omega) (by omega) d_M_good_50 (⟨by rw [ix_n (by omega)]; first | exact bz_t (pgb_t.mpr (by unfold pg; omega)) | exact bz_f (fun z => by have z := pgb_t.mp z; unfold pg at z; omega), rfl⟩)
        · refine x_iload_n hx hb d_M_good_32 hl rfl ?_
          refine x_if_ne hx hb d_M_good_33 rfl (by omega) (fun h33 => ?_) (fun h33 => ?_)
          · refine lv_iconst (v := nI 0) hx hb d_M_good_49 (by decide) ?_
            exact x_reti hQ hx hb hr hlk (by first | exact nar_bz | decide) hw (by omega) (by omega) d_M_good_50 (⟨by rw [ix_n (by omega)]; first | exact bz_t (pgb_t.mpr (by unfold pg; omega)) | exact bz_f (fun z => by have z := pgb_t.mp z; unfold pg at z; omega), rfl⟩)
          · refine x_iload_n hx hb d_M_good_36 hl rfl ?_
            refine x_if_ne hx hb d_M_good_37 rfl (by omega) (fun h37 => ?_) (fun h37 => ?_)
            · refine lv_iconst (v := nI 1) hx hb d_M_good_45 (by decide) ?_
              refine lv_goto hx hb d_M_good_46 rfl ?_
              exact x_reti hQ hx hb hr hlk (by first | exact nar_bz | decide) hw (by omega) (by omega) d_M_good_50 (⟨by rw [ix_n (by omega)]; first | exact bz_t (pgb_t.mpr (by unfold pg; omega)) | exact bz_f (fun z => by have z := pgb_t.mp z; unfold pg at z; omega), rfl⟩)
            · refine x_iload_n hx hb d_M_good_40 hl rfl ?_
              refine lv_iconst (v := nI 5) hx hb d_M_good_41 (by decide) ?_
              refine x_icmp_ge hx hb d_M_good_42 rfl (by omega) (by omega) (fun h42 => ?_) (fun h42 => ?_)
              · refine lv_iconst (v := nI 0) hx hb d_M_good_49 (by decide) ?_
                exact x_reti hQ hx hb hr hlk (by first | exact nar_bz | decide) hw (by omega) (by omega) d_M_good_50 (⟨by rw [ix_n (by omega)]; first | exact bz_t (pgb_t.mpr (by unfold pg; omega)) | exact bz_f (fun z => by have z := pgb_t.mp z; unfold pg at z; omega), rfl⟩)
              · refine lv_iconst (v := nI 1) hx hb d_M_good_45 (by decide) ?_
                refine lv_goto hx hb d_M_good_46 rfl ?_
                exact x_reti hQ hx hb hr hlk (by first | exact nar_bz | decide) hw (by omega) (by omega) d_M_good_50 (⟨by rw [ix_n (by omega)]; first | exact bz_t (pgb_t.mpr (by unfold pg; omega)) | exact bz_f (fun z => by have z := pgb_t.mp z; unfold pg at z; omega), rfl⟩)
      · refine lv_iconst (v := nI 1) hx hb d_M_good_20 (by decide) ?_
        refine lv_goto hx hb d_M_good_21 rfl ?_
        refine x_istore_n hx hb d_M_good_25 hl (Nat.le_of_ble_eq_true rfl) (lh_k (i := 0) rfl (by first | exact lk_n | exact lk_i | exact lk_r | exact lk_q | exact lk_0)) (fun ls hl => ?_)
        refine x_iload_n hx hb d_M_good_26 hl rfl ?_
        refine lv_iconst (v := nI 5) hx hb d_M_good_27 (by decide) ?_
        refine x_irem hx hb d_M_good_28 (by omega) (by omega) (by omega) ?_
        refine x_if_gt hx hb d_M_good_29 rfl (by omega) (fun h29 => ?_) (fun h29 => ?_)
        · refine x_iload_n hx hb d_M_good_36 hl rfl ?_
          refine x_if_ne hx hb d_M_good_37 rfl (by omega) (fun h37 => ?_) (fun h37 => ?_)
          · refine lv_iconst (v := nI 1) hx hb d_M_good_45 (by decide) ?_
            refine lv_goto hx hb d_M_good_46 rfl ?_
            exact x_reti hQ hx hb hr hlk (by first | exact nar_bz | decide) hw (by omega) (by omega) d_M_good_50 (⟨by rw [ix_n (by omega)]; first | exact bz_t (pgb_t.mpr (by unfold pg; omega)) | exact bz_f (fun z => by have z := pgb_t.mp z; unfold pg at z; omega), rfl⟩)
          · refine x_iload_n hx hb d_M_good_40 hl rfl ?_
            refine lv_iconst (v := nI 5) hx hb d_M_good_41 (by decide) ?_
            refine x_icmp_ge hx hb d_M_good_42 rfl (by omega) (by omega) (fun h42 => ?_) (fun h42 => ?_)
            · refine lv_iconst (v := nI 0) hx hb d_M_good_49 (by decide) ?_
              exact x_reti hQ hx hb hr hlk (by first | exact nar_bz | decide) hw (by omega) (by omega) d_M_good_50 (⟨by rw [ix_n (by omega)]; first | exact bz_t (pgb_t.mpr (by unfold pg; omega)) | exact bz_f (fun z => by have z := pgb_t.mp z; unfold pg at z; omega), rfl⟩)
            · refine lv_iconst (v := nI 1) hx hb d_M_good_45 (by decide) ?_
              refine lv_goto hx hb d_M_good_46 rfl ?_
              exact x_reti hQ hx hb hr hlk (by first | exact nar_bz | decide) hw (by omega) (by omega) d_M_good_50 (⟨by rw [ix_n (by omega)]; first | exact bz_t (pgb_t.mpr (by unfold pg; omega)) | exact bz_f (fun z => by have z := pgb_t.mp z; unfold pg at z; omega), rfl⟩)
        · refine x_iload_n hx hb d_M_good_32 hl rfl ?_
          refine x_if_ne hx hb d_M_good_33 rfl (by omega) (fun h33 => ?_) (fun h33 => ?_)
          · refine lv_iconst (v := nI 0) hx hb d_M_good_49 (by decide) ?_
            exact x_reti hQ hx hb hr hlk (by first | exact nar_bz | decide) hw (by omega) (by omega) d_M_good_50 (⟨by rw [ix_n (by omega)]; first | exact bz_t (pgb_t.mpr (by unfold pg; omega)) | exact bz_f (fun z => by have z := pgb_t.mp z; unfold pg at z; omega), rfl⟩)
          · refine x_iload_n hx hb d_M_good_36 hl rfl ?_
            refine x_if_ne hx hb d_M_good_37 rfl (by omega) (fun h37 => ?_) (fun h37 => ?_)
            · refine lv_iconst (v := nI 1) hx hb d_M_good_45 (by decide) ?_
              refine lv_goto hx hb d_M_good_46 rfl ?_
              exact x_reti hQ hx hb hr hlk (by first | exact nar_bz | decide) hw (by omega) (by omega) d_M_good_50 (⟨by rw [ix_n (by omega)]; first | exact bz_t (pgb_t.mpr (by unfold pg; omega)) | exact bz_f (fun z => by have z := pgb_t.mp z; unfold pg at z; omega), rfl⟩)
            · refine x_iload_n hx hb d_M_good_40 hl rfl ?_
              refine lv_iconst (v := nI 5) hx hb d_M_good_41 (by decide) ?_
              refine x_icmp_ge hx hb d_M_good_42 rfl (by omega) (by omega) (fun h42 => ?_) (fun h42 => ?_)
              · refine lv_iconst (v := nI 0) hx hb d_M_good_49 (by decide) ?_
                exact x_reti hQ hx hb hr hlk (by first | exact nar_bz | decide) hw (by omega) (by omega) d_M_good_50 (⟨by rw [ix_n (by omega)]; first | exact bz_t (pgb_t.mpr (by unfold pg; omega)) | exact bz_f (fun z => by have z := pgb_t.mp z; unfold pg at z; omega), rfl⟩)
              · refine lv_iconst (v := nI 1) hx hb d_M_good_45 (by decide) ?_
                refine lv_goto hx hb d_M_good_46 rfl ?_
                exact x_reti hQ hx hb hr hlk (by first | exact nar_bz | decide) hw (by omega) (by omega) d_M_good_50 (⟨by rw [ix_n (by omega)]; first | exact bz_t (pgb_t.mpr (by unfold pg; omega)) | exact bz_f (fun z => by have z := pgb_t.mp z; unfold pg at z; omega), rfl⟩)
    · refine lv_iconst (v := nI 0) hx hb d_M_good_10 (by decide) ?_
      exact x_reti hQ hx hb hr hlk (by first | exact nar_bz | decide) hw (by omega) (by omega) d_M_good_11 (⟨by first | (rw [ix_lt h1]; decide) | (rw [ix_gt h7]; decide), rfl⟩)

set_option maxHeartbeats 4000000 in
set_option maxRecDepth 100000 in
theorem c_M_parent {l : Launch} {E : Ev} {M : mp_M} {sz : Nat} {n : Nat} (h0 : 0 < n) (hn : n < 2 ^ 31) : MCi l E y_M_parent prog_10_method_5_code 1 (some .int) 1 20 0 0 [.int (nI n)] M sz (fun r M' => r = nI (pp n) ∧ M' = M) := by
  refine mc_of R_M rfl [some (.int (nI n))] (by decide) (Nat.le_of_ble_eq_true rfl) rfl ?_
  intro p e R s m ag below meth c ls Q A X hAe hQ hR hsz hw hl
  rw [← hAe] at hQ
  obtain ⟨⟨hx, hb, hml, hown, hts⟩, hE, hA, hr, hlk, hnm⟩ := X
  have hK := hE.1
  refine x_iload_n hx hb d_M_parent_0 hl rfl ?_
  refine x_iload_n hx hb d_M_parent_1 hl rfl ?_
  refine m_calli (k_S ⟨hx, hb, hml, hown, hts⟩ hE hA hw (c_M_depth (by omega)) (wm3 171 rfl rfl) (wm3 172 rfl rfl) (wm1 9 rfl rfl) (wm3 173 rfl rfl) rfl rfl ar_M_depth ⟨Nat.le_trans (Nat.le_of_ble_eq_true rfl) hR.1, Nat.le_trans (Nat.le_of_ble_eq_true rfl) hR.2.1⟩ rfl hl.1 rfl (Nat.le_of_ble_eq_true rfl) d_M_parent_2 ⟨Nat.le_trans (Nat.le_of_ble_eq_true rfl) hR.2.2.1, Nat.le_trans (Nat.le_of_ble_eq_true rfl) hR.2.2.2⟩) hw (mfr_in hw hA) (fun r2 M2 H locs hP2 hw => ?_)
  obtain ⟨rfl, hM2⟩ := hP2
  rw [hM2] at hw
  have hd1 := pd_pos h0
  have hd3 := pd_le n
  refine lv_iconst (v := nI 1) hx hb d_M_parent_5 (by decide) ?_
  refine x_isub hx hb d_M_parent_6 (by omega) ?_
  refine m_calli (k_S ⟨hx, hb, hml, hown, hts⟩ hE hA hw (c_M_unit (by omega)) (wm3 174 rfl rfl) (wm3 175 rfl rfl) (wm1 9 rfl rfl) (wm3 176 rfl rfl) rfl rfl ar_M_unit ⟨Nat.le_trans (Nat.le_of_ble_eq_true rfl) hR.1, Nat.le_trans (Nat.le_of_ble_eq_true rfl) hR.2.1⟩ rfl hl.1 rfl (Nat.le_of_ble_eq_true rfl) d_M_parent_7 ⟨Nat.le_trans (Nat.le_of_ble_eq_true rfl) hR.2.2.1, Nat.le_trans (Nat.le_of_ble_eq_true rfl) hR.2.2.2⟩) hw (mfr_in hw hA) (fun r7 M7 H locs hP7 hw => ?_)
  obtain ⟨rfl, hM7⟩ := hP7
  rw [hM7] at hw
  have hu := pu_lt (pd n - 1)
  refine x_irem hx hb d_M_parent_10 (by omega) (by omega) (by omega) ?_
  exact x_reti hQ hx hb hr hlk rfl hw (by omega) (by omega) d_M_parent_11 (⟨rfl, rfl⟩)

set_option maxHeartbeats 4000000 in
set_option maxRecDepth 100000 in
theorem c_M_under {l : Launch} {E : Ev} {M : mp_M} {sz : Nat} {w n : Nat} (hw1 : w < 2 ^ 31) (hn : n < 2 ^ 31) : MCi l E y_M_under prog_10_method_6_code 2 (some .boolean) 1 20 0 0 [.int (nI w), .int (nI n)] M sz (fun r M' => r = bz (pun w n) ∧ M' = M) := by
  refine mc_of R_M rfl [some (.int (nI w)), some (.int (nI n))] (by decide) (Nat.le_of_ble_eq_true rfl) rfl ?_
  intro p e R s m ag below meth c ls Q A X hAe hQ hR hsz hw hl
  rw [← hAe] at hQ
  obtain ⟨⟨hx, hb, hml, hown, hts⟩, hE, hA, hr, hlk, hnm⟩ := X
  have hK := hE.1
  refine x_iload_n hx hb d_M_under_0 hl rfl ?_
  refine x_iload_n hx hb d_M_under_1 hl rfl ?_
  refine m_calli (k_S ⟨hx, hb, hml, hown, hts⟩ hE hA hw (c_M_depth (by omega)) (wm3 171 rfl rfl) (wm3 172 rfl rfl) (wm1 9 rfl rfl) (wm3 173 rfl rfl) rfl rfl ar_M_depth ⟨Nat.le_trans (Nat.le_of_ble_eq_true rfl) hR.1, Nat.le_trans (Nat.le_of_ble_eq_true rfl) hR.2.1⟩ rfl hl.1 rfl (Nat.le_of_ble_eq_true rfl) d_M_under_2 ⟨Nat.le_trans (Nat.le_of_ble_eq_true rfl) hR.2.2.1, Nat.le_trans (Nat.le_of_ble_eq_true rfl) hR.2.2.2⟩) hw (mfr_in hw hA) (fun r2 M2 H locs hP2 hw => ?_)
  obtain ⟨rfl, hM2⟩ := hP2
  rw [hM2] at hw
  have hd3 := pd_le n
  refine m_calli (k_S ⟨hx, hb, hml, hown, hts⟩ hE hA hw (c_M_unit (by omega)) (wm3 174 rfl rfl) (wm3 175 rfl rfl) (wm1 9 rfl rfl) (wm3 176 rfl rfl) rfl rfl ar_M_unit ⟨Nat.le_trans (Nat.le_of_ble_eq_true rfl) hR.1, Nat.le_trans (Nat.le_of_ble_eq_true rfl) hR.2.1⟩ rfl hl.1 rfl (Nat.le_of_ble_eq_true rfl) d_M_under_5 ⟨Nat.le_trans (Nat.le_of_ble_eq_true rfl) hR.2.2.1, Nat.le_trans (Nat.le_of_ble_eq_true rfl) hR.2.2.2⟩) hw (mfr_in hw hA) (fun r5 M5 H locs hP5 hw => ?_)
  obtain ⟨rfl, hM5⟩ := hP5
  rw [hM5] at hw
  have hu := pu_lt (pd n)
  refine x_irem hx hb d_M_under_8 (by omega) (by omega) (by omega) ?_
  refine x_iload_n hx hb d_M_under_9 hl rfl ?_
  have hm := Nat.mod_lt w hu.1
  refine x_icmp_ne hx hb d_M_under_10 rfl (by omega) (by omega) (fun h10 => ?_) (fun h10 => ?_)
  · refine lv_iconst (v := nI 0) hx hb d_M_under_17 (by decide) ?_
    exact x_reti hQ hx hb hr hlk (by first | exact nar_bz | decide) hw (by omega) (by omega) d_M_under_18 (⟨by first | exact bz_t (beq_iff_eq.mpr h10) | exact bz_f (fun z => h10 (beq_iff_eq.mp z)), rfl⟩)
  · refine lv_iconst (v := nI 1) hx hb d_M_under_13 (by decide) ?_
    refine lv_goto hx hb d_M_under_14 rfl ?_
    exact x_reti hQ hx hb hr hlk (by first | exact nar_bz | decide) hw (by omega) (by omega) d_M_under_18 (⟨by first | exact bz_t (beq_iff_eq.mpr h10) | exact bz_f (fun z => h10 (beq_iff_eq.mp z)), rfl⟩)

set_option maxHeartbeats 4000000 in
set_option maxRecDepth 100000 in
theorem c_M_moved {l : Launch} {E : Ev} {M : mp_M} {sz : Nat} {w f g : Nat} (hw1 : w < 125) (hf : f < 125) (hg : g < 125) (hd : pd f ≤ pd g + pd w) : MCi l E y_M_moved prog_10_method_18_code 4 (some .int) 1 20 0 0 [.int (nI w), .int (nI f), .int (nI g)] M sz (fun r M' => r = (if 3 < pd g + pd w - pd f then -1 else nI (pm w f g)) ∧ M' = M) := by
  refine mc_of R_M rfl [some (.int (nI w)), some (.int (nI f)), some (.int (nI g)), none] (by decide) (Nat.le_of_ble_eq_true rfl) rfl ?_
  intro p e R s m ag below meth c ls Q A X hAe hQ hR hsz hw hl
  rw [← hAe] at hQ
  obtain ⟨⟨hx, hb, hml, hown, hts⟩, hE, hA, hr, hlk, hnm⟩ := X
  have hK := hE.1
  refine x_iload_n hx hb d_M_moved_0 hl rfl ?_
  refine m_calli (k_S ⟨hx, hb, hml, hown, hts⟩ hE hA hw (c_M_depth (by omega)) (wm3 171 rfl rfl) (wm3 172 rfl rfl) (wm1 9 rfl rfl) (wm3 173 rfl rfl) rfl rfl ar_M_depth ⟨Nat.le_trans (Nat.le_of_ble_eq_true rfl) hR.1, Nat.le_trans (Nat.le_of_ble_eq_true rfl) hR.2.1⟩ rfl hl.1 rfl (Nat.le_of_ble_eq_true rfl) d_M_moved_1 ⟨Nat.le_trans (Nat.le_of_ble_eq_true rfl) hR.2.2.1, Nat.le_trans (Nat.le_of_ble_eq_true rfl) hR.2.2.2⟩) hw (mfr_in hw hA) (fun r1 M1 H locs hP1 hw => ?_)
  obtain ⟨rfl, hM1⟩ := hP1
  rw [hM1] at hw
  refine x_iload_n hx hb d_M_moved_4 hl rfl ?_
  refine m_calli (k_S ⟨hx, hb, hml, hown, hts⟩ hE hA hw (c_M_depth (by omega)) (wm3 171 rfl rfl) (wm3 172 rfl rfl) (wm1 9 rfl rfl) (wm3 173 rfl rfl) rfl rfl ar_M_depth ⟨Nat.le_trans (Nat.le_of_ble_eq_true rfl) hR.1, Nat.le_trans (Nat.le_of_ble_eq_true rfl) hR.2.1⟩ rfl hl.1 rfl (Nat.le_of_ble_eq_true rfl) d_M_moved_5 ⟨Nat.le_trans (Nat.le_of_ble_eq_true rfl) hR.2.2.1, Nat.le_trans (Nat.le_of_ble_eq_true rfl) hR.2.2.2⟩) hw (mfr_in hw hA) (fun r5 M5 H locs hP5 hw => ?_)
  obtain ⟨rfl, hM5⟩ := hP5
  rw [hM5] at hw
  first | refine x_iadd hx hb d_M_moved_8 ?_ | refine lv_iadd hx hb d_M_moved_8 ?_
  refine x_iload_n hx hb d_M_moved_9 hl rfl ?_
  refine m_calli (k_S ⟨hx, hb, hml, hown, hts⟩ hE hA hw (c_M_depth (by omega)) (wm3 171 rfl rfl) (wm3 172 rfl rfl) (wm1 9 rfl rfl) (wm3 173 rfl rfl) rfl rfl ar_M_depth ⟨Nat.le_trans (Nat.le_of_ble_eq_true rfl) hR.1, Nat.le_trans (Nat.le_of_ble_eq_true rfl) hR.2.1⟩ rfl hl.1 rfl (Nat.le_of_ble_eq_true rfl) d_M_moved_10 ⟨Nat.le_trans (Nat.le_of_ble_eq_true rfl) hR.2.2.1, Nat.le_trans (Nat.le_of_ble_eq_true rfl) hR.2.2.2⟩) hw (mfr_in hw hA) (fun r10 M10 H locs hP10 hw => ?_)
  obtain ⟨rfl, hM10⟩ := hP10
  rw [hM10] at hw
  refine x_isub hx hb d_M_moved_13 (by omega) ?_
  refine x_istore_n hx hb d_M_moved_14 hl (Nat.le_of_ble_eq_true rfl) (lh_k (i := 2) rfl (by first | exact lk_n | exact lk_i | exact lk_r | exact lk_q | exact lk_0)) (fun ls hl => ?_)
  have d1 := pd_le g
  have d2 := pd_le w
  have d3 := pd_le f
  refine x_iload_n hx hb d_M_moved_15 hl rfl ?_
  refine lv_iconst (v := nI 3) hx hb d_M_moved_16 (by decide) ?_
  refine x_icmp_le hx hb d_M_moved_17 rfl (by omega) (by omega) (fun h17 => ?_) (fun h17 => ?_)
  · refine x_iload_n hx hb d_M_moved_24 hl rfl ?_
    refine x_iload_n hx hb d_M_moved_25 hl rfl ?_
    refine x_iload_n hx hb d_M_moved_26 hl rfl ?_
    refine m_calli (k_S ⟨hx, hb, hml, hown, hts⟩ hE hA hw (c_M_depth (by omega)) (wm3 171 rfl rfl) (wm3 172 rfl rfl) (wm1 9 rfl rfl) (wm3 173 rfl rfl) rfl rfl ar_M_depth ⟨Nat.le_trans (Nat.le_of_ble_eq_true rfl) hR.1, Nat.le_trans (Nat.le_of_ble_eq_true rfl) hR.2.1⟩ rfl hl.1 rfl (Nat.le_of_ble_eq_true rfl) d_M_moved_27 ⟨Nat.le_trans (Nat.le_of_ble_eq_true rfl) hR.2.2.1, Nat.le_trans (Nat.le_of_ble_eq_true rfl) hR.2.2.2⟩) hw (mfr_in hw hA) (fun r27 M27 H locs hP27 hw => ?_)
    obtain ⟨rfl, hM27⟩ := hP27
    rw [hM27] at hw
    refine m_calli (k_S ⟨hx, hb, hml, hown, hts⟩ hE hA hw (c_M_unit (by omega)) (wm3 174 rfl rfl) (wm3 175 rfl rfl) (wm1 9 rfl rfl) (wm3 176 rfl rfl) rfl rfl ar_M_unit ⟨Nat.le_trans (Nat.le_of_ble_eq_true rfl) hR.1, Nat.le_trans (Nat.le_of_ble_eq_true rfl) hR.2.1⟩ rfl hl.1 rfl (Nat.le_of_ble_eq_true rfl) d_M_moved_30 ⟨Nat.le_trans (Nat.le_of_ble_eq_true rfl) hR.2.2.1, Nat.le_trans (Nat.le_of_ble_eq_true rfl) hR.2.2.2⟩) hw (mfr_in hw hA) (fun r30 M30 H locs hP30 hw => ?_)
    obtain ⟨rfl, hM30⟩ := hP30
    rw [hM30] at hw
    have hu := pu_lt (pd f)
    refine x_idiv hx hb d_M_moved_33 (by omega) (by omega) (by omega) ?_
    refine x_iload_n hx hb d_M_moved_34 hl rfl ?_
    refine m_calli (k_S ⟨hx, hb, hml, hown, hts⟩ hE hA hw (c_M_depth (by omega)) (wm3 171 rfl rfl) (wm3 172 rfl rfl) (wm1 9 rfl rfl) (wm3 173 rfl rfl) rfl rfl ar_M_depth ⟨Nat.le_trans (Nat.le_of_ble_eq_true rfl) hR.1, Nat.le_trans (Nat.le_of_ble_eq_true rfl) hR.2.1⟩ rfl hl.1 rfl (Nat.le_of_ble_eq_true rfl) d_M_moved_35 ⟨Nat.le_trans (Nat.le_of_ble_eq_true rfl) hR.2.2.1, Nat.le_trans (Nat.le_of_ble_eq_true rfl) hR.2.2.2⟩) hw (mfr_in hw hA) (fun r35 M35 H locs hP35 hw => ?_)
    obtain ⟨rfl, hM35⟩ := hP35
    rw [hM35] at hw
    refine m_calli (k_S ⟨hx, hb, hml, hown, hts⟩ hE hA hw (c_M_unit (by omega)) (wm3 174 rfl rfl) (wm3 175 rfl rfl) (wm1 9 rfl rfl) (wm3 176 rfl rfl) rfl rfl ar_M_unit ⟨Nat.le_trans (Nat.le_of_ble_eq_true rfl) hR.1, Nat.le_trans (Nat.le_of_ble_eq_true rfl) hR.2.1⟩ rfl hl.1 rfl (Nat.le_of_ble_eq_true rfl) d_M_moved_38 ⟨Nat.le_trans (Nat.le_of_ble_eq_true rfl) hR.2.2.1, Nat.le_trans (Nat.le_of_ble_eq_true rfl) hR.2.2.2⟩) hw (mfr_in hw hA) (fun r38 M38 H locs hP38 hw => ?_)
    obtain ⟨rfl, hM38⟩ := hP38
    rw [hM38] at hw
    first | refine x_imul hx hb d_M_moved_41 ?_ | refine lv_imul hx hb d_M_moved_41 ?_
    first | refine x_iadd hx hb d_M_moved_42 ?_ | refine lv_iadd hx hb d_M_moved_42 ?_
    exact x_reti hQ hx hb hr hlk rfl hw (by omega) (by omega) d_M_moved_43 (⟨by first | (rw [if_pos (by omega)]) | (rw [if_neg (by omega)]; rfl), rfl⟩)
  · refine lv_iconst (v := -1) hx hb d_M_moved_20 (by decide) ?_
    refine lv_goto hx hb d_M_moved_21 rfl ?_
    exact x_reti hQ hx hb hr hlk rfl hw (by omega) (by omega) d_M_moved_43 (⟨by first | (rw [if_pos (by omega)]) | (rw [if_neg (by omega)]; rfl), rfl⟩)
