theorem d_P_isGood_0 : decode prog_4_method_2_code 0 = .ok (.iload_n 0, 1) := by decide +kernel
theorem d_P_isGood_1 : decode prog_4_method_2_code 1 = .ok (.ifCond .lt 9, 3) := by decide +kernel
theorem d_P_isGood_4 : decode prog_4_method_2_code 4 = .ok (.iload_n 0, 1) := by decide +kernel
theorem d_P_isGood_5 : decode prog_4_method_2_code 5 = .ok (.bipush 125, 2) := by decide +kernel
theorem d_P_isGood_7 : decode prog_4_method_2_code 7 = .ok (.if_icmp .lt 5, 3) := by decide +kernel
theorem d_P_isGood_10 : decode prog_4_method_2_code 10 = .ok (.iconst 0, 1) := by decide +kernel
theorem d_P_isGood_11 : decode prog_4_method_2_code 11 = .ok (.ireturn, 1) := by decide +kernel
theorem d_P_isGood_12 : decode prog_4_method_2_code 12 = .ok (.iload_n 0, 1) := by decide +kernel
theorem d_P_isGood_13 : decode prog_4_method_2_code 13 = .ok (.iconst 5, 1) := by decide +kernel
theorem d_P_isGood_14 : decode prog_4_method_2_code 14 = .ok (.irem, 1) := by decide +kernel
theorem d_P_isGood_15 : decode prog_4_method_2_code 15 = .ok (.ifCond .eq 7, 3) := by decide +kernel
theorem d_P_isGood_18 : decode prog_4_method_2_code 18 = .ok (.iconst 1, 1) := by decide +kernel
theorem d_P_isGood_19 : decode prog_4_method_2_code 19 = .ok (.goto 4, 3) := by decide +kernel
theorem d_P_isGood_22 : decode prog_4_method_2_code 22 = .ok (.iconst 0, 1) := by decide +kernel
theorem d_P_isGood_23 : decode prog_4_method_2_code 23 = .ok (.istore_n 1, 1) := by decide +kernel
theorem d_P_isGood_24 : decode prog_4_method_2_code 24 = .ok (.iload_n 0, 1) := by decide +kernel
theorem d_P_isGood_25 : decode prog_4_method_2_code 25 = .ok (.iconst 5, 1) := by decide +kernel
theorem d_P_isGood_26 : decode prog_4_method_2_code 26 = .ok (.idiv, 1) := by decide +kernel
theorem d_P_isGood_27 : decode prog_4_method_2_code 27 = .ok (.iconst 5, 1) := by decide +kernel
theorem d_P_isGood_28 : decode prog_4_method_2_code 28 = .ok (.irem, 1) := by decide +kernel
theorem d_P_isGood_29 : decode prog_4_method_2_code 29 = .ok (.ifCond .eq 7, 3) := by decide +kernel
theorem d_P_isGood_32 : decode prog_4_method_2_code 32 = .ok (.iconst 1, 1) := by decide +kernel
theorem d_P_isGood_33 : decode prog_4_method_2_code 33 = .ok (.goto 4, 3) := by decide +kernel
theorem d_P_isGood_36 : decode prog_4_method_2_code 36 = .ok (.iconst 0, 1) := by decide +kernel
theorem d_P_isGood_37 : decode prog_4_method_2_code 37 = .ok (.istore_n 2, 1) := by decide +kernel
theorem d_P_isGood_38 : decode prog_4_method_2_code 38 = .ok (.iload_n 0, 1) := by decide +kernel
theorem d_P_isGood_39 : decode prog_4_method_2_code 39 = .ok (.bipush 25, 2) := by decide +kernel
theorem d_P_isGood_41 : decode prog_4_method_2_code 41 = .ok (.idiv, 1) := by decide +kernel
theorem d_P_isGood_42 : decode prog_4_method_2_code 42 = .ok (.ifCond .eq 7, 3) := by decide +kernel
theorem d_P_isGood_45 : decode prog_4_method_2_code 45 = .ok (.iconst 1, 1) := by decide +kernel
theorem d_P_isGood_46 : decode prog_4_method_2_code 46 = .ok (.goto 4, 3) := by decide +kernel
theorem d_P_isGood_49 : decode prog_4_method_2_code 49 = .ok (.iconst 0, 1) := by decide +kernel
theorem d_P_isGood_50 : decode prog_4_method_2_code 50 = .ok (.istore_n 3, 1) := by decide +kernel
theorem d_P_isGood_51 : decode prog_4_method_2_code 51 = .ok (.iload_n 1, 1) := by decide +kernel
theorem d_P_isGood_52 : decode prog_4_method_2_code 52 = .ok (.ifCond .ne 7, 3) := by decide +kernel
theorem d_P_isGood_55 : decode prog_4_method_2_code 55 = .ok (.iload_n 2, 1) := by decide +kernel
theorem d_P_isGood_56 : decode prog_4_method_2_code 56 = .ok (.ifCond .ne 15, 3) := by decide +kernel
theorem d_P_isGood_59 : decode prog_4_method_2_code 59 = .ok (.iload_n 2, 1) := by decide +kernel
theorem d_P_isGood_60 : decode prog_4_method_2_code 60 = .ok (.ifCond .ne 7, 3) := by decide +kernel
theorem d_P_isGood_63 : decode prog_4_method_2_code 63 = .ok (.iload_n 3, 1) := by decide +kernel
theorem d_P_isGood_64 : decode prog_4_method_2_code 64 = .ok (.ifCond .ne 7, 3) := by decide +kernel
theorem d_P_isGood_67 : decode prog_4_method_2_code 67 = .ok (.iconst 1, 1) := by decide +kernel
theorem d_P_isGood_68 : decode prog_4_method_2_code 68 = .ok (.goto 4, 3) := by decide +kernel
theorem d_P_isGood_71 : decode prog_4_method_2_code 71 = .ok (.iconst 0, 1) := by decide +kernel
theorem d_P_isGood_72 : decode prog_4_method_2_code 72 = .ok (.ireturn, 1) := by decide +kernel

theorem d_P_depthOf_0 : decode prog_4_method_3_code 0 = .ok (.iload_n 0, 1) := by decide +kernel
theorem d_P_depthOf_1 : decode prog_4_method_3_code 1 = .ok (.ifCond .gt 5, 3) := by decide +kernel
theorem d_P_depthOf_4 : decode prog_4_method_3_code 4 = .ok (.iconst 0, 1) := by decide +kernel
theorem d_P_depthOf_5 : decode prog_4_method_3_code 5 = .ok (.ireturn, 1) := by decide +kernel
theorem d_P_depthOf_6 : decode prog_4_method_3_code 6 = .ok (.iload_n 0, 1) := by decide +kernel
theorem d_P_depthOf_7 : decode prog_4_method_3_code 7 = .ok (.iconst 5, 1) := by decide +kernel
theorem d_P_depthOf_8 : decode prog_4_method_3_code 8 = .ok (.if_icmp .ge 5, 3) := by decide +kernel
theorem d_P_depthOf_11 : decode prog_4_method_3_code 11 = .ok (.iconst 1, 1) := by decide +kernel
theorem d_P_depthOf_12 : decode prog_4_method_3_code 12 = .ok (.ireturn, 1) := by decide +kernel
theorem d_P_depthOf_13 : decode prog_4_method_3_code 13 = .ok (.iload_n 0, 1) := by decide +kernel
theorem d_P_depthOf_14 : decode prog_4_method_3_code 14 = .ok (.bipush 25, 2) := by decide +kernel
theorem d_P_depthOf_16 : decode prog_4_method_3_code 16 = .ok (.if_icmp .ge 7, 3) := by decide +kernel
theorem d_P_depthOf_19 : decode prog_4_method_3_code 19 = .ok (.iconst 2, 1) := by decide +kernel
theorem d_P_depthOf_20 : decode prog_4_method_3_code 20 = .ok (.goto 4, 3) := by decide +kernel
theorem d_P_depthOf_23 : decode prog_4_method_3_code 23 = .ok (.iconst 3, 1) := by decide +kernel
theorem d_P_depthOf_24 : decode prog_4_method_3_code 24 = .ok (.ireturn, 1) := by decide +kernel

theorem d_P_weightAt_0 : decode prog_4_method_4_code 0 = .ok (.iload_n 0, 1) := by decide +kernel
theorem d_P_weightAt_1 : decode prog_4_method_4_code 1 = .ok (.tableswitch 34 0 2 #[27, 29, 31], 27) := by decide +kernel
theorem d_P_weightAt_28 : decode prog_4_method_4_code 28 = .ok (.iconst 1, 1) := by decide +kernel
theorem d_P_weightAt_29 : decode prog_4_method_4_code 29 = .ok (.ireturn, 1) := by decide +kernel
theorem d_P_weightAt_30 : decode prog_4_method_4_code 30 = .ok (.iconst 5, 1) := by decide +kernel
theorem d_P_weightAt_31 : decode prog_4_method_4_code 31 = .ok (.ireturn, 1) := by decide +kernel
theorem d_P_weightAt_32 : decode prog_4_method_4_code 32 = .ok (.bipush 25, 2) := by decide +kernel
theorem d_P_weightAt_34 : decode prog_4_method_4_code 34 = .ok (.ireturn, 1) := by decide +kernel
theorem d_P_weightAt_35 : decode prog_4_method_4_code 35 = .ok (.bipush 125, 2) := by decide +kernel
theorem d_P_weightAt_37 : decode prog_4_method_4_code 37 = .ok (.ireturn, 1) := by decide +kernel

theorem d_P_parentOf_0 : decode prog_4_method_5_code 0 = .ok (.iload_n 0, 1) := by decide +kernel
theorem d_P_parentOf_1 : decode prog_4_method_5_code 1 = .ok (.ifCond .gt 7, 3) := by decide +kernel
theorem d_P_parentOf_4 : decode prog_4_method_5_code 4 = .ok (.iconst 0, 1) := by decide +kernel
theorem d_P_parentOf_5 : decode prog_4_method_5_code 5 = .ok (.goto 14, 3) := by decide +kernel
theorem d_P_parentOf_8 : decode prog_4_method_5_code 8 = .ok (.iload_n 0, 1) := by decide +kernel
theorem d_P_parentOf_9 : decode prog_4_method_5_code 9 = .ok (.iload_n 0, 1) := by decide +kernel
theorem d_P_parentOf_10 : decode prog_4_method_5_code 10 = .ok (.invokestatic 9, 3) := by decide +kernel
theorem d_P_parentOf_13 : decode prog_4_method_5_code 13 = .ok (.iconst 1, 1) := by decide +kernel
theorem d_P_parentOf_14 : decode prog_4_method_5_code 14 = .ok (.isub, 1) := by decide +kernel
theorem d_P_parentOf_15 : decode prog_4_method_5_code 15 = .ok (.invokestatic 13, 3) := by decide +kernel
theorem d_P_parentOf_18 : decode prog_4_method_5_code 18 = .ok (.irem, 1) := by decide +kernel
theorem d_P_parentOf_19 : decode prog_4_method_5_code 19 = .ok (.ireturn, 1) := by decide +kernel

theorem d_P_namesBelow_0 : decode prog_4_method_6_code 0 = .ok (.iload_n 0, 1) := by decide +kernel
theorem d_P_namesBelow_1 : decode prog_4_method_6_code 1 = .ok (.invokestatic 9, 3) := by decide +kernel
theorem d_P_namesBelow_4 : decode prog_4_method_6_code 4 = .ok (.iconst 3, 1) := by decide +kernel
theorem d_P_namesBelow_5 : decode prog_4_method_6_code 5 = .ok (.if_icmp .ge 7, 3) := by decide +kernel
theorem d_P_namesBelow_8 : decode prog_4_method_6_code 8 = .ok (.iconst 4, 1) := by decide +kernel
theorem d_P_namesBelow_9 : decode prog_4_method_6_code 9 = .ok (.goto 4, 3) := by decide +kernel
theorem d_P_namesBelow_12 : decode prog_4_method_6_code 12 = .ok (.iconst 0, 1) := by decide +kernel
theorem d_P_namesBelow_13 : decode prog_4_method_6_code 13 = .ok (.ireturn, 1) := by decide +kernel

theorem d_P_childOf_0 : decode prog_4_method_7_code 0 = .ok (.iload_n 0, 1) := by decide +kernel
theorem d_P_childOf_1 : decode prog_4_method_7_code 1 = .ok (.iload_n 1, 1) := by decide +kernel
theorem d_P_childOf_2 : decode prog_4_method_7_code 2 = .ok (.iload_n 0, 1) := by decide +kernel
theorem d_P_childOf_3 : decode prog_4_method_7_code 3 = .ok (.invokestatic 9, 3) := by decide +kernel
theorem d_P_childOf_6 : decode prog_4_method_7_code 6 = .ok (.invokestatic 13, 3) := by decide +kernel
theorem d_P_childOf_9 : decode prog_4_method_7_code 9 = .ok (.imul, 1) := by decide +kernel
theorem d_P_childOf_10 : decode prog_4_method_7_code 10 = .ok (.iadd, 1) := by decide +kernel
theorem d_P_childOf_11 : decode prog_4_method_7_code 11 = .ok (.ireturn, 1) := by decide +kernel

theorem d_P_isAtOrBelow_0 : decode prog_4_method_8_code 0 = .ok (.iload_n 0, 1) := by decide +kernel
theorem d_P_isAtOrBelow_1 : decode prog_4_method_8_code 1 = .ok (.invokestatic 9, 3) := by decide +kernel
theorem d_P_isAtOrBelow_4 : decode prog_4_method_8_code 4 = .ok (.iload_n 1, 1) := by decide +kernel
theorem d_P_isAtOrBelow_5 : decode prog_4_method_8_code 5 = .ok (.invokestatic 9, 3) := by decide +kernel
theorem d_P_isAtOrBelow_8 : decode prog_4_method_8_code 8 = .ok (.if_icmp .lt 20, 3) := by decide +kernel
theorem d_P_isAtOrBelow_11 : decode prog_4_method_8_code 11 = .ok (.iload_n 0, 1) := by decide +kernel
theorem d_P_isAtOrBelow_12 : decode prog_4_method_8_code 12 = .ok (.iload_n 1, 1) := by decide +kernel
theorem d_P_isAtOrBelow_13 : decode prog_4_method_8_code 13 = .ok (.invokestatic 9, 3) := by decide +kernel
theorem d_P_isAtOrBelow_16 : decode prog_4_method_8_code 16 = .ok (.invokestatic 13, 3) := by decide +kernel
theorem d_P_isAtOrBelow_19 : decode prog_4_method_8_code 19 = .ok (.irem, 1) := by decide +kernel
theorem d_P_isAtOrBelow_20 : decode prog_4_method_8_code 20 = .ok (.iload_n 1, 1) := by decide +kernel
theorem d_P_isAtOrBelow_21 : decode prog_4_method_8_code 21 = .ok (.if_icmp .ne 7, 3) := by decide +kernel
theorem d_P_isAtOrBelow_24 : decode prog_4_method_8_code 24 = .ok (.iconst 1, 1) := by decide +kernel
theorem d_P_isAtOrBelow_25 : decode prog_4_method_8_code 25 = .ok (.goto 4, 3) := by decide +kernel
theorem d_P_isAtOrBelow_28 : decode prog_4_method_8_code 28 = .ok (.iconst 0, 1) := by decide +kernel
theorem d_P_isAtOrBelow_29 : decode prog_4_method_8_code 29 = .ok (.ireturn, 1) := by decide +kernel

theorem d_P_moved_0 : decode prog_4_method_9_code 0 = .ok (.iload_n 2, 1) := by decide +kernel
theorem d_P_moved_1 : decode prog_4_method_9_code 1 = .ok (.iload_n 0, 1) := by decide +kernel
theorem d_P_moved_2 : decode prog_4_method_9_code 2 = .ok (.iload_n 1, 1) := by decide +kernel
theorem d_P_moved_3 : decode prog_4_method_9_code 3 = .ok (.invokestatic 9, 3) := by decide +kernel
theorem d_P_moved_6 : decode prog_4_method_9_code 6 = .ok (.invokestatic 13, 3) := by decide +kernel
theorem d_P_moved_9 : decode prog_4_method_9_code 9 = .ok (.idiv, 1) := by decide +kernel
theorem d_P_moved_10 : decode prog_4_method_9_code 10 = .ok (.iload_n 2, 1) := by decide +kernel
theorem d_P_moved_11 : decode prog_4_method_9_code 11 = .ok (.invokestatic 9, 3) := by decide +kernel
theorem d_P_moved_14 : decode prog_4_method_9_code 14 = .ok (.invokestatic 13, 3) := by decide +kernel
theorem d_P_moved_17 : decode prog_4_method_9_code 17 = .ok (.imul, 1) := by decide +kernel
theorem d_P_moved_18 : decode prog_4_method_9_code 18 = .ok (.iadd, 1) := by decide +kernel
theorem d_P_moved_19 : decode prog_4_method_9_code 19 = .ok (.ireturn, 1) := by decide +kernel
set_option maxHeartbeats 4000000 in
set_option maxRecDepth 100000 in
theorem c_P_good {l : Launch} {E : Ev} {M : mp_M} {sz : Nat} {x : Int32} : MCi l E y_P_isGood prog_4_method_2_code 4 (some .boolean) 0 0 0 0 [.int x] M sz (fun r M' => r = bz (pgb (ix x)) ∧ M' = M) := by
  refine mc_of R_P rfl [some (.int x), none, none, none] (by decide) (Nat.le_of_ble_eq_true rfl) rfl ?_
  intro p e R s m ag below meth c ls Q A X hAe hQ hR hsz hw hl
  rw [← hAe] at hQ
  obtain ⟨⟨hx, hb, hml, hown, hts⟩, hE, hA, hr, hlk, hnm⟩ := X
  have hK := hE.1
  refine x_iload_n hx hb d_P_isGood_0 hl rfl ?_
  refine lv_if_lt hx hb d_P_isGood_1 rfl (fun h1 => ?_) (fun h1 => ?_)
  · refine lv_iconst (v := nI 0) hx hb d_P_isGood_10 (by decide) ?_
    exact x_reti hQ hx hb hr hlk (by first | exact nar_bz | decide) hw (by omega) (by omega) d_P_isGood_11 (⟨by first | (rw [ix_lt h1]; decide) | (rw [ix_ge h7]; decide), rfl⟩)
  · refine x_iload_n hx hb d_P_isGood_4 hl rfl ?_
    refine lv_bipush (v := nI 125) hx hb d_P_isGood_5 (by decide) ?_
    refine lv_icmp_lt hx hb d_P_isGood_7 rfl (fun h7 => ?_) (fun h7 => ?_)
    · obtain ⟨k, hk, rfl⟩ := nI_of3 (M := nI 125) (n := 125) (by decide) h1 h7
      refine x_iload_n hx hb d_P_isGood_12 hl rfl ?_
      refine lv_iconst (v := nI 5) hx hb d_P_isGood_13 (by decide) ?_
      refine x_irem hx hb d_P_isGood_14 (by omega) (by omega) (by omega) ?_
      refine x_if_eq hx hb d_P_isGood_15 rfl (by omega) (fun h15 => ?_) (fun h15 => ?_)
      · refine lv_iconst (v := nI 0) hx hb d_P_isGood_22 (by decide) ?_
        refine x_istore_n hx hb d_P_isGood_23 hl (Nat.le_of_ble_eq_true rfl) (lh_k (i := 0) rfl (by first | exact lk_n | exact lk_i | exact lk_r | exact lk_q | exact lk_0)) (fun ls hl => ?_)
        refine x_iload_n hx hb d_P_isGood_24 hl rfl ?_
        refine lv_iconst (v := nI 5) hx hb d_P_isGood_25 (by decide) ?_
        refine x_idiv hx hb d_P_isGood_26 (by omega) (by omega) (by omega) ?_
        refine lv_iconst (v := nI 5) hx hb d_P_isGood_27 (by decide) ?_
        refine x_irem hx hb d_P_isGood_28 (by omega) (by omega) (by omega) ?_
        refine x_if_eq hx hb d_P_isGood_29 rfl (by omega) (fun h29 => ?_) (fun h29 => ?_)
        · refine lv_iconst (v := nI 0) hx hb d_P_isGood_36 (by decide) ?_
          refine x_istore_n hx hb d_P_isGood_37 hl (Nat.le_of_ble_eq_true rfl) (lh_k (i := 1) rfl (by first | exact lk_n | exact lk_i | exact lk_r | exact lk_q | exact lk_0)) (fun ls hl => ?_)
          refine x_iload_n hx hb d_P_isGood_38 hl rfl ?_
          refine lv_bipush (v := nI 25) hx hb d_P_isGood_39 (by decide) ?_
          refine x_idiv hx hb d_P_isGood_41 (by omega) (by omega) (by omega) ?_
          refine x_if_eq hx hb d_P_isGood_42 rfl (by omega) (fun h42 => ?_) (fun h42 => ?_)
          · refine lv_iconst (v := nI 0) hx hb d_P_isGood_49 (by decide) ?_
            refine x_istore_n hx hb d_P_isGood_50 hl (Nat.le_of_ble_eq_true rfl) (lh_k (i := 2) rfl (by first | exact lk_n | exact lk_i | exact lk_r | exact lk_q | exact lk_0)) (fun ls hl => ?_)
            refine x_iload_n hx hb d_P_isGood_51 hl rfl ?_
            refine x_if_ne hx hb d_P_isGood_52 rfl (by omega) (fun h52 => ?_) (fun h52 => ?_)
            · refine x_iload_n hx hb d_P_isGood_59 hl rfl ?_
              refine x_if_ne hx hb d_P_isGood_60 rfl (by omega) (fun h60 => ?_) (fun h60 => ?_)
              · refine lv_iconst (v := nI 1) hx hb d_P_isGood_67 (by decide) ?_
                refine lv_goto hx hb d_P_isGood_68 rfl ?_
                exact x_reti hQ hx hb hr hlk (by first | exact nar_bz | decide) hw (by omega) (by omega) d_P_isGood_72 (⟨by rw [ix_n (by omega)]; first | exact bz_t (pgb_t.mpr (by unfold pg; omega)) | exact bz_f (fun z => by have z := pgb_t.mp z; unfold pg at z; omega), rfl⟩)
              · refine x_iload_n hx hb d_P_isGood_63 hl rfl ?_
                refine x_if_ne hx hb d_P_isGood_64 rfl (by omega) (fun h64 => ?_) (fun h64 => ?_)
                · refine lv_iconst (v := nI 0) hx hb d_P_isGood_71 (by decide) ?_
                  exact x_reti hQ hx hb hr hlk (by first | exact nar_bz | decide) hw (by omega) (by omega) d_P_isGood_72 (⟨by rw [ix_n (by omega)]; first | exact bz_t (pgb_t.mpr (by unfold pg; omega)) | exact bz_f (fun z => by have z := pgb_t.mp z; unfold pg at z; omega), rfl⟩)
                · refine lv_iconst (v := nI 1) hx hb d_P_isGood_67 (by decide) ?_
                  refine lv_goto hx hb d_P_isGood_68 rfl ?_
                  exact x_reti hQ hx hb hr hlk (by first | exact nar_bz | decide) hw (by omega) (by omega) d_P_isGood_72 (⟨by rw [ix_n (by omega)]; first | exact bz_t (pgb_t.mpr (by unfold pg; omega)) | exact bz_f (fun z => by have z := pgb_t.mp z; unfold pg at z; omega), rfl⟩)
            · refine x_iload_n hx hb d_P_isGood_55 hl rfl ?_
              refine x_if_ne hx hb d_P_isGood_56 rfl (by omega) (fun h56 => ?_) (fun h56 => ?_)
              · refine lv_iconst (v := nI 0) hx hb d_P_isGood_71 (by decide) ?_
                exact x_reti hQ hx hb hr hlk (by first | exact nar_bz | decide) hw (by omega) (by omega) d_P_isGood_72 (⟨by rw [ix_n (by omega)]; first | exact bz_t (pgb_t.mpr (by unfold pg; omega)) | exact bz_f (fun z => by have z := pgb_t.mp z; unfold pg at z; omega), rfl⟩)
              · refine x_iload_n hx hb d_P_isGood_59 hl rfl ?_
                refine x_if_ne hx hb d_P_isGood_60 rfl (by omega) (fun h60 => ?_) (fun h60 => ?_)
                · refine lv_iconst (v := nI 1) hx hb d_P_isGood_67 (by decide) ?_
                  refine lv_goto hx hb d_P_isGood_68 rfl ?_
                  exact x_reti hQ hx hb hr hlk (by first | exact nar_bz | decide) hw (by omega) (by omega) d_P_isGood_72 (⟨by rw [ix_n (by omega)]; first | exact bz_t (pgb_t.mpr (by unfold pg; omega)) | exact bz_f (fun z => by have z := pgb_t.mp z; unfold pg at z; omega), rfl⟩)
                · refine x_iload_n hx hb d_P_isGood_63 hl rfl ?_
                  refine x_if_ne hx hb d_P_isGood_64 rfl (by omega) (fun h64 => ?_) (fun h64 => ?_)
                  · refine lv_iconst (v := nI 0) hx hb d_P_isGood_71 (by decide) ?_
                    exact x_reti hQ hx hb hr hlk (by first | exact nar_bz | decide) hw (by omega) (by omega) d_P_isGood_72 (⟨by rw [ix_n (by omega)]; first | exact bz_t (pgb_t.mpr (by unfold pg; omega)) | exact bz_f (fun z => by have z := pgb_t.mp z; unfold pg at z; omega), rfl⟩)
                  · refine lv_iconst (v := nI 1) hx hb d_P_isGood_67 (by decide) ?_
                    refine lv_goto hx hb d_P_isGood_68 rfl ?_
                    exact x_reti hQ hx hb hr hlk (by first | exact nar_bz | decide) hw (by omega) (by omega) d_P_isGood_72 (⟨by rw [ix_n (by omega)]; first | exact bz_t (pgb_t.mpr (by unfold pg; omega)) | exact bz_f (fun z => by have z := pgb_t.mp z; unfold pg at z; omega), rfl⟩)
          · refine lv_iconst (v := nI 1) hx hb d_P_isGood_45 (by decide) ?_
            refine lv_goto hx hb d_P_isGood_46 rfl ?_
            refine x_istore_n hx hb d_P_isGood_50 hl (Nat.le_of_ble_eq_true rfl) (lh_k (i := 2) rfl (by first | exact lk_n | exact lk_i | exact lk_r | exact lk_q | exact lk_0)) (fun ls hl => ?_)
            refine x_iload_n hx hb d_P_isGood_51 hl rfl ?_
            refine x_if_ne hx hb d_P_isGood_52 rfl (by omega) (fun h52 => ?_) (fun h52 => ?_)
            · refine x_iload_n hx hb d_P_isGood_59 hl rfl ?_
              refine x_if_ne hx hb d_P_isGood_60 rfl (by omega) (fun h60 => ?_) (fun h60 => ?_)
              · refine lv_iconst (v := nI 1) hx hb d_P_isGood_67 (by decide) ?_
                refine lv_goto hx hb d_P_isGood_68 rfl ?_
                exact x_reti hQ hx hb hr hlk (by first | exact nar_bz | decide) hw (by omega) (by omega) d_P_isGood_72 (⟨by rw [ix_n (by omega)]; first | exact bz_t (pgb_t.mpr (by unfold pg; omega)) | exact bz_f (fun z => by have z := pgb_t.mp z; unfold pg at z; omega), rfl⟩)
              · refine x_iload_n hx hb d_P_isGood_63 hl rfl ?_
                refine x_if_ne hx hb d_P_isGood_64 rfl (by omega) (fun h64 => ?_) (fun h64 => ?_)
                · refine lv_iconst (v := nI 0) hx hb d_P_isGood_71 (by decide) ?_
                  exact x_reti hQ hx hb hr hlk (by first | exact nar_bz | decide) hw (by omega) (by omega) d_P_isGood_72 (⟨by rw [ix_n (by omega)]; first | exact bz_t (pgb_t.mpr (by unfold pg; omega)) | exact bz_f (fun z => by have z := pgb_t.mp z; unfold pg at z; omega), rfl⟩)
                · refine lv_iconst (v := nI 1) hx hb d_P_isGood_67 (by decide) ?_
                  refine lv_goto hx hb d_P_isGood_68 rfl ?_
                  exact x_reti hQ hx hb hr hlk (by first | exact nar_bz | decide) hw (by omega) (by omega) d_P_isGood_72 (⟨by rw [ix_n (by omega)]; first | exact bz_t (pgb_t.mpr (by unfold pg; omega)) | exact bz_f (fun z => by have z := pgb_t.mp z; unfold pg at z; omega), rfl⟩)
            · refine x_iload_n hx hb d_P_isGood_55 hl rfl ?_
              refine x_if_ne hx hb d_P_isGood_56 rfl (by omega) (fun h56 => ?_) (fun h56 => ?_)
              · refine lv_iconst (v := nI 0) hx hb d_P_isGood_71 (by decide) ?_
                exact x_reti hQ hx hb hr hlk (by first | exact nar_bz | decide) hw (by omega) (by omega) d_P_isGood_72 (⟨by rw [ix_n (by omega)]; first | exact bz_t (pgb_t.mpr (by unfold pg; omega)) | exact bz_f (fun z => by have z := pgb_t.mp z; unfold pg at z; omega), rfl⟩)
              · refine x_iload_n hx hb d_P_isGood_59 hl rfl ?_
                refine x_if_ne hx hb d_P_isGood_60 rfl (by omega) (fun h60 => ?_) (fun h60 => ?_)
                · refine lv_iconst (v := nI 1) hx hb d_P_isGood_67 (by decide) ?_
                  refine lv_goto hx hb d_P_isGood_68 rfl ?_
                  exact x_reti hQ hx hb hr hlk (by first | exact nar_bz | decide) hw (by omega) (by omega) d_P_isGood_72 (⟨by rw [ix_n (by omega)]; first | exact bz_t (pgb_t.mpr (by unfold pg; omega)) | exact bz_f (fun z => by have z := pgb_t.mp z; unfold pg at z; omega), rfl⟩)
                · refine x_iload_n hx hb d_P_isGood_63 hl rfl ?_
                  refine x_if_ne hx hb d_P_isGood_64 rfl (by omega) (fun h64 => ?_) (fun h64 => ?_)
                  · refine lv_iconst (v := nI 0) hx hb d_P_isGood_71 (by decide) ?_
                    exact x_reti hQ hx hb hr hlk (by first | exact nar_bz | decide) hw (by omega) (by omega) d_P_isGood_72 (⟨by rw [ix_n (by omega)]; first | exact bz_t (pgb_t.mpr (by unfold pg; omega)) | exact bz_f (fun z => by have z := pgb_t.mp z; unfold pg at z; omega), rfl⟩)
                  · refine lv_iconst (v := nI 1) hx hb d_P_isGood_67 (by decide) ?_
                    refine lv_goto hx hb d_P_isGood_68 rfl ?_
                    exact x_reti hQ hx hb hr hlk (by first | exact nar_bz | decide) hw (by omega) (by omega) d_P_isGood_72 (⟨by rw [ix_n (by omega)]; first | exact bz_t (pgb_t.mpr (by unfold pg; omega)) | exact bz_f (fun z => by have z := pgb_t.mp z; unfold pg at z; omega), rfl⟩)
        · refine lv_iconst (v := nI 1) hx hb d_P_isGood_32 (by decide) ?_
          refine lv_goto hx hb d_P_isGood_33 rfl ?_
          refine x_istore_n hx hb d_P_isGood_37 hl (Nat.le_of_ble_eq_true rfl) (lh_k (i := 1) rfl (by first | exact lk_n | exact lk_i | exact lk_r | exact lk_q | exact lk_0)) (fun ls hl => ?_)
          refine x_iload_n hx hb d_P_isGood_38 hl rfl ?_
          refine lv_bipush (v := nI 25) hx hb d_P_isGood_39 (by decide) ?_
          refine x_idiv hx hb d_P_isGood_41 (by omega) (by omega) (by omega) ?_
          refine x_if_eq hx hb d_P_isGood_42 rfl (by omega) (fun h42 => ?_) (fun h42 => ?_)
          · refine lv_iconst (v := nI 0) hx hb d_P_isGood_49 (by decide) ?_
            refine x_istore_n hx hb d_P_isGood_50 hl (Nat.le_of_ble_eq_true rfl) (lh_k (i := 2) rfl (by first | exact lk_n | exact lk_i | exact lk_r | exact lk_q | exact lk_0)) (fun ls hl => ?_)
            refine x_iload_n hx hb d_P_isGood_51 hl rfl ?_
            refine x_if_ne hx hb d_P_isGood_52 rfl (by omega) (fun h52 => ?_) (fun h52 => ?_)
            · refine x_iload_n hx hb d_P_isGood_59 hl rfl ?_
              refine x_if_ne hx hb d_P_isGood_60 rfl (by omega) (fun h60 => ?_) (fun h60 => ?_)
              · refine lv_iconst (v := nI 1) hx hb d_P_isGood_67 (by decide) ?_
                refine lv_goto hx hb d_P_isGood_68 rfl ?_
                exact x_reti hQ hx hb hr hlk (by first | exact nar_bz | decide) hw (by omega) (by omega) d_P_isGood_72 (⟨by rw [ix_n (by omega)]; first | exact bz_t (pgb_t.mpr (by unfold pg; omega)) | exact bz_f (fun z => by have z := pgb_t.mp z; unfold pg at z; omega), rfl⟩)
              · refine x_iload_n hx hb d_P_isGood_63 hl rfl ?_
                refine x_if_ne hx hb d_P_isGood_64 rfl (by omega) (fun h64 => ?_) (fun h64 => ?_)
                · refine lv_iconst (v := nI 0) hx hb d_P_isGood_71 (by decide) ?_
                  exact x_reti hQ hx hb hr hlk (by first | exact nar_bz | decide) hw (by omega) (by omega) d_P_isGood_72 (⟨by rw [ix_n (by omega)]; first | exact bz_t (pgb_t.mpr (by unfold pg; omega)) | exact bz_f (fun z => by have z := pgb_t.mp z; unfold pg at z; omega), rfl⟩)
                · refine lv_iconst (v := nI 1) hx hb d_P_isGood_67 (by decide) ?_
                  refine lv_goto hx hb d_P_isGood_68 rfl ?_
                  exact x_reti hQ hx hb hr hlk (by first | exact nar_bz | decide) hw (by omega) (by omega) d_P_isGood_72 (⟨by rw [ix_n (by omega)]; first | exact bz_t (pgb_t.mpr (by unfold pg; omega)) | exact bz_f (fun z => by have z := pgb_t.mp z; unfold pg at z; omega), rfl⟩)
            · refine x_iload_n hx hb d_P_isGood_55 hl rfl ?_
              refine x_if_ne hx hb d_P_isGood_56 rfl (by omega) (fun h56 => ?_) (fun h56 => ?_)
              · refine lv_iconst (v := nI 0) hx hb d_P_isGood_71 (by decide) ?_
                exact x_reti hQ hx hb hr hlk (by first | exact nar_bz | decide) hw (by omega) (by omega) d_P_isGood_72 (⟨by rw [ix_n (by omega)]; first | exact bz_t (pgb_t.mpr (by unfold pg; omega)) | exact bz_f (fun z => by have z := pgb_t.mp z; unfold pg at z; omega), rfl⟩)
              · refine x_iload_n hx hb d_P_isGood_59 hl rfl ?_
                refine x_if_ne hx hb d_P_isGood_60 rfl (by omega) (fun h60 => ?_) (fun h60 => ?_)
                · refine lv_iconst (v := nI 1) hx hb d_P_isGood_67 (by decide) ?_
                  refine lv_goto hx hb d_P_isGood_68 rfl ?_
                  exact x_reti hQ hx hb hr hlk (by first | exact nar_bz | decide) hw (by omega) (by omega) d_P_isGood_72 (⟨by rw [ix_n (by omega)]; first | exact bz_t (pgb_t.mpr (by unfold pg; omega)) | exact bz_f (fun z => by have z := pgb_t.mp z; unfold pg at z; omega), rfl⟩)
                · refine x_iload_n hx hb d_P_isGood_63 hl rfl ?_
                  refine x_if_ne hx hb d_P_isGood_64 rfl (by omega) (fun h64 => ?_) (fun h64 => ?_)
                  · refine lv_iconst (v := nI 0) hx hb d_P_isGood_71 (by decide) ?_
                    exact x_reti hQ hx hb hr hlk (by first | exact nar_bz | decide) hw (by omega) (by omega) d_P_isGood_72 (⟨by rw [ix_n (by omega)]; first | exact bz_t (pgb_t.mpr (by unfold pg; omega)) | exact bz_f (fun z => by have z := pgb_t.mp z; unfold pg at z; omega), rfl⟩)
                  · refine lv_iconst (v := nI 1) hx hb d_P_isGood_67 (by decide) ?_
                    refine lv_goto hx hb d_P_isGood_68 rfl ?_
                    exact x_reti hQ hx hb hr hlk (by first | exact nar_bz | decide) hw (by omega) (by omega) d_P_isGood_72 (⟨by rw [ix_n (by omega)]; first | exact bz_t (pgb_t.mpr (by unfold pg; omega)) | exact bz_f (fun z => by have z := pgb_t.mp z; unfold pg at z; omega), rfl⟩)
          · refine lv_iconst (v := nI 1) hx hb d_P_isGood_45 (by decide) ?_
            refine lv_goto hx hb d_P_isGood_46 rfl ?_
            refine x_istore_n hx hb d_P_isGood_50 hl (Nat.le_of_ble_eq_true rfl) (lh_k (i := 2) rfl (by first | exact lk_n | exact lk_i | exact lk_r | exact lk_q | exact lk_0)) (fun ls hl => ?_)
            refine x_iload_n hx hb d_P_isGood_51 hl rfl ?_
            refine x_if_ne hx hb d_P_isGood_52 rfl (by omega) (fun h52 => ?_) (fun h52 => ?_)
            · refine x_iload_n hx hb d_P_isGood_59 hl rfl ?_
              refine x_if_ne hx hb d_P_isGood_60 rfl (by omega) (fun h60 => ?_) (fun h60 => ?_)
              · refine lv_iconst (v := nI 1) hx hb d_P_isGood_67 (by decide) ?_
                refine lv_goto hx hb d_P_isGood_68 rfl ?_
                exact x_reti hQ hx hb hr hlk (by first | exact nar_bz | decide) hw (by omega) (by omega) d_P_isGood_72 (⟨by rw [ix_n (by omega)]; first | exact bz_t (pgb_t.mpr (by unfold pg; omega)) | exact bz_f (fun z => by have z := pgb_t.mp z; unfold pg at z; omega), rfl⟩)
              · refine x_iload_n hx hb d_P_isGood_63 hl rfl ?_
                refine x_if_ne hx hb d_P_isGood_64 rfl (by omega) (fun h64 => ?_) (fun h64 => ?_)
                · refine lv_iconst (v := nI 0) hx hb d_P_isGood_71 (by decide) ?_
                  exact x_reti hQ hx hb hr hlk (by first | exact nar_bz | decide) hw (by omega) (by omega) d_P_isGood_72 (⟨by rw [ix_n (by omega)]; first | exact bz_t (pgb_t.mpr (by unfold pg; omega)) | exact bz_f (fun z => by have z := pgb_t.mp z; unfold pg at z; omega), rfl⟩)
                · refine lv_iconst (v := nI 1) hx hb d_P_isGood_67 (by decide) ?_
                  refine lv_goto hx hb d_P_isGood_68 rfl ?_
                  exact x_reti hQ hx hb hr hlk (by first | exact nar_bz | decide) hw (by omega) (by omega) d_P_isGood_72 (⟨by rw [ix_n (by omega)]; first | exact bz_t (pgb_t.mpr (by unfold pg; omega)) | exact bz_f (fun z => by have z := pgb_t.mp z; unfold pg at z; omega), rfl⟩)
            · refine x_iload_n hx hb d_P_isGood_55 hl rfl ?_
              refine x_if_ne hx hb d_P_isGood_56 rfl (by omega) (fun h56 => ?_) (fun h56 => ?_)
              · refine lv_iconst (v := nI 0) hx hb d_P_isGood_71 (by decide) ?_
                exact x_reti hQ hx hb hr hlk (by first | exact nar_bz | decide) hw (by omega) (by omega) d_P_isGood_72 (⟨by rw [ix_n (by omega)]; first | exact bz_t (pgb_t.mpr (by unfold pg; omega)) | exact bz_f (fun z => by have z := pgb_t.mp z; unfold pg at z; omega), rfl⟩)
              · refine x_iload_n hx hb d_P_isGood_59 hl rfl ?_
                refine x_if_ne hx hb d_P_isGood_60 rfl (by omega) (fun h60 => ?_) (fun h60 => ?_)
                · refine lv_iconst (v := nI 1) hx hb d_P_isGood_67 (by decide) ?_
                  refine lv_goto hx hb d_P_isGood_68 rfl ?_
                  exact x_reti hQ hx hb hr hlk (by first | exact nar_bz | decide) hw (by omega) (by omega) d_P_isGood_72 (⟨by rw [ix_n (by omega)]; first | exact bz_t (pgb_t.mpr (by unfold pg; omega)) | exact bz_f (fun z => by have z := pgb_t.mp z; unfold pg at z; omega), rfl⟩)
                · refine x_iload_n hx hb d_P_isGood_63 hl rfl ?_
                  refine x_if_ne hx hb d_P_isGood_64 rfl (by omega) (fun h64 => ?_) (fun h64 => ?_)
                  · refine lv_iconst (v := nI 0) hx hb d_P_isGood_71 (by decide) ?_
                    exact x_reti hQ hx hb hr hlk (by first | exact nar_bz | decide) hw (by omega) (by omega) d_P_isGood_72 (⟨by rw [ix_n (by omega)]; first | exact bz_t (pgb_t.mpr (by unfold pg; omega)) | exact bz_f (fun z => by have z := pgb_t.mp z; unfold pg at z; omega), rfl⟩)
                  · refine lv_iconst (v := nI 1) hx hb d_P_isGood_67 (by decide) ?_
                    refine lv_goto hx hb d_P_isGood_68 rfl ?_
                    exact x_reti hQ hx hb hr hlk (by first | exact nar_bz | decide) hw (by omega) (by omega) d_P_isGood_72 (⟨by rw [ix_n (by omega)]; first | exact bz_t (pgb_t.mpr (by unfold pg; omega)) | exact bz_f (fun z => by have z := pgb_t.mp z; unfold pg at z; omega), rfl⟩)
      · refine lv_iconst (v := nI 1) hx hb d_P_isGood_18 (by decide) ?_
        refine lv_goto hx hb d_P_isGood_19 rfl ?_
        refine x_istore_n hx hb d_P_isGood_23 hl (Nat.le_of_ble_eq_true rfl) (lh_k (i := 0) rfl (by first | exact lk_n | exact lk_i | exact lk_r | exact lk_q | exact lk_0)) (fun ls hl => ?_)
        refine x_iload_n hx hb d_P_isGood_24 hl rfl ?_
        refine lv_iconst (v := nI 5) hx hb d_P_isGood_25 (by decide) ?_
        refine x_idiv hx hb d_P_isGood_26 (by omega) (by omega) (by omega) ?_
        refine lv_iconst (v := nI 5) hx hb d_P_isGood_27 (by decide) ?_
        refine x_irem hx hb d_P_isGood_28 (by omega) (by omega) (by omega) ?_
        refine x_if_eq hx hb d_P_isGood_29 rfl (by omega) (fun h29 => ?_) (fun h29 => ?_)
        · refine lv_iconst (v := nI 0) hx hb d_P_isGood_36 (by decide) ?_
          refine x_istore_n hx hb d_P_isGood_37 hl (Nat.le_of_ble_eq_true rfl) (lh_k (i := 1) rfl (by first | exact lk_n | exact lk_i | exact lk_r | exact lk_q | exact lk_0)) (fun ls hl => ?_)
          refine x_iload_n hx hb d_P_isGood_38 hl rfl ?_
          refine lv_bipush (v := nI 25) hx hb d_P_isGood_39 (by decide) ?_
          refine x_idiv hx hb d_P_isGood_41 (by omega) (by omega) (by omega) ?_
          refine x_if_eq hx hb d_P_isGood_42 rfl (by omega) (fun h42 => ?_) (fun h42 => ?_)
          · refine lv_iconst (v := nI 0) hx hb d_P_isGood_49 (by decide) ?_
            refine x_istore_n hx hb d_P_isGood_50 hl (Nat.le_of_ble_eq_true rfl) (lh_k (i := 2) rfl (by first | exact lk_n | exact lk_i | exact lk_r | exact lk_q | exact lk_0)) (fun ls hl => ?_)
            refine x_iload_n hx hb d_P_isGood_51 hl rfl ?_
            refine x_if_ne hx hb d_P_isGood_52 rfl (by omega) (fun h52 => ?_) (fun h52 => ?_)
            · refine x_iload_n hx hb d_P_isGood_59 hl rfl ?_
              refine x_if_ne hx hb d_P_isGood_60 rfl (by omega) (fun h60 => ?_) (fun h60 => ?_)
              · refine lv_iconst (v := nI 1) hx hb d_P_isGood_67 (by decide) ?_
                refine lv_goto hx hb d_P_isGood_68 rfl ?_
                exact x_reti hQ hx hb hr hlk (by first | exact nar_bz | decide) hw (by omega) (by omega) d_P_isGood_72 (⟨by rw [ix_n (by omega)]; first | exact bz_t (pgb_t.mpr (by unfold pg; omega)) | exact bz_f (fun z => by have z := pgb_t.mp z; unfold pg at z; omega), rfl⟩)
              · refine x_iload_n hx hb d_P_isGood_63 hl rfl ?_
                refine x_if_ne hx hb d_P_isGood_64 rfl (by omega) (fun h64 => ?_) (fun h64 => ?_)
                · refine lv_iconst (v := nI 0) hx hb d_P_isGood_71 (by decide) ?_
                  exact x_reti hQ hx hb hr hlk (by first | exact nar_bz | decide) hw (by omega) (by omega) d_P_isGood_72 (⟨by rw [ix_n (by omega)]; first | exact bz_t (pgb_t.mpr (by unfold pg; omega)) | exact bz_f (fun z => by have z := pgb_t.mp z; unfold pg at z; omega), rfl⟩)
                · refine lv_iconst (v := nI 1) hx hb d_P_isGood_67 (by decide) ?_
                  refine lv_goto hx hb d_P_isGood_68 rfl ?_
                  exact x_reti hQ hx hb hr hlk (by first | exact nar_bz | decide) hw (by omega) (by omega) d_P_isGood_72 (⟨by rw [ix_n (by omega)]; first | exact bz_t (pgb_t.mpr (by unfold pg; omega)) | exact bz_f (fun z => by have z := pgb_t.mp z; unfold pg at z; omega), rfl⟩)
            · refine x_iload_n hx hb d_P_isGood_55 hl rfl ?_
              refine x_if_ne hx hb d_P_isGood_56 rfl (by omega) (fun h56 => ?_) (fun h56 => ?_)
              · refine lv_iconst (v := nI 0) hx hb d_P_isGood_71 (by decide) ?_
                exact x_reti hQ hx hb hr hlk (by first | exact nar_bz | decide) hw (by omega) (by omega) d_P_isGood_72 (⟨by rw [ix_n (by omega)]; first | exact bz_t (pgb_t.mpr (by unfold pg; omega)) | exact bz_f (fun z => by have z := pgb_t.mp z; unfold pg at z; omega), rfl⟩)
              · refine x_iload_n hx hb d_P_isGood_59 hl rfl ?_
                refine x_if_ne hx hb d_P_isGood_60 rfl (by omega) (fun h60 => ?_) (fun h60 => ?_)
                · refine lv_iconst (v := nI 1) hx hb d_P_isGood_67 (by decide) ?_
                  refine lv_goto hx hb d_P_isGood_68 rfl ?_
                  exact x_reti hQ hx hb hr hlk (by first | exact nar_bz | decide) hw (by omega) (by omega) d_P_isGood_72 (⟨by rw [ix_n (by omega)]; first | exact bz_t (pgb_t.mpr (by unfold pg; omega)) | exact bz_f (fun z => by have z := pgb_t.mp z; unfold pg at z; omega), rfl⟩)
                · refine x_iload_n hx hb d_P_isGood_63 hl rfl ?_
                  refine x_if_ne hx hb d_P_isGood_64 rfl (by omega) (fun h64 => ?_) (fun h64 => ?_)
                  · refine lv_iconst (v := nI 0) hx hb d_P_isGood_71 (by decide) ?_
                    exact x_reti hQ hx hb hr hlk (by first | exact nar_bz | decide) hw (by omega) (by omega) d_P_isGood_72 (⟨by rw [ix_n (by omega)]; first | exact bz_t (pgb_t.mpr (by unfold pg; omega)) | exact bz_f (fun z => by have z := pgb_t.mp z; unfold pg at z; omega), rfl⟩)
                  · refine lv_iconst (v := nI 1) hx hb d_P_isGood_67 (by decide) ?_
                    refine lv_goto hx hb d_P_isGood_68 rfl ?_
                    exact x_reti hQ hx hb hr hlk (by first | exact nar_bz | decide) hw (by omega) (by omega) d_P_isGood_72 (⟨by rw [ix_n (by omega)]; first | exact bz_t (pgb_t.mpr (by unfold pg; omega)) | exact bz_f (fun z => by have z := pgb_t.mp z; unfold pg at z; omega), rfl⟩)
          · refine lv_iconst (v := nI 1) hx hb d_P_isGood_45 (by decide) ?_
            refine lv_goto hx hb d_P_isGood_46 rfl ?_
            refine x_istore_n hx hb d_P_isGood_50 hl (Nat.le_of_ble_eq_true rfl) (lh_k (i := 2) rfl (by first | exact lk_n | exact lk_i | exact lk_r | exact lk_q | exact lk_0)) (fun ls hl => ?_)
            refine x_iload_n hx hb d_P_isGood_51 hl rfl ?_
            refine x_if_ne hx hb d_P_isGood_52 rfl (by omega) (fun h52 => ?_) (fun h52 => ?_)
            · refine x_iload_n hx hb d_P_isGood_59 hl rfl ?_
              refine x_if_ne hx hb d_P_isGood_60 rfl (by omega) (fun h60 => ?_) (fun h60 => ?_)
              · refine lv_iconst (v := nI 1) hx hb d_P_isGood_67 (by decide) ?_
                refine lv_goto hx hb d_P_isGood_68 rfl ?_
                exact x_reti hQ hx hb hr hlk (by first | exact nar_bz | decide) hw (by omega) (by omega) d_P_isGood_72 (⟨by rw [ix_n (by omega)]; first | exact bz_t (pgb_t.mpr (by unfold pg; omega)) | exact bz_f (fun z => by have z := pgb_t.mp z; unfold pg at z; omega), rfl⟩)
              · refine x_iload_n hx hb d_P_isGood_63 hl rfl ?_
                refine x_if_ne hx hb d_P_isGood_64 rfl (by omega) (fun h64 => ?_) (fun h64 => ?_)
                · refine lv_iconst (v := nI 0) hx hb d_P_isGood_71 (by decide) ?_
                  exact x_reti hQ hx hb hr hlk (by first | exact nar_bz | decide) hw (by omega) (by omega) d_P_isGood_72 (⟨by rw [ix_n (by omega)]; first | exact bz_t (pgb_t.mpr (by unfold pg; omega)) | exact bz_f (fun z => by have z := pgb_t.mp z; unfold pg at z; omega), rfl⟩)
                · refine lv_iconst (v := nI 1) hx hb d_P_isGood_67 (by decide) ?_
                  refine lv_goto hx hb d_P_isGood_68 rfl ?_
                  exact x_reti hQ hx hb hr hlk (by first | exact nar_bz | decide) hw (by omega) (by omega) d_P_isGood_72 (⟨by rw [ix_n (by omega)]; first | exact bz_t (pgb_t.mpr (by unfold pg; omega)) | exact bz_f (fun z => by have z := pgb_t.mp z; unfold pg at z; omega), rfl⟩)
            · refine x_iload_n hx hb d_P_isGood_55 hl rfl ?_
              refine x_if_ne hx hb d_P_isGood_56 rfl (by omega) (fun h56 => ?_) (fun h56 => ?_)
              · refine lv_iconst (v := nI 0) hx hb d_P_isGood_71 (by decide) ?_
                exact x_reti hQ hx hb hr hlk (by first | exact nar_bz | decide) hw (by omega) (by omega) d_P_isGood_72 (⟨by rw [ix_n (by omega)]; first | exact bz_t (pgb_t.mpr (by unfold pg; omega)) | exact bz_f (fun z => by have z := pgb_t.mp z; unfold pg at z; omega), rfl⟩)
              · refine x_iload_n hx hb d_P_isGood_59 hl rfl ?_
                refine x_if_ne hx hb d_P_isGood_60 rfl (by omega) (fun h60 => ?_) (fun h60 => ?_)
                · refine lv_iconst (v := nI 1) hx hb d_P_isGood_67 (by decide) ?_
                  refine lv_goto hx hb d_P_isGood_68 rfl ?_
                  exact x_reti hQ hx hb hr hlk (by first | exact nar_bz | decide) hw (by omega) (by omega) d_P_isGood_72 (⟨by rw [ix_n (by omega)]; first | exact bz_t (pgb_t.mpr (by unfold pg; omega)) | exact bz_f (fun z => by have z := pgb_t.mp z; unfold pg at z; omega), rfl⟩)
                · refine x_iload_n hx hb d_P_isGood_63 hl rfl ?_
                  refine x_if_ne hx hb d_P_isGood_64 rfl (by omega) (fun h64 => ?_) (fun h64 => ?_)
                  · refine lv_iconst (v := nI 0) hx hb d_P_isGood_71 (by decide) ?_
                    exact x_reti hQ hx hb hr hlk (by first | exact nar_bz | decide) hw (by omega) (by omega) d_P_isGood_72 (⟨by rw [ix_n (by omega)]; first | exact bz_t (pgb_t.mpr (by unfold pg; omega)) | exact bz_f (fun z => by have z := pgb_t.mp z; unfold pg at z; omega), rfl⟩)
                  · refine lv_iconst (v := nI 1) hx hb d_P_isGood_67 (by decide) ?_
                    refine lv_goto hx hb d_P_isGood_68 rfl ?_
                    exact x_reti hQ hx hb hr hlk (by first | exact nar_bz | decide) hw (by omega) (by omega) d_P_isGood_72 (⟨by rw [ix_n (by omega)]; first | exact bz_t (pgb_t.mpr (by unfold pg; omega)) | exact bz_f (fun z => by have z := pgb_t.mp z; unfold pg at z; omega), rfl⟩)
        · refine lv_iconst (v := nI 1) hx hb d_P_isGood_32 (by decide) ?_
          refine lv_goto hx hb d_P_isGood_33 rfl ?_
          refine x_istore_n hx hb d_P_isGood_37 hl (Nat.le_of_ble_eq_true rfl) (lh_k (i := 1) rfl (by first | exact lk_n | exact lk_i | exact lk_r | exact lk_q | exact lk_0)) (fun ls hl => ?_)
          refine x_iload_n hx hb d_P_isGood_38 hl rfl ?_
          refine lv_bipush (v := nI 25) hx hb d_P_isGood_39 (by decide) ?_
          refine x_idiv hx hb d_P_isGood_41 (by omega) (by omega) (by omega) ?_
          refine x_if_eq hx hb d_P_isGood_42 rfl (by omega) (fun h42 => ?_) (fun h42 => ?_)
          · refine lv_iconst (v := nI 0) hx hb d_P_isGood_49 (by decide) ?_
            refine x_istore_n hx hb d_P_isGood_50 hl (Nat.le_of_ble_eq_true rfl) (lh_k (i := 2) rfl (by first | exact lk_n | exact lk_i | exact lk_r | exact lk_q | exact lk_0)) (fun ls hl => ?_)
            refine x_iload_n hx hb d_P_isGood_51 hl rfl ?_
            refine x_if_ne hx hb d_P_isGood_52 rfl (by omega) (fun h52 => ?_) (fun h52 => ?_)
            · refine x_iload_n hx hb d_P_isGood_59 hl rfl ?_
              refine x_if_ne hx hb d_P_isGood_60 rfl (by omega) (fun h60 => ?_) (fun h60 => ?_)
              · refine lv_iconst (v := nI 1) hx hb d_P_isGood_67 (by decide) ?_
                refine lv_goto hx hb d_P_isGood_68 rfl ?_
                exact x_reti hQ hx hb hr hlk (by first | exact nar_bz | decide) hw (by omega) (by omega) d_P_isGood_72 (⟨by rw [ix_n (by omega)]; first | exact bz_t (pgb_t.mpr (by unfold pg; omega)) | exact bz_f (fun z => by have z := pgb_t.mp z; unfold pg at z; omega), rfl⟩)
              · refine x_iload_n hx hb d_P_isGood_63 hl rfl ?_
                refine x_if_ne hx hb d_P_isGood_64 rfl (by omega) (fun h64 => ?_) (fun h64 => ?_)
                · refine lv_iconst (v := nI 0) hx hb d_P_isGood_71 (by decide) ?_
                  exact x_reti hQ hx hb hr hlk (by first | exact nar_bz | decide) hw (by omega) (by omega) d_P_isGood_72 (⟨by rw [ix_n (by omega)]; first | exact bz_t (pgb_t.mpr (by unfold pg; omega)) | exact bz_f (fun z => by have z := pgb_t.mp z; unfold pg at z; omega), rfl⟩)
                · refine lv_iconst (v := nI 1) hx hb d_P_isGood_67 (by decide) ?_
                  refine lv_goto hx hb d_P_isGood_68 rfl ?_
                  exact x_reti hQ hx hb hr hlk (by first | exact nar_bz | decide) hw (by omega) (by omega) d_P_isGood_72 (⟨by rw [ix_n (by omega)]; first | exact bz_t (pgb_t.mpr (by unfold pg; omega)) | exact bz_f (fun z => by have z := pgb_t.mp z; unfold pg at z; omega), rfl⟩)
            · refine x_iload_n hx hb d_P_isGood_55 hl rfl ?_
              refine x_if_ne hx hb d_P_isGood_56 rfl (by omega) (fun h56 => ?_) (fun h56 => ?_)
              · refine lv_iconst (v := nI 0) hx hb d_P_isGood_71 (by decide) ?_
                exact x_reti hQ hx hb hr hlk (by first | exact nar_bz | decide) hw (by omega) (by omega) d_P_isGood_72 (⟨by rw [ix_n (by omega)]; first | exact bz_t (pgb_t.mpr (by unfold pg; omega)) | exact bz_f (fun z => by have z := pgb_t.mp z; unfold pg at z; omega), rfl⟩)
              · refine x_iload_n hx hb d_P_isGood_59 hl rfl ?_
                refine x_if_ne hx hb d_P_isGood_60 rfl (by omega) (fun h60 => ?_) (fun h60 => ?_)
                · refine lv_iconst (v := nI 1) hx hb d_P_isGood_67 (by decide) ?_
                  refine lv_goto hx hb d_P_isGood_68 rfl ?_
                  exact x_reti hQ hx hb hr hlk (by first | exact nar_bz | decide) hw (by omega) (by omega) d_P_isGood_72 (⟨by rw [ix_n (by omega)]; first | exact bz_t (pgb_t.mpr (by unfold pg; omega)) | exact bz_f (fun z => by have z := pgb_t.mp z; unfold pg at z; omega), rfl⟩)
                · refine x_iload_n hx hb d_P_isGood_63 hl rfl ?_
                  refine x_if_ne hx hb d_P_isGood_64 rfl (by omega) (fun h64 => ?_) (fun h64 => ?_)
                  · refine lv_iconst (v := nI 0) hx hb d_P_isGood_71 (by decide) ?_
                    exact x_reti hQ hx hb hr hlk (by first | exact nar_bz | decide) hw (by omega) (by omega) d_P_isGood_72 (⟨by rw [ix_n (by omega)]; first | exact bz_t (pgb_t.mpr (by unfold pg; omega)) | exact bz_f (fun z => by have z := pgb_t.mp z; unfold pg at z; omega), rfl⟩)
                  · refine lv_iconst (v := nI 1) hx hb d_P_isGood_67 (by decide) ?_
                    refine lv_goto hx hb d_P_isGood_68 rfl ?_
                    exact x_reti hQ hx hb hr hlk (by first | exact nar_bz | decide) hw (by omega) (by omega) d_P_isGood_72 (⟨by rw [ix_n (by omega)]; first | exact bz_t (pgb_t.mpr (by unfold pg; omega)) | exact bz_f (fun z => by have z := pgb_t.mp z; unfold pg at z; omega), rfl⟩)
          · refine lv_iconst (v := nI 1) hx hb d_P_isGood_45 (by decide) ?_
            refine lv_goto hx hb d_P_isGood_46 rfl ?_
            refine x_istore_n hx hb d_P_isGood_50 hl (Nat.le_of_ble_eq_true rfl) (lh_k (i := 2) rfl (by first | exact lk_n | exact lk_i | exact lk_r | exact lk_q | exact lk_0)) (fun ls hl => ?_)
            refine x_iload_n hx hb d_P_isGood_51 hl rfl ?_
            refine x_if_ne hx hb d_P_isGood_52 rfl (by omega) (fun h52 => ?_) (fun h52 => ?_)
            · refine x_iload_n hx hb d_P_isGood_59 hl rfl ?_
              refine x_if_ne hx hb d_P_isGood_60 rfl (by omega) (fun h60 => ?_) (fun h60 => ?_)
              · refine lv_iconst (v := nI 1) hx hb d_P_isGood_67 (by decide) ?_
                refine lv_goto hx hb d_P_isGood_68 rfl ?_
                exact x_reti hQ hx hb hr hlk (by first | exact nar_bz | decide) hw (by omega) (by omega) d_P_isGood_72 (⟨by rw [ix_n (by omega)]; first | exact bz_t (pgb_t.mpr (by unfold pg; omega)) | exact bz_f (fun z => by have z := pgb_t.mp z; unfold pg at z; omega), rfl⟩)
              · refine x_iload_n hx hb d_P_isGood_63 hl rfl ?_
                refine x_if_ne hx hb d_P_isGood_64 rfl (by omega) (fun h64 => ?_) (fun h64 => ?_)
                · refine lv_iconst (v := nI 0) hx hb d_P_isGood_71 (by decide) ?_
                  exact x_reti hQ hx hb hr hlk (by first | exact nar_bz | decide) hw (by omega) (by omega) d_P_isGood_72 (⟨by rw [ix_n (by omega)]; first | exact bz_t (pgb_t.mpr (by unfold pg; omega)) | exact bz_f (fun z => by have z := pgb_t.mp z; unfold pg at z; omega), rfl⟩)
                · refine lv_iconst (v := nI 1) hx hb d_P_isGood_67 (by decide) ?_
                  refine lv_goto hx hb d_P_isGood_68 rfl ?_
                  exact x_reti hQ hx hb hr hlk (by first | exact nar_bz | decide) hw (by omega) (by omega) d_P_isGood_72 (⟨by rw [ix_n (by omega)]; first | exact bz_t (pgb_t.mpr (by unfold pg; omega)) | exact bz_f (fun z => by have z := pgb_t.mp z; unfold pg at z; omega), rfl⟩)
            · refine x_iload_n hx hb d_P_isGood_55 hl rfl ?_
              refine x_if_ne hx hb d_P_isGood_56 rfl (by omega) (fun h56 => ?_) (fun h56 => ?_)
              · refine lv_iconst (v := nI 0) hx hb d_P_isGood_71 (by decide) ?_
                exact x_reti hQ hx hb hr hlk (by first | exact nar_bz | decide) hw (by omega) (by omega) d_P_isGood_72 (⟨by rw [ix_n (by omega)]; first | exact bz_t (pgb_t.mpr (by unfold pg; omega)) | exact bz_f (fun z => by have z := pgb_t.mp z; unfold pg at z; omega), rfl⟩)
              · refine x_iload_n hx hb d_P_isGood_59 hl rfl ?_
                refine x_if_ne hx hb d_P_isGood_60 rfl (by omega) (fun h60 => ?_) (fun h60 => ?_)
                · refine lv_iconst (v := nI 1) hx hb d_P_isGood_67 (by decide) ?_
                  refine lv_goto hx hb d_P_isGood_68 rfl ?_
                  exact x_reti hQ hx hb hr hlk (by first | exact nar_bz | decide) hw (by omega) (by omega) d_P_isGood_72 (⟨by rw [ix_n (by omega)]; first | exact bz_t (pgb_t.mpr (by unfold pg; omega)) | exact bz_f (fun z => by have z := pgb_t.mp z; unfold pg at z; omega), rfl⟩)
                · refine x_iload_n hx hb d_P_isGood_63 hl rfl ?_
                  refine x_if_ne hx hb d_P_isGood_64 rfl (by omega) (fun h64 => ?_) (fun h64 => ?_)
                  · refine lv_iconst (v := nI 0) hx hb d_P_isGood_71 (by decide) ?_
                    exact x_reti hQ hx hb hr hlk (by first | exact nar_bz | decide) hw (by omega) (by omega) d_P_isGood_72 (⟨by rw [ix_n (by omega)]; first | exact bz_t (pgb_t.mpr (by unfold pg; omega)) | exact bz_f (fun z => by have z := pgb_t.mp z; unfold pg at z; omega), rfl⟩)
                  · refine lv_iconst (v := nI 1) hx hb d_P_isGood_67 (by decide) ?_
                    refine lv_goto hx hb d_P_isGood_68 rfl ?_
                    exact x_reti hQ hx hb hr hlk (by first | exact nar_bz | decide) hw (by omega) (by omega) d_P_isGood_72 (⟨by rw [ix_n (by omega)]; first | exact bz_t (pgb_t.mpr (by unfold pg; omega)) | exact bz_f (fun z => by have z := pgb_t.mp z; unfold pg at z; omega), rfl⟩)
    · refine lv_iconst (v := nI 0) hx hb d_P_isGood_10 (by decide) ?_
      exact x_reti hQ hx hb hr hlk (by first | exact nar_bz | decide) hw (by omega) (by omega) d_P_isGood_11 (⟨by first | (rw [ix_lt h1]; decide) | (rw [ix_ge h7]; decide), rfl⟩)

set_option maxHeartbeats 4000000 in
set_option maxRecDepth 100000 in
theorem c_P_depth {l : Launch} {E : Ev} {M : mp_M} {sz : Nat} {n : Nat} (hn : n < 2 ^ 31) : MCi l E y_P_depthOf prog_4_method_3_code 1 (some .int) 0 0 0 0 [.int (nI n)] M sz (fun r M' => r = nI (pd n) ∧ M' = M) := by
  refine mc_of R_P rfl [some (.int (nI n))] (by decide) (Nat.le_of_ble_eq_true rfl) rfl ?_
  intro p e R s m ag below meth c ls Q A X hAe hQ hR hsz hw hl
  rw [← hAe] at hQ
  obtain ⟨⟨hx, hb, hml, hown, hts⟩, hE, hA, hr, hlk, hnm⟩ := X
  have hK := hE.1
  refine x_iload_n hx hb d_P_depthOf_0 hl rfl ?_
  refine x_if_gt hx hb d_P_depthOf_1 rfl (by omega) (fun h1 => ?_) (fun h1 => ?_)
  · refine x_iload_n hx hb d_P_depthOf_6 hl rfl ?_
    refine lv_iconst (v := nI 5) hx hb d_P_depthOf_7 (by decide) ?_
    refine x_icmp_ge hx hb d_P_depthOf_8 rfl (by omega) (by omega) (fun h8 => ?_) (fun h8 => ?_)
    · refine x_iload_n hx hb d_P_depthOf_13 hl rfl ?_
      refine lv_bipush (v := nI 25) hx hb d_P_depthOf_14 (by decide) ?_
      refine x_icmp_ge hx hb d_P_depthOf_16 rfl (by omega) (by omega) (fun h16 => ?_) (fun h16 => ?_)
      · refine lv_iconst (v := nI 3) hx hb d_P_depthOf_23 (by decide) ?_
        exact x_reti hQ hx hb hr hlk rfl hw (by omega) (by omega) d_P_depthOf_24 (⟨congrArg nI (by unfold pd; (repeat' split) <;> omega), rfl⟩)
      · refine lv_iconst (v := nI 2) hx hb d_P_depthOf_19 (by decide) ?_
        refine lv_goto hx hb d_P_depthOf_20 rfl ?_
        exact x_reti hQ hx hb hr hlk rfl hw (by omega) (by omega) d_P_depthOf_24 (⟨congrArg nI (by unfold pd; (repeat' split) <;> omega), rfl⟩)
    · refine lv_iconst (v := nI 1) hx hb d_P_depthOf_11 (by decide) ?_
      exact x_reti hQ hx hb hr hlk rfl hw (by omega) (by omega) d_P_depthOf_12 (⟨congrArg nI (by unfold pd; (repeat' split) <;> omega), rfl⟩)
  · refine lv_iconst (v := nI 0) hx hb d_P_depthOf_4 (by decide) ?_
    exact x_reti hQ hx hb hr hlk rfl hw (by omega) (by omega) d_P_depthOf_5 (⟨congrArg nI (by unfold pd; (repeat' split) <;> omega), rfl⟩)

set_option maxHeartbeats 4000000 in
set_option maxRecDepth 100000 in
theorem c_P_weight {l : Launch} {E : Ev} {M : mp_M} {sz : Nat} {n : Nat} (hn : n < 2 ^ 31) : MCi l E y_P_weightAt prog_4_method_4_code 1 (some .int) 0 0 0 0 [.int (nI n)] M sz (fun r M' => r = nI (pu n) ∧ M' = M) := by
  refine mc_of R_P rfl [some (.int (nI n))] (by decide) (Nat.le_of_ble_eq_true rfl) rfl ?_
  intro p e R s m ag below meth c ls Q A X hAe hQ hR hsz hw hl
  rw [← hAe] at hQ
  obtain ⟨⟨hx, hb, hml, hown, hts⟩, hE, hA, hr, hlk, hnm⟩ := X
  have hK := hE.1
  refine x_iload_n hx hb d_P_weightAt_0 hl rfl ?_
  rcases (show n = 0 ∨ n = 1 ∨ n = 2 ∨ 3 ≤ n by omega) with rfl | rfl | rfl | hn3
  · refine lv_tableIn (off := 27) hx hb d_P_weightAt_1 (by decide) (by decide) rfl rfl ?_
    refine lv_iconst (v := nI 1) hx hb d_P_weightAt_28 (by decide) ?_
    exact x_reti hQ hx hb hr hlk rfl hw (by omega) (by omega) d_P_weightAt_29 (⟨congrArg nI (by unfold pu; (repeat' split) <;> omega), rfl⟩)
  · refine lv_tableIn (off := 29) hx hb d_P_weightAt_1 (by decide) (by decide) rfl rfl ?_
    refine lv_iconst (v := nI 5) hx hb d_P_weightAt_30 (by decide) ?_
    exact x_reti hQ hx hb hr hlk rfl hw (by omega) (by omega) d_P_weightAt_31 (⟨congrArg nI (by unfold pu; (repeat' split) <;> omega), rfl⟩)
  · refine lv_tableIn (off := 31) hx hb d_P_weightAt_1 (by decide) (by decide) rfl rfl ?_
    refine lv_bipush (v := nI 25) hx hb d_P_weightAt_32 (by decide) ?_
    exact x_reti hQ hx hb hr hlk rfl hw (by omega) (by omega) d_P_weightAt_34 (⟨congrArg nI (by unfold pu; (repeat' split) <;> omega), rfl⟩)
  · refine lv_tableOut hx hb d_P_weightAt_1 (Or.inr (by rw [nI_toInt (by omega)]; omega)) rfl ?_
    refine lv_bipush (v := nI 125) hx hb d_P_weightAt_35 (by decide) ?_
    exact x_reti hQ hx hb hr hlk rfl hw (by omega) (by omega) d_P_weightAt_37 (⟨congrArg nI (by unfold pu; (repeat' split) <;> omega), rfl⟩)

set_option maxHeartbeats 4000000 in
set_option maxRecDepth 100000 in
theorem c_P_parent {l : Launch} {E : Ev} {M : mp_M} {sz : Nat} {n : Nat} (hn : n < 2 ^ 31) : MCi l E y_P_parentOf prog_4_method_5_code 1 (some .int) 1 20 0 0 [.int (nI n)] M sz (fun r M' => r = nI (pp n) ∧ M' = M) := by
  refine mc_of R_P rfl [some (.int (nI n))] (by decide) (Nat.le_of_ble_eq_true rfl) rfl ?_
  intro p e R s m ag below meth c ls Q A X hAe hQ hR hsz hw hl
  rw [← hAe] at hQ
  obtain ⟨⟨hx, hb, hml, hown, hts⟩, hE, hA, hr, hlk, hnm⟩ := X
  have hK := hE.1
  refine x_iload_n hx hb d_P_parentOf_0 hl rfl ?_
  refine x_if_gt hx hb d_P_parentOf_1 rfl (by omega) (fun h1 => ?_) (fun h1 => ?_)
  · refine x_iload_n hx hb d_P_parentOf_8 hl rfl ?_
    refine x_iload_n hx hb d_P_parentOf_9 hl rfl ?_
    refine m_calli (k_S ⟨hx, hb, hml, hown, hts⟩ hE hA hw (c_P_depth (by omega)) (wm1 190 rfl rfl) (wm1 191 rfl rfl) (wm1 10 rfl rfl) (wm1 192 rfl rfl) rfl rfl ar_P_depthOf ⟨Nat.le_trans (Nat.le_of_ble_eq_true rfl) hR.1, Nat.le_trans (Nat.le_of_ble_eq_true rfl) hR.2.1⟩ rfl hl.1 rfl (Nat.le_of_ble_eq_true rfl) d_P_parentOf_10 ⟨Nat.le_trans (Nat.le_of_ble_eq_true rfl) hR.2.2.1, Nat.le_trans (Nat.le_of_ble_eq_true rfl) hR.2.2.2⟩) hw (mfr_in hw hA) (fun r10 M10 H locs hP10 hw => ?_)
    obtain ⟨rfl, hM10⟩ := hP10
    rw [hM10] at hw
    have hd1 := pd_pos h1
    have hd3 := pd_le n
    refine lv_iconst (v := nI 1) hx hb d_P_parentOf_13 (by decide) ?_
    refine x_isub hx hb d_P_parentOf_14 (by omega) ?_
    refine m_calli (k_S ⟨hx, hb, hml, hown, hts⟩ hE hA hw (c_P_weight (by omega)) (wm1 193 rfl rfl) (wm1 194 rfl rfl) (wm1 10 rfl rfl) (wm1 195 rfl rfl) rfl rfl ar_P_weightAt ⟨Nat.le_trans (Nat.le_of_ble_eq_true rfl) hR.1, Nat.le_trans (Nat.le_of_ble_eq_true rfl) hR.2.1⟩ rfl hl.1 rfl (Nat.le_of_ble_eq_true rfl) d_P_parentOf_15 ⟨Nat.le_trans (Nat.le_of_ble_eq_true rfl) hR.2.2.1, Nat.le_trans (Nat.le_of_ble_eq_true rfl) hR.2.2.2⟩) hw (mfr_in hw hA) (fun r15 M15 H locs hP15 hw => ?_)
    obtain ⟨rfl, hM15⟩ := hP15
    rw [hM15] at hw
    have hu := pu_lt (pd n - 1)
    refine x_irem hx hb d_P_parentOf_18 (by omega) (by omega) (by omega) ?_
    exact x_reti hQ hx hb hr hlk rfl hw (by omega) (by omega) d_P_parentOf_19 (⟨by first | rfl | (subst h1; rfl), rfl⟩)
  · refine lv_iconst (v := nI 0) hx hb d_P_parentOf_4 (by decide) ?_
    refine lv_goto hx hb d_P_parentOf_5 rfl ?_
    exact x_reti hQ hx hb hr hlk rfl hw (by omega) (by omega) d_P_parentOf_19 (⟨by first | rfl | (subst h1; rfl), rfl⟩)

set_option maxHeartbeats 4000000 in
set_option maxRecDepth 100000 in
theorem c_P_names {l : Launch} {E : Ev} {M : mp_M} {sz : Nat} {n : Nat} (hn : n < 2 ^ 31) : MCi l E y_P_namesBelow prog_4_method_6_code 1 (some .int) 1 20 0 0 [.int (nI n)] M sz (fun r M' => r = nI (if pd n < 3 then 4 else 0) ∧ M' = M) := by
  refine mc_of R_P rfl [some (.int (nI n))] (by decide) (Nat.le_of_ble_eq_true rfl) rfl ?_
  intro p e R s m ag below meth c ls Q A X hAe hQ hR hsz hw hl
  rw [← hAe] at hQ
  obtain ⟨⟨hx, hb, hml, hown, hts⟩, hE, hA, hr, hlk, hnm⟩ := X
  have hK := hE.1
  refine x_iload_n hx hb d_P_namesBelow_0 hl rfl ?_
  refine m_calli (k_S ⟨hx, hb, hml, hown, hts⟩ hE hA hw (c_P_depth (by omega)) (wm1 190 rfl rfl) (wm1 191 rfl rfl) (wm1 10 rfl rfl) (wm1 192 rfl rfl) rfl rfl ar_P_depthOf ⟨Nat.le_trans (Nat.le_of_ble_eq_true rfl) hR.1, Nat.le_trans (Nat.le_of_ble_eq_true rfl) hR.2.1⟩ rfl hl.1 rfl (Nat.le_of_ble_eq_true rfl) d_P_namesBelow_1 ⟨Nat.le_trans (Nat.le_of_ble_eq_true rfl) hR.2.2.1, Nat.le_trans (Nat.le_of_ble_eq_true rfl) hR.2.2.2⟩) hw (mfr_in hw hA) (fun r1 M1 H locs hP1 hw => ?_)
  obtain ⟨rfl, hM1⟩ := hP1
  rw [hM1] at hw
  have hd3 := pd_le n
  refine lv_iconst (v := nI 3) hx hb d_P_namesBelow_4 (by decide) ?_
  refine x_icmp_ge hx hb d_P_namesBelow_5 rfl (by omega) (by omega) (fun h5 => ?_) (fun h5 => ?_)
  · refine lv_iconst (v := nI 0) hx hb d_P_namesBelow_12 (by decide) ?_
    exact x_reti hQ hx hb hr hlk rfl hw (by omega) (by omega) d_P_namesBelow_13 (⟨congrArg nI (by split <;> omega), rfl⟩)
  · refine lv_iconst (v := nI 4) hx hb d_P_namesBelow_8 (by decide) ?_
    refine lv_goto hx hb d_P_namesBelow_9 rfl ?_
    exact x_reti hQ hx hb hr hlk rfl hw (by omega) (by omega) d_P_namesBelow_13 (⟨congrArg nI (by split <;> omega), rfl⟩)

set_option maxHeartbeats 4000000 in
set_option maxRecDepth 100000 in
theorem c_P_child {l : Launch} {E : Ev} {M : mp_M} {sz : Nat} {n k : Nat} (hn : n < 125) (hk : k < 125) : MCi l E y_P_childOf prog_4_method_7_code 2 (some .int) 1 20 0 0 [.int (nI n), .int (nI k)] M sz (fun r M' => r = nI (n + k * pu (pd n)) ∧ M' = M) := by
  refine mc_of R_P rfl [some (.int (nI n)), some (.int (nI k))] (by decide) (Nat.le_of_ble_eq_true rfl) rfl ?_
  intro p e R s m ag below meth c ls Q A X hAe hQ hR hsz hw hl
  rw [← hAe] at hQ
  obtain ⟨⟨hx, hb, hml, hown, hts⟩, hE, hA, hr, hlk, hnm⟩ := X
  have hK := hE.1
  refine x_iload_n hx hb d_P_childOf_0 hl rfl ?_
  refine x_iload_n hx hb d_P_childOf_1 hl rfl ?_
  refine x_iload_n hx hb d_P_childOf_2 hl rfl ?_
  refine m_calli (k_S ⟨hx, hb, hml, hown, hts⟩ hE hA hw (c_P_depth (by omega)) (wm1 190 rfl rfl) (wm1 191 rfl rfl) (wm1 10 rfl rfl) (wm1 192 rfl rfl) rfl rfl ar_P_depthOf ⟨Nat.le_trans (Nat.le_of_ble_eq_true rfl) hR.1, Nat.le_trans (Nat.le_of_ble_eq_true rfl) hR.2.1⟩ rfl hl.1 rfl (Nat.le_of_ble_eq_true rfl) d_P_childOf_3 ⟨Nat.le_trans (Nat.le_of_ble_eq_true rfl) hR.2.2.1, Nat.le_trans (Nat.le_of_ble_eq_true rfl) hR.2.2.2⟩) hw (mfr_in hw hA) (fun r3 M3 H locs hP3 hw => ?_)
  obtain ⟨rfl, hM3⟩ := hP3
  rw [hM3] at hw
  have hd3 := pd_le n
  refine m_calli (k_S ⟨hx, hb, hml, hown, hts⟩ hE hA hw (c_P_weight (by omega)) (wm1 193 rfl rfl) (wm1 194 rfl rfl) (wm1 10 rfl rfl) (wm1 195 rfl rfl) rfl rfl ar_P_weightAt ⟨Nat.le_trans (Nat.le_of_ble_eq_true rfl) hR.1, Nat.le_trans (Nat.le_of_ble_eq_true rfl) hR.2.1⟩ rfl hl.1 rfl (Nat.le_of_ble_eq_true rfl) d_P_childOf_6 ⟨Nat.le_trans (Nat.le_of_ble_eq_true rfl) hR.2.2.1, Nat.le_trans (Nat.le_of_ble_eq_true rfl) hR.2.2.2⟩) hw (mfr_in hw hA) (fun r6 M6 H locs hP6 hw => ?_)
  obtain ⟨rfl, hM6⟩ := hP6
  rw [hM6] at hw
  first | refine x_imul hx hb d_P_childOf_9 ?_ | refine lv_imul hx hb d_P_childOf_9 ?_
  first | refine x_iadd hx hb d_P_childOf_10 ?_ | refine lv_iadd hx hb d_P_childOf_10 ?_
  exact x_reti hQ hx hb hr hlk rfl hw (by omega) (by omega) d_P_childOf_11 (⟨rfl, rfl⟩)

set_option maxHeartbeats 4000000 in
set_option maxRecDepth 100000 in
theorem c_P_under {l : Launch} {E : Ev} {M : mp_M} {sz : Nat} {w n : Nat} (hw1 : w < 125) (hn : n < 125) : MCi l E y_P_isAtOrBelow prog_4_method_8_code 2 (some .boolean) 1 20 0 0 [.int (nI w), .int (nI n)] M sz (fun r M' => r = bz (pun w n) ∧ M' = M) := by
  refine mc_of R_P rfl [some (.int (nI w)), some (.int (nI n))] (by decide) (Nat.le_of_ble_eq_true rfl) rfl ?_
  intro p e R s m ag below meth c ls Q A X hAe hQ hR hsz hw hl
  rw [← hAe] at hQ
  obtain ⟨⟨hx, hb, hml, hown, hts⟩, hE, hA, hr, hlk, hnm⟩ := X
  have hK := hE.1
  refine x_iload_n hx hb d_P_isAtOrBelow_0 hl rfl ?_
  refine m_calli (k_S ⟨hx, hb, hml, hown, hts⟩ hE hA hw (c_P_depth (by omega)) (wm1 190 rfl rfl) (wm1 191 rfl rfl) (wm1 10 rfl rfl) (wm1 192 rfl rfl) rfl rfl ar_P_depthOf ⟨Nat.le_trans (Nat.le_of_ble_eq_true rfl) hR.1, Nat.le_trans (Nat.le_of_ble_eq_true rfl) hR.2.1⟩ rfl hl.1 rfl (Nat.le_of_ble_eq_true rfl) d_P_isAtOrBelow_1 ⟨Nat.le_trans (Nat.le_of_ble_eq_true rfl) hR.2.2.1, Nat.le_trans (Nat.le_of_ble_eq_true rfl) hR.2.2.2⟩) hw (mfr_in hw hA) (fun r1 M1 H locs hP1 hw => ?_)
  obtain ⟨rfl, hM1⟩ := hP1
  rw [hM1] at hw
  refine x_iload_n hx hb d_P_isAtOrBelow_4 hl rfl ?_
  refine m_calli (k_S ⟨hx, hb, hml, hown, hts⟩ hE hA hw (c_P_depth (by omega)) (wm1 190 rfl rfl) (wm1 191 rfl rfl) (wm1 10 rfl rfl) (wm1 192 rfl rfl) rfl rfl ar_P_depthOf ⟨Nat.le_trans (Nat.le_of_ble_eq_true rfl) hR.1, Nat.le_trans (Nat.le_of_ble_eq_true rfl) hR.2.1⟩ rfl hl.1 rfl (Nat.le_of_ble_eq_true rfl) d_P_isAtOrBelow_5 ⟨Nat.le_trans (Nat.le_of_ble_eq_true rfl) hR.2.2.1, Nat.le_trans (Nat.le_of_ble_eq_true rfl) hR.2.2.2⟩) hw (mfr_in hw hA) (fun r5 M5 H locs hP5 hw => ?_)
  obtain ⟨rfl, hM5⟩ := hP5
  rw [hM5] at hw
  have hd3 := pd_le n
  have hd4 := pd_le w
  refine x_icmp_lt hx hb d_P_isAtOrBelow_8 rfl (by omega) (by omega) (fun h8 => ?_) (fun h8 => ?_)
  · refine lv_iconst (v := nI 0) hx hb d_P_isAtOrBelow_28 (by decide) ?_
    exact x_reti hQ hx hb hr hlk (by first | exact nar_bz | decide) hw (by omega) (by omega) d_P_isAtOrBelow_29 (⟨by first | exact bz_t (beq_iff_eq.mpr h21) | exact bz_f (fun z => h21 (beq_iff_eq.mp z)) | exact bz_f (fun z => by have z := pun_pd hw1 hn z; omega), rfl⟩)
  · refine x_iload_n hx hb d_P_isAtOrBelow_11 hl rfl ?_
    refine x_iload_n hx hb d_P_isAtOrBelow_12 hl rfl ?_
    refine m_calli (k_S ⟨hx, hb, hml, hown, hts⟩ hE hA hw (c_P_depth (by omega)) (wm1 190 rfl rfl) (wm1 191 rfl rfl) (wm1 10 rfl rfl) (wm1 192 rfl rfl) rfl rfl ar_P_depthOf ⟨Nat.le_trans (Nat.le_of_ble_eq_true rfl) hR.1, Nat.le_trans (Nat.le_of_ble_eq_true rfl) hR.2.1⟩ rfl hl.1 rfl (Nat.le_of_ble_eq_true rfl) d_P_isAtOrBelow_13 ⟨Nat.le_trans (Nat.le_of_ble_eq_true rfl) hR.2.2.1, Nat.le_trans (Nat.le_of_ble_eq_true rfl) hR.2.2.2⟩) hw (mfr_in hw hA) (fun r13 M13 H locs hP13 hw => ?_)
    obtain ⟨rfl, hM13⟩ := hP13
    rw [hM13] at hw
    refine m_calli (k_S ⟨hx, hb, hml, hown, hts⟩ hE hA hw (c_P_weight (by omega)) (wm1 193 rfl rfl) (wm1 194 rfl rfl) (wm1 10 rfl rfl) (wm1 195 rfl rfl) rfl rfl ar_P_weightAt ⟨Nat.le_trans (Nat.le_of_ble_eq_true rfl) hR.1, Nat.le_trans (Nat.le_of_ble_eq_true rfl) hR.2.1⟩ rfl hl.1 rfl (Nat.le_of_ble_eq_true rfl) d_P_isAtOrBelow_16 ⟨Nat.le_trans (Nat.le_of_ble_eq_true rfl) hR.2.2.1, Nat.le_trans (Nat.le_of_ble_eq_true rfl) hR.2.2.2⟩) hw (mfr_in hw hA) (fun r16 M16 H locs hP16 hw => ?_)
    obtain ⟨rfl, hM16⟩ := hP16
    rw [hM16] at hw
    have hu := pu_lt (pd n)
    refine x_irem hx hb d_P_isAtOrBelow_19 (by omega) (by omega) (by omega) ?_
    have hm := Nat.mod_lt w (pu_lt (pd n)).1
    refine x_iload_n hx hb d_P_isAtOrBelow_20 hl rfl ?_
    refine x_icmp_ne hx hb d_P_isAtOrBelow_21 rfl (by omega) (by omega) (fun h21 => ?_) (fun h21 => ?_)
    · refine lv_iconst (v := nI 0) hx hb d_P_isAtOrBelow_28 (by decide) ?_
      exact x_reti hQ hx hb hr hlk (by first | exact nar_bz | decide) hw (by omega) (by omega) d_P_isAtOrBelow_29 (⟨by first | exact bz_t (beq_iff_eq.mpr h21) | exact bz_f (fun z => h21 (beq_iff_eq.mp z)) | exact bz_f (fun z => by have z := pun_pd hw1 hn z; omega), rfl⟩)
    · refine lv_iconst (v := nI 1) hx hb d_P_isAtOrBelow_24 (by decide) ?_
      refine lv_goto hx hb d_P_isAtOrBelow_25 rfl ?_
      exact x_reti hQ hx hb hr hlk (by first | exact nar_bz | decide) hw (by omega) (by omega) d_P_isAtOrBelow_29 (⟨by first | exact bz_t (beq_iff_eq.mpr h21) | exact bz_f (fun z => h21 (beq_iff_eq.mp z)) | exact bz_f (fun z => by have z := pun_pd hw1 hn z; omega), rfl⟩)

set_option maxHeartbeats 4000000 in
set_option maxRecDepth 100000 in
theorem c_P_moved {l : Launch} {E : Ev} {M : mp_M} {sz : Nat} {w f g : Nat} (hw1 : w < 125) (hf : f < 125) (hg : g < 125) : MCi l E y_P_moved prog_4_method_9_code 3 (some .int) 1 20 0 0 [.int (nI w), .int (nI f), .int (nI g)] M sz (fun r M' => r = nI (pm w f g) ∧ M' = M) := by
  refine mc_of R_P rfl [some (.int (nI w)), some (.int (nI f)), some (.int (nI g))] (by decide) (Nat.le_of_ble_eq_true rfl) rfl ?_
  intro p e R s m ag below meth c ls Q A X hAe hQ hR hsz hw hl
  rw [← hAe] at hQ
  obtain ⟨⟨hx, hb, hml, hown, hts⟩, hE, hA, hr, hlk, hnm⟩ := X
  have hK := hE.1
  refine x_iload_n hx hb d_P_moved_0 hl rfl ?_
  refine x_iload_n hx hb d_P_moved_1 hl rfl ?_
  refine x_iload_n hx hb d_P_moved_2 hl rfl ?_
  refine m_calli (k_S ⟨hx, hb, hml, hown, hts⟩ hE hA hw (c_P_depth (by omega)) (wm1 190 rfl rfl) (wm1 191 rfl rfl) (wm1 10 rfl rfl) (wm1 192 rfl rfl) rfl rfl ar_P_depthOf ⟨Nat.le_trans (Nat.le_of_ble_eq_true rfl) hR.1, Nat.le_trans (Nat.le_of_ble_eq_true rfl) hR.2.1⟩ rfl hl.1 rfl (Nat.le_of_ble_eq_true rfl) d_P_moved_3 ⟨Nat.le_trans (Nat.le_of_ble_eq_true rfl) hR.2.2.1, Nat.le_trans (Nat.le_of_ble_eq_true rfl) hR.2.2.2⟩) hw (mfr_in hw hA) (fun r3 M3 H locs hP3 hw => ?_)
  obtain ⟨rfl, hM3⟩ := hP3
  rw [hM3] at hw
  have d3 := pd_le f
  refine m_calli (k_S ⟨hx, hb, hml, hown, hts⟩ hE hA hw (c_P_weight (by omega)) (wm1 193 rfl rfl) (wm1 194 rfl rfl) (wm1 10 rfl rfl) (wm1 195 rfl rfl) rfl rfl ar_P_weightAt ⟨Nat.le_trans (Nat.le_of_ble_eq_true rfl) hR.1, Nat.le_trans (Nat.le_of_ble_eq_true rfl) hR.2.1⟩ rfl hl.1 rfl (Nat.le_of_ble_eq_true rfl) d_P_moved_6 ⟨Nat.le_trans (Nat.le_of_ble_eq_true rfl) hR.2.2.1, Nat.le_trans (Nat.le_of_ble_eq_true rfl) hR.2.2.2⟩) hw (mfr_in hw hA) (fun r6 M6 H locs hP6 hw => ?_)
  obtain ⟨rfl, hM6⟩ := hP6
  rw [hM6] at hw
  have hu := pu_lt (pd f)
  refine x_idiv hx hb d_P_moved_9 (by omega) (by omega) (by omega) ?_
  refine x_iload_n hx hb d_P_moved_10 hl rfl ?_
  refine m_calli (k_S ⟨hx, hb, hml, hown, hts⟩ hE hA hw (c_P_depth (by omega)) (wm1 190 rfl rfl) (wm1 191 rfl rfl) (wm1 10 rfl rfl) (wm1 192 rfl rfl) rfl rfl ar_P_depthOf ⟨Nat.le_trans (Nat.le_of_ble_eq_true rfl) hR.1, Nat.le_trans (Nat.le_of_ble_eq_true rfl) hR.2.1⟩ rfl hl.1 rfl (Nat.le_of_ble_eq_true rfl) d_P_moved_11 ⟨Nat.le_trans (Nat.le_of_ble_eq_true rfl) hR.2.2.1, Nat.le_trans (Nat.le_of_ble_eq_true rfl) hR.2.2.2⟩) hw (mfr_in hw hA) (fun r11 M11 H locs hP11 hw => ?_)
  obtain ⟨rfl, hM11⟩ := hP11
  rw [hM11] at hw
  have d1 := pd_le g
  refine m_calli (k_S ⟨hx, hb, hml, hown, hts⟩ hE hA hw (c_P_weight (by omega)) (wm1 193 rfl rfl) (wm1 194 rfl rfl) (wm1 10 rfl rfl) (wm1 195 rfl rfl) rfl rfl ar_P_weightAt ⟨Nat.le_trans (Nat.le_of_ble_eq_true rfl) hR.1, Nat.le_trans (Nat.le_of_ble_eq_true rfl) hR.2.1⟩ rfl hl.1 rfl (Nat.le_of_ble_eq_true rfl) d_P_moved_14 ⟨Nat.le_trans (Nat.le_of_ble_eq_true rfl) hR.2.2.1, Nat.le_trans (Nat.le_of_ble_eq_true rfl) hR.2.2.2⟩) hw (mfr_in hw hA) (fun r14 M14 H locs hP14 hw => ?_)
  obtain ⟨rfl, hM14⟩ := hP14
  rw [hM14] at hw
  first | refine x_imul hx hb d_P_moved_17 ?_ | refine lv_imul hx hb d_P_moved_17 ?_
  first | refine x_iadd hx hb d_P_moved_18 ?_ | refine lv_iadd hx hb d_P_moved_18 ?_
  exact x_reti hQ hx hb hr hlk rfl hw (by omega) (by omega) d_P_moved_19 (⟨rfl, rfl⟩)
