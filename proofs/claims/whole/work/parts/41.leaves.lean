theorem d_Te_init_0 : decode prog_6_method_1_code 0 = .ok (.aload_n 0, 1) := by decide +kernel
theorem d_Te_init_1 : decode prog_6_method_1_code 1 = .ok (.invokespecial 1, 3) := by decide +kernel
theorem d_Te_init_4 : decode prog_6_method_1_code 4 = .ok (.aload_n 0, 1) := by decide +kernel
theorem d_Te_init_5 : decode prog_6_method_1_code 5 = .ok (.lload_n 1, 1) := by decide +kernel
theorem d_Te_init_6 : decode prog_6_method_1_code 6 = .ok (.lconst 1, 1) := by decide +kernel
theorem d_Te_init_7 : decode prog_6_method_1_code 7 = .ok (.iconst 4, 1) := by decide +kernel
theorem d_Te_init_8 : decode prog_6_method_1_code 8 = .ok (.iload_n 3, 1) := by decide +kernel
theorem d_Te_init_9 : decode prog_6_method_1_code 9 = .ok (.imul, 1) := by decide +kernel
theorem d_Te_init_10 : decode prog_6_method_1_code 10 = .ok (.lshl, 1) := by decide +kernel
theorem d_Te_init_11 : decode prog_6_method_1_code 11 = .ok (.lconst 1, 1) := by decide +kernel
theorem d_Te_init_12 : decode prog_6_method_1_code 12 = .ok (.lsub, 1) := by decide +kernel
theorem d_Te_init_13 : decode prog_6_method_1_code 13 = .ok (.land, 1) := by decide +kernel
theorem d_Te_init_14 : decode prog_6_method_1_code 14 = .ok (.putfield 7, 3) := by decide +kernel
theorem d_Te_init_17 : decode prog_6_method_1_code 17 = .ok (.aload_n 0, 1) := by decide +kernel
theorem d_Te_init_18 : decode prog_6_method_1_code 18 = .ok (.iload_n 3, 1) := by decide +kernel
theorem d_Te_init_19 : decode prog_6_method_1_code 19 = .ok (.putfield 13, 3) := by decide +kernel
theorem d_Te_init_22 : decode prog_6_method_1_code 22 = .ok (.return_, 1) := by decide +kernel
theorem d_N_init_0 : decode prog_3_method_1_code 0 = .ok (.aload_n 0, 1) := by decide +kernel
theorem d_N_init_1 : decode prog_3_method_1_code 1 = .ok (.invokespecial 3, 3) := by decide +kernel
theorem d_N_init_4 : decode prog_3_method_1_code 4 = .ok (.aload_n 0, 1) := by decide +kernel
theorem d_N_init_5 : decode prog_3_method_1_code 5 = .ok (.iconst 0, 1) := by decide +kernel
theorem d_N_init_6 : decode prog_3_method_1_code 6 = .ok (.putfield 9, 3) := by decide +kernel
theorem d_N_init_9 : decode prog_3_method_1_code 9 = .ok (.aload_n 0, 1) := by decide +kernel
theorem d_N_init_10 : decode prog_3_method_1_code 10 = .ok (.iconst (-1), 1) := by decide +kernel
theorem d_N_init_11 : decode prog_3_method_1_code 11 = .ok (.putfield 15, 3) := by decide +kernel
theorem d_N_init_14 : decode prog_3_method_1_code 14 = .ok (.aload_n 0, 1) := by decide +kernel
theorem d_N_init_15 : decode prog_3_method_1_code 15 = .ok (.aconst_null, 1) := by decide +kernel
theorem d_N_init_16 : decode prog_3_method_1_code 16 = .ok (.putfield 18, 3) := by decide +kernel
theorem d_N_init_19 : decode prog_3_method_1_code 19 = .ok (.aload_n 0, 1) := by decide +kernel
theorem d_N_init_20 : decode prog_3_method_1_code 20 = .ok (.iconst (-1), 1) := by decide +kernel
theorem d_N_init_21 : decode prog_3_method_1_code 21 = .ok (.putfield 22, 3) := by decide +kernel
theorem d_N_init_24 : decode prog_3_method_1_code 24 = .ok (.aload_n 0, 1) := by decide +kernel
theorem d_N_init_25 : decode prog_3_method_1_code 25 = .ok (.iconst (-1), 1) := by decide +kernel
theorem d_N_init_26 : decode prog_3_method_1_code 26 = .ok (.putfield 25, 3) := by decide +kernel
theorem d_N_init_29 : decode prog_3_method_1_code 29 = .ok (.aload_n 0, 1) := by decide +kernel
theorem d_N_init_30 : decode prog_3_method_1_code 30 = .ok (.iconst 0, 1) := by decide +kernel
theorem d_N_init_31 : decode prog_3_method_1_code 31 = .ok (.putfield 28, 3) := by decide +kernel
theorem d_N_init_34 : decode prog_3_method_1_code 34 = .ok (.aload_n 0, 1) := by decide +kernel
theorem d_N_init_35 : decode prog_3_method_1_code 35 = .ok (.iconst (-1), 1) := by decide +kernel
theorem d_N_init_36 : decode prog_3_method_1_code 36 = .ok (.putfield 32, 3) := by decide +kernel
theorem d_N_init_39 : decode prog_3_method_1_code 39 = .ok (.aload_n 0, 1) := by decide +kernel
theorem d_N_init_40 : decode prog_3_method_1_code 40 = .ok (.iload_n 1, 1) := by decide +kernel
theorem d_N_init_41 : decode prog_3_method_1_code 41 = .ok (.putfield 35, 3) := by decide +kernel
theorem d_N_init_44 : decode prog_3_method_1_code 44 = .ok (.aload_n 0, 1) := by decide +kernel
theorem d_N_init_45 : decode prog_3_method_1_code 45 = .ok (.iload_n 2, 1) := by decide +kernel
theorem d_N_init_46 : decode prog_3_method_1_code 46 = .ok (.putfield 38, 3) := by decide +kernel
theorem d_N_init_49 : decode prog_3_method_1_code 49 = .ok (.aload_n 0, 1) := by decide +kernel
theorem d_N_init_50 : decode prog_3_method_1_code 50 = .ok (.aload_n 3, 1) := by decide +kernel
theorem d_N_init_51 : decode prog_3_method_1_code 51 = .ok (.putfield 41, 3) := by decide +kernel
theorem d_N_init_54 : decode prog_3_method_1_code 54 = .ok (.return_, 1) := by decide +kernel

theorem d_N_follow_0 : decode prog_3_method_3_code 0 = .ok (.aload_n 0, 1) := by decide +kernel
theorem d_N_follow_1 : decode prog_3_method_3_code 1 = .ok (.aload_n 1, 1) := by decide +kernel
theorem d_N_follow_2 : decode prog_3_method_3_code 2 = .ok (.putfield 18, 3) := by decide +kernel
theorem d_N_follow_5 : decode prog_3_method_3_code 5 = .ok (.aload_n 0, 1) := by decide +kernel
theorem d_N_follow_6 : decode prog_3_method_3_code 6 = .ok (.aload_n 1, 1) := by decide +kernel
theorem d_N_follow_7 : decode prog_3_method_3_code 7 = .ok (.getfield 9, 3) := by decide +kernel
theorem d_N_follow_10 : decode prog_3_method_3_code 10 = .ok (.iconst 1, 1) := by decide +kernel
theorem d_N_follow_11 : decode prog_3_method_3_code 11 = .ok (.iadd, 1) := by decide +kernel
theorem d_N_follow_12 : decode prog_3_method_3_code 12 = .ok (.putfield 9, 3) := by decide +kernel
theorem d_N_follow_15 : decode prog_3_method_3_code 15 = .ok (.return_, 1) := by decide +kernel
theorem d_Rp_init_0 : decode prog_5_method_1_code 0 = .ok (.aload_n 0, 1) := by decide +kernel
theorem d_Rp_init_1 : decode prog_5_method_1_code 1 = .ok (.invokespecial 1, 3) := by decide +kernel
theorem d_Rp_init_4 : decode prog_5_method_1_code 4 = .ok (.aload_n 0, 1) := by decide +kernel
theorem d_Rp_init_5 : decode prog_5_method_1_code 5 = .ok (.aload_n 1, 1) := by decide +kernel
theorem d_Rp_init_6 : decode prog_5_method_1_code 6 = .ok (.putfield 7, 3) := by decide +kernel
theorem d_Rp_init_9 : decode prog_5_method_1_code 9 = .ok (.aload_n 0, 1) := by decide +kernel
theorem d_Rp_init_10 : decode prog_5_method_1_code 10 = .ok (.iload_n 2, 1) := by decide +kernel
theorem d_Rp_init_11 : decode prog_5_method_1_code 11 = .ok (.putfield 13, 3) := by decide +kernel
theorem d_Rp_init_14 : decode prog_5_method_1_code 14 = .ok (.aload_n 0, 1) := by decide +kernel
theorem d_Rp_init_15 : decode prog_5_method_1_code 15 = .ok (.iload_n 3, 1) := by decide +kernel
theorem d_Rp_init_16 : decode prog_5_method_1_code 16 = .ok (.putfield 17, 3) := by decide +kernel
theorem d_Rp_init_19 : decode prog_5_method_1_code 19 = .ok (.aload_n 0, 1) := by decide +kernel
theorem d_Rp_init_20 : decode prog_5_method_1_code 20 = .ok (.iload 4, 2) := by decide +kernel
theorem d_Rp_init_22 : decode prog_5_method_1_code 22 = .ok (.putfield 20, 3) := by decide +kernel
theorem d_Rp_init_25 : decode prog_5_method_1_code 25 = .ok (.return_, 1) := by decide +kernel
theorem d_Me_init_0 : decode prog_2_method_1_code 0 = .ok (.aload_n 0, 1) := by decide +kernel
theorem d_Me_init_1 : decode prog_2_method_1_code 1 = .ok (.invokespecial 3, 3) := by decide +kernel
theorem d_Me_init_4 : decode prog_2_method_1_code 4 = .ok (.aload_n 0, 1) := by decide +kernel
theorem d_Me_init_5 : decode prog_2_method_1_code 5 = .ok (.aload_n 1, 1) := by decide +kernel
theorem d_Me_init_6 : decode prog_2_method_1_code 6 = .ok (.putfield 9, 3) := by decide +kernel
theorem d_Me_init_9 : decode prog_2_method_1_code 9 = .ok (.aload_n 0, 1) := by decide +kernel
theorem d_Me_init_10 : decode prog_2_method_1_code 10 = .ok (.aload_n 2, 1) := by decide +kernel
theorem d_Me_init_11 : decode prog_2_method_1_code 11 = .ok (.putfield 15, 3) := by decide +kernel
theorem d_Me_init_14 : decode prog_2_method_1_code 14 = .ok (.aload_n 0, 1) := by decide +kernel
theorem d_Me_init_15 : decode prog_2_method_1_code 15 = .ok (.aload_n 3, 1) := by decide +kernel
theorem d_Me_init_16 : decode prog_2_method_1_code 16 = .ok (.putfield 18, 3) := by decide +kernel
theorem d_Me_init_19 : decode prog_2_method_1_code 19 = .ok (.return_, 1) := by decide +kernel
theorem d_Tr_at_0 : decode prog_8_method_2_code 0 = .ok (.iload_n 1, 1) := by decide +kernel
theorem d_Tr_at_1 : decode prog_8_method_2_code 1 = .ok (.ifCond .lt 18, 3) := by decide +kernel
theorem d_Tr_at_4 : decode prog_8_method_2_code 4 = .ok (.iload_n 1, 1) := by decide +kernel
theorem d_Tr_at_5 : decode prog_8_method_2_code 5 = .ok (.bipush 125, 2) := by decide +kernel
theorem d_Tr_at_7 : decode prog_8_method_2_code 7 = .ok (.if_icmp .ge 12, 3) := by decide +kernel
theorem d_Tr_at_10 : decode prog_8_method_2_code 10 = .ok (.aload_n 0, 1) := by decide +kernel
theorem d_Tr_at_11 : decode prog_8_method_2_code 11 = .ok (.getfield 13, 3) := by decide +kernel
theorem d_Tr_at_14 : decode prog_8_method_2_code 14 = .ok (.iload_n 1, 1) := by decide +kernel
theorem d_Tr_at_15 : decode prog_8_method_2_code 15 = .ok (.aaload, 1) := by decide +kernel
theorem d_Tr_at_16 : decode prog_8_method_2_code 16 = .ok (.goto 4, 3) := by decide +kernel
theorem d_Tr_at_19 : decode prog_8_method_2_code 19 = .ok (.aconst_null, 1) := by decide +kernel
theorem d_Tr_at_20 : decode prog_8_method_2_code 20 = .ok (.areturn, 1) := by decide +kernel
set_option maxHeartbeats 4000000 in
set_option maxRecDepth 100000 in
theorem c_Te_init {l : Launch} {E : Ev} {M : mp_M} {sz : Nat} {a0 D z : Nat} (he0 : M a0 = some (.inr (4, [.long 0, .int 0]))) (hD : D < 2 ^ 64) (hz : z < 13) : MCv l E y_Te_init prog_6_method_1_code 4 none 1 20 0 0 [.ref a0, .long (lN D), .int (nI z)] M sz (fun M' => M' = mp_up M a0 (.inr (4, [.long (lN (D % 2 ^ (4 * z))), .int (nI z)]))) := by
  refine mc_of R_Te rfl [some (.ref a0), some (.long (lN D)), none, some (.int (nI z))] (by decide) (Nat.le_of_ble_eq_true rfl) rfl ?_
  intro p e R s m ag below meth c ls Q A X hAe hQ hR hsz hw hl
  rw [← hAe] at hQ
  obtain ⟨⟨hx, hb, hml, hown, hts⟩, hE, hA, hr, hlk, hnm⟩ := X
  have hK := hE.1
  first | refine x_aload_n hx hb d_Te_init_0 hl rfl ?_ | refine x_aload_nQ hx hb d_Te_init_0 hl rfl ?_
  refine W.objInit hx hb hown (hts _ (wm1 62 rfl rfl)) (hts _ (wm1 25 rfl rfl)) (hts _ (wm1 26 rfl rfl)) rfl (hl.1.trans hml.symm) rfl d_Te_init_1 (Nat.le_trans (Nat.le_of_ble_eq_true rfl) hR.1) (Nat.le_trans (Nat.le_of_ble_eq_true rfl) hR.2.1) ?_
  refine W.eq (g2 := F0 m 4 ls []) rfl ?_
  first | refine x_aload_n hx hb d_Te_init_4 hl rfl ?_ | refine x_aload_nQ hx hb d_Te_init_4 hl rfl ?_
  refine x_lload_n hx hb d_Te_init_5 hl rfl ?_
  refine lv_lconst (v := 1) hx hb d_Te_init_6 (by decide) ?_
  refine lv_iconst (v := nI 4) hx hb d_Te_init_7 (by decide) ?_
  refine x_iload_n hx hb d_Te_init_8 hl rfl ?_
  first | refine x_imul hx hb d_Te_init_9 ?_ | refine lv_imul hx hb d_Te_init_9 ?_
  refine lv_lshl hx hb d_Te_init_10 rfl ?_
  refine lv_lconst (v := 1) hx hb d_Te_init_11 (by decide) ?_
  refine lv_lsub hx hb d_Te_init_12 ?_
  refine lv_land hx hb d_Te_init_13 ?_
  rw [msk hD hz]
  refine m_putF hx hb hts hown hK hw ci_Te he0 0 (by decide) (wm1 63 rfl rfl) rfl hnm rfl (by first | rfl | exact nar_bz | exact nar_q) (by first | rfl | exact fit_bz | exact fit_q) (Nat.le_of_ble_eq_true rfl) d_Te_init_14 (fun H locs hw => ?_)
  first | rw [mp_up_up] at hw | skip
  have he0 := put_he hw
  first | refine x_aload_n hx hb d_Te_init_17 hl rfl ?_ | refine x_aload_nQ hx hb d_Te_init_17 hl rfl ?_
  refine x_iload_n hx hb d_Te_init_18 hl rfl ?_
  refine m_putF hx hb hts hown hK hw ci_Te he0 1 (by decide) (wm1 65 rfl rfl) rfl hnm rfl (by first | rfl | exact nar_bz | exact nar_q) (by first | rfl | exact fit_bz | exact fit_q) (Nat.le_of_ble_eq_true rfl) d_Te_init_19 (fun H locs hw => ?_)
  first | rw [mp_up_up] at hw | skip
  have he0 := put_he hw
  exact x_retv hQ hx hb hr hlk hw (by omega) (by omega) d_Te_init_22 (rfl)

set_option maxHeartbeats 4000000 in
set_option maxRecDepth 100000 in
theorem c_N_init {l : Launch} {E : Ev} {M : mp_M} {sz : Nat} {a0 tx : Nat} {ln : Int32} {d : Bool} (he0 : M a0 = some (.inr (3, [.int 0, .int 0, .null, .int 0, .int 0, .null, .int 0, .int 0, .int 0, .int 0]))) : MCv l E y_N_init prog_3_method_1_code 4 none 1 20 0 0 [.ref a0, .int ln, .int (bz d), .ref tx] M sz (fun M' => M' = mp_up M a0 (.inr (3, [.int ln, .int (bz d), .ref tx, .int (nI 0), .int (-1), .null, .int (-1), .int (-1), .int (nI 0), .int (-1)]))) := by
  refine mc_of R_N rfl [some (.ref a0), some (.int ln), some (.int (bz d)), some (.ref tx)] (by decide) (Nat.le_of_ble_eq_true rfl) rfl ?_
  intro p e R s m ag below meth c ls Q A X hAe hQ hR hsz hw hl
  rw [← hAe] at hQ
  obtain ⟨⟨hx, hb, hml, hown, hts⟩, hE, hA, hr, hlk, hnm⟩ := X
  have hK := hE.1
  first | refine x_aload_n hx hb d_N_init_0 hl rfl ?_ | refine x_aload_nQ hx hb d_N_init_0 hl rfl ?_
  refine W.objInit hx hb hown (hts _ (wm1 108 rfl rfl)) (hts _ (wm1 25 rfl rfl)) (hts _ (wm1 26 rfl rfl)) rfl (hl.1.trans hml.symm) rfl d_N_init_1 (Nat.le_trans (Nat.le_of_ble_eq_true rfl) hR.1) (Nat.le_trans (Nat.le_of_ble_eq_true rfl) hR.2.1) ?_
  refine W.eq (g2 := F0 m 4 ls []) rfl ?_
  first | refine x_aload_n hx hb d_N_init_4 hl rfl ?_ | refine x_aload_nQ hx hb d_N_init_4 hl rfl ?_
  refine lv_iconst (v := nI 0) hx hb d_N_init_5 (by decide) ?_
  refine m_put hx hb hts hown hK hw ci_N he0 3 (by decide) (wm1 118 rfl rfl) rfl (by first | rfl | exact nar_bz | exact nar_q) (by first | rfl | exact fit_bz | exact fit_q) (Nat.le_of_ble_eq_true rfl) d_N_init_6 (fun H locs hw => ?_)
  first | rw [mp_up_up] at hw | skip
  have he0 := put_he hw
  first | refine x_aload_n hx hb d_N_init_9 hl rfl ?_ | refine x_aload_nQ hx hb d_N_init_9 hl rfl ?_
  refine lv_iconst (v := -1) hx hb d_N_init_10 (by decide) ?_
  refine m_put hx hb hts hown hK hw ci_N he0 4 (by decide) (wm1 120 rfl rfl) rfl (by first | rfl | exact nar_bz | exact nar_q) (by first | rfl | exact fit_bz | exact fit_q) (Nat.le_of_ble_eq_true rfl) d_N_init_11 (fun H locs hw => ?_)
  first | rw [mp_up_up] at hw | skip
  have he0 := put_he hw
  first | refine x_aload_n hx hb d_N_init_14 hl rfl ?_ | refine x_aload_nQ hx hb d_N_init_14 hl rfl ?_
  refine lv_null hx hb d_N_init_15 ?_
  refine m_put hx hb hts hown hK hw ci_N he0 5 (by decide) (wm1 124 rfl rfl) rfl (by first | rfl | exact nar_bz | exact nar_q) (by first | rfl | exact fit_bz | exact fit_q) (Nat.le_of_ble_eq_true rfl) d_N_init_16 (fun H locs hw => ?_)
  first | rw [mp_up_up] at hw | skip
  have he0 := put_he hw
  first | refine x_aload_n hx hb d_N_init_19 hl rfl ?_ | refine x_aload_nQ hx hb d_N_init_19 hl rfl ?_
  refine lv_iconst (v := -1) hx hb d_N_init_20 (by decide) ?_
  refine m_put hx hb hts hown hK hw ci_N he0 6 (by decide) (wm1 125 rfl rfl) rfl (by first | rfl | exact nar_bz | exact nar_q) (by first | rfl | exact fit_bz | exact fit_q) (Nat.le_of_ble_eq_true rfl) d_N_init_21 (fun H locs hw => ?_)
  first | rw [mp_up_up] at hw | skip
  have he0 := put_he hw
  first | refine x_aload_n hx hb d_N_init_24 hl rfl ?_ | refine x_aload_nQ hx hb d_N_init_24 hl rfl ?_
  refine lv_iconst (v := -1) hx hb d_N_init_25 (by decide) ?_
  refine m_put hx hb hts hown hK hw ci_N he0 7 (by decide) (wm1 128 rfl rfl) rfl (by first | rfl | exact nar_bz | exact nar_q) (by first | rfl | exact fit_bz | exact fit_q) (Nat.le_of_ble_eq_true rfl) d_N_init_26 (fun H locs hw => ?_)
  first | rw [mp_up_up] at hw | skip
  have he0 := put_he hw
  first | refine x_aload_n hx hb d_N_init_29 hl rfl ?_ | refine x_aload_nQ hx hb d_N_init_29 hl rfl ?_
  refine lv_iconst (v := nI 0) hx hb d_N_init_30 (by decide) ?_
  refine m_put hx hb hts hown hK hw ci_N he0 8 (by decide) (wm1 130 rfl rfl) rfl (by first | rfl | exact nar_bz | exact nar_q) (by first | rfl | exact fit_bz | exact fit_q) (Nat.le_of_ble_eq_true rfl) d_N_init_31 (fun H locs hw => ?_)
  first | rw [mp_up_up] at hw | skip
  have he0 := put_he hw
  first | refine x_aload_n hx hb d_N_init_34 hl rfl ?_ | refine x_aload_nQ hx hb d_N_init_34 hl rfl ?_
  refine lv_iconst (v := -1) hx hb d_N_init_35 (by decide) ?_
  refine m_put hx hb hts hown hK hw ci_N he0 9 (by decide) (wm1 133 rfl rfl) rfl (by first | rfl | exact nar_bz | exact nar_q) (by first | rfl | exact fit_bz | exact fit_q) (Nat.le_of_ble_eq_true rfl) d_N_init_36 (fun H locs hw => ?_)
  first | rw [mp_up_up] at hw | skip
  have he0 := put_he hw
  first | refine x_aload_n hx hb d_N_init_39 hl rfl ?_ | refine x_aload_nQ hx hb d_N_init_39 hl rfl ?_
  refine x_iload_n hx hb d_N_init_40 hl rfl ?_
  refine m_putF hx hb hts hown hK hw ci_N he0 0 (by decide) (wm1 109 rfl rfl) rfl hnm rfl (by first | rfl | exact nar_bz | exact nar_q) (by first | rfl | exact fit_bz | exact fit_q) (Nat.le_of_ble_eq_true rfl) d_N_init_41 (fun H locs hw => ?_)
  first | rw [mp_up_up] at hw | skip
  have he0 := put_he hw
  first | refine x_aload_n hx hb d_N_init_44 hl rfl ?_ | refine x_aload_nQ hx hb d_N_init_44 hl rfl ?_
  refine x_iload_n hx hb d_N_init_45 hl rfl ?_
  refine m_putF hx hb hts hown hK hw ci_N he0 1 (by decide) (wm1 113 rfl rfl) rfl hnm rfl (by first | rfl | exact nar_bz | exact nar_q) (by first | rfl | exact fit_bz | exact fit_q) (Nat.le_of_ble_eq_true rfl) d_N_init_46 (fun H locs hw => ?_)
  first | rw [mp_up_up] at hw | skip
  have he0 := put_he hw
  first | refine x_aload_n hx hb d_N_init_49 hl rfl ?_ | refine x_aload_nQ hx hb d_N_init_49 hl rfl ?_
  first | refine x_aload_n hx hb d_N_init_50 hl rfl ?_ | refine x_aload_nQ hx hb d_N_init_50 hl rfl ?_
  refine m_put hx hb hts hown hK hw ci_N he0 2 (by decide) (wm1 115 rfl rfl) rfl (by first | rfl | exact nar_bz | exact nar_q) (by first | rfl | exact fit_bz | exact fit_q) (Nat.le_of_ble_eq_true rfl) d_N_init_51 (fun H locs hw => ?_)
  first | rw [mp_up_up] at hw | skip
  have he0 := put_he hw
  exact x_retv hQ hx hb hr hlk hw (by omega) (by omega) d_N_init_54 (rfl)

set_option maxHeartbeats 4000000 in
set_option maxRecDepth 100000 in
theorem c_Rp_init {l : Launch} {E : Ev} {M : mp_M} {sz : Nat} {a0 tx : Nat} {b c0 k : Int32} (he0 : M a0 = some (.inr (5, [.null, .int 0, .int 0, .int 0]))) : MCv l E y_Rp_init prog_5_method_1_code 5 none 1 20 0 0 [.ref a0, .ref tx, .int b, .int c0, .int k] M sz (fun M' => M' = mp_up M a0 (.inr (5, [.ref tx, .int b, .int c0, .int k]))) := by
  refine mc_of R_Rp rfl [some (.ref a0), some (.ref tx), some (.int b), some (.int c0), some (.int k)] (by decide) (Nat.le_of_ble_eq_true rfl) rfl ?_
  intro p e R s m ag below meth c ls Q A X hAe hQ hR hsz hw hl
  rw [← hAe] at hQ
  obtain ⟨⟨hx, hb, hml, hown, hts⟩, hE, hA, hr, hlk, hnm⟩ := X
  have hK := hE.1
  first | refine x_aload_n hx hb d_Rp_init_0 hl rfl ?_ | refine x_aload_nQ hx hb d_Rp_init_0 hl rfl ?_
  refine W.objInit hx hb hown (hts _ (wm2 166 rfl rfl)) (hts _ (wm1 25 rfl rfl)) (hts _ (wm1 26 rfl rfl)) rfl (hl.1.trans hml.symm) rfl d_Rp_init_1 (Nat.le_trans (Nat.le_of_ble_eq_true rfl) hR.1) (Nat.le_trans (Nat.le_of_ble_eq_true rfl) hR.2.1) ?_
  refine W.eq (g2 := F0 m 4 ls []) rfl ?_
  first | refine x_aload_n hx hb d_Rp_init_4 hl rfl ?_ | refine x_aload_nQ hx hb d_Rp_init_4 hl rfl ?_
  first | refine x_aload_n hx hb d_Rp_init_5 hl rfl ?_ | refine x_aload_nQ hx hb d_Rp_init_5 hl rfl ?_
  refine m_putF hx hb hts hown hK hw ci_Rp he0 0 (by decide) (wm2 167 rfl rfl) rfl hnm rfl (by first | rfl | exact nar_bz | exact nar_q) (by first | rfl | exact fit_bz | exact fit_q) (Nat.le_of_ble_eq_true rfl) d_Rp_init_6 (fun H locs hw => ?_)
  first | rw [mp_up_up] at hw | skip
  have he0 := put_he hw
  first | refine x_aload_n hx hb d_Rp_init_9 hl rfl ?_ | refine x_aload_nQ hx hb d_Rp_init_9 hl rfl ?_
  refine x_iload_n hx hb d_Rp_init_10 hl rfl ?_
  refine m_putF hx hb hts hown hK hw ci_Rp he0 1 (by decide) (wm2 169 rfl rfl) rfl hnm rfl (by first | rfl | exact nar_bz | exact nar_q) (by first | rfl | exact fit_bz | exact fit_q) (Nat.le_of_ble_eq_true rfl) d_Rp_init_11 (fun H locs hw => ?_)
  first | rw [mp_up_up] at hw | skip
  have he0 := put_he hw
  first | refine x_aload_n hx hb d_Rp_init_14 hl rfl ?_ | refine x_aload_nQ hx hb d_Rp_init_14 hl rfl ?_
  refine x_iload_n hx hb d_Rp_init_15 hl rfl ?_
  refine m_putF hx hb hts hown hK hw ci_Rp he0 2 (by decide) (wm2 171 rfl rfl) rfl hnm rfl (by first | rfl | exact nar_bz | exact nar_q) (by first | rfl | exact fit_bz | exact fit_q) (Nat.le_of_ble_eq_true rfl) d_Rp_init_16 (fun H locs hw => ?_)
  first | rw [mp_up_up] at hw | skip
  have he0 := put_he hw
  first | refine x_aload_n hx hb d_Rp_init_19 hl rfl ?_ | refine x_aload_nQ hx hb d_Rp_init_19 hl rfl ?_
  refine x_iload hx hb d_Rp_init_20 hl rfl ?_
  refine m_putF hx hb hts hown hK hw ci_Rp he0 3 (by decide) (wm2 173 rfl rfl) rfl hnm rfl (by first | rfl | exact nar_bz | exact nar_q) (by first | rfl | exact fit_bz | exact fit_q) (Nat.le_of_ble_eq_true rfl) d_Rp_init_22 (fun H locs hw => ?_)
  first | rw [mp_up_up] at hw | skip
  have he0 := put_he hw
  exact x_retv hQ hx hb hr hlk hw (by omega) (by omega) d_Rp_init_25 (rfl)

set_option maxHeartbeats 4000000 in
set_option maxRecDepth 100000 in
theorem c_Me_init {l : Launch} {E : Ev} {M : mp_M} {sz : Nat} {a0 t1 t2 t3 : Nat} (he0 : M a0 = some (.inr (6, [.null, .null, .null]))) : MCv l E y_Me_init prog_2_method_1_code 4 none 1 20 0 0 [.ref a0, .ref t1, .ref t2, .ref t3] M sz (fun M' => M' = mp_up M a0 (.inr (6, [.ref t1, .ref t2, .ref t3]))) := by
  refine mc_of R_Me rfl [some (.ref a0), some (.ref t1), some (.ref t2), some (.ref t3)] (by decide) (Nat.le_of_ble_eq_true rfl) rfl ?_
  intro p e R s m ag below meth c ls Q A X hAe hQ hR hsz hw hl
  rw [← hAe] at hQ
  obtain ⟨⟨hx, hb, hml, hown, hts⟩, hE, hA, hr, hlk, hnm⟩ := X
  have hK := hE.1
  first | refine x_aload_n hx hb d_Me_init_0 hl rfl ?_ | refine x_aload_nQ hx hb d_Me_init_0 hl rfl ?_
  refine W.objInit hx hb hown (hts _ (wm2 59 rfl rfl)) (hts _ (wm1 25 rfl rfl)) (hts _ (wm1 26 rfl rfl)) rfl (hl.1.trans hml.symm) rfl d_Me_init_1 (Nat.le_trans (Nat.le_of_ble_eq_true rfl) hR.1) (Nat.le_trans (Nat.le_of_ble_eq_true rfl) hR.2.1) ?_
  refine W.eq (g2 := F0 m 4 ls []) rfl ?_
  first | refine x_aload_n hx hb d_Me_init_4 hl rfl ?_ | refine x_aload_nQ hx hb d_Me_init_4 hl rfl ?_
  first | refine x_aload_n hx hb d_Me_init_5 hl rfl ?_ | refine x_aload_nQ hx hb d_Me_init_5 hl rfl ?_
  refine m_putF hx hb hts hown hK hw ci_Me he0 0 (by decide) (wm2 60 rfl rfl) rfl hnm rfl (by first | rfl | exact nar_bz | exact nar_q) (by first | rfl | exact fit_bz | exact fit_q) (Nat.le_of_ble_eq_true rfl) d_Me_init_6 (fun H locs hw => ?_)
  first | rw [mp_up_up] at hw | skip
  have he0 := put_he hw
  first | refine x_aload_n hx hb d_Me_init_9 hl rfl ?_ | refine x_aload_nQ hx hb d_Me_init_9 hl rfl ?_
  first | refine x_aload_n hx hb d_Me_init_10 hl rfl ?_ | refine x_aload_nQ hx hb d_Me_init_10 hl rfl ?_
  refine m_putF hx hb hts hown hK hw ci_Me he0 1 (by decide) (wm2 61 rfl rfl) rfl hnm rfl (by first | rfl | exact nar_bz | exact nar_q) (by first | rfl | exact fit_bz | exact fit_q) (Nat.le_of_ble_eq_true rfl) d_Me_init_11 (fun H locs hw => ?_)
  first | rw [mp_up_up] at hw | skip
  have he0 := put_he hw
  first | refine x_aload_n hx hb d_Me_init_14 hl rfl ?_ | refine x_aload_nQ hx hb d_Me_init_14 hl rfl ?_
  first | refine x_aload_n hx hb d_Me_init_15 hl rfl ?_ | refine x_aload_nQ hx hb d_Me_init_15 hl rfl ?_
  refine m_putF hx hb hts hown hK hw ci_Me he0 2 (by decide) (wm2 62 rfl rfl) rfl hnm rfl (by first | rfl | exact nar_bz | exact nar_q) (by first | rfl | exact fit_bz | exact fit_q) (Nat.le_of_ble_eq_true rfl) d_Me_init_16 (fun H locs hw => ?_)
  first | rw [mp_up_up] at hw | skip
  have he0 := put_he hw
  exact x_retv hQ hx hb hr hlk hw (by omega) (by omega) d_Me_init_19 (rfl)

set_option maxHeartbeats 4000000 in
set_option maxRecDepth 100000 in
theorem c_N_follow {l : Launch} {E : Ev} {M : mp_M} {sz : Nat} {a0 a1 k : Nat} {x0 x1 x2 x3 x4 x5 x6 x7 x8 x9 y0 y1 y2 y4 y5 y6 y7 y8 y9 : Value} (he0 : M a0 = some (.inr (3, [x0, x1, x2, x3, x4, x5, x6, x7, x8, x9]))) (he1 : M a1 = some (.inr (3, [y0, y1, y2, .int (nI k), y4, y5, y6, y7, y8, y9]))) (hne : a1 ≠ a0) : MCv l E y_N_follow prog_3_method_3_code 2 none 0 0 0 0 [.ref a0, .ref a1] M sz (fun M' => M' = mp_up M a0 (.inr (3, [x0, x1, x2, .int (nI (k + 1)), x4, .ref a1, x6, x7, x8, x9]))) := by
  refine mc_of R_N rfl [some (.ref a0), some (.ref a1)] (by decide) (Nat.le_of_ble_eq_true rfl) rfl ?_
  intro p e R s m ag below meth c ls Q A X hAe hQ hR hsz hw hl
  rw [← hAe] at hQ
  obtain ⟨⟨hx, hb, hml, hown, hts⟩, hE, hA, hr, hlk, hnm⟩ := X
  have hK := hE.1
  first | refine x_aload_n hx hb d_N_follow_0 hl rfl ?_ | refine x_aload_nQ hx hb d_N_follow_0 hl rfl ?_
  first | refine x_aload_n hx hb d_N_follow_1 hl rfl ?_ | refine x_aload_nQ hx hb d_N_follow_1 hl rfl ?_
  refine m_put hx hb hts hown hK hw ci_N he0 5 (by decide) (wm1 124 rfl rfl) rfl (by first | rfl | exact nar_bz | exact nar_q) (by first | rfl | exact fit_bz | exact fit_q) (Nat.le_of_ble_eq_true rfl) d_N_follow_2 (fun H locs hw => ?_)
  have he0 := put_he hw
  have he1 := (mp_up_n (e := .inr (3, [x0, x1, x2, x3, x4, .ref a1, x6, x7, x8, x9])) hne).trans he1
  first | refine x_aload_n hx hb d_N_follow_5 hl rfl ?_ | refine x_aload_nQ hx hb d_N_follow_5 hl rfl ?_
  first | refine x_aload_n hx hb d_N_follow_6 hl rfl ?_ | refine x_aload_nQ hx hb d_N_follow_6 hl rfl ?_
  refine m_get hx hb hts hown hK hw ci_N he1 3 (by decide) (wm1 118 rfl rfl) rfl d_N_follow_7 ?_
  refine lv_iconst (v := nI 1) hx hb d_N_follow_10 (by decide) ?_
  first | refine x_iadd hx hb d_N_follow_11 ?_ | refine lv_iadd hx hb d_N_follow_11 ?_
  refine m_put hx hb hts hown hK hw ci_N he0 3 (by decide) (wm1 118 rfl rfl) rfl (by first | rfl | exact nar_bz | exact nar_q) (by first | rfl | exact fit_bz | exact fit_q) (Nat.le_of_ble_eq_true rfl) d_N_follow_12 (fun H locs hw => ?_)
  first | rw [mp_up_up] at hw | skip
  have he0 := put_he hw
  exact x_retv hQ hx hb hr hlk hw (by omega) (by omega) d_N_follow_15 (rfl)

set_option maxHeartbeats 4000000 in
set_option maxRecDepth 100000 in
theorem c_Tr_at {l : Launch} {E : Ev} {M : mp_M} {sz : Nat} {a0 ar : Nat} {x : Int32} {f : Nat → Option Nat} (he0 : M a0 = some (.inr (1, [.ref ar]))) (hear : M ar = some (refs E f)) : MCq l E y_Tr_at prog_8_method_2_code 2 (some (.object "TreeRevisions$Node")) 0 0 0 0 [.ref a0, .int x] M sz (fun r M' => r = tat f x ∧ M' = M) := by
  refine mc_of R_Tr rfl [some (.ref a0), some (.int x)] (by decide) (Nat.le_of_ble_eq_true rfl) rfl ?_
  intro p e R s m ag below meth c ls Q A X hAe hQ hR hsz hw hl
  rw [← hAe] at hQ
  obtain ⟨⟨hx, hb, hml, hown, hts⟩, hE, hA, hr, hlk, hnm⟩ := X
  have hK := hE.1
  refine x_iload_n hx hb d_Tr_at_0 hl rfl ?_
  refine lv_if_lt hx hb d_Tr_at_1 rfl (fun h1 => ?_) (fun h1 => ?_)
  · refine lv_null hx hb d_Tr_at_19 ?_
    first | exact x_retr hQ hx hb hr hlk hw (by omega) (by omega) d_Tr_at_20 (⟨by first | exact (tat_n hk).symm | exact (tat_b (ix_lt h1)).symm | exact (tat_b (ix_ge (fun z => nle_of z h7))).symm, rfl⟩) | exact x_retq (v := none) hQ hx hb hr hlk hw (by omega) (by omega) d_Tr_at_20 (⟨by first | exact (tat_n hk).symm | exact (tat_b (ix_lt h1)).symm | exact (tat_b (ix_ge (fun z => nle_of z h7))).symm, rfl⟩) | exact x_retq hQ hx hb hr hlk hw (by omega) (by omega) d_Tr_at_20 (⟨by first | exact (tat_n hk).symm | exact (tat_b (ix_lt h1)).symm | exact (tat_b (ix_ge (fun z => nle_of z h7))).symm, rfl⟩)
  · refine x_iload_n hx hb d_Tr_at_4 hl rfl ?_
    refine lv_bipush (v := nI 125) hx hb d_Tr_at_5 (by decide) ?_
    refine lv_icmp_ge hx hb d_Tr_at_7 rfl (fun h7 => ?_) (fun h7 => ?_)
    · refine lv_null hx hb d_Tr_at_19 ?_
      first | exact x_retr hQ hx hb hr hlk hw (by omega) (by omega) d_Tr_at_20 (⟨by first | exact (tat_n hk).symm | exact (tat_b (ix_lt h1)).symm | exact (tat_b (ix_ge (fun z => nle_of z h7))).symm, rfl⟩) | exact x_retq (v := none) hQ hx hb hr hlk hw (by omega) (by omega) d_Tr_at_20 (⟨by first | exact (tat_n hk).symm | exact (tat_b (ix_lt h1)).symm | exact (tat_b (ix_ge (fun z => nle_of z h7))).symm, rfl⟩) | exact x_retq hQ hx hb hr hlk hw (by omega) (by omega) d_Tr_at_20 (⟨by first | exact (tat_n hk).symm | exact (tat_b (ix_lt h1)).symm | exact (tat_b (ix_ge (fun z => nle_of z h7))).symm, rfl⟩)
    · obtain ⟨k, hk, rfl⟩ := nI_of3b (M := nI 125) (n := 125) (by decide) h1 h7
      first | refine x_aload_n hx hb d_Tr_at_10 hl rfl ?_ | refine x_aload_nQ hx hb d_Tr_at_10 hl rfl ?_
      refine m_get hx hb hts hown hK hw ci_Tr he0 0 (by decide) (wm1 79 rfl rfl) rfl d_Tr_at_11 ?_
      refine x_iload_n hx hb d_Tr_at_14 hl rfl ?_
      refine m_aald hx hb hK hw 0 hear rfl (by omega) (by decide) rfl d_Tr_at_15 ?_
      refine lv_goto hx hb d_Tr_at_16 rfl ?_
      first | exact x_retr hQ hx hb hr hlk hw (by omega) (by omega) d_Tr_at_20 (⟨by first | exact (tat_n hk).symm | exact (tat_b (ix_lt h1)).symm | exact (tat_b (ix_ge (fun z => nle_of z h7))).symm, rfl⟩) | exact x_retq (v := none) hQ hx hb hr hlk hw (by omega) (by omega) d_Tr_at_20 (⟨by first | exact (tat_n hk).symm | exact (tat_b (ix_lt h1)).symm | exact (tat_b (ix_ge (fun z => nle_of z h7))).symm, rfl⟩) | exact x_retq hQ hx hb hr hlk hw (by omega) (by omega) d_Tr_at_20 (⟨by first | exact (tat_n hk).symm | exact (tat_b (ix_lt h1)).symm | exact (tat_b (ix_ge (fun z => nle_of z h7))).symm, rfl⟩)
