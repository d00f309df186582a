theorem d_M_allowed_0 : decode prog_10_method_27_code 0 = .ok (.iconst 0, 1) := by decide +kernel
theorem d_M_allowed_1 : decode prog_10_method_27_code 1 = .ok (.istore_n 1, 1) := by decide +kernel
theorem d_M_allowed_2 : decode prog_10_method_27_code 2 = .ok (.iload_n 1, 1) := by decide +kernel
theorem d_M_allowed_3 : decode prog_10_method_27_code 3 = .ok (.bipush 20, 2) := by decide +kernel
theorem d_M_allowed_5 : decode prog_10_method_27_code 5 = .ok (.if_icmp .ge 20, 3) := by decide +kernel
theorem d_M_allowed_8 : decode prog_10_method_27_code 8 = .ok (.iconst 1, 1) := by decide +kernel
theorem d_M_allowed_9 : decode prog_10_method_27_code 9 = .ok (.iload_n 1, 1) := by decide +kernel
theorem d_M_allowed_10 : decode prog_10_method_27_code 10 = .ok (.iconst 1, 1) := by decide +kernel
theorem d_M_allowed_11 : decode prog_10_method_27_code 11 = .ok (.iadd, 1) := by decide +kernel
theorem d_M_allowed_12 : decode prog_10_method_27_code 12 = .ok (.ishl, 1) := by decide +kernel
theorem d_M_allowed_13 : decode prog_10_method_27_code 13 = .ok (.iconst 1, 1) := by decide +kernel
theorem d_M_allowed_14 : decode prog_10_method_27_code 14 = .ok (.iload_n 0, 1) := by decide +kernel
theorem d_M_allowed_15 : decode prog_10_method_27_code 15 = .ok (.iadd, 1) := by decide +kernel
theorem d_M_allowed_16 : decode prog_10_method_27_code 16 = .ok (.if_icmp .gt 9, 3) := by decide +kernel
theorem d_M_allowed_19 : decode prog_10_method_27_code 19 = .ok (.iinc 1 1, 3) := by decide +kernel
theorem d_M_allowed_22 : decode prog_10_method_27_code 22 = .ok (.goto (-20), 3) := by decide +kernel
theorem d_M_allowed_25 : decode prog_10_method_27_code 25 = .ok (.iconst 1, 1) := by decide +kernel
theorem d_M_allowed_26 : decode prog_10_method_27_code 26 = .ok (.iload_n 1, 1) := by decide +kernel
theorem d_M_allowed_27 : decode prog_10_method_27_code 27 = .ok (.iadd, 1) := by decide +kernel
theorem d_M_allowed_28 : decode prog_10_method_27_code 28 = .ok (.ireturn, 1) := by decide +kernel

theorem d_M_digit_0 : decode prog_10_method_43_code 0 = .ok (.lload_n 0, 1) := by decide +kernel
theorem d_M_digit_1 : decode prog_10_method_43_code 1 = .ok (.iconst 4, 1) := by decide +kernel
theorem d_M_digit_2 : decode prog_10_method_43_code 2 = .ok (.iload_n 2, 1) := by decide +kernel
theorem d_M_digit_3 : decode prog_10_method_43_code 3 = .ok (.imul, 1) := by decide +kernel
theorem d_M_digit_4 : decode prog_10_method_43_code 4 = .ok (.lshr, 1) := by decide +kernel
theorem d_M_digit_5 : decode prog_10_method_43_code 5 = .ok (.l2i, 1) := by decide +kernel
theorem d_M_digit_6 : decode prog_10_method_43_code 6 = .ok (.bipush 15, 2) := by decide +kernel
theorem d_M_digit_8 : decode prog_10_method_43_code 8 = .ok (.iand, 1) := by decide +kernel
theorem d_M_digit_9 : decode prog_10_method_43_code 9 = .ok (.ireturn, 1) := by decide +kernel

theorem d_M_piece_0 : decode prog_10_method_44_code 0 = .ok (.iconst 0, 1) := by decide +kernel
theorem d_M_piece_1 : decode prog_10_method_44_code 1 = .ok (.istore 8, 2) := by decide +kernel
theorem d_M_piece_3 : decode prog_10_method_44_code 3 = .ok (.iload_n 3, 1) := by decide +kernel
theorem d_M_piece_4 : decode prog_10_method_44_code 4 = .ok (.iload 8, 2) := by decide +kernel
theorem d_M_piece_6 : decode prog_10_method_44_code 6 = .ok (.iadd, 1) := by decide +kernel
theorem d_M_piece_7 : decode prog_10_method_44_code 7 = .ok (.iload_n 2, 1) := by decide +kernel
theorem d_M_piece_8 : decode prog_10_method_44_code 8 = .ok (.if_icmp .ge 40, 3) := by decide +kernel
theorem d_M_piece_11 : decode prog_10_method_44_code 11 = .ok (.iload 7, 2) := by decide +kernel
theorem d_M_piece_13 : decode prog_10_method_44_code 13 = .ok (.iload 8, 2) := by decide +kernel
theorem d_M_piece_15 : decode prog_10_method_44_code 15 = .ok (.iadd, 1) := by decide +kernel
theorem d_M_piece_16 : decode prog_10_method_44_code 16 = .ok (.iload 6, 2) := by decide +kernel
theorem d_M_piece_18 : decode prog_10_method_44_code 18 = .ok (.if_icmp .ge 30, 3) := by decide +kernel
theorem d_M_piece_21 : decode prog_10_method_44_code 21 = .ok (.lload_n 0, 1) := by decide +kernel
theorem d_M_piece_22 : decode prog_10_method_44_code 22 = .ok (.iload_n 3, 1) := by decide +kernel
theorem d_M_piece_23 : decode prog_10_method_44_code 23 = .ok (.iload 8, 2) := by decide +kernel
theorem d_M_piece_25 : decode prog_10_method_44_code 25 = .ok (.iadd, 1) := by decide +kernel
theorem d_M_piece_26 : decode prog_10_method_44_code 26 = .ok (.invokestatic 162, 3) := by decide +kernel
theorem d_M_piece_29 : decode prog_10_method_44_code 29 = .ok (.lload 4, 2) := by decide +kernel
theorem d_M_piece_31 : decode prog_10_method_44_code 31 = .ok (.iload 7, 2) := by decide +kernel
theorem d_M_piece_33 : decode prog_10_method_44_code 33 = .ok (.iload 8, 2) := by decide +kernel
theorem d_M_piece_35 : decode prog_10_method_44_code 35 = .ok (.iadd, 1) := by decide +kernel
theorem d_M_piece_36 : decode prog_10_method_44_code 36 = .ok (.invokestatic 162, 3) := by decide +kernel
theorem d_M_piece_39 : decode prog_10_method_44_code 39 = .ok (.if_icmp .ne 9, 3) := by decide +kernel
theorem d_M_piece_42 : decode prog_10_method_44_code 42 = .ok (.iinc 8 1, 3) := by decide +kernel
theorem d_M_piece_45 : decode prog_10_method_44_code 45 = .ok (.goto (-42), 3) := by decide +kernel
theorem d_M_piece_48 : decode prog_10_method_44_code 48 = .ok (.iload 8, 2) := by decide +kernel
theorem d_M_piece_50 : decode prog_10_method_44_code 50 = .ok (.ireturn, 1) := by decide +kernel
set_option maxHeartbeats 4000000 in
set_option maxRecDepth 100000 in
theorem c_M_allowed {l : Launch} {E : Ev} {M : mp_M} {sz : Nat} {q : Nat} (hq : q < 1000) : MCi l E y_M_allowed prog_10_method_27_code 2 (some .int) 0 0 0 0 [.int (nI q)] M sz (fun r M' => r = nI (1 + alw 20 q 0) ∧ M' = M) := by
  refine mc_of R_M rfl [some (.int (nI q)), none] (by decide) (Nat.le_of_ble_eq_true rfl) rfl ?_
  intro p e R s m ag below meth c ls Q A X hAe hQ hR hsz hw hl
  rw [← hAe] at hQ
  obtain ⟨⟨hx, hb, hml, hown, hts⟩, hE, hA, hr, hlk, hnm⟩ := X
  have hK := hE.1
  have loop : ∀ (n k : Nat) (H : Heap) (locs : List Loc) (ls : Array Slot), k + n = 20 → mw E.1 vwCl A s.heap M H locs → lh ls [some (.int (nI q)), some (.int (nI k))] → alw n q k = alw 20 q 0 → W p l e R s m ag below meth c H locs 0 0 Q (F0 m 2 ls []) := by
    intro n
    induction n with
    | zero =>
      intro k H locs ls hk9 hw hl hT
      have hT : k = alw 20 q 0 := hT
      refine x_iload_n hx hb d_M_allowed_2 hl rfl ?_
      refine lv_bipush (v := nI 20) hx hb d_M_allowed_3 (by decide) ?_
      refine x_icmp_ge hx hb d_M_allowed_5 rfl (by omega) (by omega) (fun h5 => ?_) (fun h5 => ?_)
      · refine lv_iconst (v := nI 1) hx hb d_M_allowed_25 (by decide) ?_
        refine x_iload_n hx hb d_M_allowed_26 hl rfl ?_
        first | refine x_iadd hx hb d_M_allowed_27 ?_ | refine lv_iadd hx hb d_M_allowed_27 ?_
        exact x_reti hQ hx hb hr hlk rfl hw (by omega) (by omega) d_M_allowed_28 (⟨by rw [hT], rfl⟩)
      · exact absurd h5 (by omega)
    | succ n ih =>
      intro k H locs ls hk9 hw hl hT
      have hp : 2 ^ (k + 1) ≤ 2 ^ 20 := Nat.pow_le_pow_right (by decide) (by omega)
      have hp2 : (2 : Nat) ^ 20 = 1048576 := by decide
      refine x_iload_n hx hb d_M_allowed_2 hl rfl ?_
      refine lv_bipush (v := nI 20) hx hb d_M_allowed_3 (by decide) ?_
      refine x_icmp_ge hx hb d_M_allowed_5 rfl (by omega) (by omega) (fun h5 => ?_) (fun h5 => ?_)
      · exact absurd h5 (by omega)
      · refine lv_iconst (v := nI 1) hx hb d_M_allowed_8 (by decide) ?_
        refine x_iload_n hx hb d_M_allowed_9 hl rfl ?_
        refine lv_iconst (v := nI 1) hx hb d_M_allowed_10 (by decide) ?_
        first | refine x_iadd hx hb d_M_allowed_11 ?_ | refine lv_iadd hx hb d_M_allowed_11 ?_
        refine lv_ishl hx hb d_M_allowed_12 ?_
        rw [shl2 (by omega)]
        refine lv_iconst (v := nI 1) hx hb d_M_allowed_13 (by decide) ?_
        refine x_iload_n hx hb d_M_allowed_14 hl rfl ?_
        first | refine x_iadd hx hb d_M_allowed_15 ?_ | refine lv_iadd hx hb d_M_allowed_15 ?_
        refine x_icmp_gt hx hb d_M_allowed_16 rfl (by omega) (by omega) (fun h16 => ?_) (fun h16 => ?_)
        · have hT2 : k = alw 20 q 0 := by
            rw [← hT]
            exact (if_neg (by omega)).symm
          refine lv_iconst (v := nI 1) hx hb d_M_allowed_25 (by decide) ?_
          refine x_iload_n hx hb d_M_allowed_26 hl rfl ?_
          first | refine x_iadd hx hb d_M_allowed_27 ?_ | refine lv_iadd hx hb d_M_allowed_27 ?_
          exact x_reti hQ hx hb hr hlk rfl hw (by omega) (by omega) d_M_allowed_28 (⟨by rw [hT2], rfl⟩)
        · have hT2 : alw n q (k + 1) = alw 20 q 0 := by
            rw [← hT]
            exact (if_pos (by omega)).symm
          refine x_iincN hx hb d_M_allowed_19 hl rfl (lh_k (i := 0) rfl (by first | exact lk_n | exact lk_i | exact lk_r | exact lk_q | exact lk_0)) (fun ls hl => ?_)
          refine lv_goto hx hb d_M_allowed_22 rfl ?_
          exact ih (k + 1) H locs ls (by omega) hw hl hT2
  refine lv_iconst (v := nI 0) hx hb d_M_allowed_0 (by decide) ?_
  refine x_istore_n hx hb d_M_allowed_1 hl (Nat.le_of_ble_eq_true rfl) (lh_k (i := 0) rfl (by first | exact lk_n | exact lk_i | exact lk_r | exact lk_q | exact lk_0)) (fun ls hl => ?_)
  exact loop 20 0 _ _ _ rfl hw hl rfl

set_option maxHeartbeats 4000000 in
set_option maxRecDepth 100000 in
theorem c_M_digit {l : Launch} {E : Ev} {M : mp_M} {sz : Nat} {X k : Nat} (hX : X < 2 ^ 48) (hk : k < 13) : MCi l E y_M_digit prog_10_method_43_code 3 (some .int) 0 0 0 0 [.long (lN X), .int (nI k)] M sz (fun r M' => r = nI (dgt X k) ∧ M' = M) := by
  refine mc_of R_M rfl [some (.long (lN X)), none, some (.int (nI k))] (by decide) (Nat.le_of_ble_eq_true rfl) rfl ?_
  intro p e R s m ag below meth c ls Q A X hAe hQ hR hsz hw hl
  rw [← hAe] at hQ
  obtain ⟨⟨hx, hb, hml, hown, hts⟩, hE, hA, hr, hlk, hnm⟩ := X
  have hK := hE.1
  refine x_lload_n hx hb d_M_digit_0 hl rfl ?_
  refine lv_iconst (v := nI 4) hx hb d_M_digit_1 (by decide) ?_
  refine x_iload_n hx hb d_M_digit_2 hl rfl ?_
  first | refine x_imul hx hb d_M_digit_3 ?_ | refine lv_imul hx hb d_M_digit_3 ?_
  refine lv_lshr hx hb d_M_digit_4 (dg_shr hX hk) ?_
  refine lv_l2i hx hb d_M_digit_5 (lN_i _) ?_
  refine lv_bipush (v := nI 15) hx hb d_M_digit_6 (by decide) ?_
  refine lv_iand hx hb d_M_digit_8 ?_
  rw [dg_and]
  exact x_reti hQ hx hb hr hlk rfl hw (by omega) (by omega) d_M_digit_9 (⟨rfl, rfl⟩)

set_option maxHeartbeats 4000000 in
set_option maxRecDepth 100000 in
theorem c_M_piece {l : Launch} {E : Ev} {M : mp_M} {sz : Nat} {X n k Y m0 j : Nat} (hX : X < 2 ^ 48) (hY : Y < 2 ^ 48) (hn : n < 13) (hk : k < 13) (hm0 : m0 < 13) (hj : j < 13) : MCi l E y_M_piece prog_10_method_44_code 9 (some .int) 1 22 0 0 [.long (lN X), .int (nI n), .int (nI k), .long (lN Y), .int (nI m0), .int (nI j)] M sz (fun r M' => r = nI (pcf X n k Y m0 j 13 0) ∧ M' = M) := by
  refine mc_of R_M rfl [some (.long (lN X)), none, some (.int (nI n)), some (.int (nI k)), some (.long (lN Y)), none, some (.int (nI m0)), some (.int (nI j)), none] (by decide) (Nat.le_of_ble_eq_true rfl) rfl ?_
  intro p e R s m ag below meth c ls Q A X hAe hQ hR hsz hw hl
  rw [← hAe] at hQ
  obtain ⟨⟨hx, hb, hml, hown, hts⟩, hE, hA, hr, hlk, hnm⟩ := X
  have hK := hE.1
  have loop : ∀ (u f : Nat) (H : Heap) (locs : List Loc) (ls : Array Slot), f + u = 13 → mw E.1 vwCl A s.heap M H locs → lh ls [some (.long (lN X)), none, some (.int (nI n)), some (.int (nI k)), some (.long (lN Y)), none, some (.int (nI m0)), some (.int (nI j)), some (.int (nI f))] → pcf X n k Y m0 j u f = pcf X n k Y m0 j 13 0 → W p l e R s m ag below meth c H locs 0 0 Q (F0 m 3 ls []) := by
    intro u
    induction u with
    | zero =>
      intro f H locs ls hf hw hl hT
      have hT : f = pcf X n k Y m0 j 13 0 := hT
      refine x_iload_n hx hb d_M_piece_3 hl rfl ?_
      refine x_iload hx hb d_M_piece_4 hl rfl ?_
      first | refine x_iadd hx hb d_M_piece_6 ?_ | refine lv_iadd hx hb d_M_piece_6 ?_
      refine x_iload_n hx hb d_M_piece_7 hl rfl ?_
      refine x_icmp_ge hx hb d_M_piece_8 rfl (by omega) (by omega) (fun h8 => ?_) (fun h8 => ?_)
      · refine x_iload hx hb d_M_piece_48 hl rfl ?_
        exact x_reti hQ hx hb hr hlk rfl hw (by omega) (by omega) d_M_piece_50 (⟨by rw [hT], rfl⟩)
      · exact absurd h8 (by omega)
    | succ u ih =>
      intro f H locs ls hf hw hl hT
      refine x_iload_n hx hb d_M_piece_3 hl rfl ?_
      refine x_iload hx hb d_M_piece_4 hl rfl ?_
      first | refine x_iadd hx hb d_M_piece_6 ?_ | refine lv_iadd hx hb d_M_piece_6 ?_
      refine x_iload_n hx hb d_M_piece_7 hl rfl ?_
      refine x_icmp_ge hx hb d_M_piece_8 rfl (by omega) (by omega) (fun h8 => ?_) (fun h8 => ?_)
      · have hT2 : f = pcf X n k Y m0 j 13 0 := by
          rw [← hT]
          exact (if_neg (by omega)).symm
        refine x_iload hx hb d_M_piece_48 hl rfl ?_
        exact x_reti hQ hx hb hr hlk rfl hw (by omega) (by omega) d_M_piece_50 (⟨by rw [hT2], rfl⟩)
      · refine x_iload hx hb d_M_piece_11 hl rfl ?_
        refine x_iload hx hb d_M_piece_13 hl rfl ?_
        first | refine x_iadd hx hb d_M_piece_15 ?_ | refine lv_iadd hx hb d_M_piece_15 ?_
        refine x_iload hx hb d_M_piece_16 hl rfl ?_
        refine x_icmp_ge hx hb d_M_piece_18 rfl (by omega) (by omega) (fun h18 => ?_) (fun h18 => ?_)
        · have hT2 : f = pcf X n k Y m0 j 13 0 := by
            rw [← hT]
            exact (if_neg (by omega)).symm
          refine x_iload hx hb d_M_piece_48 hl rfl ?_
          exact x_reti hQ hx hb hr hlk rfl hw (by omega) (by omega) d_M_piece_50 (⟨by rw [hT2], rfl⟩)
        · refine x_lload_n hx hb d_M_piece_21 hl rfl ?_
          refine x_iload_n hx hb d_M_piece_22 hl rfl ?_
          refine x_iload hx hb d_M_piece_23 hl rfl ?_
          first | refine x_iadd hx hb d_M_piece_25 ?_ | refine lv_iadd hx hb d_M_piece_25 ?_
          refine m_calli (k_S ⟨hx, hb, hml, hown, hts⟩ hE hA hw (c_M_digit hX (by omega)) (wm4 70 rfl rfl) (wm4 71 rfl rfl) (wm1 9 rfl rfl) (wm4 72 rfl rfl) rfl rfl ar_M_digit ⟨Nat.le_trans (Nat.le_of_ble_eq_true rfl) hR.1, Nat.le_trans (Nat.le_of_ble_eq_true rfl) hR.2.1⟩ rfl hl.1 rfl (Nat.le_of_ble_eq_true rfl) d_M_piece_26 ⟨Nat.le_trans (Nat.le_of_ble_eq_true rfl) hR.2.2.1, Nat.le_trans (Nat.le_of_ble_eq_true rfl) hR.2.2.2⟩) hw (mfr_in hw hA) (fun r26 M26 H locs hP26 hw => ?_)
          obtain ⟨rfl, hM26⟩ := hP26
          rw [hM26] at hw
          refine x_lload hx hb d_M_piece_29 hl rfl ?_
          refine x_iload hx hb d_M_piece_31 hl rfl ?_
          refine x_iload hx hb d_M_piece_33 hl rfl ?_
          first | refine x_iadd hx hb d_M_piece_35 ?_ | refine lv_iadd hx hb d_M_piece_35 ?_
          refine m_calli (k_S ⟨hx, hb, hml, hown, hts⟩ hE hA hw (c_M_digit hY (by omega)) (wm4 70 rfl rfl) (wm4 71 rfl rfl) (wm1 9 rfl rfl) (wm4 72 rfl rfl) rfl rfl ar_M_digit ⟨Nat.le_trans (Nat.le_of_ble_eq_true rfl) hR.1, Nat.le_trans (Nat.le_of_ble_eq_true rfl) hR.2.1⟩ rfl hl.1 rfl (Nat.le_of_ble_eq_true rfl) d_M_piece_36 ⟨Nat.le_trans (Nat.le_of_ble_eq_true rfl) hR.2.2.1, Nat.le_trans (Nat.le_of_ble_eq_true rfl) hR.2.2.2⟩) hw (mfr_in hw hA) (fun r36 M36 H locs hP36 hw => ?_)
          obtain ⟨rfl, hM36⟩ := hP36
          rw [hM36] at hw
          have hd1 : dgt X (k + f) < 16 := Nat.mod_lt _ (by decide)
          have hd2 : dgt Y (j + f) < 16 := Nat.mod_lt _ (by decide)
          refine x_icmp_ne hx hb d_M_piece_39 rfl (by omega) (by omega) (fun h39 => ?_) (fun h39 => ?_)
          · have hT2 : f = pcf X n k Y m0 j 13 0 := by
              rw [← hT]
              exact (if_neg (fun z => h39 z.2.2)).symm
            refine x_iload hx hb d_M_piece_48 hl rfl ?_
            exact x_reti hQ hx hb hr hlk rfl hw (by omega) (by omega) d_M_piece_50 (⟨by rw [hT2], rfl⟩)
          · have hT2 : pcf X n k Y m0 j u (f + 1) = pcf X n k Y m0 j 13 0 := by
              rw [← hT]
              exact (if_pos ⟨h8, h18, h39⟩).symm
            refine x_iincN hx hb d_M_piece_42 hl rfl (lh_k (i := 7) rfl (by first | exact lk_n | exact lk_i | exact lk_r | exact lk_q | exact lk_0)) (fun ls hl => ?_)
            refine lv_goto hx hb d_M_piece_45 rfl ?_
            exact ih (f + 1) H locs ls (by omega) hw hl hT2
  refine lv_iconst (v := nI 0) hx hb d_M_piece_0 (by decide) ?_
  refine x_istore hx hb d_M_piece_1 hl (Nat.le_of_ble_eq_true rfl) (lh_k (i := 7) rfl (by first | exact lk_n | exact lk_i | exact lk_r | exact lk_q | exact lk_0)) (fun ls hl => ?_)
  exact loop 13 0 _ _ _ rfl hw hl rfl
