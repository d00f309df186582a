theorem d_T_kindOf_0 : decode prog_1_method_25_code 0 = .ok (.aload_n 0, 1) := by decide +kernel
theorem d_T_kindOf_1 : decode prog_1_method_25_code 1 = .ok (.ifnonnull 5, 3) := by decide +kernel
theorem d_T_kindOf_4 : decode prog_1_method_25_code 4 = .ok (.iconst 0, 1) := by decide +kernel
theorem d_T_kindOf_5 : decode prog_1_method_25_code 5 = .ok (.ireturn, 1) := by decide +kernel
theorem d_T_kindOf_6 : decode prog_1_method_25_code 6 = .ok (.aload_n 0, 1) := by decide +kernel
theorem d_T_kindOf_7 : decode prog_1_method_25_code 7 = .ok (.getfield 159, 3) := by decide +kernel
theorem d_T_kindOf_10 : decode prog_1_method_25_code 10 = .ok (.ifCond .eq 7, 3) := by decide +kernel
theorem d_T_kindOf_13 : decode prog_1_method_25_code 13 = .ok (.iconst 1, 1) := by decide +kernel
theorem d_T_kindOf_14 : decode prog_1_method_25_code 14 = .ok (.goto 4, 3) := by decide +kernel
theorem d_T_kindOf_17 : decode prog_1_method_25_code 17 = .ok (.iconst 2, 1) := by decide +kernel
theorem d_T_kindOf_18 : decode prog_1_method_25_code 18 = .ok (.ireturn, 1) := by decide +kernel

theorem d_T_allowedChain_0 : decode prog_1_method_31_code 0 = .ok (.iconst 0, 1) := by decide +kernel
theorem d_T_allowedChain_1 : decode prog_1_method_31_code 1 = .ok (.istore_n 1, 1) := by decide +kernel
theorem d_T_allowedChain_2 : decode prog_1_method_31_code 2 = .ok (.iload_n 1, 1) := by decide +kernel
theorem d_T_allowedChain_3 : decode prog_1_method_31_code 3 = .ok (.bipush 29, 2) := by decide +kernel
theorem d_T_allowedChain_5 : decode prog_1_method_31_code 5 = .ok (.if_icmp .ge 20, 3) := by decide +kernel
theorem d_T_allowedChain_8 : decode prog_1_method_31_code 8 = .ok (.iconst 1, 1) := by decide +kernel
theorem d_T_allowedChain_9 : decode prog_1_method_31_code 9 = .ok (.iload_n 1, 1) := by decide +kernel
theorem d_T_allowedChain_10 : decode prog_1_method_31_code 10 = .ok (.iconst 1, 1) := by decide +kernel
theorem d_T_allowedChain_11 : decode prog_1_method_31_code 11 = .ok (.iadd, 1) := by decide +kernel
theorem d_T_allowedChain_12 : decode prog_1_method_31_code 12 = .ok (.ishl, 1) := by decide +kernel
theorem d_T_allowedChain_13 : decode prog_1_method_31_code 13 = .ok (.iconst 1, 1) := by decide +kernel
theorem d_T_allowedChain_14 : decode prog_1_method_31_code 14 = .ok (.iload_n 0, 1) := by decide +kernel
theorem d_T_allowedChain_15 : decode prog_1_method_31_code 15 = .ok (.iadd, 1) := by decide +kernel
theorem d_T_allowedChain_16 : decode prog_1_method_31_code 16 = .ok (.if_icmp .gt 9, 3) := by decide +kernel
theorem d_T_allowedChain_19 : decode prog_1_method_31_code 19 = .ok (.iinc 1 1, 3) := by decide +kernel
theorem d_T_allowedChain_22 : decode prog_1_method_31_code 22 = .ok (.goto (-20), 3) := by decide +kernel
theorem d_T_allowedChain_25 : decode prog_1_method_31_code 25 = .ok (.iload_n 1, 1) := by decide +kernel
theorem d_T_allowedChain_26 : decode prog_1_method_31_code 26 = .ok (.iconst 1, 1) := by decide +kernel
theorem d_T_allowedChain_27 : decode prog_1_method_31_code 27 = .ok (.iadd, 1) := by decide +kernel
theorem d_T_allowedChain_28 : decode prog_1_method_31_code 28 = .ok (.ireturn, 1) := by decide +kernel
theorem d_Tr_init_0 : decode prog_8_method_1_code 0 = .ok (.aload_n 0, 1) := by decide +kernel
theorem d_Tr_init_1 : decode prog_8_method_1_code 1 = .ok (.invokespecial 3, 3) := by decide +kernel
theorem d_Tr_init_4 : decode prog_8_method_1_code 4 = .ok (.aload_n 0, 1) := by decide +kernel
theorem d_Tr_init_5 : decode prog_8_method_1_code 5 = .ok (.bipush 125, 2) := by decide +kernel
theorem d_Tr_init_7 : decode prog_8_method_1_code 7 = .ok (.anewarray 11, 3) := by decide +kernel
theorem d_Tr_init_10 : decode prog_8_method_1_code 10 = .ok (.putfield 13, 3) := by decide +kernel
theorem d_Tr_init_13 : decode prog_8_method_1_code 13 = .ok (.return_, 1) := by decide +kernel
set_option maxHeartbeats 4000000 in
set_option maxRecDepth 100000 in
theorem c_T_kind0 {l : Launch} {E : Ev} {M : mp_M} {sz : Nat}  : MCi l E y_T_kindOf prog_1_method_25_code 1 (some .int) 0 0 0 0 [va_rf none] M sz (fun r M' => r = nI 0 ∧ M' = M) := by
  refine mc_of R_T rfl [some (va_rf none)] (by decide) (Nat.le_of_ble_eq_true rfl) rfl ?_
  intro p e R s m ag below meth c ls Q A X hAe hQ hR hsz hw hl
  rw [← hAe] at hQ
  obtain ⟨⟨hx, hb, hml, hown, hts⟩, hE, hA, hr, hlk, hnm⟩ := X
  have hK := hE.1
  first | refine x_aload_n hx hb d_T_kindOf_0 hl rfl ?_ | refine x_aload_nQ hx hb d_T_kindOf_0 hl rfl ?_
  refine x_ifnonnullQ hx hb d_T_kindOf_1 rfl (fun a1 h1 => ?_) (fun h1 => ?_)
  · exact nomatch h1
  · refine lv_iconst (v := nI 0) hx hb d_T_kindOf_4 (by decide) ?_
    exact x_reti hQ hx hb hr hlk rfl hw (by omega) (by omega) d_T_kindOf_5 (⟨rfl, rfl⟩)

set_option maxHeartbeats 4000000 in
set_option maxRecDepth 100000 in
theorem c_T_kind1 {l : Launch} {E : Ev} {M : mp_M} {sz : Nat} {b : Nat} {d : Bool} {y0 y2 y3 y4 y5 y6 y7 y8 y9 : Value} (heb : M b = some (.inr (3, [y0, .int (bz d), y2, y3, y4, y5, y6, y7, y8, y9]))) : MCi l E y_T_kindOf prog_1_method_25_code 1 (some .int) 0 0 0 0 [va_rf (some b)] M sz (fun r M' => r = nI (if d = true then 1 else 2) ∧ M' = M) := by
  refine mc_of R_T rfl [some (va_rf (some b))] (by decide) (Nat.le_of_ble_eq_true rfl) rfl ?_
  intro p e R s m ag below meth c ls Q A X hAe hQ hR hsz hw hl
  rw [← hAe] at hQ
  obtain ⟨⟨hx, hb, hml, hown, hts⟩, hE, hA, hr, hlk, hnm⟩ := X
  have hK := hE.1
  first | refine x_aload_n hx hb d_T_kindOf_0 hl rfl ?_ | refine x_aload_nQ hx hb d_T_kindOf_0 hl rfl ?_
  refine lv_ifnonnull hx hb d_T_kindOf_1 rfl ?_
  first | refine x_aload_n hx hb d_T_kindOf_6 hl rfl ?_ | refine x_aload_nQ hx hb d_T_kindOf_6 hl rfl ?_
  refine m_get hx hb hts hown hK hw ci_N heb 1 (by decide) (wm1 114 rfl rfl) rfl d_T_kindOf_7 ?_
  refine x_if_eqB hx hb d_T_kindOf_10 rfl (fun h10 => ?_) (fun h10 => ?_)
  · subst h10
    refine lv_iconst (v := nI 2) hx hb d_T_kindOf_17 (by decide) ?_
    exact x_reti hQ hx hb hr hlk rfl hw (by omega) (by omega) d_T_kindOf_18 (⟨rfl, rfl⟩)
  · subst h10
    refine lv_iconst (v := nI 1) hx hb d_T_kindOf_13 (by decide) ?_
    refine lv_goto hx hb d_T_kindOf_14 rfl ?_
    exact x_reti hQ hx hb hr hlk rfl hw (by omega) (by omega) d_T_kindOf_18 (⟨rfl, rfl⟩)

theorem c_T_kind {l : Launch} {E : Ev} {M : mp_M} {sz : Nat} {o : Option Nat} {kk : Nat} (h0 : o = none → kk = 0) (h1 : ∀ b, o = some b → ∃ (d : Bool) (y0 y2 y3 y4 y5 y6 y7 y8 y9 : Value), M b = some (.inr (3, [y0, .int (bz d), y2, y3, y4, y5, y6, y7, y8, y9])) ∧ kk = if d = true then 1 else 2) : MCi l E y_T_kindOf prog_1_method_25_code 1 (some .int) 0 0 0 0 [va_rf o] M sz (fun r M' => r = nI kk ∧ M' = M) := by
  cases o with
  | none =>
    rw [h0 rfl]
    exact c_T_kind0
  | some b =>
    obtain ⟨d, y0, y2, y3, y4, y5, y6, y7, y8, y9, h, e⟩ := h1 b rfl
    rw [e]
    exact c_T_kind1 h

set_option maxHeartbeats 4000000 in
set_option maxRecDepth 100000 in
theorem c_T_allowed {l : Launch} {E : Ev} {M : mp_M} {sz : Nat} {q : Nat} (hq : q < 1000) : MCi l E y_T_allowedChain prog_1_method_31_code 2 (some .int) 0 0 0 0 [.int (nI q)] M sz (fun r M' => r = nI (alw 29 q 0 + 1) ∧ M' = M) := by
  refine mc_of R_T rfl [some (.int (nI q)), none] (by decide) (Nat.le_of_ble_eq_true rfl) rfl ?_
  intro p e R s m ag below meth c ls Q A X hAe hQ hR hsz hw hl
  rw [← hAe] at hQ
  obtain ⟨⟨hx, hb, hml, hown, hts⟩, hE, hA, hr, hlk, hnm⟩ := X
  have hK := hE.1
  have loop : ∀ (n k : Nat) (H : Heap) (locs : List Loc) (ls : Array Slot), k + n = 29 → mw E.1 vwCl A s.heap M H locs → lh ls [some (.int (nI q)), some (.int (nI k))] → alw n q k = alw 29 q 0 → W p l e R s m ag below meth c H locs 0 0 Q (F0 m 2 ls []) := by
    intro n
    induction n with
    | zero =>
      intro k H locs ls hk9 hw hl hT
      have hT : k = alw 29 q 0 := hT
      refine x_iload_n hx hb d_T_allowedChain_2 hl rfl ?_
      refine lv_bipush (v := nI 29) hx hb d_T_allowedChain_3 (by decide) ?_
      refine x_icmp_ge hx hb d_T_allowedChain_5 rfl (by omega) (by omega) (fun h5 => ?_) (fun h5 => ?_)
      · refine x_iload_n hx hb d_T_allowedChain_25 hl rfl ?_
        refine lv_iconst (v := nI 1) hx hb d_T_allowedChain_26 (by decide) ?_
        first | refine x_iadd hx hb d_T_allowedChain_27 ?_ | refine lv_iadd hx hb d_T_allowedChain_27 ?_
        exact x_reti hQ hx hb hr hlk rfl hw (by omega) (by omega) d_T_allowedChain_28 (⟨by rw [hT], rfl⟩)
      · exact absurd h5 (by omega)
    | succ n ih =>
      intro k H locs ls hk9 hw hl hT
      have hp : 2 ^ (k + 1) ≤ 2 ^ 29 := Nat.pow_le_pow_right (by decide) (by omega)
      have hp2 : (2 : Nat) ^ 29 = 536870912 := by decide
      refine x_iload_n hx hb d_T_allowedChain_2 hl rfl ?_
      refine lv_bipush (v := nI 29) hx hb d_T_allowedChain_3 (by decide) ?_
      refine x_icmp_ge hx hb d_T_allowedChain_5 rfl (by omega) (by omega) (fun h5 => ?_) (fun h5 => ?_)
      · exact absurd h5 (by omega)
      · refine lv_iconst (v := nI 1) hx hb d_T_allowedChain_8 (by decide) ?_
        refine x_iload_n hx hb d_T_allowedChain_9 hl rfl ?_
        refine lv_iconst (v := nI 1) hx hb d_T_allowedChain_10 (by decide) ?_
        first | refine x_iadd hx hb d_T_allowedChain_11 ?_ | refine lv_iadd hx hb d_T_allowedChain_11 ?_
        refine lv_ishl hx hb d_T_allowedChain_12 ?_
        rw [shl2 (by omega)]
        refine lv_iconst (v := nI 1) hx hb d_T_allowedChain_13 (by decide) ?_
        refine x_iload_n hx hb d_T_allowedChain_14 hl rfl ?_
        first | refine x_iadd hx hb d_T_allowedChain_15 ?_ | refine lv_iadd hx hb d_T_allowedChain_15 ?_
        refine x_icmp_gt hx hb d_T_allowedChain_16 rfl (by omega) (by omega) (fun h16 => ?_) (fun h16 => ?_)
        · have hT2 : k = alw 29 q 0 := by
            rw [← hT]
            exact (if_neg (by omega)).symm
          refine x_iload_n hx hb d_T_allowedChain_25 hl rfl ?_
          refine lv_iconst (v := nI 1) hx hb d_T_allowedChain_26 (by decide) ?_
          first | refine x_iadd hx hb d_T_allowedChain_27 ?_ | refine lv_iadd hx hb d_T_allowedChain_27 ?_
          exact x_reti hQ hx hb hr hlk rfl hw (by omega) (by omega) d_T_allowedChain_28 (⟨by rw [hT2], rfl⟩)
        · have hT2 : alw n q (k + 1) = alw 29 q 0 := by
            rw [← hT]
            exact (if_pos (by omega)).symm
          refine x_iincN hx hb d_T_allowedChain_19 hl rfl (lh_k (i := 0) rfl (by first | exact lk_n | exact lk_i | exact lk_r | exact lk_q | exact lk_0)) (fun ls hl => ?_)
          refine lv_goto hx hb d_T_allowedChain_22 rfl ?_
          exact ih (k + 1) H locs ls (by omega) hw hl hT2
  refine lv_iconst (v := nI 0) hx hb d_T_allowedChain_0 (by decide) ?_
  refine x_istore_n hx hb d_T_allowedChain_1 hl (Nat.le_of_ble_eq_true rfl) (lh_k (i := 0) rfl (by first | exact lk_n | exact lk_i | exact lk_r | exact lk_q | exact lk_0)) (fun ls hl => ?_)
  exact loop 29 0 _ _ _ rfl hw hl rfl

set_option maxHeartbeats 4000000 in
set_option maxRecDepth 100000 in
theorem c_Tr_init {l : Launch} {E : Ev} {M : mp_M} {sz : Nat} {a0 : Nat} (he0 : M a0 = some (.inr (1, [.null]))) : MCv l E y_Tr_init prog_8_method_1_code 1 none 1 20 1 125 [.ref a0] M sz (fun M' => ∃ ar, M ar = none ∧ M' = mp_up (mp_up M ar (refs E (fun _ => none))) a0 (.inr (1, [.ref ar]))) := by
  refine mc_of R_Tr rfl [some (.ref a0)] (by decide) (Nat.le_of_ble_eq_true rfl) rfl ?_
  intro p e R s m ag below meth c ls Q A X hAe hQ hR hsz hw hl
  rw [← hAe] at hQ
  obtain ⟨⟨hx, hb, hml, hown, hts⟩, hE, hA, hr, hlk, hnm⟩ := X
  have hK := hE.1
  first | refine x_aload_n hx hb d_Tr_init_0 hl rfl ?_ | refine x_aload_nQ hx hb d_Tr_init_0 hl rfl ?_
  refine W.objInit hx hb hown (hts _ (wm1 76 rfl rfl)) (hts _ (wm1 25 rfl rfl)) (hts _ (wm1 26 rfl rfl)) rfl (hl.1.trans hml.symm) rfl d_Tr_init_1 (Nat.le_trans (Nat.le_of_ble_eq_true rfl) hR.1) (Nat.le_trans (Nat.le_of_ble_eq_true rfl) hR.2.1) ?_
  refine W.eq (g2 := F0 m 4 ls []) rfl ?_
  first | refine x_aload_n hx hb d_Tr_init_4 hl rfl ?_ | refine x_aload_nQ hx hb d_Tr_init_4 hl rfl ?_
  refine lv_bipush (v := nI 125) hx hb d_Tr_init_5 (by decide) ?_
  refine m_newq hx hb hts hown (wm1 77 rfl rfl) hE.2.1.2.1.2.2.1 hK hw hA 0 rfl (by omega) (Nat.le_trans (Nat.le_of_ble_eq_true rfl) hR.2.2.1) (Nat.le_trans (Nat.le_of_ble_eq_true rfl) hR.2.2.2) d_Tr_init_7 (fun ar H hq7 hw => ?_)
  have hne := ne_of he0 hq7
  have he0 := (mp_up_n (M := M) (e := refs E (fun _ => none)) hne).trans he0
  refine m_putF hx hb hts hown hK hw ci_Tr he0 0 (by decide) (wm1 79 rfl rfl) rfl hnm rfl (by first | rfl | exact nar_bz | exact nar_q) (by first | rfl | exact fit_bz | exact fit_q) (Nat.le_of_ble_eq_true rfl) d_Tr_init_10 (fun H locs hw => ?_)
  exact x_retv hQ hx hb hr hlk hw (by omega) (by omega) d_Tr_init_13 (⟨ar, hq7, rfl⟩)
