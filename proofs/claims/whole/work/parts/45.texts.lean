theorem d_Te_isSameAs_0 : decode prog_6_method_2_code 0 = .ok (.aload_n 0, 1) := by decide +kernel
theorem d_Te_isSameAs_1 : decode prog_6_method_2_code 1 = .ok (.getfield 13, 3) := by decide +kernel
theorem d_Te_isSameAs_4 : decode prog_6_method_2_code 4 = .ok (.aload_n 1, 1) := by decide +kernel
theorem d_Te_isSameAs_5 : decode prog_6_method_2_code 5 = .ok (.getfield 13, 3) := by decide +kernel
theorem d_Te_isSameAs_8 : decode prog_6_method_2_code 8 = .ok (.if_icmp .ne 19, 3) := by decide +kernel
theorem d_Te_isSameAs_11 : decode prog_6_method_2_code 11 = .ok (.aload_n 0, 1) := by decide +kernel
theorem d_Te_isSameAs_12 : decode prog_6_method_2_code 12 = .ok (.getfield 7, 3) := by decide +kernel
theorem d_Te_isSameAs_15 : decode prog_6_method_2_code 15 = .ok (.aload_n 1, 1) := by decide +kernel
theorem d_Te_isSameAs_16 : decode prog_6_method_2_code 16 = .ok (.getfield 7, 3) := by decide +kernel
theorem d_Te_isSameAs_19 : decode prog_6_method_2_code 19 = .ok (.lcmp, 1) := by decide +kernel
theorem d_Te_isSameAs_20 : decode prog_6_method_2_code 20 = .ok (.ifCond .ne 7, 3) := by decide +kernel
theorem d_Te_isSameAs_23 : decode prog_6_method_2_code 23 = .ok (.iconst 1, 1) := by decide +kernel
theorem d_Te_isSameAs_24 : decode prog_6_method_2_code 24 = .ok (.goto 4, 3) := by decide +kernel
theorem d_Te_isSameAs_27 : decode prog_6_method_2_code 27 = .ok (.iconst 0, 1) := by decide +kernel
theorem d_Te_isSameAs_28 : decode prog_6_method_2_code 28 = .ok (.ireturn, 1) := by decide +kernel

theorem d_Te_digitAt_0 : decode prog_6_method_3_code 0 = .ok (.aload_n 0, 1) := by decide +kernel
theorem d_Te_digitAt_1 : decode prog_6_method_3_code 1 = .ok (.getfield 7, 3) := by decide +kernel
theorem d_Te_digitAt_4 : decode prog_6_method_3_code 4 = .ok (.iconst 4, 1) := by decide +kernel
theorem d_Te_digitAt_5 : decode prog_6_method_3_code 5 = .ok (.iload_n 1, 1) := by decide +kernel
theorem d_Te_digitAt_6 : decode prog_6_method_3_code 6 = .ok (.imul, 1) := by decide +kernel
theorem d_Te_digitAt_7 : decode prog_6_method_3_code 7 = .ok (.lshr, 1) := by decide +kernel
theorem d_Te_digitAt_8 : decode prog_6_method_3_code 8 = .ok (.ldc2_w 17, 3) := by decide +kernel
theorem d_Te_digitAt_11 : decode prog_6_method_3_code 11 = .ok (.land, 1) := by decide +kernel
theorem d_Te_digitAt_12 : decode prog_6_method_3_code 12 = .ok (.l2i, 1) := by decide +kernel
theorem d_Te_digitAt_13 : decode prog_6_method_3_code 13 = .ok (.ireturn, 1) := by decide +kernel

theorem d_Te_commonFrom_0 : decode prog_6_method_6_code 0 = .ok (.iconst 0, 1) := by decide +kernel
theorem d_Te_commonFrom_1 : decode prog_6_method_6_code 1 = .ok (.istore 4, 2) := by decide +kernel
theorem d_Te_commonFrom_3 : decode prog_6_method_6_code 3 = .ok (.iload_n 1, 1) := by decide +kernel
theorem d_Te_commonFrom_4 : decode prog_6_method_6_code 4 = .ok (.iload 4, 2) := by decide +kernel
theorem d_Te_commonFrom_6 : decode prog_6_method_6_code 6 = .ok (.iadd, 1) := by decide +kernel
theorem d_Te_commonFrom_7 : decode prog_6_method_6_code 7 = .ok (.aload_n 0, 1) := by decide +kernel
theorem d_Te_commonFrom_8 : decode prog_6_method_6_code 8 = .ok (.getfield 13, 3) := by decide +kernel
theorem d_Te_commonFrom_11 : decode prog_6_method_6_code 11 = .ok (.if_icmp .ge 39, 3) := by decide +kernel
theorem d_Te_commonFrom_14 : decode prog_6_method_6_code 14 = .ok (.iload_n 3, 1) := by decide +kernel
theorem d_Te_commonFrom_15 : decode prog_6_method_6_code 15 = .ok (.iload 4, 2) := by decide +kernel
theorem d_Te_commonFrom_17 : decode prog_6_method_6_code 17 = .ok (.iadd, 1) := by decide +kernel
theorem d_Te_commonFrom_18 : decode prog_6_method_6_code 18 = .ok (.aload_n 2, 1) := by decide +kernel
theorem d_Te_commonFrom_19 : decode prog_6_method_6_code 19 = .ok (.getfield 13, 3) := by decide +kernel
theorem d_Te_commonFrom_22 : decode prog_6_method_6_code 22 = .ok (.if_icmp .ge 28, 3) := by decide +kernel
theorem d_Te_commonFrom_25 : decode prog_6_method_6_code 25 = .ok (.aload_n 0, 1) := by decide +kernel
theorem d_Te_commonFrom_26 : decode prog_6_method_6_code 26 = .ok (.iload_n 1, 1) := by decide +kernel
theorem d_Te_commonFrom_27 : decode prog_6_method_6_code 27 = .ok (.iload 4, 2) := by decide +kernel
theorem d_Te_commonFrom_29 : decode prog_6_method_6_code 29 = .ok (.iadd, 1) := by decide +kernel
theorem d_Te_commonFrom_30 : decode prog_6_method_6_code 30 = .ok (.invokevirtual 33, 3) := by decide +kernel
theorem d_Te_commonFrom_33 : decode prog_6_method_6_code 33 = .ok (.aload_n 2, 1) := by decide +kernel
theorem d_Te_commonFrom_34 : decode prog_6_method_6_code 34 = .ok (.iload_n 3, 1) := by decide +kernel
theorem d_Te_commonFrom_35 : decode prog_6_method_6_code 35 = .ok (.iload 4, 2) := by decide +kernel
theorem d_Te_commonFrom_37 : decode prog_6_method_6_code 37 = .ok (.iadd, 1) := by decide +kernel
theorem d_Te_commonFrom_38 : decode prog_6_method_6_code 38 = .ok (.invokevirtual 33, 3) := by decide +kernel
theorem d_Te_commonFrom_41 : decode prog_6_method_6_code 41 = .ok (.if_icmp .ne 9, 3) := by decide +kernel
theorem d_Te_commonFrom_44 : decode prog_6_method_6_code 44 = .ok (.iinc 4 1, 3) := by decide +kernel
theorem d_Te_commonFrom_47 : decode prog_6_method_6_code 47 = .ok (.goto (-44), 3) := by decide +kernel
theorem d_Te_commonFrom_50 : decode prog_6_method_6_code 50 = .ok (.iload 4, 2) := by decide +kernel
theorem d_Te_commonFrom_52 : decode prog_6_method_6_code 52 = .ok (.ireturn, 1) := by decide +kernel

theorem d_Te_longestPiece_0 : decode prog_6_method_5_code 0 = .ok (.iconst 0, 1) := by decide +kernel
theorem d_Te_longestPiece_1 : decode prog_6_method_5_code 1 = .ok (.istore_n 3, 1) := by decide +kernel
theorem d_Te_longestPiece_2 : decode prog_6_method_5_code 2 = .ok (.iconst 0, 1) := by decide +kernel
theorem d_Te_longestPiece_3 : decode prog_6_method_5_code 3 = .ok (.istore 4, 2) := by decide +kernel
theorem d_Te_longestPiece_5 : decode prog_6_method_5_code 5 = .ok (.iload 4, 2) := by decide +kernel
theorem d_Te_longestPiece_7 : decode prog_6_method_5_code 7 = .ok (.aload_n 2, 1) := by decide +kernel
theorem d_Te_longestPiece_8 : decode prog_6_method_5_code 8 = .ok (.getfield 13, 3) := by decide +kernel
theorem d_Te_longestPiece_11 : decode prog_6_method_5_code 11 = .ok (.if_icmp .ge 22, 3) := by decide +kernel
theorem d_Te_longestPiece_14 : decode prog_6_method_5_code 14 = .ok (.iload_n 3, 1) := by decide +kernel
theorem d_Te_longestPiece_15 : decode prog_6_method_5_code 15 = .ok (.aload_n 0, 1) := by decide +kernel
theorem d_Te_longestPiece_16 : decode prog_6_method_5_code 16 = .ok (.iload_n 1, 1) := by decide +kernel
theorem d_Te_longestPiece_17 : decode prog_6_method_5_code 17 = .ok (.aload_n 2, 1) := by decide +kernel
theorem d_Te_longestPiece_18 : decode prog_6_method_5_code 18 = .ok (.iload 4, 2) := by decide +kernel
theorem d_Te_longestPiece_20 : decode prog_6_method_5_code 20 = .ok (.invokevirtual 23, 3) := by decide +kernel
theorem d_Te_longestPiece_23 : decode prog_6_method_5_code 23 = .ok (.invokestatic 27, 3) := by decide +kernel
theorem d_Te_longestPiece_26 : decode prog_6_method_5_code 26 = .ok (.istore_n 3, 1) := by decide +kernel
theorem d_Te_longestPiece_27 : decode prog_6_method_5_code 27 = .ok (.iinc 4 1, 3) := by decide +kernel
theorem d_Te_longestPiece_30 : decode prog_6_method_5_code 30 = .ok (.goto (-25), 3) := by decide +kernel
theorem d_Te_longestPiece_33 : decode prog_6_method_5_code 33 = .ok (.iload_n 3, 1) := by decide +kernel
theorem d_Te_longestPiece_34 : decode prog_6_method_5_code 34 = .ok (.ireturn, 1) := by decide +kernel

theorem d_Te_costFrom_0 : decode prog_6_method_4_code 0 = .ok (.iconst 0, 1) := by decide +kernel
theorem d_Te_costFrom_1 : decode prog_6_method_4_code 1 = .ok (.istore_n 2, 1) := by decide +kernel
theorem d_Te_costFrom_2 : decode prog_6_method_4_code 2 = .ok (.iconst 0, 1) := by decide +kernel
theorem d_Te_costFrom_3 : decode prog_6_method_4_code 3 = .ok (.istore_n 3, 1) := by decide +kernel
theorem d_Te_costFrom_4 : decode prog_6_method_4_code 4 = .ok (.iconst 0, 1) := by decide +kernel
theorem d_Te_costFrom_5 : decode prog_6_method_4_code 5 = .ok (.istore 4, 2) := by decide +kernel
theorem d_Te_costFrom_7 : decode prog_6_method_4_code 7 = .ok (.iload 4, 2) := by decide +kernel
theorem d_Te_costFrom_9 : decode prog_6_method_4_code 9 = .ok (.aload_n 0, 1) := by decide +kernel
theorem d_Te_costFrom_10 : decode prog_6_method_4_code 10 = .ok (.getfield 13, 3) := by decide +kernel
theorem d_Te_costFrom_13 : decode prog_6_method_4_code 13 = .ok (.if_icmp .ge 53, 3) := by decide +kernel
theorem d_Te_costFrom_16 : decode prog_6_method_4_code 16 = .ok (.aload_n 0, 1) := by decide +kernel
theorem d_Te_costFrom_17 : decode prog_6_method_4_code 17 = .ok (.iload 4, 2) := by decide +kernel
theorem d_Te_costFrom_19 : decode prog_6_method_4_code 19 = .ok (.aload_n 1, 1) := by decide +kernel
theorem d_Te_costFrom_20 : decode prog_6_method_4_code 20 = .ok (.invokevirtual 19, 3) := by decide +kernel
theorem d_Te_costFrom_23 : decode prog_6_method_4_code 23 = .ok (.istore 5, 2) := by decide +kernel
theorem d_Te_costFrom_25 : decode prog_6_method_4_code 25 = .ok (.iload 5, 2) := by decide +kernel
theorem d_Te_costFrom_27 : decode prog_6_method_4_code 27 = .ok (.iconst 3, 1) := by decide +kernel
theorem d_Te_costFrom_28 : decode prog_6_method_4_code 28 = .ok (.if_icmp .lt 18, 3) := by decide +kernel
theorem d_Te_costFrom_31 : decode prog_6_method_4_code 31 = .ok (.iinc 2 2, 3) := by decide +kernel
theorem d_Te_costFrom_34 : decode prog_6_method_4_code 34 = .ok (.iload 4, 2) := by decide +kernel
theorem d_Te_costFrom_36 : decode prog_6_method_4_code 36 = .ok (.iload 5, 2) := by decide +kernel
theorem d_Te_costFrom_38 : decode prog_6_method_4_code 38 = .ok (.iadd, 1) := by decide +kernel
theorem d_Te_costFrom_39 : decode prog_6_method_4_code 39 = .ok (.istore 4, 2) := by decide +kernel
theorem d_Te_costFrom_41 : decode prog_6_method_4_code 41 = .ok (.iconst 0, 1) := by decide +kernel
theorem d_Te_costFrom_42 : decode prog_6_method_4_code 42 = .ok (.istore_n 3, 1) := by decide +kernel
theorem d_Te_costFrom_43 : decode prog_6_method_4_code 43 = .ok (.goto 20, 3) := by decide +kernel
theorem d_Te_costFrom_46 : decode prog_6_method_4_code 46 = .ok (.iload_n 2, 1) := by decide +kernel
theorem d_Te_costFrom_47 : decode prog_6_method_4_code 47 = .ok (.iload_n 3, 1) := by decide +kernel
theorem d_Te_costFrom_48 : decode prog_6_method_4_code 48 = .ok (.ifCond .eq 7, 3) := by decide +kernel
theorem d_Te_costFrom_51 : decode prog_6_method_4_code 51 = .ok (.iconst 1, 1) := by decide +kernel
theorem d_Te_costFrom_52 : decode prog_6_method_4_code 52 = .ok (.goto 4, 3) := by decide +kernel
theorem d_Te_costFrom_55 : decode prog_6_method_4_code 55 = .ok (.iconst 2, 1) := by decide +kernel
theorem d_Te_costFrom_56 : decode prog_6_method_4_code 56 = .ok (.iadd, 1) := by decide +kernel
theorem d_Te_costFrom_57 : decode prog_6_method_4_code 57 = .ok (.istore_n 2, 1) := by decide +kernel
theorem d_Te_costFrom_58 : decode prog_6_method_4_code 58 = .ok (.iinc 4 1, 3) := by decide +kernel
theorem d_Te_costFrom_61 : decode prog_6_method_4_code 61 = .ok (.iconst 1, 1) := by decide +kernel
theorem d_Te_costFrom_62 : decode prog_6_method_4_code 62 = .ok (.istore_n 3, 1) := by decide +kernel
theorem d_Te_costFrom_63 : decode prog_6_method_4_code 63 = .ok (.goto (-56), 3) := by decide +kernel
theorem d_Te_costFrom_66 : decode prog_6_method_4_code 66 = .ok (.iload_n 2, 1) := by decide +kernel
theorem d_Te_costFrom_67 : decode prog_6_method_4_code 67 = .ok (.ireturn, 1) := by decide +kernel
set_option maxHeartbeats 4000000 in
set_option maxRecDepth 100000 in
theorem c_Te_same {l : Launch} {E : Ev} {M : mp_M} {sz : Nat} {a0 a1 X n Y m0 : Nat} (he0 : M a0 = some (.inr (4, [.long (lN X), .int (nI n)]))) (he1 : M a1 = some (.inr (4, [.long (lN Y), .int (nI m0)]))) (hX : X < 2 ^ 48) (hY : Y < 2 ^ 48) (hn : n < 13) (hm0 : m0 < 13) : MCi l E y_Te_isSameAs prog_6_method_2_code 2 (some .boolean) 0 0 0 0 [.ref a0, .ref a1] M sz (fun r M' => r = bz (decide (n = m0) && decide (X = Y)) ∧ M' = M) := by
  refine mc_of R_Te rfl [some (.ref a0), some (.ref a1)] (by decide) (Nat.le_of_ble_eq_true rfl) rfl ?_
  intro p e R s m ag below meth c ls Q A X hAe hQ hR hsz hw hl
  rw [← hAe] at hQ
  obtain ⟨⟨hx, hb, hml, hown, hts⟩, hE, hA, hr, hlk, hnm⟩ := X
  have hK := hE.1
  first | refine x_aload_n hx hb d_Te_isSameAs_0 hl rfl ?_ | refine x_aload_nQ hx hb d_Te_isSameAs_0 hl rfl ?_
  refine m_get hx hb hts hown hK hw ci_Te he0 1 (by decide) (wm1 65 rfl rfl) rfl d_Te_isSameAs_1 ?_
  first | refine x_aload_n hx hb d_Te_isSameAs_4 hl rfl ?_ | refine x_aload_nQ hx hb d_Te_isSameAs_4 hl rfl ?_
  refine m_get hx hb hts hown hK hw ci_Te he1 1 (by decide) (wm1 65 rfl rfl) rfl d_Te_isSameAs_5 ?_
  refine x_icmp_ne hx hb d_Te_isSameAs_8 rfl (by omega) (by omega) (fun h8 => ?_) (fun h8 => ?_)
  · refine lv_iconst (v := nI 0) hx hb d_Te_isSameAs_27 (by decide) ?_
    exact x_reti hQ hx hb hr hlk (by first | exact nar_bz | decide) hw (by omega) (by omega) d_Te_isSameAs_28 (⟨by first | exact bz_t (sm_t h8 h20) | exact bz_f (sm_2 h20) | exact bz_f (sm_1 h8), rfl⟩)
  · first | refine x_aload_n hx hb d_Te_isSameAs_11 hl rfl ?_ | refine x_aload_nQ hx hb d_Te_isSameAs_11 hl rfl ?_
    refine m_get hx hb hts hown hK hw ci_Te he0 0 (by decide) (wm1 63 rfl rfl) rfl d_Te_isSameAs_12 ?_
    first | refine x_aload_n hx hb d_Te_isSameAs_15 hl rfl ?_ | refine x_aload_nQ hx hb d_Te_isSameAs_15 hl rfl ?_
    refine m_get hx hb hts hown hK hw ci_Te he1 0 (by decide) (wm1 63 rfl rfl) rfl d_Te_isSameAs_16 ?_
    refine W.lcmp hx hb d_Te_isSameAs_19 ?_
    refine lv_if_ne hx hb d_Te_isSameAs_20 rfl (fun h20 => ?_) (fun h20 => ?_)
    · have h20 := fun z => h20 ((cmp_eq (by omega) (by omega)).mpr z)
      refine lv_iconst (v := nI 0) hx hb d_Te_isSameAs_27 (by decide) ?_
      exact x_reti hQ hx hb hr hlk (by first | exact nar_bz | decide) hw (by omega) (by omega) d_Te_isSameAs_28 (⟨by first | exact bz_t (sm_t h8 h20) | exact bz_f (sm_2 h20) | exact bz_f (sm_1 h8), rfl⟩)
    · have h20 := (cmp_eq (by omega) (by omega)).mp h20
      refine lv_iconst (v := nI 1) hx hb d_Te_isSameAs_23 (by decide) ?_
      refine lv_goto hx hb d_Te_isSameAs_24 rfl ?_
      exact x_reti hQ hx hb hr hlk (by first | exact nar_bz | decide) hw (by omega) (by omega) d_Te_isSameAs_28 (⟨by first | exact bz_t (sm_t h8 h20) | exact bz_f (sm_2 h20) | exact bz_f (sm_1 h8), rfl⟩)

set_option maxHeartbeats 4000000 in
set_option maxRecDepth 100000 in
theorem c_Te_digit {l : Launch} {E : Ev} {M : mp_M} {sz : Nat} {a0 X k : Nat} {x1 : Value} (he0 : M a0 = some (.inr (4, [.long (lN X), x1]))) (hX : X < 2 ^ 48) (hk : k < 13) : MCi l E y_Te_digitAt prog_6_method_3_code 2 (some .int) 0 0 0 0 [.ref a0, .int (nI k)] M sz (fun r M' => r = nI (dgt X k) ∧ M' = M) := by
  refine mc_of R_Te rfl [some (.ref a0), some (.int (nI k))] (by decide) (Nat.le_of_ble_eq_true rfl) rfl ?_
  intro p e R s m ag below meth c ls Q A X hAe hQ hR hsz hw hl
  rw [← hAe] at hQ
  obtain ⟨⟨hx, hb, hml, hown, hts⟩, hE, hA, hr, hlk, hnm⟩ := X
  have hK := hE.1
  first | refine x_aload_n hx hb d_Te_digitAt_0 hl rfl ?_ | refine x_aload_nQ hx hb d_Te_digitAt_0 hl rfl ?_
  refine m_get hx hb hts hown hK hw ci_Te he0 0 (by decide) (wm1 63 rfl rfl) rfl d_Te_digitAt_1 ?_
  refine lv_iconst (v := nI 4) hx hb d_Te_digitAt_4 (by decide) ?_
  refine x_iload_n hx hb d_Te_digitAt_5 hl rfl ?_
  first | refine x_imul hx hb d_Te_digitAt_6 ?_ | refine lv_imul hx hb d_Te_digitAt_6 ?_
  refine lv_lshr hx hb d_Te_digitAt_7 (dg_shr hX hk) ?_
  refine lv_ldc2 (v := 15) hx hb hown (hts _ (wm2 161 rfl rfl)) d_Te_digitAt_8 ?_
  have hq9 : X / 2 ^ (4 * k) ≤ X := Nat.div_le_self _ _
  refine lv_land hx hb d_Te_digitAt_11 ?_
  rw [and15 (by omega)]
  refine lv_l2i hx hb d_Te_digitAt_12 (lN_i _) ?_
  exact x_reti hQ hx hb hr hlk rfl hw (by omega) (by omega) d_Te_digitAt_13 (⟨rfl, rfl⟩)

set_option maxHeartbeats 4000000 in
set_option maxRecDepth 100000 in
theorem c_Te_common {l : Launch} {E : Ev} {M : mp_M} {sz : Nat} {a0 a1 X n Y m0 : Nat} (he0 : M a0 = some (.inr (4, [.long (lN X), .int (nI n)]))) (he1 : M a1 = some (.inr (4, [.long (lN Y), .int (nI m0)]))) (hX : X < 2 ^ 48) (hY : Y < 2 ^ 48) (hn : n < 13) (hm0 : m0 < 13) {k j : Nat} (hk : k < 13) (hj : j < 13) : MCi l E y_Te_commonFrom prog_6_method_6_code 5 (some .int) 1 21 0 0 [.ref a0, .int (nI k), .ref a1, .int (nI j)] M sz (fun r M' => r = nI (pcf X n k Y m0 j 13 0) ∧ M' = M) := by
  refine mc_of R_Te rfl [some (.ref a0), some (.int (nI k)), some (.ref a1), some (.int (nI j)), none] (by decide) (Nat.le_of_ble_eq_true rfl) rfl ?_
  intro p e R s m ag below meth c ls Q A X hAe hQ hR hsz hw hl
  rw [← hAe] at hQ
  obtain ⟨⟨hx, hb, hml, hown, hts⟩, hE, hA, hr, hlk, hnm⟩ := X
  have hK := hE.1
  have loop : ∀ (u f : Nat) (H : Heap) (locs : List Loc) (ls : Array Slot), f + u = 13 → mw E.1 vwCl A s.heap M H locs → lh ls [some (.ref a0), some (.int (nI k)), some (.ref a1), some (.int (nI j)), some (.int (nI f))] → pcf X n k Y m0 j u f = pcf X n k Y m0 j 13 0 → W p l e R s m ag below meth c H locs 0 0 Q (F0 m 3 ls []) := by
    intro u
    induction u with
    | zero =>
      intro f H locs ls hf hw hl hT
      have hT : f = pcf X n k Y m0 j 13 0 := hT
      refine x_iload_n hx hb d_Te_commonFrom_3 hl rfl ?_
      refine x_iload hx hb d_Te_commonFrom_4 hl rfl ?_
      first | refine x_iadd hx hb d_Te_commonFrom_6 ?_ | refine lv_iadd hx hb d_Te_commonFrom_6 ?_
      first | refine x_aload_n hx hb d_Te_commonFrom_7 hl rfl ?_ | refine x_aload_nQ hx hb d_Te_commonFrom_7 hl rfl ?_
      refine m_get hx hb hts hown hK hw ci_Te he0 1 (by decide) (wm1 65 rfl rfl) rfl d_Te_commonFrom_8 ?_
      refine x_icmp_ge hx hb d_Te_commonFrom_11 rfl (by omega) (by omega) (fun h11 => ?_) (fun h11 => ?_)
      · refine x_iload hx hb d_Te_commonFrom_50 hl rfl ?_
        exact x_reti hQ hx hb hr hlk rfl hw (by omega) (by omega) d_Te_commonFrom_52 (⟨by rw [hT], rfl⟩)
      · exact absurd h11 (by omega)
    | succ u ih =>
      intro f H locs ls hf hw hl hT
      refine x_iload_n hx hb d_Te_commonFrom_3 hl rfl ?_
      refine x_iload hx hb d_Te_commonFrom_4 hl rfl ?_
      first | refine x_iadd hx hb d_Te_commonFrom_6 ?_ | refine lv_iadd hx hb d_Te_commonFrom_6 ?_
      first | refine x_aload_n hx hb d_Te_commonFrom_7 hl rfl ?_ | refine x_aload_nQ hx hb d_Te_commonFrom_7 hl rfl ?_
      refine m_get hx hb hts hown hK hw ci_Te he0 1 (by decide) (wm1 65 rfl rfl) rfl d_Te_commonFrom_8 ?_
      refine x_icmp_ge hx hb d_Te_commonFrom_11 rfl (by omega) (by omega) (fun h11 => ?_) (fun h11 => ?_)
      · have hT2 : f = pcf X n k Y m0 j 13 0 := by
          rw [← hT]
          exact (if_neg (by omega)).symm
        refine x_iload hx hb d_Te_commonFrom_50 hl rfl ?_
        exact x_reti hQ hx hb hr hlk rfl hw (by omega) (by omega) d_Te_commonFrom_52 (⟨by rw [hT2], rfl⟩)
      · refine x_iload_n hx hb d_Te_commonFrom_14 hl rfl ?_
        refine x_iload hx hb d_Te_commonFrom_15 hl rfl ?_
        first | refine x_iadd hx hb d_Te_commonFrom_17 ?_ | refine lv_iadd hx hb d_Te_commonFrom_17 ?_
        first | refine x_aload_n hx hb d_Te_commonFrom_18 hl rfl ?_ | refine x_aload_nQ hx hb d_Te_commonFrom_18 hl rfl ?_
        refine m_get hx hb hts hown hK hw ci_Te he1 1 (by decide) (wm1 65 rfl rfl) rfl d_Te_commonFrom_19 ?_
        refine x_icmp_ge hx hb d_Te_commonFrom_22 rfl (by omega) (by omega) (fun h22 => ?_) (fun h22 => ?_)
        · have hT2 : f = pcf X n k Y m0 j 13 0 := by
            rw [← hT]
            exact (if_neg (by omega)).symm
          refine x_iload hx hb d_Te_commonFrom_50 hl rfl ?_
          exact x_reti hQ hx hb hr hlk rfl hw (by omega) (by omega) d_Te_commonFrom_52 (⟨by rw [hT2], rfl⟩)
        · first | refine x_aload_n hx hb d_Te_commonFrom_25 hl rfl ?_ | refine x_aload_nQ hx hb d_Te_commonFrom_25 hl rfl ?_
          refine x_iload_n hx hb d_Te_commonFrom_26 hl rfl ?_
          refine x_iload hx hb d_Te_commonFrom_27 hl rfl ?_
          first | refine x_iadd hx hb d_Te_commonFrom_29 ?_ | refine lv_iadd hx hb d_Te_commonFrom_29 ?_
          refine m_calli (k_V ⟨hx, hb, hml, hown, hts⟩ hE hA hw (c_Te_digit he0 hX (by omega)) (ci_Te).1 rfl he0 (wm2 157 rfl rfl) (wm2 159 rfl rfl) (wmp1 13 rfl) (wm1 5 rfl rfl) (wm2 160 rfl rfl) rfl rfl ar_Te_digitAt ⟨Nat.le_trans (Nat.le_of_ble_eq_true rfl) hR.1, Nat.le_trans (Nat.le_of_ble_eq_true rfl) hR.2.1⟩ rfl hl.1 rfl (Nat.le_of_ble_eq_true rfl) d_Te_commonFrom_30 ⟨Nat.le_trans (Nat.le_of_ble_eq_true rfl) hR.2.2.1, Nat.le_trans (Nat.le_of_ble_eq_true rfl) hR.2.2.2⟩) hw (mfr_in hw hA) (fun r30 M30 H locs hP30 hw => ?_)
          obtain ⟨rfl, hM30⟩ := hP30
          rw [hM30] at hw
          first | refine x_aload_n hx hb d_Te_commonFrom_33 hl rfl ?_ | refine x_aload_nQ hx hb d_Te_commonFrom_33 hl rfl ?_
          refine x_iload_n hx hb d_Te_commonFrom_34 hl rfl ?_
          refine x_iload hx hb d_Te_commonFrom_35 hl rfl ?_
          first | refine x_iadd hx hb d_Te_commonFrom_37 ?_ | refine lv_iadd hx hb d_Te_commonFrom_37 ?_
          refine m_calli (k_V ⟨hx, hb, hml, hown, hts⟩ hE hA hw (c_Te_digit he1 hY (by omega)) (ci_Te).1 rfl he1 (wm2 157 rfl rfl) (wm2 159 rfl rfl) (wmp1 13 rfl) (wm1 5 rfl rfl) (wm2 160 rfl rfl) rfl rfl ar_Te_digitAt ⟨Nat.le_trans (Nat.le_of_ble_eq_true rfl) hR.1, Nat.le_trans (Nat.le_of_ble_eq_true rfl) hR.2.1⟩ rfl hl.1 rfl (Nat.le_of_ble_eq_true rfl) d_Te_commonFrom_38 ⟨Nat.le_trans (Nat.le_of_ble_eq_true rfl) hR.2.2.1, Nat.le_trans (Nat.le_of_ble_eq_true rfl) hR.2.2.2⟩) hw (mfr_in hw hA) (fun r38 M38 H locs hP38 hw => ?_)
          obtain ⟨rfl, hM38⟩ := hP38
          rw [hM38] at hw
          have hd1 : dgt X (k + f) < 16 := Nat.mod_lt _ (by decide)
          have hd2 : dgt Y (j + f) < 16 := Nat.mod_lt _ (by decide)
          refine x_icmp_ne hx hb d_Te_commonFrom_41 rfl (by omega) (by omega) (fun h41 => ?_) (fun h41 => ?_)
          · have hT2 : f = pcf X n k Y m0 j 13 0 := by
              rw [← hT]
              exact (if_neg (fun z => h41 z.2.2)).symm
            refine x_iload hx hb d_Te_commonFrom_50 hl rfl ?_
            exact x_reti hQ hx hb hr hlk rfl hw (by omega) (by omega) d_Te_commonFrom_52 (⟨by rw [hT2], rfl⟩)
          · have hT2 : pcf X n k Y m0 j u (f + 1) = pcf X n k Y m0 j 13 0 := by
              rw [← hT]
              exact (if_pos ⟨h11, h22, h41⟩).symm
            refine x_iincN hx hb d_Te_commonFrom_44 hl rfl (lh_k (i := 3) rfl (by first | exact lk_n | exact lk_i | exact lk_r | exact lk_q | exact lk_0)) (fun ls hl => ?_)
            refine lv_goto hx hb d_Te_commonFrom_47 rfl ?_
            exact ih (f + 1) H locs ls (by omega) hw hl hT2
  refine lv_iconst (v := nI 0) hx hb d_Te_commonFrom_0 (by decide) ?_
  refine x_istore hx hb d_Te_commonFrom_1 hl (Nat.le_of_ble_eq_true rfl) (lh_k (i := 3) rfl (by first | exact lk_n | exact lk_i | exact lk_r | exact lk_q | exact lk_0)) (fun ls hl => ?_)
  exact loop 13 0 _ _ _ rfl hw hl rfl

set_option maxHeartbeats 4000000 in
set_option maxRecDepth 100000 in
theorem c_Te_longest {l : Launch} {E : Ev} {M : mp_M} {sz : Nat} {a0 a1 X n Y m0 : Nat} (he0 : M a0 = some (.inr (4, [.long (lN X), .int (nI n)]))) (he1 : M a1 = some (.inr (4, [.long (lN Y), .int (nI m0)]))) (hX : X < 2 ^ 48) (hY : Y < 2 ^ 48) (hn : n < 13) (hm0 : m0 < 13) {k : Nat} (hk : k < 13) : MCi l E y_Te_longestPiece prog_6_method_5_code 5 (some .int) 2 45 0 0 [.ref a0, .int (nI k), .ref a1] M sz (fun r M' => r = nI (lgf X n k Y m0 m0 0 0) ∧ M' = M) := by
  refine mc_of R_Te rfl [some (.ref a0), some (.int (nI k)), some (.ref a1), none, none] (by decide) (Nat.le_of_ble_eq_true rfl) rfl ?_
  intro p e R s m ag below meth c ls Q A X hAe hQ hR hsz hw hl
  rw [← hAe] at hQ
  obtain ⟨⟨hx, hb, hml, hown, hts⟩, hE, hA, hr, hlk, hnm⟩ := X
  have hK := hE.1
  have loop : ∀ (u j L : Nat) (H : Heap) (locs : List Loc) (ls : Array Slot), j + u = m0 → L ≤ 13 → mw E.1 vwCl A s.heap M H locs → lh ls [some (.ref a0), some (.int (nI k)), some (.ref a1), some (.int (nI L)), some (.int (nI j))] → lgf X n k Y m0 u j L = lgf X n k Y m0 m0 0 0 → W p l e R s m ag below meth c H locs 0 0 Q (F0 m 5 ls []) := by
    intro u
    induction u with
    | zero =>
      intro j L H locs ls hj hL hw hl hT
      have hT : L = lgf X n k Y m0 m0 0 0 := hT
      refine x_iload hx hb d_Te_longestPiece_5 hl rfl ?_
      first | refine x_aload_n hx hb d_Te_longestPiece_7 hl rfl ?_ | refine x_aload_nQ hx hb d_Te_longestPiece_7 hl rfl ?_
      refine m_get hx hb hts hown hK hw ci_Te he1 1 (by decide) (wm1 65 rfl rfl) rfl d_Te_longestPiece_8 ?_
      refine x_icmp_ge hx hb d_Te_longestPiece_11 rfl (by omega) (by omega) (fun h11 => ?_) (fun h11 => ?_)
      · refine x_iload_n hx hb d_Te_longestPiece_33 hl rfl ?_
        exact x_reti hQ hx hb hr hlk rfl hw (by omega) (by omega) d_Te_longestPiece_34 (⟨by rw [hT], rfl⟩)
      · exact absurd h11 (by omega)
    | succ u ih =>
      intro j L H locs ls hj hL hw hl hT
      rw [lgf_s] at hT
      refine x_iload hx hb d_Te_longestPiece_5 hl rfl ?_
      first | refine x_aload_n hx hb d_Te_longestPiece_7 hl rfl ?_ | refine x_aload_nQ hx hb d_Te_longestPiece_7 hl rfl ?_
      refine m_get hx hb hts hown hK hw ci_Te he1 1 (by decide) (wm1 65 rfl rfl) rfl d_Te_longestPiece_8 ?_
      refine x_icmp_ge hx hb d_Te_longestPiece_11 rfl (by omega) (by omega) (fun h11 => ?_) (fun h11 => ?_)
      · exact absurd h11 (by omega)
      · refine x_iload_n hx hb d_Te_longestPiece_14 hl rfl ?_
        first | refine x_aload_n hx hb d_Te_longestPiece_15 hl rfl ?_ | refine x_aload_nQ hx hb d_Te_longestPiece_15 hl rfl ?_
        refine x_iload_n hx hb d_Te_longestPiece_16 hl rfl ?_
        first | refine x_aload_n hx hb d_Te_longestPiece_17 hl rfl ?_ | refine x_aload_nQ hx hb d_Te_longestPiece_17 hl rfl ?_
        refine x_iload hx hb d_Te_longestPiece_18 hl rfl ?_
        refine m_calli (k_V ⟨hx, hb, hml, hown, hts⟩ hE hA hw (c_Te_common he0 he1 hX hY hn hm0 hk (by omega)) (ci_Te).1 rfl he0 (wm2 153 rfl rfl) (wm2 155 rfl rfl) (wmp1 12 rfl) (wm1 5 rfl rfl) (wm2 156 rfl rfl) rfl rfl ar_Te_commonFrom ⟨Nat.le_trans (Nat.le_of_ble_eq_true rfl) hR.1, Nat.le_trans (Nat.le_of_ble_eq_true rfl) hR.2.1⟩ rfl hl.1 rfl (Nat.le_of_ble_eq_true rfl) d_Te_longestPiece_20 ⟨Nat.le_trans (Nat.le_of_ble_eq_true rfl) hR.2.2.1, Nat.le_trans (Nat.le_of_ble_eq_true rfl) hR.2.2.2⟩) hw (mfr_in hw hA) (fun r20 M20 H locs hP20 hw => ?_)
        obtain ⟨rfl, hM20⟩ := hP20
        rw [hM20] at hw
        have hp9 := pcf_le (X := X) (n := n) (k := k) (Y := Y) (m := m0) (j := j) 13 0
        have hL2 : (if L < pcf X n k Y m0 j 13 0 then pcf X n k Y m0 j 13 0 else L) ≤ 13 := by split <;> omega
        refine va_mmax hx hb (hml.trans hl.1.symm) hown (hts _ (wm2 162 rfl rfl)) (hts _ (wm2 30 rfl rfl)) (hts _ (wm1 11 rfl rfl)) (hts _ (wm2 31 rfl rfl)) (Nat.le_trans (Nat.le_of_ble_eq_true rfl) hR.1) (Nat.le_trans (Nat.le_of_ble_eq_true rfl) hR.2.1) (Nat.le_trans (Nat.le_of_ble_eq_true rfl) hR.2.2.1) (Nat.le_trans (Nat.le_of_ble_eq_true rfl) hR.2.2.2) d_Te_longestPiece_23 ?_
        rw [mx (by omega) (by omega)]
        refine x_istore_n hx hb d_Te_longestPiece_26 hl (Nat.le_of_ble_eq_true rfl) (lh_k (i := 2) rfl (by first | exact lk_n | exact lk_i | exact lk_r | exact lk_q | exact lk_0)) (fun ls hl => ?_)
        refine x_iincN hx hb d_Te_longestPiece_27 hl rfl (lh_k (i := 3) rfl (by first | exact lk_n | exact lk_i | exact lk_r | exact lk_q | exact lk_0)) (fun ls hl => ?_)
        refine lv_goto hx hb d_Te_longestPiece_30 rfl ?_
        exact ih (j + 1) _ H locs ls (by omega) hL2 hw hl hT
  refine lv_iconst (v := nI 0) hx hb d_Te_longestPiece_0 (by decide) ?_
  refine x_istore_n hx hb d_Te_longestPiece_1 hl (Nat.le_of_ble_eq_true rfl) (lh_k (i := 2) rfl (by first | exact lk_n | exact lk_i | exact lk_r | exact lk_q | exact lk_0)) (fun ls hl => ?_)
  refine lv_iconst (v := nI 0) hx hb d_Te_longestPiece_2 (by decide) ?_
  refine x_istore hx hb d_Te_longestPiece_3 hl (Nat.le_of_ble_eq_true rfl) (lh_k (i := 3) rfl (by first | exact lk_n | exact lk_i | exact lk_r | exact lk_q | exact lk_0)) (fun ls hl => ?_)
  exact loop m0 0 0 _ _ _ (by omega) (by omega) hw hl rfl

set_option maxHeartbeats 4000000 in
set_option maxRecDepth 100000 in
theorem c_Te_cost {l : Launch} {E : Ev} {M : mp_M} {sz : Nat} {a0 a1 X n Y m0 : Nat} (he0 : M a0 = some (.inr (4, [.long (lN X), .int (nI n)]))) (he1 : M a1 = some (.inr (4, [.long (lN Y), .int (nI m0)]))) (hX : X < 2 ^ 48) (hY : Y < 2 ^ 48) (hn : n < 13) (hm0 : m0 < 13) : MCi l E y_Te_costFrom prog_6_method_4_code 6 (some .int) 3 69 0 0 [.ref a0, .ref a1] M sz (fun r M' => r = nI (csf X n Y m0 13 0 0 false) ∧ M' = M) := by
  refine mc_of R_Te rfl [some (.ref a0), some (.ref a1), none, none, none, none] (by decide) (Nat.le_of_ble_eq_true rfl) rfl ?_
  intro p e R s m ag below meth c ls Q A X hAe hQ hR hsz hw hl
  rw [← hAe] at hQ
  obtain ⟨⟨hx, hb, hml, hown, hts⟩, hE, hA, hr, hlk, hnm⟩ := X
  have hK := hE.1
  have loop : ∀ (u p0 T : Nat) (sg : Bool) (H : Heap) (locs : List Loc) (ls : Array Slot), n < p0 + u → p0 ≤ 26 → mw E.1 vwCl A s.heap M H locs → lh ls [some (.ref a0), some (.ref a1), some (.int (nI T)), some (.int (bz sg)), some (.int (nI p0)), none] → csf X n Y m0 u p0 T sg = csf X n Y m0 13 0 0 false → W p l e R s m ag below meth c H locs 0 0 Q (F0 m 7 ls []) := by
    intro u
    induction u with
    | zero =>
      intro p0 T sg H locs ls hu hp26 hw hl hT
      refine x_iload hx hb d_Te_costFrom_7 hl rfl ?_
      first | refine x_aload_n hx hb d_Te_costFrom_9 hl rfl ?_ | refine x_aload_nQ hx hb d_Te_costFrom_9 hl rfl ?_
      refine m_get hx hb hts hown hK hw ci_Te he0 1 (by decide) (wm1 65 rfl rfl) rfl d_Te_costFrom_10 ?_
      refine x_icmp_ge hx hb d_Te_costFrom_13 rfl (by omega) (by omega) (fun h13 => ?_) (fun h13 => ?_)
      · refine x_iload_n hx hb d_Te_costFrom_66 hl rfl ?_
        exact x_reti hQ hx hb hr hlk rfl hw (by omega) (by omega) d_Te_costFrom_67 (⟨by rw [← hT]; rfl, rfl⟩)
      · exact absurd h13 (by omega)
    | succ u ih =>
      intro p0 T sg H locs ls hu hp26 hw hl hT
      refine x_iload hx hb d_Te_costFrom_7 hl rfl ?_
      first | refine x_aload_n hx hb d_Te_costFrom_9 hl rfl ?_ | refine x_aload_nQ hx hb d_Te_costFrom_9 hl rfl ?_
      refine m_get hx hb hts hown hK hw ci_Te he0 1 (by decide) (wm1 65 rfl rfl) rfl d_Te_costFrom_10 ?_
      refine x_icmp_ge hx hb d_Te_costFrom_13 rfl (by omega) (by omega) (fun h13 => ?_) (fun h13 => ?_)
      · have hT2 := csf_e (X := X) (n := n) (Y := Y) (m := m0) (p := p0) (T := T) (s := sg) h13 (u + 1)
        refine x_iload_n hx hb d_Te_costFrom_66 hl rfl ?_
        exact x_reti hQ hx hb hr hlk rfl hw (by omega) (by omega) d_Te_costFrom_67 (⟨by rw [← hT, hT2], rfl⟩)
      · first | refine x_aload_n hx hb d_Te_costFrom_16 hl rfl ?_ | refine x_aload_nQ hx hb d_Te_costFrom_16 hl rfl ?_
        refine x_iload hx hb d_Te_costFrom_17 hl rfl ?_
        first | refine x_aload_n hx hb d_Te_costFrom_19 hl rfl ?_ | refine x_aload_nQ hx hb d_Te_costFrom_19 hl rfl ?_
        refine m_calli (k_V ⟨hx, hb, hml, hown, hts⟩ hE hA hw (c_Te_longest he0 he1 hX hY hn hm0 (by omega)) (ci_Te).1 rfl he0 (wm2 149 rfl rfl) (wm2 151 rfl rfl) (wmp1 11 rfl) (wm1 5 rfl rfl) (wm2 152 rfl rfl) rfl rfl ar_Te_longestPiece ⟨Nat.le_trans (Nat.le_of_ble_eq_true rfl) hR.1, Nat.le_trans (Nat.le_of_ble_eq_true rfl) hR.2.1⟩ rfl hl.1 rfl (Nat.le_of_ble_eq_true rfl) d_Te_costFrom_20 ⟨Nat.le_trans (Nat.le_of_ble_eq_true rfl) hR.2.2.1, Nat.le_trans (Nat.le_of_ble_eq_true rfl) hR.2.2.2⟩) hw (mfr_in hw hA) (fun r20 M20 H locs hP20 hw => ?_)
        obtain ⟨rfl, hM20⟩ := hP20
        rw [hM20] at hw
        refine x_istore hx hb d_Te_costFrom_23 hl (Nat.le_of_ble_eq_true rfl) (lh_k (i := 4) rfl (by first | exact lk_n | exact lk_i | exact lk_r | exact lk_q | exact lk_0)) (fun ls hl => ?_)
        have hL9 := lgf_le (X := X) (n := n) (p := p0) (Y := Y) (m := m0) m0 0 0 (by omega)
        refine x_iload hx hb d_Te_costFrom_25 hl rfl ?_
        refine lv_iconst (v := nI 3) hx hb d_Te_costFrom_27 (by decide) ?_
        refine x_icmp_lt hx hb d_Te_costFrom_28 rfl (by omega) (by omega) (fun h28 => ?_) (fun h28 => ?_)
        · have hT2 := csf_2 (X := X) (Y := Y) (m := m0) (u := u) (T := T) (s := sg) h13 h28
          refine x_iload_n hx hb d_Te_costFrom_46 hl rfl ?_
          refine x_iload_n hx hb d_Te_costFrom_47 hl rfl ?_
          refine x_if_eqB hx hb d_Te_costFrom_48 rfl (fun h48 => ?_) (fun h48 => ?_)
          · subst h48
            refine lv_iconst (v := nI 2) hx hb d_Te_costFrom_55 (by decide) ?_
            first | refine x_iadd hx hb d_Te_costFrom_56 ?_ | refine lv_iadd hx hb d_Te_costFrom_56 ?_
            refine x_istore_n hx hb d_Te_costFrom_57 hl (Nat.le_of_ble_eq_true rfl) (lh_k (i := 1) rfl (by first | exact lk_n | exact lk_i | exact lk_r | exact lk_q | exact lk_0)) (fun ls hl => ?_)
            refine x_iincN hx hb d_Te_costFrom_58 hl rfl (lh_k (i := 3) rfl (by first | exact lk_n | exact lk_i | exact lk_r | exact lk_q | exact lk_0)) (fun ls hl => ?_)
            refine lv_iconst (v := nI 1) hx hb d_Te_costFrom_61 (by decide) ?_
            refine x_istore_n hx hb d_Te_costFrom_62 hl (Nat.le_of_ble_eq_true rfl) (lh_k (i := 2) rfl (by first | exact lk_n | exact lk_i | exact lk_r | exact lk_q | exact lk_0)) (fun ls hl => ?_)
            refine lv_goto hx hb d_Te_costFrom_63 rfl ?_
            first | exact ih _ _ true H locs ls (by omega) (by omega) hw (lh_drop 5 hl) (hT2.symm.trans hT) | exact ih _ _ false H locs ls (by omega) (by omega) hw (lh_drop 5 hl) (hT2.symm.trans hT)
          · subst h48
            refine lv_iconst (v := nI 1) hx hb d_Te_costFrom_51 (by decide) ?_
            refine lv_goto hx hb d_Te_costFrom_52 rfl ?_
            first | refine x_iadd hx hb d_Te_costFrom_56 ?_ | refine lv_iadd hx hb d_Te_costFrom_56 ?_
            refine x_istore_n hx hb d_Te_costFrom_57 hl (Nat.le_of_ble_eq_true rfl) (lh_k (i := 1) rfl (by first | exact lk_n | exact lk_i | exact lk_r | exact lk_q | exact lk_0)) (fun ls hl => ?_)
            refine x_iincN hx hb d_Te_costFrom_58 hl rfl (lh_k (i := 3) rfl (by first | exact lk_n | exact lk_i | exact lk_r | exact lk_q | exact lk_0)) (fun ls hl => ?_)
            refine lv_iconst (v := nI 1) hx hb d_Te_costFrom_61 (by decide) ?_
            refine x_istore_n hx hb d_Te_costFrom_62 hl (Nat.le_of_ble_eq_true rfl) (lh_k (i := 2) rfl (by first | exact lk_n | exact lk_i | exact lk_r | exact lk_q | exact lk_0)) (fun ls hl => ?_)
            refine lv_goto hx hb d_Te_costFrom_63 rfl ?_
            first | exact ih _ _ true H locs ls (by omega) (by omega) hw (lh_drop 5 hl) (hT2.symm.trans hT) | exact ih _ _ false H locs ls (by omega) (by omega) hw (lh_drop 5 hl) (hT2.symm.trans hT)
        · have hT2 := csf_1 (X := X) (Y := Y) (m := m0) (u := u) (T := T) (s := sg) h13 h28
          refine x_iinc hx hb d_Te_costFrom_31 hl rfl (inc_2 T) (lh_k (i := 1) rfl (by first | exact lk_n | exact lk_i | exact lk_r | exact lk_q | exact lk_0)) (fun ls hl => ?_)
          refine x_iload hx hb d_Te_costFrom_34 hl rfl ?_
          refine x_iload hx hb d_Te_costFrom_36 hl rfl ?_
          first | refine x_iadd hx hb d_Te_costFrom_38 ?_ | refine lv_iadd hx hb d_Te_costFrom_38 ?_
          refine x_istore hx hb d_Te_costFrom_39 hl (Nat.le_of_ble_eq_true rfl) (lh_k (i := 3) rfl (by first | exact lk_n | exact lk_i | exact lk_r | exact lk_q | exact lk_0)) (fun ls hl => ?_)
          refine lv_iconst (v := nI 0) hx hb d_Te_costFrom_41 (by decide) ?_
          refine x_istore_n hx hb d_Te_costFrom_42 hl (Nat.le_of_ble_eq_true rfl) (lh_k (i := 2) rfl (by first | exact lk_n | exact lk_i | exact lk_r | exact lk_q | exact lk_0)) (fun ls hl => ?_)
          refine lv_goto hx hb d_Te_costFrom_43 rfl ?_
          refine lv_goto hx hb d_Te_costFrom_63 rfl ?_
          first | exact ih _ _ true H locs ls (by omega) (by omega) hw (lh_drop 5 hl) (hT2.symm.trans hT) | exact ih _ _ false H locs ls (by omega) (by omega) hw (lh_drop 5 hl) (hT2.symm.trans hT)
  refine lv_iconst (v := nI 0) hx hb d_Te_costFrom_0 (by decide) ?_
  refine x_istore_n hx hb d_Te_costFrom_1 hl (Nat.le_of_ble_eq_true rfl) (lh_k (i := 1) rfl (by first | exact lk_n | exact lk_i | exact lk_r | exact lk_q | exact lk_0)) (fun ls hl => ?_)
  refine lv_iconst (v := nI 0) hx hb d_Te_costFrom_2 (by decide) ?_
  refine x_istore_n hx hb d_Te_costFrom_3 hl (Nat.le_of_ble_eq_true rfl) (lh_k (i := 2) rfl (by first | exact lk_n | exact lk_i | exact lk_r | exact lk_q | exact lk_0)) (fun ls hl => ?_)
  refine lv_iconst (v := nI 0) hx hb d_Te_costFrom_4 (by decide) ?_
  refine x_istore hx hb d_Te_costFrom_5 hl (Nat.le_of_ble_eq_true rfl) (lh_k (i := 3) rfl (by first | exact lk_n | exact lk_i | exact lk_r | exact lk_q | exact lk_0)) (fun ls hl => ?_)
  exact loop 13 0 0 false _ _ _ (by omega) (by omega) hw hl rfl
