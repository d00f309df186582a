theorem d_AL_size_0 : decode prog_18_method_8_code 0 = .ok (.aload_n 0, 1) := by decide +kernel
theorem d_AL_size_1 : decode prog_18_method_8_code 1 = .ok (.getfield 48, 3) := by decide +kernel
theorem d_AL_size_4 : decode prog_18_method_8_code 4 = .ok (.ireturn, 1) := by decide +kernel

theorem d_Pc_checkIndex_0 : decode prog_26_method_11_code 0 = .ok (.iload_n 0, 1) := by decide +kernel
theorem d_Pc_checkIndex_1 : decode prog_26_method_11_code 1 = .ok (.ifCond .lt 8, 3) := by decide +kernel
theorem d_Pc_checkIndex_4 : decode prog_26_method_11_code 4 = .ok (.iload_n 0, 1) := by decide +kernel
theorem d_Pc_checkIndex_5 : decode prog_26_method_11_code 5 = .ok (.iload_n 1, 1) := by decide +kernel
theorem d_Pc_checkIndex_6 : decode prog_26_method_11_code 6 = .ok (.if_icmp .lt 10, 3) := by decide +kernel
theorem d_Pc_checkIndex_9 : decode prog_26_method_11_code 9 = .ok (.aload_n 2, 1) := by decide +kernel
theorem d_Pc_checkIndex_10 : decode prog_26_method_11_code 10 = .ok (.iload_n 0, 1) := by decide +kernel
theorem d_Pc_checkIndex_11 : decode prog_26_method_11_code 11 = .ok (.iload_n 1, 1) := by decide +kernel
theorem d_Pc_checkIndex_12 : decode prog_26_method_11_code 12 = .ok (.invokestatic 95, 3) := by decide +kernel
theorem d_Pc_checkIndex_15 : decode prog_26_method_11_code 15 = .ok (.athrow, 1) := by decide +kernel
theorem d_Pc_checkIndex_16 : decode prog_26_method_11_code 16 = .ok (.iload_n 0, 1) := by decide +kernel
theorem d_Pc_checkIndex_17 : decode prog_26_method_11_code 17 = .ok (.ireturn, 1) := by decide +kernel

theorem d_Ob_checkIndex_0 : decode prog_22_method_17_code 0 = .ok (.iload_n 0, 1) := by decide +kernel
theorem d_Ob_checkIndex_1 : decode prog_22_method_17_code 1 = .ok (.iload_n 1, 1) := by decide +kernel
theorem d_Ob_checkIndex_2 : decode prog_22_method_17_code 2 = .ok (.aconst_null, 1) := by decide +kernel
theorem d_Ob_checkIndex_3 : decode prog_22_method_17_code 3 = .ok (.invokestatic 105, 3) := by decide +kernel
theorem d_Ob_checkIndex_6 : decode prog_22_method_17_code 6 = .ok (.ireturn, 1) := by decide +kernel

theorem d_AL_elementData_0 : decode prog_18_method_18_code 0 = .ok (.aload_n 0, 1) := by decide +kernel
theorem d_AL_elementData_1 : decode prog_18_method_18_code 1 = .ok (.getfield 9, 3) := by decide +kernel
theorem d_AL_elementData_4 : decode prog_18_method_18_code 4 = .ok (.iload_n 1, 1) := by decide +kernel
theorem d_AL_elementData_5 : decode prog_18_method_18_code 5 = .ok (.aaload, 1) := by decide +kernel
theorem d_AL_elementData_6 : decode prog_18_method_18_code 6 = .ok (.areturn, 1) := by decide +kernel

theorem d_AL_get_0 : decode prog_18_method_20_code 0 = .ok (.iload_n 1, 1) := by decide +kernel
theorem d_AL_get_1 : decode prog_18_method_20_code 1 = .ok (.aload_n 0, 1) := by decide +kernel
theorem d_AL_get_2 : decode prog_18_method_20_code 2 = .ok (.getfield 48, 3) := by decide +kernel
theorem d_AL_get_5 : decode prog_18_method_20_code 5 = .ok (.invokestatic 118, 3) := by decide +kernel
theorem d_AL_get_8 : decode prog_18_method_20_code 8 = .ok (.pop, 1) := by decide +kernel
theorem d_AL_get_9 : decode prog_18_method_20_code 9 = .ok (.aload_n 0, 1) := by decide +kernel
theorem d_AL_get_10 : decode prog_18_method_20_code 10 = .ok (.iload_n 1, 1) := by decide +kernel
theorem d_AL_get_11 : decode prog_18_method_20_code 11 = .ok (.invokevirtual 123, 3) := by decide +kernel
theorem d_AL_get_14 : decode prog_18_method_20_code 14 = .ok (.areturn, 1) := by decide +kernel

set_option maxHeartbeats 4000000 in
set_option maxRecDepth 100000 in
theorem c_AL_size {l : Launch} {E : Ev} {M : mp_M} {sz : Nat} {a0 : Nat} {x0 x1 : Value} {n : Int32} (he0 : M a0 = some (.inr (7, [x0, x1, .int n]))) : MCi l E y_AL_size prog_18_method_8_code 1 (some .int) 0 0 0 0 [.ref a0] M sz (fun r M' => r = n ∧ M' = M) := by
  refine mc_of R_AL rfl [some (.ref a0)] (by decide) (Nat.le_of_ble_eq_true rfl) rfl ?_
  intro p e R s m ag below meth c ls Q A X hAe hQ hR hsz hw hl
  rw [← hAe] at hQ
  obtain ⟨⟨hx, hb, hml, hown, hts⟩, hE, hA, hr, hlk, hnm⟩ := X
  have hK := hE.1
  first | refine x_aload_n hx hb d_AL_size_0 hl rfl ?_ | refine x_aload_nQ hx hb d_AL_size_0 hl rfl ?_
  refine m_get hx hb hts hown hK hw ci_AL he0 2 (by decide) (wm1 46 rfl rfl) rfl d_AL_size_1 ?_
  exact x_reti hQ hx hb hr hlk rfl hw (by omega) (by omega) d_AL_size_4 (⟨rfl, rfl⟩)

set_option maxHeartbeats 4000000 in
set_option maxRecDepth 100000 in
theorem c_Pc_check {l : Launch} {E : Ev} {M : mp_M} {sz : Nat} {i n : Nat} (hi : i < n) (hn : n < 2 ^ 31) : MCi l E y_Pc_checkIndex prog_26_method_11_code 3 (some .int) 0 0 0 0 [.int (nI i), .int (nI n), .null] M sz (fun r M' => r = nI i ∧ M' = M) := by
  refine mc_of R_Pc rfl [some (.int (nI i)), some (.int (nI n)), some (.null)] (by decide) (Nat.le_of_ble_eq_true rfl) rfl ?_
  intro p e R s m ag below meth c ls Q A X hAe hQ hR hsz hw hl
  rw [← hAe] at hQ
  obtain ⟨⟨hx, hb, hml, hown, hts⟩, hE, hA, hr, hlk, hnm⟩ := X
  have hK := hE.1
  refine x_iload_n hx hb d_Pc_checkIndex_0 hl rfl ?_
  refine x_if_lt hx hb d_Pc_checkIndex_1 rfl (by omega) ?_
  refine x_iload_n hx hb d_Pc_checkIndex_4 hl rfl ?_
  refine x_iload_n hx hb d_Pc_checkIndex_5 hl rfl ?_
  refine x_icmp_lt hx hb d_Pc_checkIndex_6 rfl (by omega) (by omega) (fun h6 => ?_) (fun h6 => ?_)
  · refine x_iload_n hx hb d_Pc_checkIndex_16 hl rfl ?_
    exact x_reti hQ hx hb hr hlk rfl hw (by omega) (by omega) d_Pc_checkIndex_17 (⟨rfl, rfl⟩)
  · exact absurd h6 (by omega)

set_option maxHeartbeats 4000000 in
set_option maxRecDepth 100000 in
theorem c_Ob_check {l : Launch} {E : Ev} {M : mp_M} {sz : Nat} {i n : Nat} (hi : i < n) (hn : n < 2 ^ 31) : MCi l E y_Ob_checkIndex prog_22_method_17_code 2 (some .int) 1 22 0 0 [.int (nI i), .int (nI n)] M sz (fun r M' => r = nI i ∧ M' = M) := by
  refine mc_of R_Ob rfl [some (.int (nI i)), some (.int (nI n))] (by decide) (Nat.le_of_ble_eq_true rfl) rfl ?_
  intro p e R s m ag below meth c ls Q A X hAe hQ hR hsz hw hl
  rw [← hAe] at hQ
  obtain ⟨⟨hx, hb, hml, hown, hts⟩, hE, hA, hr, hlk, hnm⟩ := X
  have hK := hE.1
  refine x_iload_n hx hb d_Ob_checkIndex_0 hl rfl ?_
  refine x_iload_n hx hb d_Ob_checkIndex_1 hl rfl ?_
  refine lv_null hx hb d_Ob_checkIndex_2 ?_
  refine m_calli (k_S ⟨hx, hb, hml, hown, hts⟩ hE hA hw (c_Pc_check hi hn) (wm2 121 rfl rfl) (wm2 122 rfl rfl) (wm1 14 rfl rfl) (wm2 123 rfl rfl) rfl rfl ar_Pc_checkIndex ⟨Nat.le_trans (Nat.le_of_ble_eq_true rfl) hR.1, Nat.le_trans (Nat.le_of_ble_eq_true rfl) hR.2.1⟩ rfl hl.1 rfl (Nat.le_of_ble_eq_true rfl) d_Ob_checkIndex_3 ⟨Nat.le_trans (Nat.le_of_ble_eq_true rfl) hR.2.2.1, Nat.le_trans (Nat.le_of_ble_eq_true rfl) hR.2.2.2⟩) hw (mfr_in hw hA) (fun r3 M3 H locs hP3 hw => ?_)
  obtain ⟨rfl, hM3⟩ := hP3
  rw [hM3] at hw
  exact x_reti hQ hx hb hr hlk rfl hw (by omega) (by omega) d_Ob_checkIndex_6 (⟨rfl, rfl⟩)

set_option maxHeartbeats 4000000 in
set_option maxRecDepth 100000 in
theorem c_AL_elem {l : Launch} {E : Ev} {M : mp_M} {sz : Nat} {a0 ea cap i : Nat} {x0 x2 : Value} {f : Nat → Option Nat} (he0 : M a0 = some (.inr (7, [x0, .ref ea, x2]))) (hea : M ea = some (.inl (E.2.1 3, cap, .inr (.inr (.inr (.inr f)))))) (hi : i < cap) (hc : cap < 2 ^ 31) : MCq l E y_AL_elementData prog_18_method_18_code 2 (some (.object "java/lang/Object")) 0 0 0 0 [.ref a0, .int (nI i)] M sz (fun r M' => r = f i ∧ M' = M) := by
  refine mc_of R_AL rfl [some (.ref a0), some (.int (nI i))] (by decide) (Nat.le_of_ble_eq_true rfl) rfl ?_
  intro p e R s m ag below meth c ls Q A X hAe hQ hR hsz hw hl
  rw [← hAe] at hQ
  obtain ⟨⟨hx, hb, hml, hown, hts⟩, hE, hA, hr, hlk, hnm⟩ := X
  have hK := hE.1
  first | refine x_aload_n hx hb d_AL_elementData_0 hl rfl ?_ | refine x_aload_nQ hx hb d_AL_elementData_0 hl rfl ?_
  refine m_get hx hb hts hown hK hw ci_AL he0 1 (by decide) (wm1 45 rfl rfl) rfl d_AL_elementData_1 ?_
  refine x_iload_n hx hb d_AL_elementData_4 hl rfl ?_
  refine m_aald hx hb hK hw 3 hea rfl hi hc rfl d_AL_elementData_5 ?_
  first | exact x_retr hQ hx hb hr hlk hw (by omega) (by omega) d_AL_elementData_6 (⟨rfl, rfl⟩) | exact x_retq (v := none) hQ hx hb hr hlk hw (by omega) (by omega) d_AL_elementData_6 (⟨rfl, rfl⟩) | exact x_retq hQ hx hb hr hlk hw (by omega) (by omega) d_AL_elementData_6 (⟨rfl, rfl⟩)

set_option maxHeartbeats 4000000 in
set_option maxRecDepth 100000 in
theorem c_AL_get {l : Launch} {E : Ev} {M : mp_M} {sz : Nat} {a0 ea cap n i : Nat} {x0 : Value} {f : Nat → Option Nat} (he0 : M a0 = some (.inr (7, [x0, .ref ea, .int (nI n)]))) (hea : M ea = some (.inl (E.2.1 3, cap, .inr (.inr (.inr (.inr f)))))) (hi : i < n) (hn : n ≤ cap) (hc : cap < 2 ^ 31) : MCq l E y_AL_get prog_18_method_20_code 2 (some (.object "java/lang/Object")) 2 43 0 0 [.ref a0, .int (nI i)] M sz (fun r M' => r = f i ∧ M' = M) := by
  refine mc_of R_AL rfl [some (.ref a0), some (.int (nI i))] (by decide) (Nat.le_of_ble_eq_true rfl) rfl ?_
  intro p e R s m ag below meth c ls Q A X hAe hQ hR hsz hw hl
  rw [← hAe] at hQ
  obtain ⟨⟨hx, hb, hml, hown, hts⟩, hE, hA, hr, hlk, hnm⟩ := X
  have hK := hE.1
  refine x_iload_n hx hb d_AL_get_0 hl rfl ?_
  first | refine x_aload_n hx hb d_AL_get_1 hl rfl ?_ | refine x_aload_nQ hx hb d_AL_get_1 hl rfl ?_
  refine m_get hx hb hts hown hK hw ci_AL he0 2 (by decide) (wm1 46 rfl rfl) rfl d_AL_get_2 ?_
  refine m_calli (k_S ⟨hx, hb, hml, hown, hts⟩ hE hA hw (c_Ob_check hi (by omega)) (wm2 118 rfl rfl) (wm2 119 rfl rfl) (wm1 13 rfl rfl) (wm2 120 rfl rfl) rfl rfl ar_Ob_checkIndex ⟨Nat.le_trans (Nat.le_of_ble_eq_true rfl) hR.1, Nat.le_trans (Nat.le_of_ble_eq_true rfl) hR.2.1⟩ rfl hl.1 rfl (Nat.le_of_ble_eq_true rfl) d_AL_get_5 ⟨Nat.le_trans (Nat.le_of_ble_eq_true rfl) hR.2.2.1, Nat.le_trans (Nat.le_of_ble_eq_true rfl) hR.2.2.2⟩) hw (mfr_in hw hA) (fun r5 M5 H locs hP5 hw => ?_)
  obtain ⟨rfl, hM5⟩ := hP5
  rw [hM5] at hw
  first | refine lv_pop hx hb d_AL_get_8 rfl ?_ | refine lv_pop hx hb d_AL_get_8 (va_rf_c _) ?_
  first | refine x_aload_n hx hb d_AL_get_9 hl rfl ?_ | refine x_aload_nQ hx hb d_AL_get_9 hl rfl ?_
  refine x_iload_n hx hb d_AL_get_10 hl rfl ?_
  refine m_callq (k_V ⟨hx, hb, hml, hown, hts⟩ hE hA hw (c_AL_elem he0 hea (by omega) hc) (ci_AL).1 rfl he0 (wm2 124 rfl rfl) (wm2 125 rfl rfl) (wm2 126 rfl rfl) (wm1 4 rfl rfl) (wm2 127 rfl rfl) rfl rfl ar_AL_elementData ⟨Nat.le_trans (Nat.le_of_ble_eq_true rfl) hR.1, Nat.le_trans (Nat.le_of_ble_eq_true rfl) hR.2.1⟩ rfl hl.1 rfl (Nat.le_of_ble_eq_true rfl) d_AL_get_11 ⟨Nat.le_trans (Nat.le_of_ble_eq_true rfl) hR.2.2.1, Nat.le_trans (Nat.le_of_ble_eq_true rfl) hR.2.2.2⟩) hw (mfr_in hw hA) (fun r11 M11 H locs hP11 hw => ?_)
  obtain ⟨rfl, hM11⟩ := hP11
  rw [hM11] at hw
  first | exact x_retr hQ hx hb hr hlk hw (by omega) (by omega) d_AL_get_14 (⟨rfl, rfl⟩) | exact x_retq (v := none) hQ hx hb hr hlk hw (by omega) (by omega) d_AL_get_14 (⟨rfl, rfl⟩) | exact x_retq hQ hx hb hr hlk hw (by omega) (by omega) d_AL_get_14 (⟨rfl, rfl⟩)
