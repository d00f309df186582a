theorem d_M_make_0 : decode prog_10_method_16_code 0 = .ok (.aload_n 0, 1) := by decide +kernel
theorem d_M_make_1 : decode prog_10_method_16_code 1 = .ok (.iload_n 1, 1) := by decide +kernel
theorem d_M_make_2 : decode prog_10_method_16_code 2 = .ok (.iload_n 2, 1) := by decide +kernel
theorem d_M_make_3 : decode prog_10_method_16_code 3 = .ok (.invokevirtual 105, 3) := by decide +kernel
theorem d_M_make_6 : decode prog_10_method_16_code 6 = .ok (.ifCond .ne 5, 3) := by decide +kernel
theorem d_M_make_9 : decode prog_10_method_16_code 9 = .ok (.iconst 0, 1) := by decide +kernel
theorem d_M_make_10 : decode prog_10_method_16_code 10 = .ok (.ireturn, 1) := by decide +kernel
theorem d_M_make_11 : decode prog_10_method_16_code 11 = .ok (.aload_n 0, 1) := by decide +kernel
theorem d_M_make_12 : decode prog_10_method_16_code 12 = .ok (.iload_n 1, 1) := by decide +kernel
theorem d_M_make_13 : decode prog_10_method_16_code 13 = .ok (.iload_n 3, 1) := by decide +kernel
theorem d_M_make_14 : decode prog_10_method_16_code 14 = .ok (.ifCond .eq 7, 3) := by decide +kernel
theorem d_M_make_17 : decode prog_10_method_16_code 17 = .ok (.iconst 1, 1) := by decide +kernel
theorem d_M_make_18 : decode prog_10_method_16_code 18 = .ok (.goto 4, 3) := by decide +kernel
theorem d_M_make_21 : decode prog_10_method_16_code 21 = .ok (.iconst 2, 1) := by decide +kernel
theorem d_M_make_22 : decode prog_10_method_16_code 22 = .ok (.iconst 0, 1) := by decide +kernel
theorem d_M_make_23 : decode prog_10_method_16_code 23 = .ok (.invokevirtual 91, 3) := by decide +kernel
theorem d_M_make_26 : decode prog_10_method_16_code 26 = .ok (.istore 4, 2) := by decide +kernel
theorem d_M_make_28 : decode prog_10_method_16_code 28 = .ok (.aload_n 0, 1) := by decide +kernel
theorem d_M_make_29 : decode prog_10_method_16_code 29 = .ok (.dup, 1) := by decide +kernel
theorem d_M_make_30 : decode prog_10_method_16_code 30 = .ok (.getfield 109, 3) := by decide +kernel
theorem d_M_make_33 : decode prog_10_method_16_code 33 = .ok (.iconst 1, 1) := by decide +kernel
theorem d_M_make_34 : decode prog_10_method_16_code 34 = .ok (.iadd, 1) := by decide +kernel
theorem d_M_make_35 : decode prog_10_method_16_code 35 = .ok (.putfield 109, 3) := by decide +kernel
theorem d_M_make_38 : decode prog_10_method_16_code 38 = .ok (.aload_n 0, 1) := by decide +kernel
theorem d_M_make_39 : decode prog_10_method_16_code 39 = .ok (.getfield 35, 3) := by decide +kernel
theorem d_M_make_42 : decode prog_10_method_16_code 42 = .ok (.iload 4, 2) := by decide +kernel
theorem d_M_make_44 : decode prog_10_method_16_code 44 = .ok (.aload_n 0, 1) := by decide +kernel
theorem d_M_make_45 : decode prog_10_method_16_code 45 = .ok (.getfield 109, 3) := by decide +kernel
theorem d_M_make_48 : decode prog_10_method_16_code 48 = .ok (.i2s, 1) := by decide +kernel
theorem d_M_make_49 : decode prog_10_method_16_code 49 = .ok (.sastore, 1) := by decide +kernel
theorem d_M_make_50 : decode prog_10_method_16_code 50 = .ok (.aload_n 0, 1) := by decide +kernel
theorem d_M_make_51 : decode prog_10_method_16_code 51 = .ok (.iload_n 1, 1) := by decide +kernel
theorem d_M_make_52 : decode prog_10_method_16_code 52 = .ok (.iload_n 2, 1) := by decide +kernel
theorem d_M_make_53 : decode prog_10_method_16_code 53 = .ok (.iload 4, 2) := by decide +kernel
theorem d_M_make_55 : decode prog_10_method_16_code 55 = .ok (.invokevirtual 95, 3) := by decide +kernel
theorem d_M_make_58 : decode prog_10_method_16_code 58 = .ok (.aload_n 0, 1) := by decide +kernel
theorem d_M_make_59 : decode prog_10_method_16_code 59 = .ok (.iload_n 1, 1) := by decide +kernel
theorem d_M_make_60 : decode prog_10_method_16_code 60 = .ok (.iload_n 2, 1) := by decide +kernel
theorem d_M_make_61 : decode prog_10_method_16_code 61 = .ok (.invokestatic 99, 3) := by decide +kernel
theorem d_M_make_64 : decode prog_10_method_16_code 64 = .ok (.invokevirtual 112, 3) := by decide +kernel
theorem d_M_make_67 : decode prog_10_method_16_code 67 = .ok (.iconst 1, 1) := by decide +kernel
theorem d_M_make_68 : decode prog_10_method_16_code 68 = .ok (.ireturn, 1) := by decide +kernel
set_option maxHeartbeats 4000000 in
set_option maxRecDepth 100000 in
theorem c_M_make {l : Launch} {E : Ev} {σ : SS} {ad : Nat → Nat} (hI : rfI ad) (hB : rB σ) {sz : Nat} {x y : Int32} {b : Bool} (hN : ∀ j, σ 0 j < 1300) (hk : rmb σ (tx x) (ix y) = true → σ 4 0 + 1 < 1300 ∧ σ 5 0 + 1 < 32768 ∧ tok (pd (pp (ix y))) (mk4 σ (tx x) (ix y) (if b = true then 1 else 2)) (tx x) (pp (ix y))) : MCi l E y_M_make prog_10_method_16_code 5 (some .boolean) 3 69 0 0 [.ref (ad 0), .int x, .int y, .int (bz b)] (rfM E σ ad) sz (fun r M' => r = bz (rmb σ (tx x) (ix y)) ∧ M' = rfM E (mkO σ (tx x) (ix y) b) ad ∧ rB (mkO σ (tx x) (ix y) b)) := by
  refine mc_of R_M rfl [some (.ref (ad 0)), some (.int x), some (.int y), some (.int (bz b)), none] (by decide) (Nat.le_of_ble_eq_true rfl) rfl ?_
  intro p e R s m ag below meth c ls Q A X hAe hQ hR hsz hw hl
  rw [← hAe] at hQ
  obtain ⟨⟨hx, hb, hml, hown, hts⟩, hE, hA, hr, hlk, hnm⟩ := X
  have hK := hE.1
  first | refine x_aload_n hx hb d_M_make_0 hl rfl ?_ | refine x_aload_nQ hx hb d_M_make_0 hl rfl ?_
  refine x_iload_n hx hb d_M_make_1 hl rfl ?_
  refine x_iload_n hx hb d_M_make_2 hl rfl ?_
  refine m_calli (k_V ⟨hx, hb, hml, hown, hts⟩ hE hA hw (c_M_room hI hB hN) (ci_M).1 rfl (rf_at hI 0 (by decide) rfl) (wm3 153 rfl rfl) (wm3 155 rfl rfl) (wmp2 5 rfl) (wm1 9 rfl rfl) (wm3 156 rfl rfl) rfl rfl ar_M_room ⟨Nat.le_trans (Nat.le_of_ble_eq_true rfl) hR.1, Nat.le_trans (Nat.le_of_ble_eq_true rfl) hR.2.1⟩ rfl hl.1 rfl (Nat.le_of_ble_eq_true rfl) d_M_make_3 ⟨Nat.le_trans (Nat.le_of_ble_eq_true rfl) hR.2.2.1, Nat.le_trans (Nat.le_of_ble_eq_true rfl) hR.2.2.2⟩) hw (mfr_in hw hA) (fun r3 M3 H locs hP3 hw => ?_)
  obtain ⟨rfl, hM3⟩ := hP3
  rw [hM3] at hw
  refine x_if_neB hx hb d_M_make_6 rfl (fun h6 => ?_) (fun h6 => ?_)
  · obtain ⟨t, ht, rfl, q, hq, rfl, hq0⟩ := rmb_of h6
    rw [tx_n ht, ix_n hq] at h6
    obtain ⟨k1, k2, k3⟩ := hk (by rw [tx_n ht, ix_n hq]; exact h6)
    rw [tx_n ht, ix_n hq] at k3
    have hp1 := pp_lt q
    first | refine x_aload_n hx hb d_M_make_11 hl rfl ?_ | refine x_aload_nQ hx hb d_M_make_11 hl rfl ?_
    refine x_iload_n hx hb d_M_make_12 hl rfl ?_
    refine x_iload_n hx hb d_M_make_13 hl rfl ?_
    refine x_if_eqB hx hb d_M_make_14 rfl (fun h14 => ?_) (fun h14 => ?_)
    · subst h14
      refine lv_iconst (v := nI 2) hx hb d_M_make_21 (by decide) ?_
      refine lv_iconst (v := nI 0) hx hb d_M_make_22 (by decide) ?_
      refine m_calli (k_V ⟨hx, hb, hml, hown, hts⟩ hE hA hw (c_M_node0 hI hB (by omega) (by omega) (by omega)) (ci_M).1 rfl (rf_at hI 0 (by decide) rfl) (wm3 177 rfl rfl) (wm3 179 rfl rfl) (wmp2 8 rfl) (wm1 9 rfl rfl) (wm3 180 rfl rfl) rfl rfl ar_M_node ⟨Nat.le_trans (Nat.le_of_ble_eq_true rfl) hR.1, Nat.le_trans (Nat.le_of_ble_eq_true rfl) hR.2.1⟩ rfl hl.1 rfl (Nat.le_of_ble_eq_true rfl) d_M_make_23 ⟨Nat.le_trans (Nat.le_of_ble_eq_true rfl) hR.2.2.1, Nat.le_trans (Nat.le_of_ble_eq_true rfl) hR.2.2.2⟩) hw (mfr_in hw hA) (fun r23 M23 H locs hP23 hw => ?_)
      obtain ⟨rfl, hM23, hB⟩ := hP23
      rw [hM23] at hw
      refine x_istore hx hb d_M_make_26 hl (Nat.le_of_ble_eq_true rfl) (lh_k (i := 3) rfl (by first | exact lk_n | exact lk_i | exact lk_r | exact lk_q | exact lk_0)) (fun ls hl => ?_)
      first | refine x_aload_n hx hb d_M_make_28 hl rfl ?_ | refine x_aload_nQ hx hb d_M_make_28 hl rfl ?_
      first | refine lv_dup hx hb d_M_make_29 rfl ?_ | refine lv_dup hx hb d_M_make_29 (va_rf_c _) ?_
      refine m_get (v := .int (nI (σ 5 0))) hx hb hts hown hK hw ci_M (rf_at hI 0 (by decide) rfl) 5 (by decide) (wm3 77 rfl rfl) rfl d_M_make_30 ?_
      refine lv_iconst (v := nI 1) hx hb d_M_make_33 (by decide) ?_
      first | refine x_iadd hx hb d_M_make_34 ?_ | refine lv_iadd hx hb d_M_make_34 ?_
      refine rp_5 hx hb hts hown hK hI hB hw (wm3 77 rfl rfl) (by omega) d_M_make_35 (fun H locs hw hB => ?_)
      first | refine x_aload_n hx hb d_M_make_38 hl rfl ?_ | refine x_aload_nQ hx hb d_M_make_38 hl rfl ?_
      refine m_get hx hb hts hown hK hw ci_M (rf_at hI 0 (by decide) rfl) 10 (by decide) (wm3 82 rfl rfl) rfl d_M_make_39 ?_
      refine x_iload hx hb d_M_make_42 hl rfl ?_
      first | refine x_aload_n hx hb d_M_make_44 hl rfl ?_ | refine x_aload_nQ hx hb d_M_make_44 hl rfl ?_
      refine m_get (v := .int (nI (σ 5 0 + 1))) hx hb hts hown hK hw ci_M (rf_at hI 0 (by decide) rfl) 5 (by decide) (wm3 77 rfl rfl) rfl d_M_make_45 ?_
      first | refine x_i2s hx hb d_M_make_48 (by omega) ?_ | refine lv_i2s hx hb d_M_make_48 rfl ?_
      refine rs_10 hx hb hK hI hB hw (by omega) (by omega) d_M_make_49 (fun H locs hw hB => ?_)
      first | refine x_aload_n hx hb d_M_make_50 hl rfl ?_ | refine x_aload_nQ hx hb d_M_make_50 hl rfl ?_
      refine x_iload_n hx hb d_M_make_51 hl rfl ?_
      refine x_iload_n hx hb d_M_make_52 hl rfl ?_
      refine x_iload hx hb d_M_make_53 hl rfl ?_
      refine m_callv (k_V ⟨hx, hb, hml, hown, hts⟩ hE hA hw (c_M_place hI hB (by omega) (by omega) (by omega)) (ci_M).1 rfl (rf_at hI 0 (by decide) rfl) (wm3 181 rfl rfl) (wm3 183 rfl rfl) (wmp2 9 rfl) (wm1 9 rfl rfl) (wm3 184 rfl rfl) rfl rfl ar_M_place ⟨Nat.le_trans (Nat.le_of_ble_eq_true rfl) hR.1, Nat.le_trans (Nat.le_of_ble_eq_true rfl) hR.2.1⟩ rfl hl.1 rfl (Nat.le_of_ble_eq_true rfl) d_M_make_55 ⟨Nat.le_trans (Nat.le_of_ble_eq_true rfl) hR.2.2.1, Nat.le_trans (Nat.le_of_ble_eq_true rfl) hR.2.2.2⟩) hw (mfr_in hw hA) (fun M55 H locs hP55 hw => ?_)
      obtain ⟨hM55, hB⟩ := hP55
      rw [hM55] at hw
      first | refine x_aload_n hx hb d_M_make_58 hl rfl ?_ | refine x_aload_nQ hx hb d_M_make_58 hl rfl ?_
      refine x_iload_n hx hb d_M_make_59 hl rfl ?_
      refine x_iload_n hx hb d_M_make_60 hl rfl ?_
      refine m_calli (k_S ⟨hx, hb, hml, hown, hts⟩ hE hA hw (c_M_parent (by omega) (by omega)) (wm3 168 rfl rfl) (wm3 169 rfl rfl) (wm1 9 rfl rfl) (wm3 170 rfl rfl) rfl rfl ar_M_parent ⟨Nat.le_trans (Nat.le_of_ble_eq_true rfl) hR.1, Nat.le_trans (Nat.le_of_ble_eq_true rfl) hR.2.1⟩ rfl hl.1 rfl (Nat.le_of_ble_eq_true rfl) d_M_make_61 ⟨Nat.le_trans (Nat.le_of_ble_eq_true rfl) hR.2.2.1, Nat.le_trans (Nat.le_of_ble_eq_true rfl) hR.2.2.2⟩) hw (mfr_in hw hA) (fun r61 M61 H locs hP61 hw => ?_)
      obtain ⟨rfl, hM61⟩ := hP61
      rw [hM61] at hw
      refine m_callv (k_V ⟨hx, hb, hml, hown, hts⟩ hE hA hw (c_M_touch hI hB (by omega) (by omega) k3) (ci_M).1 rfl (rf_at hI 0 (by decide) rfl) (wm3 185 rfl rfl) (wm3 187 rfl rfl) (wmp2 10 rfl) (wm1 9 rfl rfl) (wm3 188 rfl rfl) rfl rfl ar_M_touch ⟨Nat.le_trans (Nat.le_of_ble_eq_true rfl) hR.1, Nat.le_trans (Nat.le_of_ble_eq_true rfl) hR.2.1⟩ rfl hl.1 rfl (Nat.le_of_ble_eq_true rfl) d_M_make_64 ⟨Nat.le_trans (Nat.le_of_ble_eq_true rfl) hR.2.2.1, Nat.le_trans (Nat.le_of_ble_eq_true rfl) hR.2.2.2⟩) hw (mfr_in hw hA) (fun M64 H locs hP64 hw => ?_)
      obtain ⟨hM64, hB⟩ := hP64
      rw [hM64] at hw
      refine lv_iconst (v := nI 1) hx hb d_M_make_67 (by decide) ?_
      exact x_reti hQ hx hb hr hlk (by first | exact nar_bz | decide) hw (by omega) (by omega) d_M_make_68 (by rw [tx_n ht, ix_n hq, mkO_t h6]; exact ⟨bz_t h6, rfl, hB⟩)
    · subst h14
      refine lv_iconst (v := nI 1) hx hb d_M_make_17 (by decide) ?_
      refine lv_goto hx hb d_M_make_18 rfl ?_
      refine lv_iconst (v := nI 0) hx hb d_M_make_22 (by decide) ?_
      refine m_calli (k_V ⟨hx, hb, hml, hown, hts⟩ hE hA hw (c_M_node0 hI hB (by omega) (by omega) (by omega)) (ci_M).1 rfl (rf_at hI 0 (by decide) rfl) (wm3 177 rfl rfl) (wm3 179 rfl rfl) (wmp2 8 rfl) (wm1 9 rfl rfl) (wm3 180 rfl rfl) rfl rfl ar_M_node ⟨Nat.le_trans (Nat.le_of_ble_eq_true rfl) hR.1, Nat.le_trans (Nat.le_of_ble_eq_true rfl) hR.2.1⟩ rfl hl.1 rfl (Nat.le_of_ble_eq_true rfl) d_M_make_23 ⟨Nat.le_trans (Nat.le_of_ble_eq_true rfl) hR.2.2.1, Nat.le_trans (Nat.le_of_ble_eq_true rfl) hR.2.2.2⟩) hw (mfr_in hw hA) (fun r23 M23 H locs hP23 hw => ?_)
      obtain ⟨rfl, hM23, hB⟩ := hP23
      rw [hM23] at hw
      refine x_istore hx hb d_M_make_26 hl (Nat.le_of_ble_eq_true rfl) (lh_k (i := 3) rfl (by first | exact lk_n | exact lk_i | exact lk_r | exact lk_q | exact lk_0)) (fun ls hl => ?_)
      first | refine x_aload_n hx hb d_M_make_28 hl rfl ?_ | refine x_aload_nQ hx hb d_M_make_28 hl rfl ?_
      first | refine lv_dup hx hb d_M_make_29 rfl ?_ | refine lv_dup hx hb d_M_make_29 (va_rf_c _) ?_
      refine m_get (v := .int (nI (σ 5 0))) hx hb hts hown hK hw ci_M (rf_at hI 0 (by decide) rfl) 5 (by decide) (wm3 77 rfl rfl) rfl d_M_make_30 ?_
      refine lv_iconst (v := nI 1) hx hb d_M_make_33 (by decide) ?_
      first | refine x_iadd hx hb d_M_make_34 ?_ | refine lv_iadd hx hb d_M_make_34 ?_
      refine rp_5 hx hb hts hown hK hI hB hw (wm3 77 rfl rfl) (by omega) d_M_make_35 (fun H locs hw hB => ?_)
      first | refine x_aload_n hx hb d_M_make_38 hl rfl ?_ | refine x_aload_nQ hx hb d_M_make_38 hl rfl ?_
      refine m_get hx hb hts hown hK hw ci_M (rf_at hI 0 (by decide) rfl) 10 (by decide) (wm3 82 rfl rfl) rfl d_M_make_39 ?_
      refine x_iload hx hb d_M_make_42 hl rfl ?_
      first | refine x_aload_n hx hb d_M_make_44 hl rfl ?_ | refine x_aload_nQ hx hb d_M_make_44 hl rfl ?_
      refine m_get (v := .int (nI (σ 5 0 + 1))) hx hb hts hown hK hw ci_M (rf_at hI 0 (by decide) rfl) 5 (by decide) (wm3 77 rfl rfl) rfl d_M_make_45 ?_
      first | refine x_i2s hx hb d_M_make_48 (by omega) ?_ | refine lv_i2s hx hb d_M_make_48 rfl ?_
      refine rs_10 hx hb hK hI hB hw (by omega) (by omega) d_M_make_49 (fun H locs hw hB => ?_)
      first | refine x_aload_n hx hb d_M_make_50 hl rfl ?_ | refine x_aload_nQ hx hb d_M_make_50 hl rfl ?_
      refine x_iload_n hx hb d_M_make_51 hl rfl ?_
      refine x_iload_n hx hb d_M_make_52 hl rfl ?_
      refine x_iload hx hb d_M_make_53 hl rfl ?_
      refine m_callv (k_V ⟨hx, hb, hml, hown, hts⟩ hE hA hw (c_M_place hI hB (by omega) (by omega) (by omega)) (ci_M).1 rfl (rf_at hI 0 (by decide) rfl) (wm3 181 rfl rfl) (wm3 183 rfl rfl) (wmp2 9 rfl) (wm1 9 rfl rfl) (wm3 184 rfl rfl) rfl rfl ar_M_place ⟨Nat.le_trans (Nat.le_of_ble_eq_true rfl) hR.1, Nat.le_trans (Nat.le_of_ble_eq_true rfl) hR.2.1⟩ rfl hl.1 rfl (Nat.le_of_ble_eq_true rfl) d_M_make_55 ⟨Nat.le_trans (Nat.le_of_ble_eq_true rfl) hR.2.2.1, Nat.le_trans (Nat.le_of_ble_eq_true rfl) hR.2.2.2⟩) hw (mfr_in hw hA) (fun M55 H locs hP55 hw => ?_)
      obtain ⟨hM55, hB⟩ := hP55
      rw [hM55] at hw
      first | refine x_aload_n hx hb d_M_make_58 hl rfl ?_ | refine x_aload_nQ hx hb d_M_make_58 hl rfl ?_
      refine x_iload_n hx hb d_M_make_59 hl rfl ?_
      refine x_iload_n hx hb d_M_make_60 hl rfl ?_
      refine m_calli (k_S ⟨hx, hb, hml, hown, hts⟩ hE hA hw (c_M_parent (by omega) (by omega)) (wm3 168 rfl rfl) (wm3 169 rfl rfl) (wm1 9 rfl rfl) (wm3 170 rfl rfl) rfl rfl ar_M_parent ⟨Nat.le_trans (Nat.le_of_ble_eq_true rfl) hR.1, Nat.le_trans (Nat.le_of_ble_eq_true rfl) hR.2.1⟩ rfl hl.1 rfl (Nat.le_of_ble_eq_true rfl) d_M_make_61 ⟨Nat.le_trans (Nat.le_of_ble_eq_true rfl) hR.2.2.1, Nat.le_trans (Nat.le_of_ble_eq_true rfl) hR.2.2.2⟩) hw (mfr_in hw hA) (fun r61 M61 H locs hP61 hw => ?_)
      obtain ⟨rfl, hM61⟩ := hP61
      rw [hM61] at hw
      refine m_callv (k_V ⟨hx, hb, hml, hown, hts⟩ hE hA hw (c_M_touch hI hB (by omega) (by omega) k3) (ci_M).1 rfl (rf_at hI 0 (by decide) rfl) (wm3 185 rfl rfl) (wm3 187 rfl rfl) (wmp2 10 rfl) (wm1 9 rfl rfl) (wm3 188 rfl rfl) rfl rfl ar_M_touch ⟨Nat.le_trans (Nat.le_of_ble_eq_true rfl) hR.1, Nat.le_trans (Nat.le_of_ble_eq_true rfl) hR.2.1⟩ rfl hl.1 rfl (Nat.le_of_ble_eq_true rfl) d_M_make_64 ⟨Nat.le_trans (Nat.le_of_ble_eq_true rfl) hR.2.2.1, Nat.le_trans (Nat.le_of_ble_eq_true rfl) hR.2.2.2⟩) hw (mfr_in hw hA) (fun M64 H locs hP64 hw => ?_)
      obtain ⟨hM64, hB⟩ := hP64
      rw [hM64] at hw
      refine lv_iconst (v := nI 1) hx hb d_M_make_67 (by decide) ?_
      exact x_reti hQ hx hb hr hlk (by first | exact nar_bz | decide) hw (by omega) (by omega) d_M_make_68 (by rw [tx_n ht, ix_n hq, mkO_t h6]; exact ⟨bz_t h6, rfl, hB⟩)
  · refine lv_iconst (v := nI 0) hx hb d_M_make_9 (by decide) ?_
    exact x_reti hQ hx hb hr hlk (by first | exact nar_bz | decide) hw (by omega) (by omega) d_M_make_10 (⟨bz_f (by rw [h6]; decide), by rw [mkO_f h6], by rw [mkO_f h6]; exact hB⟩)
