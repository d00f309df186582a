theorem d_T_commit_0 : decode prog_1_method_7_code 0 = .ok (.aload_n 0, 1) := by decide +kernel
theorem d_T_commit_1 : decode prog_1_method_7_code 1 = .ok (.iload_n 1, 1) := by decide +kernel
theorem d_T_commit_2 : decode prog_1_method_7_code 2 = .ok (.invokevirtual 73, 3) := by decide +kernel
theorem d_T_commit_5 : decode prog_1_method_7_code 5 = .ok (.astore_n 2, 1) := by decide +kernel
theorem d_T_commit_6 : decode prog_1_method_7_code 6 = .ok (.aload_n 2, 1) := by decide +kernel
theorem d_T_commit_7 : decode prog_1_method_7_code 7 = .ok (.ifnull 14, 3) := by decide +kernel
theorem d_T_commit_10 : decode prog_1_method_7_code 10 = .ok (.aload_n 0, 1) := by decide +kernel
theorem d_T_commit_11 : decode prog_1_method_7_code 11 = .ok (.getfield 37, 3) := by decide +kernel
theorem d_T_commit_14 : decode prog_1_method_7_code 14 = .ok (.iconst 1, 1) := by decide +kernel
theorem d_T_commit_15 : decode prog_1_method_7_code 15 = .ok (.iadd, 1) := by decide +kernel
theorem d_T_commit_16 : decode prog_1_method_7_code 16 = .ok (.bipush 16, 2) := by decide +kernel
theorem d_T_commit_18 : decode prog_1_method_7_code 18 = .ok (.if_icmp .lt 5, 3) := by decide +kernel
theorem d_T_commit_21 : decode prog_1_method_7_code 21 = .ok (.iconst (-1), 1) := by decide +kernel
theorem d_T_commit_22 : decode prog_1_method_7_code 22 = .ok (.ireturn, 1) := by decide +kernel
theorem d_T_commit_23 : decode prog_1_method_7_code 23 = .ok (.new 136, 3) := by decide +kernel
theorem d_T_commit_26 : decode prog_1_method_7_code 26 = .ok (.dup, 1) := by decide +kernel
theorem d_T_commit_27 : decode prog_1_method_7_code 27 = .ok (.aload_n 0, 1) := by decide +kernel
theorem d_T_commit_28 : decode prog_1_method_7_code 28 = .ok (.getfield 11, 3) := by decide +kernel
theorem d_T_commit_31 : decode prog_1_method_7_code 31 = .ok (.aload_n 2, 1) := by decide +kernel
theorem d_T_commit_32 : decode prog_1_method_7_code 32 = .ok (.getfield 62, 3) := by decide +kernel
theorem d_T_commit_35 : decode prog_1_method_7_code 35 = .ok (.aaload, 1) := by decide +kernel
theorem d_T_commit_36 : decode prog_1_method_7_code 36 = .ok (.aload_n 0, 1) := by decide +kernel
theorem d_T_commit_37 : decode prog_1_method_7_code 37 = .ok (.getfield 11, 3) := by decide +kernel
theorem d_T_commit_40 : decode prog_1_method_7_code 40 = .ok (.aload_n 0, 1) := by decide +kernel
theorem d_T_commit_41 : decode prog_1_method_7_code 41 = .ok (.getfield 37, 3) := by decide +kernel
theorem d_T_commit_44 : decode prog_1_method_7_code 44 = .ok (.aaload, 1) := by decide +kernel
theorem d_T_commit_45 : decode prog_1_method_7_code 45 = .ok (.aload_n 2, 1) := by decide +kernel
theorem d_T_commit_46 : decode prog_1_method_7_code 46 = .ok (.getfield 65, 3) := by decide +kernel
theorem d_T_commit_49 : decode prog_1_method_7_code 49 = .ok (.invokespecial 138, 3) := by decide +kernel
theorem d_T_commit_52 : decode prog_1_method_7_code 52 = .ok (.astore_n 3, 1) := by decide +kernel
theorem d_T_commit_53 : decode prog_1_method_7_code 53 = .ok (.aload_n 3, 1) := by decide +kernel
theorem d_T_commit_54 : decode prog_1_method_7_code 54 = .ok (.iconst 0, 1) := by decide +kernel
theorem d_T_commit_55 : decode prog_1_method_7_code 55 = .ok (.invokevirtual 141, 3) := by decide +kernel
theorem d_T_commit_58 : decode prog_1_method_7_code 58 = .ok (.istore 4, 2) := by decide +kernel
theorem d_T_commit_60 : decode prog_1_method_7_code 60 = .ok (.iload 4, 2) := by decide +kernel
theorem d_T_commit_62 : decode prog_1_method_7_code 62 = .ok (.iconst (-1), 1) := by decide +kernel
theorem d_T_commit_63 : decode prog_1_method_7_code 63 = .ok (.if_icmp .eq 9, 3) := by decide +kernel
theorem d_T_commit_66 : decode prog_1_method_7_code 66 = .ok (.bipush (-2), 2) := by decide +kernel
theorem d_T_commit_68 : decode prog_1_method_7_code 68 = .ok (.iload 4, 2) := by decide +kernel
theorem d_T_commit_70 : decode prog_1_method_7_code 70 = .ok (.isub, 1) := by decide +kernel
theorem d_T_commit_71 : decode prog_1_method_7_code 71 = .ok (.ireturn, 1) := by decide +kernel
theorem d_T_commit_72 : decode prog_1_method_7_code 72 = .ok (.aload_n 3, 1) := by decide +kernel
theorem d_T_commit_73 : decode prog_1_method_7_code 73 = .ok (.iconst 0, 1) := by decide +kernel
theorem d_T_commit_74 : decode prog_1_method_7_code 74 = .ok (.invokevirtual 144, 3) := by decide +kernel
theorem d_T_commit_77 : decode prog_1_method_7_code 77 = .ok (.aload_n 0, 1) := by decide +kernel
theorem d_T_commit_78 : decode prog_1_method_7_code 78 = .ok (.dup, 1) := by decide +kernel
theorem d_T_commit_79 : decode prog_1_method_7_code 79 = .ok (.getfield 37, 3) := by decide +kernel
theorem d_T_commit_82 : decode prog_1_method_7_code 82 = .ok (.iconst 1, 1) := by decide +kernel
theorem d_T_commit_83 : decode prog_1_method_7_code 83 = .ok (.iadd, 1) := by decide +kernel
theorem d_T_commit_84 : decode prog_1_method_7_code 84 = .ok (.putfield 37, 3) := by decide +kernel
theorem d_T_commit_87 : decode prog_1_method_7_code 87 = .ok (.aload_n 0, 1) := by decide +kernel
theorem d_T_commit_88 : decode prog_1_method_7_code 88 = .ok (.getfield 11, 3) := by decide +kernel
theorem d_T_commit_91 : decode prog_1_method_7_code 91 = .ok (.aload_n 0, 1) := by decide +kernel
theorem d_T_commit_92 : decode prog_1_method_7_code 92 = .ok (.getfield 37, 3) := by decide +kernel
theorem d_T_commit_95 : decode prog_1_method_7_code 95 = .ok (.aaload, 1) := by decide +kernel
theorem d_T_commit_96 : decode prog_1_method_7_code 96 = .ok (.aload_n 2, 1) := by decide +kernel
theorem d_T_commit_97 : decode prog_1_method_7_code 97 = .ok (.getfield 65, 3) := by decide +kernel
theorem d_T_commit_100 : decode prog_1_method_7_code 100 = .ok (.iconst 0, 1) := by decide +kernel
theorem d_T_commit_101 : decode prog_1_method_7_code 101 = .ok (.invokevirtual 69, 3) := by decide +kernel
theorem d_T_commit_104 : decode prog_1_method_7_code 104 = .ok (.aload_n 0, 1) := by decide +kernel
theorem d_T_commit_105 : decode prog_1_method_7_code 105 = .ok (.aload_n 0, 1) := by decide +kernel
theorem d_T_commit_106 : decode prog_1_method_7_code 106 = .ok (.getfield 11, 3) := by decide +kernel
theorem d_T_commit_109 : decode prog_1_method_7_code 109 = .ok (.aload_n 0, 1) := by decide +kernel
theorem d_T_commit_110 : decode prog_1_method_7_code 110 = .ok (.getfield 37, 3) := by decide +kernel
theorem d_T_commit_113 : decode prog_1_method_7_code 113 = .ok (.aaload, 1) := by decide +kernel
theorem d_T_commit_114 : decode prog_1_method_7_code 114 = .ok (.invokevirtual 147, 3) := by decide +kernel
theorem d_T_commit_117 : decode prog_1_method_7_code 117 = .ok (.aload_n 2, 1) := by decide +kernel
theorem d_T_commit_118 : decode prog_1_method_7_code 118 = .ok (.iconst 0, 1) := by decide +kernel
theorem d_T_commit_119 : decode prog_1_method_7_code 119 = .ok (.putfield 58, 3) := by decide +kernel
theorem d_T_commit_122 : decode prog_1_method_7_code 122 = .ok (.aload_n 0, 1) := by decide +kernel
theorem d_T_commit_123 : decode prog_1_method_7_code 123 = .ok (.getfield 37, 3) := by decide +kernel
theorem d_T_commit_126 : decode prog_1_method_7_code 126 = .ok (.ireturn, 1) := by decide +kernel

section CLC2
variable {σ : SS}
theorem gd_root {t : Nat} (h : INV σ 3) (ht : t < 3) (ho : σ 2 t ≠ 0) : gd σ t 3 0 := gd_inv h ht ho 3 0 pg_0 rfl (fun i hi => absurd hi (Nat.not_lt_zero i))
theorem com_cm2 {t : Nat} {X : SS} (f1 : X 1 = σ 1) : cm2 X t = sp (fil (sp X 1 0 (σ 1 0 + 1)) (σ 1 0 + 1) (16 + t) 125) 2 t 0 := by
  unfold cm2
  rw [f1]
theorem com_sv {t : Nat} {X : SS} (h : INV σ 3) (hC : CW σ ≤ 511) (ht : t < 3) (ho : σ 2 t ≠ 0) (hy : σ 1 0 ≤ 14) (hI : INV X t) (hO : OUT t 0 X σ) : SV (sp (fil (sp X 1 0 (σ 1 0 + 1)) (σ 1 0 + 1) (16 + t) 125) 2 t 0) t 0 ∧ CW (sp (fil (sp X 1 0 (σ 1 0 + 1)) (σ 1 0 + 1) (16 + t) 125) 2 t 0) ≤ 511 := by
  have f1 : X 1 = σ 1 := hO.2.2 1 (by decide) (by decide) (by decide)
  have f2 : X 2 = σ 2 := hO.2.2 2 (by decide) (by decide) (by decide)
  rw [← com_cm2 f1]
  refine ⟨sv_cm2 hI ht (by rw [f2]; exact ho) (by rw [f1]; exact hy), ?_⟩
  have eC : CW (cm2 X t) = CW σ := by
    unfold CW
    rw [cm2_o (by decide) (by decide) (by decide), cm2_o (by decide) (by decide) (by decide), hO.2.2 16 (by decide) (by decide) (by decide), hO.2.2 4 (by decide) (by decide) (by decide), cw_c (fun j _ => by rw [cm2_o (by decide) (by decide) (by decide), cm2_o (by decide) (by decide) (by decide), hO.2.2 12 (by decide) (by decide) (by decide), hO.2.2 8 (by decide) (by decide) (by decide)]; exact ⟨rfl, rfl⟩)]
  rw [eC]
  exact hC
end CLC2
set_option maxHeartbeats 1000000 in
set_option maxRecDepth 100000 in
theorem c_T_commitA {l : Launch} {E : Ev} {M : mp_M} {sz : Nat} {σ : SS} {ca na ta : Nat → Nat} (hP : PIC E σ ca na ta M) (hI : INV σ 3) (hN : σ 4 0 < 1300) (hC : CW σ ≤ 511) {x : Int32} : MCi l E y_T_commit prog_1_method_7_code 5 (some .int) 9 238 251 100503 [.ref (ca 0), .int x] M sz (fun r M' => r = cmA σ (tx x) ∧ PIC E (cmO σ (tx x)) ca na ta M') := by
  refine mc_of R_T rfl [some (.ref (ca 0)), some (.int x), none, none, none] (by decide) (Nat.le_of_ble_eq_true rfl) rfl ?_
  intro p e R s m ag below meth c ls Q A X hAe hQ hR hsz hw hl
  rw [← hAe] at hQ
  obtain ⟨⟨hx, hb, hml, hown, hts⟩, hE, hA, hr, hlk, hnm⟩ := X
  have hK := hE.1
  have hy := inv_y hI
  first | refine x_aload_n hx hb d_T_commit_0 hl rfl ?_ | refine x_aload_nQ hx hb d_T_commit_0 hl rfl ?_
  refine x_iload_n hx hb d_T_commit_1 hl rfl ?_
  refine m_callq (k_V ⟨hx, hb, hml, hown, hts⟩ hE hA hw (c_T_open hP) (ci_T).1 rfl (pic_o hP) (wm1 200 rfl rfl) (wm1 202 rfl rfl) (wmp1 0 rfl) (wm1 1 rfl rfl) (wm1 203 rfl rfl) rfl rfl ar_T_openTransaction ⟨Nat.le_trans (Nat.le_of_ble_eq_true rfl) hR.1, Nat.le_trans (Nat.le_of_ble_eq_true rfl) hR.2.1⟩ rfl hl.1 rfl (Nat.le_of_ble_eq_true rfl) d_T_commit_2 ⟨by omega, by omega⟩) hw (mfr_in hw hA) (fun r2 M2 H locs hP2 hw => ?_)
  obtain ⟨rfl, hM2⟩ := hP2
  rw [hM2] at hw
  first | refine x_astore_n hx hb d_T_commit_5 hl (Nat.le_of_ble_eq_true rfl) (lh_k (i := 1) rfl (by first | exact lk_n | exact lk_i | exact lk_r | exact lk_q | exact lk_0)) (fun ls hl => ?_) | refine x_astore_nQ hx hb d_T_commit_5 hl (Nat.le_of_ble_eq_true rfl) (lh_k (i := 1) rfl (by first | exact lk_n | exact lk_i | exact lk_r | exact lk_q | exact lk_0)) (fun ls hl => ?_)
  first | refine x_aload_n hx hb d_T_commit_6 hl rfl ?_ | refine x_aload_nQ hx hb d_T_commit_6 hl rfl ?_
  refine x_ifnullQ hx hb d_T_commit_7 rfl (fun h7 => ?_) (fun a7 h7 => ?_)
  · have h7 := oT_none h7
    refine lv_iconst (v := -1) hx hb d_T_commit_21 (by decide) ?_
    exact x_reti hQ hx hb hr hlk rfl hw (by omega) (by omega) d_T_commit_22 (⟨by first | (rw [cmA_f (cmb_1 h7)]) | (rw [tx_n ht, cmA_f (cmb_2 (by omega))]), by first | (rw [cmO_f (cmb_1 h7)]; exact hP) | (rw [tx_n ht, cmO_f (cmb_2 (by omega))]; exact hP)⟩)
  · obtain ⟨t, ht, ho, rfl, rfl⟩ := oT_some h7
    rw [h7] at hl
    first | refine x_aload_n hx hb d_T_commit_10 hl rfl ?_ | refine x_aload_nQ hx hb d_T_commit_10 hl rfl ?_
    refine m_get hx hb hts hown hK hw ci_T (pic_o hP) 4 (by decide) (wm1 164 rfl rfl) rfl d_T_commit_11 ?_
    refine lv_iconst (v := nI 1) hx hb d_T_commit_14 (by decide) ?_
    first | refine x_iadd hx hb d_T_commit_15 ?_ | refine lv_iadd hx hb d_T_commit_15 ?_
    refine lv_bipush (v := nI 16) hx hb d_T_commit_16 (by decide) ?_
    refine x_icmp_lt hx hb d_T_commit_18 rfl (by omega) (by omega) (fun h18 => ?_) (fun h18 => ?_)
    · have hcb : cmb σ t = true := cmb_t (opb_t ht ho) (by omega)
      have hb3 : σ 3 t ≤ 15 := Nat.le_trans (hI.2.1.2.1 t ht) hy
      obtain ⟨e1, hx1⟩ := cm1_e hI ht ho
      refine m_new (fs := [.null, .null, .null]) hx hb hts hown hK hw hA ci_Me (wm2 54 rfl rfl) (wm2 55 rfl rfl) (wm1 12 rfl rfl) (fun j hj => by rcases (show j = 0 ∨ j = 1 ∨ j = 2 by omega) with rfl | rfl | rfl <;> rfl) (by omega) (by omega) d_T_commit_23 (fun q1 H hq23 hw => ?_)
      have he_q1 := put_he hw
      have hP1 := pic_fresh (e := .inr (6, [.null, .null, .null])) hP hq23
      first | refine lv_dup hx hb d_T_commit_26 rfl ?_ | refine lv_dup hx hb d_T_commit_26 (va_rf_c _) ?_
      first | refine x_aload_n hx hb d_T_commit_27 hl rfl ?_ | refine x_aload_nQ hx hb d_T_commit_27 hl rfl ?_
      refine m_get hx hb hts hown hK hw ci_T (pic_o hP1) 0 (by decide) (wm1 160 rfl rfl) rfl d_T_commit_28 ?_
      first | refine x_aload_n hx hb d_T_commit_31 hl rfl ?_ | refine x_aload_nQ hx hb d_T_commit_31 hl rfl ?_
      refine m_get hx hb hts hown hK hw ci_Tx (pic_j hP1 ht) 2 (by decide) (wm1 95 rfl rfl) rfl d_T_commit_32 ?_
      refine m_aald hx hb hK hw 1 (pic_r hP1) rfl (by omega) (by decide) (if_pos (by omega)) d_T_commit_35 ?_
      first | refine x_aload_n hx hb d_T_commit_36 hl rfl ?_ | refine x_aload_nQ hx hb d_T_commit_36 hl rfl ?_
      refine m_get hx hb hts hown hK hw ci_T (pic_o hP1) 0 (by decide) (wm1 160 rfl rfl) rfl d_T_commit_37 ?_
      first | refine x_aload_n hx hb d_T_commit_40 hl rfl ?_ | refine x_aload_nQ hx hb d_T_commit_40 hl rfl ?_
      refine m_get hx hb hts hown hK hw ci_T (pic_o hP1) 4 (by decide) (wm1 164 rfl rfl) rfl d_T_commit_41 ?_
      refine m_aald hx hb hK hw 1 (pic_r hP1) rfl (by omega) (by decide) (if_pos (by omega)) d_T_commit_44 ?_
      first | refine x_aload_n hx hb d_T_commit_45 hl rfl ?_ | refine x_aload_nQ hx hb d_T_commit_45 hl rfl ?_
      refine m_get hx hb hts hown hK hw ci_Tx (pic_j hP1 ht) 0 (by decide) (wm1 91 rfl rfl) rfl d_T_commit_46 ?_
      refine m_callv (k_I ⟨hx, hb, hml, hown, hts⟩ hE hA hw (c_Me_init he_q1) (wm2 56 rfl rfl) (wm2 57 rfl rfl) (wm1 12 rfl rfl) (wm2 58 rfl rfl) rfl rfl rfl ar_Me_init ⟨Nat.le_trans (Nat.le_of_ble_eq_true rfl) hR.1, Nat.le_trans (Nat.le_of_ble_eq_true rfl) hR.2.1⟩ rfl hl.1 rfl (Nat.le_of_ble_eq_true rfl) d_T_commit_49 ⟨by omega, by omega⟩) hw (mfr_in hw hA) (fun M49 H locs hP49 hw => ?_)
      rw [mp_up_up] at hP49
      have hP2 := pic_fresh (e := .inr (6, [.ref (ca (σ 3 t + 5)), .ref (ca (σ 1 0 + 5)), .ref (ca (16 + t + 5))])) hP hq23
      rw [← hP49] at hP2
      have hm : M49 q1 = some (.inr (6, [.ref (ca (σ 3 t + 5)), .ref (ca (σ 1 0 + 5)), .ref (ca (16 + t + 5))])) := by rw [hP49]; exact mp_up_s
      have hb3 : σ 3 t ≤ 15 := Nat.le_trans (hI.2.1.2.1 t ht) hy
      first | refine x_astore_n hx hb d_T_commit_52 hl (Nat.le_of_ble_eq_true rfl) (lh_k (i := 2) rfl (by first | exact lk_n | exact lk_i | exact lk_r | exact lk_q | exact lk_0)) (fun ls hl => ?_) | refine x_astore_nQ hx hb d_T_commit_52 hl (Nat.le_of_ble_eq_true rfl) (lh_k (i := 2) rfl (by first | exact lk_n | exact lk_i | exact lk_r | exact lk_q | exact lk_0)) (fun ls hl => ?_)
      first | refine x_aload_n hx hb d_T_commit_53 hl rfl ?_ | refine x_aload_nQ hx hb d_T_commit_53 hl rfl ?_
      refine lv_iconst (v := nI 0) hx hb d_T_commit_54 (by decide) ?_
      refine m_calli (k_VN ⟨hx, hb, hml, hown, hts⟩ hE hA hw (c_Me_conf3 hP2 hI hN ht hm hy hb3 (q := 0) pg_0 rfl) (ci_Me).1 rfl hm hE.2.1.1.2.2.2.2.1 (wm2 72 rfl rfl) (wmp1 3 rfl) (wm1 12 rfl rfl) (wm2 73 rfl rfl) rfl rfl ar_Me_conflictAt ⟨Nat.le_trans (Nat.le_of_ble_eq_true rfl) hR.1, Nat.le_trans (Nat.le_of_ble_eq_true rfl) hR.2.1⟩ rfl hl.1 rfl (Nat.le_of_ble_eq_true rfl) d_T_commit_55 ⟨by omega, by omega⟩) hw (mfr_in hw hA) (fun r55 M55 H locs hP55 hw => ?_)
      obtain ⟨rfl, hM55⟩ := hP55
      rw [hM55] at hw
      refine x_istore hx hb d_T_commit_58 hl (Nat.le_of_ble_eq_true rfl) (lh_k (i := 3) rfl (by first | exact lk_n | exact lk_i | exact lk_r | exact lk_q | exact lk_0)) (fun ls hl => ?_)
      refine x_iload hx hb d_T_commit_60 hl rfl ?_
      refine lv_iconst (v := -1) hx hb d_T_commit_62 (by decide) ?_
      refine lv_icmp_eq hx hb d_T_commit_63 rfl (fun h63 => ?_) (fun h63 => ?_)
      · have h63 := mI_1 (cf_le 3 0 pg_0 rfl) h63
        first | refine x_aload_n hx hb d_T_commit_72 hl rfl ?_ | refine x_aload_nQ hx hb d_T_commit_72 hl rfl ?_
        refine lv_iconst (v := nI 0) hx hb d_T_commit_73 (by decide) ?_
        refine m_callv (k_VN ⟨hx, hb, hml, hown, hts⟩ hE hA hw (c_Me_mrg3 hP2 ht hm (q := 0) (inv_drop hI) ho pg_0 rfl h63 (gd_root hI ht ho)) (ci_Me).1 rfl hm hE.2.1.1.2.2.2.2.2.2 (wm2 93 rfl rfl) (wmp1 6 rfl) (wm1 12 rfl rfl) (wm2 94 rfl rfl) rfl rfl ar_Me_mergeAt ⟨Nat.le_trans (Nat.le_of_ble_eq_true rfl) hR.1, Nat.le_trans (Nat.le_of_ble_eq_true rfl) hR.2.1⟩ rfl hl.1 rfl (Nat.le_of_ble_eq_true rfl) d_T_commit_74 ⟨by omega, by omega⟩) hw (mfr_in hw hA) (fun M74 H locs hP74 hw => ?_)
        obtain ⟨hP3, hm3⟩ := hP74
        obtain ⟨hIX, hOX⟩ := hx1 h63
        have f1 : cg t 3 σ 0 1 = σ 1 := hOX.2.2 1 (by decide) (by decide) (by decide)
        first | refine x_aload_n hx hb d_T_commit_77 hl rfl ?_ | refine x_aload_nQ hx hb d_T_commit_77 hl rfl ?_
        first | refine lv_dup hx hb d_T_commit_78 rfl ?_ | refine lv_dup hx hb d_T_commit_78 (va_rf_c _) ?_
        refine m_get hx hb hts hown hK hw ci_T (pic_o hP3) 4 (by decide) (wm1 164 rfl rfl) rfl d_T_commit_79 ?_
        refine lv_iconst (v := nI 1) hx hb d_T_commit_82 (by decide) ?_
        first | refine x_iadd hx hb d_T_commit_83 ?_ | refine lv_iadd hx hb d_T_commit_83 ?_
        rw [f1]
        refine m_put hx hb hts hown hK hw ci_T (pic_o hP3) 4 (by decide) (wm1 164 rfl rfl) rfl (by first | rfl | exact nar_bz | exact nar_q) (by first | rfl | exact fit_bz | exact fit_q) (Nat.le_of_ble_eq_true rfl) d_T_commit_84 (fun H locs hw => ?_)
        rw [cT_4] at hw
        have hP4 := pic_obj (τ := sp (cg t 3 σ 0) 1 0 (σ 1 0 + 1)) hP3 (fun f h1 h5 => sp_o h1)
        obtain ⟨M4, hM4⟩ : ∃ z, z = mp_up M74 (ca 0) (.inr (0, cT (sp (cg t 3 σ 0) 1 0 (σ 1 0 + 1)) ca)) := ⟨_, rfl⟩
        rw [← hM4] at hw hP4
        first | refine x_aload_n hx hb d_T_commit_87 hl rfl ?_ | refine x_aload_nQ hx hb d_T_commit_87 hl rfl ?_
        refine m_get hx hb hts hown hK hw ci_T (pic_o hP4) 0 (by decide) (wm1 160 rfl rfl) rfl d_T_commit_88 ?_
        first | refine x_aload_n hx hb d_T_commit_91 hl rfl ?_ | refine x_aload_nQ hx hb d_T_commit_91 hl rfl ?_
        refine m_get hx hb hts hown hK hw ci_T (pic_o hP4) 4 (by decide) (wm1 164 rfl rfl) rfl d_T_commit_92 ?_
        show W p l e R s m ag below meth c H locs _ _ Q (F0 m 95 ls [.int (nI (σ 1 0 + 1)), .ref (ca 1)])
        refine m_aald hx hb hK hw 1 (pic_r hP4) rfl (by omega) (by decide) (if_pos (by omega)) d_T_commit_95 ?_
        first | refine x_aload_n hx hb d_T_commit_96 hl rfl ?_ | refine x_aload_nQ hx hb d_T_commit_96 hl rfl ?_
        refine m_get hx hb hts hown hK hw ci_Tx (pic_j hP4 ht) 0 (by decide) (wm1 91 rfl rfl) rfl d_T_commit_97 ?_
        refine lv_iconst (v := nI 0) hx hb d_T_commit_100 (by decide) ?_
        refine m_callv (k_V ⟨hx, hb, hml, hown, hts⟩ hE hA hw (c_Tr_take (q := 0) (by decide) (pic_t hP4 (k := σ 1 0 + 1) (by omega)) (pic_a hP4 (k := σ 1 0 + 1) (by omega)) (pic_u hP4 ht) (pic_a hP4 (k := 16 + t) (by omega)) (pic_ne hP4 (by omega) (by omega) (by omega)) (pic_row_n hP4)) (ci_Tr).1 rfl (pic_t hP4 (k := σ 1 0 + 1) (by omega)) (wm1 183 rfl rfl) (wm1 184 rfl rfl) (wm1 185 rfl rfl) (wm1 6 rfl rfl) (wm1 186 rfl rfl) rfl rfl ar_Tr_takeFrom ⟨Nat.le_trans (Nat.le_of_ble_eq_true rfl) hR.1, Nat.le_trans (Nat.le_of_ble_eq_true rfl) hR.2.1⟩ rfl hl.1 rfl (Nat.le_of_ble_eq_true rfl) d_T_commit_101 ⟨by omega, by omega⟩) hw (mfr_in hw hA) (fun M101 H locs hP101 hw => ?_)
        have hP5 := pic_fil hP4 (x := σ 1 0 + 1) (y := 16 + t) (by omega) (by omega)
        rw [← hP101] at hP5
        obtain ⟨sv1, sv2⟩ := com_sv hI hC ht ho (by omega) hIX hOX
        first | refine x_aload_n hx hb d_T_commit_104 hl rfl ?_ | refine x_aload_nQ hx hb d_T_commit_104 hl rfl ?_
        first | refine x_aload_n hx hb d_T_commit_105 hl rfl ?_ | refine x_aload_nQ hx hb d_T_commit_105 hl rfl ?_
        refine m_get hx hb hts hown hK hw ci_T (pic_o hP5) 0 (by decide) (wm1 160 rfl rfl) rfl d_T_commit_106 ?_
        first | refine x_aload_n hx hb d_T_commit_109 hl rfl ?_ | refine x_aload_nQ hx hb d_T_commit_109 hl rfl ?_
        refine m_get hx hb hts hown hK hw ci_T (pic_o hP5) 4 (by decide) (wm1 164 rfl rfl) rfl d_T_commit_110 ?_
        show W p l e R s m ag below meth c H locs _ _ Q (F0 m 113 ls [.int (nI (σ 1 0 + 1)), .ref (ca 1), .ref (ca 0)])
        refine m_aald hx hb hK hw 1 (pic_r hP5) rfl (by omega) (by decide) (if_pos (by omega)) d_T_commit_113 ?_
        refine m_callv (k_V ⟨hx, hb, hml, hown, hts⟩ hE hA hw (c_T_settle hP5 ht (Z := σ 1 0 + 1) rfl sv1 sv2) (ci_T).1 rfl (pic_o hP5) (wm2 98 rfl rfl) (wm2 100 rfl rfl) (wmp1 7 rfl) (wm1 1 rfl rfl) (wm2 101 rfl rfl) rfl rfl ar_T_settle ⟨Nat.le_trans (Nat.le_of_ble_eq_true rfl) hR.1, Nat.le_trans (Nat.le_of_ble_eq_true rfl) hR.2.1⟩ rfl hl.1 rfl (Nat.le_of_ble_eq_true rfl) d_T_commit_114 ⟨by omega, by omega⟩) hw (mfr_in hw hA) (fun M114 H locs hP114 hw => ?_)
        first | refine x_aload_n hx hb d_T_commit_117 hl rfl ?_ | refine x_aload_nQ hx hb d_T_commit_117 hl rfl ?_
        refine lv_iconst (v := nI 0) hx hb d_T_commit_118 (by decide) ?_
        refine m_put hx hb hts hown hK hw ci_Tx (pic_j hP114 ht) 1 (by decide) (wm1 93 rfl rfl) rfl (by first | rfl | exact nar_bz | exact nar_q) (by first | rfl | exact fit_bz | exact fit_q) (Nat.le_of_ble_eq_true rfl) d_T_commit_119 (fun H locs hw => ?_)
        rw [cX_0] at hw
        have hP6 := pic_txn (τ := sp (slf 125 0 (fil (sp (cg t 3 σ 0) 1 0 (σ 1 0 + 1)) (σ 1 0 + 1) (16 + t) 125)) 2 t 0) hP114 ht (fun f h2 h3 => sp_o h2) (fun i hi => ⟨sp_n hi, by rw [sp_o (by decide)]⟩)
        obtain ⟨M6, hM6⟩ : ∃ z, z = mp_up M114 (ca (t + 43)) (.inr (2, cX (sp (slf 125 0 (fil (sp (cg t 3 σ 0) 1 0 (σ 1 0 + 1)) (σ 1 0 + 1) (16 + t) 125)) 2 t 0) ca t)) := ⟨_, rfl⟩
        rw [← hM6] at hw hP6
        rw [← slf_close, ← com_cm2 f1] at hP6
        have hO6 : cmO σ t = slf 125 0 (cm2 (cg t 3 σ 0) t) := by rw [cmO_t hcb (by rw [e1]; exact h63), e1, if_pos h63]
        rw [← hO6] at hP6
        first | refine x_aload_n hx hb d_T_commit_122 hl rfl ?_ | refine x_aload_nQ hx hb d_T_commit_122 hl rfl ?_
        refine m_get hx hb hts hown hK hw ci_T (pic_o hP6) 4 (by decide) (wm1 164 rfl rfl) rfl d_T_commit_123 ?_
        exact x_reti hQ hx hb hr hlk rfl hw (by omega) (by omega) d_T_commit_126 (⟨by rw [tx_n ht, cmA_t hcb (by rw [e1]; exact h63)], by rw [tx_n ht]; exact hP6⟩)
      · have h63 : cf σ t 3 0 ≠ 125 := fun z => h63 (by rw [z]; rfl)
        refine lv_bipush (v := (-2)) hx hb d_T_commit_66 (by decide) ?_
        refine x_iload hx hb d_T_commit_68 hl rfl ?_
        refine lv_isub hx hb d_T_commit_70 ?_
        exact x_reti hQ hx hb hr hlk rfl hw (by omega) (by omega) d_T_commit_71 (⟨by rw [tx_n ht, cmA_c hcb (by rw [e1]; exact h63), e1, mI_n h63], by rw [tx_n ht, cmO_c hcb (by rw [e1]; exact h63)]; exact hP2⟩)
    · refine lv_iconst (v := -1) hx hb d_T_commit_21 (by decide) ?_
      exact x_reti hQ hx hb hr hlk rfl hw (by omega) (by omega) d_T_commit_22 (⟨by first | (rw [cmA_f (cmb_1 h7)]) | (rw [tx_n ht, cmA_f (cmb_2 (by omega))]), by first | (rw [cmO_f (cmb_1 h7)]; exact hP) | (rw [tx_n ht, cmO_f (cmb_2 (by omega))]; exact hP)⟩)

set_option maxHeartbeats 1000000 in
set_option maxRecDepth 100000 in
theorem c_T_commitB {l : Launch} {E : Ev} {M : mp_M} {sz : Nat} {σ : SS} {ca na ta : Nat → Nat} (hP : PIC E σ ca na ta M) (hI : INV σ 3) (hN : σ 4 0 < 1300) {x : Int32} (hns : ∀ t, t < 3 → x = nI t → cmb σ t = true → cf σ t 3 0 ≠ 125) : MCi l E y_T_commit prog_1_method_7_code 5 (some .int) 9 238 1 3 [.ref (ca 0), .int x] M sz (fun r M' => r = cmA σ (tx x) ∧ PIC E (cmO σ (tx x)) ca na ta M') := by
  refine mc_of R_T rfl [some (.ref (ca 0)), some (.int x), none, none, none] (by decide) (Nat.le_of_ble_eq_true rfl) rfl ?_
  intro p e R s m ag below meth c ls Q A X hAe hQ hR hsz hw hl
  rw [← hAe] at hQ
  obtain ⟨⟨hx, hb, hml, hown, hts⟩, hE, hA, hr, hlk, hnm⟩ := X
  have hK := hE.1
  have hy := inv_y hI
  first | refine x_aload_n hx hb d_T_commit_0 hl rfl ?_ | refine x_aload_nQ hx hb d_T_commit_0 hl rfl ?_
  refine x_iload_n hx hb d_T_commit_1 hl rfl ?_
  refine m_callq (k_V ⟨hx, hb, hml, hown, hts⟩ hE hA hw (c_T_open hP) (ci_T).1 rfl (pic_o hP) (wm1 200 rfl rfl) (wm1 202 rfl rfl) (wmp1 0 rfl) (wm1 1 rfl rfl) (wm1 203 rfl rfl) rfl rfl ar_T_openTransaction ⟨Nat.le_trans (Nat.le_of_ble_eq_true rfl) hR.1, Nat.le_trans (Nat.le_of_ble_eq_true rfl) hR.2.1⟩ rfl hl.1 rfl (Nat.le_of_ble_eq_true rfl) d_T_commit_2 ⟨Nat.le_trans (Nat.le_of_ble_eq_true rfl) hR.2.2.1, Nat.le_trans (Nat.le_of_ble_eq_true rfl) hR.2.2.2⟩) hw (mfr_in hw hA) (fun r2 M2 H locs hP2 hw => ?_)
  obtain ⟨rfl, hM2⟩ := hP2
  rw [hM2] at hw
  first | refine x_astore_n hx hb d_T_commit_5 hl (Nat.le_of_ble_eq_true rfl) (lh_k (i := 1) rfl (by first | exact lk_n | exact lk_i | exact lk_r | exact lk_q | exact lk_0)) (fun ls hl => ?_) | refine x_astore_nQ hx hb d_T_commit_5 hl (Nat.le_of_ble_eq_true rfl) (lh_k (i := 1) rfl (by first | exact lk_n | exact lk_i | exact lk_r | exact lk_q | exact lk_0)) (fun ls hl => ?_)
  first | refine x_aload_n hx hb d_T_commit_6 hl rfl ?_ | refine x_aload_nQ hx hb d_T_commit_6 hl rfl ?_
  refine x_ifnullQ hx hb d_T_commit_7 rfl (fun h7 => ?_) (fun a7 h7 => ?_)
  · have h7 := oT_none h7
    refine lv_iconst (v := -1) hx hb d_T_commit_21 (by decide) ?_
    exact x_reti hQ hx hb hr hlk rfl hw (by omega) (by omega) d_T_commit_22 (⟨by first | (rw [cmA_f (cmb_1 h7)]) | (rw [tx_n ht, cmA_f (cmb_2 (by omega))]), by first | (rw [cmO_f (cmb_1 h7)]; exact hP) | (rw [tx_n ht, cmO_f (cmb_2 (by omega))]; exact hP)⟩)
  · obtain ⟨t, ht, ho, rfl, rfl⟩ := oT_some h7
    rw [h7] at hl
    first | refine x_aload_n hx hb d_T_commit_10 hl rfl ?_ | refine x_aload_nQ hx hb d_T_commit_10 hl rfl ?_
    refine m_get hx hb hts hown hK hw ci_T (pic_o hP) 4 (by decide) (wm1 164 rfl rfl) rfl d_T_commit_11 ?_
    refine lv_iconst (v := nI 1) hx hb d_T_commit_14 (by decide) ?_
    first | refine x_iadd hx hb d_T_commit_15 ?_ | refine lv_iadd hx hb d_T_commit_15 ?_
    refine lv_bipush (v := nI 16) hx hb d_T_commit_16 (by decide) ?_
    refine x_icmp_lt hx hb d_T_commit_18 rfl (by omega) (by omega) (fun h18 => ?_) (fun h18 => ?_)
    · have hcb : cmb σ t = true := cmb_t (opb_t ht ho) (by omega)
      have hb3 : σ 3 t ≤ 15 := Nat.le_trans (hI.2.1.2.1 t ht) hy
      obtain ⟨e1, hx1⟩ := cm1_e hI ht ho
      refine m_new (fs := [.null, .null, .null]) hx hb hts hown hK hw hA ci_Me (wm2 54 rfl rfl) (wm2 55 rfl rfl) (wm1 12 rfl rfl) (fun j hj => by rcases (show j = 0 ∨ j = 1 ∨ j = 2 by omega) with rfl | rfl | rfl <;> rfl) (Nat.le_trans (Nat.le_of_ble_eq_true rfl) hR.2.2.1) (Nat.le_trans (Nat.le_of_ble_eq_true rfl) hR.2.2.2) d_T_commit_23 (fun q1 H hq23 hw => ?_)
      have he_q1 := put_he hw
      have hP1 := pic_fresh (e := .inr (6, [.null, .null, .null])) hP hq23
      first | refine lv_dup hx hb d_T_commit_26 rfl ?_ | refine lv_dup hx hb d_T_commit_26 (va_rf_c _) ?_
      first | refine x_aload_n hx hb d_T_commit_27 hl rfl ?_ | refine x_aload_nQ hx hb d_T_commit_27 hl rfl ?_
      refine m_get hx hb hts hown hK hw ci_T (pic_o hP1) 0 (by decide) (wm1 160 rfl rfl) rfl d_T_commit_28 ?_
      first | refine x_aload_n hx hb d_T_commit_31 hl rfl ?_ | refine x_aload_nQ hx hb d_T_commit_31 hl rfl ?_
      refine m_get hx hb hts hown hK hw ci_Tx (pic_j hP1 ht) 2 (by decide) (wm1 95 rfl rfl) rfl d_T_commit_32 ?_
      refine m_aald hx hb hK hw 1 (pic_r hP1) rfl (by omega) (by decide) (if_pos (by omega)) d_T_commit_35 ?_
      first | refine x_aload_n hx hb d_T_commit_36 hl rfl ?_ | refine x_aload_nQ hx hb d_T_commit_36 hl rfl ?_
      refine m_get hx hb hts hown hK hw ci_T (pic_o hP1) 0 (by decide) (wm1 160 rfl rfl) rfl d_T_commit_37 ?_
      first | refine x_aload_n hx hb d_T_commit_40 hl rfl ?_ | refine x_aload_nQ hx hb d_T_commit_40 hl rfl ?_
      refine m_get hx hb hts hown hK hw ci_T (pic_o hP1) 4 (by decide) (wm1 164 rfl rfl) rfl d_T_commit_41 ?_
      refine m_aald hx hb hK hw 1 (pic_r hP1) rfl (by omega) (by decide) (if_pos (by omega)) d_T_commit_44 ?_
      first | refine x_aload_n hx hb d_T_commit_45 hl rfl ?_ | refine x_aload_nQ hx hb d_T_commit_45 hl rfl ?_
      refine m_get hx hb hts hown hK hw ci_Tx (pic_j hP1 ht) 0 (by decide) (wm1 91 rfl rfl) rfl d_T_commit_46 ?_
      refine m_callv (k_I ⟨hx, hb, hml, hown, hts⟩ hE hA hw (c_Me_init he_q1) (wm2 56 rfl rfl) (wm2 57 rfl rfl) (wm1 12 rfl rfl) (wm2 58 rfl rfl) rfl rfl rfl ar_Me_init ⟨Nat.le_trans (Nat.le_of_ble_eq_true rfl) hR.1, Nat.le_trans (Nat.le_of_ble_eq_true rfl) hR.2.1⟩ rfl hl.1 rfl (Nat.le_of_ble_eq_true rfl) d_T_commit_49 ⟨Nat.le_trans (Nat.le_of_ble_eq_true rfl) hR.2.2.1, Nat.le_trans (Nat.le_of_ble_eq_true rfl) hR.2.2.2⟩) hw (mfr_in hw hA) (fun M49 H locs hP49 hw => ?_)
      rw [mp_up_up] at hP49
      have hP2 := pic_fresh (e := .inr (6, [.ref (ca (σ 3 t + 5)), .ref (ca (σ 1 0 + 5)), .ref (ca (16 + t + 5))])) hP hq23
      rw [← hP49] at hP2
      have hm : M49 q1 = some (.inr (6, [.ref (ca (σ 3 t + 5)), .ref (ca (σ 1 0 + 5)), .ref (ca (16 + t + 5))])) := by rw [hP49]; exact mp_up_s
      have hb3 : σ 3 t ≤ 15 := Nat.le_trans (hI.2.1.2.1 t ht) hy
      first | refine x_astore_n hx hb d_T_commit_52 hl (Nat.le_of_ble_eq_true rfl) (lh_k (i := 2) rfl (by first | exact lk_n | exact lk_i | exact lk_r | exact lk_q | exact lk_0)) (fun ls hl => ?_) | refine x_astore_nQ hx hb d_T_commit_52 hl (Nat.le_of_ble_eq_true rfl) (lh_k (i := 2) rfl (by first | exact lk_n | exact lk_i | exact lk_r | exact lk_q | exact lk_0)) (fun ls hl => ?_)
      first | refine x_aload_n hx hb d_T_commit_53 hl rfl ?_ | refine x_aload_nQ hx hb d_T_commit_53 hl rfl ?_
      refine lv_iconst (v := nI 0) hx hb d_T_commit_54 (by decide) ?_
      refine m_calli (k_VN ⟨hx, hb, hml, hown, hts⟩ hE hA hw (c_Me_conf3 hP2 hI hN ht hm hy hb3 (q := 0) pg_0 rfl) (ci_Me).1 rfl hm hE.2.1.1.2.2.2.2.1 (wm2 72 rfl rfl) (wmp1 3 rfl) (wm1 12 rfl rfl) (wm2 73 rfl rfl) rfl rfl ar_Me_conflictAt ⟨Nat.le_trans (Nat.le_of_ble_eq_true rfl) hR.1, Nat.le_trans (Nat.le_of_ble_eq_true rfl) hR.2.1⟩ rfl hl.1 rfl (Nat.le_of_ble_eq_true rfl) d_T_commit_55 ⟨Nat.le_trans (Nat.le_of_ble_eq_true rfl) hR.2.2.1, Nat.le_trans (Nat.le_of_ble_eq_true rfl) hR.2.2.2⟩) hw (mfr_in hw hA) (fun r55 M55 H locs hP55 hw => ?_)
      obtain ⟨rfl, hM55⟩ := hP55
      rw [hM55] at hw
      refine x_istore hx hb d_T_commit_58 hl (Nat.le_of_ble_eq_true rfl) (lh_k (i := 3) rfl (by first | exact lk_n | exact lk_i | exact lk_r | exact lk_q | exact lk_0)) (fun ls hl => ?_)
      refine x_iload hx hb d_T_commit_60 hl rfl ?_
      refine lv_iconst (v := -1) hx hb d_T_commit_62 (by decide) ?_
      refine lv_icmp_eq hx hb d_T_commit_63 rfl (fun h63 => ?_) (fun h63 => ?_)
      · exact absurd (mI_1 (cf_le 3 0 pg_0 rfl) h63) (hns t ht rfl hcb)
      · have h63 : cf σ t 3 0 ≠ 125 := fun z => h63 (by rw [z]; rfl)
        refine lv_bipush (v := (-2)) hx hb d_T_commit_66 (by decide) ?_
        refine x_iload hx hb d_T_commit_68 hl rfl ?_
        refine lv_isub hx hb d_T_commit_70 ?_
        exact x_reti hQ hx hb hr hlk rfl hw (by omega) (by omega) d_T_commit_71 (⟨by rw [tx_n ht, cmA_c hcb (by rw [e1]; exact h63), e1, mI_n h63], by rw [tx_n ht, cmO_c hcb (by rw [e1]; exact h63)]; exact hP2⟩)
    · refine lv_iconst (v := -1) hx hb d_T_commit_21 (by decide) ?_
      exact x_reti hQ hx hb hr hlk rfl hw (by omega) (by omega) d_T_commit_22 (⟨by first | (rw [cmA_f (cmb_1 h7)]) | (rw [tx_n ht, cmA_f (cmb_2 (by omega))]), by first | (rw [cmO_f (cmb_1 h7)]; exact hP) | (rw [tx_n ht, cmO_f (cmb_2 (by omega))]; exact hP)⟩)
