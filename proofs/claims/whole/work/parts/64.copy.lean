theorem d_T_copy_0 : decode prog_1_method_5_code 0 = .ok (.aload_n 0, 1) := by decide +kernel
theorem d_T_copy_1 : decode prog_1_method_5_code 1 = .ok (.iload_n 1, 1) := by decide +kernel
theorem d_T_copy_2 : decode prog_1_method_5_code 2 = .ok (.invokevirtual 73, 3) := by decide +kernel
theorem d_T_copy_5 : decode prog_1_method_5_code 5 = .ok (.astore 5, 2) := by decide +kernel
theorem d_T_copy_7 : decode prog_1_method_5_code 7 = .ok (.aload 5, 2) := by decide +kernel
theorem d_T_copy_9 : decode prog_1_method_5_code 9 = .ok (.ifnull 21, 3) := by decide +kernel
theorem d_T_copy_12 : decode prog_1_method_5_code 12 = .ok (.aload_n 0, 1) := by decide +kernel
theorem d_T_copy_13 : decode prog_1_method_5_code 13 = .ok (.iload_n 2, 1) := by decide +kernel
theorem d_T_copy_14 : decode prog_1_method_5_code 14 = .ok (.invokevirtual 105, 3) := by decide +kernel
theorem d_T_copy_17 : decode prog_1_method_5_code 17 = .ok (.ifCond .eq 13, 3) := by decide +kernel
theorem d_T_copy_20 : decode prog_1_method_5_code 20 = .ok (.aload 5, 2) := by decide +kernel
theorem d_T_copy_22 : decode prog_1_method_5_code 22 = .ok (.iload 4, 2) := by decide +kernel
theorem d_T_copy_24 : decode prog_1_method_5_code 24 = .ok (.invokevirtual 77, 3) := by decide +kernel
theorem d_T_copy_27 : decode prog_1_method_5_code 27 = .ok (.ifCond .ne 5, 3) := by decide +kernel
theorem d_T_copy_30 : decode prog_1_method_5_code 30 = .ok (.iconst 0, 1) := by decide +kernel
theorem d_T_copy_31 : decode prog_1_method_5_code 31 = .ok (.ireturn, 1) := by decide +kernel
theorem d_T_copy_32 : decode prog_1_method_5_code 32 = .ok (.aload_n 0, 1) := by decide +kernel
theorem d_T_copy_33 : decode prog_1_method_5_code 33 = .ok (.getfield 11, 3) := by decide +kernel
theorem d_T_copy_36 : decode prog_1_method_5_code 36 = .ok (.iload_n 2, 1) := by decide +kernel
theorem d_T_copy_37 : decode prog_1_method_5_code 37 = .ok (.aaload, 1) := by decide +kernel
theorem d_T_copy_38 : decode prog_1_method_5_code 38 = .ok (.astore 6, 2) := by decide +kernel
theorem d_T_copy_40 : decode prog_1_method_5_code 40 = .ok (.aload 6, 2) := by decide +kernel
theorem d_T_copy_42 : decode prog_1_method_5_code 42 = .ok (.iload_n 3, 1) := by decide +kernel
theorem d_T_copy_43 : decode prog_1_method_5_code 43 = .ok (.invokevirtual 88, 3) := by decide +kernel
theorem d_T_copy_46 : decode prog_1_method_5_code 46 = .ok (.astore 7, 2) := by decide +kernel
theorem d_T_copy_48 : decode prog_1_method_5_code 48 = .ok (.aload 7, 2) := by decide +kernel
theorem d_T_copy_50 : decode prog_1_method_5_code 50 = .ok (.ifnull 19, 3) := by decide +kernel
theorem d_T_copy_53 : decode prog_1_method_5_code 53 = .ok (.iload 4, 2) := by decide +kernel
theorem d_T_copy_55 : decode prog_1_method_5_code 55 = .ok (.invokestatic 108, 3) := by decide +kernel
theorem d_T_copy_58 : decode prog_1_method_5_code 58 = .ok (.aload 6, 2) := by decide +kernel
theorem d_T_copy_60 : decode prog_1_method_5_code 60 = .ok (.iload_n 3, 1) := by decide +kernel
theorem d_T_copy_61 : decode prog_1_method_5_code 61 = .ok (.invokevirtual 111, 3) := by decide +kernel
theorem d_T_copy_64 : decode prog_1_method_5_code 64 = .ok (.iadd, 1) := by decide +kernel
theorem d_T_copy_65 : decode prog_1_method_5_code 65 = .ok (.iconst 3, 1) := by decide +kernel
theorem d_T_copy_66 : decode prog_1_method_5_code 66 = .ok (.if_icmp .le 5, 3) := by decide +kernel
theorem d_T_copy_69 : decode prog_1_method_5_code 69 = .ok (.iconst 0, 1) := by decide +kernel
theorem d_T_copy_70 : decode prog_1_method_5_code 70 = .ok (.ireturn, 1) := by decide +kernel
theorem d_T_copy_71 : decode prog_1_method_5_code 71 = .ok (.aload 7, 2) := by decide +kernel
theorem d_T_copy_73 : decode prog_1_method_5_code 73 = .ok (.aload_n 0, 1) := by decide +kernel
theorem d_T_copy_74 : decode prog_1_method_5_code 74 = .ok (.invokevirtual 81, 3) := by decide +kernel
theorem d_T_copy_77 : decode prog_1_method_5_code 77 = .ok (.invokestatic 114, 3) := by decide +kernel
theorem d_T_copy_80 : decode prog_1_method_5_code 80 = .ok (.astore 8, 2) := by decide +kernel
theorem d_T_copy_82 : decode prog_1_method_5_code 82 = .ok (.aload 8, 2) := by decide +kernel
theorem d_T_copy_84 : decode prog_1_method_5_code 84 = .ok (.iload_n 2, 1) := by decide +kernel
theorem d_T_copy_85 : decode prog_1_method_5_code 85 = .ok (.putfield 118, 3) := by decide +kernel
theorem d_T_copy_88 : decode prog_1_method_5_code 88 = .ok (.aload 8, 2) := by decide +kernel
theorem d_T_copy_90 : decode prog_1_method_5_code 90 = .ok (.iload_n 3, 1) := by decide +kernel
theorem d_T_copy_91 : decode prog_1_method_5_code 91 = .ok (.putfield 121, 3) := by decide +kernel
theorem d_T_copy_94 : decode prog_1_method_5_code 94 = .ok (.aload 5, 2) := by decide +kernel
theorem d_T_copy_96 : decode prog_1_method_5_code 96 = .ok (.iload 4, 2) := by decide +kernel
theorem d_T_copy_98 : decode prog_1_method_5_code 98 = .ok (.aload 8, 2) := by decide +kernel
theorem d_T_copy_100 : decode prog_1_method_5_code 100 = .ok (.invokevirtual 85, 3) := by decide +kernel
theorem d_T_copy_103 : decode prog_1_method_5_code 103 = .ok (.aload 5, 2) := by decide +kernel
theorem d_T_copy_105 : decode prog_1_method_5_code 105 = .ok (.getfield 65, 3) := by decide +kernel
theorem d_T_copy_108 : decode prog_1_method_5_code 108 = .ok (.aload 6, 2) := by decide +kernel
theorem d_T_copy_110 : decode prog_1_method_5_code 110 = .ok (.iload_n 3, 1) := by decide +kernel
theorem d_T_copy_111 : decode prog_1_method_5_code 111 = .ok (.iload 4, 2) := by decide +kernel
theorem d_T_copy_113 : decode prog_1_method_5_code 113 = .ok (.invokevirtual 124, 3) := by decide +kernel
theorem d_T_copy_116 : decode prog_1_method_5_code 116 = .ok (.iconst 1, 1) := by decide +kernel
theorem d_T_copy_117 : decode prog_1_method_5_code 117 = .ok (.ireturn, 1) := by decide +kernel

theorem tch_4 {t : Nat} (ht : t < 3) {b : Nat} : ∀ n (τ : SS) q, b ≤ τ 4 0 → b ≤ tch n τ t q 4 0 := by
  intro n
  induction n with
  | zero =>
    intro τ q h
    show b ≤ tst τ t q 4 0
    rw [tst_4]
    split <;> omega
  | succ n ih =>
    intro τ q h
    refine ih (tst τ t q) (pp q) ?_
    rw [tst_4]
    split <;> omega
set_option maxHeartbeats 1000000 in
set_option maxRecDepth 100000 in
theorem c_T_copy {l : Launch} {E : Ev} {M : mp_M} {sz : Nat} {σ : SS} {ca na ta : Nat → Nat} (hP : PIC E σ ca na ta M) (hI : INV σ 3) (hN : σ 4 0 < 1290) {x y z v : Int32} : MCi l E y_T_copy prog_1_method_5_code 9 (some .boolean) 5 111 5 50 [.ref (ca 0), .int x, .int y, .int z, .int v] M sz (fun r' M' => r' = bz (cpb σ (tx x) (rvn σ y) (ix z) (ix v)) ∧ ∃ na' ta', PIC E (cpO σ (tx x) (rvn σ y) (ix z) (ix v)) ca na' ta' M') := by
  refine mc_of R_T rfl [some (.ref (ca 0)), some (.int x), some (.int y), some (.int z), some (.int v), none, none, none, none] (by decide) (Nat.le_of_ble_eq_true rfl) rfl ?_
  intro p e R s m ag below meth c ls Q A X hAe hQ hR hsz hw hl
  rw [← hAe] at hQ
  obtain ⟨⟨hx, hb, hml, hown, hts⟩, hE, hA, hr, hlk, hnm⟩ := X
  have hK := hE.1
  have hy := inv_y hI
  first | refine x_aload_n hx hb d_T_copy_0 hl rfl ?_ | refine x_aload_nQ hx hb d_T_copy_0 hl rfl ?_
  refine x_iload_n hx hb d_T_copy_1 hl rfl ?_
  refine m_callq (k_V ⟨hx, hb, hml, hown, hts⟩ hE hA hw (c_T_open hP) (ci_T).1 rfl (pic_o hP) (wm1 200 rfl rfl) (wm1 202 rfl rfl) (wmp1 0 rfl) (wm1 1 rfl rfl) (wm1 203 rfl rfl) rfl rfl ar_T_openTransaction ⟨Nat.le_trans (Nat.le_of_ble_eq_true rfl) hR.1, Nat.le_trans (Nat.le_of_ble_eq_true rfl) hR.2.1⟩ rfl hl.1 rfl (Nat.le_of_ble_eq_true rfl) d_T_copy_2 ⟨Nat.le_trans (Nat.le_of_ble_eq_true rfl) hR.2.2.1, Nat.le_trans (Nat.le_of_ble_eq_true rfl) hR.2.2.2⟩) hw (mfr_in hw hA) (fun r2 M2 H locs hP2 hw => ?_)
  obtain ⟨rfl, hM2⟩ := hP2
  rw [hM2] at hw
  first | refine x_astore hx hb d_T_copy_5 hl (Nat.le_of_ble_eq_true rfl) (lh_k (i := 4) rfl (by first | exact lk_n | exact lk_i | exact lk_r | exact lk_q | exact lk_0)) (fun ls hl => ?_) | refine x_astoreQ hx hb d_T_copy_5 hl (Nat.le_of_ble_eq_true rfl) (lh_k (i := 4) rfl (by first | exact lk_n | exact lk_i | exact lk_r | exact lk_q | exact lk_0)) (fun ls hl => ?_)
  first | refine x_aload hx hb d_T_copy_7 hl rfl ?_ | refine x_aloadQ hx hb d_T_copy_7 hl rfl ?_
  refine x_ifnullQ hx hb d_T_copy_9 rfl (fun h9 => ?_) (fun a9 h9 => ?_)
  · have h9 := oT_none h9
    refine lv_iconst (v := nI 0) hx hb d_T_copy_30 (by decide) ?_
    exact x_reti hQ hx hb hr hlk (by first | exact nar_bz | decide) hw (by omega) (by omega) d_T_copy_31 (⟨by first | exact bz_f (cpb_1 (rmb_1f h9)) | (rw [h17]; exact bz_f (cpb_2 rfl)) | (rw [tx_n ht]; exact bz_f (cpb_1 h27)), na, ta, by first | (rw [cpO_f (cpb_1 (rmb_1f h9))]; exact hP) | (rw [h17, cpO_f (cpb_2 rfl)]; exact hP) | (rw [tx_n ht, cpO_f (cpb_1 h27)]; exact hP)⟩)
  · obtain ⟨t, ht, ho, rfl, rfl⟩ := oT_some h9
    rw [h9] at hl
    first | refine x_aload_n hx hb d_T_copy_12 hl rfl ?_ | refine x_aload_nQ hx hb d_T_copy_12 hl rfl ?_
    refine x_iload_n hx hb d_T_copy_13 hl rfl ?_
    refine m_calli (k_V ⟨hx, hb, hml, hown, hts⟩ hE hA hw (c_T_isRev hP hy) (ci_T).1 rfl (pic_o hP) (wm2 19 rfl rfl) (wm2 21 rfl rfl) (wmp1 2 rfl) (wm1 1 rfl rfl) (wm2 22 rfl rfl) rfl rfl ar_T_isRevision ⟨Nat.le_trans (Nat.le_of_ble_eq_true rfl) hR.1, Nat.le_trans (Nat.le_of_ble_eq_true rfl) hR.2.1⟩ rfl hl.1 rfl (Nat.le_of_ble_eq_true rfl) d_T_copy_14 ⟨Nat.le_trans (Nat.le_of_ble_eq_true rfl) hR.2.2.1, Nat.le_trans (Nat.le_of_ble_eq_true rfl) hR.2.2.2⟩) hw (mfr_in hw hA) (fun r14 M14 H locs hP14 hw => ?_)
    obtain ⟨rfl, hM14⟩ := hP14
    rw [hM14] at hw
    refine x_if_eqB hx hb d_T_copy_17 rfl (fun h17 => ?_) (fun h17 => ?_)
    · have h17 := iv_n h17
      refine lv_iconst (v := nI 0) hx hb d_T_copy_30 (by decide) ?_
      exact x_reti hQ hx hb hr hlk (by first | exact nar_bz | decide) hw (by omega) (by omega) d_T_copy_31 (⟨by first | exact bz_f (cpb_1 (rmb_1f h9)) | (rw [h17]; exact bz_f (cpb_2 rfl)) | (rw [tx_n ht]; exact bz_f (cpb_1 h27)), na, ta, by first | (rw [cpO_f (cpb_1 (rmb_1f h9))]; exact hP) | (rw [h17, cpO_f (cpb_2 rfl)]; exact hP) | (rw [tx_n ht, cpO_f (cpb_1 h27)]; exact hP)⟩)
    · obtain ⟨r, hrY, rfl, hr9⟩ := iv_of hy h17
      first | refine x_aload hx hb d_T_copy_20 hl rfl ?_ | refine x_aloadQ hx hb d_T_copy_20 hl rfl ?_
      refine x_iload hx hb d_T_copy_22 hl rfl ?_
      refine m_calli (k_V ⟨hx, hb, hml, hown, hts⟩ hE hA hw (c_Tx_room hP hI ht ho) (ci_Tx).1 rfl (pic_j hP ht) (wm1 204 rfl rfl) (wm1 205 rfl rfl) (wm1 206 rfl rfl) (wm1 7 rfl rfl) (wm1 207 rfl rfl) rfl rfl ar_Tx_hasRoomAt ⟨Nat.le_trans (Nat.le_of_ble_eq_true rfl) hR.1, Nat.le_trans (Nat.le_of_ble_eq_true rfl) hR.2.1⟩ rfl hl.1 rfl (Nat.le_of_ble_eq_true rfl) d_T_copy_24 ⟨Nat.le_trans (Nat.le_of_ble_eq_true rfl) hR.2.2.1, Nat.le_trans (Nat.le_of_ble_eq_true rfl) hR.2.2.2⟩) hw (mfr_in hw hA) (fun r24 M24 H locs hP24 hw => ?_)
      obtain ⟨rfl, hM24⟩ := hP24
      rw [hM24] at hw
      refine x_if_neB hx hb d_T_copy_27 rfl (fun h27 => ?_) (fun h27 => ?_)
      · obtain ⟨g, hg5, rfl⟩ := ix_good (rmb_all h27).2.2.1
        rw [ix_n hg5] at h27
        first | refine x_aload_n hx hb d_T_copy_32 hl rfl ?_ | refine x_aload_nQ hx hb d_T_copy_32 hl rfl ?_
        refine m_get hx hb hts hown hK hw ci_T (pic_o hP) 0 (by decide) (wm1 160 rfl rfl) rfl d_T_copy_33 ?_
        refine x_iload_n hx hb d_T_copy_36 hl rfl ?_
        refine m_aald hx hb hK hw 1 (pic_r hP) rfl (by omega) (by decide) (if_pos (by omega)) d_T_copy_37 ?_
        first | refine x_astore hx hb d_T_copy_38 hl (Nat.le_of_ble_eq_true rfl) (lh_k (i := 5) rfl (by first | exact lk_n | exact lk_i | exact lk_r | exact lk_q | exact lk_0)) (fun ls hl => ?_) | refine x_astoreQ hx hb d_T_copy_38 hl (Nat.le_of_ble_eq_true rfl) (lh_k (i := 5) rfl (by first | exact lk_n | exact lk_i | exact lk_r | exact lk_q | exact lk_0)) (fun ls hl => ?_)
        first | refine x_aload hx hb d_T_copy_40 hl rfl ?_ | refine x_aloadQ hx hb d_T_copy_40 hl rfl ?_
        refine x_iload_n hx hb d_T_copy_42 hl rfl ?_
        refine m_callq (k_V ⟨hx, hb, hml, hown, hts⟩ hE hA hw (c_Tr_at (pic_t hP (k := r) (by omega)) (pic_a hP (k := r) (by omega))) (ci_Tr).1 rfl (pic_t hP (k := r) (by omega)) (wm2 8 rfl rfl) (wm1 212 rfl rfl) (wm1 213 rfl rfl) (wm1 6 rfl rfl) (wm1 214 rfl rfl) rfl rfl ar_Tr_at ⟨Nat.le_trans (Nat.le_of_ble_eq_true rfl) hR.1, Nat.le_trans (Nat.le_of_ble_eq_true rfl) hR.2.1⟩ rfl hl.1 rfl (Nat.le_of_ble_eq_true rfl) d_T_copy_43 ⟨Nat.le_trans (Nat.le_of_ble_eq_true rfl) hR.2.2.1, Nat.le_trans (Nat.le_of_ble_eq_true rfl) hR.2.2.2⟩) hw (mfr_in hw hA) (fun r43 M43 H locs hP43 hw => ?_)
        obtain ⟨rfl, hM43⟩ := hP43
        rw [hM43] at hw
        rw [tat_row (pic_z hP) (k := r) (by omega)]
        first | refine x_astore hx hb d_T_copy_46 hl (Nat.le_of_ble_eq_true rfl) (lh_k (i := 6) rfl (by first | exact lk_n | exact lk_i | exact lk_r | exact lk_q | exact lk_0)) (fun ls hl => ?_) | refine x_astoreQ hx hb d_T_copy_46 hl (Nat.le_of_ble_eq_true rfl) (lh_k (i := 6) rfl (by first | exact lk_n | exact lk_i | exact lk_r | exact lk_q | exact lk_0)) (fun ls hl => ?_)
        first | refine x_aload hx hb d_T_copy_48 hl rfl ?_ | refine x_aloadQ hx hb d_T_copy_48 hl rfl ?_
        refine x_ifnullQ hx hb d_T_copy_50 rfl (fun h50 => ?_) (fun a50 h50 => ?_)
        · have h50 := nq_none h50
          refine lv_iconst (v := nI 0) hx hb d_T_copy_69 (by decide) ?_
          exact x_reti hQ hx hb hr hlk (by first | exact nar_bz | decide) hw (by omega) (by omega) d_T_copy_70 (⟨by first | (rw [hr9]; exact bz_f (cpb_3 h50)) | (rw [hr9, ix_n hf5, ix_n hg5]; exact bz_f (cpb_4 h66)), na, ta, by first | (rw [hr9, cpO_f (cpb_3 h50)]; exact hP) | (rw [hr9, ix_n hf5, ix_n hg5, cpO_f (cpb_4 h66)]; exact hP)⟩)
        · obtain ⟨hf0, rfl⟩ := nq_some h50
          rw [h50] at hl
          have hf := rat_good (σ := σ) (k := r) (p := ix z) (by omega)
          obtain ⟨f, hf5, rfl⟩ := ix_good hf
          rw [ix_n hf5] at hf hf0
          simp only [ix_n hf5] at hl
          have hle := rat_le (pic_z hP) (k := r) (q := f)
          refine x_iload hx hb d_T_copy_53 hl rfl ?_
          refine m_calli (k_S ⟨hx, hb, hml, hown, hts⟩ hE hA hw (c_P_depth (by omega)) (wm2 23 rfl rfl) (wm1 191 rfl rfl) (wm1 10 rfl rfl) (wm1 192 rfl rfl) rfl rfl ar_P_depthOf ⟨Nat.le_trans (Nat.le_of_ble_eq_true rfl) hR.1, Nat.le_trans (Nat.le_of_ble_eq_true rfl) hR.2.1⟩ rfl hl.1 rfl (Nat.le_of_ble_eq_true rfl) d_T_copy_55 ⟨Nat.le_trans (Nat.le_of_ble_eq_true rfl) hR.2.2.1, Nat.le_trans (Nat.le_of_ble_eq_true rfl) hR.2.2.2⟩) hw (mfr_in hw hA) (fun r55 M55 H locs hP55 hw => ?_)
          obtain ⟨rfl, hM55⟩ := hP55
          rw [hM55] at hw
          first | refine x_aload hx hb d_T_copy_58 hl rfl ?_ | refine x_aloadQ hx hb d_T_copy_58 hl rfl ?_
          refine x_iload_n hx hb d_T_copy_60 hl rfl ?_
          refine m_calli (k_V ⟨hx, hb, hml, hown, hts⟩ hE hA hw (c_Tr_height hf5 (pic_t hP (k := r) (by omega)) (pic_a hP (k := r) (by omega))) (ci_Tr).1 rfl (pic_t hP (k := r) (by omega)) (wm2 24 rfl rfl) (wm2 25 rfl rfl) (wm2 26 rfl rfl) (wm1 6 rfl rfl) (wm2 27 rfl rfl) rfl rfl ar_Tr_heightOf ⟨Nat.le_trans (Nat.le_of_ble_eq_true rfl) hR.1, Nat.le_trans (Nat.le_of_ble_eq_true rfl) hR.2.1⟩ rfl hl.1 rfl (Nat.le_of_ble_eq_true rfl) d_T_copy_61 ⟨Nat.le_trans (Nat.le_of_ble_eq_true rfl) hR.2.2.1, Nat.le_trans (Nat.le_of_ble_eq_true rfl) hR.2.2.2⟩) hw (mfr_in hw hA) (fun r61 M61 H locs hP61 hw => ?_)
          obtain ⟨rfl, hM61⟩ := hP61
          rw [hM61] at hw
          first | refine x_iadd hx hb d_T_copy_64 ?_ | refine lv_iadd hx hb d_T_copy_64 ?_
          refine lv_iconst (v := nI 3) hx hb d_T_copy_65 (by decide) ?_
          have hh := htf_le (f := rowf σ na r) (q := f) 125 0 (pd f) (pd_le f)
          have hg3 := pd_le g
          refine x_icmp_le hx hb d_T_copy_66 rfl (by omega) (by omega) (fun h66 => ?_) (fun h66 => ?_)
          · have hc : cpb σ t r f g = true := cpb_t h27 (by omega) (by omega) ((cof_h (pic_z hP) (by omega) hf hf0).mp h66)
            first | refine x_aload hx hb d_T_copy_71 hl rfl ?_ | refine x_aloadQ hx hb d_T_copy_71 hl rfl ?_
            first | refine x_aload_n hx hb d_T_copy_73 hl rfl ?_ | refine x_aload_nQ hx hb d_T_copy_73 hl rfl ?_
            refine m_calli (k_V ⟨hx, hb, hml, hown, hts⟩ hE hA hw (c_T_newLine hP) (ci_T).1 rfl (pic_o hP) (wm1 221 rfl rfl) (wm1 223 rfl rfl) (wmp1 1 rfl) (wm1 1 rfl rfl) (wm1 224 rfl rfl) rfl rfl ar_T_newLine ⟨Nat.le_trans (Nat.le_of_ble_eq_true rfl) hR.1, Nat.le_trans (Nat.le_of_ble_eq_true rfl) hR.2.1⟩ rfl hl.1 rfl (Nat.le_of_ble_eq_true rfl) d_T_copy_74 ⟨Nat.le_trans (Nat.le_of_ble_eq_true rfl) hR.2.2.1, Nat.le_trans (Nat.le_of_ble_eq_true rfl) hR.2.2.2⟩) hw (mfr_in hw hA) (fun r74 M74 H locs hP74 hw => ?_)
            obtain ⟨rfl, hM74⟩ := hP74
            have heB : M74 (na (rat σ r f)) = some (.inr (3, ndf σ na ta (rat σ r f))) := by rw [hM74]; exact av_up (av_i (ks := [3]) (pic_o hP) (by decide)) (pic_n hP hf0 hle) (by simp [kd])
            refine m_callq (k_S ⟨hx, hb, hml, hown, hts⟩ hE hA hw (c_N_after heB) (wm2 32 rfl rfl) (wm1 236 rfl rfl) (wm1 8 rfl rfl) (wm1 237 rfl rfl) rfl rfl ar_N_after ⟨Nat.le_trans (Nat.le_of_ble_eq_true rfl) hR.1, Nat.le_trans (Nat.le_of_ble_eq_true rfl) hR.2.1⟩ rfl hl.1 rfl (Nat.le_of_ble_eq_true rfl) d_T_copy_77 ⟨Nat.le_trans (Nat.le_of_ble_eq_true rfl) hR.2.2.1, Nat.le_trans (Nat.le_of_ble_eq_true rfl) hR.2.2.2⟩) hw (mfr_in hw hA) (fun r77 M77 H locs hP77 hw => ?_)
            obtain ⟨q1, rfl, hq1, hM77⟩ := hP77
            have he8 : M77 q1 = some (.inr (3, [.int (nI (σ 5 0 + 1)), .int (bz (decide (σ 6 (rat σ r f) = 1))), .ref (ta (rat σ r f)), .int (nI (σ 11 (rat σ r f) + 1)), .int (-1), .ref (na (rat σ r f)), .int (-1), .int (-1), .int (nI 0), .int (shI (σ 15 (rat σ r f)))])) := by rw [hM77]; exact mp_up_s
            first | refine x_astore hx hb d_T_copy_80 hl (Nat.le_of_ble_eq_true rfl) (lh_k (i := 7) rfl (by first | exact lk_n | exact lk_i | exact lk_r | exact lk_q | exact lk_0)) (fun ls hl => ?_) | refine x_astoreQ hx hb d_T_copy_80 hl (Nat.le_of_ble_eq_true rfl) (lh_k (i := 7) rfl (by first | exact lk_n | exact lk_i | exact lk_r | exact lk_q | exact lk_0)) (fun ls hl => ?_)
            first | refine x_aload hx hb d_T_copy_82 hl rfl ?_ | refine x_aloadQ hx hb d_T_copy_82 hl rfl ?_
            refine x_iload_n hx hb d_T_copy_84 hl rfl ?_
            refine m_put hx hb hts hown hK hw ci_N he8 6 (by decide) (wm1 126 rfl rfl) rfl (by first | rfl | exact nar_bz | exact nar_q) (by first | rfl | exact fit_bz | exact fit_q) (Nat.le_of_ble_eq_true rfl) d_T_copy_85 (fun H locs hw => ?_)
            have he8 := put_he hw
            first | refine x_aload hx hb d_T_copy_88 hl rfl ?_ | refine x_aloadQ hx hb d_T_copy_88 hl rfl ?_
            refine x_iload_n hx hb d_T_copy_90 hl rfl ?_
            refine m_put hx hb hts hown hK hw ci_N he8 7 (by decide) (wm1 129 rfl rfl) rfl (by first | rfl | exact nar_bz | exact nar_q) (by first | rfl | exact fit_bz | exact fit_q) (Nat.le_of_ble_eq_true rfl) d_T_copy_91 (fun H locs hw => ?_)
            rw [mp_up_up, hM77, mp_up_up] at hw
            have hq2 : M q1 = none := by
              rw [hM74] at hq1
              by_cases e9 : q1 = ca 0
              · rw [e9, mp_up_s] at hq1; cases hq1
              · rw [mp_up_n e9] at hq1; exact hq1
            have hP3 := pic_cp (r := r) (f := f) hP hI ht hf0 hf5 hq2
            rw [← hM74] at hP3
            have hgg := (rmb_all h27).2.2.1
            obtain ⟨i1, i2, i3⟩ := cpa_inv hI hc hrY
            first | refine x_aload hx hb d_T_copy_94 hl rfl ?_ | refine x_aloadQ hx hb d_T_copy_94 hl rfl ?_
            refine x_iload hx hb d_T_copy_96 hl rfl ?_
            first | refine x_aload hx hb d_T_copy_98 hl rfl ?_ | refine x_aloadQ hx hb d_T_copy_98 hl rfl ?_
            refine m_callv (k_V ⟨hx, hb, hml, hown, hts⟩ hE hA hw (c_Tx_add hP3 ht (n := σ 4 0 + 1) va_same hgg (by omega) (by rw [cp3_4]; exact Nat.le_refl _) i1 i2 i3) (ci_Tx).1 rfl (pic_j hP3 ht) (wm1 225 rfl rfl) (wm1 226 rfl rfl) (wm1 227 rfl rfl) (wm1 7 rfl rfl) (wm1 228 rfl rfl) rfl rfl ar_Tx_add ⟨Nat.le_trans (Nat.le_of_ble_eq_true rfl) hR.1, Nat.le_trans (Nat.le_of_ble_eq_true rfl) hR.2.1⟩ rfl hl.1 rfl (Nat.le_of_ble_eq_true rfl) d_T_copy_100 ⟨Nat.le_trans (Nat.le_of_ble_eq_true rfl) hR.2.2.1, Nat.le_trans (Nat.le_of_ble_eq_true rfl) hR.2.2.2⟩) hw (mfr_in hw hA) (fun M100 H locs hP100 hw => ?_)
            obtain ⟨na1, ta1, hP4, hk4⟩ := hP100
            have hrr : ∀ w, rat (tch (pd (pp g)) (plc (cp3 σ t r f) t g (σ 4 0 + 1)) t (pp g)) r w = rat σ r w := fun w => by rw [tch_rat ht (by omega) _ _ _ i1.1 (pp_good hgg), rat_plc hgg (by omega), if_neg (by omega), rat_cp3]
            obtain ⟨-, -, -, -, -, -, -⟩ := tch_all ht (pd (pp g)) _ (pp g) i1 i2 i3 rfl (by rw [plc_o (by decide), cp3_4]; have := pd_le (pp g); omega)
            have hord := cp_order hI hc hrY
            have hn4 : σ 4 0 + 1 ≤ tch (pd (pp g)) (plc (cp3 σ t r f) t g (σ 4 0 + 1)) t (pp g) 4 0 := tch_4 ht (pd (pp g)) _ _ (by rw [plc_o (by decide), cp3_4]; exact Nat.le_refl _)
            generalize tch (pd (pp g)) (plc (cp3 σ t r f) t g (σ 4 0 + 1)) t (pp g) = θ at *
            have hP5 := pic_gff (r := r) (f := f) (g := g) hP4 ht (by omega) hf hgg hn4 (fun w hw hu z9 => by
              rw [hrr] at hw
              have hw5 := rat_lt125 (σ := σ) (s := r) (n := w) (by omega)
              exact cof_of 125 0 (cpb_all hc).2.2.2 w (by omega) (by omega) ⟨hw, hu, z9⟩)
            rw [← hord] at hP5
            first | refine x_aload hx hb d_T_copy_103 hl rfl ?_ | refine x_aloadQ hx hb d_T_copy_103 hl rfl ?_
            refine m_get hx hb hts hown hK hw ci_Tx (pic_j hP4 ht) 0 (by decide) (wm1 91 rfl rfl) rfl d_T_copy_105 ?_
            first | refine x_aload hx hb d_T_copy_108 hl rfl ?_ | refine x_aloadQ hx hb d_T_copy_108 hl rfl ?_
            refine x_iload_n hx hb d_T_copy_110 hl rfl ?_
            refine x_iload hx hb d_T_copy_111 hl rfl ?_
            refine m_callv (k_V ⟨hx, hb, hml, hown, hts⟩ hE hA hw (c_Tr_graft hf5 hg5 (pic_u hP4 ht) (pic_a hP4 (k := 16 + t) (by omega)) (pic_t hP4 (k := r) (by omega)) (pic_a hP4 (k := r) (by omega)) (pic_ne hP4 (by omega) (by omega) (by omega)) (pic_row_n hP4)) (ci_Tr).1 rfl (pic_u hP4 ht) (wm2 33 rfl rfl) (wm2 34 rfl rfl) (wm2 35 rfl rfl) (wm1 6 rfl rfl) (wm2 36 rfl rfl) rfl rfl ar_Tr_graft ⟨Nat.le_trans (Nat.le_of_ble_eq_true rfl) hR.1, Nat.le_trans (Nat.le_of_ble_eq_true rfl) hR.2.1⟩ rfl hl.1 rfl (Nat.le_of_ble_eq_true rfl) d_T_copy_113 ⟨Nat.le_trans (Nat.le_of_ble_eq_true rfl) hR.2.2.1, Nat.le_trans (Nat.le_of_ble_eq_true rfl) hR.2.2.2⟩) hw (mfr_in hw hA) (fun M113 H locs hP113 hw => ?_)
            rw [← hP113] at hP5
            refine lv_iconst (v := nI 1) hx hb d_T_copy_116 (by decide) ?_
            exact x_reti hQ hx hb hr hlk (by first | exact nar_bz | decide) hw (by omega) (by omega) d_T_copy_117 (⟨by rw [tx_n ht, hr9, ix_n hf5, ix_n hg5]; exact bz_t hc, na1, ta1, by rw [tx_n ht, hr9, ix_n hf5, ix_n hg5]; exact hP5⟩)
          · have h66 : cof σ r f g 125 0 = false := by
              cases hz9 : cof σ r f g 125 0 with
              | false => rfl
              | true => exact absurd ((cof_h (na := na) (pic_z hP) (by omega) hf hf0).mpr hz9) (by omega)
            refine lv_iconst (v := nI 0) hx hb d_T_copy_69 (by decide) ?_
            exact x_reti hQ hx hb hr hlk (by first | exact nar_bz | decide) hw (by omega) (by omega) d_T_copy_70 (⟨by first | (rw [hr9]; exact bz_f (cpb_3 h50)) | (rw [hr9, ix_n hf5, ix_n hg5]; exact bz_f (cpb_4 h66)), na, ta, by first | (rw [hr9, cpO_f (cpb_3 h50)]; exact hP) | (rw [hr9, ix_n hf5, ix_n hg5, cpO_f (cpb_4 h66)]; exact hP)⟩)
      · refine lv_iconst (v := nI 0) hx hb d_T_copy_30 (by decide) ?_
        exact x_reti hQ hx hb hr hlk (by first | exact nar_bz | decide) hw (by omega) (by omega) d_T_copy_31 (⟨by first | exact bz_f (cpb_1 (rmb_1f h9)) | (rw [h17]; exact bz_f (cpb_2 rfl)) | (rw [tx_n ht]; exact bz_f (cpb_1 h27)), na, ta, by first | (rw [cpO_f (cpb_1 (rmb_1f h9))]; exact hP) | (rw [h17, cpO_f (cpb_2 rfl)]; exact hP) | (rw [tx_n ht, cpO_f (cpb_1 h27)]; exact hP)⟩)
