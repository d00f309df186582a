theorem d_T_keep_0 : decode prog_1_method_28_code 0 = .ok (.aload_n 1, 1) := by decide +kernel
theorem d_T_keep_1 : decode prog_1_method_28_code 1 = .ok (.getfield 164, 3) := by decide +kernel
theorem d_T_keep_4 : decode prog_1_method_28_code 4 = .ok (.getfield 171, 3) := by decide +kernel
theorem d_T_keep_7 : decode prog_1_method_28_code 7 = .ok (.ifCond .ne 5, 3) := by decide +kernel
theorem d_T_keep_10 : decode prog_1_method_28_code 10 = .ok (.iconst (-1), 1) := by decide +kernel
theorem d_T_keep_11 : decode prog_1_method_28_code 11 = .ok (.ireturn, 1) := by decide +kernel
theorem d_T_keep_12 : decode prog_1_method_28_code 12 = .ok (.aload_n 0, 1) := by decide +kernel
theorem d_T_keep_13 : decode prog_1_method_28_code 13 = .ok (.aload_n 1, 1) := by decide +kernel
theorem d_T_keep_14 : decode prog_1_method_28_code 14 = .ok (.getfield 164, 3) := by decide +kernel
theorem d_T_keep_17 : decode prog_1_method_28_code 17 = .ok (.invokevirtual 217, 3) := by decide +kernel
theorem d_T_keep_20 : decode prog_1_method_28_code 20 = .ok (.istore_n 2, 1) := by decide +kernel
theorem d_T_keep_21 : decode prog_1_method_28_code 21 = .ok (.iload_n 2, 1) := by decide +kernel
theorem d_T_keep_22 : decode prog_1_method_28_code 22 = .ok (.iconst (-1), 1) := by decide +kernel
theorem d_T_keep_23 : decode prog_1_method_28_code 23 = .ok (.if_icmp .eq 5, 3) := by decide +kernel
theorem d_T_keep_26 : decode prog_1_method_28_code 26 = .ok (.iload_n 2, 1) := by decide +kernel
theorem d_T_keep_27 : decode prog_1_method_28_code 27 = .ok (.ireturn, 1) := by decide +kernel
theorem d_T_keep_28 : decode prog_1_method_28_code 28 = .ok (.aload_n 0, 1) := by decide +kernel
theorem d_T_keep_29 : decode prog_1_method_28_code 29 = .ok (.aload_n 1, 1) := by decide +kernel
theorem d_T_keep_30 : decode prog_1_method_28_code 30 = .ok (.invokevirtual 221, 3) := by decide +kernel
theorem d_T_keep_33 : decode prog_1_method_28_code 33 = .ok (.istore_n 3, 1) := by decide +kernel
theorem d_T_keep_34 : decode prog_1_method_28_code 34 = .ok (.iload_n 3, 1) := by decide +kernel
theorem d_T_keep_35 : decode prog_1_method_28_code 35 = .ok (.iconst (-1), 1) := by decide +kernel
theorem d_T_keep_36 : decode prog_1_method_28_code 36 = .ok (.if_icmp .ne 38, 3) := by decide +kernel
theorem d_T_keep_39 : decode prog_1_method_28_code 39 = .ok (.aload_n 0, 1) := by decide +kernel
theorem d_T_keep_40 : decode prog_1_method_28_code 40 = .ok (.getfield 24, 3) := by decide +kernel
theorem d_T_keep_43 : decode prog_1_method_28_code 43 = .ok (.new 201, 3) := by decide +kernel
theorem d_T_keep_46 : decode prog_1_method_28_code 46 = .ok (.dup, 1) := by decide +kernel
theorem d_T_keep_47 : decode prog_1_method_28_code 47 = .ok (.aload_n 1, 1) := by decide +kernel
theorem d_T_keep_48 : decode prog_1_method_28_code 48 = .ok (.getfield 164, 3) := by decide +kernel
theorem d_T_keep_51 : decode prog_1_method_28_code 51 = .ok (.iconst (-1), 1) := by decide +kernel
theorem d_T_keep_52 : decode prog_1_method_28_code 52 = .ok (.iconst 1, 1) := by decide +kernel
theorem d_T_keep_53 : decode prog_1_method_28_code 53 = .ok (.aload_n 1, 1) := by decide +kernel
theorem d_T_keep_54 : decode prog_1_method_28_code 54 = .ok (.getfield 164, 3) := by decide +kernel
theorem d_T_keep_57 : decode prog_1_method_28_code 57 = .ok (.aload_n 0, 1) := by decide +kernel
theorem d_T_keep_58 : decode prog_1_method_28_code 58 = .ok (.getfield 33, 3) := by decide +kernel
theorem d_T_keep_61 : decode prog_1_method_28_code 61 = .ok (.invokevirtual 224, 3) := by decide +kernel
theorem d_T_keep_64 : decode prog_1_method_28_code 64 = .ok (.invokespecial 227, 3) := by decide +kernel
theorem d_T_keep_67 : decode prog_1_method_28_code 67 = .ok (.invokevirtual 230, 3) := by decide +kernel
theorem d_T_keep_70 : decode prog_1_method_28_code 70 = .ok (.pop, 1) := by decide +kernel
theorem d_T_keep_71 : decode prog_1_method_28_code 71 = .ok (.goto 55, 3) := by decide +kernel
theorem d_T_keep_74 : decode prog_1_method_28_code 74 = .ok (.aload_n 0, 1) := by decide +kernel
theorem d_T_keep_75 : decode prog_1_method_28_code 75 = .ok (.getfield 24, 3) := by decide +kernel
theorem d_T_keep_78 : decode prog_1_method_28_code 78 = .ok (.iload_n 3, 1) := by decide +kernel
theorem d_T_keep_79 : decode prog_1_method_28_code 79 = .ok (.invokevirtual 197, 3) := by decide +kernel
theorem d_T_keep_82 : decode prog_1_method_28_code 82 = .ok (.checkcast 201, 3) := by decide +kernel
theorem d_T_keep_85 : decode prog_1_method_28_code 85 = .ok (.astore 4, 2) := by decide +kernel
theorem d_T_keep_87 : decode prog_1_method_28_code 87 = .ok (.aload_n 0, 1) := by decide +kernel
theorem d_T_keep_88 : decode prog_1_method_28_code 88 = .ok (.getfield 24, 3) := by decide +kernel
theorem d_T_keep_91 : decode prog_1_method_28_code 91 = .ok (.new 201, 3) := by decide +kernel
theorem d_T_keep_94 : decode prog_1_method_28_code 94 = .ok (.dup, 1) := by decide +kernel
theorem d_T_keep_95 : decode prog_1_method_28_code 95 = .ok (.aload_n 1, 1) := by decide +kernel
theorem d_T_keep_96 : decode prog_1_method_28_code 96 = .ok (.getfield 164, 3) := by decide +kernel
theorem d_T_keep_99 : decode prog_1_method_28_code 99 = .ok (.iload_n 3, 1) := by decide +kernel
theorem d_T_keep_100 : decode prog_1_method_28_code 100 = .ok (.aload 4, 2) := by decide +kernel
theorem d_T_keep_102 : decode prog_1_method_28_code 102 = .ok (.getfield 204, 3) := by decide +kernel
theorem d_T_keep_105 : decode prog_1_method_28_code 105 = .ok (.iconst 1, 1) := by decide +kernel
theorem d_T_keep_106 : decode prog_1_method_28_code 106 = .ok (.iadd, 1) := by decide +kernel
theorem d_T_keep_107 : decode prog_1_method_28_code 107 = .ok (.aload_n 1, 1) := by decide +kernel
theorem d_T_keep_108 : decode prog_1_method_28_code 108 = .ok (.getfield 164, 3) := by decide +kernel
theorem d_T_keep_111 : decode prog_1_method_28_code 111 = .ok (.aload 4, 2) := by decide +kernel
theorem d_T_keep_113 : decode prog_1_method_28_code 113 = .ok (.getfield 210, 3) := by decide +kernel
theorem d_T_keep_116 : decode prog_1_method_28_code 116 = .ok (.invokevirtual 224, 3) := by decide +kernel
theorem d_T_keep_119 : decode prog_1_method_28_code 119 = .ok (.invokespecial 227, 3) := by decide +kernel
theorem d_T_keep_122 : decode prog_1_method_28_code 122 = .ok (.invokevirtual 230, 3) := by decide +kernel
theorem d_T_keep_125 : decode prog_1_method_28_code 125 = .ok (.pop, 1) := by decide +kernel
theorem d_T_keep_126 : decode prog_1_method_28_code 126 = .ok (.aload_n 0, 1) := by decide +kernel
theorem d_T_keep_127 : decode prog_1_method_28_code 127 = .ok (.getfield 24, 3) := by decide +kernel
theorem d_T_keep_130 : decode prog_1_method_28_code 130 = .ok (.invokevirtual 195, 3) := by decide +kernel
theorem d_T_keep_133 : decode prog_1_method_28_code 133 = .ok (.iconst 1, 1) := by decide +kernel
theorem d_T_keep_134 : decode prog_1_method_28_code 134 = .ok (.isub, 1) := by decide +kernel
theorem d_T_keep_135 : decode prog_1_method_28_code 135 = .ok (.ireturn, 1) := by decide +kernel

section CLS
variable {σ τ : SS} {ca na ta : Nat → Nat} {E : Ev} {M : mp_M}
theorem pK1_fresh {ra rt : Nat → Nat} {ea cap a : Nat} {mcn : Int32} {e : va_E} (h : pK1 E σ ca M ra rt ea cap mcn) (ha : M a = none) : pK1 E σ ca (mp_up M a e) ra rt ea cap mcn := by
  obtain ⟨h1, h2, h3, h4, h5, h6⟩ := h
  refine ⟨(mp_up_n (ne_of h1 ha)).trans h1, ?_, h3, h4, h5, fun k hk => ⟨(mp_up_n (ne_of (h6 k hk).1 ha)).trans (h6 k hk).1, (mp_up_n (ne_of (h6 k hk).2 ha)).trans (h6 k hk).2⟩⟩
  rcases h2 with h2 | ⟨h2, h7⟩
  · exact Or.inl h2
  · exact Or.inr ⟨(mp_up_n (ne_of h2 ha)).trans h2, h7⟩
theorem ieI_1 {S e : Nat} (hS : S < 2 ^ 31) (h : ieI S e = -1) : ¬ e < S := fun z => by
  unfold ieI at h
  rw [if_pos z] at h
  exact nI_nm1 (by omega) h
theorem ieI_2 {S e : Nat} (h : ¬ ieI S e = -1) : e < S ∧ ieI S e = shI (e + 1) := by
  unfold ieI at h ⊢
  by_cases z : e < S
  · rw [if_pos z, shI_s (by omega)]
    exact ⟨z, by congr 1⟩
  · rw [if_neg z] at h
    exact absurd rfl h
theorem shI_m1 {x : Nat} (h : ¬ shI x = -1) : 0 < x := by
  rcases Nat.eq_zero_or_pos x with z | z
  · exact absurd (by rw [z]; rfl) h
  · exact z
theorem shI_m2 {x : Nat} (hx : x < 2 ^ 31) (h : shI x = -1) : x = 0 := by
  rcases Nat.eq_zero_or_pos x with z | z
  · exact z
  · rw [shI_s z] at h
    exact absurd h (nI_nm1 (by omega))
theorem bfo_le (hF : NF σ) (hs : σ 16 0 < 512) {n : Nat} : bfo σ n ≤ σ 16 0 := by
  have ho : oldf (sp σ 15 n 0) n ≤ σ 16 0 := by
    unfold oldf
    split
    · rw [sp_at]
      split
      · exact Nat.zero_le _
      · exact (hF.2.2.2 _).2.2.2.2.2.2.1
    · exact Nat.zero_le _
  unfold bfo
  split
  · exact ho
  · exact Nat.zero_le _
theorem cst_0 {n : Nat} (h : stf σ n = st5 (sp σ 15 n 0) n 0 1) : cstK (kp σ n) (σ 16 0) = csf (σ 9 n) (σ 7 n) 0 0 13 0 0 false := by
  obtain ⟨-, -, e17, e18, e19, -, -⟩ := kp_st5 h
  unfold cstK
  rw [e17, e18, e19]
  simp [va_up]
theorem cst_1 {n bv cv : Nat} (h : stf σ n = st5 (sp σ 15 n 0) n bv cv) (hb : 0 < bv) (hbS : bv ≤ σ 16 0) : cstK (kp σ n) (σ 16 0) = csf (σ 9 n) (σ 7 n) (σ 17 (bv - 1)) (σ 18 (bv - 1)) 13 0 0 false := by
  obtain ⟨-, -, e17, e18, e19, -, -⟩ := kp_st5 h
  have va_s : ∀ (g : Nat → Nat) v, va_up g (σ 16 0) v (σ 16 0) = v := fun g v => by simp [va_up]
  have va_o : ∀ (g : Nat → Nat) v k, k ≠ σ 16 0 → va_up g (σ 16 0) v k = g k := fun g v k hk => by simp [va_up, hk]
  unfold cstK
  rw [e17, e18, e19, va_s, va_s, va_s, if_neg (by omega), va_o _ _ _ (by omega), va_o _ _ _ (by omega)]
theorem rep_pic {n bv cv ea cap q : Nat} {mcn b c k : Int32} {ra rt : Nat → Nat} {M1 M' : mp_M} (hP : PIC E σ ca na ta M) (hS : SF σ) (h0 : 0 < n) (hn : n ≤ σ 4 0) (hK : pK1 E σ ca M ra rt ea cap mcn) (hq : M q = none) (hM1 : M1 = mp_up M q (.inr (5, [.ref (ta n), .int b, .int c, .int k]))) (hcell : M1 q = some (.inr (5, [.ref (ta n), .int b, .int c, .int k]))) (hAD : AD E M1 (ca 3) ea cap (σ 16 0) ra q M') (hst : stf σ n = st5 (sp σ 15 n 0) n bv cv) (hbv : bv ≤ σ 16 0) (hk : k = nI (cstK (kp σ n) (σ 16 0))) (hb : b = nI bv - nI 1) (hc : c = nI cv) : PIC E (kp σ n) ca na ta M' := by
  obtain ⟨ea', cap', mcn', m1, m2, c1, c2, c3, m3, m4⟩ := hAD
  obtain ⟨e0, e16, e17, e18, e19, e20, -⟩ := kp_st5 hst
  have hqa : q ≠ ca 3 := fun z => by
    have := hK.1
    rw [← z, hq] at this
    cases this
  have hqe : ¬ (q = ea ∧ 10 ≤ cap) := fun z => by
    rcases hK.2.1 with y | y
    · omega
    · have := y.1
      rw [← z.1, hq] at this
      cases this
  refine pic_rep hP hS h0 hn hK e0 e16 e17 e18 e19 e20 hbv hq ?_ m1 m2 c1 c2 c3 ?_ (fun x e hx n1 n2 => m4 x e (by rw [hM1, mp_up_n (ne_of hx hq)]; exact hx) n1 n2)
  · rw [← hk, ← hb, ← hc]
    exact m4 q _ hcell hqa hqe
  · rcases m3 with z | z
    · exact Or.inl z
    · refine Or.inr ?_
      rw [hM1] at z
      by_cases y : ea' = q
      · rw [y, mp_up_s] at z
        cases z
      · rw [mp_up_n y] at z
        exact ⟨z, y⟩
end CLS
set_option maxHeartbeats 1000000 in
set_option maxRecDepth 100000 in
theorem c_T_keep {l : Launch} {E : Ev} {M : mp_M} {sz : Nat} {σ : SS} {ca na ta : Nat → Nat} (hP : PIC E σ ca na ta M) (hF : NF σ) (hS : SF σ) (hs : σ 16 0 < 512) {n : Nat} (h0 : 0 < n) (hn : n ≤ σ 4 0) (hc16 : σ 11 n ≤ 16) : MCi l E y_T_keep prog_1_method_28_code 5 (some .int) 7 191 2 804 [.ref (ca 0), .ref (na n)] M sz (fun r M' => r = shI (stf σ n 15 n) ∧ PIC E (kp σ n) ca na ta M') := by
  refine mc_of R_T rfl [some (.ref (ca 0)), some (.ref (na n)), none, none, none] (by decide) (Nat.le_of_ble_eq_true rfl) rfl ?_
  intro p e R s m ag below meth c ls Q A X hAe hQ hR hsz hw hl
  rw [← hAe] at hQ
  obtain ⟨⟨hx, hb, hml, hown, hts⟩, hE, hA, hr, hlk, hnm⟩ := X
  have hK := hE.1
  obtain ⟨ra, rt, ea, cap, mcn, hK9⟩ := hP.2.2.2.2.1
  have hX := (hF.2.2.2 n).2.2.2.1
  have hz := (hF.2.2.2 n).2.2.1
  have hk6 := hK9.2.2.2.2.2
  first | refine x_aload_n hx hb d_T_keep_0 hl rfl ?_ | refine x_aload_nQ hx hb d_T_keep_0 hl rfl ?_
  refine m_get hx hb hts hown hK hw ci_N (pic_n hP h0 hn) 2 (by decide) (wm1 117 rfl rfl) rfl d_T_keep_1 ?_
  refine m_get hx hb hts hown hK hw ci_Te (pic_tx hP h0 hn) 1 (by decide) (wm1 66 rfl rfl) rfl d_T_keep_4 ?_
  refine x_if_ne hx hb d_T_keep_7 rfl (by omega) (fun h7 => ?_) (fun h7 => ?_)
  · first | refine x_aload_n hx hb d_T_keep_12 hl rfl ?_ | refine x_aload_nQ hx hb d_T_keep_12 hl rfl ?_
    first | refine x_aload_n hx hb d_T_keep_13 hl rfl ?_ | refine x_aload_nQ hx hb d_T_keep_13 hl rfl ?_
    refine m_get hx hb hts hown hK hw ci_N (pic_n hP h0 hn) 2 (by decide) (wm1 117 rfl rfl) rfl d_T_keep_14 ?_
    refine m_calli (k_V ⟨hx, hb, hml, hown, hts⟩ hE hA hw (c_T_idx hP hK9 hS (pic_tx hP h0 hn) hX hz) (ci_T).1 rfl (pic_o hP) (wm2 106 rfl rfl) (wm2 108 rfl rfl) (wmp1 9 rfl) (wm1 1 rfl rfl) (wm2 109 rfl rfl) rfl rfl ar_T_indexOfText ⟨Nat.le_trans (Nat.le_of_ble_eq_true rfl) hR.1, Nat.le_trans (Nat.le_of_ble_eq_true rfl) hR.2.1⟩ rfl hl.1 rfl (Nat.le_of_ble_eq_true rfl) d_T_keep_17 ⟨Nat.le_trans (Nat.le_of_ble_eq_true rfl) hR.2.2.1, Nat.le_trans (Nat.le_of_ble_eq_true rfl) hR.2.2.2⟩) hw (mfr_in hw hA) (fun r17 M17 H locs hP17 hw => ?_)
    obtain ⟨rfl, hM17⟩ := hP17
    rw [hM17] at hw
    refine x_istore_n hx hb d_T_keep_20 hl (Nat.le_of_ble_eq_true rfl) (lh_k (i := 1) rfl (by first | exact lk_n | exact lk_i | exact lk_r | exact lk_q | exact lk_0)) (fun ls hl => ?_)
    refine x_iload_n hx hb d_T_keep_21 hl rfl ?_
    refine lv_iconst (v := -1) hx hb d_T_keep_22 (by decide) ?_
    refine lv_icmp_eq hx hb d_T_keep_23 rfl (fun h23 => ?_) (fun h23 => ?_)
    · have h23 := ieI_1 (by omega) h23
      first | refine x_aload_n hx hb d_T_keep_28 hl rfl ?_ | refine x_aload_nQ hx hb d_T_keep_28 hl rfl ?_
      first | refine x_aload_n hx hb d_T_keep_29 hl rfl ?_ | refine x_aload_nQ hx hb d_T_keep_29 hl rfl ?_
      refine m_calli (k_V ⟨hx, hb, hml, hown, hts⟩ hE hA hw (c_T_base hP hK9 hS hF h0 hn hc16) (ci_T).1 rfl (pic_o hP) (wm2 133 rfl rfl) (wm2 135 rfl rfl) (wmp1 10 rfl) (wm1 1 rfl rfl) (wm2 136 rfl rfl) rfl rfl ar_T_baseFor ⟨Nat.le_trans (Nat.le_of_ble_eq_true rfl) hR.1, Nat.le_trans (Nat.le_of_ble_eq_true rfl) hR.2.1⟩ rfl hl.1 rfl (Nat.le_of_ble_eq_true rfl) d_T_keep_30 ⟨Nat.le_trans (Nat.le_of_ble_eq_true rfl) hR.2.2.1, Nat.le_trans (Nat.le_of_ble_eq_true rfl) hR.2.2.2⟩) hw (mfr_in hw hA) (fun r30 M30 H locs hP30 hw => ?_)
      obtain ⟨rfl, hM30⟩ := hP30
      rw [hM30] at hw
      refine x_istore_n hx hb d_T_keep_33 hl (Nat.le_of_ble_eq_true rfl) (lh_k (i := 2) rfl (by first | exact lk_n | exact lk_i | exact lk_r | exact lk_q | exact lk_0)) (fun ls hl => ?_)
      refine x_iload_n hx hb d_T_keep_34 hl rfl ?_
      refine lv_iconst (v := -1) hx hb d_T_keep_35 (by decide) ?_
      refine lv_icmp_ne hx hb d_T_keep_36 rfl (fun h36 => ?_) (fun h36 => ?_)
      · have hb1 := shI_m1 h36
        have hbS := bfo_le hF hs (n := n)
        rw [shI_s hb1] at hl
        first | refine x_aload_n hx hb d_T_keep_74 hl rfl ?_ | refine x_aload_nQ hx hb d_T_keep_74 hl rfl ?_
        refine m_get hx hb hts hown hK hw ci_T (pic_o hP) 2 (by decide) (wm1 162 rfl rfl) rfl d_T_keep_75 ?_
        refine x_iload_n hx hb d_T_keep_78 hl rfl ?_
        refine m_callq (k_V ⟨hx, hb, hml, hown, hts⟩ hE hA hw (c_AL_get hK9.1 (hK9.2.1.resolve_left (by omega)).1 (i := bfo σ n - 1) (by omega) hK9.2.2.1 (by have := hK9.2.2.2.1; omega)) (ci_AL).1 rfl hK9.1 (wm2 114 rfl rfl) (wm2 115 rfl rfl) (wm2 116 rfl rfl) (wm1 4 rfl rfl) (wm2 117 rfl rfl) rfl rfl ar_AL_get ⟨Nat.le_trans (Nat.le_of_ble_eq_true rfl) hR.1, Nat.le_trans (Nat.le_of_ble_eq_true rfl) hR.2.1⟩ rfl hl.1 rfl (Nat.le_of_ble_eq_true rfl) d_T_keep_79 ⟨Nat.le_trans (Nat.le_of_ble_eq_true rfl) hR.2.2.1, Nat.le_trans (Nat.le_of_ble_eq_true rfl) hR.2.2.2⟩) hw (mfr_in hw hA) (fun r79 M79 H locs hP79 hw => ?_)
        obtain ⟨rfl, hM79⟩ := hP79
        rw [hM79] at hw
        rw [if_pos (show bfo σ n - 1 < σ 16 0 by omega)]
        refine va_castY hx hb hown (hts _ (wm2 128 rfl rfl)) hE.2.1.2.2.1.1 (m_recv hK hw (ci_Rp).1 (hk6 (bfo σ n - 1) (by omega)).1) d_T_keep_82 ?_
        first | refine x_astore hx hb d_T_keep_85 hl (Nat.le_of_ble_eq_true rfl) (lh_k (i := 3) rfl (by first | exact lk_n | exact lk_i | exact lk_r | exact lk_q | exact lk_0)) (fun ls hl => ?_) | refine x_astoreQ hx hb d_T_keep_85 hl (Nat.le_of_ble_eq_true rfl) (lh_k (i := 3) rfl (by first | exact lk_n | exact lk_i | exact lk_r | exact lk_q | exact lk_0)) (fun ls hl => ?_)
        first | refine x_aload_n hx hb d_T_keep_87 hl rfl ?_ | refine x_aload_nQ hx hb d_T_keep_87 hl rfl ?_
        refine m_get hx hb hts hown hK hw ci_T (pic_o hP) 2 (by decide) (wm1 162 rfl rfl) rfl d_T_keep_88 ?_
        refine m_new (fs := [.null, .int 0, .int 0, .int 0]) hx hb hts hown hK hw hA ci_Rp (wm2 128 rfl rfl) (wm2 144 rfl rfl) (wm1 15 rfl rfl) (fun j hj => by rcases (show j = 0 ∨ j = 1 ∨ j = 2 ∨ j = 3 by omega) with rfl | rfl | rfl | rfl <;> rfl) (Nat.le_trans (Nat.le_of_ble_eq_true rfl) hR.2.2.1) (Nat.le_trans (Nat.le_of_ble_eq_true rfl) hR.2.2.2) d_T_keep_91 (fun q1 H hq91 hw => ?_)
        have he_q1 := put_he hw
        have hP1 := pic_fresh (e := .inr (5, [.null, .int 0, .int 0, .int 0])) hP hq91
        have hK1 := pK1_fresh (e := .inr (5, [.null, .int 0, .int 0, .int 0])) hK9 hq91
        first | refine lv_dup hx hb d_T_keep_94 rfl ?_ | refine lv_dup hx hb d_T_keep_94 (va_rf_c _) ?_
        first | refine x_aload_n hx hb d_T_keep_95 hl rfl ?_ | refine x_aload_nQ hx hb d_T_keep_95 hl rfl ?_
        refine m_get hx hb hts hown hK hw ci_N (pic_n hP1 h0 hn) 2 (by decide) (wm1 117 rfl rfl) rfl d_T_keep_96 ?_
        refine x_iload_n hx hb d_T_keep_99 hl rfl ?_
        first | refine x_aload hx hb d_T_keep_100 hl rfl ?_ | refine x_aloadQ hx hb d_T_keep_100 hl rfl ?_
        refine m_get hx hb hts hown hK hw ci_Rp (hK1.2.2.2.2.2 (bfo σ n - 1) (by omega)).1 2 (by decide) (wm2 172 rfl rfl) rfl d_T_keep_102 ?_
        refine lv_iconst (v := nI 1) hx hb d_T_keep_105 (by decide) ?_
        first | refine x_iadd hx hb d_T_keep_106 ?_ | refine lv_iadd hx hb d_T_keep_106 ?_
        first | refine x_aload_n hx hb d_T_keep_107 hl rfl ?_ | refine x_aload_nQ hx hb d_T_keep_107 hl rfl ?_
        refine m_get hx hb hts hown hK hw ci_N (pic_n hP1 h0 hn) 2 (by decide) (wm1 117 rfl rfl) rfl d_T_keep_108 ?_
        first | refine x_aload hx hb d_T_keep_111 hl rfl ?_ | refine x_aloadQ hx hb d_T_keep_111 hl rfl ?_
        refine m_get hx hb hts hown hK hw ci_Rp (hK1.2.2.2.2.2 (bfo σ n - 1) (by omega)).1 0 (by decide) (wm2 168 rfl rfl) rfl d_T_keep_113 ?_
        refine m_calli (k_V ⟨hx, hb, hml, hown, hts⟩ hE hA hw (c_Te_cost (pic_tx hP1 h0 hn) (hK1.2.2.2.2.2 (bfo σ n - 1) (by omega)).2 hX (by have := hS.2 (bfo σ n - 1); omega) (by omega) (by have := hS.2 (bfo σ n - 1); omega)) (ci_Te).1 rfl (pic_tx hP1 h0 hn) (wm2 145 rfl rfl) (wm2 146 rfl rfl) (wm2 147 rfl rfl) (wm1 5 rfl rfl) (wm2 148 rfl rfl) rfl rfl ar_Te_costFrom ⟨Nat.le_trans (Nat.le_of_ble_eq_true rfl) hR.1, Nat.le_trans (Nat.le_of_ble_eq_true rfl) hR.2.1⟩ rfl hl.1 rfl (Nat.le_of_ble_eq_true rfl) d_T_keep_116 ⟨Nat.le_trans (Nat.le_of_ble_eq_true rfl) hR.2.2.1, Nat.le_trans (Nat.le_of_ble_eq_true rfl) hR.2.2.2⟩) hw (mfr_in hw hA) (fun r116 M116 H locs hP116 hw => ?_)
        obtain ⟨rfl, hM116⟩ := hP116
        rw [hM116] at hw
        refine m_callv (k_I ⟨hx, hb, hml, hown, hts⟩ hE hA hw (c_Rp_init he_q1) (wm2 163 rfl rfl) (wm2 164 rfl rfl) (wm1 15 rfl rfl) (wm2 165 rfl rfl) rfl rfl rfl ar_Rp_init ⟨Nat.le_trans (Nat.le_of_ble_eq_true rfl) hR.1, Nat.le_trans (Nat.le_of_ble_eq_true rfl) hR.2.1⟩ rfl hl.1 rfl (Nat.le_of_ble_eq_true rfl) d_T_keep_119 ⟨Nat.le_trans (Nat.le_of_ble_eq_true rfl) hR.2.2.1, Nat.le_trans (Nat.le_of_ble_eq_true rfl) hR.2.2.2⟩) hw (mfr_in hw hA) (fun M119 H locs hP119 hw => ?_)
        have hst : stf σ n = st5 (sp σ 15 n 0) n (bfo σ n) (σ 20 (bfo σ n - 1) + 1) := by
          rw [stf_3 h7 h23, if_neg (by omega)]
        rw [mp_up_up] at hP119
        have hP2 := pic_fresh (e := .inr (5, [.ref (ta n), .int (nI (bfo σ n - 1)), .int (nI (σ 20 (bfo σ n - 1) + 1)), .int (nI (csf (σ 9 n) (σ 7 n) (σ 17 (bfo σ n - 1)) (σ 18 (bfo σ n - 1)) 13 0 0 false))])) hP hq91
        have hK2 := pK1_fresh (e := .inr (5, [.ref (ta n), .int (nI (bfo σ n - 1)), .int (nI (σ 20 (bfo σ n - 1) + 1)), .int (nI (csf (σ 9 n) (σ 7 n) (σ 17 (bfo σ n - 1)) (σ 18 (bfo σ n - 1)) 13 0 0 false))])) hK9 hq91
        rw [← hP119] at hP2 hK2
        have hcell : M119 q1 = some (.inr (5, [.ref (ta n), .int (nI (bfo σ n - 1)), .int (nI (σ 20 (bfo σ n - 1) + 1)), .int (nI (csf (σ 9 n) (σ 7 n) (σ 17 (bfo σ n - 1)) (σ 18 (bfo σ n - 1)) 13 0 0 false))])) := by rw [hP119]; exact mp_up_s
        refine m_calli (k_V ⟨hx, hb, hml, hown, hts⟩ hE hA hw (c_AL_add hK2.1 hcell hK2.2.1 hK2.2.2.1 hK2.2.2.2.1 hs (fun i hi => ⟨_, (hK2.2.2.2.2.2 i hi).1⟩)) (ci_AL).1 rfl hK2.1 (wm2 184 rfl rfl) (wm2 185 rfl rfl) (wm2 186 rfl rfl) (wm1 4 rfl rfl) (wm2 187 rfl rfl) rfl rfl ar_AL_add ⟨Nat.le_trans (Nat.le_of_ble_eq_true rfl) hR.1, Nat.le_trans (Nat.le_of_ble_eq_true rfl) hR.2.1⟩ rfl hl.1 rfl (Nat.le_of_ble_eq_true rfl) d_T_keep_122 ⟨Nat.le_trans (Nat.le_of_ble_eq_true rfl) hR.2.2.1, Nat.le_trans (Nat.le_of_ble_eq_true rfl) hR.2.2.2⟩) hw (mfr_in hw hA) (fun r122 M122 H locs hP122 hw => ?_)
        obtain ⟨rfl, hAD⟩ := hP122
        have hP3 := rep_pic hP hS h0 hn hK9 hq91 hP119 hcell hAD hst (by first | exact Nat.zero_le _ | exact hbS) (by rw [cst_1 hst hb1 hbS]) (pk_sub hb1).symm rfl
        first | refine lv_pop hx hb d_T_keep_125 rfl ?_ | refine lv_pop hx hb d_T_keep_125 (va_rf_c _) ?_
        obtain ⟨ra3, rt3, ea3, cap3, mcn3, hK3⟩ := hP3.2.2.2.2.1
        first | refine x_aload_n hx hb d_T_keep_126 hl rfl ?_ | refine x_aload_nQ hx hb d_T_keep_126 hl rfl ?_
        refine m_get hx hb hts hown hK hw ci_T (pic_o hP3) 2 (by decide) (wm1 162 rfl rfl) rfl d_T_keep_127 ?_
        refine m_calli (k_V ⟨hx, hb, hml, hown, hts⟩ hE hA hw (c_AL_size hK3.1) (ci_AL).1 rfl hK3.1 (wm2 110 rfl rfl) (wm2 111 rfl rfl) (wm2 112 rfl rfl) (wm1 4 rfl rfl) (wm2 113 rfl rfl) rfl rfl ar_AL_size ⟨Nat.le_trans (Nat.le_of_ble_eq_true rfl) hR.1, Nat.le_trans (Nat.le_of_ble_eq_true rfl) hR.2.1⟩ rfl hl.1 rfl (Nat.le_of_ble_eq_true rfl) d_T_keep_130 ⟨Nat.le_trans (Nat.le_of_ble_eq_true rfl) hR.2.2.1, Nat.le_trans (Nat.le_of_ble_eq_true rfl) hR.2.2.2⟩) hw (mfr_in hw hA) (fun r130 M130 H locs hP130 hw => ?_)
        obtain ⟨rfl, hM130⟩ := hP130
        rw [hM130] at hw
        rw [(kp_st5 hst).2.1]
        refine lv_iconst (v := nI 1) hx hb d_T_keep_133 (by decide) ?_
        refine x_isub hx hb d_T_keep_134 (by omega) ?_
        exact x_reti hQ hx hb hr hlk rfl hw (by omega) (by omega) d_T_keep_135 (⟨by rw [(kp_st5 hst).2.2.2.2.2.2, shI_s (by omega)], hP3⟩)
      · have hb0 := shI_m2 (by have := bfo_le hF hs (n := n); omega) h36
        first | refine x_aload_n hx hb d_T_keep_39 hl rfl ?_ | refine x_aload_nQ hx hb d_T_keep_39 hl rfl ?_
        refine m_get hx hb hts hown hK hw ci_T (pic_o hP) 2 (by decide) (wm1 162 rfl rfl) rfl d_T_keep_40 ?_
        refine m_new (fs := [.null, .int 0, .int 0, .int 0]) hx hb hts hown hK hw hA ci_Rp (wm2 128 rfl rfl) (wm2 144 rfl rfl) (wm1 15 rfl rfl) (fun j hj => by rcases (show j = 0 ∨ j = 1 ∨ j = 2 ∨ j = 3 by omega) with rfl | rfl | rfl | rfl <;> rfl) (Nat.le_trans (Nat.le_of_ble_eq_true rfl) hR.2.2.1) (Nat.le_trans (Nat.le_of_ble_eq_true rfl) hR.2.2.2) d_T_keep_43 (fun q1 H hq43 hw => ?_)
        have he_q1 := put_he hw
        have hP1 := pic_fresh (e := .inr (5, [.null, .int 0, .int 0, .int 0])) hP hq43
        have hK1 := pK1_fresh (e := .inr (5, [.null, .int 0, .int 0, .int 0])) hK9 hq43
        first | refine lv_dup hx hb d_T_keep_46 rfl ?_ | refine lv_dup hx hb d_T_keep_46 (va_rf_c _) ?_
        first | refine x_aload_n hx hb d_T_keep_47 hl rfl ?_ | refine x_aload_nQ hx hb d_T_keep_47 hl rfl ?_
        refine m_get hx hb hts hown hK hw ci_N (pic_n hP1 h0 hn) 2 (by decide) (wm1 117 rfl rfl) rfl d_T_keep_48 ?_
        refine lv_iconst (v := -1) hx hb d_T_keep_51 (by decide) ?_
        refine lv_iconst (v := nI 1) hx hb d_T_keep_52 (by decide) ?_
        first | refine x_aload_n hx hb d_T_keep_53 hl rfl ?_ | refine x_aload_nQ hx hb d_T_keep_53 hl rfl ?_
        refine m_get hx hb hts hown hK hw ci_N (pic_n hP1 h0 hn) 2 (by decide) (wm1 117 rfl rfl) rfl d_T_keep_54 ?_
        first | refine x_aload_n hx hb d_T_keep_57 hl rfl ?_ | refine x_aload_nQ hx hb d_T_keep_57 hl rfl ?_
        refine m_get hx hb hts hown hK hw ci_T (pic_o hP1) 3 (by decide) (wm1 163 rfl rfl) rfl d_T_keep_58 ?_
        refine m_calli (k_V ⟨hx, hb, hml, hown, hts⟩ hE hA hw (c_Te_cost (pic_tx hP1 h0 hn) (pic_e hP1) hX (by decide) (by omega) (by decide)) (ci_Te).1 rfl (pic_tx hP1 h0 hn) (wm2 145 rfl rfl) (wm2 146 rfl rfl) (wm2 147 rfl rfl) (wm1 5 rfl rfl) (wm2 148 rfl rfl) rfl rfl ar_Te_costFrom ⟨Nat.le_trans (Nat.le_of_ble_eq_true rfl) hR.1, Nat.le_trans (Nat.le_of_ble_eq_true rfl) hR.2.1⟩ rfl hl.1 rfl (Nat.le_of_ble_eq_true rfl) d_T_keep_61 ⟨Nat.le_trans (Nat.le_of_ble_eq_true rfl) hR.2.2.1, Nat.le_trans (Nat.le_of_ble_eq_true rfl) hR.2.2.2⟩) hw (mfr_in hw hA) (fun r61 M61 H locs hP61 hw => ?_)
        obtain ⟨rfl, hM61⟩ := hP61
        rw [hM61] at hw
        refine m_callv (k_I ⟨hx, hb, hml, hown, hts⟩ hE hA hw (c_Rp_init he_q1) (wm2 163 rfl rfl) (wm2 164 rfl rfl) (wm1 15 rfl rfl) (wm2 165 rfl rfl) rfl rfl rfl ar_Rp_init ⟨Nat.le_trans (Nat.le_of_ble_eq_true rfl) hR.1, Nat.le_trans (Nat.le_of_ble_eq_true rfl) hR.2.1⟩ rfl hl.1 rfl (Nat.le_of_ble_eq_true rfl) d_T_keep_64 ⟨Nat.le_trans (Nat.le_of_ble_eq_true rfl) hR.2.2.1, Nat.le_trans (Nat.le_of_ble_eq_true rfl) hR.2.2.2⟩) hw (mfr_in hw hA) (fun M64 H locs hP64 hw => ?_)
        have hst : stf σ n = st5 (sp σ 15 n 0) n 0 1 := by
          rw [stf_3 h7 h23, hb0]
          rfl
        rw [mp_up_up] at hP64
        have hP2 := pic_fresh (e := .inr (5, [.ref (ta n), .int (-1), .int (nI 1), .int (nI (csf (σ 9 n) (σ 7 n) 0 0 13 0 0 false))])) hP hq43
        have hK2 := pK1_fresh (e := .inr (5, [.ref (ta n), .int (-1), .int (nI 1), .int (nI (csf (σ 9 n) (σ 7 n) 0 0 13 0 0 false))])) hK9 hq43
        rw [← hP64] at hP2 hK2
        have hcell : M64 q1 = some (.inr (5, [.ref (ta n), .int (-1), .int (nI 1), .int (nI (csf (σ 9 n) (σ 7 n) 0 0 13 0 0 false))])) := by rw [hP64]; exact mp_up_s
        refine m_calli (k_V ⟨hx, hb, hml, hown, hts⟩ hE hA hw (c_AL_add hK2.1 hcell hK2.2.1 hK2.2.2.1 hK2.2.2.2.1 hs (fun i hi => ⟨_, (hK2.2.2.2.2.2 i hi).1⟩)) (ci_AL).1 rfl hK2.1 (wm2 184 rfl rfl) (wm2 185 rfl rfl) (wm2 186 rfl rfl) (wm1 4 rfl rfl) (wm2 187 rfl rfl) rfl rfl ar_AL_add ⟨Nat.le_trans (Nat.le_of_ble_eq_true rfl) hR.1, Nat.le_trans (Nat.le_of_ble_eq_true rfl) hR.2.1⟩ rfl hl.1 rfl (Nat.le_of_ble_eq_true rfl) d_T_keep_67 ⟨Nat.le_trans (Nat.le_of_ble_eq_true rfl) hR.2.2.1, Nat.le_trans (Nat.le_of_ble_eq_true rfl) hR.2.2.2⟩) hw (mfr_in hw hA) (fun r67 M67 H locs hP67 hw => ?_)
        obtain ⟨rfl, hAD⟩ := hP67
        have hP3 := rep_pic hP hS h0 hn hK9 hq43 hP64 hcell hAD hst (by first | exact Nat.zero_le _ | exact hbS) (by rw [cst_0 hst]) (by decide) rfl
        first | refine lv_pop hx hb d_T_keep_70 rfl ?_ | refine lv_pop hx hb d_T_keep_70 (va_rf_c _) ?_
        refine lv_goto hx hb d_T_keep_71 rfl ?_
        obtain ⟨ra3, rt3, ea3, cap3, mcn3, hK3⟩ := hP3.2.2.2.2.1
        first | refine x_aload_n hx hb d_T_keep_126 hl rfl ?_ | refine x_aload_nQ hx hb d_T_keep_126 hl rfl ?_
        refine m_get hx hb hts hown hK hw ci_T (pic_o hP3) 2 (by decide) (wm1 162 rfl rfl) rfl d_T_keep_127 ?_
        refine m_calli (k_V ⟨hx, hb, hml, hown, hts⟩ hE hA hw (c_AL_size hK3.1) (ci_AL).1 rfl hK3.1 (wm2 110 rfl rfl) (wm2 111 rfl rfl) (wm2 112 rfl rfl) (wm1 4 rfl rfl) (wm2 113 rfl rfl) rfl rfl ar_AL_size ⟨Nat.le_trans (Nat.le_of_ble_eq_true rfl) hR.1, Nat.le_trans (Nat.le_of_ble_eq_true rfl) hR.2.1⟩ rfl hl.1 rfl (Nat.le_of_ble_eq_true rfl) d_T_keep_130 ⟨Nat.le_trans (Nat.le_of_ble_eq_true rfl) hR.2.2.1, Nat.le_trans (Nat.le_of_ble_eq_true rfl) hR.2.2.2⟩) hw (mfr_in hw hA) (fun r130 M130 H locs hP130 hw => ?_)
        obtain ⟨rfl, hM130⟩ := hP130
        rw [hM130] at hw
        rw [(kp_st5 hst).2.1]
        refine lv_iconst (v := nI 1) hx hb d_T_keep_133 (by decide) ?_
        refine x_isub hx hb d_T_keep_134 (by omega) ?_
        exact x_reti hQ hx hb hr hlk rfl hw (by omega) (by omega) d_T_keep_135 (⟨by rw [(kp_st5 hst).2.2.2.2.2.2, shI_s (by omega)], hP3⟩)
    · have h23 := ieI_2 h23
      refine x_iload_n hx hb d_T_keep_26 hl rfl ?_
      exact x_reti hQ hx hb hr hlk rfl hw (by omega) (by omega) d_T_keep_27 (⟨by rw [stf_1 h7 h23.1, sp_s]; exact h23.2, by rw [kp_same (fun f hf => by rw [stf_1 h7 h23.1, sp_o hf, sp_o hf])]; exact hP⟩)
  · refine lv_iconst (v := -1) hx hb d_T_keep_10 (by decide) ?_
    exact x_reti hQ hx hb hr hlk rfl hw (by omega) (by omega) d_T_keep_11 (⟨by rw [stf_0 h7, sp_s]; rfl, by rw [kp_same (fun f hf => by rw [stf_0 h7, sp_o hf])]; exact hP⟩)
