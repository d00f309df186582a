theorem d_T_settle_0 : decode prog_1_method_27_code 0 = .ok (.iconst 0, 1) := by decide +kernel
theorem d_T_settle_1 : decode prog_1_method_27_code 1 = .ok (.istore_n 2, 1) := by decide +kernel
theorem d_T_settle_2 : decode prog_1_method_27_code 2 = .ok (.iload_n 2, 1) := by decide +kernel
theorem d_T_settle_3 : decode prog_1_method_27_code 3 = .ok (.bipush 125, 2) := by decide +kernel
theorem d_T_settle_5 : decode prog_1_method_27_code 5 = .ok (.if_icmp .ge 51, 3) := by decide +kernel
theorem d_T_settle_8 : decode prog_1_method_27_code 8 = .ok (.aload_n 1, 1) := by decide +kernel
theorem d_T_settle_9 : decode prog_1_method_27_code 9 = .ok (.iload_n 2, 1) := by decide +kernel
theorem d_T_settle_10 : decode prog_1_method_27_code 10 = .ok (.invokevirtual 88, 3) := by decide +kernel
theorem d_T_settle_13 : decode prog_1_method_27_code 13 = .ok (.astore_n 3, 1) := by decide +kernel
theorem d_T_settle_14 : decode prog_1_method_27_code 14 = .ok (.aload_n 3, 1) := by decide +kernel
theorem d_T_settle_15 : decode prog_1_method_27_code 15 = .ok (.ifnull 35, 3) := by decide +kernel
theorem d_T_settle_18 : decode prog_1_method_27_code 18 = .ok (.aload_n 3, 1) := by decide +kernel
theorem d_T_settle_19 : decode prog_1_method_27_code 19 = .ok (.getfield 51, 3) := by decide +kernel
theorem d_T_settle_22 : decode prog_1_method_27_code 22 = .ok (.iconst (-1), 1) := by decide +kernel
theorem d_T_settle_23 : decode prog_1_method_27_code 23 = .ok (.if_icmp .ne 27, 3) := by decide +kernel
theorem d_T_settle_26 : decode prog_1_method_27_code 26 = .ok (.aload_n 3, 1) := by decide +kernel
theorem d_T_settle_27 : decode prog_1_method_27_code 27 = .ok (.aload_n 0, 1) := by decide +kernel
theorem d_T_settle_28 : decode prog_1_method_27_code 28 = .ok (.getfield 37, 3) := by decide +kernel
theorem d_T_settle_31 : decode prog_1_method_27_code 31 = .ok (.putfield 51, 3) := by decide +kernel
theorem d_T_settle_34 : decode prog_1_method_27_code 34 = .ok (.aload_n 3, 1) := by decide +kernel
theorem d_T_settle_35 : decode prog_1_method_27_code 35 = .ok (.getfield 211, 3) := by decide +kernel
theorem d_T_settle_38 : decode prog_1_method_27_code 38 = .ok (.ifCond .eq 12, 3) := by decide +kernel
theorem d_T_settle_41 : decode prog_1_method_27_code 41 = .ok (.aload_n 3, 1) := by decide +kernel
theorem d_T_settle_42 : decode prog_1_method_27_code 42 = .ok (.aload_n 0, 1) := by decide +kernel
theorem d_T_settle_43 : decode prog_1_method_27_code 43 = .ok (.aload_n 3, 1) := by decide +kernel
theorem d_T_settle_44 : decode prog_1_method_27_code 44 = .ok (.invokevirtual 214, 3) := by decide +kernel
theorem d_T_settle_47 : decode prog_1_method_27_code 47 = .ok (.putfield 192, 3) := by decide +kernel
theorem d_T_settle_50 : decode prog_1_method_27_code 50 = .ok (.iinc 2 1, 3) := by decide +kernel
theorem d_T_settle_53 : decode prog_1_method_27_code 53 = .ok (.goto (-51), 3) := by decide +kernel
theorem d_T_settle_56 : decode prog_1_method_27_code 56 = .ok (.return_, 1) := by decide +kernel

section CLT2
variable {κ : SS}
theorem sz_0 {Z p : Nat} (hZ : κ 1 0 = Z) (h : rat κ Z p = 0 ∨ κ 12 (rat κ Z p) < 128) : sl1 κ p = κ := by
  subst hZ
  exact sl_0 h
theorem sz_1 {Z p : Nat} (hZ : κ 1 0 = Z) (h : 0 < rat κ Z p) (h2 : 128 ≤ κ 12 (rat κ Z p)) (h3 : κ 8 (rat κ Z p) = 0) : sl1 κ p = sp κ 12 (rat κ Z p) Z := by
  subst hZ
  exact sl_1 h h2 (Or.inr h3)
theorem sz_2 {Z p : Nat} (hZ : κ 1 0 = Z) (h : 0 < rat κ Z p) (h2 : 128 ≤ κ 12 (rat κ Z p)) (h3 : κ 6 (rat κ Z p) = 2) (h4 : κ 8 (rat κ Z p) ≠ 0) : sl1 κ p = stf (sp κ 12 (rat κ Z p) Z) (rat κ Z p) := by
  subst hZ
  exact sl_2 h h2 h3 h4
theorem sl1_cl {t p : Nat} : sl1 (sp κ 2 t 0) p = sp (sl1 κ p) 2 t 0 := by
  unfold sp
  rw [sl1_2, sl1_row2]
theorem set_n {t Z p : Nat} (hZ : κ 1 0 = Z) (hV : SV (sp κ 2 t 0) t p) (ht : t < 3) (hC : CW (sp κ 2 t 0) ≤ 511) : SV (sp (sl1 κ p) 2 t 0) t (p + 1) ∧ CW (sp (sl1 κ p) 2 t 0) ≤ 511 ∧ sl1 κ p 1 0 = Z := by
  obtain ⟨a1, a2, a3, a4⟩ := sv_sl1 hV ht hC
  have e1 := a3 1 (by decide)
  rw [sl1_cl] at a1 a2 e1
  refine ⟨a1, by omega, ?_⟩
  rw [sp_o (by decide), sp_o (by decide)] at e1
  rw [e1]
  exact hZ
theorem set_1 {t Z p : Nat} (hZ : κ 1 0 = Z) (hV : SV (sp κ 2 t 0) t p) (ht : t < 3) (hC : CW (sp κ 2 t 0) ≤ 511) (h0 : 0 < rat κ Z p) (h23 : 128 ≤ κ 12 (rat κ Z p)) (h38 : κ 8 (rat κ Z p) ≠ 0) : NF (sp κ 12 (rat κ Z p) Z) ∧ SF (sp κ 12 (rat κ Z p) Z) ∧ sp κ 12 (rat κ Z p) Z 16 0 < 512 ∧ sp κ 12 (rat κ Z p) Z 11 (rat κ Z p) ≤ 16 ∧ kp (sp κ 12 (rat κ Z p) Z) (rat κ Z p) 4 0 = κ 4 0 ∧ sl1 κ p = sp (kp (sp κ 12 (rat κ Z p) Z) (rat κ Z p)) 15 (rat κ Z p) (stf (sp κ 12 (rat κ Z p) Z) (rat κ Z p) 15 (rat κ Z p)) := by
  subst hZ
  have hb : sp κ 2 t 0 12 (rat κ (κ 1 0) p) = 255 - t := by
    rcases hV.2.2.2.2.2.2.2.1 p with z | z
    · exact absurd (show κ 12 (rat κ (κ 1 0) p) < 128 from z) (by omega)
    · exact z.2
  have h1 := sv_12 (n := rat κ (κ 1 0) p) hV ht rfl hb
  have hk2 : κ 6 (rat κ (κ 1 0) p) = 2 := by
    by_cases z : κ 6 (rat κ (κ 1 0) p) = 2
    · exact z
    · exact absurd ((hV.2.2.1.2.2.2 (rat κ (κ 1 0) p)).2.2.2.2.2.2.2 z).2 h38
  have hF : NF (sp κ 12 (rat κ (κ 1 0) p) (κ 1 0)) := h1.2.2.1
  have hS : SF (sp κ 12 (rat κ (κ 1 0) p) (κ 1 0)) := h1.2.2.2.2.1
  have hy : κ 1 0 ≤ 15 := hV.2.1.1
  have h16 : κ 16 0 ≤ 511 := by
    have h : sp κ 2 t 0 16 0 + cw (sp κ 2 t 0) (sp κ 2 t 0 4 0) ≤ 511 := hC
    have e : sp κ 2 t 0 16 0 = κ 16 0 := rfl
    omega
  have hs : sp κ 12 (rat κ (κ 1 0) p) (κ 1 0) 16 0 < 512 := by
    have e : sp κ 12 (rat κ (κ 1 0) p) (κ 1 0) 16 0 = κ 16 0 := rfl
    omega
  have hcn : sp κ 12 (rat κ (κ 1 0) p) (κ 1 0) 11 (rat κ (κ 1 0) p) ≤ 16 := by
    have hb2 := (hF.2.2.2 (rat κ (κ 1 0) p)).1
    rw [sp_s] at hb2
    have := hb2 (by omega)
    omega
  obtain ⟨a1, a2, a3, a4, a5⟩ := stf_all (n := rat κ (κ 1 0) p) hS (fun j => (hF.2.2.2 j).2.2.2.2.2.2.1) (hF.2.2.2 _).2.2.1 (hF.2.2.2 _).2.2.2.1 hs
  refine ⟨hF, hS, hs, hcn, ?_, ?_⟩
  · rw [kp_o (by decide), a1 4 (by decide)]
    rfl
  · rw [sz_2 rfl h0 h23 hk2 h38]
    rcases stf_kp (σ := sp κ 12 (rat κ (κ 1 0) p) (κ 1 0)) (n := rat κ (κ 1 0) p) with z | ⟨j, hj, z⟩
    · exact z
    · exact absurd (a2 j hj) z
end CLT2
set_option maxHeartbeats 1000000 in
set_option maxRecDepth 100000 in
theorem c_T_settle {l : Launch} {E : Ev} {M : mp_M} {sz : Nat} {σ : SS} {ca na ta : Nat → Nat} (hP : PIC E σ ca na ta M) {t Z : Nat} (ht : t < 3) (hZ : σ 1 0 = Z) (hV : SV (sp σ 2 t 0) t 0) (hC : CW (sp σ 2 t 0) ≤ 511) : MCv l E y_T_settle prog_1_method_27_code 4 none 8 215 250 100500 [.ref (ca 0), .ref (ca (Z + 5))] M sz (fun M' => PIC E (slf 125 0 σ) ca na ta M') := by
  refine mc_of R_T rfl [some (.ref (ca 0)), some (.ref (ca (Z + 5))), none, none] (by decide) (Nat.le_of_ble_eq_true rfl) rfl ?_
  intro p e R s m ag below meth c ls Q A X hAe hQ hR hsz hw hl
  rw [← hAe] at hQ
  obtain ⟨⟨hx, hb, hml, hown, hts⟩, hE, hA, hr, hlk, hnm⟩ := X
  have hK := hE.1
  obtain ⟨F, hF⟩ : ∃ F, F = slf 125 0 σ := ⟨_, rfl⟩
  rw [← hF] at hQ
  have loop : ∀ (u p0 : Nat) (κ : SS) (M0 : mp_M) (c0 s0 : Nat) (H : Heap) (locs : List Loc) (ls : Array Slot), p0 + u = 125 → c0 + 2 * u ≤ 250 → s0 + 804 * u ≤ 100500 → SV (sp κ 2 t 0) t p0 → CW (sp κ 2 t 0) ≤ 511 → κ 1 0 = Z → PIC E κ ca na ta M0 → slf u p0 κ = F → mw E.1 vwCl A s.heap M0 H locs → lh ls [some (.ref (ca 0)), some (.ref (ca (Z + 5))), some (.int (nI p0)), none] → W p l e R s m ag below meth c H locs c0 s0 Q (F0 m 2 ls []) := by
    intro u
    induction u with
    | zero =>
      intro p0 κ M0 c0 s0 H locs ls hp hc hs hV hC hZ hP hT hw hl
      have hT : κ = F := hT
      refine x_iload_n hx hb d_T_settle_2 hl rfl ?_
      refine lv_bipush (v := nI 125) hx hb d_T_settle_3 (by decide) ?_
      refine x_icmp_ge hx hb d_T_settle_5 rfl (by omega) (by omega) (fun h5 => ?_) (fun h5 => ?_)
      · exact x_retv hQ hx hb hr hlk hw (by omega) (by omega) d_T_settle_56 (by rw [← hT]; exact hP)
      · exact absurd h5 (by omega)
    | succ u ih =>
      intro p0 κ M0 c0 s0 H locs ls hp hc hs hV hC hZ hP hT hw hl
      have hT : slf u (p0 + 1) (sl1 κ p0) = F := hT
      have hZ15 : Z ≤ 15 := by rw [← hZ]; exact hV.2.1.1
      obtain ⟨v1, v2, v3⟩ := set_n hZ hV ht hC
      refine x_iload_n hx hb d_T_settle_2 hl rfl ?_
      refine lv_bipush (v := nI 125) hx hb d_T_settle_3 (by decide) ?_
      refine x_icmp_ge hx hb d_T_settle_5 rfl (by omega) (by omega) (fun h5 => ?_) (fun h5 => ?_)
      · exact absurd h5 (by omega)
      · first | refine x_aload_n hx hb d_T_settle_8 hl rfl ?_ | refine x_aload_nQ hx hb d_T_settle_8 hl rfl ?_
        refine x_iload_n hx hb d_T_settle_9 hl rfl ?_
        refine m_callq (k_V ⟨hx, hb, hml, hown, hts⟩ hE hA hw (c_Tr_at (pic_t hP (k := Z) (by omega)) (pic_a hP (k := Z) (by omega))) (ci_Tr).1 rfl (pic_t hP (k := Z) (by omega)) (wm2 8 rfl rfl) (wm1 212 rfl rfl) (wm1 213 rfl rfl) (wm1 6 rfl rfl) (wm1 214 rfl rfl) rfl rfl ar_Tr_at ⟨Nat.le_trans (Nat.le_of_ble_eq_true rfl) hR.1, Nat.le_trans (Nat.le_of_ble_eq_true rfl) hR.2.1⟩ rfl hl.1 rfl (Nat.le_of_ble_eq_true rfl) d_T_settle_10 ⟨by omega, by omega⟩) hw (mfr_in hw hA) (fun r10 M10 H locs hP10 hw => ?_)
        obtain ⟨rfl, hM10⟩ := hP10
        rw [hM10] at hw
        rw [tat_row (pic_z hP) (k := Z) (by omega), ix_n (by omega)]
        first | refine x_astore_n hx hb d_T_settle_13 hl (Nat.le_of_ble_eq_true rfl) (lh_k (i := 2) rfl (by first | exact lk_n | exact lk_i | exact lk_r | exact lk_q | exact lk_0)) (fun ls hl => ?_) | refine x_astore_nQ hx hb d_T_settle_13 hl (Nat.le_of_ble_eq_true rfl) (lh_k (i := 2) rfl (by first | exact lk_n | exact lk_i | exact lk_r | exact lk_q | exact lk_0)) (fun ls hl => ?_)
        first | refine x_aload_n hx hb d_T_settle_14 hl rfl ?_ | refine x_aload_nQ hx hb d_T_settle_14 hl rfl ?_
        refine x_ifnullQ hx hb d_T_settle_15 rfl (fun h15 => ?_) (fun a15 h15 => ?_)
        · have h15 := nq_none h15
          have hPn : PIC E (sl1 κ p0) ca na ta M0 := by rw [sz_0 hZ (Or.inl h15)]; exact hP
          refine x_iincN hx hb d_T_settle_50 hl rfl (lh_k (i := 1) rfl (by first | exact lk_n | exact lk_i | exact lk_r | exact lk_q | exact lk_0)) (fun ls hl => ?_)
          refine lv_goto hx hb d_T_settle_53 rfl ?_
          exact ih (p0 + 1) (sl1 κ p0) _ _ _ H locs ls (by omega) (by omega) (by omega) v1 v2 v3 hPn hT hw (lh_drop 3 hl)
        · obtain ⟨h0, rfl⟩ := nq_some h15
          rw [h15] at hl
          have hle := rat_le (pic_z hP) (k := Z) (q := p0)
          first | refine x_aload_n hx hb d_T_settle_18 hl rfl ?_ | refine x_aload_nQ hx hb d_T_settle_18 hl rfl ?_
          refine m_get hx hb hts hown hK hw ci_N (pic_n hP h0 hle) 4 (by decide) (wm1 121 rfl rfl) rfl d_T_settle_19 ?_
          refine lv_iconst (v := -1) hx hb d_T_settle_22 (by decide) ?_
          refine lv_icmp_ne hx hb d_T_settle_23 rfl (fun h23 => ?_) (fun h23 => ?_)
          · have h23 : κ 12 (rat κ Z p0) < 128 := Nat.lt_of_not_le (fun z => h23 (crI_1.mpr z))
            have hPn : PIC E (sl1 κ p0) ca na ta M0 := by rw [sz_0 hZ (Or.inr h23)]; exact hP
            refine x_iincN hx hb d_T_settle_50 hl rfl (lh_k (i := 1) rfl (by first | exact lk_n | exact lk_i | exact lk_r | exact lk_q | exact lk_0)) (fun ls hl => ?_)
            refine lv_goto hx hb d_T_settle_53 rfl ?_
            exact ih (p0 + 1) (sl1 κ p0) _ _ _ H locs ls (by omega) (by omega) (by omega) v1 v2 v3 hPn hT hw (lh_drop 3 hl)
          · have h23 := crI_1.mp h23
            first | refine x_aload_n hx hb d_T_settle_26 hl rfl ?_ | refine x_aload_nQ hx hb d_T_settle_26 hl rfl ?_
            first | refine x_aload_n hx hb d_T_settle_27 hl rfl ?_ | refine x_aload_nQ hx hb d_T_settle_27 hl rfl ?_
            refine m_get hx hb hts hown hK hw ci_T (pic_o hP) 4 (by decide) (wm1 164 rfl rfl) rfl d_T_settle_28 ?_
            show W p l e R s m ag below meth c H locs c0 s0 Q (F0 m 31 ls [.int (nI (κ 1 0)), .ref (na (rat κ Z p0))])
            rw [hZ]
            refine m_put hx hb hts hown hK hw ci_N (pic_n hP h0 hle) 4 (by decide) (wm1 121 rfl rfl) rfl (by first | rfl | exact nar_bz | exact nar_q) (by first | rfl | exact fit_bz | exact fit_q) (Nat.le_of_ble_eq_true rfl) d_T_settle_31 (fun H locs hw => ?_)
            have hP1 := pic_12 hP h0 hle (z := Z) (by omega)
            obtain ⟨M1, hM1⟩ : ∃ z, z = mp_up M0 (na (rat κ Z p0)) (.inr (3, (ndf κ na ta (rat κ Z p0)).set 4 (.int (nI Z)))) := ⟨_, rfl⟩
            rw [← hM1] at hw hP1
            first | refine x_aload_n hx hb d_T_settle_34 hl rfl ?_ | refine x_aload_nQ hx hb d_T_settle_34 hl rfl ?_
            refine m_get hx hb hts hown hK hw ci_N (pic_n hP1 h0 hle) 8 (by decide) (wm1 132 rfl rfl) rfl d_T_settle_35 ?_
            refine x_if_eqB hx hb d_T_settle_38 rfl (fun h38 => ?_) (fun h38 => ?_)
            · have h38 : ¬ κ 8 (rat κ Z p0) ≠ 0 := of_decide_eq_false h38
              have hPn : PIC E (sl1 κ p0) ca na ta M1 := by rw [sz_1 hZ h0 h23 (by omega)]; exact hP1
              refine x_iincN hx hb d_T_settle_50 hl rfl (lh_k (i := 1) rfl (by first | exact lk_n | exact lk_i | exact lk_r | exact lk_q | exact lk_0)) (fun ls hl => ?_)
              refine lv_goto hx hb d_T_settle_53 rfl ?_
              exact ih (p0 + 1) (sl1 κ p0) _ _ _ H locs ls (by omega) (by omega) (by omega) v1 v2 v3 hPn hT hw (lh_drop 3 hl)
            · have h38 : κ 8 (rat κ Z p0) ≠ 0 := of_decide_eq_true h38
              obtain ⟨hF1, hS1, hs1, hc1, hk6, hsl⟩ := set_1 hZ hV ht hC h0 h23 h38
              first | refine x_aload_n hx hb d_T_settle_41 hl rfl ?_ | refine x_aload_nQ hx hb d_T_settle_41 hl rfl ?_
              first | refine x_aload_n hx hb d_T_settle_42 hl rfl ?_ | refine x_aload_nQ hx hb d_T_settle_42 hl rfl ?_
              first | refine x_aload_n hx hb d_T_settle_43 hl rfl ?_ | refine x_aload_nQ hx hb d_T_settle_43 hl rfl ?_
              refine m_calli (k_V ⟨hx, hb, hml, hown, hts⟩ hE hA hw (c_T_keep hP1 hF1 hS1 hs1 h0 hle hc1) (ci_T).1 rfl (pic_o hP1) (wm2 102 rfl rfl) (wm2 104 rfl rfl) (wmp1 8 rfl) (wm1 1 rfl rfl) (wm2 105 rfl rfl) rfl rfl ar_T_keep ⟨Nat.le_trans (Nat.le_of_ble_eq_true rfl) hR.1, Nat.le_trans (Nat.le_of_ble_eq_true rfl) hR.2.1⟩ rfl hl.1 rfl (Nat.le_of_ble_eq_true rfl) d_T_settle_44 ⟨by omega, by omega⟩) hw (mfr_in hw hA) (fun r44 M44 H locs hP44 hw => ?_)
              obtain ⟨rfl, hP2⟩ := hP44
              have hle2 : rat κ Z p0 ≤ kp (sp κ 12 (rat κ Z p0) Z) (rat κ Z p0) 4 0 := by rw [hk6]; exact hle
              refine m_put hx hb hts hown hK hw ci_N (pic_n hP2 h0 hle2) 9 (by decide) (wm1 134 rfl rfl) rfl (by first | rfl | exact nar_bz | exact nar_q) (by first | rfl | exact fit_bz | exact fit_q) (Nat.le_of_ble_eq_true rfl) d_T_settle_47 (fun H locs hw => ?_)
              have hP3 := pic_15 hP2 (v := stf (sp κ 12 (rat κ Z p0) Z) (rat κ Z p0) 15 (rat κ Z p0)) h0 hle2
              rw [← hsl] at hP3
              have hPn := hP3
              refine x_iincN hx hb d_T_settle_50 hl rfl (lh_k (i := 1) rfl (by first | exact lk_n | exact lk_i | exact lk_r | exact lk_q | exact lk_0)) (fun ls hl => ?_)
              refine lv_goto hx hb d_T_settle_53 rfl ?_
              exact ih (p0 + 1) (sl1 κ p0) _ _ _ H locs ls (by omega) (by omega) (by omega) v1 v2 v3 hPn hT hw (lh_drop 3 hl)
  refine lv_iconst (v := nI 0) hx hb d_T_settle_0 (by decide) ?_
  refine x_istore_n hx hb d_T_settle_1 hl (Nat.le_of_ble_eq_true rfl) (lh_k (i := 1) rfl (by first | exact lk_n | exact lk_i | exact lk_r | exact lk_q | exact lk_0)) (fun ls hl => ?_)
  exact loop 125 0 σ M 0 0 _ _ _ (by omega) (by omega) (by omega) hV hC hZ hP hF.symm hw hl
