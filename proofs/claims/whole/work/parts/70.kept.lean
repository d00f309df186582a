theorem d_T_indexOfText_0 : decode prog_1_method_29_code 0 = .ok (.iconst 0, 1) := by decide +kernel
theorem d_T_indexOfText_1 : decode prog_1_method_29_code 1 = .ok (.istore_n 2, 1) := by decide +kernel
theorem d_T_indexOfText_2 : decode prog_1_method_29_code 2 = .ok (.iload_n 2, 1) := by decide +kernel
theorem d_T_indexOfText_3 : decode prog_1_method_29_code 3 = .ok (.aload_n 0, 1) := by decide +kernel
theorem d_T_indexOfText_4 : decode prog_1_method_29_code 4 = .ok (.getfield 24, 3) := by decide +kernel
theorem d_T_indexOfText_7 : decode prog_1_method_29_code 7 = .ok (.invokevirtual 195, 3) := by decide +kernel
theorem d_T_indexOfText_10 : decode prog_1_method_29_code 10 = .ok (.if_icmp .ge 32, 3) := by decide +kernel
theorem d_T_indexOfText_13 : decode prog_1_method_29_code 13 = .ok (.aload_n 0, 1) := by decide +kernel
theorem d_T_indexOfText_14 : decode prog_1_method_29_code 14 = .ok (.getfield 24, 3) := by decide +kernel
theorem d_T_indexOfText_17 : decode prog_1_method_29_code 17 = .ok (.iload_n 2, 1) := by decide +kernel
theorem d_T_indexOfText_18 : decode prog_1_method_29_code 18 = .ok (.invokevirtual 197, 3) := by decide +kernel
theorem d_T_indexOfText_21 : decode prog_1_method_29_code 21 = .ok (.checkcast 201, 3) := by decide +kernel
theorem d_T_indexOfText_24 : decode prog_1_method_29_code 24 = .ok (.getfield 210, 3) := by decide +kernel
theorem d_T_indexOfText_27 : decode prog_1_method_29_code 27 = .ok (.aload_n 1, 1) := by decide +kernel
theorem d_T_indexOfText_28 : decode prog_1_method_29_code 28 = .ok (.invokevirtual 233, 3) := by decide +kernel
theorem d_T_indexOfText_31 : decode prog_1_method_29_code 31 = .ok (.ifCond .eq 5, 3) := by decide +kernel
theorem d_T_indexOfText_34 : decode prog_1_method_29_code 34 = .ok (.iload_n 2, 1) := by decide +kernel
theorem d_T_indexOfText_35 : decode prog_1_method_29_code 35 = .ok (.ireturn, 1) := by decide +kernel
theorem d_T_indexOfText_36 : decode prog_1_method_29_code 36 = .ok (.iinc 2 1, 3) := by decide +kernel
theorem d_T_indexOfText_39 : decode prog_1_method_29_code 39 = .ok (.goto (-37), 3) := by decide +kernel
theorem d_T_indexOfText_42 : decode prog_1_method_29_code 42 = .ok (.iconst (-1), 1) := by decide +kernel
theorem d_T_indexOfText_43 : decode prog_1_method_29_code 43 = .ok (.ireturn, 1) := by decide +kernel

theorem d_T_baseFor_0 : decode prog_1_method_30_code 0 = .ok (.aload_n 1, 1) := by decide +kernel
theorem d_T_baseFor_1 : decode prog_1_method_30_code 1 = .ok (.getfield 177, 3) := by decide +kernel
theorem d_T_baseFor_4 : decode prog_1_method_30_code 4 = .ok (.istore_n 2, 1) := by decide +kernel
theorem d_T_baseFor_5 : decode prog_1_method_30_code 5 = .ok (.iload_n 2, 1) := by decide +kernel
theorem d_T_baseFor_6 : decode prog_1_method_30_code 6 = .ok (.ifCond .le 17, 3) := by decide +kernel
theorem d_T_baseFor_9 : decode prog_1_method_30_code 9 = .ok (.aload_n 1, 1) := by decide +kernel
theorem d_T_baseFor_10 : decode prog_1_method_30_code 10 = .ok (.iload_n 2, 1) := by decide +kernel
theorem d_T_baseFor_11 : decode prog_1_method_30_code 11 = .ok (.iload_n 2, 1) := by decide +kernel
theorem d_T_baseFor_12 : decode prog_1_method_30_code 12 = .ok (.iload_n 2, 1) := by decide +kernel
theorem d_T_baseFor_13 : decode prog_1_method_30_code 13 = .ok (.iconst 1, 1) := by decide +kernel
theorem d_T_baseFor_14 : decode prog_1_method_30_code 14 = .ok (.isub, 1) := by decide +kernel
theorem d_T_baseFor_15 : decode prog_1_method_30_code 15 = .ok (.iand, 1) := by decide +kernel
theorem d_T_baseFor_16 : decode prog_1_method_30_code 16 = .ok (.isub, 1) := by decide +kernel
theorem d_T_baseFor_17 : decode prog_1_method_30_code 17 = .ok (.invokevirtual 237, 3) := by decide +kernel
theorem d_T_baseFor_20 : decode prog_1_method_30_code 20 = .ok (.goto 4, 3) := by decide +kernel
theorem d_T_baseFor_23 : decode prog_1_method_30_code 23 = .ok (.aconst_null, 1) := by decide +kernel
theorem d_T_baseFor_24 : decode prog_1_method_30_code 24 = .ok (.astore_n 3, 1) := by decide +kernel
theorem d_T_baseFor_25 : decode prog_1_method_30_code 25 = .ok (.aload_n 3, 1) := by decide +kernel
theorem d_T_baseFor_26 : decode prog_1_method_30_code 26 = .ok (.ifnull 24, 3) := by decide +kernel
theorem d_T_baseFor_29 : decode prog_1_method_30_code 29 = .ok (.aload_n 3, 1) := by decide +kernel
theorem d_T_baseFor_30 : decode prog_1_method_30_code 30 = .ok (.getfield 192, 3) := by decide +kernel
theorem d_T_baseFor_33 : decode prog_1_method_30_code 33 = .ok (.ifCond .lt 17, 3) := by decide +kernel
theorem d_T_baseFor_36 : decode prog_1_method_30_code 36 = .ok (.aload_n 3, 1) := by decide +kernel
theorem d_T_baseFor_37 : decode prog_1_method_30_code 37 = .ok (.getfield 192, 3) := by decide +kernel
theorem d_T_baseFor_40 : decode prog_1_method_30_code 40 = .ok (.aload_n 0, 1) := by decide +kernel
theorem d_T_baseFor_41 : decode prog_1_method_30_code 41 = .ok (.getfield 24, 3) := by decide +kernel
theorem d_T_baseFor_44 : decode prog_1_method_30_code 44 = .ok (.invokevirtual 195, 3) := by decide +kernel
theorem d_T_baseFor_47 : decode prog_1_method_30_code 47 = .ok (.if_icmp .lt 5, 3) := by decide +kernel
theorem d_T_baseFor_50 : decode prog_1_method_30_code 50 = .ok (.iconst (-1), 1) := by decide +kernel
theorem d_T_baseFor_51 : decode prog_1_method_30_code 51 = .ok (.ireturn, 1) := by decide +kernel
theorem d_T_baseFor_52 : decode prog_1_method_30_code 52 = .ok (.aload_n 0, 1) := by decide +kernel
theorem d_T_baseFor_53 : decode prog_1_method_30_code 53 = .ok (.getfield 24, 3) := by decide +kernel
theorem d_T_baseFor_56 : decode prog_1_method_30_code 56 = .ok (.aload_n 3, 1) := by decide +kernel
theorem d_T_baseFor_57 : decode prog_1_method_30_code 57 = .ok (.getfield 192, 3) := by decide +kernel
theorem d_T_baseFor_60 : decode prog_1_method_30_code 60 = .ok (.invokevirtual 197, 3) := by decide +kernel
theorem d_T_baseFor_63 : decode prog_1_method_30_code 63 = .ok (.checkcast 201, 3) := by decide +kernel
theorem d_T_baseFor_66 : decode prog_1_method_30_code 66 = .ok (.getfield 204, 3) := by decide +kernel
theorem d_T_baseFor_69 : decode prog_1_method_30_code 69 = .ok (.iload_n 2, 1) := by decide +kernel
theorem d_T_baseFor_70 : decode prog_1_method_30_code 70 = .ok (.invokestatic 240, 3) := by decide +kernel
theorem d_T_baseFor_73 : decode prog_1_method_30_code 73 = .ok (.if_icmp .ge 10, 3) := by decide +kernel
theorem d_T_baseFor_76 : decode prog_1_method_30_code 76 = .ok (.aload_n 3, 1) := by decide +kernel
theorem d_T_baseFor_77 : decode prog_1_method_30_code 77 = .ok (.getfield 192, 3) := by decide +kernel
theorem d_T_baseFor_80 : decode prog_1_method_30_code 80 = .ok (.goto 4, 3) := by decide +kernel
theorem d_T_baseFor_83 : decode prog_1_method_30_code 83 = .ok (.iconst (-1), 1) := by decide +kernel
theorem d_T_baseFor_84 : decode prog_1_method_30_code 84 = .ok (.ireturn, 1) := by decide +kernel

section CLK
variable {σ τ : SS}
theorem sm_of {n m X Y : Nat} (h : (decide (n = m) && decide (X = Y)) = true) : n = m ∧ X = Y := by
  simp only [Bool.and_eq_true, decide_eq_true_eq] at h
  exact h
theorem shI_lt {x : Nat} (hx : x < 2 ^ 31) (h : shI x < 0) : x = 0 := by
  rcases Nat.eq_zero_or_pos x with z | z
  · exact z
  · rw [shI_s z] at h
    exact absurd h (nI_pos (by omega))
theorem shI_nlt {x : Nat} (h : ¬ shI x < 0) : 0 < x := by
  rcases Nat.eq_zero_or_pos x with z | z
  · exact absurd (by rw [z]; decide) h
  · exact z
theorem bf_0 {n : Nat} (h : oldf (sp σ 15 n 0) n = 0) : bfo σ n = 0 := by
  unfold bfo
  rw [if_neg]
  rintro ⟨z1, z2⟩
  omega
theorem bf_2 {n o : Nat} (hc : σ 11 n ≤ 16) (h1 : oldf (sp σ 15 n 0) n = o) (h2 : alw 29 (σ 11 n) 0 + 1 ≤ σ 20 (o - 1)) : bfo σ n = 0 := by
  unfold bfo
  rw [if_neg]
  rintro ⟨z1, z2⟩
  have := alw_29 ⟨σ 11 n, by omega⟩
  simp only at this
  rw [h1] at z2
  omega
theorem bf_1 {n o : Nat} (hc : σ 11 n ≤ 16) (h : oldf (sp σ 15 n 0) n = o) (h0 : 0 < o) (h2 : σ 20 (o - 1) < alw 29 (σ 11 n) 0 + 1) : bfo σ n = o := by
  have := alw_29 ⟨σ 11 n, by omega⟩
  simp only at this
  unfold bfo
  rw [h, if_pos ⟨h0, by omega⟩]
end CLK
set_option maxHeartbeats 600000 in
set_option maxRecDepth 100000 in
theorem c_T_idx {l : Launch} {E : Ev} {M : mp_M} {sz : Nat} {σ : SS} {ca na ta : Nat → Nat} (hP : PIC E σ ca na ta M) {ra rt : Nat → Nat} {ea cap : Nat} {mcn : Int32} (hK9 : pK1 E σ ca M ra rt ea cap mcn) (hS : SF σ) {b n : Nat} (hb9 : M b = some (txf (σ 9 n) (σ 7 n))) (hX : σ 9 n < 2 ^ 48) (hz : σ 7 n ≤ 12) : MCi l E y_T_indexOfText prog_1_method_29_code 3 (some .int) 3 64 0 0 [.ref (ca 0), .ref b] M sz (fun r M' => r = ieI (σ 16 0) (eqf σ n (σ 16 0) 0) ∧ M' = M) := by
  refine mc_of R_T rfl [some (.ref (ca 0)), some (.ref b), none] (by decide) (Nat.le_of_ble_eq_true rfl) rfl ?_
  intro p e R s m ag below meth c ls Q A X hAe hQ hR hsz hw hl
  rw [← hAe] at hQ
  obtain ⟨⟨hx, hb, hml, hown, hts⟩, hE, hA, hr, hlk, hnm⟩ := X
  have hK := hE.1
  obtain ⟨k1, k2, k3, k4, k5, k6⟩ := hK9
  have hS5 := hS.1
  obtain ⟨F, hF⟩ : ∃ F, F = eqf σ n (σ 16 0) 0 := ⟨_, rfl⟩
  rw [← hF] at hQ
  have loop : ∀ (u k : Nat) (H : Heap) (locs : List Loc) (ls : Array Slot), k + u = σ 16 0 → mw E.1 vwCl A s.heap M H locs → lh ls [some (.ref (ca 0)), some (.ref b), some (.int (nI k))] → eqf σ n u k = F → W p l e R s m ag below meth c H locs 0 0 Q (F0 m 2 ls []) := by
    intro u
    induction u with
    | zero =>
      intro k H locs ls hk hw hl hT
      have hT : k = F := hT
      refine x_iload_n hx hb d_T_indexOfText_2 hl rfl ?_
      first | refine x_aload_n hx hb d_T_indexOfText_3 hl rfl ?_ | refine x_aload_nQ hx hb d_T_indexOfText_3 hl rfl ?_
      refine m_get hx hb hts hown hK hw ci_T (pic_o hP) 2 (by decide) (wm1 162 rfl rfl) rfl d_T_indexOfText_4 ?_
      refine m_calli (k_V ⟨hx, hb, hml, hown, hts⟩ hE hA hw (c_AL_size k1) (ci_AL).1 rfl k1 (wm2 110 rfl rfl) (wm2 111 rfl rfl) (wm2 112 rfl rfl) (wm1 4 rfl rfl) (wm2 113 rfl rfl) rfl rfl ar_AL_size ⟨Nat.le_trans (Nat.le_of_ble_eq_true rfl) hR.1, Nat.le_trans (Nat.le_of_ble_eq_true rfl) hR.2.1⟩ rfl hl.1 rfl (Nat.le_of_ble_eq_true rfl) d_T_indexOfText_7 ⟨Nat.le_trans (Nat.le_of_ble_eq_true rfl) hR.2.2.1, Nat.le_trans (Nat.le_of_ble_eq_true rfl) hR.2.2.2⟩) hw (mfr_in hw hA) (fun r7 M7 H locs hP7 hw => ?_)
      obtain ⟨rfl, hM7⟩ := hP7
      rw [hM7] at hw
      refine x_icmp_ge hx hb d_T_indexOfText_10 rfl (by omega) (by omega) (fun h10 => ?_) (fun h10 => ?_)
      · refine lv_iconst (v := -1) hx hb d_T_indexOfText_42 (by decide) ?_
        exact x_reti hQ hx hb hr hlk rfl hw (by omega) (by omega) d_T_indexOfText_43 (⟨by rw [← hT]; exact (if_neg (by omega)).symm, rfl⟩)
      · exact absurd h10 (by omega)
    | succ u ih =>
      intro k H locs ls hk hw hl hT
      have hk9 := hS.2 k
      refine x_iload_n hx hb d_T_indexOfText_2 hl rfl ?_
      first | refine x_aload_n hx hb d_T_indexOfText_3 hl rfl ?_ | refine x_aload_nQ hx hb d_T_indexOfText_3 hl rfl ?_
      refine m_get hx hb hts hown hK hw ci_T (pic_o hP) 2 (by decide) (wm1 162 rfl rfl) rfl d_T_indexOfText_4 ?_
      refine m_calli (k_V ⟨hx, hb, hml, hown, hts⟩ hE hA hw (c_AL_size k1) (ci_AL).1 rfl k1 (wm2 110 rfl rfl) (wm2 111 rfl rfl) (wm2 112 rfl rfl) (wm1 4 rfl rfl) (wm2 113 rfl rfl) rfl rfl ar_AL_size ⟨Nat.le_trans (Nat.le_of_ble_eq_true rfl) hR.1, Nat.le_trans (Nat.le_of_ble_eq_true rfl) hR.2.1⟩ rfl hl.1 rfl (Nat.le_of_ble_eq_true rfl) d_T_indexOfText_7 ⟨Nat.le_trans (Nat.le_of_ble_eq_true rfl) hR.2.2.1, Nat.le_trans (Nat.le_of_ble_eq_true rfl) hR.2.2.2⟩) hw (mfr_in hw hA) (fun r7 M7 H locs hP7 hw => ?_)
      obtain ⟨rfl, hM7⟩ := hP7
      rw [hM7] at hw
      refine x_icmp_ge hx hb d_T_indexOfText_10 rfl (by omega) (by omega) (fun h10 => ?_) (fun h10 => ?_)
      · exact absurd h10 (by omega)
      · first | refine x_aload_n hx hb d_T_indexOfText_13 hl rfl ?_ | refine x_aload_nQ hx hb d_T_indexOfText_13 hl rfl ?_
        refine m_get hx hb hts hown hK hw ci_T (pic_o hP) 2 (by decide) (wm1 162 rfl rfl) rfl d_T_indexOfText_14 ?_
        refine x_iload_n hx hb d_T_indexOfText_17 hl rfl ?_
        refine m_callq (k_V ⟨hx, hb, hml, hown, hts⟩ hE hA hw (c_AL_get k1 (k2.resolve_left (by omega)).1 (i := k) (by omega) k3 (by omega)) (ci_AL).1 rfl k1 (wm2 114 rfl rfl) (wm2 115 rfl rfl) (wm2 116 rfl rfl) (wm1 4 rfl rfl) (wm2 117 rfl rfl) rfl rfl ar_AL_get ⟨Nat.le_trans (Nat.le_of_ble_eq_true rfl) hR.1, Nat.le_trans (Nat.le_of_ble_eq_true rfl) hR.2.1⟩ rfl hl.1 rfl (Nat.le_of_ble_eq_true rfl) d_T_indexOfText_18 ⟨Nat.le_trans (Nat.le_of_ble_eq_true rfl) hR.2.2.1, Nat.le_trans (Nat.le_of_ble_eq_true rfl) hR.2.2.2⟩) hw (mfr_in hw hA) (fun r18 M18 H locs hP18 hw => ?_)
        obtain ⟨rfl, hM18⟩ := hP18
        rw [hM18] at hw
        rw [if_pos (show k < σ 16 0 by omega)]
        refine va_castY hx hb hown (hts _ (wm2 128 rfl rfl)) hE.2.1.2.2.1.1 (m_recv hK hw (ci_Rp).1 (k6 k (by omega)).1) d_T_indexOfText_21 ?_
        refine m_get hx hb hts hown hK hw ci_Rp (k6 k (by omega)).1 0 (by decide) (wm2 168 rfl rfl) rfl d_T_indexOfText_24 ?_
        first | refine x_aload_n hx hb d_T_indexOfText_27 hl rfl ?_ | refine x_aload_nQ hx hb d_T_indexOfText_27 hl rfl ?_
        refine m_calli (k_V ⟨hx, hb, hml, hown, hts⟩ hE hA hw (c_Te_same (k6 k (by omega)).2 hb9 (by omega) (by omega) (by omega) (by omega)) (ci_Te).1 rfl (k6 k (by omega)).2 (wm2 129 rfl rfl) (wm2 130 rfl rfl) (wm2 131 rfl rfl) (wm1 5 rfl rfl) (wm2 132 rfl rfl) rfl rfl ar_Te_isSameAs ⟨Nat.le_trans (Nat.le_of_ble_eq_true rfl) hR.1, Nat.le_trans (Nat.le_of_ble_eq_true rfl) hR.2.1⟩ rfl hl.1 rfl (Nat.le_of_ble_eq_true rfl) d_T_indexOfText_28 ⟨Nat.le_trans (Nat.le_of_ble_eq_true rfl) hR.2.2.1, Nat.le_trans (Nat.le_of_ble_eq_true rfl) hR.2.2.2⟩) hw (mfr_in hw hA) (fun r28 M28 H locs hP28 hw => ?_)
        obtain ⟨rfl, hM28⟩ := hP28
        rw [hM28] at hw
        refine x_if_eqB hx hb d_T_indexOfText_31 rfl (fun h31 => ?_) (fun h31 => ?_)
        · have hT2 : eqf σ n u (k + 1) = F := by
            rw [← hT]
            exact (if_neg (fun z => by rw [sm_t z.1 z.2] at h31; cases h31)).symm
          refine x_iincN hx hb d_T_indexOfText_36 hl rfl (lh_k (i := 1) rfl (by first | exact lk_n | exact lk_i | exact lk_r | exact lk_q | exact lk_0)) (fun ls hl => ?_)
          refine lv_goto hx hb d_T_indexOfText_39 rfl ?_
          exact ih (k + 1) H locs ls (by omega) hw hl hT2
        · have hT2 : k = F := by
            rw [← hT]
            exact (if_pos (sm_of h31)).symm
          refine x_iload_n hx hb d_T_indexOfText_34 hl rfl ?_
          exact x_reti hQ hx hb hr hlk rfl hw (by omega) (by omega) d_T_indexOfText_35 (⟨by rw [← hT2]; exact (if_pos (by omega)).symm, rfl⟩)
  refine lv_iconst (v := nI 0) hx hb d_T_indexOfText_0 (by decide) ?_
  refine x_istore_n hx hb d_T_indexOfText_1 hl (Nat.le_of_ble_eq_true rfl) (lh_k (i := 1) rfl (by first | exact lk_n | exact lk_i | exact lk_r | exact lk_q | exact lk_0)) (fun ls hl => ?_)
  exact loop (σ 16 0) 0 _ _ _ (by omega) hw hl hF.symm

set_option maxHeartbeats 1000000 in
set_option maxRecDepth 100000 in
theorem c_T_base {l : Launch} {E : Ev} {M : mp_M} {sz : Nat} {σ : SS} {ca na ta : Nat → Nat} (hP : PIC E σ ca na ta M) {ra rt : Nat → Nat} {ea cap : Nat} {mcn : Int32} (hK9 : pK1 E σ ca M ra rt ea cap mcn) (hS : SF σ) (hF : NF σ) {n : Nat} (h0 : 0 < n) (hn : n ≤ σ 4 0) (hc16 : σ 11 n ≤ 16) : MCi l E y_T_baseFor prog_1_method_30_code 4 (some .int) 3 64 0 0 [.ref (ca 0), .ref (na n)] M sz (fun r M' => r = shI (bfo σ n) ∧ M' = M) := by
  refine mc_of R_T rfl [some (.ref (ca 0)), some (.ref (na n)), none, none] (by decide) (Nat.le_of_ble_eq_true rfl) rfl ?_
  intro p e R s m ag below meth c ls Q A X hAe hQ hR hsz hw hl
  rw [← hAe] at hQ
  obtain ⟨⟨hx, hb, hml, hown, hts⟩, hE, hA, hr, hlk, hnm⟩ := X
  have hK := hE.1
  obtain ⟨k1, k2, k3, k4, k5, k6⟩ := hK9
  have hS5 := hS.1
  first | refine x_aload_n hx hb d_T_baseFor_0 hl rfl ?_ | refine x_aload_nQ hx hb d_T_baseFor_0 hl rfl ?_
  refine m_get hx hb hts hown hK hw ci_N (pic_n hP h0 hn) 3 (by decide) (wm1 119 rfl rfl) rfl d_T_baseFor_1 ?_
  refine x_istore_n hx hb d_T_baseFor_4 hl (Nat.le_of_ble_eq_true rfl) (lh_k (i := 1) rfl (by first | exact lk_n | exact lk_i | exact lk_r | exact lk_q | exact lk_0)) (fun ls hl => ?_)
  refine x_iload_n hx hb d_T_baseFor_5 hl rfl ?_
  refine x_if_le hx hb d_T_baseFor_6 rfl (by omega) (fun h6 => ?_) (fun h6 => ?_)
  · refine lv_null hx hb d_T_baseFor_23 ?_
    refine W.eq (g2 := F0 m 24 ls [va_rf none]) rfl ?_
    first | refine x_astore_n hx hb d_T_baseFor_24 hl (Nat.le_of_ble_eq_true rfl) (lh_k (i := 2) rfl (by first | exact lk_n | exact lk_i | exact lk_r | exact lk_q | exact lk_0)) (fun ls hl => ?_) | refine x_astore_nQ hx hb d_T_baseFor_24 hl (Nat.le_of_ble_eq_true rfl) (lh_k (i := 2) rfl (by first | exact lk_n | exact lk_i | exact lk_r | exact lk_q | exact lk_0)) (fun ls hl => ?_)
    first | refine x_aload_n hx hb d_T_baseFor_25 hl rfl ?_ | refine x_aload_nQ hx hb d_T_baseFor_25 hl rfl ?_
    refine x_ifnullQ hx hb d_T_baseFor_26 rfl (fun h26 => ?_) (fun a26 h26 => ?_)
    · refine lv_iconst (v := -1) hx hb d_T_baseFor_50 (by decide) ?_
      exact x_reti hQ hx hb hr hlk rfl hw (by omega) (by omega) d_T_baseFor_51 (⟨by rw [bf_0 (oldf_z (by omega))]; rfl, rfl⟩)
    · exact nomatch h26
  · have hfr := frb_pos ⟨σ 11 n, by omega⟩ h6
    simp only at hfr
    first | refine x_aload_n hx hb d_T_baseFor_9 hl rfl ?_ | refine x_aload_nQ hx hb d_T_baseFor_9 hl rfl ?_
    refine x_iload_n hx hb d_T_baseFor_10 hl rfl ?_
    refine x_iload_n hx hb d_T_baseFor_11 hl rfl ?_
    refine x_iload_n hx hb d_T_baseFor_12 hl rfl ?_
    refine lv_iconst (v := nI 1) hx hb d_T_baseFor_13 (by decide) ?_
    refine x_isub hx hb d_T_baseFor_14 (by omega) ?_
    refine lv_iand hx hb d_T_baseFor_15 ?_
    rw [nx_nd]
    have hand : σ 11 n &&& (σ 11 n - 1) ≤ σ 11 n := Nat.and_le_left
    refine x_isub hx hb d_T_baseFor_16 hand ?_
    rw [show σ 11 n - (σ 11 n &&& (σ 11 n - 1)) = frb (σ 11 n) from rfl]
    refine m_callq (k_V ⟨hx, hb, hml, hown, hts⟩ hE hA hw (c_N_anc hP h0 hn (by omega) hF.1.2.2.2.1) (ci_N).1 rfl (pic_n hP h0 hn) (wm2 137 rfl rfl) (wm2 138 rfl rfl) (wm2 139 rfl rfl) (wm1 8 rfl rfl) (wm2 140 rfl rfl) rfl rfl ar_N_ancestor ⟨Nat.le_trans (Nat.le_of_ble_eq_true rfl) hR.1, Nat.le_trans (Nat.le_of_ble_eq_true rfl) hR.2.1⟩ rfl hl.1 rfl (Nat.le_of_ble_eq_true rfl) d_T_baseFor_17 ⟨Nat.le_trans (Nat.le_of_ble_eq_true rfl) hR.2.2.1, Nat.le_trans (Nat.le_of_ble_eq_true rfl) hR.2.2.2⟩) hw (mfr_in hw hA) (fun r17 M17 H locs hP17 hw => ?_)
    obtain ⟨rfl, hM17⟩ := hP17
    rw [hM17] at hw
    refine lv_goto hx hb d_T_baseFor_20 rfl ?_
    first | refine x_astore_n hx hb d_T_baseFor_24 hl (Nat.le_of_ble_eq_true rfl) (lh_k (i := 2) rfl (by first | exact lk_n | exact lk_i | exact lk_r | exact lk_q | exact lk_0)) (fun ls hl => ?_) | refine x_astore_nQ hx hb d_T_baseFor_24 hl (Nat.le_of_ble_eq_true rfl) (lh_k (i := 2) rfl (by first | exact lk_n | exact lk_i | exact lk_r | exact lk_q | exact lk_0)) (fun ls hl => ?_)
    first | refine x_aload_n hx hb d_T_baseFor_25 hl rfl ?_ | refine x_aload_nQ hx hb d_T_baseFor_25 hl rfl ?_
    refine x_ifnullQ hx hb d_T_baseFor_26 rfl (fun h26 => ?_) (fun a26 h26 => ?_)
    · have h26 := nq_none h26
      have hof : oldf (sp σ 15 n 0) n = 0 := by
        rw [oldf_k hF h0 hc16 h6]
        show σ 15 (anc σ (frb (σ 11 n)) n) = 0
        rw [h26]; exact hF.1.2.2.2.2.2
      refine lv_iconst (v := -1) hx hb d_T_baseFor_50 (by decide) ?_
      exact x_reti hQ hx hb hr hlk rfl hw (by omega) (by omega) d_T_baseFor_51 (⟨by first | (rw [bf_0 hof]; rfl) | (rw [bf_0 hof0]; rfl), rfl⟩)
    · obtain ⟨ha0, rfl⟩ := nq_some h26
      rw [h26] at hl
      have hale := anc_le (pic_z hP) (frb (σ 11 n)) n hn
      have hof := oldf_k hF h0 hc16 h6
      have hsl := (hF.2.2.2 (anc σ (frb (σ 11 n)) n)).2.2.2.2.2.2.1
      first | refine x_aload_n hx hb d_T_baseFor_29 hl rfl ?_ | refine x_aload_nQ hx hb d_T_baseFor_29 hl rfl ?_
      refine m_get hx hb hts hown hK hw ci_N (pic_n hP ha0 hale) 9 (by decide) (wm1 134 rfl rfl) rfl d_T_baseFor_30 ?_
      refine lv_if_lt hx hb d_T_baseFor_33 rfl (fun h33 => ?_) (fun h33 => ?_)
      · have hof0 : oldf (sp σ 15 n 0) n = 0 := hof.trans (shI_lt (by omega) h33)
        refine lv_iconst (v := -1) hx hb d_T_baseFor_50 (by decide) ?_
        exact x_reti hQ hx hb hr hlk rfl hw (by omega) (by omega) d_T_baseFor_51 (⟨by first | (rw [bf_0 hof]; rfl) | (rw [bf_0 hof0]; rfl), rfl⟩)
      · have h33 := shI_nlt h33
        first | refine x_aload_n hx hb d_T_baseFor_36 hl rfl ?_ | refine x_aload_nQ hx hb d_T_baseFor_36 hl rfl ?_
        refine m_get hx hb hts hown hK hw ci_N (pic_n hP ha0 hale) 9 (by decide) (wm1 134 rfl rfl) rfl d_T_baseFor_37 ?_
        first | refine x_aload_n hx hb d_T_baseFor_40 hl rfl ?_ | refine x_aload_nQ hx hb d_T_baseFor_40 hl rfl ?_
        refine m_get hx hb hts hown hK hw ci_T (pic_o hP) 2 (by decide) (wm1 162 rfl rfl) rfl d_T_baseFor_41 ?_
        refine m_calli (k_V ⟨hx, hb, hml, hown, hts⟩ hE hA hw (c_AL_size k1) (ci_AL).1 rfl k1 (wm2 110 rfl rfl) (wm2 111 rfl rfl) (wm2 112 rfl rfl) (wm1 4 rfl rfl) (wm2 113 rfl rfl) rfl rfl ar_AL_size ⟨Nat.le_trans (Nat.le_of_ble_eq_true rfl) hR.1, Nat.le_trans (Nat.le_of_ble_eq_true rfl) hR.2.1⟩ rfl hl.1 rfl (Nat.le_of_ble_eq_true rfl) d_T_baseFor_44 ⟨Nat.le_trans (Nat.le_of_ble_eq_true rfl) hR.2.2.1, Nat.le_trans (Nat.le_of_ble_eq_true rfl) hR.2.2.2⟩) hw (mfr_in hw hA) (fun r44 M44 H locs hP44 hw => ?_)
        obtain ⟨rfl, hM44⟩ := hP44
        rw [hM44] at hw
        refine lv_icmp_lt hx hb d_T_baseFor_47 rfl (fun h47 => ?_) (fun h47 => ?_)
        · first | refine x_aload_n hx hb d_T_baseFor_52 hl rfl ?_ | refine x_aload_nQ hx hb d_T_baseFor_52 hl rfl ?_
          refine m_get hx hb hts hown hK hw ci_T (pic_o hP) 2 (by decide) (wm1 162 rfl rfl) rfl d_T_baseFor_53 ?_
          first | refine x_aload_n hx hb d_T_baseFor_56 hl rfl ?_ | refine x_aload_nQ hx hb d_T_baseFor_56 hl rfl ?_
          refine m_get hx hb hts hown hK hw ci_N (pic_n hP ha0 hale) 9 (by decide) (wm1 134 rfl rfl) rfl d_T_baseFor_57 ?_
          rw [shI_s h33]
          refine m_callq (k_V ⟨hx, hb, hml, hown, hts⟩ hE hA hw (c_AL_get k1 (k2.resolve_left (by omega)).1 (i := σ 15 (anc σ (frb (σ 11 n)) n) - 1) (by omega) k3 (by omega)) (ci_AL).1 rfl k1 (wm2 114 rfl rfl) (wm2 115 rfl rfl) (wm2 116 rfl rfl) (wm1 4 rfl rfl) (wm2 117 rfl rfl) rfl rfl ar_AL_get ⟨Nat.le_trans (Nat.le_of_ble_eq_true rfl) hR.1, Nat.le_trans (Nat.le_of_ble_eq_true rfl) hR.2.1⟩ rfl hl.1 rfl (Nat.le_of_ble_eq_true rfl) d_T_baseFor_60 ⟨Nat.le_trans (Nat.le_of_ble_eq_true rfl) hR.2.2.1, Nat.le_trans (Nat.le_of_ble_eq_true rfl) hR.2.2.2⟩) hw (mfr_in hw hA) (fun r60 M60 H locs hP60 hw => ?_)
          obtain ⟨rfl, hM60⟩ := hP60
          rw [hM60] at hw
          rw [if_pos (show σ 15 (anc σ (frb (σ 11 n)) n) - 1 < σ 16 0 by omega)]
          refine va_castY hx hb hown (hts _ (wm2 128 rfl rfl)) hE.2.1.2.2.1.1 (m_recv hK hw (ci_Rp).1 (k6 _ (by omega)).1) d_T_baseFor_63 ?_
          refine m_get hx hb hts hown hK hw ci_Rp (k6 _ (by omega)).1 2 (by decide) (wm2 172 rfl rfl) rfl d_T_baseFor_66 ?_
          refine x_iload_n hx hb d_T_baseFor_69 hl rfl ?_
          refine m_calli (k_S ⟨hx, hb, hml, hown, hts⟩ hE hA hw (c_T_allowed (by omega)) (wm2 141 rfl rfl) (wm2 142 rfl rfl) (wm1 1 rfl rfl) (wm2 143 rfl rfl) rfl rfl ar_T_allowedChain ⟨Nat.le_trans (Nat.le_of_ble_eq_true rfl) hR.1, Nat.le_trans (Nat.le_of_ble_eq_true rfl) hR.2.1⟩ rfl hl.1 rfl (Nat.le_of_ble_eq_true rfl) d_T_baseFor_70 ⟨Nat.le_trans (Nat.le_of_ble_eq_true rfl) hR.2.2.1, Nat.le_trans (Nat.le_of_ble_eq_true rfl) hR.2.2.2⟩) hw (mfr_in hw hA) (fun r70 M70 H locs hP70 hw => ?_)
          obtain ⟨rfl, hM70⟩ := hP70
          rw [hM70] at hw
          have hal9 := alw_le (c := σ 11 n) 29 0
          have hch9 := (hS.2 (σ 15 (anc σ (frb (σ 11 n)) n) - 1)).2.2.2.2
          refine x_icmp_ge hx hb d_T_baseFor_73 rfl (by omega) (by omega) (fun h73 => ?_) (fun h73 => ?_)
          · have hb9 : bfo σ n = 0 := bf_2 hc16 hof h73
            refine lv_iconst (v := -1) hx hb d_T_baseFor_83 (by decide) ?_
            exact x_reti hQ hx hb hr hlk rfl hw (by omega) (by omega) d_T_baseFor_84 (⟨by first | (rw [hb9, shI_s h33]) | (rw [hb9]; rfl) | (rw [hb9]), rfl⟩)
          · have hb9 : bfo σ n = σ 15 (anc σ (frb (σ 11 n)) n) := bf_1 hc16 hof h33 h73
            first | refine x_aload_n hx hb d_T_baseFor_76 hl rfl ?_ | refine x_aload_nQ hx hb d_T_baseFor_76 hl rfl ?_
            refine m_get hx hb hts hown hK hw ci_N (pic_n hP ha0 hale) 9 (by decide) (wm1 134 rfl rfl) rfl d_T_baseFor_77 ?_
            refine lv_goto hx hb d_T_baseFor_80 rfl ?_
            exact x_reti hQ hx hb hr hlk rfl hw (by omega) (by omega) d_T_baseFor_84 (⟨by first | (rw [hb9, shI_s h33]) | (rw [hb9]; rfl) | (rw [hb9]), rfl⟩)
        · exact absurd h47 (by rw [shI_s h33, nI_ltI (by omega) (by omega)]; omega)
