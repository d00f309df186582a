theorem d_N_after_0 : decode prog_3_method_2_code 0 = .ok (.new 10, 3) := by decide +kernel
theorem d_N_after_3 : decode prog_3_method_2_code 3 = .ok (.dup, 1) := by decide +kernel
theorem d_N_after_4 : decode prog_3_method_2_code 4 = .ok (.iload_n 1, 1) := by decide +kernel
theorem d_N_after_5 : decode prog_3_method_2_code 5 = .ok (.aload_n 0, 1) := by decide +kernel
theorem d_N_after_6 : decode prog_3_method_2_code 6 = .ok (.getfield 38, 3) := by decide +kernel
theorem d_N_after_9 : decode prog_3_method_2_code 9 = .ok (.aload_n 0, 1) := by decide +kernel
theorem d_N_after_10 : decode prog_3_method_2_code 10 = .ok (.getfield 41, 3) := by decide +kernel
theorem d_N_after_13 : decode prog_3_method_2_code 13 = .ok (.invokespecial 45, 3) := by decide +kernel
theorem d_N_after_16 : decode prog_3_method_2_code 16 = .ok (.astore_n 2, 1) := by decide +kernel
theorem d_N_after_17 : decode prog_3_method_2_code 17 = .ok (.aload_n 2, 1) := by decide +kernel
theorem d_N_after_18 : decode prog_3_method_2_code 18 = .ok (.aload_n 0, 1) := by decide +kernel
theorem d_N_after_19 : decode prog_3_method_2_code 19 = .ok (.invokevirtual 48, 3) := by decide +kernel
theorem d_N_after_22 : decode prog_3_method_2_code 22 = .ok (.aload_n 2, 1) := by decide +kernel
theorem d_N_after_23 : decode prog_3_method_2_code 23 = .ok (.aload_n 0, 1) := by decide +kernel
theorem d_N_after_24 : decode prog_3_method_2_code 24 = .ok (.getfield 32, 3) := by decide +kernel
theorem d_N_after_27 : decode prog_3_method_2_code 27 = .ok (.putfield 32, 3) := by decide +kernel
theorem d_N_after_30 : decode prog_3_method_2_code 30 = .ok (.aload_n 2, 1) := by decide +kernel
theorem d_N_after_31 : decode prog_3_method_2_code 31 = .ok (.areturn, 1) := by decide +kernel
theorem d_Tr_put_0 : decode prog_8_method_3_code 0 = .ok (.iload_n 1, 1) := by decide +kernel
theorem d_Tr_put_1 : decode prog_8_method_3_code 1 = .ok (.ifCond .lt 16, 3) := by decide +kernel
theorem d_Tr_put_4 : decode prog_8_method_3_code 4 = .ok (.iload_n 1, 1) := by decide +kernel
theorem d_Tr_put_5 : decode prog_8_method_3_code 5 = .ok (.bipush 125, 2) := by decide +kernel
theorem d_Tr_put_7 : decode prog_8_method_3_code 7 = .ok (.if_icmp .ge 10, 3) := by decide +kernel
theorem d_Tr_put_10 : decode prog_8_method_3_code 10 = .ok (.aload_n 0, 1) := by decide +kernel
theorem d_Tr_put_11 : decode prog_8_method_3_code 11 = .ok (.getfield 13, 3) := by decide +kernel
theorem d_Tr_put_14 : decode prog_8_method_3_code 14 = .ok (.iload_n 1, 1) := by decide +kernel
theorem d_Tr_put_15 : decode prog_8_method_3_code 15 = .ok (.aload_n 2, 1) := by decide +kernel
theorem d_Tr_put_16 : decode prog_8_method_3_code 16 = .ok (.aastore, 1) := by decide +kernel
theorem d_Tr_put_17 : decode prog_8_method_3_code 17 = .ok (.return_, 1) := by decide +kernel

theorem d_Tr_clear_0 : decode prog_8_method_4_code 0 = .ok (.iconst 0, 1) := by decide +kernel
theorem d_Tr_clear_1 : decode prog_8_method_4_code 1 = .ok (.istore_n 2, 1) := by decide +kernel
theorem d_Tr_clear_2 : decode prog_8_method_4_code 2 = .ok (.iload_n 2, 1) := by decide +kernel
theorem d_Tr_clear_3 : decode prog_8_method_4_code 3 = .ok (.bipush 125, 2) := by decide +kernel
theorem d_Tr_clear_5 : decode prog_8_method_4_code 5 = .ok (.if_icmp .ge 24, 3) := by decide +kernel
theorem d_Tr_clear_8 : decode prog_8_method_4_code 8 = .ok (.iload_n 2, 1) := by decide +kernel
theorem d_Tr_clear_9 : decode prog_8_method_4_code 9 = .ok (.iload_n 1, 1) := by decide +kernel
theorem d_Tr_clear_10 : decode prog_8_method_4_code 10 = .ok (.invokestatic 19, 3) := by decide +kernel
theorem d_Tr_clear_13 : decode prog_8_method_4_code 13 = .ok (.ifCond .eq 10, 3) := by decide +kernel
theorem d_Tr_clear_16 : decode prog_8_method_4_code 16 = .ok (.aload_n 0, 1) := by decide +kernel
theorem d_Tr_clear_17 : decode prog_8_method_4_code 17 = .ok (.getfield 13, 3) := by decide +kernel
theorem d_Tr_clear_20 : decode prog_8_method_4_code 20 = .ok (.iload_n 2, 1) := by decide +kernel
theorem d_Tr_clear_21 : decode prog_8_method_4_code 21 = .ok (.aconst_null, 1) := by decide +kernel
theorem d_Tr_clear_22 : decode prog_8_method_4_code 22 = .ok (.aastore, 1) := by decide +kernel
theorem d_Tr_clear_23 : decode prog_8_method_4_code 23 = .ok (.iinc 2 1, 3) := by decide +kernel
theorem d_Tr_clear_26 : decode prog_8_method_4_code 26 = .ok (.goto (-24), 3) := by decide +kernel
theorem d_Tr_clear_29 : decode prog_8_method_4_code 29 = .ok (.return_, 1) := by decide +kernel

theorem d_Tr_takeFrom_0 : decode prog_8_method_5_code 0 = .ok (.iconst 0, 1) := by decide +kernel
theorem d_Tr_takeFrom_1 : decode prog_8_method_5_code 1 = .ok (.istore_n 3, 1) := by decide +kernel
theorem d_Tr_takeFrom_2 : decode prog_8_method_5_code 2 = .ok (.iload_n 3, 1) := by decide +kernel
theorem d_Tr_takeFrom_3 : decode prog_8_method_5_code 3 = .ok (.bipush 125, 2) := by decide +kernel
theorem d_Tr_takeFrom_5 : decode prog_8_method_5_code 5 = .ok (.if_icmp .ge 29, 3) := by decide +kernel
theorem d_Tr_takeFrom_8 : decode prog_8_method_5_code 8 = .ok (.iload_n 3, 1) := by decide +kernel
theorem d_Tr_takeFrom_9 : decode prog_8_method_5_code 9 = .ok (.iload_n 2, 1) := by decide +kernel
theorem d_Tr_takeFrom_10 : decode prog_8_method_5_code 10 = .ok (.invokestatic 19, 3) := by decide +kernel
theorem d_Tr_takeFrom_13 : decode prog_8_method_5_code 13 = .ok (.ifCond .eq 15, 3) := by decide +kernel
theorem d_Tr_takeFrom_16 : decode prog_8_method_5_code 16 = .ok (.aload_n 0, 1) := by decide +kernel
theorem d_Tr_takeFrom_17 : decode prog_8_method_5_code 17 = .ok (.getfield 13, 3) := by decide +kernel
theorem d_Tr_takeFrom_20 : decode prog_8_method_5_code 20 = .ok (.iload_n 3, 1) := by decide +kernel
theorem d_Tr_takeFrom_21 : decode prog_8_method_5_code 21 = .ok (.aload_n 1, 1) := by decide +kernel
theorem d_Tr_takeFrom_22 : decode prog_8_method_5_code 22 = .ok (.getfield 13, 3) := by decide +kernel
theorem d_Tr_takeFrom_25 : decode prog_8_method_5_code 25 = .ok (.iload_n 3, 1) := by decide +kernel
theorem d_Tr_takeFrom_26 : decode prog_8_method_5_code 26 = .ok (.aaload, 1) := by decide +kernel
theorem d_Tr_takeFrom_27 : decode prog_8_method_5_code 27 = .ok (.aastore, 1) := by decide +kernel
theorem d_Tr_takeFrom_28 : decode prog_8_method_5_code 28 = .ok (.iinc 3 1, 3) := by decide +kernel
theorem d_Tr_takeFrom_31 : decode prog_8_method_5_code 31 = .ok (.goto (-29), 3) := by decide +kernel
theorem d_Tr_takeFrom_34 : decode prog_8_method_5_code 34 = .ok (.return_, 1) := by decide +kernel
set_option maxHeartbeats 4000000 in
set_option maxRecDepth 100000 in
theorem c_N_after {l : Launch} {E : Ev} {M : mp_M} {sz : Nat} {a1 tx k : Nat} {ln y9 : Int32} {d : Bool} {y0 y4 y5 y6 y7 y8 : Value} (heB : M a1 = some (.inr (3, [y0, .int (bz d), .ref tx, .int (nI k), y4, y5, y6, y7, y8, .int y9]))) : MCq l E y_N_after prog_3_method_2_code 3 (some (.object "TreeRevisions$Node")) 2 43 1 10 [.ref a1, .int ln] M sz (fun r M' => ∃ q, r = some q ∧ M q = none ∧ M' = mp_up M q (.inr (3, [.int ln, .int (bz d), .ref tx, .int (nI (k + 1)), .int (-1), .ref a1, .int (-1), .int (-1), .int (nI 0), .int y9]))) := by
  refine mc_of R_N rfl [some (.ref a1), some (.int ln), none] (by decide) (Nat.le_of_ble_eq_true rfl) rfl ?_
  intro p e R s m ag below meth c ls Q A X hAe hQ hR hsz hw hl
  rw [← hAe] at hQ
  obtain ⟨⟨hx, hb, hml, hown, hts⟩, hE, hA, hr, hlk, hnm⟩ := X
  have hK := hE.1
  refine m_new (fs := [.int 0, .int 0, .null, .int 0, .int 0, .null, .int 0, .int 0, .int 0, .int 0]) hx hb hts hown hK hw hA ci_N (wm1 238 rfl rfl) (wm1 104 rfl rfl) (wm1 8 rfl rfl) (fun j hj => by rcases (show j = 0 ∨ j = 1 ∨ j = 2 ∨ j = 3 ∨ j = 4 ∨ j = 5 ∨ j = 6 ∨ j = 7 ∨ j = 8 ∨ j = 9 by omega) with rfl | rfl | rfl | rfl | rfl | rfl | rfl | rfl | rfl | rfl <;> rfl) (Nat.le_trans (Nat.le_of_ble_eq_true rfl) hR.2.2.1) (Nat.le_trans (Nat.le_of_ble_eq_true rfl) hR.2.2.2) d_N_after_0 (fun q H hq0 hw => ?_)
  have he_q := put_he hw
  have hne := ne_of heB hq0
  have he1 := (mp_up_n (M := M) (e := .inr (3, [.int 0, .int 0, .null, .int 0, .int 0, .null, .int 0, .int 0, .int 0, .int 0])) hne).trans heB
  first | refine lv_dup hx hb d_N_after_3 rfl ?_ | refine lv_dup hx hb d_N_after_3 (va_rf_c _) ?_
  refine x_iload_n hx hb d_N_after_4 hl rfl ?_
  first | refine x_aload_n hx hb d_N_after_5 hl rfl ?_ | refine x_aload_nQ hx hb d_N_after_5 hl rfl ?_
  refine m_get hx hb hts hown hK hw ci_N he1 1 (by decide) (wm1 113 rfl rfl) rfl d_N_after_6 ?_
  first | refine x_aload_n hx hb d_N_after_9 hl rfl ?_ | refine x_aload_nQ hx hb d_N_after_9 hl rfl ?_
  refine m_get hx hb hts hown hK hw ci_N he1 2 (by decide) (wm1 115 rfl rfl) rfl d_N_after_10 ?_
  refine m_callv (k_I ⟨hx, hb, hml, hown, hts⟩ hE hA hw (c_N_init he_q) (wm1 239 rfl rfl) (wm1 106 rfl rfl) (wm1 8 rfl rfl) (wm1 107 rfl rfl) rfl rfl rfl ar_N_init ⟨Nat.le_trans (Nat.le_of_ble_eq_true rfl) hR.1, Nat.le_trans (Nat.le_of_ble_eq_true rfl) hR.2.1⟩ rfl hl.1 rfl (Nat.le_of_ble_eq_true rfl) d_N_after_13 ⟨Nat.le_trans (Nat.le_of_ble_eq_true rfl) hR.2.2.1, Nat.le_trans (Nat.le_of_ble_eq_true rfl) hR.2.2.2⟩) hw (mfr_in hw hA) (fun M13 H locs hP13 hw => ?_)
  rw [hP13, mp_up_up] at hw
  have he_q := put_he hw
  have he1 := (mp_up_n (M := M) (e := .inr (3, [.int ln, .int (bz d), .ref tx, .int (nI 0), .int (-1), .null, .int (-1), .int (-1), .int (nI 0), .int (-1)])) hne).trans heB
  first | refine x_astore_n hx hb d_N_after_16 hl (Nat.le_of_ble_eq_true rfl) (lh_k (i := 1) rfl (by first | exact lk_n | exact lk_i | exact lk_r | exact lk_q | exact lk_0)) (fun ls hl => ?_) | refine x_astore_nQ hx hb d_N_after_16 hl (Nat.le_of_ble_eq_true rfl) (lh_k (i := 1) rfl (by first | exact lk_n | exact lk_i | exact lk_r | exact lk_q | exact lk_0)) (fun ls hl => ?_)
  first | refine x_aload_n hx hb d_N_after_17 hl rfl ?_ | refine x_aload_nQ hx hb d_N_after_17 hl rfl ?_
  first | refine x_aload_n hx hb d_N_after_18 hl rfl ?_ | refine x_aload_nQ hx hb d_N_after_18 hl rfl ?_
  refine m_callv (k_V ⟨hx, hb, hml, hown, hts⟩ hE hA hw (c_N_follow he_q he1 hne) (ci_N).1 rfl he_q (wm2 0 rfl rfl) (wm2 1 rfl rfl) (wm2 2 rfl rfl) (wm1 8 rfl rfl) (wm2 3 rfl rfl) rfl rfl ar_N_follow ⟨Nat.le_trans (Nat.le_of_ble_eq_true rfl) hR.1, Nat.le_trans (Nat.le_of_ble_eq_true rfl) hR.2.1⟩ rfl hl.1 rfl (Nat.le_of_ble_eq_true rfl) d_N_after_19 ⟨Nat.le_trans (Nat.le_of_ble_eq_true rfl) hR.2.2.1, Nat.le_trans (Nat.le_of_ble_eq_true rfl) hR.2.2.2⟩) hw (mfr_in hw hA) (fun M19 H locs hP19 hw => ?_)
  rw [hP19, mp_up_up] at hw
  have he_q := put_he hw
  have he1 := (mp_up_n (M := M) (e := .inr (3, [.int ln, .int (bz d), .ref tx, .int (nI (k + 1)), .int (-1), .ref a1, .int (-1), .int (-1), .int (nI 0), .int (-1)])) hne).trans heB
  first | refine x_aload_n hx hb d_N_after_22 hl rfl ?_ | refine x_aload_nQ hx hb d_N_after_22 hl rfl ?_
  first | refine x_aload_n hx hb d_N_after_23 hl rfl ?_ | refine x_aload_nQ hx hb d_N_after_23 hl rfl ?_
  refine m_get hx hb hts hown hK hw ci_N he1 9 (by decide) (wm1 133 rfl rfl) rfl d_N_after_24 ?_
  refine m_put hx hb hts hown hK hw ci_N he_q 9 (by decide) (wm1 133 rfl rfl) rfl (by first | rfl | exact nar_bz | exact nar_q) (by first | rfl | exact fit_bz | exact fit_q) (Nat.le_of_ble_eq_true rfl) d_N_after_27 (fun H locs hw => ?_)
  rw [mp_up_up] at hw
  first | refine x_aload_n hx hb d_N_after_30 hl rfl ?_ | refine x_aload_nQ hx hb d_N_after_30 hl rfl ?_
  first | exact x_retr hQ hx hb hr hlk hw (by omega) (by omega) d_N_after_31 (⟨q, rfl, hq0, rfl⟩) | exact x_retq (v := none) hQ hx hb hr hlk hw (by omega) (by omega) d_N_after_31 (⟨q, rfl, hq0, rfl⟩) | exact x_retq hQ hx hb hr hlk hw (by omega) (by omega) d_N_after_31 (⟨q, rfl, hq0, rfl⟩)

set_option maxHeartbeats 4000000 in
set_option maxRecDepth 100000 in
theorem c_Tr_put {l : Launch} {E : Ev} {M : mp_M} {sz : Nat} {a0 ar nd : Nat} {x : Int32} {f : Nat → Option Nat} {fv : List Value} (he0 : M a0 = some (.inr (1, [.ref ar]))) (hear : M ar = some (refs E f)) (hev : M nd = some (.inr (3, fv))) : MCv l E y_Tr_put prog_8_method_3_code 3 none 0 0 0 0 [.ref a0, .int x, .ref nd] M sz (fun M' => M' = mp_up M ar (refs E (tput f x (some nd)))) := by
  refine mc_of R_Tr rfl [some (.ref a0), some (.int x), some (.ref nd)] (by decide) (Nat.le_of_ble_eq_true rfl) rfl ?_
  intro p e R s m ag below meth c ls Q A X hAe hQ hR hsz hw hl
  rw [← hAe] at hQ
  obtain ⟨⟨hx, hb, hml, hown, hts⟩, hE, hA, hr, hlk, hnm⟩ := X
  have hK := hE.1
  refine x_iload_n hx hb d_Tr_put_0 hl rfl ?_
  refine lv_if_lt hx hb d_Tr_put_1 rfl (fun h1 => ?_) (fun h1 => ?_)
  · exact x_retv hQ hx hb hr hlk hw (by omega) (by omega) d_Tr_put_17 (by first | rw [tput_n hk] | (rw [tput_b (ix_lt h1)]; exact (mp_up_id hear).symm) | (rw [tput_b (ix_ge (fun z => nle_of z h7))]; exact (mp_up_id hear).symm))
  · refine x_iload_n hx hb d_Tr_put_4 hl rfl ?_
    refine lv_bipush (v := nI 125) hx hb d_Tr_put_5 (by decide) ?_
    refine lv_icmp_ge hx hb d_Tr_put_7 rfl (fun h7 => ?_) (fun h7 => ?_)
    · exact x_retv hQ hx hb hr hlk hw (by omega) (by omega) d_Tr_put_17 (by first | rw [tput_n hk] | (rw [tput_b (ix_lt h1)]; exact (mp_up_id hear).symm) | (rw [tput_b (ix_ge (fun z => nle_of z h7))]; exact (mp_up_id hear).symm))
    · obtain ⟨k, hk, rfl⟩ := nI_of3b (M := nI 125) (n := 125) (by decide) h1 h7
      first | refine x_aload_n hx hb d_Tr_put_10 hl rfl ?_ | refine x_aload_nQ hx hb d_Tr_put_10 hl rfl ?_
      refine m_get hx hb hts hown hK hw ci_Tr he0 0 (by decide) (wm1 79 rfl rfl) rfl d_Tr_put_11 ?_
      refine x_iload_n hx hb d_Tr_put_14 hl rfl ?_
      first | refine x_aload_n hx hb d_Tr_put_15 hl rfl ?_ | refine x_aload_nQ hx hb d_Tr_put_15 hl rfl ?_
      refine m_aast hx hb hK hw 0 3 hear rfl hev (ci_N).1 (by omega) (by decide) rfl d_Tr_put_16 (fun H locs hw => ?_)
      exact x_retv hQ hx hb hr hlk hw (by omega) (by omega) d_Tr_put_17 (by first | rw [tput_n hk] | (rw [tput_b (ix_lt h1)]; exact (mp_up_id hear).symm) | (rw [tput_b (ix_ge (fun z => nle_of z h7))]; exact (mp_up_id hear).symm))

set_option maxHeartbeats 4000000 in
set_option maxRecDepth 100000 in
theorem c_Tr_clear {l : Launch} {E : Ev} {M : mp_M} {sz : Nat} {a0 ar q : Nat} {f : Nat → Option Nat} (hq : q < 125) (he0 : M a0 = some (.inr (1, [.ref ar]))) (hear : M ar = some (refs E f)) : MCv l E y_Tr_clear prog_8_method_4_code 3 none 2 41 0 0 [.ref a0, .int (nI q)] M sz (fun M' => M' = mp_up M ar (refs E (trg f (fun _ => none) q 125))) := by
  refine mc_of R_Tr rfl [some (.ref a0), some (.int (nI q)), none] (by decide) (Nat.le_of_ble_eq_true rfl) rfl ?_
  intro p e R s m ag below meth c ls Q A X hAe hQ hR hsz hw hl
  rw [← hAe] at hQ
  obtain ⟨⟨hx, hb, hml, hown, hts⟩, hE, hA, hr, hlk, hnm⟩ := X
  have hK := hE.1
  have heT := he0
  have hn0 := ar_ne hear he0
  have loop : ∀ (k i : Nat) (H : Heap) (locs : List Loc) (ls : Array Slot), i + k = 125 → mw E.1 vwCl A s.heap (mp_up M ar (refs E (trg f (fun _ => none) q i))) H locs → lh ls [some (.ref a0), some (.int (nI q)), some (.int (nI i))] → W p l e R s m ag below meth c H locs 0 0 Q (F0 m 2 ls []) := by
    intro k
    induction k with
    | zero =>
      intro i H locs ls hi hw hl
      obtain rfl : i = 125 := by omega
      refine x_iload_n hx hb d_Tr_clear_2 hl rfl ?_
      refine lv_bipush (v := nI 125) hx hb d_Tr_clear_3 (by decide) ?_
      refine x_icmp_ge hx hb d_Tr_clear_5 rfl (by omega) (by omega) (fun h5 => ?_) (fun h5 => ?_)
      · exact x_retv hQ hx hb hr hlk hw (by omega) (by omega) d_Tr_clear_29 (rfl)
      · exact absurd h5 (by omega)
    | succ k ih =>
      intro i H locs ls hi hw hl
      have hear := put_he hw
      have he0 := (mp_up_n (M := M) (e := refs E (trg f (fun _ => none) q i)) hn0).trans heT
      refine x_iload_n hx hb d_Tr_clear_2 hl rfl ?_
      refine lv_bipush (v := nI 125) hx hb d_Tr_clear_3 (by decide) ?_
      refine x_icmp_ge hx hb d_Tr_clear_5 rfl (by omega) (by omega) (fun h5 => ?_) (fun h5 => ?_)
      · exact absurd h5 (by omega)
      · refine x_iload_n hx hb d_Tr_clear_8 hl rfl ?_
        refine x_iload_n hx hb d_Tr_clear_9 hl rfl ?_
        refine m_calli (k_S ⟨hx, hb, hml, hown, hts⟩ hE hA hw (c_P_under (by omega) (by omega)) (wm1 187 rfl rfl) (wm1 188 rfl rfl) (wm1 10 rfl rfl) (wm1 189 rfl rfl) rfl rfl ar_P_isAtOrBelow ⟨Nat.le_trans (Nat.le_of_ble_eq_true rfl) hR.1, Nat.le_trans (Nat.le_of_ble_eq_true rfl) hR.2.1⟩ rfl hl.1 rfl (Nat.le_of_ble_eq_true rfl) d_Tr_clear_10 ⟨Nat.le_trans (Nat.le_of_ble_eq_true rfl) hR.2.2.1, Nat.le_trans (Nat.le_of_ble_eq_true rfl) hR.2.2.2⟩) hw (mfr_in hw hA) (fun r10 M10 H locs hP10 hw => ?_)
        obtain ⟨rfl, hM10⟩ := hP10
        rw [hM10] at hw
        refine x_if_eqB hx hb d_Tr_clear_13 rfl (fun h13 => ?_) (fun h13 => ?_)
        · rw [trg_f h13] at hw
          refine x_iincN hx hb d_Tr_clear_23 hl rfl (lh_k (i := 1) rfl (by first | exact lk_n | exact lk_i | exact lk_r | exact lk_q | exact lk_0)) (fun ls hl => ?_)
          refine lv_goto hx hb d_Tr_clear_26 rfl ?_
          exact ih (i + 1) H locs ls (by omega) hw hl
        · first | refine x_aload_n hx hb d_Tr_clear_16 hl rfl ?_ | refine x_aload_nQ hx hb d_Tr_clear_16 hl rfl ?_
          refine m_get hx hb hts hown hK hw ci_Tr he0 0 (by decide) (wm1 79 rfl rfl) rfl d_Tr_clear_17 ?_
          refine x_iload_n hx hb d_Tr_clear_20 hl rfl ?_
          refine lv_null hx hb d_Tr_clear_21 ?_
          refine m_aastN hx hb hK hw 0 hear rfl (by omega) (by decide) rfl d_Tr_clear_22 (fun H locs hw => ?_)
          rw [mp_up_up, trg_t (v := fun _ => none) h13] at hw
          refine x_iincN hx hb d_Tr_clear_23 hl rfl (lh_k (i := 1) rfl (by first | exact lk_n | exact lk_i | exact lk_r | exact lk_q | exact lk_0)) (fun ls hl => ?_)
          refine lv_goto hx hb d_Tr_clear_26 rfl ?_
          exact ih (i + 1) H locs ls (by omega) hw hl
  refine lv_iconst (v := nI 0) hx hb d_Tr_clear_0 (by decide) ?_
  refine x_istore_n hx hb d_Tr_clear_1 hl (Nat.le_of_ble_eq_true rfl) (lh_k (i := 1) rfl (by first | exact lk_n | exact lk_i | exact lk_r | exact lk_q | exact lk_0)) (fun ls hl => ?_)
  exact loop 125 0 _ _ _ (by omega) (by rw [trg_0, mp_up_id hear]; exact hw) hl

set_option maxHeartbeats 4000000 in
set_option maxRecDepth 100000 in
theorem c_Tr_take {l : Launch} {E : Ev} {M : mp_M} {sz : Nat} {a0 ar a1 ar2 q : Nat} {f v : Nat → Option Nat} (hq : q < 125) (he0 : M a0 = some (.inr (1, [.ref ar]))) (hear : M ar = some (refs E f)) (he1 : M a1 = some (.inr (1, [.ref ar2]))) (hear2 : M ar2 = some (refs E v)) (hn2 : ar2 ≠ ar) (hv : ∀ j b, v j = some b → ∃ fv, M b = some (.inr (3, fv))) : MCv l E y_Tr_takeFrom prog_8_method_5_code 4 none 2 41 0 0 [.ref a0, .ref a1, .int (nI q)] M sz (fun M' => M' = mp_up M ar (refs E (trg f v q 125))) := by
  refine mc_of R_Tr rfl [some (.ref a0), some (.ref a1), some (.int (nI q)), none] (by decide) (Nat.le_of_ble_eq_true rfl) rfl ?_
  intro p e R s m ag below meth c ls Q A X hAe hQ hR hsz hw hl
  rw [← hAe] at hQ
  obtain ⟨⟨hx, hb, hml, hown, hts⟩, hE, hA, hr, hlk, hnm⟩ := X
  have hK := hE.1
  have heT := he0
  have heT1 := he1
  have heT2 := hear2
  have heT3 := hear
  have hn0 := ar_ne hear he0
  have hn1 := ar_ne hear he1
  have loop : ∀ (k i : Nat) (H : Heap) (locs : List Loc) (ls : Array Slot), i + k = 125 → mw E.1 vwCl A s.heap (mp_up M ar (refs E (trg f v q i))) H locs → lh ls [some (.ref a0), some (.ref a1), some (.int (nI q)), some (.int (nI i))] → W p l e R s m ag below meth c H locs 0 0 Q (F0 m 2 ls []) := by
    intro k
    induction k with
    | zero =>
      intro i H locs ls hi hw hl
      obtain rfl : i = 125 := by omega
      refine x_iload_n hx hb d_Tr_takeFrom_2 hl rfl ?_
      refine lv_bipush (v := nI 125) hx hb d_Tr_takeFrom_3 (by decide) ?_
      refine x_icmp_ge hx hb d_Tr_takeFrom_5 rfl (by omega) (by omega) (fun h5 => ?_) (fun h5 => ?_)
      · exact x_retv hQ hx hb hr hlk hw (by omega) (by omega) d_Tr_takeFrom_34 (rfl)
      · exact absurd h5 (by omega)
    | succ k ih =>
      intro i H locs ls hi hw hl
      have hear := put_he hw
      have he0 := (mp_up_n (M := M) (e := refs E (trg f v q i)) hn0).trans heT
      have he1 := (mp_up_n (M := M) (e := refs E (trg f v q i)) hn1).trans heT1
      have hear2 := (mp_up_n (M := M) (e := refs E (trg f v q i)) hn2).trans heT2
      have hev : ∀ b, v i = some b → ∃ fv, mp_up M ar (refs E (trg f v q i)) b = some (.inr (3, fv)) := by
        intro b hb9
        obtain ⟨fv, h9⟩ := hv i b hb9
        exact ⟨fv, (mp_up_n (ar_ne heT3 h9)).trans h9⟩
      refine x_iload_n hx hb d_Tr_takeFrom_2 hl rfl ?_
      refine lv_bipush (v := nI 125) hx hb d_Tr_takeFrom_3 (by decide) ?_
      refine x_icmp_ge hx hb d_Tr_takeFrom_5 rfl (by omega) (by omega) (fun h5 => ?_) (fun h5 => ?_)
      · exact absurd h5 (by omega)
      · refine x_iload_n hx hb d_Tr_takeFrom_8 hl rfl ?_
        refine x_iload_n hx hb d_Tr_takeFrom_9 hl rfl ?_
        refine m_calli (k_S ⟨hx, hb, hml, hown, hts⟩ hE hA hw (c_P_under (by omega) (by omega)) (wm1 187 rfl rfl) (wm1 188 rfl rfl) (wm1 10 rfl rfl) (wm1 189 rfl rfl) rfl rfl ar_P_isAtOrBelow ⟨Nat.le_trans (Nat.le_of_ble_eq_true rfl) hR.1, Nat.le_trans (Nat.le_of_ble_eq_true rfl) hR.2.1⟩ rfl hl.1 rfl (Nat.le_of_ble_eq_true rfl) d_Tr_takeFrom_10 ⟨Nat.le_trans (Nat.le_of_ble_eq_true rfl) hR.2.2.1, Nat.le_trans (Nat.le_of_ble_eq_true rfl) hR.2.2.2⟩) hw (mfr_in hw hA) (fun r10 M10 H locs hP10 hw => ?_)
        obtain ⟨rfl, hM10⟩ := hP10
        rw [hM10] at hw
        refine x_if_eqB hx hb d_Tr_takeFrom_13 rfl (fun h13 => ?_) (fun h13 => ?_)
        · rw [trg_f h13] at hw
          refine x_iincN hx hb d_Tr_takeFrom_28 hl rfl (lh_k (i := 2) rfl (by first | exact lk_n | exact lk_i | exact lk_r | exact lk_q | exact lk_0)) (fun ls hl => ?_)
          refine lv_goto hx hb d_Tr_takeFrom_31 rfl ?_
          exact ih (i + 1) H locs ls (by omega) hw hl
        · first | refine x_aload_n hx hb d_Tr_takeFrom_16 hl rfl ?_ | refine x_aload_nQ hx hb d_Tr_takeFrom_16 hl rfl ?_
          refine m_get hx hb hts hown hK hw ci_Tr he0 0 (by decide) (wm1 79 rfl rfl) rfl d_Tr_takeFrom_17 ?_
          refine x_iload_n hx hb d_Tr_takeFrom_20 hl rfl ?_
          first | refine x_aload_n hx hb d_Tr_takeFrom_21 hl rfl ?_ | refine x_aload_nQ hx hb d_Tr_takeFrom_21 hl rfl ?_
          refine m_get hx hb hts hown hK hw ci_Tr he1 0 (by decide) (wm1 79 rfl rfl) rfl d_Tr_takeFrom_22 ?_
          refine x_iload_n hx hb d_Tr_takeFrom_25 hl rfl ?_
          refine m_aald hx hb hK hw 0 hear2 rfl (by omega) (by decide) rfl d_Tr_takeFrom_26 ?_
          refine m_aastQ hx hb hK hw 0 3 hear rfl hev (ci_N).1 (by omega) (by decide) rfl d_Tr_takeFrom_27 (fun H locs hw => ?_)
          rw [mp_up_up, trg_t h13] at hw
          refine x_iincN hx hb d_Tr_takeFrom_28 hl rfl (lh_k (i := 2) rfl (by first | exact lk_n | exact lk_i | exact lk_r | exact lk_q | exact lk_0)) (fun ls hl => ?_)
          refine lv_goto hx hb d_Tr_takeFrom_31 rfl ?_
          exact ih (i + 1) H locs ls (by omega) hw hl
  refine lv_iconst (v := nI 0) hx hb d_Tr_takeFrom_0 (by decide) ?_
  refine x_istore_n hx hb d_Tr_takeFrom_1 hl (Nat.le_of_ble_eq_true rfl) (lh_k (i := 2) rfl (by first | exact lk_n | exact lk_i | exact lk_r | exact lk_q | exact lk_0)) (fun ls hl => ?_)
  exact loop 125 0 _ _ _ (by omega) (by rw [trg_0, mp_up_id hear]; exact hw) hl
