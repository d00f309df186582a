theorem d_Tr_heightOf_0 : decode prog_8_method_7_code 0 = .ok (.iload_n 1, 1) := by decide +kernel
theorem d_Tr_heightOf_1 : decode prog_8_method_7_code 1 = .ok (.invokestatic 31, 3) := by decide +kernel
theorem d_Tr_heightOf_4 : decode prog_8_method_7_code 4 = .ok (.istore_n 2, 1) := by decide +kernel
theorem d_Tr_heightOf_5 : decode prog_8_method_7_code 5 = .ok (.iconst 0, 1) := by decide +kernel
theorem d_Tr_heightOf_6 : decode prog_8_method_7_code 6 = .ok (.istore_n 3, 1) := by decide +kernel
theorem d_Tr_heightOf_7 : decode prog_8_method_7_code 7 = .ok (.iload_n 3, 1) := by decide +kernel
theorem d_Tr_heightOf_8 : decode prog_8_method_7_code 8 = .ok (.bipush 125, 2) := by decide +kernel
theorem d_Tr_heightOf_10 : decode prog_8_method_7_code 10 = .ok (.if_icmp .ge 35, 3) := by decide +kernel
theorem d_Tr_heightOf_13 : decode prog_8_method_7_code 13 = .ok (.aload_n 0, 1) := by decide +kernel
theorem d_Tr_heightOf_14 : decode prog_8_method_7_code 14 = .ok (.getfield 13, 3) := by decide +kernel
theorem d_Tr_heightOf_17 : decode prog_8_method_7_code 17 = .ok (.iload_n 3, 1) := by decide +kernel
theorem d_Tr_heightOf_18 : decode prog_8_method_7_code 18 = .ok (.aaload, 1) := by decide +kernel
theorem d_Tr_heightOf_19 : decode prog_8_method_7_code 19 = .ok (.ifnull 20, 3) := by decide +kernel
theorem d_Tr_heightOf_22 : decode prog_8_method_7_code 22 = .ok (.iload_n 3, 1) := by decide +kernel
theorem d_Tr_heightOf_23 : decode prog_8_method_7_code 23 = .ok (.iload_n 1, 1) := by decide +kernel
theorem d_Tr_heightOf_24 : decode prog_8_method_7_code 24 = .ok (.invokestatic 19, 3) := by decide +kernel
theorem d_Tr_heightOf_27 : decode prog_8_method_7_code 27 = .ok (.ifCond .eq 12, 3) := by decide +kernel
theorem d_Tr_heightOf_30 : decode prog_8_method_7_code 30 = .ok (.iload_n 2, 1) := by decide +kernel
theorem d_Tr_heightOf_31 : decode prog_8_method_7_code 31 = .ok (.iload_n 3, 1) := by decide +kernel
theorem d_Tr_heightOf_32 : decode prog_8_method_7_code 32 = .ok (.invokestatic 31, 3) := by decide +kernel
theorem d_Tr_heightOf_35 : decode prog_8_method_7_code 35 = .ok (.invokestatic 35, 3) := by decide +kernel
theorem d_Tr_heightOf_38 : decode prog_8_method_7_code 38 = .ok (.istore_n 2, 1) := by decide +kernel
theorem d_Tr_heightOf_39 : decode prog_8_method_7_code 39 = .ok (.iinc 3 1, 3) := by decide +kernel
theorem d_Tr_heightOf_42 : decode prog_8_method_7_code 42 = .ok (.goto (-35), 3) := by decide +kernel
theorem d_Tr_heightOf_45 : decode prog_8_method_7_code 45 = .ok (.iload_n 2, 1) := by decide +kernel
theorem d_Tr_heightOf_46 : decode prog_8_method_7_code 46 = .ok (.iload_n 1, 1) := by decide +kernel
theorem d_Tr_heightOf_47 : decode prog_8_method_7_code 47 = .ok (.invokestatic 31, 3) := by decide +kernel
theorem d_Tr_heightOf_50 : decode prog_8_method_7_code 50 = .ok (.isub, 1) := by decide +kernel
theorem d_Tr_heightOf_51 : decode prog_8_method_7_code 51 = .ok (.ireturn, 1) := by decide +kernel

theorem d_Tr_graft_0 : decode prog_8_method_6_code 0 = .ok (.iconst 0, 1) := by decide +kernel
theorem d_Tr_graft_1 : decode prog_8_method_6_code 1 = .ok (.istore 4, 2) := by decide +kernel
theorem d_Tr_graft_3 : decode prog_8_method_6_code 3 = .ok (.iload 4, 2) := by decide +kernel
theorem d_Tr_graft_5 : decode prog_8_method_6_code 5 = .ok (.bipush 125, 2) := by decide +kernel
theorem d_Tr_graft_7 : decode prog_8_method_6_code 7 = .ok (.if_icmp .ge 52, 3) := by decide +kernel
theorem d_Tr_graft_10 : decode prog_8_method_6_code 10 = .ok (.iload 4, 2) := by decide +kernel
theorem d_Tr_graft_12 : decode prog_8_method_6_code 12 = .ok (.iload_n 2, 1) := by decide +kernel
theorem d_Tr_graft_13 : decode prog_8_method_6_code 13 = .ok (.if_icmp .eq 40, 3) := by decide +kernel
theorem d_Tr_graft_16 : decode prog_8_method_6_code 16 = .ok (.aload_n 1, 1) := by decide +kernel
theorem d_Tr_graft_17 : decode prog_8_method_6_code 17 = .ok (.getfield 13, 3) := by decide +kernel
theorem d_Tr_graft_20 : decode prog_8_method_6_code 20 = .ok (.iload 4, 2) := by decide +kernel
theorem d_Tr_graft_22 : decode prog_8_method_6_code 22 = .ok (.aaload, 1) := by decide +kernel
theorem d_Tr_graft_23 : decode prog_8_method_6_code 23 = .ok (.ifnull 30, 3) := by decide +kernel
theorem d_Tr_graft_26 : decode prog_8_method_6_code 26 = .ok (.iload 4, 2) := by decide +kernel
theorem d_Tr_graft_28 : decode prog_8_method_6_code 28 = .ok (.iload_n 2, 1) := by decide +kernel
theorem d_Tr_graft_29 : decode prog_8_method_6_code 29 = .ok (.invokestatic 19, 3) := by decide +kernel
theorem d_Tr_graft_32 : decode prog_8_method_6_code 32 = .ok (.ifCond .eq 21, 3) := by decide +kernel
theorem d_Tr_graft_35 : decode prog_8_method_6_code 35 = .ok (.aload_n 0, 1) := by decide +kernel
theorem d_Tr_graft_36 : decode prog_8_method_6_code 36 = .ok (.iload 4, 2) := by decide +kernel
theorem d_Tr_graft_38 : decode prog_8_method_6_code 38 = .ok (.iload_n 2, 1) := by decide +kernel
theorem d_Tr_graft_39 : decode prog_8_method_6_code 39 = .ok (.iload_n 3, 1) := by decide +kernel
theorem d_Tr_graft_40 : decode prog_8_method_6_code 40 = .ok (.invokestatic 23, 3) := by decide +kernel
theorem d_Tr_graft_43 : decode prog_8_method_6_code 43 = .ok (.aload_n 1, 1) := by decide +kernel
theorem d_Tr_graft_44 : decode prog_8_method_6_code 44 = .ok (.getfield 13, 3) := by decide +kernel
theorem d_Tr_graft_47 : decode prog_8_method_6_code 47 = .ok (.iload 4, 2) := by decide +kernel
theorem d_Tr_graft_49 : decode prog_8_method_6_code 49 = .ok (.aaload, 1) := by decide +kernel
theorem d_Tr_graft_50 : decode prog_8_method_6_code 50 = .ok (.invokevirtual 27, 3) := by decide +kernel
theorem d_Tr_graft_53 : decode prog_8_method_6_code 53 = .ok (.iinc 4 1, 3) := by decide +kernel
theorem d_Tr_graft_56 : decode prog_8_method_6_code 56 = .ok (.goto (-53), 3) := by decide +kernel
theorem d_Tr_graft_59 : decode prog_8_method_6_code 59 = .ok (.return_, 1) := by decide +kernel
set_option maxHeartbeats 4000000 in
set_option maxRecDepth 100000 in
theorem c_Tr_height {l : Launch} {E : Ev} {M : mp_M} {sz : Nat} {a0 ar q : Nat} {f : Nat → Option Nat} (hq : q < 125) (he0 : M a0 = some (.inr (1, [.ref ar]))) (hear : M ar = some (refs E f)) : MCi l E y_Tr_heightOf prog_8_method_7_code 4 (some .int) 2 41 0 0 [.ref a0, .int (nI q)] M sz (fun r M' => r = nI (htf f q 125 0 (pd q) - pd q) ∧ M' = M) := by
  refine mc_of R_Tr rfl [some (.ref a0), some (.int (nI q)), none, none] (by decide) (Nat.le_of_ble_eq_true rfl) rfl ?_
  intro p e R s m ag below meth c ls Q A X hAe hQ hR hsz hw hl
  rw [← hAe] at hQ
  obtain ⟨⟨hx, hb, hml, hown, hts⟩, hE, hA, hr, hlk, hnm⟩ := X
  have hK := hE.1
  have loop : ∀ (u i b : Nat) (H : Heap) (locs : List Loc) (ls : Array Slot), i + u = 125 → pd q ≤ b → b ≤ 3 → mw E.1 vwCl A s.heap M H locs → lh ls [some (.ref a0), some (.int (nI q)), some (.int (nI b)), some (.int (nI i))] → htf f q u i b = htf f q 125 0 (pd q) → W p l e R s m ag below meth c H locs 0 0 Q (F0 m 7 ls []) := by
    intro u
    induction u with
    | zero =>
      intro i b H locs ls hi hb1 hb3 hw hl hT
      have hT : b = htf f q 125 0 (pd q) := hT
      refine x_iload_n hx hb d_Tr_heightOf_7 hl rfl ?_
      refine lv_bipush (v := nI 125) hx hb d_Tr_heightOf_8 (by decide) ?_
      refine x_icmp_ge hx hb d_Tr_heightOf_10 rfl (by omega) (by omega) (fun h10 => ?_) (fun h10 => ?_)
      · refine x_iload_n hx hb d_Tr_heightOf_45 hl rfl ?_
        refine x_iload_n hx hb d_Tr_heightOf_46 hl rfl ?_
        refine m_calli (k_S ⟨hx, hb, hml, hown, hts⟩ hE hA hw (c_P_depth (by omega)) (wm2 28 rfl rfl) (wm1 191 rfl rfl) (wm1 10 rfl rfl) (wm1 192 rfl rfl) rfl rfl ar_P_depthOf ⟨Nat.le_trans (Nat.le_of_ble_eq_true rfl) hR.1, Nat.le_trans (Nat.le_of_ble_eq_true rfl) hR.2.1⟩ rfl hl.1 rfl (Nat.le_of_ble_eq_true rfl) d_Tr_heightOf_47 ⟨Nat.le_trans (Nat.le_of_ble_eq_true rfl) hR.2.2.1, Nat.le_trans (Nat.le_of_ble_eq_true rfl) hR.2.2.2⟩) hw (mfr_in hw hA) (fun r47 M47 H locs hP47 hw => ?_)
        obtain ⟨rfl, hM47⟩ := hP47
        rw [hM47] at hw
        refine x_isub hx hb d_Tr_heightOf_50 (by omega) ?_
        exact x_reti hQ hx hb hr hlk rfl hw (by omega) (by omega) d_Tr_heightOf_51 (⟨by rw [← hT], rfl⟩)
      · exact absurd h10 (by omega)
    | succ u ih =>
      intro i b H locs ls hi hb1 hb3 hw hl hT
      rw [htf_s] at hT
      have hd9 := pd_le i
      refine x_iload_n hx hb d_Tr_heightOf_7 hl rfl ?_
      refine lv_bipush (v := nI 125) hx hb d_Tr_heightOf_8 (by decide) ?_
      refine x_icmp_ge hx hb d_Tr_heightOf_10 rfl (by omega) (by omega) (fun h10 => ?_) (fun h10 => ?_)
      · exact absurd h10 (by omega)
      · first | refine x_aload_n hx hb d_Tr_heightOf_13 hl rfl ?_ | refine x_aload_nQ hx hb d_Tr_heightOf_13 hl rfl ?_
        refine m_get hx hb hts hown hK hw ci_Tr he0 0 (by decide) (wm1 79 rfl rfl) rfl d_Tr_heightOf_14 ?_
        refine x_iload_n hx hb d_Tr_heightOf_17 hl rfl ?_
        refine m_aald hx hb hK hw 0 hear rfl (by omega) (by decide) rfl d_Tr_heightOf_18 ?_
        refine x_ifnullQ hx hb d_Tr_heightOf_19 rfl (fun h19 => ?_) (fun a19 h19 => ?_)
        · rw [if_neg (fun z => z.1 h19)] at hT
          refine x_iincN hx hb d_Tr_heightOf_39 hl rfl (lh_k (i := 2) rfl (by first | exact lk_n | exact lk_i | exact lk_r | exact lk_q | exact lk_0)) (fun ls hl => ?_)
          refine lv_goto hx hb d_Tr_heightOf_42 rfl ?_
          first | exact ih (i + 1) _ H locs ls (by omega) hb1 hb3 hw hl hT | exact ih (i + 1) _ H locs ls (by omega) (by split <;> omega) (by split <;> omega) hw hl hT
        · refine x_iload_n hx hb d_Tr_heightOf_22 hl rfl ?_
          refine x_iload_n hx hb d_Tr_heightOf_23 hl rfl ?_
          refine m_calli (k_S ⟨hx, hb, hml, hown, hts⟩ hE hA hw (c_P_under (by omega) (by omega)) (wm1 187 rfl rfl) (wm1 188 rfl rfl) (wm1 10 rfl rfl) (wm1 189 rfl rfl) rfl rfl ar_P_isAtOrBelow ⟨Nat.le_trans (Nat.le_of_ble_eq_true rfl) hR.1, Nat.le_trans (Nat.le_of_ble_eq_true rfl) hR.2.1⟩ rfl hl.1 rfl (Nat.le_of_ble_eq_true rfl) d_Tr_heightOf_24 ⟨Nat.le_trans (Nat.le_of_ble_eq_true rfl) hR.2.2.1, Nat.le_trans (Nat.le_of_ble_eq_true rfl) hR.2.2.2⟩) hw (mfr_in hw hA) (fun r24 M24 H locs hP24 hw => ?_)
          obtain ⟨rfl, hM24⟩ := hP24
          rw [hM24] at hw
          refine x_if_eqB hx hb d_Tr_heightOf_27 rfl (fun h27 => ?_) (fun h27 => ?_)
          · rw [if_neg (by rw [h27]; rintro ⟨-, z⟩; cases z)] at hT
            refine x_iincN hx hb d_Tr_heightOf_39 hl rfl (lh_k (i := 2) rfl (by first | exact lk_n | exact lk_i | exact lk_r | exact lk_q | exact lk_0)) (fun ls hl => ?_)
            refine lv_goto hx hb d_Tr_heightOf_42 rfl ?_
            first | exact ih (i + 1) _ H locs ls (by omega) hb1 hb3 hw hl hT | exact ih (i + 1) _ H locs ls (by omega) (by split <;> omega) (by split <;> omega) hw hl hT
          · rw [if_pos ⟨by rw [h19]; exact fun z => (by cases z), h27⟩] at hT
            refine x_iload_n hx hb d_Tr_heightOf_30 hl rfl ?_
            refine x_iload_n hx hb d_Tr_heightOf_31 hl rfl ?_
            refine m_calli (k_S ⟨hx, hb, hml, hown, hts⟩ hE hA hw (c_P_depth (by omega)) (wm2 28 rfl rfl) (wm1 191 rfl rfl) (wm1 10 rfl rfl) (wm1 192 rfl rfl) rfl rfl ar_P_depthOf ⟨Nat.le_trans (Nat.le_of_ble_eq_true rfl) hR.1, Nat.le_trans (Nat.le_of_ble_eq_true rfl) hR.2.1⟩ rfl hl.1 rfl (Nat.le_of_ble_eq_true rfl) d_Tr_heightOf_32 ⟨Nat.le_trans (Nat.le_of_ble_eq_true rfl) hR.2.2.1, Nat.le_trans (Nat.le_of_ble_eq_true rfl) hR.2.2.2⟩) hw (mfr_in hw hA) (fun r32 M32 H locs hP32 hw => ?_)
            obtain ⟨rfl, hM32⟩ := hP32
            rw [hM32] at hw
            refine va_mmax hx hb (hml.trans hl.1.symm) hown (hts _ (wm2 29 rfl rfl)) (hts _ (wm2 30 rfl rfl)) (hts _ (wm1 11 rfl rfl)) (hts _ (wm2 31 rfl rfl)) (Nat.le_trans (Nat.le_of_ble_eq_true rfl) hR.1) (Nat.le_trans (Nat.le_of_ble_eq_true rfl) hR.2.1) (Nat.le_trans (Nat.le_of_ble_eq_true rfl) hR.2.2.1) (Nat.le_trans (Nat.le_of_ble_eq_true rfl) hR.2.2.2) d_Tr_heightOf_35 ?_
            rw [mx (by omega) (by omega)]
            refine x_istore_n hx hb d_Tr_heightOf_38 hl (Nat.le_of_ble_eq_true rfl) (lh_k (i := 1) rfl (by first | exact lk_n | exact lk_i | exact lk_r | exact lk_q | exact lk_0)) (fun ls hl => ?_)
            refine x_iincN hx hb d_Tr_heightOf_39 hl rfl (lh_k (i := 2) rfl (by first | exact lk_n | exact lk_i | exact lk_r | exact lk_q | exact lk_0)) (fun ls hl => ?_)
            refine lv_goto hx hb d_Tr_heightOf_42 rfl ?_
            first | exact ih (i + 1) _ H locs ls (by omega) hb1 hb3 hw hl hT | exact ih (i + 1) _ H locs ls (by omega) (by split <;> omega) (by split <;> omega) hw hl hT
  refine x_iload_n hx hb d_Tr_heightOf_0 hl rfl ?_
  refine m_calli (k_S ⟨hx, hb, hml, hown, hts⟩ hE hA hw (c_P_depth (by omega)) (wm2 28 rfl rfl) (wm1 191 rfl rfl) (wm1 10 rfl rfl) (wm1 192 rfl rfl) rfl rfl ar_P_depthOf ⟨Nat.le_trans (Nat.le_of_ble_eq_true rfl) hR.1, Nat.le_trans (Nat.le_of_ble_eq_true rfl) hR.2.1⟩ rfl hl.1 rfl (Nat.le_of_ble_eq_true rfl) d_Tr_heightOf_1 ⟨Nat.le_trans (Nat.le_of_ble_eq_true rfl) hR.2.2.1, Nat.le_trans (Nat.le_of_ble_eq_true rfl) hR.2.2.2⟩) hw (mfr_in hw hA) (fun r1 M1 H locs hP1 hw => ?_)
  obtain ⟨rfl, hM1⟩ := hP1
  rw [hM1] at hw
  refine x_istore_n hx hb d_Tr_heightOf_4 hl (Nat.le_of_ble_eq_true rfl) (lh_k (i := 1) rfl (by first | exact lk_n | exact lk_i | exact lk_r | exact lk_q | exact lk_0)) (fun ls hl => ?_)
  refine lv_iconst (v := nI 0) hx hb d_Tr_heightOf_5 (by decide) ?_
  refine x_istore_n hx hb d_Tr_heightOf_6 hl (Nat.le_of_ble_eq_true rfl) (lh_k (i := 2) rfl (by first | exact lk_n | exact lk_i | exact lk_r | exact lk_q | exact lk_0)) (fun ls hl => ?_)
  exact loop 125 0 (pd q) _ _ _ (by omega) (by omega) (pd_le q) hw hl rfl

set_option maxHeartbeats 1000000 in
set_option maxRecDepth 100000 in
theorem c_Tr_graft {l : Launch} {E : Ev} {M : mp_M} {sz : Nat} {a0 ar a1 ar2 f g : Nat} {u0 v : Nat → Option Nat} (hf : f < 125) (hg : g < 125) (he0 : M a0 = some (.inr (1, [.ref ar]))) (hear : M ar = some (refs E u0)) (he1 : M a1 = some (.inr (1, [.ref ar2]))) (hear2 : M ar2 = some (refs E v)) (hn2 : ar2 ≠ ar) (hv : ∀ j b, v j = some b → ∃ fv, M b = some (.inr (3, fv))) : MCv l E y_Tr_graft prog_8_method_6_code 5 none 2 42 0 0 [.ref a0, .ref a1, .int (nI f), .int (nI g)] M sz (fun M' => M' = mp_up M ar (refs E (grf v f g 125 0 u0))) := by
  refine mc_of R_Tr rfl [some (.ref a0), some (.ref a1), some (.int (nI f)), some (.int (nI g)), none] (by decide) (Nat.le_of_ble_eq_true rfl) rfl ?_
  intro p e R s m ag below meth c ls Q A X hAe hQ hR hsz hw hl
  rw [← hAe] at hQ
  obtain ⟨⟨hx, hb, hml, hown, hts⟩, hE, hA, hr, hlk, hnm⟩ := X
  have hK := hE.1
  obtain ⟨F, hF⟩ : ∃ F, F = grf v f g 125 0 u0 := ⟨_, rfl⟩
  rw [← hF] at hQ
  have heT := he0
  have heT1 := he1
  have heT2 := hear2
  have heT3 := hear
  have hn0 := ar_ne hear he0
  have hn1 := ar_ne hear he1
  have loop : ∀ (n w : Nat) (u : Nat → Option Nat) (H : Heap) (locs : List Loc) (ls : Array Slot), w + n = 125 → mw E.1 vwCl A s.heap (mp_up M ar (refs E u)) H locs → lh ls [some (.ref a0), some (.ref a1), some (.int (nI f)), some (.int (nI g)), some (.int (nI w))] → grf v f g n w u = F → W p l e R s m ag below meth c H locs 0 0 Q (F0 m 3 ls []) := by
    intro n
    induction n with
    | zero =>
      intro w u H locs ls hi hw hl hT
      rw [grf_0] at hT
      refine x_iload hx hb d_Tr_graft_3 hl rfl ?_
      refine lv_bipush (v := nI 125) hx hb d_Tr_graft_5 (by decide) ?_
      refine x_icmp_ge hx hb d_Tr_graft_7 rfl (by omega) (by omega) (fun h7 => ?_) (fun h7 => ?_)
      · exact x_retv hQ hx hb hr hlk hw (by omega) (by omega) d_Tr_graft_59 (by rw [hT])
      · exact absurd h7 (by omega)
    | succ n ih =>
      intro w u H locs ls hi hw hl hT
      rw [grf_s] at hT
      have hear := put_he hw
      have he0 := (mp_up_n (M := M) (e := refs E u) hn0).trans heT
      have he1 := (mp_up_n (M := M) (e := refs E u) hn1).trans heT1
      have hear2 := (mp_up_n (M := M) (e := refs E u) hn2).trans heT2
      refine x_iload hx hb d_Tr_graft_3 hl rfl ?_
      refine lv_bipush (v := nI 125) hx hb d_Tr_graft_5 (by decide) ?_
      refine x_icmp_ge hx hb d_Tr_graft_7 rfl (by omega) (by omega) (fun h7 => ?_) (fun h7 => ?_)
      · exact absurd h7 (by omega)
      · refine x_iload hx hb d_Tr_graft_10 hl rfl ?_
        refine x_iload_n hx hb d_Tr_graft_12 hl rfl ?_
        refine x_icmp_eq hx hb d_Tr_graft_13 rfl (by omega) (by omega) (fun h13 => ?_) (fun h13 => ?_)
        · rw [if_neg (fun z => z.1 h13)] at hT
          refine x_iincN hx hb d_Tr_graft_53 hl rfl (lh_k (i := 3) rfl (by first | exact lk_n | exact lk_i | exact lk_r | exact lk_q | exact lk_0)) (fun ls hl => ?_)
          refine lv_goto hx hb d_Tr_graft_56 rfl ?_
          exact ih (w + 1) _ H locs ls (by omega) hw hl hT
        · first | refine x_aload_n hx hb d_Tr_graft_16 hl rfl ?_ | refine x_aload_nQ hx hb d_Tr_graft_16 hl rfl ?_
          refine m_get hx hb hts hown hK hw ci_Tr he1 0 (by decide) (wm1 79 rfl rfl) rfl d_Tr_graft_17 ?_
          refine x_iload hx hb d_Tr_graft_20 hl rfl ?_
          refine m_aald hx hb hK hw 0 hear2 rfl (by omega) (by decide) rfl d_Tr_graft_22 ?_
          refine x_ifnullQ hx hb d_Tr_graft_23 rfl (fun h23 => ?_) (fun a23 h23 => ?_)
          · rw [if_neg (fun z => z.2.1 h23)] at hT
            refine x_iincN hx hb d_Tr_graft_53 hl rfl (lh_k (i := 3) rfl (by first | exact lk_n | exact lk_i | exact lk_r | exact lk_q | exact lk_0)) (fun ls hl => ?_)
            refine lv_goto hx hb d_Tr_graft_56 rfl ?_
            exact ih (w + 1) _ H locs ls (by omega) hw hl hT
          · refine x_iload hx hb d_Tr_graft_26 hl rfl ?_
            refine x_iload_n hx hb d_Tr_graft_28 hl rfl ?_
            refine m_calli (k_S ⟨hx, hb, hml, hown, hts⟩ hE hA hw (c_P_under (by omega) (by omega)) (wm1 187 rfl rfl) (wm1 188 rfl rfl) (wm1 10 rfl rfl) (wm1 189 rfl rfl) rfl rfl ar_P_isAtOrBelow ⟨Nat.le_trans (Nat.le_of_ble_eq_true rfl) hR.1, Nat.le_trans (Nat.le_of_ble_eq_true rfl) hR.2.1⟩ rfl hl.1 rfl (Nat.le_of_ble_eq_true rfl) d_Tr_graft_29 ⟨Nat.le_trans (Nat.le_of_ble_eq_true rfl) hR.2.2.1, Nat.le_trans (Nat.le_of_ble_eq_true rfl) hR.2.2.2⟩) hw (mfr_in hw hA) (fun r29 M29 H locs hP29 hw => ?_)
            obtain ⟨rfl, hM29⟩ := hP29
            rw [hM29] at hw
            refine x_if_eqB hx hb d_Tr_graft_32 rfl (fun h32 => ?_) (fun h32 => ?_)
            · rw [if_neg (by rw [h32]; rintro ⟨-, -, z⟩; cases z)] at hT
              refine x_iincN hx hb d_Tr_graft_53 hl rfl (lh_k (i := 3) rfl (by first | exact lk_n | exact lk_i | exact lk_r | exact lk_q | exact lk_0)) (fun ls hl => ?_)
              refine lv_goto hx hb d_Tr_graft_56 rfl ?_
              exact ih (w + 1) _ H locs ls (by omega) hw hl hT
            · rw [if_pos ⟨h13, by rw [h23]; exact fun z => (by cases z), h32⟩] at hT
              obtain ⟨fv, h9⟩ := hv w a23 h23
              have hev := (mp_up_n (M := M) (e := refs E u) (ar_ne heT3 h9)).trans h9
              first | refine x_aload_n hx hb d_Tr_graft_35 hl rfl ?_ | refine x_aload_nQ hx hb d_Tr_graft_35 hl rfl ?_
              refine x_iload hx hb d_Tr_graft_36 hl rfl ?_
              refine x_iload_n hx hb d_Tr_graft_38 hl rfl ?_
              refine x_iload_n hx hb d_Tr_graft_39 hl rfl ?_
              refine m_calli (k_S ⟨hx, hb, hml, hown, hts⟩ hE hA hw (c_P_moved (by omega) (by omega) (by omega)) (wm2 37 rfl rfl) (wm2 38 rfl rfl) (wm1 10 rfl rfl) (wm2 39 rfl rfl) rfl rfl ar_P_moved ⟨Nat.le_trans (Nat.le_of_ble_eq_true rfl) hR.1, Nat.le_trans (Nat.le_of_ble_eq_true rfl) hR.2.1⟩ rfl hl.1 rfl (Nat.le_of_ble_eq_true rfl) d_Tr_graft_40 ⟨Nat.le_trans (Nat.le_of_ble_eq_true rfl) hR.2.2.1, Nat.le_trans (Nat.le_of_ble_eq_true rfl) hR.2.2.2⟩) hw (mfr_in hw hA) (fun r40 M40 H locs hP40 hw => ?_)
              obtain ⟨rfl, hM40⟩ := hP40
              rw [hM40] at hw
              first | refine x_aload_n hx hb d_Tr_graft_43 hl rfl ?_ | refine x_aload_nQ hx hb d_Tr_graft_43 hl rfl ?_
              refine m_get hx hb hts hown hK hw ci_Tr he1 0 (by decide) (wm1 79 rfl rfl) rfl d_Tr_graft_44 ?_
              refine x_iload hx hb d_Tr_graft_47 hl rfl ?_
              refine m_aald hx hb hK hw 0 hear2 rfl (by omega) (by decide) rfl d_Tr_graft_49 ?_
              rw [h23]
              refine m_callv (k_V ⟨hx, hb, hml, hown, hts⟩ hE hA hw (c_Tr_put (nd := a23) he0 hear hev) (ci_Tr).1 rfl he0 (wm2 40 rfl rfl) (wm1 157 rfl rfl) (wm1 158 rfl rfl) (wm1 6 rfl rfl) (wm1 159 rfl rfl) rfl rfl ar_Tr_put ⟨Nat.le_trans (Nat.le_of_ble_eq_true rfl) hR.1, Nat.le_trans (Nat.le_of_ble_eq_true rfl) hR.2.1⟩ rfl hl.1 rfl (Nat.le_of_ble_eq_true rfl) d_Tr_graft_50 ⟨Nat.le_trans (Nat.le_of_ble_eq_true rfl) hR.2.2.1, Nat.le_trans (Nat.le_of_ble_eq_true rfl) hR.2.2.2⟩) hw (mfr_in hw hA) (fun M50 H locs hP50 hw => ?_)
              rw [hP50, mp_up_up] at hw
              rw [h23] at hT
              refine x_iincN hx hb d_Tr_graft_53 hl rfl (lh_k (i := 3) rfl (by first | exact lk_n | exact lk_i | exact lk_r | exact lk_q | exact lk_0)) (fun ls hl => ?_)
              refine lv_goto hx hb d_Tr_graft_56 rfl ?_
              exact ih (w + 1) _ H locs ls (by omega) hw hl hT
  refine lv_iconst (v := nI 0) hx hb d_Tr_graft_0 (by decide) ?_
  refine x_istore hx hb d_Tr_graft_1 hl (Nat.le_of_ble_eq_true rfl) (lh_k (i := 3) rfl (by first | exact lk_n | exact lk_i | exact lk_r | exact lk_q | exact lk_0)) (fun ls hl => ?_)
  exact loop 125 0 u0 _ _ _ (by omega) (by rw [mp_up_id heT3]; exact hw) hl hF.symm
