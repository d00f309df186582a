theorem d_M_touch_0 : decode prog_10_method_14_code 0 = .ok (.iload_n 2, 1) := by decide +kernel
theorem d_M_touch_1 : decode prog_10_method_14_code 1 = .ok (.istore_n 3, 1) := by decide +kernel
theorem d_M_touch_2 : decode prog_10_method_14_code 2 = .ok (.iload_n 2, 1) := by decide +kernel
theorem d_M_touch_3 : decode prog_10_method_14_code 3 = .ok (.invokestatic 69, 3) := by decide +kernel
theorem d_M_touch_6 : decode prog_10_method_14_code 6 = .ok (.istore 4, 2) := by decide +kernel
theorem d_M_touch_8 : decode prog_10_method_14_code 8 = .ok (.iload 4, 2) := by decide +kernel
theorem d_M_touch_10 : decode prog_10_method_14_code 10 = .ok (.ifCond .lt 68, 3) := by decide +kernel
theorem d_M_touch_13 : decode prog_10_method_14_code 13 = .ok (.aload_n 0, 1) := by decide +kernel
theorem d_M_touch_14 : decode prog_10_method_14_code 14 = .ok (.bipush 16, 2) := by decide +kernel
theorem d_M_touch_16 : decode prog_10_method_14_code 16 = .ok (.iload_n 1, 1) := by decide +kernel
theorem d_M_touch_17 : decode prog_10_method_14_code 17 = .ok (.iadd, 1) := by decide +kernel
theorem d_M_touch_18 : decode prog_10_method_14_code 18 = .ok (.iload_n 3, 1) := by decide +kernel
theorem d_M_touch_19 : decode prog_10_method_14_code 19 = .ok (.invokevirtual 87, 3) := by decide +kernel
theorem d_M_touch_22 : decode prog_10_method_14_code 22 = .ok (.istore 5, 2) := by decide +kernel
theorem d_M_touch_24 : decode prog_10_method_14_code 24 = .ok (.aload_n 0, 1) := by decide +kernel
theorem d_M_touch_25 : decode prog_10_method_14_code 25 = .ok (.getfield 41, 3) := by decide +kernel
theorem d_M_touch_28 : decode prog_10_method_14_code 28 = .ok (.iload 5, 2) := by decide +kernel
theorem d_M_touch_30 : decode prog_10_method_14_code 30 = .ok (.baload, 1) := by decide +kernel
theorem d_M_touch_31 : decode prog_10_method_14_code 31 = .ok (.ifCond .lt 27, 3) := by decide +kernel
theorem d_M_touch_34 : decode prog_10_method_14_code 34 = .ok (.aload_n 0, 1) := by decide +kernel
theorem d_M_touch_35 : decode prog_10_method_14_code 35 = .ok (.iload_n 1, 1) := by decide +kernel
theorem d_M_touch_36 : decode prog_10_method_14_code 36 = .ok (.aload_n 0, 1) := by decide +kernel
theorem d_M_touch_37 : decode prog_10_method_14_code 37 = .ok (.getfield 21, 3) := by decide +kernel
theorem d_M_touch_40 : decode prog_10_method_14_code 40 = .ok (.iload 5, 2) := by decide +kernel
theorem d_M_touch_42 : decode prog_10_method_14_code 42 = .ok (.baload, 1) := by decide +kernel
theorem d_M_touch_43 : decode prog_10_method_14_code 43 = .ok (.iload 5, 2) := by decide +kernel
theorem d_M_touch_45 : decode prog_10_method_14_code 45 = .ok (.invokevirtual 91, 3) := by decide +kernel
theorem d_M_touch_48 : decode prog_10_method_14_code 48 = .ok (.istore 6, 2) := by decide +kernel
theorem d_M_touch_50 : decode prog_10_method_14_code 50 = .ok (.aload_n 0, 1) := by decide +kernel
theorem d_M_touch_51 : decode prog_10_method_14_code 51 = .ok (.iload_n 1, 1) := by decide +kernel
theorem d_M_touch_52 : decode prog_10_method_14_code 52 = .ok (.iload_n 3, 1) := by decide +kernel
theorem d_M_touch_53 : decode prog_10_method_14_code 53 = .ok (.iload 6, 2) := by decide +kernel
theorem d_M_touch_55 : decode prog_10_method_14_code 55 = .ok (.invokevirtual 95, 3) := by decide +kernel
theorem d_M_touch_58 : decode prog_10_method_14_code 58 = .ok (.iload 4, 2) := by decide +kernel
theorem d_M_touch_60 : decode prog_10_method_14_code 60 = .ok (.ifCond .le 10, 3) := by decide +kernel
theorem d_M_touch_63 : decode prog_10_method_14_code 63 = .ok (.iload_n 3, 1) := by decide +kernel
theorem d_M_touch_64 : decode prog_10_method_14_code 64 = .ok (.invokestatic 99, 3) := by decide +kernel
theorem d_M_touch_67 : decode prog_10_method_14_code 67 = .ok (.goto 4, 3) := by decide +kernel
theorem d_M_touch_70 : decode prog_10_method_14_code 70 = .ok (.iconst 0, 1) := by decide +kernel
theorem d_M_touch_71 : decode prog_10_method_14_code 71 = .ok (.istore_n 3, 1) := by decide +kernel
theorem d_M_touch_72 : decode prog_10_method_14_code 72 = .ok (.iinc 4 (-1), 3) := by decide +kernel
theorem d_M_touch_75 : decode prog_10_method_14_code 75 = .ok (.goto (-67), 3) := by decide +kernel
theorem d_M_touch_78 : decode prog_10_method_14_code 78 = .ok (.return_, 1) := by decide +kernel

theorem d_M_room_0 : decode prog_10_method_15_code 0 = .ok (.aload_n 0, 1) := by decide +kernel
theorem d_M_room_1 : decode prog_10_method_15_code 1 = .ok (.iload_n 1, 1) := by decide +kernel
theorem d_M_room_2 : decode prog_10_method_15_code 2 = .ok (.invokevirtual 102, 3) := by decide +kernel
theorem d_M_room_5 : decode prog_10_method_15_code 5 = .ok (.ifCond .eq 26, 3) := by decide +kernel
theorem d_M_room_8 : decode prog_10_method_15_code 8 = .ok (.iload_n 2, 1) := by decide +kernel
theorem d_M_room_9 : decode prog_10_method_15_code 9 = .ok (.invokestatic 79, 3) := by decide +kernel
theorem d_M_room_12 : decode prog_10_method_15_code 12 = .ok (.ifCond .eq 19, 3) := by decide +kernel
theorem d_M_room_15 : decode prog_10_method_15_code 15 = .ok (.iload_n 2, 1) := by decide +kernel
theorem d_M_room_16 : decode prog_10_method_15_code 16 = .ok (.ifCond .eq 15, 3) := by decide +kernel
theorem d_M_room_19 : decode prog_10_method_15_code 19 = .ok (.aload_n 0, 1) := by decide +kernel
theorem d_M_room_20 : decode prog_10_method_15_code 20 = .ok (.bipush 16, 2) := by decide +kernel
theorem d_M_room_22 : decode prog_10_method_15_code 22 = .ok (.iload_n 1, 1) := by decide +kernel
theorem d_M_room_23 : decode prog_10_method_15_code 23 = .ok (.iadd, 1) := by decide +kernel
theorem d_M_room_24 : decode prog_10_method_15_code 24 = .ok (.iload_n 2, 1) := by decide +kernel
theorem d_M_room_25 : decode prog_10_method_15_code 25 = .ok (.invokevirtual 87, 3) := by decide +kernel
theorem d_M_room_28 : decode prog_10_method_15_code 28 = .ok (.ifCond .le 5, 3) := by decide +kernel
theorem d_M_room_31 : decode prog_10_method_15_code 31 = .ok (.iconst 0, 1) := by decide +kernel
theorem d_M_room_32 : decode prog_10_method_15_code 32 = .ok (.ireturn, 1) := by decide +kernel
theorem d_M_room_33 : decode prog_10_method_15_code 33 = .ok (.aload_n 0, 1) := by decide +kernel
theorem d_M_room_34 : decode prog_10_method_15_code 34 = .ok (.bipush 16, 2) := by decide +kernel
theorem d_M_room_36 : decode prog_10_method_15_code 36 = .ok (.iload_n 1, 1) := by decide +kernel
theorem d_M_room_37 : decode prog_10_method_15_code 37 = .ok (.iadd, 1) := by decide +kernel
theorem d_M_room_38 : decode prog_10_method_15_code 38 = .ok (.iload_n 2, 1) := by decide +kernel
theorem d_M_room_39 : decode prog_10_method_15_code 39 = .ok (.invokestatic 99, 3) := by decide +kernel
theorem d_M_room_42 : decode prog_10_method_15_code 42 = .ok (.invokevirtual 87, 3) := by decide +kernel
theorem d_M_room_45 : decode prog_10_method_15_code 45 = .ok (.istore_n 3, 1) := by decide +kernel
theorem d_M_room_46 : decode prog_10_method_15_code 46 = .ok (.iload_n 3, 1) := by decide +kernel
theorem d_M_room_47 : decode prog_10_method_15_code 47 = .ok (.ifCond .le 17, 3) := by decide +kernel
theorem d_M_room_50 : decode prog_10_method_15_code 50 = .ok (.aload_n 0, 1) := by decide +kernel
theorem d_M_room_51 : decode prog_10_method_15_code 51 = .ok (.getfield 21, 3) := by decide +kernel
theorem d_M_room_54 : decode prog_10_method_15_code 54 = .ok (.iload_n 3, 1) := by decide +kernel
theorem d_M_room_55 : decode prog_10_method_15_code 55 = .ok (.baload, 1) := by decide +kernel
theorem d_M_room_56 : decode prog_10_method_15_code 56 = .ok (.iconst 1, 1) := by decide +kernel
theorem d_M_room_57 : decode prog_10_method_15_code 57 = .ok (.if_icmp .ne 7, 3) := by decide +kernel
theorem d_M_room_60 : decode prog_10_method_15_code 60 = .ok (.iconst 1, 1) := by decide +kernel
theorem d_M_room_61 : decode prog_10_method_15_code 61 = .ok (.goto 4, 3) := by decide +kernel
theorem d_M_room_64 : decode prog_10_method_15_code 64 = .ok (.iconst 0, 1) := by decide +kernel
theorem d_M_room_65 : decode prog_10_method_15_code 65 = .ok (.ireturn, 1) := by decide +kernel
theorem c_M_atN {l : Launch} {E : Ev} {σ : SS} {ad : Nat → Nat} (hI : rfI ad) (hB : rB σ) {sz : Nat} {k q : Nat} (hk : k < 19) (hq : q < 125) : MCi l E y_M_at prog_10_method_8_code 3 (some .int) 1 21 0 0 [.ref (ad 0), .int (nI k), .int (nI q)] (rfM E σ ad) sz (fun r M' => (r = nI (rat σ k q) ∧ rat σ k q < 32768) ∧ M' = rfM E σ ad) := by
  have h := c_M_at (l := l) (E := E) (sz := sz) (x := nI q) hI hB hk
  rw [ix_n hq] at h
  exact h

set_option maxHeartbeats 4000000 in
set_option maxRecDepth 100000 in
theorem c_M_touch {l : Launch} {E : Ev} {σ : SS} {ad : Nat → Nat} (hI : rfI ad) (hB : rB σ) {sz : Nat} {t n0 : Nat} (ht : t < 3) (hn0 : n0 < 125) (htk : tok (pd n0) σ t n0) : MCv l E y_M_touch prog_10_method_14_code 7 none 2 43 0 0 [.ref (ad 0), .int (nI t), .int (nI n0)] (rfM E σ ad) sz (fun M' => M' = rfM E (tch (pd n0) σ t n0) ad ∧ rB (tch (pd n0) σ t n0)) := by
  refine mc_of R_M rfl [some (.ref (ad 0)), some (.int (nI t)), some (.int (nI n0)), none, none, none, none] (by decide) (Nat.le_of_ble_eq_true rfl) rfl ?_
  intro p e R s m ag below meth c ls Q A X hAe hQ hR hsz hw hl
  rw [← hAe] at hQ
  obtain ⟨⟨hx, hb, hml, hown, hts⟩, hE, hA, hr, hlk, hnm⟩ := X
  have hK := hE.1
  have loop : ∀ (n : Nat) (τ : SS) (q : Nat) (H : Heap) (locs : List Loc) (ls : Array Slot), n ≤ 3 → rB τ → tok n τ t q → mw E.1 vwCl A s.heap (rfM E τ ad) H locs → lh ls [some (.ref (ad 0)), some (.int (nI t)), some (.int (nI n0)), some (.int (nI q)), some (.int (nI n)), none, none] → tch n τ t q = tch (pd n0) σ t n0 → W p l e R s m ag below meth c H locs 0 0 Q (F0 m 8 ls []) := by
    intro n
    induction n with
    | zero =>
      intro τ q H locs ls hn3 hB htk hw hl hT
      obtain ⟨hq, ho1, ho2, ho3, ho4⟩ := htk
      refine x_iload hx hb d_M_touch_8 hl rfl ?_
      refine x_if_lt hx hb d_M_touch_10 rfl (by omega) ?_
      first | refine x_aload_n hx hb d_M_touch_13 hl rfl ?_ | refine x_aload_nQ hx hb d_M_touch_13 hl rfl ?_
      refine lv_bipush (v := nI 16) hx hb d_M_touch_14 (by decide) ?_
      refine x_iload_n hx hb d_M_touch_16 hl rfl ?_
      first | refine x_iadd hx hb d_M_touch_17 ?_ | refine lv_iadd hx hb d_M_touch_17 ?_
      refine x_iload_n hx hb d_M_touch_18 hl rfl ?_
      refine m_calli (k_V ⟨hx, hb, hml, hown, hts⟩ hE hA hw (c_M_atN hI hB (by omega) (by omega)) (ci_M).1 rfl (rf_at hI 0 (by decide) rfl) (wm3 164 rfl rfl) (wm3 166 rfl rfl) (wmp2 7 rfl) (wm1 9 rfl rfl) (wm3 167 rfl rfl) rfl rfl ar_M_at ⟨Nat.le_trans (Nat.le_of_ble_eq_true rfl) hR.1, Nat.le_trans (Nat.le_of_ble_eq_true rfl) hR.2.1⟩ rfl hl.1 rfl (Nat.le_of_ble_eq_true rfl) d_M_touch_19 ⟨Nat.le_trans (Nat.le_of_ble_eq_true rfl) hR.2.2.1, Nat.le_trans (Nat.le_of_ble_eq_true rfl) hR.2.2.2⟩) hw (mfr_in hw hA) (fun r19 M19 H locs hP19 hw => ?_)
      obtain ⟨⟨rfl, hb19⟩, hM19⟩ := hP19
      rw [hM19] at hw
      refine x_istore hx hb d_M_touch_22 hl (Nat.le_of_ble_eq_true rfl) (lh_k (i := 4) rfl (by first | exact lk_n | exact lk_i | exact lk_r | exact lk_q | exact lk_0)) (fun ls hl => ?_)
      first | refine x_aload_n hx hb d_M_touch_24 hl rfl ?_ | refine x_aload_nQ hx hb d_M_touch_24 hl rfl ?_
      refine m_get hx hb hts hown hK hw ci_M (rf_at hI 0 (by decide) rfl) 12 (by decide) (wm3 84 rfl rfl) rfl d_M_touch_25 ?_
      refine x_iload hx hb d_M_touch_28 hl rfl ?_
      refine rl_12 hx hb hK hI hB hw (by omega) d_M_touch_30 (fun hv30 => ?_)
      refine lv_if_lt hx hb d_M_touch_31 rfl (fun h31 => ?_) (fun h31 => ?_)
      · have h31 := (bI_lt ho3).mp h31
        have htt : tst τ t q = τ := if_neg (by omega)
        refine x_iload hx hb d_M_touch_58 hl rfl ?_
        refine x_if_le hx hb d_M_touch_60 rfl (by omega) (fun h60 => ?_) (fun h60 => ?_)
        · refine lv_iconst (v := nI 0) hx hb d_M_touch_70 (by decide) ?_
          refine x_istore_n hx hb d_M_touch_71 hl (Nat.le_of_ble_eq_true rfl) (lh_k (i := 2) rfl (by first | exact lk_n | exact lk_i | exact lk_r | exact lk_q | exact lk_0)) (fun ls hl => ?_)
          refine x_iinc hx hb d_M_touch_72 hl rfl dec_0 (lh_k (i := 3) rfl (by first | exact lk_n | exact lk_i)) (fun ls hl => ?_)
          refine lv_goto hx hb d_M_touch_75 rfl ?_
          rw [← htt] at hw
          rw [← htt] at hB
          refine x_iload hx hb d_M_touch_8 hl rfl ?_
          refine lv_if_lt hx hb d_M_touch_10 rfl (fun _ => ?_) (fun h => absurd (by decide) h)
          exact x_retv hQ hx hb hr hlk hw (by omega) (by omega) d_M_touch_78 (by rw [← hT]; exact ⟨rfl, hB⟩)
        · exact absurd h60 (by omega)
      · have h31 : ¬ 128 ≤ τ 12 (rat τ (16 + t) q) := fun z => h31 ((bI_lt ho3).mpr z)
        obtain ⟨g1, g2, g3, g4⟩ := ho4 (by omega)
        have htt : tst τ t q = plc (nod1 τ t (τ 6 (rat τ (16 + t) q)) (rat τ (16 + t) q)) t q (τ 4 0 + 1) := if_pos (by omega)
        first | refine x_aload_n hx hb d_M_touch_34 hl rfl ?_ | refine x_aload_nQ hx hb d_M_touch_34 hl rfl ?_
        refine x_iload_n hx hb d_M_touch_35 hl rfl ?_
        first | refine x_aload_n hx hb d_M_touch_36 hl rfl ?_ | refine x_aload_nQ hx hb d_M_touch_36 hl rfl ?_
        refine m_get hx hb hts hown hK hw ci_M (rf_at hI 0 (by decide) rfl) 6 (by decide) (wm3 78 rfl rfl) rfl d_M_touch_37 ?_
        refine x_iload hx hb d_M_touch_40 hl rfl ?_
        refine rl_6 hx hb hK hI hB hw (by omega) d_M_touch_42 (fun hv42 => ?_)
        refine x_iload hx hb d_M_touch_43 hl rfl ?_
        refine m_calli (k_V ⟨hx, hb, hml, hown, hts⟩ hE hA hw (c_M_node1 hI hB (by omega) (by omega) (by omega) (by omega) (by omega) (by omega) (by omega)) (ci_M).1 rfl (rf_at hI 0 (by decide) rfl) (wm3 177 rfl rfl) (wm3 179 rfl rfl) (wmp2 8 rfl) (wm1 9 rfl rfl) (wm3 180 rfl rfl) rfl rfl ar_M_node ⟨Nat.le_trans (Nat.le_of_ble_eq_true rfl) hR.1, Nat.le_trans (Nat.le_of_ble_eq_true rfl) hR.2.1⟩ rfl hl.1 rfl (Nat.le_of_ble_eq_true rfl) d_M_touch_45 ⟨Nat.le_trans (Nat.le_of_ble_eq_true rfl) hR.2.2.1, Nat.le_trans (Nat.le_of_ble_eq_true rfl) hR.2.2.2⟩) hw (mfr_in hw hA) (fun r45 M45 H locs hP45 hw => ?_)
        obtain ⟨rfl, hM45, hB⟩ := hP45
        rw [hM45] at hw
        refine x_istore hx hb d_M_touch_48 hl (Nat.le_of_ble_eq_true rfl) (lh_k (i := 5) rfl (by first | exact lk_n | exact lk_i | exact lk_r | exact lk_q | exact lk_0)) (fun ls hl => ?_)
        first | refine x_aload_n hx hb d_M_touch_50 hl rfl ?_ | refine x_aload_nQ hx hb d_M_touch_50 hl rfl ?_
        refine x_iload_n hx hb d_M_touch_51 hl rfl ?_
        refine x_iload_n hx hb d_M_touch_52 hl rfl ?_
        refine x_iload hx hb d_M_touch_53 hl rfl ?_
        refine m_callv (k_V ⟨hx, hb, hml, hown, hts⟩ hE hA hw (c_M_place hI hB (by omega) (by omega) (by omega)) (ci_M).1 rfl (rf_at hI 0 (by decide) rfl) (wm3 181 rfl rfl) (wm3 183 rfl rfl) (wmp2 9 rfl) (wm1 9 rfl rfl) (wm3 184 rfl rfl) rfl rfl ar_M_place ⟨Nat.le_trans (Nat.le_of_ble_eq_true rfl) hR.1, Nat.le_trans (Nat.le_of_ble_eq_true rfl) hR.2.1⟩ rfl hl.1 rfl (Nat.le_of_ble_eq_true rfl) d_M_touch_55 ⟨Nat.le_trans (Nat.le_of_ble_eq_true rfl) hR.2.2.1, Nat.le_trans (Nat.le_of_ble_eq_true rfl) hR.2.2.2⟩) hw (mfr_in hw hA) (fun M55 H locs hP55 hw => ?_)
        obtain ⟨hM55, hB⟩ := hP55
        rw [hM55] at hw
        refine x_iload hx hb d_M_touch_58 hl rfl ?_
        refine x_if_le hx hb d_M_touch_60 rfl (by omega) (fun h60 => ?_) (fun h60 => ?_)
        · refine lv_iconst (v := nI 0) hx hb d_M_touch_70 (by decide) ?_
          refine x_istore_n hx hb d_M_touch_71 hl (Nat.le_of_ble_eq_true rfl) (lh_k (i := 2) rfl (by first | exact lk_n | exact lk_i | exact lk_r | exact lk_q | exact lk_0)) (fun ls hl => ?_)
          refine x_iinc hx hb d_M_touch_72 hl rfl dec_0 (lh_k (i := 3) rfl (by first | exact lk_n | exact lk_i)) (fun ls hl => ?_)
          refine lv_goto hx hb d_M_touch_75 rfl ?_
          rw [← htt] at hw
          rw [← htt] at hB
          refine x_iload hx hb d_M_touch_8 hl rfl ?_
          refine lv_if_lt hx hb d_M_touch_10 rfl (fun _ => ?_) (fun h => absurd (by decide) h)
          exact x_retv hQ hx hb hr hlk hw (by omega) (by omega) d_M_touch_78 (by rw [← hT]; exact ⟨rfl, hB⟩)
        · exact absurd h60 (by omega)
    | succ n ih =>
      intro τ q H locs ls hn3 hB htk hw hl hT
      obtain ⟨hq, ho1, ho2, ho3, ho4⟩ := htk.1.1
      have hq0 := pos_of_pd htk.1.2
      refine x_iload hx hb d_M_touch_8 hl rfl ?_
      refine x_if_lt hx hb d_M_touch_10 rfl (by omega) ?_
      first | refine x_aload_n hx hb d_M_touch_13 hl rfl ?_ | refine x_aload_nQ hx hb d_M_touch_13 hl rfl ?_
      refine lv_bipush (v := nI 16) hx hb d_M_touch_14 (by decide) ?_
      refine x_iload_n hx hb d_M_touch_16 hl rfl ?_
      first | refine x_iadd hx hb d_M_touch_17 ?_ | refine lv_iadd hx hb d_M_touch_17 ?_
      refine x_iload_n hx hb d_M_touch_18 hl rfl ?_
      refine m_calli (k_V ⟨hx, hb, hml, hown, hts⟩ hE hA hw (c_M_atN hI hB (by omega) (by omega)) (ci_M).1 rfl (rf_at hI 0 (by decide) rfl) (wm3 164 rfl rfl) (wm3 166 rfl rfl) (wmp2 7 rfl) (wm1 9 rfl rfl) (wm3 167 rfl rfl) rfl rfl ar_M_at ⟨Nat.le_trans (Nat.le_of_ble_eq_true rfl) hR.1, Nat.le_trans (Nat.le_of_ble_eq_true rfl) hR.2.1⟩ rfl hl.1 rfl (Nat.le_of_ble_eq_true rfl) d_M_touch_19 ⟨Nat.le_trans (Nat.le_of_ble_eq_true rfl) hR.2.2.1, Nat.le_trans (Nat.le_of_ble_eq_true rfl) hR.2.2.2⟩) hw (mfr_in hw hA) (fun r19 M19 H locs hP19 hw => ?_)
      obtain ⟨⟨rfl, hb19⟩, hM19⟩ := hP19
      rw [hM19] at hw
      refine x_istore hx hb d_M_touch_22 hl (Nat.le_of_ble_eq_true rfl) (lh_k (i := 4) rfl (by first | exact lk_n | exact lk_i | exact lk_r | exact lk_q | exact lk_0)) (fun ls hl => ?_)
      first | refine x_aload_n hx hb d_M_touch_24 hl rfl ?_ | refine x_aload_nQ hx hb d_M_touch_24 hl rfl ?_
      refine m_get hx hb hts hown hK hw ci_M (rf_at hI 0 (by decide) rfl) 12 (by decide) (wm3 84 rfl rfl) rfl d_M_touch_25 ?_
      refine x_iload hx hb d_M_touch_28 hl rfl ?_
      refine rl_12 hx hb hK hI hB hw (by omega) d_M_touch_30 (fun hv30 => ?_)
      refine lv_if_lt hx hb d_M_touch_31 rfl (fun h31 => ?_) (fun h31 => ?_)
      · have h31 := (bI_lt ho3).mp h31
        have htt : tst τ t q = τ := if_neg (by omega)
        refine x_iload hx hb d_M_touch_58 hl rfl ?_
        refine x_if_le hx hb d_M_touch_60 rfl (by omega) (fun h60 => ?_) (fun h60 => ?_)
        · exact absurd h60 (by omega)
        · refine x_iload_n hx hb d_M_touch_63 hl rfl ?_
          refine m_calli (k_S ⟨hx, hb, hml, hown, hts⟩ hE hA hw (c_M_parent (by omega) (by omega)) (wm3 168 rfl rfl) (wm3 169 rfl rfl) (wm1 9 rfl rfl) (wm3 170 rfl rfl) rfl rfl ar_M_parent ⟨Nat.le_trans (Nat.le_of_ble_eq_true rfl) hR.1, Nat.le_trans (Nat.le_of_ble_eq_true rfl) hR.2.1⟩ rfl hl.1 rfl (Nat.le_of_ble_eq_true rfl) d_M_touch_64 ⟨Nat.le_trans (Nat.le_of_ble_eq_true rfl) hR.2.2.1, Nat.le_trans (Nat.le_of_ble_eq_true rfl) hR.2.2.2⟩) hw (mfr_in hw hA) (fun r64 M64 H locs hP64 hw => ?_)
          obtain ⟨rfl, hM64⟩ := hP64
          rw [hM64] at hw
          refine lv_goto hx hb d_M_touch_67 rfl ?_
          refine x_istore_n hx hb d_M_touch_71 hl (Nat.le_of_ble_eq_true rfl) (lh_k (i := 2) rfl (by first | exact lk_n | exact lk_i | exact lk_r | exact lk_q | exact lk_0)) (fun ls hl => ?_)
          refine x_iinc hx hb d_M_touch_72 hl rfl (dec_n n) (lh_k (i := 3) rfl (by first | exact lk_n | exact lk_i)) (fun ls hl => ?_)
          refine lv_goto hx hb d_M_touch_75 rfl ?_
          rw [← htt] at hw
          rw [← htt] at hB
          exact ih _ _ H locs ls (by omega) hB htk.2 hw (lh_drop 5 (lh_drop 6 hl)) hT
      · have h31 : ¬ 128 ≤ τ 12 (rat τ (16 + t) q) := fun z => h31 ((bI_lt ho3).mpr z)
        obtain ⟨g1, g2, g3, g4⟩ := ho4 (by omega)
        have htt : tst τ t q = plc (nod1 τ t (τ 6 (rat τ (16 + t) q)) (rat τ (16 + t) q)) t q (τ 4 0 + 1) := if_pos (by omega)
        first | refine x_aload_n hx hb d_M_touch_34 hl rfl ?_ | refine x_aload_nQ hx hb d_M_touch_34 hl rfl ?_
        refine x_iload_n hx hb d_M_touch_35 hl rfl ?_
        first | refine x_aload_n hx hb d_M_touch_36 hl rfl ?_ | refine x_aload_nQ hx hb d_M_touch_36 hl rfl ?_
        refine m_get hx hb hts hown hK hw ci_M (rf_at hI 0 (by decide) rfl) 6 (by decide) (wm3 78 rfl rfl) rfl d_M_touch_37 ?_
        refine x_iload hx hb d_M_touch_40 hl rfl ?_
        refine rl_6 hx hb hK hI hB hw (by omega) d_M_touch_42 (fun hv42 => ?_)
        refine x_iload hx hb d_M_touch_43 hl rfl ?_
        refine m_calli (k_V ⟨hx, hb, hml, hown, hts⟩ hE hA hw (c_M_node1 hI hB (by omega) (by omega) (by omega) (by omega) (by omega) (by omega) (by omega)) (ci_M).1 rfl (rf_at hI 0 (by decide) rfl) (wm3 177 rfl rfl) (wm3 179 rfl rfl) (wmp2 8 rfl) (wm1 9 rfl rfl) (wm3 180 rfl rfl) rfl rfl ar_M_node ⟨Nat.le_trans (Nat.le_of_ble_eq_true rfl) hR.1, Nat.le_trans (Nat.le_of_ble_eq_true rfl) hR.2.1⟩ rfl hl.1 rfl (Nat.le_of_ble_eq_true rfl) d_M_touch_45 ⟨Nat.le_trans (Nat.le_of_ble_eq_true rfl) hR.2.2.1, Nat.le_trans (Nat.le_of_ble_eq_true rfl) hR.2.2.2⟩) hw (mfr_in hw hA) (fun r45 M45 H locs hP45 hw => ?_)
        obtain ⟨rfl, hM45, hB⟩ := hP45
        rw [hM45] at hw
        refine x_istore hx hb d_M_touch_48 hl (Nat.le_of_ble_eq_true rfl) (lh_k (i := 5) rfl (by first | exact lk_n | exact lk_i | exact lk_r | exact lk_q | exact lk_0)) (fun ls hl => ?_)
        first | refine x_aload_n hx hb d_M_touch_50 hl rfl ?_ | refine x_aload_nQ hx hb d_M_touch_50 hl rfl ?_
        refine x_iload_n hx hb d_M_touch_51 hl rfl ?_
        refine x_iload_n hx hb d_M_touch_52 hl rfl ?_
        refine x_iload hx hb d_M_touch_53 hl rfl ?_
        refine m_callv (k_V ⟨hx, hb, hml, hown, hts⟩ hE hA hw (c_M_place hI hB (by omega) (by omega) (by omega)) (ci_M).1 rfl (rf_at hI 0 (by decide) rfl) (wm3 181 rfl rfl) (wm3 183 rfl rfl) (wmp2 9 rfl) (wm1 9 rfl rfl) (wm3 184 rfl rfl) rfl rfl ar_M_place ⟨Nat.le_trans (Nat.le_of_ble_eq_true rfl) hR.1, Nat.le_trans (Nat.le_of_ble_eq_true rfl) hR.2.1⟩ rfl hl.1 rfl (Nat.le_of_ble_eq_true rfl) d_M_touch_55 ⟨Nat.le_trans (Nat.le_of_ble_eq_true rfl) hR.2.2.1, Nat.le_trans (Nat.le_of_ble_eq_true rfl) hR.2.2.2⟩) hw (mfr_in hw hA) (fun M55 H locs hP55 hw => ?_)
        obtain ⟨hM55, hB⟩ := hP55
        rw [hM55] at hw
        refine x_iload hx hb d_M_touch_58 hl rfl ?_
        refine x_if_le hx hb d_M_touch_60 rfl (by omega) (fun h60 => ?_) (fun h60 => ?_)
        · exact absurd h60 (by omega)
        · refine x_iload_n hx hb d_M_touch_63 hl rfl ?_
          refine m_calli (k_S ⟨hx, hb, hml, hown, hts⟩ hE hA hw (c_M_parent (by omega) (by omega)) (wm3 168 rfl rfl) (wm3 169 rfl rfl) (wm1 9 rfl rfl) (wm3 170 rfl rfl) rfl rfl ar_M_parent ⟨Nat.le_trans (Nat.le_of_ble_eq_true rfl) hR.1, Nat.le_trans (Nat.le_of_ble_eq_true rfl) hR.2.1⟩ rfl hl.1 rfl (Nat.le_of_ble_eq_true rfl) d_M_touch_64 ⟨Nat.le_trans (Nat.le_of_ble_eq_true rfl) hR.2.2.1, Nat.le_trans (Nat.le_of_ble_eq_true rfl) hR.2.2.2⟩) hw (mfr_in hw hA) (fun r64 M64 H locs hP64 hw => ?_)
          obtain ⟨rfl, hM64⟩ := hP64
          rw [hM64] at hw
          refine lv_goto hx hb d_M_touch_67 rfl ?_
          refine x_istore_n hx hb d_M_touch_71 hl (Nat.le_of_ble_eq_true rfl) (lh_k (i := 2) rfl (by first | exact lk_n | exact lk_i | exact lk_r | exact lk_q | exact lk_0)) (fun ls hl => ?_)
          refine x_iinc hx hb d_M_touch_72 hl rfl (dec_n n) (lh_k (i := 3) rfl (by first | exact lk_n | exact lk_i)) (fun ls hl => ?_)
          refine lv_goto hx hb d_M_touch_75 rfl ?_
          rw [← htt] at hw
          rw [← htt] at hB
          exact ih _ _ H locs ls (by omega) hB htk.2 hw (lh_drop 5 (lh_drop 6 hl)) hT
  refine x_iload_n hx hb d_M_touch_0 hl rfl ?_
  refine x_istore_n hx hb d_M_touch_1 hl (Nat.le_of_ble_eq_true rfl) (lh_k (i := 2) rfl (by first | exact lk_n | exact lk_i | exact lk_r | exact lk_q | exact lk_0)) (fun ls hl => ?_)
  refine x_iload_n hx hb d_M_touch_2 hl rfl ?_
  refine m_calli (k_S ⟨hx, hb, hml, hown, hts⟩ hE hA hw (c_M_depth (by omega)) (wm3 171 rfl rfl) (wm3 172 rfl rfl) (wm1 9 rfl rfl) (wm3 173 rfl rfl) rfl rfl ar_M_depth ⟨Nat.le_trans (Nat.le_of_ble_eq_true rfl) hR.1, Nat.le_trans (Nat.le_of_ble_eq_true rfl) hR.2.1⟩ rfl hl.1 rfl (Nat.le_of_ble_eq_true rfl) d_M_touch_3 ⟨Nat.le_trans (Nat.le_of_ble_eq_true rfl) hR.2.2.1, Nat.le_trans (Nat.le_of_ble_eq_true rfl) hR.2.2.2⟩) hw (mfr_in hw hA) (fun r3 M3 H locs hP3 hw => ?_)
  obtain ⟨rfl, hM3⟩ := hP3
  rw [hM3] at hw
  refine x_istore hx hb d_M_touch_6 hl (Nat.le_of_ble_eq_true rfl) (lh_k (i := 3) rfl (by first | exact lk_n | exact lk_i | exact lk_r | exact lk_q | exact lk_0)) (fun ls hl => ?_)
  exact loop (pd n0) σ n0 _ _ _ (pd_le n0) hB htk hw hl rfl

set_option maxHeartbeats 4000000 in
set_option maxRecDepth 100000 in
theorem c_M_room {l : Launch} {E : Ev} {σ : SS} {ad : Nat → Nat} (hI : rfI ad) (hB : rB σ) {sz : Nat} {x y : Int32} (hN : ∀ j, σ 0 j < 1300) : MCi l E y_M_room prog_10_method_15_code 4 (some .boolean) 2 43 0 0 [.ref (ad 0), .int x, .int y] (rfM E σ ad) sz (fun r M' => r = bz (rmb σ (tx x) (ix y)) ∧ M' = rfM E σ ad) := by
  refine mc_of R_M rfl [some (.ref (ad 0)), some (.int x), some (.int y), none] (by decide) (Nat.le_of_ble_eq_true rfl) rfl ?_
  intro p e R s m ag below meth c ls Q A X hAe hQ hR hsz hw hl
  rw [← hAe] at hQ
  obtain ⟨⟨hx, hb, hml, hown, hts⟩, hE, hA, hr, hlk, hnm⟩ := X
  have hK := hE.1
  first | refine x_aload_n hx hb d_M_room_0 hl rfl ?_ | refine x_aload_nQ hx hb d_M_room_0 hl rfl ?_
  refine x_iload_n hx hb d_M_room_1 hl rfl ?_
  refine m_calli (k_V ⟨hx, hb, hml, hown, hts⟩ hE hA hw (c_M_isOpen hI hB) (ci_M).1 rfl (rf_at hI 0 (by decide) rfl) (wm3 157 rfl rfl) (wm3 159 rfl rfl) (wmp2 6 rfl) (wm1 9 rfl rfl) (wm3 160 rfl rfl) rfl rfl ar_M_isOpen ⟨Nat.le_trans (Nat.le_of_ble_eq_true rfl) hR.1, Nat.le_trans (Nat.le_of_ble_eq_true rfl) hR.2.1⟩ rfl hl.1 rfl (Nat.le_of_ble_eq_true rfl) d_M_room_2 ⟨Nat.le_trans (Nat.le_of_ble_eq_true rfl) hR.2.2.1, Nat.le_trans (Nat.le_of_ble_eq_true rfl) hR.2.2.2⟩) hw (mfr_in hw hA) (fun r2 M2 H locs hP2 hw => ?_)
  obtain ⟨rfl, hM2⟩ := hP2
  rw [hM2] at hw
  refine x_if_eqB hx hb d_M_room_5 rfl (fun h5 => ?_) (fun h5 => ?_)
  · refine lv_iconst (v := nI 0) hx hb d_M_room_31 (by decide) ?_
    exact x_reti hQ hx hb hr hlk (by first | exact nar_bz | decide) hw (by omega) (by omega) d_M_room_32 (⟨by first | exact bz_f (rmb_1 h5) | exact bz_f (rmb_2 h12) | (rw [tx_n ht, ix_n hq]; exact bz_f (rmb_3 h16)) | (rw [tx_n ht, ix_n hq]; exact bz_f (rmb_4 h28)), rfl⟩)
  · obtain ⟨t, ht, rfl, ho⟩ := opb_of h5
    refine x_iload_n hx hb d_M_room_8 hl rfl ?_
    refine m_calli (k_S ⟨hx, hb, hml, hown, hts⟩ hE hA hw (c_M_good) (wm3 161 rfl rfl) (wm3 162 rfl rfl) (wm1 9 rfl rfl) (wm3 163 rfl rfl) rfl rfl ar_M_good ⟨Nat.le_trans (Nat.le_of_ble_eq_true rfl) hR.1, Nat.le_trans (Nat.le_of_ble_eq_true rfl) hR.2.1⟩ rfl hl.1 rfl (Nat.le_of_ble_eq_true rfl) d_M_room_9 ⟨Nat.le_trans (Nat.le_of_ble_eq_true rfl) hR.2.2.1, Nat.le_trans (Nat.le_of_ble_eq_true rfl) hR.2.2.2⟩) hw (mfr_in hw hA) (fun r9 M9 H locs hP9 hw => ?_)
    obtain ⟨rfl, hM9⟩ := hP9
    rw [hM9] at hw
    refine x_if_eqB hx hb d_M_room_12 rfl (fun h12 => ?_) (fun h12 => ?_)
    · refine lv_iconst (v := nI 0) hx hb d_M_room_31 (by decide) ?_
      exact x_reti hQ hx hb hr hlk (by first | exact nar_bz | decide) hw (by omega) (by omega) d_M_room_32 (⟨by first | exact bz_f (rmb_1 h5) | exact bz_f (rmb_2 h12) | (rw [tx_n ht, ix_n hq]; exact bz_f (rmb_3 h16)) | (rw [tx_n ht, ix_n hq]; exact bz_f (rmb_4 h28)), rfl⟩)
    · obtain ⟨q, hq, rfl⟩ := ix_good h12
      rw [ix_n hq] at h12
      refine x_iload_n hx hb d_M_room_15 hl rfl ?_
      refine x_if_eq hx hb d_M_room_16 rfl (by omega) (fun h16 => ?_) (fun h16 => ?_)
      · refine lv_iconst (v := nI 0) hx hb d_M_room_31 (by decide) ?_
        exact x_reti hQ hx hb hr hlk (by first | exact nar_bz | decide) hw (by omega) (by omega) d_M_room_32 (⟨by first | exact bz_f (rmb_1 h5) | exact bz_f (rmb_2 h12) | (rw [tx_n ht, ix_n hq]; exact bz_f (rmb_3 h16)) | (rw [tx_n ht, ix_n hq]; exact bz_f (rmb_4 h28)), rfl⟩)
      · first | refine x_aload_n hx hb d_M_room_19 hl rfl ?_ | refine x_aload_nQ hx hb d_M_room_19 hl rfl ?_
        refine lv_bipush (v := nI 16) hx hb d_M_room_20 (by decide) ?_
        refine x_iload_n hx hb d_M_room_22 hl rfl ?_
        first | refine x_iadd hx hb d_M_room_23 ?_ | refine lv_iadd hx hb d_M_room_23 ?_
        refine x_iload_n hx hb d_M_room_24 hl rfl ?_
        refine m_calli (k_V ⟨hx, hb, hml, hown, hts⟩ hE hA hw (c_M_atN hI hB (by omega) (by omega)) (ci_M).1 rfl (rf_at hI 0 (by decide) rfl) (wm3 164 rfl rfl) (wm3 166 rfl rfl) (wmp2 7 rfl) (wm1 9 rfl rfl) (wm3 167 rfl rfl) rfl rfl ar_M_at ⟨Nat.le_trans (Nat.le_of_ble_eq_true rfl) hR.1, Nat.le_trans (Nat.le_of_ble_eq_true rfl) hR.2.1⟩ rfl hl.1 rfl (Nat.le_of_ble_eq_true rfl) d_M_room_25 ⟨Nat.le_trans (Nat.le_of_ble_eq_true rfl) hR.2.2.1, Nat.le_trans (Nat.le_of_ble_eq_true rfl) hR.2.2.2⟩) hw (mfr_in hw hA) (fun r25 M25 H locs hP25 hw => ?_)
        obtain ⟨⟨rfl, hb25⟩, hM25⟩ := hP25
        rw [hM25] at hw
        refine x_if_le hx hb d_M_room_28 rfl (by omega) (fun h28 => ?_) (fun h28 => ?_)
        · have hq0 : 0 < q := by omega
          have hp1 := pp_lt q
          first | refine x_aload_n hx hb d_M_room_33 hl rfl ?_ | refine x_aload_nQ hx hb d_M_room_33 hl rfl ?_
          refine lv_bipush (v := nI 16) hx hb d_M_room_34 (by decide) ?_
          refine x_iload_n hx hb d_M_room_36 hl rfl ?_
          first | refine x_iadd hx hb d_M_room_37 ?_ | refine lv_iadd hx hb d_M_room_37 ?_
          refine x_iload_n hx hb d_M_room_38 hl rfl ?_
          refine m_calli (k_S ⟨hx, hb, hml, hown, hts⟩ hE hA hw (c_M_parent (by omega) (by omega)) (wm3 168 rfl rfl) (wm3 169 rfl rfl) (wm1 9 rfl rfl) (wm3 170 rfl rfl) rfl rfl ar_M_parent ⟨Nat.le_trans (Nat.le_of_ble_eq_true rfl) hR.1, Nat.le_trans (Nat.le_of_ble_eq_true rfl) hR.2.1⟩ rfl hl.1 rfl (Nat.le_of_ble_eq_true rfl) d_M_room_39 ⟨Nat.le_trans (Nat.le_of_ble_eq_true rfl) hR.2.2.1, Nat.le_trans (Nat.le_of_ble_eq_true rfl) hR.2.2.2⟩) hw (mfr_in hw hA) (fun r39 M39 H locs hP39 hw => ?_)
          obtain ⟨rfl, hM39⟩ := hP39
          rw [hM39] at hw
          refine m_calli (k_V ⟨hx, hb, hml, hown, hts⟩ hE hA hw (c_M_atN hI hB (by omega) (by omega)) (ci_M).1 rfl (rf_at hI 0 (by decide) rfl) (wm3 164 rfl rfl) (wm3 166 rfl rfl) (wmp2 7 rfl) (wm1 9 rfl rfl) (wm3 167 rfl rfl) rfl rfl ar_M_at ⟨Nat.le_trans (Nat.le_of_ble_eq_true rfl) hR.1, Nat.le_trans (Nat.le_of_ble_eq_true rfl) hR.2.1⟩ rfl hl.1 rfl (Nat.le_of_ble_eq_true rfl) d_M_room_42 ⟨Nat.le_trans (Nat.le_of_ble_eq_true rfl) hR.2.2.1, Nat.le_trans (Nat.le_of_ble_eq_true rfl) hR.2.2.2⟩) hw (mfr_in hw hA) (fun r42 M42 H locs hP42 hw => ?_)
          obtain ⟨⟨rfl, hb42⟩, hM42⟩ := hP42
          rw [hM42] at hw
          have hN2 := rat_N (k := 16 + t) (p := pp q) hN
          refine x_istore_n hx hb d_M_room_45 hl (Nat.le_of_ble_eq_true rfl) (lh_k (i := 2) rfl (by first | exact lk_n | exact lk_i | exact lk_r | exact lk_q | exact lk_0)) (fun ls hl => ?_)
          refine x_iload_n hx hb d_M_room_46 hl rfl ?_
          refine x_if_le hx hb d_M_room_47 rfl (by omega) (fun h47 => ?_) (fun h47 => ?_)
          · refine lv_iconst (v := nI 0) hx hb d_M_room_64 (by decide) ?_
            exact x_reti hQ hx hb hr hlk (by first | exact nar_bz | decide) hw (by omega) (by omega) d_M_room_65 (⟨by rw [tx_n ht, ix_n hq]; first | exact bz_f (rmb_5 h47) | exact bz_f (rmb_6 h57) | exact bz_t (rmb_t ht ho h12 hq0 h28 h47 h57), rfl⟩)
          · first | refine x_aload_n hx hb d_M_room_50 hl rfl ?_ | refine x_aload_nQ hx hb d_M_room_50 hl rfl ?_
            refine m_get hx hb hts hown hK hw ci_M (rf_at hI 0 (by decide) rfl) 6 (by decide) (wm3 78 rfl rfl) rfl d_M_room_51 ?_
            refine x_iload_n hx hb d_M_room_54 hl rfl ?_
            refine rl_6 hx hb hK hI hB hw (by omega) d_M_room_55 (fun hv55 => ?_)
            refine lv_iconst (v := nI 1) hx hb d_M_room_56 (by decide) ?_
            refine x_icmp_ne hx hb d_M_room_57 rfl (by omega) (by omega) (fun h57 => ?_) (fun h57 => ?_)
            · refine lv_iconst (v := nI 0) hx hb d_M_room_64 (by decide) ?_
              exact x_reti hQ hx hb hr hlk (by first | exact nar_bz | decide) hw (by omega) (by omega) d_M_room_65 (⟨by rw [tx_n ht, ix_n hq]; first | exact bz_f (rmb_5 h47) | exact bz_f (rmb_6 h57) | exact bz_t (rmb_t ht ho h12 hq0 h28 h47 h57), rfl⟩)
            · refine lv_iconst (v := nI 1) hx hb d_M_room_60 (by decide) ?_
              refine lv_goto hx hb d_M_room_61 rfl ?_
              exact x_reti hQ hx hb hr hlk (by first | exact nar_bz | decide) hw (by omega) (by omega) d_M_room_65 (⟨by rw [tx_n ht, ix_n hq]; first | exact bz_f (rmb_5 h47) | exact bz_f (rmb_6 h57) | exact bz_t (rmb_t ht ho h12 hq0 h28 h47 h57), rfl⟩)
        · refine lv_iconst (v := nI 0) hx hb d_M_room_31 (by decide) ?_
          exact x_reti hQ hx hb hr hlk (by first | exact nar_bz | decide) hw (by omega) (by omega) d_M_room_32 (⟨by first | exact bz_f (rmb_1 h5) | exact bz_f (rmb_2 h12) | (rw [tx_n ht, ix_n hq]; exact bz_f (rmb_3 h16)) | (rw [tx_n ht, ix_n hq]; exact bz_f (rmb_4 h28)), rfl⟩)
