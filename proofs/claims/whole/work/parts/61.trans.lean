theorem d_Tx_hasRoomAt_0 : decode prog_7_method_2_code 0 = .ok (.iload_n 1, 1) := by decide +kernel
theorem d_Tx_hasRoomAt_1 : decode prog_7_method_2_code 1 = .ok (.ifCond .eq 43, 3) := by decide +kernel
theorem d_Tx_hasRoomAt_4 : decode prog_7_method_2_code 4 = .ok (.iload_n 1, 1) := by decide +kernel
theorem d_Tx_hasRoomAt_5 : decode prog_7_method_2_code 5 = .ok (.invokestatic 26, 3) := by decide +kernel
theorem d_Tx_hasRoomAt_8 : decode prog_7_method_2_code 8 = .ok (.ifCond .eq 36, 3) := by decide +kernel
theorem d_Tx_hasRoomAt_11 : decode prog_7_method_2_code 11 = .ok (.aload_n 0, 1) := by decide +kernel
theorem d_Tx_hasRoomAt_12 : decode prog_7_method_2_code 12 = .ok (.getfield 12, 3) := by decide +kernel
theorem d_Tx_hasRoomAt_15 : decode prog_7_method_2_code 15 = .ok (.iload_n 1, 1) := by decide +kernel
theorem d_Tx_hasRoomAt_16 : decode prog_7_method_2_code 16 = .ok (.invokevirtual 32, 3) := by decide +kernel
theorem d_Tx_hasRoomAt_19 : decode prog_7_method_2_code 19 = .ok (.ifnonnull 25, 3) := by decide +kernel
theorem d_Tx_hasRoomAt_22 : decode prog_7_method_2_code 22 = .ok (.aload_n 0, 1) := by decide +kernel
theorem d_Tx_hasRoomAt_23 : decode prog_7_method_2_code 23 = .ok (.getfield 12, 3) := by decide +kernel
theorem d_Tx_hasRoomAt_26 : decode prog_7_method_2_code 26 = .ok (.iload_n 1, 1) := by decide +kernel
theorem d_Tx_hasRoomAt_27 : decode prog_7_method_2_code 27 = .ok (.invokestatic 36, 3) := by decide +kernel
theorem d_Tx_hasRoomAt_30 : decode prog_7_method_2_code 30 = .ok (.invokevirtual 32, 3) := by decide +kernel
theorem d_Tx_hasRoomAt_33 : decode prog_7_method_2_code 33 = .ok (.invokestatic 40, 3) := by decide +kernel
theorem d_Tx_hasRoomAt_36 : decode prog_7_method_2_code 36 = .ok (.iconst 1, 1) := by decide +kernel
theorem d_Tx_hasRoomAt_37 : decode prog_7_method_2_code 37 = .ok (.if_icmp .ne 7, 3) := by decide +kernel
theorem d_Tx_hasRoomAt_40 : decode prog_7_method_2_code 40 = .ok (.iconst 1, 1) := by decide +kernel
theorem d_Tx_hasRoomAt_41 : decode prog_7_method_2_code 41 = .ok (.goto 4, 3) := by decide +kernel
theorem d_Tx_hasRoomAt_44 : decode prog_7_method_2_code 44 = .ok (.iconst 0, 1) := by decide +kernel
theorem d_Tx_hasRoomAt_45 : decode prog_7_method_2_code 45 = .ok (.ireturn, 1) := by decide +kernel

theorem d_Tx_touch_0 : decode prog_7_method_5_code 0 = .ok (.iload_n 1, 1) := by decide +kernel
theorem d_Tx_touch_1 : decode prog_7_method_5_code 1 = .ok (.istore_n 2, 1) := by decide +kernel
theorem d_Tx_touch_2 : decode prog_7_method_5_code 2 = .ok (.iload_n 1, 1) := by decide +kernel
theorem d_Tx_touch_3 : decode prog_7_method_5_code 3 = .ok (.invokestatic 61, 3) := by decide +kernel
theorem d_Tx_touch_6 : decode prog_7_method_5_code 6 = .ok (.istore_n 3, 1) := by decide +kernel
theorem d_Tx_touch_7 : decode prog_7_method_5_code 7 = .ok (.iload_n 3, 1) := by decide +kernel
theorem d_Tx_touch_8 : decode prog_7_method_5_code 8 = .ok (.ifCond .lt 56, 3) := by decide +kernel
theorem d_Tx_touch_11 : decode prog_7_method_5_code 11 = .ok (.aload_n 0, 1) := by decide +kernel
theorem d_Tx_touch_12 : decode prog_7_method_5_code 12 = .ok (.getfield 12, 3) := by decide +kernel
theorem d_Tx_touch_15 : decode prog_7_method_5_code 15 = .ok (.iload_n 2, 1) := by decide +kernel
theorem d_Tx_touch_16 : decode prog_7_method_5_code 16 = .ok (.invokevirtual 32, 3) := by decide +kernel
theorem d_Tx_touch_19 : decode prog_7_method_5_code 19 = .ok (.astore 4, 2) := by decide +kernel
theorem d_Tx_touch_21 : decode prog_7_method_5_code 21 = .ok (.aload 4, 2) := by decide +kernel
theorem d_Tx_touch_23 : decode prog_7_method_5_code 23 = .ok (.ifnull 30, 3) := by decide +kernel
theorem d_Tx_touch_26 : decode prog_7_method_5_code 26 = .ok (.aload 4, 2) := by decide +kernel
theorem d_Tx_touch_28 : decode prog_7_method_5_code 28 = .ok (.getfield 64, 3) := by decide +kernel
theorem d_Tx_touch_31 : decode prog_7_method_5_code 31 = .ok (.iconst (-1), 1) := by decide +kernel
theorem d_Tx_touch_32 : decode prog_7_method_5_code 32 = .ok (.if_icmp .eq 21, 3) := by decide +kernel
theorem d_Tx_touch_35 : decode prog_7_method_5_code 35 = .ok (.aload_n 0, 1) := by decide +kernel
theorem d_Tx_touch_36 : decode prog_7_method_5_code 36 = .ok (.getfield 12, 3) := by decide +kernel
theorem d_Tx_touch_39 : decode prog_7_method_5_code 39 = .ok (.iload_n 2, 1) := by decide +kernel
theorem d_Tx_touch_40 : decode prog_7_method_5_code 40 = .ok (.aload 4, 2) := by decide +kernel
theorem d_Tx_touch_42 : decode prog_7_method_5_code 42 = .ok (.aload 4, 2) := by decide +kernel
theorem d_Tx_touch_44 : decode prog_7_method_5_code 44 = .ok (.getfield 67, 3) := by decide +kernel
theorem d_Tx_touch_47 : decode prog_7_method_5_code 47 = .ok (.invokestatic 70, 3) := by decide +kernel
theorem d_Tx_touch_50 : decode prog_7_method_5_code 50 = .ok (.invokevirtual 44, 3) := by decide +kernel
theorem d_Tx_touch_53 : decode prog_7_method_5_code 53 = .ok (.iload_n 2, 1) := by decide +kernel
theorem d_Tx_touch_54 : decode prog_7_method_5_code 54 = .ok (.invokestatic 36, 3) := by decide +kernel
theorem d_Tx_touch_57 : decode prog_7_method_5_code 57 = .ok (.istore_n 2, 1) := by decide +kernel
theorem d_Tx_touch_58 : decode prog_7_method_5_code 58 = .ok (.iinc 3 (-1), 3) := by decide +kernel
theorem d_Tx_touch_61 : decode prog_7_method_5_code 61 = .ok (.goto (-54), 3) := by decide +kernel
theorem d_Tx_touch_64 : decode prog_7_method_5_code 64 = .ok (.return_, 1) := by decide +kernel

theorem d_Tx_add_0 : decode prog_7_method_3_code 0 = .ok (.aload_n 0, 1) := by decide +kernel
theorem d_Tx_add_1 : decode prog_7_method_3_code 1 = .ok (.getfield 12, 3) := by decide +kernel
theorem d_Tx_add_4 : decode prog_7_method_3_code 4 = .ok (.iload_n 1, 1) := by decide +kernel
theorem d_Tx_add_5 : decode prog_7_method_3_code 5 = .ok (.aload_n 2, 1) := by decide +kernel
theorem d_Tx_add_6 : decode prog_7_method_3_code 6 = .ok (.invokevirtual 44, 3) := by decide +kernel
theorem d_Tx_add_9 : decode prog_7_method_3_code 9 = .ok (.aload_n 0, 1) := by decide +kernel
theorem d_Tx_add_10 : decode prog_7_method_3_code 10 = .ok (.iload_n 1, 1) := by decide +kernel
theorem d_Tx_add_11 : decode prog_7_method_3_code 11 = .ok (.invokestatic 36, 3) := by decide +kernel
theorem d_Tx_add_14 : decode prog_7_method_3_code 14 = .ok (.invokevirtual 48, 3) := by decide +kernel
theorem d_Tx_add_17 : decode prog_7_method_3_code 17 = .ok (.return_, 1) := by decide +kernel

theorem d_Tx_overwrite_0 : decode prog_7_method_4_code 0 = .ok (.aload_n 0, 1) := by decide +kernel
theorem d_Tx_overwrite_1 : decode prog_7_method_4_code 1 = .ok (.iload_n 1, 1) := by decide +kernel
theorem d_Tx_overwrite_2 : decode prog_7_method_4_code 2 = .ok (.invokevirtual 48, 3) := by decide +kernel
theorem d_Tx_overwrite_5 : decode prog_7_method_4_code 5 = .ok (.aload_n 0, 1) := by decide +kernel
theorem d_Tx_overwrite_6 : decode prog_7_method_4_code 6 = .ok (.getfield 12, 3) := by decide +kernel
theorem d_Tx_overwrite_9 : decode prog_7_method_4_code 9 = .ok (.iload_n 1, 1) := by decide +kernel
theorem d_Tx_overwrite_10 : decode prog_7_method_4_code 10 = .ok (.invokevirtual 32, 3) := by decide +kernel
theorem d_Tx_overwrite_13 : decode prog_7_method_4_code 13 = .ok (.astore_n 3, 1) := by decide +kernel
theorem d_Tx_overwrite_14 : decode prog_7_method_4_code 14 = .ok (.aload_n 3, 1) := by decide +kernel
theorem d_Tx_overwrite_15 : decode prog_7_method_4_code 15 = .ok (.ifnull 13, 3) := by decide +kernel
theorem d_Tx_overwrite_18 : decode prog_7_method_4_code 18 = .ok (.aload_n 3, 1) := by decide +kernel
theorem d_Tx_overwrite_19 : decode prog_7_method_4_code 19 = .ok (.aload_n 2, 1) := by decide +kernel
theorem d_Tx_overwrite_20 : decode prog_7_method_4_code 20 = .ok (.putfield 52, 3) := by decide +kernel
theorem d_Tx_overwrite_23 : decode prog_7_method_4_code 23 = .ok (.aload_n 3, 1) := by decide +kernel
theorem d_Tx_overwrite_24 : decode prog_7_method_4_code 24 = .ok (.iconst 1, 1) := by decide +kernel
theorem d_Tx_overwrite_25 : decode prog_7_method_4_code 25 = .ok (.putfield 58, 3) := by decide +kernel
theorem d_Tx_overwrite_28 : decode prog_7_method_4_code 28 = .ok (.return_, 1) := by decide +kernel

section CLT
variable {σ τ : SS} {ca na ta : Nat → Nat} {E : Ev} {M : mp_M}
theorem kind_le {s n : Nat} (hI : INV σ s) (hn : n ≤ σ 4 0) : σ 6 n ≤ 2 := by
  rcases Nat.eq_zero_or_pos n with z | z
  · rw [z, hI.2.2.1.1.1]; omega
  · rcases inv_k hI z hn with y | y <;> omega
theorem kind_p {s n : Nat} (hI : INV σ s) (h : σ 6 n = 1) : 0 < n := by
  rcases Nat.eq_zero_or_pos n with z | z
  · rw [z, hI.2.2.1.1.1] at h; omega
  · exact z
theorem wr_pic {n b D z : Nat} (h : PIC E τ ca na ta M) (h0 : 0 < n) (hn : n ≤ τ 4 0) (hb : M b = some (txf (D % 2 ^ (4 * z)) z)) : PIC E (wr3 τ n D z) ca na (va_up ta n b) (mp_up M (na n) (.inr (3, ((ndf τ na ta n).set 2 (.ref b)).set 8 (.int (nI 1))))) := by
  have O : ∀ f, f ≠ 7 → f ≠ 8 → f ≠ 9 → wr3 τ n D z f = τ f := fun f h7 h8 h9 => by
    unfold wr3
    rw [sp_o h9, sp_o h7, sp_o h8]
  have e7 : wr3 τ n D z 7 n = z := by unfold wr3; rw [sp_o (by decide), sp_s]
  have e9 : wr3 τ n D z 9 n = D % 2 ^ (4 * z) := by unfold wr3; rw [sp_s]
  have e8 : wr3 τ n D z 8 n = 1 := by unfold wr3; rw [sp_o (by decide), sp_o (by decide), sp_s]
  have hp := pic_wrt (τ := wr3 τ n D z) (b := b) h h0 hn O (fun f j hj => by unfold wr3; rw [sp_at, if_neg (fun y => hj y.2), sp_at, if_neg (fun y => hj y.2), sp_at, if_neg (fun y => hj y.2)]) (by rw [e9, e7]; exact hb)
  have e : ndf (wr3 τ n D z) na (va_up ta n b) n = ((ndf τ na ta n).set 2 (.ref b)).set 8 (.int (nI 1)) := by
    unfold ndf
    rw [O 10 (by decide) (by decide) (by decide), O 6 (by decide) (by decide) (by decide), O 11 (by decide) (by decide) (by decide), O 12 (by decide) (by decide) (by decide), O 13 (by decide) (by decide) (by decide), O 14 (by decide) (by decide) (by decide), O 15 (by decide) (by decide) (by decide), e8]
    have : va_up ta n b n = b := by simp [va_up]
    rw [this]
    rfl
  rw [e] at hp
  exact hp
end CLT
set_option maxHeartbeats 600000 in
set_option maxRecDepth 100000 in
theorem c_Tx_room {l : Launch} {E : Ev} {M : mp_M} {sz : Nat} {σ : SS} {ca na ta : Nat → Nat} (hP : PIC E σ ca na ta M) (hI : INV σ 3) {t : Nat} (ht : t < 3) (ho : σ 2 t ≠ 0) {y : Int32} : MCi l E y_Tx_hasRoomAt prog_7_method_2_code 2 (some .boolean) 2 40 0 0 [.ref (ca (t + 43)), .int y] M sz (fun r M' => r = bz (rmb σ t (ix y)) ∧ M' = M) := by
  refine mc_of R_Tx rfl [some (.ref (ca (t + 43))), some (.int y)] (by decide) (Nat.le_of_ble_eq_true rfl) rfl ?_
  intro p e R s m ag below meth c ls Q A X hAe hQ hR hsz hw hl
  rw [← hAe] at hQ
  obtain ⟨⟨hx, hb, hml, hown, hts⟩, hE, hA, hr, hlk, hnm⟩ := X
  have hK := hE.1
  refine x_iload_n hx hb d_Tx_hasRoomAt_0 hl rfl ?_
  refine lv_if_eq hx hb d_Tx_hasRoomAt_1 rfl (fun h1 => ?_) (fun h1 => ?_)
  · subst h1
    refine lv_iconst (v := nI 0) hx hb d_Tx_hasRoomAt_44 (by decide) ?_
    exact x_reti hQ hx hb hr hlk (by first | exact nar_bz | decide) hw (by omega) (by omega) d_Tx_hasRoomAt_45 (⟨by first | exact bz_t (rmb_t ht ho h8 hq0 h19 (kind_p hI h37) h37) | exact bz_f (rmb_6 h37) | exact bz_f (rmb_4 h19.1) | exact bz_f (rmb_2 h8) | (rw [ix_0]; exact bz_f (rmb_3 rfl)), rfl⟩)
  · refine x_iload_n hx hb d_Tx_hasRoomAt_4 hl rfl ?_
    refine m_calli (k_S ⟨hx, hb, hml, hown, hts⟩ hE hA hw (c_P_good) (wm1 208 rfl rfl) (wm1 209 rfl rfl) (wm1 10 rfl rfl) (wm1 210 rfl rfl) rfl rfl ar_P_isGood ⟨Nat.le_trans (Nat.le_of_ble_eq_true rfl) hR.1, Nat.le_trans (Nat.le_of_ble_eq_true rfl) hR.2.1⟩ rfl hl.1 rfl (Nat.le_of_ble_eq_true rfl) d_Tx_hasRoomAt_5 ⟨Nat.le_trans (Nat.le_of_ble_eq_true rfl) hR.2.2.1, Nat.le_trans (Nat.le_of_ble_eq_true rfl) hR.2.2.2⟩) hw (mfr_in hw hA) (fun r5 M5 H locs hP5 hw => ?_)
    obtain ⟨rfl, hM5⟩ := hP5
    rw [hM5] at hw
    refine x_if_eqB hx hb d_Tx_hasRoomAt_8 rfl (fun h8 => ?_) (fun h8 => ?_)
    · refine lv_iconst (v := nI 0) hx hb d_Tx_hasRoomAt_44 (by decide) ?_
      exact x_reti hQ hx hb hr hlk (by first | exact nar_bz | decide) hw (by omega) (by omega) d_Tx_hasRoomAt_45 (⟨by first | exact bz_t (rmb_t ht ho h8 hq0 h19 (kind_p hI h37) h37) | exact bz_f (rmb_6 h37) | exact bz_f (rmb_4 h19.1) | exact bz_f (rmb_2 h8) | (rw [ix_0]; exact bz_f (rmb_3 rfl)), rfl⟩)
    · obtain ⟨q, hq, rfl⟩ := ix_good h8
      rw [ix_n hq] at *
      have hq0 : 0 < q := by
        rcases Nat.eq_zero_or_pos q with z | z
        · exact absurd (by rw [z]; rfl) h1
        · exact z
      first | refine x_aload_n hx hb d_Tx_hasRoomAt_11 hl rfl ?_ | refine x_aload_nQ hx hb d_Tx_hasRoomAt_11 hl rfl ?_
      refine m_get hx hb hts hown hK hw ci_Tx (pic_j hP ht) 0 (by decide) (wm1 90 rfl rfl) rfl d_Tx_hasRoomAt_12 ?_
      refine x_iload_n hx hb d_Tx_hasRoomAt_15 hl rfl ?_
      refine m_callq (k_V ⟨hx, hb, hml, hown, hts⟩ hE hA hw (c_Tr_at (pic_t hP (k := 16 + t) (by omega)) (pic_a hP (k := 16 + t) (by omega))) (ci_Tr).1 rfl (pic_t hP (k := 16 + t) (by omega)) (wm1 211 rfl rfl) (wm1 212 rfl rfl) (wm1 213 rfl rfl) (wm1 6 rfl rfl) (wm1 214 rfl rfl) rfl rfl ar_Tr_at ⟨Nat.le_trans (Nat.le_of_ble_eq_true rfl) hR.1, Nat.le_trans (Nat.le_of_ble_eq_true rfl) hR.2.1⟩ rfl hl.1 rfl (Nat.le_of_ble_eq_true rfl) d_Tx_hasRoomAt_16 ⟨Nat.le_trans (Nat.le_of_ble_eq_true rfl) hR.2.2.1, Nat.le_trans (Nat.le_of_ble_eq_true rfl) hR.2.2.2⟩) hw (mfr_in hw hA) (fun r16 M16 H locs hP16 hw => ?_)
      obtain ⟨rfl, hM16⟩ := hP16
      rw [hM16] at hw
      rw [tat_row (pic_z hP) (k := 16 + t) (by omega), ix_n hq]
      refine x_ifnonnullQ hx hb d_Tx_hasRoomAt_19 rfl (fun a19 h19 => ?_) (fun h19 => ?_)
      · have h19 := nq_some h19
        refine lv_iconst (v := nI 0) hx hb d_Tx_hasRoomAt_44 (by decide) ?_
        exact x_reti hQ hx hb hr hlk (by first | exact nar_bz | decide) hw (by omega) (by omega) d_Tx_hasRoomAt_45 (⟨by first | exact bz_t (rmb_t ht ho h8 hq0 h19 (kind_p hI h37) h37) | exact bz_f (rmb_6 h37) | exact bz_f (rmb_4 h19.1) | exact bz_f (rmb_2 h8) | (rw [ix_0]; exact bz_f (rmb_3 rfl)), rfl⟩)
      · have h19 := nq_none h19
        first | refine x_aload_n hx hb d_Tx_hasRoomAt_22 hl rfl ?_ | refine x_aload_nQ hx hb d_Tx_hasRoomAt_22 hl rfl ?_
        refine m_get hx hb hts hown hK hw ci_Tx (pic_j hP ht) 0 (by decide) (wm1 90 rfl rfl) rfl d_Tx_hasRoomAt_23 ?_
        refine x_iload_n hx hb d_Tx_hasRoomAt_26 hl rfl ?_
        refine m_calli (k_S ⟨hx, hb, hml, hown, hts⟩ hE hA hw (c_P_parent (by omega)) (wm1 215 rfl rfl) (wm1 216 rfl rfl) (wm1 10 rfl rfl) (wm1 217 rfl rfl) rfl rfl ar_P_parentOf ⟨Nat.le_trans (Nat.le_of_ble_eq_true rfl) hR.1, Nat.le_trans (Nat.le_of_ble_eq_true rfl) hR.2.1⟩ rfl hl.1 rfl (Nat.le_of_ble_eq_true rfl) d_Tx_hasRoomAt_27 ⟨Nat.le_trans (Nat.le_of_ble_eq_true rfl) hR.2.2.1, Nat.le_trans (Nat.le_of_ble_eq_true rfl) hR.2.2.2⟩) hw (mfr_in hw hA) (fun r27 M27 H locs hP27 hw => ?_)
        obtain ⟨rfl, hM27⟩ := hP27
        rw [hM27] at hw
        refine m_callq (k_V ⟨hx, hb, hml, hown, hts⟩ hE hA hw (c_Tr_at (pic_t hP (k := 16 + t) (by omega)) (pic_a hP (k := 16 + t) (by omega))) (ci_Tr).1 rfl (pic_t hP (k := 16 + t) (by omega)) (wm1 211 rfl rfl) (wm1 212 rfl rfl) (wm1 213 rfl rfl) (wm1 6 rfl rfl) (wm1 214 rfl rfl) rfl rfl ar_Tr_at ⟨Nat.le_trans (Nat.le_of_ble_eq_true rfl) hR.1, Nat.le_trans (Nat.le_of_ble_eq_true rfl) hR.2.1⟩ rfl hl.1 rfl (Nat.le_of_ble_eq_true rfl) d_Tx_hasRoomAt_30 ⟨Nat.le_trans (Nat.le_of_ble_eq_true rfl) hR.2.2.1, Nat.le_trans (Nat.le_of_ble_eq_true rfl) hR.2.2.2⟩) hw (mfr_in hw hA) (fun r30 M30 H locs hP30 hw => ?_)
        obtain ⟨rfl, hM30⟩ := hP30
        rw [hM30] at hw
        rw [tat_row (pic_z hP) (k := 16 + t) (by omega), ix_n (pp_lt q)]
        refine m_calli (k_SN ⟨hx, hb, hml, hown, hts⟩ hE hA hw (c_T_kind (kk := σ 6 (rat σ (16 + t) (pp q))) (kind_0 hI) (kind_1 hP hI)) hE.2.1.1.2.2.2.1 (wm1 219 rfl rfl) (wm1 1 rfl rfl) (wm1 220 rfl rfl) rfl rfl ar_T_kindOf ⟨Nat.le_trans (Nat.le_of_ble_eq_true rfl) hR.1, Nat.le_trans (Nat.le_of_ble_eq_true rfl) hR.2.1⟩ rfl hl.1 rfl (Nat.le_of_ble_eq_true rfl) d_Tx_hasRoomAt_33 ⟨Nat.le_trans (Nat.le_of_ble_eq_true rfl) hR.2.2.1, Nat.le_trans (Nat.le_of_ble_eq_true rfl) hR.2.2.2⟩) hw (mfr_in hw hA) (fun r33 M33 H locs hP33 hw => ?_)
        obtain ⟨rfl, hM33⟩ := hP33
        rw [hM33] at hw
        refine lv_iconst (v := nI 1) hx hb d_Tx_hasRoomAt_36 (by decide) ?_
        have hk9 := kind_le hI (rat_le (pic_z hP) (k := 16 + t) (q := pp q))
        refine x_icmp_ne hx hb d_Tx_hasRoomAt_37 rfl (by omega) (by omega) (fun h37 => ?_) (fun h37 => ?_)
        · refine lv_iconst (v := nI 0) hx hb d_Tx_hasRoomAt_44 (by decide) ?_
          exact x_reti hQ hx hb hr hlk (by first | exact nar_bz | decide) hw (by omega) (by omega) d_Tx_hasRoomAt_45 (⟨by first | exact bz_t (rmb_t ht ho h8 hq0 h19 (kind_p hI h37) h37) | exact bz_f (rmb_6 h37) | exact bz_f (rmb_4 h19.1) | exact bz_f (rmb_2 h8) | (rw [ix_0]; exact bz_f (rmb_3 rfl)), rfl⟩)
        · refine lv_iconst (v := nI 1) hx hb d_Tx_hasRoomAt_40 (by decide) ?_
          refine lv_goto hx hb d_Tx_hasRoomAt_41 rfl ?_
          exact x_reti hQ hx hb hr hlk (by first | exact nar_bz | decide) hw (by omega) (by omega) d_Tx_hasRoomAt_45 (⟨by first | exact bz_t (rmb_t ht ho h8 hq0 h19 (kind_p hI h37) h37) | exact bz_f (rmb_6 h37) | exact bz_f (rmb_4 h19.1) | exact bz_f (rmb_2 h8) | (rw [ix_0]; exact bz_f (rmb_3 rfl)), rfl⟩)

set_option maxHeartbeats 1000000 in
set_option maxRecDepth 100000 in
theorem c_Tx_touch {l : Launch} {E : Ev} {M : mp_M} {sz : Nat} {σ : SS} {ca na ta : Nat → Nat} (hP : PIC E σ ca na ta M) (hI : INV σ 3) {t : Nat} (ht : t < 3) (ho : σ 2 t ≠ 0) {n0 : Nat} (h0 : 0 < rat σ (16 + t) n0) : MCv l E y_Tx_touch prog_7_method_5_code 5 none 3 65 4 40 [.ref (ca (t + 43)), .int (nI n0)] M sz (fun M' => ∃ na' ta', PIC E (tch (pd n0) σ t n0) ca na' ta' M' ∧ tkp M M') := by
  refine mc_of R_Tx rfl [some (.ref (ca (t + 43))), some (.int (nI n0)), none, none, none] (by decide) (Nat.le_of_ble_eq_true rfl) rfl ?_
  intro p e R s m ag below meth c ls Q A X hAe hQ hR hsz hw hl
  rw [← hAe] at hQ
  obtain ⟨⟨hx, hb, hml, hown, hts⟩, hE, hA, hr, hlk, hnm⟩ := X
  have hK := hE.1
  obtain ⟨F, hF⟩ : ∃ F, F = tch (pd n0) σ t n0 := ⟨_, rfl⟩
  rw [← hF] at hQ
  have hn0 := rat_lt125 (σ := σ) (s := 16 + t) (n := n0) (by omega)
  have loop : ∀ (n : Nat) (σ : SS) (na ta : Nat → Nat) (M0 : mp_M) (q c0 s0 : Nat) (H : Heap) (locs : List Loc) (ls : Array Slot), c0 + n + 1 ≤ 4 → s0 + 10 * n + 10 ≤ 40 → q < 125 → INV σ 3 → σ 2 t ≠ 0 → 0 < rat σ (16 + t) q → pd q = n → PIC E σ ca na ta M0 → tkp M M0 → tch n σ t q = F → mw E.1 vwCl A s.heap M0 H locs → lh ls [some (.ref (ca (t + 43))), some (.int (nI n0)), some (.int (nI q)), some (.int (nI n)), none] → W p l e R s m ag below meth c H locs c0 s0 Q (F0 m 7 ls []) := by
    intro n
    induction n with
    | zero =>
      intro σ na ta M0 q c0 s0 H locs ls hc hs hq hI ho h0 hd hP hk0 hT hw hl
      have hT : tst σ t q = F := hT
      have hg := rat_good (σ := σ) (k := 16 + t) (p := q) (by omega)
      have hle := rat_le (pic_z hP) (k := 16 + t) (q := q)
      refine x_iload_n hx hb d_Tx_touch_7 hl rfl ?_
      refine x_if_lt hx hb d_Tx_touch_8 rfl (by omega) ?_
      first | refine x_aload_n hx hb d_Tx_touch_11 hl rfl ?_ | refine x_aload_nQ hx hb d_Tx_touch_11 hl rfl ?_
      refine m_get hx hb hts hown hK hw ci_Tx (pic_j hP ht) 0 (by decide) (wm1 90 rfl rfl) rfl d_Tx_touch_12 ?_
      refine x_iload_n hx hb d_Tx_touch_15 hl rfl ?_
      refine m_callq (k_V ⟨hx, hb, hml, hown, hts⟩ hE hA hw (c_Tr_at (pic_u hP ht) (pic_a hP (k := 16 + t) (by omega))) (ci_Tr).1 rfl (pic_u hP ht) (wm1 211 rfl rfl) (wm1 212 rfl rfl) (wm1 213 rfl rfl) (wm1 6 rfl rfl) (wm1 214 rfl rfl) rfl rfl ar_Tr_at ⟨Nat.le_trans (Nat.le_of_ble_eq_true rfl) hR.1, Nat.le_trans (Nat.le_of_ble_eq_true rfl) hR.2.1⟩ rfl hl.1 rfl (Nat.le_of_ble_eq_true rfl) d_Tx_touch_16 ⟨by omega, by omega⟩) hw (mfr_in hw hA) (fun r16 M16 H locs hP16 hw => ?_)
      obtain ⟨rfl, hM16⟩ := hP16
      rw [hM16] at hw
      rw [tat_row (pic_z hP) (k := 16 + t) (by omega), ix_n hq, nq_n h0]
      first | refine x_astore hx hb d_Tx_touch_19 hl (Nat.le_of_ble_eq_true rfl) (lh_k (i := 3) rfl (by first | exact lk_n | exact lk_i | exact lk_r | exact lk_q | exact lk_0)) (fun ls hl => ?_) | refine x_astoreQ hx hb d_Tx_touch_19 hl (Nat.le_of_ble_eq_true rfl) (lh_k (i := 3) rfl (by first | exact lk_n | exact lk_i | exact lk_r | exact lk_q | exact lk_0)) (fun ls hl => ?_)
      first | refine x_aload hx hb d_Tx_touch_21 hl rfl ?_ | refine x_aloadQ hx hb d_Tx_touch_21 hl rfl ?_
      refine lv_ifnull hx hb d_Tx_touch_23 ?_
      first | refine x_aload hx hb d_Tx_touch_26 hl rfl ?_ | refine x_aloadQ hx hb d_Tx_touch_26 hl rfl ?_
      refine m_get hx hb hts hown hK hw ci_N (pic_n hP h0 hle) 4 (by decide) (wm1 122 rfl rfl) rfl d_Tx_touch_28 ?_
      refine lv_iconst (v := -1) hx hb d_Tx_touch_31 (by decide) ?_
      refine lv_icmp_eq hx hb d_Tx_touch_32 rfl (fun h32 => ?_) (fun h32 => ?_)
      · have h32 := crI_1.mp h32
        have hP1 : PIC E (tst σ t q) ca na ta M0 := by rw [tst_f (by omega)]; exact hP
        obtain ⟨na1, hna⟩ : ∃ z, z = na := ⟨_, rfl⟩
        obtain ⟨ta1, hta⟩ : ∃ z, z = ta := ⟨_, rfl⟩
        rw [← hna, ← hta] at hP1
        have hk1 := hk0
        refine x_iload_n hx hb d_Tx_touch_53 hl rfl ?_
        refine m_calli (k_S ⟨hx, hb, hml, hown, hts⟩ hE hA hw (c_P_parent (by omega)) (wm1 215 rfl rfl) (wm1 216 rfl rfl) (wm1 10 rfl rfl) (wm1 217 rfl rfl) rfl rfl ar_P_parentOf ⟨Nat.le_trans (Nat.le_of_ble_eq_true rfl) hR.1, Nat.le_trans (Nat.le_of_ble_eq_true rfl) hR.2.1⟩ rfl hl.1 rfl (Nat.le_of_ble_eq_true rfl) d_Tx_touch_54 ⟨by omega, by omega⟩) hw (mfr_in hw hA) (fun r54 M54 H locs hP54 hw => ?_)
        obtain ⟨rfl, hM54⟩ := hP54
        rw [hM54] at hw
        refine x_istore_n hx hb d_Tx_touch_57 hl (Nat.le_of_ble_eq_true rfl) (lh_k (i := 1) rfl (by first | exact lk_n | exact lk_i | exact lk_r | exact lk_q | exact lk_0)) (fun ls hl => ?_)
        refine x_iinc hx hb d_Tx_touch_58 hl rfl dec_0 (lh_k (i := 2) rfl (by first | exact lk_n | exact lk_i | exact lk_r | exact lk_q | exact lk_0)) (fun ls hl => ?_)
        refine lv_goto hx hb d_Tx_touch_61 rfl ?_
        refine x_iload_n hx hb d_Tx_touch_7 hl rfl ?_
        refine lv_if_lt hx hb d_Tx_touch_8 rfl (fun h8 => ?_) (fun h8 => ?_)
        · exact x_retv hQ hx hb hr hlk hw (by omega) (by omega) d_Tx_touch_64 (⟨na1, ta1, by rw [← hT]; exact hP1, hk1⟩)
        · exact absurd (by decide) h8
      · have h32 : σ 12 (rat σ (16 + t) q) < 128 := Nat.lt_of_not_le (fun z => h32 (crI_1.mpr z))
        first | refine x_aload_n hx hb d_Tx_touch_35 hl rfl ?_ | refine x_aload_nQ hx hb d_Tx_touch_35 hl rfl ?_
        refine m_get hx hb hts hown hK hw ci_Tx (pic_j hP ht) 0 (by decide) (wm1 90 rfl rfl) rfl d_Tx_touch_36 ?_
        refine x_iload_n hx hb d_Tx_touch_39 hl rfl ?_
        first | refine x_aload hx hb d_Tx_touch_40 hl rfl ?_ | refine x_aloadQ hx hb d_Tx_touch_40 hl rfl ?_
        first | refine x_aload hx hb d_Tx_touch_42 hl rfl ?_ | refine x_aloadQ hx hb d_Tx_touch_42 hl rfl ?_
        refine m_get hx hb hts hown hK hw ci_N (pic_n hP h0 hle) 0 (by decide) (wm1 110 rfl rfl) rfl d_Tx_touch_44 ?_
        refine m_callq (k_S ⟨hx, hb, hml, hown, hts⟩ hE hA hw (c_N_after (pic_n hP h0 hle)) (wm1 235 rfl rfl) (wm1 236 rfl rfl) (wm1 8 rfl rfl) (wm1 237 rfl rfl) rfl rfl ar_N_after ⟨Nat.le_trans (Nat.le_of_ble_eq_true rfl) hR.1, Nat.le_trans (Nat.le_of_ble_eq_true rfl) hR.2.1⟩ rfl hl.1 rfl (Nat.le_of_ble_eq_true rfl) d_Tx_touch_47 ⟨by omega, by omega⟩) hw (mfr_in hw hA) (fun r47 M47 H locs hP47 hw => ?_)
        obtain ⟨q1, rfl, hq1, hM47⟩ := hP47
        have hP2 := pic_after hP hI ht h0 hle hq1
        rw [← hM47] at hP2
        have hv2 : M47 q1 = some (.inr (3, [.int (nI (σ 10 (rat σ (16 + t) q))), .int (bz (decide (σ 6 (rat σ (16 + t) q) = 1))), .ref (ta (rat σ (16 + t) q)), .int (nI (σ 11 (rat σ (16 + t) q) + 1)), .int (-1), .ref (na (rat σ (16 + t) q)), .int (-1), .int (-1), .int (nI 0), .int (shI (σ 15 (rat σ (16 + t) q)))])) := by rw [hM47]; exact mp_up_s
        have hk2 : tkp M M47 := by rw [hM47]; exact tkp_n hk0 hq1
        refine m_callv (k_V ⟨hx, hb, hml, hown, hts⟩ hE hA hw (c_Tr_put (pic_u hP2 ht) (pic_a hP2 (k := 16 + t) (by omega)) hv2) (ci_Tr).1 rfl (pic_u hP2 ht) (wm1 229 rfl rfl) (wm1 157 rfl rfl) (wm1 158 rfl rfl) (wm1 6 rfl rfl) (wm1 159 rfl rfl) rfl rfl ar_Tr_put ⟨Nat.le_trans (Nat.le_of_ble_eq_true rfl) hR.1, Nat.le_trans (Nat.le_of_ble_eq_true rfl) hR.2.1⟩ rfl hl.1 rfl (Nat.le_of_ble_eq_true rfl) d_Tx_touch_50 ⟨by omega, by omega⟩) hw (mfr_in hw hA) (fun M50 H locs hP50 hw => ?_)
        rw [tput_n hq] at hP50
        have hP1 := tst_pic h32 hP2 va_same ht hg rfl
        rw [← hP50] at hP1
        have hk1 : tkp M M50 := by rw [hP50]; exact tkp_l hk2 (pic_a hP2 (k := 16 + t) (by omega))
        obtain ⟨na1, hna⟩ : ∃ z, z = va_up na (σ 4 0 + 1) q1 := ⟨_, rfl⟩
        obtain ⟨ta1, hta⟩ : ∃ z, z = va_up ta (σ 4 0 + 1) (ta (rat σ (16 + t) q)) := ⟨_, rfl⟩
        rw [← hna, ← hta] at hP1
        refine x_iload_n hx hb d_Tx_touch_53 hl rfl ?_
        refine m_calli (k_S ⟨hx, hb, hml, hown, hts⟩ hE hA hw (c_P_parent (by omega)) (wm1 215 rfl rfl) (wm1 216 rfl rfl) (wm1 10 rfl rfl) (wm1 217 rfl rfl) rfl rfl ar_P_parentOf ⟨Nat.le_trans (Nat.le_of_ble_eq_true rfl) hR.1, Nat.le_trans (Nat.le_of_ble_eq_true rfl) hR.2.1⟩ rfl hl.1 rfl (Nat.le_of_ble_eq_true rfl) d_Tx_touch_54 ⟨by omega, by omega⟩) hw (mfr_in hw hA) (fun r54 M54 H locs hP54 hw => ?_)
        obtain ⟨rfl, hM54⟩ := hP54
        rw [hM54] at hw
        refine x_istore_n hx hb d_Tx_touch_57 hl (Nat.le_of_ble_eq_true rfl) (lh_k (i := 1) rfl (by first | exact lk_n | exact lk_i | exact lk_r | exact lk_q | exact lk_0)) (fun ls hl => ?_)
        refine x_iinc hx hb d_Tx_touch_58 hl rfl dec_0 (lh_k (i := 2) rfl (by first | exact lk_n | exact lk_i | exact lk_r | exact lk_q | exact lk_0)) (fun ls hl => ?_)
        refine lv_goto hx hb d_Tx_touch_61 rfl ?_
        refine x_iload_n hx hb d_Tx_touch_7 hl rfl ?_
        refine lv_if_lt hx hb d_Tx_touch_8 rfl (fun h8 => ?_) (fun h8 => ?_)
        · exact x_retv hQ hx hb hr hlk hw (by omega) (by omega) d_Tx_touch_64 (⟨na1, ta1, by rw [← hT]; exact hP1, hk1⟩)
        · exact absurd (by decide) h8
    | succ n ih =>
      intro σ na ta M0 q c0 s0 H locs ls hc hs hq hI ho h0 hd hP hk0 hT hw hl
      have hT : tch n (tst σ t q) t (pp q) = F := hT
      have hg := rat_good (σ := σ) (k := 16 + t) (p := q) (by omega)
      have hle := rat_le (pic_z hP) (k := 16 + t) (q := q)
      have hq0 := pos_of_pd hd
      have hpd := pp_d hg hq0
      have hpq := ((hI.2.2.2.2.2.2 t ht ho).1.2 q hq0 h0).1
      refine x_iload_n hx hb d_Tx_touch_7 hl rfl ?_
      refine x_if_lt hx hb d_Tx_touch_8 rfl (by omega) ?_
      first | refine x_aload_n hx hb d_Tx_touch_11 hl rfl ?_ | refine x_aload_nQ hx hb d_Tx_touch_11 hl rfl ?_
      refine m_get hx hb hts hown hK hw ci_Tx (pic_j hP ht) 0 (by decide) (wm1 90 rfl rfl) rfl d_Tx_touch_12 ?_
      refine x_iload_n hx hb d_Tx_touch_15 hl rfl ?_
      refine m_callq (k_V ⟨hx, hb, hml, hown, hts⟩ hE hA hw (c_Tr_at (pic_u hP ht) (pic_a hP (k := 16 + t) (by omega))) (ci_Tr).1 rfl (pic_u hP ht) (wm1 211 rfl rfl) (wm1 212 rfl rfl) (wm1 213 rfl rfl) (wm1 6 rfl rfl) (wm1 214 rfl rfl) rfl rfl ar_Tr_at ⟨Nat.le_trans (Nat.le_of_ble_eq_true rfl) hR.1, Nat.le_trans (Nat.le_of_ble_eq_true rfl) hR.2.1⟩ rfl hl.1 rfl (Nat.le_of_ble_eq_true rfl) d_Tx_touch_16 ⟨by omega, by omega⟩) hw (mfr_in hw hA) (fun r16 M16 H locs hP16 hw => ?_)
      obtain ⟨rfl, hM16⟩ := hP16
      rw [hM16] at hw
      rw [tat_row (pic_z hP) (k := 16 + t) (by omega), ix_n hq, nq_n h0]
      first | refine x_astore hx hb d_Tx_touch_19 hl (Nat.le_of_ble_eq_true rfl) (lh_k (i := 3) rfl (by first | exact lk_n | exact lk_i | exact lk_r | exact lk_q | exact lk_0)) (fun ls hl => ?_) | refine x_astoreQ hx hb d_Tx_touch_19 hl (Nat.le_of_ble_eq_true rfl) (lh_k (i := 3) rfl (by first | exact lk_n | exact lk_i | exact lk_r | exact lk_q | exact lk_0)) (fun ls hl => ?_)
      first | refine x_aload hx hb d_Tx_touch_21 hl rfl ?_ | refine x_aloadQ hx hb d_Tx_touch_21 hl rfl ?_
      refine lv_ifnull hx hb d_Tx_touch_23 ?_
      first | refine x_aload hx hb d_Tx_touch_26 hl rfl ?_ | refine x_aloadQ hx hb d_Tx_touch_26 hl rfl ?_
      refine m_get hx hb hts hown hK hw ci_N (pic_n hP h0 hle) 4 (by decide) (wm1 122 rfl rfl) rfl d_Tx_touch_28 ?_
      refine lv_iconst (v := -1) hx hb d_Tx_touch_31 (by decide) ?_
      refine lv_icmp_eq hx hb d_Tx_touch_32 rfl (fun h32 => ?_) (fun h32 => ?_)
      · have h32 := crI_1.mp h32
        have hP1 : PIC E (tst σ t q) ca na ta M0 := by rw [tst_f (by omega)]; exact hP
        obtain ⟨na1, hna⟩ : ∃ z, z = na := ⟨_, rfl⟩
        obtain ⟨ta1, hta⟩ : ∃ z, z = ta := ⟨_, rfl⟩
        rw [← hna, ← hta] at hP1
        have hk1 := hk0
        refine x_iload_n hx hb d_Tx_touch_53 hl rfl ?_
        refine m_calli (k_S ⟨hx, hb, hml, hown, hts⟩ hE hA hw (c_P_parent (by omega)) (wm1 215 rfl rfl) (wm1 216 rfl rfl) (wm1 10 rfl rfl) (wm1 217 rfl rfl) rfl rfl ar_P_parentOf ⟨Nat.le_trans (Nat.le_of_ble_eq_true rfl) hR.1, Nat.le_trans (Nat.le_of_ble_eq_true rfl) hR.2.1⟩ rfl hl.1 rfl (Nat.le_of_ble_eq_true rfl) d_Tx_touch_54 ⟨by omega, by omega⟩) hw (mfr_in hw hA) (fun r54 M54 H locs hP54 hw => ?_)
        obtain ⟨rfl, hM54⟩ := hP54
        rw [hM54] at hw
        refine x_istore_n hx hb d_Tx_touch_57 hl (Nat.le_of_ble_eq_true rfl) (lh_k (i := 1) rfl (by first | exact lk_n | exact lk_i | exact lk_r | exact lk_q | exact lk_0)) (fun ls hl => ?_)
        refine x_iinc hx hb d_Tx_touch_58 hl rfl (dec_n n) (lh_k (i := 2) rfl (by first | exact lk_n | exact lk_i | exact lk_r | exact lk_q | exact lk_0)) (fun ls hl => ?_)
        refine lv_goto hx hb d_Tx_touch_61 rfl ?_
        exact ih (tst σ t q) na1 ta1 _ (pp q) _ _ H locs ls (by omega) (by omega) (pp_lt q) (inv_tst hI ht ho h0) (by rw [tst_o (by decide) (by decide)]; exact ho) (tst_pos hI.1 hg ht hpq) (by omega) hP1 hk1 hT hw (lh_drop 4 hl)
      · have h32 : σ 12 (rat σ (16 + t) q) < 128 := Nat.lt_of_not_le (fun z => h32 (crI_1.mpr z))
        first | refine x_aload_n hx hb d_Tx_touch_35 hl rfl ?_ | refine x_aload_nQ hx hb d_Tx_touch_35 hl rfl ?_
        refine m_get hx hb hts hown hK hw ci_Tx (pic_j hP ht) 0 (by decide) (wm1 90 rfl rfl) rfl d_Tx_touch_36 ?_
        refine x_iload_n hx hb d_Tx_touch_39 hl rfl ?_
        first | refine x_aload hx hb d_Tx_touch_40 hl rfl ?_ | refine x_aloadQ hx hb d_Tx_touch_40 hl rfl ?_
        first | refine x_aload hx hb d_Tx_touch_42 hl rfl ?_ | refine x_aloadQ hx hb d_Tx_touch_42 hl rfl ?_
        refine m_get hx hb hts hown hK hw ci_N (pic_n hP h0 hle) 0 (by decide) (wm1 110 rfl rfl) rfl d_Tx_touch_44 ?_
        refine m_callq (k_S ⟨hx, hb, hml, hown, hts⟩ hE hA hw (c_N_after (pic_n hP h0 hle)) (wm1 235 rfl rfl) (wm1 236 rfl rfl) (wm1 8 rfl rfl) (wm1 237 rfl rfl) rfl rfl ar_N_after ⟨Nat.le_trans (Nat.le_of_ble_eq_true rfl) hR.1, Nat.le_trans (Nat.le_of_ble_eq_true rfl) hR.2.1⟩ rfl hl.1 rfl (Nat.le_of_ble_eq_true rfl) d_Tx_touch_47 ⟨by omega, by omega⟩) hw (mfr_in hw hA) (fun r47 M47 H locs hP47 hw => ?_)
        obtain ⟨q1, rfl, hq1, hM47⟩ := hP47
        have hP2 := pic_after hP hI ht h0 hle hq1
        rw [← hM47] at hP2
        have hv2 : M47 q1 = some (.inr (3, [.int (nI (σ 10 (rat σ (16 + t) q))), .int (bz (decide (σ 6 (rat σ (16 + t) q) = 1))), .ref (ta (rat σ (16 + t) q)), .int (nI (σ 11 (rat σ (16 + t) q) + 1)), .int (-1), .ref (na (rat σ (16 + t) q)), .int (-1), .int (-1), .int (nI 0), .int (shI (σ 15 (rat σ (16 + t) q)))])) := by rw [hM47]; exact mp_up_s
        have hk2 : tkp M M47 := by rw [hM47]; exact tkp_n hk0 hq1
        refine m_callv (k_V ⟨hx, hb, hml, hown, hts⟩ hE hA hw (c_Tr_put (pic_u hP2 ht) (pic_a hP2 (k := 16 + t) (by omega)) hv2) (ci_Tr).1 rfl (pic_u hP2 ht) (wm1 229 rfl rfl) (wm1 157 rfl rfl) (wm1 158 rfl rfl) (wm1 6 rfl rfl) (wm1 159 rfl rfl) rfl rfl ar_Tr_put ⟨Nat.le_trans (Nat.le_of_ble_eq_true rfl) hR.1, Nat.le_trans (Nat.le_of_ble_eq_true rfl) hR.2.1⟩ rfl hl.1 rfl (Nat.le_of_ble_eq_true rfl) d_Tx_touch_50 ⟨by omega, by omega⟩) hw (mfr_in hw hA) (fun M50 H locs hP50 hw => ?_)
        rw [tput_n hq] at hP50
        have hP1 := tst_pic h32 hP2 va_same ht hg rfl
        rw [← hP50] at hP1
        have hk1 : tkp M M50 := by rw [hP50]; exact tkp_l hk2 (pic_a hP2 (k := 16 + t) (by omega))
        obtain ⟨na1, hna⟩ : ∃ z, z = va_up na (σ 4 0 + 1) q1 := ⟨_, rfl⟩
        obtain ⟨ta1, hta⟩ : ∃ z, z = va_up ta (σ 4 0 + 1) (ta (rat σ (16 + t) q)) := ⟨_, rfl⟩
        rw [← hna, ← hta] at hP1
        refine x_iload_n hx hb d_Tx_touch_53 hl rfl ?_
        refine m_calli (k_S ⟨hx, hb, hml, hown, hts⟩ hE hA hw (c_P_parent (by omega)) (wm1 215 rfl rfl) (wm1 216 rfl rfl) (wm1 10 rfl rfl) (wm1 217 rfl rfl) rfl rfl ar_P_parentOf ⟨Nat.le_trans (Nat.le_of_ble_eq_true rfl) hR.1, Nat.le_trans (Nat.le_of_ble_eq_true rfl) hR.2.1⟩ rfl hl.1 rfl (Nat.le_of_ble_eq_true rfl) d_Tx_touch_54 ⟨by omega, by omega⟩) hw (mfr_in hw hA) (fun r54 M54 H locs hP54 hw => ?_)
        obtain ⟨rfl, hM54⟩ := hP54
        rw [hM54] at hw
        refine x_istore_n hx hb d_Tx_touch_57 hl (Nat.le_of_ble_eq_true rfl) (lh_k (i := 1) rfl (by first | exact lk_n | exact lk_i | exact lk_r | exact lk_q | exact lk_0)) (fun ls hl => ?_)
        refine x_iinc hx hb d_Tx_touch_58 hl rfl (dec_n n) (lh_k (i := 2) rfl (by first | exact lk_n | exact lk_i | exact lk_r | exact lk_q | exact lk_0)) (fun ls hl => ?_)
        refine lv_goto hx hb d_Tx_touch_61 rfl ?_
        exact ih (tst σ t q) na1 ta1 _ (pp q) _ _ H locs ls (by omega) (by omega) (pp_lt q) (inv_tst hI ht ho h0) (by rw [tst_o (by decide) (by decide)]; exact ho) (tst_pos hI.1 hg ht hpq) (by omega) hP1 hk1 hT hw (lh_drop 4 hl)
  refine x_iload_n hx hb d_Tx_touch_0 hl rfl ?_
  refine x_istore_n hx hb d_Tx_touch_1 hl (Nat.le_of_ble_eq_true rfl) (lh_k (i := 1) rfl (by first | exact lk_n | exact lk_i | exact lk_r | exact lk_q | exact lk_0)) (fun ls hl => ?_)
  refine x_iload_n hx hb d_Tx_touch_2 hl rfl ?_
  refine m_calli (k_S ⟨hx, hb, hml, hown, hts⟩ hE hA hw (c_P_depth (by omega)) (wm1 234 rfl rfl) (wm1 191 rfl rfl) (wm1 10 rfl rfl) (wm1 192 rfl rfl) rfl rfl ar_P_depthOf ⟨Nat.le_trans (Nat.le_of_ble_eq_true rfl) hR.1, Nat.le_trans (Nat.le_of_ble_eq_true rfl) hR.2.1⟩ rfl hl.1 rfl (Nat.le_of_ble_eq_true rfl) d_Tx_touch_3 ⟨Nat.le_trans (Nat.le_of_ble_eq_true rfl) hR.2.2.1, Nat.le_trans (Nat.le_of_ble_eq_true rfl) hR.2.2.2⟩) hw (mfr_in hw hA) (fun r3 M3 H locs hP3 hw => ?_)
  obtain ⟨rfl, hM3⟩ := hP3
  rw [hM3] at hw
  refine x_istore_n hx hb d_Tx_touch_6 hl (Nat.le_of_ble_eq_true rfl) (lh_k (i := 2) rfl (by first | exact lk_n | exact lk_i | exact lk_r | exact lk_q | exact lk_0)) (fun ls hl => ?_)
  exact loop (pd n0) σ na ta M n0 0 0 _ _ _ (by have := pd_le n0; omega) (by have := pd_le n0; omega) hn0 hI ho h0 rfl hP tkp_r hF.symm hw hl

set_option maxHeartbeats 600000 in
set_option maxRecDepth 100000 in
theorem c_Tx_add {l : Launch} {E : Ev} {M : mp_M} {sz : Nat} {σ : SS} {ca na ta : Nat → Nat} (hP : PIC E σ ca na ta M) {t : Nat} (ht : t < 3) {q n a : Nat} (ha : na n = a) (hg : pgb q = true) (h0 : 0 < n) (hn : n ≤ σ 4 0) (hI : INV (plc σ t q n) 3) (ho : σ 2 t ≠ 0) (hp : 0 < rat (plc σ t q n) (16 + t) (pp q)) : MCv l E y_Tx_add prog_7_method_3_code 3 none 4 89 4 40 [.ref (ca (t + 43)), .int (nI q), .ref a] M sz (fun M' => ∃ na' ta', PIC E (tch (pd (pp q)) (plc σ t q n) t (pp q)) ca na' ta' M' ∧ tkp M M') := by
  refine mc_of R_Tx rfl [some (.ref (ca (t + 43))), some (.int (nI q)), some (.ref a)] (by decide) (Nat.le_of_ble_eq_true rfl) rfl ?_
  intro p e R s m ag below meth c ls Q A X hAe hQ hR hsz hw hl
  rw [← hAe] at hQ
  obtain ⟨⟨hx, hb, hml, hown, hts⟩, hE, hA, hr, hlk, hnm⟩ := X
  have hK := hE.1
  subst ha
  have hq := (pgb_t.mp hg).1
  have hT0 := pic_a hP (k := 16 + t) (by omega)
  first | refine x_aload_n hx hb d_Tx_add_0 hl rfl ?_ | refine x_aload_nQ hx hb d_Tx_add_0 hl rfl ?_
  refine m_get hx hb hts hown hK hw ci_Tx (pic_j hP ht) 0 (by decide) (wm1 90 rfl rfl) rfl d_Tx_add_1 ?_
  refine x_iload_n hx hb d_Tx_add_4 hl rfl ?_
  first | refine x_aload_n hx hb d_Tx_add_5 hl rfl ?_ | refine x_aload_nQ hx hb d_Tx_add_5 hl rfl ?_
  refine m_callv (k_V ⟨hx, hb, hml, hown, hts⟩ hE hA hw (c_Tr_put (pic_u hP ht) hT0 (pic_n hP h0 hn)) (ci_Tr).1 rfl (pic_u hP ht) (wm1 229 rfl rfl) (wm1 157 rfl rfl) (wm1 158 rfl rfl) (wm1 6 rfl rfl) (wm1 159 rfl rfl) rfl rfl ar_Tr_put ⟨Nat.le_trans (Nat.le_of_ble_eq_true rfl) hR.1, Nat.le_trans (Nat.le_of_ble_eq_true rfl) hR.2.1⟩ rfl hl.1 rfl (Nat.le_of_ble_eq_true rfl) d_Tx_add_6 ⟨Nat.le_trans (Nat.le_of_ble_eq_true rfl) hR.2.2.1, Nat.le_trans (Nat.le_of_ble_eq_true rfl) hR.2.2.2⟩) hw (mfr_in hw hA) (fun M6 H locs hP6 hw => ?_)
  rw [tput_n hq] at hP6
  have hP2 := pic_plc hP ht hg hn (by rw [nq_n h0])
  rw [← hP6] at hP2
  have hk2 : tkp M M6 := by rw [hP6]; exact tkp_l tkp_r hT0
  first | refine x_aload_n hx hb d_Tx_add_9 hl rfl ?_ | refine x_aload_nQ hx hb d_Tx_add_9 hl rfl ?_
  refine x_iload_n hx hb d_Tx_add_10 hl rfl ?_
  refine m_calli (k_S ⟨hx, hb, hml, hown, hts⟩ hE hA hw (c_P_parent (by omega)) (wm1 215 rfl rfl) (wm1 216 rfl rfl) (wm1 10 rfl rfl) (wm1 217 rfl rfl) rfl rfl ar_P_parentOf ⟨Nat.le_trans (Nat.le_of_ble_eq_true rfl) hR.1, Nat.le_trans (Nat.le_of_ble_eq_true rfl) hR.2.1⟩ rfl hl.1 rfl (Nat.le_of_ble_eq_true rfl) d_Tx_add_11 ⟨Nat.le_trans (Nat.le_of_ble_eq_true rfl) hR.2.2.1, Nat.le_trans (Nat.le_of_ble_eq_true rfl) hR.2.2.2⟩) hw (mfr_in hw hA) (fun r11 M11 H locs hP11 hw => ?_)
  obtain ⟨rfl, hM11⟩ := hP11
  rw [hM11] at hw
  refine m_callv (k_V ⟨hx, hb, hml, hown, hts⟩ hE hA hw (c_Tx_touch hP2 hI ht (by rw [plc_o (by decide)]; exact ho) hp) (ci_Tx).1 rfl (pic_j hP2 ht) (wm1 230 rfl rfl) (wm1 231 rfl rfl) (wm1 232 rfl rfl) (wm1 7 rfl rfl) (wm1 233 rfl rfl) rfl rfl ar_Tx_touch ⟨Nat.le_trans (Nat.le_of_ble_eq_true rfl) hR.1, Nat.le_trans (Nat.le_of_ble_eq_true rfl) hR.2.1⟩ rfl hl.1 rfl (Nat.le_of_ble_eq_true rfl) d_Tx_add_14 ⟨Nat.le_trans (Nat.le_of_ble_eq_true rfl) hR.2.2.1, Nat.le_trans (Nat.le_of_ble_eq_true rfl) hR.2.2.2⟩) hw (mfr_in hw hA) (fun M14 H locs hP14 hw => ?_)
  obtain ⟨na1, ta1, hP3, hk3⟩ := hP14
  exact x_retv hQ hx hb hr hlk hw (by omega) (by omega) d_Tx_add_17 (⟨na1, ta1, hP3, fun b X z hb => hk3 b X z (hk2 b X z hb)⟩)

set_option maxHeartbeats 600000 in
set_option maxRecDepth 100000 in
theorem c_Tx_over {l : Launch} {E : Ev} {M : mp_M} {sz : Nat} {σ : SS} {ca na ta : Nat → Nat} (hP : PIC E σ ca na ta M) (hI : INV σ 3) {t : Nat} (ht : t < 3) (ho : σ 2 t ≠ 0) {q b D z : Nat} (h0 : 0 < rat σ (16 + t) q) (hb9 : M b = some (txf (D % 2 ^ (4 * z)) z)) (hN : σ 4 0 < 1290) : MCv l E y_Tx_overwrite prog_7_method_4_code 4 none 4 89 4 40 [.ref (ca (t + 43)), .int (nI q), .ref b] M sz (fun M' => ∃ na' ta', PIC E (wr3 (tch (pd q) σ t q) (rat (tch (pd q) σ t q) (16 + t) q) D z) ca na' ta' M') := by
  refine mc_of R_Tx rfl [some (.ref (ca (t + 43))), some (.int (nI q)), some (.ref b), none] (by decide) (Nat.le_of_ble_eq_true rfl) rfl ?_
  intro p e R s m ag below meth c ls Q A X hAe hQ hR hsz hw hl
  rw [← hAe] at hQ
  obtain ⟨⟨hx, hb, hml, hown, hts⟩, hE, hA, hr, hlk, hnm⟩ := X
  have hK := hE.1
  have hq := rat_lt125 (σ := σ) (s := 16 + t) (n := q) (by omega)
  have hd3 := pd_le q
  obtain ⟨-, -, -, -, -, -, r7⟩ := tch_all ht (pd q) σ q hI ho h0 rfl (by omega)
  have hro := (r7 q).1 h0
  first | refine x_aload_n hx hb d_Tx_overwrite_0 hl rfl ?_ | refine x_aload_nQ hx hb d_Tx_overwrite_0 hl rfl ?_
  refine x_iload_n hx hb d_Tx_overwrite_1 hl rfl ?_
  refine m_callv (k_V ⟨hx, hb, hml, hown, hts⟩ hE hA hw (c_Tx_touch hP hI ht ho h0) (ci_Tx).1 rfl (pic_j hP ht) (wm1 230 rfl rfl) (wm1 231 rfl rfl) (wm1 232 rfl rfl) (wm1 7 rfl rfl) (wm1 233 rfl rfl) rfl rfl ar_Tx_touch ⟨Nat.le_trans (Nat.le_of_ble_eq_true rfl) hR.1, Nat.le_trans (Nat.le_of_ble_eq_true rfl) hR.2.1⟩ rfl hl.1 rfl (Nat.le_of_ble_eq_true rfl) d_Tx_overwrite_2 ⟨Nat.le_trans (Nat.le_of_ble_eq_true rfl) hR.2.2.1, Nat.le_trans (Nat.le_of_ble_eq_true rfl) hR.2.2.2⟩) hw (mfr_in hw hA) (fun M2 H locs hP2 hw => ?_)
  obtain ⟨na2, ta2, hP2, hk2⟩ := hP2
  have hb2 := hk2 _ _ _ hb9
  generalize tch (pd q) σ t q = τ at *
  first | refine x_aload_n hx hb d_Tx_overwrite_5 hl rfl ?_ | refine x_aload_nQ hx hb d_Tx_overwrite_5 hl rfl ?_
  refine m_get hx hb hts hown hK hw ci_Tx (pic_j hP2 ht) 0 (by decide) (wm1 90 rfl rfl) rfl d_Tx_overwrite_6 ?_
  refine x_iload_n hx hb d_Tx_overwrite_9 hl rfl ?_
  refine m_callq (k_V ⟨hx, hb, hml, hown, hts⟩ hE hA hw (c_Tr_at (pic_u hP2 ht) (pic_a hP2 (k := 16 + t) (by omega))) (ci_Tr).1 rfl (pic_u hP2 ht) (wm1 211 rfl rfl) (wm1 212 rfl rfl) (wm1 213 rfl rfl) (wm1 6 rfl rfl) (wm1 214 rfl rfl) rfl rfl ar_Tr_at ⟨Nat.le_trans (Nat.le_of_ble_eq_true rfl) hR.1, Nat.le_trans (Nat.le_of_ble_eq_true rfl) hR.2.1⟩ rfl hl.1 rfl (Nat.le_of_ble_eq_true rfl) d_Tx_overwrite_10 ⟨Nat.le_trans (Nat.le_of_ble_eq_true rfl) hR.2.2.1, Nat.le_trans (Nat.le_of_ble_eq_true rfl) hR.2.2.2⟩) hw (mfr_in hw hA) (fun r10 M10 H locs hP10 hw => ?_)
  obtain ⟨rfl, hM10⟩ := hP10
  rw [hM10] at hw
  rw [tat_row (pic_z hP2) (k := 16 + t) (by omega), ix_n hq, nq_n hro]
  first | refine x_astore_n hx hb d_Tx_overwrite_13 hl (Nat.le_of_ble_eq_true rfl) (lh_k (i := 2) rfl (by first | exact lk_n | exact lk_i | exact lk_r | exact lk_q | exact lk_0)) (fun ls hl => ?_) | refine x_astore_nQ hx hb d_Tx_overwrite_13 hl (Nat.le_of_ble_eq_true rfl) (lh_k (i := 2) rfl (by first | exact lk_n | exact lk_i | exact lk_r | exact lk_q | exact lk_0)) (fun ls hl => ?_)
  have hle := rat_le (pic_z hP2) (k := 16 + t) (q := q)
  first | refine x_aload_n hx hb d_Tx_overwrite_14 hl rfl ?_ | refine x_aload_nQ hx hb d_Tx_overwrite_14 hl rfl ?_
  refine lv_ifnull hx hb d_Tx_overwrite_15 ?_
  first | refine x_aload_n hx hb d_Tx_overwrite_18 hl rfl ?_ | refine x_aload_nQ hx hb d_Tx_overwrite_18 hl rfl ?_
  first | refine x_aload_n hx hb d_Tx_overwrite_19 hl rfl ?_ | refine x_aload_nQ hx hb d_Tx_overwrite_19 hl rfl ?_
  refine m_put hx hb hts hown hK hw ci_N (pic_n hP2 hro hle) 2 (by decide) (wm1 116 rfl rfl) rfl (by first | rfl | exact nar_bz | exact nar_q) (by first | rfl | exact fit_bz | exact fit_q) (Nat.le_of_ble_eq_true rfl) d_Tx_overwrite_20 (fun H locs hw => ?_)
  have he9 := put_he hw
  first | refine x_aload_n hx hb d_Tx_overwrite_23 hl rfl ?_ | refine x_aload_nQ hx hb d_Tx_overwrite_23 hl rfl ?_
  refine lv_iconst (v := nI 1) hx hb d_Tx_overwrite_24 (by decide) ?_
  refine m_put hx hb hts hown hK hw ci_N he9 8 (by decide) (wm1 131 rfl rfl) rfl (by first | rfl | exact nar_bz | exact nar_q) (by first | rfl | exact fit_bz | exact fit_q) (Nat.le_of_ble_eq_true rfl) d_Tx_overwrite_25 (fun H locs hw => ?_)
  rw [mp_up_up] at hw
  exact x_retv hQ hx hb hr hlk hw (by omega) (by omega) d_Tx_overwrite_28 (⟨na2, _, wr_pic hP2 hro hle hb2⟩)
