theorem d_M_at_0 : decode prog_10_method_8_code 0 = .ok (.iload_n 2, 1) := by decide +kernel
theorem d_M_at_1 : decode prog_10_method_8_code 1 = .ok (.invokestatic 79, 3) := by decide +kernel
theorem d_M_at_4 : decode prog_10_method_8_code 4 = .ok (.ifCond .eq 17, 3) := by decide +kernel
theorem d_M_at_7 : decode prog_10_method_8_code 7 = .ok (.aload_n 0, 1) := by decide +kernel
theorem d_M_at_8 : decode prog_10_method_8_code 8 = .ok (.getfield 7, 3) := by decide +kernel
theorem d_M_at_11 : decode prog_10_method_8_code 11 = .ok (.bipush 125, 2) := by decide +kernel
theorem d_M_at_13 : decode prog_10_method_8_code 13 = .ok (.iload_n 1, 1) := by decide +kernel
theorem d_M_at_14 : decode prog_10_method_8_code 14 = .ok (.imul, 1) := by decide +kernel
theorem d_M_at_15 : decode prog_10_method_8_code 15 = .ok (.iload_n 2, 1) := by decide +kernel
theorem d_M_at_16 : decode prog_10_method_8_code 16 = .ok (.iadd, 1) := by decide +kernel
theorem d_M_at_17 : decode prog_10_method_8_code 17 = .ok (.saload, 1) := by decide +kernel
theorem d_M_at_18 : decode prog_10_method_8_code 18 = .ok (.goto 4, 3) := by decide +kernel
theorem d_M_at_21 : decode prog_10_method_8_code 21 = .ok (.iconst 0, 1) := by decide +kernel
theorem d_M_at_22 : decode prog_10_method_8_code 22 = .ok (.ireturn, 1) := by decide +kernel

theorem d_M_isOpen_0 : decode prog_10_method_9_code 0 = .ok (.iload_n 1, 1) := by decide +kernel
theorem d_M_isOpen_1 : decode prog_10_method_9_code 1 = .ok (.ifCond .lt 21, 3) := by decide +kernel
theorem d_M_isOpen_4 : decode prog_10_method_9_code 4 = .ok (.iload_n 1, 1) := by decide +kernel
theorem d_M_isOpen_5 : decode prog_10_method_9_code 5 = .ok (.iconst 2, 1) := by decide +kernel
theorem d_M_isOpen_6 : decode prog_10_method_9_code 6 = .ok (.if_icmp .gt 16, 3) := by decide +kernel
theorem d_M_isOpen_9 : decode prog_10_method_9_code 9 = .ok (.aload_n 0, 1) := by decide +kernel
theorem d_M_isOpen_10 : decode prog_10_method_9_code 10 = .ok (.getfield 13, 3) := by decide +kernel
theorem d_M_isOpen_13 : decode prog_10_method_9_code 13 = .ok (.iload_n 1, 1) := by decide +kernel
theorem d_M_isOpen_14 : decode prog_10_method_9_code 14 = .ok (.baload, 1) := by decide +kernel
theorem d_M_isOpen_15 : decode prog_10_method_9_code 15 = .ok (.ifCond .eq 7, 3) := by decide +kernel
theorem d_M_isOpen_18 : decode prog_10_method_9_code 18 = .ok (.iconst 1, 1) := by decide +kernel
theorem d_M_isOpen_19 : decode prog_10_method_9_code 19 = .ok (.goto 4, 3) := by decide +kernel
theorem d_M_isOpen_22 : decode prog_10_method_9_code 22 = .ok (.iconst 0, 1) := by decide +kernel
theorem d_M_isOpen_23 : decode prog_10_method_9_code 23 = .ok (.ireturn, 1) := by decide +kernel

theorem d_M_place_0 : decode prog_10_method_13_code 0 = .ok (.aload_n 0, 1) := by decide +kernel
theorem d_M_place_1 : decode prog_10_method_13_code 1 = .ok (.getfield 7, 3) := by decide +kernel
theorem d_M_place_4 : decode prog_10_method_13_code 4 = .ok (.sipush 2000, 3) := by decide +kernel
theorem d_M_place_7 : decode prog_10_method_13_code 7 = .ok (.bipush 125, 2) := by decide +kernel
theorem d_M_place_9 : decode prog_10_method_13_code 9 = .ok (.iload_n 1, 1) := by decide +kernel
theorem d_M_place_10 : decode prog_10_method_13_code 10 = .ok (.imul, 1) := by decide +kernel
theorem d_M_place_11 : decode prog_10_method_13_code 11 = .ok (.iadd, 1) := by decide +kernel
theorem d_M_place_12 : decode prog_10_method_13_code 12 = .ok (.iload_n 2, 1) := by decide +kernel
theorem d_M_place_13 : decode prog_10_method_13_code 13 = .ok (.iadd, 1) := by decide +kernel
theorem d_M_place_14 : decode prog_10_method_13_code 14 = .ok (.iload_n 3, 1) := by decide +kernel
theorem d_M_place_15 : decode prog_10_method_13_code 15 = .ok (.i2s, 1) := by decide +kernel
theorem d_M_place_16 : decode prog_10_method_13_code 16 = .ok (.sastore, 1) := by decide +kernel
theorem d_M_place_17 : decode prog_10_method_13_code 17 = .ok (.return_, 1) := by decide +kernel

theorem d_M_fill_0 : decode prog_10_method_10_code 0 = .ok (.iconst 0, 1) := by decide +kernel
theorem d_M_fill_1 : decode prog_10_method_10_code 1 = .ok (.istore_n 3, 1) := by decide +kernel
theorem d_M_fill_2 : decode prog_10_method_10_code 2 = .ok (.iload_n 3, 1) := by decide +kernel
theorem d_M_fill_3 : decode prog_10_method_10_code 3 = .ok (.bipush 125, 2) := by decide +kernel
theorem d_M_fill_5 : decode prog_10_method_10_code 5 = .ok (.if_icmp .ge 31, 3) := by decide +kernel
theorem d_M_fill_8 : decode prog_10_method_10_code 8 = .ok (.aload_n 0, 1) := by decide +kernel
theorem d_M_fill_9 : decode prog_10_method_10_code 9 = .ok (.getfield 7, 3) := by decide +kernel
theorem d_M_fill_12 : decode prog_10_method_10_code 12 = .ok (.bipush 125, 2) := by decide +kernel
theorem d_M_fill_14 : decode prog_10_method_10_code 14 = .ok (.iload_n 1, 1) := by decide +kernel
theorem d_M_fill_15 : decode prog_10_method_10_code 15 = .ok (.imul, 1) := by decide +kernel
theorem d_M_fill_16 : decode prog_10_method_10_code 16 = .ok (.iload_n 3, 1) := by decide +kernel
theorem d_M_fill_17 : decode prog_10_method_10_code 17 = .ok (.iadd, 1) := by decide +kernel
theorem d_M_fill_18 : decode prog_10_method_10_code 18 = .ok (.aload_n 0, 1) := by decide +kernel
theorem d_M_fill_19 : decode prog_10_method_10_code 19 = .ok (.getfield 7, 3) := by decide +kernel
theorem d_M_fill_22 : decode prog_10_method_10_code 22 = .ok (.bipush 125, 2) := by decide +kernel
theorem d_M_fill_24 : decode prog_10_method_10_code 24 = .ok (.iload_n 2, 1) := by decide +kernel
theorem d_M_fill_25 : decode prog_10_method_10_code 25 = .ok (.imul, 1) := by decide +kernel
theorem d_M_fill_26 : decode prog_10_method_10_code 26 = .ok (.iload_n 3, 1) := by decide +kernel
theorem d_M_fill_27 : decode prog_10_method_10_code 27 = .ok (.iadd, 1) := by decide +kernel
theorem d_M_fill_28 : decode prog_10_method_10_code 28 = .ok (.saload, 1) := by decide +kernel
theorem d_M_fill_29 : decode prog_10_method_10_code 29 = .ok (.sastore, 1) := by decide +kernel
theorem d_M_fill_30 : decode prog_10_method_10_code 30 = .ok (.iinc 3 1, 3) := by decide +kernel
theorem d_M_fill_33 : decode prog_10_method_10_code 33 = .ok (.goto (-31), 3) := by decide +kernel
theorem d_M_fill_36 : decode prog_10_method_10_code 36 = .ok (.return_, 1) := by decide +kernel
set_option maxHeartbeats 4000000 in
set_option maxRecDepth 100000 in
theorem c_M_at {l : Launch} {E : Ev} {σ : SS} {ad : Nat → Nat} (hI : rfI ad) (hB : rB σ) {sz : Nat} {k : Nat} {x : Int32} (hk : k < 19) : MCi l E y_M_at prog_10_method_8_code 3 (some .int) 1 21 0 0 [.ref (ad 0), .int (nI k), .int x] (rfM E σ ad) sz (fun r M' => (r = nI (rat σ k (ix x)) ∧ rat σ k (ix x) < 32768) ∧ M' = rfM E σ ad) := by
  refine mc_of R_M rfl [some (.ref (ad 0)), some (.int (nI k)), some (.int x)] (by decide) (Nat.le_of_ble_eq_true rfl) rfl ?_
  intro p e R s m ag below meth c ls Q A X hAe hQ hR hsz hw hl
  rw [← hAe] at hQ
  obtain ⟨⟨hx, hb, hml, hown, hts⟩, hE, hA, hr, hlk, hnm⟩ := X
  have hK := hE.1
  refine x_iload_n hx hb d_M_at_0 hl rfl ?_
  refine m_calli (k_S ⟨hx, hb, hml, hown, hts⟩ hE hA hw (c_M_good) (wm3 161 rfl rfl) (wm3 162 rfl rfl) (wm1 9 rfl rfl) (wm3 163 rfl rfl) rfl rfl ar_M_good ⟨Nat.le_trans (Nat.le_of_ble_eq_true rfl) hR.1, Nat.le_trans (Nat.le_of_ble_eq_true rfl) hR.2.1⟩ rfl hl.1 rfl (Nat.le_of_ble_eq_true rfl) d_M_at_1 ⟨Nat.le_trans (Nat.le_of_ble_eq_true rfl) hR.2.2.1, Nat.le_trans (Nat.le_of_ble_eq_true rfl) hR.2.2.2⟩) hw (mfr_in hw hA) (fun r1 M1 H locs hP1 hw => ?_)
  obtain ⟨rfl, hM1⟩ := hP1
  rw [hM1] at hw
  refine x_if_eqB hx hb d_M_at_4 rfl (fun h4 => ?_) (fun h4 => ?_)
  · refine lv_iconst (v := nI 0) hx hb d_M_at_21 (by decide) ?_
    exact x_reti hQ hx hb hr hlk rfl hw (by omega) (by omega) d_M_at_22 (⟨⟨by first | (unfold rat; rw [if_pos h4, ix_n hj]) | (unfold rat; rw [if_neg (by rw [h4]; decide)]), rat_lt hB⟩, rfl⟩)
  · obtain ⟨j, hj, rfl⟩ := ix_good h4
    first | refine x_aload_n hx hb d_M_at_7 hl rfl ?_ | refine x_aload_nQ hx hb d_M_at_7 hl rfl ?_
    refine m_get hx hb hts hown hK hw ci_M (rf_at hI 0 (by decide) rfl) 0 (by decide) (wm3 72 rfl rfl) rfl d_M_at_8 ?_
    refine lv_bipush (v := nI 125) hx hb d_M_at_11 (by decide) ?_
    refine x_iload_n hx hb d_M_at_13 hl rfl ?_
    first | refine x_imul hx hb d_M_at_14 ?_ | refine lv_imul hx hb d_M_at_14 ?_
    refine x_iload_n hx hb d_M_at_15 hl rfl ?_
    first | refine x_iadd hx hb d_M_at_16 ?_ | refine lv_iadd hx hb d_M_at_16 ?_
    refine rl_0 hx hb hK hI hB hw (by omega) d_M_at_17 (fun hv17 => ?_)
    refine lv_goto hx hb d_M_at_18 rfl ?_
    exact x_reti hQ hx hb hr hlk rfl hw (by omega) (by omega) d_M_at_22 (⟨⟨by first | (unfold rat; rw [if_pos h4, ix_n hj]) | (unfold rat; rw [if_neg (by rw [h4]; decide)]), rat_lt hB⟩, rfl⟩)

set_option maxHeartbeats 4000000 in
set_option maxRecDepth 100000 in
theorem c_M_isOpen {l : Launch} {E : Ev} {σ : SS} {ad : Nat → Nat} (hI : rfI ad) (hB : rB σ) {sz : Nat} {x : Int32} : MCi l E y_M_isOpen prog_10_method_9_code 2 (some .boolean) 0 0 0 0 [.ref (ad 0), .int x] (rfM E σ ad) sz (fun r M' => r = bz (opb σ (tx x)) ∧ M' = rfM E σ ad) := by
  refine mc_of R_M rfl [some (.ref (ad 0)), some (.int x)] (by decide) (Nat.le_of_ble_eq_true rfl) rfl ?_
  intro p e R s m ag below meth c ls Q A X hAe hQ hR hsz hw hl
  rw [← hAe] at hQ
  obtain ⟨⟨hx, hb, hml, hown, hts⟩, hE, hA, hr, hlk, hnm⟩ := X
  have hK := hE.1
  refine x_iload_n hx hb d_M_isOpen_0 hl rfl ?_
  refine lv_if_lt hx hb d_M_isOpen_1 rfl (fun h1 => ?_) (fun h1 => ?_)
  · refine lv_iconst (v := nI 0) hx hb d_M_isOpen_22 (by decide) ?_
    exact x_reti hQ hx hb hr hlk (by first | exact nar_bz | decide) hw (by omega) (by omega) d_M_isOpen_23 (⟨by first | (rw [tx_lt h1]; exact bz_f opb_3) | (rw [tx_gt h6]; exact bz_f opb_3) | (rw [tx_n (by omega)]; exact bz_f (opb_f h15)) | (rw [tx_n (by omega)]; exact bz_t (opb_t (by omega) h15)), rfl⟩)
  · refine x_iload_n hx hb d_M_isOpen_4 hl rfl ?_
    refine lv_iconst (v := nI 2) hx hb d_M_isOpen_5 (by decide) ?_
    refine lv_icmp_gt hx hb d_M_isOpen_6 rfl (fun h6 => ?_) (fun h6 => ?_)
    · refine lv_iconst (v := nI 0) hx hb d_M_isOpen_22 (by decide) ?_
      exact x_reti hQ hx hb hr hlk (by first | exact nar_bz | decide) hw (by omega) (by omega) d_M_isOpen_23 (⟨by first | (rw [tx_lt h1]; exact bz_f opb_3) | (rw [tx_gt h6]; exact bz_f opb_3) | (rw [tx_n (by omega)]; exact bz_f (opb_f h15)) | (rw [tx_n (by omega)]; exact bz_t (opb_t (by omega) h15)), rfl⟩)
    · obtain ⟨t, ht, rfl⟩ := nI_of2b (M := nI 2) (n := 2) (by decide) h1 h6
      first | refine x_aload_n hx hb d_M_isOpen_9 hl rfl ?_ | refine x_aload_nQ hx hb d_M_isOpen_9 hl rfl ?_
      refine m_get hx hb hts hown hK hw ci_M (rf_at hI 0 (by decide) rfl) 2 (by decide) (wm3 74 rfl rfl) rfl d_M_isOpen_10 ?_
      refine x_iload_n hx hb d_M_isOpen_13 hl rfl ?_
      refine rl_2 hx hb hK hI hB hw (by omega) d_M_isOpen_14 (fun hv14 => ?_)
      refine x_if_eq hx hb d_M_isOpen_15 rfl (by omega) (fun h15 => ?_) (fun h15 => ?_)
      · refine lv_iconst (v := nI 0) hx hb d_M_isOpen_22 (by decide) ?_
        exact x_reti hQ hx hb hr hlk (by first | exact nar_bz | decide) hw (by omega) (by omega) d_M_isOpen_23 (⟨by first | (rw [tx_lt h1]; exact bz_f opb_3) | (rw [tx_gt h6]; exact bz_f opb_3) | (rw [tx_n (by omega)]; exact bz_f (opb_f h15)) | (rw [tx_n (by omega)]; exact bz_t (opb_t (by omega) h15)), rfl⟩)
      · refine lv_iconst (v := nI 1) hx hb d_M_isOpen_18 (by decide) ?_
        refine lv_goto hx hb d_M_isOpen_19 rfl ?_
        exact x_reti hQ hx hb hr hlk (by first | exact nar_bz | decide) hw (by omega) (by omega) d_M_isOpen_23 (⟨by first | (rw [tx_lt h1]; exact bz_f opb_3) | (rw [tx_gt h6]; exact bz_f opb_3) | (rw [tx_n (by omega)]; exact bz_f (opb_f h15)) | (rw [tx_n (by omega)]; exact bz_t (opb_t (by omega) h15)), rfl⟩)

set_option maxHeartbeats 4000000 in
set_option maxRecDepth 100000 in
theorem c_M_place {l : Launch} {E : Ev} {σ : SS} {ad : Nat → Nat} (hI : rfI ad) (hB : rB σ) {sz : Nat} {t q n : Nat} (ht : t < 3) (hq : q < 125) (hn : n < 32768) : MCv l E y_M_place prog_10_method_13_code 4 none 0 0 0 0 [.ref (ad 0), .int (nI t), .int (nI q), .int (nI n)] (rfM E σ ad) sz (fun M' => M' = rfM E (plc σ t q n) ad ∧ rB (plc σ t q n)) := by
  refine mc_of R_M rfl [some (.ref (ad 0)), some (.int (nI t)), some (.int (nI q)), some (.int (nI n))] (by decide) (Nat.le_of_ble_eq_true rfl) rfl ?_
  intro p e R s m ag below meth c ls Q A X hAe hQ hR hsz hw hl
  rw [← hAe] at hQ
  obtain ⟨⟨hx, hb, hml, hown, hts⟩, hE, hA, hr, hlk, hnm⟩ := X
  have hK := hE.1
  first | refine x_aload_n hx hb d_M_place_0 hl rfl ?_ | refine x_aload_nQ hx hb d_M_place_0 hl rfl ?_
  refine m_get hx hb hts hown hK hw ci_M (rf_at hI 0 (by decide) rfl) 0 (by decide) (wm3 72 rfl rfl) rfl d_M_place_1 ?_
  refine lv_sipush (v := nI 2000) hx hb d_M_place_4 (by decide) ?_
  refine lv_bipush (v := nI 125) hx hb d_M_place_7 (by decide) ?_
  refine x_iload_n hx hb d_M_place_9 hl rfl ?_
  first | refine x_imul hx hb d_M_place_10 ?_ | refine lv_imul hx hb d_M_place_10 ?_
  first | refine x_iadd hx hb d_M_place_11 ?_ | refine lv_iadd hx hb d_M_place_11 ?_
  refine x_iload_n hx hb d_M_place_12 hl rfl ?_
  first | refine x_iadd hx hb d_M_place_13 ?_ | refine lv_iadd hx hb d_M_place_13 ?_
  refine x_iload_n hx hb d_M_place_14 hl rfl ?_
  first | refine x_i2s hx hb d_M_place_15 (by omega) ?_ | refine lv_i2s hx hb d_M_place_15 rfl ?_
  refine rs_0 hx hb hK hI hB hw (by omega) (by omega) d_M_place_16 (fun H locs hw hB => ?_)
  exact x_retv hQ hx hb hr hlk hw (by omega) (by omega) d_M_place_17 (⟨rfl, hB⟩)

set_option maxHeartbeats 4000000 in
set_option maxRecDepth 100000 in
theorem c_M_fill {l : Launch} {E : Ev} {σ : SS} {ad : Nat → Nat} (hI : rfI ad) (hB : rB σ) {sz : Nat} {a b : Nat} (ha : a < 19) (hb1 : b < 19) (hab : a ≠ b) : MCv l E y_M_fill prog_10_method_10_code 4 none 0 0 0 0 [.ref (ad 0), .int (nI a), .int (nI b)] (rfM E σ ad) sz (fun M' => M' = rfM E (fil σ a b 125) ad ∧ rB (fil σ a b 125)) := by
  refine mc_of R_M rfl [some (.ref (ad 0)), some (.int (nI a)), some (.int (nI b)), none] (by decide) (Nat.le_of_ble_eq_true rfl) rfl ?_
  intro p e R s m ag below meth c ls Q A X hAe hQ hR hsz hw hl
  rw [← hAe] at hQ
  obtain ⟨⟨hx, hb, hml, hown, hts⟩, hE, hA, hr, hlk, hnm⟩ := X
  have hK := hE.1
  have loop : ∀ (k i : Nat) (H : Heap) (locs : List Loc) (ls : Array Slot), i + k = 125 → mw E.1 vwCl A s.heap (rfM E (fil σ a b i) ad) H locs → lh ls [some (.ref (ad 0)), some (.int (nI a)), some (.int (nI b)), some (.int (nI i))] → W p l e R s m ag below meth c H locs 0 0 Q (F0 m 2 ls []) := by
    intro k
    induction k with
    | zero =>
      intro i H locs ls hi hw hl
      obtain rfl : i = 125 := by omega
      refine x_iload_n hx hb d_M_fill_2 hl rfl ?_
      refine lv_bipush (v := nI 125) hx hb d_M_fill_3 (by decide) ?_
      refine x_icmp_ge hx hb d_M_fill_5 rfl (by omega) (by omega) (fun h5 => ?_) (fun h5 => ?_)
      · exact x_retv hQ hx hb hr hlk hw (by omega) (by omega) d_M_fill_36 (⟨rfl, rB_fil hB⟩)
      · exact absurd h5 (by omega)
    | succ k ih =>
      intro i H locs ls hi hw hl
      have hB := rB_fil (a := a) (b := b) (i := i) hB
      refine x_iload_n hx hb d_M_fill_2 hl rfl ?_
      refine lv_bipush (v := nI 125) hx hb d_M_fill_3 (by decide) ?_
      refine x_icmp_ge hx hb d_M_fill_5 rfl (by omega) (by omega) (fun h5 => ?_) (fun h5 => ?_)
      · exact absurd h5 (by omega)
      · first | refine x_aload_n hx hb d_M_fill_8 hl rfl ?_ | refine x_aload_nQ hx hb d_M_fill_8 hl rfl ?_
        refine m_get hx hb hts hown hK hw ci_M (rf_at hI 0 (by decide) rfl) 0 (by decide) (wm3 72 rfl rfl) rfl d_M_fill_9 ?_
        refine lv_bipush (v := nI 125) hx hb d_M_fill_12 (by decide) ?_
        refine x_iload_n hx hb d_M_fill_14 hl rfl ?_
        first | refine x_imul hx hb d_M_fill_15 ?_ | refine lv_imul hx hb d_M_fill_15 ?_
        refine x_iload_n hx hb d_M_fill_16 hl rfl ?_
        first | refine x_iadd hx hb d_M_fill_17 ?_ | refine lv_iadd hx hb d_M_fill_17 ?_
        first | refine x_aload_n hx hb d_M_fill_18 hl rfl ?_ | refine x_aload_nQ hx hb d_M_fill_18 hl rfl ?_
        refine m_get hx hb hts hown hK hw ci_M (rf_at hI 0 (by decide) rfl) 0 (by decide) (wm3 72 rfl rfl) rfl d_M_fill_19 ?_
        refine lv_bipush (v := nI 125) hx hb d_M_fill_22 (by decide) ?_
        refine x_iload_n hx hb d_M_fill_24 hl rfl ?_
        first | refine x_imul hx hb d_M_fill_25 ?_ | refine lv_imul hx hb d_M_fill_25 ?_
        refine x_iload_n hx hb d_M_fill_26 hl rfl ?_
        first | refine x_iadd hx hb d_M_fill_27 ?_ | refine lv_iadd hx hb d_M_fill_27 ?_
        refine rl_0 hx hb hK hI hB hw (by omega) d_M_fill_28 (fun hv28 => ?_)
        refine rs_0 hx hb hK hI hB hw (by omega) (by omega) d_M_fill_29 (fun H locs hw hB => ?_)
        refine x_iincN hx hb d_M_fill_30 hl rfl (lh_k (i := 2) rfl (by first | exact lk_n | exact lk_i | exact lk_r | exact lk_q | exact lk_0)) (fun ls hl => ?_)
        refine lv_goto hx hb d_M_fill_33 rfl ?_
        exact ih (i + 1) H locs ls (by omega) (by rw [← fil_s (by omega) hab]; exact hw) hl
  refine lv_iconst (v := nI 0) hx hb d_M_fill_0 (by decide) ?_
  refine x_istore_n hx hb d_M_fill_1 hl (Nat.le_of_ble_eq_true rfl) (lh_k (i := 2) rfl (by first | exact lk_n | exact lk_i | exact lk_r | exact lk_q | exact lk_0)) (fun ls hl => ?_)
  exact loop 125 0 _ _ _ (by omega) (by rw [fil_0]; exact hw) hl
