theorem d_M_cost_0 : decode prog_10_method_45_code 0 = .ok (.aload_n 0, 1) := by decide +kernel
theorem d_M_cost_1 : decode prog_10_method_45_code 1 = .ok (.getfield 59, 3) := by decide +kernel
theorem d_M_cost_4 : decode prog_10_method_45_code 4 = .ok (.iload_n 1, 1) := by decide +kernel
theorem d_M_cost_5 : decode prog_10_method_45_code 5 = .ok (.saload, 1) := by decide +kernel
theorem d_M_cost_6 : decode prog_10_method_45_code 6 = .ok (.iconst 1, 1) := by decide +kernel
theorem d_M_cost_7 : decode prog_10_method_45_code 7 = .ok (.isub, 1) := by decide +kernel
theorem d_M_cost_8 : decode prog_10_method_45_code 8 = .ok (.istore_n 2, 1) := by decide +kernel
theorem d_M_cost_9 : decode prog_10_method_45_code 9 = .ok (.iload_n 2, 1) := by decide +kernel
theorem d_M_cost_10 : decode prog_10_method_45_code 10 = .ok (.ifCond .ge 7, 3) := by decide +kernel
theorem d_M_cost_13 : decode prog_10_method_45_code 13 = .ok (.iconst 0, 1) := by decide +kernel
theorem d_M_cost_14 : decode prog_10_method_45_code 14 = .ok (.goto 9, 3) := by decide +kernel
theorem d_M_cost_17 : decode prog_10_method_45_code 17 = .ok (.aload_n 0, 1) := by decide +kernel
theorem d_M_cost_18 : decode prog_10_method_45_code 18 = .ok (.getfield 56, 3) := by decide +kernel
theorem d_M_cost_21 : decode prog_10_method_45_code 21 = .ok (.iload_n 2, 1) := by decide +kernel
theorem d_M_cost_22 : decode prog_10_method_45_code 22 = .ok (.baload, 1) := by decide +kernel
theorem d_M_cost_23 : decode prog_10_method_45_code 23 = .ok (.istore_n 3, 1) := by decide +kernel
theorem d_M_cost_24 : decode prog_10_method_45_code 24 = .ok (.iload_n 2, 1) := by decide +kernel
theorem d_M_cost_25 : decode prog_10_method_45_code 25 = .ok (.ifCond .ge 7, 3) := by decide +kernel
theorem d_M_cost_28 : decode prog_10_method_45_code 28 = .ok (.lconst 0, 1) := by decide +kernel
theorem d_M_cost_29 : decode prog_10_method_45_code 29 = .ok (.goto 9, 3) := by decide +kernel
theorem d_M_cost_32 : decode prog_10_method_45_code 32 = .ok (.aload_n 0, 1) := by decide +kernel
theorem d_M_cost_33 : decode prog_10_method_45_code 33 = .ok (.getfield 53, 3) := by decide +kernel
theorem d_M_cost_36 : decode prog_10_method_45_code 36 = .ok (.iload_n 2, 1) := by decide +kernel
theorem d_M_cost_37 : decode prog_10_method_45_code 37 = .ok (.laload, 1) := by decide +kernel
theorem d_M_cost_38 : decode prog_10_method_45_code 38 = .ok (.lstore 4, 2) := by decide +kernel
theorem d_M_cost_40 : decode prog_10_method_45_code 40 = .ok (.iconst 0, 1) := by decide +kernel
theorem d_M_cost_41 : decode prog_10_method_45_code 41 = .ok (.istore 6, 2) := by decide +kernel
theorem d_M_cost_43 : decode prog_10_method_45_code 43 = .ok (.iconst 0, 1) := by decide +kernel
theorem d_M_cost_44 : decode prog_10_method_45_code 44 = .ok (.istore 7, 2) := by decide +kernel
theorem d_M_cost_46 : decode prog_10_method_45_code 46 = .ok (.iconst 0, 1) := by decide +kernel
theorem d_M_cost_47 : decode prog_10_method_45_code 47 = .ok (.istore 8, 2) := by decide +kernel
theorem d_M_cost_49 : decode prog_10_method_45_code 49 = .ok (.iload 8, 2) := by decide +kernel
theorem d_M_cost_51 : decode prog_10_method_45_code 51 = .ok (.aload_n 0, 1) := by decide +kernel
theorem d_M_cost_52 : decode prog_10_method_45_code 52 = .ok (.getfield 56, 3) := by decide +kernel
theorem d_M_cost_55 : decode prog_10_method_45_code 55 = .ok (.iload_n 1, 1) := by decide +kernel
theorem d_M_cost_56 : decode prog_10_method_45_code 56 = .ok (.baload, 1) := by decide +kernel
theorem d_M_cost_57 : decode prog_10_method_45_code 57 = .ok (.if_icmp .ge 119, 3) := by decide +kernel
theorem d_M_cost_60 : decode prog_10_method_45_code 60 = .ok (.iconst 0, 1) := by decide +kernel
theorem d_M_cost_61 : decode prog_10_method_45_code 61 = .ok (.istore 9, 2) := by decide +kernel
theorem d_M_cost_63 : decode prog_10_method_45_code 63 = .ok (.iconst 0, 1) := by decide +kernel
theorem d_M_cost_64 : decode prog_10_method_45_code 64 = .ok (.istore 10, 2) := by decide +kernel
theorem d_M_cost_66 : decode prog_10_method_45_code 66 = .ok (.iload 10, 2) := by decide +kernel
theorem d_M_cost_68 : decode prog_10_method_45_code 68 = .ok (.iload_n 3, 1) := by decide +kernel
theorem d_M_cost_69 : decode prog_10_method_45_code 69 = .ok (.if_icmp .ge 49, 3) := by decide +kernel
theorem d_M_cost_72 : decode prog_10_method_45_code 72 = .ok (.aload_n 0, 1) := by decide +kernel
theorem d_M_cost_73 : decode prog_10_method_45_code 73 = .ok (.getfield 53, 3) := by decide +kernel
theorem d_M_cost_76 : decode prog_10_method_45_code 76 = .ok (.iload_n 1, 1) := by decide +kernel
theorem d_M_cost_77 : decode prog_10_method_45_code 77 = .ok (.laload, 1) := by decide +kernel
theorem d_M_cost_78 : decode prog_10_method_45_code 78 = .ok (.aload_n 0, 1) := by decide +kernel
theorem d_M_cost_79 : decode prog_10_method_45_code 79 = .ok (.getfield 56, 3) := by decide +kernel
theorem d_M_cost_82 : decode prog_10_method_45_code 82 = .ok (.iload_n 1, 1) := by decide +kernel
theorem d_M_cost_83 : decode prog_10_method_45_code 83 = .ok (.baload, 1) := by decide +kernel
theorem d_M_cost_84 : decode prog_10_method_45_code 84 = .ok (.iload 8, 2) := by decide +kernel
theorem d_M_cost_86 : decode prog_10_method_45_code 86 = .ok (.lload 4, 2) := by decide +kernel
theorem d_M_cost_88 : decode prog_10_method_45_code 88 = .ok (.iload_n 3, 1) := by decide +kernel
theorem d_M_cost_89 : decode prog_10_method_45_code 89 = .ok (.iload 10, 2) := by decide +kernel
theorem d_M_cost_91 : decode prog_10_method_45_code 91 = .ok (.invokestatic 166, 3) := by decide +kernel
theorem d_M_cost_94 : decode prog_10_method_45_code 94 = .ok (.istore 11, 2) := by decide +kernel
theorem d_M_cost_96 : decode prog_10_method_45_code 96 = .ok (.iload 11, 2) := by decide +kernel
theorem d_M_cost_98 : decode prog_10_method_45_code 98 = .ok (.iload 9, 2) := by decide +kernel
theorem d_M_cost_100 : decode prog_10_method_45_code 100 = .ok (.if_icmp .le 8, 3) := by decide +kernel
theorem d_M_cost_103 : decode prog_10_method_45_code 103 = .ok (.iload 11, 2) := by decide +kernel
theorem d_M_cost_105 : decode prog_10_method_45_code 105 = .ok (.goto 5, 3) := by decide +kernel
theorem d_M_cost_108 : decode prog_10_method_45_code 108 = .ok (.iload 9, 2) := by decide +kernel
theorem d_M_cost_110 : decode prog_10_method_45_code 110 = .ok (.istore 9, 2) := by decide +kernel
theorem d_M_cost_112 : decode prog_10_method_45_code 112 = .ok (.iinc 10 1, 3) := by decide +kernel
theorem d_M_cost_115 : decode prog_10_method_45_code 115 = .ok (.goto (-49), 3) := by decide +kernel
theorem d_M_cost_118 : decode prog_10_method_45_code 118 = .ok (.iload 6, 2) := by decide +kernel
theorem d_M_cost_120 : decode prog_10_method_45_code 120 = .ok (.iload 9, 2) := by decide +kernel
theorem d_M_cost_122 : decode prog_10_method_45_code 122 = .ok (.iconst 3, 1) := by decide +kernel
theorem d_M_cost_123 : decode prog_10_method_45_code 123 = .ok (.if_icmp .lt 7, 3) := by decide +kernel
theorem d_M_cost_126 : decode prog_10_method_45_code 126 = .ok (.iconst 2, 1) := by decide +kernel
theorem d_M_cost_127 : decode prog_10_method_45_code 127 = .ok (.goto 13, 3) := by decide +kernel
theorem d_M_cost_130 : decode prog_10_method_45_code 130 = .ok (.iload 7, 2) := by decide +kernel
theorem d_M_cost_132 : decode prog_10_method_45_code 132 = .ok (.ifCond .eq 7, 3) := by decide +kernel
theorem d_M_cost_135 : decode prog_10_method_45_code 135 = .ok (.iconst 1, 1) := by decide +kernel
theorem d_M_cost_136 : decode prog_10_method_45_code 136 = .ok (.goto 4, 3) := by decide +kernel
theorem d_M_cost_139 : decode prog_10_method_45_code 139 = .ok (.iconst 2, 1) := by decide +kernel
theorem d_M_cost_140 : decode prog_10_method_45_code 140 = .ok (.iadd, 1) := by decide +kernel
theorem d_M_cost_141 : decode prog_10_method_45_code 141 = .ok (.istore 6, 2) := by decide +kernel
theorem d_M_cost_143 : decode prog_10_method_45_code 143 = .ok (.iload 9, 2) := by decide +kernel
theorem d_M_cost_145 : decode prog_10_method_45_code 145 = .ok (.iconst 3, 1) := by decide +kernel
theorem d_M_cost_146 : decode prog_10_method_45_code 146 = .ok (.if_icmp .ge 7, 3) := by decide +kernel
theorem d_M_cost_149 : decode prog_10_method_45_code 149 = .ok (.iconst 1, 1) := by decide +kernel
theorem d_M_cost_150 : decode prog_10_method_45_code 150 = .ok (.goto 4, 3) := by decide +kernel
theorem d_M_cost_153 : decode prog_10_method_45_code 153 = .ok (.iconst 0, 1) := by decide +kernel
theorem d_M_cost_154 : decode prog_10_method_45_code 154 = .ok (.istore 7, 2) := by decide +kernel
theorem d_M_cost_156 : decode prog_10_method_45_code 156 = .ok (.iload 8, 2) := by decide +kernel
theorem d_M_cost_158 : decode prog_10_method_45_code 158 = .ok (.iload 9, 2) := by decide +kernel
theorem d_M_cost_160 : decode prog_10_method_45_code 160 = .ok (.iconst 3, 1) := by decide +kernel
theorem d_M_cost_161 : decode prog_10_method_45_code 161 = .ok (.if_icmp .lt 8, 3) := by decide +kernel
theorem d_M_cost_164 : decode prog_10_method_45_code 164 = .ok (.iload 9, 2) := by decide +kernel
theorem d_M_cost_166 : decode prog_10_method_45_code 166 = .ok (.goto 4, 3) := by decide +kernel
theorem d_M_cost_169 : decode prog_10_method_45_code 169 = .ok (.iconst 1, 1) := by decide +kernel
theorem d_M_cost_170 : decode prog_10_method_45_code 170 = .ok (.iadd, 1) := by decide +kernel
theorem d_M_cost_171 : decode prog_10_method_45_code 171 = .ok (.istore 8, 2) := by decide +kernel
theorem d_M_cost_173 : decode prog_10_method_45_code 173 = .ok (.goto (-124), 3) := by decide +kernel
theorem d_M_cost_176 : decode prog_10_method_45_code 176 = .ok (.iload 6, 2) := by decide +kernel
theorem d_M_cost_178 : decode prog_10_method_45_code 178 = .ok (.ireturn, 1) := by decide +kernel
set_option maxHeartbeats 4000000 in
set_option maxRecDepth 100000 in
theorem c_M_cost0 {l : Launch} {E : Ev} {σ : SS} {ad : Nat → Nat} (hI : rfI ad) (hB : rB σ) {sz : Nat} {k : Nat} (hk : k < 512) (hX9 : ∀ k, σ 17 k < 2 ^ 48) (hn8 : ∀ k, σ 18 k < 13) (hb0 : σ 19 k = 0) : MCi l E y_M_cost prog_10_method_45_code 12 (some .int) 2 50 0 0 [.ref (ad 0), .int (nI k)] (rfM E σ ad) sz (fun r M' => r = nI (cstK σ k) ∧ M' = rfM E σ ad) := by
  refine mc_of R_M rfl [some (.ref (ad 0)), some (.int (nI k)), none, none, none, none, none, none, none, none, none, none] (by decide) (Nat.le_of_ble_eq_true rfl) rfl ?_
  intro p e R s m ag below meth c ls Q A X hAe hQ hR hsz hw hl
  rw [← hAe] at hQ
  obtain ⟨⟨hx, hb, hml, hown, hts⟩, hE, hA, hr, hlk, hnm⟩ := X
  have hK := hE.1
  first | refine x_aload_n hx hb d_M_cost_0 hl rfl ?_ | refine x_aload_nQ hx hb d_M_cost_0 hl rfl ?_
  refine m_get hx hb hts hown hK hw ci_M (rf_at hI 0 (by decide) rfl) 19 (by decide) (wm3 91 rfl rfl) rfl d_M_cost_1 ?_
  refine x_iload_n hx hb d_M_cost_4 hl rfl ?_
  refine rl_19 hx hb hK hI hB hw (by omega) d_M_cost_5 (fun hv5 => ?_)
  refine lv_iconst (v := nI 1) hx hb d_M_cost_6 (by decide) ?_
  refine lv_isub hx hb d_M_cost_7 ?_
  rw [hb0, show nI 0 - nI 1 = (-1 : Int32) by decide]
  refine x_istore_n hx hb d_M_cost_8 hl (Nat.le_of_ble_eq_true rfl) (lh_k (i := 1) rfl (by first | exact lk_n | exact lk_i | exact lk_r | exact lk_q | exact lk_0)) (fun ls hl => ?_)
  refine x_iload_n hx hb d_M_cost_9 hl rfl ?_
  refine lv_if_ge hx hb d_M_cost_10 rfl (fun h10 => ?_) (fun h10 => ?_)
  · exact absurd h10 (by decide)
  · refine lv_iconst (v := nI 0) hx hb d_M_cost_13 (by decide) ?_
    refine lv_goto hx hb d_M_cost_14 rfl ?_
    refine x_istore_n hx hb d_M_cost_23 hl (Nat.le_of_ble_eq_true rfl) (lh_k (i := 2) rfl (by first | exact lk_n | exact lk_i | exact lk_r | exact lk_q | exact lk_0)) (fun ls hl => ?_)
    refine x_iload_n hx hb d_M_cost_24 hl rfl ?_
    refine lv_if_ge hx hb d_M_cost_25 rfl (fun h25 => ?_) (fun h25 => ?_)
    · exact absurd h25 (by decide)
    · refine lv_lconst (v := 0) hx hb d_M_cost_28 (by decide) ?_
      refine lv_goto hx hb d_M_cost_29 rfl ?_
      refine x_lstore hx hb d_M_cost_38 hl (Nat.le_of_ble_eq_true rfl) (lh_k (i := 3) rfl (by first | exact lk_n | exact lk_i | exact lk_r | exact lk_q | exact lk_0)) (fun ls hl => ?_)
      refine lv_iconst (v := nI 0) hx hb d_M_cost_40 (by decide) ?_
      refine x_istore hx hb d_M_cost_41 hl (Nat.le_of_ble_eq_true rfl) (lh_k (i := 5) rfl (by first | exact lk_n | exact lk_i | exact lk_r | exact lk_q | exact lk_0)) (fun ls hl => ?_)
      refine lv_iconst (v := nI 0) hx hb d_M_cost_43 (by decide) ?_
      refine x_istore hx hb d_M_cost_44 hl (Nat.le_of_ble_eq_true rfl) (lh_k (i := 6) rfl (by first | exact lk_n | exact lk_i | exact lk_r | exact lk_q | exact lk_0)) (fun ls hl => ?_)
      refine lv_iconst (v := nI 0) hx hb d_M_cost_46 (by decide) ?_
      refine x_istore hx hb d_M_cost_47 hl (Nat.le_of_ble_eq_true rfl) (lh_k (i := 7) rfl (by first | exact lk_n | exact lk_i | exact lk_r | exact lk_q | exact lk_0)) (fun ls hl => ?_)
      obtain ⟨m0, hm0⟩ : ∃ m0, m0 = 0 := ⟨0, rfl⟩
      obtain ⟨Y, hYe⟩ : ∃ Y, Y = 0 := ⟨0, rfl⟩
      have hY : Y < 2 ^ 48 := by omega
      have hQ2 : cstK σ k = csf (σ 17 k) (σ 18 k) Y m0 13 0 0 false := by unfold cstK; rw [if_pos hb0, hm0, hYe]
      rw [hQ2] at hQ
      have hl : lh ls [some (.ref (ad 0)), some (.int (nI k)), some (.int (-1)), some (.int (nI m0)), some (.long (lN Y)), none, some (.int (nI 0)), some (.int (bz false)), some (.int (nI 0)), none, none, none] := by rw [hm0, hYe]; exact hl
      have hX := hX9 k
      have hn9 := hn8 k
      have loopI : ∀ (u j L T p0 : Nat) (sg : Bool) (H : Heap) (locs : List Loc) (ls : Array Slot), j + u = m0 → L ≤ 13 → p0 < 13 → mw E.1 vwCl A s.heap (rfM E σ ad) H locs → lh ls [some (.ref (ad 0)), some (.int (nI k)), some (.int (-1)), some (.int (nI m0)), some (.long (lN Y)), none, some (.int (nI T)), some (.int (bz sg)), some (.int (nI p0)), some (.int (nI L)), some (.int (nI j)), none] → (∀ (H : Heap) (locs : List Loc) (ls : Array Slot), mw E.1 vwCl A s.heap (rfM E σ ad) H locs → lh ls [some (.ref (ad 0)), some (.int (nI k)), some (.int (-1)), some (.int (nI m0)), some (.long (lN Y)), none, some (.int (nI T)), some (.int (bz sg)), some (.int (nI p0)), some (.int (nI (lgf (σ 17 k) (σ 18 k) p0 Y m0 u j L))), none, none] → W p l e R s m ag below meth c H locs 0 0 Q (F0 m 118 ls [])) → W p l e R s m ag below meth c H locs 0 0 Q (F0 m 66 ls []) := by
        intro u j L T p0 sg
        induction u generalizing j L with
        | zero =>
          intro H locs ls hj hL hp0 hw hl kk
          refine x_iload hx hb d_M_cost_66 hl rfl ?_
          refine x_iload_n hx hb d_M_cost_68 hl rfl ?_
          refine x_icmp_ge hx hb d_M_cost_69 rfl (by omega) (by omega) (fun h69 => ?_) (fun h69 => ?_)
          · exact kk H locs ls hw (lh_drop 10 (lh_drop 11 hl))
          · exact absurd h69 (by omega)
        | succ u ih =>
          intro H locs ls hj hL hp0 hw hl kk
          have ih := fun j L H locs ls a b => ih j L H locs ls a b hp0
          refine x_iload hx hb d_M_cost_66 hl rfl ?_
          refine x_iload_n hx hb d_M_cost_68 hl rfl ?_
          refine x_icmp_ge hx hb d_M_cost_69 rfl (by omega) (by omega) (fun h69 => ?_) (fun h69 => ?_)
          · exact absurd h69 (by omega)
          · first | refine x_aload_n hx hb d_M_cost_72 hl rfl ?_ | refine x_aload_nQ hx hb d_M_cost_72 hl rfl ?_
            refine m_get hx hb hts hown hK hw ci_M (rf_at hI 0 (by decide) rfl) 17 (by decide) (wm3 89 rfl rfl) rfl d_M_cost_73 ?_
            refine x_iload_n hx hb d_M_cost_76 hl rfl ?_
            refine rl_17 hx hb hK hI hw (by omega) d_M_cost_77 ?_
            first | refine x_aload_n hx hb d_M_cost_78 hl rfl ?_ | refine x_aload_nQ hx hb d_M_cost_78 hl rfl ?_
            refine m_get hx hb hts hown hK hw ci_M (rf_at hI 0 (by decide) rfl) 18 (by decide) (wm3 90 rfl rfl) rfl d_M_cost_79 ?_
            refine x_iload_n hx hb d_M_cost_82 hl rfl ?_
            refine rl_18 hx hb hK hI hB hw (by omega) d_M_cost_83 (fun hv83 => ?_)
            refine x_iload hx hb d_M_cost_84 hl rfl ?_
            refine x_lload hx hb d_M_cost_86 hl rfl ?_
            refine x_iload_n hx hb d_M_cost_88 hl rfl ?_
            refine x_iload hx hb d_M_cost_89 hl rfl ?_
            refine m_calli (k_S ⟨hx, hb, hml, hown, hts⟩ hE hA hw (c_M_piece hX hY (by omega) (by omega) (by omega) (by omega)) (wm4 67 rfl rfl) (wm4 68 rfl rfl) (wm1 9 rfl rfl) (wm4 69 rfl rfl) rfl rfl ar_M_piece ⟨Nat.le_trans (Nat.le_of_ble_eq_true rfl) hR.1, Nat.le_trans (Nat.le_of_ble_eq_true rfl) hR.2.1⟩ rfl hl.1 rfl (Nat.le_of_ble_eq_true rfl) d_M_cost_91 ⟨Nat.le_trans (Nat.le_of_ble_eq_true rfl) hR.2.2.1, Nat.le_trans (Nat.le_of_ble_eq_true rfl) hR.2.2.2⟩) hw (mfr_in hw hA) (fun r91 M91 H locs hP91 hw => ?_)
            obtain ⟨rfl, hM91⟩ := hP91
            rw [hM91] at hw
            have hp9 := pcf_le (X := σ 17 k) (n := σ 18 k) (k := p0) (Y := Y) (m := m0) (j := j) 13 0
            refine x_istore hx hb d_M_cost_94 hl (Nat.le_of_ble_eq_true rfl) (lh_k (i := 10) rfl (by first | exact lk_n | exact lk_i | exact lk_r | exact lk_q | exact lk_0)) (fun ls hl => ?_)
            refine x_iload hx hb d_M_cost_96 hl rfl ?_
            refine x_iload hx hb d_M_cost_98 hl rfl ?_
            refine x_icmp_le hx hb d_M_cost_100 rfl (by omega) (by omega) (fun h100 => ?_) (fun h100 => ?_)
            · have hif : (if L < pcf (σ 17 k) (σ 18 k) p0 Y m0 j 13 0 then pcf (σ 17 k) (σ 18 k) p0 Y m0 j 13 0 else L) = L := if_neg (by omega)
              refine x_iload hx hb d_M_cost_108 hl rfl ?_
              refine x_istore hx hb d_M_cost_110 hl (Nat.le_of_ble_eq_true rfl) (lh_k (i := 8) rfl (by first | exact lk_n | exact lk_i | exact lk_r | exact lk_q | exact lk_0)) (fun ls hl => ?_)
              refine x_iincN hx hb d_M_cost_112 hl rfl (lh_k (i := 9) rfl (by first | exact lk_n | exact lk_i | exact lk_r | exact lk_q | exact lk_0)) (fun ls hl => ?_)
              refine lv_goto hx hb d_M_cost_115 rfl ?_
              refine ih (j + 1) _ H locs ls (by omega) (by omega) hw (lh_drop 11 hl) (fun H locs ls hw hl => kk H locs ls hw ?_)
              unfold lgf
              rw [hif]
              exact hl
            · have hif : (if L < pcf (σ 17 k) (σ 18 k) p0 Y m0 j 13 0 then pcf (σ 17 k) (σ 18 k) p0 Y m0 j 13 0 else L) = pcf (σ 17 k) (σ 18 k) p0 Y m0 j 13 0 := if_pos (by omega)
              refine x_iload hx hb d_M_cost_103 hl rfl ?_
              refine lv_goto hx hb d_M_cost_105 rfl ?_
              refine x_istore hx hb d_M_cost_110 hl (Nat.le_of_ble_eq_true rfl) (lh_k (i := 8) rfl (by first | exact lk_n | exact lk_i | exact lk_r | exact lk_q | exact lk_0)) (fun ls hl => ?_)
              refine x_iincN hx hb d_M_cost_112 hl rfl (lh_k (i := 9) rfl (by first | exact lk_n | exact lk_i | exact lk_r | exact lk_q | exact lk_0)) (fun ls hl => ?_)
              refine lv_goto hx hb d_M_cost_115 rfl ?_
              refine ih (j + 1) _ H locs ls (by omega) (by omega) hw (lh_drop 11 hl) (fun H locs ls hw hl => kk H locs ls hw ?_)
              unfold lgf
              rw [hif]
              exact hl
      have loopO : ∀ (u p0 T : Nat) (sg : Bool) (H : Heap) (locs : List Loc) (ls : Array Slot), σ 18 k < p0 + u → p0 ≤ 26 → mw E.1 vwCl A s.heap (rfM E σ ad) H locs → lh ls [some (.ref (ad 0)), some (.int (nI k)), some (.int (-1)), some (.int (nI m0)), some (.long (lN Y)), none, some (.int (nI T)), some (.int (bz sg)), some (.int (nI p0)), none, none, none] → csf (σ 17 k) (σ 18 k) Y m0 u p0 T sg = csf (σ 17 k) (σ 18 k) Y m0 13 0 0 false → W p l e R s m ag below meth c H locs 0 0 Q (F0 m 49 ls []) := by
        intro u
        induction u with
        | zero =>
          intro p0 T sg H locs ls hu hp26 hw hl hT
          refine x_iload hx hb d_M_cost_49 hl rfl ?_
          first | refine x_aload_n hx hb d_M_cost_51 hl rfl ?_ | refine x_aload_nQ hx hb d_M_cost_51 hl rfl ?_
          refine m_get hx hb hts hown hK hw ci_M (rf_at hI 0 (by decide) rfl) 18 (by decide) (wm3 90 rfl rfl) rfl d_M_cost_52 ?_
          refine x_iload_n hx hb d_M_cost_55 hl rfl ?_
          refine rl_18 hx hb hK hI hB hw (by omega) d_M_cost_56 (fun hv56 => ?_)
          refine x_icmp_ge hx hb d_M_cost_57 rfl (by omega) (by omega) (fun h57 => ?_) (fun h57 => ?_)
          · refine x_iload hx hb d_M_cost_176 hl rfl ?_
            exact x_reti hQ hx hb hr hlk rfl hw (by omega) (by omega) d_M_cost_178 (⟨by rw [← hT]; rfl, rfl⟩)
          · exact absurd h57 (by omega)
        | succ u ih =>
          intro p0 T sg H locs ls hu hp26 hw hl hT
          refine x_iload hx hb d_M_cost_49 hl rfl ?_
          first | refine x_aload_n hx hb d_M_cost_51 hl rfl ?_ | refine x_aload_nQ hx hb d_M_cost_51 hl rfl ?_
          refine m_get hx hb hts hown hK hw ci_M (rf_at hI 0 (by decide) rfl) 18 (by decide) (wm3 90 rfl rfl) rfl d_M_cost_52 ?_
          refine x_iload_n hx hb d_M_cost_55 hl rfl ?_
          refine rl_18 hx hb hK hI hB hw (by omega) d_M_cost_56 (fun hv56 => ?_)
          refine x_icmp_ge hx hb d_M_cost_57 rfl (by omega) (by omega) (fun h57 => ?_) (fun h57 => ?_)
          · have hT2 := csf_e (X := σ 17 k) (n := σ 18 k) (Y := Y) (m := m0) (p := p0) (T := T) (s := sg) h57 (u + 1)
            refine x_iload hx hb d_M_cost_176 hl rfl ?_
            exact x_reti hQ hx hb hr hlk rfl hw (by omega) (by omega) d_M_cost_178 (⟨by rw [← hT, hT2], rfl⟩)
          · refine lv_iconst (v := nI 0) hx hb d_M_cost_60 (by decide) ?_
            refine x_istore hx hb d_M_cost_61 hl (Nat.le_of_ble_eq_true rfl) (lh_k (i := 8) rfl (by first | exact lk_n | exact lk_i | exact lk_r | exact lk_q | exact lk_0)) (fun ls hl => ?_)
            refine lv_iconst (v := nI 0) hx hb d_M_cost_63 (by decide) ?_
            refine x_istore hx hb d_M_cost_64 hl (Nat.le_of_ble_eq_true rfl) (lh_k (i := 9) rfl (by first | exact lk_n | exact lk_i | exact lk_r | exact lk_q | exact lk_0)) (fun ls hl => ?_)
            refine loopI m0 0 0 T p0 sg H locs ls (by omega) (by omega) (by omega) hw hl (fun H locs ls hw hl => ?_)
            have hL9 := lgf_le (X := σ 17 k) (n := σ 18 k) (p := p0) (Y := Y) (m := m0) m0 0 0 (by omega)
            refine x_iload hx hb d_M_cost_118 hl rfl ?_
            refine x_iload hx hb d_M_cost_120 hl rfl ?_
            refine lv_iconst (v := nI 3) hx hb d_M_cost_122 (by decide) ?_
            refine x_icmp_lt hx hb d_M_cost_123 rfl (by omega) (by omega) (fun h123 => ?_) (fun h123 => ?_)
            · have hT2 := csf_2 (X := σ 17 k) (Y := Y) (m := m0) (u := u) (T := T) (s := sg) h57 h123
              refine x_iload hx hb d_M_cost_130 hl rfl ?_
              refine x_if_eqB hx hb d_M_cost_132 rfl (fun h132 => ?_) (fun h132 => ?_)
              · subst h132
                refine lv_iconst (v := nI 2) hx hb d_M_cost_139 (by decide) ?_
                first | refine x_iadd hx hb d_M_cost_140 ?_ | refine lv_iadd hx hb d_M_cost_140 ?_
                refine x_istore hx hb d_M_cost_141 hl (Nat.le_of_ble_eq_true rfl) (lh_k (i := 5) rfl (by first | exact lk_n | exact lk_i | exact lk_r | exact lk_q | exact lk_0)) (fun ls hl => ?_)
                refine x_iload hx hb d_M_cost_143 hl rfl ?_
                refine lv_iconst (v := nI 3) hx hb d_M_cost_145 (by decide) ?_
                refine x_icmp_ge hx hb d_M_cost_146 rfl (by omega) (by omega) (fun h146 => ?_) (fun h146 => ?_)
                · first
                    | exact absurd h146 (by omega)
                    | refine lv_iconst (v := nI 0) hx hb d_M_cost_153 (by decide) ?_
                      refine x_istore hx hb d_M_cost_154 hl (Nat.le_of_ble_eq_true rfl) (lh_k (i := 6) rfl (by first | exact lk_n | exact lk_i | exact lk_r | exact lk_q | exact lk_0)) (fun ls hl => ?_)
                      refine x_iload hx hb d_M_cost_156 hl rfl ?_
                      refine x_iload hx hb d_M_cost_158 hl rfl ?_
                      refine lv_iconst (v := nI 3) hx hb d_M_cost_160 (by decide) ?_
                      refine x_icmp_lt hx hb d_M_cost_161 rfl (by omega) (by omega) (fun h161 => ?_) (fun h161 => ?_)
                      · first
                          | exact absurd h161 (by omega)
                          | refine lv_iconst (v := nI 1) hx hb d_M_cost_169 (by decide) ?_
                            first | refine x_iadd hx hb d_M_cost_170 ?_ | refine lv_iadd hx hb d_M_cost_170 ?_
                            refine x_istore hx hb d_M_cost_171 hl (Nat.le_of_ble_eq_true rfl) (lh_k (i := 7) rfl (by first | exact lk_n | exact lk_i | exact lk_r | exact lk_q | exact lk_0)) (fun ls hl => ?_)
                            refine lv_goto hx hb d_M_cost_173 rfl ?_
                            first | exact ih _ _ true H locs ls (by omega) (by omega) hw (lh_drop 9 hl) (hT2.symm.trans hT) | exact ih _ _ false H locs ls (by omega) (by omega) hw (lh_drop 9 hl) (hT2.symm.trans hT)
                      · first
                          | exact absurd h161 (by omega)
                          | refine x_iload hx hb d_M_cost_164 hl rfl ?_
                            refine lv_goto hx hb d_M_cost_166 rfl ?_
                            first | refine x_iadd hx hb d_M_cost_170 ?_ | refine lv_iadd hx hb d_M_cost_170 ?_
                            refine x_istore hx hb d_M_cost_171 hl (Nat.le_of_ble_eq_true rfl) (lh_k (i := 7) rfl (by first | exact lk_n | exact lk_i | exact lk_r | exact lk_q | exact lk_0)) (fun ls hl => ?_)
                            refine lv_goto hx hb d_M_cost_173 rfl ?_
                            first | exact ih _ _ true H locs ls (by omega) (by omega) hw (lh_drop 9 hl) (hT2.symm.trans hT) | exact ih _ _ false H locs ls (by omega) (by omega) hw (lh_drop 9 hl) (hT2.symm.trans hT)
                · first
                    | exact absurd h146 (by omega)
                    | refine lv_iconst (v := nI 1) hx hb d_M_cost_149 (by decide) ?_
                      refine lv_goto hx hb d_M_cost_150 rfl ?_
                      refine x_istore hx hb d_M_cost_154 hl (Nat.le_of_ble_eq_true rfl) (lh_k (i := 6) rfl (by first | exact lk_n | exact lk_i | exact lk_r | exact lk_q | exact lk_0)) (fun ls hl => ?_)
                      refine x_iload hx hb d_M_cost_156 hl rfl ?_
                      refine x_iload hx hb d_M_cost_158 hl rfl ?_
                      refine lv_iconst (v := nI 3) hx hb d_M_cost_160 (by decide) ?_
                      refine x_icmp_lt hx hb d_M_cost_161 rfl (by omega) (by omega) (fun h161 => ?_) (fun h161 => ?_)
                      · first
                          | exact absurd h161 (by omega)
                          | refine lv_iconst (v := nI 1) hx hb d_M_cost_169 (by decide) ?_
                            first | refine x_iadd hx hb d_M_cost_170 ?_ | refine lv_iadd hx hb d_M_cost_170 ?_
                            refine x_istore hx hb d_M_cost_171 hl (Nat.le_of_ble_eq_true rfl) (lh_k (i := 7) rfl (by first | exact lk_n | exact lk_i | exact lk_r | exact lk_q | exact lk_0)) (fun ls hl => ?_)
                            refine lv_goto hx hb d_M_cost_173 rfl ?_
                            first | exact ih _ _ true H locs ls (by omega) (by omega) hw (lh_drop 9 hl) (hT2.symm.trans hT) | exact ih _ _ false H locs ls (by omega) (by omega) hw (lh_drop 9 hl) (hT2.symm.trans hT)
                      · first
                          | exact absurd h161 (by omega)
                          | refine x_iload hx hb d_M_cost_164 hl rfl ?_
                            refine lv_goto hx hb d_M_cost_166 rfl ?_
                            first | refine x_iadd hx hb d_M_cost_170 ?_ | refine lv_iadd hx hb d_M_cost_170 ?_
                            refine x_istore hx hb d_M_cost_171 hl (Nat.le_of_ble_eq_true rfl) (lh_k (i := 7) rfl (by first | exact lk_n | exact lk_i | exact lk_r | exact lk_q | exact lk_0)) (fun ls hl => ?_)
                            refine lv_goto hx hb d_M_cost_173 rfl ?_
                            first | exact ih _ _ true H locs ls (by omega) (by omega) hw (lh_drop 9 hl) (hT2.symm.trans hT) | exact ih _ _ false H locs ls (by omega) (by omega) hw (lh_drop 9 hl) (hT2.symm.trans hT)
              · subst h132
                refine lv_iconst (v := nI 1) hx hb d_M_cost_135 (by decide) ?_
                refine lv_goto hx hb d_M_cost_136 rfl ?_
                first | refine x_iadd hx hb d_M_cost_140 ?_ | refine lv_iadd hx hb d_M_cost_140 ?_
                refine x_istore hx hb d_M_cost_141 hl (Nat.le_of_ble_eq_true rfl) (lh_k (i := 5) rfl (by first | exact lk_n | exact lk_i | exact lk_r | exact lk_q | exact lk_0)) (fun ls hl => ?_)
                refine x_iload hx hb d_M_cost_143 hl rfl ?_
                refine lv_iconst (v := nI 3) hx hb d_M_cost_145 (by decide) ?_
                refine x_icmp_ge hx hb d_M_cost_146 rfl (by omega) (by omega) (fun h146 => ?_) (fun h146 => ?_)
                · first
                    | exact absurd h146 (by omega)
                    | refine lv_iconst (v := nI 0) hx hb d_M_cost_153 (by decide) ?_
                      refine x_istore hx hb d_M_cost_154 hl (Nat.le_of_ble_eq_true rfl) (lh_k (i := 6) rfl (by first | exact lk_n | exact lk_i | exact lk_r | exact lk_q | exact lk_0)) (fun ls hl => ?_)
                      refine x_iload hx hb d_M_cost_156 hl rfl ?_
                      refine x_iload hx hb d_M_cost_158 hl rfl ?_
                      refine lv_iconst (v := nI 3) hx hb d_M_cost_160 (by decide) ?_
                      refine x_icmp_lt hx hb d_M_cost_161 rfl (by omega) (by omega) (fun h161 => ?_) (fun h161 => ?_)
                      · first
                          | exact absurd h161 (by omega)
                          | refine lv_iconst (v := nI 1) hx hb d_M_cost_169 (by decide) ?_
                            first | refine x_iadd hx hb d_M_cost_170 ?_ | refine lv_iadd hx hb d_M_cost_170 ?_
                            refine x_istore hx hb d_M_cost_171 hl (Nat.le_of_ble_eq_true rfl) (lh_k (i := 7) rfl (by first | exact lk_n | exact lk_i | exact lk_r | exact lk_q | exact lk_0)) (fun ls hl => ?_)
                            refine lv_goto hx hb d_M_cost_173 rfl ?_
                            first | exact ih _ _ true H locs ls (by omega) (by omega) hw (lh_drop 9 hl) (hT2.symm.trans hT) | exact ih _ _ false H locs ls (by omega) (by omega) hw (lh_drop 9 hl) (hT2.symm.trans hT)
                      · first
                          | exact absurd h161 (by omega)
                          | refine x_iload hx hb d_M_cost_164 hl rfl ?_
                            refine lv_goto hx hb d_M_cost_166 rfl ?_
                            first | refine x_iadd hx hb d_M_cost_170 ?_ | refine lv_iadd hx hb d_M_cost_170 ?_
                            refine x_istore hx hb d_M_cost_171 hl (Nat.le_of_ble_eq_true rfl) (lh_k (i := 7) rfl (by first | exact lk_n | exact lk_i | exact lk_r | exact lk_q | exact lk_0)) (fun ls hl => ?_)
                            refine lv_goto hx hb d_M_cost_173 rfl ?_
                            first | exact ih _ _ true H locs ls (by omega) (by omega) hw (lh_drop 9 hl) (hT2.symm.trans hT) | exact ih _ _ false H locs ls (by omega) (by omega) hw (lh_drop 9 hl) (hT2.symm.trans hT)
                · first
                    | exact absurd h146 (by omega)
                    | refine lv_iconst (v := nI 1) hx hb d_M_cost_149 (by decide) ?_
                      refine lv_goto hx hb d_M_cost_150 rfl ?_
                      refine x_istore hx hb d_M_cost_154 hl (Nat.le_of_ble_eq_true rfl) (lh_k (i := 6) rfl (by first | exact lk_n | exact lk_i | exact lk_r | exact lk_q | exact lk_0)) (fun ls hl => ?_)
                      refine x_iload hx hb d_M_cost_156 hl rfl ?_
                      refine x_iload hx hb d_M_cost_158 hl rfl ?_
                      refine lv_iconst (v := nI 3) hx hb d_M_cost_160 (by decide) ?_
                      refine x_icmp_lt hx hb d_M_cost_161 rfl (by omega) (by omega) (fun h161 => ?_) (fun h161 => ?_)
                      · first
                          | exact absurd h161 (by omega)
                          | refine lv_iconst (v := nI 1) hx hb d_M_cost_169 (by decide) ?_
                            first | refine x_iadd hx hb d_M_cost_170 ?_ | refine lv_iadd hx hb d_M_cost_170 ?_
                            refine x_istore hx hb d_M_cost_171 hl (Nat.le_of_ble_eq_true rfl) (lh_k (i := 7) rfl (by first | exact lk_n | exact lk_i | exact lk_r | exact lk_q | exact lk_0)) (fun ls hl => ?_)
                            refine lv_goto hx hb d_M_cost_173 rfl ?_
                            first | exact ih _ _ true H locs ls (by omega) (by omega) hw (lh_drop 9 hl) (hT2.symm.trans hT) | exact ih _ _ false H locs ls (by omega) (by omega) hw (lh_drop 9 hl) (hT2.symm.trans hT)
                      · first
                          | exact absurd h161 (by omega)
                          | refine x_iload hx hb d_M_cost_164 hl rfl ?_
                            refine lv_goto hx hb d_M_cost_166 rfl ?_
                            first | refine x_iadd hx hb d_M_cost_170 ?_ | refine lv_iadd hx hb d_M_cost_170 ?_
                            refine x_istore hx hb d_M_cost_171 hl (Nat.le_of_ble_eq_true rfl) (lh_k (i := 7) rfl (by first | exact lk_n | exact lk_i | exact lk_r | exact lk_q | exact lk_0)) (fun ls hl => ?_)
                            refine lv_goto hx hb d_M_cost_173 rfl ?_
                            first | exact ih _ _ true H locs ls (by omega) (by omega) hw (lh_drop 9 hl) (hT2.symm.trans hT) | exact ih _ _ false H locs ls (by omega) (by omega) hw (lh_drop 9 hl) (hT2.symm.trans hT)
            · have hT2 := csf_1 (X := σ 17 k) (Y := Y) (m := m0) (u := u) (T := T) (s := sg) h57 h123
              refine lv_iconst (v := nI 2) hx hb d_M_cost_126 (by decide) ?_
              refine lv_goto hx hb d_M_cost_127 rfl ?_
              first | refine x_iadd hx hb d_M_cost_140 ?_ | refine lv_iadd hx hb d_M_cost_140 ?_
              refine x_istore hx hb d_M_cost_141 hl (Nat.le_of_ble_eq_true rfl) (lh_k (i := 5) rfl (by first | exact lk_n | exact lk_i | exact lk_r | exact lk_q | exact lk_0)) (fun ls hl => ?_)
              refine x_iload hx hb d_M_cost_143 hl rfl ?_
              refine lv_iconst (v := nI 3) hx hb d_M_cost_145 (by decide) ?_
              refine x_icmp_ge hx hb d_M_cost_146 rfl (by omega) (by omega) (fun h146 => ?_) (fun h146 => ?_)
              · first
                  | exact absurd h146 (by omega)
                  | refine lv_iconst (v := nI 0) hx hb d_M_cost_153 (by decide) ?_
                    refine x_istore hx hb d_M_cost_154 hl (Nat.le_of_ble_eq_true rfl) (lh_k (i := 6) rfl (by first | exact lk_n | exact lk_i | exact lk_r | exact lk_q | exact lk_0)) (fun ls hl => ?_)
                    refine x_iload hx hb d_M_cost_156 hl rfl ?_
                    refine x_iload hx hb d_M_cost_158 hl rfl ?_
                    refine lv_iconst (v := nI 3) hx hb d_M_cost_160 (by decide) ?_
                    refine x_icmp_lt hx hb d_M_cost_161 rfl (by omega) (by omega) (fun h161 => ?_) (fun h161 => ?_)
                    · first
                        | exact absurd h161 (by omega)
                        | refine lv_iconst (v := nI 1) hx hb d_M_cost_169 (by decide) ?_
                          first | refine x_iadd hx hb d_M_cost_170 ?_ | refine lv_iadd hx hb d_M_cost_170 ?_
                          refine x_istore hx hb d_M_cost_171 hl (Nat.le_of_ble_eq_true rfl) (lh_k (i := 7) rfl (by first | exact lk_n | exact lk_i | exact lk_r | exact lk_q | exact lk_0)) (fun ls hl => ?_)
                          refine lv_goto hx hb d_M_cost_173 rfl ?_
                          first | exact ih _ _ true H locs ls (by omega) (by omega) hw (lh_drop 9 hl) (hT2.symm.trans hT) | exact ih _ _ false H locs ls (by omega) (by omega) hw (lh_drop 9 hl) (hT2.symm.trans hT)
                    · first
                        | exact absurd h161 (by omega)
                        | refine x_iload hx hb d_M_cost_164 hl rfl ?_
                          refine lv_goto hx hb d_M_cost_166 rfl ?_
                          first | refine x_iadd hx hb d_M_cost_170 ?_ | refine lv_iadd hx hb d_M_cost_170 ?_
                          refine x_istore hx hb d_M_cost_171 hl (Nat.le_of_ble_eq_true rfl) (lh_k (i := 7) rfl (by first | exact lk_n | exact lk_i | exact lk_r | exact lk_q | exact lk_0)) (fun ls hl => ?_)
                          refine lv_goto hx hb d_M_cost_173 rfl ?_
                          first | exact ih _ _ true H locs ls (by omega) (by omega) hw (lh_drop 9 hl) (hT2.symm.trans hT) | exact ih _ _ false H locs ls (by omega) (by omega) hw (lh_drop 9 hl) (hT2.symm.trans hT)
              · first
                  | exact absurd h146 (by omega)
                  | refine lv_iconst (v := nI 1) hx hb d_M_cost_149 (by decide) ?_
                    refine lv_goto hx hb d_M_cost_150 rfl ?_
                    refine x_istore hx hb d_M_cost_154 hl (Nat.le_of_ble_eq_true rfl) (lh_k (i := 6) rfl (by first | exact lk_n | exact lk_i | exact lk_r | exact lk_q | exact lk_0)) (fun ls hl => ?_)
                    refine x_iload hx hb d_M_cost_156 hl rfl ?_
                    refine x_iload hx hb d_M_cost_158 hl rfl ?_
                    refine lv_iconst (v := nI 3) hx hb d_M_cost_160 (by decide) ?_
                    refine x_icmp_lt hx hb d_M_cost_161 rfl (by omega) (by omega) (fun h161 => ?_) (fun h161 => ?_)
                    · first
                        | exact absurd h161 (by omega)
                        | refine lv_iconst (v := nI 1) hx hb d_M_cost_169 (by decide) ?_
                          first | refine x_iadd hx hb d_M_cost_170 ?_ | refine lv_iadd hx hb d_M_cost_170 ?_
                          refine x_istore hx hb d_M_cost_171 hl (Nat.le_of_ble_eq_true rfl) (lh_k (i := 7) rfl (by first | exact lk_n | exact lk_i | exact lk_r | exact lk_q | exact lk_0)) (fun ls hl => ?_)
                          refine lv_goto hx hb d_M_cost_173 rfl ?_
                          first | exact ih _ _ true H locs ls (by omega) (by omega) hw (lh_drop 9 hl) (hT2.symm.trans hT) | exact ih _ _ false H locs ls (by omega) (by omega) hw (lh_drop 9 hl) (hT2.symm.trans hT)
                    · first
                        | exact absurd h161 (by omega)
                        | refine x_iload hx hb d_M_cost_164 hl rfl ?_
                          refine lv_goto hx hb d_M_cost_166 rfl ?_
                          first | refine x_iadd hx hb d_M_cost_170 ?_ | refine lv_iadd hx hb d_M_cost_170 ?_
                          refine x_istore hx hb d_M_cost_171 hl (Nat.le_of_ble_eq_true rfl) (lh_k (i := 7) rfl (by first | exact lk_n | exact lk_i | exact lk_r | exact lk_q | exact lk_0)) (fun ls hl => ?_)
                          refine lv_goto hx hb d_M_cost_173 rfl ?_
                          first | exact ih _ _ true H locs ls (by omega) (by omega) hw (lh_drop 9 hl) (hT2.symm.trans hT) | exact ih _ _ false H locs ls (by omega) (by omega) hw (lh_drop 9 hl) (hT2.symm.trans hT)
      exact loopO 13 0 0 false _ _ _ (by omega) (by omega) hw hl rfl

set_option maxHeartbeats 4000000 in
set_option maxRecDepth 100000 in
theorem c_M_cost1 {l : Launch} {E : Ev} {σ : SS} {ad : Nat → Nat} (hI : rfI ad) (hB : rB σ) {sz : Nat} {k : Nat} (hk : k < 512) (hX9 : ∀ k, σ 17 k < 2 ^ 48) (hn8 : ∀ k, σ 18 k < 13) (hb0 : 0 < σ 19 k) (hb1 : σ 19 k - 1 < 512) : MCi l E y_M_cost prog_10_method_45_code 12 (some .int) 2 50 0 0 [.ref (ad 0), .int (nI k)] (rfM E σ ad) sz (fun r M' => r = nI (cstK σ k) ∧ M' = rfM E σ ad) := by
  refine mc_of R_M rfl [some (.ref (ad 0)), some (.int (nI k)), none, none, none, none, none, none, none, none, none, none] (by decide) (Nat.le_of_ble_eq_true rfl) rfl ?_
  intro p e R s m ag below meth c ls Q A X hAe hQ hR hsz hw hl
  rw [← hAe] at hQ
  obtain ⟨⟨hx, hb, hml, hown, hts⟩, hE, hA, hr, hlk, hnm⟩ := X
  have hK := hE.1
  first | refine x_aload_n hx hb d_M_cost_0 hl rfl ?_ | refine x_aload_nQ hx hb d_M_cost_0 hl rfl ?_
  refine m_get hx hb hts hown hK hw ci_M (rf_at hI 0 (by decide) rfl) 19 (by decide) (wm3 91 rfl rfl) rfl d_M_cost_1 ?_
  refine x_iload_n hx hb d_M_cost_4 hl rfl ?_
  refine rl_19 hx hb hK hI hB hw (by omega) d_M_cost_5 (fun hv5 => ?_)
  refine lv_iconst (v := nI 1) hx hb d_M_cost_6 (by decide) ?_
  refine x_isub hx hb d_M_cost_7 (by omega) ?_
  refine x_istore_n hx hb d_M_cost_8 hl (Nat.le_of_ble_eq_true rfl) (lh_k (i := 1) rfl (by first | exact lk_n | exact lk_i | exact lk_r | exact lk_q | exact lk_0)) (fun ls hl => ?_)
  refine x_iload_n hx hb d_M_cost_9 hl rfl ?_
  refine x_if_ge hx hb d_M_cost_10 rfl (by omega) ?_
  first | refine x_aload_n hx hb d_M_cost_17 hl rfl ?_ | refine x_aload_nQ hx hb d_M_cost_17 hl rfl ?_
  refine m_get hx hb hts hown hK hw ci_M (rf_at hI 0 (by decide) rfl) 18 (by decide) (wm3 90 rfl rfl) rfl d_M_cost_18 ?_
  refine x_iload_n hx hb d_M_cost_21 hl rfl ?_
  refine rl_18 hx hb hK hI hB hw (by omega) d_M_cost_22 (fun hv22 => ?_)
  refine x_istore_n hx hb d_M_cost_23 hl (Nat.le_of_ble_eq_true rfl) (lh_k (i := 2) rfl (by first | exact lk_n | exact lk_i | exact lk_r | exact lk_q | exact lk_0)) (fun ls hl => ?_)
  refine x_iload_n hx hb d_M_cost_24 hl rfl ?_
  refine x_if_ge hx hb d_M_cost_25 rfl (by omega) ?_
  first | refine x_aload_n hx hb d_M_cost_32 hl rfl ?_ | refine x_aload_nQ hx hb d_M_cost_32 hl rfl ?_
  refine m_get hx hb hts hown hK hw ci_M (rf_at hI 0 (by decide) rfl) 17 (by decide) (wm3 89 rfl rfl) rfl d_M_cost_33 ?_
  refine x_iload_n hx hb d_M_cost_36 hl rfl ?_
  refine rl_17 hx hb hK hI hw (by omega) d_M_cost_37 ?_
  refine x_lstore hx hb d_M_cost_38 hl (Nat.le_of_ble_eq_true rfl) (lh_k (i := 3) rfl (by first | exact lk_n | exact lk_i | exact lk_r | exact lk_q | exact lk_0)) (fun ls hl => ?_)
  refine lv_iconst (v := nI 0) hx hb d_M_cost_40 (by decide) ?_
  refine x_istore hx hb d_M_cost_41 hl (Nat.le_of_ble_eq_true rfl) (lh_k (i := 5) rfl (by first | exact lk_n | exact lk_i | exact lk_r | exact lk_q | exact lk_0)) (fun ls hl => ?_)
  refine lv_iconst (v := nI 0) hx hb d_M_cost_43 (by decide) ?_
  refine x_istore hx hb d_M_cost_44 hl (Nat.le_of_ble_eq_true rfl) (lh_k (i := 6) rfl (by first | exact lk_n | exact lk_i | exact lk_r | exact lk_q | exact lk_0)) (fun ls hl => ?_)
  refine lv_iconst (v := nI 0) hx hb d_M_cost_46 (by decide) ?_
  refine x_istore hx hb d_M_cost_47 hl (Nat.le_of_ble_eq_true rfl) (lh_k (i := 7) rfl (by first | exact lk_n | exact lk_i | exact lk_r | exact lk_q | exact lk_0)) (fun ls hl => ?_)
  obtain ⟨m0, hm0⟩ : ∃ m0, m0 = σ 18 (σ 19 k - 1) := ⟨_, rfl⟩
  obtain ⟨Y, hYe⟩ : ∃ Y, Y = σ 17 (σ 19 k - 1) := ⟨_, rfl⟩
  have hY : Y < 2 ^ 48 := by rw [hYe]; exact hX9 _
  have hm9 : m0 < 13 := by rw [hm0]; exact hn8 _
  have hQ2 : cstK σ k = csf (σ 17 k) (σ 18 k) Y m0 13 0 0 false := by unfold cstK; rw [if_neg (by omega), hm0, hYe]
  rw [hQ2] at hQ
  have hl : lh ls [some (.ref (ad 0)), some (.int (nI k)), some (.int (nI (σ 19 k - 1))), some (.int (nI m0)), some (.long (lN Y)), none, some (.int (nI 0)), some (.int (bz false)), some (.int (nI 0)), none, none, none] := by rw [hm0, hYe]; exact hl
  have hX := hX9 k
  have hn9 := hn8 k
  have loopI : ∀ (u j L T p0 : Nat) (sg : Bool) (H : Heap) (locs : List Loc) (ls : Array Slot), j + u = m0 → L ≤ 13 → p0 < 13 → mw E.1 vwCl A s.heap (rfM E σ ad) H locs → lh ls [some (.ref (ad 0)), some (.int (nI k)), some (.int (nI (σ 19 k - 1))), some (.int (nI m0)), some (.long (lN Y)), none, some (.int (nI T)), some (.int (bz sg)), some (.int (nI p0)), some (.int (nI L)), some (.int (nI j)), none] → (∀ (H : Heap) (locs : List Loc) (ls : Array Slot), mw E.1 vwCl A s.heap (rfM E σ ad) H locs → lh ls [some (.ref (ad 0)), some (.int (nI k)), some (.int (nI (σ 19 k - 1))), some (.int (nI m0)), some (.long (lN Y)), none, some (.int (nI T)), some (.int (bz sg)), some (.int (nI p0)), some (.int (nI (lgf (σ 17 k) (σ 18 k) p0 Y m0 u j L))), none, none] → W p l e R s m ag below meth c H locs 0 0 Q (F0 m 118 ls [])) → W p l e R s m ag below meth c H locs 0 0 Q (F0 m 66 ls []) := by
    intro u j L T p0 sg
    induction u generalizing j L with
    | zero =>
      intro H locs ls hj hL hp0 hw hl kk
      refine x_iload hx hb d_M_cost_66 hl rfl ?_
      refine x_iload_n hx hb d_M_cost_68 hl rfl ?_
      refine x_icmp_ge hx hb d_M_cost_69 rfl (by omega) (by omega) (fun h69 => ?_) (fun h69 => ?_)
      · exact kk H locs ls hw (lh_drop 10 (lh_drop 11 hl))
      · exact absurd h69 (by omega)
    | succ u ih =>
      intro H locs ls hj hL hp0 hw hl kk
      have ih := fun j L H locs ls a b => ih j L H locs ls a b hp0
      refine x_iload hx hb d_M_cost_66 hl rfl ?_
      refine x_iload_n hx hb d_M_cost_68 hl rfl ?_
      refine x_icmp_ge hx hb d_M_cost_69 rfl (by omega) (by omega) (fun h69 => ?_) (fun h69 => ?_)
      · exact absurd h69 (by omega)
      · first | refine x_aload_n hx hb d_M_cost_72 hl rfl ?_ | refine x_aload_nQ hx hb d_M_cost_72 hl rfl ?_
        refine m_get hx hb hts hown hK hw ci_M (rf_at hI 0 (by decide) rfl) 17 (by decide) (wm3 89 rfl rfl) rfl d_M_cost_73 ?_
        refine x_iload_n hx hb d_M_cost_76 hl rfl ?_
        refine rl_17 hx hb hK hI hw (by omega) d_M_cost_77 ?_
        first | refine x_aload_n hx hb d_M_cost_78 hl rfl ?_ | refine x_aload_nQ hx hb d_M_cost_78 hl rfl ?_
        refine m_get hx hb hts hown hK hw ci_M (rf_at hI 0 (by decide) rfl) 18 (by decide) (wm3 90 rfl rfl) rfl d_M_cost_79 ?_
        refine x_iload_n hx hb d_M_cost_82 hl rfl ?_
        refine rl_18 hx hb hK hI hB hw (by omega) d_M_cost_83 (fun hv83 => ?_)
        refine x_iload hx hb d_M_cost_84 hl rfl ?_
        refine x_lload hx hb d_M_cost_86 hl rfl ?_
        refine x_iload_n hx hb d_M_cost_88 hl rfl ?_
        refine x_iload hx hb d_M_cost_89 hl rfl ?_
        refine m_calli (k_S ⟨hx, hb, hml, hown, hts⟩ hE hA hw (c_M_piece hX hY (by omega) (by omega) (by omega) (by omega)) (wm4 67 rfl rfl) (wm4 68 rfl rfl) (wm1 9 rfl rfl) (wm4 69 rfl rfl) rfl rfl ar_M_piece ⟨Nat.le_trans (Nat.le_of_ble_eq_true rfl) hR.1, Nat.le_trans (Nat.le_of_ble_eq_true rfl) hR.2.1⟩ rfl hl.1 rfl (Nat.le_of_ble_eq_true rfl) d_M_cost_91 ⟨Nat.le_trans (Nat.le_of_ble_eq_true rfl) hR.2.2.1, Nat.le_trans (Nat.le_of_ble_eq_true rfl) hR.2.2.2⟩) hw (mfr_in hw hA) (fun r91 M91 H locs hP91 hw => ?_)
        obtain ⟨rfl, hM91⟩ := hP91
        rw [hM91] at hw
        have hp9 := pcf_le (X := σ 17 k) (n := σ 18 k) (k := p0) (Y := Y) (m := m0) (j := j) 13 0
        refine x_istore hx hb d_M_cost_94 hl (Nat.le_of_ble_eq_true rfl) (lh_k (i := 10) rfl (by first | exact lk_n | exact lk_i | exact lk_r | exact lk_q | exact lk_0)) (fun ls hl => ?_)
        refine x_iload hx hb d_M_cost_96 hl rfl ?_
        refine x_iload hx hb d_M_cost_98 hl rfl ?_
        refine x_icmp_le hx hb d_M_cost_100 rfl (by omega) (by omega) (fun h100 => ?_) (fun h100 => ?_)
        · have hif : (if L < pcf (σ 17 k) (σ 18 k) p0 Y m0 j 13 0 then pcf (σ 17 k) (σ 18 k) p0 Y m0 j 13 0 else L) = L := if_neg (by omega)
          refine x_iload hx hb d_M_cost_108 hl rfl ?_
          refine x_istore hx hb d_M_cost_110 hl (Nat.le_of_ble_eq_true rfl) (lh_k (i := 8) rfl (by first | exact lk_n | exact lk_i | exact lk_r | exact lk_q | exact lk_0)) (fun ls hl => ?_)
          refine x_iincN hx hb d_M_cost_112 hl rfl (lh_k (i := 9) rfl (by first | exact lk_n | exact lk_i | exact lk_r | exact lk_q | exact lk_0)) (fun ls hl => ?_)
          refine lv_goto hx hb d_M_cost_115 rfl ?_
          refine ih (j + 1) _ H locs ls (by omega) (by omega) hw (lh_drop 11 hl) (fun H locs ls hw hl => kk H locs ls hw ?_)
          unfold lgf
          rw [hif]
          exact hl
        · have hif : (if L < pcf (σ 17 k) (σ 18 k) p0 Y m0 j 13 0 then pcf (σ 17 k) (σ 18 k) p0 Y m0 j 13 0 else L) = pcf (σ 17 k) (σ 18 k) p0 Y m0 j 13 0 := if_pos (by omega)
          refine x_iload hx hb d_M_cost_103 hl rfl ?_
          refine lv_goto hx hb d_M_cost_105 rfl ?_
          refine x_istore hx hb d_M_cost_110 hl (Nat.le_of_ble_eq_true rfl) (lh_k (i := 8) rfl (by first | exact lk_n | exact lk_i | exact lk_r | exact lk_q | exact lk_0)) (fun ls hl => ?_)
          refine x_iincN hx hb d_M_cost_112 hl rfl (lh_k (i := 9) rfl (by first | exact lk_n | exact lk_i | exact lk_r | exact lk_q | exact lk_0)) (fun ls hl => ?_)
          refine lv_goto hx hb d_M_cost_115 rfl ?_
          refine ih (j + 1) _ H locs ls (by omega) (by omega) hw (lh_drop 11 hl) (fun H locs ls hw hl => kk H locs ls hw ?_)
          unfold lgf
          rw [hif]
          exact hl
  have loopO : ∀ (u p0 T : Nat) (sg : Bool) (H : Heap) (locs : List Loc) (ls : Array Slot), σ 18 k < p0 + u → p0 ≤ 26 → mw E.1 vwCl A s.heap (rfM E σ ad) H locs → lh ls [some (.ref (ad 0)), some (.int (nI k)), some (.int (nI (σ 19 k - 1))), some (.int (nI m0)), some (.long (lN Y)), none, some (.int (nI T)), some (.int (bz sg)), some (.int (nI p0)), none, none, none] → csf (σ 17 k) (σ 18 k) Y m0 u p0 T sg = csf (σ 17 k) (σ 18 k) Y m0 13 0 0 false → W p l e R s m ag below meth c H locs 0 0 Q (F0 m 49 ls []) := by
    intro u
    induction u with
    | zero =>
      intro p0 T sg H locs ls hu hp26 hw hl hT
      refine x_iload hx hb d_M_cost_49 hl rfl ?_
      first | refine x_aload_n hx hb d_M_cost_51 hl rfl ?_ | refine x_aload_nQ hx hb d_M_cost_51 hl rfl ?_
      refine m_get hx hb hts hown hK hw ci_M (rf_at hI 0 (by decide) rfl) 18 (by decide) (wm3 90 rfl rfl) rfl d_M_cost_52 ?_
      refine x_iload_n hx hb d_M_cost_55 hl rfl ?_
      refine rl_18 hx hb hK hI hB hw (by omega) d_M_cost_56 (fun hv56 => ?_)
      refine x_icmp_ge hx hb d_M_cost_57 rfl (by omega) (by omega) (fun h57 => ?_) (fun h57 => ?_)
      · refine x_iload hx hb d_M_cost_176 hl rfl ?_
        exact x_reti hQ hx hb hr hlk rfl hw (by omega) (by omega) d_M_cost_178 (⟨by rw [← hT]; rfl, rfl⟩)
      · exact absurd h57 (by omega)
    | succ u ih =>
      intro p0 T sg H locs ls hu hp26 hw hl hT
      refine x_iload hx hb d_M_cost_49 hl rfl ?_
      first | refine x_aload_n hx hb d_M_cost_51 hl rfl ?_ | refine x_aload_nQ hx hb d_M_cost_51 hl rfl ?_
      refine m_get hx hb hts hown hK hw ci_M (rf_at hI 0 (by decide) rfl) 18 (by decide) (wm3 90 rfl rfl) rfl d_M_cost_52 ?_
      refine x_iload_n hx hb d_M_cost_55 hl rfl ?_
      refine rl_18 hx hb hK hI hB hw (by omega) d_M_cost_56 (fun hv56 => ?_)
      refine x_icmp_ge hx hb d_M_cost_57 rfl (by omega) (by omega) (fun h57 => ?_) (fun h57 => ?_)
      · have hT2 := csf_e (X := σ 17 k) (n := σ 18 k) (Y := Y) (m := m0) (p := p0) (T := T) (s := sg) h57 (u + 1)
        refine x_iload hx hb d_M_cost_176 hl rfl ?_
        exact x_reti hQ hx hb hr hlk rfl hw (by omega) (by omega) d_M_cost_178 (⟨by rw [← hT, hT2], rfl⟩)
      · refine lv_iconst (v := nI 0) hx hb d_M_cost_60 (by decide) ?_
        refine x_istore hx hb d_M_cost_61 hl (Nat.le_of_ble_eq_true rfl) (lh_k (i := 8) rfl (by first | exact lk_n | exact lk_i | exact lk_r | exact lk_q | exact lk_0)) (fun ls hl => ?_)
        refine lv_iconst (v := nI 0) hx hb d_M_cost_63 (by decide) ?_
        refine x_istore hx hb d_M_cost_64 hl (Nat.le_of_ble_eq_true rfl) (lh_k (i := 9) rfl (by first | exact lk_n | exact lk_i | exact lk_r | exact lk_q | exact lk_0)) (fun ls hl => ?_)
        refine loopI m0 0 0 T p0 sg H locs ls (by omega) (by omega) (by omega) hw hl (fun H locs ls hw hl => ?_)
        have hL9 := lgf_le (X := σ 17 k) (n := σ 18 k) (p := p0) (Y := Y) (m := m0) m0 0 0 (by omega)
        refine x_iload hx hb d_M_cost_118 hl rfl ?_
        refine x_iload hx hb d_M_cost_120 hl rfl ?_
        refine lv_iconst (v := nI 3) hx hb d_M_cost_122 (by decide) ?_
        refine x_icmp_lt hx hb d_M_cost_123 rfl (by omega) (by omega) (fun h123 => ?_) (fun h123 => ?_)
        · have hT2 := csf_2 (X := σ 17 k) (Y := Y) (m := m0) (u := u) (T := T) (s := sg) h57 h123
          refine x_iload hx hb d_M_cost_130 hl rfl ?_
          refine x_if_eqB hx hb d_M_cost_132 rfl (fun h132 => ?_) (fun h132 => ?_)
          · subst h132
            refine lv_iconst (v := nI 2) hx hb d_M_cost_139 (by decide) ?_
            first | refine x_iadd hx hb d_M_cost_140 ?_ | refine lv_iadd hx hb d_M_cost_140 ?_
            refine x_istore hx hb d_M_cost_141 hl (Nat.le_of_ble_eq_true rfl) (lh_k (i := 5) rfl (by first | exact lk_n | exact lk_i | exact lk_r | exact lk_q | exact lk_0)) (fun ls hl => ?_)
            refine x_iload hx hb d_M_cost_143 hl rfl ?_
            refine lv_iconst (v := nI 3) hx hb d_M_cost_145 (by decide) ?_
            refine x_icmp_ge hx hb d_M_cost_146 rfl (by omega) (by omega) (fun h146 => ?_) (fun h146 => ?_)
            · first
                | exact absurd h146 (by omega)
                | refine lv_iconst (v := nI 0) hx hb d_M_cost_153 (by decide) ?_
                  refine x_istore hx hb d_M_cost_154 hl (Nat.le_of_ble_eq_true rfl) (lh_k (i := 6) rfl (by first | exact lk_n | exact lk_i | exact lk_r | exact lk_q | exact lk_0)) (fun ls hl => ?_)
                  refine x_iload hx hb d_M_cost_156 hl rfl ?_
                  refine x_iload hx hb d_M_cost_158 hl rfl ?_
                  refine lv_iconst (v := nI 3) hx hb d_M_cost_160 (by decide) ?_
                  refine x_icmp_lt hx hb d_M_cost_161 rfl (by omega) (by omega) (fun h161 => ?_) (fun h161 => ?_)
                  · first
                      | exact absurd h161 (by omega)
                      | refine lv_iconst (v := nI 1) hx hb d_M_cost_169 (by decide) ?_
                        first | refine x_iadd hx hb d_M_cost_170 ?_ | refine lv_iadd hx hb d_M_cost_170 ?_
                        refine x_istore hx hb d_M_cost_171 hl (Nat.le_of_ble_eq_true rfl) (lh_k (i := 7) rfl (by first | exact lk_n | exact lk_i | exact lk_r | exact lk_q | exact lk_0)) (fun ls hl => ?_)
                        refine lv_goto hx hb d_M_cost_173 rfl ?_
                        first | exact ih _ _ true H locs ls (by omega) (by omega) hw (lh_drop 9 hl) (hT2.symm.trans hT) | exact ih _ _ false H locs ls (by omega) (by omega) hw (lh_drop 9 hl) (hT2.symm.trans hT)
                  · first
                      | exact absurd h161 (by omega)
                      | refine x_iload hx hb d_M_cost_164 hl rfl ?_
                        refine lv_goto hx hb d_M_cost_166 rfl ?_
                        first | refine x_iadd hx hb d_M_cost_170 ?_ | refine lv_iadd hx hb d_M_cost_170 ?_
                        refine x_istore hx hb d_M_cost_171 hl (Nat.le_of_ble_eq_true rfl) (lh_k (i := 7) rfl (by first | exact lk_n | exact lk_i | exact lk_r | exact lk_q | exact lk_0)) (fun ls hl => ?_)
                        refine lv_goto hx hb d_M_cost_173 rfl ?_
                        first | exact ih _ _ true H locs ls (by omega) (by omega) hw (lh_drop 9 hl) (hT2.symm.trans hT) | exact ih _ _ false H locs ls (by omega) (by omega) hw (lh_drop 9 hl) (hT2.symm.trans hT)
            · first
                | exact absurd h146 (by omega)
                | refine lv_iconst (v := nI 1) hx hb d_M_cost_149 (by decide) ?_
                  refine lv_goto hx hb d_M_cost_150 rfl ?_
                  refine x_istore hx hb d_M_cost_154 hl (Nat.le_of_ble_eq_true rfl) (lh_k (i := 6) rfl (by first | exact lk_n | exact lk_i | exact lk_r | exact lk_q | exact lk_0)) (fun ls hl => ?_)
                  refine x_iload hx hb d_M_cost_156 hl rfl ?_
                  refine x_iload hx hb d_M_cost_158 hl rfl ?_
                  refine lv_iconst (v := nI 3) hx hb d_M_cost_160 (by decide) ?_
                  refine x_icmp_lt hx hb d_M_cost_161 rfl (by omega) (by omega) (fun h161 => ?_) (fun h161 => ?_)
                  · first
                      | exact absurd h161 (by omega)
                      | refine lv_iconst (v := nI 1) hx hb d_M_cost_169 (by decide) ?_
                        first | refine x_iadd hx hb d_M_cost_170 ?_ | refine lv_iadd hx hb d_M_cost_170 ?_
                        refine x_istore hx hb d_M_cost_171 hl (Nat.le_of_ble_eq_true rfl) (lh_k (i := 7) rfl (by first | exact lk_n | exact lk_i | exact lk_r | exact lk_q | exact lk_0)) (fun ls hl => ?_)
                        refine lv_goto hx hb d_M_cost_173 rfl ?_
                        first | exact ih _ _ true H locs ls (by omega) (by omega) hw (lh_drop 9 hl) (hT2.symm.trans hT) | exact ih _ _ false H locs ls (by omega) (by omega) hw (lh_drop 9 hl) (hT2.symm.trans hT)
                  · first
                      | exact absurd h161 (by omega)
                      | refine x_iload hx hb d_M_cost_164 hl rfl ?_
                        refine lv_goto hx hb d_M_cost_166 rfl ?_
                        first | refine x_iadd hx hb d_M_cost_170 ?_ | refine lv_iadd hx hb d_M_cost_170 ?_
                        refine x_istore hx hb d_M_cost_171 hl (Nat.le_of_ble_eq_true rfl) (lh_k (i := 7) rfl (by first | exact lk_n | exact lk_i | exact lk_r | exact lk_q | exact lk_0)) (fun ls hl => ?_)
                        refine lv_goto hx hb d_M_cost_173 rfl ?_
                        first | exact ih _ _ true H locs ls (by omega) (by omega) hw (lh_drop 9 hl) (hT2.symm.trans hT) | exact ih _ _ false H locs ls (by omega) (by omega) hw (lh_drop 9 hl) (hT2.symm.trans hT)
          · subst h132
            refine lv_iconst (v := nI 1) hx hb d_M_cost_135 (by decide) ?_
            refine lv_goto hx hb d_M_cost_136 rfl ?_
            first | refine x_iadd hx hb d_M_cost_140 ?_ | refine lv_iadd hx hb d_M_cost_140 ?_
            refine x_istore hx hb d_M_cost_141 hl (Nat.le_of_ble_eq_true rfl) (lh_k (i := 5) rfl (by first | exact lk_n | exact lk_i | exact lk_r | exact lk_q | exact lk_0)) (fun ls hl => ?_)
            refine x_iload hx hb d_M_cost_143 hl rfl ?_
            refine lv_iconst (v := nI 3) hx hb d_M_cost_145 (by decide) ?_
            refine x_icmp_ge hx hb d_M_cost_146 rfl (by omega) (by omega) (fun h146 => ?_) (fun h146 => ?_)
            · first
                | exact absurd h146 (by omega)
                | refine lv_iconst (v := nI 0) hx hb d_M_cost_153 (by decide) ?_
                  refine x_istore hx hb d_M_cost_154 hl (Nat.le_of_ble_eq_true rfl) (lh_k (i := 6) rfl (by first | exact lk_n | exact lk_i | exact lk_r | exact lk_q | exact lk_0)) (fun ls hl => ?_)
                  refine x_iload hx hb d_M_cost_156 hl rfl ?_
                  refine x_iload hx hb d_M_cost_158 hl rfl ?_
                  refine lv_iconst (v := nI 3) hx hb d_M_cost_160 (by decide) ?_
                  refine x_icmp_lt hx hb d_M_cost_161 rfl (by omega) (by omega) (fun h161 => ?_) (fun h161 => ?_)
                  · first
                      | exact absurd h161 (by omega)
                      | refine lv_iconst (v := nI 1) hx hb d_M_cost_169 (by decide) ?_
                        first | refine x_iadd hx hb d_M_cost_170 ?_ | refine lv_iadd hx hb d_M_cost_170 ?_
                        refine x_istore hx hb d_M_cost_171 hl (Nat.le_of_ble_eq_true rfl) (lh_k (i := 7) rfl (by first | exact lk_n | exact lk_i | exact lk_r | exact lk_q | exact lk_0)) (fun ls hl => ?_)
                        refine lv_goto hx hb d_M_cost_173 rfl ?_
                        first | exact ih _ _ true H locs ls (by omega) (by omega) hw (lh_drop 9 hl) (hT2.symm.trans hT) | exact ih _ _ false H locs ls (by omega) (by omega) hw (lh_drop 9 hl) (hT2.symm.trans hT)
                  · first
                      | exact absurd h161 (by omega)
                      | refine x_iload hx hb d_M_cost_164 hl rfl ?_
                        refine lv_goto hx hb d_M_cost_166 rfl ?_
                        first | refine x_iadd hx hb d_M_cost_170 ?_ | refine lv_iadd hx hb d_M_cost_170 ?_
                        refine x_istore hx hb d_M_cost_171 hl (Nat.le_of_ble_eq_true rfl) (lh_k (i := 7) rfl (by first | exact lk_n | exact lk_i | exact lk_r | exact lk_q | exact lk_0)) (fun ls hl => ?_)
                        refine lv_goto hx hb d_M_cost_173 rfl ?_
                        first | exact ih _ _ true H locs ls (by omega) (by omega) hw (lh_drop 9 hl) (hT2.symm.trans hT) | exact ih _ _ false H locs ls (by omega) (by omega) hw (lh_drop 9 hl) (hT2.symm.trans hT)
            · first
                | exact absurd h146 (by omega)
                | refine lv_iconst (v := nI 1) hx hb d_M_cost_149 (by decide) ?_
                  refine lv_goto hx hb d_M_cost_150 rfl ?_
                  refine x_istore hx hb d_M_cost_154 hl (Nat.le_of_ble_eq_true rfl) (lh_k (i := 6) rfl (by first | exact lk_n | exact lk_i | exact lk_r | exact lk_q | exact lk_0)) (fun ls hl => ?_)
                  refine x_iload hx hb d_M_cost_156 hl rfl ?_
                  refine x_iload hx hb d_M_cost_158 hl rfl ?_
                  refine lv_iconst (v := nI 3) hx hb d_M_cost_160 (by decide) ?_
                  refine x_icmp_lt hx hb d_M_cost_161 rfl (by omega) (by omega) (fun h161 => ?_) (fun h161 => ?_)
                  · first
                      | exact absurd h161 (by omega)
                      | refine lv_iconst (v := nI 1) hx hb d_M_cost_169 (by decide) ?_
                        first | refine x_iadd hx hb d_M_cost_170 ?_ | refine lv_iadd hx hb d_M_cost_170 ?_
                        refine x_istore hx hb d_M_cost_171 hl (Nat.le_of_ble_eq_true rfl) (lh_k (i := 7) rfl (by first | exact lk_n | exact lk_i | exact lk_r | exact lk_q | exact lk_0)) (fun ls hl => ?_)
                        refine lv_goto hx hb d_M_cost_173 rfl ?_
                        first | exact ih _ _ true H locs ls (by omega) (by omega) hw (lh_drop 9 hl) (hT2.symm.trans hT) | exact ih _ _ false H locs ls (by omega) (by omega) hw (lh_drop 9 hl) (hT2.symm.trans hT)
                  · first
                      | exact absurd h161 (by omega)
                      | refine x_iload hx hb d_M_cost_164 hl rfl ?_
                        refine lv_goto hx hb d_M_cost_166 rfl ?_
                        first | refine x_iadd hx hb d_M_cost_170 ?_ | refine lv_iadd hx hb d_M_cost_170 ?_
                        refine x_istore hx hb d_M_cost_171 hl (Nat.le_of_ble_eq_true rfl) (lh_k (i := 7) rfl (by first | exact lk_n | exact lk_i | exact lk_r | exact lk_q | exact lk_0)) (fun ls hl => ?_)
                        refine lv_goto hx hb d_M_cost_173 rfl ?_
                        first | exact ih _ _ true H locs ls (by omega) (by omega) hw (lh_drop 9 hl) (hT2.symm.trans hT) | exact ih _ _ false H locs ls (by omega) (by omega) hw (lh_drop 9 hl) (hT2.symm.trans hT)
        · have hT2 := csf_1 (X := σ 17 k) (Y := Y) (m := m0) (u := u) (T := T) (s := sg) h57 h123
          refine lv_iconst (v := nI 2) hx hb d_M_cost_126 (by decide) ?_
          refine lv_goto hx hb d_M_cost_127 rfl ?_
          first | refine x_iadd hx hb d_M_cost_140 ?_ | refine lv_iadd hx hb d_M_cost_140 ?_
          refine x_istore hx hb d_M_cost_141 hl (Nat.le_of_ble_eq_true rfl) (lh_k (i := 5) rfl (by first | exact lk_n | exact lk_i | exact lk_r | exact lk_q | exact lk_0)) (fun ls hl => ?_)
          refine x_iload hx hb d_M_cost_143 hl rfl ?_
          refine lv_iconst (v := nI 3) hx hb d_M_cost_145 (by decide) ?_
          refine x_icmp_ge hx hb d_M_cost_146 rfl (by omega) (by omega) (fun h146 => ?_) (fun h146 => ?_)
          · first
              | exact absurd h146 (by omega)
              | refine lv_iconst (v := nI 0) hx hb d_M_cost_153 (by decide) ?_
                refine x_istore hx hb d_M_cost_154 hl (Nat.le_of_ble_eq_true rfl) (lh_k (i := 6) rfl (by first | exact lk_n | exact lk_i | exact lk_r | exact lk_q | exact lk_0)) (fun ls hl => ?_)
                refine x_iload hx hb d_M_cost_156 hl rfl ?_
                refine x_iload hx hb d_M_cost_158 hl rfl ?_
                refine lv_iconst (v := nI 3) hx hb d_M_cost_160 (by decide) ?_
                refine x_icmp_lt hx hb d_M_cost_161 rfl (by omega) (by omega) (fun h161 => ?_) (fun h161 => ?_)
                · first
                    | exact absurd h161 (by omega)
                    | refine lv_iconst (v := nI 1) hx hb d_M_cost_169 (by decide) ?_
                      first | refine x_iadd hx hb d_M_cost_170 ?_ | refine lv_iadd hx hb d_M_cost_170 ?_
                      refine x_istore hx hb d_M_cost_171 hl (Nat.le_of_ble_eq_true rfl) (lh_k (i := 7) rfl (by first | exact lk_n | exact lk_i | exact lk_r | exact lk_q | exact lk_0)) (fun ls hl => ?_)
                      refine lv_goto hx hb d_M_cost_173 rfl ?_
                      first | exact ih _ _ true H locs ls (by omega) (by omega) hw (lh_drop 9 hl) (hT2.symm.trans hT) | exact ih _ _ false H locs ls (by omega) (by omega) hw (lh_drop 9 hl) (hT2.symm.trans hT)
                · first
                    | exact absurd h161 (by omega)
                    | refine x_iload hx hb d_M_cost_164 hl rfl ?_
                      refine lv_goto hx hb d_M_cost_166 rfl ?_
                      first | refine x_iadd hx hb d_M_cost_170 ?_ | refine lv_iadd hx hb d_M_cost_170 ?_
                      refine x_istore hx hb d_M_cost_171 hl (Nat.le_of_ble_eq_true rfl) (lh_k (i := 7) rfl (by first | exact lk_n | exact lk_i | exact lk_r | exact lk_q | exact lk_0)) (fun ls hl => ?_)
                      refine lv_goto hx hb d_M_cost_173 rfl ?_
                      first | exact ih _ _ true H locs ls (by omega) (by omega) hw (lh_drop 9 hl) (hT2.symm.trans hT) | exact ih _ _ false H locs ls (by omega) (by omega) hw (lh_drop 9 hl) (hT2.symm.trans hT)
          · first
              | exact absurd h146 (by omega)
              | refine lv_iconst (v := nI 1) hx hb d_M_cost_149 (by decide) ?_
                refine lv_goto hx hb d_M_cost_150 rfl ?_
                refine x_istore hx hb d_M_cost_154 hl (Nat.le_of_ble_eq_true rfl) (lh_k (i := 6) rfl (by first | exact lk_n | exact lk_i | exact lk_r | exact lk_q | exact lk_0)) (fun ls hl => ?_)
                refine x_iload hx hb d_M_cost_156 hl rfl ?_
                refine x_iload hx hb d_M_cost_158 hl rfl ?_
                refine lv_iconst (v := nI 3) hx hb d_M_cost_160 (by decide) ?_
                refine x_icmp_lt hx hb d_M_cost_161 rfl (by omega) (by omega) (fun h161 => ?_) (fun h161 => ?_)
                · first
                    | exact absurd h161 (by omega)
                    | refine lv_iconst (v := nI 1) hx hb d_M_cost_169 (by decide) ?_
                      first | refine x_iadd hx hb d_M_cost_170 ?_ | refine lv_iadd hx hb d_M_cost_170 ?_
                      refine x_istore hx hb d_M_cost_171 hl (Nat.le_of_ble_eq_true rfl) (lh_k (i := 7) rfl (by first | exact lk_n | exact lk_i | exact lk_r | exact lk_q | exact lk_0)) (fun ls hl => ?_)
                      refine lv_goto hx hb d_M_cost_173 rfl ?_
                      first | exact ih _ _ true H locs ls (by omega) (by omega) hw (lh_drop 9 hl) (hT2.symm.trans hT) | exact ih _ _ false H locs ls (by omega) (by omega) hw (lh_drop 9 hl) (hT2.symm.trans hT)
                · first
                    | exact absurd h161 (by omega)
                    | refine x_iload hx hb d_M_cost_164 hl rfl ?_
                      refine lv_goto hx hb d_M_cost_166 rfl ?_
                      first | refine x_iadd hx hb d_M_cost_170 ?_ | refine lv_iadd hx hb d_M_cost_170 ?_
                      refine x_istore hx hb d_M_cost_171 hl (Nat.le_of_ble_eq_true rfl) (lh_k (i := 7) rfl (by first | exact lk_n | exact lk_i | exact lk_r | exact lk_q | exact lk_0)) (fun ls hl => ?_)
                      refine lv_goto hx hb d_M_cost_173 rfl ?_
                      first | exact ih _ _ true H locs ls (by omega) (by omega) hw (lh_drop 9 hl) (hT2.symm.trans hT) | exact ih _ _ false H locs ls (by omega) (by omega) hw (lh_drop 9 hl) (hT2.symm.trans hT)
  exact loopO 13 0 0 false _ _ _ (by omega) (by omega) hw hl rfl
