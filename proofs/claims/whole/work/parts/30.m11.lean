theorem d_M_merge_0 : decode prog_10_method_25_code 0 = .ok (.iconst 1, 1) := by decide +kernel
theorem d_M_merge_1 : decode prog_10_method_25_code 1 = .ok (.istore_n 3, 1) := by decide +kernel
theorem d_M_merge_2 : decode prog_10_method_25_code 2 = .ok (.iload_n 3, 1) := by decide +kernel
theorem d_M_merge_3 : decode prog_10_method_25_code 3 = .ok (.iconst 5, 1) := by decide +kernel
theorem d_M_merge_4 : decode prog_10_method_25_code 4 = .ok (.if_icmp .ge 150, 3) := by decide +kernel
theorem d_M_merge_7 : decode prog_10_method_25_code 7 = .ok (.aload_n 0, 1) := by decide +kernel
theorem d_M_merge_8 : decode prog_10_method_25_code 8 = .ok (.iload_n 1, 1) := by decide +kernel
theorem d_M_merge_9 : decode prog_10_method_25_code 9 = .ok (.iload_n 3, 1) := by decide +kernel
theorem d_M_merge_10 : decode prog_10_method_25_code 10 = .ok (.invokevirtual 127, 3) := by decide +kernel
theorem d_M_merge_13 : decode prog_10_method_25_code 13 = .ok (.istore 4, 2) := by decide +kernel
theorem d_M_merge_15 : decode prog_10_method_25_code 15 = .ok (.iload 4, 2) := by decide +kernel
theorem d_M_merge_17 : decode prog_10_method_25_code 17 = .ok (.iconst 3, 1) := by decide +kernel
theorem d_M_merge_18 : decode prog_10_method_25_code 18 = .ok (.if_icmp .ne 5, 3) := by decide +kernel
theorem d_M_merge_21 : decode prog_10_method_25_code 21 = .ok (.iload_n 3, 1) := by decide +kernel
theorem d_M_merge_22 : decode prog_10_method_25_code 22 = .ok (.ireturn, 1) := by decide +kernel
theorem d_M_merge_23 : decode prog_10_method_25_code 23 = .ok (.aload_n 0, 1) := by decide +kernel
theorem d_M_merge_24 : decode prog_10_method_25_code 24 = .ok (.iload_n 1, 1) := by decide +kernel
theorem d_M_merge_25 : decode prog_10_method_25_code 25 = .ok (.iload_n 3, 1) := by decide +kernel
theorem d_M_merge_26 : decode prog_10_method_25_code 26 = .ok (.iload 4, 2) := by decide +kernel
theorem d_M_merge_28 : decode prog_10_method_25_code 28 = .ok (.iload_n 2, 1) := by decide +kernel
theorem d_M_merge_29 : decode prog_10_method_25_code 29 = .ok (.invokevirtual 130, 3) := by decide +kernel
theorem d_M_merge_32 : decode prog_10_method_25_code 32 = .ok (.iconst 1, 1) := by decide +kernel
theorem d_M_merge_33 : decode prog_10_method_25_code 33 = .ok (.istore 5, 2) := by decide +kernel
theorem d_M_merge_35 : decode prog_10_method_25_code 35 = .ok (.iload 5, 2) := by decide +kernel
theorem d_M_merge_37 : decode prog_10_method_25_code 37 = .ok (.iconst 5, 1) := by decide +kernel
theorem d_M_merge_38 : decode prog_10_method_25_code 38 = .ok (.if_icmp .ge 110, 3) := by decide +kernel
theorem d_M_merge_41 : decode prog_10_method_25_code 41 = .ok (.iload 4, 2) := by decide +kernel
theorem d_M_merge_43 : decode prog_10_method_25_code 43 = .ok (.iconst 2, 1) := by decide +kernel
theorem d_M_merge_44 : decode prog_10_method_25_code 44 = .ok (.if_icmp .ne 104, 3) := by decide +kernel
theorem d_M_merge_47 : decode prog_10_method_25_code 47 = .ok (.iload_n 3, 1) := by decide +kernel
theorem d_M_merge_48 : decode prog_10_method_25_code 48 = .ok (.iconst 5, 1) := by decide +kernel
theorem d_M_merge_49 : decode prog_10_method_25_code 49 = .ok (.iload 5, 2) := by decide +kernel
theorem d_M_merge_51 : decode prog_10_method_25_code 51 = .ok (.imul, 1) := by decide +kernel
theorem d_M_merge_52 : decode prog_10_method_25_code 52 = .ok (.iadd, 1) := by decide +kernel
theorem d_M_merge_53 : decode prog_10_method_25_code 53 = .ok (.istore 6, 2) := by decide +kernel
theorem d_M_merge_55 : decode prog_10_method_25_code 55 = .ok (.aload_n 0, 1) := by decide +kernel
theorem d_M_merge_56 : decode prog_10_method_25_code 56 = .ok (.iload_n 1, 1) := by decide +kernel
theorem d_M_merge_57 : decode prog_10_method_25_code 57 = .ok (.iload 6, 2) := by decide +kernel
theorem d_M_merge_59 : decode prog_10_method_25_code 59 = .ok (.invokevirtual 127, 3) := by decide +kernel
theorem d_M_merge_62 : decode prog_10_method_25_code 62 = .ok (.istore 7, 2) := by decide +kernel
theorem d_M_merge_64 : decode prog_10_method_25_code 64 = .ok (.iload 7, 2) := by decide +kernel
theorem d_M_merge_66 : decode prog_10_method_25_code 66 = .ok (.iconst 3, 1) := by decide +kernel
theorem d_M_merge_67 : decode prog_10_method_25_code 67 = .ok (.if_icmp .ne 6, 3) := by decide +kernel
theorem d_M_merge_70 : decode prog_10_method_25_code 70 = .ok (.iload 6, 2) := by decide +kernel
theorem d_M_merge_72 : decode prog_10_method_25_code 72 = .ok (.ireturn, 1) := by decide +kernel
theorem d_M_merge_73 : decode prog_10_method_25_code 73 = .ok (.aload_n 0, 1) := by decide +kernel
theorem d_M_merge_74 : decode prog_10_method_25_code 74 = .ok (.iload_n 1, 1) := by decide +kernel
theorem d_M_merge_75 : decode prog_10_method_25_code 75 = .ok (.iload 6, 2) := by decide +kernel
theorem d_M_merge_77 : decode prog_10_method_25_code 77 = .ok (.iload 7, 2) := by decide +kernel
theorem d_M_merge_79 : decode prog_10_method_25_code 79 = .ok (.iload_n 2, 1) := by decide +kernel
theorem d_M_merge_80 : decode prog_10_method_25_code 80 = .ok (.invokevirtual 130, 3) := by decide +kernel
theorem d_M_merge_83 : decode prog_10_method_25_code 83 = .ok (.iconst 1, 1) := by decide +kernel
theorem d_M_merge_84 : decode prog_10_method_25_code 84 = .ok (.istore 8, 2) := by decide +kernel
theorem d_M_merge_86 : decode prog_10_method_25_code 86 = .ok (.iload 8, 2) := by decide +kernel
theorem d_M_merge_88 : decode prog_10_method_25_code 88 = .ok (.iconst 5, 1) := by decide +kernel
theorem d_M_merge_89 : decode prog_10_method_25_code 89 = .ok (.if_icmp .ge 53, 3) := by decide +kernel
theorem d_M_merge_92 : decode prog_10_method_25_code 92 = .ok (.iload 7, 2) := by decide +kernel
theorem d_M_merge_94 : decode prog_10_method_25_code 94 = .ok (.iconst 2, 1) := by decide +kernel
theorem d_M_merge_95 : decode prog_10_method_25_code 95 = .ok (.if_icmp .ne 47, 3) := by decide +kernel
theorem d_M_merge_98 : decode prog_10_method_25_code 98 = .ok (.iload 6, 2) := by decide +kernel
theorem d_M_merge_100 : decode prog_10_method_25_code 100 = .ok (.bipush 25, 2) := by decide +kernel
theorem d_M_merge_102 : decode prog_10_method_25_code 102 = .ok (.iload 8, 2) := by decide +kernel
theorem d_M_merge_104 : decode prog_10_method_25_code 104 = .ok (.imul, 1) := by decide +kernel
theorem d_M_merge_105 : decode prog_10_method_25_code 105 = .ok (.iadd, 1) := by decide +kernel
theorem d_M_merge_106 : decode prog_10_method_25_code 106 = .ok (.istore 9, 2) := by decide +kernel
theorem d_M_merge_108 : decode prog_10_method_25_code 108 = .ok (.aload_n 0, 1) := by decide +kernel
theorem d_M_merge_109 : decode prog_10_method_25_code 109 = .ok (.iload_n 1, 1) := by decide +kernel
theorem d_M_merge_110 : decode prog_10_method_25_code 110 = .ok (.iload 9, 2) := by decide +kernel
theorem d_M_merge_112 : decode prog_10_method_25_code 112 = .ok (.invokevirtual 127, 3) := by decide +kernel
theorem d_M_merge_115 : decode prog_10_method_25_code 115 = .ok (.istore 10, 2) := by decide +kernel
theorem d_M_merge_117 : decode prog_10_method_25_code 117 = .ok (.iload 10, 2) := by decide +kernel
theorem d_M_merge_119 : decode prog_10_method_25_code 119 = .ok (.iconst 3, 1) := by decide +kernel
theorem d_M_merge_120 : decode prog_10_method_25_code 120 = .ok (.if_icmp .ne 6, 3) := by decide +kernel
theorem d_M_merge_123 : decode prog_10_method_25_code 123 = .ok (.iload 9, 2) := by decide +kernel
theorem d_M_merge_125 : decode prog_10_method_25_code 125 = .ok (.ireturn, 1) := by decide +kernel
theorem d_M_merge_126 : decode prog_10_method_25_code 126 = .ok (.aload_n 0, 1) := by decide +kernel
theorem d_M_merge_127 : decode prog_10_method_25_code 127 = .ok (.iload_n 1, 1) := by decide +kernel
theorem d_M_merge_128 : decode prog_10_method_25_code 128 = .ok (.iload 9, 2) := by decide +kernel
theorem d_M_merge_130 : decode prog_10_method_25_code 130 = .ok (.iload 10, 2) := by decide +kernel
theorem d_M_merge_132 : decode prog_10_method_25_code 132 = .ok (.iload_n 2, 1) := by decide +kernel
theorem d_M_merge_133 : decode prog_10_method_25_code 133 = .ok (.invokevirtual 130, 3) := by decide +kernel
theorem d_M_merge_136 : decode prog_10_method_25_code 136 = .ok (.iinc 8 1, 3) := by decide +kernel
theorem d_M_merge_139 : decode prog_10_method_25_code 139 = .ok (.goto (-53), 3) := by decide +kernel
theorem d_M_merge_142 : decode prog_10_method_25_code 142 = .ok (.iinc 5 1, 3) := by decide +kernel
theorem d_M_merge_145 : decode prog_10_method_25_code 145 = .ok (.goto (-110), 3) := by decide +kernel
theorem d_M_merge_148 : decode prog_10_method_25_code 148 = .ok (.iinc 3 1, 3) := by decide +kernel
theorem d_M_merge_151 : decode prog_10_method_25_code 151 = .ok (.goto (-149), 3) := by decide +kernel
theorem d_M_merge_154 : decode prog_10_method_25_code 154 = .ok (.iconst (-1), 1) := by decide +kernel
theorem d_M_merge_155 : decode prog_10_method_25_code 155 = .ok (.ireturn, 1) := by decide +kernel
set_option maxHeartbeats 4000000 in
set_option maxRecDepth 100000 in
theorem c_M_merge {l : Launch} {E : Ev} {σ : SS} {ad : Nat → Nat} (hI : rfI ad) (hB : rB σ) {sz : Nat} {t : Nat} {d : Bool} (ht : t < 3) (hJ : MJ σ t 100) : MCi l E y_M_merge prog_10_method_25_code 11 (some .int) 4 88 0 0 [.ref (ad 0), .int (nI t), .int (bz d)] (rfM E σ ad) sz (fun r M' => r = mI (mg1 t d 4 σ).2 ∧ M' = rfM E (mg1 t d 4 σ).1 ad ∧ rB (mg1 t d 4 σ).1) := by
  refine mc_of R_M rfl [some (.ref (ad 0)), some (.int (nI t)), some (.int (bz d)), none, none, none, none, none, none, none, none] (by decide) (Nat.le_of_ble_eq_true rfl) rfl ?_
  intro p e R s m ag below meth c ls Q A X hAe hQ hR hsz hw hl
  rw [← hAe] at hQ
  obtain ⟨⟨hx, hb, hml, hown, hts⟩, hE, hA, hr, hlk, hnm⟩ := X
  have hK := hE.1
  refine lv_iconst (v := nI 1) hx hb d_M_merge_0 (by decide) ?_
  refine x_istore_n hx hb d_M_merge_1 hl (Nat.le_of_ble_eq_true rfl) (lh_k (i := 2) rfl (by first | exact lk_n | exact lk_i | exact lk_r | exact lk_q | exact lk_0)) (fun ls hl => ?_)
  obtain ⟨G, hGe⟩ : ∃ G, G = mg1 t d 4 σ := ⟨_, rfl⟩
  rw [← hGe] at hQ
  have loop3 : ∀ (n : Nat) (τ : SS) (k : Nat) (H : Heap) (locs : List Loc) (ls : Array Slot) (o w1 o2 p0 w2 : Nat), n ≤ 4 → k + n ≤ 30000 → MJ τ t k → mw E.1 vwCl A s.heap (rfM E τ ad) H locs → lh ls [some (.ref (ad 0)), some (.int (nI t)), some (.int (bz d)), some (.int (nI o)), some (.int (nI w1)), some (.int (nI o2)), some (.int (nI p0)), some (.int (nI w2)), some (.int (nI (5 - n))), none, none] → p0 < 25 → w2 = 2 → ((mg3 t p0 d n τ).2 ≠ 125 → mg3 t p0 d n τ = G) → ((mg3 t p0 d n τ).2 = 125 → ∀ (H : Heap) (locs : List Loc) (ls : Array Slot), mw E.1 vwCl A s.heap (rfM E (mg3 t p0 d n τ).1 ad) H locs → lh ls [some (.ref (ad 0)), some (.int (nI t)), some (.int (bz d)), some (.int (nI o)), some (.int (nI w1)), some (.int (nI o2)), some (.int (nI p0)), some (.int (nI w2)), none, none, none] → W p l e R s m ag below meth c H locs 0 0 Q (F0 m 142 ls [])) → W p l e R s m ag below meth c H locs 0 0 Q (F0 m 86 ls []) := by
    intro n
    induction n with
    | zero =>
      intro τ k H locs ls o w1 o2 p0 w2 hn hk9 hJ hw hl hp0 hw2 hC kk
      have hB := hJ.1
      refine x_iload hx hb d_M_merge_86 hl rfl ?_
      refine lv_iconst (v := nI 5) hx hb d_M_merge_88 (by decide) ?_
      refine x_icmp_ge hx hb d_M_merge_89 rfl (by omega) (by omega) (fun h89 => ?_) (fun h89 => ?_)
      · exact kk rfl H locs ls hw (lh_drop 8 hl)
      · exact absurd h89 (by omega)
    | succ n ih =>
      intro τ k H locs ls o w1 o2 p0 w2 hn hk9 hJ hw hl hp0 hw2 hC kk
      have hB := hJ.1
      refine x_iload hx hb d_M_merge_86 hl rfl ?_
      refine lv_iconst (v := nI 5) hx hb d_M_merge_88 (by decide) ?_
      refine x_icmp_ge hx hb d_M_merge_89 rfl (by omega) (by omega) (fun h89 => ?_) (fun h89 => ?_)
      · exact absurd h89 (by omega)
      · refine x_iload hx hb d_M_merge_92 hl rfl ?_
        refine lv_iconst (v := nI 2) hx hb d_M_merge_94 (by decide) ?_
        refine x_icmp_ne hx hb d_M_merge_95 rfl (by omega) (by omega) (fun h95 => ?_) (fun h95 => ?_)
        · exact absurd h95 (by omega)
        · refine x_iload hx hb d_M_merge_98 hl rfl ?_
          refine lv_bipush (v := nI 25) hx hb d_M_merge_100 (by decide) ?_
          refine x_iload hx hb d_M_merge_102 hl rfl ?_
          first | refine x_imul hx hb d_M_merge_104 ?_ | refine lv_imul hx hb d_M_merge_104 ?_
          first | refine x_iadd hx hb d_M_merge_105 ?_ | refine lv_iadd hx hb d_M_merge_105 ?_
          refine x_istore hx hb d_M_merge_106 hl (Nat.le_of_ble_eq_true rfl) (lh_k (i := 8) rfl (by first | exact lk_n | exact lk_i | exact lk_r | exact lk_q | exact lk_0)) (fun ls hl => ?_)
          first | refine x_aload_n hx hb d_M_merge_108 hl rfl ?_ | refine x_aload_nQ hx hb d_M_merge_108 hl rfl ?_
          refine x_iload_n hx hb d_M_merge_109 hl rfl ?_
          refine x_iload hx hb d_M_merge_110 hl rfl ?_
          refine m_calli (k_V ⟨hx, hb, hml, hown, hts⟩ hE hA hw (c_M_way hI hB (by omega) (by omega) hJ.2.2.2.1 hJ.2.2.1 hJ.2.1) (ci_M).1 rfl (rf_at hI 0 (by decide) rfl) (wm3 215 rfl rfl) (wm3 217 rfl rfl) (wmp2 12 rfl) (wm1 9 rfl rfl) (wm3 218 rfl rfl) rfl rfl ar_M_way ⟨Nat.le_trans (Nat.le_of_ble_eq_true rfl) hR.1, Nat.le_trans (Nat.le_of_ble_eq_true rfl) hR.2.1⟩ rfl hl.1 rfl (Nat.le_of_ble_eq_true rfl) d_M_merge_112 ⟨Nat.le_trans (Nat.le_of_ble_eq_true rfl) hR.2.2.1, Nat.le_trans (Nat.le_of_ble_eq_true rfl) hR.2.2.2⟩) hw (mfr_in hw hA) (fun r112 M112 H locs hP112 hw => ?_)
          obtain ⟨rfl, hM112⟩ := hP112
          rw [hM112] at hw
          refine x_istore hx hb d_M_merge_115 hl (Nat.le_of_ble_eq_true rfl) (lh_k (i := 9) rfl (by first | exact lk_n | exact lk_i | exact lk_r | exact lk_q | exact lk_0)) (fun ls hl => ?_)
          have hw9 := wy_le τ t (p0 + 25 * (5 - (n + 1)))
          refine x_iload hx hb d_M_merge_117 hl rfl ?_
          refine lv_iconst (v := nI 3) hx hb d_M_merge_119 (by decide) ?_
          refine x_icmp_ne hx hb d_M_merge_120 rfl (by omega) (by omega) (fun h120 => ?_) (fun h120 => ?_)
          · first | refine x_aload_n hx hb d_M_merge_126 hl rfl ?_ | refine x_aload_nQ hx hb d_M_merge_126 hl rfl ?_
            refine x_iload_n hx hb d_M_merge_127 hl rfl ?_
            refine x_iload hx hb d_M_merge_128 hl rfl ?_
            refine x_iload hx hb d_M_merge_130 hl rfl ?_
            refine x_iload_n hx hb d_M_merge_132 hl rfl ?_
            refine m_callv (k_V ⟨hx, hb, hml, hown, hts⟩ hE hA hw (c_M_settle hI hB (by omega) (by omega) (by omega) (by have := hJ.2.2.2.2 (τ 0 (125 * τ 1 0 + (p0 + 25 * (5 - (n + 1))))); omega) hJ.2.2.1 hJ.2.1) (ci_M).1 rfl (rf_at hI 0 (by decide) rfl) (wm3 219 rfl rfl) (wm3 221 rfl rfl) (wmp2 13 rfl) (wm1 9 rfl rfl) (wm3 222 rfl rfl) rfl rfl ar_M_settle ⟨Nat.le_trans (Nat.le_of_ble_eq_true rfl) hR.1, Nat.le_trans (Nat.le_of_ble_eq_true rfl) hR.2.1⟩ rfl hl.1 rfl (Nat.le_of_ble_eq_true rfl) d_M_merge_133 ⟨Nat.le_trans (Nat.le_of_ble_eq_true rfl) hR.2.2.1, Nat.le_trans (Nat.le_of_ble_eq_true rfl) hR.2.2.2⟩) hw (mfr_in hw hA) (fun M133 H locs hP133 hw => ?_)
            obtain ⟨hM133, hB⟩ := hP133
            rw [hM133] at hw
            refine x_iincN hx hb d_M_merge_136 hl rfl (lh_k (i := 7) rfl (by first | exact lk_n | exact lk_i | exact lk_r | exact lk_q | exact lk_0)) (fun ls hl => ?_)
            refine lv_goto hx hb d_M_merge_139 rfl ?_
            rw [mg3_g h120] at hC kk
            rw [show 5 - (n + 1) + 1 = 5 - n by omega] at hl
            exact ih _ (k + 1) H locs ls o w1 o2 p0 w2 (by omega) (by omega) (MJ_stl (by omega) hJ) hw (lh_drop 9 (lh_drop 10 hl)) hp0 hw2 hC kk
          · have hG := hC (by rw [mg3_c h120]; show p0 + 25 * (5 - (n + 1)) ≠ 125; omega)
            rw [mg3_c h120] at hG
            refine x_iload hx hb d_M_merge_123 hl rfl ?_
            exact x_reti hQ hx hb hr hlk rfl hw (by omega) (by omega) d_M_merge_125 ((by rw [← hG]; exact ⟨(mI_n (by omega)).symm, rfl, hB⟩))
  have loop2 : ∀ (n : Nat) (τ : SS) (k : Nat) (H : Heap) (locs : List Loc) (ls : Array Slot) (o w1 : Nat), n ≤ 4 → k + 5 * n ≤ 29000 → MJ τ t k → mw E.1 vwCl A s.heap (rfM E τ ad) H locs → lh ls [some (.ref (ad 0)), some (.int (nI t)), some (.int (bz d)), some (.int (nI o)), some (.int (nI w1)), some (.int (nI (5 - n))), none, none, none, none, none] → o < 5 → w1 = 2 → ((mg2 t o d n τ).2 ≠ 125 → mg2 t o d n τ = G) → ((mg2 t o d n τ).2 = 125 → ∀ (H : Heap) (locs : List Loc) (ls : Array Slot), mw E.1 vwCl A s.heap (rfM E (mg2 t o d n τ).1 ad) H locs → lh ls [some (.ref (ad 0)), some (.int (nI t)), some (.int (bz d)), some (.int (nI o)), some (.int (nI w1)), none, none, none, none, none, none] → W p l e R s m ag below meth c H locs 0 0 Q (F0 m 148 ls [])) → W p l e R s m ag below meth c H locs 0 0 Q (F0 m 35 ls []) := by
    intro n
    induction n with
    | zero =>
      intro τ k H locs ls o w1 hn hk9 hJ hw hl ho hw1 hC kk
      have hB := hJ.1
      refine x_iload hx hb d_M_merge_35 hl rfl ?_
      refine lv_iconst (v := nI 5) hx hb d_M_merge_37 (by decide) ?_
      refine x_icmp_ge hx hb d_M_merge_38 rfl (by omega) (by omega) (fun h38 => ?_) (fun h38 => ?_)
      · exact kk rfl H locs ls hw (lh_drop 5 hl)
      · exact absurd h38 (by omega)
    | succ n ih =>
      intro τ k H locs ls o w1 hn hk9 hJ hw hl ho hw1 hC kk
      have hB := hJ.1
      refine x_iload hx hb d_M_merge_35 hl rfl ?_
      refine lv_iconst (v := nI 5) hx hb d_M_merge_37 (by decide) ?_
      refine x_icmp_ge hx hb d_M_merge_38 rfl (by omega) (by omega) (fun h38 => ?_) (fun h38 => ?_)
      · exact absurd h38 (by omega)
      · refine x_iload hx hb d_M_merge_41 hl rfl ?_
        refine lv_iconst (v := nI 2) hx hb d_M_merge_43 (by decide) ?_
        refine x_icmp_ne hx hb d_M_merge_44 rfl (by omega) (by omega) (fun h44 => ?_) (fun h44 => ?_)
        · exact absurd h44 (by omega)
        · refine x_iload_n hx hb d_M_merge_47 hl rfl ?_
          refine lv_iconst (v := nI 5) hx hb d_M_merge_48 (by decide) ?_
          refine x_iload hx hb d_M_merge_49 hl rfl ?_
          first | refine x_imul hx hb d_M_merge_51 ?_ | refine lv_imul hx hb d_M_merge_51 ?_
          first | refine x_iadd hx hb d_M_merge_52 ?_ | refine lv_iadd hx hb d_M_merge_52 ?_
          refine x_istore hx hb d_M_merge_53 hl (Nat.le_of_ble_eq_true rfl) (lh_k (i := 5) rfl (by first | exact lk_n | exact lk_i | exact lk_r | exact lk_q | exact lk_0)) (fun ls hl => ?_)
          first | refine x_aload_n hx hb d_M_merge_55 hl rfl ?_ | refine x_aload_nQ hx hb d_M_merge_55 hl rfl ?_
          refine x_iload_n hx hb d_M_merge_56 hl rfl ?_
          refine x_iload hx hb d_M_merge_57 hl rfl ?_
          refine m_calli (k_V ⟨hx, hb, hml, hown, hts⟩ hE hA hw (c_M_way hI hB (by omega) (by omega) hJ.2.2.2.1 hJ.2.2.1 hJ.2.1) (ci_M).1 rfl (rf_at hI 0 (by decide) rfl) (wm3 215 rfl rfl) (wm3 217 rfl rfl) (wmp2 12 rfl) (wm1 9 rfl rfl) (wm3 218 rfl rfl) rfl rfl ar_M_way ⟨Nat.le_trans (Nat.le_of_ble_eq_true rfl) hR.1, Nat.le_trans (Nat.le_of_ble_eq_true rfl) hR.2.1⟩ rfl hl.1 rfl (Nat.le_of_ble_eq_true rfl) d_M_merge_59 ⟨Nat.le_trans (Nat.le_of_ble_eq_true rfl) hR.2.2.1, Nat.le_trans (Nat.le_of_ble_eq_true rfl) hR.2.2.2⟩) hw (mfr_in hw hA) (fun r59 M59 H locs hP59 hw => ?_)
          obtain ⟨rfl, hM59⟩ := hP59
          rw [hM59] at hw
          refine x_istore hx hb d_M_merge_62 hl (Nat.le_of_ble_eq_true rfl) (lh_k (i := 6) rfl (by first | exact lk_n | exact lk_i | exact lk_r | exact lk_q | exact lk_0)) (fun ls hl => ?_)
          have hw9 := wy_le τ t (o + 5 * (5 - (n + 1)))
          refine x_iload hx hb d_M_merge_64 hl rfl ?_
          refine lv_iconst (v := nI 3) hx hb d_M_merge_66 (by decide) ?_
          refine x_icmp_ne hx hb d_M_merge_67 rfl (by omega) (by omega) (fun h67 => ?_) (fun h67 => ?_)
          · first | refine x_aload_n hx hb d_M_merge_73 hl rfl ?_ | refine x_aload_nQ hx hb d_M_merge_73 hl rfl ?_
            refine x_iload_n hx hb d_M_merge_74 hl rfl ?_
            refine x_iload hx hb d_M_merge_75 hl rfl ?_
            refine x_iload hx hb d_M_merge_77 hl rfl ?_
            refine x_iload_n hx hb d_M_merge_79 hl rfl ?_
            refine m_callv (k_V ⟨hx, hb, hml, hown, hts⟩ hE hA hw (c_M_settle hI hB (by omega) (by omega) (by omega) (by have := hJ.2.2.2.2 (τ 0 (125 * τ 1 0 + (o + 5 * (5 - (n + 1))))); omega) hJ.2.2.1 hJ.2.1) (ci_M).1 rfl (rf_at hI 0 (by decide) rfl) (wm3 219 rfl rfl) (wm3 221 rfl rfl) (wmp2 13 rfl) (wm1 9 rfl rfl) (wm3 222 rfl rfl) rfl rfl ar_M_settle ⟨Nat.le_trans (Nat.le_of_ble_eq_true rfl) hR.1, Nat.le_trans (Nat.le_of_ble_eq_true rfl) hR.2.1⟩ rfl hl.1 rfl (Nat.le_of_ble_eq_true rfl) d_M_merge_80 ⟨Nat.le_trans (Nat.le_of_ble_eq_true rfl) hR.2.2.1, Nat.le_trans (Nat.le_of_ble_eq_true rfl) hR.2.2.2⟩) hw (mfr_in hw hA) (fun M80 H locs hP80 hw => ?_)
            obtain ⟨hM80, hB⟩ := hP80
            rw [hM80] at hw
            refine lv_iconst (v := nI 1) hx hb d_M_merge_83 (by decide) ?_
            refine x_istore hx hb d_M_merge_84 hl (Nat.le_of_ble_eq_true rfl) (lh_k (i := 7) rfl (by first | exact lk_n | exact lk_i | exact lk_r | exact lk_q | exact lk_0)) (fun ls hl => ?_)
            by_cases h2 : wy τ t (o + 5 * (5 - (n + 1))) = 2
            · have hX := md3_2 (d := d) h2
              refine loop3 4 _ (k + 1) H locs ls o w1 _ (o + 5 * (5 - (n + 1))) _ (by omega) (by omega) (MJ_stl (by omega) hJ) hw hl (by omega) h2 (fun z => ?_) (fun z H locs ls hw hl => ?_)
              · rw [← hX] at z ⊢
                have hC2 := hC (by rw [mg2_d h67 z]; exact z)
                rw [mg2_d h67 z] at hC2
                exact hC2
              · rw [← hX] at z hw
                rw [mg2_g h67 z] at hC kk
                refine x_iincN hx hb d_M_merge_142 hl rfl (lh_k (i := 4) rfl (by first | exact lk_n | exact lk_i | exact lk_r | exact lk_q | exact lk_0)) (fun ls hl => ?_)
                refine lv_goto hx hb d_M_merge_145 rfl ?_
                rw [show 5 - (n + 1) + 1 = 5 - n by omega] at hl
                exact ih _ (k + 5) H locs ls o w1 (by omega) (by omega) (MJ_d3 (by omega) hJ) hw (lh_drop 6 (lh_drop 7 (lh_drop 8 (lh_drop 9 (lh_drop 10 hl))))) ho hw1 hC kk
            · refine x_iload hx hb d_M_merge_86 hl rfl ?_
              refine lv_iconst (v := nI 5) hx hb d_M_merge_88 (by decide) ?_
              refine x_icmp_ge hx hb d_M_merge_89 rfl (by omega) (by omega) (fun h89 => ?_) (fun h89 => ?_)
              · exact absurd h89 (by omega)
              · refine x_iload hx hb d_M_merge_92 hl rfl ?_
                refine lv_iconst (v := nI 2) hx hb d_M_merge_94 (by decide) ?_
                refine x_icmp_ne hx hb d_M_merge_95 rfl (by omega) (by omega) (fun h95 => ?_) (fun h95 => ?_)
                · have hX := md3_n (d := d) h2
                  have hX2 : (md3 t (o + 5 * (5 - (n + 1))) d τ).2 = 125 := by rw [hX]
                  rw [mg2_g h67 hX2] at hC kk
                  have hw : mw E.1 vwCl A s.heap (rfM E (md3 t (o + 5 * (5 - (n + 1))) d τ).1 ad) H locs := by rw [hX]; exact hw
                  refine x_iincN hx hb d_M_merge_142 hl rfl (lh_k (i := 4) rfl (by first | exact lk_n | exact lk_i | exact lk_r | exact lk_q | exact lk_0)) (fun ls hl => ?_)
                  refine lv_goto hx hb d_M_merge_145 rfl ?_
                  rw [show 5 - (n + 1) + 1 = 5 - n by omega] at hl
                  exact ih _ (k + 5) H locs ls o w1 (by omega) (by omega) (MJ_d3 (by omega) hJ) hw (lh_drop 6 (lh_drop 7 (lh_drop 8 (lh_drop 9 (lh_drop 10 hl))))) ho hw1 hC kk
                · exact absurd h95 (by omega)
          · have hG := hC (by rw [mg2_c h67]; show o + 5 * (5 - (n + 1)) ≠ 125; omega)
            rw [mg2_c h67] at hG
            refine x_iload hx hb d_M_merge_70 hl rfl ?_
            exact x_reti hQ hx hb hr hlk rfl hw (by omega) (by omega) d_M_merge_72 ((by rw [← hG]; exact ⟨(mI_n (by omega)).symm, rfl, hB⟩))
  have loop1 : ∀ (n : Nat) (τ : SS) (k : Nat) (H : Heap) (locs : List Loc) (ls : Array Slot), n ≤ 4 → k + 21 * n ≤ 28000 → MJ τ t k → mw E.1 vwCl A s.heap (rfM E τ ad) H locs → lh ls [some (.ref (ad 0)), some (.int (nI t)), some (.int (bz d)), some (.int (nI (5 - n))), none, none, none, none, none, none, none] → mg1 t d n τ = G → W p l e R s m ag below meth c H locs 0 0 Q (F0 m 2 ls []) := by
    intro n
    induction n with
    | zero =>
      intro τ k H locs ls hn hk9 hJ hw hl hC
      have hB := hJ.1
      refine x_iload_n hx hb d_M_merge_2 hl rfl ?_
      refine lv_iconst (v := nI 5) hx hb d_M_merge_3 (by decide) ?_
      refine x_icmp_ge hx hb d_M_merge_4 rfl (by omega) (by omega) (fun h4 => ?_) (fun h4 => ?_)
      · refine lv_iconst (v := -1) hx hb d_M_merge_154 (by decide) ?_
        exact x_reti hQ hx hb hr hlk rfl hw (by omega) (by omega) d_M_merge_155 (by rw [← hC]; exact ⟨rfl, rfl, hB⟩)
      · exact absurd h4 (by omega)
    | succ n ih =>
      intro τ k H locs ls hn hk9 hJ hw hl hC
      have hB := hJ.1
      refine x_iload_n hx hb d_M_merge_2 hl rfl ?_
      refine lv_iconst (v := nI 5) hx hb d_M_merge_3 (by decide) ?_
      refine x_icmp_ge hx hb d_M_merge_4 rfl (by omega) (by omega) (fun h4 => ?_) (fun h4 => ?_)
      · exact absurd h4 (by omega)
      · first | refine x_aload_n hx hb d_M_merge_7 hl rfl ?_ | refine x_aload_nQ hx hb d_M_merge_7 hl rfl ?_
        refine x_iload_n hx hb d_M_merge_8 hl rfl ?_
        refine x_iload_n hx hb d_M_merge_9 hl rfl ?_
        refine m_calli (k_V ⟨hx, hb, hml, hown, hts⟩ hE hA hw (c_M_way hI hB (by omega) (by omega) hJ.2.2.2.1 hJ.2.2.1 hJ.2.1) (ci_M).1 rfl (rf_at hI 0 (by decide) rfl) (wm3 215 rfl rfl) (wm3 217 rfl rfl) (wmp2 12 rfl) (wm1 9 rfl rfl) (wm3 218 rfl rfl) rfl rfl ar_M_way ⟨Nat.le_trans (Nat.le_of_ble_eq_true rfl) hR.1, Nat.le_trans (Nat.le_of_ble_eq_true rfl) hR.2.1⟩ rfl hl.1 rfl (Nat.le_of_ble_eq_true rfl) d_M_merge_10 ⟨Nat.le_trans (Nat.le_of_ble_eq_true rfl) hR.2.2.1, Nat.le_trans (Nat.le_of_ble_eq_true rfl) hR.2.2.2⟩) hw (mfr_in hw hA) (fun r10 M10 H locs hP10 hw => ?_)
        obtain ⟨rfl, hM10⟩ := hP10
        rw [hM10] at hw
        refine x_istore hx hb d_M_merge_13 hl (Nat.le_of_ble_eq_true rfl) (lh_k (i := 3) rfl (by first | exact lk_n | exact lk_i | exact lk_r | exact lk_q | exact lk_0)) (fun ls hl => ?_)
        have hw9 := wy_le τ t (5 - (n + 1))
        refine x_iload hx hb d_M_merge_15 hl rfl ?_
        refine lv_iconst (v := nI 3) hx hb d_M_merge_17 (by decide) ?_
        refine x_icmp_ne hx hb d_M_merge_18 rfl (by omega) (by omega) (fun h18 => ?_) (fun h18 => ?_)
        · first | refine x_aload_n hx hb d_M_merge_23 hl rfl ?_ | refine x_aload_nQ hx hb d_M_merge_23 hl rfl ?_
          refine x_iload_n hx hb d_M_merge_24 hl rfl ?_
          refine x_iload_n hx hb d_M_merge_25 hl rfl ?_
          refine x_iload hx hb d_M_merge_26 hl rfl ?_
          refine x_iload_n hx hb d_M_merge_28 hl rfl ?_
          refine m_callv (k_V ⟨hx, hb, hml, hown, hts⟩ hE hA hw (c_M_settle hI hB (by omega) (by omega) (by omega) (by have := hJ.2.2.2.2 (τ 0 (125 * τ 1 0 + (5 - (n + 1)))); omega) hJ.2.2.1 hJ.2.1) (ci_M).1 rfl (rf_at hI 0 (by decide) rfl) (wm3 219 rfl rfl) (wm3 221 rfl rfl) (wmp2 13 rfl) (wm1 9 rfl rfl) (wm3 222 rfl rfl) rfl rfl ar_M_settle ⟨Nat.le_trans (Nat.le_of_ble_eq_true rfl) hR.1, Nat.le_trans (Nat.le_of_ble_eq_true rfl) hR.2.1⟩ rfl hl.1 rfl (Nat.le_of_ble_eq_true rfl) d_M_merge_29 ⟨Nat.le_trans (Nat.le_of_ble_eq_true rfl) hR.2.2.1, Nat.le_trans (Nat.le_of_ble_eq_true rfl) hR.2.2.2⟩) hw (mfr_in hw hA) (fun M29 H locs hP29 hw => ?_)
          obtain ⟨hM29, hB⟩ := hP29
          rw [hM29] at hw
          refine lv_iconst (v := nI 1) hx hb d_M_merge_32 (by decide) ?_
          refine x_istore hx hb d_M_merge_33 hl (Nat.le_of_ble_eq_true rfl) (lh_k (i := 4) rfl (by first | exact lk_n | exact lk_i | exact lk_r | exact lk_q | exact lk_0)) (fun ls hl => ?_)
          by_cases h2 : wy τ t (5 - (n + 1)) = 2
          · have hX := md2_2 (d := d) h2
            refine loop2 4 _ (k + 1) H locs ls (5 - (n + 1)) _ (by omega) (by omega) (MJ_stl (by omega) hJ) hw hl (by omega) h2 (fun z => ?_) (fun z H locs ls hw hl => ?_)
            · rw [← hX] at z ⊢
              rw [mg1_d h18 z] at hC
              exact hC
            · rw [← hX] at z hw
              rw [mg1_g h18 z] at hC
              refine x_iincN hx hb d_M_merge_148 hl rfl (lh_k (i := 2) rfl (by first | exact lk_n | exact lk_i | exact lk_r | exact lk_q | exact lk_0)) (fun ls hl => ?_)
              refine lv_goto hx hb d_M_merge_151 rfl ?_
              rw [show 5 - (n + 1) + 1 = 5 - n by omega] at hl
              exact ih _ (k + 21) H locs ls (by omega) (by omega) (MJ_d2 (by omega) hJ) hw (lh_drop 4 (lh_drop 5 (lh_drop 6 (lh_drop 7 (lh_drop 8 (lh_drop 9 (lh_drop 10 hl))))))) hC
          · refine x_iload hx hb d_M_merge_35 hl rfl ?_
            refine lv_iconst (v := nI 5) hx hb d_M_merge_37 (by decide) ?_
            refine x_icmp_ge hx hb d_M_merge_38 rfl (by omega) (by omega) (fun h38 => ?_) (fun h38 => ?_)
            · exact absurd h38 (by omega)
            · refine x_iload hx hb d_M_merge_41 hl rfl ?_
              refine lv_iconst (v := nI 2) hx hb d_M_merge_43 (by decide) ?_
              refine x_icmp_ne hx hb d_M_merge_44 rfl (by omega) (by omega) (fun h44 => ?_) (fun h44 => ?_)
              · have hX := md2_n (d := d) h2
                have hX2 : (md2 t (5 - (n + 1)) d τ).2 = 125 := by rw [hX]
                rw [mg1_g h18 hX2] at hC
                have hw : mw E.1 vwCl A s.heap (rfM E (md2 t (5 - (n + 1)) d τ).1 ad) H locs := by rw [hX]; exact hw
                refine x_iincN hx hb d_M_merge_148 hl rfl (lh_k (i := 2) rfl (by first | exact lk_n | exact lk_i | exact lk_r | exact lk_q | exact lk_0)) (fun ls hl => ?_)
                refine lv_goto hx hb d_M_merge_151 rfl ?_
                rw [show 5 - (n + 1) + 1 = 5 - n by omega] at hl
                exact ih _ (k + 21) H locs ls (by omega) (by omega) (MJ_d2 (by omega) hJ) hw (lh_drop 4 (lh_drop 5 (lh_drop 6 (lh_drop 7 (lh_drop 8 (lh_drop 9 (lh_drop 10 hl))))))) hC
              · exact absurd h44 (by omega)
        · rw [mg1_c h18] at hC
          have hG := hC
          refine x_iload_n hx hb d_M_merge_21 hl rfl ?_
          exact x_reti hQ hx hb hr hlk rfl hw (by omega) (by omega) d_M_merge_22 ((by rw [← hG]; exact ⟨(mI_n (by omega)).symm, rfl, hB⟩))
  exact loop1 4 σ 100 _ _ _ (by omega) (by omega) hJ hw hl hGe.symm
