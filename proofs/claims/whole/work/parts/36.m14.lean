theorem d_M_copy_0 : decode prog_10_method_19_code 0 = .ok (.aload_n 0, 1) := by decide +kernel
theorem d_M_copy_1 : decode prog_10_method_19_code 1 = .ok (.iload_n 1, 1) := by decide +kernel
theorem d_M_copy_2 : decode prog_10_method_19_code 2 = .ok (.iload 4, 2) := by decide +kernel
theorem d_M_copy_4 : decode prog_10_method_19_code 4 = .ok (.invokevirtual 105, 3) := by decide +kernel
theorem d_M_copy_7 : decode prog_10_method_19_code 7 = .ok (.ifCond .eq 24, 3) := by decide +kernel
theorem d_M_copy_10 : decode prog_10_method_19_code 10 = .ok (.iload_n 2, 1) := by decide +kernel
theorem d_M_copy_11 : decode prog_10_method_19_code 11 = .ok (.ifCond .lt 20, 3) := by decide +kernel
theorem d_M_copy_14 : decode prog_10_method_19_code 14 = .ok (.iload_n 2, 1) := by decide +kernel
theorem d_M_copy_15 : decode prog_10_method_19_code 15 = .ok (.aload_n 0, 1) := by decide +kernel
theorem d_M_copy_16 : decode prog_10_method_19_code 16 = .ok (.getfield 76, 3) := by decide +kernel
theorem d_M_copy_19 : decode prog_10_method_19_code 19 = .ok (.if_icmp .gt 12, 3) := by decide +kernel
theorem d_M_copy_22 : decode prog_10_method_19_code 22 = .ok (.aload_n 0, 1) := by decide +kernel
theorem d_M_copy_23 : decode prog_10_method_19_code 23 = .ok (.iload_n 2, 1) := by decide +kernel
theorem d_M_copy_24 : decode prog_10_method_19_code 24 = .ok (.iload_n 3, 1) := by decide +kernel
theorem d_M_copy_25 : decode prog_10_method_19_code 25 = .ok (.invokevirtual 87, 3) := by decide +kernel
theorem d_M_copy_28 : decode prog_10_method_19_code 28 = .ok (.ifCond .ne 5, 3) := by decide +kernel
theorem d_M_copy_31 : decode prog_10_method_19_code 31 = .ok (.iconst 0, 1) := by decide +kernel
theorem d_M_copy_32 : decode prog_10_method_19_code 32 = .ok (.ireturn, 1) := by decide +kernel
theorem d_M_copy_33 : decode prog_10_method_19_code 33 = .ok (.iconst 0, 1) := by decide +kernel
theorem d_M_copy_34 : decode prog_10_method_19_code 34 = .ok (.istore 5, 2) := by decide +kernel
theorem d_M_copy_36 : decode prog_10_method_19_code 36 = .ok (.iload 5, 2) := by decide +kernel
theorem d_M_copy_38 : decode prog_10_method_19_code 38 = .ok (.bipush 125, 2) := by decide +kernel
theorem d_M_copy_40 : decode prog_10_method_19_code 40 = .ok (.if_icmp .ge 41, 3) := by decide +kernel
theorem d_M_copy_43 : decode prog_10_method_19_code 43 = .ok (.aload_n 0, 1) := by decide +kernel
theorem d_M_copy_44 : decode prog_10_method_19_code 44 = .ok (.iload_n 2, 1) := by decide +kernel
theorem d_M_copy_45 : decode prog_10_method_19_code 45 = .ok (.iload 5, 2) := by decide +kernel
theorem d_M_copy_47 : decode prog_10_method_19_code 47 = .ok (.invokevirtual 87, 3) := by decide +kernel
theorem d_M_copy_50 : decode prog_10_method_19_code 50 = .ok (.ifCond .le 25, 3) := by decide +kernel
theorem d_M_copy_53 : decode prog_10_method_19_code 53 = .ok (.iload 5, 2) := by decide +kernel
theorem d_M_copy_55 : decode prog_10_method_19_code 55 = .ok (.iload_n 3, 1) := by decide +kernel
theorem d_M_copy_56 : decode prog_10_method_19_code 56 = .ok (.invokestatic 115, 3) := by decide +kernel
theorem d_M_copy_59 : decode prog_10_method_19_code 59 = .ok (.ifCond .eq 16, 3) := by decide +kernel
theorem d_M_copy_62 : decode prog_10_method_19_code 62 = .ok (.iload 5, 2) := by decide +kernel
theorem d_M_copy_64 : decode prog_10_method_19_code 64 = .ok (.iload_n 3, 1) := by decide +kernel
theorem d_M_copy_65 : decode prog_10_method_19_code 65 = .ok (.iload 4, 2) := by decide +kernel
theorem d_M_copy_67 : decode prog_10_method_19_code 67 = .ok (.invokestatic 118, 3) := by decide +kernel
theorem d_M_copy_70 : decode prog_10_method_19_code 70 = .ok (.ifCond .ge 5, 3) := by decide +kernel
theorem d_M_copy_73 : decode prog_10_method_19_code 73 = .ok (.iconst 0, 1) := by decide +kernel
theorem d_M_copy_74 : decode prog_10_method_19_code 74 = .ok (.ireturn, 1) := by decide +kernel
theorem d_M_copy_75 : decode prog_10_method_19_code 75 = .ok (.iinc 5 1, 3) := by decide +kernel
theorem d_M_copy_78 : decode prog_10_method_19_code 78 = .ok (.goto (-42), 3) := by decide +kernel
theorem d_M_copy_81 : decode prog_10_method_19_code 81 = .ok (.aload_n 0, 1) := by decide +kernel
theorem d_M_copy_82 : decode prog_10_method_19_code 82 = .ok (.iload_n 2, 1) := by decide +kernel
theorem d_M_copy_83 : decode prog_10_method_19_code 83 = .ok (.iload_n 3, 1) := by decide +kernel
theorem d_M_copy_84 : decode prog_10_method_19_code 84 = .ok (.invokevirtual 87, 3) := by decide +kernel
theorem d_M_copy_87 : decode prog_10_method_19_code 87 = .ok (.istore 5, 2) := by decide +kernel
theorem d_M_copy_89 : decode prog_10_method_19_code 89 = .ok (.aload_n 0, 1) := by decide +kernel
theorem d_M_copy_90 : decode prog_10_method_19_code 90 = .ok (.iload_n 1, 1) := by decide +kernel
theorem d_M_copy_91 : decode prog_10_method_19_code 91 = .ok (.aload_n 0, 1) := by decide +kernel
theorem d_M_copy_92 : decode prog_10_method_19_code 92 = .ok (.getfield 21, 3) := by decide +kernel
theorem d_M_copy_95 : decode prog_10_method_19_code 95 = .ok (.iload 5, 2) := by decide +kernel
theorem d_M_copy_97 : decode prog_10_method_19_code 97 = .ok (.baload, 1) := by decide +kernel
theorem d_M_copy_98 : decode prog_10_method_19_code 98 = .ok (.iload 5, 2) := by decide +kernel
theorem d_M_copy_100 : decode prog_10_method_19_code 100 = .ok (.invokevirtual 91, 3) := by decide +kernel
theorem d_M_copy_103 : decode prog_10_method_19_code 103 = .ok (.istore 6, 2) := by decide +kernel
theorem d_M_copy_105 : decode prog_10_method_19_code 105 = .ok (.aload_n 0, 1) := by decide +kernel
theorem d_M_copy_106 : decode prog_10_method_19_code 106 = .ok (.dup, 1) := by decide +kernel
theorem d_M_copy_107 : decode prog_10_method_19_code 107 = .ok (.getfield 109, 3) := by decide +kernel
theorem d_M_copy_110 : decode prog_10_method_19_code 110 = .ok (.iconst 1, 1) := by decide +kernel
theorem d_M_copy_111 : decode prog_10_method_19_code 111 = .ok (.iadd, 1) := by decide +kernel
theorem d_M_copy_112 : decode prog_10_method_19_code 112 = .ok (.putfield 109, 3) := by decide +kernel
theorem d_M_copy_115 : decode prog_10_method_19_code 115 = .ok (.aload_n 0, 1) := by decide +kernel
theorem d_M_copy_116 : decode prog_10_method_19_code 116 = .ok (.getfield 35, 3) := by decide +kernel
theorem d_M_copy_119 : decode prog_10_method_19_code 119 = .ok (.iload 6, 2) := by decide +kernel
theorem d_M_copy_121 : decode prog_10_method_19_code 121 = .ok (.aload_n 0, 1) := by decide +kernel
theorem d_M_copy_122 : decode prog_10_method_19_code 122 = .ok (.getfield 109, 3) := by decide +kernel
theorem d_M_copy_125 : decode prog_10_method_19_code 125 = .ok (.i2s, 1) := by decide +kernel
theorem d_M_copy_126 : decode prog_10_method_19_code 126 = .ok (.sastore, 1) := by decide +kernel
theorem d_M_copy_127 : decode prog_10_method_19_code 127 = .ok (.aload_n 0, 1) := by decide +kernel
theorem d_M_copy_128 : decode prog_10_method_19_code 128 = .ok (.getfield 47, 3) := by decide +kernel
theorem d_M_copy_131 : decode prog_10_method_19_code 131 = .ok (.iload 6, 2) := by decide +kernel
theorem d_M_copy_133 : decode prog_10_method_19_code 133 = .ok (.bipush 125, 2) := by decide +kernel
theorem d_M_copy_135 : decode prog_10_method_19_code 135 = .ok (.iload_n 2, 1) := by decide +kernel
theorem d_M_copy_136 : decode prog_10_method_19_code 136 = .ok (.imul, 1) := by decide +kernel
theorem d_M_copy_137 : decode prog_10_method_19_code 137 = .ok (.iload_n 3, 1) := by decide +kernel
theorem d_M_copy_138 : decode prog_10_method_19_code 138 = .ok (.iadd, 1) := by decide +kernel
theorem d_M_copy_139 : decode prog_10_method_19_code 139 = .ok (.iconst 1, 1) := by decide +kernel
theorem d_M_copy_140 : decode prog_10_method_19_code 140 = .ok (.iadd, 1) := by decide +kernel
theorem d_M_copy_141 : decode prog_10_method_19_code 141 = .ok (.i2s, 1) := by decide +kernel
theorem d_M_copy_142 : decode prog_10_method_19_code 142 = .ok (.sastore, 1) := by decide +kernel
theorem d_M_copy_143 : decode prog_10_method_19_code 143 = .ok (.iconst 0, 1) := by decide +kernel
theorem d_M_copy_144 : decode prog_10_method_19_code 144 = .ok (.istore 7, 2) := by decide +kernel
theorem d_M_copy_146 : decode prog_10_method_19_code 146 = .ok (.iload 7, 2) := by decide +kernel
theorem d_M_copy_148 : decode prog_10_method_19_code 148 = .ok (.bipush 125, 2) := by decide +kernel
theorem d_M_copy_150 : decode prog_10_method_19_code 150 = .ok (.if_icmp .ge 63, 3) := by decide +kernel
theorem d_M_copy_153 : decode prog_10_method_19_code 153 = .ok (.aload_n 0, 1) := by decide +kernel
theorem d_M_copy_154 : decode prog_10_method_19_code 154 = .ok (.iload_n 2, 1) := by decide +kernel
theorem d_M_copy_155 : decode prog_10_method_19_code 155 = .ok (.iload 7, 2) := by decide +kernel
theorem d_M_copy_157 : decode prog_10_method_19_code 157 = .ok (.invokevirtual 87, 3) := by decide +kernel
theorem d_M_copy_160 : decode prog_10_method_19_code 160 = .ok (.ifCond .le 47, 3) := by decide +kernel
theorem d_M_copy_163 : decode prog_10_method_19_code 163 = .ok (.iload 7, 2) := by decide +kernel
theorem d_M_copy_165 : decode prog_10_method_19_code 165 = .ok (.iload_n 3, 1) := by decide +kernel
theorem d_M_copy_166 : decode prog_10_method_19_code 166 = .ok (.invokestatic 115, 3) := by decide +kernel
theorem d_M_copy_169 : decode prog_10_method_19_code 169 = .ok (.ifCond .eq 38, 3) := by decide +kernel
theorem d_M_copy_172 : decode prog_10_method_19_code 172 = .ok (.iload 7, 2) := by decide +kernel
theorem d_M_copy_174 : decode prog_10_method_19_code 174 = .ok (.iload_n 3, 1) := by decide +kernel
theorem d_M_copy_175 : decode prog_10_method_19_code 175 = .ok (.iload 4, 2) := by decide +kernel
theorem d_M_copy_177 : decode prog_10_method_19_code 177 = .ok (.invokestatic 118, 3) := by decide +kernel
theorem d_M_copy_180 : decode prog_10_method_19_code 180 = .ok (.istore 8, 2) := by decide +kernel
theorem d_M_copy_182 : decode prog_10_method_19_code 182 = .ok (.aload_n 0, 1) := by decide +kernel
theorem d_M_copy_183 : decode prog_10_method_19_code 183 = .ok (.iload_n 1, 1) := by decide +kernel
theorem d_M_copy_184 : decode prog_10_method_19_code 184 = .ok (.iload 8, 2) := by decide +kernel
theorem d_M_copy_186 : decode prog_10_method_19_code 186 = .ok (.iload 7, 2) := by decide +kernel
theorem d_M_copy_188 : decode prog_10_method_19_code 188 = .ok (.iload_n 3, 1) := by decide +kernel
theorem d_M_copy_189 : decode prog_10_method_19_code 189 = .ok (.if_icmp .ne 8, 3) := by decide +kernel
theorem d_M_copy_192 : decode prog_10_method_19_code 192 = .ok (.iload 6, 2) := by decide +kernel
theorem d_M_copy_194 : decode prog_10_method_19_code 194 = .ok (.goto 10, 3) := by decide +kernel
theorem d_M_copy_197 : decode prog_10_method_19_code 197 = .ok (.aload_n 0, 1) := by decide +kernel
theorem d_M_copy_198 : decode prog_10_method_19_code 198 = .ok (.iload_n 2, 1) := by decide +kernel
theorem d_M_copy_199 : decode prog_10_method_19_code 199 = .ok (.iload 7, 2) := by decide +kernel
theorem d_M_copy_201 : decode prog_10_method_19_code 201 = .ok (.invokevirtual 87, 3) := by decide +kernel
theorem d_M_copy_204 : decode prog_10_method_19_code 204 = .ok (.invokevirtual 95, 3) := by decide +kernel
theorem d_M_copy_207 : decode prog_10_method_19_code 207 = .ok (.iinc 7 1, 3) := by decide +kernel
theorem d_M_copy_210 : decode prog_10_method_19_code 210 = .ok (.goto (-64), 3) := by decide +kernel
theorem d_M_copy_213 : decode prog_10_method_19_code 213 = .ok (.aload_n 0, 1) := by decide +kernel
theorem d_M_copy_214 : decode prog_10_method_19_code 214 = .ok (.iload_n 1, 1) := by decide +kernel
theorem d_M_copy_215 : decode prog_10_method_19_code 215 = .ok (.iload 4, 2) := by decide +kernel
theorem d_M_copy_217 : decode prog_10_method_19_code 217 = .ok (.invokestatic 99, 3) := by decide +kernel
theorem d_M_copy_220 : decode prog_10_method_19_code 220 = .ok (.invokevirtual 112, 3) := by decide +kernel
theorem d_M_copy_223 : decode prog_10_method_19_code 223 = .ok (.iconst 1, 1) := by decide +kernel
theorem d_M_copy_224 : decode prog_10_method_19_code 224 = .ok (.ireturn, 1) := by decide +kernel
set_option maxHeartbeats 1000000 in
set_option maxRecDepth 100000 in
theorem c_M_copy {l : Launch} {E : Ev} {σ : SS} {ad : Nat → Nat} (hI : rfI ad) (hB : rB σ) {sz : Nat} {x y z v : Int32} (hy : σ 1 0 ≤ 15) (hN : ∀ j, σ 0 j < 1300) (hk : cpb σ (tx x) (rvn σ y) (ix z) (ix v) = true → σ 4 0 + 1 < 1300 ∧ σ 5 0 + 1 < 32768 ∧ tok (pd (pp (ix v))) (cp4 σ (tx x) (rvn σ y) (ix z) (ix v)) (tx x) (pp (ix v)) ∧ σ 6 (rat σ (rvn σ y) (ix z)) < 128 ∧ σ 11 (rat σ (rvn σ y) (ix z)) + 1 < 32768 ∧ σ 7 (rat σ (rvn σ y) (ix z)) < 128) : MCi l E y_M_copy prog_10_method_19_code 9 (some .boolean) 3 69 0 0 [.ref (ad 0), .int x, .int y, .int z, .int v] (rfM E σ ad) sz (fun r' M' => r' = bz (cpb σ (tx x) (rvn σ y) (ix z) (ix v)) ∧ M' = rfM E (cpO σ (tx x) (rvn σ y) (ix z) (ix v)) ad ∧ rB (cpO σ (tx x) (rvn σ y) (ix z) (ix v))) := by
  refine mc_of R_M rfl [some (.ref (ad 0)), some (.int x), some (.int y), some (.int z), some (.int v), none, none, none, none] (by decide) (Nat.le_of_ble_eq_true rfl) rfl ?_
  intro p e R s m ag below meth c ls Q A X hAe hQ hR hsz hw hl
  rw [← hAe] at hQ
  obtain ⟨⟨hx, hb, hml, hown, hts⟩, hE, hA, hr, hlk, hnm⟩ := X
  have hK := hE.1
  first | refine x_aload_n hx hb d_M_copy_0 hl rfl ?_ | refine x_aload_nQ hx hb d_M_copy_0 hl rfl ?_
  refine x_iload_n hx hb d_M_copy_1 hl rfl ?_
  refine x_iload hx hb d_M_copy_2 hl rfl ?_
  refine m_calli (k_V ⟨hx, hb, hml, hown, hts⟩ hE hA hw (c_M_room hI hB hN) (ci_M).1 rfl (rf_at hI 0 (by decide) rfl) (wm3 153 rfl rfl) (wm3 155 rfl rfl) (wmp2 5 rfl) (wm1 9 rfl rfl) (wm3 156 rfl rfl) rfl rfl ar_M_room ⟨Nat.le_trans (Nat.le_of_ble_eq_true rfl) hR.1, Nat.le_trans (Nat.le_of_ble_eq_true rfl) hR.2.1⟩ rfl hl.1 rfl (Nat.le_of_ble_eq_true rfl) d_M_copy_4 ⟨Nat.le_trans (Nat.le_of_ble_eq_true rfl) hR.2.2.1, Nat.le_trans (Nat.le_of_ble_eq_true rfl) hR.2.2.2⟩) hw (mfr_in hw hA) (fun r4 M4 H locs hP4 hw => ?_)
  obtain ⟨rfl, hM4⟩ := hP4
  rw [hM4] at hw
  refine x_if_eqB hx hb d_M_copy_7 rfl (fun h7 => ?_) (fun h7 => ?_)
  · refine lv_iconst (v := nI 0) hx hb d_M_copy_31 (by decide) ?_
    exact x_reti hQ hx hb hr hlk (by first | exact nar_bz | decide) hw (by omega) (by omega) d_M_copy_32 (by first | (rw [cpO_f (cpb_1 h7)]; exact ⟨bz_f (cpb_1 h7), rfl, hB⟩) | (rw [rv_2 h11, cpO_f (cpb_2 rfl)]; exact ⟨bz_f (cpb_2 rfl), rfl, hB⟩) | (rw [rv_3 (nle_of h19), cpO_f (cpb_2 rfl)]; exact ⟨bz_f (cpb_2 rfl), rfl, hB⟩) | (rw [hr2, cpO_f (cpb_3 h28)]; exact ⟨bz_f (cpb_3 h28), rfl, hB⟩))
  · obtain ⟨t, ht, rfl, g, hg, rfl, hg0⟩ := rmb_of h7
    rw [tx_n ht, ix_n hg] at h7
    refine x_iload_n hx hb d_M_copy_10 hl rfl ?_
    refine lv_if_lt hx hb d_M_copy_11 rfl (fun h11 => ?_) (fun h11 => ?_)
    · refine lv_iconst (v := nI 0) hx hb d_M_copy_31 (by decide) ?_
      exact x_reti hQ hx hb hr hlk (by first | exact nar_bz | decide) hw (by omega) (by omega) d_M_copy_32 (by first | (rw [cpO_f (cpb_1 h7)]; exact ⟨bz_f (cpb_1 h7), rfl, hB⟩) | (rw [rv_2 h11, cpO_f (cpb_2 rfl)]; exact ⟨bz_f (cpb_2 rfl), rfl, hB⟩) | (rw [rv_3 (nle_of h19), cpO_f (cpb_2 rfl)]; exact ⟨bz_f (cpb_2 rfl), rfl, hB⟩) | (rw [hr2, cpO_f (cpb_3 h28)]; exact ⟨bz_f (cpb_3 h28), rfl, hB⟩))
    · refine x_iload_n hx hb d_M_copy_14 hl rfl ?_
      first | refine x_aload_n hx hb d_M_copy_15 hl rfl ?_ | refine x_aload_nQ hx hb d_M_copy_15 hl rfl ?_
      refine m_get hx hb hts hown hK hw ci_M (rf_at hI 0 (by decide) rfl) 1 (by decide) (wm3 73 rfl rfl) rfl d_M_copy_16 ?_
      have hs16 := hB 1 0 (by decide) (by decide)
      refine lv_icmp_gt hx hb d_M_copy_19 rfl (fun h19 => ?_) (fun h19 => ?_)
      · refine lv_iconst (v := nI 0) hx hb d_M_copy_31 (by decide) ?_
        exact x_reti hQ hx hb hr hlk (by first | exact nar_bz | decide) hw (by omega) (by omega) d_M_copy_32 (by first | (rw [cpO_f (cpb_1 h7)]; exact ⟨bz_f (cpb_1 h7), rfl, hB⟩) | (rw [rv_2 h11, cpO_f (cpb_2 rfl)]; exact ⟨bz_f (cpb_2 rfl), rfl, hB⟩) | (rw [rv_3 (nle_of h19), cpO_f (cpb_2 rfl)]; exact ⟨bz_f (cpb_2 rfl), rfl, hB⟩) | (rw [hr2, cpO_f (cpb_3 h28)]; exact ⟨bz_f (cpb_3 h28), rfl, hB⟩))
      · obtain ⟨r, hr1, rfl, hr2⟩ := rv_1 hy h11 (le_of h19)
        first | refine x_aload_n hx hb d_M_copy_22 hl rfl ?_ | refine x_aload_nQ hx hb d_M_copy_22 hl rfl ?_
        refine x_iload_n hx hb d_M_copy_23 hl rfl ?_
        refine x_iload_n hx hb d_M_copy_24 hl rfl ?_
        refine m_calli (k_V ⟨hx, hb, hml, hown, hts⟩ hE hA hw (c_M_at hI hB (by omega)) (ci_M).1 rfl (rf_at hI 0 (by decide) rfl) (wm3 164 rfl rfl) (wm3 166 rfl rfl) (wmp2 7 rfl) (wm1 9 rfl rfl) (wm3 167 rfl rfl) rfl rfl ar_M_at ⟨Nat.le_trans (Nat.le_of_ble_eq_true rfl) hR.1, Nat.le_trans (Nat.le_of_ble_eq_true rfl) hR.2.1⟩ rfl hl.1 rfl (Nat.le_of_ble_eq_true rfl) d_M_copy_25 ⟨Nat.le_trans (Nat.le_of_ble_eq_true rfl) hR.2.2.1, Nat.le_trans (Nat.le_of_ble_eq_true rfl) hR.2.2.2⟩) hw (mfr_in hw hA) (fun r25 M25 H locs hP25 hw => ?_)
        obtain ⟨⟨rfl, hb25⟩, hM25⟩ := hP25
        rw [hM25] at hw
        refine x_if_ne hx hb d_M_copy_28 rfl (by omega) (fun h28 => ?_) (fun h28 => ?_)
        · refine lv_iconst (v := nI 0) hx hb d_M_copy_33 (by decide) ?_
          refine x_istore hx hb d_M_copy_34 hl (Nat.le_of_ble_eq_true rfl) (lh_k (i := 4) rfl (by first | exact lk_n | exact lk_i | exact lk_r | exact lk_q | exact lk_0)) (fun ls hl => ?_)
          obtain ⟨f, hf, rfl⟩ := ix_good (rat_good h28)
          rw [ix_n hf] at h28
          have hr16 : r < 16 := by omega
          have loop1 : ∀ (u w : Nat) (H : Heap) (locs : List Loc) (ls : Array Slot), w + u = 125 → mw E.1 vwCl A s.heap (rfM E σ ad) H locs → lh ls [some (.ref (ad 0)), some (.int (nI t)), some (.int (nI r)), some (.int (nI f)), some (.int (nI g)), some (.int (nI w)), none, none, none] → cof σ r f g u w = cof σ r f g 125 0 → W p l e R s m ag below meth c H locs 0 0 Q (F0 m 36 ls []) := by
            intro u
            induction u with
            | zero =>
              intro w H locs ls hu hw hl hT
              refine x_iload hx hb d_M_copy_36 hl rfl ?_
              refine lv_bipush (v := nI 125) hx hb d_M_copy_38 (by decide) ?_
              refine x_icmp_ge hx hb d_M_copy_40 rfl (by omega) (by omega) (fun h40 => ?_) (fun h40 => ?_)
              · have hco : cof σ r f g 125 0 = true := hT.symm
                have hl : lh ls [some (.ref (ad 0)), some (.int (nI t)), some (.int (nI r)), some (.int (nI f)), some (.int (nI g)), none, none, none, none] := lh_drop 5 hl
                have hcp := cpb_t h7 hr16 h28 hco
                obtain ⟨k1, k2, k3, k4, k5, k6⟩ := hk (by rw [tx_n ht, hr2, ix_n hf, ix_n hg]; exact hcp)
                rw [tx_n ht, hr2, ix_n hf, ix_n hg] at k3
                rw [hr2, ix_n hf] at k4 k5 k6
                have hp1 := pp_lt g
                obtain ⟨F, hF⟩ : ∃ F, F = cp4 σ t r f g := ⟨_, rfl⟩
                rw [← hF] at k3
                have loop2 : ∀ (u w : Nat) (τ : SS) (H : Heap) (locs : List Loc) (ls : Array Slot), w + u = 125 → GJ σ τ r → mw E.1 vwCl A s.heap (rfM E τ ad) H locs → lh ls [some (.ref (ad 0)), some (.int (nI t)), some (.int (nI r)), some (.int (nI f)), some (.int (nI g)), some (.int (nI (rat σ r f))), some (.int (nI (σ 4 0 + 1))), some (.int (nI w)), none] → gff t r f g (σ 4 0 + 1) u w τ = F → W p l e R s m ag below meth c H locs 0 0 Q (F0 m 146 ls []) := by
                  intro u
                  induction u with
                  | zero =>
                    intro w τ H locs ls hu hG hw hl hT
                    have hB := hG.1
                    refine x_iload hx hb d_M_copy_146 hl rfl ?_
                    refine lv_bipush (v := nI 125) hx hb d_M_copy_148 (by decide) ?_
                    refine x_icmp_ge hx hb d_M_copy_150 rfl (by omega) (by omega) (fun h150 => ?_) (fun h150 => ?_)
                    · rw [gff_0] at hT
                      rw [hT] at hw hB
                      first | refine x_aload_n hx hb d_M_copy_213 hl rfl ?_ | refine x_aload_nQ hx hb d_M_copy_213 hl rfl ?_
                      refine x_iload_n hx hb d_M_copy_214 hl rfl ?_
                      refine x_iload hx hb d_M_copy_215 hl rfl ?_
                      refine m_calli (k_S ⟨hx, hb, hml, hown, hts⟩ hE hA hw (c_M_parent (by omega) (by omega)) (wm3 168 rfl rfl) (wm3 169 rfl rfl) (wm1 9 rfl rfl) (wm3 170 rfl rfl) rfl rfl ar_M_parent ⟨Nat.le_trans (Nat.le_of_ble_eq_true rfl) hR.1, Nat.le_trans (Nat.le_of_ble_eq_true rfl) hR.2.1⟩ rfl hl.1 rfl (Nat.le_of_ble_eq_true rfl) d_M_copy_217 ⟨Nat.le_trans (Nat.le_of_ble_eq_true rfl) hR.2.2.1, Nat.le_trans (Nat.le_of_ble_eq_true rfl) hR.2.2.2⟩) hw (mfr_in hw hA) (fun r217 M217 H locs hP217 hw => ?_)
                      obtain ⟨rfl, hM217⟩ := hP217
                      rw [hM217] at hw
                      refine m_callv (k_V ⟨hx, hb, hml, hown, hts⟩ hE hA hw (c_M_touch hI hB (by omega) (by omega) k3) (ci_M).1 rfl (rf_at hI 0 (by decide) rfl) (wm3 185 rfl rfl) (wm3 187 rfl rfl) (wmp2 10 rfl) (wm1 9 rfl rfl) (wm3 188 rfl rfl) rfl rfl ar_M_touch ⟨Nat.le_trans (Nat.le_of_ble_eq_true rfl) hR.1, Nat.le_trans (Nat.le_of_ble_eq_true rfl) hR.2.1⟩ rfl hl.1 rfl (Nat.le_of_ble_eq_true rfl) d_M_copy_220 ⟨Nat.le_trans (Nat.le_of_ble_eq_true rfl) hR.2.2.1, Nat.le_trans (Nat.le_of_ble_eq_true rfl) hR.2.2.2⟩) hw (mfr_in hw hA) (fun M220 H locs hP220 hw => ?_)
                      obtain ⟨hM220, hB⟩ := hP220
                      rw [hM220] at hw
                      refine lv_iconst (v := nI 1) hx hb d_M_copy_223 (by decide) ?_
                      exact x_reti hQ hx hb hr hlk (by first | exact nar_bz | decide) hw (by omega) (by omega) d_M_copy_224 (by rw [tx_n ht, hr2, ix_n hf, ix_n hg, cpO_t hcp, ← hF]; exact ⟨bz_t hcp, rfl, hB⟩)
                    · exact absurd h150 (by omega)
                  | succ u ih =>
                    intro w τ H locs ls hu hG hw hl hT
                    have hB := hG.1
                    refine x_iload hx hb d_M_copy_146 hl rfl ?_
                    refine lv_bipush (v := nI 125) hx hb d_M_copy_148 (by decide) ?_
                    refine x_icmp_ge hx hb d_M_copy_150 rfl (by omega) (by omega) (fun h150 => ?_) (fun h150 => ?_)
                    · exact absurd h150 (by omega)
                    · first | refine x_aload_n hx hb d_M_copy_153 hl rfl ?_ | refine x_aload_nQ hx hb d_M_copy_153 hl rfl ?_
                      refine x_iload_n hx hb d_M_copy_154 hl rfl ?_
                      refine x_iload hx hb d_M_copy_155 hl rfl ?_
                      refine m_calli (k_V ⟨hx, hb, hml, hown, hts⟩ hE hA hw (c_M_atN hI hB (by omega) (by omega)) (ci_M).1 rfl (rf_at hI 0 (by decide) rfl) (wm3 164 rfl rfl) (wm3 166 rfl rfl) (wmp2 7 rfl) (wm1 9 rfl rfl) (wm3 167 rfl rfl) rfl rfl ar_M_at ⟨Nat.le_trans (Nat.le_of_ble_eq_true rfl) hR.1, Nat.le_trans (Nat.le_of_ble_eq_true rfl) hR.2.1⟩ rfl hl.1 rfl (Nat.le_of_ble_eq_true rfl) d_M_copy_157 ⟨Nat.le_trans (Nat.le_of_ble_eq_true rfl) hR.2.2.1, Nat.le_trans (Nat.le_of_ble_eq_true rfl) hR.2.2.2⟩) hw (mfr_in hw hA) (fun r157 M157 H locs hP157 hw => ?_)
                      obtain ⟨⟨rfl, hb157⟩, hM157⟩ := hP157
                      rw [hM157] at hw
                      have hN2 := rat_N (k := r) (p := w) hG.2.1
                      refine x_if_le hx hb d_M_copy_160 rfl (by omega) (fun h160 => ?_) (fun h160 => ?_)
                      · have hst : (if 0 < rat τ r w ∧ pun w f = true then plc τ t (pm w f g) (if w = f then σ 4 0 + 1 else rat τ r w) else τ) = τ := if_neg (by omega)
                        have hG2 := hG
                        refine x_iincN hx hb d_M_copy_207 hl rfl (lh_k (i := 6) rfl (by first | exact lk_n | exact lk_i | exact lk_r | exact lk_q | exact lk_0)) (fun ls hl => ?_)
                        refine lv_goto hx hb d_M_copy_210 rfl ?_
                        rw [gff_s] at hT
                        rw [← hst] at hw hG2
                        exact ih (w + 1) _ H locs ls (by omega) hG2 hw (lh_drop 8 hl) hT
                      · refine x_iload hx hb d_M_copy_163 hl rfl ?_
                        refine x_iload_n hx hb d_M_copy_165 hl rfl ?_
                        refine m_calli (k_S ⟨hx, hb, hml, hown, hts⟩ hE hA hw (c_M_under (by omega) (by omega)) (wm3 193 rfl rfl) (wm3 194 rfl rfl) (wm1 9 rfl rfl) (wm3 195 rfl rfl) rfl rfl ar_M_under ⟨Nat.le_trans (Nat.le_of_ble_eq_true rfl) hR.1, Nat.le_trans (Nat.le_of_ble_eq_true rfl) hR.2.1⟩ rfl hl.1 rfl (Nat.le_of_ble_eq_true rfl) d_M_copy_166 ⟨Nat.le_trans (Nat.le_of_ble_eq_true rfl) hR.2.2.1, Nat.le_trans (Nat.le_of_ble_eq_true rfl) hR.2.2.2⟩) hw (mfr_in hw hA) (fun r166 M166 H locs hP166 hw => ?_)
                        obtain ⟨rfl, hM166⟩ := hP166
                        rw [hM166] at hw
                        refine x_if_eqB hx hb d_M_copy_169 rfl (fun h169 => ?_) (fun h169 => ?_)
                        · have hst : (if 0 < rat τ r w ∧ pun w f = true then plc τ t (pm w f g) (if w = f then σ 4 0 + 1 else rat τ r w) else τ) = τ := if_neg (by rw [h169]; rintro ⟨-, z⟩; cases z)
                          have hG2 := hG
                          refine x_iincN hx hb d_M_copy_207 hl rfl (lh_k (i := 6) rfl (by first | exact lk_n | exact lk_i | exact lk_r | exact lk_q | exact lk_0)) (fun ls hl => ?_)
                          refine lv_goto hx hb d_M_copy_210 rfl ?_
                          rw [gff_s] at hT
                          rw [← hst] at hw hG2
                          exact ih (w + 1) _ H locs ls (by omega) hG2 hw (lh_drop 8 hl) hT
                        · have hno : ¬ 3 < pd g + pd w - pd f := fun z => cof_of 125 0 hco w (by omega) (by omega) ⟨by rw [← hG.2.2 w]; exact h160, h169, z⟩
                          have hpm := pm_lt (by omega) hg hf (pun_pd (by omega) hf h169) hno
                          refine x_iload hx hb d_M_copy_172 hl rfl ?_
                          refine x_iload_n hx hb d_M_copy_174 hl rfl ?_
                          refine x_iload hx hb d_M_copy_175 hl rfl ?_
                          refine m_calli (k_S ⟨hx, hb, hml, hown, hts⟩ hE hA hw (c_M_moved (by omega) (by omega) (by omega) (by have := pun_pd (by omega) (by omega) h169; omega)) (wm3 200 rfl rfl) (wm3 201 rfl rfl) (wm1 9 rfl rfl) (wm3 202 rfl rfl) rfl rfl ar_M_moved ⟨Nat.le_trans (Nat.le_of_ble_eq_true rfl) hR.1, Nat.le_trans (Nat.le_of_ble_eq_true rfl) hR.2.1⟩ rfl hl.1 rfl (Nat.le_of_ble_eq_true rfl) d_M_copy_177 ⟨Nat.le_trans (Nat.le_of_ble_eq_true rfl) hR.2.2.1, Nat.le_trans (Nat.le_of_ble_eq_true rfl) hR.2.2.2⟩) hw (mfr_in hw hA) (fun r177 M177 H locs hP177 hw => ?_)
                          obtain ⟨rfl, hM177⟩ := hP177
                          rw [hM177] at hw
                          rw [if_neg hno]
                          refine x_istore hx hb d_M_copy_180 hl (Nat.le_of_ble_eq_true rfl) (lh_k (i := 7) rfl (by first | exact lk_n | exact lk_i | exact lk_r | exact lk_q | exact lk_0)) (fun ls hl => ?_)
                          first | refine x_aload_n hx hb d_M_copy_182 hl rfl ?_ | refine x_aload_nQ hx hb d_M_copy_182 hl rfl ?_
                          refine x_iload_n hx hb d_M_copy_183 hl rfl ?_
                          refine x_iload hx hb d_M_copy_184 hl rfl ?_
                          refine x_iload hx hb d_M_copy_186 hl rfl ?_
                          refine x_iload_n hx hb d_M_copy_188 hl rfl ?_
                          refine x_icmp_ne hx hb d_M_copy_189 rfl (by omega) (by omega) (fun h189 => ?_) (fun h189 => ?_)
                          · have hst : (if 0 < rat τ r w ∧ pun w f = true then plc τ t (pm w f g) (if w = f then σ 4 0 + 1 else rat τ r w) else τ) = plc τ t (pm w f g) (rat τ r w) := by rw [if_pos ⟨h160, h169⟩, if_neg h189]
                            have hG2 := GJ_plc (t := t) (q := pm w f g) (v := rat τ r w) hr16 hpm hN2 hG
                            first | refine x_aload_n hx hb d_M_copy_197 hl rfl ?_ | refine x_aload_nQ hx hb d_M_copy_197 hl rfl ?_
                            refine x_iload_n hx hb d_M_copy_198 hl rfl ?_
                            refine x_iload hx hb d_M_copy_199 hl rfl ?_
                            refine m_calli (k_V ⟨hx, hb, hml, hown, hts⟩ hE hA hw (c_M_atN hI hB (by omega) (by omega)) (ci_M).1 rfl (rf_at hI 0 (by decide) rfl) (wm3 164 rfl rfl) (wm3 166 rfl rfl) (wmp2 7 rfl) (wm1 9 rfl rfl) (wm3 167 rfl rfl) rfl rfl ar_M_at ⟨Nat.le_trans (Nat.le_of_ble_eq_true rfl) hR.1, Nat.le_trans (Nat.le_of_ble_eq_true rfl) hR.2.1⟩ rfl hl.1 rfl (Nat.le_of_ble_eq_true rfl) d_M_copy_201 ⟨Nat.le_trans (Nat.le_of_ble_eq_true rfl) hR.2.2.1, Nat.le_trans (Nat.le_of_ble_eq_true rfl) hR.2.2.2⟩) hw (mfr_in hw hA) (fun r201 M201 H locs hP201 hw => ?_)
                            obtain ⟨⟨rfl, hb201⟩, hM201⟩ := hP201
                            rw [hM201] at hw
                            refine m_callv (k_V ⟨hx, hb, hml, hown, hts⟩ hE hA hw (c_M_place hI hB (by omega) hpm (by omega)) (ci_M).1 rfl (rf_at hI 0 (by decide) rfl) (wm3 181 rfl rfl) (wm3 183 rfl rfl) (wmp2 9 rfl) (wm1 9 rfl rfl) (wm3 184 rfl rfl) rfl rfl ar_M_place ⟨Nat.le_trans (Nat.le_of_ble_eq_true rfl) hR.1, Nat.le_trans (Nat.le_of_ble_eq_true rfl) hR.2.1⟩ rfl hl.1 rfl (Nat.le_of_ble_eq_true rfl) d_M_copy_204 ⟨Nat.le_trans (Nat.le_of_ble_eq_true rfl) hR.2.2.1, Nat.le_trans (Nat.le_of_ble_eq_true rfl) hR.2.2.2⟩) hw (mfr_in hw hA) (fun M204 H locs hP204 hw => ?_)
                            obtain ⟨hM204, hB⟩ := hP204
                            rw [hM204] at hw
                            refine x_iincN hx hb d_M_copy_207 hl rfl (lh_k (i := 6) rfl (by first | exact lk_n | exact lk_i | exact lk_r | exact lk_q | exact lk_0)) (fun ls hl => ?_)
                            refine lv_goto hx hb d_M_copy_210 rfl ?_
                            rw [gff_s] at hT
                            rw [← hst] at hw hG2
                            exact ih (w + 1) _ H locs ls (by omega) hG2 hw (lh_drop 8 hl) hT
                          · have hst : (if 0 < rat τ r w ∧ pun w f = true then plc τ t (pm w f g) (if w = f then σ 4 0 + 1 else rat τ r w) else τ) = plc τ t (pm w f g) (σ 4 0 + 1) := by rw [if_pos ⟨h160, h169⟩, if_pos h189]
                            have hG2 := GJ_plc (t := t) (q := pm w f g) (v := σ 4 0 + 1) hr16 hpm k1 hG
                            refine x_iload hx hb d_M_copy_192 hl rfl ?_
                            refine lv_goto hx hb d_M_copy_194 rfl ?_
                            refine m_callv (k_V ⟨hx, hb, hml, hown, hts⟩ hE hA hw (c_M_place hI hB (by omega) hpm (by omega)) (ci_M).1 rfl (rf_at hI 0 (by decide) rfl) (wm3 181 rfl rfl) (wm3 183 rfl rfl) (wmp2 9 rfl) (wm1 9 rfl rfl) (wm3 184 rfl rfl) rfl rfl ar_M_place ⟨Nat.le_trans (Nat.le_of_ble_eq_true rfl) hR.1, Nat.le_trans (Nat.le_of_ble_eq_true rfl) hR.2.1⟩ rfl hl.1 rfl (Nat.le_of_ble_eq_true rfl) d_M_copy_204 ⟨Nat.le_trans (Nat.le_of_ble_eq_true rfl) hR.2.2.1, Nat.le_trans (Nat.le_of_ble_eq_true rfl) hR.2.2.2⟩) hw (mfr_in hw hA) (fun M204 H locs hP204 hw => ?_)
                            obtain ⟨hM204, hB⟩ := hP204
                            rw [hM204] at hw
                            refine x_iincN hx hb d_M_copy_207 hl rfl (lh_k (i := 6) rfl (by first | exact lk_n | exact lk_i | exact lk_r | exact lk_q | exact lk_0)) (fun ls hl => ?_)
                            refine lv_goto hx hb d_M_copy_210 rfl ?_
                            rw [gff_s] at hT
                            rw [← hst] at hw hG2
                            exact ih (w + 1) _ H locs ls (by omega) hG2 hw (lh_drop 8 hl) hT
                first | refine x_aload_n hx hb d_M_copy_81 hl rfl ?_ | refine x_aload_nQ hx hb d_M_copy_81 hl rfl ?_
                refine x_iload_n hx hb d_M_copy_82 hl rfl ?_
                refine x_iload_n hx hb d_M_copy_83 hl rfl ?_
                refine m_calli (k_V ⟨hx, hb, hml, hown, hts⟩ hE hA hw (c_M_atN hI hB (by omega) (by omega)) (ci_M).1 rfl (rf_at hI 0 (by decide) rfl) (wm3 164 rfl rfl) (wm3 166 rfl rfl) (wmp2 7 rfl) (wm1 9 rfl rfl) (wm3 167 rfl rfl) rfl rfl ar_M_at ⟨Nat.le_trans (Nat.le_of_ble_eq_true rfl) hR.1, Nat.le_trans (Nat.le_of_ble_eq_true rfl) hR.2.1⟩ rfl hl.1 rfl (Nat.le_of_ble_eq_true rfl) d_M_copy_84 ⟨Nat.le_trans (Nat.le_of_ble_eq_true rfl) hR.2.2.1, Nat.le_trans (Nat.le_of_ble_eq_true rfl) hR.2.2.2⟩) hw (mfr_in hw hA) (fun r84 M84 H locs hP84 hw => ?_)
                obtain ⟨⟨rfl, hb84⟩, hM84⟩ := hP84
                rw [hM84] at hw
                have hN3 := rat_N (k := r) (p := f) hN
                refine x_istore hx hb d_M_copy_87 hl (Nat.le_of_ble_eq_true rfl) (lh_k (i := 4) rfl (by first | exact lk_n | exact lk_i | exact lk_r | exact lk_q | exact lk_0)) (fun ls hl => ?_)
                first | refine x_aload_n hx hb d_M_copy_89 hl rfl ?_ | refine x_aload_nQ hx hb d_M_copy_89 hl rfl ?_
                refine x_iload_n hx hb d_M_copy_90 hl rfl ?_
                first | refine x_aload_n hx hb d_M_copy_91 hl rfl ?_ | refine x_aload_nQ hx hb d_M_copy_91 hl rfl ?_
                refine m_get hx hb hts hown hK hw ci_M (rf_at hI 0 (by decide) rfl) 6 (by decide) (wm3 78 rfl rfl) rfl d_M_copy_92 ?_
                refine x_iload hx hb d_M_copy_95 hl rfl ?_
                refine rl_6 hx hb hK hI hB hw (by omega) d_M_copy_97 (fun hv97 => ?_)
                refine x_iload hx hb d_M_copy_98 hl rfl ?_
                refine m_calli (k_V ⟨hx, hb, hml, hown, hts⟩ hE hA hw (c_M_node1 hI hB (by omega) (by omega) (by omega) (by omega) (by omega) k5 k6) (ci_M).1 rfl (rf_at hI 0 (by decide) rfl) (wm3 177 rfl rfl) (wm3 179 rfl rfl) (wmp2 8 rfl) (wm1 9 rfl rfl) (wm3 180 rfl rfl) rfl rfl ar_M_node ⟨Nat.le_trans (Nat.le_of_ble_eq_true rfl) hR.1, Nat.le_trans (Nat.le_of_ble_eq_true rfl) hR.2.1⟩ rfl hl.1 rfl (Nat.le_of_ble_eq_true rfl) d_M_copy_100 ⟨Nat.le_trans (Nat.le_of_ble_eq_true rfl) hR.2.2.1, Nat.le_trans (Nat.le_of_ble_eq_true rfl) hR.2.2.2⟩) hw (mfr_in hw hA) (fun r100 M100 H locs hP100 hw => ?_)
                obtain ⟨rfl, hM100, hB⟩ := hP100
                rw [hM100] at hw
                refine x_istore hx hb d_M_copy_103 hl (Nat.le_of_ble_eq_true rfl) (lh_k (i := 5) rfl (by first | exact lk_n | exact lk_i | exact lk_r | exact lk_q | exact lk_0)) (fun ls hl => ?_)
                first | refine x_aload_n hx hb d_M_copy_105 hl rfl ?_ | refine x_aload_nQ hx hb d_M_copy_105 hl rfl ?_
                first | refine lv_dup hx hb d_M_copy_106 rfl ?_ | refine lv_dup hx hb d_M_copy_106 (va_rf_c _) ?_
                refine m_get (v := .int (nI (σ 5 0))) hx hb hts hown hK hw ci_M (rf_at hI 0 (by decide) rfl) 5 (by decide) (wm3 77 rfl rfl) rfl d_M_copy_107 ?_
                refine lv_iconst (v := nI 1) hx hb d_M_copy_110 (by decide) ?_
                first | refine x_iadd hx hb d_M_copy_111 ?_ | refine lv_iadd hx hb d_M_copy_111 ?_
                refine rp_5 hx hb hts hown hK hI hB hw (wm3 77 rfl rfl) (by omega) d_M_copy_112 (fun H locs hw hB => ?_)
                first | refine x_aload_n hx hb d_M_copy_115 hl rfl ?_ | refine x_aload_nQ hx hb d_M_copy_115 hl rfl ?_
                refine m_get hx hb hts hown hK hw ci_M (rf_at hI 0 (by decide) rfl) 10 (by decide) (wm3 82 rfl rfl) rfl d_M_copy_116 ?_
                refine x_iload hx hb d_M_copy_119 hl rfl ?_
                first | refine x_aload_n hx hb d_M_copy_121 hl rfl ?_ | refine x_aload_nQ hx hb d_M_copy_121 hl rfl ?_
                refine m_get (v := .int (nI (σ 5 0 + 1))) hx hb hts hown hK hw ci_M (rf_at hI 0 (by decide) rfl) 5 (by decide) (wm3 77 rfl rfl) rfl d_M_copy_122 ?_
                first | refine x_i2s hx hb d_M_copy_125 (by omega) ?_ | refine lv_i2s hx hb d_M_copy_125 rfl ?_
                refine rs_10 hx hb hK hI hB hw (by omega) (by omega) d_M_copy_126 (fun H locs hw hB => ?_)
                first | refine x_aload_n hx hb d_M_copy_127 hl rfl ?_ | refine x_aload_nQ hx hb d_M_copy_127 hl rfl ?_
                refine m_get hx hb hts hown hK hw ci_M (rf_at hI 0 (by decide) rfl) 14 (by decide) (wm3 86 rfl rfl) rfl d_M_copy_128 ?_
                refine x_iload hx hb d_M_copy_131 hl rfl ?_
                refine lv_bipush (v := nI 125) hx hb d_M_copy_133 (by decide) ?_
                refine x_iload_n hx hb d_M_copy_135 hl rfl ?_
                first | refine x_imul hx hb d_M_copy_136 ?_ | refine lv_imul hx hb d_M_copy_136 ?_
                refine x_iload_n hx hb d_M_copy_137 hl rfl ?_
                first | refine x_iadd hx hb d_M_copy_138 ?_ | refine lv_iadd hx hb d_M_copy_138 ?_
                refine lv_iconst (v := nI 1) hx hb d_M_copy_139 (by decide) ?_
                first | refine x_iadd hx hb d_M_copy_140 ?_ | refine lv_iadd hx hb d_M_copy_140 ?_
                first | refine x_i2s hx hb d_M_copy_141 (by omega) ?_ | refine lv_i2s hx hb d_M_copy_141 rfl ?_
                refine rs_14 hx hb hK hI hB hw (by omega) (by omega) d_M_copy_142 (fun H locs hw hB => ?_)
                refine lv_iconst (v := nI 0) hx hb d_M_copy_143 (by decide) ?_
                refine x_istore hx hb d_M_copy_144 hl (Nat.le_of_ble_eq_true rfl) (lh_k (i := 6) rfl (by first | exact lk_n | exact lk_i | exact lk_r | exact lk_q | exact lk_0)) (fun ls hl => ?_)
                exact loop2 125 0 (cp3 σ t r f) H locs ls (by omega) ⟨hB, fun j => hN j, fun w => rat_cp3⟩ hw hl (by rw [hF, cp4_e])
              · exact absurd h40 (by omega)
            | succ u ih =>
              intro w H locs ls hu hw hl hT
              refine x_iload hx hb d_M_copy_36 hl rfl ?_
              refine lv_bipush (v := nI 125) hx hb d_M_copy_38 (by decide) ?_
              refine x_icmp_ge hx hb d_M_copy_40 rfl (by omega) (by omega) (fun h40 => ?_) (fun h40 => ?_)
              · exact absurd h40 (by omega)
              · first | refine x_aload_n hx hb d_M_copy_43 hl rfl ?_ | refine x_aload_nQ hx hb d_M_copy_43 hl rfl ?_
                refine x_iload_n hx hb d_M_copy_44 hl rfl ?_
                refine x_iload hx hb d_M_copy_45 hl rfl ?_
                refine m_calli (k_V ⟨hx, hb, hml, hown, hts⟩ hE hA hw (c_M_atN hI hB (by omega) (by omega)) (ci_M).1 rfl (rf_at hI 0 (by decide) rfl) (wm3 164 rfl rfl) (wm3 166 rfl rfl) (wmp2 7 rfl) (wm1 9 rfl rfl) (wm3 167 rfl rfl) rfl rfl ar_M_at ⟨Nat.le_trans (Nat.le_of_ble_eq_true rfl) hR.1, Nat.le_trans (Nat.le_of_ble_eq_true rfl) hR.2.1⟩ rfl hl.1 rfl (Nat.le_of_ble_eq_true rfl) d_M_copy_47 ⟨Nat.le_trans (Nat.le_of_ble_eq_true rfl) hR.2.2.1, Nat.le_trans (Nat.le_of_ble_eq_true rfl) hR.2.2.2⟩) hw (mfr_in hw hA) (fun r47 M47 H locs hP47 hw => ?_)
                obtain ⟨⟨rfl, hb47⟩, hM47⟩ := hP47
                rw [hM47] at hw
                refine x_if_le hx hb d_M_copy_50 rfl (by omega) (fun h50 => ?_) (fun h50 => ?_)
                · have hT2 : cof σ r f g u (w + 1) = cof σ r f g 125 0 := by rw [← hT]; exact (cof_g (fun z => by omega)).symm
                  refine x_iincN hx hb d_M_copy_75 hl rfl (lh_k (i := 4) rfl (by first | exact lk_n | exact lk_i | exact lk_r | exact lk_q | exact lk_0)) (fun ls hl => ?_)
                  refine lv_goto hx hb d_M_copy_78 rfl ?_
                  exact ih (w + 1) H locs ls (by omega) hw hl hT2
                · refine x_iload hx hb d_M_copy_53 hl rfl ?_
                  refine x_iload_n hx hb d_M_copy_55 hl rfl ?_
                  refine m_calli (k_S ⟨hx, hb, hml, hown, hts⟩ hE hA hw (c_M_under (by omega) (by omega)) (wm3 193 rfl rfl) (wm3 194 rfl rfl) (wm1 9 rfl rfl) (wm3 195 rfl rfl) rfl rfl ar_M_under ⟨Nat.le_trans (Nat.le_of_ble_eq_true rfl) hR.1, Nat.le_trans (Nat.le_of_ble_eq_true rfl) hR.2.1⟩ rfl hl.1 rfl (Nat.le_of_ble_eq_true rfl) d_M_copy_56 ⟨Nat.le_trans (Nat.le_of_ble_eq_true rfl) hR.2.2.1, Nat.le_trans (Nat.le_of_ble_eq_true rfl) hR.2.2.2⟩) hw (mfr_in hw hA) (fun r56 M56 H locs hP56 hw => ?_)
                  obtain ⟨rfl, hM56⟩ := hP56
                  rw [hM56] at hw
                  refine x_if_eqB hx hb d_M_copy_59 rfl (fun h59 => ?_) (fun h59 => ?_)
                  · have hT2 : cof σ r f g u (w + 1) = cof σ r f g 125 0 := by rw [← hT]; exact (cof_g (fun z => by rw [h59] at z; cases z.2.1)).symm
                    refine x_iincN hx hb d_M_copy_75 hl rfl (lh_k (i := 4) rfl (by first | exact lk_n | exact lk_i | exact lk_r | exact lk_q | exact lk_0)) (fun ls hl => ?_)
                    refine lv_goto hx hb d_M_copy_78 rfl ?_
                    exact ih (w + 1) H locs ls (by omega) hw hl hT2
                  · refine x_iload hx hb d_M_copy_62 hl rfl ?_
                    refine x_iload_n hx hb d_M_copy_64 hl rfl ?_
                    refine x_iload hx hb d_M_copy_65 hl rfl ?_
                    refine m_calli (k_S ⟨hx, hb, hml, hown, hts⟩ hE hA hw (c_M_moved (by omega) (by omega) (by omega) (by have := pun_pd (by omega) (by omega) h59; omega)) (wm3 200 rfl rfl) (wm3 201 rfl rfl) (wm1 9 rfl rfl) (wm3 202 rfl rfl) rfl rfl ar_M_moved ⟨Nat.le_trans (Nat.le_of_ble_eq_true rfl) hR.1, Nat.le_trans (Nat.le_of_ble_eq_true rfl) hR.2.1⟩ rfl hl.1 rfl (Nat.le_of_ble_eq_true rfl) d_M_copy_67 ⟨Nat.le_trans (Nat.le_of_ble_eq_true rfl) hR.2.2.1, Nat.le_trans (Nat.le_of_ble_eq_true rfl) hR.2.2.2⟩) hw (mfr_in hw hA) (fun r67 M67 H locs hP67 hw => ?_)
                    obtain ⟨rfl, hM67⟩ := hP67
                    rw [hM67] at hw
                    refine lv_if_ge hx hb d_M_copy_70 rfl (fun h70 => ?_) (fun h70 => ?_)
                    · have hno : ¬ 3 < pd g + pd w - pd f := by
                        intro z
                        rw [if_pos z] at h70
                        exact absurd h70 (by decide)
                      have hT2 : cof σ r f g u (w + 1) = cof σ r f g 125 0 := by rw [← hT]; exact (cof_g (fun z => hno z.2.2)).symm
                      refine x_iincN hx hb d_M_copy_75 hl rfl (lh_k (i := 4) rfl (by first | exact lk_n | exact lk_i | exact lk_r | exact lk_q | exact lk_0)) (fun ls hl => ?_)
                      refine lv_goto hx hb d_M_copy_78 rfl ?_
                      exact ih (w + 1) H locs ls (by omega) hw hl hT2
                    · have hno : 3 < pd g + pd w - pd f := by
                        rcases Nat.lt_or_ge 3 (pd g + pd w - pd f) with z | z
                        · exact z
                        · rw [if_neg (by omega)] at h70
                          exact absurd (nI_pos' (pm_big (w := w) (f := f) (g := g) (by omega) hg)) h70
                      have hco : cof σ r f g 125 0 = false := by rw [← hT]; exact cof_f h50 h59 hno
                      refine lv_iconst (v := nI 0) hx hb d_M_copy_73 (by decide) ?_
                      exact x_reti hQ hx hb hr hlk (by first | exact nar_bz | decide) hw (by omega) (by omega) d_M_copy_74 (by rw [tx_n ht, hr2, ix_n hf, ix_n hg, cpO_f (cpb_4 hco)]; exact ⟨bz_f (cpb_4 hco), rfl, hB⟩)
          exact loop1 125 0 _ _ _ (by omega) hw hl rfl
        · refine lv_iconst (v := nI 0) hx hb d_M_copy_31 (by decide) ?_
          exact x_reti hQ hx hb hr hlk (by first | exact nar_bz | decide) hw (by omega) (by omega) d_M_copy_32 (by first | (rw [cpO_f (cpb_1 h7)]; exact ⟨bz_f (cpb_1 h7), rfl, hB⟩) | (rw [rv_2 h11, cpO_f (cpb_2 rfl)]; exact ⟨bz_f (cpb_2 rfl), rfl, hB⟩) | (rw [rv_3 (nle_of h19), cpO_f (cpb_2 rfl)]; exact ⟨bz_f (cpb_2 rfl), rfl, hB⟩) | (rw [hr2, cpO_f (cpb_3 h28)]; exact ⟨bz_f (cpb_3 h28), rfl, hB⟩))
