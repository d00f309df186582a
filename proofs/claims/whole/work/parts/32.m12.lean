theorem d_M_commit_0 : decode prog_10_method_26_code 0 = .ok (.aload_n 0, 1) := by decide +kernel
theorem d_M_commit_1 : decode prog_10_method_26_code 1 = .ok (.iload_n 1, 1) := by decide +kernel
theorem d_M_commit_2 : decode prog_10_method_26_code 2 = .ok (.invokevirtual 102, 3) := by decide +kernel
theorem d_M_commit_5 : decode prog_10_method_26_code 5 = .ok (.ifCond .eq 12, 3) := by decide +kernel
theorem d_M_commit_8 : decode prog_10_method_26_code 8 = .ok (.aload_n 0, 1) := by decide +kernel
theorem d_M_commit_9 : decode prog_10_method_26_code 9 = .ok (.getfield 76, 3) := by decide +kernel
theorem d_M_commit_12 : decode prog_10_method_26_code 12 = .ok (.bipush 15, 2) := by decide +kernel
theorem d_M_commit_14 : decode prog_10_method_26_code 14 = .ok (.if_icmp .ne 5, 3) := by decide +kernel
theorem d_M_commit_17 : decode prog_10_method_26_code 17 = .ok (.iconst (-1), 1) := by decide +kernel
theorem d_M_commit_18 : decode prog_10_method_26_code 18 = .ok (.ireturn, 1) := by decide +kernel
theorem d_M_commit_19 : decode prog_10_method_26_code 19 = .ok (.aload_n 0, 1) := by decide +kernel
theorem d_M_commit_20 : decode prog_10_method_26_code 20 = .ok (.getfield 7, 3) := by decide +kernel
theorem d_M_commit_23 : decode prog_10_method_26_code 23 = .ok (.bipush 125, 2) := by decide +kernel
theorem d_M_commit_25 : decode prog_10_method_26_code 25 = .ok (.aload_n 0, 1) := by decide +kernel
theorem d_M_commit_26 : decode prog_10_method_26_code 26 = .ok (.getfield 17, 3) := by decide +kernel
theorem d_M_commit_29 : decode prog_10_method_26_code 29 = .ok (.iload_n 1, 1) := by decide +kernel
theorem d_M_commit_30 : decode prog_10_method_26_code 30 = .ok (.iaload, 1) := by decide +kernel
theorem d_M_commit_31 : decode prog_10_method_26_code 31 = .ok (.imul, 1) := by decide +kernel
theorem d_M_commit_32 : decode prog_10_method_26_code 32 = .ok (.saload, 1) := by decide +kernel
theorem d_M_commit_33 : decode prog_10_method_26_code 33 = .ok (.istore_n 2, 1) := by decide +kernel
theorem d_M_commit_34 : decode prog_10_method_26_code 34 = .ok (.aload_n 0, 1) := by decide +kernel
theorem d_M_commit_35 : decode prog_10_method_26_code 35 = .ok (.getfield 7, 3) := by decide +kernel
theorem d_M_commit_38 : decode prog_10_method_26_code 38 = .ok (.bipush 125, 2) := by decide +kernel
theorem d_M_commit_40 : decode prog_10_method_26_code 40 = .ok (.aload_n 0, 1) := by decide +kernel
theorem d_M_commit_41 : decode prog_10_method_26_code 41 = .ok (.getfield 76, 3) := by decide +kernel
theorem d_M_commit_44 : decode prog_10_method_26_code 44 = .ok (.imul, 1) := by decide +kernel
theorem d_M_commit_45 : decode prog_10_method_26_code 45 = .ok (.saload, 1) := by decide +kernel
theorem d_M_commit_46 : decode prog_10_method_26_code 46 = .ok (.istore_n 3, 1) := by decide +kernel
theorem d_M_commit_47 : decode prog_10_method_26_code 47 = .ok (.aload_n 0, 1) := by decide +kernel
theorem d_M_commit_48 : decode prog_10_method_26_code 48 = .ok (.getfield 7, 3) := by decide +kernel
theorem d_M_commit_51 : decode prog_10_method_26_code 51 = .ok (.sipush 2000, 3) := by decide +kernel
theorem d_M_commit_54 : decode prog_10_method_26_code 54 = .ok (.bipush 125, 2) := by decide +kernel
theorem d_M_commit_56 : decode prog_10_method_26_code 56 = .ok (.iload_n 1, 1) := by decide +kernel
theorem d_M_commit_57 : decode prog_10_method_26_code 57 = .ok (.imul, 1) := by decide +kernel
theorem d_M_commit_58 : decode prog_10_method_26_code 58 = .ok (.iadd, 1) := by decide +kernel
theorem d_M_commit_59 : decode prog_10_method_26_code 59 = .ok (.saload, 1) := by decide +kernel
theorem d_M_commit_60 : decode prog_10_method_26_code 60 = .ok (.istore 4, 2) := by decide +kernel
theorem d_M_commit_62 : decode prog_10_method_26_code 62 = .ok (.iload_n 3, 1) := by decide +kernel
theorem d_M_commit_63 : decode prog_10_method_26_code 63 = .ok (.iload_n 2, 1) := by decide +kernel
theorem d_M_commit_64 : decode prog_10_method_26_code 64 = .ok (.if_icmp .eq 24, 3) := by decide +kernel
theorem d_M_commit_67 : decode prog_10_method_26_code 67 = .ok (.iload 4, 2) := by decide +kernel
theorem d_M_commit_69 : decode prog_10_method_26_code 69 = .ok (.iload_n 2, 1) := by decide +kernel
theorem d_M_commit_70 : decode prog_10_method_26_code 70 = .ok (.if_icmp .ne 18, 3) := by decide +kernel
theorem d_M_commit_73 : decode prog_10_method_26_code 73 = .ok (.aload_n 0, 1) := by decide +kernel
theorem d_M_commit_74 : decode prog_10_method_26_code 74 = .ok (.bipush 16, 2) := by decide +kernel
theorem d_M_commit_76 : decode prog_10_method_26_code 76 = .ok (.iload_n 1, 1) := by decide +kernel
theorem d_M_commit_77 : decode prog_10_method_26_code 77 = .ok (.iadd, 1) := by decide +kernel
theorem d_M_commit_78 : decode prog_10_method_26_code 78 = .ok (.aload_n 0, 1) := by decide +kernel
theorem d_M_commit_79 : decode prog_10_method_26_code 79 = .ok (.getfield 76, 3) := by decide +kernel
theorem d_M_commit_82 : decode prog_10_method_26_code 82 = .ok (.invokevirtual 83, 3) := by decide +kernel
theorem d_M_commit_85 : decode prog_10_method_26_code 85 = .ok (.goto 40, 3) := by decide +kernel
theorem d_M_commit_88 : decode prog_10_method_26_code 88 = .ok (.iload_n 3, 1) := by decide +kernel
theorem d_M_commit_89 : decode prog_10_method_26_code 89 = .ok (.iload_n 2, 1) := by decide +kernel
theorem d_M_commit_90 : decode prog_10_method_26_code 90 = .ok (.if_icmp .eq 35, 3) := by decide +kernel
theorem d_M_commit_93 : decode prog_10_method_26_code 93 = .ok (.aload_n 0, 1) := by decide +kernel
theorem d_M_commit_94 : decode prog_10_method_26_code 94 = .ok (.iload_n 1, 1) := by decide +kernel
theorem d_M_commit_95 : decode prog_10_method_26_code 95 = .ok (.iconst 0, 1) := by decide +kernel
theorem d_M_commit_96 : decode prog_10_method_26_code 96 = .ok (.invokevirtual 134, 3) := by decide +kernel
theorem d_M_commit_99 : decode prog_10_method_26_code 99 = .ok (.istore 5, 2) := by decide +kernel
theorem d_M_commit_101 : decode prog_10_method_26_code 101 = .ok (.iload 5, 2) := by decide +kernel
theorem d_M_commit_103 : decode prog_10_method_26_code 103 = .ok (.ifCond .lt 9, 3) := by decide +kernel
theorem d_M_commit_106 : decode prog_10_method_26_code 106 = .ok (.bipush (-2), 2) := by decide +kernel
theorem d_M_commit_108 : decode prog_10_method_26_code 108 = .ok (.iload 5, 2) := by decide +kernel
theorem d_M_commit_110 : decode prog_10_method_26_code 110 = .ok (.isub, 1) := by decide +kernel
theorem d_M_commit_111 : decode prog_10_method_26_code 111 = .ok (.ireturn, 1) := by decide +kernel
theorem d_M_commit_112 : decode prog_10_method_26_code 112 = .ok (.aload_n 0, 1) := by decide +kernel
theorem d_M_commit_113 : decode prog_10_method_26_code 113 = .ok (.iload_n 1, 1) := by decide +kernel
theorem d_M_commit_114 : decode prog_10_method_26_code 114 = .ok (.iconst 1, 1) := by decide +kernel
theorem d_M_commit_115 : decode prog_10_method_26_code 115 = .ok (.invokevirtual 134, 3) := by decide +kernel
theorem d_M_commit_118 : decode prog_10_method_26_code 118 = .ok (.pop, 1) := by decide +kernel
theorem d_M_commit_119 : decode prog_10_method_26_code 119 = .ok (.aload_n 0, 1) := by decide +kernel
theorem d_M_commit_120 : decode prog_10_method_26_code 120 = .ok (.iload_n 1, 1) := by decide +kernel
theorem d_M_commit_121 : decode prog_10_method_26_code 121 = .ok (.iconst 0, 1) := by decide +kernel
theorem d_M_commit_122 : decode prog_10_method_26_code 122 = .ok (.invokevirtual 124, 3) := by decide +kernel
theorem d_M_commit_125 : decode prog_10_method_26_code 125 = .ok (.aload_n 0, 1) := by decide +kernel
theorem d_M_commit_126 : decode prog_10_method_26_code 126 = .ok (.dup, 1) := by decide +kernel
theorem d_M_commit_127 : decode prog_10_method_26_code 127 = .ok (.getfield 76, 3) := by decide +kernel
theorem d_M_commit_130 : decode prog_10_method_26_code 130 = .ok (.iconst 1, 1) := by decide +kernel
theorem d_M_commit_131 : decode prog_10_method_26_code 131 = .ok (.iadd, 1) := by decide +kernel
theorem d_M_commit_132 : decode prog_10_method_26_code 132 = .ok (.putfield 76, 3) := by decide +kernel
theorem d_M_commit_135 : decode prog_10_method_26_code 135 = .ok (.aload_n 0, 1) := by decide +kernel
theorem d_M_commit_136 : decode prog_10_method_26_code 136 = .ok (.aload_n 0, 1) := by decide +kernel
theorem d_M_commit_137 : decode prog_10_method_26_code 137 = .ok (.getfield 76, 3) := by decide +kernel
theorem d_M_commit_140 : decode prog_10_method_26_code 140 = .ok (.bipush 16, 2) := by decide +kernel
theorem d_M_commit_142 : decode prog_10_method_26_code 142 = .ok (.iload_n 1, 1) := by decide +kernel
theorem d_M_commit_143 : decode prog_10_method_26_code 143 = .ok (.iadd, 1) := by decide +kernel
theorem d_M_commit_144 : decode prog_10_method_26_code 144 = .ok (.invokevirtual 83, 3) := by decide +kernel
theorem d_M_commit_147 : decode prog_10_method_26_code 147 = .ok (.aload_n 0, 1) := by decide +kernel
theorem d_M_commit_148 : decode prog_10_method_26_code 148 = .ok (.getfield 13, 3) := by decide +kernel
theorem d_M_commit_151 : decode prog_10_method_26_code 151 = .ok (.iload_n 1, 1) := by decide +kernel
theorem d_M_commit_152 : decode prog_10_method_26_code 152 = .ok (.iconst 0, 1) := by decide +kernel
theorem d_M_commit_153 : decode prog_10_method_26_code 153 = .ok (.bastore, 1) := by decide +kernel
theorem d_M_commit_154 : decode prog_10_method_26_code 154 = .ok (.iconst 0, 1) := by decide +kernel
theorem d_M_commit_155 : decode prog_10_method_26_code 155 = .ok (.istore 5, 2) := by decide +kernel
theorem d_M_commit_157 : decode prog_10_method_26_code 157 = .ok (.iload 5, 2) := by decide +kernel
theorem d_M_commit_159 : decode prog_10_method_26_code 159 = .ok (.bipush 125, 2) := by decide +kernel
theorem d_M_commit_161 : decode prog_10_method_26_code 161 = .ok (.if_icmp .ge 75, 3) := by decide +kernel
theorem d_M_commit_164 : decode prog_10_method_26_code 164 = .ok (.aload_n 0, 1) := by decide +kernel
theorem d_M_commit_165 : decode prog_10_method_26_code 165 = .ok (.aload_n 0, 1) := by decide +kernel
theorem d_M_commit_166 : decode prog_10_method_26_code 166 = .ok (.getfield 76, 3) := by decide +kernel
theorem d_M_commit_169 : decode prog_10_method_26_code 169 = .ok (.iload 5, 2) := by decide +kernel
theorem d_M_commit_171 : decode prog_10_method_26_code 171 = .ok (.invokevirtual 87, 3) := by decide +kernel
theorem d_M_commit_174 : decode prog_10_method_26_code 174 = .ok (.istore 6, 2) := by decide +kernel
theorem d_M_commit_176 : decode prog_10_method_26_code 176 = .ok (.iload 6, 2) := by decide +kernel
theorem d_M_commit_178 : decode prog_10_method_26_code 178 = .ok (.ifCond .le 52, 3) := by decide +kernel
theorem d_M_commit_181 : decode prog_10_method_26_code 181 = .ok (.aload_n 0, 1) := by decide +kernel
theorem d_M_commit_182 : decode prog_10_method_26_code 182 = .ok (.getfield 41, 3) := by decide +kernel
theorem d_M_commit_185 : decode prog_10_method_26_code 185 = .ok (.iload 6, 2) := by decide +kernel
theorem d_M_commit_187 : decode prog_10_method_26_code 187 = .ok (.baload, 1) := by decide +kernel
theorem d_M_commit_188 : decode prog_10_method_26_code 188 = .ok (.ifCond .ge 42, 3) := by decide +kernel
theorem d_M_commit_191 : decode prog_10_method_26_code 191 = .ok (.aload_n 0, 1) := by decide +kernel
theorem d_M_commit_192 : decode prog_10_method_26_code 192 = .ok (.getfield 41, 3) := by decide +kernel
theorem d_M_commit_195 : decode prog_10_method_26_code 195 = .ok (.iload 6, 2) := by decide +kernel
theorem d_M_commit_197 : decode prog_10_method_26_code 197 = .ok (.aload_n 0, 1) := by decide +kernel
theorem d_M_commit_198 : decode prog_10_method_26_code 198 = .ok (.getfield 76, 3) := by decide +kernel
theorem d_M_commit_201 : decode prog_10_method_26_code 201 = .ok (.i2b, 1) := by decide +kernel
theorem d_M_commit_202 : decode prog_10_method_26_code 202 = .ok (.bastore, 1) := by decide +kernel
theorem d_M_commit_203 : decode prog_10_method_26_code 203 = .ok (.aload_n 0, 1) := by decide +kernel
theorem d_M_commit_204 : decode prog_10_method_26_code 204 = .ok (.getfield 21, 3) := by decide +kernel
theorem d_M_commit_207 : decode prog_10_method_26_code 207 = .ok (.iload 6, 2) := by decide +kernel
theorem d_M_commit_209 : decode prog_10_method_26_code 209 = .ok (.baload, 1) := by decide +kernel
theorem d_M_commit_210 : decode prog_10_method_26_code 210 = .ok (.iconst 2, 1) := by decide +kernel
theorem d_M_commit_211 : decode prog_10_method_26_code 211 = .ok (.if_icmp .ne 19, 3) := by decide +kernel
theorem d_M_commit_214 : decode prog_10_method_26_code 214 = .ok (.aload_n 0, 1) := by decide +kernel
theorem d_M_commit_215 : decode prog_10_method_26_code 215 = .ok (.getfield 28, 3) := by decide +kernel
theorem d_M_commit_218 : decode prog_10_method_26_code 218 = .ok (.iload 6, 2) := by decide +kernel
theorem d_M_commit_220 : decode prog_10_method_26_code 220 = .ok (.baload, 1) := by decide +kernel
theorem d_M_commit_221 : decode prog_10_method_26_code 221 = .ok (.ifCond .eq 9, 3) := by decide +kernel
theorem d_M_commit_224 : decode prog_10_method_26_code 224 = .ok (.aload_n 0, 1) := by decide +kernel
theorem d_M_commit_225 : decode prog_10_method_26_code 225 = .ok (.iload 6, 2) := by decide +kernel
theorem d_M_commit_227 : decode prog_10_method_26_code 227 = .ok (.invokevirtual 138, 3) := by decide +kernel
theorem d_M_commit_230 : decode prog_10_method_26_code 230 = .ok (.iinc 5 1, 3) := by decide +kernel
theorem d_M_commit_233 : decode prog_10_method_26_code 233 = .ok (.goto (-76), 3) := by decide +kernel
theorem d_M_commit_236 : decode prog_10_method_26_code 236 = .ok (.aload_n 0, 1) := by decide +kernel
theorem d_M_commit_237 : decode prog_10_method_26_code 237 = .ok (.getfield 76, 3) := by decide +kernel
theorem d_M_commit_240 : decode prog_10_method_26_code 240 = .ok (.ireturn, 1) := by decide +kernel
set_option maxHeartbeats 4000000 in
set_option maxRecDepth 100000 in
theorem c_M_commit {l : Launch} {E : Ev} {σ : SS} {ad : Nat → Nat} (hI : rfI ad) (hB : rB σ) {sz : Nat} {x : Int32} (hMJ : cmb σ (tx x) = true → MJ σ (tx x) 100) (hSS : cmb σ (tx x) = true → (cm1 σ (tx x)).1 1 0 ≤ 14 ∧ ((cm1 σ (tx x)).2 = 125 → SJ (cm2 (cm1 σ (tx x)).1 (tx x)) ∧ ∀ i, i < 125 → (slf i 0 (cm2 (cm1 σ (tx x)).1 (tx x))) 16 0 < 512)) : MCi l E y_M_commit prog_10_method_26_code 7 (some .int) 5 118 0 0 [.ref (ad 0), .int x] (rfM E σ ad) sz (fun r M' => r = cmA σ (tx x) ∧ M' = rfM E (cmO σ (tx x)) ad ∧ rB (cmO σ (tx x))) := by
  refine mc_of R_M rfl [some (.ref (ad 0)), some (.int x), none, none, none, none, none] (by decide) (Nat.le_of_ble_eq_true rfl) rfl ?_
  intro p e R s m ag below meth c ls Q A X hAe hQ hR hsz hw hl
  rw [← hAe] at hQ
  obtain ⟨⟨hx, hb, hml, hown, hts⟩, hE, hA, hr, hlk, hnm⟩ := X
  have hK := hE.1
  first | refine x_aload_n hx hb d_M_commit_0 hl rfl ?_ | refine x_aload_nQ hx hb d_M_commit_0 hl rfl ?_
  refine x_iload_n hx hb d_M_commit_1 hl rfl ?_
  refine m_calli (k_V ⟨hx, hb, hml, hown, hts⟩ hE hA hw (c_M_isOpen hI hB) (ci_M).1 rfl (rf_at hI 0 (by decide) rfl) (wm3 157 rfl rfl) (wm3 159 rfl rfl) (wmp2 6 rfl) (wm1 9 rfl rfl) (wm3 160 rfl rfl) rfl rfl ar_M_isOpen ⟨Nat.le_trans (Nat.le_of_ble_eq_true rfl) hR.1, Nat.le_trans (Nat.le_of_ble_eq_true rfl) hR.2.1⟩ rfl hl.1 rfl (Nat.le_of_ble_eq_true rfl) d_M_commit_2 ⟨Nat.le_trans (Nat.le_of_ble_eq_true rfl) hR.2.2.1, Nat.le_trans (Nat.le_of_ble_eq_true rfl) hR.2.2.2⟩) hw (mfr_in hw hA) (fun r2 M2 H locs hP2 hw => ?_)
  obtain ⟨rfl, hM2⟩ := hP2
  rw [hM2] at hw
  refine x_if_eqB hx hb d_M_commit_5 rfl (fun h5 => ?_) (fun h5 => ?_)
  · refine lv_iconst (v := -1) hx hb d_M_commit_17 (by decide) ?_
    exact x_reti hQ hx hb hr hlk rfl hw (by omega) (by omega) d_M_commit_18 (by first | (rw [cmA_f (cmb_1 h5), cmO_f (cmb_1 h5)]; exact ⟨rfl, rfl, hB⟩) | (rw [tx_n ht, cmA_f (cmb_2 h14), cmO_f (cmb_2 h14)]; exact ⟨rfl, rfl, hB⟩))
  · obtain ⟨t, ht, rfl, ho⟩ := opb_of h5
    first | refine x_aload_n hx hb d_M_commit_8 hl rfl ?_ | refine x_aload_nQ hx hb d_M_commit_8 hl rfl ?_
    refine m_get hx hb hts hown hK hw ci_M (rf_at hI 0 (by decide) rfl) 1 (by decide) (wm3 73 rfl rfl) rfl d_M_commit_9 ?_
    have hs9 := hB 1 0 (by decide) (by decide)
    refine lv_bipush (v := nI 15) hx hb d_M_commit_12 (by decide) ?_
    refine x_icmp_ne hx hb d_M_commit_14 rfl (by omega) (by omega) (fun h14 => ?_) (fun h14 => ?_)
    · have hcm := cmb_t (opb_t ht ho) h14
      rw [tx_n ht] at hMJ hSS
      have hM9 := hMJ hcm
      obtain ⟨hy14, hS0⟩ := hSS hcm
      have hy := hM9.2.2.1
      have hb3 := hM9.2.2.2.1
      have loop : ∀ (u p0 : Nat) (τ : SS) (H : Heap) (locs : List Loc) (ls : Array Slot), p0 + u = 125 → SJ τ → (∀ i, i < u → (slf i p0 τ) 16 0 < 512) → mw E.1 vwCl A s.heap (rfM E τ ad) H locs → lh ls [some (.ref (ad 0)), some (.int (nI t)), none, none, none, some (.int (nI p0)), none] → slf u p0 τ = slf 125 0 (cm2 (cm1 σ t).1 t) → (cm1 σ t).2 = 125 → W p l e R s m ag below meth c H locs 0 0 Q (F0 m 157 ls []) := by
        intro u
        induction u with
        | zero =>
          intro p0 τ H locs ls hu hJ hS hw hl hF h125
          have hB := hJ.1
          refine x_iload hx hb d_M_commit_157 hl rfl ?_
          refine lv_bipush (v := nI 125) hx hb d_M_commit_159 (by decide) ?_
          refine x_icmp_ge hx hb d_M_commit_161 rfl (by omega) (by omega) (fun h161 => ?_) (fun h161 => ?_)
          · first | refine x_aload_n hx hb d_M_commit_236 hl rfl ?_ | refine x_aload_nQ hx hb d_M_commit_236 hl rfl ?_
            refine m_get hx hb hts hown hK hw ci_M (rf_at hI 0 (by decide) rfl) 1 (by decide) (wm3 73 rfl rfl) rfl d_M_commit_237 ?_
            have hs237 := hB 1 0 (by decide) (by decide)
            exact x_reti hQ hx hb hr hlk rfl hw (by omega) (by omega) d_M_commit_240 (by rw [tx_n ht, cmA_t hcm h125, cmO_t hcm h125, ← hF]; exact ⟨rfl, rfl, hJ.1⟩)
          · exact absurd h161 (by omega)
        | succ u ih =>
          intro p0 τ H locs ls hu hJ hS hw hl hF h125
          have hB := hJ.1
          have hs16 : τ 16 0 < 512 := hS 0 (by omega)
          refine x_iload hx hb d_M_commit_157 hl rfl ?_
          refine lv_bipush (v := nI 125) hx hb d_M_commit_159 (by decide) ?_
          refine x_icmp_ge hx hb d_M_commit_161 rfl (by omega) (by omega) (fun h161 => ?_) (fun h161 => ?_)
          · exact absurd h161 (by omega)
          · first | refine x_aload_n hx hb d_M_commit_164 hl rfl ?_ | refine x_aload_nQ hx hb d_M_commit_164 hl rfl ?_
            first | refine x_aload_n hx hb d_M_commit_165 hl rfl ?_ | refine x_aload_nQ hx hb d_M_commit_165 hl rfl ?_
            refine m_get (v := .int (nI (τ 1 0))) hx hb hts hown hK hw ci_M (rf_at hI 0 (by decide) rfl) 1 (by decide) (wm3 73 rfl rfl) rfl d_M_commit_166 ?_
            refine x_iload hx hb d_M_commit_169 hl rfl ?_
            refine m_calli (k_V ⟨hx, hb, hml, hown, hts⟩ hE hA hw (c_M_atN hI hB (show τ 1 0 < 19 by have := hJ.2.2.2.2.2.2.2.2.2; omega) (by omega)) (ci_M).1 rfl (rf_at hI 0 (by decide) rfl) (wm3 164 rfl rfl) (wm3 166 rfl rfl) (wmp2 7 rfl) (wm1 9 rfl rfl) (wm3 167 rfl rfl) rfl rfl ar_M_at ⟨Nat.le_trans (Nat.le_of_ble_eq_true rfl) hR.1, Nat.le_trans (Nat.le_of_ble_eq_true rfl) hR.2.1⟩ rfl hl.1 rfl (Nat.le_of_ble_eq_true rfl) d_M_commit_171 ⟨Nat.le_trans (Nat.le_of_ble_eq_true rfl) hR.2.2.1, Nat.le_trans (Nat.le_of_ble_eq_true rfl) hR.2.2.2⟩) hw (mfr_in hw hA) (fun r171 M171 H locs hP171 hw => ?_)
            obtain ⟨⟨rfl, hb171⟩, hM171⟩ := hP171
            rw [hM171] at hw
            have hN2 := rat_N (k := τ 1 0) (p := p0) hJ.2.1
            have hy2 := hJ.2.2.2.2.2.2.2.2.2
            refine x_istore hx hb d_M_commit_174 hl (Nat.le_of_ble_eq_true rfl) (lh_k (i := 5) rfl (by first | exact lk_n | exact lk_i | exact lk_r | exact lk_q | exact lk_0)) (fun ls hl => ?_)
            refine x_iload hx hb d_M_commit_176 hl rfl ?_
            refine x_if_le hx hb d_M_commit_178 rfl (by omega) (fun h178 => ?_) (fun h178 => ?_)
            · have hsl := sl_0 (τ := τ) (p := p0) (Or.inl h178)
              refine x_iincN hx hb d_M_commit_230 hl rfl (lh_k (i := 4) rfl (by first | exact lk_n | exact lk_i | exact lk_r | exact lk_q | exact lk_0)) (fun ls hl => ?_)
              refine lv_goto hx hb d_M_commit_233 rfl ?_
              rw [← hsl] at hw
              exact ih (p0 + 1) _ H locs ls (by omega) (SJ_sl1 hJ hs16) (fun i hi => by have := hS (i + 1) (by omega); exact this) hw (lh_drop 6 hl) hF h125
            · first | refine x_aload_n hx hb d_M_commit_181 hl rfl ?_ | refine x_aload_nQ hx hb d_M_commit_181 hl rfl ?_
              refine m_get hx hb hts hown hK hw ci_M (rf_at hI 0 (by decide) rfl) 12 (by decide) (wm3 84 rfl rfl) rfl d_M_commit_182 ?_
              refine x_iload hx hb d_M_commit_185 hl rfl ?_
              refine rl_12 hx hb hK hI hB hw (by omega) d_M_commit_187 (fun hv187 => ?_)
              refine lv_if_ge hx hb d_M_commit_188 rfl (fun h188 => ?_) (fun h188 => ?_)
              · have h188 := (bI_ge (hJ.2.2.1 _)).mp h188
                have hsl := sl_0 (τ := τ) (p := p0) (Or.inr h188)
                refine x_iincN hx hb d_M_commit_230 hl rfl (lh_k (i := 4) rfl (by first | exact lk_n | exact lk_i | exact lk_r | exact lk_q | exact lk_0)) (fun ls hl => ?_)
                refine lv_goto hx hb d_M_commit_233 rfl ?_
                rw [← hsl] at hw
                exact ih (p0 + 1) _ H locs ls (by omega) (SJ_sl1 hJ hs16) (fun i hi => by have := hS (i + 1) (by omega); exact this) hw (lh_drop 6 hl) hF h125
              · have h188 : 128 ≤ τ 12 (rat τ (τ 1 0) p0) := by
                  rcases Nat.lt_or_ge (τ 12 (rat τ (τ 1 0) p0)) 128 with z | z
                  · exact absurd ((bI_ge (hJ.2.2.1 _)).mpr z) h188
                  · exact z
                first | refine x_aload_n hx hb d_M_commit_191 hl rfl ?_ | refine x_aload_nQ hx hb d_M_commit_191 hl rfl ?_
                refine m_get hx hb hts hown hK hw ci_M (rf_at hI 0 (by decide) rfl) 12 (by decide) (wm3 84 rfl rfl) rfl d_M_commit_192 ?_
                refine x_iload hx hb d_M_commit_195 hl rfl ?_
                first | refine x_aload_n hx hb d_M_commit_197 hl rfl ?_ | refine x_aload_nQ hx hb d_M_commit_197 hl rfl ?_
                refine m_get (v := .int (nI (τ 1 0))) hx hb hts hown hK hw ci_M (rf_at hI 0 (by decide) rfl) 1 (by decide) (wm3 73 rfl rfl) rfl d_M_commit_198 ?_
                first | refine x_i2b hx hb d_M_commit_201 (by omega) ?_ | refine lv_i2b hx hb d_M_commit_201 rfl ?_
                rw [← bI_n (b := τ 1 0) (by omega)]
                refine rs_12 hx hb hK hI hB hw (by omega) (by omega) d_M_commit_202 (fun H locs hw hB => ?_)
                first | refine x_aload_n hx hb d_M_commit_203 hl rfl ?_ | refine x_aload_nQ hx hb d_M_commit_203 hl rfl ?_
                refine m_get hx hb hts hown hK hw ci_M (rf_at hI 0 (by decide) rfl) 6 (by decide) (wm3 78 rfl rfl) rfl d_M_commit_204 ?_
                refine x_iload hx hb d_M_commit_207 hl rfl ?_
                refine rl_6 hx hb hK hI hB hw (by omega) d_M_commit_209 (fun hv209 => ?_)
                refine lv_iconst (v := nI 2) hx hb d_M_commit_210 (by decide) ?_
                refine x_icmp_ne hx hb d_M_commit_211 rfl (by omega) (by omega) (fun h211 => ?_) (fun h211 => ?_)
                · have hsl := sl_1 (τ := τ) (p := p0) h178 h188 (Or.inl h211)
                  refine x_iincN hx hb d_M_commit_230 hl rfl (lh_k (i := 4) rfl (by first | exact lk_n | exact lk_i | exact lk_r | exact lk_q | exact lk_0)) (fun ls hl => ?_)
                  refine lv_goto hx hb d_M_commit_233 rfl ?_
                  rw [← hsl] at hw
                  exact ih (p0 + 1) _ H locs ls (by omega) (SJ_sl1 hJ hs16) (fun i hi => by have := hS (i + 1) (by omega); exact this) hw (lh_drop 6 hl) hF h125
                · first | refine x_aload_n hx hb d_M_commit_214 hl rfl ?_ | refine x_aload_nQ hx hb d_M_commit_214 hl rfl ?_
                  refine m_get hx hb hts hown hK hw ci_M (rf_at hI 0 (by decide) rfl) 8 (by decide) (wm3 80 rfl rfl) rfl d_M_commit_215 ?_
                  refine x_iload hx hb d_M_commit_218 hl rfl ?_
                  refine rl_8 hx hb hK hI hB hw (by omega) d_M_commit_220 (fun hv220 => ?_)
                  refine x_if_eq hx hb d_M_commit_221 rfl (by omega) (fun h221 => ?_) (fun h221 => ?_)
                  · have hsl := sl_1 (τ := τ) (p := p0) h178 h188 (Or.inr h221)
                    refine x_iincN hx hb d_M_commit_230 hl rfl (lh_k (i := 4) rfl (by first | exact lk_n | exact lk_i | exact lk_r | exact lk_q | exact lk_0)) (fun ls hl => ?_)
                    refine lv_goto hx hb d_M_commit_233 rfl ?_
                    rw [← hsl] at hw
                    exact ih (p0 + 1) _ H locs ls (by omega) (SJ_sl1 hJ hs16) (fun i hi => by have := hS (i + 1) (by omega); exact this) hw (lh_drop 6 hl) hF h125
                  · have hsl := sl_2 (τ := τ) (p := p0) h178 h188 h211 h221
                    first | refine x_aload_n hx hb d_M_commit_224 hl rfl ?_ | refine x_aload_nQ hx hb d_M_commit_224 hl rfl ?_
                    refine x_iload hx hb d_M_commit_225 hl rfl ?_
                    refine m_callv (k_V ⟨hx, hb, hml, hown, hts⟩ hE hA hw (c_M_store hI hB hN2 hJ.2.2.2.1 hJ.2.2.2.2.1 hJ.2.2.2.2.2.1 (fun _ => hs16) (Nat.le_of_lt hs16) hJ.2.2.2.2.2.2.1 hJ.2.2.2.2.2.2.2.1 (hJ.2.2.2.2.2.2.2.2.1 _)) (ci_M).1 rfl (rf_at hI 0 (by decide) rfl) (wm3 231 rfl rfl) (wm3 233 rfl rfl) (wmp3 0 rfl) (wm1 9 rfl rfl) (wm3 234 rfl rfl) rfl rfl ar_M_store ⟨Nat.le_trans (Nat.le_of_ble_eq_true rfl) hR.1, Nat.le_trans (Nat.le_of_ble_eq_true rfl) hR.2.1⟩ rfl hl.1 rfl (Nat.le_of_ble_eq_true rfl) d_M_commit_227 ⟨Nat.le_trans (Nat.le_of_ble_eq_true rfl) hR.2.2.1, Nat.le_trans (Nat.le_of_ble_eq_true rfl) hR.2.2.2⟩) hw (mfr_in hw hA) (fun M227 H locs hP227 hw => ?_)
                    obtain ⟨hM227, hB⟩ := hP227
                    rw [hM227] at hw
                    refine x_iincN hx hb d_M_commit_230 hl rfl (lh_k (i := 4) rfl (by first | exact lk_n | exact lk_i | exact lk_r | exact lk_q | exact lk_0)) (fun ls hl => ?_)
                    refine lv_goto hx hb d_M_commit_233 rfl ?_
                    rw [← hsl] at hw
                    exact ih (p0 + 1) _ H locs ls (by omega) (SJ_sl1 hJ hs16) (fun i hi => by have := hS (i + 1) (by omega); exact this) hw (lh_drop 6 hl) hF h125
      have tail : ∀ (τ : SS) (H : Heap) (locs : List Loc) (ls : Array Slot), rB τ → τ 1 0 ≤ 14 → mw E.1 vwCl A s.heap (rfM E τ ad) H locs → lh ls [some (.ref (ad 0)), some (.int (nI t)), none, none, none, none, none] → (cm1 σ t).1 = τ → (cm1 σ t).2 = 125 → W p l e R s m ag below meth c H locs 0 0 Q (F0 m 125 ls []) := by
        intro τ H locs ls hB hy hw hl h1 h125
        have hcs := hS0 h125
        first | refine x_aload_n hx hb d_M_commit_125 hl rfl ?_ | refine x_aload_nQ hx hb d_M_commit_125 hl rfl ?_
        first | refine lv_dup hx hb d_M_commit_126 rfl ?_ | refine lv_dup hx hb d_M_commit_126 (va_rf_c _) ?_
        refine m_get (v := .int (nI (τ 1 0))) hx hb hts hown hK hw ci_M (rf_at hI 0 (by decide) rfl) 1 (by decide) (wm3 73 rfl rfl) rfl d_M_commit_127 ?_
        refine lv_iconst (v := nI 1) hx hb d_M_commit_130 (by decide) ?_
        first | refine x_iadd hx hb d_M_commit_131 ?_ | refine lv_iadd hx hb d_M_commit_131 ?_
        refine rp_1 hx hb hts hown hK hI hB hw (wm3 73 rfl rfl) (by omega) d_M_commit_132 (fun H locs hw hB => ?_)
        first | refine x_aload_n hx hb d_M_commit_135 hl rfl ?_ | refine x_aload_nQ hx hb d_M_commit_135 hl rfl ?_
        first | refine x_aload_n hx hb d_M_commit_136 hl rfl ?_ | refine x_aload_nQ hx hb d_M_commit_136 hl rfl ?_
        refine m_get (v := .int (nI (τ 1 0 + 1))) hx hb hts hown hK hw ci_M (rf_at hI 0 (by decide) rfl) 1 (by decide) (wm3 73 rfl rfl) rfl d_M_commit_137 ?_
        refine lv_bipush (v := nI 16) hx hb d_M_commit_140 (by decide) ?_
        refine x_iload_n hx hb d_M_commit_142 hl rfl ?_
        first | refine x_iadd hx hb d_M_commit_143 ?_ | refine lv_iadd hx hb d_M_commit_143 ?_
        refine m_callv (k_V ⟨hx, hb, hml, hown, hts⟩ hE hA hw (c_M_fill hI hB (by omega) (by omega) (by omega)) (ci_M).1 rfl (rf_at hI 0 (by decide) rfl) (wm3 145 rfl rfl) (wm3 147 rfl rfl) (wmp2 4 rfl) (wm1 9 rfl rfl) (wm3 148 rfl rfl) rfl rfl ar_M_fill ⟨Nat.le_trans (Nat.le_of_ble_eq_true rfl) hR.1, Nat.le_trans (Nat.le_of_ble_eq_true rfl) hR.2.1⟩ rfl hl.1 rfl (Nat.le_of_ble_eq_true rfl) d_M_commit_144 ⟨Nat.le_trans (Nat.le_of_ble_eq_true rfl) hR.2.2.1, Nat.le_trans (Nat.le_of_ble_eq_true rfl) hR.2.2.2⟩) hw (mfr_in hw hA) (fun M144 H locs hP144 hw => ?_)
        obtain ⟨hM144, hB⟩ := hP144
        rw [hM144] at hw
        first | refine x_aload_n hx hb d_M_commit_147 hl rfl ?_ | refine x_aload_nQ hx hb d_M_commit_147 hl rfl ?_
        refine m_get hx hb hts hown hK hw ci_M (rf_at hI 0 (by decide) rfl) 2 (by decide) (wm3 74 rfl rfl) rfl d_M_commit_148 ?_
        refine x_iload_n hx hb d_M_commit_151 hl rfl ?_
        refine lv_iconst (v := nI 0) hx hb d_M_commit_152 (by decide) ?_
        refine rs_2 hx hb hK hI hB hw (by omega) (by omega) d_M_commit_153 (fun H locs hw hB => ?_)
        refine lv_iconst (v := nI 0) hx hb d_M_commit_154 (by decide) ?_
        refine x_istore hx hb d_M_commit_155 hl (Nat.le_of_ble_eq_true rfl) (lh_k (i := 4) rfl (by first | exact lk_n | exact lk_i | exact lk_r | exact lk_q | exact lk_0)) (fun ls hl => ?_)
        rw [h1] at hcs
        rw [h1] at loop
        exact loop 125 0 _ _ _ _ (by omega) hcs.1 hcs.2 hw hl rfl h125
      first | refine x_aload_n hx hb d_M_commit_19 hl rfl ?_ | refine x_aload_nQ hx hb d_M_commit_19 hl rfl ?_
      refine m_get hx hb hts hown hK hw ci_M (rf_at hI 0 (by decide) rfl) 0 (by decide) (wm3 72 rfl rfl) rfl d_M_commit_20 ?_
      refine lv_bipush (v := nI 125) hx hb d_M_commit_23 (by decide) ?_
      first | refine x_aload_n hx hb d_M_commit_25 hl rfl ?_ | refine x_aload_nQ hx hb d_M_commit_25 hl rfl ?_
      refine m_get hx hb hts hown hK hw ci_M (rf_at hI 0 (by decide) rfl) 3 (by decide) (wm3 75 rfl rfl) rfl d_M_commit_26 ?_
      refine x_iload_n hx hb d_M_commit_29 hl rfl ?_
      refine rl_3 hx hb hK hI hB hw (by omega) d_M_commit_30 (fun hv30 => ?_)
      first | refine x_imul hx hb d_M_commit_31 ?_ | refine lv_imul hx hb d_M_commit_31 ?_
      refine rl_0 hx hb hK hI hB hw (by omega) d_M_commit_32 (fun hv32 => ?_)
      refine x_istore_n hx hb d_M_commit_33 hl (Nat.le_of_ble_eq_true rfl) (lh_k (i := 1) rfl (by first | exact lk_n | exact lk_i | exact lk_r | exact lk_q | exact lk_0)) (fun ls hl => ?_)
      first | refine x_aload_n hx hb d_M_commit_34 hl rfl ?_ | refine x_aload_nQ hx hb d_M_commit_34 hl rfl ?_
      refine m_get hx hb hts hown hK hw ci_M (rf_at hI 0 (by decide) rfl) 0 (by decide) (wm3 72 rfl rfl) rfl d_M_commit_35 ?_
      refine lv_bipush (v := nI 125) hx hb d_M_commit_38 (by decide) ?_
      first | refine x_aload_n hx hb d_M_commit_40 hl rfl ?_ | refine x_aload_nQ hx hb d_M_commit_40 hl rfl ?_
      refine m_get hx hb hts hown hK hw ci_M (rf_at hI 0 (by decide) rfl) 1 (by decide) (wm3 73 rfl rfl) rfl d_M_commit_41 ?_
      have hs41 := hB 1 0 (by decide) (by decide)
      first | refine x_imul hx hb d_M_commit_44 ?_ | refine lv_imul hx hb d_M_commit_44 ?_
      refine rl_0 hx hb hK hI hB hw (by omega) d_M_commit_45 (fun hv45 => ?_)
      refine x_istore_n hx hb d_M_commit_46 hl (Nat.le_of_ble_eq_true rfl) (lh_k (i := 2) rfl (by first | exact lk_n | exact lk_i | exact lk_r | exact lk_q | exact lk_0)) (fun ls hl => ?_)
      first | refine x_aload_n hx hb d_M_commit_47 hl rfl ?_ | refine x_aload_nQ hx hb d_M_commit_47 hl rfl ?_
      refine m_get hx hb hts hown hK hw ci_M (rf_at hI 0 (by decide) rfl) 0 (by decide) (wm3 72 rfl rfl) rfl d_M_commit_48 ?_
      refine lv_sipush (v := nI 2000) hx hb d_M_commit_51 (by decide) ?_
      refine lv_bipush (v := nI 125) hx hb d_M_commit_54 (by decide) ?_
      refine x_iload_n hx hb d_M_commit_56 hl rfl ?_
      first | refine x_imul hx hb d_M_commit_57 ?_ | refine lv_imul hx hb d_M_commit_57 ?_
      first | refine x_iadd hx hb d_M_commit_58 ?_ | refine lv_iadd hx hb d_M_commit_58 ?_
      refine rl_0 hx hb hK hI hB hw (by omega) d_M_commit_59 (fun hv59 => ?_)
      refine x_istore hx hb d_M_commit_60 hl (Nat.le_of_ble_eq_true rfl) (lh_k (i := 3) rfl (by first | exact lk_n | exact lk_i | exact lk_r | exact lk_q | exact lk_0)) (fun ls hl => ?_)
      refine x_iload_n hx hb d_M_commit_62 hl rfl ?_
      refine x_iload_n hx hb d_M_commit_63 hl rfl ?_
      refine x_icmp_eq hx hb d_M_commit_64 rfl (by omega) (by omega) (fun h64 => ?_) (fun h64 => ?_)
      · have hc1 := cm1_s h64
        refine x_iload_n hx hb d_M_commit_88 hl rfl ?_
        refine x_iload_n hx hb d_M_commit_89 hl rfl ?_
        refine x_icmp_eq hx hb d_M_commit_90 rfl (by omega) (by omega) (fun h90 => ?_) (fun h90 => ?_)
        · first
            | exact absurd h90 (by omega)
            | have hyt : (cm1 σ t).1 1 0 ≤ 14 := hy14
              rw [hc1] at hyt
              exact tail _ H locs ls hB hyt hw (lh_drop 2 (lh_drop 3 (lh_drop 4 (lh_drop 5 hl)))) (by rw [hc1]) (by rw [hc1])
        · first
            | exact absurd h90 (by omega)
            | first | refine x_aload_n hx hb d_M_commit_93 hl rfl ?_ | refine x_aload_nQ hx hb d_M_commit_93 hl rfl ?_
              refine x_iload_n hx hb d_M_commit_94 hl rfl ?_
              refine lv_iconst (v := nI 0) hx hb d_M_commit_95 (by decide) ?_
              refine m_calli (k_V ⟨hx, hb, hml, hown, hts⟩ hE hA hw (c_M_merge (d := false) hI hB (by omega) hM9) (ci_M).1 rfl (rf_at hI 0 (by decide) rfl) (wm3 211 rfl rfl) (wm3 213 rfl rfl) (wmp2 11 rfl) (wm1 9 rfl rfl) (wm3 214 rfl rfl) rfl rfl ar_M_merge ⟨Nat.le_trans (Nat.le_of_ble_eq_true rfl) hR.1, Nat.le_trans (Nat.le_of_ble_eq_true rfl) hR.2.1⟩ rfl hl.1 rfl (Nat.le_of_ble_eq_true rfl) d_M_commit_96 ⟨Nat.le_trans (Nat.le_of_ble_eq_true rfl) hR.2.2.1, Nat.le_trans (Nat.le_of_ble_eq_true rfl) hR.2.2.2⟩) hw (mfr_in hw hA) (fun r96 M96 H locs hP96 hw => ?_)
              obtain ⟨rfl, hM96, hB⟩ := hP96
              rw [hM96, mg1_f] at hw
              rw [mg1_f] at hB
              refine x_istore hx hb d_M_commit_99 hl (Nat.le_of_ble_eq_true rfl) (lh_k (i := 4) rfl (by first | exact lk_n | exact lk_i | exact lk_r | exact lk_q | exact lk_0)) (fun ls hl => ?_)
              refine x_iload hx hb d_M_commit_101 hl rfl ?_
              refine lv_if_lt hx hb d_M_commit_103 rfl (fun h103 => ?_) (fun h103 => ?_)
              · have h103 := mI_lt (by have := mg1_2 (t := t) (d := false) 4 σ; omega) h103
                have hc1 := cm1_j h64 h70 h103
                first | refine x_aload_n hx hb d_M_commit_112 hl rfl ?_ | refine x_aload_nQ hx hb d_M_commit_112 hl rfl ?_
                refine x_iload_n hx hb d_M_commit_113 hl rfl ?_
                refine lv_iconst (v := nI 1) hx hb d_M_commit_114 (by decide) ?_
                refine m_calli (k_V ⟨hx, hb, hml, hown, hts⟩ hE hA hw (c_M_merge (d := true) hI hB (by omega) hM9) (ci_M).1 rfl (rf_at hI 0 (by decide) rfl) (wm3 211 rfl rfl) (wm3 213 rfl rfl) (wmp2 11 rfl) (wm1 9 rfl rfl) (wm3 214 rfl rfl) rfl rfl ar_M_merge ⟨Nat.le_trans (Nat.le_of_ble_eq_true rfl) hR.1, Nat.le_trans (Nat.le_of_ble_eq_true rfl) hR.2.1⟩ rfl hl.1 rfl (Nat.le_of_ble_eq_true rfl) d_M_commit_115 ⟨Nat.le_trans (Nat.le_of_ble_eq_true rfl) hR.2.2.1, Nat.le_trans (Nat.le_of_ble_eq_true rfl) hR.2.2.2⟩) hw (mfr_in hw hA) (fun r115 M115 H locs hP115 hw => ?_)
                obtain ⟨rfl, hM115, hB⟩ := hP115
                rw [hM115] at hw
                first | refine lv_pop hx hb d_M_commit_118 rfl ?_ | refine lv_pop hx hb d_M_commit_118 (va_rf_c _) ?_
                have hM8 := MJ_1 (t := t) (d := true) 4 100 σ (by omega) hM9
                first | refine x_aload_n hx hb d_M_commit_119 hl rfl ?_ | refine x_aload_nQ hx hb d_M_commit_119 hl rfl ?_
                refine x_iload_n hx hb d_M_commit_120 hl rfl ?_
                refine lv_iconst (v := nI 0) hx hb d_M_commit_121 (by decide) ?_
                refine m_callv (k_V ⟨hx, hb, hml, hown, hts⟩ hE hA hw (c_M_join (q := 0) hI hB (by omega) (by omega) (by have := hM8.2.2.2.2 ((mg1 t true 4 σ).1 0 (125 * (mg1 t true 4 σ).1 1 0 + 0)); omega) hM8.2.2.1 hM8.2.1) (ci_M).1 rfl (rf_at hI 0 (by decide) rfl) (wm3 227 rfl rfl) (wm3 229 rfl rfl) (wmp2 15 rfl) (wm1 9 rfl rfl) (wm3 230 rfl rfl) rfl rfl ar_M_join ⟨Nat.le_trans (Nat.le_of_ble_eq_true rfl) hR.1, Nat.le_trans (Nat.le_of_ble_eq_true rfl) hR.2.1⟩ rfl hl.1 rfl (Nat.le_of_ble_eq_true rfl) d_M_commit_122 ⟨Nat.le_trans (Nat.le_of_ble_eq_true rfl) hR.2.2.1, Nat.le_trans (Nat.le_of_ble_eq_true rfl) hR.2.2.2⟩) hw (mfr_in hw hA) (fun M122 H locs hP122 hw => ?_)
                obtain ⟨hM122, hB⟩ := hP122
                rw [hM122] at hw
                have hyt : (cm1 σ t).1 1 0 ≤ 14 := hy14
                rw [hc1] at hyt
                exact tail _ H locs ls hB hyt hw (lh_drop 2 (lh_drop 3 (lh_drop 4 (lh_drop 5 hl)))) (by rw [hc1]) (by rw [hc1])
              · have h103 := mI_nlt h103
                have hc1 := cm1_c h64 h70 h103
                rw [mI_n h103] at hl
                have h2 : (cm1 σ t).2 ≠ 125 := by rw [hc1]; exact h103
                refine lv_bipush (v := (-2)) hx hb d_M_commit_106 (by decide) ?_
                refine x_iload hx hb d_M_commit_108 hl rfl ?_
                refine lv_isub hx hb d_M_commit_110 ?_
                exact x_reti hQ hx hb hr hlk rfl hw (by omega) (by omega) d_M_commit_111 (by rw [tx_n ht, cmA_c hcm h2, cmO_c hcm h2, hc1]; exact ⟨rfl, rfl, hB⟩)
      · refine x_iload hx hb d_M_commit_67 hl rfl ?_
        refine x_iload_n hx hb d_M_commit_69 hl rfl ?_
        refine x_icmp_ne hx hb d_M_commit_70 rfl (by omega) (by omega) (fun h70 => ?_) (fun h70 => ?_)
        · skip
          refine x_iload_n hx hb d_M_commit_88 hl rfl ?_
          refine x_iload_n hx hb d_M_commit_89 hl rfl ?_
          refine x_icmp_eq hx hb d_M_commit_90 rfl (by omega) (by omega) (fun h90 => ?_) (fun h90 => ?_)
          · first
              | exact absurd h90 (by omega)
              | have hyt : (cm1 σ t).1 1 0 ≤ 14 := hy14
                rw [hc1] at hyt
                exact tail _ H locs ls hB hyt hw (lh_drop 2 (lh_drop 3 (lh_drop 4 (lh_drop 5 hl)))) (by rw [hc1]) (by rw [hc1])
          · first
              | exact absurd h90 (by omega)
              | first | refine x_aload_n hx hb d_M_commit_93 hl rfl ?_ | refine x_aload_nQ hx hb d_M_commit_93 hl rfl ?_
                refine x_iload_n hx hb d_M_commit_94 hl rfl ?_
                refine lv_iconst (v := nI 0) hx hb d_M_commit_95 (by decide) ?_
                refine m_calli (k_V ⟨hx, hb, hml, hown, hts⟩ hE hA hw (c_M_merge (d := false) hI hB (by omega) hM9) (ci_M).1 rfl (rf_at hI 0 (by decide) rfl) (wm3 211 rfl rfl) (wm3 213 rfl rfl) (wmp2 11 rfl) (wm1 9 rfl rfl) (wm3 214 rfl rfl) rfl rfl ar_M_merge ⟨Nat.le_trans (Nat.le_of_ble_eq_true rfl) hR.1, Nat.le_trans (Nat.le_of_ble_eq_true rfl) hR.2.1⟩ rfl hl.1 rfl (Nat.le_of_ble_eq_true rfl) d_M_commit_96 ⟨Nat.le_trans (Nat.le_of_ble_eq_true rfl) hR.2.2.1, Nat.le_trans (Nat.le_of_ble_eq_true rfl) hR.2.2.2⟩) hw (mfr_in hw hA) (fun r96 M96 H locs hP96 hw => ?_)
                obtain ⟨rfl, hM96, hB⟩ := hP96
                rw [hM96, mg1_f] at hw
                rw [mg1_f] at hB
                refine x_istore hx hb d_M_commit_99 hl (Nat.le_of_ble_eq_true rfl) (lh_k (i := 4) rfl (by first | exact lk_n | exact lk_i | exact lk_r | exact lk_q | exact lk_0)) (fun ls hl => ?_)
                refine x_iload hx hb d_M_commit_101 hl rfl ?_
                refine lv_if_lt hx hb d_M_commit_103 rfl (fun h103 => ?_) (fun h103 => ?_)
                · have h103 := mI_lt (by have := mg1_2 (t := t) (d := false) 4 σ; omega) h103
                  have hc1 := cm1_j h64 h70 h103
                  first | refine x_aload_n hx hb d_M_commit_112 hl rfl ?_ | refine x_aload_nQ hx hb d_M_commit_112 hl rfl ?_
                  refine x_iload_n hx hb d_M_commit_113 hl rfl ?_
                  refine lv_iconst (v := nI 1) hx hb d_M_commit_114 (by decide) ?_
                  refine m_calli (k_V ⟨hx, hb, hml, hown, hts⟩ hE hA hw (c_M_merge (d := true) hI hB (by omega) hM9) (ci_M).1 rfl (rf_at hI 0 (by decide) rfl) (wm3 211 rfl rfl) (wm3 213 rfl rfl) (wmp2 11 rfl) (wm1 9 rfl rfl) (wm3 214 rfl rfl) rfl rfl ar_M_merge ⟨Nat.le_trans (Nat.le_of_ble_eq_true rfl) hR.1, Nat.le_trans (Nat.le_of_ble_eq_true rfl) hR.2.1⟩ rfl hl.1 rfl (Nat.le_of_ble_eq_true rfl) d_M_commit_115 ⟨Nat.le_trans (Nat.le_of_ble_eq_true rfl) hR.2.2.1, Nat.le_trans (Nat.le_of_ble_eq_true rfl) hR.2.2.2⟩) hw (mfr_in hw hA) (fun r115 M115 H locs hP115 hw => ?_)
                  obtain ⟨rfl, hM115, hB⟩ := hP115
                  rw [hM115] at hw
                  first | refine lv_pop hx hb d_M_commit_118 rfl ?_ | refine lv_pop hx hb d_M_commit_118 (va_rf_c _) ?_
                  have hM8 := MJ_1 (t := t) (d := true) 4 100 σ (by omega) hM9
                  first | refine x_aload_n hx hb d_M_commit_119 hl rfl ?_ | refine x_aload_nQ hx hb d_M_commit_119 hl rfl ?_
                  refine x_iload_n hx hb d_M_commit_120 hl rfl ?_
                  refine lv_iconst (v := nI 0) hx hb d_M_commit_121 (by decide) ?_
                  refine m_callv (k_V ⟨hx, hb, hml, hown, hts⟩ hE hA hw (c_M_join (q := 0) hI hB (by omega) (by omega) (by have := hM8.2.2.2.2 ((mg1 t true 4 σ).1 0 (125 * (mg1 t true 4 σ).1 1 0 + 0)); omega) hM8.2.2.1 hM8.2.1) (ci_M).1 rfl (rf_at hI 0 (by decide) rfl) (wm3 227 rfl rfl) (wm3 229 rfl rfl) (wmp2 15 rfl) (wm1 9 rfl rfl) (wm3 230 rfl rfl) rfl rfl ar_M_join ⟨Nat.le_trans (Nat.le_of_ble_eq_true rfl) hR.1, Nat.le_trans (Nat.le_of_ble_eq_true rfl) hR.2.1⟩ rfl hl.1 rfl (Nat.le_of_ble_eq_true rfl) d_M_commit_122 ⟨Nat.le_trans (Nat.le_of_ble_eq_true rfl) hR.2.2.1, Nat.le_trans (Nat.le_of_ble_eq_true rfl) hR.2.2.2⟩) hw (mfr_in hw hA) (fun M122 H locs hP122 hw => ?_)
                  obtain ⟨hM122, hB⟩ := hP122
                  rw [hM122] at hw
                  have hyt : (cm1 σ t).1 1 0 ≤ 14 := hy14
                  rw [hc1] at hyt
                  exact tail _ H locs ls hB hyt hw (lh_drop 2 (lh_drop 3 (lh_drop 4 (lh_drop 5 hl)))) (by rw [hc1]) (by rw [hc1])
                · have h103 := mI_nlt h103
                  have hc1 := cm1_c h64 h70 h103
                  rw [mI_n h103] at hl
                  have h2 : (cm1 σ t).2 ≠ 125 := by rw [hc1]; exact h103
                  refine lv_bipush (v := (-2)) hx hb d_M_commit_106 (by decide) ?_
                  refine x_iload hx hb d_M_commit_108 hl rfl ?_
                  refine lv_isub hx hb d_M_commit_110 ?_
                  exact x_reti hQ hx hb hr hlk rfl hw (by omega) (by omega) d_M_commit_111 (by rw [tx_n ht, cmA_c hcm h2, cmO_c hcm h2, hc1]; exact ⟨rfl, rfl, hB⟩)
        · have hc1 := cm1_f h64 h70
          first | refine x_aload_n hx hb d_M_commit_73 hl rfl ?_ | refine x_aload_nQ hx hb d_M_commit_73 hl rfl ?_
          refine lv_bipush (v := nI 16) hx hb d_M_commit_74 (by decide) ?_
          refine x_iload_n hx hb d_M_commit_76 hl rfl ?_
          first | refine x_iadd hx hb d_M_commit_77 ?_ | refine lv_iadd hx hb d_M_commit_77 ?_
          first | refine x_aload_n hx hb d_M_commit_78 hl rfl ?_ | refine x_aload_nQ hx hb d_M_commit_78 hl rfl ?_
          refine m_get hx hb hts hown hK hw ci_M (rf_at hI 0 (by decide) rfl) 1 (by decide) (wm3 73 rfl rfl) rfl d_M_commit_79 ?_
          have hs79 := hB 1 0 (by decide) (by decide)
          refine m_callv (k_V ⟨hx, hb, hml, hown, hts⟩ hE hA hw (c_M_fill hI hB (by omega) (by omega) (by omega)) (ci_M).1 rfl (rf_at hI 0 (by decide) rfl) (wm3 145 rfl rfl) (wm3 147 rfl rfl) (wmp2 4 rfl) (wm1 9 rfl rfl) (wm3 148 rfl rfl) rfl rfl ar_M_fill ⟨Nat.le_trans (Nat.le_of_ble_eq_true rfl) hR.1, Nat.le_trans (Nat.le_of_ble_eq_true rfl) hR.2.1⟩ rfl hl.1 rfl (Nat.le_of_ble_eq_true rfl) d_M_commit_82 ⟨Nat.le_trans (Nat.le_of_ble_eq_true rfl) hR.2.2.1, Nat.le_trans (Nat.le_of_ble_eq_true rfl) hR.2.2.2⟩) hw (mfr_in hw hA) (fun M82 H locs hP82 hw => ?_)
          obtain ⟨hM82, hB⟩ := hP82
          rw [hM82] at hw
          refine lv_goto hx hb d_M_commit_85 rfl ?_
          have hyt : (cm1 σ t).1 1 0 ≤ 14 := hy14
          rw [hc1] at hyt
          exact tail _ H locs ls hB hyt hw (lh_drop 2 (lh_drop 3 (lh_drop 4 (lh_drop 5 hl)))) (by rw [hc1]) (by rw [hc1])
    · refine lv_iconst (v := -1) hx hb d_M_commit_17 (by decide) ?_
      exact x_reti hQ hx hb hr hlk rfl hw (by omega) (by omega) d_M_commit_18 (by first | (rw [cmA_f (cmb_1 h5), cmO_f (cmb_1 h5)]; exact ⟨rfl, rfl, hB⟩) | (rw [tx_n ht, cmA_f (cmb_2 h14), cmO_f (cmb_2 h14)]; exact ⟨rfl, rfl, hB⟩))
