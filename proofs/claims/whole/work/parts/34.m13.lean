theorem d_M_copied_0 : decode prog_10_method_39_code 0 = .ok (.iconst (-1), 1) := by decide +kernel
theorem d_M_copied_1 : decode prog_10_method_39_code 1 = .ok (.istore_n 3, 1) := by decide +kernel
theorem d_M_copied_2 : decode prog_10_method_39_code 2 = .ok (.iconst 0, 1) := by decide +kernel
theorem d_M_copied_3 : decode prog_10_method_39_code 3 = .ok (.istore 4, 2) := by decide +kernel
theorem d_M_copied_5 : decode prog_10_method_39_code 5 = .ok (.iload 4, 2) := by decide +kernel
theorem d_M_copied_7 : decode prog_10_method_39_code 7 = .ok (.iload_n 2, 1) := by decide +kernel
theorem d_M_copied_8 : decode prog_10_method_39_code 8 = .ok (.invokestatic 69, 3) := by decide +kernel
theorem d_M_copied_11 : decode prog_10_method_39_code 11 = .ok (.if_icmp .gt 60, 3) := by decide +kernel
theorem d_M_copied_14 : decode prog_10_method_39_code 14 = .ok (.iload_n 2, 1) := by decide +kernel
theorem d_M_copied_15 : decode prog_10_method_39_code 15 = .ok (.iload 4, 2) := by decide +kernel
theorem d_M_copied_17 : decode prog_10_method_39_code 17 = .ok (.invokestatic 73, 3) := by decide +kernel
theorem d_M_copied_20 : decode prog_10_method_39_code 20 = .ok (.irem, 1) := by decide +kernel
theorem d_M_copied_21 : decode prog_10_method_39_code 21 = .ok (.istore 5, 2) := by decide +kernel
theorem d_M_copied_23 : decode prog_10_method_39_code 23 = .ok (.aload_n 0, 1) := by decide +kernel
theorem d_M_copied_24 : decode prog_10_method_39_code 24 = .ok (.iload_n 1, 1) := by decide +kernel
theorem d_M_copied_25 : decode prog_10_method_39_code 25 = .ok (.iload 5, 2) := by decide +kernel
theorem d_M_copied_27 : decode prog_10_method_39_code 27 = .ok (.invokevirtual 87, 3) := by decide +kernel
theorem d_M_copied_30 : decode prog_10_method_39_code 30 = .ok (.istore 6, 2) := by decide +kernel
theorem d_M_copied_32 : decode prog_10_method_39_code 32 = .ok (.iload 6, 2) := by decide +kernel
theorem d_M_copied_34 : decode prog_10_method_39_code 34 = .ok (.ifCond .le 29, 3) := by decide +kernel
theorem d_M_copied_37 : decode prog_10_method_39_code 37 = .ok (.aload_n 0, 1) := by decide +kernel
theorem d_M_copied_38 : decode prog_10_method_39_code 38 = .ok (.getfield 47, 3) := by decide +kernel
theorem d_M_copied_41 : decode prog_10_method_39_code 41 = .ok (.iload 6, 2) := by decide +kernel
theorem d_M_copied_43 : decode prog_10_method_39_code 43 = .ok (.saload, 1) := by decide +kernel
theorem d_M_copied_44 : decode prog_10_method_39_code 44 = .ok (.ifCond .le 19, 3) := by decide +kernel
theorem d_M_copied_47 : decode prog_10_method_39_code 47 = .ok (.aload_n 0, 1) := by decide +kernel
theorem d_M_copied_48 : decode prog_10_method_39_code 48 = .ok (.getfield 41, 3) := by decide +kernel
theorem d_M_copied_51 : decode prog_10_method_39_code 51 = .ok (.iload 6, 2) := by decide +kernel
theorem d_M_copied_53 : decode prog_10_method_39_code 53 = .ok (.baload, 1) := by decide +kernel
theorem d_M_copied_54 : decode prog_10_method_39_code 54 = .ok (.iload_n 1, 1) := by decide +kernel
theorem d_M_copied_55 : decode prog_10_method_39_code 55 = .ok (.if_icmp .ne 8, 3) := by decide +kernel
theorem d_M_copied_58 : decode prog_10_method_39_code 58 = .ok (.iload 5, 2) := by decide +kernel
theorem d_M_copied_60 : decode prog_10_method_39_code 60 = .ok (.goto 4, 3) := by decide +kernel
theorem d_M_copied_63 : decode prog_10_method_39_code 63 = .ok (.iload_n 3, 1) := by decide +kernel
theorem d_M_copied_64 : decode prog_10_method_39_code 64 = .ok (.istore_n 3, 1) := by decide +kernel
theorem d_M_copied_65 : decode prog_10_method_39_code 65 = .ok (.iinc 4 1, 3) := by decide +kernel
theorem d_M_copied_68 : decode prog_10_method_39_code 68 = .ok (.goto (-63), 3) := by decide +kernel
theorem d_M_copied_71 : decode prog_10_method_39_code 71 = .ok (.iload_n 3, 1) := by decide +kernel
theorem d_M_copied_72 : decode prog_10_method_39_code 72 = .ok (.ireturn, 1) := by decide +kernel

theorem d_M_locate_0 : decode prog_10_method_40_code 0 = .ok (.iload_n 1, 1) := by decide +kernel
theorem d_M_locate_1 : decode prog_10_method_40_code 1 = .ok (.ifCond .lt 29, 3) := by decide +kernel
theorem d_M_locate_4 : decode prog_10_method_40_code 4 = .ok (.iload_n 1, 1) := by decide +kernel
theorem d_M_locate_5 : decode prog_10_method_40_code 5 = .ok (.aload_n 0, 1) := by decide +kernel
theorem d_M_locate_6 : decode prog_10_method_40_code 6 = .ok (.getfield 76, 3) := by decide +kernel
theorem d_M_locate_9 : decode prog_10_method_40_code 9 = .ok (.if_icmp .gt 21, 3) := by decide +kernel
theorem d_M_locate_12 : decode prog_10_method_40_code 12 = .ok (.iload_n 3, 1) := by decide +kernel
theorem d_M_locate_13 : decode prog_10_method_40_code 13 = .ok (.ifCond .lt 17, 3) := by decide +kernel
theorem d_M_locate_16 : decode prog_10_method_40_code 16 = .ok (.iload_n 3, 1) := by decide +kernel
theorem d_M_locate_17 : decode prog_10_method_40_code 17 = .ok (.iload_n 1, 1) := by decide +kernel
theorem d_M_locate_18 : decode prog_10_method_40_code 18 = .ok (.if_icmp .gt 12, 3) := by decide +kernel
theorem d_M_locate_21 : decode prog_10_method_40_code 21 = .ok (.aload_n 0, 1) := by decide +kernel
theorem d_M_locate_22 : decode prog_10_method_40_code 22 = .ok (.iload_n 1, 1) := by decide +kernel
theorem d_M_locate_23 : decode prog_10_method_40_code 23 = .ok (.iload_n 2, 1) := by decide +kernel
theorem d_M_locate_24 : decode prog_10_method_40_code 24 = .ok (.invokevirtual 87, 3) := by decide +kernel
theorem d_M_locate_27 : decode prog_10_method_40_code 27 = .ok (.ifCond .ne 5, 3) := by decide +kernel
theorem d_M_locate_30 : decode prog_10_method_40_code 30 = .ok (.iconst (-1), 1) := by decide +kernel
theorem d_M_locate_31 : decode prog_10_method_40_code 31 = .ok (.ireturn, 1) := by decide +kernel
theorem d_M_locate_32 : decode prog_10_method_40_code 32 = .ok (.iload_n 1, 1) := by decide +kernel
theorem d_M_locate_33 : decode prog_10_method_40_code 33 = .ok (.istore 4, 2) := by decide +kernel
theorem d_M_locate_35 : decode prog_10_method_40_code 35 = .ok (.iload_n 2, 1) := by decide +kernel
theorem d_M_locate_36 : decode prog_10_method_40_code 36 = .ok (.istore 5, 2) := by decide +kernel
theorem d_M_locate_38 : decode prog_10_method_40_code 38 = .ok (.iconst 0, 1) := by decide +kernel
theorem d_M_locate_39 : decode prog_10_method_40_code 39 = .ok (.istore 6, 2) := by decide +kernel
theorem d_M_locate_41 : decode prog_10_method_40_code 41 = .ok (.iload 6, 2) := by decide +kernel
theorem d_M_locate_43 : decode prog_10_method_40_code 43 = .ok (.bipush 16, 2) := by decide +kernel
theorem d_M_locate_45 : decode prog_10_method_40_code 45 = .ok (.if_icmp .ge 180, 3) := by decide +kernel
theorem d_M_locate_48 : decode prog_10_method_40_code 48 = .ok (.iload 4, 2) := by decide +kernel
theorem d_M_locate_50 : decode prog_10_method_40_code 50 = .ok (.iload_n 3, 1) := by decide +kernel
theorem d_M_locate_51 : decode prog_10_method_40_code 51 = .ok (.if_icmp .eq 174, 3) := by decide +kernel
theorem d_M_locate_54 : decode prog_10_method_40_code 54 = .ok (.aload_n 0, 1) := by decide +kernel
theorem d_M_locate_55 : decode prog_10_method_40_code 55 = .ok (.getfield 35, 3) := by decide +kernel
theorem d_M_locate_58 : decode prog_10_method_40_code 58 = .ok (.aload_n 0, 1) := by decide +kernel
theorem d_M_locate_59 : decode prog_10_method_40_code 59 = .ok (.iload 4, 2) := by decide +kernel
theorem d_M_locate_61 : decode prog_10_method_40_code 61 = .ok (.iload 5, 2) := by decide +kernel
theorem d_M_locate_63 : decode prog_10_method_40_code 63 = .ok (.invokevirtual 87, 3) := by decide +kernel
theorem d_M_locate_66 : decode prog_10_method_40_code 66 = .ok (.saload, 1) := by decide +kernel
theorem d_M_locate_67 : decode prog_10_method_40_code 67 = .ok (.istore 7, 2) := by decide +kernel
theorem d_M_locate_69 : decode prog_10_method_40_code 69 = .ok (.aload_n 0, 1) := by decide +kernel
theorem d_M_locate_70 : decode prog_10_method_40_code 70 = .ok (.iload 4, 2) := by decide +kernel
theorem d_M_locate_72 : decode prog_10_method_40_code 72 = .ok (.iload 5, 2) := by decide +kernel
theorem d_M_locate_74 : decode prog_10_method_40_code 74 = .ok (.invokevirtual 159, 3) := by decide +kernel
theorem d_M_locate_77 : decode prog_10_method_40_code 77 = .ok (.istore 8, 2) := by decide +kernel
theorem d_M_locate_79 : decode prog_10_method_40_code 79 = .ok (.iload 8, 2) := by decide +kernel
theorem d_M_locate_81 : decode prog_10_method_40_code 81 = .ok (.ifCond .ge 10, 3) := by decide +kernel
theorem d_M_locate_84 : decode prog_10_method_40_code 84 = .ok (.iload 4, 2) := by decide +kernel
theorem d_M_locate_86 : decode prog_10_method_40_code 86 = .ok (.iconst 1, 1) := by decide +kernel
theorem d_M_locate_87 : decode prog_10_method_40_code 87 = .ok (.isub, 1) := by decide +kernel
theorem d_M_locate_88 : decode prog_10_method_40_code 88 = .ok (.goto 21, 3) := by decide +kernel
theorem d_M_locate_91 : decode prog_10_method_40_code 91 = .ok (.aload_n 0, 1) := by decide +kernel
theorem d_M_locate_92 : decode prog_10_method_40_code 92 = .ok (.getfield 47, 3) := by decide +kernel
theorem d_M_locate_95 : decode prog_10_method_40_code 95 = .ok (.aload_n 0, 1) := by decide +kernel
theorem d_M_locate_96 : decode prog_10_method_40_code 96 = .ok (.iload 4, 2) := by decide +kernel
theorem d_M_locate_98 : decode prog_10_method_40_code 98 = .ok (.iload 8, 2) := by decide +kernel
theorem d_M_locate_100 : decode prog_10_method_40_code 100 = .ok (.invokevirtual 87, 3) := by decide +kernel
theorem d_M_locate_103 : decode prog_10_method_40_code 103 = .ok (.saload, 1) := by decide +kernel
theorem d_M_locate_104 : decode prog_10_method_40_code 104 = .ok (.iconst 1, 1) := by decide +kernel
theorem d_M_locate_105 : decode prog_10_method_40_code 105 = .ok (.isub, 1) := by decide +kernel
theorem d_M_locate_106 : decode prog_10_method_40_code 106 = .ok (.bipush 125, 2) := by decide +kernel
theorem d_M_locate_108 : decode prog_10_method_40_code 108 = .ok (.idiv, 1) := by decide +kernel
theorem d_M_locate_109 : decode prog_10_method_40_code 109 = .ok (.istore 9, 2) := by decide +kernel
theorem d_M_locate_111 : decode prog_10_method_40_code 111 = .ok (.iload 8, 2) := by decide +kernel
theorem d_M_locate_113 : decode prog_10_method_40_code 113 = .ok (.ifCond .ge 8, 3) := by decide +kernel
theorem d_M_locate_116 : decode prog_10_method_40_code 116 = .ok (.iload 5, 2) := by decide +kernel
theorem d_M_locate_118 : decode prog_10_method_40_code 118 = .ok (.goto 28, 3) := by decide +kernel
theorem d_M_locate_121 : decode prog_10_method_40_code 121 = .ok (.iload 5, 2) := by decide +kernel
theorem d_M_locate_123 : decode prog_10_method_40_code 123 = .ok (.iload 8, 2) := by decide +kernel
theorem d_M_locate_125 : decode prog_10_method_40_code 125 = .ok (.aload_n 0, 1) := by decide +kernel
theorem d_M_locate_126 : decode prog_10_method_40_code 126 = .ok (.getfield 47, 3) := by decide +kernel
theorem d_M_locate_129 : decode prog_10_method_40_code 129 = .ok (.aload_n 0, 1) := by decide +kernel
theorem d_M_locate_130 : decode prog_10_method_40_code 130 = .ok (.iload 4, 2) := by decide +kernel
theorem d_M_locate_132 : decode prog_10_method_40_code 132 = .ok (.iload 8, 2) := by decide +kernel
theorem d_M_locate_134 : decode prog_10_method_40_code 134 = .ok (.invokevirtual 87, 3) := by decide +kernel
theorem d_M_locate_137 : decode prog_10_method_40_code 137 = .ok (.saload, 1) := by decide +kernel
theorem d_M_locate_138 : decode prog_10_method_40_code 138 = .ok (.iconst 1, 1) := by decide +kernel
theorem d_M_locate_139 : decode prog_10_method_40_code 139 = .ok (.isub, 1) := by decide +kernel
theorem d_M_locate_140 : decode prog_10_method_40_code 140 = .ok (.bipush 125, 2) := by decide +kernel
theorem d_M_locate_142 : decode prog_10_method_40_code 142 = .ok (.irem, 1) := by decide +kernel
theorem d_M_locate_143 : decode prog_10_method_40_code 143 = .ok (.invokestatic 118, 3) := by decide +kernel
theorem d_M_locate_146 : decode prog_10_method_40_code 146 = .ok (.istore 10, 2) := by decide +kernel
theorem d_M_locate_148 : decode prog_10_method_40_code 148 = .ok (.iload 8, 2) := by decide +kernel
theorem d_M_locate_150 : decode prog_10_method_40_code 150 = .ok (.iload 5, 2) := by decide +kernel
theorem d_M_locate_152 : decode prog_10_method_40_code 152 = .ok (.if_icmp .eq 7, 3) := by decide +kernel
theorem d_M_locate_155 : decode prog_10_method_40_code 155 = .ok (.iconst 1, 1) := by decide +kernel
theorem d_M_locate_156 : decode prog_10_method_40_code 156 = .ok (.goto 4, 3) := by decide +kernel
theorem d_M_locate_159 : decode prog_10_method_40_code 159 = .ok (.iconst 0, 1) := by decide +kernel
theorem d_M_locate_160 : decode prog_10_method_40_code 160 = .ok (.istore 11, 2) := by decide +kernel
theorem d_M_locate_162 : decode prog_10_method_40_code 162 = .ok (.iload 10, 2) := by decide +kernel
theorem d_M_locate_164 : decode prog_10_method_40_code 164 = .ok (.ifCond .lt 37, 3) := by decide +kernel
theorem d_M_locate_167 : decode prog_10_method_40_code 167 = .ok (.aload_n 0, 1) := by decide +kernel
theorem d_M_locate_168 : decode prog_10_method_40_code 168 = .ok (.iload 9, 2) := by decide +kernel
theorem d_M_locate_170 : decode prog_10_method_40_code 170 = .ok (.iload 10, 2) := by decide +kernel
theorem d_M_locate_172 : decode prog_10_method_40_code 172 = .ok (.invokevirtual 87, 3) := by decide +kernel
theorem d_M_locate_175 : decode prog_10_method_40_code 175 = .ok (.ifCond .eq 26, 3) := by decide +kernel
theorem d_M_locate_178 : decode prog_10_method_40_code 178 = .ok (.iload 11, 2) := by decide +kernel
theorem d_M_locate_180 : decode prog_10_method_40_code 180 = .ok (.ifCond .eq 23, 3) := by decide +kernel
theorem d_M_locate_183 : decode prog_10_method_40_code 183 = .ok (.aload_n 0, 1) := by decide +kernel
theorem d_M_locate_184 : decode prog_10_method_40_code 184 = .ok (.getfield 35, 3) := by decide +kernel
theorem d_M_locate_187 : decode prog_10_method_40_code 187 = .ok (.aload_n 0, 1) := by decide +kernel
theorem d_M_locate_188 : decode prog_10_method_40_code 188 = .ok (.iload 9, 2) := by decide +kernel
theorem d_M_locate_190 : decode prog_10_method_40_code 190 = .ok (.iload 10, 2) := by decide +kernel
theorem d_M_locate_192 : decode prog_10_method_40_code 192 = .ok (.invokevirtual 87, 3) := by decide +kernel
theorem d_M_locate_195 : decode prog_10_method_40_code 195 = .ok (.saload, 1) := by decide +kernel
theorem d_M_locate_196 : decode prog_10_method_40_code 196 = .ok (.iload 7, 2) := by decide +kernel
theorem d_M_locate_198 : decode prog_10_method_40_code 198 = .ok (.if_icmp .eq 5, 3) := by decide +kernel
theorem d_M_locate_201 : decode prog_10_method_40_code 201 = .ok (.iconst (-1), 1) := by decide +kernel
theorem d_M_locate_202 : decode prog_10_method_40_code 202 = .ok (.ireturn, 1) := by decide +kernel
theorem d_M_locate_203 : decode prog_10_method_40_code 203 = .ok (.iload 9, 2) := by decide +kernel
theorem d_M_locate_205 : decode prog_10_method_40_code 205 = .ok (.istore 4, 2) := by decide +kernel
theorem d_M_locate_207 : decode prog_10_method_40_code 207 = .ok (.iload 10, 2) := by decide +kernel
theorem d_M_locate_209 : decode prog_10_method_40_code 209 = .ok (.istore 5, 2) := by decide +kernel
theorem d_M_locate_211 : decode prog_10_method_40_code 211 = .ok (.iload 4, 2) := by decide +kernel
theorem d_M_locate_213 : decode prog_10_method_40_code 213 = .ok (.iload_n 3, 1) := by decide +kernel
theorem d_M_locate_214 : decode prog_10_method_40_code 214 = .ok (.if_icmp .ge 5, 3) := by decide +kernel
theorem d_M_locate_217 : decode prog_10_method_40_code 217 = .ok (.iconst (-1), 1) := by decide +kernel
theorem d_M_locate_218 : decode prog_10_method_40_code 218 = .ok (.ireturn, 1) := by decide +kernel
theorem d_M_locate_219 : decode prog_10_method_40_code 219 = .ok (.iinc 6 1, 3) := by decide +kernel
theorem d_M_locate_222 : decode prog_10_method_40_code 222 = .ok (.goto (-181), 3) := by decide +kernel
theorem d_M_locate_225 : decode prog_10_method_40_code 225 = .ok (.iload 4, 2) := by decide +kernel
theorem d_M_locate_227 : decode prog_10_method_40_code 227 = .ok (.iload_n 3, 1) := by decide +kernel
theorem d_M_locate_228 : decode prog_10_method_40_code 228 = .ok (.if_icmp .ne 8, 3) := by decide +kernel
theorem d_M_locate_231 : decode prog_10_method_40_code 231 = .ok (.iload 5, 2) := by decide +kernel
theorem d_M_locate_233 : decode prog_10_method_40_code 233 = .ok (.goto 4, 3) := by decide +kernel
theorem d_M_locate_236 : decode prog_10_method_40_code 236 = .ok (.iconst (-1), 1) := by decide +kernel
theorem d_M_locate_237 : decode prog_10_method_40_code 237 = .ok (.ireturn, 1) := by decide +kernel
set_option maxHeartbeats 4000000 in
set_option maxRecDepth 100000 in
theorem c_M_copied {l : Launch} {E : Ev} {σ : SS} {ad : Nat → Nat} (hI : rfI ad) (hB : rB σ) {sz : Nat} {r q : Nat} (hr9 : r ≤ 15) (hq : q < 125) (hN : ∀ j, σ 0 j < 1300) (hb9 : ∀ j, σ 12 j < 256) : MCi l E y_M_copied prog_10_method_39_code 7 (some .int) 2 43 0 0 [.ref (ad 0), .int (nI r), .int (nI q)] (rfM E σ ad) sz (fun r' M' => r' = cI (cpd σ r q) ∧ M' = rfM E σ ad) := by
  refine mc_of R_M rfl [some (.ref (ad 0)), some (.int (nI r)), some (.int (nI q)), none, none, none, none] (by decide) (Nat.le_of_ble_eq_true rfl) rfl ?_
  intro p e R s m ag below meth c ls Q A X hAe hQ hR hsz hw hl
  rw [← hAe] at hQ
  obtain ⟨⟨hx, hb, hml, hown, hts⟩, hE, hA, hr, hlk, hnm⟩ := X
  have hK := hE.1
  have loop : ∀ (u i f : Nat) (H : Heap) (locs : List Loc) (ls : Array Slot), i + u = pd q + 1 → mw E.1 vwCl A s.heap (rfM E σ ad) H locs → lh ls [some (.ref (ad 0)), some (.int (nI r)), some (.int (nI q)), some (.int (cI f)), some (.int (nI i)), none, none] → cpf σ r q u i f = cpd σ r q → W p l e R s m ag below meth c H locs 0 0 Q (F0 m 5 ls []) := by
    intro u
    induction u with
    | zero =>
      intro i f H locs ls hi hw hl hT
      have hT : f = cpd σ r q := hT
      have hd9 := pd_le q
      refine x_iload hx hb d_M_copied_5 hl rfl ?_
      refine x_iload_n hx hb d_M_copied_7 hl rfl ?_
      refine m_calli (k_S ⟨hx, hb, hml, hown, hts⟩ hE hA hw (c_M_depth (by omega)) (wm3 171 rfl rfl) (wm3 172 rfl rfl) (wm1 9 rfl rfl) (wm3 173 rfl rfl) rfl rfl ar_M_depth ⟨Nat.le_trans (Nat.le_of_ble_eq_true rfl) hR.1, Nat.le_trans (Nat.le_of_ble_eq_true rfl) hR.2.1⟩ rfl hl.1 rfl (Nat.le_of_ble_eq_true rfl) d_M_copied_8 ⟨Nat.le_trans (Nat.le_of_ble_eq_true rfl) hR.2.2.1, Nat.le_trans (Nat.le_of_ble_eq_true rfl) hR.2.2.2⟩) hw (mfr_in hw hA) (fun r8 M8 H locs hP8 hw => ?_)
      obtain ⟨rfl, hM8⟩ := hP8
      rw [hM8] at hw
      refine x_icmp_gt hx hb d_M_copied_11 rfl (by omega) (by omega) (fun h11 => ?_) (fun h11 => ?_)
      · refine x_iload_n hx hb d_M_copied_71 hl rfl ?_
        exact x_reti hQ hx hb hr hlk rfl hw (by omega) (by omega) d_M_copied_72 (⟨by rw [hT], rfl⟩)
      · exact absurd h11 (by omega)
    | succ u ih =>
      intro i f H locs ls hi hw hl hT
      have hd9 := pd_le q
      have hu := pu_lt i
      have hm : q % pu i ≤ q := Nat.mod_le _ _
      refine x_iload hx hb d_M_copied_5 hl rfl ?_
      refine x_iload_n hx hb d_M_copied_7 hl rfl ?_
      refine m_calli (k_S ⟨hx, hb, hml, hown, hts⟩ hE hA hw (c_M_depth (by omega)) (wm3 171 rfl rfl) (wm3 172 rfl rfl) (wm1 9 rfl rfl) (wm3 173 rfl rfl) rfl rfl ar_M_depth ⟨Nat.le_trans (Nat.le_of_ble_eq_true rfl) hR.1, Nat.le_trans (Nat.le_of_ble_eq_true rfl) hR.2.1⟩ rfl hl.1 rfl (Nat.le_of_ble_eq_true rfl) d_M_copied_8 ⟨Nat.le_trans (Nat.le_of_ble_eq_true rfl) hR.2.2.1, Nat.le_trans (Nat.le_of_ble_eq_true rfl) hR.2.2.2⟩) hw (mfr_in hw hA) (fun r8 M8 H locs hP8 hw => ?_)
      obtain ⟨rfl, hM8⟩ := hP8
      rw [hM8] at hw
      refine x_icmp_gt hx hb d_M_copied_11 rfl (by omega) (by omega) (fun h11 => ?_) (fun h11 => ?_)
      · exact absurd h11 (by omega)
      · refine x_iload_n hx hb d_M_copied_14 hl rfl ?_
        refine x_iload hx hb d_M_copied_15 hl rfl ?_
        refine m_calli (k_S ⟨hx, hb, hml, hown, hts⟩ hE hA hw (c_M_unit (by omega)) (wm3 174 rfl rfl) (wm3 175 rfl rfl) (wm1 9 rfl rfl) (wm3 176 rfl rfl) rfl rfl ar_M_unit ⟨Nat.le_trans (Nat.le_of_ble_eq_true rfl) hR.1, Nat.le_trans (Nat.le_of_ble_eq_true rfl) hR.2.1⟩ rfl hl.1 rfl (Nat.le_of_ble_eq_true rfl) d_M_copied_17 ⟨Nat.le_trans (Nat.le_of_ble_eq_true rfl) hR.2.2.1, Nat.le_trans (Nat.le_of_ble_eq_true rfl) hR.2.2.2⟩) hw (mfr_in hw hA) (fun r17 M17 H locs hP17 hw => ?_)
        obtain ⟨rfl, hM17⟩ := hP17
        rw [hM17] at hw
        refine x_irem hx hb d_M_copied_20 (by omega) (by omega) (by omega) ?_
        refine x_istore hx hb d_M_copied_21 hl (Nat.le_of_ble_eq_true rfl) (lh_k (i := 4) rfl (by first | exact lk_n | exact lk_i | exact lk_r | exact lk_q | exact lk_0)) (fun ls hl => ?_)
        first | refine x_aload_n hx hb d_M_copied_23 hl rfl ?_ | refine x_aload_nQ hx hb d_M_copied_23 hl rfl ?_
        refine x_iload_n hx hb d_M_copied_24 hl rfl ?_
        refine x_iload hx hb d_M_copied_25 hl rfl ?_
        refine m_calli (k_V ⟨hx, hb, hml, hown, hts⟩ hE hA hw (c_M_atN hI hB (by omega) (by omega)) (ci_M).1 rfl (rf_at hI 0 (by decide) rfl) (wm3 164 rfl rfl) (wm3 166 rfl rfl) (wmp2 7 rfl) (wm1 9 rfl rfl) (wm3 167 rfl rfl) rfl rfl ar_M_at ⟨Nat.le_trans (Nat.le_of_ble_eq_true rfl) hR.1, Nat.le_trans (Nat.le_of_ble_eq_true rfl) hR.2.1⟩ rfl hl.1 rfl (Nat.le_of_ble_eq_true rfl) d_M_copied_27 ⟨Nat.le_trans (Nat.le_of_ble_eq_true rfl) hR.2.2.1, Nat.le_trans (Nat.le_of_ble_eq_true rfl) hR.2.2.2⟩) hw (mfr_in hw hA) (fun r27 M27 H locs hP27 hw => ?_)
        obtain ⟨⟨rfl, hb27⟩, hM27⟩ := hP27
        rw [hM27] at hw
        have hN2 := rat_N (k := r) (p := q % pu i) hN
        refine x_istore hx hb d_M_copied_30 hl (Nat.le_of_ble_eq_true rfl) (lh_k (i := 5) rfl (by first | exact lk_n | exact lk_i | exact lk_r | exact lk_q | exact lk_0)) (fun ls hl => ?_)
        refine x_iload hx hb d_M_copied_32 hl rfl ?_
        refine x_if_le hx hb d_M_copied_34 rfl (by omega) (fun h34 => ?_) (fun h34 => ?_)
        · have hcf : cI (if cpc σ r (q % pu i) = true then (q % pu i) else f) = cI f := by rw [if_neg (by rw [cpc_1 h34]; decide)]
          refine x_iload_n hx hb d_M_copied_63 hl rfl ?_
          refine x_istore_n hx hb d_M_copied_64 hl (Nat.le_of_ble_eq_true rfl) (lh_k (i := 2) rfl (by first | exact lk_n | exact lk_i | exact lk_r | exact lk_q | exact lk_0)) (fun ls hl => ?_)
          refine x_iincN hx hb d_M_copied_65 hl rfl (lh_k (i := 3) rfl (by first | exact lk_n | exact lk_i | exact lk_r | exact lk_q | exact lk_0)) (fun ls hl => ?_)
          refine lv_goto hx hb d_M_copied_68 rfl ?_
          rw [← hcf] at hl
          exact ih (i + 1) _ H locs ls (by omega) hw (lh_drop 5 (lh_drop 6 hl)) hT
        · first | refine x_aload_n hx hb d_M_copied_37 hl rfl ?_ | refine x_aload_nQ hx hb d_M_copied_37 hl rfl ?_
          refine m_get hx hb hts hown hK hw ci_M (rf_at hI 0 (by decide) rfl) 14 (by decide) (wm3 86 rfl rfl) rfl d_M_copied_38 ?_
          refine x_iload hx hb d_M_copied_41 hl rfl ?_
          refine rl_14 hx hb hK hI hB hw (by omega) d_M_copied_43 (fun hv43 => ?_)
          refine x_if_le hx hb d_M_copied_44 rfl (by omega) (fun h44 => ?_) (fun h44 => ?_)
          · have hcf : cI (if cpc σ r (q % pu i) = true then (q % pu i) else f) = cI f := by rw [if_neg (by rw [cpc_2 h44]; decide)]
            refine x_iload_n hx hb d_M_copied_63 hl rfl ?_
            refine x_istore_n hx hb d_M_copied_64 hl (Nat.le_of_ble_eq_true rfl) (lh_k (i := 2) rfl (by first | exact lk_n | exact lk_i | exact lk_r | exact lk_q | exact lk_0)) (fun ls hl => ?_)
            refine x_iincN hx hb d_M_copied_65 hl rfl (lh_k (i := 3) rfl (by first | exact lk_n | exact lk_i | exact lk_r | exact lk_q | exact lk_0)) (fun ls hl => ?_)
            refine lv_goto hx hb d_M_copied_68 rfl ?_
            rw [← hcf] at hl
            exact ih (i + 1) _ H locs ls (by omega) hw (lh_drop 5 (lh_drop 6 hl)) hT
          · first | refine x_aload_n hx hb d_M_copied_47 hl rfl ?_ | refine x_aload_nQ hx hb d_M_copied_47 hl rfl ?_
            refine m_get hx hb hts hown hK hw ci_M (rf_at hI 0 (by decide) rfl) 12 (by decide) (wm3 84 rfl rfl) rfl d_M_copied_48 ?_
            refine x_iload hx hb d_M_copied_51 hl rfl ?_
            refine rl_12 hx hb hK hI hB hw (by omega) d_M_copied_53 (fun hv53 => ?_)
            refine x_iload_n hx hb d_M_copied_54 hl rfl ?_
            refine lv_icmp_ne hx hb d_M_copied_55 rfl (fun h55 => ?_) (fun h55 => ?_)
            · have h55 := fun z => h55 ((bI_eq (hb9 _) (by omega)).mpr z)
              have hcf : cI (if cpc σ r (q % pu i) = true then (q % pu i) else f) = cI f := by rw [if_neg (by rw [cpc_3 h55]; decide)]
              refine x_iload_n hx hb d_M_copied_63 hl rfl ?_
              refine x_istore_n hx hb d_M_copied_64 hl (Nat.le_of_ble_eq_true rfl) (lh_k (i := 2) rfl (by first | exact lk_n | exact lk_i | exact lk_r | exact lk_q | exact lk_0)) (fun ls hl => ?_)
              refine x_iincN hx hb d_M_copied_65 hl rfl (lh_k (i := 3) rfl (by first | exact lk_n | exact lk_i | exact lk_r | exact lk_q | exact lk_0)) (fun ls hl => ?_)
              refine lv_goto hx hb d_M_copied_68 rfl ?_
              rw [← hcf] at hl
              exact ih (i + 1) _ H locs ls (by omega) hw (lh_drop 5 (lh_drop 6 hl)) hT
            · have h55 := (bI_eq (hb9 _) (by omega)).mp h55
              have hcf : cI (if cpc σ r (q % pu i) = true then (q % pu i) else f) = nI (q % pu i) := by rw [if_pos (cpc_t h34 h44 h55)]; exact cI_n (by omega)
              refine x_iload hx hb d_M_copied_58 hl rfl ?_
              refine lv_goto hx hb d_M_copied_60 rfl ?_
              refine x_istore_n hx hb d_M_copied_64 hl (Nat.le_of_ble_eq_true rfl) (lh_k (i := 2) rfl (by first | exact lk_n | exact lk_i | exact lk_r | exact lk_q | exact lk_0)) (fun ls hl => ?_)
              refine x_iincN hx hb d_M_copied_65 hl rfl (lh_k (i := 3) rfl (by first | exact lk_n | exact lk_i | exact lk_r | exact lk_q | exact lk_0)) (fun ls hl => ?_)
              refine lv_goto hx hb d_M_copied_68 rfl ?_
              rw [← hcf] at hl
              exact ih (i + 1) _ H locs ls (by omega) hw (lh_drop 5 (lh_drop 6 hl)) hT
  refine lv_iconst (v := -1) hx hb d_M_copied_0 (by decide) ?_
  refine x_istore_n hx hb d_M_copied_1 hl (Nat.le_of_ble_eq_true rfl) (lh_k (i := 2) rfl (by first | exact lk_n | exact lk_i | exact lk_r | exact lk_q | exact lk_0)) (fun ls hl => ?_)
  refine lv_iconst (v := nI 0) hx hb d_M_copied_2 (by decide) ?_
  refine x_istore hx hb d_M_copied_3 hl (Nat.le_of_ble_eq_true rfl) (lh_k (i := 3) rfl (by first | exact lk_n | exact lk_i | exact lk_r | exact lk_q | exact lk_0)) (fun ls hl => ?_)
  exact loop (pd q + 1) 0 125 _ _ _ (by omega) hw hl rfl

set_option maxHeartbeats 4000000 in
set_option maxRecDepth 100000 in
theorem c_M_locate {l : Launch} {E : Ev} {σ : SS} {ad : Nat → Nat} (hI : rfI ad) (hB : rB σ) {sz : Nat} {x y z : Int32} (hy : σ 1 0 ≤ 15) (hN : ∀ j, σ 0 j < 1300) (hb9 : ∀ j, σ 12 j < 256) (h14 : ∀ j, σ 14 j ≤ 2000) : MCi l E y_M_locate prog_10_method_40_code 12 (some .int) 3 69 0 0 [.ref (ad 0), .int x, .int y, .int z] (rfM E σ ad) sz (fun r' M' => r' = mI (lcA σ x y z) ∧ M' = rfM E σ ad) := by
  refine mc_of R_M rfl [some (.ref (ad 0)), some (.int x), some (.int y), some (.int z), none, none, none, none, none, none, none, none] (by decide) (Nat.le_of_ble_eq_true rfl) rfl ?_
  intro p e R s m ag below meth c ls Q A X hAe hQ hR hsz hw hl
  rw [← hAe] at hQ
  obtain ⟨⟨hx, hb, hml, hown, hts⟩, hE, hA, hr, hlk, hnm⟩ := X
  have hK := hE.1
  refine x_iload_n hx hb d_M_locate_0 hl rfl ?_
  refine lv_if_lt hx hb d_M_locate_1 rfl (fun h1 => ?_) (fun h1 => ?_)
  · refine lv_iconst (v := -1) hx hb d_M_locate_30 (by decide) ?_
    exact x_reti hQ hx hb hr hlk rfl hw (by omega) (by omega) d_M_locate_31 (by first | exact ⟨by unfold lcA; rw [if_pos (Or.inl (rv_2 h1))]; rfl, rfl⟩ | exact ⟨by unfold lcA; rw [if_pos (Or.inl (rv_3 (nle_of h9)))]; rfl, rfl⟩ | exact ⟨by unfold lcA; rw [if_pos (Or.inr (Or.inl h13))]; rfl, rfl⟩ | exact ⟨by unfold lcA; rw [if_pos (Or.inr (Or.inr (Or.inl h18)))]; rfl, rfl⟩ | exact ⟨by unfold lcA; rw [if_pos (Or.inr (Or.inr (Or.inr (by rw [hr2]; exact h27))))]; rfl, rfl⟩)
  · refine x_iload_n hx hb d_M_locate_4 hl rfl ?_
    first | refine x_aload_n hx hb d_M_locate_5 hl rfl ?_ | refine x_aload_nQ hx hb d_M_locate_5 hl rfl ?_
    refine m_get hx hb hts hown hK hw ci_M (rf_at hI 0 (by decide) rfl) 1 (by decide) (wm3 73 rfl rfl) rfl d_M_locate_6 ?_
    have hs6 := hB 1 0 (by decide) (by decide)
    refine lv_icmp_gt hx hb d_M_locate_9 rfl (fun h9 => ?_) (fun h9 => ?_)
    · refine lv_iconst (v := -1) hx hb d_M_locate_30 (by decide) ?_
      exact x_reti hQ hx hb hr hlk rfl hw (by omega) (by omega) d_M_locate_31 (by first | exact ⟨by unfold lcA; rw [if_pos (Or.inl (rv_2 h1))]; rfl, rfl⟩ | exact ⟨by unfold lcA; rw [if_pos (Or.inl (rv_3 (nle_of h9)))]; rfl, rfl⟩ | exact ⟨by unfold lcA; rw [if_pos (Or.inr (Or.inl h13))]; rfl, rfl⟩ | exact ⟨by unfold lcA; rw [if_pos (Or.inr (Or.inr (Or.inl h18)))]; rfl, rfl⟩ | exact ⟨by unfold lcA; rw [if_pos (Or.inr (Or.inr (Or.inr (by rw [hr2]; exact h27))))]; rfl, rfl⟩)
    · obtain ⟨r, hr1, rfl, hr2⟩ := rv_1 hy h1 (le_of h9)
      refine x_iload_n hx hb d_M_locate_12 hl rfl ?_
      refine lv_if_lt hx hb d_M_locate_13 rfl (fun h13 => ?_) (fun h13 => ?_)
      · refine lv_iconst (v := -1) hx hb d_M_locate_30 (by decide) ?_
        exact x_reti hQ hx hb hr hlk rfl hw (by omega) (by omega) d_M_locate_31 (by first | exact ⟨by unfold lcA; rw [if_pos (Or.inl (rv_2 h1))]; rfl, rfl⟩ | exact ⟨by unfold lcA; rw [if_pos (Or.inl (rv_3 (nle_of h9)))]; rfl, rfl⟩ | exact ⟨by unfold lcA; rw [if_pos (Or.inr (Or.inl h13))]; rfl, rfl⟩ | exact ⟨by unfold lcA; rw [if_pos (Or.inr (Or.inr (Or.inl h18)))]; rfl, rfl⟩ | exact ⟨by unfold lcA; rw [if_pos (Or.inr (Or.inr (Or.inr (by rw [hr2]; exact h27))))]; rfl, rfl⟩)
      · refine x_iload_n hx hb d_M_locate_16 hl rfl ?_
        refine x_iload_n hx hb d_M_locate_17 hl rfl ?_
        refine lv_icmp_gt hx hb d_M_locate_18 rfl (fun h18 => ?_) (fun h18 => ?_)
        · refine lv_iconst (v := -1) hx hb d_M_locate_30 (by decide) ?_
          exact x_reti hQ hx hb hr hlk rfl hw (by omega) (by omega) d_M_locate_31 (by first | exact ⟨by unfold lcA; rw [if_pos (Or.inl (rv_2 h1))]; rfl, rfl⟩ | exact ⟨by unfold lcA; rw [if_pos (Or.inl (rv_3 (nle_of h9)))]; rfl, rfl⟩ | exact ⟨by unfold lcA; rw [if_pos (Or.inr (Or.inl h13))]; rfl, rfl⟩ | exact ⟨by unfold lcA; rw [if_pos (Or.inr (Or.inr (Or.inl h18)))]; rfl, rfl⟩ | exact ⟨by unfold lcA; rw [if_pos (Or.inr (Or.inr (Or.inr (by rw [hr2]; exact h27))))]; rfl, rfl⟩)
        · obtain ⟨a, ha9, rfl⟩ := nI_of h13
          have har : a ≤ r := by
            rcases Nat.lt_or_ge r a with z | z
            · exact absurd (nI_lt z (by omega)) h18
            · exact z
          first | refine x_aload_n hx hb d_M_locate_21 hl rfl ?_ | refine x_aload_nQ hx hb d_M_locate_21 hl rfl ?_
          refine x_iload_n hx hb d_M_locate_22 hl rfl ?_
          refine x_iload_n hx hb d_M_locate_23 hl rfl ?_
          refine m_calli (k_V ⟨hx, hb, hml, hown, hts⟩ hE hA hw (c_M_at hI hB (by omega)) (ci_M).1 rfl (rf_at hI 0 (by decide) rfl) (wm3 164 rfl rfl) (wm3 166 rfl rfl) (wmp2 7 rfl) (wm1 9 rfl rfl) (wm3 167 rfl rfl) rfl rfl ar_M_at ⟨Nat.le_trans (Nat.le_of_ble_eq_true rfl) hR.1, Nat.le_trans (Nat.le_of_ble_eq_true rfl) hR.2.1⟩ rfl hl.1 rfl (Nat.le_of_ble_eq_true rfl) d_M_locate_24 ⟨Nat.le_trans (Nat.le_of_ble_eq_true rfl) hR.2.2.1, Nat.le_trans (Nat.le_of_ble_eq_true rfl) hR.2.2.2⟩) hw (mfr_in hw hA) (fun r24 M24 H locs hP24 hw => ?_)
          obtain ⟨⟨rfl, hb24⟩, hM24⟩ := hP24
          rw [hM24] at hw
          refine x_if_ne hx hb d_M_locate_27 rfl (by omega) (fun h27 => ?_) (fun h27 => ?_)
          · refine x_iload_n hx hb d_M_locate_32 hl rfl ?_
            refine x_istore hx hb d_M_locate_33 hl (Nat.le_of_ble_eq_true rfl) (lh_k (i := 3) rfl (by first | exact lk_n | exact lk_i | exact lk_r | exact lk_q | exact lk_0)) (fun ls hl => ?_)
            refine x_iload_n hx hb d_M_locate_35 hl rfl ?_
            refine x_istore hx hb d_M_locate_36 hl (Nat.le_of_ble_eq_true rfl) (lh_k (i := 4) rfl (by first | exact lk_n | exact lk_i | exact lk_r | exact lk_q | exact lk_0)) (fun ls hl => ?_)
            refine lv_iconst (v := nI 0) hx hb d_M_locate_38 (by decide) ?_
            refine x_istore hx hb d_M_locate_39 hl (Nat.le_of_ble_eq_true rfl) (lh_k (i := 5) rfl (by first | exact lk_n | exact lk_i | exact lk_r | exact lk_q | exact lk_0)) (fun ls hl => ?_)
            obtain ⟨p0, hp0, rfl⟩ := ix_good (rat_good h27)
            rw [ix_n hp0] at h27
            have hQ2 : lcA σ (nI r) (nI p0) (nI a) = lcf σ a 16 r p0 := by
              unfold lcA
              rw [hr2, ix_n hp0, nI_clamp (by omega), if_neg]
              rintro (z | z | z | z)
              · omega
              · exact h13 z
              · rw [nI_ltI (by omega) (by omega)] at z
                omega
              · exact h27 z
            rw [hQ2] at hQ
            have loop : ∀ (u now path : Nat) (H : Heap) (locs : List Loc) (ls : Array Slot), u ≤ 16 → now ≤ 15 → a ≤ now → path < 125 → rat σ now path ≠ 0 → mw E.1 vwCl A s.heap (rfM E σ ad) H locs → lh ls [some (.ref (ad 0)), some (.int (nI r)), some (.int (nI p0)), some (.int (nI a)), some (.int (nI now)), some (.int (nI path)), some (.int (nI (16 - u))), none, none, none, none, none] → lcf σ a u now path = lcf σ a 16 r p0 → W p l e R s m ag below meth c H locs 0 0 Q (F0 m 41 ls []) := by
              intro u
              induction u with
              | zero =>
                intro now path H locs ls hu hno han hpa hra hw hl hT
                refine x_iload hx hb d_M_locate_41 hl rfl ?_
                refine lv_bipush (v := nI 16) hx hb d_M_locate_43 (by decide) ?_
                refine x_icmp_ge hx hb d_M_locate_45 rfl (by omega) (by omega) (fun h45 => ?_) (fun h45 => ?_)
                · refine x_iload hx hb d_M_locate_225 hl rfl ?_
                  refine x_iload_n hx hb d_M_locate_227 hl rfl ?_
                  refine x_icmp_ne hx hb d_M_locate_228 rfl (by omega) (by omega) (fun h228 => ?_) (fun h228 => ?_)
                  · refine lv_iconst (v := -1) hx hb d_M_locate_236 (by decide) ?_
                    exact x_reti hQ hx hb hr hlk rfl hw (by omega) (by omega) d_M_locate_237 (by rw [← hT]; first | (rw [lc_e h51, mI_n (by omega)]; exact ⟨rfl, rfl⟩) | (rw [lc_e h228, mI_n (by omega)]; exact ⟨rfl, rfl⟩) | (rw [lc_z h228]; exact ⟨rfl, rfl⟩))
                  · refine x_iload hx hb d_M_locate_231 hl rfl ?_
                    refine lv_goto hx hb d_M_locate_233 rfl ?_
                    exact x_reti hQ hx hb hr hlk rfl hw (by omega) (by omega) d_M_locate_237 (by rw [← hT]; first | (rw [lc_e h51, mI_n (by omega)]; exact ⟨rfl, rfl⟩) | (rw [lc_e h228, mI_n (by omega)]; exact ⟨rfl, rfl⟩) | (rw [lc_z h228]; exact ⟨rfl, rfl⟩))
                · exact absurd h45 (by omega)
              | succ u ih =>
                intro now path H locs ls hu hno han hpa hra hw hl hT
                refine x_iload hx hb d_M_locate_41 hl rfl ?_
                refine lv_bipush (v := nI 16) hx hb d_M_locate_43 (by decide) ?_
                refine x_icmp_ge hx hb d_M_locate_45 rfl (by omega) (by omega) (fun h45 => ?_) (fun h45 => ?_)
                · exact absurd h45 (by omega)
                · refine x_iload hx hb d_M_locate_48 hl rfl ?_
                  refine x_iload_n hx hb d_M_locate_50 hl rfl ?_
                  refine x_icmp_eq hx hb d_M_locate_51 rfl (by omega) (by omega) (fun h51 => ?_) (fun h51 => ?_)
                  · refine x_iload hx hb d_M_locate_225 hl rfl ?_
                    refine x_iload_n hx hb d_M_locate_227 hl rfl ?_
                    refine x_icmp_ne hx hb d_M_locate_228 rfl (by omega) (by omega) (fun h228 => ?_) (fun h228 => ?_)
                    · first
                        | exact absurd h228 (by omega)
                        | refine lv_iconst (v := -1) hx hb d_M_locate_236 (by decide) ?_
                          exact x_reti hQ hx hb hr hlk rfl hw (by omega) (by omega) d_M_locate_237 (by rw [← hT]; first | (rw [lc_e h51, mI_n (by omega)]; exact ⟨rfl, rfl⟩) | (rw [lc_e h228, mI_n (by omega)]; exact ⟨rfl, rfl⟩) | (rw [lc_z h228]; exact ⟨rfl, rfl⟩))
                    · first
                        | exact absurd h228 (by omega)
                        | refine x_iload hx hb d_M_locate_231 hl rfl ?_
                          refine lv_goto hx hb d_M_locate_233 rfl ?_
                          exact x_reti hQ hx hb hr hlk rfl hw (by omega) (by omega) d_M_locate_237 (by rw [← hT]; first | (rw [lc_e h51, mI_n (by omega)]; exact ⟨rfl, rfl⟩) | (rw [lc_e h228, mI_n (by omega)]; exact ⟨rfl, rfl⟩) | (rw [lc_z h228]; exact ⟨rfl, rfl⟩))
                  · first | refine x_aload_n hx hb d_M_locate_54 hl rfl ?_ | refine x_aload_nQ hx hb d_M_locate_54 hl rfl ?_
                    refine m_get hx hb hts hown hK hw ci_M (rf_at hI 0 (by decide) rfl) 10 (by decide) (wm3 82 rfl rfl) rfl d_M_locate_55 ?_
                    first | refine x_aload_n hx hb d_M_locate_58 hl rfl ?_ | refine x_aload_nQ hx hb d_M_locate_58 hl rfl ?_
                    refine x_iload hx hb d_M_locate_59 hl rfl ?_
                    refine x_iload hx hb d_M_locate_61 hl rfl ?_
                    refine m_calli (k_V ⟨hx, hb, hml, hown, hts⟩ hE hA hw (c_M_atN hI hB (by omega) (by omega)) (ci_M).1 rfl (rf_at hI 0 (by decide) rfl) (wm3 164 rfl rfl) (wm3 166 rfl rfl) (wmp2 7 rfl) (wm1 9 rfl rfl) (wm3 167 rfl rfl) rfl rfl ar_M_at ⟨Nat.le_trans (Nat.le_of_ble_eq_true rfl) hR.1, Nat.le_trans (Nat.le_of_ble_eq_true rfl) hR.2.1⟩ rfl hl.1 rfl (Nat.le_of_ble_eq_true rfl) d_M_locate_63 ⟨Nat.le_trans (Nat.le_of_ble_eq_true rfl) hR.2.2.1, Nat.le_trans (Nat.le_of_ble_eq_true rfl) hR.2.2.2⟩) hw (mfr_in hw hA) (fun r63 M63 H locs hP63 hw => ?_)
                    obtain ⟨⟨rfl, hb63⟩, hM63⟩ := hP63
                    rw [hM63] at hw
                    have hN2 := rat_N (k := now) (p := path) hN
                    refine rl_10 hx hb hK hI hB hw (by omega) d_M_locate_66 (fun hv66 => ?_)
                    refine x_istore hx hb d_M_locate_67 hl (Nat.le_of_ble_eq_true rfl) (lh_k (i := 6) rfl (by first | exact lk_n | exact lk_i | exact lk_r | exact lk_q | exact lk_0)) (fun ls hl => ?_)
                    first | refine x_aload_n hx hb d_M_locate_69 hl rfl ?_ | refine x_aload_nQ hx hb d_M_locate_69 hl rfl ?_
                    refine x_iload hx hb d_M_locate_70 hl rfl ?_
                    refine x_iload hx hb d_M_locate_72 hl rfl ?_
                    refine m_calli (k_V ⟨hx, hb, hml, hown, hts⟩ hE hA hw (c_M_copied hI hB (by omega) (by omega) hN hb9) (ci_M).1 rfl (rf_at hI 0 (by decide) rfl) (wm4 47 rfl rfl) (wm4 49 rfl rfl) (wmp3 4 rfl) (wm1 9 rfl rfl) (wm4 50 rfl rfl) rfl rfl ar_M_copied ⟨Nat.le_trans (Nat.le_of_ble_eq_true rfl) hR.1, Nat.le_trans (Nat.le_of_ble_eq_true rfl) hR.2.1⟩ rfl hl.1 rfl (Nat.le_of_ble_eq_true rfl) d_M_locate_74 ⟨Nat.le_trans (Nat.le_of_ble_eq_true rfl) hR.2.2.1, Nat.le_trans (Nat.le_of_ble_eq_true rfl) hR.2.2.2⟩) hw (mfr_in hw hA) (fun r74 M74 H locs hP74 hw => ?_)
                    obtain ⟨rfl, hM74⟩ := hP74
                    rw [hM74] at hw
                    refine x_istore hx hb d_M_locate_77 hl (Nat.le_of_ble_eq_true rfl) (lh_k (i := 7) rfl (by first | exact lk_n | exact lk_i | exact lk_r | exact lk_q | exact lk_0)) (fun ls hl => ?_)
                    by_cases hc : cpd σ now path = 125
                    · rw [hc, cI_125] at hl
                      have hls1 : ls1 σ now path = now - 1 := by unfold ls1; rw [if_pos hc]
                      refine x_iload hx hb d_M_locate_79 hl rfl ?_
                      refine lv_if_ge hx hb d_M_locate_81 rfl (fun h81 => ?_) (fun h81 => ?_)
                      · exact absurd h81 (by decide)
                      · refine x_iload hx hb d_M_locate_84 hl rfl ?_
                        refine lv_iconst (v := nI 1) hx hb d_M_locate_86 (by decide) ?_
                        refine x_isub hx hb d_M_locate_87 (by omega) ?_
                        refine lv_goto hx hb d_M_locate_88 rfl ?_
                        refine x_istore hx hb d_M_locate_109 hl (Nat.le_of_ble_eq_true rfl) (lh_k (i := 8) rfl (by first | exact lk_n | exact lk_i | exact lk_r | exact lk_q | exact lk_0)) (fun ls hl => ?_)
                        refine x_iload hx hb d_M_locate_111 hl rfl ?_
                        refine lv_if_ge hx hb d_M_locate_113 rfl (fun h113 => ?_) (fun h113 => ?_)
                        · exact absurd h113 (by decide)
                        · refine x_iload hx hb d_M_locate_116 hl rfl ?_
                          refine lv_goto hx hb d_M_locate_118 rfl ?_
                          refine x_istore hx hb d_M_locate_146 hl (Nat.le_of_ble_eq_true rfl) (lh_k (i := 9) rfl (by first | exact lk_n | exact lk_i | exact lk_r | exact lk_q | exact lk_0)) (fun ls hl => ?_)
                          refine x_iload hx hb d_M_locate_148 hl rfl ?_
                          refine x_iload hx hb d_M_locate_150 hl rfl ?_
                          refine lv_icmp_eq hx hb d_M_locate_152 rfl (fun h152 => ?_) (fun h152 => ?_)
                          · exact absurd h152 (by intro z; have := nI_pos (n := path) (by omega); rw [← z] at this; exact this (by decide))
                          · refine lv_iconst (v := nI 1) hx hb d_M_locate_155 (by decide) ?_
                            refine lv_goto hx hb d_M_locate_156 rfl ?_
                            refine x_istore hx hb d_M_locate_160 hl (Nat.le_of_ble_eq_true rfl) (lh_k (i := 10) rfl (by first | exact lk_n | exact lk_i | exact lk_r | exact lk_q | exact lk_0)) (fun ls hl => ?_)
                            refine x_iload hx hb d_M_locate_162 hl rfl ?_
                            refine x_if_lt hx hb d_M_locate_164 rfl (by omega) ?_
                            first | refine x_aload_n hx hb d_M_locate_167 hl rfl ?_ | refine x_aload_nQ hx hb d_M_locate_167 hl rfl ?_
                            refine x_iload hx hb d_M_locate_168 hl rfl ?_
                            refine x_iload hx hb d_M_locate_170 hl rfl ?_
                            refine m_calli (k_V ⟨hx, hb, hml, hown, hts⟩ hE hA hw (c_M_atN hI hB (by omega) (by omega)) (ci_M).1 rfl (rf_at hI 0 (by decide) rfl) (wm3 164 rfl rfl) (wm3 166 rfl rfl) (wmp2 7 rfl) (wm1 9 rfl rfl) (wm3 167 rfl rfl) rfl rfl ar_M_at ⟨Nat.le_trans (Nat.le_of_ble_eq_true rfl) hR.1, Nat.le_trans (Nat.le_of_ble_eq_true rfl) hR.2.1⟩ rfl hl.1 rfl (Nat.le_of_ble_eq_true rfl) d_M_locate_172 ⟨Nat.le_trans (Nat.le_of_ble_eq_true rfl) hR.2.2.1, Nat.le_trans (Nat.le_of_ble_eq_true rfl) hR.2.2.2⟩) hw (mfr_in hw hA) (fun r172 M172 H locs hP172 hw => ?_)
                            obtain ⟨⟨rfl, hb172⟩, hM172⟩ := hP172
                            rw [hM172] at hw
                            have hN3 := rat_N (k := now - 1) (p := path) hN
                            refine x_if_eq hx hb d_M_locate_175 rfl (by omega) (fun h175 => ?_) (fun h175 => ?_)
                            · have hls2 : ls2 σ now path = 125 := by unfold ls2 lsA; rw [if_pos hc, if_neg (fun z => z.1 h175)]
                              refine lv_iconst (v := -1) hx hb d_M_locate_201 (by decide) ?_
                              exact x_reti hQ hx hb hr hlk rfl hw (by omega) (by omega) d_M_locate_202 (by rw [← hT, lc_n h51 (Or.inl hls2)]; exact ⟨rfl, rfl⟩)
                            · refine x_iload hx hb d_M_locate_178 hl rfl ?_
                              refine x_if_eq hx hb d_M_locate_180 rfl (by omega) (fun h180 => ?_) (fun h180 => ?_)
                              · first
                                  | exact absurd h180 (by omega)
                                  | refine x_iload hx hb d_M_locate_203 hl rfl ?_
                                    refine x_istore hx hb d_M_locate_205 hl (Nat.le_of_ble_eq_true rfl) (lh_k (i := 3) rfl (by first | exact lk_n | exact lk_i | exact lk_r | exact lk_q | exact lk_0)) (fun ls hl => ?_)
                                    refine x_iload hx hb d_M_locate_207 hl rfl ?_
                                    refine x_istore hx hb d_M_locate_209 hl (Nat.le_of_ble_eq_true rfl) (lh_k (i := 4) rfl (by first | exact lk_n | exact lk_i | exact lk_r | exact lk_q | exact lk_0)) (fun ls hl => ?_)
                                    refine x_iload hx hb d_M_locate_211 hl rfl ?_
                                    refine x_iload_n hx hb d_M_locate_213 hl rfl ?_
                                    refine x_icmp_ge hx hb d_M_locate_214 rfl (by omega) (by omega) (fun h214 => ?_) (fun h214 => ?_)
                                    · refine x_iincN hx hb d_M_locate_219 hl rfl (lh_k (i := 5) rfl (by first | exact lk_n | exact lk_i | exact lk_r | exact lk_q | exact lk_0)) (fun ls hl => ?_)
                                      refine lv_goto hx hb d_M_locate_222 rfl ?_
                                      rw [show 16 - (u + 1) + 1 = 16 - u by omega] at hl
                                      exact ih _ _ H locs ls (by omega) (by omega) (by omega) (by omega) (by omega) hw (lh_drop 7 (lh_drop 8 (lh_drop 9 (lh_drop 10 (lh_drop 11 hl))))) ((lc_g h51 hls2 hls1 (by omega) (by omega)).symm.trans hT)
                                    · exact absurd h214 (by omega)
                              · first
                                  | exact absurd h180 (by omega)
                                  | first | refine x_aload_n hx hb d_M_locate_183 hl rfl ?_ | refine x_aload_nQ hx hb d_M_locate_183 hl rfl ?_
                                    refine m_get hx hb hts hown hK hw ci_M (rf_at hI 0 (by decide) rfl) 10 (by decide) (wm3 82 rfl rfl) rfl d_M_locate_184 ?_
                                    first | refine x_aload_n hx hb d_M_locate_187 hl rfl ?_ | refine x_aload_nQ hx hb d_M_locate_187 hl rfl ?_
                                    refine x_iload hx hb d_M_locate_188 hl rfl ?_
                                    refine x_iload hx hb d_M_locate_190 hl rfl ?_
                                    refine m_calli (k_V ⟨hx, hb, hml, hown, hts⟩ hE hA hw (c_M_atN hI hB (by omega) (by omega)) (ci_M).1 rfl (rf_at hI 0 (by decide) rfl) (wm3 164 rfl rfl) (wm3 166 rfl rfl) (wmp2 7 rfl) (wm1 9 rfl rfl) (wm3 167 rfl rfl) rfl rfl ar_M_at ⟨Nat.le_trans (Nat.le_of_ble_eq_true rfl) hR.1, Nat.le_trans (Nat.le_of_ble_eq_true rfl) hR.2.1⟩ rfl hl.1 rfl (Nat.le_of_ble_eq_true rfl) d_M_locate_192 ⟨Nat.le_trans (Nat.le_of_ble_eq_true rfl) hR.2.2.1, Nat.le_trans (Nat.le_of_ble_eq_true rfl) hR.2.2.2⟩) hw (mfr_in hw hA) (fun r192 M192 H locs hP192 hw => ?_)
                                    obtain ⟨⟨rfl, hb192⟩, hM192⟩ := hP192
                                    rw [hM192] at hw
                                    refine rl_10 hx hb hK hI hB hw (by omega) d_M_locate_195 (fun hv195 => ?_)
                                    refine x_iload hx hb d_M_locate_196 hl rfl ?_
                                    refine x_icmp_eq hx hb d_M_locate_198 rfl (by omega) (by omega) (fun h198 => ?_) (fun h198 => ?_)
                                    · have hls2 : ls2 σ now path = path := by unfold ls2 lsA; rw [if_pos hc, if_pos ⟨h175, h198⟩]
                                      refine x_iload hx hb d_M_locate_203 hl rfl ?_
                                      refine x_istore hx hb d_M_locate_205 hl (Nat.le_of_ble_eq_true rfl) (lh_k (i := 3) rfl (by first | exact lk_n | exact lk_i | exact lk_r | exact lk_q | exact lk_0)) (fun ls hl => ?_)
                                      refine x_iload hx hb d_M_locate_207 hl rfl ?_
                                      refine x_istore hx hb d_M_locate_209 hl (Nat.le_of_ble_eq_true rfl) (lh_k (i := 4) rfl (by first | exact lk_n | exact lk_i | exact lk_r | exact lk_q | exact lk_0)) (fun ls hl => ?_)
                                      refine x_iload hx hb d_M_locate_211 hl rfl ?_
                                      refine x_iload_n hx hb d_M_locate_213 hl rfl ?_
                                      refine x_icmp_ge hx hb d_M_locate_214 rfl (by omega) (by omega) (fun h214 => ?_) (fun h214 => ?_)
                                      · refine x_iincN hx hb d_M_locate_219 hl rfl (lh_k (i := 5) rfl (by first | exact lk_n | exact lk_i | exact lk_r | exact lk_q | exact lk_0)) (fun ls hl => ?_)
                                        refine lv_goto hx hb d_M_locate_222 rfl ?_
                                        rw [show 16 - (u + 1) + 1 = 16 - u by omega] at hl
                                        exact ih _ _ H locs ls (by omega) (by omega) (by omega) (by omega) (by omega) hw (lh_drop 7 (lh_drop 8 (lh_drop 9 (lh_drop 10 (lh_drop 11 hl))))) ((lc_g h51 hls2 hls1 (by omega) (by omega)).symm.trans hT)
                                      · exact absurd h214 (by omega)
                                    · have hls2 : ls2 σ now path = 125 := by unfold ls2 lsA; rw [if_pos hc, if_neg (fun z => h198 z.2)]
                                      refine lv_iconst (v := -1) hx hb d_M_locate_201 (by decide) ?_
                                      exact x_reti hQ hx hb hr hlk rfl hw (by omega) (by omega) d_M_locate_202 (by rw [← hT, lc_n h51 (Or.inl hls2)]; exact ⟨rfl, rfl⟩)
                    · obtain ⟨hcl, hct⟩ := (cpd_le σ now path).resolve_left hc
                      obtain ⟨hc1, hc2, hc3⟩ := cpc_of hct
                      rw [cI_n hc] at hl
                      have hls1 : ls1 σ now path = ((σ 14 (rat σ now (cpd σ now path)) - 1) / 125) := by unfold ls1; rw [if_neg hc]
                      have hpm := pm_big (w := path) (f := cpd σ now path) (g := ((σ 14 (rat σ now (cpd σ now path)) - 1) % 125)) hpa (Nat.mod_lt _ (by decide))
                      refine x_iload hx hb d_M_locate_79 hl rfl ?_
                      refine x_if_ge hx hb d_M_locate_81 rfl (by omega) ?_
                      first | refine x_aload_n hx hb d_M_locate_91 hl rfl ?_ | refine x_aload_nQ hx hb d_M_locate_91 hl rfl ?_
                      refine m_get hx hb hts hown hK hw ci_M (rf_at hI 0 (by decide) rfl) 14 (by decide) (wm3 86 rfl rfl) rfl d_M_locate_92 ?_
                      first | refine x_aload_n hx hb d_M_locate_95 hl rfl ?_ | refine x_aload_nQ hx hb d_M_locate_95 hl rfl ?_
                      refine x_iload hx hb d_M_locate_96 hl rfl ?_
                      refine x_iload hx hb d_M_locate_98 hl rfl ?_
                      refine m_calli (k_V ⟨hx, hb, hml, hown, hts⟩ hE hA hw (c_M_atN hI hB (by omega) (by omega)) (ci_M).1 rfl (rf_at hI 0 (by decide) rfl) (wm3 164 rfl rfl) (wm3 166 rfl rfl) (wmp2 7 rfl) (wm1 9 rfl rfl) (wm3 167 rfl rfl) rfl rfl ar_M_at ⟨Nat.le_trans (Nat.le_of_ble_eq_true rfl) hR.1, Nat.le_trans (Nat.le_of_ble_eq_true rfl) hR.2.1⟩ rfl hl.1 rfl (Nat.le_of_ble_eq_true rfl) d_M_locate_100 ⟨Nat.le_trans (Nat.le_of_ble_eq_true rfl) hR.2.2.1, Nat.le_trans (Nat.le_of_ble_eq_true rfl) hR.2.2.2⟩) hw (mfr_in hw hA) (fun r100 M100 H locs hP100 hw => ?_)
                      obtain ⟨⟨rfl, hb100⟩, hM100⟩ := hP100
                      rw [hM100] at hw
                      have hN4 := rat_N (k := now) (p := cpd σ now path) hN
                      have h149 := h14 (rat σ now (cpd σ now path))
                      refine rl_14 hx hb hK hI hB hw (by omega) d_M_locate_103 (fun hv103 => ?_)
                      refine lv_iconst (v := nI 1) hx hb d_M_locate_104 (by decide) ?_
                      refine x_isub hx hb d_M_locate_105 (by omega) ?_
                      refine lv_bipush (v := nI 125) hx hb d_M_locate_106 (by decide) ?_
                      refine x_idiv hx hb d_M_locate_108 (by omega) (by omega) (by omega) ?_
                      refine x_istore hx hb d_M_locate_109 hl (Nat.le_of_ble_eq_true rfl) (lh_k (i := 8) rfl (by first | exact lk_n | exact lk_i | exact lk_r | exact lk_q | exact lk_0)) (fun ls hl => ?_)
                      refine x_iload hx hb d_M_locate_111 hl rfl ?_
                      refine x_if_ge hx hb d_M_locate_113 rfl (by omega) ?_
                      refine x_iload hx hb d_M_locate_121 hl rfl ?_
                      refine x_iload hx hb d_M_locate_123 hl rfl ?_
                      first | refine x_aload_n hx hb d_M_locate_125 hl rfl ?_ | refine x_aload_nQ hx hb d_M_locate_125 hl rfl ?_
                      refine m_get hx hb hts hown hK hw ci_M (rf_at hI 0 (by decide) rfl) 14 (by decide) (wm3 86 rfl rfl) rfl d_M_locate_126 ?_
                      first | refine x_aload_n hx hb d_M_locate_129 hl rfl ?_ | refine x_aload_nQ hx hb d_M_locate_129 hl rfl ?_
                      refine x_iload hx hb d_M_locate_130 hl rfl ?_
                      refine x_iload hx hb d_M_locate_132 hl rfl ?_
                      refine m_calli (k_V ⟨hx, hb, hml, hown, hts⟩ hE hA hw (c_M_atN hI hB (by omega) (by omega)) (ci_M).1 rfl (rf_at hI 0 (by decide) rfl) (wm3 164 rfl rfl) (wm3 166 rfl rfl) (wmp2 7 rfl) (wm1 9 rfl rfl) (wm3 167 rfl rfl) rfl rfl ar_M_at ⟨Nat.le_trans (Nat.le_of_ble_eq_true rfl) hR.1, Nat.le_trans (Nat.le_of_ble_eq_true rfl) hR.2.1⟩ rfl hl.1 rfl (Nat.le_of_ble_eq_true rfl) d_M_locate_134 ⟨Nat.le_trans (Nat.le_of_ble_eq_true rfl) hR.2.2.1, Nat.le_trans (Nat.le_of_ble_eq_true rfl) hR.2.2.2⟩) hw (mfr_in hw hA) (fun r134 M134 H locs hP134 hw => ?_)
                      obtain ⟨⟨rfl, hb134⟩, hM134⟩ := hP134
                      rw [hM134] at hw
                      refine rl_14 hx hb hK hI hB hw (by omega) d_M_locate_137 (fun hv137 => ?_)
                      refine lv_iconst (v := nI 1) hx hb d_M_locate_138 (by decide) ?_
                      refine x_isub hx hb d_M_locate_139 (by omega) ?_
                      refine lv_bipush (v := nI 125) hx hb d_M_locate_140 (by decide) ?_
                      refine x_irem hx hb d_M_locate_142 (by omega) (by omega) (by omega) ?_
                      refine m_calli (k_S ⟨hx, hb, hml, hown, hts⟩ hE hA hw (c_M_moved (by omega) (by omega) (by omega) (by have := pd_mono hcl; omega)) (wm3 200 rfl rfl) (wm3 201 rfl rfl) (wm1 9 rfl rfl) (wm3 202 rfl rfl) rfl rfl ar_M_moved ⟨Nat.le_trans (Nat.le_of_ble_eq_true rfl) hR.1, Nat.le_trans (Nat.le_of_ble_eq_true rfl) hR.2.1⟩ rfl hl.1 rfl (Nat.le_of_ble_eq_true rfl) d_M_locate_143 ⟨Nat.le_trans (Nat.le_of_ble_eq_true rfl) hR.2.2.1, Nat.le_trans (Nat.le_of_ble_eq_true rfl) hR.2.2.2⟩) hw (mfr_in hw hA) (fun r143 M143 H locs hP143 hw => ?_)
                      obtain ⟨rfl, hM143⟩ := hP143
                      rw [hM143] at hw
                      refine x_istore hx hb d_M_locate_146 hl (Nat.le_of_ble_eq_true rfl) (lh_k (i := 9) rfl (by first | exact lk_n | exact lk_i | exact lk_r | exact lk_q | exact lk_0)) (fun ls hl => ?_)
                      refine x_iload hx hb d_M_locate_148 hl rfl ?_
                      refine x_iload hx hb d_M_locate_150 hl rfl ?_
                      refine x_icmp_eq hx hb d_M_locate_152 rfl (by omega) (by omega) (fun h152 => ?_) (fun h152 => ?_)
                      · refine lv_iconst (v := nI 0) hx hb d_M_locate_159 (by decide) ?_
                        refine x_istore hx hb d_M_locate_160 hl (Nat.le_of_ble_eq_true rfl) (lh_k (i := 10) rfl (by first | exact lk_n | exact lk_i | exact lk_r | exact lk_q | exact lk_0)) (fun ls hl => ?_)
                        refine x_iload hx hb d_M_locate_162 hl rfl ?_
                        refine lv_if_lt hx hb d_M_locate_164 rfl (fun h164 => ?_) (fun h164 => ?_)
                        · have h164 : 3 < pd ((σ 14 (rat σ now (cpd σ now path)) - 1) % 125) + pd path - pd (cpd σ now path) := by
                            rcases Nat.lt_or_ge 3 (pd ((σ 14 (rat σ now (cpd σ now path)) - 1) % 125) + pd path - pd (cpd σ now path)) with z | z
                            · exact z
                            · rw [if_neg (by omega)] at h164
                              exact absurd h164 (nI_pos hpm)
                          have hls2 : ls2 σ now path = 125 := by unfold ls2 lsB; rw [if_neg hc, if_neg (fun z => z.1 h164)]
                          refine lv_iconst (v := -1) hx hb d_M_locate_201 (by decide) ?_
                          exact x_reti hQ hx hb hr hlk rfl hw (by omega) (by omega) d_M_locate_202 (by rw [← hT, lc_n h51 (Or.inl hls2)]; exact ⟨rfl, rfl⟩)
                        · have h164 : ¬ 3 < pd ((σ 14 (rat σ now (cpd σ now path)) - 1) % 125) + pd path - pd (cpd σ now path) := by
                            intro z
                            rw [if_pos z] at h164
                            exact h164 (by decide)
                          rw [if_neg h164] at hl
                          first | refine x_aload_n hx hb d_M_locate_167 hl rfl ?_ | refine x_aload_nQ hx hb d_M_locate_167 hl rfl ?_
                          refine x_iload hx hb d_M_locate_168 hl rfl ?_
                          refine x_iload hx hb d_M_locate_170 hl rfl ?_
                          refine m_calli (k_V ⟨hx, hb, hml, hown, hts⟩ hE hA hw (c_M_at hI hB (by omega)) (ci_M).1 rfl (rf_at hI 0 (by decide) rfl) (wm3 164 rfl rfl) (wm3 166 rfl rfl) (wmp2 7 rfl) (wm1 9 rfl rfl) (wm3 167 rfl rfl) rfl rfl ar_M_at ⟨Nat.le_trans (Nat.le_of_ble_eq_true rfl) hR.1, Nat.le_trans (Nat.le_of_ble_eq_true rfl) hR.2.1⟩ rfl hl.1 rfl (Nat.le_of_ble_eq_true rfl) d_M_locate_172 ⟨Nat.le_trans (Nat.le_of_ble_eq_true rfl) hR.2.2.1, Nat.le_trans (Nat.le_of_ble_eq_true rfl) hR.2.2.2⟩) hw (mfr_in hw hA) (fun r172 M172 H locs hP172 hw => ?_)
                          obtain ⟨⟨rfl, hb172⟩, hM172⟩ := hP172
                          rw [hM172] at hw
                          rw [rat_ix hpm] at hb172 ⊢
                          have hN3 := rat_N (k := ((σ 14 (rat σ now (cpd σ now path)) - 1) / 125)) (p := (pm path (cpd σ now path) ((σ 14 (rat σ now (cpd σ now path)) - 1) % 125))) hN
                          refine x_if_eq hx hb d_M_locate_175 rfl (by omega) (fun h175 => ?_) (fun h175 => ?_)
                          · have hls2 : ls2 σ now path = 125 := by unfold ls2 lsB; rw [if_neg hc, if_neg (fun z => z.2.1 h175)]
                            refine lv_iconst (v := -1) hx hb d_M_locate_201 (by decide) ?_
                            exact x_reti hQ hx hb hr hlk rfl hw (by omega) (by omega) d_M_locate_202 (by rw [← hT, lc_n h51 (Or.inl hls2)]; exact ⟨rfl, rfl⟩)
                          · have hp25 := rat_lt125 h175
                            refine x_iload hx hb d_M_locate_178 hl rfl ?_
                            refine x_if_eq hx hb d_M_locate_180 rfl (by omega) (fun h180 => ?_) (fun h180 => ?_)
                            · first
                                | exact absurd h180 (by omega)
                                | have hls2 : ls2 σ now path = (pm path (cpd σ now path) ((σ 14 (rat σ now (cpd σ now path)) - 1) % 125)) := by unfold ls2 lsB; rw [if_neg hc, if_pos ⟨h164, h175, Or.inl h152⟩]
                                  refine x_iload hx hb d_M_locate_203 hl rfl ?_
                                  refine x_istore hx hb d_M_locate_205 hl (Nat.le_of_ble_eq_true rfl) (lh_k (i := 3) rfl (by first | exact lk_n | exact lk_i | exact lk_r | exact lk_q | exact lk_0)) (fun ls hl => ?_)
                                  refine x_iload hx hb d_M_locate_207 hl rfl ?_
                                  refine x_istore hx hb d_M_locate_209 hl (Nat.le_of_ble_eq_true rfl) (lh_k (i := 4) rfl (by first | exact lk_n | exact lk_i | exact lk_r | exact lk_q | exact lk_0)) (fun ls hl => ?_)
                                  refine x_iload hx hb d_M_locate_211 hl rfl ?_
                                  refine x_iload_n hx hb d_M_locate_213 hl rfl ?_
                                  refine x_icmp_ge hx hb d_M_locate_214 rfl (by omega) (by omega) (fun h214 => ?_) (fun h214 => ?_)
                                  · refine x_iincN hx hb d_M_locate_219 hl rfl (lh_k (i := 5) rfl (by first | exact lk_n | exact lk_i | exact lk_r | exact lk_q | exact lk_0)) (fun ls hl => ?_)
                                    refine lv_goto hx hb d_M_locate_222 rfl ?_
                                    rw [show 16 - (u + 1) + 1 = 16 - u by omega] at hl
                                    exact ih _ _ H locs ls (by omega) (by omega) (by omega) (by omega) (by omega) hw (lh_drop 7 (lh_drop 8 (lh_drop 9 (lh_drop 10 (lh_drop 11 hl))))) ((lc_g h51 hls2 hls1 (by omega) (by omega)).symm.trans hT)
                                  · refine lv_iconst (v := -1) hx hb d_M_locate_217 (by decide) ?_
                                    exact x_reti hQ hx hb hr hlk rfl hw (by omega) (by omega) d_M_locate_218 (by rw [← hT, lc_n h51 (Or.inr (by omega))]; exact ⟨rfl, rfl⟩)
                            · first
                                | exact absurd h180 (by omega)
                                | first | refine x_aload_n hx hb d_M_locate_183 hl rfl ?_ | refine x_aload_nQ hx hb d_M_locate_183 hl rfl ?_
                                  refine m_get hx hb hts hown hK hw ci_M (rf_at hI 0 (by decide) rfl) 10 (by decide) (wm3 82 rfl rfl) rfl d_M_locate_184 ?_
                                  first | refine x_aload_n hx hb d_M_locate_187 hl rfl ?_ | refine x_aload_nQ hx hb d_M_locate_187 hl rfl ?_
                                  refine x_iload hx hb d_M_locate_188 hl rfl ?_
                                  refine x_iload hx hb d_M_locate_190 hl rfl ?_
                                  refine m_calli (k_V ⟨hx, hb, hml, hown, hts⟩ hE hA hw (c_M_at hI hB (by omega)) (ci_M).1 rfl (rf_at hI 0 (by decide) rfl) (wm3 164 rfl rfl) (wm3 166 rfl rfl) (wmp2 7 rfl) (wm1 9 rfl rfl) (wm3 167 rfl rfl) rfl rfl ar_M_at ⟨Nat.le_trans (Nat.le_of_ble_eq_true rfl) hR.1, Nat.le_trans (Nat.le_of_ble_eq_true rfl) hR.2.1⟩ rfl hl.1 rfl (Nat.le_of_ble_eq_true rfl) d_M_locate_192 ⟨Nat.le_trans (Nat.le_of_ble_eq_true rfl) hR.2.2.1, Nat.le_trans (Nat.le_of_ble_eq_true rfl) hR.2.2.2⟩) hw (mfr_in hw hA) (fun r192 M192 H locs hP192 hw => ?_)
                                  obtain ⟨⟨rfl, hb192⟩, hM192⟩ := hP192
                                  rw [hM192] at hw
                                  rw [rat_ix hpm] at hb192 ⊢
                                  refine rl_10 hx hb hK hI hB hw (by omega) d_M_locate_195 (fun hv195 => ?_)
                                  refine x_iload hx hb d_M_locate_196 hl rfl ?_
                                  refine x_icmp_eq hx hb d_M_locate_198 rfl (by omega) (by omega) (fun h198 => ?_) (fun h198 => ?_)
                                  · have hls2 : ls2 σ now path = (pm path (cpd σ now path) ((σ 14 (rat σ now (cpd σ now path)) - 1) % 125)) := by unfold ls2 lsB; rw [if_neg hc, if_pos ⟨h164, h175, Or.inr h198⟩]
                                    refine x_iload hx hb d_M_locate_203 hl rfl ?_
                                    refine x_istore hx hb d_M_locate_205 hl (Nat.le_of_ble_eq_true rfl) (lh_k (i := 3) rfl (by first | exact lk_n | exact lk_i | exact lk_r | exact lk_q | exact lk_0)) (fun ls hl => ?_)
                                    refine x_iload hx hb d_M_locate_207 hl rfl ?_
                                    refine x_istore hx hb d_M_locate_209 hl (Nat.le_of_ble_eq_true rfl) (lh_k (i := 4) rfl (by first | exact lk_n | exact lk_i | exact lk_r | exact lk_q | exact lk_0)) (fun ls hl => ?_)
                                    refine x_iload hx hb d_M_locate_211 hl rfl ?_
                                    refine x_iload_n hx hb d_M_locate_213 hl rfl ?_
                                    refine x_icmp_ge hx hb d_M_locate_214 rfl (by omega) (by omega) (fun h214 => ?_) (fun h214 => ?_)
                                    · refine x_iincN hx hb d_M_locate_219 hl rfl (lh_k (i := 5) rfl (by first | exact lk_n | exact lk_i | exact lk_r | exact lk_q | exact lk_0)) (fun ls hl => ?_)
                                      refine lv_goto hx hb d_M_locate_222 rfl ?_
                                      rw [show 16 - (u + 1) + 1 = 16 - u by omega] at hl
                                      exact ih _ _ H locs ls (by omega) (by omega) (by omega) (by omega) (by omega) hw (lh_drop 7 (lh_drop 8 (lh_drop 9 (lh_drop 10 (lh_drop 11 hl))))) ((lc_g h51 hls2 hls1 (by omega) (by omega)).symm.trans hT)
                                    · refine lv_iconst (v := -1) hx hb d_M_locate_217 (by decide) ?_
                                      exact x_reti hQ hx hb hr hlk rfl hw (by omega) (by omega) d_M_locate_218 (by rw [← hT, lc_n h51 (Or.inr (by omega))]; exact ⟨rfl, rfl⟩)
                                  · have hls2 : ls2 σ now path = 125 := by unfold ls2 lsB; rw [if_neg hc, if_neg (fun z => z.2.2.elim h152 h198)]
                                    refine lv_iconst (v := -1) hx hb d_M_locate_201 (by decide) ?_
                                    exact x_reti hQ hx hb hr hlk rfl hw (by omega) (by omega) d_M_locate_202 (by rw [← hT, lc_n h51 (Or.inl hls2)]; exact ⟨rfl, rfl⟩)
                      · refine lv_iconst (v := nI 1) hx hb d_M_locate_155 (by decide) ?_
                        refine lv_goto hx hb d_M_locate_156 rfl ?_
                        refine x_istore hx hb d_M_locate_160 hl (Nat.le_of_ble_eq_true rfl) (lh_k (i := 10) rfl (by first | exact lk_n | exact lk_i | exact lk_r | exact lk_q | exact lk_0)) (fun ls hl => ?_)
                        refine x_iload hx hb d_M_locate_162 hl rfl ?_
                        refine lv_if_lt hx hb d_M_locate_164 rfl (fun h164 => ?_) (fun h164 => ?_)
                        · have h164 : 3 < pd ((σ 14 (rat σ now (cpd σ now path)) - 1) % 125) + pd path - pd (cpd σ now path) := by
                            rcases Nat.lt_or_ge 3 (pd ((σ 14 (rat σ now (cpd σ now path)) - 1) % 125) + pd path - pd (cpd σ now path)) with z | z
                            · exact z
                            · rw [if_neg (by omega)] at h164
                              exact absurd h164 (nI_pos hpm)
                          have hls2 : ls2 σ now path = 125 := by unfold ls2 lsB; rw [if_neg hc, if_neg (fun z => z.1 h164)]
                          refine lv_iconst (v := -1) hx hb d_M_locate_201 (by decide) ?_
                          exact x_reti hQ hx hb hr hlk rfl hw (by omega) (by omega) d_M_locate_202 (by rw [← hT, lc_n h51 (Or.inl hls2)]; exact ⟨rfl, rfl⟩)
                        · have h164 : ¬ 3 < pd ((σ 14 (rat σ now (cpd σ now path)) - 1) % 125) + pd path - pd (cpd σ now path) := by
                            intro z
                            rw [if_pos z] at h164
                            exact h164 (by decide)
                          rw [if_neg h164] at hl
                          first | refine x_aload_n hx hb d_M_locate_167 hl rfl ?_ | refine x_aload_nQ hx hb d_M_locate_167 hl rfl ?_
                          refine x_iload hx hb d_M_locate_168 hl rfl ?_
                          refine x_iload hx hb d_M_locate_170 hl rfl ?_
                          refine m_calli (k_V ⟨hx, hb, hml, hown, hts⟩ hE hA hw (c_M_at hI hB (by omega)) (ci_M).1 rfl (rf_at hI 0 (by decide) rfl) (wm3 164 rfl rfl) (wm3 166 rfl rfl) (wmp2 7 rfl) (wm1 9 rfl rfl) (wm3 167 rfl rfl) rfl rfl ar_M_at ⟨Nat.le_trans (Nat.le_of_ble_eq_true rfl) hR.1, Nat.le_trans (Nat.le_of_ble_eq_true rfl) hR.2.1⟩ rfl hl.1 rfl (Nat.le_of_ble_eq_true rfl) d_M_locate_172 ⟨Nat.le_trans (Nat.le_of_ble_eq_true rfl) hR.2.2.1, Nat.le_trans (Nat.le_of_ble_eq_true rfl) hR.2.2.2⟩) hw (mfr_in hw hA) (fun r172 M172 H locs hP172 hw => ?_)
                          obtain ⟨⟨rfl, hb172⟩, hM172⟩ := hP172
                          rw [hM172] at hw
                          rw [rat_ix hpm] at hb172 ⊢
                          have hN3 := rat_N (k := ((σ 14 (rat σ now (cpd σ now path)) - 1) / 125)) (p := (pm path (cpd σ now path) ((σ 14 (rat σ now (cpd σ now path)) - 1) % 125))) hN
                          refine x_if_eq hx hb d_M_locate_175 rfl (by omega) (fun h175 => ?_) (fun h175 => ?_)
                          · have hls2 : ls2 σ now path = 125 := by unfold ls2 lsB; rw [if_neg hc, if_neg (fun z => z.2.1 h175)]
                            refine lv_iconst (v := -1) hx hb d_M_locate_201 (by decide) ?_
                            exact x_reti hQ hx hb hr hlk rfl hw (by omega) (by omega) d_M_locate_202 (by rw [← hT, lc_n h51 (Or.inl hls2)]; exact ⟨rfl, rfl⟩)
                          · have hp25 := rat_lt125 h175
                            refine x_iload hx hb d_M_locate_178 hl rfl ?_
                            refine x_if_eq hx hb d_M_locate_180 rfl (by omega) (fun h180 => ?_) (fun h180 => ?_)
                            · first
                                | exact absurd h180 (by omega)
                                | have hls2 : ls2 σ now path = (pm path (cpd σ now path) ((σ 14 (rat σ now (cpd σ now path)) - 1) % 125)) := by unfold ls2 lsB; rw [if_neg hc, if_pos ⟨h164, h175, Or.inl h152⟩]
                                  refine x_iload hx hb d_M_locate_203 hl rfl ?_
                                  refine x_istore hx hb d_M_locate_205 hl (Nat.le_of_ble_eq_true rfl) (lh_k (i := 3) rfl (by first | exact lk_n | exact lk_i | exact lk_r | exact lk_q | exact lk_0)) (fun ls hl => ?_)
                                  refine x_iload hx hb d_M_locate_207 hl rfl ?_
                                  refine x_istore hx hb d_M_locate_209 hl (Nat.le_of_ble_eq_true rfl) (lh_k (i := 4) rfl (by first | exact lk_n | exact lk_i | exact lk_r | exact lk_q | exact lk_0)) (fun ls hl => ?_)
                                  refine x_iload hx hb d_M_locate_211 hl rfl ?_
                                  refine x_iload_n hx hb d_M_locate_213 hl rfl ?_
                                  refine x_icmp_ge hx hb d_M_locate_214 rfl (by omega) (by omega) (fun h214 => ?_) (fun h214 => ?_)
                                  · refine x_iincN hx hb d_M_locate_219 hl rfl (lh_k (i := 5) rfl (by first | exact lk_n | exact lk_i | exact lk_r | exact lk_q | exact lk_0)) (fun ls hl => ?_)
                                    refine lv_goto hx hb d_M_locate_222 rfl ?_
                                    rw [show 16 - (u + 1) + 1 = 16 - u by omega] at hl
                                    exact ih _ _ H locs ls (by omega) (by omega) (by omega) (by omega) (by omega) hw (lh_drop 7 (lh_drop 8 (lh_drop 9 (lh_drop 10 (lh_drop 11 hl))))) ((lc_g h51 hls2 hls1 (by omega) (by omega)).symm.trans hT)
                                  · refine lv_iconst (v := -1) hx hb d_M_locate_217 (by decide) ?_
                                    exact x_reti hQ hx hb hr hlk rfl hw (by omega) (by omega) d_M_locate_218 (by rw [← hT, lc_n h51 (Or.inr (by omega))]; exact ⟨rfl, rfl⟩)
                            · first
                                | exact absurd h180 (by omega)
                                | first | refine x_aload_n hx hb d_M_locate_183 hl rfl ?_ | refine x_aload_nQ hx hb d_M_locate_183 hl rfl ?_
                                  refine m_get hx hb hts hown hK hw ci_M (rf_at hI 0 (by decide) rfl) 10 (by decide) (wm3 82 rfl rfl) rfl d_M_locate_184 ?_
                                  first | refine x_aload_n hx hb d_M_locate_187 hl rfl ?_ | refine x_aload_nQ hx hb d_M_locate_187 hl rfl ?_
                                  refine x_iload hx hb d_M_locate_188 hl rfl ?_
                                  refine x_iload hx hb d_M_locate_190 hl rfl ?_
                                  refine m_calli (k_V ⟨hx, hb, hml, hown, hts⟩ hE hA hw (c_M_at hI hB (by omega)) (ci_M).1 rfl (rf_at hI 0 (by decide) rfl) (wm3 164 rfl rfl) (wm3 166 rfl rfl) (wmp2 7 rfl) (wm1 9 rfl rfl) (wm3 167 rfl rfl) rfl rfl ar_M_at ⟨Nat.le_trans (Nat.le_of_ble_eq_true rfl) hR.1, Nat.le_trans (Nat.le_of_ble_eq_true rfl) hR.2.1⟩ rfl hl.1 rfl (Nat.le_of_ble_eq_true rfl) d_M_locate_192 ⟨Nat.le_trans (Nat.le_of_ble_eq_true rfl) hR.2.2.1, Nat.le_trans (Nat.le_of_ble_eq_true rfl) hR.2.2.2⟩) hw (mfr_in hw hA) (fun r192 M192 H locs hP192 hw => ?_)
                                  obtain ⟨⟨rfl, hb192⟩, hM192⟩ := hP192
                                  rw [hM192] at hw
                                  rw [rat_ix hpm] at hb192 ⊢
                                  refine rl_10 hx hb hK hI hB hw (by omega) d_M_locate_195 (fun hv195 => ?_)
                                  refine x_iload hx hb d_M_locate_196 hl rfl ?_
                                  refine x_icmp_eq hx hb d_M_locate_198 rfl (by omega) (by omega) (fun h198 => ?_) (fun h198 => ?_)
                                  · have hls2 : ls2 σ now path = (pm path (cpd σ now path) ((σ 14 (rat σ now (cpd σ now path)) - 1) % 125)) := by unfold ls2 lsB; rw [if_neg hc, if_pos ⟨h164, h175, Or.inr h198⟩]
                                    refine x_iload hx hb d_M_locate_203 hl rfl ?_
                                    refine x_istore hx hb d_M_locate_205 hl (Nat.le_of_ble_eq_true rfl) (lh_k (i := 3) rfl (by first | exact lk_n | exact lk_i | exact lk_r | exact lk_q | exact lk_0)) (fun ls hl => ?_)
                                    refine x_iload hx hb d_M_locate_207 hl rfl ?_
                                    refine x_istore hx hb d_M_locate_209 hl (Nat.le_of_ble_eq_true rfl) (lh_k (i := 4) rfl (by first | exact lk_n | exact lk_i | exact lk_r | exact lk_q | exact lk_0)) (fun ls hl => ?_)
                                    refine x_iload hx hb d_M_locate_211 hl rfl ?_
                                    refine x_iload_n hx hb d_M_locate_213 hl rfl ?_
                                    refine x_icmp_ge hx hb d_M_locate_214 rfl (by omega) (by omega) (fun h214 => ?_) (fun h214 => ?_)
                                    · refine x_iincN hx hb d_M_locate_219 hl rfl (lh_k (i := 5) rfl (by first | exact lk_n | exact lk_i | exact lk_r | exact lk_q | exact lk_0)) (fun ls hl => ?_)
                                      refine lv_goto hx hb d_M_locate_222 rfl ?_
                                      rw [show 16 - (u + 1) + 1 = 16 - u by omega] at hl
                                      exact ih _ _ H locs ls (by omega) (by omega) (by omega) (by omega) (by omega) hw (lh_drop 7 (lh_drop 8 (lh_drop 9 (lh_drop 10 (lh_drop 11 hl))))) ((lc_g h51 hls2 hls1 (by omega) (by omega)).symm.trans hT)
                                    · refine lv_iconst (v := -1) hx hb d_M_locate_217 (by decide) ?_
                                      exact x_reti hQ hx hb hr hlk rfl hw (by omega) (by omega) d_M_locate_218 (by rw [← hT, lc_n h51 (Or.inr (by omega))]; exact ⟨rfl, rfl⟩)
                                  · have hls2 : ls2 σ now path = 125 := by unfold ls2 lsB; rw [if_neg hc, if_neg (fun z => z.2.2.elim h152 h198)]
                                    refine lv_iconst (v := -1) hx hb d_M_locate_201 (by decide) ?_
                                    exact x_reti hQ hx hb hr hlk rfl hw (by omega) (by omega) d_M_locate_202 (by rw [← hT, lc_n h51 (Or.inl hls2)]; exact ⟨rfl, rfl⟩)
            exact loop 16 r p0 _ _ _ (by omega) (by omega) har hp0 h27 hw hl rfl
          · refine lv_iconst (v := -1) hx hb d_M_locate_30 (by decide) ?_
            exact x_reti hQ hx hb hr hlk rfl hw (by omega) (by omega) d_M_locate_31 (by first | exact ⟨by unfold lcA; rw [if_pos (Or.inl (rv_2 h1))]; rfl, rfl⟩ | exact ⟨by unfold lcA; rw [if_pos (Or.inl (rv_3 (nle_of h9)))]; rfl, rfl⟩ | exact ⟨by unfold lcA; rw [if_pos (Or.inr (Or.inl h13))]; rfl, rfl⟩ | exact ⟨by unfold lcA; rw [if_pos (Or.inr (Or.inr (Or.inl h18)))]; rfl, rfl⟩ | exact ⟨by unfold lcA; rw [if_pos (Or.inr (Or.inr (Or.inr (by rw [hr2]; exact h27))))]; rfl, rfl⟩)
