theorem d_M_node_0 : decode prog_10_method_12_code 0 = .ok (.aload_n 0, 1) := by decide +kernel
theorem d_M_node_1 : decode prog_10_method_12_code 1 = .ok (.dup, 1) := by decide +kernel
theorem d_M_node_2 : decode prog_10_method_12_code 2 = .ok (.getfield 65, 3) := by decide +kernel
theorem d_M_node_5 : decode prog_10_method_12_code 5 = .ok (.iconst 1, 1) := by decide +kernel
theorem d_M_node_6 : decode prog_10_method_12_code 6 = .ok (.iadd, 1) := by decide +kernel
theorem d_M_node_7 : decode prog_10_method_12_code 7 = .ok (.putfield 65, 3) := by decide +kernel
theorem d_M_node_10 : decode prog_10_method_12_code 10 = .ok (.aload_n 0, 1) := by decide +kernel
theorem d_M_node_11 : decode prog_10_method_12_code 11 = .ok (.getfield 21, 3) := by decide +kernel
theorem d_M_node_14 : decode prog_10_method_12_code 14 = .ok (.aload_n 0, 1) := by decide +kernel
theorem d_M_node_15 : decode prog_10_method_12_code 15 = .ok (.getfield 65, 3) := by decide +kernel
theorem d_M_node_18 : decode prog_10_method_12_code 18 = .ok (.iload_n 2, 1) := by decide +kernel
theorem d_M_node_19 : decode prog_10_method_12_code 19 = .ok (.i2b, 1) := by decide +kernel
theorem d_M_node_20 : decode prog_10_method_12_code 20 = .ok (.bastore, 1) := by decide +kernel
theorem d_M_node_21 : decode prog_10_method_12_code 21 = .ok (.aload_n 0, 1) := by decide +kernel
theorem d_M_node_22 : decode prog_10_method_12_code 22 = .ok (.getfield 41, 3) := by decide +kernel
theorem d_M_node_25 : decode prog_10_method_12_code 25 = .ok (.aload_n 0, 1) := by decide +kernel
theorem d_M_node_26 : decode prog_10_method_12_code 26 = .ok (.getfield 65, 3) := by decide +kernel
theorem d_M_node_29 : decode prog_10_method_12_code 29 = .ok (.iconst (-1), 1) := by decide +kernel
theorem d_M_node_30 : decode prog_10_method_12_code 30 = .ok (.iload_n 1, 1) := by decide +kernel
theorem d_M_node_31 : decode prog_10_method_12_code 31 = .ok (.isub, 1) := by decide +kernel
theorem d_M_node_32 : decode prog_10_method_12_code 32 = .ok (.i2b, 1) := by decide +kernel
theorem d_M_node_33 : decode prog_10_method_12_code 33 = .ok (.bastore, 1) := by decide +kernel
theorem d_M_node_34 : decode prog_10_method_12_code 34 = .ok (.aload_n 0, 1) := by decide +kernel
theorem d_M_node_35 : decode prog_10_method_12_code 35 = .ok (.getfield 44, 3) := by decide +kernel
theorem d_M_node_38 : decode prog_10_method_12_code 38 = .ok (.aload_n 0, 1) := by decide +kernel
theorem d_M_node_39 : decode prog_10_method_12_code 39 = .ok (.getfield 65, 3) := by decide +kernel
theorem d_M_node_42 : decode prog_10_method_12_code 42 = .ok (.iload_n 3, 1) := by decide +kernel
theorem d_M_node_43 : decode prog_10_method_12_code 43 = .ok (.i2s, 1) := by decide +kernel
theorem d_M_node_44 : decode prog_10_method_12_code 44 = .ok (.sastore, 1) := by decide +kernel
theorem d_M_node_45 : decode prog_10_method_12_code 45 = .ok (.aload_n 0, 1) := by decide +kernel
theorem d_M_node_46 : decode prog_10_method_12_code 46 = .ok (.getfield 38, 3) := by decide +kernel
theorem d_M_node_49 : decode prog_10_method_12_code 49 = .ok (.aload_n 0, 1) := by decide +kernel
theorem d_M_node_50 : decode prog_10_method_12_code 50 = .ok (.getfield 65, 3) := by decide +kernel
theorem d_M_node_53 : decode prog_10_method_12_code 53 = .ok (.iload_n 3, 1) := by decide +kernel
theorem d_M_node_54 : decode prog_10_method_12_code 54 = .ok (.ifCond .ne 7, 3) := by decide +kernel
theorem d_M_node_57 : decode prog_10_method_12_code 57 = .ok (.iconst 0, 1) := by decide +kernel
theorem d_M_node_58 : decode prog_10_method_12_code 58 = .ok (.goto 11, 3) := by decide +kernel
theorem d_M_node_61 : decode prog_10_method_12_code 61 = .ok (.aload_n 0, 1) := by decide +kernel
theorem d_M_node_62 : decode prog_10_method_12_code 62 = .ok (.getfield 38, 3) := by decide +kernel
theorem d_M_node_65 : decode prog_10_method_12_code 65 = .ok (.iload_n 3, 1) := by decide +kernel
theorem d_M_node_66 : decode prog_10_method_12_code 66 = .ok (.saload, 1) := by decide +kernel
theorem d_M_node_67 : decode prog_10_method_12_code 67 = .ok (.iconst 1, 1) := by decide +kernel
theorem d_M_node_68 : decode prog_10_method_12_code 68 = .ok (.iadd, 1) := by decide +kernel
theorem d_M_node_69 : decode prog_10_method_12_code 69 = .ok (.i2s, 1) := by decide +kernel
theorem d_M_node_70 : decode prog_10_method_12_code 70 = .ok (.sastore, 1) := by decide +kernel
theorem d_M_node_71 : decode prog_10_method_12_code 71 = .ok (.aload_n 0, 1) := by decide +kernel
theorem d_M_node_72 : decode prog_10_method_12_code 72 = .ok (.getfield 25, 3) := by decide +kernel
theorem d_M_node_75 : decode prog_10_method_12_code 75 = .ok (.aload_n 0, 1) := by decide +kernel
theorem d_M_node_76 : decode prog_10_method_12_code 76 = .ok (.getfield 65, 3) := by decide +kernel
theorem d_M_node_79 : decode prog_10_method_12_code 79 = .ok (.iload_n 3, 1) := by decide +kernel
theorem d_M_node_80 : decode prog_10_method_12_code 80 = .ok (.ifCond .ne 7, 3) := by decide +kernel
theorem d_M_node_83 : decode prog_10_method_12_code 83 = .ok (.iconst 0, 1) := by decide +kernel
theorem d_M_node_84 : decode prog_10_method_12_code 84 = .ok (.goto 9, 3) := by decide +kernel
theorem d_M_node_87 : decode prog_10_method_12_code 87 = .ok (.aload_n 0, 1) := by decide +kernel
theorem d_M_node_88 : decode prog_10_method_12_code 88 = .ok (.getfield 25, 3) := by decide +kernel
theorem d_M_node_91 : decode prog_10_method_12_code 91 = .ok (.iload_n 3, 1) := by decide +kernel
theorem d_M_node_92 : decode prog_10_method_12_code 92 = .ok (.baload, 1) := by decide +kernel
theorem d_M_node_93 : decode prog_10_method_12_code 93 = .ok (.bastore, 1) := by decide +kernel
theorem d_M_node_94 : decode prog_10_method_12_code 94 = .ok (.aload_n 0, 1) := by decide +kernel
theorem d_M_node_95 : decode prog_10_method_12_code 95 = .ok (.getfield 31, 3) := by decide +kernel
theorem d_M_node_98 : decode prog_10_method_12_code 98 = .ok (.aload_n 0, 1) := by decide +kernel
theorem d_M_node_99 : decode prog_10_method_12_code 99 = .ok (.getfield 65, 3) := by decide +kernel
theorem d_M_node_102 : decode prog_10_method_12_code 102 = .ok (.iload_n 3, 1) := by decide +kernel
theorem d_M_node_103 : decode prog_10_method_12_code 103 = .ok (.ifCond .ne 7, 3) := by decide +kernel
theorem d_M_node_106 : decode prog_10_method_12_code 106 = .ok (.lconst 0, 1) := by decide +kernel
theorem d_M_node_107 : decode prog_10_method_12_code 107 = .ok (.goto 9, 3) := by decide +kernel
theorem d_M_node_110 : decode prog_10_method_12_code 110 = .ok (.aload_n 0, 1) := by decide +kernel
theorem d_M_node_111 : decode prog_10_method_12_code 111 = .ok (.getfield 31, 3) := by decide +kernel
theorem d_M_node_114 : decode prog_10_method_12_code 114 = .ok (.iload_n 3, 1) := by decide +kernel
theorem d_M_node_115 : decode prog_10_method_12_code 115 = .ok (.laload, 1) := by decide +kernel
theorem d_M_node_116 : decode prog_10_method_12_code 116 = .ok (.lastore, 1) := by decide +kernel
theorem d_M_node_117 : decode prog_10_method_12_code 117 = .ok (.aload_n 0, 1) := by decide +kernel
theorem d_M_node_118 : decode prog_10_method_12_code 118 = .ok (.getfield 50, 3) := by decide +kernel
theorem d_M_node_121 : decode prog_10_method_12_code 121 = .ok (.aload_n 0, 1) := by decide +kernel
theorem d_M_node_122 : decode prog_10_method_12_code 122 = .ok (.getfield 65, 3) := by decide +kernel
theorem d_M_node_125 : decode prog_10_method_12_code 125 = .ok (.iload_n 3, 1) := by decide +kernel
theorem d_M_node_126 : decode prog_10_method_12_code 126 = .ok (.ifCond .ne 7, 3) := by decide +kernel
theorem d_M_node_129 : decode prog_10_method_12_code 129 = .ok (.iconst 0, 1) := by decide +kernel
theorem d_M_node_130 : decode prog_10_method_12_code 130 = .ok (.goto 9, 3) := by decide +kernel
theorem d_M_node_133 : decode prog_10_method_12_code 133 = .ok (.aload_n 0, 1) := by decide +kernel
theorem d_M_node_134 : decode prog_10_method_12_code 134 = .ok (.getfield 50, 3) := by decide +kernel
theorem d_M_node_137 : decode prog_10_method_12_code 137 = .ok (.iload_n 3, 1) := by decide +kernel
theorem d_M_node_138 : decode prog_10_method_12_code 138 = .ok (.saload, 1) := by decide +kernel
theorem d_M_node_139 : decode prog_10_method_12_code 139 = .ok (.sastore, 1) := by decide +kernel
theorem d_M_node_140 : decode prog_10_method_12_code 140 = .ok (.aload_n 0, 1) := by decide +kernel
theorem d_M_node_141 : decode prog_10_method_12_code 141 = .ok (.getfield 35, 3) := by decide +kernel
theorem d_M_node_144 : decode prog_10_method_12_code 144 = .ok (.aload_n 0, 1) := by decide +kernel
theorem d_M_node_145 : decode prog_10_method_12_code 145 = .ok (.getfield 65, 3) := by decide +kernel
theorem d_M_node_148 : decode prog_10_method_12_code 148 = .ok (.iload_n 3, 1) := by decide +kernel
theorem d_M_node_149 : decode prog_10_method_12_code 149 = .ok (.ifCond .ne 7, 3) := by decide +kernel
theorem d_M_node_152 : decode prog_10_method_12_code 152 = .ok (.iconst 0, 1) := by decide +kernel
theorem d_M_node_153 : decode prog_10_method_12_code 153 = .ok (.goto 9, 3) := by decide +kernel
theorem d_M_node_156 : decode prog_10_method_12_code 156 = .ok (.aload_n 0, 1) := by decide +kernel
theorem d_M_node_157 : decode prog_10_method_12_code 157 = .ok (.getfield 35, 3) := by decide +kernel
theorem d_M_node_160 : decode prog_10_method_12_code 160 = .ok (.iload_n 3, 1) := by decide +kernel
theorem d_M_node_161 : decode prog_10_method_12_code 161 = .ok (.saload, 1) := by decide +kernel
theorem d_M_node_162 : decode prog_10_method_12_code 162 = .ok (.sastore, 1) := by decide +kernel
theorem d_M_node_163 : decode prog_10_method_12_code 163 = .ok (.aload_n 0, 1) := by decide +kernel
theorem d_M_node_164 : decode prog_10_method_12_code 164 = .ok (.getfield 65, 3) := by decide +kernel
theorem d_M_node_167 : decode prog_10_method_12_code 167 = .ok (.ireturn, 1) := by decide +kernel
set_option maxHeartbeats 4000000 in
set_option maxRecDepth 100000 in
theorem c_M_node0 {l : Launch} {E : Ev} {σ : SS} {ad : Nat → Nat} (hI : rfI ad) (hB : rB σ) {sz : Nat} {t w : Nat} (ht : t < 3) (hw1 : w < 128) (hn : σ 4 0 + 1 < 1300) : MCi l E y_M_node prog_10_method_12_code 4 (some .int) 0 0 0 0 [.ref (ad 0), .int (nI t), .int (nI w), .int (nI 0)] (rfM E σ ad) sz (fun r M' => r = nI (σ 4 0 + 1) ∧ M' = rfM E (nod0 σ t w) ad ∧ rB (nod0 σ t w)) := by
  refine mc_of R_M rfl [some (.ref (ad 0)), some (.int (nI t)), some (.int (nI w)), some (.int (nI 0))] (by decide) (Nat.le_of_ble_eq_true rfl) rfl ?_
  intro p e R s m ag below meth c ls Q A X hAe hQ hR hsz hw hl
  rw [← hAe] at hQ
  obtain ⟨⟨hx, hb, hml, hown, hts⟩, hE, hA, hr, hlk, hnm⟩ := X
  have hK := hE.1
  first | refine x_aload_n hx hb d_M_node_0 hl rfl ?_ | refine x_aload_nQ hx hb d_M_node_0 hl rfl ?_
  first | refine lv_dup hx hb d_M_node_1 rfl ?_ | refine lv_dup hx hb d_M_node_1 (va_rf_c _) ?_
  refine m_get hx hb hts hown hK hw ci_M (rf_at hI 0 (by decide) rfl) 4 (by decide) (wm3 76 rfl rfl) rfl d_M_node_2 ?_
  have hs2 := hB 4 0 (by decide) (by decide)
  refine lv_iconst (v := nI 1) hx hb d_M_node_5 (by decide) ?_
  first | refine x_iadd hx hb d_M_node_6 ?_ | refine lv_iadd hx hb d_M_node_6 ?_
  refine rp_4 hx hb hts hown hK hI hB hw (wm3 76 rfl rfl) (by omega) d_M_node_7 (fun H locs hw hB => ?_)
  first | refine x_aload_n hx hb d_M_node_10 hl rfl ?_ | refine x_aload_nQ hx hb d_M_node_10 hl rfl ?_
  refine m_get hx hb hts hown hK hw ci_M (rf_at hI 0 (by decide) rfl) 6 (by decide) (wm3 78 rfl rfl) rfl d_M_node_11 ?_
  first | refine x_aload_n hx hb d_M_node_14 hl rfl ?_ | refine x_aload_nQ hx hb d_M_node_14 hl rfl ?_
  refine m_get (v := .int (nI (σ 4 0 + 1))) hx hb hts hown hK hw ci_M (rf_at hI 0 (by decide) rfl) 4 (by decide) (wm3 76 rfl rfl) rfl d_M_node_15 ?_
  refine x_iload_n hx hb d_M_node_18 hl rfl ?_
  first | refine x_i2b hx hb d_M_node_19 (by omega) ?_ | refine lv_i2b hx hb d_M_node_19 rfl ?_
  refine rs_6 hx hb hK hI hB hw (by omega) (by omega) d_M_node_20 (fun H locs hw hB => ?_)
  first | refine x_aload_n hx hb d_M_node_21 hl rfl ?_ | refine x_aload_nQ hx hb d_M_node_21 hl rfl ?_
  refine m_get hx hb hts hown hK hw ci_M (rf_at hI 0 (by decide) rfl) 12 (by decide) (wm3 84 rfl rfl) rfl d_M_node_22 ?_
  first | refine x_aload_n hx hb d_M_node_25 hl rfl ?_ | refine x_aload_nQ hx hb d_M_node_25 hl rfl ?_
  refine m_get (v := .int (nI (σ 4 0 + 1))) hx hb hts hown hK hw ci_M (rf_at hI 0 (by decide) rfl) 4 (by decide) (wm3 76 rfl rfl) rfl d_M_node_26 ?_
  refine lv_iconst (v := -1) hx hb d_M_node_29 (by decide) ?_
  refine x_iload_n hx hb d_M_node_30 hl rfl ?_
  refine lv_isub hx hb d_M_node_31 ?_
  refine lv_i2b (v := bI (255 - t)) hx hb d_M_node_32 (bI_t ht) ?_
  refine rs_12 hx hb hK hI hB hw (by omega) (by omega) d_M_node_33 (fun H locs hw hB => ?_)
  first | refine x_aload_n hx hb d_M_node_34 hl rfl ?_ | refine x_aload_nQ hx hb d_M_node_34 hl rfl ?_
  refine m_get hx hb hts hown hK hw ci_M (rf_at hI 0 (by decide) rfl) 13 (by decide) (wm3 85 rfl rfl) rfl d_M_node_35 ?_
  first | refine x_aload_n hx hb d_M_node_38 hl rfl ?_ | refine x_aload_nQ hx hb d_M_node_38 hl rfl ?_
  refine m_get (v := .int (nI (σ 4 0 + 1))) hx hb hts hown hK hw ci_M (rf_at hI 0 (by decide) rfl) 4 (by decide) (wm3 76 rfl rfl) rfl d_M_node_39 ?_
  refine x_iload_n hx hb d_M_node_42 hl rfl ?_
  first | refine x_i2s hx hb d_M_node_43 (by omega) ?_ | refine lv_i2s hx hb d_M_node_43 rfl ?_
  refine rs_13 hx hb hK hI hB hw (by omega) (by omega) d_M_node_44 (fun H locs hw hB => ?_)
  first | refine x_aload_n hx hb d_M_node_45 hl rfl ?_ | refine x_aload_nQ hx hb d_M_node_45 hl rfl ?_
  refine m_get hx hb hts hown hK hw ci_M (rf_at hI 0 (by decide) rfl) 11 (by decide) (wm3 83 rfl rfl) rfl d_M_node_46 ?_
  first | refine x_aload_n hx hb d_M_node_49 hl rfl ?_ | refine x_aload_nQ hx hb d_M_node_49 hl rfl ?_
  refine m_get (v := .int (nI (σ 4 0 + 1))) hx hb hts hown hK hw ci_M (rf_at hI 0 (by decide) rfl) 4 (by decide) (wm3 76 rfl rfl) rfl d_M_node_50 ?_
  refine x_iload_n hx hb d_M_node_53 hl rfl ?_
  refine x_if_ne hx hb d_M_node_54 rfl (by omega) (fun h54 => ?_) (fun h54 => ?_)
  · exact absurd h54 (by omega)
  · refine lv_iconst (v := nI 0) hx hb d_M_node_57 (by decide) ?_
    refine lv_goto hx hb d_M_node_58 rfl ?_
    first | refine x_i2s hx hb d_M_node_69 (by omega) ?_ | refine lv_i2s hx hb d_M_node_69 rfl ?_
    refine rs_11 hx hb hK hI hB hw (by omega) (by omega) d_M_node_70 (fun H locs hw hB => ?_)
    first | refine x_aload_n hx hb d_M_node_71 hl rfl ?_ | refine x_aload_nQ hx hb d_M_node_71 hl rfl ?_
    refine m_get hx hb hts hown hK hw ci_M (rf_at hI 0 (by decide) rfl) 7 (by decide) (wm3 79 rfl rfl) rfl d_M_node_72 ?_
    first | refine x_aload_n hx hb d_M_node_75 hl rfl ?_ | refine x_aload_nQ hx hb d_M_node_75 hl rfl ?_
    refine m_get (v := .int (nI (σ 4 0 + 1))) hx hb hts hown hK hw ci_M (rf_at hI 0 (by decide) rfl) 4 (by decide) (wm3 76 rfl rfl) rfl d_M_node_76 ?_
    refine x_iload_n hx hb d_M_node_79 hl rfl ?_
    refine x_if_ne hx hb d_M_node_80 rfl (by omega) (fun h80 => ?_) (fun h80 => ?_)
    · exact absurd h80 (by omega)
    · refine lv_iconst (v := nI 0) hx hb d_M_node_83 (by decide) ?_
      refine lv_goto hx hb d_M_node_84 rfl ?_
      refine rs_7 hx hb hK hI hB hw (by omega) (by omega) d_M_node_93 (fun H locs hw hB => ?_)
      first | refine x_aload_n hx hb d_M_node_94 hl rfl ?_ | refine x_aload_nQ hx hb d_M_node_94 hl rfl ?_
      refine m_get hx hb hts hown hK hw ci_M (rf_at hI 0 (by decide) rfl) 9 (by decide) (wm3 81 rfl rfl) rfl d_M_node_95 ?_
      first | refine x_aload_n hx hb d_M_node_98 hl rfl ?_ | refine x_aload_nQ hx hb d_M_node_98 hl rfl ?_
      refine m_get (v := .int (nI (σ 4 0 + 1))) hx hb hts hown hK hw ci_M (rf_at hI 0 (by decide) rfl) 4 (by decide) (wm3 76 rfl rfl) rfl d_M_node_99 ?_
      refine x_iload_n hx hb d_M_node_102 hl rfl ?_
      refine x_if_ne hx hb d_M_node_103 rfl (by omega) (fun h103 => ?_) (fun h103 => ?_)
      · exact absurd h103 (by omega)
      · refine lv_lconst (v := 0) hx hb d_M_node_106 (by decide) ?_
        refine lv_goto hx hb d_M_node_107 rfl ?_
        refine rs_9 hx hb hK hI hB hw (by omega) d_M_node_116 (fun H locs hw hB => ?_)
        first | refine x_aload_n hx hb d_M_node_117 hl rfl ?_ | refine x_aload_nQ hx hb d_M_node_117 hl rfl ?_
        refine m_get hx hb hts hown hK hw ci_M (rf_at hI 0 (by decide) rfl) 15 (by decide) (wm3 87 rfl rfl) rfl d_M_node_118 ?_
        first | refine x_aload_n hx hb d_M_node_121 hl rfl ?_ | refine x_aload_nQ hx hb d_M_node_121 hl rfl ?_
        refine m_get (v := .int (nI (σ 4 0 + 1))) hx hb hts hown hK hw ci_M (rf_at hI 0 (by decide) rfl) 4 (by decide) (wm3 76 rfl rfl) rfl d_M_node_122 ?_
        refine x_iload_n hx hb d_M_node_125 hl rfl ?_
        refine x_if_ne hx hb d_M_node_126 rfl (by omega) (fun h126 => ?_) (fun h126 => ?_)
        · exact absurd h126 (by omega)
        · refine lv_iconst (v := nI 0) hx hb d_M_node_129 (by decide) ?_
          refine lv_goto hx hb d_M_node_130 rfl ?_
          refine rs_15 hx hb hK hI hB hw (by omega) (by omega) d_M_node_139 (fun H locs hw hB => ?_)
          first | refine x_aload_n hx hb d_M_node_140 hl rfl ?_ | refine x_aload_nQ hx hb d_M_node_140 hl rfl ?_
          refine m_get hx hb hts hown hK hw ci_M (rf_at hI 0 (by decide) rfl) 10 (by decide) (wm3 82 rfl rfl) rfl d_M_node_141 ?_
          first | refine x_aload_n hx hb d_M_node_144 hl rfl ?_ | refine x_aload_nQ hx hb d_M_node_144 hl rfl ?_
          refine m_get (v := .int (nI (σ 4 0 + 1))) hx hb hts hown hK hw ci_M (rf_at hI 0 (by decide) rfl) 4 (by decide) (wm3 76 rfl rfl) rfl d_M_node_145 ?_
          refine x_iload_n hx hb d_M_node_148 hl rfl ?_
          refine x_if_ne hx hb d_M_node_149 rfl (by omega) (fun h149 => ?_) (fun h149 => ?_)
          · exact absurd h149 (by omega)
          · refine lv_iconst (v := nI 0) hx hb d_M_node_152 (by decide) ?_
            refine lv_goto hx hb d_M_node_153 rfl ?_
            refine rs_10 hx hb hK hI hB hw (by omega) (by omega) d_M_node_162 (fun H locs hw hB => ?_)
            first | refine x_aload_n hx hb d_M_node_163 hl rfl ?_ | refine x_aload_nQ hx hb d_M_node_163 hl rfl ?_
            refine m_get (v := .int (nI (σ 4 0 + 1))) hx hb hts hown hK hw ci_M (rf_at hI 0 (by decide) rfl) 4 (by decide) (wm3 76 rfl rfl) rfl d_M_node_164 ?_
            exact x_reti hQ hx hb hr hlk rfl hw (by omega) (by omega) d_M_node_167 (⟨rfl, rfl, hB⟩)

set_option maxHeartbeats 4000000 in
set_option maxRecDepth 100000 in
theorem c_M_node1 {l : Launch} {E : Ev} {σ : SS} {ad : Nat → Nat} (hI : rfI ad) (hB : rB σ) {sz : Nat} {t w old : Nat} (ht : t < 3) (hw1 : w < 128) (hn : σ 4 0 + 1 < 1300) (h0 : 0 < old) (ho : old < 1300) (hc : σ 11 old + 1 < 32768) (hz : σ 7 old < 128) : MCi l E y_M_node prog_10_method_12_code 4 (some .int) 0 0 0 0 [.ref (ad 0), .int (nI t), .int (nI w), .int (nI old)] (rfM E σ ad) sz (fun r M' => r = nI (σ 4 0 + 1) ∧ M' = rfM E (nod1 σ t w old) ad ∧ rB (nod1 σ t w old)) := by
  refine mc_of R_M rfl [some (.ref (ad 0)), some (.int (nI t)), some (.int (nI w)), some (.int (nI old))] (by decide) (Nat.le_of_ble_eq_true rfl) rfl ?_
  intro p e R s m ag below meth c ls Q A X hAe hQ hR hsz hw hl
  rw [← hAe] at hQ
  obtain ⟨⟨hx, hb, hml, hown, hts⟩, hE, hA, hr, hlk, hnm⟩ := X
  have hK := hE.1
  first | refine x_aload_n hx hb d_M_node_0 hl rfl ?_ | refine x_aload_nQ hx hb d_M_node_0 hl rfl ?_
  first | refine lv_dup hx hb d_M_node_1 rfl ?_ | refine lv_dup hx hb d_M_node_1 (va_rf_c _) ?_
  refine m_get hx hb hts hown hK hw ci_M (rf_at hI 0 (by decide) rfl) 4 (by decide) (wm3 76 rfl rfl) rfl d_M_node_2 ?_
  have hs2 := hB 4 0 (by decide) (by decide)
  refine lv_iconst (v := nI 1) hx hb d_M_node_5 (by decide) ?_
  first | refine x_iadd hx hb d_M_node_6 ?_ | refine lv_iadd hx hb d_M_node_6 ?_
  refine rp_4 hx hb hts hown hK hI hB hw (wm3 76 rfl rfl) (by omega) d_M_node_7 (fun H locs hw hB => ?_)
  first | refine x_aload_n hx hb d_M_node_10 hl rfl ?_ | refine x_aload_nQ hx hb d_M_node_10 hl rfl ?_
  refine m_get hx hb hts hown hK hw ci_M (rf_at hI 0 (by decide) rfl) 6 (by decide) (wm3 78 rfl rfl) rfl d_M_node_11 ?_
  first | refine x_aload_n hx hb d_M_node_14 hl rfl ?_ | refine x_aload_nQ hx hb d_M_node_14 hl rfl ?_
  refine m_get (v := .int (nI (σ 4 0 + 1))) hx hb hts hown hK hw ci_M (rf_at hI 0 (by decide) rfl) 4 (by decide) (wm3 76 rfl rfl) rfl d_M_node_15 ?_
  refine x_iload_n hx hb d_M_node_18 hl rfl ?_
  first | refine x_i2b hx hb d_M_node_19 (by omega) ?_ | refine lv_i2b hx hb d_M_node_19 rfl ?_
  refine rs_6 hx hb hK hI hB hw (by omega) (by omega) d_M_node_20 (fun H locs hw hB => ?_)
  first | refine x_aload_n hx hb d_M_node_21 hl rfl ?_ | refine x_aload_nQ hx hb d_M_node_21 hl rfl ?_
  refine m_get hx hb hts hown hK hw ci_M (rf_at hI 0 (by decide) rfl) 12 (by decide) (wm3 84 rfl rfl) rfl d_M_node_22 ?_
  first | refine x_aload_n hx hb d_M_node_25 hl rfl ?_ | refine x_aload_nQ hx hb d_M_node_25 hl rfl ?_
  refine m_get (v := .int (nI (σ 4 0 + 1))) hx hb hts hown hK hw ci_M (rf_at hI 0 (by decide) rfl) 4 (by decide) (wm3 76 rfl rfl) rfl d_M_node_26 ?_
  refine lv_iconst (v := -1) hx hb d_M_node_29 (by decide) ?_
  refine x_iload_n hx hb d_M_node_30 hl rfl ?_
  refine lv_isub hx hb d_M_node_31 ?_
  refine lv_i2b (v := bI (255 - t)) hx hb d_M_node_32 (bI_t ht) ?_
  refine rs_12 hx hb hK hI hB hw (by omega) (by omega) d_M_node_33 (fun H locs hw hB => ?_)
  first | refine x_aload_n hx hb d_M_node_34 hl rfl ?_ | refine x_aload_nQ hx hb d_M_node_34 hl rfl ?_
  refine m_get hx hb hts hown hK hw ci_M (rf_at hI 0 (by decide) rfl) 13 (by decide) (wm3 85 rfl rfl) rfl d_M_node_35 ?_
  first | refine x_aload_n hx hb d_M_node_38 hl rfl ?_ | refine x_aload_nQ hx hb d_M_node_38 hl rfl ?_
  refine m_get (v := .int (nI (σ 4 0 + 1))) hx hb hts hown hK hw ci_M (rf_at hI 0 (by decide) rfl) 4 (by decide) (wm3 76 rfl rfl) rfl d_M_node_39 ?_
  refine x_iload_n hx hb d_M_node_42 hl rfl ?_
  first | refine x_i2s hx hb d_M_node_43 (by omega) ?_ | refine lv_i2s hx hb d_M_node_43 rfl ?_
  refine rs_13 hx hb hK hI hB hw (by omega) (by omega) d_M_node_44 (fun H locs hw hB => ?_)
  first | refine x_aload_n hx hb d_M_node_45 hl rfl ?_ | refine x_aload_nQ hx hb d_M_node_45 hl rfl ?_
  refine m_get hx hb hts hown hK hw ci_M (rf_at hI 0 (by decide) rfl) 11 (by decide) (wm3 83 rfl rfl) rfl d_M_node_46 ?_
  first | refine x_aload_n hx hb d_M_node_49 hl rfl ?_ | refine x_aload_nQ hx hb d_M_node_49 hl rfl ?_
  refine m_get (v := .int (nI (σ 4 0 + 1))) hx hb hts hown hK hw ci_M (rf_at hI 0 (by decide) rfl) 4 (by decide) (wm3 76 rfl rfl) rfl d_M_node_50 ?_
  refine x_iload_n hx hb d_M_node_53 hl rfl ?_
  refine x_if_ne hx hb d_M_node_54 rfl (by omega) (fun h54 => ?_) (fun h54 => ?_)
  · first | refine x_aload_n hx hb d_M_node_61 hl rfl ?_ | refine x_aload_nQ hx hb d_M_node_61 hl rfl ?_
    refine m_get hx hb hts hown hK hw ci_M (rf_at hI 0 (by decide) rfl) 11 (by decide) (wm3 83 rfl rfl) rfl d_M_node_62 ?_
    refine x_iload_n hx hb d_M_node_65 hl rfl ?_
    refine rl_11 hx hb hK hI hB hw (by omega) d_M_node_66 (fun hv66 => ?_)
    refine lv_iconst (v := nI 1) hx hb d_M_node_67 (by decide) ?_
    first | refine x_iadd hx hb d_M_node_68 ?_ | refine lv_iadd hx hb d_M_node_68 ?_
    refine x_i2s hx hb d_M_node_69 (show _ from hc) ?_
    refine rs_11 hx hb hK hI hB hw (by omega) hc d_M_node_70 (fun H locs hw hB => ?_)
    first | refine x_aload_n hx hb d_M_node_71 hl rfl ?_ | refine x_aload_nQ hx hb d_M_node_71 hl rfl ?_
    refine m_get hx hb hts hown hK hw ci_M (rf_at hI 0 (by decide) rfl) 7 (by decide) (wm3 79 rfl rfl) rfl d_M_node_72 ?_
    first | refine x_aload_n hx hb d_M_node_75 hl rfl ?_ | refine x_aload_nQ hx hb d_M_node_75 hl rfl ?_
    refine m_get (v := .int (nI (σ 4 0 + 1))) hx hb hts hown hK hw ci_M (rf_at hI 0 (by decide) rfl) 4 (by decide) (wm3 76 rfl rfl) rfl d_M_node_76 ?_
    refine x_iload_n hx hb d_M_node_79 hl rfl ?_
    refine x_if_ne hx hb d_M_node_80 rfl (by omega) (fun h80 => ?_) (fun h80 => ?_)
    · first | refine x_aload_n hx hb d_M_node_87 hl rfl ?_ | refine x_aload_nQ hx hb d_M_node_87 hl rfl ?_
      refine m_get hx hb hts hown hK hw ci_M (rf_at hI 0 (by decide) rfl) 7 (by decide) (wm3 79 rfl rfl) rfl d_M_node_88 ?_
      refine x_iload_n hx hb d_M_node_91 hl rfl ?_
      refine rl_7 hx hb hK hI hB hw (by omega) d_M_node_92 (fun hv92 => ?_)
      refine rs_7 hx hb hK hI hB hw (by omega) hz d_M_node_93 (fun H locs hw hB => ?_)
      first | refine x_aload_n hx hb d_M_node_94 hl rfl ?_ | refine x_aload_nQ hx hb d_M_node_94 hl rfl ?_
      refine m_get hx hb hts hown hK hw ci_M (rf_at hI 0 (by decide) rfl) 9 (by decide) (wm3 81 rfl rfl) rfl d_M_node_95 ?_
      first | refine x_aload_n hx hb d_M_node_98 hl rfl ?_ | refine x_aload_nQ hx hb d_M_node_98 hl rfl ?_
      refine m_get (v := .int (nI (σ 4 0 + 1))) hx hb hts hown hK hw ci_M (rf_at hI 0 (by decide) rfl) 4 (by decide) (wm3 76 rfl rfl) rfl d_M_node_99 ?_
      refine x_iload_n hx hb d_M_node_102 hl rfl ?_
      refine x_if_ne hx hb d_M_node_103 rfl (by omega) (fun h103 => ?_) (fun h103 => ?_)
      · first | refine x_aload_n hx hb d_M_node_110 hl rfl ?_ | refine x_aload_nQ hx hb d_M_node_110 hl rfl ?_
        refine m_get hx hb hts hown hK hw ci_M (rf_at hI 0 (by decide) rfl) 9 (by decide) (wm3 81 rfl rfl) rfl d_M_node_111 ?_
        refine x_iload_n hx hb d_M_node_114 hl rfl ?_
        refine rl_9 hx hb hK hI hw (by omega) d_M_node_115 ?_
        refine rs_9 hx hb hK hI hB hw (by omega) d_M_node_116 (fun H locs hw hB => ?_)
        first | refine x_aload_n hx hb d_M_node_117 hl rfl ?_ | refine x_aload_nQ hx hb d_M_node_117 hl rfl ?_
        refine m_get hx hb hts hown hK hw ci_M (rf_at hI 0 (by decide) rfl) 15 (by decide) (wm3 87 rfl rfl) rfl d_M_node_118 ?_
        first | refine x_aload_n hx hb d_M_node_121 hl rfl ?_ | refine x_aload_nQ hx hb d_M_node_121 hl rfl ?_
        refine m_get (v := .int (nI (σ 4 0 + 1))) hx hb hts hown hK hw ci_M (rf_at hI 0 (by decide) rfl) 4 (by decide) (wm3 76 rfl rfl) rfl d_M_node_122 ?_
        refine x_iload_n hx hb d_M_node_125 hl rfl ?_
        refine x_if_ne hx hb d_M_node_126 rfl (by omega) (fun h126 => ?_) (fun h126 => ?_)
        · first | refine x_aload_n hx hb d_M_node_133 hl rfl ?_ | refine x_aload_nQ hx hb d_M_node_133 hl rfl ?_
          refine m_get hx hb hts hown hK hw ci_M (rf_at hI 0 (by decide) rfl) 15 (by decide) (wm3 87 rfl rfl) rfl d_M_node_134 ?_
          refine x_iload_n hx hb d_M_node_137 hl rfl ?_
          refine rl_15 hx hb hK hI hB hw (by omega) d_M_node_138 (fun hv138 => ?_)
          refine rs_15 hx hb hK hI hB hw (by omega) (by omega) d_M_node_139 (fun H locs hw hB => ?_)
          first | refine x_aload_n hx hb d_M_node_140 hl rfl ?_ | refine x_aload_nQ hx hb d_M_node_140 hl rfl ?_
          refine m_get hx hb hts hown hK hw ci_M (rf_at hI 0 (by decide) rfl) 10 (by decide) (wm3 82 rfl rfl) rfl d_M_node_141 ?_
          first | refine x_aload_n hx hb d_M_node_144 hl rfl ?_ | refine x_aload_nQ hx hb d_M_node_144 hl rfl ?_
          refine m_get (v := .int (nI (σ 4 0 + 1))) hx hb hts hown hK hw ci_M (rf_at hI 0 (by decide) rfl) 4 (by decide) (wm3 76 rfl rfl) rfl d_M_node_145 ?_
          refine x_iload_n hx hb d_M_node_148 hl rfl ?_
          refine x_if_ne hx hb d_M_node_149 rfl (by omega) (fun h149 => ?_) (fun h149 => ?_)
          · first | refine x_aload_n hx hb d_M_node_156 hl rfl ?_ | refine x_aload_nQ hx hb d_M_node_156 hl rfl ?_
            refine m_get hx hb hts hown hK hw ci_M (rf_at hI 0 (by decide) rfl) 10 (by decide) (wm3 82 rfl rfl) rfl d_M_node_157 ?_
            refine x_iload_n hx hb d_M_node_160 hl rfl ?_
            refine rl_10 hx hb hK hI hB hw (by omega) d_M_node_161 (fun hv161 => ?_)
            refine rs_10 hx hb hK hI hB hw (by omega) (by omega) d_M_node_162 (fun H locs hw hB => ?_)
            first | refine x_aload_n hx hb d_M_node_163 hl rfl ?_ | refine x_aload_nQ hx hb d_M_node_163 hl rfl ?_
            refine m_get (v := .int (nI (σ 4 0 + 1))) hx hb hts hown hK hw ci_M (rf_at hI 0 (by decide) rfl) 4 (by decide) (wm3 76 rfl rfl) rfl d_M_node_164 ?_
            exact x_reti hQ hx hb hr hlk rfl hw (by omega) (by omega) d_M_node_167 (⟨rfl, rfl, hB⟩)
          · exact absurd h149 (by omega)
        · exact absurd h126 (by omega)
      · exact absurd h103 (by omega)
    · exact absurd h80 (by omega)
  · exact absurd h54 (by omega)
