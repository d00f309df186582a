theorem d_M_init_0 : decode prog_10_method_1_code 0 = .ok (.aload_n 0, 1) := by decide +kernel
theorem d_M_init_1 : decode prog_10_method_1_code 1 = .ok (.invokespecial 1, 3) := by decide +kernel
theorem d_M_init_4 : decode prog_10_method_1_code 4 = .ok (.aload_n 0, 1) := by decide +kernel
theorem d_M_init_5 : decode prog_10_method_1_code 5 = .ok (.sipush 2375, 3) := by decide +kernel
theorem d_M_init_8 : decode prog_10_method_1_code 8 = .ok (.newarray .short, 2) := by decide +kernel
theorem d_M_init_10 : decode prog_10_method_1_code 10 = .ok (.putfield 7, 3) := by decide +kernel
theorem d_M_init_13 : decode prog_10_method_1_code 13 = .ok (.aload_n 0, 1) := by decide +kernel
theorem d_M_init_14 : decode prog_10_method_1_code 14 = .ok (.iconst 3, 1) := by decide +kernel
theorem d_M_init_15 : decode prog_10_method_1_code 15 = .ok (.newarray .boolean, 2) := by decide +kernel
theorem d_M_init_17 : decode prog_10_method_1_code 17 = .ok (.putfield 13, 3) := by decide +kernel
theorem d_M_init_20 : decode prog_10_method_1_code 20 = .ok (.aload_n 0, 1) := by decide +kernel
theorem d_M_init_21 : decode prog_10_method_1_code 21 = .ok (.iconst 3, 1) := by decide +kernel
theorem d_M_init_22 : decode prog_10_method_1_code 22 = .ok (.newarray .int, 2) := by decide +kernel
theorem d_M_init_24 : decode prog_10_method_1_code 24 = .ok (.putfield 17, 3) := by decide +kernel
theorem d_M_init_27 : decode prog_10_method_1_code 27 = .ok (.aload_n 0, 1) := by decide +kernel
theorem d_M_init_28 : decode prog_10_method_1_code 28 = .ok (.sipush 1300, 3) := by decide +kernel
theorem d_M_init_31 : decode prog_10_method_1_code 31 = .ok (.newarray .byte, 2) := by decide +kernel
theorem d_M_init_33 : decode prog_10_method_1_code 33 = .ok (.putfield 21, 3) := by decide +kernel
theorem d_M_init_36 : decode prog_10_method_1_code 36 = .ok (.aload_n 0, 1) := by decide +kernel
theorem d_M_init_37 : decode prog_10_method_1_code 37 = .ok (.sipush 1300, 3) := by decide +kernel
theorem d_M_init_40 : decode prog_10_method_1_code 40 = .ok (.newarray .byte, 2) := by decide +kernel
theorem d_M_init_42 : decode prog_10_method_1_code 42 = .ok (.putfield 25, 3) := by decide +kernel
theorem d_M_init_45 : decode prog_10_method_1_code 45 = .ok (.aload_n 0, 1) := by decide +kernel
theorem d_M_init_46 : decode prog_10_method_1_code 46 = .ok (.sipush 1300, 3) := by decide +kernel
theorem d_M_init_49 : decode prog_10_method_1_code 49 = .ok (.newarray .boolean, 2) := by decide +kernel
theorem d_M_init_51 : decode prog_10_method_1_code 51 = .ok (.putfield 28, 3) := by decide +kernel
theorem d_M_init_54 : decode prog_10_method_1_code 54 = .ok (.aload_n 0, 1) := by decide +kernel
theorem d_M_init_55 : decode prog_10_method_1_code 55 = .ok (.sipush 1300, 3) := by decide +kernel
theorem d_M_init_58 : decode prog_10_method_1_code 58 = .ok (.newarray .long, 2) := by decide +kernel
theorem d_M_init_60 : decode prog_10_method_1_code 60 = .ok (.putfield 31, 3) := by decide +kernel
theorem d_M_init_63 : decode prog_10_method_1_code 63 = .ok (.aload_n 0, 1) := by decide +kernel
theorem d_M_init_64 : decode prog_10_method_1_code 64 = .ok (.sipush 1300, 3) := by decide +kernel
theorem d_M_init_67 : decode prog_10_method_1_code 67 = .ok (.newarray .short, 2) := by decide +kernel
theorem d_M_init_69 : decode prog_10_method_1_code 69 = .ok (.putfield 35, 3) := by decide +kernel
theorem d_M_init_72 : decode prog_10_method_1_code 72 = .ok (.aload_n 0, 1) := by decide +kernel
theorem d_M_init_73 : decode prog_10_method_1_code 73 = .ok (.sipush 1300, 3) := by decide +kernel
theorem d_M_init_76 : decode prog_10_method_1_code 76 = .ok (.newarray .short, 2) := by decide +kernel
theorem d_M_init_78 : decode prog_10_method_1_code 78 = .ok (.putfield 38, 3) := by decide +kernel
theorem d_M_init_81 : decode prog_10_method_1_code 81 = .ok (.aload_n 0, 1) := by decide +kernel
theorem d_M_init_82 : decode prog_10_method_1_code 82 = .ok (.sipush 1300, 3) := by decide +kernel
theorem d_M_init_85 : decode prog_10_method_1_code 85 = .ok (.newarray .byte, 2) := by decide +kernel
theorem d_M_init_87 : decode prog_10_method_1_code 87 = .ok (.putfield 41, 3) := by decide +kernel
theorem d_M_init_90 : decode prog_10_method_1_code 90 = .ok (.aload_n 0, 1) := by decide +kernel
theorem d_M_init_91 : decode prog_10_method_1_code 91 = .ok (.sipush 1300, 3) := by decide +kernel
theorem d_M_init_94 : decode prog_10_method_1_code 94 = .ok (.newarray .short, 2) := by decide +kernel
theorem d_M_init_96 : decode prog_10_method_1_code 96 = .ok (.putfield 44, 3) := by decide +kernel
theorem d_M_init_99 : decode prog_10_method_1_code 99 = .ok (.aload_n 0, 1) := by decide +kernel
theorem d_M_init_100 : decode prog_10_method_1_code 100 = .ok (.sipush 1300, 3) := by decide +kernel
theorem d_M_init_103 : decode prog_10_method_1_code 103 = .ok (.newarray .short, 2) := by decide +kernel
theorem d_M_init_105 : decode prog_10_method_1_code 105 = .ok (.putfield 47, 3) := by decide +kernel
theorem d_M_init_108 : decode prog_10_method_1_code 108 = .ok (.aload_n 0, 1) := by decide +kernel
theorem d_M_init_109 : decode prog_10_method_1_code 109 = .ok (.sipush 1300, 3) := by decide +kernel
theorem d_M_init_112 : decode prog_10_method_1_code 112 = .ok (.newarray .short, 2) := by decide +kernel
theorem d_M_init_114 : decode prog_10_method_1_code 114 = .ok (.putfield 50, 3) := by decide +kernel
theorem d_M_init_117 : decode prog_10_method_1_code 117 = .ok (.aload_n 0, 1) := by decide +kernel
theorem d_M_init_118 : decode prog_10_method_1_code 118 = .ok (.sipush 512, 3) := by decide +kernel
theorem d_M_init_121 : decode prog_10_method_1_code 121 = .ok (.newarray .long, 2) := by decide +kernel
theorem d_M_init_123 : decode prog_10_method_1_code 123 = .ok (.putfield 53, 3) := by decide +kernel
theorem d_M_init_126 : decode prog_10_method_1_code 126 = .ok (.aload_n 0, 1) := by decide +kernel
theorem d_M_init_127 : decode prog_10_method_1_code 127 = .ok (.sipush 512, 3) := by decide +kernel
theorem d_M_init_130 : decode prog_10_method_1_code 130 = .ok (.newarray .byte, 2) := by decide +kernel
theorem d_M_init_132 : decode prog_10_method_1_code 132 = .ok (.putfield 56, 3) := by decide +kernel
theorem d_M_init_135 : decode prog_10_method_1_code 135 = .ok (.aload_n 0, 1) := by decide +kernel
theorem d_M_init_136 : decode prog_10_method_1_code 136 = .ok (.sipush 512, 3) := by decide +kernel
theorem d_M_init_139 : decode prog_10_method_1_code 139 = .ok (.newarray .short, 2) := by decide +kernel
theorem d_M_init_141 : decode prog_10_method_1_code 141 = .ok (.putfield 59, 3) := by decide +kernel
theorem d_M_init_144 : decode prog_10_method_1_code 144 = .ok (.aload_n 0, 1) := by decide +kernel
theorem d_M_init_145 : decode prog_10_method_1_code 145 = .ok (.sipush 512, 3) := by decide +kernel
theorem d_M_init_148 : decode prog_10_method_1_code 148 = .ok (.newarray .byte, 2) := by decide +kernel
theorem d_M_init_150 : decode prog_10_method_1_code 150 = .ok (.putfield 62, 3) := by decide +kernel
theorem d_M_init_153 : decode prog_10_method_1_code 153 = .ok (.aload_n 0, 1) := by decide +kernel
theorem d_M_init_154 : decode prog_10_method_1_code 154 = .ok (.iconst 1, 1) := by decide +kernel
theorem d_M_init_155 : decode prog_10_method_1_code 155 = .ok (.putfield 65, 3) := by decide +kernel
theorem d_M_init_158 : decode prog_10_method_1_code 158 = .ok (.aload_n 0, 1) := by decide +kernel
theorem d_M_init_159 : decode prog_10_method_1_code 159 = .ok (.getfield 21, 3) := by decide +kernel
theorem d_M_init_162 : decode prog_10_method_1_code 162 = .ok (.iconst 1, 1) := by decide +kernel
theorem d_M_init_163 : decode prog_10_method_1_code 163 = .ok (.iconst 1, 1) := by decide +kernel
theorem d_M_init_164 : decode prog_10_method_1_code 164 = .ok (.bastore, 1) := by decide +kernel
theorem d_M_init_165 : decode prog_10_method_1_code 165 = .ok (.aload_n 0, 1) := by decide +kernel
theorem d_M_init_166 : decode prog_10_method_1_code 166 = .ok (.getfield 7, 3) := by decide +kernel
theorem d_M_init_169 : decode prog_10_method_1_code 169 = .ok (.iconst 0, 1) := by decide +kernel
theorem d_M_init_170 : decode prog_10_method_1_code 170 = .ok (.iconst 1, 1) := by decide +kernel
theorem d_M_init_171 : decode prog_10_method_1_code 171 = .ok (.sastore, 1) := by decide +kernel
theorem d_M_init_172 : decode prog_10_method_1_code 172 = .ok (.return_, 1) := by decide +kernel
section MCT
theorem up_old {Mn M : mp_M} {a q : Nat} {e x : va_E} (hM : Mn = mp_up M q e) (hq : M q = none) (h : M a = some x) : Mn a = some x := by
  rw [hM, mp_up_n (ne_of h hq)]
  exact h
theorem up_put {Mn M : mp_M} {a b : Nat} {e x : va_E} (hM : Mn = mp_up M b e) (hne : a ≠ b) (h : M a = some x) : Mn a = some x := by
  rw [hM, mp_up_n hne]
  exact h
theorem up_me {Mn M : mp_M} {q : Nat} {e : va_E} (hM : Mn = mp_up M q e) : Mn q = some e := by rw [hM, mp_up_s]
theorem za_i {L : Nat} {ty : FieldType} (h : defaultValue ty = .int 0) (cA : ClassId) : vp_cell cA (L, .inl (fun _ => nI 0)) = arrV cA L (fun _ => defaultValue ty) := by
  rw [h, vp_cell_i, nI_0]
theorem za_b {L : Nat} (cA : ClassId) : vp_cell cA (L, .inl (fun _ => bI 0)) = arrV cA L (fun _ => defaultValue .byte) := by
  have h : bI 0 = 0 := by decide
  rw [vp_cell_i, h]
  rfl
theorem za_l {L : Nat} (cA : ClassId) : vp_cell cA (L, .inr (.inl (fun _ => lN 0))) = arrV cA L (fun _ => defaultValue .long) := by
  have h : lN 0 = 0 := by decide
  rw [vp_cell_l, h]
  rfl
theorem gd_sum : ∀ (l : List Nat) (k : Nat), l.getD k 0 ≤ l.sum
  | [], k => by simp
  | a :: l, 0 => by simp
  | a :: l, k + 1 => by
    have := gd_sum l k
    simp only [List.getD_cons_succ, List.sum_cons]
    omega
theorem gd_inj {l : List Nat} (hnd : l.Nodup) {i j : Nat} (hi : i < l.length) (hj : j < l.length) (h : l.getD i 0 = l.getD j 0) : i = j := by
  rw [List.getD_eq_getElem?_getD, List.getD_eq_getElem?_getD, List.getElem?_eq_getElem hi, List.getElem?_eq_getElem hj] at h
  have h : l[i] = l[j] := h
  rcases Nat.lt_trichotomy i j with z | z | z
  · exact absurd h (List.pairwise_iff_getElem.mp hnd i j hi hj z)
  · exact z
  · exact absurd h.symm (List.pairwise_iff_getElem.mp hnd j i hj hi z)
def psi (i : Nat) : Nat := if i < 2 then i else if i < 5 then i - 1 else if i < 17 then i - 3 else i - 4
def scl (i : Nat) : Prop := i = 2 ∨ i = 5 ∨ i = 6 ∨ i = 17
def adf (l : List Nat) (i : Nat) : Nat := if i = 2 ∨ i = 5 ∨ i = 6 ∨ i = 17 then l.sum + 1 + i else l.getD (psi i) 0
theorem adf_I {l : List Nat} (hnd : l.Nodup) (hl : l.length = 18) : rfI (adf l) := by
  intro i j hi hj h
  unfold adf at h
  have s1 := gd_sum l (psi i)
  have s2 := gd_sum l (psi j)
  by_cases c1 : i = 2 ∨ i = 5 ∨ i = 6 ∨ i = 17
  · rw [if_pos c1] at h
    by_cases c2 : j = 2 ∨ j = 5 ∨ j = 6 ∨ j = 17
    · rw [if_pos c2] at h
      omega
    · rw [if_neg c2] at h
      omega
  · rw [if_neg c1] at h
    by_cases c2 : j = 2 ∨ j = 5 ∨ j = 6 ∨ j = 17
    · rw [if_pos c2] at h
      omega
    · rw [if_neg c2] at h
      have p1 : psi i < 18 := by unfold psi; (repeat' split) <;> omega
      have p2 : psi j < 18 := by unfold psi; (repeat' split) <;> omega
      have e := gd_inj hnd (by omega) (by omega) h
      unfold psi at e
      (repeat' split at e) <;> omega
def σ0 : SS := sp (sp (sp (fun _ _ => 0) 4 0 1) 6 1 1) 0 0 1
set_option maxHeartbeats 1000000 in
set_option maxRecDepth 100000 in
theorem mi_end {E : Ev} {M : mp_M} {a0 q0 q2 q3 q6 q7 q8 q9 q10 q11 q12 q13 q14 q15 q17 q18 q19 q20 : Nat} (he : M a0 = some (.inr (8, [.ref q0, .int 0, .ref q2, .ref q3, .int (nI 1), .int 0, .ref q6, .ref q7, .ref q8, .ref q9, .ref q10, .ref q11, .ref q12, .ref q13, .ref q14, .ref q15, .int 0, .ref q17, .ref q18, .ref q19, .ref q20]))) (h0 : M q0 = some (.inl (E.2.1 4, 2375, .inl (fun j => nI (va_up (fun _ => 0) 0 1 j))))) (h2 : M q2 = some (.inl (E.2.1 6, 3, .inl (fun _ => nI 0)))) (h3 : M q3 = some (.inl (E.2.1 7, 3, .inl (fun _ => nI 0)))) (h6 : M q6 = some (.inl (E.2.1 5, 1300, .inl (fun j => nI (va_up (fun _ => 0) 1 1 j))))) (h7 : M q7 = some (.inl (E.2.1 5, 1300, .inl (fun _ => nI 0)))) (h8 : M q8 = some (.inl (E.2.1 6, 1300, .inl (fun _ => nI 0)))) (h9 : M q9 = some (.inl (E.2.1 8, 1300, .inr (.inl (fun _ => lN 0))))) (h10 : M q10 = some (.inl (E.2.1 4, 1300, .inl (fun _ => nI 0)))) (h11 : M q11 = some (.inl (E.2.1 4, 1300, .inl (fun _ => nI 0)))) (h12 : M q12 = some (.inl (E.2.1 5, 1300, .inl (fun _ => bI 0)))) (h13 : M q13 = some (.inl (E.2.1 4, 1300, .inl (fun _ => nI 0)))) (h14 : M q14 = some (.inl (E.2.1 4, 1300, .inl (fun _ => nI 0)))) (h15 : M q15 = some (.inl (E.2.1 4, 1300, .inl (fun _ => nI 0)))) (h17 : M q17 = some (.inl (E.2.1 8, 512, .inr (.inl (fun _ => lN 0))))) (h18 : M q18 = some (.inl (E.2.1 5, 512, .inl (fun _ => nI 0)))) (h19 : M q19 = some (.inl (E.2.1 4, 512, .inl (fun _ => nI 0)))) (h20 : M q20 = some (.inl (E.2.1 5, 512, .inl (fun _ => nI 0)))) (hnd : ([a0, q0, q2, q3, q6, q7, q8, q9, q10, q11, q12, q13, q14, q15, q17, q18, q19, q20] : List Nat).Nodup) : ∃ ad : Nat → Nat, ad 0 = a0 ∧ rfI ad ∧ ∀ i e, rfE E σ0 ad i = some e → M (ad i) = some e := by
  refine ⟨adf [a0, q0, q2, q3, q6, q7, q8, q9, q10, q11, q12, q13, q14, q15, q17, q18, q19, q20], rfl, adf_I hnd rfl, ?_⟩
  intro i e hie
  rcases (show i = 0 ∨ i = 1 ∨ i = 2 ∨ i = 3 ∨ i = 4 ∨ i = 5 ∨ i = 6 ∨ i = 7 ∨ i = 8 ∨ i = 9 ∨ i = 10 ∨ i = 11 ∨ i = 12 ∨ i = 13 ∨ i = 14 ∨ i = 15 ∨ i = 16 ∨ i = 17 ∨ i = 18 ∨ i = 19 ∨ i = 20 ∨ i = 21 ∨ 22 ≤ i by omega) with rfl | rfl | rfl | rfl | rfl | rfl | rfl | rfl | rfl | rfl | rfl | rfl | rfl | rfl | rfl | rfl | rfl | rfl | rfl | rfl | rfl | rfl | hi
  · cases hie; exact he
  · cases hie; exact h0
  · cases hie
  · cases hie; exact h2
  · cases hie; exact h3
  · cases hie
  · cases hie
  · cases hie; exact h6
  · cases hie; exact h7
  · cases hie; exact h8
  · cases hie; exact h9
  · cases hie; exact h10
  · cases hie; exact h11
  · cases hie; exact h12
  · cases hie; exact h13
  · cases hie; exact h14
  · cases hie; exact h15
  · cases hie
  · cases hie; exact h17
  · cases hie; exact h18
  · cases hie; exact h19
  · cases hie; exact h20
  · rw [rfE_big hi] at hie; cases hie
set_option maxHeartbeats 1000000 in
set_option maxRecDepth 100000 in
theorem c_M_init {l : Launch} {E : Ev} {M : mp_M} {sz : Nat} {a0 : Nat} (he : M a0 = some (.inr (8, [.null, .int 0, .null, .null, .int 0, .int 0, .null, .null, .null, .null, .null, .null, .null, .null, .null, .null, .int 0, .null, .null, .null, .null]))) : MCv l E y_M_init prog_10_method_1_code 1 none 1 20 17 17429 [.ref a0] M sz (fun M' => ∃ ad, ad 0 = a0 ∧ rfI ad ∧ ∀ i e, rfE E σ0 ad i = some e → M' (ad i) = some e) := by
  refine mc_of R_M rfl [some (.ref a0)] (by decide) (Nat.le_of_ble_eq_true rfl) rfl ?_
  intro p e R s m ag below meth c ls Q A X hAe hQ hR hsz hw hl
  rw [← hAe] at hQ
  obtain ⟨⟨hx, hb, hml, hown, hts⟩, hE, hA, hr, hlk, hnm⟩ := X
  have hK := hE.1
  refine x_aload_n hx hb d_M_init_0 hl rfl ?_
  refine W.objInit hx hb hown (hts _ (wm3 71 rfl rfl)) (hts _ (wm1 25 rfl rfl)) (hts _ (wm1 26 rfl rfl)) rfl (hl.1.trans hml.symm) rfl d_M_init_1 (Nat.le_trans (Nat.le_of_ble_eq_true rfl) hR.1) (Nat.le_trans (Nat.le_of_ble_eq_true rfl) hR.2.1) ?_
  refine W.eq (g2 := F0 m 4 ls []) rfl ?_
  refine x_aload_n hx hb d_M_init_4 hl rfl ?_
  refine lv_sipush (v := nI 2375) hx hb d_M_init_5 (by decide) ?_
  refine m_newa (N' := 0) (ty := .short) (a0 := (2375, .inl (fun _ => nI 0))) hx hb hts (wm3 136 rfl rfl) rfl hK hw hA 4 rfl (za_i rfl) (by decide) (show 2375 * 2 ≤ 536870912 by decide) (Nat.le_trans (Nat.le_of_ble_eq_true rfl) hR.2.2.1) (Nat.le_trans (Nat.le_of_ble_eq_true rfl) hR.2.2.2) d_M_init_8 (fun q0 H hq hw => ?_)
  obtain ⟨M1, hMn⟩ : ∃ M1, M1 = mp_up M q0 (.inl (E.2.1 4, 2375, .inl (fun _ => nI 0))) := ⟨_, rfl⟩
  rw [← hMn] at hw
  have n0 : q0 ≠ a0 := (ne_of he hq).symm
  have he := up_old hMn hq he
  have h0 := up_me hMn
  clear hMn hq
  refine m_putF hx hb hts hown hK hw ci_M he 0 (by decide) (wm3 72 rfl rfl) rfl hnm rfl rfl rfl (Nat.le_of_ble_eq_true rfl) d_M_init_10 (fun H locs hw => ?_)
  obtain ⟨M2, hMn⟩ : ∃ M2, M2 = mp_up M1 a0 (.inr (8, [.ref q0, .int 0, .null, .null, .int 0, .int 0, .null, .null, .null, .null, .null, .null, .null, .null, .null, .null, .int 0, .null, .null, .null, .null])) := ⟨_, rfl⟩
  have hw : mw E.1 vwCl A s.heap M2 H locs := by rw [hMn]; exact hw
  have h0 := up_put hMn n0 h0
  have he := up_me hMn
  clear hMn
  refine x_aload_n hx hb d_M_init_13 hl rfl ?_
  refine lv_iconst (v := nI 3) hx hb d_M_init_14 (by decide) ?_
  refine m_newa (N' := 0) (ty := .boolean) (a0 := (3, .inl (fun _ => nI 0))) hx hb hts (wm3 137 rfl rfl) rfl hK hw hA 6 rfl (za_i rfl) (by decide) (show 3 * 1 ≤ 536870912 by decide) (Nat.le_trans (Nat.le_of_ble_eq_true rfl) hR.2.2.1) (Nat.le_trans (Nat.le_of_ble_eq_true rfl) hR.2.2.2) d_M_init_15 (fun q2 H hq hw => ?_)
  obtain ⟨M3, hMn⟩ : ∃ M3, M3 = mp_up M2 q2 (.inl (E.2.1 6, 3, .inl (fun _ => nI 0))) := ⟨_, rfl⟩
  rw [← hMn] at hw
  have n2 : q2 ≠ a0 := (ne_of he hq).symm
  have n2_0 : q2 ≠ q0 := (ne_of h0 hq).symm
  have he := up_old hMn hq he
  have h0 := up_old hMn hq h0
  have h2 := up_me hMn
  clear hMn hq
  refine m_putF hx hb hts hown hK hw ci_M he 2 (by decide) (wm3 74 rfl rfl) rfl hnm rfl rfl rfl (Nat.le_of_ble_eq_true rfl) d_M_init_17 (fun H locs hw => ?_)
  obtain ⟨M4, hMn⟩ : ∃ M4, M4 = mp_up M3 a0 (.inr (8, [.ref q0, .int 0, .ref q2, .null, .int 0, .int 0, .null, .null, .null, .null, .null, .null, .null, .null, .null, .null, .int 0, .null, .null, .null, .null])) := ⟨_, rfl⟩
  have hw : mw E.1 vwCl A s.heap M4 H locs := by rw [hMn]; exact hw
  have h0 := up_put hMn n0 h0
  have h2 := up_put hMn n2 h2
  have he := up_me hMn
  clear hMn
  refine x_aload_n hx hb d_M_init_20 hl rfl ?_
  refine lv_iconst (v := nI 3) hx hb d_M_init_21 (by decide) ?_
  refine m_newa (N' := 0) (ty := .int) (a0 := (3, .inl (fun _ => nI 0))) hx hb hts (wm3 138 rfl rfl) rfl hK hw hA 7 rfl (za_i rfl) (by decide) (show 3 * 4 ≤ 536870912 by decide) (Nat.le_trans (Nat.le_of_ble_eq_true rfl) hR.2.2.1) (Nat.le_trans (Nat.le_of_ble_eq_true rfl) hR.2.2.2) d_M_init_22 (fun q3 H hq hw => ?_)
  obtain ⟨M5, hMn⟩ : ∃ M5, M5 = mp_up M4 q3 (.inl (E.2.1 7, 3, .inl (fun _ => nI 0))) := ⟨_, rfl⟩
  rw [← hMn] at hw
  have n3 : q3 ≠ a0 := (ne_of he hq).symm
  have n3_0 : q3 ≠ q0 := (ne_of h0 hq).symm
  have n3_2 : q3 ≠ q2 := (ne_of h2 hq).symm
  have he := up_old hMn hq he
  have h0 := up_old hMn hq h0
  have h2 := up_old hMn hq h2
  have h3 := up_me hMn
  clear hMn hq
  refine m_putF hx hb hts hown hK hw ci_M he 3 (by decide) (wm3 75 rfl rfl) rfl hnm rfl rfl rfl (Nat.le_of_ble_eq_true rfl) d_M_init_24 (fun H locs hw => ?_)
  obtain ⟨M6, hMn⟩ : ∃ M6, M6 = mp_up M5 a0 (.inr (8, [.ref q0, .int 0, .ref q2, .ref q3, .int 0, .int 0, .null, .null, .null, .null, .null, .null, .null, .null, .null, .null, .int 0, .null, .null, .null, .null])) := ⟨_, rfl⟩
  have hw : mw E.1 vwCl A s.heap M6 H locs := by rw [hMn]; exact hw
  have h0 := up_put hMn n0 h0
  have h2 := up_put hMn n2 h2
  have h3 := up_put hMn n3 h3
  have he := up_me hMn
  clear hMn
  refine x_aload_n hx hb d_M_init_27 hl rfl ?_
  refine lv_sipush (v := nI 1300) hx hb d_M_init_28 (by decide) ?_
  refine m_newa (N' := 0) (ty := .byte) (a0 := (1300, .inl (fun _ => nI 0))) hx hb hts (wm3 139 rfl rfl) rfl hK hw hA 5 rfl (za_i rfl) (by decide) (show 1300 * 1 ≤ 536870912 by decide) (Nat.le_trans (Nat.le_of_ble_eq_true rfl) hR.2.2.1) (Nat.le_trans (Nat.le_of_ble_eq_true rfl) hR.2.2.2) d_M_init_31 (fun q6 H hq hw => ?_)
  obtain ⟨M7, hMn⟩ : ∃ M7, M7 = mp_up M6 q6 (.inl (E.2.1 5, 1300, .inl (fun _ => nI 0))) := ⟨_, rfl⟩
  rw [← hMn] at hw
  have n6 : q6 ≠ a0 := (ne_of he hq).symm
  have n6_0 : q6 ≠ q0 := (ne_of h0 hq).symm
  have n6_2 : q6 ≠ q2 := (ne_of h2 hq).symm
  have n6_3 : q6 ≠ q3 := (ne_of h3 hq).symm
  have he := up_old hMn hq he
  have h0 := up_old hMn hq h0
  have h2 := up_old hMn hq h2
  have h3 := up_old hMn hq h3
  have h6 := up_me hMn
  clear hMn hq
  refine m_putF hx hb hts hown hK hw ci_M he 6 (by decide) (wm3 78 rfl rfl) rfl hnm rfl rfl rfl (Nat.le_of_ble_eq_true rfl) d_M_init_33 (fun H locs hw => ?_)
  obtain ⟨M8, hMn⟩ : ∃ M8, M8 = mp_up M7 a0 (.inr (8, [.ref q0, .int 0, .ref q2, .ref q3, .int 0, .int 0, .ref q6, .null, .null, .null, .null, .null, .null, .null, .null, .null, .int 0, .null, .null, .null, .null])) := ⟨_, rfl⟩
  have hw : mw E.1 vwCl A s.heap M8 H locs := by rw [hMn]; exact hw
  have h0 := up_put hMn n0 h0
  have h2 := up_put hMn n2 h2
  have h3 := up_put hMn n3 h3
  have h6 := up_put hMn n6 h6
  have he := up_me hMn
  clear hMn
  refine x_aload_n hx hb d_M_init_36 hl rfl ?_
  refine lv_sipush (v := nI 1300) hx hb d_M_init_37 (by decide) ?_
  refine m_newa (N' := 0) (ty := .byte) (a0 := (1300, .inl (fun _ => nI 0))) hx hb hts (wm3 139 rfl rfl) rfl hK hw hA 5 rfl (za_i rfl) (by decide) (show 1300 * 1 ≤ 536870912 by decide) (Nat.le_trans (Nat.le_of_ble_eq_true rfl) hR.2.2.1) (Nat.le_trans (Nat.le_of_ble_eq_true rfl) hR.2.2.2) d_M_init_40 (fun q7 H hq hw => ?_)
  obtain ⟨M9, hMn⟩ : ∃ M9, M9 = mp_up M8 q7 (.inl (E.2.1 5, 1300, .inl (fun _ => nI 0))) := ⟨_, rfl⟩
  rw [← hMn] at hw
  have n7 : q7 ≠ a0 := (ne_of he hq).symm
  have n7_0 : q7 ≠ q0 := (ne_of h0 hq).symm
  have n7_2 : q7 ≠ q2 := (ne_of h2 hq).symm
  have n7_3 : q7 ≠ q3 := (ne_of h3 hq).symm
  have n7_6 : q7 ≠ q6 := (ne_of h6 hq).symm
  have he := up_old hMn hq he
  have h0 := up_old hMn hq h0
  have h2 := up_old hMn hq h2
  have h3 := up_old hMn hq h3
  have h6 := up_old hMn hq h6
  have h7 := up_me hMn
  clear hMn hq
  refine m_putF hx hb hts hown hK hw ci_M he 7 (by decide) (wm3 79 rfl rfl) rfl hnm rfl rfl rfl (Nat.le_of_ble_eq_true rfl) d_M_init_42 (fun H locs hw => ?_)
  obtain ⟨M10, hMn⟩ : ∃ M10, M10 = mp_up M9 a0 (.inr (8, [.ref q0, .int 0, .ref q2, .ref q3, .int 0, .int 0, .ref q6, .ref q7, .null, .null, .null, .null, .null, .null, .null, .null, .int 0, .null, .null, .null, .null])) := ⟨_, rfl⟩
  have hw : mw E.1 vwCl A s.heap M10 H locs := by rw [hMn]; exact hw
  have h0 := up_put hMn n0 h0
  have h2 := up_put hMn n2 h2
  have h3 := up_put hMn n3 h3
  have h6 := up_put hMn n6 h6
  have h7 := up_put hMn n7 h7
  have he := up_me hMn
  clear hMn
  refine x_aload_n hx hb d_M_init_45 hl rfl ?_
  refine lv_sipush (v := nI 1300) hx hb d_M_init_46 (by decide) ?_
  refine m_newa (N' := 0) (ty := .boolean) (a0 := (1300, .inl (fun _ => nI 0))) hx hb hts (wm3 137 rfl rfl) rfl hK hw hA 6 rfl (za_i rfl) (by decide) (show 1300 * 1 ≤ 536870912 by decide) (Nat.le_trans (Nat.le_of_ble_eq_true rfl) hR.2.2.1) (Nat.le_trans (Nat.le_of_ble_eq_true rfl) hR.2.2.2) d_M_init_49 (fun q8 H hq hw => ?_)
  obtain ⟨M11, hMn⟩ : ∃ M11, M11 = mp_up M10 q8 (.inl (E.2.1 6, 1300, .inl (fun _ => nI 0))) := ⟨_, rfl⟩
  rw [← hMn] at hw
  have n8 : q8 ≠ a0 := (ne_of he hq).symm
  have n8_0 : q8 ≠ q0 := (ne_of h0 hq).symm
  have n8_2 : q8 ≠ q2 := (ne_of h2 hq).symm
  have n8_3 : q8 ≠ q3 := (ne_of h3 hq).symm
  have n8_6 : q8 ≠ q6 := (ne_of h6 hq).symm
  have n8_7 : q8 ≠ q7 := (ne_of h7 hq).symm
  have he := up_old hMn hq he
  have h0 := up_old hMn hq h0
  have h2 := up_old hMn hq h2
  have h3 := up_old hMn hq h3
  have h6 := up_old hMn hq h6
  have h7 := up_old hMn hq h7
  have h8 := up_me hMn
  clear hMn hq
  refine m_putF hx hb hts hown hK hw ci_M he 8 (by decide) (wm3 80 rfl rfl) rfl hnm rfl rfl rfl (Nat.le_of_ble_eq_true rfl) d_M_init_51 (fun H locs hw => ?_)
  obtain ⟨M12, hMn⟩ : ∃ M12, M12 = mp_up M11 a0 (.inr (8, [.ref q0, .int 0, .ref q2, .ref q3, .int 0, .int 0, .ref q6, .ref q7, .ref q8, .null, .null, .null, .null, .null, .null, .null, .int 0, .null, .null, .null, .null])) := ⟨_, rfl⟩
  have hw : mw E.1 vwCl A s.heap M12 H locs := by rw [hMn]; exact hw
  have h0 := up_put hMn n0 h0
  have h2 := up_put hMn n2 h2
  have h3 := up_put hMn n3 h3
  have h6 := up_put hMn n6 h6
  have h7 := up_put hMn n7 h7
  have h8 := up_put hMn n8 h8
  have he := up_me hMn
  clear hMn
  refine x_aload_n hx hb d_M_init_54 hl rfl ?_
  refine lv_sipush (v := nI 1300) hx hb d_M_init_55 (by decide) ?_
  refine m_newa (N' := 0) (ty := .long) (a0 := (1300, .inr (.inl (fun _ => lN 0)))) hx hb hts (wm3 140 rfl rfl) rfl hK hw hA 8 rfl za_l (by decide) (show 1300 * 8 ≤ 536870912 by decide) (Nat.le_trans (Nat.le_of_ble_eq_true rfl) hR.2.2.1) (Nat.le_trans (Nat.le_of_ble_eq_true rfl) hR.2.2.2) d_M_init_58 (fun q9 H hq hw => ?_)
  obtain ⟨M13, hMn⟩ : ∃ M13, M13 = mp_up M12 q9 (.inl (E.2.1 8, 1300, .inr (.inl (fun _ => lN 0)))) := ⟨_, rfl⟩
  rw [← hMn] at hw
  have n9 : q9 ≠ a0 := (ne_of he hq).symm
  have n9_0 : q9 ≠ q0 := (ne_of h0 hq).symm
  have n9_2 : q9 ≠ q2 := (ne_of h2 hq).symm
  have n9_3 : q9 ≠ q3 := (ne_of h3 hq).symm
  have n9_6 : q9 ≠ q6 := (ne_of h6 hq).symm
  have n9_7 : q9 ≠ q7 := (ne_of h7 hq).symm
  have n9_8 : q9 ≠ q8 := (ne_of h8 hq).symm
  have he := up_old hMn hq he
  have h0 := up_old hMn hq h0
  have h2 := up_old hMn hq h2
  have h3 := up_old hMn hq h3
  have h6 := up_old hMn hq h6
  have h7 := up_old hMn hq h7
  have h8 := up_old hMn hq h8
  have h9 := up_me hMn
  clear hMn hq
  refine m_putF hx hb hts hown hK hw ci_M he 9 (by decide) (wm3 81 rfl rfl) rfl hnm rfl rfl rfl (Nat.le_of_ble_eq_true rfl) d_M_init_60 (fun H locs hw => ?_)
  obtain ⟨M14, hMn⟩ : ∃ M14, M14 = mp_up M13 a0 (.inr (8, [.ref q0, .int 0, .ref q2, .ref q3, .int 0, .int 0, .ref q6, .ref q7, .ref q8, .ref q9, .null, .null, .null, .null, .null, .null, .int 0, .null, .null, .null, .null])) := ⟨_, rfl⟩
  have hw : mw E.1 vwCl A s.heap M14 H locs := by rw [hMn]; exact hw
  have h0 := up_put hMn n0 h0
  have h2 := up_put hMn n2 h2
  have h3 := up_put hMn n3 h3
  have h6 := up_put hMn n6 h6
  have h7 := up_put hMn n7 h7
  have h8 := up_put hMn n8 h8
  have h9 := up_put hMn n9 h9
  have he := up_me hMn
  clear hMn
  refine x_aload_n hx hb d_M_init_63 hl rfl ?_
  refine lv_sipush (v := nI 1300) hx hb d_M_init_64 (by decide) ?_
  refine m_newa (N' := 0) (ty := .short) (a0 := (1300, .inl (fun _ => nI 0))) hx hb hts (wm3 136 rfl rfl) rfl hK hw hA 4 rfl (za_i rfl) (by decide) (show 1300 * 2 ≤ 536870912 by decide) (Nat.le_trans (Nat.le_of_ble_eq_true rfl) hR.2.2.1) (Nat.le_trans (Nat.le_of_ble_eq_true rfl) hR.2.2.2) d_M_init_67 (fun q10 H hq hw => ?_)
  obtain ⟨M15, hMn⟩ : ∃ M15, M15 = mp_up M14 q10 (.inl (E.2.1 4, 1300, .inl (fun _ => nI 0))) := ⟨_, rfl⟩
  rw [← hMn] at hw
  have n10 : q10 ≠ a0 := (ne_of he hq).symm
  have n10_0 : q10 ≠ q0 := (ne_of h0 hq).symm
  have n10_2 : q10 ≠ q2 := (ne_of h2 hq).symm
  have n10_3 : q10 ≠ q3 := (ne_of h3 hq).symm
  have n10_6 : q10 ≠ q6 := (ne_of h6 hq).symm
  have n10_7 : q10 ≠ q7 := (ne_of h7 hq).symm
  have n10_8 : q10 ≠ q8 := (ne_of h8 hq).symm
  have n10_9 : q10 ≠ q9 := (ne_of h9 hq).symm
  have he := up_old hMn hq he
  have h0 := up_old hMn hq h0
  have h2 := up_old hMn hq h2
  have h3 := up_old hMn hq h3
  have h6 := up_old hMn hq h6
  have h7 := up_old hMn hq h7
  have h8 := up_old hMn hq h8
  have h9 := up_old hMn hq h9
  have h10 := up_me hMn
  clear hMn hq
  refine m_putF hx hb hts hown hK hw ci_M he 10 (by decide) (wm3 82 rfl rfl) rfl hnm rfl rfl rfl (Nat.le_of_ble_eq_true rfl) d_M_init_69 (fun H locs hw => ?_)
  obtain ⟨M16, hMn⟩ : ∃ M16, M16 = mp_up M15 a0 (.inr (8, [.ref q0, .int 0, .ref q2, .ref q3, .int 0, .int 0, .ref q6, .ref q7, .ref q8, .ref q9, .ref q10, .null, .null, .null, .null, .null, .int 0, .null, .null, .null, .null])) := ⟨_, rfl⟩
  have hw : mw E.1 vwCl A s.heap M16 H locs := by rw [hMn]; exact hw
  have h0 := up_put hMn n0 h0
  have h2 := up_put hMn n2 h2
  have h3 := up_put hMn n3 h3
  have h6 := up_put hMn n6 h6
  have h7 := up_put hMn n7 h7
  have h8 := up_put hMn n8 h8
  have h9 := up_put hMn n9 h9
  have h10 := up_put hMn n10 h10
  have he := up_me hMn
  clear hMn
  refine x_aload_n hx hb d_M_init_72 hl rfl ?_
  refine lv_sipush (v := nI 1300) hx hb d_M_init_73 (by decide) ?_
  refine m_newa (N' := 0) (ty := .short) (a0 := (1300, .inl (fun _ => nI 0))) hx hb hts (wm3 136 rfl rfl) rfl hK hw hA 4 rfl (za_i rfl) (by decide) (show 1300 * 2 ≤ 536870912 by decide) (Nat.le_trans (Nat.le_of_ble_eq_true rfl) hR.2.2.1) (Nat.le_trans (Nat.le_of_ble_eq_true rfl) hR.2.2.2) d_M_init_76 (fun q11 H hq hw => ?_)
  obtain ⟨M17, hMn⟩ : ∃ M17, M17 = mp_up M16 q11 (.inl (E.2.1 4, 1300, .inl (fun _ => nI 0))) := ⟨_, rfl⟩
  rw [← hMn] at hw
  have n11 : q11 ≠ a0 := (ne_of he hq).symm
  have n11_0 : q11 ≠ q0 := (ne_of h0 hq).symm
  have n11_2 : q11 ≠ q2 := (ne_of h2 hq).symm
  have n11_3 : q11 ≠ q3 := (ne_of h3 hq).symm
  have n11_6 : q11 ≠ q6 := (ne_of h6 hq).symm
  have n11_7 : q11 ≠ q7 := (ne_of h7 hq).symm
  have n11_8 : q11 ≠ q8 := (ne_of h8 hq).symm
  have n11_9 : q11 ≠ q9 := (ne_of h9 hq).symm
  have n11_10 : q11 ≠ q10 := (ne_of h10 hq).symm
  have he := up_old hMn hq he
  have h0 := up_old hMn hq h0
  have h2 := up_old hMn hq h2
  have h3 := up_old hMn hq h3
  have h6 := up_old hMn hq h6
  have h7 := up_old hMn hq h7
  have h8 := up_old hMn hq h8
  have h9 := up_old hMn hq h9
  have h10 := up_old hMn hq h10
  have h11 := up_me hMn
  clear hMn hq
  refine m_putF hx hb hts hown hK hw ci_M he 11 (by decide) (wm3 83 rfl rfl) rfl hnm rfl rfl rfl (Nat.le_of_ble_eq_true rfl) d_M_init_78 (fun H locs hw => ?_)
  obtain ⟨M18, hMn⟩ : ∃ M18, M18 = mp_up M17 a0 (.inr (8, [.ref q0, .int 0, .ref q2, .ref q3, .int 0, .int 0, .ref q6, .ref q7, .ref q8, .ref q9, .ref q10, .ref q11, .null, .null, .null, .null, .int 0, .null, .null, .null, .null])) := ⟨_, rfl⟩
  have hw : mw E.1 vwCl A s.heap M18 H locs := by rw [hMn]; exact hw
  have h0 := up_put hMn n0 h0
  have h2 := up_put hMn n2 h2
  have h3 := up_put hMn n3 h3
  have h6 := up_put hMn n6 h6
  have h7 := up_put hMn n7 h7
  have h8 := up_put hMn n8 h8
  have h9 := up_put hMn n9 h9
  have h10 := up_put hMn n10 h10
  have h11 := up_put hMn n11 h11
  have he := up_me hMn
  clear hMn
  refine x_aload_n hx hb d_M_init_81 hl rfl ?_
  refine lv_sipush (v := nI 1300) hx hb d_M_init_82 (by decide) ?_
  refine m_newa (N' := 0) (ty := .byte) (a0 := (1300, .inl (fun _ => bI 0))) hx hb hts (wm3 139 rfl rfl) rfl hK hw hA 5 rfl za_b (by decide) (show 1300 * 1 ≤ 536870912 by decide) (Nat.le_trans (Nat.le_of_ble_eq_true rfl) hR.2.2.1) (Nat.le_trans (Nat.le_of_ble_eq_true rfl) hR.2.2.2) d_M_init_85 (fun q12 H hq hw => ?_)
  obtain ⟨M19, hMn⟩ : ∃ M19, M19 = mp_up M18 q12 (.inl (E.2.1 5, 1300, .inl (fun _ => bI 0))) := ⟨_, rfl⟩
  rw [← hMn] at hw
  have n12 : q12 ≠ a0 := (ne_of he hq).symm
  have n12_0 : q12 ≠ q0 := (ne_of h0 hq).symm
  have n12_2 : q12 ≠ q2 := (ne_of h2 hq).symm
  have n12_3 : q12 ≠ q3 := (ne_of h3 hq).symm
  have n12_6 : q12 ≠ q6 := (ne_of h6 hq).symm
  have n12_7 : q12 ≠ q7 := (ne_of h7 hq).symm
  have n12_8 : q12 ≠ q8 := (ne_of h8 hq).symm
  have n12_9 : q12 ≠ q9 := (ne_of h9 hq).symm
  have n12_10 : q12 ≠ q10 := (ne_of h10 hq).symm
  have n12_11 : q12 ≠ q11 := (ne_of h11 hq).symm
  have he := up_old hMn hq he
  have h0 := up_old hMn hq h0
  have h2 := up_old hMn hq h2
  have h3 := up_old hMn hq h3
  have h6 := up_old hMn hq h6
  have h7 := up_old hMn hq h7
  have h8 := up_old hMn hq h8
  have h9 := up_old hMn hq h9
  have h10 := up_old hMn hq h10
  have h11 := up_old hMn hq h11
  have h12 := up_me hMn
  clear hMn hq
  refine m_putF hx hb hts hown hK hw ci_M he 12 (by decide) (wm3 84 rfl rfl) rfl hnm rfl rfl rfl (Nat.le_of_ble_eq_true rfl) d_M_init_87 (fun H locs hw => ?_)
  obtain ⟨M20, hMn⟩ : ∃ M20, M20 = mp_up M19 a0 (.inr (8, [.ref q0, .int 0, .ref q2, .ref q3, .int 0, .int 0, .ref q6, .ref q7, .ref q8, .ref q9, .ref q10, .ref q11, .ref q12, .null, .null, .null, .int 0, .null, .null, .null, .null])) := ⟨_, rfl⟩
  have hw : mw E.1 vwCl A s.heap M20 H locs := by rw [hMn]; exact hw
  have h0 := up_put hMn n0 h0
  have h2 := up_put hMn n2 h2
  have h3 := up_put hMn n3 h3
  have h6 := up_put hMn n6 h6
  have h7 := up_put hMn n7 h7
  have h8 := up_put hMn n8 h8
  have h9 := up_put hMn n9 h9
  have h10 := up_put hMn n10 h10
  have h11 := up_put hMn n11 h11
  have h12 := up_put hMn n12 h12
  have he := up_me hMn
  clear hMn
  refine x_aload_n hx hb d_M_init_90 hl rfl ?_
  refine lv_sipush (v := nI 1300) hx hb d_M_init_91 (by decide) ?_
  refine m_newa (N' := 0) (ty := .short) (a0 := (1300, .inl (fun _ => nI 0))) hx hb hts (wm3 136 rfl rfl) rfl hK hw hA 4 rfl (za_i rfl) (by decide) (show 1300 * 2 ≤ 536870912 by decide) (Nat.le_trans (Nat.le_of_ble_eq_true rfl) hR.2.2.1) (Nat.le_trans (Nat.le_of_ble_eq_true rfl) hR.2.2.2) d_M_init_94 (fun q13 H hq hw => ?_)
  obtain ⟨M21, hMn⟩ : ∃ M21, M21 = mp_up M20 q13 (.inl (E.2.1 4, 1300, .inl (fun _ => nI 0))) := ⟨_, rfl⟩
  rw [← hMn] at hw
  have n13 : q13 ≠ a0 := (ne_of he hq).symm
  have n13_0 : q13 ≠ q0 := (ne_of h0 hq).symm
  have n13_2 : q13 ≠ q2 := (ne_of h2 hq).symm
  have n13_3 : q13 ≠ q3 := (ne_of h3 hq).symm
  have n13_6 : q13 ≠ q6 := (ne_of h6 hq).symm
  have n13_7 : q13 ≠ q7 := (ne_of h7 hq).symm
  have n13_8 : q13 ≠ q8 := (ne_of h8 hq).symm
  have n13_9 : q13 ≠ q9 := (ne_of h9 hq).symm
  have n13_10 : q13 ≠ q10 := (ne_of h10 hq).symm
  have n13_11 : q13 ≠ q11 := (ne_of h11 hq).symm
  have n13_12 : q13 ≠ q12 := (ne_of h12 hq).symm
  have he := up_old hMn hq he
  have h0 := up_old hMn hq h0
  have h2 := up_old hMn hq h2
  have h3 := up_old hMn hq h3
  have h6 := up_old hMn hq h6
  have h7 := up_old hMn hq h7
  have h8 := up_old hMn hq h8
  have h9 := up_old hMn hq h9
  have h10 := up_old hMn hq h10
  have h11 := up_old hMn hq h11
  have h12 := up_old hMn hq h12
  have h13 := up_me hMn
  clear hMn hq
  refine m_putF hx hb hts hown hK hw ci_M he 13 (by decide) (wm3 85 rfl rfl) rfl hnm rfl rfl rfl (Nat.le_of_ble_eq_true rfl) d_M_init_96 (fun H locs hw => ?_)
  obtain ⟨M22, hMn⟩ : ∃ M22, M22 = mp_up M21 a0 (.inr (8, [.ref q0, .int 0, .ref q2, .ref q3, .int 0, .int 0, .ref q6, .ref q7, .ref q8, .ref q9, .ref q10, .ref q11, .ref q12, .ref q13, .null, .null, .int 0, .null, .null, .null, .null])) := ⟨_, rfl⟩
  have hw : mw E.1 vwCl A s.heap M22 H locs := by rw [hMn]; exact hw
  have h0 := up_put hMn n0 h0
  have h2 := up_put hMn n2 h2
  have h3 := up_put hMn n3 h3
  have h6 := up_put hMn n6 h6
  have h7 := up_put hMn n7 h7
  have h8 := up_put hMn n8 h8
  have h9 := up_put hMn n9 h9
  have h10 := up_put hMn n10 h10
  have h11 := up_put hMn n11 h11
  have h12 := up_put hMn n12 h12
  have h13 := up_put hMn n13 h13
  have he := up_me hMn
  clear hMn
  refine x_aload_n hx hb d_M_init_99 hl rfl ?_
  refine lv_sipush (v := nI 1300) hx hb d_M_init_100 (by decide) ?_
  refine m_newa (N' := 0) (ty := .short) (a0 := (1300, .inl (fun _ => nI 0))) hx hb hts (wm3 136 rfl rfl) rfl hK hw hA 4 rfl (za_i rfl) (by decide) (show 1300 * 2 ≤ 536870912 by decide) (Nat.le_trans (Nat.le_of_ble_eq_true rfl) hR.2.2.1) (Nat.le_trans (Nat.le_of_ble_eq_true rfl) hR.2.2.2) d_M_init_103 (fun q14 H hq hw => ?_)
  obtain ⟨M23, hMn⟩ : ∃ M23, M23 = mp_up M22 q14 (.inl (E.2.1 4, 1300, .inl (fun _ => nI 0))) := ⟨_, rfl⟩
  rw [← hMn] at hw
  have n14 : q14 ≠ a0 := (ne_of he hq).symm
  have n14_0 : q14 ≠ q0 := (ne_of h0 hq).symm
  have n14_2 : q14 ≠ q2 := (ne_of h2 hq).symm
  have n14_3 : q14 ≠ q3 := (ne_of h3 hq).symm
  have n14_6 : q14 ≠ q6 := (ne_of h6 hq).symm
  have n14_7 : q14 ≠ q7 := (ne_of h7 hq).symm
  have n14_8 : q14 ≠ q8 := (ne_of h8 hq).symm
  have n14_9 : q14 ≠ q9 := (ne_of h9 hq).symm
  have n14_10 : q14 ≠ q10 := (ne_of h10 hq).symm
  have n14_11 : q14 ≠ q11 := (ne_of h11 hq).symm
  have n14_12 : q14 ≠ q12 := (ne_of h12 hq).symm
  have n14_13 : q14 ≠ q13 := (ne_of h13 hq).symm
  have he := up_old hMn hq he
  have h0 := up_old hMn hq h0
  have h2 := up_old hMn hq h2
  have h3 := up_old hMn hq h3
  have h6 := up_old hMn hq h6
  have h7 := up_old hMn hq h7
  have h8 := up_old hMn hq h8
  have h9 := up_old hMn hq h9
  have h10 := up_old hMn hq h10
  have h11 := up_old hMn hq h11
  have h12 := up_old hMn hq h12
  have h13 := up_old hMn hq h13
  have h14 := up_me hMn
  clear hMn hq
  refine m_putF hx hb hts hown hK hw ci_M he 14 (by decide) (wm3 86 rfl rfl) rfl hnm rfl rfl rfl (Nat.le_of_ble_eq_true rfl) d_M_init_105 (fun H locs hw => ?_)
  obtain ⟨M24, hMn⟩ : ∃ M24, M24 = mp_up M23 a0 (.inr (8, [.ref q0, .int 0, .ref q2, .ref q3, .int 0, .int 0, .ref q6, .ref q7, .ref q8, .ref q9, .ref q10, .ref q11, .ref q12, .ref q13, .ref q14, .null, .int 0, .null, .null, .null, .null])) := ⟨_, rfl⟩
  have hw : mw E.1 vwCl A s.heap M24 H locs := by rw [hMn]; exact hw
  have h0 := up_put hMn n0 h0
  have h2 := up_put hMn n2 h2
  have h3 := up_put hMn n3 h3
  have h6 := up_put hMn n6 h6
  have h7 := up_put hMn n7 h7
  have h8 := up_put hMn n8 h8
  have h9 := up_put hMn n9 h9
  have h10 := up_put hMn n10 h10
  have h11 := up_put hMn n11 h11
  have h12 := up_put hMn n12 h12
  have h13 := up_put hMn n13 h13
  have h14 := up_put hMn n14 h14
  have he := up_me hMn
  clear hMn
  refine x_aload_n hx hb d_M_init_108 hl rfl ?_
  refine lv_sipush (v := nI 1300) hx hb d_M_init_109 (by decide) ?_
  refine m_newa (N' := 0) (ty := .short) (a0 := (1300, .inl (fun _ => nI 0))) hx hb hts (wm3 136 rfl rfl) rfl hK hw hA 4 rfl (za_i rfl) (by decide) (show 1300 * 2 ≤ 536870912 by decide) (Nat.le_trans (Nat.le_of_ble_eq_true rfl) hR.2.2.1) (Nat.le_trans (Nat.le_of_ble_eq_true rfl) hR.2.2.2) d_M_init_112 (fun q15 H hq hw => ?_)
  obtain ⟨M25, hMn⟩ : ∃ M25, M25 = mp_up M24 q15 (.inl (E.2.1 4, 1300, .inl (fun _ => nI 0))) := ⟨_, rfl⟩
  rw [← hMn] at hw
  have n15 : q15 ≠ a0 := (ne_of he hq).symm
  have n15_0 : q15 ≠ q0 := (ne_of h0 hq).symm
  have n15_2 : q15 ≠ q2 := (ne_of h2 hq).symm
  have n15_3 : q15 ≠ q3 := (ne_of h3 hq).symm
  have n15_6 : q15 ≠ q6 := (ne_of h6 hq).symm
  have n15_7 : q15 ≠ q7 := (ne_of h7 hq).symm
  have n15_8 : q15 ≠ q8 := (ne_of h8 hq).symm
  have n15_9 : q15 ≠ q9 := (ne_of h9 hq).symm
  have n15_10 : q15 ≠ q10 := (ne_of h10 hq).symm
  have n15_11 : q15 ≠ q11 := (ne_of h11 hq).symm
  have n15_12 : q15 ≠ q12 := (ne_of h12 hq).symm
  have n15_13 : q15 ≠ q13 := (ne_of h13 hq).symm
  have n15_14 : q15 ≠ q14 := (ne_of h14 hq).symm
  have he := up_old hMn hq he
  have h0 := up_old hMn hq h0
  have h2 := up_old hMn hq h2
  have h3 := up_old hMn hq h3
  have h6 := up_old hMn hq h6
  have h7 := up_old hMn hq h7
  have h8 := up_old hMn hq h8
  have h9 := up_old hMn hq h9
  have h10 := up_old hMn hq h10
  have h11 := up_old hMn hq h11
  have h12 := up_old hMn hq h12
  have h13 := up_old hMn hq h13
  have h14 := up_old hMn hq h14
  have h15 := up_me hMn
  clear hMn hq
  refine m_putF hx hb hts hown hK hw ci_M he 15 (by decide) (wm3 87 rfl rfl) rfl hnm rfl rfl rfl (Nat.le_of_ble_eq_true rfl) d_M_init_114 (fun H locs hw => ?_)
  obtain ⟨M26, hMn⟩ : ∃ M26, M26 = mp_up M25 a0 (.inr (8, [.ref q0, .int 0, .ref q2, .ref q3, .int 0, .int 0, .ref q6, .ref q7, .ref q8, .ref q9, .ref q10, .ref q11, .ref q12, .ref q13, .ref q14, .ref q15, .int 0, .null, .null, .null, .null])) := ⟨_, rfl⟩
  have hw : mw E.1 vwCl A s.heap M26 H locs := by rw [hMn]; exact hw
  have h0 := up_put hMn n0 h0
  have h2 := up_put hMn n2 h2
  have h3 := up_put hMn n3 h3
  have h6 := up_put hMn n6 h6
  have h7 := up_put hMn n7 h7
  have h8 := up_put hMn n8 h8
  have h9 := up_put hMn n9 h9
  have h10 := up_put hMn n10 h10
  have h11 := up_put hMn n11 h11
  have h12 := up_put hMn n12 h12
  have h13 := up_put hMn n13 h13
  have h14 := up_put hMn n14 h14
  have h15 := up_put hMn n15 h15
  have he := up_me hMn
  clear hMn
  refine x_aload_n hx hb d_M_init_117 hl rfl ?_
  refine lv_sipush (v := nI 512) hx hb d_M_init_118 (by decide) ?_
  refine m_newa (N' := 0) (ty := .long) (a0 := (512, .inr (.inl (fun _ => lN 0)))) hx hb hts (wm3 140 rfl rfl) rfl hK hw hA 8 rfl za_l (by decide) (show 512 * 8 ≤ 536870912 by decide) (Nat.le_trans (Nat.le_of_ble_eq_true rfl) hR.2.2.1) (Nat.le_trans (Nat.le_of_ble_eq_true rfl) hR.2.2.2) d_M_init_121 (fun q17 H hq hw => ?_)
  obtain ⟨M27, hMn⟩ : ∃ M27, M27 = mp_up M26 q17 (.inl (E.2.1 8, 512, .inr (.inl (fun _ => lN 0)))) := ⟨_, rfl⟩
  rw [← hMn] at hw
  have n17 : q17 ≠ a0 := (ne_of he hq).symm
  have n17_0 : q17 ≠ q0 := (ne_of h0 hq).symm
  have n17_2 : q17 ≠ q2 := (ne_of h2 hq).symm
  have n17_3 : q17 ≠ q3 := (ne_of h3 hq).symm
  have n17_6 : q17 ≠ q6 := (ne_of h6 hq).symm
  have n17_7 : q17 ≠ q7 := (ne_of h7 hq).symm
  have n17_8 : q17 ≠ q8 := (ne_of h8 hq).symm
  have n17_9 : q17 ≠ q9 := (ne_of h9 hq).symm
  have n17_10 : q17 ≠ q10 := (ne_of h10 hq).symm
  have n17_11 : q17 ≠ q11 := (ne_of h11 hq).symm
  have n17_12 : q17 ≠ q12 := (ne_of h12 hq).symm
  have n17_13 : q17 ≠ q13 := (ne_of h13 hq).symm
  have n17_14 : q17 ≠ q14 := (ne_of h14 hq).symm
  have n17_15 : q17 ≠ q15 := (ne_of h15 hq).symm
  have he := up_old hMn hq he
  have h0 := up_old hMn hq h0
  have h2 := up_old hMn hq h2
  have h3 := up_old hMn hq h3
  have h6 := up_old hMn hq h6
  have h7 := up_old hMn hq h7
  have h8 := up_old hMn hq h8
  have h9 := up_old hMn hq h9
  have h10 := up_old hMn hq h10
  have h11 := up_old hMn hq h11
  have h12 := up_old hMn hq h12
  have h13 := up_old hMn hq h13
  have h14 := up_old hMn hq h14
  have h15 := up_old hMn hq h15
  have h17 := up_me hMn
  clear hMn hq
  refine m_putF hx hb hts hown hK hw ci_M he 17 (by decide) (wm3 89 rfl rfl) rfl hnm rfl rfl rfl (Nat.le_of_ble_eq_true rfl) d_M_init_123 (fun H locs hw => ?_)
  obtain ⟨M28, hMn⟩ : ∃ M28, M28 = mp_up M27 a0 (.inr (8, [.ref q0, .int 0, .ref q2, .ref q3, .int 0, .int 0, .ref q6, .ref q7, .ref q8, .ref q9, .ref q10, .ref q11, .ref q12, .ref q13, .ref q14, .ref q15, .int 0, .ref q17, .null, .null, .null])) := ⟨_, rfl⟩
  have hw : mw E.1 vwCl A s.heap M28 H locs := by rw [hMn]; exact hw
  have h0 := up_put hMn n0 h0
  have h2 := up_put hMn n2 h2
  have h3 := up_put hMn n3 h3
  have h6 := up_put hMn n6 h6
  have h7 := up_put hMn n7 h7
  have h8 := up_put hMn n8 h8
  have h9 := up_put hMn n9 h9
  have h10 := up_put hMn n10 h10
  have h11 := up_put hMn n11 h11
  have h12 := up_put hMn n12 h12
  have h13 := up_put hMn n13 h13
  have h14 := up_put hMn n14 h14
  have h15 := up_put hMn n15 h15
  have h17 := up_put hMn n17 h17
  have he := up_me hMn
  clear hMn
  refine x_aload_n hx hb d_M_init_126 hl rfl ?_
  refine lv_sipush (v := nI 512) hx hb d_M_init_127 (by decide) ?_
  refine m_newa (N' := 0) (ty := .byte) (a0 := (512, .inl (fun _ => nI 0))) hx hb hts (wm3 139 rfl rfl) rfl hK hw hA 5 rfl (za_i rfl) (by decide) (show 512 * 1 ≤ 536870912 by decide) (Nat.le_trans (Nat.le_of_ble_eq_true rfl) hR.2.2.1) (Nat.le_trans (Nat.le_of_ble_eq_true rfl) hR.2.2.2) d_M_init_130 (fun q18 H hq hw => ?_)
  obtain ⟨M29, hMn⟩ : ∃ M29, M29 = mp_up M28 q18 (.inl (E.2.1 5, 512, .inl (fun _ => nI 0))) := ⟨_, rfl⟩
  rw [← hMn] at hw
  have n18 : q18 ≠ a0 := (ne_of he hq).symm
  have n18_0 : q18 ≠ q0 := (ne_of h0 hq).symm
  have n18_2 : q18 ≠ q2 := (ne_of h2 hq).symm
  have n18_3 : q18 ≠ q3 := (ne_of h3 hq).symm
  have n18_6 : q18 ≠ q6 := (ne_of h6 hq).symm
  have n18_7 : q18 ≠ q7 := (ne_of h7 hq).symm
  have n18_8 : q18 ≠ q8 := (ne_of h8 hq).symm
  have n18_9 : q18 ≠ q9 := (ne_of h9 hq).symm
  have n18_10 : q18 ≠ q10 := (ne_of h10 hq).symm
  have n18_11 : q18 ≠ q11 := (ne_of h11 hq).symm
  have n18_12 : q18 ≠ q12 := (ne_of h12 hq).symm
  have n18_13 : q18 ≠ q13 := (ne_of h13 hq).symm
  have n18_14 : q18 ≠ q14 := (ne_of h14 hq).symm
  have n18_15 : q18 ≠ q15 := (ne_of h15 hq).symm
  have n18_17 : q18 ≠ q17 := (ne_of h17 hq).symm
  have he := up_old hMn hq he
  have h0 := up_old hMn hq h0
  have h2 := up_old hMn hq h2
  have h3 := up_old hMn hq h3
  have h6 := up_old hMn hq h6
  have h7 := up_old hMn hq h7
  have h8 := up_old hMn hq h8
  have h9 := up_old hMn hq h9
  have h10 := up_old hMn hq h10
  have h11 := up_old hMn hq h11
  have h12 := up_old hMn hq h12
  have h13 := up_old hMn hq h13
  have h14 := up_old hMn hq h14
  have h15 := up_old hMn hq h15
  have h17 := up_old hMn hq h17
  have h18 := up_me hMn
  clear hMn hq
  refine m_putF hx hb hts hown hK hw ci_M he 18 (by decide) (wm3 90 rfl rfl) rfl hnm rfl rfl rfl (Nat.le_of_ble_eq_true rfl) d_M_init_132 (fun H locs hw => ?_)
  obtain ⟨M30, hMn⟩ : ∃ M30, M30 = mp_up M29 a0 (.inr (8, [.ref q0, .int 0, .ref q2, .ref q3, .int 0, .int 0, .ref q6, .ref q7, .ref q8, .ref q9, .ref q10, .ref q11, .ref q12, .ref q13, .ref q14, .ref q15, .int 0, .ref q17, .ref q18, .null, .null])) := ⟨_, rfl⟩
  have hw : mw E.1 vwCl A s.heap M30 H locs := by rw [hMn]; exact hw
  have h0 := up_put hMn n0 h0
  have h2 := up_put hMn n2 h2
  have h3 := up_put hMn n3 h3
  have h6 := up_put hMn n6 h6
  have h7 := up_put hMn n7 h7
  have h8 := up_put hMn n8 h8
  have h9 := up_put hMn n9 h9
  have h10 := up_put hMn n10 h10
  have h11 := up_put hMn n11 h11
  have h12 := up_put hMn n12 h12
  have h13 := up_put hMn n13 h13
  have h14 := up_put hMn n14 h14
  have h15 := up_put hMn n15 h15
  have h17 := up_put hMn n17 h17
  have h18 := up_put hMn n18 h18
  have he := up_me hMn
  clear hMn
  refine x_aload_n hx hb d_M_init_135 hl rfl ?_
  refine lv_sipush (v := nI 512) hx hb d_M_init_136 (by decide) ?_
  refine m_newa (N' := 0) (ty := .short) (a0 := (512, .inl (fun _ => nI 0))) hx hb hts (wm3 136 rfl rfl) rfl hK hw hA 4 rfl (za_i rfl) (by decide) (show 512 * 2 ≤ 536870912 by decide) (Nat.le_trans (Nat.le_of_ble_eq_true rfl) hR.2.2.1) (Nat.le_trans (Nat.le_of_ble_eq_true rfl) hR.2.2.2) d_M_init_139 (fun q19 H hq hw => ?_)
  obtain ⟨M31, hMn⟩ : ∃ M31, M31 = mp_up M30 q19 (.inl (E.2.1 4, 512, .inl (fun _ => nI 0))) := ⟨_, rfl⟩
  rw [← hMn] at hw
  have n19 : q19 ≠ a0 := (ne_of he hq).symm
  have n19_0 : q19 ≠ q0 := (ne_of h0 hq).symm
  have n19_2 : q19 ≠ q2 := (ne_of h2 hq).symm
  have n19_3 : q19 ≠ q3 := (ne_of h3 hq).symm
  have n19_6 : q19 ≠ q6 := (ne_of h6 hq).symm
  have n19_7 : q19 ≠ q7 := (ne_of h7 hq).symm
  have n19_8 : q19 ≠ q8 := (ne_of h8 hq).symm
  have n19_9 : q19 ≠ q9 := (ne_of h9 hq).symm
  have n19_10 : q19 ≠ q10 := (ne_of h10 hq).symm
  have n19_11 : q19 ≠ q11 := (ne_of h11 hq).symm
  have n19_12 : q19 ≠ q12 := (ne_of h12 hq).symm
  have n19_13 : q19 ≠ q13 := (ne_of h13 hq).symm
  have n19_14 : q19 ≠ q14 := (ne_of h14 hq).symm
  have n19_15 : q19 ≠ q15 := (ne_of h15 hq).symm
  have n19_17 : q19 ≠ q17 := (ne_of h17 hq).symm
  have n19_18 : q19 ≠ q18 := (ne_of h18 hq).symm
  have he := up_old hMn hq he
  have h0 := up_old hMn hq h0
  have h2 := up_old hMn hq h2
  have h3 := up_old hMn hq h3
  have h6 := up_old hMn hq h6
  have h7 := up_old hMn hq h7
  have h8 := up_old hMn hq h8
  have h9 := up_old hMn hq h9
  have h10 := up_old hMn hq h10
  have h11 := up_old hMn hq h11
  have h12 := up_old hMn hq h12
  have h13 := up_old hMn hq h13
  have h14 := up_old hMn hq h14
  have h15 := up_old hMn hq h15
  have h17 := up_old hMn hq h17
  have h18 := up_old hMn hq h18
  have h19 := up_me hMn
  clear hMn hq
  refine m_putF hx hb hts hown hK hw ci_M he 19 (by decide) (wm3 91 rfl rfl) rfl hnm rfl rfl rfl (Nat.le_of_ble_eq_true rfl) d_M_init_141 (fun H locs hw => ?_)
  obtain ⟨M32, hMn⟩ : ∃ M32, M32 = mp_up M31 a0 (.inr (8, [.ref q0, .int 0, .ref q2, .ref q3, .int 0, .int 0, .ref q6, .ref q7, .ref q8, .ref q9, .ref q10, .ref q11, .ref q12, .ref q13, .ref q14, .ref q15, .int 0, .ref q17, .ref q18, .ref q19, .null])) := ⟨_, rfl⟩
  have hw : mw E.1 vwCl A s.heap M32 H locs := by rw [hMn]; exact hw
  have h0 := up_put hMn n0 h0
  have h2 := up_put hMn n2 h2
  have h3 := up_put hMn n3 h3
  have h6 := up_put hMn n6 h6
  have h7 := up_put hMn n7 h7
  have h8 := up_put hMn n8 h8
  have h9 := up_put hMn n9 h9
  have h10 := up_put hMn n10 h10
  have h11 := up_put hMn n11 h11
  have h12 := up_put hMn n12 h12
  have h13 := up_put hMn n13 h13
  have h14 := up_put hMn n14 h14
  have h15 := up_put hMn n15 h15
  have h17 := up_put hMn n17 h17
  have h18 := up_put hMn n18 h18
  have h19 := up_put hMn n19 h19
  have he := up_me hMn
  clear hMn
  refine x_aload_n hx hb d_M_init_144 hl rfl ?_
  refine lv_sipush (v := nI 512) hx hb d_M_init_145 (by decide) ?_
  refine m_newa (N' := 0) (ty := .byte) (a0 := (512, .inl (fun _ => nI 0))) hx hb hts (wm3 139 rfl rfl) rfl hK hw hA 5 rfl (za_i rfl) (by decide) (show 512 * 1 ≤ 536870912 by decide) (Nat.le_trans (Nat.le_of_ble_eq_true rfl) hR.2.2.1) (Nat.le_trans (Nat.le_of_ble_eq_true rfl) hR.2.2.2) d_M_init_148 (fun q20 H hq hw => ?_)
  obtain ⟨M33, hMn⟩ : ∃ M33, M33 = mp_up M32 q20 (.inl (E.2.1 5, 512, .inl (fun _ => nI 0))) := ⟨_, rfl⟩
  rw [← hMn] at hw
  have n20 : q20 ≠ a0 := (ne_of he hq).symm
  have n20_0 : q20 ≠ q0 := (ne_of h0 hq).symm
  have n20_2 : q20 ≠ q2 := (ne_of h2 hq).symm
  have n20_3 : q20 ≠ q3 := (ne_of h3 hq).symm
  have n20_6 : q20 ≠ q6 := (ne_of h6 hq).symm
  have n20_7 : q20 ≠ q7 := (ne_of h7 hq).symm
  have n20_8 : q20 ≠ q8 := (ne_of h8 hq).symm
  have n20_9 : q20 ≠ q9 := (ne_of h9 hq).symm
  have n20_10 : q20 ≠ q10 := (ne_of h10 hq).symm
  have n20_11 : q20 ≠ q11 := (ne_of h11 hq).symm
  have n20_12 : q20 ≠ q12 := (ne_of h12 hq).symm
  have n20_13 : q20 ≠ q13 := (ne_of h13 hq).symm
  have n20_14 : q20 ≠ q14 := (ne_of h14 hq).symm
  have n20_15 : q20 ≠ q15 := (ne_of h15 hq).symm
  have n20_17 : q20 ≠ q17 := (ne_of h17 hq).symm
  have n20_18 : q20 ≠ q18 := (ne_of h18 hq).symm
  have n20_19 : q20 ≠ q19 := (ne_of h19 hq).symm
  have he := up_old hMn hq he
  have h0 := up_old hMn hq h0
  have h2 := up_old hMn hq h2
  have h3 := up_old hMn hq h3
  have h6 := up_old hMn hq h6
  have h7 := up_old hMn hq h7
  have h8 := up_old hMn hq h8
  have h9 := up_old hMn hq h9
  have h10 := up_old hMn hq h10
  have h11 := up_old hMn hq h11
  have h12 := up_old hMn hq h12
  have h13 := up_old hMn hq h13
  have h14 := up_old hMn hq h14
  have h15 := up_old hMn hq h15
  have h17 := up_old hMn hq h17
  have h18 := up_old hMn hq h18
  have h19 := up_old hMn hq h19
  have h20 := up_me hMn
  clear hMn hq
  refine m_putF hx hb hts hown hK hw ci_M he 20 (by decide) (wm3 92 rfl rfl) rfl hnm rfl rfl rfl (Nat.le_of_ble_eq_true rfl) d_M_init_150 (fun H locs hw => ?_)
  obtain ⟨M34, hMn⟩ : ∃ M34, M34 = mp_up M33 a0 (.inr (8, [.ref q0, .int 0, .ref q2, .ref q3, .int 0, .int 0, .ref q6, .ref q7, .ref q8, .ref q9, .ref q10, .ref q11, .ref q12, .ref q13, .ref q14, .ref q15, .int 0, .ref q17, .ref q18, .ref q19, .ref q20])) := ⟨_, rfl⟩
  have hw : mw E.1 vwCl A s.heap M34 H locs := by rw [hMn]; exact hw
  have h0 := up_put hMn n0 h0
  have h2 := up_put hMn n2 h2
  have h3 := up_put hMn n3 h3
  have h6 := up_put hMn n6 h6
  have h7 := up_put hMn n7 h7
  have h8 := up_put hMn n8 h8
  have h9 := up_put hMn n9 h9
  have h10 := up_put hMn n10 h10
  have h11 := up_put hMn n11 h11
  have h12 := up_put hMn n12 h12
  have h13 := up_put hMn n13 h13
  have h14 := up_put hMn n14 h14
  have h15 := up_put hMn n15 h15
  have h17 := up_put hMn n17 h17
  have h18 := up_put hMn n18 h18
  have h19 := up_put hMn n19 h19
  have h20 := up_put hMn n20 h20
  have he := up_me hMn
  clear hMn
  refine x_aload_n hx hb d_M_init_153 hl rfl ?_
  refine lv_iconst (v := nI 1) hx hb d_M_init_154 (by decide) ?_
  refine m_put hx hb hts hown hK hw ci_M he 4 (by decide) (wm3 76 rfl rfl) rfl rfl rfl (Nat.le_of_ble_eq_true rfl) d_M_init_155 (fun H locs hw => ?_)
  obtain ⟨M35, hMn⟩ : ∃ M35, M35 = mp_up M34 a0 (.inr (8, [.ref q0, .int 0, .ref q2, .ref q3, .int (nI 1), .int 0, .ref q6, .ref q7, .ref q8, .ref q9, .ref q10, .ref q11, .ref q12, .ref q13, .ref q14, .ref q15, .int 0, .ref q17, .ref q18, .ref q19, .ref q20])) := ⟨_, rfl⟩
  have hw : mw E.1 vwCl A s.heap M35 H locs := by rw [hMn]; exact hw
  have h0 := up_put hMn n0 h0
  have h2 := up_put hMn n2 h2
  have h3 := up_put hMn n3 h3
  have h6 := up_put hMn n6 h6
  have h7 := up_put hMn n7 h7
  have h8 := up_put hMn n8 h8
  have h9 := up_put hMn n9 h9
  have h10 := up_put hMn n10 h10
  have h11 := up_put hMn n11 h11
  have h12 := up_put hMn n12 h12
  have h13 := up_put hMn n13 h13
  have h14 := up_put hMn n14 h14
  have h15 := up_put hMn n15 h15
  have h17 := up_put hMn n17 h17
  have h18 := up_put hMn n18 h18
  have h19 := up_put hMn n19 h19
  have h20 := up_put hMn n20 h20
  have he := up_me hMn
  clear hMn
  refine x_aload_n hx hb d_M_init_158 hl rfl ?_
  refine m_get hx hb hts hown hK hw ci_M he 6 (by decide) (wm3 78 rfl rfl) rfl d_M_init_159 ?_
  refine lv_iconst (v := nI 1) hx hb d_M_init_162 (by decide) ?_
  refine lv_iconst (v := nI 1) hx hb d_M_init_163 (by decide) ?_
  refine m_bast (f' := fun j => nI (va_up (fun _ => 0) 1 1 j)) hx hb hK hw 5 h6 rfl (by decide) (by decide) (up_n (g := fun _ => 0) (nar_b (by decide))) d_M_init_164 (fun H locs hw => ?_)
  obtain ⟨M36, hMn⟩ : ∃ M36, M36 = mp_up M35 q6 (.inl (E.2.1 5, 1300, .inl (fun j => nI (va_up (fun _ => 0) 1 1 j)))) := ⟨_, rfl⟩
  rw [← hMn] at hw
  have h0 := up_put hMn (Ne.symm n6_0) h0
  have h2 := up_put hMn (Ne.symm n6_2) h2
  have h3 := up_put hMn (Ne.symm n6_3) h3
  have h7 := up_put hMn n7_6 h7
  have h8 := up_put hMn n8_6 h8
  have h9 := up_put hMn n9_6 h9
  have h10 := up_put hMn n10_6 h10
  have h11 := up_put hMn n11_6 h11
  have h12 := up_put hMn n12_6 h12
  have h13 := up_put hMn n13_6 h13
  have h14 := up_put hMn n14_6 h14
  have h15 := up_put hMn n15_6 h15
  have h17 := up_put hMn n17_6 h17
  have h18 := up_put hMn n18_6 h18
  have h19 := up_put hMn n19_6 h19
  have h20 := up_put hMn n20_6 h20
  have he := up_put hMn (Ne.symm n6) he
  have h6 := up_me hMn
  clear hMn
  refine x_aload_n hx hb d_M_init_165 hl rfl ?_
  refine m_get hx hb hts hown hK hw ci_M he 0 (by decide) (wm3 72 rfl rfl) rfl d_M_init_166 ?_
  refine lv_iconst (v := nI 0) hx hb d_M_init_169 (by decide) ?_
  refine lv_iconst (v := nI 1) hx hb d_M_init_170 (by decide) ?_
  refine m_sast (f' := fun j => nI (va_up (fun _ => 0) 0 1 j)) hx hb hK hw 4 h0 rfl (by decide) (by decide) (up_n (g := fun _ => 0) (nar_s (by decide))) d_M_init_171 (fun H locs hw => ?_)
  obtain ⟨M37, hMn⟩ : ∃ M37, M37 = mp_up M36 q0 (.inl (E.2.1 4, 2375, .inl (fun j => nI (va_up (fun _ => 0) 0 1 j)))) := ⟨_, rfl⟩
  rw [← hMn] at hw
  have h2 := up_put hMn n2_0 h2
  have h3 := up_put hMn n3_0 h3
  have h6 := up_put hMn n6_0 h6
  have h7 := up_put hMn n7_0 h7
  have h8 := up_put hMn n8_0 h8
  have h9 := up_put hMn n9_0 h9
  have h10 := up_put hMn n10_0 h10
  have h11 := up_put hMn n11_0 h11
  have h12 := up_put hMn n12_0 h12
  have h13 := up_put hMn n13_0 h13
  have h14 := up_put hMn n14_0 h14
  have h15 := up_put hMn n15_0 h15
  have h17 := up_put hMn n17_0 h17
  have h18 := up_put hMn n18_0 h18
  have h19 := up_put hMn n19_0 h19
  have h20 := up_put hMn n20_0 h20
  have he := up_put hMn (Ne.symm n0) he
  have h0 := up_me hMn
  clear hMn
  exact x_retv hQ hx hb hr hlk hw (Nat.le_of_ble_eq_true rfl) (Nat.le_of_ble_eq_true rfl) d_M_init_172 (mi_end he h0 h2 h3 h6 h7 h8 h9 h10 h11 h12 h13 h14 h15 h17 h18 h19 h20 (by
    simp only [List.nodup_cons, List.mem_cons, List.not_mem_nil, or_false, not_or, not_false_eq_true, List.nodup_nil, and_true]
    exact ⟨⟨Ne.symm n0, Ne.symm n2, Ne.symm n3, Ne.symm n6, Ne.symm n7, Ne.symm n8, Ne.symm n9, Ne.symm n10, Ne.symm n11, Ne.symm n12, Ne.symm n13, Ne.symm n14, Ne.symm n15, Ne.symm n17, Ne.symm n18, Ne.symm n19, Ne.symm n20⟩, ⟨Ne.symm n2_0, Ne.symm n3_0, Ne.symm n6_0, Ne.symm n7_0, Ne.symm n8_0, Ne.symm n9_0, Ne.symm n10_0, Ne.symm n11_0, Ne.symm n12_0, Ne.symm n13_0, Ne.symm n14_0, Ne.symm n15_0, Ne.symm n17_0, Ne.symm n18_0, Ne.symm n19_0, Ne.symm n20_0⟩, ⟨Ne.symm n3_2, Ne.symm n6_2, Ne.symm n7_2, Ne.symm n8_2, Ne.symm n9_2, Ne.symm n10_2, Ne.symm n11_2, Ne.symm n12_2, Ne.symm n13_2, Ne.symm n14_2, Ne.symm n15_2, Ne.symm n17_2, Ne.symm n18_2, Ne.symm n19_2, Ne.symm n20_2⟩, ⟨Ne.symm n6_3, Ne.symm n7_3, Ne.symm n8_3, Ne.symm n9_3, Ne.symm n10_3, Ne.symm n11_3, Ne.symm n12_3, Ne.symm n13_3, Ne.symm n14_3, Ne.symm n15_3, Ne.symm n17_3, Ne.symm n18_3, Ne.symm n19_3, Ne.symm n20_3⟩, ⟨Ne.symm n7_6, Ne.symm n8_6, Ne.symm n9_6, Ne.symm n10_6, Ne.symm n11_6, Ne.symm n12_6, Ne.symm n13_6, Ne.symm n14_6, Ne.symm n15_6, Ne.symm n17_6, Ne.symm n18_6, Ne.symm n19_6, Ne.symm n20_6⟩, ⟨Ne.symm n8_7, Ne.symm n9_7, Ne.symm n10_7, Ne.symm n11_7, Ne.symm n12_7, Ne.symm n13_7, Ne.symm n14_7, Ne.symm n15_7, Ne.symm n17_7, Ne.symm n18_7, Ne.symm n19_7, Ne.symm n20_7⟩, ⟨Ne.symm n9_8, Ne.symm n10_8, Ne.symm n11_8, Ne.symm n12_8, Ne.symm n13_8, Ne.symm n14_8, Ne.symm n15_8, Ne.symm n17_8, Ne.symm n18_8, Ne.symm n19_8, Ne.symm n20_8⟩, ⟨Ne.symm n10_9, Ne.symm n11_9, Ne.symm n12_9, Ne.symm n13_9, Ne.symm n14_9, Ne.symm n15_9, Ne.symm n17_9, Ne.symm n18_9, Ne.symm n19_9, Ne.symm n20_9⟩, ⟨Ne.symm n11_10, Ne.symm n12_10, Ne.symm n13_10, Ne.symm n14_10, Ne.symm n15_10, Ne.symm n17_10, Ne.symm n18_10, Ne.symm n19_10, Ne.symm n20_10⟩, ⟨Ne.symm n12_11, Ne.symm n13_11, Ne.symm n14_11, Ne.symm n15_11, Ne.symm n17_11, Ne.symm n18_11, Ne.symm n19_11, Ne.symm n20_11⟩, ⟨Ne.symm n13_12, Ne.symm n14_12, Ne.symm n15_12, Ne.symm n17_12, Ne.symm n18_12, Ne.symm n19_12, Ne.symm n20_12⟩, ⟨Ne.symm n14_13, Ne.symm n15_13, Ne.symm n17_13, Ne.symm n18_13, Ne.symm n19_13, Ne.symm n20_13⟩, ⟨Ne.symm n15_14, Ne.symm n17_14, Ne.symm n18_14, Ne.symm n19_14, Ne.symm n20_14⟩, ⟨Ne.symm n17_15, Ne.symm n18_15, Ne.symm n19_15, Ne.symm n20_15⟩, ⟨Ne.symm n18_17, Ne.symm n19_17, Ne.symm n20_17⟩, ⟨Ne.symm n19_18, Ne.symm n20_18⟩, Ne.symm n20_19⟩))
end MCT
