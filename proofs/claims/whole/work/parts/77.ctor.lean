theorem d_ABC_init_0 : decode prog_16_method_1_code 0 = .ok (.aload_n 0, 1) := by decide +kernel
theorem d_ABC_init_1 : decode prog_16_method_1_code 1 = .ok (.invokespecial 1, 3) := by decide +kernel
theorem d_ABC_init_4 : decode prog_16_method_1_code 4 = .ok (.return_, 1) := by decide +kernel

theorem d_ABL_init_0 : decode prog_17_method_1_code 0 = .ok (.aload_n 0, 1) := by decide +kernel
theorem d_ABL_init_1 : decode prog_17_method_1_code 1 = .ok (.invokespecial 1, 3) := by decide +kernel
theorem d_ABL_init_4 : decode prog_17_method_1_code 4 = .ok (.aload_n 0, 1) := by decide +kernel
theorem d_ABL_init_5 : decode prog_17_method_1_code 5 = .ok (.iconst 0, 1) := by decide +kernel
theorem d_ABL_init_6 : decode prog_17_method_1_code 6 = .ok (.putfield 7, 3) := by decide +kernel
theorem d_ABL_init_9 : decode prog_17_method_1_code 9 = .ok (.return_, 1) := by decide +kernel

theorem d_AL_init_0 : decode prog_18_method_2_code 0 = .ok (.aload_n 0, 1) := by decide +kernel
theorem d_AL_init_1 : decode prog_18_method_2_code 1 = .ok (.invokespecial 1, 3) := by decide +kernel
theorem d_AL_init_4 : decode prog_18_method_2_code 4 = .ok (.aload_n 0, 1) := by decide +kernel
theorem d_AL_init_5 : decode prog_18_method_2_code 5 = .ok (.getstatic 39, 3) := by decide +kernel
theorem d_AL_init_8 : decode prog_18_method_2_code 8 = .ok (.putfield 9, 3) := by decide +kernel
theorem d_AL_init_11 : decode prog_18_method_2_code 11 = .ok (.return_, 1) := by decide +kernel

theorem d_Tx_init_0 : decode prog_7_method_1_code 0 = .ok (.aload_n 0, 1) := by decide +kernel
theorem d_Tx_init_1 : decode prog_7_method_1_code 1 = .ok (.invokespecial 3, 3) := by decide +kernel
theorem d_Tx_init_4 : decode prog_7_method_1_code 4 = .ok (.aload_n 0, 1) := by decide +kernel
theorem d_Tx_init_5 : decode prog_7_method_1_code 5 = .ok (.new 9, 3) := by decide +kernel
theorem d_Tx_init_8 : decode prog_7_method_1_code 8 = .ok (.dup, 1) := by decide +kernel
theorem d_Tx_init_9 : decode prog_7_method_1_code 9 = .ok (.invokespecial 11, 3) := by decide +kernel
theorem d_Tx_init_12 : decode prog_7_method_1_code 12 = .ok (.putfield 12, 3) := by decide +kernel
theorem d_Tx_init_15 : decode prog_7_method_1_code 15 = .ok (.aload_n 0, 1) := by decide +kernel
theorem d_Tx_init_16 : decode prog_7_method_1_code 16 = .ok (.iconst 0, 1) := by decide +kernel
theorem d_Tx_init_17 : decode prog_7_method_1_code 17 = .ok (.putfield 18, 3) := by decide +kernel
theorem d_Tx_init_20 : decode prog_7_method_1_code 20 = .ok (.aload_n 0, 1) := by decide +kernel
theorem d_Tx_init_21 : decode prog_7_method_1_code 21 = .ok (.iconst 0, 1) := by decide +kernel
theorem d_Tx_init_22 : decode prog_7_method_1_code 22 = .ok (.putfield 22, 3) := by decide +kernel
theorem d_Tx_init_25 : decode prog_7_method_1_code 25 = .ok (.return_, 1) := by decide +kernel

theorem d_T_init_0 : decode prog_1_method_1_code 0 = .ok (.aload_n 0, 1) := by decide +kernel
theorem d_T_init_1 : decode prog_1_method_1_code 1 = .ok (.invokespecial 1, 3) := by decide +kernel
theorem d_T_init_4 : decode prog_1_method_1_code 4 = .ok (.aload_n 0, 1) := by decide +kernel
theorem d_T_init_5 : decode prog_1_method_1_code 5 = .ok (.bipush 16, 2) := by decide +kernel
theorem d_T_init_7 : decode prog_1_method_1_code 7 = .ok (.anewarray 9, 3) := by decide +kernel
theorem d_T_init_10 : decode prog_1_method_1_code 10 = .ok (.putfield 11, 3) := by decide +kernel
theorem d_T_init_13 : decode prog_1_method_1_code 13 = .ok (.aload_n 0, 1) := by decide +kernel
theorem d_T_init_14 : decode prog_1_method_1_code 14 = .ok (.iconst 3, 1) := by decide +kernel
theorem d_T_init_15 : decode prog_1_method_1_code 15 = .ok (.anewarray 15, 3) := by decide +kernel
theorem d_T_init_18 : decode prog_1_method_1_code 18 = .ok (.putfield 17, 3) := by decide +kernel
theorem d_T_init_21 : decode prog_1_method_1_code 21 = .ok (.aload_n 0, 1) := by decide +kernel
theorem d_T_init_22 : decode prog_1_method_1_code 22 = .ok (.new 21, 3) := by decide +kernel
theorem d_T_init_25 : decode prog_1_method_1_code 25 = .ok (.dup, 1) := by decide +kernel
theorem d_T_init_26 : decode prog_1_method_1_code 26 = .ok (.invokespecial 23, 3) := by decide +kernel
theorem d_T_init_29 : decode prog_1_method_1_code 29 = .ok (.putfield 24, 3) := by decide +kernel
theorem d_T_init_32 : decode prog_1_method_1_code 32 = .ok (.aload_n 0, 1) := by decide +kernel
theorem d_T_init_33 : decode prog_1_method_1_code 33 = .ok (.new 28, 3) := by decide +kernel
theorem d_T_init_36 : decode prog_1_method_1_code 36 = .ok (.dup, 1) := by decide +kernel
theorem d_T_init_37 : decode prog_1_method_1_code 37 = .ok (.lconst 0, 1) := by decide +kernel
theorem d_T_init_38 : decode prog_1_method_1_code 38 = .ok (.iconst 0, 1) := by decide +kernel
theorem d_T_init_39 : decode prog_1_method_1_code 39 = .ok (.invokespecial 30, 3) := by decide +kernel
theorem d_T_init_42 : decode prog_1_method_1_code 42 = .ok (.putfield 33, 3) := by decide +kernel
theorem d_T_init_45 : decode prog_1_method_1_code 45 = .ok (.aload_n 0, 1) := by decide +kernel
theorem d_T_init_46 : decode prog_1_method_1_code 46 = .ok (.iconst 0, 1) := by decide +kernel
theorem d_T_init_47 : decode prog_1_method_1_code 47 = .ok (.putfield 37, 3) := by decide +kernel
theorem d_T_init_50 : decode prog_1_method_1_code 50 = .ok (.aload_n 0, 1) := by decide +kernel
theorem d_T_init_51 : decode prog_1_method_1_code 51 = .ok (.iconst 0, 1) := by decide +kernel
theorem d_T_init_52 : decode prog_1_method_1_code 52 = .ok (.putfield 41, 3) := by decide +kernel
theorem d_T_init_55 : decode prog_1_method_1_code 55 = .ok (.iconst 0, 1) := by decide +kernel
theorem d_T_init_56 : decode prog_1_method_1_code 56 = .ok (.istore_n 1, 1) := by decide +kernel
theorem d_T_init_57 : decode prog_1_method_1_code 57 = .ok (.iload_n 1, 1) := by decide +kernel
theorem d_T_init_58 : decode prog_1_method_1_code 58 = .ok (.bipush 16, 2) := by decide +kernel
theorem d_T_init_60 : decode prog_1_method_1_code 60 = .ok (.if_icmp .ge 22, 3) := by decide +kernel
theorem d_T_init_63 : decode prog_1_method_1_code 63 = .ok (.aload_n 0, 1) := by decide +kernel
theorem d_T_init_64 : decode prog_1_method_1_code 64 = .ok (.getfield 11, 3) := by decide +kernel
theorem d_T_init_67 : decode prog_1_method_1_code 67 = .ok (.iload_n 1, 1) := by decide +kernel
theorem d_T_init_68 : decode prog_1_method_1_code 68 = .ok (.new 9, 3) := by decide +kernel
theorem d_T_init_71 : decode prog_1_method_1_code 71 = .ok (.dup, 1) := by decide +kernel
theorem d_T_init_72 : decode prog_1_method_1_code 72 = .ok (.invokespecial 44, 3) := by decide +kernel
theorem d_T_init_75 : decode prog_1_method_1_code 75 = .ok (.aastore, 1) := by decide +kernel
theorem d_T_init_76 : decode prog_1_method_1_code 76 = .ok (.iinc 1 1, 3) := by decide +kernel
theorem d_T_init_79 : decode prog_1_method_1_code 79 = .ok (.goto (-22), 3) := by decide +kernel
theorem d_T_init_82 : decode prog_1_method_1_code 82 = .ok (.iconst 0, 1) := by decide +kernel
theorem d_T_init_83 : decode prog_1_method_1_code 83 = .ok (.istore_n 1, 1) := by decide +kernel
theorem d_T_init_84 : decode prog_1_method_1_code 84 = .ok (.iload_n 1, 1) := by decide +kernel
theorem d_T_init_85 : decode prog_1_method_1_code 85 = .ok (.iconst 3, 1) := by decide +kernel
theorem d_T_init_86 : decode prog_1_method_1_code 86 = .ok (.if_icmp .ge 22, 3) := by decide +kernel
theorem d_T_init_89 : decode prog_1_method_1_code 89 = .ok (.aload_n 0, 1) := by decide +kernel
theorem d_T_init_90 : decode prog_1_method_1_code 90 = .ok (.getfield 17, 3) := by decide +kernel
theorem d_T_init_93 : decode prog_1_method_1_code 93 = .ok (.iload_n 1, 1) := by decide +kernel
theorem d_T_init_94 : decode prog_1_method_1_code 94 = .ok (.new 15, 3) := by decide +kernel
theorem d_T_init_97 : decode prog_1_method_1_code 97 = .ok (.dup, 1) := by decide +kernel
theorem d_T_init_98 : decode prog_1_method_1_code 98 = .ok (.invokespecial 45, 3) := by decide +kernel
theorem d_T_init_101 : decode prog_1_method_1_code 101 = .ok (.aastore, 1) := by decide +kernel
theorem d_T_init_102 : decode prog_1_method_1_code 102 = .ok (.iinc 1 1, 3) := by decide +kernel
theorem d_T_init_105 : decode prog_1_method_1_code 105 = .ok (.goto (-21), 3) := by decide +kernel
theorem d_T_init_108 : decode prog_1_method_1_code 108 = .ok (.new 46, 3) := by decide +kernel
theorem d_T_init_111 : decode prog_1_method_1_code 111 = .ok (.dup, 1) := by decide +kernel
theorem d_T_init_112 : decode prog_1_method_1_code 112 = .ok (.iconst 0, 1) := by decide +kernel
theorem d_T_init_113 : decode prog_1_method_1_code 113 = .ok (.iconst 1, 1) := by decide +kernel
theorem d_T_init_114 : decode prog_1_method_1_code 114 = .ok (.aload_n 0, 1) := by decide +kernel
theorem d_T_init_115 : decode prog_1_method_1_code 115 = .ok (.getfield 33, 3) := by decide +kernel
theorem d_T_init_118 : decode prog_1_method_1_code 118 = .ok (.invokespecial 48, 3) := by decide +kernel
theorem d_T_init_121 : decode prog_1_method_1_code 121 = .ok (.astore_n 1, 1) := by decide +kernel
theorem d_T_init_122 : decode prog_1_method_1_code 122 = .ok (.aload_n 1, 1) := by decide +kernel
theorem d_T_init_123 : decode prog_1_method_1_code 123 = .ok (.iconst 0, 1) := by decide +kernel
theorem d_T_init_124 : decode prog_1_method_1_code 124 = .ok (.putfield 51, 3) := by decide +kernel
theorem d_T_init_127 : decode prog_1_method_1_code 127 = .ok (.aload_n 0, 1) := by decide +kernel
theorem d_T_init_128 : decode prog_1_method_1_code 128 = .ok (.getfield 11, 3) := by decide +kernel
theorem d_T_init_131 : decode prog_1_method_1_code 131 = .ok (.iconst 0, 1) := by decide +kernel
theorem d_T_init_132 : decode prog_1_method_1_code 132 = .ok (.aaload, 1) := by decide +kernel
theorem d_T_init_133 : decode prog_1_method_1_code 133 = .ok (.iconst 0, 1) := by decide +kernel
theorem d_T_init_134 : decode prog_1_method_1_code 134 = .ok (.aload_n 1, 1) := by decide +kernel
theorem d_T_init_135 : decode prog_1_method_1_code 135 = .ok (.invokevirtual 54, 3) := by decide +kernel
theorem d_T_init_138 : decode prog_1_method_1_code 138 = .ok (.return_, 1) := by decide +kernel

section CTH
variable {E : Ev} {M : mp_M} {a0 q1 q2 q3 q4 : Nat} {tr ar tx : Nat → Nat}
theorem kc_d {a b : Nat} {e e0 x : va_E} (hb : M b = some e) (ha : M a = some e0) (h : e ≠ e0 ∨ kd e ≠ kd e0) : mp_up M a x b = some e := by
  rw [mp_up_n]
  · exact hb
  · rintro rfl
    rw [hb] at ha
    have := Option.some.inj ha
    rcases h with h | h
    · exact h this
    · exact h (by rw [this])
theorem ct_0 (h0 : M a0 = some (.inr (0, [.ref q1, .ref q2, .ref q3, .ref q4, .int (nI 0), .int (nI 0)]))) (h1 : M q1 = some (.inl (E.2.1 1, 16, .inr (.inr (.inr (.inr (fun _ => none))))))) (h2 : M q2 = some (.inl (E.2.1 2, 3, .inr (.inr (.inr (.inr (fun _ => none))))))) (h3 : M q3 = some (.inr (7, [.int (nI 0), .ref E.2.2, .int 0]))) (h4 : M q4 = some (.inr (4, [.long (lN (0 % 2 ^ (4 * 0))), .int (nI 0)]))) (h12 : q1 ≠ q2) : CT E M a0 q1 q2 q3 q4 tr ar tx 0 0 := by
  have z : ∀ (f : Nat → Nat), (fun k => if k < 0 then some (f k) else none) = fun _ => (none : Option Nat) := fun f => arO_0
  refine ⟨h0, ?_, ?_, ⟨nI 0, h3⟩, h4, fun k hk => ?_, fun k hk => absurd hk (Nat.not_lt_zero k), fun k k' hk => ?_, fun k k' hk => absurd hk (Nat.not_lt_zero k), h12⟩
  · show M q1 = some (Sum.inl (E.2.1 1, 16, .inr (.inr (.inr (.inr (fun k => if k < 0 then some (tr k) else none))))))
    rw [z]
    exact h1
  · show M q2 = some (Sum.inl (E.2.1 2, 3, .inr (.inr (.inr (.inr (fun k => if k < 0 then some (tx k) else none))))))
    rw [z]
    exact h2
  · unfold CD at hk
    omega
  · unfold CD at hk
    omega
theorem ctx_2 {j q r x : Nat} {d e : va_E} (h : CT E M a0 q1 q2 q3 q4 tr ar tx 16 j) (hx : M x = none) (hq : mp_up M x d q = none) (hr : mp_up (mp_up M x d) q (.inr (1, [.null])) r = none) : mp_up (mt E (mp_up M x d) q r) x e q2 = some (aX E j tx) := by
  have h3 := h.2.2.1
  have k := mt_k (E := E) hq hr ((mp_up_n (ne_of h3 hx)).trans h3)
  exact (mp_up_n (ne_of h3 hx)).trans k.1
end CTH
set_option maxHeartbeats 600000 in
set_option maxRecDepth 100000 in
theorem c_ABC_init {l : Launch} {E : Ev} {M : mp_M} {sz : Nat} {a0 : Nat} : MCv l E y_ABC_init prog_16_method_1_code 1 none 1 20 0 0 [.ref a0] M sz (fun M' => M' = M) := by
  refine mc_of R_ABC rfl [some (.ref a0)] (by decide) (Nat.le_of_ble_eq_true rfl) rfl ?_
  intro p e R s m ag below meth c ls Q A X hAe hQ hR hsz hw hl
  rw [← hAe] at hQ
  obtain ⟨⟨hx, hb, hml, hown, hts⟩, hE, hA, hr, hlk, hnm⟩ := X
  have hK := hE.1
  first | refine x_aload_n hx hb d_ABC_init_0 hl rfl ?_ | refine x_aload_nQ hx hb d_ABC_init_0 hl rfl ?_
  refine W.objInit hx hb hown (hts _ (wm1 42 rfl rfl)) (hts _ (wm1 25 rfl rfl)) (hts _ (wm1 26 rfl rfl)) rfl (hl.1.trans hml.symm) rfl d_ABC_init_1 (Nat.le_trans (Nat.le_of_ble_eq_true rfl) hR.1) (Nat.le_trans (Nat.le_of_ble_eq_true rfl) hR.2.1) ?_
  refine W.eq (g2 := F0 m 4 ls []) rfl ?_
  exact x_retv hQ hx hb hr hlk hw (by omega) (by omega) d_ABC_init_4 (rfl)

set_option maxHeartbeats 600000 in
set_option maxRecDepth 100000 in
theorem c_ABL_init {l : Launch} {E : Ev} {M : mp_M} {sz : Nat} {a0 : Nat} {x0 x1 x2 : Value} (he0 : M a0 = some (.inr (7, [x0, x1, x2]))) : MCv l E y_ABL_init prog_17_method_1_code 1 none 2 40 0 0 [.ref a0] M sz (fun M' => M' = mp_up M a0 (.inr (7, [.int (nI 0), x1, x2]))) := by
  refine mc_of R_ABL rfl [some (.ref a0)] (by decide) (Nat.le_of_ble_eq_true rfl) rfl ?_
  intro p e R s m ag below meth c ls Q A X hAe hQ hR hsz hw hl
  rw [← hAe] at hQ
  obtain ⟨⟨hx, hb, hml, hown, hts⟩, hE, hA, hr, hlk, hnm⟩ := X
  have hK := hE.1
  first | refine x_aload_n hx hb d_ABL_init_0 hl rfl ?_ | refine x_aload_nQ hx hb d_ABL_init_0 hl rfl ?_
  refine m_callv (k_I ⟨hx, hb, hml, hown, hts⟩ hE hA hw (c_ABC_init) (wm1 39 rfl rfl) (wm1 40 rfl rfl) (wm1 2 rfl rfl) (wm1 41 rfl rfl) rfl rfl rfl ar_ABC_init ⟨Nat.le_trans (Nat.le_of_ble_eq_true rfl) hR.1, Nat.le_trans (Nat.le_of_ble_eq_true rfl) hR.2.1⟩ rfl hl.1 rfl (Nat.le_of_ble_eq_true rfl) d_ABL_init_1 ⟨Nat.le_trans (Nat.le_of_ble_eq_true rfl) hR.2.2.1, Nat.le_trans (Nat.le_of_ble_eq_true rfl) hR.2.2.2⟩) hw (mfr_in hw hA) (fun M1 H locs hP1 hw => ?_)
  rw [hP1] at hw
  first | refine x_aload_n hx hb d_ABL_init_4 hl rfl ?_ | refine x_aload_nQ hx hb d_ABL_init_4 hl rfl ?_
  refine lv_iconst (v := nI 0) hx hb d_ABL_init_5 (by decide) ?_
  refine m_put hx hb hts hown hK hw ci_AL he0 0 (by decide) (wm1 47 rfl rfl) rfl rfl rfl (Nat.le_of_ble_eq_true rfl) d_ABL_init_6 (fun H locs hw => ?_)
  exact x_retv hQ hx hb hr hlk hw (by omega) (by omega) d_ABL_init_9 (rfl)

set_option maxHeartbeats 600000 in
set_option maxRecDepth 100000 in
theorem c_AL_init {l : Launch} {E : Ev} {M : mp_M} {sz : Nat} {a0 : Nat} {x0 x1 x2 : Value} (he0 : M a0 = some (.inr (7, [x0, x1, x2]))) : MCv l E y_AL_init prog_18_method_2_code 1 none 3 60 0 0 [.ref a0] M sz (fun M' => M' = mp_up M a0 (.inr (7, [.int (nI 0), .ref E.2.2, x2]))) := by
  refine mc_of R_AL rfl [some (.ref a0)] (by decide) (Nat.le_of_ble_eq_true rfl) rfl ?_
  intro p e R s m ag below meth c ls Q A X hAe hQ hR hsz hw hl
  rw [← hAe] at hQ
  obtain ⟨⟨hx, hb, hml, hown, hts⟩, hE, hA, hr, hlk, hnm⟩ := X
  have hK := hE.1
  first | refine x_aload_n hx hb d_AL_init_0 hl rfl ?_ | refine x_aload_nQ hx hb d_AL_init_0 hl rfl ?_
  refine m_callv (k_I ⟨hx, hb, hml, hown, hts⟩ hE hA hw (c_ABL_init he0) (wm1 36 rfl rfl) (wm1 37 rfl rfl) (wm1 3 rfl rfl) (wm1 38 rfl rfl) rfl rfl rfl ar_ABL_init ⟨Nat.le_trans (Nat.le_of_ble_eq_true rfl) hR.1, Nat.le_trans (Nat.le_of_ble_eq_true rfl) hR.2.1⟩ rfl hl.1 rfl (Nat.le_of_ble_eq_true rfl) d_AL_init_1 ⟨Nat.le_trans (Nat.le_of_ble_eq_true rfl) hR.2.2.1, Nat.le_trans (Nat.le_of_ble_eq_true rfl) hR.2.2.2⟩) hw (mfr_in hw hA) (fun M1 H locs hP1 hw => ?_)
  rw [hP1] at hw
  have he1 := put_he hw
  first | refine x_aload_n hx hb d_AL_init_4 hl rfl ?_ | refine x_aload_nQ hx hb d_AL_init_4 hl rfl ?_
  refine va_gets hx hb hE.2.2.1 hw.2.2 hown (hts _ (wm1 43 rfl rfl)) (fun _ h => h) d_AL_init_5 ?_
  refine m_put hx hb hts hown hK hw ci_AL he1 1 (by decide) (wm1 45 rfl rfl) rfl (by first | rfl | exact nar_bz | exact nar_q) (by first | rfl | exact fit_bz | exact fit_q) (Nat.le_of_ble_eq_true rfl) d_AL_init_8 (fun H locs hw => ?_)
  rw [mp_up_up] at hw
  exact x_retv hQ hx hb hr hlk hw (by omega) (by omega) d_AL_init_11 (rfl)

set_option maxHeartbeats 600000 in
set_option maxRecDepth 100000 in
theorem c_Tx_init {l : Launch} {E : Ev} {M : mp_M} {sz : Nat} {a0 : Nat} (he0 : M a0 = some (.inr (2, [.null, .int 0, .int 0]))) : MCv l E y_Tx_init prog_7_method_1_code 1 none 2 40 2 126 [.ref a0] M sz (fun M' => ∃ q r, M q = none ∧ mp_up M q (.inr (1, [.null])) r = none ∧ M' = mp_up (mt E M q r) a0 (.inr (2, [.ref q, .int (nI 0), .int (nI 0)]))) := by
  refine mc_of R_Tx rfl [some (.ref a0)] (by decide) (Nat.le_of_ble_eq_true rfl) rfl ?_
  intro p e R s m ag below meth c ls Q A X hAe hQ hR hsz hw hl
  rw [← hAe] at hQ
  obtain ⟨⟨hx, hb, hml, hown, hts⟩, hE, hA, hr, hlk, hnm⟩ := X
  have hK := hE.1
  first | refine x_aload_n hx hb d_Tx_init_0 hl rfl ?_ | refine x_aload_nQ hx hb d_Tx_init_0 hl rfl ?_
  refine W.objInit hx hb hown (hts _ (wm1 87 rfl rfl)) (hts _ (wm1 25 rfl rfl)) (hts _ (wm1 26 rfl rfl)) rfl (hl.1.trans hml.symm) rfl d_Tx_init_1 (Nat.le_trans (Nat.le_of_ble_eq_true rfl) hR.1) (Nat.le_trans (Nat.le_of_ble_eq_true rfl) hR.2.1) ?_
  refine W.eq (g2 := F0 m 4 ls []) rfl ?_
  first | refine x_aload_n hx hb d_Tx_init_4 hl rfl ?_ | refine x_aload_nQ hx hb d_Tx_init_4 hl rfl ?_
  refine m_new (fs := [.null]) hx hb hts hown hK hw hA ci_Tr (wm1 88 rfl rfl) (wm1 72 rfl rfl) (wm1 6 rfl rfl) (fun j hj => by rcases (show j = 0 by omega) with rfl <;> rfl) (Nat.le_trans (Nat.le_of_ble_eq_true rfl) hR.2.2.1) (Nat.le_trans (Nat.le_of_ble_eq_true rfl) hR.2.2.2) d_Tx_init_5 (fun q H hq5 hw => ?_)
  have he_q := put_he hw
  first | refine lv_dup hx hb d_Tx_init_8 rfl ?_ | refine lv_dup hx hb d_Tx_init_8 (va_rf_c _) ?_
  refine m_callv (k_IN ⟨hx, hb, hml, hown, hts⟩ hE hA hw (c_Tr_init he_q) hE.2.1.1.2.2.1 (wm1 74 rfl rfl) (wm1 6 rfl rfl) (wm1 75 rfl rfl) rfl rfl rfl ar_Tr_init ⟨Nat.le_trans (Nat.le_of_ble_eq_true rfl) hR.1, Nat.le_trans (Nat.le_of_ble_eq_true rfl) hR.2.1⟩ rfl hl.1 rfl (Nat.le_of_ble_eq_true rfl) d_Tx_init_9 ⟨Nat.le_trans (Nat.le_of_ble_eq_true rfl) hR.2.2.1, Nat.le_trans (Nat.le_of_ble_eq_true rfl) hR.2.2.2⟩) hw (mfr_in hw hA) (fun M9 H locs hP9 hw => ?_)
  obtain ⟨r9, hq9, hM9⟩ := hP9
  have he1 : M9 a0 = some (.inr (2, [.null, .int 0, .int 0])) := by rw [hM9]; exact (mt_k (E := E) hq5 hq9 he0).1
  refine m_putF hx hb hts hown hK hw ci_Tx he1 0 (by decide) (wm1 90 rfl rfl) rfl hnm rfl (by first | rfl | exact nar_bz | exact nar_q) (by first | rfl | exact fit_bz | exact fit_q) (Nat.le_of_ble_eq_true rfl) d_Tx_init_12 (fun H locs hw => ?_)
  have he1 := put_he hw
  first | refine x_aload_n hx hb d_Tx_init_15 hl rfl ?_ | refine x_aload_nQ hx hb d_Tx_init_15 hl rfl ?_
  refine lv_iconst (v := nI 0) hx hb d_Tx_init_16 (by decide) ?_
  refine m_put hx hb hts hown hK hw ci_Tx he1 1 (by decide) (wm1 92 rfl rfl) rfl (by first | rfl | exact nar_bz | exact nar_q) (by first | rfl | exact fit_bz | exact fit_q) (Nat.le_of_ble_eq_true rfl) d_Tx_init_17 (fun H locs hw => ?_)
  rw [mp_up_up] at hw
  have he1 := put_he hw
  first | refine x_aload_n hx hb d_Tx_init_20 hl rfl ?_ | refine x_aload_nQ hx hb d_Tx_init_20 hl rfl ?_
  refine lv_iconst (v := nI 0) hx hb d_Tx_init_21 (by decide) ?_
  refine m_put hx hb hts hown hK hw ci_Tx he1 2 (by decide) (wm1 94 rfl rfl) rfl (by first | rfl | exact nar_bz | exact nar_q) (by first | rfl | exact fit_bz | exact fit_q) (Nat.le_of_ble_eq_true rfl) d_Tx_init_22 (fun H locs hw => ?_)
  rw [mp_up_up] at hw
  exact x_retv hQ hx hb hr hlk hw (by omega) (by omega) d_Tx_init_25 (⟨q, r9, hq5, hq9, by rw [hM9]; rfl⟩)

set_option maxHeartbeats 1000000 in
set_option maxRecDepth 100000 in
theorem c_T_init {l : Launch} {E : Ev} {M : mp_M} {sz : Nat} {a0 : Nat} (he0 : M a0 = some (.inr (0, [.null, .null, .null, .null, .int 0, .int 0]))) : MCv l E y_T_init prog_1_method_1_code 2 none 4 80 46 2437 [.ref a0] M sz (fun M' => ∃ ca na ta, ca 0 = a0 ∧ PIC E σ0 ca na ta M') := by
  refine mc_of R_T rfl [some (.ref a0), none] (by decide) (Nat.le_of_ble_eq_true rfl) rfl ?_
  intro p e R s m ag below meth c ls Q A X hAe hQ hR hsz hw hl
  rw [← hAe] at hQ
  obtain ⟨⟨hx, hb, hml, hown, hts⟩, hE, hA, hr, hlk, hnm⟩ := X
  have hK := hE.1
  have loop2 : ∀ (u j : Nat) (M0 : mp_M) (q1 q2 q3 q4 : Nat) (tr ar tx : Nat → Nat) (c0 s0 : Nat) (H : Heap) (locs : List Loc) (ls : Array Slot), j + u = 3 → c0 + 3 * u + 1 ≤ 46 → s0 + 129 * u + 10 ≤ 2437 → CT E M0 a0 q1 q2 q3 q4 tr ar tx 16 j → mw E.1 vwCl A s.heap M0 H locs → lh ls [some (.ref a0), some (.int (nI j))] → W p l e R s m ag below meth c H locs c0 s0 Q (F0 m 84 ls []) := by
    intro u
    induction u with
    | zero =>
      intro j M0 q1 q2 q3 q4 tr ar tx c0 s0 H locs ls hj hc hs hct hw hl
      obtain rfl : j = 3 := by omega
      have hgz : ∀ b, M0 b ≠ none → b ≠ E.2.2 := fun b hb z => hE.2.2.2.out (by rw [← z]; exact hw.2.1 b hb)
      refine x_iload_n hx hb d_T_init_84 hl rfl ?_
      refine lv_iconst (v := nI 3) hx hb d_T_init_85 (by decide) ?_
      refine x_icmp_ge hx hb d_T_init_86 rfl (by omega) (by omega) (fun h86 => ?_) (fun h86 => ?_)
      · refine m_new (fs := [.int 0, .int 0, .null, .int 0, .int 0, .null, .int 0, .int 0, .int 0, .int 0]) hx hb hts hown hK hw hA ci_N (wm1 103 rfl rfl) (wm1 104 rfl rfl) (wm1 8 rfl rfl) (fun j hj => by rcases (show j = 0 ∨ j = 1 ∨ j = 2 ∨ j = 3 ∨ j = 4 ∨ j = 5 ∨ j = 6 ∨ j = 7 ∨ j = 8 ∨ j = 9 by omega) with rfl | rfl | rfl | rfl | rfl | rfl | rfl | rfl | rfl | rfl <;> rfl) (by omega) (by omega) d_T_init_108 (fun n1 H hq108 hw => ?_)
        have he_n1 := put_he hw
        have hO : mp_up M0 n1 (.inr (3, [.int 0, .int 0, .null, .int 0, .int 0, .null, .int 0, .int 0, .int 0, .int 0])) a0 = some (.inr (0, [.ref q1, .ref q2, .ref q3, .ref q4, .int (nI 0), .int (nI 0)])) := (mp_up_n (ne_of hct.1 hq108)).trans hct.1
        first | refine lv_dup hx hb d_T_init_111 rfl ?_ | refine lv_dup hx hb d_T_init_111 (va_rf_c _) ?_
        refine lv_iconst (v := nI 0) hx hb d_T_init_112 (by decide) ?_
        refine lv_iconst (v := bz true) hx hb d_T_init_113 (by decide) ?_
        first | refine x_aload_n hx hb d_T_init_114 hl rfl ?_ | refine x_aload_nQ hx hb d_T_init_114 hl rfl ?_
        refine m_get hx hb hts hown hK hw ci_T hO 3 (by decide) (wm1 163 rfl rfl) rfl d_T_init_115 ?_
        refine m_callv (k_I ⟨hx, hb, hml, hown, hts⟩ hE hA hw (c_N_init (d := true) he_n1) (wm1 105 rfl rfl) (wm1 106 rfl rfl) (wm1 8 rfl rfl) (wm1 107 rfl rfl) rfl rfl rfl ar_N_init ⟨Nat.le_trans (Nat.le_of_ble_eq_true rfl) hR.1, Nat.le_trans (Nat.le_of_ble_eq_true rfl) hR.2.1⟩ rfl hl.1 rfl (Nat.le_of_ble_eq_true rfl) d_T_init_118 ⟨by omega, by omega⟩) hw (mfr_in hw hA) (fun M118 H locs hP118 hw => ?_)
        rw [hP118, mp_up_up] at hw
        have he8 := put_he hw
        first | refine x_astore_n hx hb d_T_init_121 hl (Nat.le_of_ble_eq_true rfl) (lh_k (i := 0) rfl (by first | exact lk_n | exact lk_i | exact lk_r | exact lk_q | exact lk_0)) (fun ls hl => ?_) | refine x_astore_nQ hx hb d_T_init_121 hl (Nat.le_of_ble_eq_true rfl) (lh_k (i := 0) rfl (by first | exact lk_n | exact lk_i | exact lk_r | exact lk_q | exact lk_0)) (fun ls hl => ?_)
        first | refine x_aload_n hx hb d_T_init_122 hl rfl ?_ | refine x_aload_nQ hx hb d_T_init_122 hl rfl ?_
        refine lv_iconst (v := nI 0) hx hb d_T_init_123 (by decide) ?_
        refine m_put hx hb hts hown hK hw ci_N he8 4 (by decide) (wm1 121 rfl rfl) rfl (by first | rfl | exact nar_bz | exact nar_q) (by first | rfl | exact fit_bz | exact fit_q) (Nat.le_of_ble_eq_true rfl) d_T_init_124 (fun H locs hw => ?_)
        rw [mp_up_up] at hw
        have hw : mw E.1 vwCl A s.heap (mp_up M0 n1 (.inr (3, [.int (nI 0), .int (bz true), .ref q4, .int (nI 0), .int (nI 0), .null, .int (-1), .int (-1), .int (nI 0), .int (-1)]))) H locs := hw
        have he9 := put_he hw
        have hk9 : ∀ b e, M0 b = some e → mp_up M0 n1 (.inr (3, [.int (nI 0), .int (bz true), .ref q4, .int (nI 0), .int (nI 0), .null, .int (-1), .int (-1), .int (nI 0), .int (-1)])) b = some e := fun b e hb => (mp_up_n (ne_of hb hq108)).trans hb
        first | refine x_aload_n hx hb d_T_init_127 hl rfl ?_ | refine x_aload_nQ hx hb d_T_init_127 hl rfl ?_
        refine m_get hx hb hts hown hK hw ci_T (hk9 _ _ hct.1) 0 (by decide) (wm1 160 rfl rfl) rfl d_T_init_128 ?_
        refine lv_iconst (v := nI 0) hx hb d_T_init_131 (by decide) ?_
        refine m_aald hx hb hK hw 1 (hk9 _ _ hct.2.1) rfl (by omega) (by decide) (if_pos (by omega)) d_T_init_132 ?_
        refine lv_iconst (v := nI 0) hx hb d_T_init_133 (by decide) ?_
        first | refine x_aload_n hx hb d_T_init_134 hl rfl ?_ | refine x_aload_nQ hx hb d_T_init_134 hl rfl ?_
        refine m_callv (k_V ⟨hx, hb, hml, hown, hts⟩ hE hA hw (c_Tr_put (x := nI 0) (hk9 _ _ (hct.2.2.2.2.2.1 0 (Or.inl (by omega))).1) (hk9 _ _ (hct.2.2.2.2.2.1 0 (Or.inl (by omega))).2.1) he9) (ci_Tr).1 rfl (hk9 _ _ (hct.2.2.2.2.2.1 0 (Or.inl (by omega))).1) (wm1 156 rfl rfl) (wm1 157 rfl rfl) (wm1 158 rfl rfl) (wm1 6 rfl rfl) (wm1 159 rfl rfl) rfl rfl ar_Tr_put ⟨Nat.le_trans (Nat.le_of_ble_eq_true rfl) hR.1, Nat.le_trans (Nat.le_of_ble_eq_true rfl) hR.2.1⟩ rfl hl.1 rfl (Nat.le_of_ble_eq_true rfl) d_T_init_135 ⟨by omega, by omega⟩) hw (mfr_in hw hA) (fun M135 H locs hP135 hw => ?_)
        have hPf := ct_pic hct hq108 (fun b hb => hgz b hb)
        rw [← hP135] at hPf
        exact x_retv hQ hx hb hr hlk hw (by omega) (by omega) d_T_init_138 (⟨cam a0 q1 q2 q3 q4 tr ar tx, _, _, rfl, hPf⟩)
      · exact absurd h86 (by omega)
    | succ u ih =>
      intro j M0 q1 q2 q3 q4 tr ar tx c0 s0 H locs ls hj hc hs hct hw hl
      refine x_iload_n hx hb d_T_init_84 hl rfl ?_
      refine lv_iconst (v := nI 3) hx hb d_T_init_85 (by decide) ?_
      refine x_icmp_ge hx hb d_T_init_86 rfl (by omega) (by omega) (fun h86 => ?_) (fun h86 => ?_)
      · exact absurd h86 (by omega)
      · first | refine x_aload_n hx hb d_T_init_89 hl rfl ?_ | refine x_aload_nQ hx hb d_T_init_89 hl rfl ?_
        refine m_get hx hb hts hown hK hw ci_T hct.1 1 (by decide) (wm1 161 rfl rfl) rfl d_T_init_90 ?_
        refine x_iload_n hx hb d_T_init_93 hl rfl ?_
        refine m_new (fs := [.null, .int 0, .int 0]) hx hb hts hown hK hw hA ci_Tx (wm1 29 rfl rfl) (wm1 83 rfl rfl) (wm1 7 rfl rfl) (fun j hj => by rcases (show j = 0 ∨ j = 1 ∨ j = 2 by omega) with rfl | rfl | rfl <;> rfl) (by omega) (by omega) d_T_init_94 (fun x1 H hq94 hw => ?_)
        have he_x1 := put_he hw
        first | refine lv_dup hx hb d_T_init_97 rfl ?_ | refine lv_dup hx hb d_T_init_97 (va_rf_c _) ?_
        refine m_callv (k_IN ⟨hx, hb, hml, hown, hts⟩ hE hA hw (c_Tx_init he_x1) hE.2.1.1.2.1 (wm1 85 rfl rfl) (wm1 7 rfl rfl) (wm1 86 rfl rfl) rfl rfl rfl ar_Tx_init ⟨Nat.le_trans (Nat.le_of_ble_eq_true rfl) hR.1, Nat.le_trans (Nat.le_of_ble_eq_true rfl) hR.2.1⟩ rfl hl.1 rfl (Nat.le_of_ble_eq_true rfl) d_T_init_98 ⟨by omega, by omega⟩) hw (mfr_in hw hA) (fun M98 H locs hP98 hw => ?_)
        obtain ⟨q, r, hq, hr9, hM98⟩ := hP98
        have hct2 := ct_tx hct (by omega) hq94 hq hr9
        have e2 : M98 q2 = some (aX E j tx) := by rw [hM98]; exact ctx_2 hct hq94 hq hr9
        have ex : M98 x1 = some (.inr (2, [.ref q, .int (nI 0), .int (nI 0)])) := by rw [hM98]; exact mp_up_s
        refine m_aast hx hb hK hw 2 2 e2 rfl ex (ci_Tx).1 (by omega) (by decide) aT_up d_T_init_101 (fun H locs hw => ?_)
        rw [hM98] at hw
        refine x_iincN hx hb d_T_init_102 hl rfl (lh_k (i := 0) rfl (by first | exact lk_n | exact lk_i | exact lk_r | exact lk_q | exact lk_0)) (fun ls hl => ?_)
        refine lv_goto hx hb d_T_init_105 rfl ?_
        exact ih (j + 1) _ q1 q2 q3 q4 _ _ _ _ _ H locs ls (by omega) (by omega) (by omega) hct2 hw hl
  have loop1 : ∀ (u i : Nat) (M0 : mp_M) (q1 q2 q3 q4 : Nat) (tr ar tx : Nat → Nat) (c0 s0 : Nat) (H : Heap) (locs : List Loc) (ls : Array Slot), i + u = 16 → c0 + 2 * u + 10 ≤ 46 → s0 + 126 * u + 397 ≤ 2437 → CT E M0 a0 q1 q2 q3 q4 tr ar tx i 0 → mw E.1 vwCl A s.heap M0 H locs → lh ls [some (.ref a0), some (.int (nI i))] → W p l e R s m ag below meth c H locs c0 s0 Q (F0 m 57 ls []) := by
    intro u
    induction u with
    | zero =>
      intro i M0 q1 q2 q3 q4 tr ar tx c0 s0 H locs ls hi hc hs hct hw hl
      obtain rfl : i = 16 := by omega
      refine x_iload_n hx hb d_T_init_57 hl rfl ?_
      refine lv_bipush (v := nI 16) hx hb d_T_init_58 (by decide) ?_
      refine x_icmp_ge hx hb d_T_init_60 rfl (by omega) (by omega) (fun h60 => ?_) (fun h60 => ?_)
      · refine lv_iconst (v := nI 0) hx hb d_T_init_82 (by decide) ?_
        refine x_istore_n hx hb d_T_init_83 hl (Nat.le_of_ble_eq_true rfl) (lh_k (i := 0) rfl (by first | exact lk_n | exact lk_i | exact lk_r | exact lk_q | exact lk_0)) (fun ls hl => ?_)
        exact loop2 3 0 M0 q1 q2 q3 q4 tr ar tx _ _ H locs ls (by omega) (by omega) (by omega) hct hw hl
      · exact absurd h60 (by omega)
    | succ u ih =>
      intro i M0 q1 q2 q3 q4 tr ar tx c0 s0 H locs ls hi hc hs hct hw hl
      refine x_iload_n hx hb d_T_init_57 hl rfl ?_
      refine lv_bipush (v := nI 16) hx hb d_T_init_58 (by decide) ?_
      refine x_icmp_ge hx hb d_T_init_60 rfl (by omega) (by omega) (fun h60 => ?_) (fun h60 => ?_)
      · exact absurd h60 (by omega)
      · first | refine x_aload_n hx hb d_T_init_63 hl rfl ?_ | refine x_aload_nQ hx hb d_T_init_63 hl rfl ?_
        refine m_get hx hb hts hown hK hw ci_T hct.1 0 (by decide) (wm1 160 rfl rfl) rfl d_T_init_64 ?_
        refine x_iload_n hx hb d_T_init_67 hl rfl ?_
        refine m_new (fs := [.null]) hx hb hts hown hK hw hA ci_Tr (wm1 27 rfl rfl) (wm1 72 rfl rfl) (wm1 6 rfl rfl) (fun j hj => by rcases (show j = 0 by omega) with rfl <;> rfl) (by omega) (by omega) d_T_init_68 (fun q H hq68 hw => ?_)
        have he_q := put_he hw
        first | refine lv_dup hx hb d_T_init_71 rfl ?_ | refine lv_dup hx hb d_T_init_71 (va_rf_c _) ?_
        refine m_callv (k_IN ⟨hx, hb, hml, hown, hts⟩ hE hA hw (c_Tr_init he_q) hE.2.1.1.1 (wm1 74 rfl rfl) (wm1 6 rfl rfl) (wm1 75 rfl rfl) rfl rfl rfl ar_Tr_init ⟨Nat.le_trans (Nat.le_of_ble_eq_true rfl) hR.1, Nat.le_trans (Nat.le_of_ble_eq_true rfl) hR.2.1⟩ rfl hl.1 rfl (Nat.le_of_ble_eq_true rfl) d_T_init_72 ⟨by omega, by omega⟩) hw (mfr_in hw hA) (fun M72 H locs hP72 hw => ?_)
        obtain ⟨r, hr9, hM72⟩ := hP72
        have hct2 := ct_tree hct (by omega) hq68 hr9
        have e1 : M72 q1 = some (aT E i tr) := by rw [hM72]; exact (mt_k (E := E) hq68 hr9 hct.2.1).1
        have eq : M72 q = some (.inr (1, [.ref r])) := by rw [hM72]; exact mp_up_s
        refine m_aast hx hb hK hw 1 1 e1 rfl eq (ci_Tr).1 (by omega) (by decide) aT_up d_T_init_75 (fun H locs hw => ?_)
        rw [hM72] at hw
        refine x_iincN hx hb d_T_init_76 hl rfl (lh_k (i := 0) rfl (by first | exact lk_n | exact lk_i | exact lk_r | exact lk_q | exact lk_0)) (fun ls hl => ?_)
        refine lv_goto hx hb d_T_init_79 rfl ?_
        exact ih (i + 1) _ q1 q2 q3 q4 _ _ tx _ _ H locs ls (by omega) (by omega) (by omega) hct2 hw hl
  first | refine x_aload_n hx hb d_T_init_0 hl rfl ?_ | refine x_aload_nQ hx hb d_T_init_0 hl rfl ?_
  refine W.objInit hx hb hown (hts _ (wm1 24 rfl rfl)) (hts _ (wm1 25 rfl rfl)) (hts _ (wm1 26 rfl rfl)) rfl (hl.1.trans hml.symm) rfl d_T_init_1 (Nat.le_trans (Nat.le_of_ble_eq_true rfl) hR.1) (Nat.le_trans (Nat.le_of_ble_eq_true rfl) hR.2.1) ?_
  refine W.eq (g2 := F0 m 4 ls []) rfl ?_
  first | refine x_aload_n hx hb d_T_init_4 hl rfl ?_ | refine x_aload_nQ hx hb d_T_init_4 hl rfl ?_
  refine lv_bipush (v := nI 16) hx hb d_T_init_5 (by decide) ?_
  refine m_newq hx hb hts hown (wm1 27 rfl rfl) hE.2.1.2.1.1 hK hw hA 1 rfl (by omega) (by omega) (by omega) d_T_init_7 (fun q1 H hq7 hw => ?_)
  have hO := he0
  have hw : mw E.1 vwCl A s.heap (mp_up M q1 (.inl (E.2.1 1, 16, .inr (.inr (.inr (.inr (fun _ => none))))))) H _ := hw
  obtain ⟨M1, hM1⟩ : ∃ z, z = mp_up M q1 (.inl (E.2.1 1, 16, .inr (.inr (.inr (.inr (fun _ => none)))))) := ⟨_, rfl⟩
  rw [← hM1] at hw
  have hO : M1 a0 = some (.inr (0, [.null, .null, .null, .null, .int 0, .int 0])) := by rw [hM1]; exact (mp_up_n (ne_of hO hq7)).trans hO
  have h1 : M1 q1 = some (.inl (E.2.1 1, 16, .inr (.inr (.inr (.inr (fun _ => none)))))) := by rw [hM1]; exact mp_up_s
  refine m_putF hx hb hts hown hK hw ci_T hO 0 (by decide) (wm1 160 rfl rfl) rfl hnm rfl (by first | rfl | exact nar_bz | exact nar_q) (by first | rfl | exact fit_bz | exact fit_q) (Nat.le_of_ble_eq_true rfl) d_T_init_10 (fun H locs hw => ?_)
  have hU := hO
  have hw : mw E.1 vwCl A s.heap (mp_up M1 a0 (.inr (0, [.ref q1, .null, .null, .null, .int 0, .int 0]))) H _ := hw
  obtain ⟨M2, hM2⟩ : ∃ z, z = mp_up M1 a0 (.inr (0, [.ref q1, .null, .null, .null, .int 0, .int 0])) := ⟨_, rfl⟩
  rw [← hM2] at hw
  have hO : M2 a0 = some (.inr (0, [.ref q1, .null, .null, .null, .int 0, .int 0])) := by rw [hM2]; exact mp_up_s
  have h1 : M2 q1 = some (.inl (E.2.1 1, 16, .inr (.inr (.inr (.inr (fun _ => none)))))) := by rw [hM2]; exact kc_d h1 hU (by simp)
  first | refine x_aload_n hx hb d_T_init_13 hl rfl ?_ | refine x_aload_nQ hx hb d_T_init_13 hl rfl ?_
  refine lv_iconst (v := nI 3) hx hb d_T_init_14 (by decide) ?_
  refine m_newq hx hb hts hown (wm1 29 rfl rfl) hE.2.1.2.1.2.1 hK hw hA 2 rfl (by omega) (by omega) (by omega) d_T_init_15 (fun q2 H hq15 hw => ?_)
  have h12 := ne_of h1 hq15
  have hw : mw E.1 vwCl A s.heap (mp_up M2 q2 (.inl (E.2.1 2, 3, .inr (.inr (.inr (.inr (fun _ => none))))))) H _ := hw
  obtain ⟨M3, hM3⟩ : ∃ z, z = mp_up M2 q2 (.inl (E.2.1 2, 3, .inr (.inr (.inr (.inr (fun _ => none)))))) := ⟨_, rfl⟩
  rw [← hM3] at hw
  have hO : M3 a0 = some (.inr (0, [.ref q1, .null, .null, .null, .int 0, .int 0])) := by rw [hM3]; exact (mp_up_n (ne_of hO hq15)).trans hO
  have h1 : M3 q1 = some (.inl (E.2.1 1, 16, .inr (.inr (.inr (.inr (fun _ => none)))))) := by rw [hM3]; exact (mp_up_n (ne_of h1 hq15)).trans h1
  have h2 : M3 q2 = some (.inl (E.2.1 2, 3, .inr (.inr (.inr (.inr (fun _ => none)))))) := by rw [hM3]; exact mp_up_s
  refine m_putF hx hb hts hown hK hw ci_T hO 1 (by decide) (wm1 161 rfl rfl) rfl hnm rfl (by first | rfl | exact nar_bz | exact nar_q) (by first | rfl | exact fit_bz | exact fit_q) (Nat.le_of_ble_eq_true rfl) d_T_init_18 (fun H locs hw => ?_)
  have hU := hO
  have hw : mw E.1 vwCl A s.heap (mp_up M3 a0 (.inr (0, [.ref q1, .ref q2, .null, .null, .int 0, .int 0]))) H _ := hw
  obtain ⟨M4, hM4⟩ : ∃ z, z = mp_up M3 a0 (.inr (0, [.ref q1, .ref q2, .null, .null, .int 0, .int 0])) := ⟨_, rfl⟩
  rw [← hM4] at hw
  have hO : M4 a0 = some (.inr (0, [.ref q1, .ref q2, .null, .null, .int 0, .int 0])) := by rw [hM4]; exact mp_up_s
  have h1 : M4 q1 = some (.inl (E.2.1 1, 16, .inr (.inr (.inr (.inr (fun _ => none)))))) := by rw [hM4]; exact kc_d h1 hU (by simp)
  have h2 : M4 q2 = some (.inl (E.2.1 2, 3, .inr (.inr (.inr (.inr (fun _ => none)))))) := by rw [hM4]; exact kc_d h2 hU (by simp)
  first | refine x_aload_n hx hb d_T_init_21 hl rfl ?_ | refine x_aload_nQ hx hb d_T_init_21 hl rfl ?_
  refine m_new (fs := [.int 0, .null, .int 0]) hx hb hts hown hK hw hA ci_AL (wm1 31 rfl rfl) (wm1 32 rfl rfl) (wm1 4 rfl rfl) (fun j hj => by rcases (show j = 0 ∨ j = 1 ∨ j = 2 by omega) with rfl | rfl | rfl <;> rfl) (by omega) (by omega) d_T_init_22 (fun q3 H hq22 hw => ?_)
  have he_q3 := put_he hw
  have hw : mw E.1 vwCl A s.heap (mp_up M4 q3 (.inr (7, [.int 0, .null, .int 0]))) H _ := hw
  obtain ⟨M5, hM5⟩ : ∃ z, z = mp_up M4 q3 (.inr (7, [.int 0, .null, .int 0])) := ⟨_, rfl⟩
  rw [← hM5] at hw
  have hO : M5 a0 = some (.inr (0, [.ref q1, .ref q2, .null, .null, .int 0, .int 0])) := by rw [hM5]; exact (mp_up_n (ne_of hO hq22)).trans hO
  have h1 : M5 q1 = some (.inl (E.2.1 1, 16, .inr (.inr (.inr (.inr (fun _ => none)))))) := by rw [hM5]; exact (mp_up_n (ne_of h1 hq22)).trans h1
  have h2 : M5 q2 = some (.inl (E.2.1 2, 3, .inr (.inr (.inr (.inr (fun _ => none)))))) := by rw [hM5]; exact (mp_up_n (ne_of h2 hq22)).trans h2
  have h3 : M5 q3 = some (.inr (7, [.int 0, .null, .int 0])) := by rw [hM5]; exact mp_up_s
  first | refine lv_dup hx hb d_T_init_25 rfl ?_ | refine lv_dup hx hb d_T_init_25 (va_rf_c _) ?_
  refine m_callv (k_I ⟨hx, hb, hml, hown, hts⟩ hE hA hw (c_AL_init h3) (wm1 33 rfl rfl) (wm1 34 rfl rfl) (wm1 4 rfl rfl) (wm1 35 rfl rfl) rfl rfl rfl ar_AL_init ⟨Nat.le_trans (Nat.le_of_ble_eq_true rfl) hR.1, Nat.le_trans (Nat.le_of_ble_eq_true rfl) hR.2.1⟩ rfl hl.1 rfl (Nat.le_of_ble_eq_true rfl) d_T_init_26 ⟨by omega, by omega⟩) hw (mfr_in hw hA) (fun M26 H locs hP26 hw => ?_)
  rw [hP26] at hw
  have hU := h3
  obtain ⟨M6, hM6⟩ : ∃ z, z = mp_up M5 q3 (.inr (7, [.int (nI 0), .ref E.2.2, .int 0])) := ⟨_, rfl⟩
  rw [← hM6] at hw
  have hO : M6 a0 = some (.inr (0, [.ref q1, .ref q2, .null, .null, .int 0, .int 0])) := by rw [hM6]; exact kc_d hO hU (by simp)
  have h1 : M6 q1 = some (.inl (E.2.1 1, 16, .inr (.inr (.inr (.inr (fun _ => none)))))) := by rw [hM6]; exact kc_d h1 hU (by simp)
  have h2 : M6 q2 = some (.inl (E.2.1 2, 3, .inr (.inr (.inr (.inr (fun _ => none)))))) := by rw [hM6]; exact kc_d h2 hU (by simp)
  have h3 : M6 q3 = some (.inr (7, [.int (nI 0), .ref E.2.2, .int 0])) := by rw [hM6]; exact mp_up_s
  refine m_putF hx hb hts hown hK hw ci_T hO 2 (by decide) (wm1 162 rfl rfl) rfl hnm rfl (by first | rfl | exact nar_bz | exact nar_q) (by first | rfl | exact fit_bz | exact fit_q) (Nat.le_of_ble_eq_true rfl) d_T_init_29 (fun H locs hw => ?_)
  have hU := hO
  have hw : mw E.1 vwCl A s.heap (mp_up M6 a0 (.inr (0, [.ref q1, .ref q2, .ref q3, .null, .int 0, .int 0]))) H _ := hw
  obtain ⟨M7, hM7⟩ : ∃ z, z = mp_up M6 a0 (.inr (0, [.ref q1, .ref q2, .ref q3, .null, .int 0, .int 0])) := ⟨_, rfl⟩
  rw [← hM7] at hw
  have hO : M7 a0 = some (.inr (0, [.ref q1, .ref q2, .ref q3, .null, .int 0, .int 0])) := by rw [hM7]; exact mp_up_s
  have h1 : M7 q1 = some (.inl (E.2.1 1, 16, .inr (.inr (.inr (.inr (fun _ => none)))))) := by rw [hM7]; exact kc_d h1 hU (by simp)
  have h2 : M7 q2 = some (.inl (E.2.1 2, 3, .inr (.inr (.inr (.inr (fun _ => none)))))) := by rw [hM7]; exact kc_d h2 hU (by simp)
  have h3 : M7 q3 = some (.inr (7, [.int (nI 0), .ref E.2.2, .int 0])) := by rw [hM7]; exact kc_d h3 hU (by simp)
  first | refine x_aload_n hx hb d_T_init_32 hl rfl ?_ | refine x_aload_nQ hx hb d_T_init_32 hl rfl ?_
  refine m_new (fs := [.long 0, .int 0]) hx hb hts hown hK hw hA ci_Te (wm1 57 rfl rfl) (wm1 58 rfl rfl) (wm1 5 rfl rfl) (fun j hj => by rcases (show j = 0 ∨ j = 1 by omega) with rfl | rfl <;> rfl) (by omega) (by omega) d_T_init_33 (fun q4 H hq33 hw => ?_)
  have he_q4 := put_he hw
  have hw : mw E.1 vwCl A s.heap (mp_up M7 q4 (.inr (4, [.long 0, .int 0]))) H _ := hw
  obtain ⟨M8, hM8⟩ : ∃ z, z = mp_up M7 q4 (.inr (4, [.long 0, .int 0])) := ⟨_, rfl⟩
  rw [← hM8] at hw
  have hO : M8 a0 = some (.inr (0, [.ref q1, .ref q2, .ref q3, .null, .int 0, .int 0])) := by rw [hM8]; exact (mp_up_n (ne_of hO hq33)).trans hO
  have h1 : M8 q1 = some (.inl (E.2.1 1, 16, .inr (.inr (.inr (.inr (fun _ => none)))))) := by rw [hM8]; exact (mp_up_n (ne_of h1 hq33)).trans h1
  have h2 : M8 q2 = some (.inl (E.2.1 2, 3, .inr (.inr (.inr (.inr (fun _ => none)))))) := by rw [hM8]; exact (mp_up_n (ne_of h2 hq33)).trans h2
  have h3 : M8 q3 = some (.inr (7, [.int (nI 0), .ref E.2.2, .int 0])) := by rw [hM8]; exact (mp_up_n (ne_of h3 hq33)).trans h3
  have h4 : M8 q4 = some (.inr (4, [.long 0, .int 0])) := by rw [hM8]; exact mp_up_s
  first | refine lv_dup hx hb d_T_init_36 rfl ?_ | refine lv_dup hx hb d_T_init_36 (va_rf_c _) ?_
  refine lv_lconst (v := lN 0) hx hb d_T_init_37 (by decide) ?_
  refine lv_iconst (v := nI 0) hx hb d_T_init_38 (by decide) ?_
  refine m_callv (k_I ⟨hx, hb, hml, hown, hts⟩ hE hA hw (c_Te_init (D := 0) (z := 0) h4 (by decide) (by decide)) (wm1 59 rfl rfl) (wm1 60 rfl rfl) (wm1 5 rfl rfl) (wm1 61 rfl rfl) rfl rfl rfl ar_Te_init ⟨Nat.le_trans (Nat.le_of_ble_eq_true rfl) hR.1, Nat.le_trans (Nat.le_of_ble_eq_true rfl) hR.2.1⟩ rfl hl.1 rfl (Nat.le_of_ble_eq_true rfl) d_T_init_39 ⟨by omega, by omega⟩) hw (mfr_in hw hA) (fun M39 H locs hP39 hw => ?_)
  rw [hP39] at hw
  have hU := h4
  obtain ⟨M9, hM9⟩ : ∃ z, z = mp_up M8 q4 (.inr (4, [.long (lN (0 % 2 ^ (4 * 0))), .int (nI 0)])) := ⟨_, rfl⟩
  rw [← hM9] at hw
  have hO : M9 a0 = some (.inr (0, [.ref q1, .ref q2, .ref q3, .null, .int 0, .int 0])) := by rw [hM9]; exact kc_d hO hU (by simp)
  have h1 : M9 q1 = some (.inl (E.2.1 1, 16, .inr (.inr (.inr (.inr (fun _ => none)))))) := by rw [hM9]; exact kc_d h1 hU (by simp)
  have h2 : M9 q2 = some (.inl (E.2.1 2, 3, .inr (.inr (.inr (.inr (fun _ => none)))))) := by rw [hM9]; exact kc_d h2 hU (by simp)
  have h3 : M9 q3 = some (.inr (7, [.int (nI 0), .ref E.2.2, .int 0])) := by rw [hM9]; exact kc_d h3 hU (by simp)
  have h4 : M9 q4 = some (.inr (4, [.long (lN (0 % 2 ^ (4 * 0))), .int (nI 0)])) := by rw [hM9]; exact mp_up_s
  refine m_putF hx hb hts hown hK hw ci_T hO 3 (by decide) (wm1 163 rfl rfl) rfl hnm rfl (by first | rfl | exact nar_bz | exact nar_q) (by first | rfl | exact fit_bz | exact fit_q) (Nat.le_of_ble_eq_true rfl) d_T_init_42 (fun H locs hw => ?_)
  have hU := hO
  have hw : mw E.1 vwCl A s.heap (mp_up M9 a0 (.inr (0, [.ref q1, .ref q2, .ref q3, .ref q4, .int 0, .int 0]))) H _ := hw
  obtain ⟨M10, hM10⟩ : ∃ z, z = mp_up M9 a0 (.inr (0, [.ref q1, .ref q2, .ref q3, .ref q4, .int 0, .int 0])) := ⟨_, rfl⟩
  rw [← hM10] at hw
  have hO : M10 a0 = some (.inr (0, [.ref q1, .ref q2, .ref q3, .ref q4, .int 0, .int 0])) := by rw [hM10]; exact mp_up_s
  have h1 : M10 q1 = some (.inl (E.2.1 1, 16, .inr (.inr (.inr (.inr (fun _ => none)))))) := by rw [hM10]; exact kc_d h1 hU (by simp)
  have h2 : M10 q2 = some (.inl (E.2.1 2, 3, .inr (.inr (.inr (.inr (fun _ => none)))))) := by rw [hM10]; exact kc_d h2 hU (by simp)
  have h3 : M10 q3 = some (.inr (7, [.int (nI 0), .ref E.2.2, .int 0])) := by rw [hM10]; exact kc_d h3 hU (by simp)
  have h4 : M10 q4 = some (.inr (4, [.long (lN (0 % 2 ^ (4 * 0))), .int (nI 0)])) := by rw [hM10]; exact kc_d h4 hU (by simp)
  first | refine x_aload_n hx hb d_T_init_45 hl rfl ?_ | refine x_aload_nQ hx hb d_T_init_45 hl rfl ?_
  refine lv_iconst (v := nI 0) hx hb d_T_init_46 (by decide) ?_
  refine m_put hx hb hts hown hK hw ci_T hO 4 (by decide) (wm1 164 rfl rfl) rfl (by first | rfl | exact nar_bz | exact nar_q) (by first | rfl | exact fit_bz | exact fit_q) (Nat.le_of_ble_eq_true rfl) d_T_init_47 (fun H locs hw => ?_)
  have hU := hO
  have hw : mw E.1 vwCl A s.heap (mp_up M10 a0 (.inr (0, [.ref q1, .ref q2, .ref q3, .ref q4, .int (nI 0), .int 0]))) H _ := hw
  obtain ⟨M11, hM11⟩ : ∃ z, z = mp_up M10 a0 (.inr (0, [.ref q1, .ref q2, .ref q3, .ref q4, .int (nI 0), .int 0])) := ⟨_, rfl⟩
  rw [← hM11] at hw
  have hO : M11 a0 = some (.inr (0, [.ref q1, .ref q2, .ref q3, .ref q4, .int (nI 0), .int 0])) := by rw [hM11]; exact mp_up_s
  have h1 : M11 q1 = some (.inl (E.2.1 1, 16, .inr (.inr (.inr (.inr (fun _ => none)))))) := by rw [hM11]; exact kc_d h1 hU (by simp)
  have h2 : M11 q2 = some (.inl (E.2.1 2, 3, .inr (.inr (.inr (.inr (fun _ => none)))))) := by rw [hM11]; exact kc_d h2 hU (by simp)
  have h3 : M11 q3 = some (.inr (7, [.int (nI 0), .ref E.2.2, .int 0])) := by rw [hM11]; exact kc_d h3 hU (by simp)
  have h4 : M11 q4 = some (.inr (4, [.long (lN (0 % 2 ^ (4 * 0))), .int (nI 0)])) := by rw [hM11]; exact kc_d h4 hU (by simp)
  first | refine x_aload_n hx hb d_T_init_50 hl rfl ?_ | refine x_aload_nQ hx hb d_T_init_50 hl rfl ?_
  refine lv_iconst (v := nI 0) hx hb d_T_init_51 (by decide) ?_
  refine m_put hx hb hts hown hK hw ci_T hO 5 (by decide) (wm1 165 rfl rfl) rfl (by first | rfl | exact nar_bz | exact nar_q) (by first | rfl | exact fit_bz | exact fit_q) (Nat.le_of_ble_eq_true rfl) d_T_init_52 (fun H locs hw => ?_)
  have hU := hO
  have hw : mw E.1 vwCl A s.heap (mp_up M11 a0 (.inr (0, [.ref q1, .ref q2, .ref q3, .ref q4, .int (nI 0), .int (nI 0)]))) H _ := hw
  obtain ⟨M12, hM12⟩ : ∃ z, z = mp_up M11 a0 (.inr (0, [.ref q1, .ref q2, .ref q3, .ref q4, .int (nI 0), .int (nI 0)])) := ⟨_, rfl⟩
  rw [← hM12] at hw
  have hO : M12 a0 = some (.inr (0, [.ref q1, .ref q2, .ref q3, .ref q4, .int (nI 0), .int (nI 0)])) := by rw [hM12]; exact mp_up_s
  have h1 : M12 q1 = some (.inl (E.2.1 1, 16, .inr (.inr (.inr (.inr (fun _ => none)))))) := by rw [hM12]; exact kc_d h1 hU (by simp)
  have h2 : M12 q2 = some (.inl (E.2.1 2, 3, .inr (.inr (.inr (.inr (fun _ => none)))))) := by rw [hM12]; exact kc_d h2 hU (by simp)
  have h3 : M12 q3 = some (.inr (7, [.int (nI 0), .ref E.2.2, .int 0])) := by rw [hM12]; exact kc_d h3 hU (by simp)
  have h4 : M12 q4 = some (.inr (4, [.long (lN (0 % 2 ^ (4 * 0))), .int (nI 0)])) := by rw [hM12]; exact kc_d h4 hU (by simp)
  refine lv_iconst (v := nI 0) hx hb d_T_init_55 (by decide) ?_
  refine x_istore_n hx hb d_T_init_56 hl (Nat.le_of_ble_eq_true rfl) (lh_k (i := 0) rfl (by first | exact lk_n | exact lk_i | exact lk_r | exact lk_q | exact lk_0)) (fun ls hl => ?_)
  have hct : CT E M12 a0 q1 q2 q3 q4 (fun _ => 0) (fun _ => 0) (fun _ => 0) 0 0 := ct_0 hO h1 h2 h3 h4 h12
  exact loop1 16 0 M12 q1 q2 q3 q4 _ _ _ _ _ _ _ _ (by omega) (by omega) (by omega) hct hw hl
