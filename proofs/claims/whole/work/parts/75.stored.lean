theorem d_T_representations_0 : decode prog_1_method_18_code 0 = .ok (.aload_n 0, 1) := by decide +kernel
theorem d_T_representations_1 : decode prog_1_method_18_code 1 = .ok (.getfield 24, 3) := by decide +kernel
theorem d_T_representations_4 : decode prog_1_method_18_code 4 = .ok (.invokevirtual 195, 3) := by decide +kernel
theorem d_T_representations_7 : decode prog_1_method_18_code 7 = .ok (.ireturn, 1) := by decide +kernel

theorem d_T_stored_0 : decode prog_1_method_19_code 0 = .ok (.iload_n 1, 1) := by decide +kernel
theorem d_T_stored_1 : decode prog_1_method_19_code 1 = .ok (.ifCond .lt 14, 3) := by decide +kernel
theorem d_T_stored_4 : decode prog_1_method_19_code 4 = .ok (.iload_n 1, 1) := by decide +kernel
theorem d_T_stored_5 : decode prog_1_method_19_code 5 = .ok (.aload_n 0, 1) := by decide +kernel
theorem d_T_stored_6 : decode prog_1_method_19_code 6 = .ok (.getfield 24, 3) := by decide +kernel
theorem d_T_stored_9 : decode prog_1_method_19_code 9 = .ok (.invokevirtual 195, 3) := by decide +kernel
theorem d_T_stored_12 : decode prog_1_method_19_code 12 = .ok (.if_icmp .lt 5, 3) := by decide +kernel
theorem d_T_stored_15 : decode prog_1_method_19_code 15 = .ok (.iconst (-1), 1) := by decide +kernel
theorem d_T_stored_16 : decode prog_1_method_19_code 16 = .ok (.ireturn, 1) := by decide +kernel
theorem d_T_stored_17 : decode prog_1_method_19_code 17 = .ok (.aload_n 0, 1) := by decide +kernel
theorem d_T_stored_18 : decode prog_1_method_19_code 18 = .ok (.getfield 24, 3) := by decide +kernel
theorem d_T_stored_21 : decode prog_1_method_19_code 21 = .ok (.iload_n 1, 1) := by decide +kernel
theorem d_T_stored_22 : decode prog_1_method_19_code 22 = .ok (.invokevirtual 197, 3) := by decide +kernel
theorem d_T_stored_25 : decode prog_1_method_19_code 25 = .ok (.checkcast 201, 3) := by decide +kernel
theorem d_T_stored_28 : decode prog_1_method_19_code 28 = .ok (.astore_n 3, 1) := by decide +kernel
theorem d_T_stored_29 : decode prog_1_method_19_code 29 = .ok (.iload_n 2, 1) := by decide +kernel
theorem d_T_stored_30 : decode prog_1_method_19_code 30 = .ok (.tableswitch 53 0 3 #[30, 35, 40, 45], 30) := by decide +kernel
theorem d_T_stored_60 : decode prog_1_method_19_code 60 = .ok (.aload_n 3, 1) := by decide +kernel
theorem d_T_stored_61 : decode prog_1_method_19_code 61 = .ok (.getfield 203, 3) := by decide +kernel
theorem d_T_stored_64 : decode prog_1_method_19_code 64 = .ok (.ireturn, 1) := by decide +kernel
theorem d_T_stored_65 : decode prog_1_method_19_code 65 = .ok (.aload_n 3, 1) := by decide +kernel
theorem d_T_stored_66 : decode prog_1_method_19_code 66 = .ok (.getfield 204, 3) := by decide +kernel
theorem d_T_stored_69 : decode prog_1_method_19_code 69 = .ok (.ireturn, 1) := by decide +kernel
theorem d_T_stored_70 : decode prog_1_method_19_code 70 = .ok (.aload_n 3, 1) := by decide +kernel
theorem d_T_stored_71 : decode prog_1_method_19_code 71 = .ok (.getfield 207, 3) := by decide +kernel
theorem d_T_stored_74 : decode prog_1_method_19_code 74 = .ok (.ireturn, 1) := by decide +kernel
theorem d_T_stored_75 : decode prog_1_method_19_code 75 = .ok (.aload_n 3, 1) := by decide +kernel
theorem d_T_stored_76 : decode prog_1_method_19_code 76 = .ok (.getfield 210, 3) := by decide +kernel
theorem d_T_stored_79 : decode prog_1_method_19_code 79 = .ok (.getfield 171, 3) := by decide +kernel
theorem d_T_stored_82 : decode prog_1_method_19_code 82 = .ok (.ireturn, 1) := by decide +kernel
theorem d_T_stored_83 : decode prog_1_method_19_code 83 = .ok (.iconst (-1), 1) := by decide +kernel
theorem d_T_stored_84 : decode prog_1_method_19_code 84 = .ok (.ireturn, 1) := by decide +kernel

section CLSO
theorem y4 (y : Int32) : y = nI 0 ∨ y = nI 1 ∨ y = nI 2 ∨ y = nI 3 ∨ (y ≠ 0 ∧ y ≠ nI 1 ∧ y ≠ nI 2 ∧ y ≠ nI 3) := by
  by_cases h0 : y = nI 0
  · exact Or.inl h0
  · by_cases h1 : y = nI 1
    · exact Or.inr (Or.inl h1)
    · by_cases h2 : y = nI 2
      · exact Or.inr (Or.inr (Or.inl h2))
      · by_cases h3 : y = nI 3
        · exact Or.inr (Or.inr (Or.inr (Or.inl h3)))
        · exact Or.inr (Or.inr (Or.inr (Or.inr ⟨h0, h1, h2, h3⟩)))
theorem y_out {y : Int32} (h : y ≠ 0 ∧ y ≠ nI 1 ∧ y ≠ nI 2 ∧ y ≠ nI 3) : y.toInt < 0 ∨ 3 < y.toInt := by
  have e : ∀ k : Nat, k < 2 ^ 31 → y.toInt = k → y = nI k := fun k hk z => Int32.toInt_inj.mp (z.trans (nI_toInt hk).symm)
  by_cases h1 : y.toInt < 0
  · exact Or.inl h1
  · by_cases h2 : 3 < y.toInt
    · exact Or.inr h2
    · exfalso
      rcases (show y.toInt = (0 : Nat) ∨ y.toInt = (1 : Nat) ∨ y.toInt = (2 : Nat) ∨ y.toInt = (3 : Nat) by omega) with z | z | z | z
      · exact h.1 (e 0 (by decide) z)
      · exact h.2.1 (e 1 (by decide) z)
      · exact h.2.2.1 (e 2 (by decide) z)
      · exact h.2.2.2 (e 3 (by decide) z)
end CLSO
set_option maxHeartbeats 600000 in
set_option maxRecDepth 100000 in
theorem c_T_reps {l : Launch} {E : Ev} {M : mp_M} {sz : Nat} {σ : SS} {ca na ta : Nat → Nat} (hP : PIC E σ ca na ta M) : MCi l E y_T_representations prog_1_method_18_code 1 (some .int) 1 20 0 0 [.ref (ca 0)] M sz (fun r M' => r = nI (σ 16 0) ∧ M' = M) := by
  refine mc_of R_T rfl [some (.ref (ca 0))] (by decide) (Nat.le_of_ble_eq_true rfl) rfl ?_
  intro p e R s m ag below meth c ls Q A X hAe hQ hR hsz hw hl
  rw [← hAe] at hQ
  obtain ⟨⟨hx, hb, hml, hown, hts⟩, hE, hA, hr, hlk, hnm⟩ := X
  have hK := hE.1
  obtain ⟨ra, rt, ea, cap, mcn, hK9⟩ := hP.2.2.2.2.1
  first | refine x_aload_n hx hb d_T_representations_0 hl rfl ?_ | refine x_aload_nQ hx hb d_T_representations_0 hl rfl ?_
  refine m_get hx hb hts hown hK hw ci_T (pic_o hP) 2 (by decide) (wm1 162 rfl rfl) rfl d_T_representations_1 ?_
  refine m_calli (k_V ⟨hx, hb, hml, hown, hts⟩ hE hA hw (c_AL_size hK9.1) (ci_AL).1 rfl hK9.1 (wm2 110 rfl rfl) (wm2 111 rfl rfl) (wm2 112 rfl rfl) (wm1 4 rfl rfl) (wm2 113 rfl rfl) rfl rfl ar_AL_size ⟨Nat.le_trans (Nat.le_of_ble_eq_true rfl) hR.1, Nat.le_trans (Nat.le_of_ble_eq_true rfl) hR.2.1⟩ rfl hl.1 rfl (Nat.le_of_ble_eq_true rfl) d_T_representations_4 ⟨Nat.le_trans (Nat.le_of_ble_eq_true rfl) hR.2.2.1, Nat.le_trans (Nat.le_of_ble_eq_true rfl) hR.2.2.2⟩) hw (mfr_in hw hA) (fun r4 M4 H locs hP4 hw => ?_)
  obtain ⟨rfl, hM4⟩ := hP4
  rw [hM4] at hw
  exact x_reti hQ hx hb hr hlk rfl hw (by omega) (by omega) d_T_representations_7 (⟨rfl, rfl⟩)

set_option maxHeartbeats 600000 in
set_option maxRecDepth 100000 in
theorem c_T_stored {l : Launch} {E : Ev} {M : mp_M} {sz : Nat} {σ : SS} {ca na ta : Nat → Nat} (hP : PIC E σ ca na ta M) (hS : SF σ) {x y : Int32} : MCi l E y_T_stored prog_1_method_19_code 4 (some .int) 3 64 0 0 [.ref (ca 0), .int x, .int y] M sz (fun r M' => r = aSto σ x y ∧ M' = M) := by
  refine mc_of R_T rfl [some (.ref (ca 0)), some (.int x), some (.int y), none] (by decide) (Nat.le_of_ble_eq_true rfl) rfl ?_
  intro p e R s m ag below meth c ls Q A X hAe hQ hR hsz hw hl
  rw [← hAe] at hQ
  obtain ⟨⟨hx, hb, hml, hown, hts⟩, hE, hA, hr, hlk, hnm⟩ := X
  have hK := hE.1
  obtain ⟨ra, rt, ea, cap, mcn, hK9⟩ := hP.2.2.2.2.1
  have hS5 := hS.1
  refine x_iload_n hx hb d_T_stored_0 hl rfl ?_
  refine lv_if_lt hx hb d_T_stored_1 rfl (fun h1 => ?_) (fun h1 => ?_)
  · have hret : -1 = aSto σ x y := (if_pos (Or.inl h1)).symm
    refine lv_iconst (v := -1) hx hb d_T_stored_15 (by decide) ?_
    exact x_reti hQ hx hb hr hlk rfl hw (by omega) (by omega) d_T_stored_16 (⟨hret, rfl⟩)
  · refine x_iload_n hx hb d_T_stored_4 hl rfl ?_
    first | refine x_aload_n hx hb d_T_stored_5 hl rfl ?_ | refine x_aload_nQ hx hb d_T_stored_5 hl rfl ?_
    refine m_get hx hb hts hown hK hw ci_T (pic_o hP) 2 (by decide) (wm1 162 rfl rfl) rfl d_T_stored_6 ?_
    refine m_calli (k_V ⟨hx, hb, hml, hown, hts⟩ hE hA hw (c_AL_size hK9.1) (ci_AL).1 rfl hK9.1 (wm2 110 rfl rfl) (wm2 111 rfl rfl) (wm2 112 rfl rfl) (wm1 4 rfl rfl) (wm2 113 rfl rfl) rfl rfl ar_AL_size ⟨Nat.le_trans (Nat.le_of_ble_eq_true rfl) hR.1, Nat.le_trans (Nat.le_of_ble_eq_true rfl) hR.2.1⟩ rfl hl.1 rfl (Nat.le_of_ble_eq_true rfl) d_T_stored_9 ⟨Nat.le_trans (Nat.le_of_ble_eq_true rfl) hR.2.2.1, Nat.le_trans (Nat.le_of_ble_eq_true rfl) hR.2.2.2⟩) hw (mfr_in hw hA) (fun r9 M9 H locs hP9 hw => ?_)
    obtain ⟨rfl, hM9⟩ := hP9
    rw [hM9] at hw
    refine lv_icmp_lt hx hb d_T_stored_12 rfl (fun h12 => ?_) (fun h12 => ?_)
    · obtain ⟨k, hk, rfl, ha⟩ := sto_1 (by omega) h1 h12
      first | refine x_aload_n hx hb d_T_stored_17 hl rfl ?_ | refine x_aload_nQ hx hb d_T_stored_17 hl rfl ?_
      refine m_get hx hb hts hown hK hw ci_T (pic_o hP) 2 (by decide) (wm1 162 rfl rfl) rfl d_T_stored_18 ?_
      refine x_iload_n hx hb d_T_stored_21 hl rfl ?_
      refine m_callq (k_V ⟨hx, hb, hml, hown, hts⟩ hE hA hw (c_AL_get hK9.1 (hK9.2.1.resolve_left (by omega)).1 (i := k) hk hK9.2.2.1 (by have := hK9.2.2.2.1; omega)) (ci_AL).1 rfl hK9.1 (wm2 114 rfl rfl) (wm2 115 rfl rfl) (wm2 116 rfl rfl) (wm1 4 rfl rfl) (wm2 117 rfl rfl) rfl rfl ar_AL_get ⟨Nat.le_trans (Nat.le_of_ble_eq_true rfl) hR.1, Nat.le_trans (Nat.le_of_ble_eq_true rfl) hR.2.1⟩ rfl hl.1 rfl (Nat.le_of_ble_eq_true rfl) d_T_stored_22 ⟨Nat.le_trans (Nat.le_of_ble_eq_true rfl) hR.2.2.1, Nat.le_trans (Nat.le_of_ble_eq_true rfl) hR.2.2.2⟩) hw (mfr_in hw hA) (fun r22 M22 H locs hP22 hw => ?_)
      obtain ⟨rfl, hM22⟩ := hP22
      rw [hM22] at hw
      rw [if_pos hk]
      refine va_castY hx hb hown (hts _ (wm2 128 rfl rfl)) hE.2.1.2.2.1.1 (m_recv hK hw (ci_Rp).1 (hK9.2.2.2.2.2 k hk).1) d_T_stored_25 ?_
      first | refine x_astore_n hx hb d_T_stored_28 hl (Nat.le_of_ble_eq_true rfl) (lh_k (i := 2) rfl (by first | exact lk_n | exact lk_i | exact lk_r | exact lk_q | exact lk_0)) (fun ls hl => ?_) | refine x_astore_nQ hx hb d_T_stored_28 hl (Nat.le_of_ble_eq_true rfl) (lh_k (i := 2) rfl (by first | exact lk_n | exact lk_i | exact lk_r | exact lk_q | exact lk_0)) (fun ls hl => ?_)
      refine x_iload_n hx hb d_T_stored_29 hl rfl ?_
      rcases y4 y with hy | hy | hy | hy | hy
      · subst hy
        refine lv_tableIn (off := 30) hx hb d_T_stored_30 (by decide) (by decide) rfl rfl ?_
        first | refine x_aload_n hx hb d_T_stored_60 hl rfl ?_ | refine x_aload_nQ hx hb d_T_stored_60 hl rfl ?_
        refine m_get hx hb hts hown hK hw ci_Rp (hK9.2.2.2.2.2 k hk).1 1 (by decide) (wm2 170 rfl rfl) rfl d_T_stored_61 ?_
        exact x_reti hQ hx hb hr hlk rfl hw (by omega) (by omega) d_T_stored_64 (⟨by rw [ha, if_pos (by decide)], rfl⟩)
      · subst hy
        refine lv_tableIn (off := 35) hx hb d_T_stored_30 (by decide) (by decide) rfl rfl ?_
        first | refine x_aload_n hx hb d_T_stored_65 hl rfl ?_ | refine x_aload_nQ hx hb d_T_stored_65 hl rfl ?_
        refine m_get hx hb hts hown hK hw ci_Rp (hK9.2.2.2.2.2 k hk).1 2 (by decide) (wm2 172 rfl rfl) rfl d_T_stored_66 ?_
        exact x_reti hQ hx hb hr hlk rfl hw (by omega) (by omega) d_T_stored_69 (⟨by rw [ha, if_neg (by decide), if_pos rfl], rfl⟩)
      · subst hy
        refine lv_tableIn (off := 40) hx hb d_T_stored_30 (by decide) (by decide) rfl rfl ?_
        first | refine x_aload_n hx hb d_T_stored_70 hl rfl ?_ | refine x_aload_nQ hx hb d_T_stored_70 hl rfl ?_
        refine m_get hx hb hts hown hK hw ci_Rp (hK9.2.2.2.2.2 k hk).1 3 (by decide) (wm2 174 rfl rfl) rfl d_T_stored_71 ?_
        exact x_reti hQ hx hb hr hlk rfl hw (by omega) (by omega) d_T_stored_74 (⟨by rw [ha, if_neg (by decide), if_neg (by decide), if_pos rfl], rfl⟩)
      · subst hy
        refine lv_tableIn (off := 45) hx hb d_T_stored_30 (by decide) (by decide) rfl rfl ?_
        first | refine x_aload_n hx hb d_T_stored_75 hl rfl ?_ | refine x_aload_nQ hx hb d_T_stored_75 hl rfl ?_
        refine m_get hx hb hts hown hK hw ci_Rp (hK9.2.2.2.2.2 k hk).1 0 (by decide) (wm2 168 rfl rfl) rfl d_T_stored_76 ?_
        refine m_get hx hb hts hown hK hw ci_Te (hK9.2.2.2.2.2 k hk).2 1 (by decide) (wm1 66 rfl rfl) rfl d_T_stored_79 ?_
        exact x_reti hQ hx hb hr hlk rfl hw (by omega) (by omega) d_T_stored_82 (⟨by rw [ha, if_neg (by decide), if_neg (by decide), if_neg (by decide), if_pos rfl], rfl⟩)
      · refine lv_tableOut hx hb d_T_stored_30 (y_out hy) rfl ?_
        refine lv_iconst (v := -1) hx hb d_T_stored_83 (by decide) ?_
        exact x_reti hQ hx hb hr hlk rfl hw (by omega) (by omega) d_T_stored_84 (⟨by rw [ha, if_neg hy.1, if_neg hy.2.1, if_neg hy.2.2.1, if_neg hy.2.2.2], rfl⟩)
    · have hret : -1 = aSto σ x y := (if_pos (Or.inr (le_of h12))).symm
      refine lv_iconst (v := -1) hx hb d_T_stored_15 (by decide) ?_
      exact x_reti hQ hx hb hr hlk rfl hw (by omega) (by omega) d_T_stored_16 (⟨hret, rfl⟩)
