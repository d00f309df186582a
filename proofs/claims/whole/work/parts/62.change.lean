theorem d_T_abort_0 : decode prog_1_method_8_code 0 = .ok (.aload_n 0, 1) := by decide +kernel
theorem d_T_abort_1 : decode prog_1_method_8_code 1 = .ok (.iload_n 1, 1) := by decide +kernel
theorem d_T_abort_2 : decode prog_1_method_8_code 2 = .ok (.invokevirtual 73, 3) := by decide +kernel
theorem d_T_abort_5 : decode prog_1_method_8_code 5 = .ok (.astore_n 2, 1) := by decide +kernel
theorem d_T_abort_6 : decode prog_1_method_8_code 6 = .ok (.aload_n 2, 1) := by decide +kernel
theorem d_T_abort_7 : decode prog_1_method_8_code 7 = .ok (.ifnonnull 5, 3) := by decide +kernel
theorem d_T_abort_10 : decode prog_1_method_8_code 10 = .ok (.iconst 0, 1) := by decide +kernel
theorem d_T_abort_11 : decode prog_1_method_8_code 11 = .ok (.ireturn, 1) := by decide +kernel
theorem d_T_abort_12 : decode prog_1_method_8_code 12 = .ok (.aload_n 2, 1) := by decide +kernel
theorem d_T_abort_13 : decode prog_1_method_8_code 13 = .ok (.iconst 0, 1) := by decide +kernel
theorem d_T_abort_14 : decode prog_1_method_8_code 14 = .ok (.putfield 58, 3) := by decide +kernel
theorem d_T_abort_17 : decode prog_1_method_8_code 17 = .ok (.iconst 1, 1) := by decide +kernel
theorem d_T_abort_18 : decode prog_1_method_8_code 18 = .ok (.ireturn, 1) := by decide +kernel

theorem d_T_begin_0 : decode prog_1_method_2_code 0 = .ok (.iload_n 1, 1) := by decide +kernel
theorem d_T_begin_1 : decode prog_1_method_2_code 1 = .ok (.ifCond .lt 20, 3) := by decide +kernel
theorem d_T_begin_4 : decode prog_1_method_2_code 4 = .ok (.iload_n 1, 1) := by decide +kernel
theorem d_T_begin_5 : decode prog_1_method_2_code 5 = .ok (.iconst 3, 1) := by decide +kernel
theorem d_T_begin_6 : decode prog_1_method_2_code 6 = .ok (.if_icmp .ge 15, 3) := by decide +kernel
theorem d_T_begin_9 : decode prog_1_method_2_code 9 = .ok (.aload_n 0, 1) := by decide +kernel
theorem d_T_begin_10 : decode prog_1_method_2_code 10 = .ok (.getfield 17, 3) := by decide +kernel
theorem d_T_begin_13 : decode prog_1_method_2_code 13 = .ok (.iload_n 1, 1) := by decide +kernel
theorem d_T_begin_14 : decode prog_1_method_2_code 14 = .ok (.aaload, 1) := by decide +kernel
theorem d_T_begin_15 : decode prog_1_method_2_code 15 = .ok (.getfield 58, 3) := by decide +kernel
theorem d_T_begin_18 : decode prog_1_method_2_code 18 = .ok (.ifCond .eq 5, 3) := by decide +kernel
theorem d_T_begin_21 : decode prog_1_method_2_code 21 = .ok (.iconst 0, 1) := by decide +kernel
theorem d_T_begin_22 : decode prog_1_method_2_code 22 = .ok (.ireturn, 1) := by decide +kernel
theorem d_T_begin_23 : decode prog_1_method_2_code 23 = .ok (.aload_n 0, 1) := by decide +kernel
theorem d_T_begin_24 : decode prog_1_method_2_code 24 = .ok (.getfield 17, 3) := by decide +kernel
theorem d_T_begin_27 : decode prog_1_method_2_code 27 = .ok (.iload_n 1, 1) := by decide +kernel
theorem d_T_begin_28 : decode prog_1_method_2_code 28 = .ok (.aaload, 1) := by decide +kernel
theorem d_T_begin_29 : decode prog_1_method_2_code 29 = .ok (.astore_n 2, 1) := by decide +kernel
theorem d_T_begin_30 : decode prog_1_method_2_code 30 = .ok (.aload_n 2, 1) := by decide +kernel
theorem d_T_begin_31 : decode prog_1_method_2_code 31 = .ok (.iconst 1, 1) := by decide +kernel
theorem d_T_begin_32 : decode prog_1_method_2_code 32 = .ok (.putfield 58, 3) := by decide +kernel
theorem d_T_begin_35 : decode prog_1_method_2_code 35 = .ok (.aload_n 2, 1) := by decide +kernel
theorem d_T_begin_36 : decode prog_1_method_2_code 36 = .ok (.aload_n 0, 1) := by decide +kernel
theorem d_T_begin_37 : decode prog_1_method_2_code 37 = .ok (.getfield 37, 3) := by decide +kernel
theorem d_T_begin_40 : decode prog_1_method_2_code 40 = .ok (.putfield 62, 3) := by decide +kernel
theorem d_T_begin_43 : decode prog_1_method_2_code 43 = .ok (.aload_n 2, 1) := by decide +kernel
theorem d_T_begin_44 : decode prog_1_method_2_code 44 = .ok (.getfield 65, 3) := by decide +kernel
theorem d_T_begin_47 : decode prog_1_method_2_code 47 = .ok (.aload_n 0, 1) := by decide +kernel
theorem d_T_begin_48 : decode prog_1_method_2_code 48 = .ok (.getfield 11, 3) := by decide +kernel
theorem d_T_begin_51 : decode prog_1_method_2_code 51 = .ok (.aload_n 0, 1) := by decide +kernel
theorem d_T_begin_52 : decode prog_1_method_2_code 52 = .ok (.getfield 37, 3) := by decide +kernel
theorem d_T_begin_55 : decode prog_1_method_2_code 55 = .ok (.aaload, 1) := by decide +kernel
theorem d_T_begin_56 : decode prog_1_method_2_code 56 = .ok (.iconst 0, 1) := by decide +kernel
theorem d_T_begin_57 : decode prog_1_method_2_code 57 = .ok (.invokevirtual 69, 3) := by decide +kernel
theorem d_T_begin_60 : decode prog_1_method_2_code 60 = .ok (.iconst 1, 1) := by decide +kernel
theorem d_T_begin_61 : decode prog_1_method_2_code 61 = .ok (.ireturn, 1) := by decide +kernel

theorem d_T_make_0 : decode prog_1_method_3_code 0 = .ok (.aload_n 0, 1) := by decide +kernel
theorem d_T_make_1 : decode prog_1_method_3_code 1 = .ok (.iload_n 1, 1) := by decide +kernel
theorem d_T_make_2 : decode prog_1_method_3_code 2 = .ok (.invokevirtual 73, 3) := by decide +kernel
theorem d_T_make_5 : decode prog_1_method_3_code 5 = .ok (.astore 4, 2) := by decide +kernel
theorem d_T_make_7 : decode prog_1_method_3_code 7 = .ok (.aload 4, 2) := by decide +kernel
theorem d_T_make_9 : decode prog_1_method_3_code 9 = .ok (.ifnull 12, 3) := by decide +kernel
theorem d_T_make_12 : decode prog_1_method_3_code 12 = .ok (.aload 4, 2) := by decide +kernel
theorem d_T_make_14 : decode prog_1_method_3_code 14 = .ok (.iload_n 2, 1) := by decide +kernel
theorem d_T_make_15 : decode prog_1_method_3_code 15 = .ok (.invokevirtual 77, 3) := by decide +kernel
theorem d_T_make_18 : decode prog_1_method_3_code 18 = .ok (.ifCond .ne 5, 3) := by decide +kernel
theorem d_T_make_21 : decode prog_1_method_3_code 21 = .ok (.iconst 0, 1) := by decide +kernel
theorem d_T_make_22 : decode prog_1_method_3_code 22 = .ok (.ireturn, 1) := by decide +kernel
theorem d_T_make_23 : decode prog_1_method_3_code 23 = .ok (.aload 4, 2) := by decide +kernel
theorem d_T_make_25 : decode prog_1_method_3_code 25 = .ok (.iload_n 2, 1) := by decide +kernel
theorem d_T_make_26 : decode prog_1_method_3_code 26 = .ok (.new 46, 3) := by decide +kernel
theorem d_T_make_29 : decode prog_1_method_3_code 29 = .ok (.dup, 1) := by decide +kernel
theorem d_T_make_30 : decode prog_1_method_3_code 30 = .ok (.aload_n 0, 1) := by decide +kernel
theorem d_T_make_31 : decode prog_1_method_3_code 31 = .ok (.invokevirtual 81, 3) := by decide +kernel
theorem d_T_make_34 : decode prog_1_method_3_code 34 = .ok (.iload_n 3, 1) := by decide +kernel
theorem d_T_make_35 : decode prog_1_method_3_code 35 = .ok (.aload_n 0, 1) := by decide +kernel
theorem d_T_make_36 : decode prog_1_method_3_code 36 = .ok (.getfield 33, 3) := by decide +kernel
theorem d_T_make_39 : decode prog_1_method_3_code 39 = .ok (.invokespecial 48, 3) := by decide +kernel
theorem d_T_make_42 : decode prog_1_method_3_code 42 = .ok (.invokevirtual 85, 3) := by decide +kernel
theorem d_T_make_45 : decode prog_1_method_3_code 45 = .ok (.iconst 1, 1) := by decide +kernel
theorem d_T_make_46 : decode prog_1_method_3_code 46 = .ok (.ireturn, 1) := by decide +kernel

theorem d_T_remove_0 : decode prog_1_method_4_code 0 = .ok (.aload_n 0, 1) := by decide +kernel
theorem d_T_remove_1 : decode prog_1_method_4_code 1 = .ok (.iload_n 1, 1) := by decide +kernel
theorem d_T_remove_2 : decode prog_1_method_4_code 2 = .ok (.invokevirtual 73, 3) := by decide +kernel
theorem d_T_remove_5 : decode prog_1_method_4_code 5 = .ok (.astore_n 3, 1) := by decide +kernel
theorem d_T_remove_6 : decode prog_1_method_4_code 6 = .ok (.aload_n 3, 1) := by decide +kernel
theorem d_T_remove_7 : decode prog_1_method_4_code 7 = .ok (.ifnull 18, 3) := by decide +kernel
theorem d_T_remove_10 : decode prog_1_method_4_code 10 = .ok (.iload_n 2, 1) := by decide +kernel
theorem d_T_remove_11 : decode prog_1_method_4_code 11 = .ok (.ifCond .eq 14, 3) := by decide +kernel
theorem d_T_remove_14 : decode prog_1_method_4_code 14 = .ok (.aload_n 3, 1) := by decide +kernel
theorem d_T_remove_15 : decode prog_1_method_4_code 15 = .ok (.getfield 65, 3) := by decide +kernel
theorem d_T_remove_18 : decode prog_1_method_4_code 18 = .ok (.iload_n 2, 1) := by decide +kernel
theorem d_T_remove_19 : decode prog_1_method_4_code 19 = .ok (.invokevirtual 88, 3) := by decide +kernel
theorem d_T_remove_22 : decode prog_1_method_4_code 22 = .ok (.ifnonnull 5, 3) := by decide +kernel
theorem d_T_remove_25 : decode prog_1_method_4_code 25 = .ok (.iconst 0, 1) := by decide +kernel
theorem d_T_remove_26 : decode prog_1_method_4_code 26 = .ok (.ireturn, 1) := by decide +kernel
theorem d_T_remove_27 : decode prog_1_method_4_code 27 = .ok (.aload_n 3, 1) := by decide +kernel
theorem d_T_remove_28 : decode prog_1_method_4_code 28 = .ok (.getfield 65, 3) := by decide +kernel
theorem d_T_remove_31 : decode prog_1_method_4_code 31 = .ok (.iload_n 2, 1) := by decide +kernel
theorem d_T_remove_32 : decode prog_1_method_4_code 32 = .ok (.invokevirtual 92, 3) := by decide +kernel
theorem d_T_remove_35 : decode prog_1_method_4_code 35 = .ok (.aload_n 3, 1) := by decide +kernel
theorem d_T_remove_36 : decode prog_1_method_4_code 36 = .ok (.iload_n 2, 1) := by decide +kernel
theorem d_T_remove_37 : decode prog_1_method_4_code 37 = .ok (.invokestatic 96, 3) := by decide +kernel
theorem d_T_remove_40 : decode prog_1_method_4_code 40 = .ok (.invokevirtual 102, 3) := by decide +kernel
theorem d_T_remove_43 : decode prog_1_method_4_code 43 = .ok (.iconst 1, 1) := by decide +kernel
theorem d_T_remove_44 : decode prog_1_method_4_code 44 = .ok (.ireturn, 1) := by decide +kernel

theorem d_T_write_0 : decode prog_1_method_6_code 0 = .ok (.aload_n 0, 1) := by decide +kernel
theorem d_T_write_1 : decode prog_1_method_6_code 1 = .ok (.iload_n 1, 1) := by decide +kernel
theorem d_T_write_2 : decode prog_1_method_6_code 2 = .ok (.invokevirtual 73, 3) := by decide +kernel
theorem d_T_write_5 : decode prog_1_method_6_code 5 = .ok (.astore 6, 2) := by decide +kernel
theorem d_T_write_7 : decode prog_1_method_6_code 7 = .ok (.aload 6, 2) := by decide +kernel
theorem d_T_write_9 : decode prog_1_method_6_code 9 = .ok (.ifnull 31, 3) := by decide +kernel
theorem d_T_write_12 : decode prog_1_method_6_code 12 = .ok (.iload 5, 2) := by decide +kernel
theorem d_T_write_14 : decode prog_1_method_6_code 14 = .ok (.ifCond .lt 26, 3) := by decide +kernel
theorem d_T_write_17 : decode prog_1_method_6_code 17 = .ok (.iload 5, 2) := by decide +kernel
theorem d_T_write_19 : decode prog_1_method_6_code 19 = .ok (.bipush 12, 2) := by decide +kernel
theorem d_T_write_21 : decode prog_1_method_6_code 21 = .ok (.if_icmp .gt 19, 3) := by decide +kernel
theorem d_T_write_24 : decode prog_1_method_6_code 24 = .ok (.aload 6, 2) := by decide +kernel
theorem d_T_write_26 : decode prog_1_method_6_code 26 = .ok (.getfield 65, 3) := by decide +kernel
theorem d_T_write_29 : decode prog_1_method_6_code 29 = .ok (.iload_n 2, 1) := by decide +kernel
theorem d_T_write_30 : decode prog_1_method_6_code 30 = .ok (.invokevirtual 88, 3) := by decide +kernel
theorem d_T_write_33 : decode prog_1_method_6_code 33 = .ok (.invokestatic 128, 3) := by decide +kernel
theorem d_T_write_36 : decode prog_1_method_6_code 36 = .ok (.iconst 2, 1) := by decide +kernel
theorem d_T_write_37 : decode prog_1_method_6_code 37 = .ok (.if_icmp .eq 5, 3) := by decide +kernel
theorem d_T_write_40 : decode prog_1_method_6_code 40 = .ok (.iconst 0, 1) := by decide +kernel
theorem d_T_write_41 : decode prog_1_method_6_code 41 = .ok (.ireturn, 1) := by decide +kernel
theorem d_T_write_42 : decode prog_1_method_6_code 42 = .ok (.aload 6, 2) := by decide +kernel
theorem d_T_write_44 : decode prog_1_method_6_code 44 = .ok (.iload_n 2, 1) := by decide +kernel
theorem d_T_write_45 : decode prog_1_method_6_code 45 = .ok (.new 28, 3) := by decide +kernel
theorem d_T_write_48 : decode prog_1_method_6_code 48 = .ok (.dup, 1) := by decide +kernel
theorem d_T_write_49 : decode prog_1_method_6_code 49 = .ok (.lload_n 3, 1) := by decide +kernel
theorem d_T_write_50 : decode prog_1_method_6_code 50 = .ok (.iload 5, 2) := by decide +kernel
theorem d_T_write_52 : decode prog_1_method_6_code 52 = .ok (.invokespecial 30, 3) := by decide +kernel
theorem d_T_write_55 : decode prog_1_method_6_code 55 = .ok (.invokevirtual 132, 3) := by decide +kernel
theorem d_T_write_58 : decode prog_1_method_6_code 58 = .ok (.iconst 1, 1) := by decide +kernel
theorem d_T_write_59 : decode prog_1_method_6_code 59 = .ok (.ireturn, 1) := by decide +kernel

section CLH
variable {σ τ : SS} {ca na ta : Nat → Nat} {E : Ev} {M : mp_M}
theorem pic_ne (h : PIC E σ ca na ta M) {i j : Nat} (hi : i < 19) (hj : j < 19) (hne : i ≠ j) : ca (i + 24) ≠ ca (j + 24) := fun z => hne (h.2.2.2.2.2.1.1 i j hi hj z)
theorem mp_sw {a q : Nat} {d o c : va_E} : mp_up (mp_up (mp_up M q d) a o) q c = mp_up (mp_up M a o) q c := by
  funext j
  unfold mp_up
  by_cases h : j = q
  · rw [if_pos h, if_pos h]
  · rw [if_neg h, if_neg h, if_neg h]
theorem rmb_1f {t q : Nat} (h : opb σ t = false) : rmb σ t q = false := by simp [rmb, h]
theorem if_12 (b : Bool) : (if b = true then 1 else 2) = 1 ∨ (if b = true then 1 else 2) = 2 := by cases b <;> simp
theorem kind_p2 {s n : Nat} (hI : INV σ s) (h : σ 6 n = 2) : 0 < n := by
  rcases Nat.eq_zero_or_pos n with z | z
  · rw [z, hI.2.2.1.1.1] at h; omega
  · exact z
theorem mk3_5f {t w : Nat} : mk3 σ t w 5 = sp σ 5 0 (σ 5 0 + 1) 5 := by
  have e : nod0 σ t w 5 = σ 5 := nod0_r (by decide) (by decide)
  funext j
  unfold mk3
  rw [sp_o (by decide), sp_at, sp_at, e]
theorem pic_make {s t q : Nat} {b : Bool} (hP : PIC E σ ca na ta M) (hI : INV σ s) (ht : t < 3) (hq : M q = none) : PIC E (mk3 σ t (if b = true then 1 else 2)) ca (va_up na (σ 4 0 + 1) q) (va_up ta (σ 4 0 + 1) (ca 4)) (mp_up (mp_up M (ca 0) (.inr (0, cT (sp σ 5 0 (σ 5 0 + 1)) ca))) q (.inr (3, [.int (nI (σ 5 0 + 1)), .int (bz b), .ref (ca 4), .int (nI 0), .int (-1), .null, .int (-1), .int (-1), .int (nI 0), .int (-1)]))) := by
  have h1 := pic_obj (τ := sp σ 5 0 (σ 5 0 + 1)) hP (fun f _ h5 => sp_o h5)
  have hne := ne_of (pic_o hP) hq
  have hq1 : mp_up M (ca 0) (.inr (0, cT (sp σ 5 0 (σ 5 0 + 1)) ca)) q = none := (mp_up_n (fun z => hne z.symm)).trans hq
  obtain ⟨w, hw, hwb⟩ : ∃ w, (if b = true then 1 else 2) = w ∧ decide (w = 1) = b := by
    cases b
    · exact ⟨2, rfl, rfl⟩
    · exact ⟨1, rfl, rfl⟩
  rw [hw]
  obtain ⟨v6, v12, v13, v11, v7, v9, v15, v10, v8, v14⟩ := mk3_v (σ := σ) (t := t) (w := w)
  have hm := hI.2.2.1.2.1 (σ 4 0 + 1) (by omega)
  have e4 : sp σ 5 0 (σ 5 0 + 1) 4 = σ 4 := sp_o (by decide)
  have h := pic_new (τ := mk3 σ t w) (b := ca 4) (m := σ 4 0 + 1) h1 hq1 (by rw [e4]) mk3_4 (fun f h4 hf => by
      by_cases h5 : f = 5
      · subst h5; exact mk3_5f
      · rw [mk3_r h4 h5 hf, sp_o h5]) (fun f j h6 h15 hj => by rw [mk3_n h6 hj, sp_o (by omega)]) (by rw [v13]; exact Nat.zero_le _) (by rw [v9, v7]; exact pic_e h1)
  have e : ndf (mk3 σ t w) na (va_up ta (σ 4 0 + 1) (ca 4)) (σ 4 0 + 1) = [.int (nI (σ 5 0 + 1)), .int (bz b), .ref (ca 4), .int (nI 0), .int (-1), .null, .int (-1), .int (-1), .int (nI 0), .int (-1)] := by
    have et : va_up ta (σ 4 0 + 1) (ca 4) (σ 4 0 + 1) = ca 4 := by simp [va_up]
    unfold ndf
    rw [v10, v6, v11, v12, v13, v14, v8, v15, hm.1, hm.2, et, crI_m (by omega), hwb]
    rfl
  rw [e] at h
  exact h
theorem mk4_inv {t q w : Nat} (h : INV σ 3) (hc : rmb σ t q = true) (hw : w = 1 ∨ w = 2) : INV (plc (mk3 σ t w) t q (σ 4 0 + 1)) 3 ∧ mk3 σ t w 2 t ≠ 0 ∧ 0 < rat (plc (mk3 σ t w) t q (σ 4 0 + 1)) (16 + t) (pp q) := by
  obtain ⟨ht, ho, hg, h0, hq, hp, hp6⟩ := rmb_all hc
  have h1 := inv_mk3 (w := w) h ht hw
  obtain ⟨v6, v12, v13, v11, v7, v9, v15, v10, v8, v14⟩ := mk3_v (σ := σ) (t := t) (w := w)
  have R : ∀ k p, rat (mk3 σ t w) k p = rat σ k p := fun k p => rat_c (fun j _ => by rw [mk3_r (by decide) (by decide) (by decide)]) p
  have hle := inv_le h (k := 16 + t) (q := pp q)
  have e2 : mk3 σ t w 2 t ≠ 0 := by rw [mk3_r (by decide) (by decide) (by decide)]; exact ho
  have hd := pp_d hg h0
  have hpq : pp q ≠ q := fun z => by rw [z] at hd; omega
  refine ⟨inv_add h1 ht e2 hg h0 (by rw [R]; exact hq) (by rw [R]; exact hp) (by rw [R, mk3_n (by decide) (by omega)]; exact hp6) (by omega) (by rw [mk3_4]; exact Nat.le_refl _) v12 (fun p => ?_), e2, ?_⟩
  · rw [R]
    have := inv_le h (k := 16 + t) (q := p)
    omega
  · rw [rat_plc hg (by omega), if_neg (fun z => hpq z.2), R]
    exact hp
theorem clr_pp {t q : Nat} (h : INV σ 3) (ht : t < 3) (ho : σ 2 t ≠ 0) (hg : pgb q = true) (h0 : 0 < q) (hq : 0 < rat σ (16 + t) q) : 0 < rat (clr σ t q 125) (16 + t) (pp q) := by
  have hd := pp_d hg h0
  have hpn : ¬ pun (pp q) q = true := fun z => by
    have := pun_pd (pgb_t.mp (pp_good hg)).1 (pgb_t.mp hg).1 z
    omega
  rw [rat_clr (by omega) ht, if_neg (fun z => hpn z.2)]
  exact ((h.2.2.2.2.2.2 t ht ho).1.2 q h0 hq).1
end CLH
set_option maxHeartbeats 600000 in
set_option maxRecDepth 100000 in
theorem c_T_abort {l : Launch} {E : Ev} {M : mp_M} {sz : Nat} {σ : SS} {ca na ta : Nat → Nat} (hP : PIC E σ ca na ta M) {x : Int32} : MCi l E y_T_abort prog_1_method_8_code 3 (some .boolean) 1 21 0 0 [.ref (ca 0), .int x] M sz (fun r M' => r = bz (opb σ (tx x)) ∧ PIC E (abO σ (tx x)) ca na ta M') := by
  refine mc_of R_T rfl [some (.ref (ca 0)), some (.int x), none] (by decide) (Nat.le_of_ble_eq_true rfl) rfl ?_
  intro p e R s m ag below meth c ls Q A X hAe hQ hR hsz hw hl
  rw [← hAe] at hQ
  obtain ⟨⟨hx, hb, hml, hown, hts⟩, hE, hA, hr, hlk, hnm⟩ := X
  have hK := hE.1
  first | refine x_aload_n hx hb d_T_abort_0 hl rfl ?_ | refine x_aload_nQ hx hb d_T_abort_0 hl rfl ?_
  refine x_iload_n hx hb d_T_abort_1 hl rfl ?_
  refine m_callq (k_V ⟨hx, hb, hml, hown, hts⟩ hE hA hw (c_T_open hP) (ci_T).1 rfl (pic_o hP) (wm1 200 rfl rfl) (wm1 202 rfl rfl) (wmp1 0 rfl) (wm1 1 rfl rfl) (wm1 203 rfl rfl) rfl rfl ar_T_openTransaction ⟨Nat.le_trans (Nat.le_of_ble_eq_true rfl) hR.1, Nat.le_trans (Nat.le_of_ble_eq_true rfl) hR.2.1⟩ rfl hl.1 rfl (Nat.le_of_ble_eq_true rfl) d_T_abort_2 ⟨Nat.le_trans (Nat.le_of_ble_eq_true rfl) hR.2.2.1, Nat.le_trans (Nat.le_of_ble_eq_true rfl) hR.2.2.2⟩) hw (mfr_in hw hA) (fun r2 M2 H locs hP2 hw => ?_)
  obtain ⟨rfl, hM2⟩ := hP2
  rw [hM2] at hw
  first | refine x_astore_n hx hb d_T_abort_5 hl (Nat.le_of_ble_eq_true rfl) (lh_k (i := 1) rfl (by first | exact lk_n | exact lk_i | exact lk_r | exact lk_q | exact lk_0)) (fun ls hl => ?_) | refine x_astore_nQ hx hb d_T_abort_5 hl (Nat.le_of_ble_eq_true rfl) (lh_k (i := 1) rfl (by first | exact lk_n | exact lk_i | exact lk_r | exact lk_q | exact lk_0)) (fun ls hl => ?_)
  first | refine x_aload_n hx hb d_T_abort_6 hl rfl ?_ | refine x_aload_nQ hx hb d_T_abort_6 hl rfl ?_
  refine x_ifnonnullQ hx hb d_T_abort_7 rfl (fun a7 h7 => ?_) (fun h7 => ?_)
  · obtain ⟨t, ht, ho, rfl, rfl⟩ := oT_some h7
    rw [h7] at hl
    first | refine x_aload_n hx hb d_T_abort_12 hl rfl ?_ | refine x_aload_nQ hx hb d_T_abort_12 hl rfl ?_
    refine lv_iconst (v := nI 0) hx hb d_T_abort_13 (by decide) ?_
    refine m_put hx hb hts hown hK hw ci_Tx (pic_j hP ht) 1 (by decide) (wm1 93 rfl rfl) rfl (by first | rfl | exact nar_bz | exact nar_q) (by first | rfl | exact fit_bz | exact fit_q) (Nat.le_of_ble_eq_true rfl) d_T_abort_14 (fun H locs hw => ?_)
    rw [cX_0] at hw
    refine lv_iconst (v := nI 1) hx hb d_T_abort_17 (by decide) ?_
    exact x_reti hQ hx hb hr hlk (by first | exact nar_bz | decide) hw (by omega) (by omega) d_T_abort_18 (⟨by rw [tx_n ht]; exact bz_t (opb_t ht ho), by rw [tx_n ht, abO_t (opb_t ht ho)]; exact pic_txn hP ht (fun f h2 h3 => sp_o h2) (fun i hi => ⟨sp_n hi, by rw [sp_o (by decide)]⟩)⟩)
  · have h7 := oT_none h7
    refine lv_iconst (v := nI 0) hx hb d_T_abort_10 (by decide) ?_
    exact x_reti hQ hx hb hr hlk (by first | exact nar_bz | decide) hw (by omega) (by omega) d_T_abort_11 (⟨bz_f (by rw [h7]; decide), by rw [abO_f h7]; exact hP⟩)

set_option maxHeartbeats 600000 in
set_option maxRecDepth 100000 in
theorem c_T_begin {l : Launch} {E : Ev} {M : mp_M} {sz : Nat} {σ : SS} {ca na ta : Nat → Nat} (hP : PIC E σ ca na ta M) {x : Int32} (hy : σ 1 0 ≤ 15) : MCi l E y_T_begin prog_1_method_2_code 3 (some .boolean) 3 64 0 0 [.ref (ca 0), .int x] M sz (fun r M' => r = bz (bgb σ (tx x)) ∧ PIC E (bgO σ (tx x)) ca na ta M') := by
  refine mc_of R_T rfl [some (.ref (ca 0)), some (.int x), none] (by decide) (Nat.le_of_ble_eq_true rfl) rfl ?_
  intro p e R s m ag below meth c ls Q A X hAe hQ hR hsz hw hl
  rw [← hAe] at hQ
  obtain ⟨⟨hx, hb, hml, hown, hts⟩, hE, hA, hr, hlk, hnm⟩ := X
  have hK := hE.1
  refine x_iload_n hx hb d_T_begin_0 hl rfl ?_
  refine lv_if_lt hx hb d_T_begin_1 rfl (fun h1 => ?_) (fun h1 => ?_)
  · have hx3 : tx x = 3 := tx_lt h1
    refine lv_iconst (v := nI 0) hx hb d_T_begin_21 (by decide) ?_
    exact x_reti hQ hx hb hr hlk (by first | exact nar_bz | decide) hw (by omega) (by omega) d_T_begin_22 (⟨by first | (rw [hx3]; exact bz_f bgb_3) | (rw [tx_n hk]; exact bz_f (bgb_f h18)), by first | (rw [hx3, bgO_f bgb_3]; exact hP) | (rw [tx_n hk, bgO_f (bgb_f h18)]; exact hP)⟩)
  · refine x_iload_n hx hb d_T_begin_4 hl rfl ?_
    refine lv_iconst (v := nI 3) hx hb d_T_begin_5 (by decide) ?_
    refine lv_icmp_ge hx hb d_T_begin_6 rfl (fun h6 => ?_) (fun h6 => ?_)
    · have hx3 : tx x = 3 := tx_ge h6
      refine lv_iconst (v := nI 0) hx hb d_T_begin_21 (by decide) ?_
      exact x_reti hQ hx hb hr hlk (by first | exact nar_bz | decide) hw (by omega) (by omega) d_T_begin_22 (⟨by first | (rw [hx3]; exact bz_f bgb_3) | (rw [tx_n hk]; exact bz_f (bgb_f h18)), by first | (rw [hx3, bgO_f bgb_3]; exact hP) | (rw [tx_n hk, bgO_f (bgb_f h18)]; exact hP)⟩)
    · obtain ⟨k, hk, rfl⟩ := nI_of3b (M := nI 3) (n := 3) (by decide) h1 h6
      first | refine x_aload_n hx hb d_T_begin_9 hl rfl ?_ | refine x_aload_nQ hx hb d_T_begin_9 hl rfl ?_
      refine m_get hx hb hts hown hK hw ci_T (pic_o hP) 1 (by decide) (wm1 161 rfl rfl) rfl d_T_begin_10 ?_
      refine x_iload_n hx hb d_T_begin_13 hl rfl ?_
      refine m_aald hx hb hK hw 2 (pic_x hP) rfl (by omega) (by decide) (if_pos hk) d_T_begin_14 ?_
      refine m_get hx hb hts hown hK hw ci_Tx (pic_j hP hk) 1 (by decide) (wm1 93 rfl rfl) rfl d_T_begin_15 ?_
      refine x_if_eqB hx hb d_T_begin_18 rfl (fun h18 => ?_) (fun h18 => ?_)
      · have h18 := of_decide_eq_false h18
        have h18 : σ 2 k = 0 := by omega
        first | refine x_aload_n hx hb d_T_begin_23 hl rfl ?_ | refine x_aload_nQ hx hb d_T_begin_23 hl rfl ?_
        refine m_get hx hb hts hown hK hw ci_T (pic_o hP) 1 (by decide) (wm1 161 rfl rfl) rfl d_T_begin_24 ?_
        refine x_iload_n hx hb d_T_begin_27 hl rfl ?_
        refine m_aald hx hb hK hw 2 (pic_x hP) rfl (by omega) (by decide) (if_pos hk) d_T_begin_28 ?_
        first | refine x_astore_n hx hb d_T_begin_29 hl (Nat.le_of_ble_eq_true rfl) (lh_k (i := 1) rfl (by first | exact lk_n | exact lk_i | exact lk_r | exact lk_q | exact lk_0)) (fun ls hl => ?_) | refine x_astore_nQ hx hb d_T_begin_29 hl (Nat.le_of_ble_eq_true rfl) (lh_k (i := 1) rfl (by first | exact lk_n | exact lk_i | exact lk_r | exact lk_q | exact lk_0)) (fun ls hl => ?_)
        first | refine x_aload_n hx hb d_T_begin_30 hl rfl ?_ | refine x_aload_nQ hx hb d_T_begin_30 hl rfl ?_
        refine lv_iconst (v := nI 1) hx hb d_T_begin_31 (by decide) ?_
        refine m_put hx hb hts hown hK hw ci_Tx (pic_j hP hk) 1 (by decide) (wm1 93 rfl rfl) rfl (by first | rfl | exact nar_bz | exact nar_q) (by first | rfl | exact fit_bz | exact fit_q) (Nat.le_of_ble_eq_true rfl) d_T_begin_32 (fun H locs hw => ?_)
        rw [cX_1] at hw
        have hP1 := pic_txn (τ := sp σ 2 k 1) hP hk (fun f h2 h3 => sp_o h2) (fun i hi => ⟨sp_n hi, by rw [sp_o (by decide)]⟩)
        obtain ⟨M1, hM1⟩ : ∃ z, z = mp_up M (ca (k + 43)) (.inr (2, cX (sp σ 2 k 1) ca k)) := ⟨_, rfl⟩
        rw [← hM1] at hw hP1
        first | refine x_aload_n hx hb d_T_begin_35 hl rfl ?_ | refine x_aload_nQ hx hb d_T_begin_35 hl rfl ?_
        first | refine x_aload_n hx hb d_T_begin_36 hl rfl ?_ | refine x_aload_nQ hx hb d_T_begin_36 hl rfl ?_
        refine m_get hx hb hts hown hK hw ci_T (pic_o hP1) 4 (by decide) (wm1 164 rfl rfl) rfl d_T_begin_37 ?_
        show W p l e R s m ag below meth c H locs 0 0 Q (F0 m 40 ls [.int (nI (σ 1 0)), .ref (ca (k + 43))])
        refine m_put hx hb hts hown hK hw ci_Tx (pic_j hP1 hk) 2 (by decide) (wm1 95 rfl rfl) rfl (by first | rfl | exact nar_bz | exact nar_q) (by first | rfl | exact fit_bz | exact fit_q) (Nat.le_of_ble_eq_true rfl) d_T_begin_40 (fun H locs hw => ?_)
        rw [cX_2] at hw
        have hP2 := pic_txn (τ := sp (sp σ 2 k 1) 3 k (σ 1 0)) hP1 hk (fun f h2 h3 => sp_o h3) (fun i hi => ⟨by rw [sp_o (by decide)], sp_n hi⟩)
        obtain ⟨M2, hM2⟩ : ∃ z, z = mp_up M1 (ca (k + 43)) (.inr (2, cX (sp (sp σ 2 k 1) 3 k (σ 1 0)) ca k)) := ⟨_, rfl⟩
        rw [← hM2] at hw hP2
        first | refine x_aload_n hx hb d_T_begin_43 hl rfl ?_ | refine x_aload_nQ hx hb d_T_begin_43 hl rfl ?_
        refine m_get hx hb hts hown hK hw ci_Tx (pic_j hP2 hk) 0 (by decide) (wm1 91 rfl rfl) rfl d_T_begin_44 ?_
        first | refine x_aload_n hx hb d_T_begin_47 hl rfl ?_ | refine x_aload_nQ hx hb d_T_begin_47 hl rfl ?_
        refine m_get hx hb hts hown hK hw ci_T (pic_o hP2) 0 (by decide) (wm1 160 rfl rfl) rfl d_T_begin_48 ?_
        first | refine x_aload_n hx hb d_T_begin_51 hl rfl ?_ | refine x_aload_nQ hx hb d_T_begin_51 hl rfl ?_
        refine m_get hx hb hts hown hK hw ci_T (pic_o hP2) 4 (by decide) (wm1 164 rfl rfl) rfl d_T_begin_52 ?_
        show W p l e R s m ag below meth c H locs 0 0 Q (F0 m 55 ls [.int (nI (σ 1 0)), .ref (ca 1), .ref (ca (16 + k + 5))])
        refine m_aald hx hb hK hw 1 (pic_r hP2) rfl (by omega) (by decide) (if_pos (by omega)) d_T_begin_55 ?_
        refine lv_iconst (v := nI 0) hx hb d_T_begin_56 (by decide) ?_
        refine m_callv (k_V ⟨hx, hb, hml, hown, hts⟩ hE hA hw (c_Tr_take (q := 0) (by decide) (pic_u hP2 hk) (pic_a hP2 (k := 16 + k) (by omega)) (pic_t hP2 (k := σ 1 0) (by omega)) (pic_a hP2 (k := σ 1 0) (by omega)) (pic_ne hP2 (by omega) (by omega) (by omega)) (pic_row_n hP2)) (ci_Tr).1 rfl (pic_u hP2 hk) (wm1 183 rfl rfl) (wm1 184 rfl rfl) (wm1 185 rfl rfl) (wm1 6 rfl rfl) (wm1 186 rfl rfl) rfl rfl ar_Tr_takeFrom ⟨Nat.le_trans (Nat.le_of_ble_eq_true rfl) hR.1, Nat.le_trans (Nat.le_of_ble_eq_true rfl) hR.2.1⟩ rfl hl.1 rfl (Nat.le_of_ble_eq_true rfl) d_T_begin_57 ⟨Nat.le_trans (Nat.le_of_ble_eq_true rfl) hR.2.2.1, Nat.le_trans (Nat.le_of_ble_eq_true rfl) hR.2.2.2⟩) hw (mfr_in hw hA) (fun M57 H locs hP57 hw => ?_)
        have hP3 := pic_fil hP2 (x := 16 + k) (y := σ 1 0) (by omega) (by omega)
        rw [← hP57] at hP3
        refine lv_iconst (v := nI 1) hx hb d_T_begin_60 (by decide) ?_
        exact x_reti hQ hx hb hr hlk (by first | exact nar_bz | decide) hw (by omega) (by omega) d_T_begin_61 (⟨by rw [tx_n hk]; exact bz_t (bgb_t hk h18), by rw [tx_n hk, bgO_t (bgb_t hk h18)]; exact hP3⟩)
      · have h18 := of_decide_eq_true h18
        refine lv_iconst (v := nI 0) hx hb d_T_begin_21 (by decide) ?_
        exact x_reti hQ hx hb hr hlk (by first | exact nar_bz | decide) hw (by omega) (by omega) d_T_begin_22 (⟨by first | (rw [hx3]; exact bz_f bgb_3) | (rw [tx_n hk]; exact bz_f (bgb_f h18)), by first | (rw [hx3, bgO_f bgb_3]; exact hP) | (rw [tx_n hk, bgO_f (bgb_f h18)]; exact hP)⟩)

set_option maxHeartbeats 1000000 in
set_option maxRecDepth 100000 in
theorem c_T_make {l : Launch} {E : Ev} {M : mp_M} {sz : Nat} {σ : SS} {ca na ta : Nat → Nat} (hP : PIC E σ ca na ta M) (hI : INV σ 3) (hN : σ 4 0 < 1290) {x y : Int32} {b : Bool} : MCi l E y_T_make prog_1_method_3_code 5 (some .boolean) 5 111 5 50 [.ref (ca 0), .int x, .int y, .int (bz b)] M sz (fun r M' => r = bz (rmb σ (tx x) (ix y)) ∧ ∃ na' ta', PIC E (mkO σ (tx x) (ix y) b) ca na' ta' M') := by
  refine mc_of R_T rfl [some (.ref (ca 0)), some (.int x), some (.int y), some (.int (bz b)), none] (by decide) (Nat.le_of_ble_eq_true rfl) rfl ?_
  intro p e R s m ag below meth c ls Q A X hAe hQ hR hsz hw hl
  rw [← hAe] at hQ
  obtain ⟨⟨hx, hb, hml, hown, hts⟩, hE, hA, hr, hlk, hnm⟩ := X
  have hK := hE.1
  first | refine x_aload_n hx hb d_T_make_0 hl rfl ?_ | refine x_aload_nQ hx hb d_T_make_0 hl rfl ?_
  refine x_iload_n hx hb d_T_make_1 hl rfl ?_
  refine m_callq (k_V ⟨hx, hb, hml, hown, hts⟩ hE hA hw (c_T_open hP) (ci_T).1 rfl (pic_o hP) (wm1 200 rfl rfl) (wm1 202 rfl rfl) (wmp1 0 rfl) (wm1 1 rfl rfl) (wm1 203 rfl rfl) rfl rfl ar_T_openTransaction ⟨Nat.le_trans (Nat.le_of_ble_eq_true rfl) hR.1, Nat.le_trans (Nat.le_of_ble_eq_true rfl) hR.2.1⟩ rfl hl.1 rfl (Nat.le_of_ble_eq_true rfl) d_T_make_2 ⟨Nat.le_trans (Nat.le_of_ble_eq_true rfl) hR.2.2.1, Nat.le_trans (Nat.le_of_ble_eq_true rfl) hR.2.2.2⟩) hw (mfr_in hw hA) (fun r2 M2 H locs hP2 hw => ?_)
  obtain ⟨rfl, hM2⟩ := hP2
  rw [hM2] at hw
  first | refine x_astore hx hb d_T_make_5 hl (Nat.le_of_ble_eq_true rfl) (lh_k (i := 3) rfl (by first | exact lk_n | exact lk_i | exact lk_r | exact lk_q | exact lk_0)) (fun ls hl => ?_) | refine x_astoreQ hx hb d_T_make_5 hl (Nat.le_of_ble_eq_true rfl) (lh_k (i := 3) rfl (by first | exact lk_n | exact lk_i | exact lk_r | exact lk_q | exact lk_0)) (fun ls hl => ?_)
  first | refine x_aload hx hb d_T_make_7 hl rfl ?_ | refine x_aloadQ hx hb d_T_make_7 hl rfl ?_
  refine x_ifnullQ hx hb d_T_make_9 rfl (fun h9 => ?_) (fun a9 h9 => ?_)
  · have h9 := oT_none h9
    refine lv_iconst (v := nI 0) hx hb d_T_make_21 (by decide) ?_
    exact x_reti hQ hx hb hr hlk (by first | exact nar_bz | decide) hw (by omega) (by omega) d_T_make_22 (⟨by first | (rw [tx_n ht]; exact bz_f (by rw [h18]; decide)) | exact bz_f (rmb_1 h9), na, ta, by first | (rw [tx_n ht, mkO_f h18]; exact hP) | (rw [mkO_f (rmb_1f h9)]; exact hP)⟩)
  · obtain ⟨t, ht, ho, rfl, rfl⟩ := oT_some h9
    rw [h9] at hl
    first | refine x_aload hx hb d_T_make_12 hl rfl ?_ | refine x_aloadQ hx hb d_T_make_12 hl rfl ?_
    refine x_iload_n hx hb d_T_make_14 hl rfl ?_
    refine m_calli (k_V ⟨hx, hb, hml, hown, hts⟩ hE hA hw (c_Tx_room hP hI ht ho) (ci_Tx).1 rfl (pic_j hP ht) (wm1 204 rfl rfl) (wm1 205 rfl rfl) (wm1 206 rfl rfl) (wm1 7 rfl rfl) (wm1 207 rfl rfl) rfl rfl ar_Tx_hasRoomAt ⟨Nat.le_trans (Nat.le_of_ble_eq_true rfl) hR.1, Nat.le_trans (Nat.le_of_ble_eq_true rfl) hR.2.1⟩ rfl hl.1 rfl (Nat.le_of_ble_eq_true rfl) d_T_make_15 ⟨Nat.le_trans (Nat.le_of_ble_eq_true rfl) hR.2.2.1, Nat.le_trans (Nat.le_of_ble_eq_true rfl) hR.2.2.2⟩) hw (mfr_in hw hA) (fun r15 M15 H locs hP15 hw => ?_)
    obtain ⟨rfl, hM15⟩ := hP15
    rw [hM15] at hw
    refine x_if_neB hx hb d_T_make_18 rfl (fun h18 => ?_) (fun h18 => ?_)
    · obtain ⟨q, hq, rfl⟩ := ix_good (rmb_all h18).2.2.1
      rw [ix_n hq] at h18
      first | refine x_aload hx hb d_T_make_23 hl rfl ?_ | refine x_aloadQ hx hb d_T_make_23 hl rfl ?_
      refine x_iload_n hx hb d_T_make_25 hl rfl ?_
      refine m_new (fs := [.int 0, .int 0, .null, .int 0, .int 0, .null, .int 0, .int 0, .int 0, .int 0]) hx hb hts hown hK hw hA ci_N (wm1 103 rfl rfl) (wm1 104 rfl rfl) (wm1 8 rfl rfl) (fun j hj => by rcases (show j = 0 ∨ j = 1 ∨ j = 2 ∨ j = 3 ∨ j = 4 ∨ j = 5 ∨ j = 6 ∨ j = 7 ∨ j = 8 ∨ j = 9 by omega) with rfl | rfl | rfl | rfl | rfl | rfl | rfl | rfl | rfl | rfl <;> rfl) (Nat.le_trans (Nat.le_of_ble_eq_true rfl) hR.2.2.1) (Nat.le_trans (Nat.le_of_ble_eq_true rfl) hR.2.2.2) d_T_make_26 (fun q1 H hq26 hw => ?_)
      have he_q1 := put_he hw
      have hP1 := pic_fresh (e := .inr (3, [.int 0, .int 0, .null, .int 0, .int 0, .null, .int 0, .int 0, .int 0, .int 0])) hP hq26
      first | refine lv_dup hx hb d_T_make_29 rfl ?_ | refine lv_dup hx hb d_T_make_29 (va_rf_c _) ?_
      first | refine x_aload_n hx hb d_T_make_30 hl rfl ?_ | refine x_aload_nQ hx hb d_T_make_30 hl rfl ?_
      refine m_calli (k_V ⟨hx, hb, hml, hown, hts⟩ hE hA hw (c_T_newLine hP1) (ci_T).1 rfl (pic_o hP1) (wm1 221 rfl rfl) (wm1 223 rfl rfl) (wmp1 1 rfl) (wm1 1 rfl rfl) (wm1 224 rfl rfl) rfl rfl ar_T_newLine ⟨Nat.le_trans (Nat.le_of_ble_eq_true rfl) hR.1, Nat.le_trans (Nat.le_of_ble_eq_true rfl) hR.2.1⟩ rfl hl.1 rfl (Nat.le_of_ble_eq_true rfl) d_T_make_31 ⟨Nat.le_trans (Nat.le_of_ble_eq_true rfl) hR.2.2.1, Nat.le_trans (Nat.le_of_ble_eq_true rfl) hR.2.2.2⟩) hw (mfr_in hw hA) (fun r31 M31 H locs hP31 hw => ?_)
      obtain ⟨rfl, hM31⟩ := hP31
      have hne := ne_of (pic_o hP) hq26
      have he_q1 : M31 q1 = some (.inr (3, [.int 0, .int 0, .null, .int 0, .int 0, .null, .int 0, .int 0, .int 0, .int 0])) := by rw [hM31]; exact (mp_up_n (fun z => hne z.symm)).trans he_q1
      have hO1 : M31 (ca 0) = some (.inr (0, cT (sp σ 5 0 (σ 5 0 + 1)) ca)) := by rw [hM31]; exact mp_up_s
      refine x_iload_n hx hb d_T_make_34 hl rfl ?_
      first | refine x_aload_n hx hb d_T_make_35 hl rfl ?_ | refine x_aload_nQ hx hb d_T_make_35 hl rfl ?_
      refine m_get hx hb hts hown hK hw ci_T hO1 3 (by decide) (wm1 163 rfl rfl) rfl d_T_make_36 ?_
      refine m_callv (k_I ⟨hx, hb, hml, hown, hts⟩ hE hA hw (c_N_init he_q1) (wm1 105 rfl rfl) (wm1 106 rfl rfl) (wm1 8 rfl rfl) (wm1 107 rfl rfl) rfl rfl rfl ar_N_init ⟨Nat.le_trans (Nat.le_of_ble_eq_true rfl) hR.1, Nat.le_trans (Nat.le_of_ble_eq_true rfl) hR.2.1⟩ rfl hl.1 rfl (Nat.le_of_ble_eq_true rfl) d_T_make_39 ⟨Nat.le_trans (Nat.le_of_ble_eq_true rfl) hR.2.2.1, Nat.le_trans (Nat.le_of_ble_eq_true rfl) hR.2.2.2⟩) hw (mfr_in hw hA) (fun M39 H locs hP39 hw => ?_)
      rw [hM31, mp_sw] at hP39
      have hP3 := pic_make (b := b) hP hI ht hq26
      rw [← hP39] at hP3
      obtain ⟨i1, i2, i3⟩ := mk4_inv hI h18 (if_12 b)
      refine m_callv (k_V ⟨hx, hb, hml, hown, hts⟩ hE hA hw (c_Tx_add hP3 ht (n := σ 4 0 + 1) va_same (rmb_all h18).2.2.1 (by omega) (by rw [mk3_4]; exact Nat.le_refl _) i1 i2 i3) (ci_Tx).1 rfl (pic_j hP3 ht) (wm1 225 rfl rfl) (wm1 226 rfl rfl) (wm1 227 rfl rfl) (wm1 7 rfl rfl) (wm1 228 rfl rfl) rfl rfl ar_Tx_add ⟨Nat.le_trans (Nat.le_of_ble_eq_true rfl) hR.1, Nat.le_trans (Nat.le_of_ble_eq_true rfl) hR.2.1⟩ rfl hl.1 rfl (Nat.le_of_ble_eq_true rfl) d_T_make_42 ⟨Nat.le_trans (Nat.le_of_ble_eq_true rfl) hR.2.2.1, Nat.le_trans (Nat.le_of_ble_eq_true rfl) hR.2.2.2⟩) hw (mfr_in hw hA) (fun M42 H locs hP42 hw => ?_)
      obtain ⟨na1, ta1, hP4, hk4⟩ := hP42
      refine lv_iconst (v := nI 1) hx hb d_T_make_45 (by decide) ?_
      exact x_reti hQ hx hb hr hlk (by first | exact nar_bz | decide) hw (by omega) (by omega) d_T_make_46 (⟨by rw [tx_n ht, ix_n hq]; exact bz_t h18, na1, ta1, by rw [tx_n ht, ix_n hq, mkO_t h18]; exact hP4⟩)
    · refine lv_iconst (v := nI 0) hx hb d_T_make_21 (by decide) ?_
      exact x_reti hQ hx hb hr hlk (by first | exact nar_bz | decide) hw (by omega) (by omega) d_T_make_22 (⟨by first | (rw [tx_n ht]; exact bz_f (by rw [h18]; decide)) | exact bz_f (rmb_1 h9), na, ta, by first | (rw [tx_n ht, mkO_f h18]; exact hP) | (rw [mkO_f (rmb_1f h9)]; exact hP)⟩)

set_option maxHeartbeats 1000000 in
set_option maxRecDepth 100000 in
theorem c_T_remove {l : Launch} {E : Ev} {M : mp_M} {sz : Nat} {σ : SS} {ca na ta : Nat → Nat} (hP : PIC E σ ca na ta M) (hI : INV σ 3) (hN : σ 4 0 < 1290) {x y : Int32} : MCi l E y_T_remove prog_1_method_4_code 4 (some .boolean) 4 89 4 40 [.ref (ca 0), .int x, .int y] M sz (fun r M' => r = bz (rvb σ (tx x) (ix y)) ∧ ∃ na' ta', PIC E (rmO σ (tx x) (ix y)) ca na' ta' M') := by
  refine mc_of R_T rfl [some (.ref (ca 0)), some (.int x), some (.int y), none] (by decide) (Nat.le_of_ble_eq_true rfl) rfl ?_
  intro p e R s m ag below meth c ls Q A X hAe hQ hR hsz hw hl
  rw [← hAe] at hQ
  obtain ⟨⟨hx, hb, hml, hown, hts⟩, hE, hA, hr, hlk, hnm⟩ := X
  have hK := hE.1
  first | refine x_aload_n hx hb d_T_remove_0 hl rfl ?_ | refine x_aload_nQ hx hb d_T_remove_0 hl rfl ?_
  refine x_iload_n hx hb d_T_remove_1 hl rfl ?_
  refine m_callq (k_V ⟨hx, hb, hml, hown, hts⟩ hE hA hw (c_T_open hP) (ci_T).1 rfl (pic_o hP) (wm1 200 rfl rfl) (wm1 202 rfl rfl) (wmp1 0 rfl) (wm1 1 rfl rfl) (wm1 203 rfl rfl) rfl rfl ar_T_openTransaction ⟨Nat.le_trans (Nat.le_of_ble_eq_true rfl) hR.1, Nat.le_trans (Nat.le_of_ble_eq_true rfl) hR.2.1⟩ rfl hl.1 rfl (Nat.le_of_ble_eq_true rfl) d_T_remove_2 ⟨Nat.le_trans (Nat.le_of_ble_eq_true rfl) hR.2.2.1, Nat.le_trans (Nat.le_of_ble_eq_true rfl) hR.2.2.2⟩) hw (mfr_in hw hA) (fun r2 M2 H locs hP2 hw => ?_)
  obtain ⟨rfl, hM2⟩ := hP2
  rw [hM2] at hw
  first | refine x_astore_n hx hb d_T_remove_5 hl (Nat.le_of_ble_eq_true rfl) (lh_k (i := 2) rfl (by first | exact lk_n | exact lk_i | exact lk_r | exact lk_q | exact lk_0)) (fun ls hl => ?_) | refine x_astore_nQ hx hb d_T_remove_5 hl (Nat.le_of_ble_eq_true rfl) (lh_k (i := 2) rfl (by first | exact lk_n | exact lk_i | exact lk_r | exact lk_q | exact lk_0)) (fun ls hl => ?_)
  first | refine x_aload_n hx hb d_T_remove_6 hl rfl ?_ | refine x_aload_nQ hx hb d_T_remove_6 hl rfl ?_
  refine x_ifnullQ hx hb d_T_remove_7 rfl (fun h7 => ?_) (fun a7 h7 => ?_)
  · have h7 := oT_none h7
    refine lv_iconst (v := nI 0) hx hb d_T_remove_25 (by decide) ?_
    exact x_reti hQ hx hb hr hlk (by first | exact nar_bz | decide) hw (by omega) (by omega) d_T_remove_26 (⟨by first | exact bz_f (rvb_1 h7) | (rw [ix_0]; exact bz_f (rvb_2 rfl)) | (rw [tx_n ht]; exact bz_f (rvb_3 h22)), na, ta, by first | (rw [rmO_f (rvb_1 h7)]; exact hP) | (rw [ix_0, rmO_f (rvb_2 rfl)]; exact hP) | (rw [tx_n ht, rmO_f (rvb_3 h22)]; exact hP)⟩)
  · obtain ⟨t, ht, ho, rfl, rfl⟩ := oT_some h7
    rw [h7] at hl
    refine x_iload_n hx hb d_T_remove_10 hl rfl ?_
    refine lv_if_eq hx hb d_T_remove_11 rfl (fun h11 => ?_) (fun h11 => ?_)
    · subst h11
      refine lv_iconst (v := nI 0) hx hb d_T_remove_25 (by decide) ?_
      exact x_reti hQ hx hb hr hlk (by first | exact nar_bz | decide) hw (by omega) (by omega) d_T_remove_26 (⟨by first | exact bz_f (rvb_1 h7) | (rw [ix_0]; exact bz_f (rvb_2 rfl)) | (rw [tx_n ht]; exact bz_f (rvb_3 h22)), na, ta, by first | (rw [rmO_f (rvb_1 h7)]; exact hP) | (rw [ix_0, rmO_f (rvb_2 rfl)]; exact hP) | (rw [tx_n ht, rmO_f (rvb_3 h22)]; exact hP)⟩)
    · first | refine x_aload_n hx hb d_T_remove_14 hl rfl ?_ | refine x_aload_nQ hx hb d_T_remove_14 hl rfl ?_
      refine m_get hx hb hts hown hK hw ci_Tx (pic_j hP ht) 0 (by decide) (wm1 91 rfl rfl) rfl d_T_remove_15 ?_
      refine x_iload_n hx hb d_T_remove_18 hl rfl ?_
      refine m_callq (k_V ⟨hx, hb, hml, hown, hts⟩ hE hA hw (c_Tr_at (pic_t hP (k := 16 + t) (by omega)) (pic_a hP (k := 16 + t) (by omega))) (ci_Tr).1 rfl (pic_t hP (k := 16 + t) (by omega)) (wm2 8 rfl rfl) (wm1 212 rfl rfl) (wm1 213 rfl rfl) (wm1 6 rfl rfl) (wm1 214 rfl rfl) rfl rfl ar_Tr_at ⟨Nat.le_trans (Nat.le_of_ble_eq_true rfl) hR.1, Nat.le_trans (Nat.le_of_ble_eq_true rfl) hR.2.1⟩ rfl hl.1 rfl (Nat.le_of_ble_eq_true rfl) d_T_remove_19 ⟨Nat.le_trans (Nat.le_of_ble_eq_true rfl) hR.2.2.1, Nat.le_trans (Nat.le_of_ble_eq_true rfl) hR.2.2.2⟩) hw (mfr_in hw hA) (fun r19 M19 H locs hP19 hw => ?_)
      obtain ⟨rfl, hM19⟩ := hP19
      rw [hM19] at hw
      rw [tat_row (pic_z hP) (k := 16 + t) (by omega)]
      refine x_ifnonnullQ hx hb d_T_remove_22 rfl (fun a22 h22 => ?_) (fun h22 => ?_)
      · obtain ⟨h0, rfl⟩ := nq_some h22
        have hg := rat_good (σ := σ) (k := 16 + t) (p := ix y) (by omega)
        obtain ⟨q, hq, rfl⟩ := ix_good hg
        rw [ix_n hq] at hg h0
        have hq0 : 0 < q := by
          rcases Nat.eq_zero_or_pos q with z | z
          · exact absurd (by rw [z]; rfl) h11
          · exact z
        have hc : rvb σ t q = true := rvb_t (opb_t ht ho) (by omega) (by omega)
        first | refine x_aload_n hx hb d_T_remove_27 hl rfl ?_ | refine x_aload_nQ hx hb d_T_remove_27 hl rfl ?_
        refine m_get hx hb hts hown hK hw ci_Tx (pic_j hP ht) 0 (by decide) (wm1 91 rfl rfl) rfl d_T_remove_28 ?_
        refine x_iload_n hx hb d_T_remove_31 hl rfl ?_
        refine m_callv (k_V ⟨hx, hb, hml, hown, hts⟩ hE hA hw (c_Tr_clear hq (pic_u hP ht) (pic_a hP (k := 16 + t) (by omega))) (ci_Tr).1 rfl (pic_u hP ht) (wm2 9 rfl rfl) (wm2 10 rfl rfl) (wm2 11 rfl rfl) (wm1 6 rfl rfl) (wm2 12 rfl rfl) rfl rfl ar_Tr_clear ⟨Nat.le_trans (Nat.le_of_ble_eq_true rfl) hR.1, Nat.le_trans (Nat.le_of_ble_eq_true rfl) hR.2.1⟩ rfl hl.1 rfl (Nat.le_of_ble_eq_true rfl) d_T_remove_32 ⟨Nat.le_trans (Nat.le_of_ble_eq_true rfl) hR.2.2.1, Nat.le_trans (Nat.le_of_ble_eq_true rfl) hR.2.2.2⟩) hw (mfr_in hw hA) (fun M32 H locs hP32 hw => ?_)
        have hP2 := pic_clr (q := q) hP ht
        rw [← hP32] at hP2
        first | refine x_aload_n hx hb d_T_remove_35 hl rfl ?_ | refine x_aload_nQ hx hb d_T_remove_35 hl rfl ?_
        refine x_iload_n hx hb d_T_remove_36 hl rfl ?_
        refine m_calli (k_S ⟨hx, hb, hml, hown, hts⟩ hE hA hw (c_P_parent (by omega)) (wm2 13 rfl rfl) (wm1 216 rfl rfl) (wm1 10 rfl rfl) (wm1 217 rfl rfl) rfl rfl ar_P_parentOf ⟨Nat.le_trans (Nat.le_of_ble_eq_true rfl) hR.1, Nat.le_trans (Nat.le_of_ble_eq_true rfl) hR.2.1⟩ rfl hl.1 rfl (Nat.le_of_ble_eq_true rfl) d_T_remove_37 ⟨Nat.le_trans (Nat.le_of_ble_eq_true rfl) hR.2.2.1, Nat.le_trans (Nat.le_of_ble_eq_true rfl) hR.2.2.2⟩) hw (mfr_in hw hA) (fun r37 M37 H locs hP37 hw => ?_)
        obtain ⟨rfl, hM37⟩ := hP37
        rw [hM37] at hw
        refine m_callv (k_V ⟨hx, hb, hml, hown, hts⟩ hE hA hw (c_Tx_touch hP2 (inv_clr hI ht ho hg hq0) ht (by rw [clr_o (by decide)]; exact ho) (clr_pp hI ht ho hg hq0 h0)) (ci_Tx).1 rfl (pic_j hP2 ht) (wm2 14 rfl rfl) (wm1 231 rfl rfl) (wm1 232 rfl rfl) (wm1 7 rfl rfl) (wm1 233 rfl rfl) rfl rfl ar_Tx_touch ⟨Nat.le_trans (Nat.le_of_ble_eq_true rfl) hR.1, Nat.le_trans (Nat.le_of_ble_eq_true rfl) hR.2.1⟩ rfl hl.1 rfl (Nat.le_of_ble_eq_true rfl) d_T_remove_40 ⟨Nat.le_trans (Nat.le_of_ble_eq_true rfl) hR.2.2.1, Nat.le_trans (Nat.le_of_ble_eq_true rfl) hR.2.2.2⟩) hw (mfr_in hw hA) (fun M40 H locs hP40 hw => ?_)
        obtain ⟨na1, ta1, hP3, hk3⟩ := hP40
        refine lv_iconst (v := nI 1) hx hb d_T_remove_43 (by decide) ?_
        exact x_reti hQ hx hb hr hlk (by first | exact nar_bz | decide) hw (by omega) (by omega) d_T_remove_44 (⟨by rw [tx_n ht, ix_n hq]; exact bz_t hc, na1, ta1, by rw [tx_n ht, ix_n hq, rmO_t hc]; exact hP3⟩)
      · have h22 := nq_none h22
        refine lv_iconst (v := nI 0) hx hb d_T_remove_25 (by decide) ?_
        exact x_reti hQ hx hb hr hlk (by first | exact nar_bz | decide) hw (by omega) (by omega) d_T_remove_26 (⟨by first | exact bz_f (rvb_1 h7) | (rw [ix_0]; exact bz_f (rvb_2 rfl)) | (rw [tx_n ht]; exact bz_f (rvb_3 h22)), na, ta, by first | (rw [rmO_f (rvb_1 h7)]; exact hP) | (rw [ix_0, rmO_f (rvb_2 rfl)]; exact hP) | (rw [tx_n ht, rmO_f (rvb_3 h22)]; exact hP)⟩)

set_option maxHeartbeats 1000000 in
set_option maxRecDepth 100000 in
theorem c_T_write {l : Launch} {E : Ev} {M : mp_M} {sz : Nat} {σ : SS} {ca na ta : Nat → Nat} (hP : PIC E σ ca na ta M) (hI : INV σ 3) (hN : σ 4 0 < 1290) {x y z : Int32} {D : Nat} (hD : D < 2 ^ 64) : MCi l E y_T_write prog_1_method_6_code 7 (some .boolean) 5 112 5 42 [.ref (ca 0), .int x, .int y, .long (lN D), .int z] M sz (fun r M' => r = bz (wrb σ (tx x) (ix y) (zn z)) ∧ ∃ na' ta', PIC E (wrO σ (tx x) (ix y) D (zn z)) ca na' ta' M') := by
  refine mc_of R_T rfl [some (.ref (ca 0)), some (.int x), some (.int y), some (.long (lN D)), none, some (.int z), none] (by decide) (Nat.le_of_ble_eq_true rfl) rfl ?_
  intro p e R s m ag below meth c ls Q A X hAe hQ hR hsz hw hl
  rw [← hAe] at hQ
  obtain ⟨⟨hx, hb, hml, hown, hts⟩, hE, hA, hr, hlk, hnm⟩ := X
  have hK := hE.1
  first | refine x_aload_n hx hb d_T_write_0 hl rfl ?_ | refine x_aload_nQ hx hb d_T_write_0 hl rfl ?_
  refine x_iload_n hx hb d_T_write_1 hl rfl ?_
  refine m_callq (k_V ⟨hx, hb, hml, hown, hts⟩ hE hA hw (c_T_open hP) (ci_T).1 rfl (pic_o hP) (wm1 200 rfl rfl) (wm1 202 rfl rfl) (wmp1 0 rfl) (wm1 1 rfl rfl) (wm1 203 rfl rfl) rfl rfl ar_T_openTransaction ⟨Nat.le_trans (Nat.le_of_ble_eq_true rfl) hR.1, Nat.le_trans (Nat.le_of_ble_eq_true rfl) hR.2.1⟩ rfl hl.1 rfl (Nat.le_of_ble_eq_true rfl) d_T_write_2 ⟨Nat.le_trans (Nat.le_of_ble_eq_true rfl) hR.2.2.1, Nat.le_trans (Nat.le_of_ble_eq_true rfl) hR.2.2.2⟩) hw (mfr_in hw hA) (fun r2 M2 H locs hP2 hw => ?_)
  obtain ⟨rfl, hM2⟩ := hP2
  rw [hM2] at hw
  first | refine x_astore hx hb d_T_write_5 hl (Nat.le_of_ble_eq_true rfl) (lh_k (i := 5) rfl (by first | exact lk_n | exact lk_i | exact lk_r | exact lk_q | exact lk_0)) (fun ls hl => ?_) | refine x_astoreQ hx hb d_T_write_5 hl (Nat.le_of_ble_eq_true rfl) (lh_k (i := 5) rfl (by first | exact lk_n | exact lk_i | exact lk_r | exact lk_q | exact lk_0)) (fun ls hl => ?_)
  first | refine x_aload hx hb d_T_write_7 hl rfl ?_ | refine x_aloadQ hx hb d_T_write_7 hl rfl ?_
  refine x_ifnullQ hx hb d_T_write_9 rfl (fun h9 => ?_) (fun a9 h9 => ?_)
  · have h9 := oT_none h9
    refine lv_iconst (v := nI 0) hx hb d_T_write_40 (by decide) ?_
    exact x_reti hQ hx hb hr hlk (by first | exact nar_bz | decide) hw (by omega) (by omega) d_T_write_41 (⟨by first | exact bz_f (wrb_1 h9) | (rw [hz3]; exact bz_f (wrb_2 rfl)) | (rw [tx_n ht]; exact bz_f (wrb_4 h37)), na, ta, by first | (rw [wrO_f (wrb_1 h9)]; exact hP) | (rw [hz3, wrO_f (wrb_2 rfl)]; exact hP) | (rw [tx_n ht, wrO_f (wrb_4 h37)]; exact hP)⟩)
  · obtain ⟨t, ht, ho, rfl, rfl⟩ := oT_some h9
    rw [h9] at hl
    refine x_iload hx hb d_T_write_12 hl rfl ?_
    refine lv_if_lt hx hb d_T_write_14 rfl (fun h14 => ?_) (fun h14 => ?_)
    · have hz3 : zn z = 13 := zn_lt h14
      refine lv_iconst (v := nI 0) hx hb d_T_write_40 (by decide) ?_
      exact x_reti hQ hx hb hr hlk (by first | exact nar_bz | decide) hw (by omega) (by omega) d_T_write_41 (⟨by first | exact bz_f (wrb_1 h9) | (rw [hz3]; exact bz_f (wrb_2 rfl)) | (rw [tx_n ht]; exact bz_f (wrb_4 h37)), na, ta, by first | (rw [wrO_f (wrb_1 h9)]; exact hP) | (rw [hz3, wrO_f (wrb_2 rfl)]; exact hP) | (rw [tx_n ht, wrO_f (wrb_4 h37)]; exact hP)⟩)
    · refine x_iload hx hb d_T_write_17 hl rfl ?_
      refine lv_bipush (v := nI 12) hx hb d_T_write_19 (by decide) ?_
      refine lv_icmp_gt hx hb d_T_write_21 rfl (fun h21 => ?_) (fun h21 => ?_)
      · have hz3 : zn z = 13 := zn_gt h21
        refine lv_iconst (v := nI 0) hx hb d_T_write_40 (by decide) ?_
        exact x_reti hQ hx hb hr hlk (by first | exact nar_bz | decide) hw (by omega) (by omega) d_T_write_41 (⟨by first | exact bz_f (wrb_1 h9) | (rw [hz3]; exact bz_f (wrb_2 rfl)) | (rw [tx_n ht]; exact bz_f (wrb_4 h37)), na, ta, by first | (rw [wrO_f (wrb_1 h9)]; exact hP) | (rw [hz3, wrO_f (wrb_2 rfl)]; exact hP) | (rw [tx_n ht, wrO_f (wrb_4 h37)]; exact hP)⟩)
      · obtain ⟨zz, hz13, rfl⟩ := nI_of2b (M := nI 12) (n := 12) (by decide) h14 h21
        first | refine x_aload hx hb d_T_write_24 hl rfl ?_ | refine x_aloadQ hx hb d_T_write_24 hl rfl ?_
        refine m_get hx hb hts hown hK hw ci_Tx (pic_j hP ht) 0 (by decide) (wm1 91 rfl rfl) rfl d_T_write_26 ?_
        refine x_iload_n hx hb d_T_write_29 hl rfl ?_
        refine m_callq (k_V ⟨hx, hb, hml, hown, hts⟩ hE hA hw (c_Tr_at (pic_t hP (k := 16 + t) (by omega)) (pic_a hP (k := 16 + t) (by omega))) (ci_Tr).1 rfl (pic_t hP (k := 16 + t) (by omega)) (wm2 8 rfl rfl) (wm1 212 rfl rfl) (wm1 213 rfl rfl) (wm1 6 rfl rfl) (wm1 214 rfl rfl) rfl rfl ar_Tr_at ⟨Nat.le_trans (Nat.le_of_ble_eq_true rfl) hR.1, Nat.le_trans (Nat.le_of_ble_eq_true rfl) hR.2.1⟩ rfl hl.1 rfl (Nat.le_of_ble_eq_true rfl) d_T_write_30 ⟨Nat.le_trans (Nat.le_of_ble_eq_true rfl) hR.2.2.1, Nat.le_trans (Nat.le_of_ble_eq_true rfl) hR.2.2.2⟩) hw (mfr_in hw hA) (fun r30 M30 H locs hP30 hw => ?_)
        obtain ⟨rfl, hM30⟩ := hP30
        rw [hM30] at hw
        rw [tat_row (pic_z hP) (k := 16 + t) (by omega)]
        refine m_calli (k_S ⟨hx, hb, hml, hown, hts⟩ hE hA hw (c_T_kind (kk := σ 6 (rat σ (16 + t) (ix y))) (kind_0 hI) (kind_1 hP hI)) (wm2 45 rfl rfl) (wm1 219 rfl rfl) (wm1 1 rfl rfl) (wm1 220 rfl rfl) rfl rfl ar_T_kindOf ⟨Nat.le_trans (Nat.le_of_ble_eq_true rfl) hR.1, Nat.le_trans (Nat.le_of_ble_eq_true rfl) hR.2.1⟩ rfl hl.1 rfl (Nat.le_of_ble_eq_true rfl) d_T_write_33 ⟨Nat.le_trans (Nat.le_of_ble_eq_true rfl) hR.2.2.1, Nat.le_trans (Nat.le_of_ble_eq_true rfl) hR.2.2.2⟩) hw (mfr_in hw hA) (fun r33 M33 H locs hP33 hw => ?_)
        obtain ⟨rfl, hM33⟩ := hP33
        rw [hM33] at hw
        refine lv_iconst (v := nI 2) hx hb d_T_write_36 (by decide) ?_
        have hk9 := kind_le hI (rat_le (pic_z hP) (k := 16 + t) (q := ix y))
        refine x_icmp_eq hx hb d_T_write_37 rfl (by omega) (by omega) (fun h37 => ?_) (fun h37 => ?_)
        · have h0 : 0 < rat σ (16 + t) (ix y) := kind_p2 hI h37
          have hc : wrb σ t (ix y) zz = true := wrb_t (opb_t ht ho) (by omega) (by omega) h37
          have hg := rat_good (σ := σ) (k := 16 + t) (p := ix y) (by omega)
          obtain ⟨q, hq, rfl⟩ := ix_good hg
          rw [ix_n hq] at hg h0 hc
          first | refine x_aload hx hb d_T_write_42 hl rfl ?_ | refine x_aloadQ hx hb d_T_write_42 hl rfl ?_
          refine x_iload_n hx hb d_T_write_44 hl rfl ?_
          refine m_new (fs := [.long 0, .int 0]) hx hb hts hown hK hw hA ci_Te (wm1 57 rfl rfl) (wm1 58 rfl rfl) (wm1 5 rfl rfl) (fun j hj => by rcases (show j = 0 ∨ j = 1 by omega) with rfl | rfl <;> rfl) (Nat.le_trans (Nat.le_of_ble_eq_true rfl) hR.2.2.1) (Nat.le_trans (Nat.le_of_ble_eq_true rfl) hR.2.2.2) d_T_write_45 (fun q1 H hq45 hw => ?_)
          have he_q1 := put_he hw
          first | refine lv_dup hx hb d_T_write_48 rfl ?_ | refine lv_dup hx hb d_T_write_48 (va_rf_c _) ?_
          refine x_lload_n hx hb d_T_write_49 hl rfl ?_
          refine x_iload hx hb d_T_write_50 hl rfl ?_
          refine m_callv (k_I ⟨hx, hb, hml, hown, hts⟩ hE hA hw (c_Te_init he_q1 hD (by omega)) (wm1 59 rfl rfl) (wm1 60 rfl rfl) (wm1 5 rfl rfl) (wm1 61 rfl rfl) rfl rfl rfl ar_Te_init ⟨Nat.le_trans (Nat.le_of_ble_eq_true rfl) hR.1, Nat.le_trans (Nat.le_of_ble_eq_true rfl) hR.2.1⟩ rfl hl.1 rfl (Nat.le_of_ble_eq_true rfl) d_T_write_52 ⟨Nat.le_trans (Nat.le_of_ble_eq_true rfl) hR.2.2.1, Nat.le_trans (Nat.le_of_ble_eq_true rfl) hR.2.2.2⟩) hw (mfr_in hw hA) (fun M52 H locs hP52 hw => ?_)
          rw [mp_up_up] at hP52
          have hP1 := pic_fresh (e := .inr (4, [.long (lN (D % 2 ^ (4 * zz))), .int (nI zz)])) hP hq45
          rw [← hP52] at hP1
          have hb1 : M52 q1 = some (txf (D % 2 ^ (4 * zz)) zz) := by rw [hP52]; exact mp_up_s
          refine m_callv (k_V ⟨hx, hb, hml, hown, hts⟩ hE hA hw (c_Tx_over hP1 hI ht ho h0 hb1 (by omega)) (ci_Tx).1 rfl (pic_j hP1 ht) (wm2 46 rfl rfl) (wm2 47 rfl rfl) (wm2 48 rfl rfl) (wm1 7 rfl rfl) (wm2 49 rfl rfl) rfl rfl ar_Tx_overwrite ⟨Nat.le_trans (Nat.le_of_ble_eq_true rfl) hR.1, Nat.le_trans (Nat.le_of_ble_eq_true rfl) hR.2.1⟩ rfl hl.1 rfl (Nat.le_of_ble_eq_true rfl) d_T_write_55 ⟨Nat.le_trans (Nat.le_of_ble_eq_true rfl) hR.2.2.1, Nat.le_trans (Nat.le_of_ble_eq_true rfl) hR.2.2.2⟩) hw (mfr_in hw hA) (fun M55 H locs hP55 hw => ?_)
          obtain ⟨na1, ta1, hP3⟩ := hP55
          refine lv_iconst (v := nI 1) hx hb d_T_write_58 (by decide) ?_
          exact x_reti hQ hx hb hr hlk (by first | exact nar_bz | decide) hw (by omega) (by omega) d_T_write_59 (⟨by rw [tx_n ht, ix_n hq, zn_n (by omega)]; exact bz_t hc, na1, ta1, by rw [tx_n ht, ix_n hq, zn_n (by omega), wrO_t hc]; exact hP3⟩)
        · refine lv_iconst (v := nI 0) hx hb d_T_write_40 (by decide) ?_
          exact x_reti hQ hx hb hr hlk (by first | exact nar_bz | decide) hw (by omega) (by omega) d_T_write_41 (⟨by first | exact bz_f (wrb_1 h9) | (rw [hz3]; exact bz_f (wrb_2 rfl)) | (rw [tx_n ht]; exact bz_f (wrb_4 h37)), na, ta, by first | (rw [wrO_f (wrb_1 h9)]; exact hP) | (rw [hz3, wrO_f (wrb_2 rfl)]; exact hP) | (rw [tx_n ht, wrO_f (wrb_4 h37)]; exact hP)⟩)
