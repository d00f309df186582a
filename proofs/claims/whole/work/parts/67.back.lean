theorem d_N_ancestor_0 : decode prog_3_method_4_code 0 = .ok (.aload_n 0, 1) := by decide +kernel
theorem d_N_ancestor_1 : decode prog_3_method_4_code 1 = .ok (.astore_n 2, 1) := by decide +kernel
theorem d_N_ancestor_2 : decode prog_3_method_4_code 2 = .ok (.iconst 0, 1) := by decide +kernel
theorem d_N_ancestor_3 : decode prog_3_method_4_code 3 = .ok (.istore_n 3, 1) := by decide +kernel
theorem d_N_ancestor_4 : decode prog_3_method_4_code 4 = .ok (.iload_n 3, 1) := by decide +kernel
theorem d_N_ancestor_5 : decode prog_3_method_4_code 5 = .ok (.iload_n 1, 1) := by decide +kernel
theorem d_N_ancestor_6 : decode prog_3_method_4_code 6 = .ok (.if_icmp .ge 18, 3) := by decide +kernel
theorem d_N_ancestor_9 : decode prog_3_method_4_code 9 = .ok (.aload_n 2, 1) := by decide +kernel
theorem d_N_ancestor_10 : decode prog_3_method_4_code 10 = .ok (.ifnull 14, 3) := by decide +kernel
theorem d_N_ancestor_13 : decode prog_3_method_4_code 13 = .ok (.aload_n 2, 1) := by decide +kernel
theorem d_N_ancestor_14 : decode prog_3_method_4_code 14 = .ok (.getfield 18, 3) := by decide +kernel
theorem d_N_ancestor_17 : decode prog_3_method_4_code 17 = .ok (.astore_n 2, 1) := by decide +kernel
theorem d_N_ancestor_18 : decode prog_3_method_4_code 18 = .ok (.iinc 3 1, 3) := by decide +kernel
theorem d_N_ancestor_21 : decode prog_3_method_4_code 21 = .ok (.goto (-17), 3) := by decide +kernel
theorem d_N_ancestor_24 : decode prog_3_method_4_code 24 = .ok (.aload_n 2, 1) := by decide +kernel
theorem d_N_ancestor_25 : decode prog_3_method_4_code 25 = .ok (.areturn, 1) := by decide +kernel

theorem d_Tr_copyAbove_0 : decode prog_8_method_8_code 0 = .ok (.iload_n 1, 1) := by decide +kernel
theorem d_Tr_copyAbove_1 : decode prog_8_method_8_code 1 = .ok (.istore_n 3, 1) := by decide +kernel
theorem d_Tr_copyAbove_2 : decode prog_8_method_8_code 2 = .ok (.iload_n 1, 1) := by decide +kernel
theorem d_Tr_copyAbove_3 : decode prog_8_method_8_code 3 = .ok (.invokestatic 31, 3) := by decide +kernel
theorem d_Tr_copyAbove_6 : decode prog_8_method_8_code 6 = .ok (.istore 4, 2) := by decide +kernel
theorem d_Tr_copyAbove_8 : decode prog_8_method_8_code 8 = .ok (.iload 4, 2) := by decide +kernel
theorem d_Tr_copyAbove_10 : decode prog_8_method_8_code 10 = .ok (.ifCond .le 46, 3) := by decide +kernel
theorem d_Tr_copyAbove_13 : decode prog_8_method_8_code 13 = .ok (.aload_n 0, 1) := by decide +kernel
theorem d_Tr_copyAbove_14 : decode prog_8_method_8_code 14 = .ok (.iload_n 3, 1) := by decide +kernel
theorem d_Tr_copyAbove_15 : decode prog_8_method_8_code 15 = .ok (.invokevirtual 41, 3) := by decide +kernel
theorem d_Tr_copyAbove_18 : decode prog_8_method_8_code 18 = .ok (.astore 5, 2) := by decide +kernel
theorem d_Tr_copyAbove_20 : decode prog_8_method_8_code 20 = .ok (.aload 5, 2) := by decide +kernel
theorem d_Tr_copyAbove_22 : decode prog_8_method_8_code 22 = .ok (.ifnull 23, 3) := by decide +kernel
theorem d_Tr_copyAbove_25 : decode prog_8_method_8_code 25 = .ok (.aload 5, 2) := by decide +kernel
theorem d_Tr_copyAbove_27 : decode prog_8_method_8_code 27 = .ok (.getfield 45, 3) := by decide +kernel
theorem d_Tr_copyAbove_30 : decode prog_8_method_8_code 30 = .ok (.iconst (-1), 1) := by decide +kernel
theorem d_Tr_copyAbove_31 : decode prog_8_method_8_code 31 = .ok (.if_icmp .eq 14, 3) := by decide +kernel
theorem d_Tr_copyAbove_34 : decode prog_8_method_8_code 34 = .ok (.aload 5, 2) := by decide +kernel
theorem d_Tr_copyAbove_36 : decode prog_8_method_8_code 36 = .ok (.getfield 49, 3) := by decide +kernel
theorem d_Tr_copyAbove_39 : decode prog_8_method_8_code 39 = .ok (.iload_n 2, 1) := by decide +kernel
theorem d_Tr_copyAbove_40 : decode prog_8_method_8_code 40 = .ok (.if_icmp .ne 5, 3) := by decide +kernel
theorem d_Tr_copyAbove_43 : decode prog_8_method_8_code 43 = .ok (.iload_n 3, 1) := by decide +kernel
theorem d_Tr_copyAbove_44 : decode prog_8_method_8_code 44 = .ok (.ireturn, 1) := by decide +kernel
theorem d_Tr_copyAbove_45 : decode prog_8_method_8_code 45 = .ok (.iload_n 3, 1) := by decide +kernel
theorem d_Tr_copyAbove_46 : decode prog_8_method_8_code 46 = .ok (.invokestatic 52, 3) := by decide +kernel
theorem d_Tr_copyAbove_49 : decode prog_8_method_8_code 49 = .ok (.istore_n 3, 1) := by decide +kernel
theorem d_Tr_copyAbove_50 : decode prog_8_method_8_code 50 = .ok (.iinc 4 (-1), 3) := by decide +kernel
theorem d_Tr_copyAbove_53 : decode prog_8_method_8_code 53 = .ok (.goto (-45), 3) := by decide +kernel
theorem d_Tr_copyAbove_56 : decode prog_8_method_8_code 56 = .ok (.iconst (-1), 1) := by decide +kernel
theorem d_Tr_copyAbove_57 : decode prog_8_method_8_code 57 = .ok (.ireturn, 1) := by decide +kernel

theorem d_T_isOnLine_0 : decode prog_1_method_26_code 0 = .ok (.aload_n 0, 1) := by decide +kernel
theorem d_T_isOnLine_1 : decode prog_1_method_26_code 1 = .ok (.iload_n 1, 1) := by decide +kernel
theorem d_T_isOnLine_2 : decode prog_1_method_26_code 2 = .ok (.invokevirtual 105, 3) := by decide +kernel
theorem d_T_isOnLine_5 : decode prog_1_method_26_code 5 = .ok (.ifCond .eq 16, 3) := by decide +kernel
theorem d_T_isOnLine_8 : decode prog_1_method_26_code 8 = .ok (.aload_n 0, 1) := by decide +kernel
theorem d_T_isOnLine_9 : decode prog_1_method_26_code 9 = .ok (.getfield 11, 3) := by decide +kernel
theorem d_T_isOnLine_12 : decode prog_1_method_26_code 12 = .ok (.iload_n 1, 1) := by decide +kernel
theorem d_T_isOnLine_13 : decode prog_1_method_26_code 13 = .ok (.aaload, 1) := by decide +kernel
theorem d_T_isOnLine_14 : decode prog_1_method_26_code 14 = .ok (.iload_n 2, 1) := by decide +kernel
theorem d_T_isOnLine_15 : decode prog_1_method_26_code 15 = .ok (.invokevirtual 88, 3) := by decide +kernel
theorem d_T_isOnLine_18 : decode prog_1_method_26_code 18 = .ok (.goto 4, 3) := by decide +kernel
theorem d_T_isOnLine_21 : decode prog_1_method_26_code 21 = .ok (.aconst_null, 1) := by decide +kernel
theorem d_T_isOnLine_22 : decode prog_1_method_26_code 22 = .ok (.astore 4, 2) := by decide +kernel
theorem d_T_isOnLine_24 : decode prog_1_method_26_code 24 = .ok (.aload 4, 2) := by decide +kernel
theorem d_T_isOnLine_26 : decode prog_1_method_26_code 26 = .ok (.ifnull 23, 3) := by decide +kernel
theorem d_T_isOnLine_29 : decode prog_1_method_26_code 29 = .ok (.aload_n 3, 1) := by decide +kernel
theorem d_T_isOnLine_30 : decode prog_1_method_26_code 30 = .ok (.ifnull 19, 3) := by decide +kernel
theorem d_T_isOnLine_33 : decode prog_1_method_26_code 33 = .ok (.aload 4, 2) := by decide +kernel
theorem d_T_isOnLine_35 : decode prog_1_method_26_code 35 = .ok (.getfield 174, 3) := by decide +kernel
theorem d_T_isOnLine_38 : decode prog_1_method_26_code 38 = .ok (.aload_n 3, 1) := by decide +kernel
theorem d_T_isOnLine_39 : decode prog_1_method_26_code 39 = .ok (.getfield 174, 3) := by decide +kernel
theorem d_T_isOnLine_42 : decode prog_1_method_26_code 42 = .ok (.if_icmp .ne 7, 3) := by decide +kernel
theorem d_T_isOnLine_45 : decode prog_1_method_26_code 45 = .ok (.iconst 1, 1) := by decide +kernel
theorem d_T_isOnLine_46 : decode prog_1_method_26_code 46 = .ok (.goto 4, 3) := by decide +kernel
theorem d_T_isOnLine_49 : decode prog_1_method_26_code 49 = .ok (.iconst 0, 1) := by decide +kernel
theorem d_T_isOnLine_50 : decode prog_1_method_26_code 50 = .ok (.ireturn, 1) := by decide +kernel

section CLB2
variable {σ τ : SS} {ca na ta : Nat → Nat} {E : Ev} {M : mp_M}
def cab (σ : SS) (r : Nat) : Nat → Nat → Nat
  | 0, _ => 125
  | d + 1, q => if cpc σ r q = true then q else cab σ r d (pp q)
theorem sq_le {s : Nat} (h : INV σ s) (n : Nat) : σ 14 n ≤ 2000 := by
  by_cases e : σ 14 n = 0
  · omega
  · have := (h.2.2.2.1 n e).1
    have := h.2.1.1
    omega
theorem sr_1 {x : Nat} (hx : x ≤ 2000) (h : srI x = -1) : x = 0 := by
  unfold srI at h
  by_cases e : x = 0
  · exact e
  · rw [if_neg e] at h
    have h2 := nI_toInt (n := (x - 1) / 125) (by omega)
    rw [h] at h2
    have h3 : (-1 : Int32).toInt = -1 := by decide
    rw [h3] at h2
    omega
theorem sr_2 {x : Nat} (h : ¬ srI x = -1) : 0 < x := by
  rcases Nat.eq_zero_or_pos x with z | z
  · exact absurd (by rw [z]; rfl) h
  · exact z
theorem cr_3 {b r : Nat} (hr : r ≤ 15) (h : ¬ crI b = nI r) : b ≠ r := fun z => h (by rw [z, crI_n (by omega)])
theorem cr_4 {b r : Nat} (hr : r ≤ 15) (h : crI b = nI r) : b = r := by
  unfold crI at h
  by_cases c : b < 128
  · rw [if_pos c] at h
    exact (nI_eq (by omega) (by omega)).mp h
  · rw [if_neg c] at h
    have h2 := nI_toInt (n := r) (by omega)
    rw [← h] at h2
    have h3 : (-1 : Int32).toInt = -1 := by decide
    rw [h3] at h2
    omega
theorem cpf_s {r p u i f : Nat} : cpf σ r p (u + 1) i f = cpf σ r p u (i + 1) (if cpc σ r (pq p i) = true then pq p i else f) := rfl
theorem cab_e {r p : Nat} (hp : pgb p = true) (h0 : cpc σ r 0 = false) : cpd σ r p = cab σ r (pd p) p := by
  have hd := pd_le p
  unfold cpd
  have e0 : pq p 0 = 0 := pq_0
  have f0 : (if (false : Bool) = true then (0 : Nat) else 125) = 125 := rfl
  rcases (show pd p = 0 ∨ pd p = 1 ∨ pd p = 2 ∨ pd p = 3 by omega) with e | e | e | e
  · rw [e]
    show (if cpc σ r (pq p 0) = true then pq p 0 else 125) = 125
    rw [e0, h0]
    rfl
  · have e1 : pq p 1 = p := pq_s hp (by omega) (by omega)
    rw [e]
    show (if cpc σ r (pq p 1) = true then pq p 1 else (if cpc σ r (pq p 0) = true then pq p 0 else 125)) = (if cpc σ r p = true then p else 125)
    rw [e0, h0, e1, f0]
  · have e2 : pq p 2 = p := pq_s hp (by omega) (by omega)
    have e1 : pp p = pq p 1 := by rw [pp_pq, e]
    rw [e]
    show (if cpc σ r (pq p 2) = true then pq p 2 else (if cpc σ r (pq p 1) = true then pq p 1 else (if cpc σ r (pq p 0) = true then pq p 0 else 125))) = (if cpc σ r p = true then p else (if cpc σ r (pp p) = true then pp p else 125))
    rw [e0, h0, e2, e1, f0]
  · have e3 : pq p 3 = p := pq_s hp (by omega) (by omega)
    have e2 : pp p = pq p 2 := by rw [pp_pq, e]
    have e1 : pp (pp p) = pq p 1 := by
      rw [pp_pq, e2, pq_d hp (by omega)]
      exact pq_pq (by omega) (by omega)
    rw [e]
    show (if cpc σ r (pq p 3) = true then pq p 3 else (if cpc σ r (pq p 2) = true then pq p 2 else (if cpc σ r (pq p 1) = true then pq p 1 else (if cpc σ r (pq p 0) = true then pq p 0 else 125)))) = (if cpc σ r p = true then p else (if cpc σ r (pp p) = true then pp p else (if cpc σ r (pp (pp p)) = true then pp (pp p) else 125)))
    rw [e0, h0, e3, e1, e2, f0]
end CLB2
set_option maxHeartbeats 600000 in
set_option maxRecDepth 100000 in
theorem c_N_anc {l : Launch} {E : Ev} {M : mp_M} {sz : Nat} {σ : SS} {ca na ta : Nat → Nat} (hP : PIC E σ ca na ta M) {n0 k0 : Nat} (h0 : 0 < n0) (hn : n0 ≤ σ 4 0) (hk : k0 < 2 ^ 31) (h13 : σ 13 0 = 0) : MCq l E y_N_ancestor prog_3_method_4_code 4 (some (.object "TreeRevisions$Node")) 0 0 0 0 [.ref (na n0), .int (nI k0)] M sz (fun r M' => r = nq na (anc σ k0 n0) ∧ M' = M) := by
  refine mc_of R_N rfl [some (.ref (na n0)), some (.int (nI k0)), none, none] (by decide) (Nat.le_of_ble_eq_true rfl) rfl ?_
  intro p e R s m ag below meth c ls Q A X hAe hQ hR hsz hw hl
  rw [← hAe] at hQ
  obtain ⟨⟨hx, hb, hml, hown, hts⟩, hE, hA, hr, hlk, hnm⟩ := X
  have hK := hE.1
  obtain ⟨F, hF⟩ : ∃ F, F = anc σ k0 n0 := ⟨_, rfl⟩
  rw [← hF] at hQ
  have loop : ∀ (u i a : Nat) (H : Heap) (locs : List Loc) (ls : Array Slot), i + u = k0 → a ≤ σ 4 0 → mw E.1 vwCl A s.heap M H locs → lh ls [some (.ref (na n0)), some (.int (nI k0)), some (va_rf (nq na a)), some (.int (nI i))] → anc σ u a = F → W p l e R s m ag below meth c H locs 0 0 Q (F0 m 4 ls []) := by
    intro u
    induction u with
    | zero =>
      intro i a H locs ls hi ha hw hl hT
      have hT : a = F := hT
      refine x_iload_n hx hb d_N_ancestor_4 hl rfl ?_
      refine x_iload_n hx hb d_N_ancestor_5 hl rfl ?_
      refine x_icmp_ge hx hb d_N_ancestor_6 rfl (by omega) (by omega) (fun h6 => ?_) (fun h6 => ?_)
      · first | refine x_aload_n hx hb d_N_ancestor_24 hl rfl ?_ | refine x_aload_nQ hx hb d_N_ancestor_24 hl rfl ?_
        first | exact x_retr hQ hx hb hr hlk hw (by omega) (by omega) d_N_ancestor_25 (⟨by rw [hT], rfl⟩) | exact x_retq (v := none) hQ hx hb hr hlk hw (by omega) (by omega) d_N_ancestor_25 (⟨by rw [hT], rfl⟩) | exact x_retq hQ hx hb hr hlk hw (by omega) (by omega) d_N_ancestor_25 (⟨by rw [hT], rfl⟩)
      · exact absurd h6 (by omega)
    | succ u ih =>
      intro i a H locs ls hi ha hw hl hT
      refine x_iload_n hx hb d_N_ancestor_4 hl rfl ?_
      refine x_iload_n hx hb d_N_ancestor_5 hl rfl ?_
      refine x_icmp_ge hx hb d_N_ancestor_6 rfl (by omega) (by omega) (fun h6 => ?_) (fun h6 => ?_)
      · exact absurd h6 (by omega)
      · first | refine x_aload_n hx hb d_N_ancestor_9 hl rfl ?_ | refine x_aload_nQ hx hb d_N_ancestor_9 hl rfl ?_
        refine x_ifnullQ hx hb d_N_ancestor_10 rfl (fun h10 => ?_) (fun a10 h10 => ?_)
        · have h10 := nq_none h10
          have hT2 : nq na a = nq na F := by
            rw [← hT, h10, anc_0 h13 (u + 1)]
          first | refine x_aload_n hx hb d_N_ancestor_24 hl rfl ?_ | refine x_aload_nQ hx hb d_N_ancestor_24 hl rfl ?_
          first | exact x_retr hQ hx hb hr hlk hw (by omega) (by omega) d_N_ancestor_25 (⟨hT2, rfl⟩) | exact x_retq (v := none) hQ hx hb hr hlk hw (by omega) (by omega) d_N_ancestor_25 (⟨hT2, rfl⟩) | exact x_retq hQ hx hb hr hlk hw (by omega) (by omega) d_N_ancestor_25 (⟨hT2, rfl⟩)
        · obtain ⟨h0, rfl⟩ := nq_some h10
          rw [h10] at hl
          first | refine x_aload_n hx hb d_N_ancestor_13 hl rfl ?_ | refine x_aload_nQ hx hb d_N_ancestor_13 hl rfl ?_
          refine m_get hx hb hts hown hK hw ci_N (pic_n hP h0 ha) 5 (by decide) (wm1 124 rfl rfl) rfl d_N_ancestor_14 ?_
          first | refine x_astore_n hx hb d_N_ancestor_17 hl (Nat.le_of_ble_eq_true rfl) (lh_k (i := 1) rfl (by first | exact lk_n | exact lk_i | exact lk_r | exact lk_q | exact lk_0)) (fun ls hl => ?_) | refine x_astore_nQ hx hb d_N_ancestor_17 hl (Nat.le_of_ble_eq_true rfl) (lh_k (i := 1) rfl (by first | exact lk_n | exact lk_i | exact lk_r | exact lk_q | exact lk_0)) (fun ls hl => ?_)
          refine x_iincN hx hb d_N_ancestor_18 hl rfl (lh_k (i := 2) rfl (by first | exact lk_n | exact lk_i | exact lk_r | exact lk_q | exact lk_0)) (fun ls hl => ?_)
          refine lv_goto hx hb d_N_ancestor_21 rfl ?_
          exact ih (i + 1) (σ 13 a) H locs ls (by omega) ((pic_z hP).2.1 a) hw hl hT
  first | refine x_aload_n hx hb d_N_ancestor_0 hl rfl ?_ | refine x_aload_nQ hx hb d_N_ancestor_0 hl rfl ?_
  refine W.eq (g2 := F0 m 1 ls [va_rf (nq na n0)]) (by rw [nq_n h0]; rfl) ?_
  refine x_astore_nQ hx hb d_N_ancestor_1 hl (Nat.le_of_ble_eq_true rfl) (lh_k (i := 1) rfl (by first | exact lk_n | exact lk_i | exact lk_r | exact lk_q | exact lk_0)) (fun ls hl => ?_)
  refine lv_iconst (v := nI 0) hx hb d_N_ancestor_2 (by decide) ?_
  refine x_istore_n hx hb d_N_ancestor_3 hl (Nat.le_of_ble_eq_true rfl) (lh_k (i := 2) rfl (by first | exact lk_n | exact lk_i | exact lk_r | exact lk_q | exact lk_0)) (fun ls hl => ?_)
  exact loop k0 0 n0 _ _ _ (by omega) hn hw hl hF.symm

set_option maxHeartbeats 600000 in
set_option maxRecDepth 100000 in
theorem c_Tr_above {l : Launch} {E : Ev} {M : mp_M} {sz : Nat} {σ : SS} {ca na ta : Nat → Nat} (hP : PIC E σ ca na ta M) {s0 : Nat} (hI : INV σ s0) {r p0 : Nat} (hr15 : r ≤ 15) (hp : p0 < 125) : MCi l E y_Tr_copyAbove prog_8_method_8_code 6 (some .int) 2 40 0 0 [.ref (ca (r + 5)), .int (nI p0), .int (nI r)] M sz (fun r' M' => r' = cI (cab σ r (pd p0) p0) ∧ M' = M) := by
  refine mc_of R_Tr rfl [some (.ref (ca (r + 5))), some (.int (nI p0)), some (.int (nI r)), none, none, none] (by decide) (Nat.le_of_ble_eq_true rfl) rfl ?_
  intro p e R s m ag below meth c ls Q A X hAe hQ hR hsz hw hl
  rw [← hAe] at hQ
  obtain ⟨⟨hx, hb, hml, hown, hts⟩, hE, hA, hr, hlk, hnm⟩ := X
  have hK := hE.1
  obtain ⟨F, hF⟩ : ∃ F, F = cab σ r (pd p0) p0 := ⟨_, rfl⟩
  rw [← hF] at hQ
  have loop : ∀ (d q : Nat) (H : Heap) (locs : List Loc) (ls : Array Slot), q < 125 → d < 2 ^ 31 → mw E.1 vwCl A s.heap M H locs → lh ls [some (.ref (ca (r + 5))), some (.int (nI p0)), some (.int (nI r)), some (.int (nI q)), some (.int (nI d)), none] → cab σ r d q = F → W p l e R s m ag below meth c H locs 0 0 Q (F0 m 8 ls []) := by
    intro d
    induction d with
    | zero =>
      intro q H locs ls hq hd hw hl hT
      have hT : 125 = F := hT
      refine x_iload hx hb d_Tr_copyAbove_8 hl rfl ?_
      refine x_if_le hx hb d_Tr_copyAbove_10 rfl (by omega) (fun h10 => ?_) (fun h10 => ?_)
      · refine lv_iconst (v := -1) hx hb d_Tr_copyAbove_56 (by decide) ?_
        exact x_reti hQ hx hb hr hlk rfl hw (by omega) (by omega) d_Tr_copyAbove_57 (⟨by rw [← hT]; rfl, rfl⟩)
      · exact absurd h10 (by omega)
    | succ d ih =>
      intro q H locs ls hq hd hw hl hT
      have hle := rat_le (pic_z hP) (k := r) (q := q)
      refine x_iload hx hb d_Tr_copyAbove_8 hl rfl ?_
      refine x_if_le hx hb d_Tr_copyAbove_10 rfl (by omega) (fun h10 => ?_) (fun h10 => ?_)
      · exact absurd h10 (by omega)
      · first | refine x_aload_n hx hb d_Tr_copyAbove_13 hl rfl ?_ | refine x_aload_nQ hx hb d_Tr_copyAbove_13 hl rfl ?_
        refine x_iload_n hx hb d_Tr_copyAbove_14 hl rfl ?_
        refine m_callq (k_V ⟨hx, hb, hml, hown, hts⟩ hE hA hw (c_Tr_at (pic_t hP (k := r) (by omega)) (pic_a hP (k := r) (by omega))) (ci_Tr).1 rfl (pic_t hP (k := r) (by omega)) (wm3 47 rfl rfl) (wm1 212 rfl rfl) (wm1 213 rfl rfl) (wm1 6 rfl rfl) (wm1 214 rfl rfl) rfl rfl ar_Tr_at ⟨Nat.le_trans (Nat.le_of_ble_eq_true rfl) hR.1, Nat.le_trans (Nat.le_of_ble_eq_true rfl) hR.2.1⟩ rfl hl.1 rfl (Nat.le_of_ble_eq_true rfl) d_Tr_copyAbove_15 ⟨Nat.le_trans (Nat.le_of_ble_eq_true rfl) hR.2.2.1, Nat.le_trans (Nat.le_of_ble_eq_true rfl) hR.2.2.2⟩) hw (mfr_in hw hA) (fun r15 M15 H locs hP15 hw => ?_)
        obtain ⟨rfl, hM15⟩ := hP15
        rw [hM15] at hw
        rw [tat_row (pic_z hP) (k := r) (by omega), ix_n hq]
        first | refine x_astore hx hb d_Tr_copyAbove_18 hl (Nat.le_of_ble_eq_true rfl) (lh_k (i := 4) rfl (by first | exact lk_n | exact lk_i | exact lk_r | exact lk_q | exact lk_0)) (fun ls hl => ?_) | refine x_astoreQ hx hb d_Tr_copyAbove_18 hl (Nat.le_of_ble_eq_true rfl) (lh_k (i := 4) rfl (by first | exact lk_n | exact lk_i | exact lk_r | exact lk_q | exact lk_0)) (fun ls hl => ?_)
        first | refine x_aload hx hb d_Tr_copyAbove_20 hl rfl ?_ | refine x_aloadQ hx hb d_Tr_copyAbove_20 hl rfl ?_
        refine x_ifnullQ hx hb d_Tr_copyAbove_22 rfl (fun h22 => ?_) (fun a22 h22 => ?_)
        · have h22 := nq_none h22
          have hT2 : cab σ r d (pp q) = F := by
            rw [← hT]
            exact (if_neg (by rw [cpc_1 h22]; decide)).symm
          refine x_iload_n hx hb d_Tr_copyAbove_45 hl rfl ?_
          refine m_calli (k_S ⟨hx, hb, hml, hown, hts⟩ hE hA hw (c_P_parent (by omega)) (wm3 48 rfl rfl) (wm1 216 rfl rfl) (wm1 10 rfl rfl) (wm1 217 rfl rfl) rfl rfl ar_P_parentOf ⟨Nat.le_trans (Nat.le_of_ble_eq_true rfl) hR.1, Nat.le_trans (Nat.le_of_ble_eq_true rfl) hR.2.1⟩ rfl hl.1 rfl (Nat.le_of_ble_eq_true rfl) d_Tr_copyAbove_46 ⟨Nat.le_trans (Nat.le_of_ble_eq_true rfl) hR.2.2.1, Nat.le_trans (Nat.le_of_ble_eq_true rfl) hR.2.2.2⟩) hw (mfr_in hw hA) (fun r46 M46 H locs hP46 hw => ?_)
          obtain ⟨rfl, hM46⟩ := hP46
          rw [hM46] at hw
          refine x_istore_n hx hb d_Tr_copyAbove_49 hl (Nat.le_of_ble_eq_true rfl) (lh_k (i := 2) rfl (by first | exact lk_n | exact lk_i | exact lk_r | exact lk_q | exact lk_0)) (fun ls hl => ?_)
          refine x_iinc hx hb d_Tr_copyAbove_50 hl rfl (dec_n d) (lh_k (i := 3) rfl (by first | exact lk_n | exact lk_i | exact lk_r | exact lk_q | exact lk_0)) (fun ls hl => ?_)
          refine lv_goto hx hb d_Tr_copyAbove_53 rfl ?_
          exact ih (pp q) H locs ls (pp_lt q) (by omega) hw (lh_drop 5 hl) hT2
        · obtain ⟨h0, rfl⟩ := nq_some h22
          rw [h22] at hl
          first | refine x_aload hx hb d_Tr_copyAbove_25 hl rfl ?_ | refine x_aloadQ hx hb d_Tr_copyAbove_25 hl rfl ?_
          refine m_get hx hb hts hown hK hw ci_N (pic_n hP h0 hle) 6 (by decide) (wm1 127 rfl rfl) rfl d_Tr_copyAbove_27 ?_
          refine lv_iconst (v := -1) hx hb d_Tr_copyAbove_30 (by decide) ?_
          refine lv_icmp_eq hx hb d_Tr_copyAbove_31 rfl (fun h31 => ?_) (fun h31 => ?_)
          · have h31 := sr_1 (sq_le hI _) h31
            have hT2 : cab σ r d (pp q) = F := by
              rw [← hT]
              exact (if_neg (by rw [cpc_2 h31]; decide)).symm
            refine x_iload_n hx hb d_Tr_copyAbove_45 hl rfl ?_
            refine m_calli (k_S ⟨hx, hb, hml, hown, hts⟩ hE hA hw (c_P_parent (by omega)) (wm3 48 rfl rfl) (wm1 216 rfl rfl) (wm1 10 rfl rfl) (wm1 217 rfl rfl) rfl rfl ar_P_parentOf ⟨Nat.le_trans (Nat.le_of_ble_eq_true rfl) hR.1, Nat.le_trans (Nat.le_of_ble_eq_true rfl) hR.2.1⟩ rfl hl.1 rfl (Nat.le_of_ble_eq_true rfl) d_Tr_copyAbove_46 ⟨Nat.le_trans (Nat.le_of_ble_eq_true rfl) hR.2.2.1, Nat.le_trans (Nat.le_of_ble_eq_true rfl) hR.2.2.2⟩) hw (mfr_in hw hA) (fun r46 M46 H locs hP46 hw => ?_)
            obtain ⟨rfl, hM46⟩ := hP46
            rw [hM46] at hw
            refine x_istore_n hx hb d_Tr_copyAbove_49 hl (Nat.le_of_ble_eq_true rfl) (lh_k (i := 2) rfl (by first | exact lk_n | exact lk_i | exact lk_r | exact lk_q | exact lk_0)) (fun ls hl => ?_)
            refine x_iinc hx hb d_Tr_copyAbove_50 hl rfl (dec_n d) (lh_k (i := 3) rfl (by first | exact lk_n | exact lk_i | exact lk_r | exact lk_q | exact lk_0)) (fun ls hl => ?_)
            refine lv_goto hx hb d_Tr_copyAbove_53 rfl ?_
            exact ih (pp q) H locs ls (pp_lt q) (by omega) hw (lh_drop 5 hl) hT2
          · have h31 := sr_2 h31
            first | refine x_aload hx hb d_Tr_copyAbove_34 hl rfl ?_ | refine x_aloadQ hx hb d_Tr_copyAbove_34 hl rfl ?_
            refine m_get hx hb hts hown hK hw ci_N (pic_n hP h0 hle) 4 (by decide) (wm1 123 rfl rfl) rfl d_Tr_copyAbove_36 ?_
            refine x_iload_n hx hb d_Tr_copyAbove_39 hl rfl ?_
            refine lv_icmp_ne hx hb d_Tr_copyAbove_40 rfl (fun h40 => ?_) (fun h40 => ?_)
            · have h40 := cr_3 hr15 h40
              have hT2 : cab σ r d (pp q) = F := by
                rw [← hT]
                exact (if_neg (by rw [cpc_3 h40]; decide)).symm
              refine x_iload_n hx hb d_Tr_copyAbove_45 hl rfl ?_
              refine m_calli (k_S ⟨hx, hb, hml, hown, hts⟩ hE hA hw (c_P_parent (by omega)) (wm3 48 rfl rfl) (wm1 216 rfl rfl) (wm1 10 rfl rfl) (wm1 217 rfl rfl) rfl rfl ar_P_parentOf ⟨Nat.le_trans (Nat.le_of_ble_eq_true rfl) hR.1, Nat.le_trans (Nat.le_of_ble_eq_true rfl) hR.2.1⟩ rfl hl.1 rfl (Nat.le_of_ble_eq_true rfl) d_Tr_copyAbove_46 ⟨Nat.le_trans (Nat.le_of_ble_eq_true rfl) hR.2.2.1, Nat.le_trans (Nat.le_of_ble_eq_true rfl) hR.2.2.2⟩) hw (mfr_in hw hA) (fun r46 M46 H locs hP46 hw => ?_)
              obtain ⟨rfl, hM46⟩ := hP46
              rw [hM46] at hw
              refine x_istore_n hx hb d_Tr_copyAbove_49 hl (Nat.le_of_ble_eq_true rfl) (lh_k (i := 2) rfl (by first | exact lk_n | exact lk_i | exact lk_r | exact lk_q | exact lk_0)) (fun ls hl => ?_)
              refine x_iinc hx hb d_Tr_copyAbove_50 hl rfl (dec_n d) (lh_k (i := 3) rfl (by first | exact lk_n | exact lk_i | exact lk_r | exact lk_q | exact lk_0)) (fun ls hl => ?_)
              refine lv_goto hx hb d_Tr_copyAbove_53 rfl ?_
              exact ih (pp q) H locs ls (pp_lt q) (by omega) hw (lh_drop 5 hl) hT2
            · have h40 := cr_4 hr15 h40
              have hT2 : q = F := by
                rw [← hT]
                exact (if_pos (cpc_t h0 h31 h40)).symm
              refine x_iload_n hx hb d_Tr_copyAbove_43 hl rfl ?_
              exact x_reti hQ hx hb hr hlk rfl hw (by omega) (by omega) d_Tr_copyAbove_44 (⟨by rw [← hT2, cI_n (by omega)], rfl⟩)
  refine x_iload_n hx hb d_Tr_copyAbove_0 hl rfl ?_
  refine x_istore_n hx hb d_Tr_copyAbove_1 hl (Nat.le_of_ble_eq_true rfl) (lh_k (i := 2) rfl (by first | exact lk_n | exact lk_i | exact lk_r | exact lk_q | exact lk_0)) (fun ls hl => ?_)
  refine x_iload_n hx hb d_Tr_copyAbove_2 hl rfl ?_
  refine m_calli (k_S ⟨hx, hb, hml, hown, hts⟩ hE hA hw (c_P_depth (by omega)) (wm2 28 rfl rfl) (wm1 191 rfl rfl) (wm1 10 rfl rfl) (wm1 192 rfl rfl) rfl rfl ar_P_depthOf ⟨Nat.le_trans (Nat.le_of_ble_eq_true rfl) hR.1, Nat.le_trans (Nat.le_of_ble_eq_true rfl) hR.2.1⟩ rfl hl.1 rfl (Nat.le_of_ble_eq_true rfl) d_Tr_copyAbove_3 ⟨Nat.le_trans (Nat.le_of_ble_eq_true rfl) hR.2.2.1, Nat.le_trans (Nat.le_of_ble_eq_true rfl) hR.2.2.2⟩) hw (mfr_in hw hA) (fun r3 M3 H locs hP3 hw => ?_)
  obtain ⟨rfl, hM3⟩ := hP3
  rw [hM3] at hw
  refine x_istore hx hb d_Tr_copyAbove_6 hl (Nat.le_of_ble_eq_true rfl) (lh_k (i := 3) rfl (by first | exact lk_n | exact lk_i | exact lk_r | exact lk_q | exact lk_0)) (fun ls hl => ?_)
  exact loop (pd p0) p0 _ _ _ hp (by have := pd_le p0; omega) hw hl hF.symm

set_option maxHeartbeats 600000 in
set_option maxRecDepth 100000 in
theorem c_T_onLine {l : Launch} {E : Ev} {M : mp_M} {sz : Nat} {σ : SS} {ca na ta : Nat → Nat} (hP : PIC E σ ca na ta M) (hI : INV σ 3) (hN : σ 4 0 < 1300) {r n : Nat} {y : Int32} (hrY : r ≤ σ 1 0) (hn0 : 0 < n) (hn : n ≤ σ 4 0) : MCi l E y_T_isOnLine prog_1_method_26_code 5 (some .boolean) 1 21 0 0 [.ref (ca 0), .int (nI r), .int y, .ref (na n)] M sz (fun r' M' => r' = bz (decide (0 < rat σ r (ix y) ∧ σ 10 (rat σ r (ix y)) = σ 10 n)) ∧ M' = M) := by
  refine mc_of R_T rfl [some (.ref (ca 0)), some (.int (nI r)), some (.int y), some (.ref (na n)), none] (by decide) (Nat.le_of_ble_eq_true rfl) rfl ?_
  intro p e R s m ag below meth c ls Q A X hAe hQ hR hsz hw hl
  rw [← hAe] at hQ
  obtain ⟨⟨hx, hb, hml, hown, hts⟩, hE, hA, hr, hlk, hnm⟩ := X
  have hK := hE.1
  have hy := inv_y hI
  have l1 := line_le hI n
  have l2 := line_le hI (rat σ r (ix y))
  first | refine x_aload_n hx hb d_T_isOnLine_0 hl rfl ?_ | refine x_aload_nQ hx hb d_T_isOnLine_0 hl rfl ?_
  refine x_iload_n hx hb d_T_isOnLine_1 hl rfl ?_
  refine m_calli (k_V ⟨hx, hb, hml, hown, hts⟩ hE hA hw (c_T_isRev hP hy) (ci_T).1 rfl (pic_o hP) (wm2 19 rfl rfl) (wm2 21 rfl rfl) (wmp1 2 rfl) (wm1 1 rfl rfl) (wm2 22 rfl rfl) rfl rfl ar_T_isRevision ⟨Nat.le_trans (Nat.le_of_ble_eq_true rfl) hR.1, Nat.le_trans (Nat.le_of_ble_eq_true rfl) hR.2.1⟩ rfl hl.1 rfl (Nat.le_of_ble_eq_true rfl) d_T_isOnLine_2 ⟨Nat.le_trans (Nat.le_of_ble_eq_true rfl) hR.2.2.1, Nat.le_trans (Nat.le_of_ble_eq_true rfl) hR.2.2.2⟩) hw (mfr_in hw hA) (fun r2 M2 H locs hP2 hw => ?_)
  obtain ⟨rfl, hM2⟩ := hP2
  rw [hM2] at hw
  refine x_if_eqB hx hb d_T_isOnLine_5 rfl (fun h5 => ?_) (fun h5 => ?_)
  · exact absurd h5 (by rw [iv_t hy (nI_pos (by omega)) (by rw [nI_ltI (by omega) (by omega)]; omega)]; decide)
  · first | refine x_aload_n hx hb d_T_isOnLine_8 hl rfl ?_ | refine x_aload_nQ hx hb d_T_isOnLine_8 hl rfl ?_
    refine m_get hx hb hts hown hK hw ci_T (pic_o hP) 0 (by decide) (wm1 160 rfl rfl) rfl d_T_isOnLine_9 ?_
    refine x_iload_n hx hb d_T_isOnLine_12 hl rfl ?_
    refine m_aald hx hb hK hw 1 (pic_r hP) rfl (by omega) (by decide) (if_pos (by omega)) d_T_isOnLine_13 ?_
    refine x_iload_n hx hb d_T_isOnLine_14 hl rfl ?_
    refine m_callq (k_V ⟨hx, hb, hml, hown, hts⟩ hE hA hw (c_Tr_at (pic_t hP (k := r) (by omega)) (pic_a hP (k := r) (by omega))) (ci_Tr).1 rfl (pic_t hP (k := r) (by omega)) (wm2 8 rfl rfl) (wm1 212 rfl rfl) (wm1 213 rfl rfl) (wm1 6 rfl rfl) (wm1 214 rfl rfl) rfl rfl ar_Tr_at ⟨Nat.le_trans (Nat.le_of_ble_eq_true rfl) hR.1, Nat.le_trans (Nat.le_of_ble_eq_true rfl) hR.2.1⟩ rfl hl.1 rfl (Nat.le_of_ble_eq_true rfl) d_T_isOnLine_15 ⟨Nat.le_trans (Nat.le_of_ble_eq_true rfl) hR.2.2.1, Nat.le_trans (Nat.le_of_ble_eq_true rfl) hR.2.2.2⟩) hw (mfr_in hw hA) (fun r15 M15 H locs hP15 hw => ?_)
    obtain ⟨rfl, hM15⟩ := hP15
    rw [hM15] at hw
    rw [tat_row (pic_z hP) (k := r) (by omega)]
    refine lv_goto hx hb d_T_isOnLine_18 rfl ?_
    first | refine x_astore hx hb d_T_isOnLine_22 hl (Nat.le_of_ble_eq_true rfl) (lh_k (i := 3) rfl (by first | exact lk_n | exact lk_i | exact lk_r | exact lk_q | exact lk_0)) (fun ls hl => ?_) | refine x_astoreQ hx hb d_T_isOnLine_22 hl (Nat.le_of_ble_eq_true rfl) (lh_k (i := 3) rfl (by first | exact lk_n | exact lk_i | exact lk_r | exact lk_q | exact lk_0)) (fun ls hl => ?_)
    first | refine x_aload hx hb d_T_isOnLine_24 hl rfl ?_ | refine x_aloadQ hx hb d_T_isOnLine_24 hl rfl ?_
    refine x_ifnullQ hx hb d_T_isOnLine_26 rfl (fun h26 => ?_) (fun a26 h26 => ?_)
    · have h26 := nq_none h26
      refine lv_iconst (v := nI 0) hx hb d_T_isOnLine_49 (by decide) ?_
      exact x_reti hQ hx hb hr hlk (by first | exact nar_bz | decide) hw (by omega) (by omega) d_T_isOnLine_50 (⟨by first | exact bz_t (decide_eq_true ⟨h0, h42⟩) | exact bz_f (fun z => h42 (of_decide_eq_true z).2) | exact bz_f (fun z => by have := (of_decide_eq_true z).1; omega), rfl⟩)
    · obtain ⟨h0, rfl⟩ := nq_some h26
      rw [h26] at hl
      have hle := rat_le (pic_z hP) (k := r) (q := ix y)
      first | refine x_aload_n hx hb d_T_isOnLine_29 hl rfl ?_ | refine x_aload_nQ hx hb d_T_isOnLine_29 hl rfl ?_
      refine lv_ifnull hx hb d_T_isOnLine_30 ?_
      first | refine x_aload hx hb d_T_isOnLine_33 hl rfl ?_ | refine x_aloadQ hx hb d_T_isOnLine_33 hl rfl ?_
      refine m_get hx hb hts hown hK hw ci_N (pic_n hP h0 hle) 0 (by decide) (wm1 112 rfl rfl) rfl d_T_isOnLine_35 ?_
      first | refine x_aload_n hx hb d_T_isOnLine_38 hl rfl ?_ | refine x_aload_nQ hx hb d_T_isOnLine_38 hl rfl ?_
      refine m_get hx hb hts hown hK hw ci_N (pic_n hP hn0 hn) 0 (by decide) (wm1 112 rfl rfl) rfl d_T_isOnLine_39 ?_
      refine x_icmp_ne hx hb d_T_isOnLine_42 rfl (by omega) (by omega) (fun h42 => ?_) (fun h42 => ?_)
      · refine lv_iconst (v := nI 0) hx hb d_T_isOnLine_49 (by decide) ?_
        exact x_reti hQ hx hb hr hlk (by first | exact nar_bz | decide) hw (by omega) (by omega) d_T_isOnLine_50 (⟨by first | exact bz_t (decide_eq_true ⟨h0, h42⟩) | exact bz_f (fun z => h42 (of_decide_eq_true z).2) | exact bz_f (fun z => by have := (of_decide_eq_true z).1; omega), rfl⟩)
      · refine lv_iconst (v := nI 1) hx hb d_T_isOnLine_45 (by decide) ?_
        refine lv_goto hx hb d_T_isOnLine_46 rfl ?_
        exact x_reti hQ hx hb hr hlk (by first | exact nar_bz | decide) hw (by omega) (by omega) d_T_isOnLine_50 (⟨by first | exact bz_t (decide_eq_true ⟨h0, h42⟩) | exact bz_f (fun z => h42 (of_decide_eq_true z).2) | exact bz_f (fun z => by have := (of_decide_eq_true z).1; omega), rfl⟩)
