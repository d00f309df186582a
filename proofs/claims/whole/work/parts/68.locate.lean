theorem d_T_locate_0 : decode prog_1_method_16_code 0 = .ok (.aload_n 0, 1) := by decide +kernel
theorem d_T_locate_1 : decode prog_1_method_16_code 1 = .ok (.iload_n 1, 1) := by decide +kernel
theorem d_T_locate_2 : decode prog_1_method_16_code 2 = .ok (.invokevirtual 105, 3) := by decide +kernel
theorem d_T_locate_5 : decode prog_1_method_16_code 5 = .ok (.ifCond .eq 29, 3) := by decide +kernel
theorem d_T_locate_8 : decode prog_1_method_16_code 8 = .ok (.aload_n 0, 1) := by decide +kernel
theorem d_T_locate_9 : decode prog_1_method_16_code 9 = .ok (.iload_n 3, 1) := by decide +kernel
theorem d_T_locate_10 : decode prog_1_method_16_code 10 = .ok (.invokevirtual 105, 3) := by decide +kernel
theorem d_T_locate_13 : decode prog_1_method_16_code 13 = .ok (.ifCond .eq 21, 3) := by decide +kernel
theorem d_T_locate_16 : decode prog_1_method_16_code 16 = .ok (.iload_n 3, 1) := by decide +kernel
theorem d_T_locate_17 : decode prog_1_method_16_code 17 = .ok (.iload_n 1, 1) := by decide +kernel
theorem d_T_locate_18 : decode prog_1_method_16_code 18 = .ok (.if_icmp .gt 16, 3) := by decide +kernel
theorem d_T_locate_21 : decode prog_1_method_16_code 21 = .ok (.aload_n 0, 1) := by decide +kernel
theorem d_T_locate_22 : decode prog_1_method_16_code 22 = .ok (.getfield 11, 3) := by decide +kernel
theorem d_T_locate_25 : decode prog_1_method_16_code 25 = .ok (.iload_n 1, 1) := by decide +kernel
theorem d_T_locate_26 : decode prog_1_method_16_code 26 = .ok (.aaload, 1) := by decide +kernel
theorem d_T_locate_27 : decode prog_1_method_16_code 27 = .ok (.iload_n 2, 1) := by decide +kernel
theorem d_T_locate_28 : decode prog_1_method_16_code 28 = .ok (.invokevirtual 88, 3) := by decide +kernel
theorem d_T_locate_31 : decode prog_1_method_16_code 31 = .ok (.ifnonnull 5, 3) := by decide +kernel
theorem d_T_locate_34 : decode prog_1_method_16_code 34 = .ok (.iconst (-1), 1) := by decide +kernel
theorem d_T_locate_35 : decode prog_1_method_16_code 35 = .ok (.ireturn, 1) := by decide +kernel
theorem d_T_locate_36 : decode prog_1_method_16_code 36 = .ok (.iload_n 1, 1) := by decide +kernel
theorem d_T_locate_37 : decode prog_1_method_16_code 37 = .ok (.istore 4, 2) := by decide +kernel
theorem d_T_locate_39 : decode prog_1_method_16_code 39 = .ok (.iload_n 2, 1) := by decide +kernel
theorem d_T_locate_40 : decode prog_1_method_16_code 40 = .ok (.istore 5, 2) := by decide +kernel
theorem d_T_locate_42 : decode prog_1_method_16_code 42 = .ok (.iconst 0, 1) := by decide +kernel
theorem d_T_locate_43 : decode prog_1_method_16_code 43 = .ok (.istore 6, 2) := by decide +kernel
theorem d_T_locate_45 : decode prog_1_method_16_code 45 = .ok (.iload 6, 2) := by decide +kernel
theorem d_T_locate_47 : decode prog_1_method_16_code 47 = .ok (.bipush 16, 2) := by decide +kernel
theorem d_T_locate_49 : decode prog_1_method_16_code 49 = .ok (.if_icmp .ge 122, 3) := by decide +kernel
theorem d_T_locate_52 : decode prog_1_method_16_code 52 = .ok (.iload 4, 2) := by decide +kernel
theorem d_T_locate_54 : decode prog_1_method_16_code 54 = .ok (.iload_n 3, 1) := by decide +kernel
theorem d_T_locate_55 : decode prog_1_method_16_code 55 = .ok (.if_icmp .le 116, 3) := by decide +kernel
theorem d_T_locate_58 : decode prog_1_method_16_code 58 = .ok (.aload_n 0, 1) := by decide +kernel
theorem d_T_locate_59 : decode prog_1_method_16_code 59 = .ok (.getfield 11, 3) := by decide +kernel
theorem d_T_locate_62 : decode prog_1_method_16_code 62 = .ok (.iload 4, 2) := by decide +kernel
theorem d_T_locate_64 : decode prog_1_method_16_code 64 = .ok (.aaload, 1) := by decide +kernel
theorem d_T_locate_65 : decode prog_1_method_16_code 65 = .ok (.astore 7, 2) := by decide +kernel
theorem d_T_locate_67 : decode prog_1_method_16_code 67 = .ok (.aload 7, 2) := by decide +kernel
theorem d_T_locate_69 : decode prog_1_method_16_code 69 = .ok (.iload 5, 2) := by decide +kernel
theorem d_T_locate_71 : decode prog_1_method_16_code 71 = .ok (.iload 4, 2) := by decide +kernel
theorem d_T_locate_73 : decode prog_1_method_16_code 73 = .ok (.invokevirtual 180, 3) := by decide +kernel
theorem d_T_locate_76 : decode prog_1_method_16_code 76 = .ok (.istore 8, 2) := by decide +kernel
theorem d_T_locate_78 : decode prog_1_method_16_code 78 = .ok (.aload 7, 2) := by decide +kernel
theorem d_T_locate_80 : decode prog_1_method_16_code 80 = .ok (.iload 8, 2) := by decide +kernel
theorem d_T_locate_82 : decode prog_1_method_16_code 82 = .ok (.invokevirtual 88, 3) := by decide +kernel
theorem d_T_locate_85 : decode prog_1_method_16_code 85 = .ok (.astore 9, 2) := by decide +kernel
theorem d_T_locate_87 : decode prog_1_method_16_code 87 = .ok (.aload 9, 2) := by decide +kernel
theorem d_T_locate_89 : decode prog_1_method_16_code 89 = .ok (.ifnonnull 10, 3) := by decide +kernel
theorem d_T_locate_92 : decode prog_1_method_16_code 92 = .ok (.iload 4, 2) := by decide +kernel
theorem d_T_locate_94 : decode prog_1_method_16_code 94 = .ok (.iconst 1, 1) := by decide +kernel
theorem d_T_locate_95 : decode prog_1_method_16_code 95 = .ok (.isub, 1) := by decide +kernel
theorem d_T_locate_96 : decode prog_1_method_16_code 96 = .ok (.goto 8, 3) := by decide +kernel
theorem d_T_locate_99 : decode prog_1_method_16_code 99 = .ok (.aload 9, 2) := by decide +kernel
theorem d_T_locate_101 : decode prog_1_method_16_code 101 = .ok (.getfield 118, 3) := by decide +kernel
theorem d_T_locate_104 : decode prog_1_method_16_code 104 = .ok (.istore 10, 2) := by decide +kernel
theorem d_T_locate_106 : decode prog_1_method_16_code 106 = .ok (.aload 9, 2) := by decide +kernel
theorem d_T_locate_108 : decode prog_1_method_16_code 108 = .ok (.ifnonnull 8, 3) := by decide +kernel
theorem d_T_locate_111 : decode prog_1_method_16_code 111 = .ok (.iload 5, 2) := by decide +kernel
theorem d_T_locate_113 : decode prog_1_method_16_code 113 = .ok (.goto 15, 3) := by decide +kernel
theorem d_T_locate_116 : decode prog_1_method_16_code 116 = .ok (.iload 5, 2) := by decide +kernel
theorem d_T_locate_118 : decode prog_1_method_16_code 118 = .ok (.iload 8, 2) := by decide +kernel
theorem d_T_locate_120 : decode prog_1_method_16_code 120 = .ok (.aload 9, 2) := by decide +kernel
theorem d_T_locate_122 : decode prog_1_method_16_code 122 = .ok (.getfield 121, 3) := by decide +kernel
theorem d_T_locate_125 : decode prog_1_method_16_code 125 = .ok (.invokestatic 184, 3) := by decide +kernel
theorem d_T_locate_128 : decode prog_1_method_16_code 128 = .ok (.istore 11, 2) := by decide +kernel
theorem d_T_locate_130 : decode prog_1_method_16_code 130 = .ok (.iload 5, 2) := by decide +kernel
theorem d_T_locate_132 : decode prog_1_method_16_code 132 = .ok (.iload 8, 2) := by decide +kernel
theorem d_T_locate_134 : decode prog_1_method_16_code 134 = .ok (.if_icmp .eq 23, 3) := by decide +kernel
theorem d_T_locate_137 : decode prog_1_method_16_code 137 = .ok (.aload_n 0, 1) := by decide +kernel
theorem d_T_locate_138 : decode prog_1_method_16_code 138 = .ok (.iload 10, 2) := by decide +kernel
theorem d_T_locate_140 : decode prog_1_method_16_code 140 = .ok (.iload 11, 2) := by decide +kernel
theorem d_T_locate_142 : decode prog_1_method_16_code 142 = .ok (.aload 7, 2) := by decide +kernel
theorem d_T_locate_144 : decode prog_1_method_16_code 144 = .ok (.iload 5, 2) := by decide +kernel
theorem d_T_locate_146 : decode prog_1_method_16_code 146 = .ok (.invokevirtual 88, 3) := by decide +kernel
theorem d_T_locate_149 : decode prog_1_method_16_code 149 = .ok (.invokevirtual 188, 3) := by decide +kernel
theorem d_T_locate_152 : decode prog_1_method_16_code 152 = .ok (.ifCond .ne 5, 3) := by decide +kernel
theorem d_T_locate_155 : decode prog_1_method_16_code 155 = .ok (.iconst (-1), 1) := by decide +kernel
theorem d_T_locate_156 : decode prog_1_method_16_code 156 = .ok (.ireturn, 1) := by decide +kernel
theorem d_T_locate_157 : decode prog_1_method_16_code 157 = .ok (.iload 10, 2) := by decide +kernel
theorem d_T_locate_159 : decode prog_1_method_16_code 159 = .ok (.istore 4, 2) := by decide +kernel
theorem d_T_locate_161 : decode prog_1_method_16_code 161 = .ok (.iload 11, 2) := by decide +kernel
theorem d_T_locate_163 : decode prog_1_method_16_code 163 = .ok (.istore 5, 2) := by decide +kernel
theorem d_T_locate_165 : decode prog_1_method_16_code 165 = .ok (.iinc 6 1, 3) := by decide +kernel
theorem d_T_locate_168 : decode prog_1_method_16_code 168 = .ok (.goto (-123), 3) := by decide +kernel
theorem d_T_locate_171 : decode prog_1_method_16_code 171 = .ok (.iload 4, 2) := by decide +kernel
theorem d_T_locate_173 : decode prog_1_method_16_code 173 = .ok (.iload_n 3, 1) := by decide +kernel
theorem d_T_locate_174 : decode prog_1_method_16_code 174 = .ok (.if_icmp .ne 8, 3) := by decide +kernel
theorem d_T_locate_177 : decode prog_1_method_16_code 177 = .ok (.iload 5, 2) := by decide +kernel
theorem d_T_locate_179 : decode prog_1_method_16_code 179 = .ok (.goto 4, 3) := by decide +kernel
theorem d_T_locate_182 : decode prog_1_method_16_code 182 = .ok (.iconst (-1), 1) := by decide +kernel
theorem d_T_locate_183 : decode prog_1_method_16_code 183 = .ok (.ireturn, 1) := by decide +kernel

section CLL
variable {σ τ : SS}
theorem srI_n {x : Nat} (h : 0 < x) : srI x = nI ((x - 1) / 125) := if_neg (by omega)
theorem spI_n {x : Nat} (h : 0 < x) : spI x = nI ((x - 1) % 125) := if_neg (by omega)
theorem nI_nm1 {n : Nat} (h : n < 2 ^ 31) : ¬ nI n = -1 := fun e => by
  have h2 := nI_toInt (n := n) h
  rw [e] at h2
  have h3 : (-1 : Int32).toInt = -1 := by decide
  rw [h3] at h2
  omega
theorem ls2_a {now path : Nat} (hc : cpd σ now path = 125) (h : 0 < rat σ (now - 1) path ∧ σ 10 (rat σ (now - 1) path) = σ 10 (rat σ now path)) : ls2 σ now path = path := by
  unfold ls2 lsA
  rw [if_pos hc, if_pos ⟨by omega, h.2⟩]
theorem ls2_b {now path : Nat} (hc : cpd σ now path = 125) (h : ¬ (0 < rat σ (now - 1) path ∧ σ 10 (rat σ (now - 1) path) = σ 10 (rat σ now path))) : ls2 σ now path = 125 := by
  unfold ls2 lsA
  rw [if_pos hc, if_neg (fun z => h ⟨by omega, z.2⟩)]
theorem cpf_or {r p : Nat} : ∀ u i f, cpf σ r p u i f = f ∨ ∃ j, i ≤ j ∧ j < i + u ∧ cpf σ r p u i f = pq p j := by
  intro u
  induction u with
  | zero => intro i f; exact Or.inl rfl
  | succ u ih =>
    intro i f
    rw [cpf_s]
    rcases ih (i + 1) (if cpc σ r (pq p i) = true then pq p i else f) with z | ⟨j, j1, j2, j3⟩
    · rw [z]
      split
      · exact Or.inr ⟨i, Nat.le_refl _, by omega, rfl⟩
      · exact Or.inl rfl
    · exact Or.inr ⟨j, by omega, by omega, j3⟩
theorem cpd_un {now path c : Nat} (hp : pgb path = true) (_ : now ≤ 15) (hcc : cpd σ now path = c) (hc : c ≠ 125) : pun path c = true := by
  unfold cpd at hcc
  rcases cpf_or (σ := σ) (r := now) (p := path) (pd path + 1) 0 125 with z | ⟨j, j1, j2, j3⟩
  · omega
  · rw [hcc] at j3
    rw [j3, pun_iff, pq_d hp (by omega)]
theorem pm_ge {w c g : Nat} (hw : pgb w = true) (hc : pgb c = true) (hu : pun w c = true) (h : 3 < pd g + pd w - pd c) : 125 ≤ pm w c g := by
  obtain ⟨a1, a2, a3⟩ := pf_3 ⟨c, (pgb_t.mp hc).1⟩ hc ⟨w, (pgb_t.mp hw).1⟩ hw hu
  simp only at a1 a2 a3
  unfold pm
  generalize w / pu (pd c) = v at *
  have hg3 := pd_le g
  have hv3 := pd_le v
  have v1 : pd v = 0 ∨ (pd v = 1 ∧ 1 ≤ v) ∨ (pd v = 2 ∧ 5 ≤ v) ∨ (pd v = 3 ∧ 25 ≤ v) := by
    unfold pd
    (repeat' split) <;> omega
  have g1 : pd g = 0 ∨ pd g = 1 ∨ pd g = 2 ∨ pd g = 3 := by omega
  have p0 : pu 0 = 1 := rfl
  have p1 : pu 1 = 5 := rfl
  have p2 : pu 2 = 25 := rfl
  have p3 : pu 3 = 125 := rfl
  rcases g1 with e | e | e | e <;> rw [e] at h ⊢ <;> simp only [p0, p1, p2, p3] <;> omega
theorem lsB_1 {now path c sr gp : Nat} (h : path = c) (hp : pgb path = true) (v2 : 0 < rat σ sr gp) : lsB σ now path c sr gp = pm path c gp := by
  subst h
  have := pd_le gp
  unfold lsB
  rw [if_pos ⟨by omega, by rw [pm_f hp]; omega, Or.inl rfl⟩]
theorem lsB_2 {now path c sr gp : Nat} (hp : pgb path = true) (hu : pun path c = true) (hg5 : gp < 125) (h : 0 < rat σ sr (pm path c gp) ∧ σ 10 (rat σ sr (pm path c gp)) = σ 10 (rat σ now path)) : lsB σ now path c sr gp = pm path c gp := by
  have h5 := rat_lt125 (σ := σ) (s := sr) (n := pm path c gp) (by omega)
  have hc : pgb c = true := by
    rw [← pun_iff.mp hu]
    exact pq_good hp (by have := pd_le c; omega)
  unfold lsB
  rw [if_pos ⟨fun z => by have := pm_ge hp hc hu z; omega, by omega, Or.inr h.2⟩]
theorem lsB_3 {now path c sr gp : Nat} (h : path ≠ c) (h2 : ¬ (0 < rat σ sr (pm path c gp) ∧ σ 10 (rat σ sr (pm path c gp)) = σ 10 (rat σ now path))) : lsB σ now path c sr gp = 125 := by
  unfold lsB
  rw [if_neg]
  rintro ⟨-, z2, z3⟩
  rcases z3 with z3 | z3
  · exact h z3.symm
  · exact h2 ⟨by omega, z3⟩
theorem lcv_1 {x y z : Int32} (h : rvn σ x = 16) : -1 = mI (lcA σ x y z) := by
  unfold lcA
  rw [if_pos (Or.inl h)]
  rfl
theorem lcv_2 {r : Nat} {y z : Int32} (hy : σ 1 0 ≤ 15) (_ : rvn σ (nI r) = r) (hr : r ≤ σ 1 0) (h : rvn σ z = 16) : -1 = mI (lcA σ (nI r) y z) := by
  unfold lcA
  rw [if_pos]
  · rfl
  · by_cases hz : z < 0
    · exact Or.inr (Or.inl hz)
    · refine Or.inr (Or.inr (Or.inl ?_))
      by_cases h2 : z ≤ nI (σ 1 0)
      · obtain ⟨k, hk, -, e⟩ := rv_1 hy hz h2
        omega
      · rw [Int32.lt_iff_toInt_lt]
        rw [Int32.le_iff_toInt_le] at h2
        rw [nI_toInt (by omega)] at h2 ⊢
        omega
theorem lcv_3 {r a : Nat} {y : Int32} (hy : σ 1 0 ≤ 15) (hr : r ≤ σ 1 0) (ha : a ≤ σ 1 0) (h : r < a) : -1 = mI (lcA σ (nI r) y (nI a)) := by
  unfold lcA
  rw [if_pos (Or.inr (Or.inr (Or.inl ((nI_ltI (by omega) (by omega)).mpr h))))]
  rfl
theorem lcv_4 {x y z : Int32} {r : Nat} (hr : rvn σ x = r) (h : rat σ r (ix y) = 0) : -1 = mI (lcA σ x y z) := by
  unfold lcA
  rw [hr, if_pos (Or.inr (Or.inr (Or.inr h)))]
  rfl
theorem lcv_5 {r a p0 : Nat} (hy : σ 1 0 ≤ 15) (hr : r ≤ σ 1 0) (ha : a ≤ σ 1 0) (h : a ≤ r) (hp : p0 < 125) (h0 : 0 < rat σ r p0) : lcA σ (nI r) (nI p0) (nI a) = lcf σ a 16 r p0 := by
  unfold lcA
  rw [rvn_n hy hr, ix_n hp, nI_clamp (by omega), if_neg]
  rintro (z | z | z | z)
  · omega
  · exact nI_pos (by omega) z
  · have := (nI_ltI (by omega) (by omega)).mp z
    omega
  · omega
end CLL
set_option maxHeartbeats 1000000 in
set_option maxRecDepth 100000 in
theorem c_T_locate {l : Launch} {E : Ev} {M : mp_M} {sz : Nat} {σ : SS} {ca na ta : Nat → Nat} (hP : PIC E σ ca na ta M) (hI : INV σ 3) (hN : σ 4 0 < 1300) {x y z : Int32} : MCi l E y_T_locate prog_1_method_16_code 12 (some .int) 3 65 0 0 [.ref (ca 0), .int x, .int y, .int z] M sz (fun r' M' => r' = mI (lcA σ x y z) ∧ M' = M) := by
  refine mc_of R_T rfl [some (.ref (ca 0)), some (.int x), some (.int y), some (.int z), none, none, none, none, none, none, none, none] (by decide) (Nat.le_of_ble_eq_true rfl) rfl ?_
  intro p e R s m ag below meth c ls Q A X hAe hQ hR hsz hw hl
  rw [← hAe] at hQ
  obtain ⟨⟨hx, hb, hml, hown, hts⟩, hE, hA, hr, hlk, hnm⟩ := X
  have hK := hE.1
  have loop : ∀ (a r F : Nat) (y0 : Int32), lcA σ x y z = F → a ≤ 15 → r ≤ 15 → ∀ (u now path st : Nat) (H : Heap) (locs : List Loc) (ls : Array Slot), st + u = 16 → now ≤ σ 1 0 → path < 125 → pgb path = true → 0 < rat σ now path → ((a ≤ now ∧ lcf σ a u now path = F) ∨ (now < a ∧ 125 = F)) → mw E.1 vwCl A s.heap M H locs → lh ls [some (.ref (ca 0)), some (.int (nI r)), some (.int y0), some (.int (nI a)), some (.int (nI now)), some (.int (nI path)), some (.int (nI st)), none, none, none, none, none] → W p l e R s m ag below meth c H locs 0 0 Q (F0 m 45 ls []) := by
    have hy := inv_y hI
    intro a r F y0 hFL ha15 hr15 u
    induction u with
    | zero =>
      intro now path st H locs ls hst hny hp5 hpg hr0 hor hw hl
      rcases hor with ⟨hna, hT⟩ | ⟨hna, hT⟩
      · refine x_iload hx hb d_T_locate_45 hl rfl ?_
        refine lv_bipush (v := nI 16) hx hb d_T_locate_47 (by decide) ?_
        refine x_icmp_ge hx hb d_T_locate_49 rfl (by omega) (by omega) (fun h49 => ?_) (fun h49 => ?_)
        · refine x_iload hx hb d_T_locate_171 hl rfl ?_
          refine x_iload_n hx hb d_T_locate_173 hl rfl ?_
          refine x_icmp_ne hx hb d_T_locate_174 rfl (by omega) (by omega) (fun h174 => ?_) (fun h174 => ?_)
          · refine lv_iconst (v := -1) hx hb d_T_locate_182 (by decide) ?_
            exact x_reti hQ hx hb hr hlk rfl hw (by omega) (by omega) d_T_locate_183 (⟨by first | (rw [hFL, ← hT, lc_e h174, mI_n (by omega)]) | (rw [hFL, ← hT, lc_z h174]; rfl), rfl⟩)
          · refine x_iload hx hb d_T_locate_177 hl rfl ?_
            refine lv_goto hx hb d_T_locate_179 rfl ?_
            exact x_reti hQ hx hb hr hlk rfl hw (by omega) (by omega) d_T_locate_183 (⟨by first | (rw [hFL, ← hT, lc_e h174, mI_n (by omega)]) | (rw [hFL, ← hT, lc_z h174]; rfl), rfl⟩)
        · exact absurd h49 (by omega)
      · refine x_iload hx hb d_T_locate_45 hl rfl ?_
        refine lv_bipush (v := nI 16) hx hb d_T_locate_47 (by decide) ?_
        refine x_icmp_ge hx hb d_T_locate_49 rfl (by omega) (by omega) (fun h49 => ?_) (fun h49 => ?_)
        · refine x_iload hx hb d_T_locate_171 hl rfl ?_
          refine x_iload_n hx hb d_T_locate_173 hl rfl ?_
          refine x_icmp_ne hx hb d_T_locate_174 rfl (by omega) (by omega) (fun h174 => ?_) (fun h174 => ?_)
          · refine lv_iconst (v := -1) hx hb d_T_locate_182 (by decide) ?_
            exact x_reti hQ hx hb hr hlk rfl hw (by omega) (by omega) d_T_locate_183 (⟨by rw [hFL, ← hT]; rfl, rfl⟩)
          · exact absurd h174 (by omega)
        · exact absurd h49 (by omega)
    | succ u ih =>
      intro now path st H locs ls hst hny hp5 hpg hr0 hor hw hl
      have hroot : cpc σ now 0 = false := cpc_2 ((hI.2.2.2.2.2.1 now hny).1.1.2.2.2)
      rcases hor with ⟨hna, hT⟩ | ⟨hna, hT⟩
      · by_cases hc : cpd σ now path = 125
        · refine x_iload hx hb d_T_locate_45 hl rfl ?_
          refine lv_bipush (v := nI 16) hx hb d_T_locate_47 (by decide) ?_
          refine x_icmp_ge hx hb d_T_locate_49 rfl (by omega) (by omega) (fun h49 => ?_) (fun h49 => ?_)
          · exact absurd h49 (by omega)
          · refine x_iload hx hb d_T_locate_52 hl rfl ?_
            refine x_iload_n hx hb d_T_locate_54 hl rfl ?_
            refine x_icmp_le hx hb d_T_locate_55 rfl (by omega) (by omega) (fun h55 => ?_) (fun h55 => ?_)
            · have hend1 : now = a → nI path = mI (lcA σ x y z) := fun z => by rw [hFL, ← hT, lc_e z, mI_n (by omega)]
              have hend2 : now ≠ a → -1 = mI (lcA σ x y z) := fun z => by omega
              refine x_iload hx hb d_T_locate_171 hl rfl ?_
              refine x_iload_n hx hb d_T_locate_173 hl rfl ?_
              refine x_icmp_ne hx hb d_T_locate_174 rfl (by omega) (by omega) (fun h174 => ?_) (fun h174 => ?_)
              · refine lv_iconst (v := -1) hx hb d_T_locate_182 (by decide) ?_
                exact x_reti hQ hx hb hr hlk rfl hw (by omega) (by omega) d_T_locate_183 (⟨by first | exact hend1 h174 | exact hend2 h174, rfl⟩)
              · refine x_iload hx hb d_T_locate_177 hl rfl ?_
                refine lv_goto hx hb d_T_locate_179 rfl ?_
                exact x_reti hQ hx hb hr hlk rfl hw (by omega) (by omega) d_T_locate_183 (⟨by first | exact hend1 h174 | exact hend2 h174, rfl⟩)
            · first | refine x_aload_n hx hb d_T_locate_58 hl rfl ?_ | refine x_aload_nQ hx hb d_T_locate_58 hl rfl ?_
              refine m_get hx hb hts hown hK hw ci_T (pic_o hP) 0 (by decide) (wm1 160 rfl rfl) rfl d_T_locate_59 ?_
              refine x_iload hx hb d_T_locate_62 hl rfl ?_
              refine m_aald hx hb hK hw 1 (pic_r hP) rfl (by omega) (by decide) (if_pos (by omega)) d_T_locate_64 ?_
              first | refine x_astore hx hb d_T_locate_65 hl (Nat.le_of_ble_eq_true rfl) (lh_k (i := 6) rfl (by first | exact lk_n | exact lk_i | exact lk_r | exact lk_q | exact lk_0)) (fun ls hl => ?_) | refine x_astoreQ hx hb d_T_locate_65 hl (Nat.le_of_ble_eq_true rfl) (lh_k (i := 6) rfl (by first | exact lk_n | exact lk_i | exact lk_r | exact lk_q | exact lk_0)) (fun ls hl => ?_)
              first | refine x_aload hx hb d_T_locate_67 hl rfl ?_ | refine x_aloadQ hx hb d_T_locate_67 hl rfl ?_
              refine x_iload hx hb d_T_locate_69 hl rfl ?_
              refine x_iload hx hb d_T_locate_71 hl rfl ?_
              refine m_calli (k_V ⟨hx, hb, hml, hown, hts⟩ hE hA hw (c_Tr_above hP hI (by omega) hp5) (ci_Tr).1 rfl (pic_t hP (k := now) (by omega)) (wm3 43 rfl rfl) (wm3 44 rfl rfl) (wm3 45 rfl rfl) (wm1 6 rfl rfl) (wm3 46 rfl rfl) rfl rfl ar_Tr_copyAbove ⟨Nat.le_trans (Nat.le_of_ble_eq_true rfl) hR.1, Nat.le_trans (Nat.le_of_ble_eq_true rfl) hR.2.1⟩ rfl hl.1 rfl (Nat.le_of_ble_eq_true rfl) d_T_locate_73 ⟨Nat.le_trans (Nat.le_of_ble_eq_true rfl) hR.2.2.1, Nat.le_trans (Nat.le_of_ble_eq_true rfl) hR.2.2.2⟩) hw (mfr_in hw hA) (fun r73 M73 H locs hP73 hw => ?_)
              obtain ⟨rfl, hM73⟩ := hP73
              rw [hM73] at hw
              rw [← cab_e hpg hroot]
              rw [hc, cI_125]
              refine x_istore hx hb d_T_locate_76 hl (Nat.le_of_ble_eq_true rfl) (lh_k (i := 7) rfl (by first | exact lk_n | exact lk_i | exact lk_r | exact lk_q | exact lk_0)) (fun ls hl => ?_)
              first | refine x_aload hx hb d_T_locate_78 hl rfl ?_ | refine x_aloadQ hx hb d_T_locate_78 hl rfl ?_
              refine x_iload hx hb d_T_locate_80 hl rfl ?_
              refine m_callq (k_V ⟨hx, hb, hml, hown, hts⟩ hE hA hw (c_Tr_at (pic_t hP (k := now) (by omega)) (pic_a hP (k := now) (by omega))) (ci_Tr).1 rfl (pic_t hP (k := now) (by omega)) (wm2 8 rfl rfl) (wm1 212 rfl rfl) (wm1 213 rfl rfl) (wm1 6 rfl rfl) (wm1 214 rfl rfl) rfl rfl ar_Tr_at ⟨Nat.le_trans (Nat.le_of_ble_eq_true rfl) hR.1, Nat.le_trans (Nat.le_of_ble_eq_true rfl) hR.2.1⟩ rfl hl.1 rfl (Nat.le_of_ble_eq_true rfl) d_T_locate_82 ⟨Nat.le_trans (Nat.le_of_ble_eq_true rfl) hR.2.2.1, Nat.le_trans (Nat.le_of_ble_eq_true rfl) hR.2.2.2⟩) hw (mfr_in hw hA) (fun r82 M82 H locs hP82 hw => ?_)
              obtain ⟨rfl, hM82⟩ := hP82
              rw [hM82] at hw
              rw [tat_row (pic_z hP) (k := now) (by omega)]
              rw [ix_lt (by decide), rat_125, nq_0]
              first | refine x_astore hx hb d_T_locate_85 hl (Nat.le_of_ble_eq_true rfl) (lh_k (i := 8) rfl (by first | exact lk_n | exact lk_i | exact lk_r | exact lk_q | exact lk_0)) (fun ls hl => ?_) | refine x_astoreQ hx hb d_T_locate_85 hl (Nat.le_of_ble_eq_true rfl) (lh_k (i := 8) rfl (by first | exact lk_n | exact lk_i | exact lk_r | exact lk_q | exact lk_0)) (fun ls hl => ?_)
              first | refine x_aload hx hb d_T_locate_87 hl rfl ?_ | refine x_aloadQ hx hb d_T_locate_87 hl rfl ?_
              refine x_ifnonnullQ hx hb d_T_locate_89 rfl (fun a89 h89 => ?_) (fun h89 => ?_)
              · exact nomatch h89
              · refine x_iload hx hb d_T_locate_92 hl rfl ?_
                refine lv_iconst (v := nI 1) hx hb d_T_locate_94 (by decide) ?_
                refine x_isub hx hb d_T_locate_95 (by omega) ?_
                refine lv_goto hx hb d_T_locate_96 rfl ?_
                refine x_istore hx hb d_T_locate_104 hl (Nat.le_of_ble_eq_true rfl) (lh_k (i := 9) rfl (by first | exact lk_n | exact lk_i | exact lk_r | exact lk_q | exact lk_0)) (fun ls hl => ?_)
                first | refine x_aload hx hb d_T_locate_106 hl rfl ?_ | refine x_aloadQ hx hb d_T_locate_106 hl rfl ?_
                refine x_ifnonnullQ hx hb d_T_locate_108 rfl (fun a108 h108 => ?_) (fun h108 => ?_)
                · exact nomatch h108
                · refine x_iload hx hb d_T_locate_111 hl rfl ?_
                  refine lv_goto hx hb d_T_locate_113 rfl ?_
                  refine x_istore hx hb d_T_locate_128 hl (Nat.le_of_ble_eq_true rfl) (lh_k (i := 10) rfl (by first | exact lk_n | exact lk_i | exact lk_r | exact lk_q | exact lk_0)) (fun ls hl => ?_)
                  refine x_iload hx hb d_T_locate_130 hl rfl ?_
                  refine x_iload hx hb d_T_locate_132 hl rfl ?_
                  refine lv_icmp_eq hx hb d_T_locate_134 rfl (fun h134 => ?_) (fun h134 => ?_)
                  · exact absurd h134 (nI_nm1 (by omega))
                  · first | refine x_aload_n hx hb d_T_locate_137 hl rfl ?_ | refine x_aload_nQ hx hb d_T_locate_137 hl rfl ?_
                    refine x_iload hx hb d_T_locate_138 hl rfl ?_
                    refine x_iload hx hb d_T_locate_140 hl rfl ?_
                    first | refine x_aload hx hb d_T_locate_142 hl rfl ?_ | refine x_aloadQ hx hb d_T_locate_142 hl rfl ?_
                    refine x_iload hx hb d_T_locate_144 hl rfl ?_
                    refine m_callq (k_V ⟨hx, hb, hml, hown, hts⟩ hE hA hw (c_Tr_at (pic_t hP (k := now) (by omega)) (pic_a hP (k := now) (by omega))) (ci_Tr).1 rfl (pic_t hP (k := now) (by omega)) (wm2 8 rfl rfl) (wm1 212 rfl rfl) (wm1 213 rfl rfl) (wm1 6 rfl rfl) (wm1 214 rfl rfl) rfl rfl ar_Tr_at ⟨Nat.le_trans (Nat.le_of_ble_eq_true rfl) hR.1, Nat.le_trans (Nat.le_of_ble_eq_true rfl) hR.2.1⟩ rfl hl.1 rfl (Nat.le_of_ble_eq_true rfl) d_T_locate_146 ⟨Nat.le_trans (Nat.le_of_ble_eq_true rfl) hR.2.2.1, Nat.le_trans (Nat.le_of_ble_eq_true rfl) hR.2.2.2⟩) hw (mfr_in hw hA) (fun r146 M146 H locs hP146 hw => ?_)
                    obtain ⟨rfl, hM146⟩ := hP146
                    rw [hM146] at hw
                    rw [tat_row (pic_z hP) (k := now) (by omega), ix_n hp5, nq_n hr0]
                    refine m_calli (k_V ⟨hx, hb, hml, hown, hts⟩ hE hA hw (c_T_onLine hP hI hN (r := now - 1) (by omega) hr0 (rat_le (pic_z hP))) (ci_T).1 rfl (pic_o hP) (wm3 50 rfl rfl) (wm3 52 rfl rfl) (wmp2 3 rfl) (wm1 1 rfl rfl) (wm3 53 rfl rfl) rfl rfl ar_T_isOnLine ⟨Nat.le_trans (Nat.le_of_ble_eq_true rfl) hR.1, Nat.le_trans (Nat.le_of_ble_eq_true rfl) hR.2.1⟩ rfl hl.1 rfl (Nat.le_of_ble_eq_true rfl) d_T_locate_149 ⟨Nat.le_trans (Nat.le_of_ble_eq_true rfl) hR.2.2.1, Nat.le_trans (Nat.le_of_ble_eq_true rfl) hR.2.2.2⟩) hw (mfr_in hw hA) (fun r149 M149 H locs hP149 hw => ?_)
                    obtain ⟨rfl, hM149⟩ := hP149
                    rw [hM149] at hw
                    rw [ix_n hp5]
                    refine x_if_neB hx hb d_T_locate_152 rfl (fun h152 => ?_) (fun h152 => ?_)
                    · have h152 := of_decide_eq_true h152
                      have e2 : ls2 σ now path = path := ls2_a hc h152
                      have e1 : ls1 σ now path = now - 1 := if_pos hc
                      refine x_iload hx hb d_T_locate_157 hl rfl ?_
                      refine x_istore hx hb d_T_locate_159 hl (Nat.le_of_ble_eq_true rfl) (lh_k (i := 3) rfl (by first | exact lk_n | exact lk_i | exact lk_r | exact lk_q | exact lk_0)) (fun ls hl => ?_)
                      refine x_iload hx hb d_T_locate_161 hl rfl ?_
                      refine x_istore hx hb d_T_locate_163 hl (Nat.le_of_ble_eq_true rfl) (lh_k (i := 4) rfl (by first | exact lk_n | exact lk_i | exact lk_r | exact lk_q | exact lk_0)) (fun ls hl => ?_)
                      refine x_iincN hx hb d_T_locate_165 hl rfl (lh_k (i := 5) rfl (by first | exact lk_n | exact lk_i | exact lk_r | exact lk_q | exact lk_0)) (fun ls hl => ?_)
                      refine lv_goto hx hb d_T_locate_168 rfl ?_
                      exact ih (now - 1) path (st + 1) H locs ls (by omega) (by omega) hp5 hpg h152.1 (Or.inl ⟨by omega, by rw [← hT]; exact (lc_g (by omega) e2 e1 (by omega) (by omega)).symm⟩) hw (lh_drop 7 (lh_drop 8 (lh_drop 9 (lh_drop 10 (lh_drop 11 hl)))))
                    · have h152 := of_decide_eq_false h152
                      have hF5 : 125 = F := by
                        rw [← hT]
                        exact (lc_n (by omega) (Or.inl (ls2_b hc h152))).symm
                      refine lv_iconst (v := -1) hx hb d_T_locate_155 (by decide) ?_
                      exact x_reti hQ hx hb hr hlk rfl hw (by omega) (by omega) d_T_locate_156 (⟨by rw [hFL, ← hF5]; rfl, rfl⟩)
        · obtain ⟨c, hcc⟩ : ∃ c, cpd σ now path = c := ⟨_, rfl⟩
          rw [hcc] at hc
          obtain ⟨hcle, hcp⟩ := (cpd_le σ now path).resolve_left (by rw [hcc]; exact hc)
          rw [hcc] at hcle hcp
          obtain ⟨n0, n14, nb9⟩ := cpc_of hcp
          have hnle := rat_le (pic_z hP) (k := now) (q := c)
          obtain ⟨v1, v2⟩ := hI.2.2.2.1 (rat σ now c) (by omega)
          have hun := cpd_un hpg (by omega) hcc hc
          obtain ⟨sr, hsr⟩ : ∃ z, (σ 14 (rat σ now c) - 1) / 125 = z := ⟨_, rfl⟩
          obtain ⟨gp, hgp⟩ : ∃ z, (σ 14 (rat σ now c) - 1) % 125 = z := ⟨_, rfl⟩
          rw [hsr] at v1 v2
          rw [hgp] at v2
          have hg5 : gp < 125 := by omega
          have hpm := pm_big (f := c) hp5 hg5
          have e1 : ls1 σ now path = sr := by unfold ls1; rw [hcc, if_neg hc]; exact hsr
          have e2 : ls2 σ now path = lsB σ now path c sr gp := by unfold ls2; rw [hcc, if_neg hc, hsr, hgp]
          refine x_iload hx hb d_T_locate_45 hl rfl ?_
          refine lv_bipush (v := nI 16) hx hb d_T_locate_47 (by decide) ?_
          refine x_icmp_ge hx hb d_T_locate_49 rfl (by omega) (by omega) (fun h49 => ?_) (fun h49 => ?_)
          · exact absurd h49 (by omega)
          · refine x_iload hx hb d_T_locate_52 hl rfl ?_
            refine x_iload_n hx hb d_T_locate_54 hl rfl ?_
            refine x_icmp_le hx hb d_T_locate_55 rfl (by omega) (by omega) (fun h55 => ?_) (fun h55 => ?_)
            · have hend1 : now = a → nI path = mI (lcA σ x y z) := fun z => by rw [hFL, ← hT, lc_e z, mI_n (by omega)]
              have hend2 : now ≠ a → -1 = mI (lcA σ x y z) := fun z => by omega
              refine x_iload hx hb d_T_locate_171 hl rfl ?_
              refine x_iload_n hx hb d_T_locate_173 hl rfl ?_
              refine x_icmp_ne hx hb d_T_locate_174 rfl (by omega) (by omega) (fun h174 => ?_) (fun h174 => ?_)
              · refine lv_iconst (v := -1) hx hb d_T_locate_182 (by decide) ?_
                exact x_reti hQ hx hb hr hlk rfl hw (by omega) (by omega) d_T_locate_183 (⟨by first | exact hend1 h174 | exact hend2 h174, rfl⟩)
              · refine x_iload hx hb d_T_locate_177 hl rfl ?_
                refine lv_goto hx hb d_T_locate_179 rfl ?_
                exact x_reti hQ hx hb hr hlk rfl hw (by omega) (by omega) d_T_locate_183 (⟨by first | exact hend1 h174 | exact hend2 h174, rfl⟩)
            · first | refine x_aload_n hx hb d_T_locate_58 hl rfl ?_ | refine x_aload_nQ hx hb d_T_locate_58 hl rfl ?_
              refine m_get hx hb hts hown hK hw ci_T (pic_o hP) 0 (by decide) (wm1 160 rfl rfl) rfl d_T_locate_59 ?_
              refine x_iload hx hb d_T_locate_62 hl rfl ?_
              refine m_aald hx hb hK hw 1 (pic_r hP) rfl (by omega) (by decide) (if_pos (by omega)) d_T_locate_64 ?_
              first | refine x_astore hx hb d_T_locate_65 hl (Nat.le_of_ble_eq_true rfl) (lh_k (i := 6) rfl (by first | exact lk_n | exact lk_i | exact lk_r | exact lk_q | exact lk_0)) (fun ls hl => ?_) | refine x_astoreQ hx hb d_T_locate_65 hl (Nat.le_of_ble_eq_true rfl) (lh_k (i := 6) rfl (by first | exact lk_n | exact lk_i | exact lk_r | exact lk_q | exact lk_0)) (fun ls hl => ?_)
              first | refine x_aload hx hb d_T_locate_67 hl rfl ?_ | refine x_aloadQ hx hb d_T_locate_67 hl rfl ?_
              refine x_iload hx hb d_T_locate_69 hl rfl ?_
              refine x_iload hx hb d_T_locate_71 hl rfl ?_
              refine m_calli (k_V ⟨hx, hb, hml, hown, hts⟩ hE hA hw (c_Tr_above hP hI (by omega) hp5) (ci_Tr).1 rfl (pic_t hP (k := now) (by omega)) (wm3 43 rfl rfl) (wm3 44 rfl rfl) (wm3 45 rfl rfl) (wm1 6 rfl rfl) (wm3 46 rfl rfl) rfl rfl ar_Tr_copyAbove ⟨Nat.le_trans (Nat.le_of_ble_eq_true rfl) hR.1, Nat.le_trans (Nat.le_of_ble_eq_true rfl) hR.2.1⟩ rfl hl.1 rfl (Nat.le_of_ble_eq_true rfl) d_T_locate_73 ⟨Nat.le_trans (Nat.le_of_ble_eq_true rfl) hR.2.2.1, Nat.le_trans (Nat.le_of_ble_eq_true rfl) hR.2.2.2⟩) hw (mfr_in hw hA) (fun r73 M73 H locs hP73 hw => ?_)
              obtain ⟨rfl, hM73⟩ := hP73
              rw [hM73] at hw
              rw [← cab_e hpg hroot]
              rw [hcc, cI_n hc]
              refine x_istore hx hb d_T_locate_76 hl (Nat.le_of_ble_eq_true rfl) (lh_k (i := 7) rfl (by first | exact lk_n | exact lk_i | exact lk_r | exact lk_q | exact lk_0)) (fun ls hl => ?_)
              first | refine x_aload hx hb d_T_locate_78 hl rfl ?_ | refine x_aloadQ hx hb d_T_locate_78 hl rfl ?_
              refine x_iload hx hb d_T_locate_80 hl rfl ?_
              refine m_callq (k_V ⟨hx, hb, hml, hown, hts⟩ hE hA hw (c_Tr_at (pic_t hP (k := now) (by omega)) (pic_a hP (k := now) (by omega))) (ci_Tr).1 rfl (pic_t hP (k := now) (by omega)) (wm2 8 rfl rfl) (wm1 212 rfl rfl) (wm1 213 rfl rfl) (wm1 6 rfl rfl) (wm1 214 rfl rfl) rfl rfl ar_Tr_at ⟨Nat.le_trans (Nat.le_of_ble_eq_true rfl) hR.1, Nat.le_trans (Nat.le_of_ble_eq_true rfl) hR.2.1⟩ rfl hl.1 rfl (Nat.le_of_ble_eq_true rfl) d_T_locate_82 ⟨Nat.le_trans (Nat.le_of_ble_eq_true rfl) hR.2.2.1, Nat.le_trans (Nat.le_of_ble_eq_true rfl) hR.2.2.2⟩) hw (mfr_in hw hA) (fun r82 M82 H locs hP82 hw => ?_)
              obtain ⟨rfl, hM82⟩ := hP82
              rw [hM82] at hw
              rw [tat_row (pic_z hP) (k := now) (by omega)]
              rw [ix_n (by omega), nq_n n0]
              first | refine x_astore hx hb d_T_locate_85 hl (Nat.le_of_ble_eq_true rfl) (lh_k (i := 8) rfl (by first | exact lk_n | exact lk_i | exact lk_r | exact lk_q | exact lk_0)) (fun ls hl => ?_) | refine x_astoreQ hx hb d_T_locate_85 hl (Nat.le_of_ble_eq_true rfl) (lh_k (i := 8) rfl (by first | exact lk_n | exact lk_i | exact lk_r | exact lk_q | exact lk_0)) (fun ls hl => ?_)
              first | refine x_aload hx hb d_T_locate_87 hl rfl ?_ | refine x_aloadQ hx hb d_T_locate_87 hl rfl ?_
              refine lv_ifnonnull hx hb d_T_locate_89 rfl ?_
              first | refine x_aload hx hb d_T_locate_99 hl rfl ?_ | refine x_aloadQ hx hb d_T_locate_99 hl rfl ?_
              refine m_get hx hb hts hown hK hw ci_N (pic_n hP n0 hnle) 6 (by decide) (wm1 126 rfl rfl) rfl d_T_locate_101 ?_
              rw [srI_n n14, hsr]
              refine x_istore hx hb d_T_locate_104 hl (Nat.le_of_ble_eq_true rfl) (lh_k (i := 9) rfl (by first | exact lk_n | exact lk_i | exact lk_r | exact lk_q | exact lk_0)) (fun ls hl => ?_)
              first | refine x_aload hx hb d_T_locate_106 hl rfl ?_ | refine x_aloadQ hx hb d_T_locate_106 hl rfl ?_
              refine lv_ifnonnull hx hb d_T_locate_108 rfl ?_
              refine x_iload hx hb d_T_locate_116 hl rfl ?_
              refine x_iload hx hb d_T_locate_118 hl rfl ?_
              first | refine x_aload hx hb d_T_locate_120 hl rfl ?_ | refine x_aloadQ hx hb d_T_locate_120 hl rfl ?_
              refine m_get hx hb hts hown hK hw ci_N (pic_n hP n0 hnle) 7 (by decide) (wm1 129 rfl rfl) rfl d_T_locate_122 ?_
              rw [spI_n n14, hgp]
              refine m_calli (k_S ⟨hx, hb, hml, hown, hts⟩ hE hA hw (c_P_moved hp5 (by omega) hg5) (wm3 49 rfl rfl) (wm2 38 rfl rfl) (wm1 10 rfl rfl) (wm2 39 rfl rfl) rfl rfl ar_P_moved ⟨Nat.le_trans (Nat.le_of_ble_eq_true rfl) hR.1, Nat.le_trans (Nat.le_of_ble_eq_true rfl) hR.2.1⟩ rfl hl.1 rfl (Nat.le_of_ble_eq_true rfl) d_T_locate_125 ⟨Nat.le_trans (Nat.le_of_ble_eq_true rfl) hR.2.2.1, Nat.le_trans (Nat.le_of_ble_eq_true rfl) hR.2.2.2⟩) hw (mfr_in hw hA) (fun r125 M125 H locs hP125 hw => ?_)
              obtain ⟨rfl, hM125⟩ := hP125
              rw [hM125] at hw
              refine x_istore hx hb d_T_locate_128 hl (Nat.le_of_ble_eq_true rfl) (lh_k (i := 10) rfl (by first | exact lk_n | exact lk_i | exact lk_r | exact lk_q | exact lk_0)) (fun ls hl => ?_)
              refine x_iload hx hb d_T_locate_130 hl rfl ?_
              refine x_iload hx hb d_T_locate_132 hl rfl ?_
              refine x_icmp_eq hx hb d_T_locate_134 rfl (by omega) (by omega) (fun h134 => ?_) (fun h134 => ?_)
              · have hq2 : lsB σ now path c sr gp = pm path c gp := lsB_1 h134 hpg v2
                have hr2 : 0 < rat σ sr (pm path c gp) := by rw [h134, pm_f (by rw [← h134]; exact hpg)]; exact v2
                refine x_iload hx hb d_T_locate_157 hl rfl ?_
                refine x_istore hx hb d_T_locate_159 hl (Nat.le_of_ble_eq_true rfl) (lh_k (i := 3) rfl (by first | exact lk_n | exact lk_i | exact lk_r | exact lk_q | exact lk_0)) (fun ls hl => ?_)
                refine x_iload hx hb d_T_locate_161 hl rfl ?_
                refine x_istore hx hb d_T_locate_163 hl (Nat.le_of_ble_eq_true rfl) (lh_k (i := 4) rfl (by first | exact lk_n | exact lk_i | exact lk_r | exact lk_q | exact lk_0)) (fun ls hl => ?_)
                refine x_iincN hx hb d_T_locate_165 hl rfl (lh_k (i := 5) rfl (by first | exact lk_n | exact lk_i | exact lk_r | exact lk_q | exact lk_0)) (fun ls hl => ?_)
                refine lv_goto hx hb d_T_locate_168 rfl ?_
                have hg2 := rat_good (σ := σ) (k := sr) (p := pm path c gp) (by omega)
                have hp2 := (pgb_t.mp hg2).1
                rcases Nat.lt_or_ge sr a with hsa | hsa
                · exact ih sr (pm path c gp) (st + 1) H locs ls (by omega) (by omega) hp2 hg2 hr2 (Or.inr ⟨hsa, by rw [← hT]; exact (lc_n (by omega) (Or.inr (by omega))).symm⟩) hw (lh_drop 7 (lh_drop 8 (lh_drop 9 (lh_drop 10 (lh_drop 11 hl)))))
                · exact ih sr (pm path c gp) (st + 1) H locs ls (by omega) (by omega) hp2 hg2 hr2 (Or.inl ⟨hsa, by rw [← hT]; exact (lc_g (by omega) (e2.trans hq2) e1 (by omega) hsa).symm⟩) hw (lh_drop 7 (lh_drop 8 (lh_drop 9 (lh_drop 10 (lh_drop 11 hl)))))
              · first | refine x_aload_n hx hb d_T_locate_137 hl rfl ?_ | refine x_aload_nQ hx hb d_T_locate_137 hl rfl ?_
                refine x_iload hx hb d_T_locate_138 hl rfl ?_
                refine x_iload hx hb d_T_locate_140 hl rfl ?_
                first | refine x_aload hx hb d_T_locate_142 hl rfl ?_ | refine x_aloadQ hx hb d_T_locate_142 hl rfl ?_
                refine x_iload hx hb d_T_locate_144 hl rfl ?_
                refine m_callq (k_V ⟨hx, hb, hml, hown, hts⟩ hE hA hw (c_Tr_at (pic_t hP (k := now) (by omega)) (pic_a hP (k := now) (by omega))) (ci_Tr).1 rfl (pic_t hP (k := now) (by omega)) (wm2 8 rfl rfl) (wm1 212 rfl rfl) (wm1 213 rfl rfl) (wm1 6 rfl rfl) (wm1 214 rfl rfl) rfl rfl ar_Tr_at ⟨Nat.le_trans (Nat.le_of_ble_eq_true rfl) hR.1, Nat.le_trans (Nat.le_of_ble_eq_true rfl) hR.2.1⟩ rfl hl.1 rfl (Nat.le_of_ble_eq_true rfl) d_T_locate_146 ⟨Nat.le_trans (Nat.le_of_ble_eq_true rfl) hR.2.2.1, Nat.le_trans (Nat.le_of_ble_eq_true rfl) hR.2.2.2⟩) hw (mfr_in hw hA) (fun r146 M146 H locs hP146 hw => ?_)
                obtain ⟨rfl, hM146⟩ := hP146
                rw [hM146] at hw
                rw [tat_row (pic_z hP) (k := now) (by omega), ix_n hp5, nq_n hr0]
                refine m_calli (k_V ⟨hx, hb, hml, hown, hts⟩ hE hA hw (c_T_onLine hP hI hN (r := sr) (by omega) hr0 (rat_le (pic_z hP))) (ci_T).1 rfl (pic_o hP) (wm3 50 rfl rfl) (wm3 52 rfl rfl) (wmp2 3 rfl) (wm1 1 rfl rfl) (wm3 53 rfl rfl) rfl rfl ar_T_isOnLine ⟨Nat.le_trans (Nat.le_of_ble_eq_true rfl) hR.1, Nat.le_trans (Nat.le_of_ble_eq_true rfl) hR.2.1⟩ rfl hl.1 rfl (Nat.le_of_ble_eq_true rfl) d_T_locate_149 ⟨Nat.le_trans (Nat.le_of_ble_eq_true rfl) hR.2.2.1, Nat.le_trans (Nat.le_of_ble_eq_true rfl) hR.2.2.2⟩) hw (mfr_in hw hA) (fun r149 M149 H locs hP149 hw => ?_)
                obtain ⟨rfl, hM149⟩ := hP149
                rw [hM149] at hw
                rw [rat_ix hpm]
                refine x_if_neB hx hb d_T_locate_152 rfl (fun h152 => ?_) (fun h152 => ?_)
                · have h152 := of_decide_eq_true h152
                  have hq2 : lsB σ now path c sr gp = pm path c gp := lsB_2 hpg hun hg5 h152
                  have hr2 := h152.1
                  refine x_iload hx hb d_T_locate_157 hl rfl ?_
                  refine x_istore hx hb d_T_locate_159 hl (Nat.le_of_ble_eq_true rfl) (lh_k (i := 3) rfl (by first | exact lk_n | exact lk_i | exact lk_r | exact lk_q | exact lk_0)) (fun ls hl => ?_)
                  refine x_iload hx hb d_T_locate_161 hl rfl ?_
                  refine x_istore hx hb d_T_locate_163 hl (Nat.le_of_ble_eq_true rfl) (lh_k (i := 4) rfl (by first | exact lk_n | exact lk_i | exact lk_r | exact lk_q | exact lk_0)) (fun ls hl => ?_)
                  refine x_iincN hx hb d_T_locate_165 hl rfl (lh_k (i := 5) rfl (by first | exact lk_n | exact lk_i | exact lk_r | exact lk_q | exact lk_0)) (fun ls hl => ?_)
                  refine lv_goto hx hb d_T_locate_168 rfl ?_
                  have hg2 := rat_good (σ := σ) (k := sr) (p := pm path c gp) (by omega)
                  have hp2 := (pgb_t.mp hg2).1
                  rcases Nat.lt_or_ge sr a with hsa | hsa
                  · exact ih sr (pm path c gp) (st + 1) H locs ls (by omega) (by omega) hp2 hg2 hr2 (Or.inr ⟨hsa, by rw [← hT]; exact (lc_n (by omega) (Or.inr (by omega))).symm⟩) hw (lh_drop 7 (lh_drop 8 (lh_drop 9 (lh_drop 10 (lh_drop 11 hl)))))
                  · exact ih sr (pm path c gp) (st + 1) H locs ls (by omega) (by omega) hp2 hg2 hr2 (Or.inl ⟨hsa, by rw [← hT]; exact (lc_g (by omega) (e2.trans hq2) e1 (by omega) hsa).symm⟩) hw (lh_drop 7 (lh_drop 8 (lh_drop 9 (lh_drop 10 (lh_drop 11 hl)))))
                · have h152 := of_decide_eq_false h152
                  have hF5 : 125 = F := by
                    rw [← hT]
                    exact (lc_n (by omega) (Or.inl (e2.trans (lsB_3 h134 h152)))).symm
                  refine lv_iconst (v := -1) hx hb d_T_locate_155 (by decide) ?_
                  exact x_reti hQ hx hb hr hlk rfl hw (by omega) (by omega) d_T_locate_156 (⟨by rw [hFL, ← hF5]; rfl, rfl⟩)
      · refine x_iload hx hb d_T_locate_45 hl rfl ?_
        refine lv_bipush (v := nI 16) hx hb d_T_locate_47 (by decide) ?_
        refine x_icmp_ge hx hb d_T_locate_49 rfl (by omega) (by omega) (fun h49 => ?_) (fun h49 => ?_)
        · exact absurd h49 (by omega)
        · refine x_iload hx hb d_T_locate_52 hl rfl ?_
          refine x_iload_n hx hb d_T_locate_54 hl rfl ?_
          refine x_icmp_le hx hb d_T_locate_55 rfl (by omega) (by omega) (fun h55 => ?_) (fun h55 => ?_)
          · refine x_iload hx hb d_T_locate_171 hl rfl ?_
            refine x_iload_n hx hb d_T_locate_173 hl rfl ?_
            refine x_icmp_ne hx hb d_T_locate_174 rfl (by omega) (by omega) (fun h174 => ?_) (fun h174 => ?_)
            · refine lv_iconst (v := -1) hx hb d_T_locate_182 (by decide) ?_
              exact x_reti hQ hx hb hr hlk rfl hw (by omega) (by omega) d_T_locate_183 (⟨by rw [hFL, ← hT]; rfl, rfl⟩)
            · exact absurd h174 (by omega)
          · exact absurd h55 (by omega)
  have hy := inv_y hI
  first | refine x_aload_n hx hb d_T_locate_0 hl rfl ?_ | refine x_aload_nQ hx hb d_T_locate_0 hl rfl ?_
  refine x_iload_n hx hb d_T_locate_1 hl rfl ?_
  refine m_calli (k_V ⟨hx, hb, hml, hown, hts⟩ hE hA hw (c_T_isRev hP hy) (ci_T).1 rfl (pic_o hP) (wm2 19 rfl rfl) (wm2 21 rfl rfl) (wmp1 2 rfl) (wm1 1 rfl rfl) (wm2 22 rfl rfl) rfl rfl ar_T_isRevision ⟨Nat.le_trans (Nat.le_of_ble_eq_true rfl) hR.1, Nat.le_trans (Nat.le_of_ble_eq_true rfl) hR.2.1⟩ rfl hl.1 rfl (Nat.le_of_ble_eq_true rfl) d_T_locate_2 ⟨Nat.le_trans (Nat.le_of_ble_eq_true rfl) hR.2.2.1, Nat.le_trans (Nat.le_of_ble_eq_true rfl) hR.2.2.2⟩) hw (mfr_in hw hA) (fun r2 M2 H locs hP2 hw => ?_)
  obtain ⟨rfl, hM2⟩ := hP2
  rw [hM2] at hw
  refine x_if_eqB hx hb d_T_locate_5 rfl (fun h5 => ?_) (fun h5 => ?_)
  · have h5 := iv_n h5
    refine lv_iconst (v := -1) hx hb d_T_locate_34 (by decide) ?_
    exact x_reti hQ hx hb hr hlk rfl hw (by omega) (by omega) d_T_locate_35 (⟨by first | exact lcv_1 h5 | exact lcv_2 hy hr9 hrY h13 | exact lcv_3 hy hrY ha h18 | exact lcv_4 hr9 h31, rfl⟩)
  · obtain ⟨r, hrY, rfl, hr9⟩ := iv_of hy h5
    first | refine x_aload_n hx hb d_T_locate_8 hl rfl ?_ | refine x_aload_nQ hx hb d_T_locate_8 hl rfl ?_
    refine x_iload_n hx hb d_T_locate_9 hl rfl ?_
    refine m_calli (k_V ⟨hx, hb, hml, hown, hts⟩ hE hA hw (c_T_isRev hP hy) (ci_T).1 rfl (pic_o hP) (wm2 19 rfl rfl) (wm2 21 rfl rfl) (wmp1 2 rfl) (wm1 1 rfl rfl) (wm2 22 rfl rfl) rfl rfl ar_T_isRevision ⟨Nat.le_trans (Nat.le_of_ble_eq_true rfl) hR.1, Nat.le_trans (Nat.le_of_ble_eq_true rfl) hR.2.1⟩ rfl hl.1 rfl (Nat.le_of_ble_eq_true rfl) d_T_locate_10 ⟨Nat.le_trans (Nat.le_of_ble_eq_true rfl) hR.2.2.1, Nat.le_trans (Nat.le_of_ble_eq_true rfl) hR.2.2.2⟩) hw (mfr_in hw hA) (fun r10 M10 H locs hP10 hw => ?_)
    obtain ⟨rfl, hM10⟩ := hP10
    rw [hM10] at hw
    refine x_if_eqB hx hb d_T_locate_13 rfl (fun h13 => ?_) (fun h13 => ?_)
    · have h13 := iv_n h13
      refine lv_iconst (v := -1) hx hb d_T_locate_34 (by decide) ?_
      exact x_reti hQ hx hb hr hlk rfl hw (by omega) (by omega) d_T_locate_35 (⟨by first | exact lcv_1 h5 | exact lcv_2 hy hr9 hrY h13 | exact lcv_3 hy hrY ha h18 | exact lcv_4 hr9 h31, rfl⟩)
    · obtain ⟨a, ha, rfl, ha9⟩ := iv_of hy h13
      refine x_iload_n hx hb d_T_locate_16 hl rfl ?_
      refine x_iload_n hx hb d_T_locate_17 hl rfl ?_
      refine x_icmp_gt hx hb d_T_locate_18 rfl (by omega) (by omega) (fun h18 => ?_) (fun h18 => ?_)
      · refine lv_iconst (v := -1) hx hb d_T_locate_34 (by decide) ?_
        exact x_reti hQ hx hb hr hlk rfl hw (by omega) (by omega) d_T_locate_35 (⟨by first | exact lcv_1 h5 | exact lcv_2 hy hr9 hrY h13 | exact lcv_3 hy hrY ha h18 | exact lcv_4 hr9 h31, rfl⟩)
      · first | refine x_aload_n hx hb d_T_locate_21 hl rfl ?_ | refine x_aload_nQ hx hb d_T_locate_21 hl rfl ?_
        refine m_get hx hb hts hown hK hw ci_T (pic_o hP) 0 (by decide) (wm1 160 rfl rfl) rfl d_T_locate_22 ?_
        refine x_iload_n hx hb d_T_locate_25 hl rfl ?_
        refine m_aald hx hb hK hw 1 (pic_r hP) rfl (by omega) (by decide) (if_pos (by omega)) d_T_locate_26 ?_
        refine x_iload_n hx hb d_T_locate_27 hl rfl ?_
        refine m_callq (k_V ⟨hx, hb, hml, hown, hts⟩ hE hA hw (c_Tr_at (pic_t hP (k := r) (by omega)) (pic_a hP (k := r) (by omega))) (ci_Tr).1 rfl (pic_t hP (k := r) (by omega)) (wm2 8 rfl rfl) (wm1 212 rfl rfl) (wm1 213 rfl rfl) (wm1 6 rfl rfl) (wm1 214 rfl rfl) rfl rfl ar_Tr_at ⟨Nat.le_trans (Nat.le_of_ble_eq_true rfl) hR.1, Nat.le_trans (Nat.le_of_ble_eq_true rfl) hR.2.1⟩ rfl hl.1 rfl (Nat.le_of_ble_eq_true rfl) d_T_locate_28 ⟨Nat.le_trans (Nat.le_of_ble_eq_true rfl) hR.2.2.1, Nat.le_trans (Nat.le_of_ble_eq_true rfl) hR.2.2.2⟩) hw (mfr_in hw hA) (fun r28 M28 H locs hP28 hw => ?_)
        obtain ⟨rfl, hM28⟩ := hP28
        rw [hM28] at hw
        rw [tat_row (pic_z hP) (k := r) (by omega)]
        refine x_ifnonnullQ hx hb d_T_locate_31 rfl (fun a31 h31 => ?_) (fun h31 => ?_)
        · obtain ⟨h0, -⟩ := nq_some h31
          have hpg := rat_good (σ := σ) (k := r) (p := ix y) (by omega)
          obtain ⟨p0, hp5, rfl⟩ := ix_good hpg
          rw [ix_n hp5] at h0 hpg
          refine x_iload_n hx hb d_T_locate_36 hl rfl ?_
          refine x_istore hx hb d_T_locate_37 hl (Nat.le_of_ble_eq_true rfl) (lh_k (i := 3) rfl (by first | exact lk_n | exact lk_i | exact lk_r | exact lk_q | exact lk_0)) (fun ls hl => ?_)
          refine x_iload_n hx hb d_T_locate_39 hl rfl ?_
          refine x_istore hx hb d_T_locate_40 hl (Nat.le_of_ble_eq_true rfl) (lh_k (i := 4) rfl (by first | exact lk_n | exact lk_i | exact lk_r | exact lk_q | exact lk_0)) (fun ls hl => ?_)
          refine lv_iconst (v := nI 0) hx hb d_T_locate_42 (by decide) ?_
          refine x_istore hx hb d_T_locate_43 hl (Nat.le_of_ble_eq_true rfl) (lh_k (i := 5) rfl (by first | exact lk_n | exact lk_i | exact lk_r | exact lk_q | exact lk_0)) (fun ls hl => ?_)
          exact loop a r (lcf σ a 16 r p0) (nI p0) (lcv_5 hy hrY ha h18 hp5 h0) (by omega) (by omega) 16 r p0 0 _ _ _ rfl hrY hp5 hpg h0 (Or.inl ⟨h18, rfl⟩) hw hl
        · have h31 := nq_none h31
          refine lv_iconst (v := -1) hx hb d_T_locate_34 (by decide) ?_
          exact x_reti hQ hx hb hr hlk rfl hw (by omega) (by omega) d_T_locate_35 (⟨by first | exact lcv_1 h5 | exact lcv_2 hy hr9 hrY h13 | exact lcv_3 hy hrY ha h18 | exact lcv_4 hr9 h31, rfl⟩)
