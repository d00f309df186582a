theorem d_L_143 : decode code 143 = .ok (.aload_n 1, 1) := by decide +kernel
theorem d_L_144 : decode code 144 = .ok (.aload_n 0, 1) := by decide +kernel
theorem d_L_145 : decode code 145 = .ok (.iload_n 3, 1) := by decide +kernel
theorem d_L_146 : decode code 146 = .ok (.iconst 1, 1) := by decide +kernel
theorem d_L_147 : decode code 147 = .ok (.iadd, 1) := by decide +kernel
theorem d_L_148 : decode code 148 = .ok (.iaload, 1) := by decide +kernel
theorem d_L_149 : decode code 149 = .ok (.aload_n 0, 1) := by decide +kernel
theorem d_L_150 : decode code 150 = .ok (.iload_n 3, 1) := by decide +kernel
theorem d_L_151 : decode code 151 = .ok (.iconst 2, 1) := by decide +kernel
theorem d_L_152 : decode code 152 = .ok (.iadd, 1) := by decide +kernel
theorem d_L_153 : decode code 153 = .ok (.iaload, 1) := by decide +kernel
theorem d_L_154 : decode code 154 = .ok (.aload_n 0, 1) := by decide +kernel
theorem d_L_155 : decode code 155 = .ok (.iload_n 3, 1) := by decide +kernel
theorem d_L_156 : decode code 156 = .ok (.iconst 3, 1) := by decide +kernel
theorem d_L_157 : decode code 157 = .ok (.iadd, 1) := by decide +kernel
theorem d_L_158 : decode code 158 = .ok (.iaload, 1) := by decide +kernel
theorem d_L_159 : decode code 159 = .ok (.ifCond .eq 7, 3) := by decide +kernel
theorem d_L_162 : decode code 162 = .ok (.iconst 1, 1) := by decide +kernel
theorem d_L_163 : decode code 163 = .ok (.goto 4, 3) := by decide +kernel
theorem d_L_166 : decode code 166 = .ok (.iconst 0, 1) := by decide +kernel
theorem d_L_167 : decode code 167 = .ok (.invokevirtual 18, 3) := by decide +kernel
theorem d_L_170 : decode code 170 = .ok (.aload_n 2, 1) := by decide +kernel
theorem d_L_171 : decode code 171 = .ok (.aload_n 0, 1) := by decide +kernel
theorem d_L_172 : decode code 172 = .ok (.iload_n 3, 1) := by decide +kernel
theorem d_L_173 : decode code 173 = .ok (.iconst 1, 1) := by decide +kernel
theorem d_L_174 : decode code 174 = .ok (.iadd, 1) := by decide +kernel
theorem d_L_175 : decode code 175 = .ok (.iaload, 1) := by decide +kernel
theorem d_L_176 : decode code 176 = .ok (.aload_n 0, 1) := by decide +kernel
theorem d_L_177 : decode code 177 = .ok (.iload_n 3, 1) := by decide +kernel
theorem d_L_178 : decode code 178 = .ok (.iconst 2, 1) := by decide +kernel
theorem d_L_179 : decode code 179 = .ok (.iadd, 1) := by decide +kernel
theorem d_L_180 : decode code 180 = .ok (.iaload, 1) := by decide +kernel
theorem d_L_181 : decode code 181 = .ok (.aload_n 0, 1) := by decide +kernel
theorem d_L_182 : decode code 182 = .ok (.iload_n 3, 1) := by decide +kernel
theorem d_L_183 : decode code 183 = .ok (.iconst 3, 1) := by decide +kernel
theorem d_L_184 : decode code 184 = .ok (.iadd, 1) := by decide +kernel
theorem d_L_185 : decode code 185 = .ok (.iaload, 1) := by decide +kernel
theorem d_L_186 : decode code 186 = .ok (.ifCond .eq 7, 3) := by decide +kernel
theorem d_L_189 : decode code 189 = .ok (.iconst 1, 1) := by decide +kernel
theorem d_L_190 : decode code 190 = .ok (.goto 4, 3) := by decide +kernel
theorem d_L_193 : decode code 193 = .ok (.iconst 0, 1) := by decide +kernel
theorem d_L_194 : decode code 194 = .ok (.invokevirtual 22, 3) := by decide +kernel
theorem d_L_197 : decode code 197 = .ok (.if_icmp .eq 554, 3) := by decide +kernel
theorem d_L_200 : decode code 200 = .ok (.iconst 0, 1) := by decide +kernel
theorem d_L_201 : decode code 201 = .ok (.ireturn, 1) := by decide +kernel
set_option maxHeartbeats 1000000 in
set_option maxRecDepth 100000 in
theorem lw_c1 {p : Program} {l : Launch} {e : Env} {s : State} {m : MethodId} {below : List Frame} {meth : Method} {c : Code} {H : Heap} {locs : List Loc} {cells slots : Nat} {Q : State → Prop} {ls : Array Slot} {A : Nat → Prop} {b L k : Nat} {xs : Nat → Int32} {E : Ev} {σ : SS} {ca na ta ad : Nat → Nat} {M : mp_M} (X : LX p s m c b L xs E A) (hk : 6 * k + 6 ≤ L) (h : LI E A s.heap k σ ca na ta ad M H locs cells slots) (hl : lh ls [some (.ref b), some (.ref (ca 0)), some (.ref (ad 0)), some (.int (nI (6 * k)))])
    (kk : ∀ (σ' : SS) (na' ta' : Nat → Nat) (M' : mp_M) (H' : Heap) (locs' : List Loc) (cells' slots' : Nat), LI E A s.heap (k + 1) σ' ca na' ta' ad M' H' locs' cells' slots' → W p l e room_1 s m #[Value.ref b] below meth c H' locs' cells' slots' Q (F0 m 751 ls [])) : W p l e room_1 s m #[Value.ref b] below meth c H locs cells slots Q (F0 m 143 ls []) := by
  obtain ⟨⟨hx, hb, hml, hown, hts⟩, hE, hA, hX, hbl, hbA, hcl, hL⟩ := X
  obtain ⟨hP, hI, hB, hPT, hCW, hJ, hw, hw2, hd, hcc, hss⟩ := h
  have hy := inv_y hI
  have hpt := PT_le (σ := σ)
  have hN : ∀ j, σ 0 j < 1300 := fun j => by have := hI.1.1 j; omega
  obtain ⟨i0, i1, i2, i3⟩ := mkO_inv (t := (tx (xs (6 * k + 1)))) (q := (ix (xs (6 * k + 2)))) (b := decide ((xs (6 * k + 3)) ≠ 0)) hI (by omega)
  have y1 : (mkO σ (tx (xs (6 * k + 1))) (ix (xs (6 * k + 2))) (decide ((xs (6 * k + 3)) ≠ 0))) 1 0 = σ 1 0 := mkO_y
  refine x_aload_n hx hb d_L_143 hl rfl ?_
  refine x_scr 1 hx hb hX hbl hbA hw.2.2 (by omega) hL hl rfl rfl d_L_144 d_L_145 d_L_146 rfl d_L_147 d_L_148 ?_
  refine x_scr 2 hx hb hX hbl hbA hw.2.2 (by omega) hL hl rfl rfl d_L_149 d_L_150 d_L_151 rfl d_L_152 d_L_153 ?_
  refine x_scr 3 hx hb hX hbl hbA hw.2.2 (by omega) hL hl rfl rfl d_L_154 d_L_155 d_L_156 rfl d_L_157 d_L_158 ?_
  refine x_nz hx hb d_L_159 d_L_162 d_L_163 d_L_166 ?_
  refine f_calli (k_V ⟨hx, hb, hml, hown, hts⟩ hE hA hw (c_T_make hP hI (by omega)) (ci_T).1 rfl (pic_o hP) (wm1 196 rfl rfl) (wm1 197 rfl rfl) (wm1 198 rfl rfl) (wm1 1 rfl rfl) (wm1 199 rfl rfl) rfl rfl ar_T_make ⟨Nat.le_of_ble_eq_true rfl, Nat.le_of_ble_eq_true rfl⟩ rfl hl.1 rfl (Nat.le_of_ble_eq_true rfl) d_L_167 ⟨by show cells + 5 ≤ 600000; omega, by show slots + 50 ≤ 7302250; omega⟩) hw hA hw2 hd (fun r1 M1 H locs hP1 hw hw2 hd => ?_)
  obtain ⟨hr1, na1, ta1, hP1⟩ := hP1
  refine x_aload_n hx hb d_L_170 hl rfl ?_
  refine x_scr 1 hx hb hX hbl hbA hw.2.2 (by omega) hL hl rfl rfl d_L_171 d_L_172 d_L_173 rfl d_L_174 d_L_175 ?_
  refine x_scr 2 hx hb hX hbl hbA hw.2.2 (by omega) hL hl rfl rfl d_L_176 d_L_177 d_L_178 rfl d_L_179 d_L_180 ?_
  refine x_scr 3 hx hb hX hbl hbA hw.2.2 (by omega) hL hl rfl rfl d_L_181 d_L_182 d_L_183 rfl d_L_184 d_L_185 ?_
  refine x_nz hx hb d_L_186 d_L_189 d_L_190 d_L_193 ?_
  refine f_calli (k_V ⟨hx, hb, hml, hown, hts⟩ hE hA hw2 (c_M_make hJ hB hN i0) (ci_M).1 rfl (rf_at hJ 0 (by decide) rfl) (wm3 149 rfl rfl) (wm3 150 rfl rfl) (wm3 151 rfl rfl) (wm1 9 rfl rfl) (wm3 152 rfl rfl) rfl rfl ar_M_make ⟨Nat.le_of_ble_eq_true rfl, Nat.le_of_ble_eq_true rfl⟩ rfl hl.1 rfl (Nat.le_of_ble_eq_true rfl) d_L_194 ⟨by show cells + 5 + 0 ≤ 600000; omega, by show slots + 50 + 0 ≤ 7302250; omega⟩) hw2 hA hw hd.symm (fun r2 M2 H locs hP2 hw2 hw hd => ?_)
  obtain ⟨hr2, hM2, hB2⟩ := hP2
  rw [hM2] at hw2 hd
  refine lv_icmp_eq (tgt := 751) hx hb d_L_197 rfl (fun _ => ?_) (fun hne => absurd (hr1.trans hr2.symm) hne)
  exact kk (mkO σ (tx (xs (6 * k + 1))) (ix (xs (6 * k + 2))) (decide ((xs (6 * k + 3)) ≠ 0))) na1 ta1 M1 H locs _ _ ⟨hP1, i1, hB2, by omega, by omega, hJ, hw, hw2, hd.symm, by omega, by omega⟩
