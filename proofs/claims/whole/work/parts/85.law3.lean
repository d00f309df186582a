theorem d_L_235 : decode code 235 = .ok (.aload_n 1, 1) := by decide +kernel
theorem d_L_236 : decode code 236 = .ok (.aload_n 0, 1) := by decide +kernel
theorem d_L_237 : decode code 237 = .ok (.iload_n 3, 1) := by decide +kernel
theorem d_L_238 : decode code 238 = .ok (.iconst 1, 1) := by decide +kernel
theorem d_L_239 : decode code 239 = .ok (.iadd, 1) := by decide +kernel
theorem d_L_240 : decode code 240 = .ok (.iaload, 1) := by decide +kernel
theorem d_L_241 : decode code 241 = .ok (.aload_n 0, 1) := by decide +kernel
theorem d_L_242 : decode code 242 = .ok (.iload_n 3, 1) := by decide +kernel
theorem d_L_243 : decode code 243 = .ok (.iconst 2, 1) := by decide +kernel
theorem d_L_244 : decode code 244 = .ok (.iadd, 1) := by decide +kernel
theorem d_L_245 : decode code 245 = .ok (.iaload, 1) := by decide +kernel
theorem d_L_246 : decode code 246 = .ok (.aload_n 0, 1) := by decide +kernel
theorem d_L_247 : decode code 247 = .ok (.iload_n 3, 1) := by decide +kernel
theorem d_L_248 : decode code 248 = .ok (.iconst 3, 1) := by decide +kernel
theorem d_L_249 : decode code 249 = .ok (.iadd, 1) := by decide +kernel
theorem d_L_250 : decode code 250 = .ok (.iaload, 1) := by decide +kernel
theorem d_L_251 : decode code 251 = .ok (.aload_n 0, 1) := by decide +kernel
theorem d_L_252 : decode code 252 = .ok (.iload_n 3, 1) := by decide +kernel
theorem d_L_253 : decode code 253 = .ok (.iconst 4, 1) := by decide +kernel
theorem d_L_254 : decode code 254 = .ok (.iadd, 1) := by decide +kernel
theorem d_L_255 : decode code 255 = .ok (.iaload, 1) := by decide +kernel
theorem d_L_256 : decode code 256 = .ok (.invokevirtual 28, 3) := by decide +kernel
theorem d_L_259 : decode code 259 = .ok (.aload_n 2, 1) := by decide +kernel
theorem d_L_260 : decode code 260 = .ok (.aload_n 0, 1) := by decide +kernel
theorem d_L_261 : decode code 261 = .ok (.iload_n 3, 1) := by decide +kernel
theorem d_L_262 : decode code 262 = .ok (.iconst 1, 1) := by decide +kernel
theorem d_L_263 : decode code 263 = .ok (.iadd, 1) := by decide +kernel
theorem d_L_264 : decode code 264 = .ok (.iaload, 1) := by decide +kernel
theorem d_L_265 : decode code 265 = .ok (.aload_n 0, 1) := by decide +kernel
theorem d_L_266 : decode code 266 = .ok (.iload_n 3, 1) := by decide +kernel
theorem d_L_267 : decode code 267 = .ok (.iconst 2, 1) := by decide +kernel
theorem d_L_268 : decode code 268 = .ok (.iadd, 1) := by decide +kernel
theorem d_L_269 : decode code 269 = .ok (.iaload, 1) := by decide +kernel
theorem d_L_270 : decode code 270 = .ok (.aload_n 0, 1) := by decide +kernel
theorem d_L_271 : decode code 271 = .ok (.iload_n 3, 1) := by decide +kernel
theorem d_L_272 : decode code 272 = .ok (.iconst 3, 1) := by decide +kernel
theorem d_L_273 : decode code 273 = .ok (.iadd, 1) := by decide +kernel
theorem d_L_274 : decode code 274 = .ok (.iaload, 1) := by decide +kernel
theorem d_L_275 : decode code 275 = .ok (.aload_n 0, 1) := by decide +kernel
theorem d_L_276 : decode code 276 = .ok (.iload_n 3, 1) := by decide +kernel
theorem d_L_277 : decode code 277 = .ok (.iconst 4, 1) := by decide +kernel
theorem d_L_278 : decode code 278 = .ok (.iadd, 1) := by decide +kernel
theorem d_L_279 : decode code 279 = .ok (.iaload, 1) := by decide +kernel
theorem d_L_280 : decode code 280 = .ok (.invokevirtual 32, 3) := by decide +kernel
theorem d_L_283 : decode code 283 = .ok (.if_icmp .eq 468, 3) := by decide +kernel
theorem d_L_286 : decode code 286 = .ok (.iconst 0, 1) := by decide +kernel
theorem d_L_287 : decode code 287 = .ok (.ireturn, 1) := by decide +kernel
set_option maxHeartbeats 1000000 in
set_option maxRecDepth 100000 in
theorem lw_c3 {p : Program} {l : Launch} {e : Env} {s : State} {m : MethodId} {below : List Frame} {meth : Method} {c : Code} {H : Heap} {locs : List Loc} {cells slots : Nat} {Q : State → Prop} {ls : Array Slot} {A : Nat → Prop} {b L k : Nat} {xs : Nat → Int32} {E : Ev} {σ : SS} {ca na ta ad : Nat → Nat} {M : mp_M} (X : LX p s m c b L xs E A) (hk : 6 * k + 6 ≤ L) (h : LI E A s.heap k σ ca na ta ad M H locs cells slots) (hl : lh ls [some (.ref b), some (.ref (ca 0)), some (.ref (ad 0)), some (.int (nI (6 * k)))])
    (kk : ∀ (σ' : SS) (na' ta' : Nat → Nat) (M' : mp_M) (H' : Heap) (locs' : List Loc) (cells' slots' : Nat), LI E A s.heap (k + 1) σ' ca na' ta' ad M' H' locs' cells' slots' → W p l e room_1 s m #[Value.ref b] below meth c H' locs' cells' slots' Q (F0 m 751 ls [])) : W p l e room_1 s m #[Value.ref b] below meth c H locs cells slots Q (F0 m 235 ls []) := by
  obtain ⟨⟨hx, hb, hml, hown, hts⟩, hE, hA, hX, hbl, hbA, hcl, hL⟩ := X
  obtain ⟨hP, hI, hB, hPT, hCW, hJ, hw, hw2, hd, hcc, hss⟩ := h
  have hy := inv_y hI
  have hpt := PT_le (σ := σ)
  have hN : ∀ j, σ 0 j < 1300 := fun j => by have := hI.1.1 j; omega
  obtain ⟨i0, i1, i2, i3⟩ := cpO_inv (t := (tx (xs (6 * k + 1)))) (r := rvn σ (xs (6 * k + 2))) (f := (ix (xs (6 * k + 3)))) (g := (ix (xs (6 * k + 4)))) hI (by omega) (rvn_le hy)
  have y1 : (cpO σ (tx (xs (6 * k + 1))) (rvn σ (xs (6 * k + 2))) (ix (xs (6 * k + 3))) (ix (xs (6 * k + 4)))) 1 0 = σ 1 0 := cpO_y
  refine x_aload_n hx hb d_L_235 hl rfl ?_
  refine x_scr 1 hx hb hX hbl hbA hw.2.2 (by omega) hL hl rfl rfl d_L_236 d_L_237 d_L_238 rfl d_L_239 d_L_240 ?_
  refine x_scr 2 hx hb hX hbl hbA hw.2.2 (by omega) hL hl rfl rfl d_L_241 d_L_242 d_L_243 rfl d_L_244 d_L_245 ?_
  refine x_scr 3 hx hb hX hbl hbA hw.2.2 (by omega) hL hl rfl rfl d_L_246 d_L_247 d_L_248 rfl d_L_249 d_L_250 ?_
  refine x_scr 4 hx hb hX hbl hbA hw.2.2 (by omega) hL hl rfl rfl d_L_251 d_L_252 d_L_253 rfl d_L_254 d_L_255 ?_
  refine f_calli (k_V ⟨hx, hb, hml, hown, hts⟩ hE hA hw (c_T_copy hP hI (by omega)) (ci_T).1 rfl (pic_o hP) (wm2 15 rfl rfl) (wm2 16 rfl rfl) (wm2 17 rfl rfl) (wm1 1 rfl rfl) (wm2 18 rfl rfl) rfl rfl ar_T_copy ⟨Nat.le_of_ble_eq_true rfl, Nat.le_of_ble_eq_true rfl⟩ rfl hl.1 rfl (Nat.le_of_ble_eq_true rfl) d_L_256 ⟨by show cells + 5 ≤ 600000; omega, by show slots + 50 ≤ 7302250; omega⟩) hw hA hw2 hd (fun r1 M1 H locs hP1 hw hw2 hd => ?_)
  obtain ⟨hr1, na1, ta1, hP1⟩ := hP1
  refine x_aload_n hx hb d_L_259 hl rfl ?_
  refine x_scr 1 hx hb hX hbl hbA hw.2.2 (by omega) hL hl rfl rfl d_L_260 d_L_261 d_L_262 rfl d_L_263 d_L_264 ?_
  refine x_scr 2 hx hb hX hbl hbA hw.2.2 (by omega) hL hl rfl rfl d_L_265 d_L_266 d_L_267 rfl d_L_268 d_L_269 ?_
  refine x_scr 3 hx hb hX hbl hbA hw.2.2 (by omega) hL hl rfl rfl d_L_270 d_L_271 d_L_272 rfl d_L_273 d_L_274 ?_
  refine x_scr 4 hx hb hX hbl hbA hw.2.2 (by omega) hL hl rfl rfl d_L_275 d_L_276 d_L_277 rfl d_L_278 d_L_279 ?_
  refine f_calli (k_V ⟨hx, hb, hml, hown, hts⟩ hE hA hw2 (c_M_copy hJ hB hy hN i0) (ci_M).1 rfl (rf_at hJ 0 (by decide) rfl) (wm3 196 rfl rfl) (wm3 197 rfl rfl) (wm3 198 rfl rfl) (wm1 9 rfl rfl) (wm3 199 rfl rfl) rfl rfl ar_M_copy ⟨Nat.le_of_ble_eq_true rfl, Nat.le_of_ble_eq_true rfl⟩ rfl hl.1 rfl (Nat.le_of_ble_eq_true rfl) d_L_280 ⟨by show cells + 5 + 0 ≤ 600000; omega, by show slots + 50 + 0 ≤ 7302250; omega⟩) hw2 hA hw hd.symm (fun r2 M2 H locs hP2 hw2 hw hd => ?_)
  obtain ⟨hr2, hM2, hB2⟩ := hP2
  rw [hM2] at hw2 hd
  refine lv_icmp_eq (tgt := 751) hx hb d_L_283 rfl (fun _ => ?_) (fun hne => absurd (hr1.trans hr2.symm) hne)
  exact kk (cpO σ (tx (xs (6 * k + 1))) (rvn σ (xs (6 * k + 2))) (ix (xs (6 * k + 3))) (ix (xs (6 * k + 4)))) na1 ta1 M1 H locs _ _ ⟨hP1, i1, hB2, by omega, by omega, hJ, hw, hw2, hd.symm, by omega, by omega⟩
