theorem d_L_330 : decode code 330 = .ok (.iconst 1, 1) := by decide +kernel
theorem d_L_331 : decode code 331 = .ok (.iadd, 1) := by decide +kernel
theorem d_L_332 : decode code 332 = .ok (.iaload, 1) := by decide +kernel
theorem d_L_333 : decode code 333 = .ok (.aload_n 0, 1) := by decide +kernel
theorem d_L_334 : decode code 334 = .ok (.iload_n 3, 1) := by decide +kernel
theorem d_L_335 : decode code 335 = .ok (.iconst 2, 1) := by decide +kernel
theorem d_L_336 : decode code 336 = .ok (.iadd, 1) := by decide +kernel
theorem d_L_337 : decode code 337 = .ok (.iaload, 1) := by decide +kernel
theorem d_L_338 : decode code 338 = .ok (.aload_n 0, 1) := by decide +kernel
theorem d_L_339 : decode code 339 = .ok (.iload_n 3, 1) := by decide +kernel
theorem d_L_340 : decode code 340 = .ok (.iconst 3, 1) := by decide +kernel
theorem d_L_341 : decode code 341 = .ok (.iadd, 1) := by decide +kernel
theorem d_L_342 : decode code 342 = .ok (.iaload, 1) := by decide +kernel
theorem d_L_343 : decode code 343 = .ok (.i2l, 1) := by decide +kernel
theorem d_L_344 : decode code 344 = .ok (.bipush 32, 2) := by decide +kernel
theorem d_L_346 : decode code 346 = .ok (.lshl, 1) := by decide +kernel
theorem d_L_347 : decode code 347 = .ok (.aload_n 0, 1) := by decide +kernel
theorem d_L_348 : decode code 348 = .ok (.iload_n 3, 1) := by decide +kernel
theorem d_L_349 : decode code 349 = .ok (.iconst 4, 1) := by decide +kernel
theorem d_L_350 : decode code 350 = .ok (.iadd, 1) := by decide +kernel
theorem d_L_351 : decode code 351 = .ok (.iaload, 1) := by decide +kernel
theorem d_L_352 : decode code 352 = .ok (.i2l, 1) := by decide +kernel
theorem d_L_353 : decode code 353 = .ok (.ldc2_w 33, 3) := by decide +kernel
theorem d_L_356 : decode code 356 = .ok (.land, 1) := by decide +kernel
theorem d_L_357 : decode code 357 = .ok (.lor, 1) := by decide +kernel
theorem d_L_358 : decode code 358 = .ok (.aload_n 0, 1) := by decide +kernel
theorem d_L_359 : decode code 359 = .ok (.iload_n 3, 1) := by decide +kernel
theorem d_L_360 : decode code 360 = .ok (.iconst 5, 1) := by decide +kernel
theorem d_L_361 : decode code 361 = .ok (.iadd, 1) := by decide +kernel
theorem d_L_362 : decode code 362 = .ok (.iaload, 1) := by decide +kernel
theorem d_L_363 : decode code 363 = .ok (.invokevirtual 39, 3) := by decide +kernel
theorem d_L_366 : decode code 366 = .ok (.if_icmp .eq 385, 3) := by decide +kernel
theorem d_L_369 : decode code 369 = .ok (.iconst 0, 1) := by decide +kernel
theorem d_L_370 : decode code 370 = .ok (.ireturn, 1) := by decide +kernel
set_option maxHeartbeats 1000000 in
set_option maxRecDepth 100000 in
theorem lw_c4 {p : Program} {l : Launch} {e : Env} {s : State} {m : MethodId} {below : List Frame} {meth : Method} {c : Code} {H : Heap} {locs : List Loc} {cells slots : Nat} {Q : State → Prop} {ls : Array Slot} {A : Nat → Prop} {b L k : Nat} {xs : Nat → Int32} {E : Ev} {σ : SS} {ca na ta ad : Nat → Nat} {M : mp_M} (X : LX p s m c b L xs E A) (hk : 6 * k + 6 ≤ L) (h : LI E A s.heap k σ ca na ta ad M H locs cells slots) (hl : lh ls [some (.ref b), some (.ref (ca 0)), some (.ref (ad 0)), some (.int (nI (6 * k)))])
    (kk : ∀ (σ' : SS) (na' ta' : Nat → Nat) (M' : mp_M) (H' : Heap) (locs' : List Loc) (cells' slots' : Nat), LI E A s.heap (k + 1) σ' ca na' ta' ad M' H' locs' cells' slots' → W p l e room_1 s m #[Value.ref b] below meth c H' locs' cells' slots' Q (F0 m 751 ls [])) : W p l e room_1 s m #[Value.ref b] below meth c H locs cells slots Q (F0 m 288 ls []) := by
  obtain ⟨⟨hx, hb, hml, hown, hts⟩, hE, hA, hX, hbl, hbA, hcl, hL⟩ := X
  obtain ⟨hP, hI, hB, hPT, hCW, hJ, hw, hw2, hd, hcc, hss⟩ := h
  have hy := inv_y hI
  have hpt := PT_le (σ := σ)
  have hN : ∀ j, σ 0 j < 1300 := fun j => by have := hI.1.1 j; omega
  obtain ⟨D, hD, hv⟩ := lN_ex (((xs (6 * k + 3)).toInt64 <<< ((32 : Int32).toInt64 &&& 63)) ||| ((xs (6 * k + 4)).toInt64 &&& 4294967295))
  obtain ⟨i0, i1, i2, i3⟩ := wrO_inv (t := (tx (xs (6 * k + 1)))) (q := (ix (xs (6 * k + 2)))) (D := D) (z := zn (xs (6 * k + 5))) hI (by omega)
  have y1 : (wrO σ (tx (xs (6 * k + 1))) (ix (xs (6 * k + 2))) D (zn (xs (6 * k + 5)))) 1 0 = σ 1 0 := wrO_y
  refine x_aload_n hx hb d_L_288 hl rfl ?_
  refine x_scr 1 hx hb hX hbl hbA hw.2.2 (by omega) hL hl rfl rfl d_L_289 d_L_290 d_L_291 rfl d_L_292 d_L_293 ?_
  refine x_scr 2 hx hb hX hbl hbA hw.2.2 (by omega) hL hl rfl rfl d_L_294 d_L_295 d_L_296 rfl d_L_297 d_L_298 ?_
  refine x_scr 3 hx hb hX hbl hbA hw.2.2 (by omega) hL hl rfl rfl d_L_299 d_L_300 d_L_301 rfl d_L_302 d_L_303 ?_
  refine lv_i2l hx hb d_L_304 rfl ?_
  refine lv_bipush (v := 32) hx hb d_L_305 (by decide) ?_
  refine lv_lshl hx hb d_L_307 rfl ?_
  refine x_scr 4 hx hb hX hbl hbA hw.2.2 (by omega) hL hl rfl rfl d_L_308 d_L_309 d_L_310 rfl d_L_311 d_L_312 ?_
  refine lv_i2l hx hb d_L_313 rfl ?_
  refine lv_ldc2 hx hb hown hcl d_L_314 ?_
  refine lv_land hx hb d_L_317 ?_
  refine x_lorN hx hb d_L_318 hv ?_
  refine x_scr 5 hx hb hX hbl hbA hw.2.2 (by omega) hL hl rfl rfl d_L_319 d_L_320 d_L_321 rfl d_L_322 d_L_323 ?_
  refine f_calli (k_V ⟨hx, hb, hml, hown, hts⟩ hE hA hw (c_T_write hP hI (by omega) hD) (ci_T).1 rfl (pic_o hP) (wm2 41 rfl rfl) (wm2 42 rfl rfl) (wm2 43 rfl rfl) (wm1 1 rfl rfl) (wm2 44 rfl rfl) rfl rfl ar_T_write ⟨Nat.le_of_ble_eq_true rfl, Nat.le_of_ble_eq_true rfl⟩ rfl hl.1 rfl (Nat.le_of_ble_eq_true rfl) d_L_324 ⟨by show cells + 5 ≤ 600000; omega, by show slots + 42 ≤ 7302250; omega⟩) hw hA hw2 hd (fun r1 M1 H locs hP1 hw hw2 hd => ?_)
  obtain ⟨hr1, na1, ta1, hP1⟩ := hP1
  refine x_aload_n hx hb d_L_327 hl rfl ?_
  refine x_scr 1 hx hb hX hbl hbA hw.2.2 (by omega) hL hl rfl rfl d_L_328 d_L_329 d_L_330 rfl d_L_331 d_L_332 ?_
  refine x_scr 2 hx hb hX hbl hbA hw.2.2 (by omega) hL hl rfl rfl d_L_333 d_L_334 d_L_335 rfl d_L_336 d_L_337 ?_
  refine x_scr 3 hx hb hX hbl hbA hw.2.2 (by omega) hL hl rfl rfl d_L_338 d_L_339 d_L_340 rfl d_L_341 d_L_342 ?_
  refine lv_i2l hx hb d_L_343 rfl ?_
  refine lv_bipush (v := 32) hx hb d_L_344 (by decide) ?_
  refine lv_lshl hx hb d_L_346 rfl ?_
  refine x_scr 4 hx hb hX hbl hbA hw.2.2 (by omega) hL hl rfl rfl d_L_347 d_L_348 d_L_349 rfl d_L_350 d_L_351 ?_
  refine lv_i2l hx hb d_L_352 rfl ?_
  refine lv_ldc2 hx hb hown hcl d_L_353 ?_
  refine lv_land hx hb d_L_356 ?_
  refine x_lorN hx hb d_L_357 hv ?_
  refine x_scr 5 hx hb hX hbl hbA hw.2.2 (by omega) hL hl rfl rfl d_L_358 d_L_359 d_L_360 rfl d_L_361 d_L_362 ?_
  refine f_calli (k_V ⟨hx, hb, hml, hown, hts⟩ hE hA hw2 (c_M_write hJ hB hD hN i0) (ci_M).1 rfl (rf_at hJ 0 (by decide) rfl) (wm3 203 rfl rfl) (wm3 204 rfl rfl) (wm3 205 rfl rfl) (wm1 9 rfl rfl) (wm3 206 rfl rfl) rfl rfl ar_M_write ⟨Nat.le_of_ble_eq_true rfl, Nat.le_of_ble_eq_true rfl⟩ rfl hl.1 rfl (Nat.le_of_ble_eq_true rfl) d_L_363 ⟨by show cells + 5 + 0 ≤ 600000; omega, by show slots + 42 + 0 ≤ 7302250; omega⟩) hw2 hA hw hd.symm (fun r2 M2 H locs hP2 hw2 hw hd => ?_)
  obtain ⟨hr2, hM2, hB2⟩ := hP2
  rw [hM2] at hw2 hd
  refine lv_icmp_eq (tgt := 751) hx hb d_L_366 rfl (fun _ => ?_) (fun hne => absurd (hr1.trans hr2.symm) hne)
  exact kk (wrO σ (tx (xs (6 * k + 1))) (ix (xs (6 * k + 2))) D (zn (xs (6 * k + 5)))) na1 ta1 M1 H locs _ _ ⟨hP1, i1, hB2, by omega, by omega, hJ, hw, hw2, hd.symm, by omega, by omega⟩
