theorem lc_0 {x : Int64} : lg_cmp x x = 0 := by unfold lg_cmp; simp
theorem d_L_430 : decode code 430 = .ok (.aload_n 1, 1) := by decide +kernel
theorem d_L_431 : decode code 431 = .ok (.aload_n 0, 1) := by decide +kernel
theorem d_L_432 : decode code 432 = .ok (.iload_n 3, 1) := by decide +kernel
theorem d_L_433 : decode code 433 = .ok (.iconst 1, 1) := by decide +kernel
theorem d_L_434 : decode code 434 = .ok (.iadd, 1) := by decide +kernel
theorem d_L_435 : decode code 435 = .ok (.iaload, 1) := by decide +kernel
theorem d_L_436 : decode code 436 = .ok (.aload_n 0, 1) := by decide +kernel
theorem d_L_437 : decode code 437 = .ok (.iload_n 3, 1) := by decide +kernel
theorem d_L_438 : decode code 438 = .ok (.iconst 2, 1) := by decide +kernel
theorem d_L_439 : decode code 439 = .ok (.iadd, 1) := by decide +kernel
theorem d_L_440 : decode code 440 = .ok (.iaload, 1) := by decide +kernel
theorem d_L_441 : decode code 441 = .ok (.invokevirtual 54, 3) := by decide +kernel
theorem d_L_444 : decode code 444 = .ok (.aload_n 2, 1) := by decide +kernel
theorem d_L_445 : decode code 445 = .ok (.aload_n 0, 1) := by decide +kernel
theorem d_L_446 : decode code 446 = .ok (.iload_n 3, 1) := by decide +kernel
theorem d_L_447 : decode code 447 = .ok (.iconst 1, 1) := by decide +kernel
theorem d_L_448 : decode code 448 = .ok (.iadd, 1) := by decide +kernel
theorem d_L_449 : decode code 449 = .ok (.iaload, 1) := by decide +kernel
theorem d_L_450 : decode code 450 = .ok (.aload_n 0, 1) := by decide +kernel
theorem d_L_451 : decode code 451 = .ok (.iload_n 3, 1) := by decide +kernel
theorem d_L_452 : decode code 452 = .ok (.iconst 2, 1) := by decide +kernel
theorem d_L_453 : decode code 453 = .ok (.iadd, 1) := by decide +kernel
theorem d_L_454 : decode code 454 = .ok (.iaload, 1) := by decide +kernel
theorem d_L_455 : decode code 455 = .ok (.invokevirtual 58, 3) := by decide +kernel
theorem d_L_458 : decode code 458 = .ok (.if_icmp .eq 293, 3) := by decide +kernel
theorem d_L_461 : decode code 461 = .ok (.iconst 0, 1) := by decide +kernel
theorem d_L_462 : decode code 462 = .ok (.ireturn, 1) := by decide +kernel
theorem d_L_463 : decode code 463 = .ok (.aload_n 1, 1) := by decide +kernel
theorem d_L_464 : decode code 464 = .ok (.aload_n 0, 1) := by decide +kernel
theorem d_L_465 : decode code 465 = .ok (.iload_n 3, 1) := by decide +kernel
theorem d_L_466 : decode code 466 = .ok (.iconst 1, 1) := by decide +kernel
theorem d_L_467 : decode code 467 = .ok (.iadd, 1) := by decide +kernel
theorem d_L_468 : decode code 468 = .ok (.iaload, 1) := by decide +kernel
theorem d_L_469 : decode code 469 = .ok (.aload_n 0, 1) := by decide +kernel
theorem d_L_470 : decode code 470 = .ok (.iload_n 3, 1) := by decide +kernel
theorem d_L_471 : decode code 471 = .ok (.iconst 2, 1) := by decide +kernel
theorem d_L_472 : decode code 472 = .ok (.iadd, 1) := by decide +kernel
theorem d_L_473 : decode code 473 = .ok (.iaload, 1) := by decide +kernel
theorem d_L_474 : decode code 474 = .ok (.invokevirtual 59, 3) := by decide +kernel
theorem d_L_477 : decode code 477 = .ok (.aload_n 2, 1) := by decide +kernel
theorem d_L_478 : decode code 478 = .ok (.aload_n 0, 1) := by decide +kernel
theorem d_L_479 : decode code 479 = .ok (.iload_n 3, 1) := by decide +kernel
theorem d_L_480 : decode code 480 = .ok (.iconst 1, 1) := by decide +kernel
theorem d_L_481 : decode code 481 = .ok (.iadd, 1) := by decide +kernel
theorem d_L_482 : decode code 482 = .ok (.iaload, 1) := by decide +kernel
theorem d_L_483 : decode code 483 = .ok (.aload_n 0, 1) := by decide +kernel
theorem d_L_484 : decode code 484 = .ok (.iload_n 3, 1) := by decide +kernel
theorem d_L_485 : decode code 485 = .ok (.iconst 2, 1) := by decide +kernel
theorem d_L_486 : decode code 486 = .ok (.iadd, 1) := by decide +kernel
theorem d_L_487 : decode code 487 = .ok (.iaload, 1) := by decide +kernel
theorem d_L_488 : decode code 488 = .ok (.invokevirtual 63, 3) := by decide +kernel
theorem d_L_491 : decode code 491 = .ok (.lcmp, 1) := by decide +kernel
theorem d_L_492 : decode code 492 = .ok (.ifCond .eq 259, 3) := by decide +kernel
theorem d_L_495 : decode code 495 = .ok (.iconst 0, 1) := by decide +kernel
theorem d_L_496 : decode code 496 = .ok (.ireturn, 1) := by decide +kernel
set_option maxHeartbeats 1000000 in
set_option maxRecDepth 100000 in
theorem lw_c8 {p : Program} {l : Launch} {e : Env} {s : State} {m : MethodId} {below : List Frame} {meth : Method} {c : Code} {H : Heap} {locs : List Loc} {cells slots : Nat} {Q : State → Prop} {ls : Array Slot} {A : Nat → Prop} {b L k : Nat} {xs : Nat → Int32} {E : Ev} {σ : SS} {ca na ta ad : Nat → Nat} {M : mp_M} (X : LX p s m c b L xs E A) (hk : 6 * k + 6 ≤ L) (h : LI E A s.heap k σ ca na ta ad M H locs cells slots) (hl : lh ls [some (.ref b), some (.ref (ca 0)), some (.ref (ad 0)), some (.int (nI (6 * k)))])
    (kk : ∀ (σ' : SS) (na' ta' : Nat → Nat) (M' : mp_M) (H' : Heap) (locs' : List Loc) (cells' slots' : Nat), LI E A s.heap (k + 1) σ' ca na' ta' ad M' H' locs' cells' slots' → W p l e room_1 s m #[Value.ref b] below meth c H' locs' cells' slots' Q (F0 m 751 ls [])) : W p l e room_1 s m #[Value.ref b] below meth c H locs cells slots Q (F0 m 430 ls []) := by
  obtain ⟨⟨hx, hb, hml, hown, hts⟩, hE, hA, hX, hbl, hbA, hcl, hL⟩ := X
  obtain ⟨hP, hI, hB, hPT, hCW, hJ, hw, hw2, hd, hcc, hss⟩ := h
  have hy := inv_y hI
  have hpt := PT_le (σ := σ)
  have hN : ∀ j, σ 0 j < 1300 := fun j => by have := hI.1.1 j; omega
  refine x_aload_n hx hb d_L_430 hl rfl ?_
  refine x_scr 1 hx hb hX hbl hbA hw.2.2 (by omega) hL hl rfl rfl d_L_431 d_L_432 d_L_433 rfl d_L_434 d_L_435 ?_
  refine x_scr 2 hx hb hX hbl hbA hw.2.2 (by omega) hL hl rfl rfl d_L_436 d_L_437 d_L_438 rfl d_L_439 d_L_440 ?_
  refine f_calli (k_V ⟨hx, hb, hml, hown, hts⟩ hE hA hw (c_T_kindQ hP hI (by omega)) (ci_T).1 rfl (pic_o hP) (wm3 6 rfl rfl) (wm3 7 rfl rfl) (wm3 8 rfl rfl) (wm1 1 rfl rfl) (wm3 9 rfl rfl) rfl rfl ar_T_kind ⟨Nat.le_of_ble_eq_true rfl, Nat.le_of_ble_eq_true rfl⟩ rfl hl.1 rfl (Nat.le_of_ble_eq_true rfl) d_L_441 ⟨by show cells + 0 ≤ 600000; omega, by show slots + 0 ≤ 7302250; omega⟩) hw hA hw2 hd (fun r1 M1 H locs hP1 hw hw2 hd => ?_)
  obtain ⟨hr1, hM1⟩ := hP1
  rw [hM1] at hw hd
  refine x_aload_n hx hb d_L_444 hl rfl ?_
  refine x_scr 1 hx hb hX hbl hbA hw.2.2 (by omega) hL hl rfl rfl d_L_445 d_L_446 d_L_447 rfl d_L_448 d_L_449 ?_
  refine x_scr 2 hx hb hX hbl hbA hw.2.2 (by omega) hL hl rfl rfl d_L_450 d_L_451 d_L_452 rfl d_L_453 d_L_454 ?_
  refine f_calli (k_V ⟨hx, hb, hml, hown, hts⟩ hE hA hw2 (c_M_kind hJ hB hy hN) (ci_M).1 rfl (rf_at hJ 0 (by decide) rfl) (wm4 6 rfl rfl) (wm4 7 rfl rfl) (wm4 8 rfl rfl) (wm1 9 rfl rfl) (wm4 9 rfl rfl) rfl rfl ar_M_kind ⟨Nat.le_of_ble_eq_true rfl, Nat.le_of_ble_eq_true rfl⟩ rfl hl.1 rfl (Nat.le_of_ble_eq_true rfl) d_L_455 ⟨by show cells + 0 + 0 ≤ 600000; omega, by show slots + 0 + 0 ≤ 7302250; omega⟩) hw2 hA hw hd.symm (fun r2 M2 H locs hP2 hw2 hw hd => ?_)
  obtain ⟨hr2, hM2⟩ := hP2
  rw [hM2] at hw2 hd
  refine lv_icmp_eq (tgt := 751) hx hb d_L_458 rfl (fun _ => ?_) (fun hne => absurd (hr1.trans hr2.symm) hne)
  exact kk σ na ta M H locs _ _ ⟨hP, hI, hB, by omega, by omega, hJ, hw, hw2, hd.symm, by omega, by omega⟩
set_option maxHeartbeats 1000000 in
set_option maxRecDepth 100000 in
theorem lw_c9 {p : Program} {l : Launch} {e : Env} {s : State} {m : MethodId} {below : List Frame} {meth : Method} {c : Code} {H : Heap} {locs : List Loc} {cells slots : Nat} {Q : State → Prop} {ls : Array Slot} {A : Nat → Prop} {b L k : Nat} {xs : Nat → Int32} {E : Ev} {σ : SS} {ca na ta ad : Nat → Nat} {M : mp_M} (X : LX p s m c b L xs E A) (hk : 6 * k + 6 ≤ L) (h : LI E A s.heap k σ ca na ta ad M H locs cells slots) (hl : lh ls [some (.ref b), some (.ref (ca 0)), some (.ref (ad 0)), some (.int (nI (6 * k)))])
    (kk : ∀ (σ' : SS) (na' ta' : Nat → Nat) (M' : mp_M) (H' : Heap) (locs' : List Loc) (cells' slots' : Nat), LI E A s.heap (k + 1) σ' ca na' ta' ad M' H' locs' cells' slots' → W p l e room_1 s m #[Value.ref b] below meth c H' locs' cells' slots' Q (F0 m 751 ls [])) : W p l e room_1 s m #[Value.ref b] below meth c H locs cells slots Q (F0 m 463 ls []) := by
  obtain ⟨⟨hx, hb, hml, hown, hts⟩, hE, hA, hX, hbl, hbA, hcl, hL⟩ := X
  obtain ⟨hP, hI, hB, hPT, hCW, hJ, hw, hw2, hd, hcc, hss⟩ := h
  have hy := inv_y hI
  have hpt := PT_le (σ := σ)
  have hN : ∀ j, σ 0 j < 1300 := fun j => by have := hI.1.1 j; omega
  refine x_aload_n hx hb d_L_463 hl rfl ?_
  refine x_scr 1 hx hb hX hbl hbA hw.2.2 (by omega) hL hl rfl rfl d_L_464 d_L_465 d_L_466 rfl d_L_467 d_L_468 ?_
  refine x_scr 2 hx hb hX hbl hbA hw.2.2 (by omega) hL hl rfl rfl d_L_469 d_L_470 d_L_471 rfl d_L_472 d_L_473 ?_
  refine f_calll (k_V ⟨hx, hb, hml, hown, hts⟩ hE hA hw (c_T_text hP hI (by omega)) (ci_T).1 rfl (pic_o hP) (wm3 14 rfl rfl) (wm3 15 rfl rfl) (wm3 16 rfl rfl) (wm1 1 rfl rfl) (wm3 17 rfl rfl) rfl rfl ar_T_text ⟨Nat.le_of_ble_eq_true rfl, Nat.le_of_ble_eq_true rfl⟩ rfl hl.1 rfl (Nat.le_of_ble_eq_true rfl) d_L_474 ⟨by show cells + 0 ≤ 600000; omega, by show slots + 0 ≤ 7302250; omega⟩) hw hA hw2 hd (fun r1 M1 H locs hP1 hw hw2 hd => ?_)
  obtain ⟨hr1, hM1⟩ := hP1
  rw [hM1] at hw hd
  refine x_aload_n hx hb d_L_477 hl rfl ?_
  refine x_scr 1 hx hb hX hbl hbA hw.2.2 (by omega) hL hl rfl rfl d_L_478 d_L_479 d_L_480 rfl d_L_481 d_L_482 ?_
  refine x_scr 2 hx hb hX hbl hbA hw.2.2 (by omega) hL hl rfl rfl d_L_483 d_L_484 d_L_485 rfl d_L_486 d_L_487 ?_
  refine f_calll (k_V ⟨hx, hb, hml, hown, hts⟩ hE hA hw2 (c_M_text hJ hB hy hN) (ci_M).1 rfl (rf_at hJ 0 (by decide) rfl) (wm4 18 rfl rfl) (wm4 19 rfl rfl) (wm4 20 rfl rfl) (wm1 9 rfl rfl) (wm4 21 rfl rfl) rfl rfl ar_M_text ⟨Nat.le_of_ble_eq_true rfl, Nat.le_of_ble_eq_true rfl⟩ rfl hl.1 rfl (Nat.le_of_ble_eq_true rfl) d_L_488 ⟨by show cells + 0 + 0 ≤ 600000; omega, by show slots + 0 + 0 ≤ 7302250; omega⟩) hw2 hA hw hd.symm (fun r2 M2 H locs hP2 hw2 hw hd => ?_)
  obtain ⟨hr2, hM2⟩ := hP2
  rw [hM2] at hw2 hd
  have h12 : r1 = r2 := hr1.trans hr2.symm
  subst h12
  refine W.lcmp hx hb d_L_491 ?_
  refine lv_if_eq (tgt := 751) hx hb d_L_492 rfl (fun _ => ?_) (fun hne => absurd lc_0 hne)
  exact kk σ na ta M H locs _ _ ⟨hP, hI, hB, by omega, by omega, hJ, hw, hw2, hd.symm, by omega, by omega⟩
