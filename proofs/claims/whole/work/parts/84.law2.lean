theorem d_L_202 : decode code 202 = .ok (.aload_n 1, 1) := by decide +kernel
theorem d_L_203 : decode code 203 = .ok (.aload_n 0, 1) := by decide +kernel
theorem d_L_204 : decode code 204 = .ok (.iload_n 3, 1) := by decide +kernel
theorem d_L_205 : decode code 205 = .ok (.iconst 1, 1) := by decide +kernel
theorem d_L_206 : decode code 206 = .ok (.iadd, 1) := by decide +kernel
theorem d_L_207 : decode code 207 = .ok (.iaload, 1) := by decide +kernel
theorem d_L_208 : decode code 208 = .ok (.aload_n 0, 1) := by decide +kernel
theorem d_L_209 : decode code 209 = .ok (.iload_n 3, 1) := by decide +kernel
theorem d_L_210 : decode code 210 = .ok (.iconst 2, 1) := by decide +kernel
theorem d_L_211 : decode code 211 = .ok (.iadd, 1) := by decide +kernel
theorem d_L_212 : decode code 212 = .ok (.iaload, 1) := by decide +kernel
theorem d_L_213 : decode code 213 = .ok (.invokevirtual 23, 3) := by decide +kernel
theorem d_L_216 : decode code 216 = .ok (.aload_n 2, 1) := by decide +kernel
theorem d_L_217 : decode code 217 = .ok (.aload_n 0, 1) := by decide +kernel
theorem d_L_218 : decode code 218 = .ok (.iload_n 3, 1) := by decide +kernel
theorem d_L_219 : decode code 219 = .ok (.iconst 1, 1) := by decide +kernel
theorem d_L_220 : decode code 220 = .ok (.iadd, 1) := by decide +kernel
theorem d_L_221 : decode code 221 = .ok (.iaload, 1) := by decide +kernel
theorem d_L_222 : decode code 222 = .ok (.aload_n 0, 1) := by decide +kernel
theorem d_L_223 : decode code 223 = .ok (.iload_n 3, 1) := by decide +kernel
theorem d_L_224 : decode code 224 = .ok (.iconst 2, 1) := by decide +kernel
theorem d_L_225 : decode code 225 = .ok (.iadd, 1) := by decide +kernel
theorem d_L_226 : decode code 226 = .ok (.iaload, 1) := by decide +kernel
theorem d_L_227 : decode code 227 = .ok (.invokevirtual 27, 3) := by decide +kernel
theorem d_L_230 : decode code 230 = .ok (.if_icmp .eq 521, 3) := by decide +kernel
theorem d_L_233 : decode code 233 = .ok (.iconst 0, 1) := by decide +kernel
theorem d_L_234 : decode code 234 = .ok (.ireturn, 1) := by decide +kernel
theorem d_L_394 : decode code 394 = .ok (.aload_n 1, 1) := by decide +kernel
theorem d_L_395 : decode code 395 = .ok (.aload_n 0, 1) := by decide +kernel
theorem d_L_396 : decode code 396 = .ok (.iload_n 3, 1) := by decide +kernel
theorem d_L_397 : decode code 397 = .ok (.iconst 1, 1) := by decide +kernel
theorem d_L_398 : decode code 398 = .ok (.iadd, 1) := by decide +kernel
theorem d_L_399 : decode code 399 = .ok (.iaload, 1) := by decide +kernel
theorem d_L_400 : decode code 400 = .ok (.invokevirtual 45, 3) := by decide +kernel
theorem d_L_403 : decode code 403 = .ok (.aload_n 2, 1) := by decide +kernel
theorem d_L_404 : decode code 404 = .ok (.aload_n 0, 1) := by decide +kernel
theorem d_L_405 : decode code 405 = .ok (.iload_n 3, 1) := by decide +kernel
theorem d_L_406 : decode code 406 = .ok (.iconst 1, 1) := by decide +kernel
theorem d_L_407 : decode code 407 = .ok (.iadd, 1) := by decide +kernel
theorem d_L_408 : decode code 408 = .ok (.iaload, 1) := by decide +kernel
theorem d_L_409 : decode code 409 = .ok (.invokevirtual 48, 3) := by decide +kernel
theorem d_L_412 : decode code 412 = .ok (.if_icmp .eq 339, 3) := by decide +kernel
theorem d_L_415 : decode code 415 = .ok (.iconst 0, 1) := by decide +kernel
theorem d_L_416 : decode code 416 = .ok (.ireturn, 1) := by decide +kernel
theorem d_L_417 : decode code 417 = .ok (.aload_n 1, 1) := by decide +kernel
theorem d_L_418 : decode code 418 = .ok (.invokevirtual 49, 3) := by decide +kernel
theorem d_L_421 : decode code 421 = .ok (.aload_n 2, 1) := by decide +kernel
theorem d_L_422 : decode code 422 = .ok (.invokevirtual 53, 3) := by decide +kernel
theorem d_L_425 : decode code 425 = .ok (.if_icmp .eq 326, 3) := by decide +kernel
theorem d_L_428 : decode code 428 = .ok (.iconst 0, 1) := by decide +kernel
theorem d_L_429 : decode code 429 = .ok (.ireturn, 1) := by decide +kernel
set_option maxHeartbeats 1000000 in
set_option maxRecDepth 100000 in
theorem lw_c2 {p : Program} {l : Launch} {e : Env} {s : State} {m : MethodId} {below : List Frame} {meth : Method} {c : Code} {H : Heap} {locs : List Loc} {cells slots : Nat} {Q : State → Prop} {ls : Array Slot} {A : Nat → Prop} {b L k : Nat} {xs : Nat → Int32} {E : Ev} {σ : SS} {ca na ta ad : Nat → Nat} {M : mp_M} (X : LX p s m c b L xs E A) (hk : 6 * k + 6 ≤ L) (h : LI E A s.heap k σ ca na ta ad M H locs cells slots) (hl : lh ls [some (.ref b), some (.ref (ca 0)), some (.ref (ad 0)), some (.int (nI (6 * k)))])
    (kk : ∀ (σ' : SS) (na' ta' : Nat → Nat) (M' : mp_M) (H' : Heap) (locs' : List Loc) (cells' slots' : Nat), LI E A s.heap (k + 1) σ' ca na' ta' ad M' H' locs' cells' slots' → W p l e room_1 s m #[Value.ref b] below meth c H' locs' cells' slots' Q (F0 m 751 ls [])) : W p l e room_1 s m #[Value.ref b] below meth c H locs cells slots Q (F0 m 202 ls []) := by
  obtain ⟨⟨hx, hb, hml, hown, hts⟩, hE, hA, hX, hbl, hbA, hcl, hL⟩ := X
  obtain ⟨hP, hI, hB, hPT, hCW, hJ, hw, hw2, hd, hcc, hss⟩ := h
  have hy := inv_y hI
  have hpt := PT_le (σ := σ)
  have hN : ∀ j, σ 0 j < 1300 := fun j => by have := hI.1.1 j; omega
  obtain ⟨i0, i1, i2, i3⟩ := rmO_inv (t := (tx (xs (6 * k + 1)))) (q := (ix (xs (6 * k + 2)))) hI (by omega)
  have y1 : (rmO σ (tx (xs (6 * k + 1))) (ix (xs (6 * k + 2)))) 1 0 = σ 1 0 := rmO_y
  refine x_aload_n hx hb d_L_202 hl rfl ?_
  refine x_scr 1 hx hb hX hbl hbA hw.2.2 (by omega) hL hl rfl rfl d_L_203 d_L_204 d_L_205 rfl d_L_206 d_L_207 ?_
  refine x_scr 2 hx hb hX hbl hbA hw.2.2 (by omega) hL hl rfl rfl d_L_208 d_L_209 d_L_210 rfl d_L_211 d_L_212 ?_
  refine f_calli (k_V ⟨hx, hb, hml, hown, hts⟩ hE hA hw (c_T_remove hP hI (by omega)) (ci_T).1 rfl (pic_o hP) (wm2 4 rfl rfl) (wm2 5 rfl rfl) (wm2 6 rfl rfl) (wm1 1 rfl rfl) (wm2 7 rfl rfl) rfl rfl ar_T_remove ⟨Nat.le_of_ble_eq_true rfl, Nat.le_of_ble_eq_true rfl⟩ rfl hl.1 rfl (Nat.le_of_ble_eq_true rfl) d_L_213 ⟨by show cells + 4 ≤ 600000; omega, by show slots + 40 ≤ 7302250; omega⟩) hw hA hw2 hd (fun r1 M1 H locs hP1 hw hw2 hd => ?_)
  obtain ⟨hr1, na1, ta1, hP1⟩ := hP1
  refine x_aload_n hx hb d_L_216 hl rfl ?_
  refine x_scr 1 hx hb hX hbl hbA hw.2.2 (by omega) hL hl rfl rfl d_L_217 d_L_218 d_L_219 rfl d_L_220 d_L_221 ?_
  refine x_scr 2 hx hb hX hbl hbA hw.2.2 (by omega) hL hl rfl rfl d_L_222 d_L_223 d_L_224 rfl d_L_225 d_L_226 ?_
  refine f_calli (k_V ⟨hx, hb, hml, hown, hts⟩ hE hA hw2 (c_M_remove hJ hB i0) (ci_M).1 rfl (rf_at hJ 0 (by decide) rfl) (wm3 189 rfl rfl) (wm3 190 rfl rfl) (wm3 191 rfl rfl) (wm1 9 rfl rfl) (wm3 192 rfl rfl) rfl rfl ar_M_remove ⟨Nat.le_of_ble_eq_true rfl, Nat.le_of_ble_eq_true rfl⟩ rfl hl.1 rfl (Nat.le_of_ble_eq_true rfl) d_L_227 ⟨by show cells + 4 + 0 ≤ 600000; omega, by show slots + 40 + 0 ≤ 7302250; omega⟩) hw2 hA hw hd.symm (fun r2 M2 H locs hP2 hw2 hw hd => ?_)
  obtain ⟨hr2, hM2, hB2⟩ := hP2
  rw [hM2] at hw2 hd
  refine lv_icmp_eq (tgt := 751) hx hb d_L_230 rfl (fun _ => ?_) (fun hne => absurd (hr1.trans hr2.symm) hne)
  exact kk (rmO σ (tx (xs (6 * k + 1))) (ix (xs (6 * k + 2)))) na1 ta1 M1 H locs _ _ ⟨hP1, i1, hB2, by omega, by omega, hJ, hw, hw2, hd.symm, by omega, by omega⟩
set_option maxHeartbeats 1000000 in
set_option maxRecDepth 100000 in
theorem lw_c6 {p : Program} {l : Launch} {e : Env} {s : State} {m : MethodId} {below : List Frame} {meth : Method} {c : Code} {H : Heap} {locs : List Loc} {cells slots : Nat} {Q : State → Prop} {ls : Array Slot} {A : Nat → Prop} {b L k : Nat} {xs : Nat → Int32} {E : Ev} {σ : SS} {ca na ta ad : Nat → Nat} {M : mp_M} (X : LX p s m c b L xs E A) (hk : 6 * k + 6 ≤ L) (h : LI E A s.heap k σ ca na ta ad M H locs cells slots) (hl : lh ls [some (.ref b), some (.ref (ca 0)), some (.ref (ad 0)), some (.int (nI (6 * k)))])
    (kk : ∀ (σ' : SS) (na' ta' : Nat → Nat) (M' : mp_M) (H' : Heap) (locs' : List Loc) (cells' slots' : Nat), LI E A s.heap (k + 1) σ' ca na' ta' ad M' H' locs' cells' slots' → W p l e room_1 s m #[Value.ref b] below meth c H' locs' cells' slots' Q (F0 m 751 ls [])) : W p l e room_1 s m #[Value.ref b] below meth c H locs cells slots Q (F0 m 394 ls []) := by
  obtain ⟨⟨hx, hb, hml, hown, hts⟩, hE, hA, hX, hbl, hbA, hcl, hL⟩ := X
  obtain ⟨hP, hI, hB, hPT, hCW, hJ, hw, hw2, hd, hcc, hss⟩ := h
  have hy := inv_y hI
  have hpt := PT_le (σ := σ)
  have hN : ∀ j, σ 0 j < 1300 := fun j => by have := hI.1.1 j; omega
  obtain ⟨i1, i2, i3⟩ := abO_inv (t := (tx (xs (6 * k + 1)))) hI
  have y1 : (abO σ (tx (xs (6 * k + 1)))) 1 0 = σ 1 0 := abO_y
  refine x_aload_n hx hb d_L_394 hl rfl ?_
  refine x_scr 1 hx hb hX hbl hbA hw.2.2 (by omega) hL hl rfl rfl d_L_395 d_L_396 d_L_397 rfl d_L_398 d_L_399 ?_
  refine f_calli (k_V ⟨hx, hb, hml, hown, hts⟩ hE hA hw (c_T_abort hP) (ci_T).1 rfl (pic_o hP) (wm2 238 rfl rfl) (wm2 239 rfl rfl) (wm3 0 rfl rfl) (wm1 1 rfl rfl) (wm3 1 rfl rfl) rfl rfl ar_T_abort ⟨Nat.le_of_ble_eq_true rfl, Nat.le_of_ble_eq_true rfl⟩ rfl hl.1 rfl (Nat.le_of_ble_eq_true rfl) d_L_400 ⟨by show cells + 0 ≤ 600000; omega, by show slots + 0 ≤ 7302250; omega⟩) hw hA hw2 hd (fun r1 M1 H locs hP1 hw hw2 hd => ?_)
  obtain ⟨hr1, hP1⟩ := hP1
  refine x_aload_n hx hb d_L_403 hl rfl ?_
  refine x_scr 1 hx hb hX hbl hbA hw.2.2 (by omega) hL hl rfl rfl d_L_404 d_L_405 d_L_406 rfl d_L_407 d_L_408 ?_
  refine f_calli (k_V ⟨hx, hb, hml, hown, hts⟩ hE hA hw2 (c_M_abort hJ hB) (ci_M).1 rfl (rf_at hJ 0 (by decide) rfl) (wm3 238 rfl rfl) (wm3 239 rfl rfl) (wm4 0 rfl rfl) (wm1 9 rfl rfl) (wm4 1 rfl rfl) rfl rfl ar_M_abort ⟨Nat.le_of_ble_eq_true rfl, Nat.le_of_ble_eq_true rfl⟩ rfl hl.1 rfl (Nat.le_of_ble_eq_true rfl) d_L_409 ⟨by show cells + 0 + 0 ≤ 600000; omega, by show slots + 0 + 0 ≤ 7302250; omega⟩) hw2 hA hw hd.symm (fun r2 M2 H locs hP2 hw2 hw hd => ?_)
  obtain ⟨hr2, hM2, hB2⟩ := hP2
  rw [hM2] at hw2 hd
  refine lv_icmp_eq (tgt := 751) hx hb d_L_412 rfl (fun _ => ?_) (fun hne => absurd (hr1.trans hr2.symm) hne)
  exact kk (abO σ (tx (xs (6 * k + 1)))) na ta M1 H locs _ _ ⟨hP1, i1, hB2, by omega, by omega, hJ, hw, hw2, hd.symm, by omega, by omega⟩
set_option maxHeartbeats 1000000 in
set_option maxRecDepth 100000 in
theorem lw_c7 {p : Program} {l : Launch} {e : Env} {s : State} {m : MethodId} {below : List Frame} {meth : Method} {c : Code} {H : Heap} {locs : List Loc} {cells slots : Nat} {Q : State → Prop} {ls : Array Slot} {A : Nat → Prop} {b L k : Nat} {xs : Nat → Int32} {E : Ev} {σ : SS} {ca na ta ad : Nat → Nat} {M : mp_M} (X : LX p s m c b L xs E A) (hk : 6 * k + 6 ≤ L) (h : LI E A s.heap k σ ca na ta ad M H locs cells slots) (hl : lh ls [some (.ref b), some (.ref (ca 0)), some (.ref (ad 0)), some (.int (nI (6 * k)))])
    (kk : ∀ (σ' : SS) (na' ta' : Nat → Nat) (M' : mp_M) (H' : Heap) (locs' : List Loc) (cells' slots' : Nat), LI E A s.heap (k + 1) σ' ca na' ta' ad M' H' locs' cells' slots' → W p l e room_1 s m #[Value.ref b] below meth c H' locs' cells' slots' Q (F0 m 751 ls [])) : W p l e room_1 s m #[Value.ref b] below meth c H locs cells slots Q (F0 m 417 ls []) := by
  obtain ⟨⟨hx, hb, hml, hown, hts⟩, hE, hA, hX, hbl, hbA, hcl, hL⟩ := X
  obtain ⟨hP, hI, hB, hPT, hCW, hJ, hw, hw2, hd, hcc, hss⟩ := h
  have hy := inv_y hI
  have hpt := PT_le (σ := σ)
  have hN : ∀ j, σ 0 j < 1300 := fun j => by have := hI.1.1 j; omega
  refine x_aload_n hx hb d_L_417 hl rfl ?_
  refine f_calli (k_V ⟨hx, hb, hml, hown, hts⟩ hE hA hw (c_T_youngest hP) (ci_T).1 rfl (pic_o hP) (wm3 2 rfl rfl) (wm3 3 rfl rfl) (wm3 4 rfl rfl) (wm1 1 rfl rfl) (wm3 5 rfl rfl) rfl rfl ar_T_youngest ⟨Nat.le_of_ble_eq_true rfl, Nat.le_of_ble_eq_true rfl⟩ rfl hl.1 rfl (Nat.le_of_ble_eq_true rfl) d_L_418 ⟨by show cells + 0 ≤ 600000; omega, by show slots + 0 ≤ 7302250; omega⟩) hw hA hw2 hd (fun r1 M1 H locs hP1 hw hw2 hd => ?_)
  obtain ⟨hr1, hM1⟩ := hP1
  rw [hM1] at hw hd
  refine x_aload_n hx hb d_L_421 hl rfl ?_
  refine f_calli (k_V ⟨hx, hb, hml, hown, hts⟩ hE hA hw2 (c_M_youngest hJ hB) (ci_M).1 rfl (rf_at hJ 0 (by decide) rfl) (wm4 2 rfl rfl) (wm4 3 rfl rfl) (wm4 4 rfl rfl) (wm1 9 rfl rfl) (wm4 5 rfl rfl) rfl rfl ar_M_youngest ⟨Nat.le_of_ble_eq_true rfl, Nat.le_of_ble_eq_true rfl⟩ rfl hl.1 rfl (Nat.le_of_ble_eq_true rfl) d_L_422 ⟨by show cells + 0 + 0 ≤ 600000; omega, by show slots + 0 + 0 ≤ 7302250; omega⟩) hw2 hA hw hd.symm (fun r2 M2 H locs hP2 hw2 hw hd => ?_)
  obtain ⟨hr2, hM2⟩ := hP2
  rw [hM2] at hw2 hd
  refine lv_icmp_eq (tgt := 751) hx hb d_L_425 rfl (fun _ => ?_) (fun hne => absurd (hr1.trans hr2.symm) hne)
  exact kk σ na ta M H locs _ _ ⟨hP, hI, hB, by omega, by omega, hJ, hw, hw2, hd.symm, by omega, by omega⟩
