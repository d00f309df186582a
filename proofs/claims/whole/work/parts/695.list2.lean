theorem d_AS_newLength_0 : decode prog_25_method_27_code 0 = .ok (.iload_n 0, 1) := by decide +kernel
theorem d_AS_newLength_1 : decode prog_25_method_27_code 1 = .ok (.iload_n 1, 1) := by decide +kernel
theorem d_AS_newLength_2 : decode prog_25_method_27_code 2 = .ok (.iload_n 2, 1) := by decide +kernel
theorem d_AS_newLength_3 : decode prog_25_method_27_code 3 = .ok (.invokestatic 194, 3) := by decide +kernel
theorem d_AS_newLength_6 : decode prog_25_method_27_code 6 = .ok (.iadd, 1) := by decide +kernel
theorem d_AS_newLength_7 : decode prog_25_method_27_code 7 = .ok (.istore_n 3, 1) := by decide +kernel
theorem d_AS_newLength_8 : decode prog_25_method_27_code 8 = .ok (.iconst 0, 1) := by decide +kernel
theorem d_AS_newLength_9 : decode prog_25_method_27_code 9 = .ok (.iload_n 3, 1) := by decide +kernel
theorem d_AS_newLength_10 : decode prog_25_method_27_code 10 = .ok (.if_icmp .ge 11, 3) := by decide +kernel
theorem d_AS_newLength_13 : decode prog_25_method_27_code 13 = .ok (.iload_n 3, 1) := by decide +kernel
theorem d_AS_newLength_14 : decode prog_25_method_27_code 14 = .ok (.ldc 200, 2) := by decide +kernel
theorem d_AS_newLength_16 : decode prog_25_method_27_code 16 = .ok (.if_icmp .gt 5, 3) := by decide +kernel
theorem d_AS_newLength_19 : decode prog_25_method_27_code 19 = .ok (.iload_n 3, 1) := by decide +kernel
theorem d_AS_newLength_20 : decode prog_25_method_27_code 20 = .ok (.ireturn, 1) := by decide +kernel
theorem d_AS_newLength_21 : decode prog_25_method_27_code 21 = .ok (.iload_n 0, 1) := by decide +kernel
theorem d_AS_newLength_22 : decode prog_25_method_27_code 22 = .ok (.iload_n 1, 1) := by decide +kernel
theorem d_AS_newLength_23 : decode prog_25_method_27_code 23 = .ok (.invokestatic 201, 3) := by decide +kernel
theorem d_AS_newLength_26 : decode prog_25_method_27_code 26 = .ok (.ireturn, 1) := by decide +kernel

theorem d_Ar_copyOf2_0 : decode prog_19_method_120_code 0 = .ok (.aload_n 2, 1) := by decide +kernel
theorem d_Ar_copyOf2_1 : decode prog_19_method_120_code 1 = .ok (.ldc 110, 2) := by decide +kernel
theorem d_Ar_copyOf2_3 : decode prog_19_method_120_code 3 = .ok (.if_acmp .ne 10, 3) := by decide +kernel
theorem d_Ar_copyOf2_6 : decode prog_19_method_120_code 6 = .ok (.iload_n 1, 1) := by decide +kernel
theorem d_Ar_copyOf2_7 : decode prog_19_method_120_code 7 = .ok (.anewarray 2, 3) := by decide +kernel
theorem d_Ar_copyOf2_10 : decode prog_19_method_120_code 10 = .ok (.goto 14, 3) := by decide +kernel
theorem d_Ar_copyOf2_13 : decode prog_19_method_120_code 13 = .ok (.aload_n 2, 1) := by decide +kernel
theorem d_Ar_copyOf2_14 : decode prog_19_method_120_code 14 = .ok (.invokevirtual 90, 3) := by decide +kernel
theorem d_Ar_copyOf2_17 : decode prog_19_method_120_code 17 = .ok (.iload_n 1, 1) := by decide +kernel
theorem d_Ar_copyOf2_18 : decode prog_19_method_120_code 18 = .ok (.invokestatic 95, 3) := by decide +kernel
theorem d_Ar_copyOf2_21 : decode prog_19_method_120_code 21 = .ok (.checkcast 110, 3) := by decide +kernel
theorem d_Ar_copyOf2_24 : decode prog_19_method_120_code 24 = .ok (.astore_n 3, 1) := by decide +kernel
theorem d_Ar_copyOf2_25 : decode prog_19_method_120_code 25 = .ok (.aload_n 0, 1) := by decide +kernel
theorem d_Ar_copyOf2_26 : decode prog_19_method_120_code 26 = .ok (.iconst 0, 1) := by decide +kernel
theorem d_Ar_copyOf2_27 : decode prog_19_method_120_code 27 = .ok (.aload_n 3, 1) := by decide +kernel
theorem d_Ar_copyOf2_28 : decode prog_19_method_120_code 28 = .ok (.iconst 0, 1) := by decide +kernel
theorem d_Ar_copyOf2_29 : decode prog_19_method_120_code 29 = .ok (.aload_n 0, 1) := by decide +kernel
theorem d_Ar_copyOf2_30 : decode prog_19_method_120_code 30 = .ok (.arraylength, 1) := by decide +kernel
theorem d_Ar_copyOf2_31 : decode prog_19_method_120_code 31 = .ok (.iload_n 1, 1) := by decide +kernel
theorem d_Ar_copyOf2_32 : decode prog_19_method_120_code 32 = .ok (.invokestatic 304, 3) := by decide +kernel
theorem d_Ar_copyOf2_35 : decode prog_19_method_120_code 35 = .ok (.invokestatic 150, 3) := by decide +kernel
theorem d_Ar_copyOf2_38 : decode prog_19_method_120_code 38 = .ok (.aload_n 3, 1) := by decide +kernel
theorem d_Ar_copyOf2_39 : decode prog_19_method_120_code 39 = .ok (.areturn, 1) := by decide +kernel

theorem d_Ar_copyOf_0 : decode prog_19_method_119_code 0 = .ok (.aload_n 0, 1) := by decide +kernel
theorem d_Ar_copyOf_1 : decode prog_19_method_119_code 1 = .ok (.iload_n 1, 1) := by decide +kernel
theorem d_Ar_copyOf_2 : decode prog_19_method_119_code 2 = .ok (.aload_n 0, 1) := by decide +kernel
theorem d_Ar_copyOf_3 : decode prog_19_method_119_code 3 = .ok (.invokevirtual 86, 3) := by decide +kernel
theorem d_Ar_copyOf_6 : decode prog_19_method_119_code 6 = .ok (.invokestatic 300, 3) := by decide +kernel
theorem d_Ar_copyOf_9 : decode prog_19_method_119_code 9 = .ok (.areturn, 1) := by decide +kernel

theorem d_AL_grow2_0 : decode prog_18_method_6_code 0 = .ok (.aload_n 0, 1) := by decide +kernel
theorem d_AL_grow2_1 : decode prog_18_method_6_code 1 = .ok (.getfield 9, 3) := by decide +kernel
theorem d_AL_grow2_4 : decode prog_18_method_6_code 4 = .ok (.arraylength, 1) := by decide +kernel
theorem d_AL_grow2_5 : decode prog_18_method_6_code 5 = .ok (.istore_n 2, 1) := by decide +kernel
theorem d_AL_grow2_6 : decode prog_18_method_6_code 6 = .ok (.iload_n 2, 1) := by decide +kernel
theorem d_AL_grow2_7 : decode prog_18_method_6_code 7 = .ok (.ifCond .gt 13, 3) := by decide +kernel
theorem d_AL_grow2_10 : decode prog_18_method_6_code 10 = .ok (.aload_n 0, 1) := by decide +kernel
theorem d_AL_grow2_11 : decode prog_18_method_6_code 11 = .ok (.getfield 9, 3) := by decide +kernel
theorem d_AL_grow2_14 : decode prog_18_method_6_code 14 = .ok (.getstatic 39, 3) := by decide +kernel
theorem d_AL_grow2_17 : decode prog_18_method_6_code 17 = .ok (.if_acmp .eq 28, 3) := by decide +kernel
theorem d_AL_grow2_20 : decode prog_18_method_6_code 20 = .ok (.iload_n 2, 1) := by decide +kernel
theorem d_AL_grow2_21 : decode prog_18_method_6_code 21 = .ok (.iload_n 1, 1) := by decide +kernel
theorem d_AL_grow2_22 : decode prog_18_method_6_code 22 = .ok (.iload_n 2, 1) := by decide +kernel
theorem d_AL_grow2_23 : decode prog_18_method_6_code 23 = .ok (.isub, 1) := by decide +kernel
theorem d_AL_grow2_24 : decode prog_18_method_6_code 24 = .ok (.iload_n 2, 1) := by decide +kernel
theorem d_AL_grow2_25 : decode prog_18_method_6_code 25 = .ok (.iconst 1, 1) := by decide +kernel
theorem d_AL_grow2_26 : decode prog_18_method_6_code 26 = .ok (.ishr, 1) := by decide +kernel
theorem d_AL_grow2_27 : decode prog_18_method_6_code 27 = .ok (.invokestatic 73, 3) := by decide +kernel
theorem d_AL_grow2_30 : decode prog_18_method_6_code 30 = .ok (.istore_n 3, 1) := by decide +kernel
theorem d_AL_grow2_31 : decode prog_18_method_6_code 31 = .ok (.aload_n 0, 1) := by decide +kernel
theorem d_AL_grow2_32 : decode prog_18_method_6_code 32 = .ok (.aload_n 0, 1) := by decide +kernel
theorem d_AL_grow2_33 : decode prog_18_method_6_code 33 = .ok (.getfield 9, 3) := by decide +kernel
theorem d_AL_grow2_36 : decode prog_18_method_6_code 36 = .ok (.iload_n 3, 1) := by decide +kernel
theorem d_AL_grow2_37 : decode prog_18_method_6_code 37 = .ok (.invokestatic 66, 3) := by decide +kernel
theorem d_AL_grow2_40 : decode prog_18_method_6_code 40 = .ok (.dup_x1, 1) := by decide +kernel
theorem d_AL_grow2_41 : decode prog_18_method_6_code 41 = .ok (.putfield 9, 3) := by decide +kernel
theorem d_AL_grow2_44 : decode prog_18_method_6_code 44 = .ok (.areturn, 1) := by decide +kernel
theorem d_AL_grow2_45 : decode prog_18_method_6_code 45 = .ok (.aload_n 0, 1) := by decide +kernel
theorem d_AL_grow2_46 : decode prog_18_method_6_code 46 = .ok (.bipush 10, 2) := by decide +kernel
theorem d_AL_grow2_48 : decode prog_18_method_6_code 48 = .ok (.iload_n 1, 1) := by decide +kernel
theorem d_AL_grow2_49 : decode prog_18_method_6_code 49 = .ok (.invokestatic 79, 3) := by decide +kernel
theorem d_AL_grow2_52 : decode prog_18_method_6_code 52 = .ok (.anewarray 7, 3) := by decide +kernel
theorem d_AL_grow2_55 : decode prog_18_method_6_code 55 = .ok (.dup_x1, 1) := by decide +kernel
theorem d_AL_grow2_56 : decode prog_18_method_6_code 56 = .ok (.putfield 9, 3) := by decide +kernel
theorem d_AL_grow2_59 : decode prog_18_method_6_code 59 = .ok (.areturn, 1) := by decide +kernel

theorem d_AL_grow_0 : decode prog_18_method_7_code 0 = .ok (.aload_n 0, 1) := by decide +kernel
theorem d_AL_grow_1 : decode prog_18_method_7_code 1 = .ok (.aload_n 0, 1) := by decide +kernel
theorem d_AL_grow_2 : decode prog_18_method_7_code 2 = .ok (.getfield 48, 3) := by decide +kernel
theorem d_AL_grow_5 : decode prog_18_method_7_code 5 = .ok (.iconst 1, 1) := by decide +kernel
theorem d_AL_grow_6 : decode prog_18_method_7_code 6 = .ok (.iadd, 1) := by decide +kernel
theorem d_AL_grow_7 : decode prog_18_method_7_code 7 = .ok (.invokevirtual 69, 3) := by decide +kernel
theorem d_AL_grow_10 : decode prog_18_method_7_code 10 = .ok (.areturn, 1) := by decide +kernel

theorem d_AL_add2_0 : decode prog_18_method_24_code 0 = .ok (.iload_n 3, 1) := by decide +kernel
theorem d_AL_add2_1 : decode prog_18_method_24_code 1 = .ok (.aload_n 2, 1) := by decide +kernel
theorem d_AL_add2_2 : decode prog_18_method_24_code 2 = .ok (.arraylength, 1) := by decide +kernel
theorem d_AL_add2_3 : decode prog_18_method_24_code 3 = .ok (.if_icmp .ne 8, 3) := by decide +kernel
theorem d_AL_add2_6 : decode prog_18_method_24_code 6 = .ok (.aload_n 0, 1) := by decide +kernel
theorem d_AL_add2_7 : decode prog_18_method_24_code 7 = .ok (.invokevirtual 129, 3) := by decide +kernel
theorem d_AL_add2_10 : decode prog_18_method_24_code 10 = .ok (.astore_n 2, 1) := by decide +kernel
theorem d_AL_add2_11 : decode prog_18_method_24_code 11 = .ok (.aload_n 2, 1) := by decide +kernel
theorem d_AL_add2_12 : decode prog_18_method_24_code 12 = .ok (.iload_n 3, 1) := by decide +kernel
theorem d_AL_add2_13 : decode prog_18_method_24_code 13 = .ok (.aload_n 1, 1) := by decide +kernel
theorem d_AL_add2_14 : decode prog_18_method_24_code 14 = .ok (.aastore, 1) := by decide +kernel
theorem d_AL_add2_15 : decode prog_18_method_24_code 15 = .ok (.aload_n 0, 1) := by decide +kernel
theorem d_AL_add2_16 : decode prog_18_method_24_code 16 = .ok (.iload_n 3, 1) := by decide +kernel
theorem d_AL_add2_17 : decode prog_18_method_24_code 17 = .ok (.iconst 1, 1) := by decide +kernel
theorem d_AL_add2_18 : decode prog_18_method_24_code 18 = .ok (.iadd, 1) := by decide +kernel
theorem d_AL_add2_19 : decode prog_18_method_24_code 19 = .ok (.putfield 48, 3) := by decide +kernel
theorem d_AL_add2_22 : decode prog_18_method_24_code 22 = .ok (.return_, 1) := by decide +kernel

theorem d_AL_add_0 : decode prog_18_method_25_code 0 = .ok (.aload_n 0, 1) := by decide +kernel
theorem d_AL_add_1 : decode prog_18_method_25_code 1 = .ok (.dup, 1) := by decide +kernel
theorem d_AL_add_2 : decode prog_18_method_25_code 2 = .ok (.getfield 63, 3) := by decide +kernel
theorem d_AL_add_5 : decode prog_18_method_25_code 5 = .ok (.iconst 1, 1) := by decide +kernel
theorem d_AL_add_6 : decode prog_18_method_25_code 6 = .ok (.iadd, 1) := by decide +kernel
theorem d_AL_add_7 : decode prog_18_method_25_code 7 = .ok (.putfield 63, 3) := by decide +kernel
theorem d_AL_add_10 : decode prog_18_method_25_code 10 = .ok (.aload_n 0, 1) := by decide +kernel
theorem d_AL_add_11 : decode prog_18_method_25_code 11 = .ok (.aload_n 1, 1) := by decide +kernel
theorem d_AL_add_12 : decode prog_18_method_25_code 12 = .ok (.aload_n 0, 1) := by decide +kernel
theorem d_AL_add_13 : decode prog_18_method_25_code 13 = .ok (.getfield 9, 3) := by decide +kernel
theorem d_AL_add_16 : decode prog_18_method_25_code 16 = .ok (.aload_n 0, 1) := by decide +kernel
theorem d_AL_add_17 : decode prog_18_method_25_code 17 = .ok (.getfield 48, 3) := by decide +kernel
theorem d_AL_add_20 : decode prog_18_method_25_code 20 = .ok (.invokevirtual 131, 3) := by decide +kernel
theorem d_AL_add_23 : decode prog_18_method_25_code 23 = .ok (.iconst 1, 1) := by decide +kernel
theorem d_AL_add_24 : decode prog_18_method_25_code 24 = .ok (.ireturn, 1) := by decide +kernel

/-! rows for ArrayList -/
section ALR
variable {p : Program} {l : Launch} {e : Env} {R : Room} {s : State} {m : MethodId} {args : Array Value} {below : List Frame} {meth : Method} {c : Code} {H : Heap} {locs : List Loc} {cells slots : Nat} {Q : State → Prop}
variable {cc : ByteArray} {pc : Nat} {ls : Array Slot} {rest : List Value} {D : va_G} {cl : List vw_C} {A : Nat → Prop} {a : Nat} {tys : List (ClassId × FieldType)} {M : mp_M} {H0 : Heap} {E : Ev}
theorem x_reta {P : Option Nat → mp_M → Prop} {mc ms : Nat} {T : FieldType} {v : Nat} (hQ : Q = MQ below (va_Qq P (mB E A) A) args s mc ms A) (hx : p.tables.exec = Jvm.exec) (hb : c.code = cc) (hr : meth.sig.returnType = some (.array T)) (hlk : meth.locks = false) (hw : mw E.1 vwCl A s.heap M H locs) (hc : cells ≤ mc) (hs : slots ≤ ms) (hdg : decode cc pc = .ok (.areturn, 1)) (hP : P (some v) M) : W p l e R s m args below meth c H locs cells slots Q (F0 m pc ls [.ref v]) := by
  subst hQ
  exact W.widen hc hs (W.aret hx hb hr (Or.inr ⟨T, rfl⟩) (va_rf_or (some v)) (fun t ht hW => ⟨⟨some v, M, rfl, hP, by rw [ht]; exact hw.1, hw.2.1⟩, hw.2.2.F ht⟩) hw.2.2.2.2 hdg hlk)
theorem m_aastO (hx : p.tables.exec = Jvm.exec) (hb : c.code = cc) (hK : va_K D cl tys s) (hw : mw D cl A H0 M H locs) (t0 ci : Nat) {cA : ClassId} {r : vw_C} {C : String} {n v : Nat} {fv : List Value} {f f' : Nat → Option Nat} (he : M a = some (.inl (cA, n, .inr (.inr (.inr (.inr f)))))) (ht : tys[t0]? = some (cA, .object C)) (hca : va_Nw (.castable r.1 C) s) (hv : M v = some (.inr (ci, fv))) (hc : cl[ci]? = some r) {i : Nat} (hi : i < n) (hn : n < 2 ^ 31) (hf : va_up f i (some v) = f') (hdg : decode cc pc = .ok (.aastore, 1))
    (kk : ∀ (H1 : Heap) (locs1 : List Loc), mw D cl A H0 (mp_up M a (.inl (cA, n, .inr (.inr (.inr (.inr f')))))) H1 locs1 → W p l e R s m args below meth c H1 locs1 cells slots Q (F0 m (pc + 1) ls rest)) : W p l e R s m args below meth c H locs cells slots Q (F0 m pc ls (.ref v :: .int (nI i) :: .ref a :: rest)) := by
  obtain ⟨q, hq⟩ := mp_idx (mp_lt hw.1 he) he
  obtain ⟨q2, hq2⟩ := mp_idx (mp_lt hw.1 hv) hv
  refine va_astqO hx hb hK (mp_P hw.1 _) (mp_D hw.2.1 _) hw.2.2 q t0 q2 ci hq ht hca hq2 hc (vp_in_nI hi hn) hdg (fun H1 locs1 hP hD hS => ?_)
  rw [nI_clamp (by omega), hf] at hP
  exact kk H1 locs1 (mw_set hw hq hP hS)
theorem m_copyq (hx : p.tables.exec = Jvm.exec) (hb : c.code = cc) (hml : c.maxLocals = ls.size) {own : String} {index : Nat} (hown : s.vm.findClass own = some m.cls) (hlink : (Cond.methodLink own index arraycopyName).before args s = true) (hnat : (Cond.native arraycopyName).before args s = true) (hstat : (Cond.static arraycopyName).before args s = true) (hini : (Cond.initialized "java/lang/System").before args s = true) (hK : va_K D cl tys s) (hw : mw D cl A H0 M H locs) (t0 t1 ci : Nat) {a0 : Nat} {c0 c1 : ClassId} {r : vw_C} {n0 n1 n : Nat} {f g : Nat → Option Nat} {E0 E1 : String} (he0 : M a0 = some (.inl (c0, n0, .inr (.inr (.inr (.inr f)))))) (he1 : M a = some (.inl (c1, n1, .inr (.inr (.inr (.inr g)))))) (ht0 : tys[t0]? = some (c0, .object E0)) (ht1 : tys[t1]? = some (c1, .object E1)) (h4 : n ≤ n0) (h5 : n ≤ n1) (hn : n < 2 ^ 31) (hel : ∀ i, i < n → ∀ y, f i = some y → ∃ fv, M y = some (.inr (ci, fv))) (hc : cl[ci]? = some r) (hca : va_Nw (.castable r.1 E1) s)
    (hframes : 1 ≤ R.frames) (hlocals : (rest.map fun v => v.category).sum + (nativeFrameWords "java/lang/System" "arraycopy" 5 + 11) ≤ R.locals) (hdg : decode cc pc = .ok (.invokestatic index, 3))
    (kk : ∀ (H1 : Heap) (locs1 : List Loc), mw D cl A H0 (mp_up M a (.inl (c1, n1, .inr (.inr (.inr (.inr (va_cpy f g 0 0 n))))))) H1 locs1 → W p l e R s m args below meth c H1 locs1 cells slots Q (F0 m (pc + 3) ls rest)) : W p l e R s m args below meth c H locs cells slots Q (F0 m pc ls (.int (nI n) :: .int (nI 0) :: .ref a :: .int (nI 0) :: .ref a0 :: rest)) := by
  obtain ⟨q0, hq0⟩ := mp_idx (mp_lt hw.1 he0) he0
  obtain ⟨q1, hq1⟩ := mp_idx (mp_lt hw.1 he1) he1
  have cn : (nI n).toNatClampNeg = n := nI_clamp (by omega)
  have c00 : (nI 0).toNatClampNeg = 0 := nI_clamp (by omega)
  refine va_copyq (C := r.1) hx hb hml hown hlink hnat hstat hini hK (mp_P hw.1 _) (mp_D hw.2.1 _) hw.2.2 q0 q1 t0 t1 hq0 hq1 ht0 ht1 (sp := nI 0) (dp := nI 0) (n := nI n) (nI_pos (by omega)) (nI_pos (by omega)) (nI_pos (by omega)) (by rw [cn, c00]; omega) (by rw [cn, c00]; omega) (fun i hi y hy => ?_) (fun comp cC h1 h2 => ?_) hframes hlocals hdg (fun H1 locs1 hP hD hS => ?_)
  · rw [cn] at hi
    rw [c00, Nat.zero_add] at hy
    obtain ⟨fv, hv⟩ := hel i hi y hy
    exact m_recv hK hw hc hv
  · obtain ⟨cA, tA, f1, f2, f3⟩ := Cond.castable_spec (va_Nw.use (A := args) rfl hca)
    cases h2.symm.trans f1
    cases h1.symm.trans f2
    exact f3
  · rw [cn, c00] at hP
    exact kk H1 locs1 (mw_set hw hq1 hP hS)
theorem soft {n : Nat} (h : n < 2000) : ¬ (2147483639 : Int32) < nI n := fun z => by
  rw [Int32.lt_iff_toInt_lt, nI_toInt (by omega)] at z
  have h9 : (2147483639 : Int32).toInt = 2147483639 := by decide
  omega
theorem shr_1 {n : Nat} (h : n < 2 ^ 31) : nI n >>> (nI 1 &&& 31) = nI (n / 2) := by
  have k := pk_shrN (n := n) h (nI 1 &&& 31) 1 (by decide)
  rw [Nat.pow_one] at k
  exact k
theorem ar_recv {E : Ev} {n0 : Nat} {f : Nat → Option Nat} {a0 : Nat} (hK : va_K E.1 vwCl (tysE E) s) (hw : mw E.1 vwCl A H0 M H locs) (he : M a0 = some (.inl (E.2.1 3, n0, .inr (.inr (.inr (.inr f)))))) : ∃ cell : Cell, H[a0]? = some cell ∧ cell.vm.isStatics = false ∧ s.vm.findClass "[Ljava/lang/Object;" = some cell.cls := by
  have h : H[a0]? = some (vp_cell (E.2.1 3) (n0, .inr (.inr (.inr (.inr f))))) := hw.1 a0 _ he
  exact ⟨_, h, rfl, va_nmO (hK.2 3 (E.2.1 3, .object "java/lang/Object") rfl).2 (by decide)⟩
theorem min_n {x y : Nat} (hx : x < 2 ^ 31) (hy : y < 2 ^ 31) (h : x ≤ y) : (if nI y < nI x then nI y else nI x) = nI x := if_neg (fun z => by rw [nI_ltI hy hx] at z; omega)
/-- the list behind an add -/
def AD (E : Ev) (M : mp_M) (a0 ea cap n : Nat) (ra : Nat → Nat) (v : Nat) (M' : mp_M) : Prop := ∃ (ea' cap' : Nat) (mcn' : Int32), M' a0 = some (.inr (7, [.int mcn', .ref ea', .int (nI (n + 1))])) ∧ M' ea' = some (arO E cap' (n + 1) (va_up ra n v)) ∧ 10 ≤ cap' ∧ n + 1 ≤ cap' ∧ cap' ≤ 800 ∧ (ea' = ea ∨ M ea' = none) ∧ ∀ b e, M b = some e → b ≠ a0 → ¬ (b = ea ∧ 10 ≤ cap) → M' b = some e
theorem arO_up {n v : Nat} {ra : Nat → Nat} : va_up (fun i => if i < n then some (ra i) else none) n (some v) = fun i => if i < n + 1 then some (va_up ra n v i) else none := by
  funext i
  unfold va_up
  by_cases e : i = n
  · rw [if_pos e, if_pos (by omega), if_pos e]
  · rw [if_neg e, if_neg e]
    show (if i < n then some (ra i) else none) = _
    by_cases h : i < n
    · rw [if_pos h, if_pos (by omega)]
    · rw [if_neg h, if_neg (by omega)]
theorem arO_cpy {n : Nat} {ra : Nat → Nat} : va_cpy (fun i => if i < n then some (ra i) else none) (fun _ => none) 0 0 n = fun i => if i < n then some (ra i) else none := by
  funext i
  unfold va_cpy
  by_cases h : i < n
  · rw [if_pos (by omega), if_pos h]
    show (if 0 + (i - 0) < n then some (ra (0 + (i - 0))) else none) = some (ra i)
    rw [show 0 + (i - 0) = i by omega, if_pos h]
  · rw [if_neg (by omega), if_neg h]
theorem arO_0 {ra : Nat → Nat} : (fun i => if i < 0 then some (ra i) else none) = fun _ => (none : Option Nat) := by
  funext i
  rw [if_neg (by omega)]
theorem arO_z {ra : Nat → Nat} : arO E 10 0 ra = .inl (E.2.1 3, 10, .inr (.inr (.inr (.inr (fun _ => none))))) := by
  show (Sum.inl (E.2.1 3, 10, .inr (.inr (.inr (.inr (fun i => if i < 0 then some (ra i) else none))))) : va_E) = _
  rw [arO_0]
theorem ar_neO {a0 ea ci : Nat} {x : ClassId × vp_A} {fs : List Value} (h : M ea = some (.inl x)) (h2 : M a0 = some (.inr (ci, fs))) : a0 ≠ ea := by
  rintro rfl
  rw [h] at h2
  cases h2
theorem ar_neO2 {a0 ea ci : Nat} {x : ClassId × vp_A} {fs : List Value} (h : M ea = some (.inl x)) (h2 : M a0 = some (.inr (ci, fs))) : ea ≠ a0 := fun z => ar_neO h h2 z.symm
theorem ad_v {a0 q v : Nat} {fs fv : List Value} {e1 e2 : va_E} (he0 : M a0 = some (.inr (7, fs))) (hv : M v = some (.inr (5, fv))) (hq : M q = none) : mp_up (mp_up M q e1) a0 e2 v = some (.inr (5, fv)) := by
  have h1 : v ≠ a0 := by
    rintro rfl
    rw [hv] at he0
    cases he0
  rw [mp_up_n h1, mp_up_n (ne_of hv hq)]
  exact hv
theorem ad_A {a0 ea cap n v : Nat} {mcn : Int32} {ra : Nat → Nat} (he0 : M a0 = some (.inr (7, [.int mcn, .ref ea, .int (nI n)]))) (hea : M ea = some (arO E cap n ra)) (h10 : 10 ≤ cap) (hcap : cap ≤ 800) (hlt : n < cap) : AD E M a0 ea cap n ra v (mp_up (mp_up M ea (arO E cap (n + 1) (va_up ra n v))) a0 (.inr (7, [.int mcn, .ref ea, .int (nI (n + 1))]))) := by
  refine ⟨ea, cap, mcn, mp_up_s, (mp_up_n (ar_neO2 hea he0)).trans mp_up_s, h10, by omega, hcap, Or.inl rfl, fun b e hb h1 h2 => ?_⟩
  rw [mp_up_n h1, mp_up_n (fun z => h2 ⟨z, h10⟩)]
  exact hb
theorem ad_B {a0 ea cap n v q : Nat} {mcn : Int32} {ra : Nat → Nat} {M7 : mp_M} (hc : 10 ≤ cap) (he0 : M a0 = some (.inr (7, [.int mcn, .ref ea, .int (nI n)]))) (hq : M q = none) (hM7 : M7 = mp_up (mp_up M q (arO E (n + n / 2) n ra)) a0 (.inr (7, [.int mcn, .ref q, .int (nI n)]))) (h10 : 10 ≤ n) (hn : n < 512) : AD E M a0 ea cap n ra v (mp_up (mp_up M7 q (arO E (n + n / 2) (n + 1) (va_up ra n v))) a0 (.inr (7, [.int mcn, .ref q, .int (nI (n + 1))]))) := by
  have hne := ne_of he0 hq
  refine ⟨q, n + n / 2, mcn, mp_up_s, (mp_up_n (fun z => hne z.symm)).trans mp_up_s, by omega, by omega, by omega, Or.inr hq, fun b e hb h1 h2 => ?_⟩
  rw [mp_up_n h1, mp_up_n (ne_of hb hq), hM7, mp_up_n h1, mp_up_n (ne_of hb hq)]
  exact hb
theorem ad_C {a0 v q : Nat} {mcn : Int32} {ra : Nat → Nat} {M7 : mp_M} (he0 : M a0 = some (.inr (7, [.int mcn, .ref E.2.2, .int (nI 0)]))) (hq : M q = none) (hM7 : M7 = mp_up (mp_up M q (arO E 10 0 ra)) a0 (.inr (7, [.int mcn, .ref q, .int (nI 0)]))) : AD E M a0 E.2.2 0 0 ra v (mp_up (mp_up M7 q (arO E 10 (0 + 1) (va_up ra 0 v))) a0 (.inr (7, [.int mcn, .ref q, .int (nI (0 + 1))]))) := by
  have hne := ne_of he0 hq
  refine ⟨q, 10, mcn, mp_up_s, (mp_up_n (fun z => hne z.symm)).trans mp_up_s, by omega, by omega, by omega, Or.inr hq, fun b e hb h1 h2 => ?_⟩
  rw [mp_up_n h1, mp_up_n (ne_of hb hq), hM7, mp_up_n h1, mp_up_n (ne_of hb hq)]
  exact hb
theorem ad_lift {a0 ea cap n v : Nat} {ra : Nat → Nat} {e e0 : va_E} {M' : mp_M} (he0 : M a0 = some e0) (h : AD E (mp_up M a0 e) a0 ea cap n ra v M') : AD E M a0 ea cap n ra v M' := by
  obtain ⟨ea', cap', mcn', h1, h2, h3, h4, h5, h6, h7⟩ := h
  refine ⟨ea', cap', mcn', h1, h2, h3, h4, h5, ?_, fun b e' hb n1 n2 => h7 b e' ((mp_up_n n1).trans hb) n1 n2⟩
  rcases h6 with z | z
  · exact Or.inl z
  · refine Or.inr ?_
    by_cases y : ea' = a0
    · rw [y, mp_up_s] at z
      cases z
    · rw [mp_up_n y] at z
      exact z
end ALR

set_option maxHeartbeats 4000000 in
set_option maxRecDepth 100000 in
theorem c_AS_newLen {l : Launch} {E : Ev} {M : mp_M} {sz : Nat} {n : Nat} (h2 : 2 ≤ n) (hn : n < 1000) : MCi l E y_AS_newLength prog_25_method_27_code 4 (some .int) 1 40 0 0 [.int (nI n), .int (nI 1), .int (nI (n / 2))] M sz (fun r M' => r = nI (n + n / 2) ∧ M' = M) := by
  refine mc_of R_AS rfl [some (.int (nI n)), some (.int (nI 1)), some (.int (nI (n / 2))), none] (by decide) (Nat.le_of_ble_eq_true rfl) rfl ?_
  intro p e R s m ag below meth c ls Q A X hAe hQ hR hsz hw hl
  rw [← hAe] at hQ
  obtain ⟨⟨hx, hb, hml, hown, hts⟩, hE, hA, hr, hlk, hnm⟩ := X
  have hK := hE.1
  refine x_iload_n hx hb d_AS_newLength_0 hl rfl ?_
  refine x_iload_n hx hb d_AS_newLength_1 hl rfl ?_
  refine x_iload_n hx hb d_AS_newLength_2 hl rfl ?_
  refine va_mmax hx hb (hml.trans hl.1.symm) hown (hts _ (wm2 203 rfl rfl)) (hts _ (wm2 30 rfl rfl)) (hts _ (wm1 11 rfl rfl)) (hts _ (wm2 31 rfl rfl)) (Nat.le_trans (Nat.le_of_ble_eq_true rfl) hR.1) (Nat.le_trans (Nat.le_of_ble_eq_true rfl) hR.2.1) (Nat.le_trans (Nat.zero_le _) hR.2.2.1) (Nat.le_trans (Nat.zero_le _) hR.2.2.2) d_AS_newLength_3 ?_
  rw [mx (by omega) (by omega)]
  rw [show (if 1 < n / 2 then n / 2 else 1) = n / 2 by split <;> omega]
  first | refine x_iadd hx hb d_AS_newLength_6 ?_ | refine lv_iadd hx hb d_AS_newLength_6 ?_
  refine x_istore_n hx hb d_AS_newLength_7 hl (Nat.le_of_ble_eq_true rfl) (lh_k (i := 2) rfl (by first | exact lk_n | exact lk_i | exact lk_r | exact lk_q | exact lk_0)) (fun ls hl => ?_)
  refine lv_iconst (v := nI 0) hx hb d_AS_newLength_8 (by decide) ?_
  refine x_iload_n hx hb d_AS_newLength_9 hl rfl ?_
  refine x_icmp_ge hx hb d_AS_newLength_10 rfl (by omega) (by omega) (fun h10 => ?_) (fun h10 => ?_)
  · exact absurd h10 (by omega)
  · refine x_iload_n hx hb d_AS_newLength_13 hl rfl ?_
    refine lv_ldc (v := 2147483639) hx hb hown (hts _ (wm2 204 rfl rfl)) d_AS_newLength_14 ?_
    refine lv_icmp_gt hx hb d_AS_newLength_16 rfl (fun h16 => ?_) (fun h16 => ?_)
    · exact absurd h16 (soft (by omega))
    · refine x_iload_n hx hb d_AS_newLength_19 hl rfl ?_
      exact x_reti hQ hx hb hr hlk rfl hw (by omega) (by omega) d_AS_newLength_20 (⟨rfl, rfl⟩)

set_option maxHeartbeats 4000000 in
set_option maxRecDepth 100000 in
theorem c_Ar_copy3 {l : Launch} {E : Ev} {M : mp_M} {sz : Nat} {a0 n0 n1 : Nat} {f : Nat → Option Nat} (he0 : M a0 = some (.inl (E.2.1 3, n0, .inr (.inr (.inr (.inr f)))))) (h01 : n0 ≤ n1) (hn1 : n1 ≤ 800) (hel : ∀ i, i < n0 → ∀ y, f i = some y → ∃ fv, M y = some (.inr (5, fv))) : MCq l E y_Ar_copyOf2 prog_19_method_120_code 4 (some (.array (.object "java/lang/Object"))) 1 60 1 800 [.ref a0, .int (nI n1), .ref (E.2.1 9)] M sz (fun r M' => ∃ q, r = some q ∧ M q = none ∧ M' = mp_up M q (.inl (E.2.1 3, n1, .inr (.inr (.inr (.inr (va_cpy f (fun _ => none) 0 0 n0))))))) := by
  refine mc_of R_Ar rfl [some (.ref a0), some (.int (nI n1)), some (.ref (E.2.1 9)), none] (by decide) (Nat.le_of_ble_eq_true rfl) rfl ?_
  intro p e R s m ag below meth c ls Q A X hAe hQ hR hsz hw hl
  rw [← hAe] at hQ
  obtain ⟨⟨hx, hb, hml, hown, hts⟩, hE, hA, hr, hlk, hnm⟩ := X
  have hK := hE.1
  first | refine x_aload_n hx hb d_Ar_copyOf2_0 hl rfl ?_ | refine x_aload_nQ hx hb d_Ar_copyOf2_0 hl rfl ?_
  refine va_ldcM hx hb hown (hts _ (wm2 227 rfl rfl)) hE.2.1.2.2.2.1 d_Ar_copyOf2_1 ?_
  refine W.eq (g2 := F0 m 3 ls [va_rf (some (E.2.1 9)), va_rf (some (E.2.1 9))]) rfl ?_
  refine lv_acmp_ne hx hb d_Ar_copyOf2_3 rfl (fun h3 => absurd rfl h3) (fun _ => ?_)
  refine x_iload_n hx hb d_Ar_copyOf2_6 hl rfl ?_
  refine m_newq hx hb hts hown (wm2 229 rfl rfl) hE.2.1.2.1.2.2.2 hK hw hA 3 rfl (by omega) (by omega) (by omega) d_Ar_copyOf2_7 (fun q1 H hq7 hw => ?_)
  have he1 := put_he hw
  have heB := (mp_up_n (M := M) (e := (.inl (E.2.1 3, n1, .inr (.inr (.inr (.inr (fun _ => none))))))) (ne_of he0 hq7)).trans he0
  refine lv_goto hx hb d_Ar_copyOf2_10 rfl ?_
  first | refine x_astore_n hx hb d_Ar_copyOf2_24 hl (Nat.le_of_ble_eq_true rfl) (lh_k (i := 2) rfl (by first | exact lk_n | exact lk_i | exact lk_r | exact lk_q | exact lk_0)) (fun ls hl => ?_) | refine x_astore_nQ hx hb d_Ar_copyOf2_24 hl (Nat.le_of_ble_eq_true rfl) (lh_k (i := 2) rfl (by first | exact lk_n | exact lk_i | exact lk_r | exact lk_q | exact lk_0)) (fun ls hl => ?_)
  first | refine x_aload_n hx hb d_Ar_copyOf2_25 hl rfl ?_ | refine x_aload_nQ hx hb d_Ar_copyOf2_25 hl rfl ?_
  refine lv_iconst (v := nI 0) hx hb d_Ar_copyOf2_26 (by decide) ?_
  first | refine x_aload_n hx hb d_Ar_copyOf2_27 hl rfl ?_ | refine x_aload_nQ hx hb d_Ar_copyOf2_27 hl rfl ?_
  refine lv_iconst (v := nI 0) hx hb d_Ar_copyOf2_28 (by decide) ?_
  first | refine x_aload_n hx hb d_Ar_copyOf2_29 hl rfl ?_ | refine x_aload_nQ hx hb d_Ar_copyOf2_29 hl rfl ?_
  refine va_alen hx hb hK (mp_one hw.1 heB) 0 3 rfl rfl (v := nI (n0)) rfl d_Ar_copyOf2_30 ?_
  refine x_iload_n hx hb d_Ar_copyOf2_31 hl rfl ?_
  refine va_mmin hx hb (hml.trans hl.1.symm) hown (hts _ (wm2 230 rfl rfl)) (hts _ (wm2 231 rfl rfl)) (hts _ (wm1 11 rfl rfl)) (hts _ (wm2 232 rfl rfl)) (Nat.le_trans (Nat.le_of_ble_eq_true rfl) hR.1) (Nat.le_trans (Nat.le_of_ble_eq_true rfl) hR.2.1) (by omega) (by omega) d_Ar_copyOf2_32 ?_
  rw [min_n (by omega) (by omega) h01]
  refine m_copyq hx hb (hml.trans hl.1.symm) hown (hts _ (wm2 233 rfl rfl)) (hts _ (wm2 235 rfl rfl)) (hts _ (wm2 234 rfl rfl)) (hts _ (wm1 18 rfl rfl)) hK hw 3 3 5 heB he1 rfl rfl (Nat.le_refl _) h01 (by omega) (fun i hi y hy => ?_) (ci_Rp).1 hE.2.1.2.2.1.2 (Nat.le_trans (Nat.le_of_ble_eq_true rfl) hR.1) (Nat.le_trans (by decide) hR.2.1) d_Ar_copyOf2_35 (fun H locs hw => ?_)
  · obtain ⟨fv, hv⟩ := hel i hi y hy
    exact ⟨fv, (mp_up_n (ne_of hv hq7)).trans hv⟩
  rw [mp_up_up] at hw
  first | refine x_aload_n hx hb d_Ar_copyOf2_38 hl rfl ?_ | refine x_aload_nQ hx hb d_Ar_copyOf2_38 hl rfl ?_
  exact x_reta hQ hx hb hr hlk hw (by omega) (by omega) d_Ar_copyOf2_39 ⟨q1, rfl, hq7, rfl⟩

set_option maxHeartbeats 4000000 in
set_option maxRecDepth 100000 in
theorem c_Ar_copy2 {l : Launch} {E : Ev} {M : mp_M} {sz : Nat} {a0 n0 n1 : Nat} {f : Nat → Option Nat} (he0 : M a0 = some (.inl (E.2.1 3, n0, .inr (.inr (.inr (.inr f)))))) (h01 : n0 ≤ n1) (hn1 : n1 ≤ 800) (hel : ∀ i, i < n0 → ∀ y, f i = some y → ∃ fv, M y = some (.inr (5, fv))) : MCq l E y_Ar_copyOf prog_19_method_119_code 2 (some (.array (.object "java/lang/Object"))) 2 83 1 800 [.ref a0, .int (nI n1)] M sz (fun r M' => ∃ q, r = some q ∧ M q = none ∧ M' = mp_up M q (.inl (E.2.1 3, n1, .inr (.inr (.inr (.inr (va_cpy f (fun _ => none) 0 0 n0))))))) := by
  refine mc_of R_Ar rfl [some (.ref a0), some (.int (nI n1))] (by decide) (Nat.le_of_ble_eq_true rfl) rfl ?_
  intro p e R s m ag below meth c ls Q A X hAe hQ hR hsz hw hl
  rw [← hAe] at hQ
  obtain ⟨⟨hx, hb, hml, hown, hts⟩, hE, hA, hr, hlk, hnm⟩ := X
  have hK := hE.1
  first | refine x_aload_n hx hb d_Ar_copyOf_0 hl rfl ?_ | refine x_aload_nQ hx hb d_Ar_copyOf_0 hl rfl ?_
  refine x_iload_n hx hb d_Ar_copyOf_1 hl rfl ?_
  first | refine x_aload_n hx hb d_Ar_copyOf_2 hl rfl ?_ | refine x_aload_nQ hx hb d_Ar_copyOf_2 hl rfl ?_
  refine va_getC (C := "[Ljava/lang/Object;") hx hb (hml.trans hl.1.symm) hown (hts _ (wm2 211 rfl rfl)) (va_Dc.use hE.2.1.2.2.2.2) (hts _ (wm4 76 rfl rfl)) (hts _ (wm2 212 rfl rfl)) (hts _ (wm2 223 rfl rfl)) hE.2.1.2.2.2.1 (ar_recv hE.1 hw he0) (Nat.le_trans (Nat.le_of_ble_eq_true rfl) hR.1) (Nat.le_trans (Nat.le_of_ble_eq_true rfl) hR.2.1) d_Ar_copyOf_3 ?_
  refine m_callq (k_S ⟨hx, hb, hml, hown, hts⟩ hE hA hw (c_Ar_copy3 he0 h01 hn1 hel) (wm2 224 rfl rfl) (wm2 225 rfl rfl) (wm1 17 rfl rfl) (wm2 226 rfl rfl) rfl rfl ar_Ar_copyOf2 ⟨Nat.le_trans (Nat.le_of_ble_eq_true rfl) hR.1, Nat.le_trans (Nat.le_of_ble_eq_true rfl) hR.2.1⟩ rfl hl.1 rfl (Nat.le_of_ble_eq_true rfl) d_Ar_copyOf_6 ⟨by omega, by omega⟩) hw (mfr_in hw hA) (fun r6 M6 H locs hP6 hw => ?_)
  obtain ⟨q6, rfl, hq6, rfl⟩ := hP6
  exact x_reta hQ hx hb hr hlk hw (by omega) (by omega) d_Ar_copyOf_9 ⟨q6, rfl, hq6, rfl⟩

set_option maxHeartbeats 4000000 in
set_option maxRecDepth 100000 in
theorem c_AL_growB {l : Launch} {E : Ev} {M : mp_M} {sz : Nat} {a0 ea n : Nat} {x0 x2 : Value} {ra : Nat → Nat} (he0 : M a0 = some (.inr (7, [x0, .ref ea, x2]))) (hea : M ea = some (arO E n n ra)) (h10 : 10 ≤ n) (hn : n < 512) (hel : ∀ i, i < n → ∃ fv, M (ra i) = some (.inr (5, fv))) : MCq l E y_AL_grow2 prog_18_method_6_code 4 (some (.array (.object "java/lang/Object"))) 3 104 1 800 [.ref a0, .int (nI (n + 1))] M sz (fun r M' => ∃ q, r = some q ∧ M q = none ∧ M' = mp_up (mp_up M q (arO E (n + n / 2) n ra)) a0 (.inr (7, [x0, .ref q, x2]))) := by
  refine mc_of R_AL rfl [some (.ref a0), some (.int (nI (n + 1))), none, none] (by decide) (Nat.le_of_ble_eq_true rfl) rfl ?_
  intro p e R s m ag below meth c ls Q A X hAe hQ hR hsz hw hl
  rw [← hAe] at hQ
  obtain ⟨⟨hx, hb, hml, hown, hts⟩, hE, hA, hr, hlk, hnm⟩ := X
  have hK := hE.1
  first | refine x_aload_n hx hb d_AL_grow2_0 hl rfl ?_ | refine x_aload_nQ hx hb d_AL_grow2_0 hl rfl ?_
  refine m_get hx hb hts hown hK hw ci_AL he0 1 (by decide) (wm1 45 rfl rfl) rfl d_AL_grow2_1 ?_
  refine va_alen hx hb hK (mp_one hw.1 hea) 0 3 rfl rfl (v := nI (n)) rfl d_AL_grow2_4 ?_
  refine x_istore_n hx hb d_AL_grow2_5 hl (Nat.le_of_ble_eq_true rfl) (lh_k (i := 1) rfl (by first | exact lk_n | exact lk_i | exact lk_r | exact lk_q | exact lk_0)) (fun ls hl => ?_)
  refine x_iload_n hx hb d_AL_grow2_6 hl rfl ?_
  refine x_if_gt hx hb d_AL_grow2_7 rfl (by omega) (fun h7 => ?_) (fun h7 => ?_)
  · refine x_iload_n hx hb d_AL_grow2_20 hl rfl ?_
    refine x_iload_n hx hb d_AL_grow2_21 hl rfl ?_
    refine x_iload_n hx hb d_AL_grow2_22 hl rfl ?_
    refine x_isub hx hb d_AL_grow2_23 (by omega) ?_
    rw [show n + 1 - n = 1 by omega]
    refine x_iload_n hx hb d_AL_grow2_24 hl rfl ?_
    refine lv_iconst (v := nI 1) hx hb d_AL_grow2_25 (by decide) ?_
    refine lv_ishr hx hb d_AL_grow2_26 ?_
    rw [shr_1 (by omega)]
    refine m_calli (k_S ⟨hx, hb, hml, hown, hts⟩ hE hA hw (c_AS_newLen (by omega) (by omega)) (wm2 200 rfl rfl) (wm2 201 rfl rfl) (wm1 16 rfl rfl) (wm2 202 rfl rfl) rfl rfl ar_AS_newLength ⟨Nat.le_trans (Nat.le_of_ble_eq_true rfl) hR.1, Nat.le_trans (Nat.le_of_ble_eq_true rfl) hR.2.1⟩ rfl hl.1 rfl (Nat.le_of_ble_eq_true rfl) d_AL_grow2_27 ⟨by omega, by omega⟩) hw (mfr_in hw hA) (fun r27 M27 H locs hP27 hw => ?_)
    obtain ⟨rfl, hM27⟩ := hP27
    rw [hM27] at hw
    refine x_istore_n hx hb d_AL_grow2_30 hl (Nat.le_of_ble_eq_true rfl) (lh_k (i := 2) rfl (by first | exact lk_n | exact lk_i | exact lk_r | exact lk_q | exact lk_0)) (fun ls hl => ?_)
    first | refine x_aload_n hx hb d_AL_grow2_31 hl rfl ?_ | refine x_aload_nQ hx hb d_AL_grow2_31 hl rfl ?_
    first | refine x_aload_n hx hb d_AL_grow2_32 hl rfl ?_ | refine x_aload_nQ hx hb d_AL_grow2_32 hl rfl ?_
    refine m_get hx hb hts hown hK hw ci_AL he0 1 (by decide) (wm1 45 rfl rfl) rfl d_AL_grow2_33 ?_
    refine x_iload_n hx hb d_AL_grow2_36 hl rfl ?_
    refine m_callq (k_S ⟨hx, hb, hml, hown, hts⟩ hE hA hw (c_Ar_copy2 hea (by omega) (by omega) (fun i hi y hy => by rw [if_pos hi] at hy; cases hy; exact hel i hi)) (wm2 208 rfl rfl) (wm2 209 rfl rfl) (wm1 17 rfl rfl) (wm2 210 rfl rfl) rfl rfl ar_Ar_copyOf ⟨Nat.le_trans (Nat.le_of_ble_eq_true rfl) hR.1, Nat.le_trans (Nat.le_of_ble_eq_true rfl) hR.2.1⟩ rfl hl.1 rfl (Nat.le_of_ble_eq_true rfl) d_AL_grow2_37 ⟨by omega, by omega⟩) hw (mfr_in hw hA) (fun r37 M37 H locs hP37 hw => ?_)
    obtain ⟨q37, rfl, hq37, hM37⟩ := hP37
    have he1 : M37 a0 = some (.inr (7, [x0, .ref ea, x2])) := by rw [hM37]; exact (mp_up_n (ne_of he0 hq37)).trans he0
    refine lv_dup_x1 hx hb d_AL_grow2_40 rfl rfl ?_
    refine m_put hx hb hts hown hK hw ci_AL he1 1 (by decide) (wm1 45 rfl rfl) rfl (by first | rfl | exact nar_bz | exact nar_q) (by first | rfl | exact fit_bz | exact fit_q) (Nat.le_of_ble_eq_true rfl) d_AL_grow2_41 (fun H locs hw => ?_)
    rw [hM37] at hw
    exact x_reta hQ hx hb hr hlk hw (by omega) (by omega) d_AL_grow2_44 ⟨q37, rfl, hq37, by rw [arO_cpy]; rfl⟩
  · exact absurd h7 (by omega)

set_option maxHeartbeats 4000000 in
set_option maxRecDepth 100000 in
theorem c_AL_growC {l : Launch} {E : Ev} {M : mp_M} {sz : Nat} {a0 : Nat} {x0 x2 : Value} {ra : Nat → Nat} (he0 : M a0 = some (.inr (7, [x0, .ref E.2.2, x2]))) : MCq l E y_AL_grow2 prog_18_method_6_code 4 (some (.array (.object "java/lang/Object"))) 3 104 1 800 [.ref a0, .int (nI 1)] M sz (fun r M' => ∃ q, r = some q ∧ M q = none ∧ M' = mp_up (mp_up M q (arO E 10 0 ra)) a0 (.inr (7, [x0, .ref q, x2]))) := by
  refine mc_of R_AL rfl [some (.ref a0), some (.int (nI 1)), none, none] (by decide) (Nat.le_of_ble_eq_true rfl) rfl ?_
  intro p e R s m ag below meth c ls Q A X hAe hQ hR hsz hw hl
  rw [← hAe] at hQ
  obtain ⟨⟨hx, hb, hml, hown, hts⟩, hE, hA, hr, hlk, hnm⟩ := X
  have hK := hE.1
  first | refine x_aload_n hx hb d_AL_grow2_0 hl rfl ?_ | refine x_aload_nQ hx hb d_AL_grow2_0 hl rfl ?_
  refine m_get hx hb hts hown hK hw ci_AL he0 1 (by decide) (wm1 45 rfl rfl) rfl d_AL_grow2_1 ?_
  refine va_tlen hx hb hE.2.2.2 hw.2.2 (v := nI 0) rfl d_AL_grow2_4 ?_
  refine x_istore_n hx hb d_AL_grow2_5 hl (Nat.le_of_ble_eq_true rfl) (lh_k (i := 1) rfl (by first | exact lk_n | exact lk_i | exact lk_r | exact lk_q | exact lk_0)) (fun ls hl => ?_)
  refine x_iload_n hx hb d_AL_grow2_6 hl rfl ?_
  refine x_if_gt hx hb d_AL_grow2_7 rfl (by omega) (fun h7 => ?_) (fun h7 => ?_)
  · exact absurd h7 (by omega)
  · first | refine x_aload_n hx hb d_AL_grow2_10 hl rfl ?_ | refine x_aload_nQ hx hb d_AL_grow2_10 hl rfl ?_
    refine m_get hx hb hts hown hK hw ci_AL he0 1 (by decide) (wm1 45 rfl rfl) rfl d_AL_grow2_11 ?_
    refine va_gets hx hb hE.2.2.1 hw.2.2 hown (hts _ (wm1 43 rfl rfl)) (fun _ h => h) d_AL_grow2_14 ?_
    refine W.eq (g2 := F0 m 17 ls [va_rf (some E.2.2), va_rf (some E.2.2)]) rfl ?_
    refine lv_acmp_eq hx hb d_AL_grow2_17 rfl (fun _ => ?_) (fun h => absurd rfl h)
    first | refine x_aload_n hx hb d_AL_grow2_45 hl rfl ?_ | refine x_aload_nQ hx hb d_AL_grow2_45 hl rfl ?_
    refine lv_bipush (v := nI 10) hx hb d_AL_grow2_46 (by decide) ?_
    refine x_iload_n hx hb d_AL_grow2_48 hl rfl ?_
    refine va_mmax hx hb (hml.trans hl.1.symm) hown (hts _ (wm2 236 rfl rfl)) (hts _ (wm2 30 rfl rfl)) (hts _ (wm1 11 rfl rfl)) (hts _ (wm2 31 rfl rfl)) (Nat.le_trans (Nat.le_of_ble_eq_true rfl) hR.1) (Nat.le_trans (Nat.le_of_ble_eq_true rfl) hR.2.1) (by omega) (by omega) d_AL_grow2_49 ?_
    rw [mx (by omega) (by omega)]
    rw [show (if 10 < 1 then 1 else 10) = 10 from rfl]
    refine m_newq hx hb hts hown (wm2 237 rfl rfl) hE.2.1.2.1.2.2.2 hK hw hA 3 rfl (by omega) (by omega) (by omega) d_AL_grow2_52 (fun q1 H hq52 hw => ?_)
    have he1 := (mp_up_n (M := M) (e := .inl (E.2.1 3, 10, .inr (.inr (.inr (.inr (fun _ => none)))))) (ne_of he0 hq52)).trans he0
    refine lv_dup_x1 hx hb d_AL_grow2_55 rfl rfl ?_
    refine m_put hx hb hts hown hK hw ci_AL he1 1 (by decide) (wm1 45 rfl rfl) rfl (by first | rfl | exact nar_bz | exact nar_q) (by first | rfl | exact fit_bz | exact fit_q) (Nat.le_of_ble_eq_true rfl) d_AL_grow2_56 (fun H locs hw => ?_)
    exact x_reta hQ hx hb hr hlk hw (by omega) (by omega) d_AL_grow2_59 ⟨q1, rfl, hq52, by rw [arO_z]; rfl⟩

set_option maxHeartbeats 4000000 in
set_option maxRecDepth 100000 in
theorem c_AL_grow0B {l : Launch} {E : Ev} {M : mp_M} {sz : Nat} {a0 ea n : Nat} {x0 : Value} {ra : Nat → Nat} (he0 : M a0 = some (.inr (7, [x0, .ref ea, .int (nI n)]))) (hea : M ea = some (arO E n n ra)) (h10 : 10 ≤ n) (hn : n < 512) (hel : ∀ i, i < n → ∃ fv, M (ra i) = some (.inr (5, fv))) : MCq l E y_AL_grow prog_18_method_7_code 1 (some (.array (.object "java/lang/Object"))) 4 127 1 800 [.ref a0] M sz (fun r M' => ∃ q, r = some q ∧ M q = none ∧ M' = mp_up (mp_up M q (arO E (n + n / 2) n ra)) a0 (.inr (7, [x0, .ref q, .int (nI n)]))) := by
  refine mc_of R_AL rfl [some (.ref a0)] (by decide) (Nat.le_of_ble_eq_true rfl) rfl ?_
  intro p e R s m ag below meth c ls Q A X hAe hQ hR hsz hw hl
  rw [← hAe] at hQ
  obtain ⟨⟨hx, hb, hml, hown, hts⟩, hE, hA, hr, hlk, hnm⟩ := X
  have hK := hE.1
  first | refine x_aload_n hx hb d_AL_grow_0 hl rfl ?_ | refine x_aload_nQ hx hb d_AL_grow_0 hl rfl ?_
  first | refine x_aload_n hx hb d_AL_grow_1 hl rfl ?_ | refine x_aload_nQ hx hb d_AL_grow_1 hl rfl ?_
  refine m_get hx hb hts hown hK hw ci_AL he0 2 (by decide) (wm1 46 rfl rfl) rfl d_AL_grow_2 ?_
  refine lv_iconst (v := nI 1) hx hb d_AL_grow_5 (by decide) ?_
  first | refine x_iadd hx hb d_AL_grow_6 ?_ | refine lv_iadd hx hb d_AL_grow_6 ?_
  refine m_callq (k_V ⟨hx, hb, hml, hown, hts⟩ hE hA hw (c_AL_growB he0 hea h10 hn hel) (ci_AL).1 rfl he0 (wm2 196 rfl rfl) (wm2 198 rfl rfl) (wmp2 0 rfl) (wm1 4 rfl rfl) (wm2 199 rfl rfl) rfl rfl ar_AL_grow2 ⟨Nat.le_trans (Nat.le_of_ble_eq_true rfl) hR.1, Nat.le_trans (Nat.le_of_ble_eq_true rfl) hR.2.1⟩ rfl hl.1 rfl (Nat.le_of_ble_eq_true rfl) d_AL_grow_7 ⟨by omega, by omega⟩) hw (mfr_in hw hA) (fun r7 M7 H locs hP7 hw => ?_)
  obtain ⟨q7, rfl, hq7, hM7⟩ := hP7
  exact x_reta hQ hx hb hr hlk hw (by omega) (by omega) d_AL_grow_10 ⟨q7, rfl, hq7, hM7⟩

set_option maxHeartbeats 4000000 in
set_option maxRecDepth 100000 in
theorem c_AL_grow0C {l : Launch} {E : Ev} {M : mp_M} {sz : Nat} {a0 : Nat} {x0 : Value} {ra : Nat → Nat} (he0 : M a0 = some (.inr (7, [x0, .ref E.2.2, .int (nI 0)]))) : MCq l E y_AL_grow prog_18_method_7_code 1 (some (.array (.object "java/lang/Object"))) 4 127 1 800 [.ref a0] M sz (fun r M' => ∃ q, r = some q ∧ M q = none ∧ M' = mp_up (mp_up M q (arO E 10 0 ra)) a0 (.inr (7, [x0, .ref q, .int (nI 0)]))) := by
  refine mc_of R_AL rfl [some (.ref a0)] (by decide) (Nat.le_of_ble_eq_true rfl) rfl ?_
  intro p e R s m ag below meth c ls Q A X hAe hQ hR hsz hw hl
  rw [← hAe] at hQ
  obtain ⟨⟨hx, hb, hml, hown, hts⟩, hE, hA, hr, hlk, hnm⟩ := X
  have hK := hE.1
  first | refine x_aload_n hx hb d_AL_grow_0 hl rfl ?_ | refine x_aload_nQ hx hb d_AL_grow_0 hl rfl ?_
  first | refine x_aload_n hx hb d_AL_grow_1 hl rfl ?_ | refine x_aload_nQ hx hb d_AL_grow_1 hl rfl ?_
  refine m_get hx hb hts hown hK hw ci_AL he0 2 (by decide) (wm1 46 rfl rfl) rfl d_AL_grow_2 ?_
  refine lv_iconst (v := nI 1) hx hb d_AL_grow_5 (by decide) ?_
  first | refine x_iadd hx hb d_AL_grow_6 ?_ | refine lv_iadd hx hb d_AL_grow_6 ?_
  refine m_callq (k_V ⟨hx, hb, hml, hown, hts⟩ hE hA hw (c_AL_growC (ra := ra) he0) (ci_AL).1 rfl he0 (wm2 196 rfl rfl) (wm2 198 rfl rfl) (wmp2 0 rfl) (wm1 4 rfl rfl) (wm2 199 rfl rfl) rfl rfl ar_AL_grow2 ⟨Nat.le_trans (Nat.le_of_ble_eq_true rfl) hR.1, Nat.le_trans (Nat.le_of_ble_eq_true rfl) hR.2.1⟩ rfl hl.1 rfl (Nat.le_of_ble_eq_true rfl) d_AL_grow_7 ⟨by omega, by omega⟩) hw (mfr_in hw hA) (fun r7 M7 H locs hP7 hw => ?_)
  obtain ⟨q7, rfl, hq7, hM7⟩ := hP7
  exact x_reta hQ hx hb hr hlk hw (by omega) (by omega) d_AL_grow_10 ⟨q7, rfl, hq7, hM7⟩

set_option maxHeartbeats 4000000 in
set_option maxRecDepth 100000 in
theorem c_AL_add3A {l : Launch} {E : Ev} {M : mp_M} {sz : Nat} {a0 ea cap n v : Nat} {mcn : Int32} {ra : Nat → Nat} {fv : List Value} (he0 : M a0 = some (.inr (7, [.int mcn, .ref ea, .int (nI n)]))) (hv : M v = some (.inr (5, fv))) (hea : M ea = some (arO E cap n ra)) (h10 : 10 ≤ cap) (hcap : cap ≤ 800) (hlt : n < cap) : MCv l E y_AL_add2 prog_18_method_24_code 4 none 5 147 1 800 [.ref a0, .ref v, .ref ea, .int (nI n)] M sz (fun M' => AD E M a0 ea cap n ra v M') := by
  refine mc_of R_AL rfl [some (.ref a0), some (.ref v), some (.ref ea), some (.int (nI n))] (by decide) (Nat.le_of_ble_eq_true rfl) rfl ?_
  intro p e R s m ag below meth c ls Q A X hAe hQ hR hsz hw hl
  rw [← hAe] at hQ
  obtain ⟨⟨hx, hb, hml, hown, hts⟩, hE, hA, hr, hlk, hnm⟩ := X
  have hK := hE.1
  refine x_iload_n hx hb d_AL_add2_0 hl rfl ?_
  first | refine x_aload_n hx hb d_AL_add2_1 hl rfl ?_ | refine x_aload_nQ hx hb d_AL_add2_1 hl rfl ?_
  refine va_alen hx hb hK (mp_one hw.1 hea) 0 3 rfl rfl (v := nI (cap)) rfl d_AL_add2_2 ?_
  refine x_icmp_ne hx hb d_AL_add2_3 rfl (by omega) (by omega) (fun h3 => ?_) (fun h3 => ?_)
  · first | refine x_aload_n hx hb d_AL_add2_11 hl rfl ?_ | refine x_aload_nQ hx hb d_AL_add2_11 hl rfl ?_
    refine x_iload_n hx hb d_AL_add2_12 hl rfl ?_
    first | refine x_aload_n hx hb d_AL_add2_13 hl rfl ?_ | refine x_aload_nQ hx hb d_AL_add2_13 hl rfl ?_
    refine m_aastO hx hb hK hw 3 5 hea rfl hE.2.1.2.2.1.2 hv (ci_Rp).1 (by omega) (by omega) arO_up d_AL_add2_14 (fun H locs hw => ?_)
    have hne := ar_neO hea he0
    have he1 := (mp_up_n (M := M) (e := arO E cap (n + 1) (va_up ra n v)) hne).trans he0
    first | refine x_aload_n hx hb d_AL_add2_15 hl rfl ?_ | refine x_aload_nQ hx hb d_AL_add2_15 hl rfl ?_
    refine x_iload_n hx hb d_AL_add2_16 hl rfl ?_
    refine lv_iconst (v := nI 1) hx hb d_AL_add2_17 (by decide) ?_
    first | refine x_iadd hx hb d_AL_add2_18 ?_ | refine lv_iadd hx hb d_AL_add2_18 ?_
    refine m_put hx hb hts hown hK hw ci_AL he1 2 (by decide) (wm1 46 rfl rfl) rfl (by first | rfl | exact nar_bz | exact nar_q) (by first | rfl | exact fit_bz | exact fit_q) (Nat.le_of_ble_eq_true rfl) d_AL_add2_19 (fun H locs hw => ?_)
    exact x_retv hQ hx hb hr hlk hw (by omega) (by omega) d_AL_add2_22 (ad_A he0 hea h10 hcap hlt)
  · exact absurd h3 (by omega)

set_option maxHeartbeats 4000000 in
set_option maxRecDepth 100000 in
theorem c_AL_add3B {l : Launch} {E : Ev} {M : mp_M} {sz : Nat} {a0 ea cap n v : Nat} {mcn : Int32} {ra : Nat → Nat} {fv : List Value} (he0 : M a0 = some (.inr (7, [.int mcn, .ref ea, .int (nI n)]))) (hv : M v = some (.inr (5, fv))) (hcn : cap = n) (hea : M ea = some (arO E n n ra)) (h10 : 10 ≤ n) (hn : n < 512) (hel : ∀ i, i < n → ∃ fv, M (ra i) = some (.inr (5, fv))) : MCv l E y_AL_add2 prog_18_method_24_code 4 none 5 147 1 800 [.ref a0, .ref v, .ref ea, .int (nI n)] M sz (fun M' => AD E M a0 ea cap n ra v M') := by
  refine mc_of R_AL rfl [some (.ref a0), some (.ref v), some (.ref ea), some (.int (nI n))] (by decide) (Nat.le_of_ble_eq_true rfl) rfl ?_
  intro p e R s m ag below meth c ls Q A X hAe hQ hR hsz hw hl
  rw [← hAe] at hQ
  obtain ⟨⟨hx, hb, hml, hown, hts⟩, hE, hA, hr, hlk, hnm⟩ := X
  have hK := hE.1
  refine x_iload_n hx hb d_AL_add2_0 hl rfl ?_
  first | refine x_aload_n hx hb d_AL_add2_1 hl rfl ?_ | refine x_aload_nQ hx hb d_AL_add2_1 hl rfl ?_
  refine va_alen hx hb hK (mp_one hw.1 hea) 0 3 rfl rfl (v := nI (n)) rfl d_AL_add2_2 ?_
  refine x_icmp_ne hx hb d_AL_add2_3 rfl (by omega) (by omega) (fun h3 => ?_) (fun h3 => ?_)
  · exact absurd h3 (by omega)
  · first | refine x_aload_n hx hb d_AL_add2_6 hl rfl ?_ | refine x_aload_nQ hx hb d_AL_add2_6 hl rfl ?_
    refine m_callq (k_V ⟨hx, hb, hml, hown, hts⟩ hE hA hw (c_AL_grow0B he0 hea h10 hn hel) (ci_AL).1 rfl he0 (wm2 192 rfl rfl) (wm2 194 rfl rfl) (wmp1 15 rfl) (wm1 4 rfl rfl) (wm2 195 rfl rfl) rfl rfl ar_AL_grow ⟨Nat.le_trans (Nat.le_of_ble_eq_true rfl) hR.1, Nat.le_trans (Nat.le_of_ble_eq_true rfl) hR.2.1⟩ rfl hl.1 rfl (Nat.le_of_ble_eq_true rfl) d_AL_add2_7 ⟨by omega, by omega⟩) hw (mfr_in hw hA) (fun r7 M7 H locs hP7 hw => ?_)
    obtain ⟨q7, rfl, hq7, hM7⟩ := hP7
    have hq0 := ne_of he0 hq7
    have heq : M7 q7 = some (arO E (n + n / 2) n ra) := by rw [hM7]; exact (mp_up_n (fun z => hq0 z.symm)).trans mp_up_s
    have hv7 : M7 v = some (.inr (5, fv)) := by rw [hM7]; exact ad_v he0 hv hq7
    have he7 : M7 a0 = some (.inr (7, [.int mcn, .ref q7, .int (nI n)])) := by rw [hM7]; exact mp_up_s
    first | refine x_astore_n hx hb d_AL_add2_10 hl (Nat.le_of_ble_eq_true rfl) (lh_k (i := 1) rfl (by first | exact lk_n | exact lk_i | exact lk_r | exact lk_q | exact lk_0)) (fun ls hl => ?_) | refine x_astore_nQ hx hb d_AL_add2_10 hl (Nat.le_of_ble_eq_true rfl) (lh_k (i := 1) rfl (by first | exact lk_n | exact lk_i | exact lk_r | exact lk_q | exact lk_0)) (fun ls hl => ?_)
    first | refine x_aload_n hx hb d_AL_add2_11 hl rfl ?_ | refine x_aload_nQ hx hb d_AL_add2_11 hl rfl ?_
    refine x_iload_n hx hb d_AL_add2_12 hl rfl ?_
    first | refine x_aload_n hx hb d_AL_add2_13 hl rfl ?_ | refine x_aload_nQ hx hb d_AL_add2_13 hl rfl ?_
    refine m_aastO hx hb hK hw 3 5 heq rfl hE.2.1.2.2.1.2 hv7 (ci_Rp).1 (by omega) (by omega) arO_up d_AL_add2_14 (fun H locs hw => ?_)
    have he1 := (mp_up_n (M := M7) (e := arO E (n + n / 2) (n + 1) (va_up ra n v)) hq0).trans he7
    first | refine x_aload_n hx hb d_AL_add2_15 hl rfl ?_ | refine x_aload_nQ hx hb d_AL_add2_15 hl rfl ?_
    refine x_iload_n hx hb d_AL_add2_16 hl rfl ?_
    refine lv_iconst (v := nI 1) hx hb d_AL_add2_17 (by decide) ?_
    first | refine x_iadd hx hb d_AL_add2_18 ?_ | refine lv_iadd hx hb d_AL_add2_18 ?_
    refine m_put hx hb hts hown hK hw ci_AL he1 2 (by decide) (wm1 46 rfl rfl) rfl (by first | rfl | exact nar_bz | exact nar_q) (by first | rfl | exact fit_bz | exact fit_q) (Nat.le_of_ble_eq_true rfl) d_AL_add2_19 (fun H locs hw => ?_)
    exact x_retv hQ hx hb hr hlk hw (by omega) (by omega) d_AL_add2_22 (ad_B (cap := cap) (by omega) he0 hq7 hM7 h10 hn)

set_option maxHeartbeats 4000000 in
set_option maxRecDepth 100000 in
theorem c_AL_add3C {l : Launch} {E : Ev} {M : mp_M} {sz : Nat} {a0 ea cap n v : Nat} {mcn : Int32} {ra : Nat → Nat} {fv : List Value} (he0 : M a0 = some (.inr (7, [.int mcn, .ref ea, .int (nI n)]))) (hv : M v = some (.inr (5, fv))) (hn0 : n = 0) (hz : ea = E.2.2) (hc0 : cap = 0) : MCv l E y_AL_add2 prog_18_method_24_code 4 none 5 147 1 800 [.ref a0, .ref v, .ref ea, .int (nI n)] M sz (fun M' => AD E M a0 ea cap n ra v M') := by
  refine mc_of R_AL rfl [some (.ref a0), some (.ref v), some (.ref ea), some (.int (nI n))] (by decide) (Nat.le_of_ble_eq_true rfl) rfl ?_
  intro p e R s m ag below meth c ls Q A X hAe hQ hR hsz hw hl
  rw [← hAe] at hQ
  obtain ⟨⟨hx, hb, hml, hown, hts⟩, hE, hA, hr, hlk, hnm⟩ := X
  have hK := hE.1
  subst hn0 hz hc0
  refine x_iload_n hx hb d_AL_add2_0 hl rfl ?_
  first | refine x_aload_n hx hb d_AL_add2_1 hl rfl ?_ | refine x_aload_nQ hx hb d_AL_add2_1 hl rfl ?_
  refine va_tlen hx hb hE.2.2.2 hw.2.2 (v := nI 0) rfl d_AL_add2_2 ?_
  refine x_icmp_ne hx hb d_AL_add2_3 rfl (by omega) (by omega) (fun h3 => ?_) (fun h3 => ?_)
  · exact absurd h3 (by omega)
  · first | refine x_aload_n hx hb d_AL_add2_6 hl rfl ?_ | refine x_aload_nQ hx hb d_AL_add2_6 hl rfl ?_
    refine m_callq (k_V ⟨hx, hb, hml, hown, hts⟩ hE hA hw (c_AL_grow0C (ra := ra) he0) (ci_AL).1 rfl he0 (wm2 192 rfl rfl) (wm2 194 rfl rfl) (wmp1 15 rfl) (wm1 4 rfl rfl) (wm2 195 rfl rfl) rfl rfl ar_AL_grow ⟨Nat.le_trans (Nat.le_of_ble_eq_true rfl) hR.1, Nat.le_trans (Nat.le_of_ble_eq_true rfl) hR.2.1⟩ rfl hl.1 rfl (Nat.le_of_ble_eq_true rfl) d_AL_add2_7 ⟨by omega, by omega⟩) hw (mfr_in hw hA) (fun r7 M7 H locs hP7 hw => ?_)
    obtain ⟨q7, rfl, hq7, hM7⟩ := hP7
    have hq0 := ne_of he0 hq7
    have heq : M7 q7 = some (arO E 10 0 ra) := by rw [hM7]; exact (mp_up_n (fun z => hq0 z.symm)).trans mp_up_s
    have hv7 : M7 v = some (.inr (5, fv)) := by rw [hM7]; exact ad_v he0 hv hq7
    have he7 : M7 a0 = some (.inr (7, [.int mcn, .ref q7, .int (nI 0)])) := by rw [hM7]; exact mp_up_s
    first | refine x_astore_n hx hb d_AL_add2_10 hl (Nat.le_of_ble_eq_true rfl) (lh_k (i := 1) rfl (by first | exact lk_n | exact lk_i | exact lk_r | exact lk_q | exact lk_0)) (fun ls hl => ?_) | refine x_astore_nQ hx hb d_AL_add2_10 hl (Nat.le_of_ble_eq_true rfl) (lh_k (i := 1) rfl (by first | exact lk_n | exact lk_i | exact lk_r | exact lk_q | exact lk_0)) (fun ls hl => ?_)
    first | refine x_aload_n hx hb d_AL_add2_11 hl rfl ?_ | refine x_aload_nQ hx hb d_AL_add2_11 hl rfl ?_
    refine x_iload_n hx hb d_AL_add2_12 hl rfl ?_
    first | refine x_aload_n hx hb d_AL_add2_13 hl rfl ?_ | refine x_aload_nQ hx hb d_AL_add2_13 hl rfl ?_
    refine m_aastO hx hb hK hw 3 5 heq rfl hE.2.1.2.2.1.2 hv7 (ci_Rp).1 (by omega) (by omega) arO_up d_AL_add2_14 (fun H locs hw => ?_)
    have he1 := (mp_up_n (M := M7) (e := arO E 10 1 (va_up ra 0 v)) hq0).trans he7
    first | refine x_aload_n hx hb d_AL_add2_15 hl rfl ?_ | refine x_aload_nQ hx hb d_AL_add2_15 hl rfl ?_
    refine x_iload_n hx hb d_AL_add2_16 hl rfl ?_
    refine lv_iconst (v := nI 1) hx hb d_AL_add2_17 (by decide) ?_
    first | refine x_iadd hx hb d_AL_add2_18 ?_ | refine lv_iadd hx hb d_AL_add2_18 ?_
    refine m_put hx hb hts hown hK hw ci_AL he1 2 (by decide) (wm1 46 rfl rfl) rfl (by first | rfl | exact nar_bz | exact nar_q) (by first | rfl | exact fit_bz | exact fit_q) (Nat.le_of_ble_eq_true rfl) d_AL_add2_19 (fun H locs hw => ?_)
    exact x_retv hQ hx hb hr hlk hw (by omega) (by omega) d_AL_add2_22 (ad_C he0 hq7 hM7)

set_option maxHeartbeats 4000000 in
set_option maxRecDepth 100000 in
theorem c_AL_addA {l : Launch} {E : Ev} {M : mp_M} {sz : Nat} {a0 ea cap n v : Nat} {mcn : Int32} {ra : Nat → Nat} {fv : List Value} (he0 : M a0 = some (.inr (7, [.int mcn, .ref ea, .int (nI n)]))) (hv : M v = some (.inr (5, fv))) (hea : M ea = some (arO E cap n ra)) (h10 : 10 ≤ cap) (hcap : cap ≤ 800) (hlt : n < cap) : MCi l E y_AL_add prog_18_method_25_code 2 (some .boolean) 6 170 1 800 [.ref a0, .ref v] M sz (fun r M' => r = nI 1 ∧ AD E M a0 ea cap n ra v M') := by
  refine mc_of R_AL rfl [some (.ref a0), some (.ref v)] (by decide) (Nat.le_of_ble_eq_true rfl) rfl ?_
  intro p e R s m ag below meth c ls Q A X hAe hQ hR hsz hw hl
  rw [← hAe] at hQ
  obtain ⟨⟨hx, hb, hml, hown, hts⟩, hE, hA, hr, hlk, hnm⟩ := X
  have hK := hE.1
  first | refine x_aload_n hx hb d_AL_add_0 hl rfl ?_ | refine x_aload_nQ hx hb d_AL_add_0 hl rfl ?_
  first | refine lv_dup hx hb d_AL_add_1 rfl ?_ | refine lv_dup hx hb d_AL_add_1 (va_rf_c _) ?_
  refine m_getU hx hb hts hown hK hw ci_AL he0 0 (by decide) (wm1 48 rfl rfl) (wm1 49 rfl rfl) rfl d_AL_add_2 ?_
  refine lv_iconst (v := nI 1) hx hb d_AL_add_5 (by decide) ?_
  refine lv_iadd hx hb d_AL_add_6 ?_
  refine m_putU hx hb hts hown hK hw ci_AL he0 0 (by decide) (wm1 48 rfl rfl) (wm1 49 rfl rfl) rfl rfl rfl (Nat.le_of_ble_eq_true rfl) d_AL_add_7 (fun H locs hw => ?_)
  have he1 : mp_up M a0 (.inr (7, [.int (mcn + nI 1), .ref ea, .int (nI n)])) a0 = some (.inr (7, [.int (mcn + nI 1), .ref ea, .int (nI n)])) := mp_up_s
  have hv1 : mp_up M a0 (.inr (7, [.int (mcn + nI 1), .ref ea, .int (nI n)])) v = some (.inr (5, fv)) := av_up (av_i (ks := [5]) he0 (by decide)) hv (by simp [kd])
  have hw : mw E.1 vwCl A s.heap (mp_up M a0 (.inr (7, [.int (mcn + nI 1), .ref ea, .int (nI n)]))) H locs := hw
  first | refine x_aload_n hx hb d_AL_add_10 hl rfl ?_ | refine x_aload_nQ hx hb d_AL_add_10 hl rfl ?_
  first | refine x_aload_n hx hb d_AL_add_11 hl rfl ?_ | refine x_aload_nQ hx hb d_AL_add_11 hl rfl ?_
  first | refine x_aload_n hx hb d_AL_add_12 hl rfl ?_ | refine x_aload_nQ hx hb d_AL_add_12 hl rfl ?_
  refine m_get hx hb hts hown hK hw ci_AL he1 1 (by decide) (wm1 45 rfl rfl) rfl d_AL_add_13 ?_
  first | refine x_aload_n hx hb d_AL_add_16 hl rfl ?_ | refine x_aload_nQ hx hb d_AL_add_16 hl rfl ?_
  refine m_get hx hb hts hown hK hw ci_AL he1 2 (by decide) (wm1 46 rfl rfl) rfl d_AL_add_17 ?_
  refine m_callv (k_V ⟨hx, hb, hml, hown, hts⟩ hE hA hw (c_AL_add3A he1 hv1 ((mp_up_n (ar_neO2 hea he0)).trans hea) h10 hcap hlt) (ci_AL).1 rfl he1 (wm2 188 rfl rfl) (wm2 190 rfl rfl) (wmp1 14 rfl) (wm1 4 rfl rfl) (wm2 191 rfl rfl) rfl rfl ar_AL_add2 ⟨Nat.le_trans (Nat.le_of_ble_eq_true rfl) hR.1, Nat.le_trans (Nat.le_of_ble_eq_true rfl) hR.2.1⟩ rfl hl.1 rfl (Nat.le_of_ble_eq_true rfl) d_AL_add_20 ⟨by omega, by omega⟩) hw (mfr_in hw hA) (fun M20 H locs hP20 hw => ?_)
  refine lv_iconst (v := nI 1) hx hb d_AL_add_23 (by decide) ?_
  exact x_reti hQ hx hb hr hlk (by first | exact nar_bz | decide) hw (by omega) (by omega) d_AL_add_24 (⟨rfl, ad_lift he0 hP20⟩)

set_option maxHeartbeats 4000000 in
set_option maxRecDepth 100000 in
theorem c_AL_addB {l : Launch} {E : Ev} {M : mp_M} {sz : Nat} {a0 ea cap n v : Nat} {mcn : Int32} {ra : Nat → Nat} {fv : List Value} (he0 : M a0 = some (.inr (7, [.int mcn, .ref ea, .int (nI n)]))) (hv : M v = some (.inr (5, fv))) (hcn : cap = n) (hea : M ea = some (arO E n n ra)) (h10 : 10 ≤ n) (hn : n < 512) (hel : ∀ i, i < n → ∃ fv, M (ra i) = some (.inr (5, fv))) : MCi l E y_AL_add prog_18_method_25_code 2 (some .boolean) 6 170 1 800 [.ref a0, .ref v] M sz (fun r M' => r = nI 1 ∧ AD E M a0 ea cap n ra v M') := by
  refine mc_of R_AL rfl [some (.ref a0), some (.ref v)] (by decide) (Nat.le_of_ble_eq_true rfl) rfl ?_
  intro p e R s m ag below meth c ls Q A X hAe hQ hR hsz hw hl
  rw [← hAe] at hQ
  obtain ⟨⟨hx, hb, hml, hown, hts⟩, hE, hA, hr, hlk, hnm⟩ := X
  have hK := hE.1
  first | refine x_aload_n hx hb d_AL_add_0 hl rfl ?_ | refine x_aload_nQ hx hb d_AL_add_0 hl rfl ?_
  first | refine lv_dup hx hb d_AL_add_1 rfl ?_ | refine lv_dup hx hb d_AL_add_1 (va_rf_c _) ?_
  refine m_getU hx hb hts hown hK hw ci_AL he0 0 (by decide) (wm1 48 rfl rfl) (wm1 49 rfl rfl) rfl d_AL_add_2 ?_
  refine lv_iconst (v := nI 1) hx hb d_AL_add_5 (by decide) ?_
  refine lv_iadd hx hb d_AL_add_6 ?_
  refine m_putU hx hb hts hown hK hw ci_AL he0 0 (by decide) (wm1 48 rfl rfl) (wm1 49 rfl rfl) rfl rfl rfl (Nat.le_of_ble_eq_true rfl) d_AL_add_7 (fun H locs hw => ?_)
  have he1 : mp_up M a0 (.inr (7, [.int (mcn + nI 1), .ref ea, .int (nI n)])) a0 = some (.inr (7, [.int (mcn + nI 1), .ref ea, .int (nI n)])) := mp_up_s
  have hv1 : mp_up M a0 (.inr (7, [.int (mcn + nI 1), .ref ea, .int (nI n)])) v = some (.inr (5, fv)) := av_up (av_i (ks := [5]) he0 (by decide)) hv (by simp [kd])
  have hw : mw E.1 vwCl A s.heap (mp_up M a0 (.inr (7, [.int (mcn + nI 1), .ref ea, .int (nI n)]))) H locs := hw
  first | refine x_aload_n hx hb d_AL_add_10 hl rfl ?_ | refine x_aload_nQ hx hb d_AL_add_10 hl rfl ?_
  first | refine x_aload_n hx hb d_AL_add_11 hl rfl ?_ | refine x_aload_nQ hx hb d_AL_add_11 hl rfl ?_
  first | refine x_aload_n hx hb d_AL_add_12 hl rfl ?_ | refine x_aload_nQ hx hb d_AL_add_12 hl rfl ?_
  refine m_get hx hb hts hown hK hw ci_AL he1 1 (by decide) (wm1 45 rfl rfl) rfl d_AL_add_13 ?_
  first | refine x_aload_n hx hb d_AL_add_16 hl rfl ?_ | refine x_aload_nQ hx hb d_AL_add_16 hl rfl ?_
  refine m_get hx hb hts hown hK hw ci_AL he1 2 (by decide) (wm1 46 rfl rfl) rfl d_AL_add_17 ?_
  refine m_callv (k_V ⟨hx, hb, hml, hown, hts⟩ hE hA hw (c_AL_add3B he1 hv1 hcn ((mp_up_n (ar_neO2 hea he0)).trans hea) h10 hn (fun i hi => by obtain ⟨fv, h9⟩ := hel i hi; exact ⟨fv, av_up (av_i (ks := [5]) he0 (by decide)) h9 (by simp [kd])⟩)) (ci_AL).1 rfl he1 (wm2 188 rfl rfl) (wm2 190 rfl rfl) (wmp1 14 rfl) (wm1 4 rfl rfl) (wm2 191 rfl rfl) rfl rfl ar_AL_add2 ⟨Nat.le_trans (Nat.le_of_ble_eq_true rfl) hR.1, Nat.le_trans (Nat.le_of_ble_eq_true rfl) hR.2.1⟩ rfl hl.1 rfl (Nat.le_of_ble_eq_true rfl) d_AL_add_20 ⟨by omega, by omega⟩) hw (mfr_in hw hA) (fun M20 H locs hP20 hw => ?_)
  refine lv_iconst (v := nI 1) hx hb d_AL_add_23 (by decide) ?_
  exact x_reti hQ hx hb hr hlk (by first | exact nar_bz | decide) hw (by omega) (by omega) d_AL_add_24 (⟨rfl, ad_lift he0 hP20⟩)

set_option maxHeartbeats 4000000 in
set_option maxRecDepth 100000 in
theorem c_AL_addC {l : Launch} {E : Ev} {M : mp_M} {sz : Nat} {a0 ea cap n v : Nat} {mcn : Int32} {ra : Nat → Nat} {fv : List Value} (he0 : M a0 = some (.inr (7, [.int mcn, .ref ea, .int (nI n)]))) (hv : M v = some (.inr (5, fv))) (hn0 : n = 0) (hz : ea = E.2.2) (hc0 : cap = 0) : MCi l E y_AL_add prog_18_method_25_code 2 (some .boolean) 6 170 1 800 [.ref a0, .ref v] M sz (fun r M' => r = nI 1 ∧ AD E M a0 ea cap n ra v M') := by
  refine mc_of R_AL rfl [some (.ref a0), some (.ref v)] (by decide) (Nat.le_of_ble_eq_true rfl) rfl ?_
  intro p e R s m ag below meth c ls Q A X hAe hQ hR hsz hw hl
  rw [← hAe] at hQ
  obtain ⟨⟨hx, hb, hml, hown, hts⟩, hE, hA, hr, hlk, hnm⟩ := X
  have hK := hE.1
  first | refine x_aload_n hx hb d_AL_add_0 hl rfl ?_ | refine x_aload_nQ hx hb d_AL_add_0 hl rfl ?_
  first | refine lv_dup hx hb d_AL_add_1 rfl ?_ | refine lv_dup hx hb d_AL_add_1 (va_rf_c _) ?_
  refine m_getU hx hb hts hown hK hw ci_AL he0 0 (by decide) (wm1 48 rfl rfl) (wm1 49 rfl rfl) rfl d_AL_add_2 ?_
  refine lv_iconst (v := nI 1) hx hb d_AL_add_5 (by decide) ?_
  refine lv_iadd hx hb d_AL_add_6 ?_
  refine m_putU hx hb hts hown hK hw ci_AL he0 0 (by decide) (wm1 48 rfl rfl) (wm1 49 rfl rfl) rfl rfl rfl (Nat.le_of_ble_eq_true rfl) d_AL_add_7 (fun H locs hw => ?_)
  have he1 : mp_up M a0 (.inr (7, [.int (mcn + nI 1), .ref ea, .int (nI n)])) a0 = some (.inr (7, [.int (mcn + nI 1), .ref ea, .int (nI n)])) := mp_up_s
  have hv1 : mp_up M a0 (.inr (7, [.int (mcn + nI 1), .ref ea, .int (nI n)])) v = some (.inr (5, fv)) := av_up (av_i (ks := [5]) he0 (by decide)) hv (by simp [kd])
  have hw : mw E.1 vwCl A s.heap (mp_up M a0 (.inr (7, [.int (mcn + nI 1), .ref ea, .int (nI n)]))) H locs := hw
  first | refine x_aload_n hx hb d_AL_add_10 hl rfl ?_ | refine x_aload_nQ hx hb d_AL_add_10 hl rfl ?_
  first | refine x_aload_n hx hb d_AL_add_11 hl rfl ?_ | refine x_aload_nQ hx hb d_AL_add_11 hl rfl ?_
  first | refine x_aload_n hx hb d_AL_add_12 hl rfl ?_ | refine x_aload_nQ hx hb d_AL_add_12 hl rfl ?_
  refine m_get hx hb hts hown hK hw ci_AL he1 1 (by decide) (wm1 45 rfl rfl) rfl d_AL_add_13 ?_
  first | refine x_aload_n hx hb d_AL_add_16 hl rfl ?_ | refine x_aload_nQ hx hb d_AL_add_16 hl rfl ?_
  refine m_get hx hb hts hown hK hw ci_AL he1 2 (by decide) (wm1 46 rfl rfl) rfl d_AL_add_17 ?_
  refine m_callv (k_V ⟨hx, hb, hml, hown, hts⟩ hE hA hw (c_AL_add3C (ra := ra) he1 hv1 hn0 hz hc0) (ci_AL).1 rfl he1 (wm2 188 rfl rfl) (wm2 190 rfl rfl) (wmp1 14 rfl) (wm1 4 rfl rfl) (wm2 191 rfl rfl) rfl rfl ar_AL_add2 ⟨Nat.le_trans (Nat.le_of_ble_eq_true rfl) hR.1, Nat.le_trans (Nat.le_of_ble_eq_true rfl) hR.2.1⟩ rfl hl.1 rfl (Nat.le_of_ble_eq_true rfl) d_AL_add_20 ⟨by omega, by omega⟩) hw (mfr_in hw hA) (fun M20 H locs hP20 hw => ?_)
  refine lv_iconst (v := nI 1) hx hb d_AL_add_23 (by decide) ?_
  exact x_reti hQ hx hb hr hlk (by first | exact nar_bz | decide) hw (by omega) (by omega) d_AL_add_24 (⟨rfl, ad_lift he0 hP20⟩)

theorem c_AL_add {l : Launch} {E : Ev} {M : mp_M} {sz : Nat} {a0 ea cap n v : Nat} {mcn : Int32} {ra : Nat → Nat} {fv : List Value} (he0 : M a0 = some (.inr (7, [.int mcn, .ref ea, .int (nI n)]))) (hv : M v = some (.inr (5, fv))) (k2 : (n = 0 ∧ ea = E.2.2 ∧ cap = 0) ∨ (M ea = some (arO E cap n ra) ∧ 10 ≤ cap)) (k3 : n ≤ cap) (k4 : cap ≤ 800) (hn : n < 512) (hel : ∀ i, i < n → ∃ fv, M (ra i) = some (.inr (5, fv))) : MCi l E y_AL_add prog_18_method_25_code 2 (some .boolean) 6 170 1 800 [.ref a0, .ref v] M sz (fun r M' => r = nI 1 ∧ AD E M a0 ea cap n ra v M') := by
  rcases k2 with ⟨h1, h2, h3⟩ | ⟨h1, h2⟩
  · exact c_AL_addC he0 hv h1 h2 h3
  · by_cases h : n < cap
    · exact c_AL_addA he0 hv h1 h2 k4 h
    · have e : cap = n := by omega
      subst e
      exact c_AL_addB he0 hv rfl h1 h2 hn hel
