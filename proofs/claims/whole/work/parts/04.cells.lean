/-! cells: the kit's rows over the map -/
section MC
variable {p : Program} {l : Launch} {e : Env} {R : Room} {s : State} {m : MethodId} {args : Array Value} {below : List Frame} {meth : Method} {c : Code} {H : Heap} {locs : List Loc} {cells slots : Nat} {Q : State → Prop}
variable {cc : ByteArray} {pc : Nat} {ls : Array Slot} {rest : List Value} {D : va_G} {cl : List vw_C} {A : Nat → Prop} {a : Nat} {tys : List (ClassId × FieldType)} {M : mp_M} {H0 : Heap}
/-- a new cell -/
theorem mw_new {H1 : Heap} {q : Nat} {e1 : va_E} (hw : mw D cl A H0 M H locs) (hP : va_P D cl (mp_en M H.size ++ [(q, e1)]) H1) (hD : va_D A (mp_en M H.size ++ [(q, e1)])) (hS : va_S A H0 H1 locs) : M q = none ∧ mw D cl A H0 (mp_up M q e1) H1 locs := by
  have hlast : (mp_en M H.size ++ [(q, e1)])[(mp_en M H.size).length]? = some (q, e1) := by
    rw [List.getElem?_append_right (Nat.le_refl _), Nat.sub_self]; rfl
  refine ⟨?_, fun b e2 hb => ?_, fun b hb => ?_, hS⟩
  · cases hm : M q with
    | none => rfl
    | some e0 =>
      exfalso
      obtain ⟨k, hk⟩ := mp_idx (mp_lt hw.1 hm) hm
      have hl := (List.getElem?_eq_some_iff.mp hk).1
      have h1 : (mp_en M H.size ++ [(q, e1)])[k]? = some (q, e0) := by rw [List.getElem?_append_left hl]; exact hk
      have := hD.1 _ _ _ _ h1 hlast rfl
      omega
  · by_cases hba : b = q
    · subst hba
      rw [mp_up_s] at hb
      cases hb
      exact hP _ _ hlast
    · rw [mp_up_n hba] at hb
      obtain ⟨k, hk⟩ := mp_idx (mp_lt hw.1 hb) hb
      have hl := (List.getElem?_eq_some_iff.mp hk).1
      exact hP k (b, e2) (by rw [List.getElem?_append_left hl]; exact hk)
  · by_cases hba : b = q
    · subst hba
      exact hD.2 _ _ hlast
    · rw [mp_up_n hba] at hb
      exact hw.2.1 b hb
/-- what is known of a class: its place among the classes, its words, its fields' types, that their names differ -/
def CI (Ts : List Cond) (cl : List vw_C) (ci : Nat) (C : String) (T : u_T) (N : Nat) (ty : Nat → FieldType) : Prop := cl[ci]? = some (C, T, N) ∧ (∀ w ∈ u_ws C T N, w ∈ Ts) ∧ (∀ k, k < N → parseFieldDescriptor (T k).2.2.1 = some (ty k)) ∧ (∀ a, a < N → ∀ b, b < N → a ≠ b → (T a).2.1 ≠ (T b).2.1)
theorem ra_inj {U : State} {c1 c2 : ClassId} {ty : FieldType} (h1 : va_RA U c1 ty) (h2 : va_RA U c2 ty) : c1 = c2 := by
  cases ty with
  | object C =>
    obtain ⟨_, _, -, -, -, g1⟩ := h1
    obtain ⟨_, _, -, -, -, g2⟩ := h2
    exact Option.some.inj (g1.symm.trans g2)
  | _ => exact Option.some.inj (Eq.trans (Eq.symm h1) h2)
theorem nar_q {C : String} {o : Option Nat} : narrow (.object C) (va_rf o) = va_rf o := by cases o <;> rfl
theorem fit_q {C : String} {o : Option Nat} : fits (.object C) (va_rf o) = true := by cases o <;> rfl
theorem m_get (hx : p.tables.exec = Jvm.exec) (hb : c.code = cc) {Ts : List Cond} {ci : Nat} {C : String} {T : u_T} {N : Nat} {ty : Nat → FieldType} {own : String} {index : Nat} (hts : ∀ w ∈ Ts, w.before args s = true) (hown : s.vm.findClass own = some m.cls) (hK : va_K D cl tys s) (hw : mw D cl A H0 M H locs) (hci : CI Ts cl ci C T N ty) {fs : List Value} (he : M a = some (.inr (ci, fs))) (k : Nat) (hk : k < N) (hlink : Cond.fieldLink own index (T k).1 (T k).2.1 (T k).2.2.1 ∈ Ts) {v : Value} (hv : fs[k]? = some v) (hdg : decode cc pc = .ok (.getfield index, 3))
    (kk : W p l e R s m args below meth c H locs cells slots Q (F0 m (pc + 3) ls (v :: rest))) : W p l e R s m args below meth c H locs cells slots Q (F0 m pc ls (.ref a :: rest)) :=
  va_get hx hb hts hci.2.1 hown hK (mp_one hw.1 he) 0 rfl hci.1 k hk (hts _ hlink) (fun _ h => h) hv hdg kk
theorem m_getU (hx : p.tables.exec = Jvm.exec) (hb : c.code = cc) {Ts : List Cond} {ci : Nat} {C : String} {T : u_T} {N : Nat} {ty : Nat → FieldType} {own ref : String} {index : Nat} (hts : ∀ w ∈ Ts, w.before args s = true) (hown : s.vm.findClass own = some m.cls) (hK : va_K D cl tys s) (hw : mw D cl A H0 M H locs) (hci : CI Ts cl ci C T N ty) {fs : List Value} (he : M a = some (.inr (ci, fs))) (k : Nat) (hk : k < N) (hlink : Cond.fieldLink own index ref (T k).2.1 (T k).2.2.1 ∈ Ts) (hsame : Cond.sameField ref (T k).1 (T k).2.1 (T k).2.2.1 ∈ Ts) {v : Value} (hv : fs[k]? = some v) (hdg : decode cc pc = .ok (.getfield index, 3))
    (kk : W p l e R s m args below meth c H locs cells slots Q (F0 m (pc + 3) ls (v :: rest))) : W p l e R s m args below meth c H locs cells slots Q (F0 m pc ls (.ref a :: rest)) :=
  va_get hx hb hts hci.2.1 hown hK (mp_one hw.1 he) 0 rfl hci.1 k hk (hts _ hlink) (fun x h => u_same (hts _ hsame) x h) hv hdg kk
theorem m_put (hx : p.tables.exec = Jvm.exec) (hb : c.code = cc) {Ts : List Cond} {ci : Nat} {C : String} {T : u_T} {N : Nat} {ty : Nat → FieldType} {own : String} {index : Nat} (hts : ∀ w ∈ Ts, w.before args s = true) (hown : s.vm.findClass own = some m.cls) (hK : va_K D cl tys s) (hw : mw D cl A H0 M H locs) (hci : CI Ts cl ci C T N ty) {fs : List Value} (he : M a = some (.inr (ci, fs))) (k : Nat) (hk : k < N) (hlink : Cond.fieldLink own index (T k).1 (T k).2.1 (T k).2.2.1 ∈ Ts) (hfin : (T k).2.2.2 = false) {v : Value} (hn : narrow (ty k) v = v) (hfit : fits (ty k) v = true) (hl : k < fs.length) (hdg : decode cc pc = .ok (.putfield index, 3))
    (kk : ∀ (H1 : Heap) (locs1 : List Loc), mw D cl A H0 (mp_up M a (.inr (ci, fs.set k v))) H1 locs1 → W p l e R s m args below meth c H1 locs1 cells slots Q (F0 m (pc + 3) ls rest)) : W p l e R s m args below meth c H locs cells slots Q (F0 m pc ls (v :: .ref a :: rest)) := by
  obtain ⟨q, hq⟩ := mp_idx (mp_lt hw.1 he) he
  exact va_put hx hb hts hci.2.1 ty hci.2.2.1 hci.2.2.2 hown hK (mp_P hw.1 _) (mp_D hw.2.1 _) hw.2.2 q hq hci.1 k hk (hts _ hlink) (fun _ h => h) hfin (hci.2.2.1 k hk) hn hfit hl hdg (fun H1 locs1 hP hD hS => kk H1 locs1 (mw_set hw hq hP hS))
theorem m_putU (hx : p.tables.exec = Jvm.exec) (hb : c.code = cc) {Ts : List Cond} {ci : Nat} {C : String} {T : u_T} {N : Nat} {ty : Nat → FieldType} {own ref : String} {index : Nat} (hts : ∀ w ∈ Ts, w.before args s = true) (hown : s.vm.findClass own = some m.cls) (hK : va_K D cl tys s) (hw : mw D cl A H0 M H locs) (hci : CI Ts cl ci C T N ty) {fs : List Value} (he : M a = some (.inr (ci, fs))) (k : Nat) (hk : k < N) (hlink : Cond.fieldLink own index ref (T k).2.1 (T k).2.2.1 ∈ Ts) (hsame : Cond.sameField ref (T k).1 (T k).2.1 (T k).2.2.1 ∈ Ts) (hfin : (T k).2.2.2 = false) {v : Value} (hn : narrow (ty k) v = v) (hfit : fits (ty k) v = true) (hl : k < fs.length) (hdg : decode cc pc = .ok (.putfield index, 3))
    (kk : ∀ (H1 : Heap) (locs1 : List Loc), mw D cl A H0 (mp_up M a (.inr (ci, fs.set k v))) H1 locs1 → W p l e R s m args below meth c H1 locs1 cells slots Q (F0 m (pc + 3) ls rest)) : W p l e R s m args below meth c H locs cells slots Q (F0 m pc ls (v :: .ref a :: rest)) := by
  obtain ⟨q, hq⟩ := mp_idx (mp_lt hw.1 he) he
  exact va_put hx hb hts hci.2.1 ty hci.2.2.1 hci.2.2.2 hown hK (mp_P hw.1 _) (mp_D hw.2.1 _) hw.2.2 q hq hci.1 k hk (hts _ hlink) (fun x h => u_same (hts _ hsame) x h) hfin (hci.2.2.1 k hk) hn hfit hl hdg (fun H1 locs1 hP hD hS => kk H1 locs1 (mw_set hw hq hP hS))
theorem m_putF (hx : p.tables.exec = Jvm.exec) (hb : c.code = cc) {Ts : List Cond} {ci : Nat} {C : String} {T : u_T} {N : Nat} {ty : Nat → FieldType} {own : String} {index : Nat} (hts : ∀ w ∈ Ts, w.before args s = true) (hown : s.vm.findClass own = some m.cls) (hK : va_K D cl tys s) (hw : mw D cl A H0 M H locs) (hci : CI Ts cl ci C T N ty) {fs : List Value} (he : M a = some (.inr (ci, fs))) (k : Nat) (hk : k < N) (hlink : Cond.fieldLink own index (T k).1 (T k).2.1 (T k).2.2.1 ∈ Ts) (hfin : (T k).2.2.2 = true) (hnm : meth.name = "<init>") (hdecl : (T k).1 = own) {v : Value} (hn : narrow (ty k) v = v) (hfit : fits (ty k) v = true) (hl : k < fs.length) (hdg : decode cc pc = .ok (.putfield index, 3))
    (kk : ∀ (H1 : Heap) (locs1 : List Loc), mw D cl A H0 (mp_up M a (.inr (ci, fs.set k v))) H1 locs1 → W p l e R s m args below meth c H1 locs1 cells slots Q (F0 m (pc + 3) ls rest)) : W p l e R s m args below meth c H locs cells slots Q (F0 m pc ls (v :: .ref a :: rest)) := by
  obtain ⟨q, hq⟩ := mp_idx (mp_lt hw.1 he) he
  exact va_putF hx hb hts hci.2.1 ty hci.2.2.1 hci.2.2.2 hown hK (mp_P hw.1 _) (mp_D hw.2.1 _) hw.2.2 q hq hci.1 k hk (hts _ hlink) (fun _ h => h) hfin hnm hdecl (hci.2.2.1 k hk) hn hfit hl hdg (fun H1 locs1 hP hD hS => kk H1 locs1 (mw_set hw hq hP hS))
theorem m_new (hx : p.tables.exec = Jvm.exec) (hb : c.code = cc) {Ts : List Cond} {ci : Nat} {C : String} {T : u_T} {N : Nat} {ty : Nat → FieldType} {own : String} {index : Nat} (hts : ∀ w ∈ Ts, w.before args s = true) (hown : s.vm.findClass own = some m.cls) (hK : va_K D cl tys s) (hw : mw D cl A H0 M H locs) (hA : ∀ q, H0.size ≤ q → A q) (hci : CI Ts cl ci C T N ty) (hcl : Cond.classLink own index C ∈ Ts) (hinst : Cond.instantiable C N ∈ Ts) (hini : Cond.initialized C ∈ Ts) {fs : List Value} (hfs : ∀ j, j < N → defaultValue (ty j) = vp_V fs j) (hc : cells + 1 ≤ R.cells) (hs : slots + N ≤ R.slots) (hdg : decode cc pc = .ok (.new index, 3))
    (kk : ∀ (q : Nat) (H1 : Heap), M q = none → mw D cl A H0 (mp_up M q (.inr (ci, fs))) H1 locs → W p l e R s m args below meth c H1 locs (cells + 1) (slots + N) Q (F0 m (pc + 3) ls (.ref q :: rest))) : W p l e R s m args below meth c H locs cells slots Q (F0 m pc ls rest) :=
  va_new hx hb hts hci.2.1 ty hci.2.2.1 hown (hts _ hcl) (hts _ hinst) (hts _ hini) hK (mp_P hw.1 H.size) (mp_D hw.2.1 _) hw.2.2 hA hci.1 hfs hc hs hdg (fun q H1 hP hD hS => kk q H1 (mw_new hw hP hD hS).1 (mw_new hw hP hD hS).2)
theorem m_newa (hx : p.tables.exec = Jvm.exec) (hb : c.code = cc) {atype : ArrayType} {Ts : List Cond} (hts : ∀ w ∈ Ts, w.before args s = true) (harr : Cond.arrayClass (newarray.typeOf atype) ∈ Ts) {ty : FieldType} (hty : newarray.typeOf atype = ty) (hK : va_K D cl tys s) (hw : mw D cl A H0 M H locs) (hA : ∀ q, H0.size ≤ q → A q) (t0 : Nat) {cA : ClassId} (ht : tys[t0]? = some (cA, ty)) {n N' : Nat} {a0 : vp_A} (ha : ∀ cA : ClassId, vp_cell cA a0 = arrV cA n (fun _ => defaultValue ty)) (hn : n < 2 ^ 31) (hbytes : n * componentBytes ty ≤ 536870912) (hc : cells + 1 ≤ R.cells) (hs : slots + n ≤ R.slots) (hdg : decode cc pc = .ok (.newarray atype, 2))
    (kk : ∀ (q : Nat) (H1 : Heap), M q = none → mw D cl A H0 (mp_up M q (.inl (cA, a0))) H1 locs → W p l e R s m args below meth c H1 locs (cells + 1) (slots + n) Q (F0 m (pc + 2) ls (.ref q :: rest))) : W p l e R s m args below meth c H locs cells slots Q (F0 m pc ls (.int (nI n) :: rest)) := by
  refine va_newa hx hb (hts _ harr) hty hK (mp_P hw.1 H.size) (mp_D hw.2.1 _) hw.2.2 hA ha (nI_pos hn) (nI_clamp hn) hbytes hc hs hdg (fun q cA' H1 hK' hP hD hS => ?_)
  have h1 := (hK'.2 tys.length (cA', ty) (by rw [List.getElem?_append_right (Nat.le_refl _), Nat.sub_self]; rfl)).2
  have e := ra_inj h1 (hK.2 t0 _ ht).2
  subst e
  exact kk q H1 (mw_new hw hP hD hS).1 (mw_new hw hP hD hS).2
theorem m_newq (hx : p.tables.exec = Jvm.exec) (hb : c.code = cc) {own C : String} {index : Nat} {Ts : List Cond} (hts : ∀ w ∈ Ts, w.before args s = true) (hown : s.vm.findClass own = some m.cls) (hcl : Cond.classLink own index C ∈ Ts) (hover : va_AO C s) (hK : va_K D cl tys s) (hw : mw D cl A H0 M H locs) (hA : ∀ q, H0.size ≤ q → A q) (t0 : Nat) {cA : ClassId} (ht : tys[t0]? = some (cA, .object C)) {n : Nat} (hn : n < 2 ^ 27) (hc : cells + 1 ≤ R.cells) (hs : slots + n ≤ R.slots) (hdg : decode cc pc = .ok (.anewarray index, 3))
    (kk : ∀ (q : Nat) (H1 : Heap), M q = none → mw D cl A H0 (mp_up M q (.inl (cA, n, .inr (.inr (.inr (.inr (fun _ => none))))))) H1 locs → W p l e R s m args below meth c H1 locs (cells + 1) (slots + n) Q (F0 m (pc + 3) ls (.ref q :: rest))) : W p l e R s m args below meth c H locs cells slots Q (F0 m pc ls (.int (nI n) :: rest)) := by
  refine va_newq hx hb hown (hts _ hcl) hover hK (mp_P hw.1 H.size) (mp_D hw.2.1 _) hw.2.2 hA (nI_pos (by omega)) (nI_clamp (by omega)) (by omega) hc hs hdg (fun q cA' H1 hK' hP hD hS => ?_)
  have h1 := (hK'.2 tys.length (cA', .object C) (by rw [List.getElem?_append_right (Nat.le_refl _), Nat.sub_self]; rfl)).2
  have e := ra_inj h1 (hK.2 t0 _ ht).2
  subst e
  exact kk q H1 (mw_new hw hP hD hS).1 (mw_new hw hP hD hS).2
theorem m_sald (hx : p.tables.exec = Jvm.exec) (hb : c.code = cc) (hK : va_K D cl tys s) (hw : mw D cl A H0 M H locs) (t0 : Nat) {cA : ClassId} {n : Nat} {f : Nat → Int32} (he : M a = some (.inl (cA, n, .inl f))) (ht : tys[t0]? = some (cA, .short)) {i : Nat} (hi : i < n) (hn : n < 2 ^ 31) {v : Int32} (hv : f i = v) (hdg : decode cc pc = .ok (.saload, 1))
    (kk : W p l e R s m args below meth c H locs cells slots Q (F0 m (pc + 1) ls (.int v :: rest))) : W p l e R s m args below meth c H locs cells slots Q (F0 m pc ls (.int (nI i) :: .ref a :: rest)) :=
  va_sald hx hb hK (mp_one hw.1 he) 0 t0 rfl ht (vp_in_nI hi hn) hdg (by rw [nI_clamp (by omega), hv]; exact kk)
theorem m_bald (hx : p.tables.exec = Jvm.exec) (hb : c.code = cc) (hK : va_K D cl tys s) (hw : mw D cl A H0 M H locs) (t0 : Nat) {cA : ClassId} {n : Nat} {f : Nat → Int32} (he : M a = some (.inl (cA, n, .inl f))) (ht : tys[t0]? = some (cA, .byte)) {i : Nat} (hi : i < n) (hn : n < 2 ^ 31) {v : Int32} (hv : f i = v) (hdg : decode cc pc = .ok (.baload, 1))
    (kk : W p l e R s m args below meth c H locs cells slots Q (F0 m (pc + 1) ls (.int v :: rest))) : W p l e R s m args below meth c H locs cells slots Q (F0 m pc ls (.int (nI i) :: .ref a :: rest)) :=
  va_bald hx hb hK (mp_one hw.1 he) 0 t0 rfl ht (vp_in_nI hi hn) hdg (by rw [nI_clamp (by omega), hv]; exact kk)
theorem m_zald (hx : p.tables.exec = Jvm.exec) (hb : c.code = cc) (hK : va_K D cl tys s) (hw : mw D cl A H0 M H locs) (t0 : Nat) {cA : ClassId} {n : Nat} {f : Nat → Int32} (he : M a = some (.inl (cA, n, .inl f))) (ht : tys[t0]? = some (cA, .boolean)) {i : Nat} (hi : i < n) (hn : n < 2 ^ 31) {v : Int32} (hv : f i = v) (hdg : decode cc pc = .ok (.baload, 1))
    (kk : W p l e R s m args below meth c H locs cells slots Q (F0 m (pc + 1) ls (.int v :: rest))) : W p l e R s m args below meth c H locs cells slots Q (F0 m pc ls (.int (nI i) :: .ref a :: rest)) :=
  va_zald hx hb hK (mp_one hw.1 he) 0 t0 rfl ht (vp_in_nI hi hn) hdg (by rw [nI_clamp (by omega), hv]; exact kk)
theorem m_iald (hx : p.tables.exec = Jvm.exec) (hb : c.code = cc) (hK : va_K D cl tys s) (hw : mw D cl A H0 M H locs) (t0 : Nat) {cA : ClassId} {n : Nat} {f : Nat → Int32} (he : M a = some (.inl (cA, n, .inl f))) (ht : tys[t0]? = some (cA, .int)) {i : Nat} (hi : i < n) (hn : n < 2 ^ 31) {v : Int32} (hv : f i = v) (hdg : decode cc pc = .ok (.iaload, 1))
    (kk : W p l e R s m args below meth c H locs cells slots Q (F0 m (pc + 1) ls (.int v :: rest))) : W p l e R s m args below meth c H locs cells slots Q (F0 m pc ls (.int (nI i) :: .ref a :: rest)) :=
  va_iald hx hb hK (mp_one hw.1 he) 0 t0 rfl ht (vp_in_nI hi hn) hdg (by rw [nI_clamp (by omega), hv]; exact kk)
theorem m_lald (hx : p.tables.exec = Jvm.exec) (hb : c.code = cc) (hK : va_K D cl tys s) (hw : mw D cl A H0 M H locs) (t0 : Nat) {cA : ClassId} {n : Nat} {f : Nat → Int64} (he : M a = some (.inl (cA, n, .inr (.inl f)))) (ht : tys[t0]? = some (cA, .long)) {i : Nat} (hi : i < n) (hn : n < 2 ^ 31) {v : Int64} (hv : f i = v) (hdg : decode cc pc = .ok (.laload, 1))
    (kk : W p l e R s m args below meth c H locs cells slots Q (F0 m (pc + 1) ls (.long v :: rest))) : W p l e R s m args below meth c H locs cells slots Q (F0 m pc ls (.int (nI i) :: .ref a :: rest)) :=
  va_lald hx hb hK (mp_one hw.1 he) 0 t0 rfl ht (vp_in_nI hi hn) hdg (by rw [nI_clamp (by omega), hv]; exact kk)
theorem m_aald (hx : p.tables.exec = Jvm.exec) (hb : c.code = cc) (hK : va_K D cl tys s) (hw : mw D cl A H0 M H locs) (t0 : Nat) {cA : ClassId} {C : String} {n : Nat} {f : Nat → Option Nat} (he : M a = some (.inl (cA, n, .inr (.inr (.inr (.inr f)))))) (ht : tys[t0]? = some (cA, .object C)) {i : Nat} (hi : i < n) (hn : n < 2 ^ 31) {v : Option Nat} (hv : f i = v) (hdg : decode cc pc = .ok (.aaload, 1))
    (kk : W p l e R s m args below meth c H locs cells slots Q (F0 m (pc + 1) ls (va_rf v :: rest))) : W p l e R s m args below meth c H locs cells slots Q (F0 m pc ls (.int (nI i) :: .ref a :: rest)) :=
  va_aldq hx hb hK (mp_one hw.1 he) 0 t0 rfl ht (vp_in_nI hi hn) hdg (by rw [nI_clamp (by omega), hv]; exact kk)
theorem m_sast (hx : p.tables.exec = Jvm.exec) (hb : c.code = cc) (hK : va_K D cl tys s) (hw : mw D cl A H0 M H locs) (t0 : Nat) {cA : ClassId} {n : Nat} {f f' : Nat → Int32} (he : M a = some (.inl (cA, n, .inl f))) (ht : tys[t0]? = some (cA, .short)) {i : Nat} {x : Int32} (hi : i < n) (hn : n < 2 ^ 31) (hf : upd f i (vp_nar .short x) = f') (hdg : decode cc pc = .ok (.sastore, 1))
    (kk : ∀ (H1 : Heap) (locs1 : List Loc), mw D cl A H0 (mp_up M a (.inl (cA, n, .inl f'))) H1 locs1 → W p l e R s m args below meth c H1 locs1 cells slots Q (F0 m (pc + 1) ls rest)) : W p l e R s m args below meth c H locs cells slots Q (F0 m pc ls (.int x :: .int (nI i) :: .ref a :: rest)) := by
  obtain ⟨q, hq⟩ := mp_idx (mp_lt hw.1 he) he
  refine va_sast hx hb hK (mp_P hw.1 _) (mp_D hw.2.1 _) hw.2.2 q t0 hq ht (vp_in_nI hi hn) hdg (fun H1 locs1 hP hD hS => ?_)
  rw [nI_clamp (by omega), hf] at hP
  exact kk H1 locs1 (mw_set hw hq hP hS)
theorem m_bast (hx : p.tables.exec = Jvm.exec) (hb : c.code = cc) (hK : va_K D cl tys s) (hw : mw D cl A H0 M H locs) (t0 : Nat) {cA : ClassId} {n : Nat} {f f' : Nat → Int32} (he : M a = some (.inl (cA, n, .inl f))) (ht : tys[t0]? = some (cA, .byte)) {i : Nat} {x : Int32} (hi : i < n) (hn : n < 2 ^ 31) (hf : upd f i (vp_nar .byte x) = f') (hdg : decode cc pc = .ok (.bastore, 1))
    (kk : ∀ (H1 : Heap) (locs1 : List Loc), mw D cl A H0 (mp_up M a (.inl (cA, n, .inl f'))) H1 locs1 → W p l e R s m args below meth c H1 locs1 cells slots Q (F0 m (pc + 1) ls rest)) : W p l e R s m args below meth c H locs cells slots Q (F0 m pc ls (.int x :: .int (nI i) :: .ref a :: rest)) := by
  obtain ⟨q, hq⟩ := mp_idx (mp_lt hw.1 he) he
  refine va_bast hx hb hK (mp_P hw.1 _) (mp_D hw.2.1 _) hw.2.2 q t0 hq ht (vp_in_nI hi hn) hdg (fun H1 locs1 hP hD hS => ?_)
  rw [nI_clamp (by omega), hf] at hP
  exact kk H1 locs1 (mw_set hw hq hP hS)
theorem m_zast (hx : p.tables.exec = Jvm.exec) (hb : c.code = cc) (hK : va_K D cl tys s) (hw : mw D cl A H0 M H locs) (t0 : Nat) {cA : ClassId} {n : Nat} {f f' : Nat → Int32} (he : M a = some (.inl (cA, n, .inl f))) (ht : tys[t0]? = some (cA, .boolean)) {i : Nat} {x : Int32} (hi : i < n) (hn : n < 2 ^ 31) (hf : upd f i (vp_nar .boolean x) = f') (hdg : decode cc pc = .ok (.bastore, 1))
    (kk : ∀ (H1 : Heap) (locs1 : List Loc), mw D cl A H0 (mp_up M a (.inl (cA, n, .inl f'))) H1 locs1 → W p l e R s m args below meth c H1 locs1 cells slots Q (F0 m (pc + 1) ls rest)) : W p l e R s m args below meth c H locs cells slots Q (F0 m pc ls (.int x :: .int (nI i) :: .ref a :: rest)) := by
  obtain ⟨q, hq⟩ := mp_idx (mp_lt hw.1 he) he
  refine va_zast hx hb hK (mp_P hw.1 _) (mp_D hw.2.1 _) hw.2.2 q t0 hq ht (vp_in_nI hi hn) hdg (fun H1 locs1 hP hD hS => ?_)
  rw [nI_clamp (by omega), hf] at hP
  exact kk H1 locs1 (mw_set hw hq hP hS)
theorem m_iast (hx : p.tables.exec = Jvm.exec) (hb : c.code = cc) (hK : va_K D cl tys s) (hw : mw D cl A H0 M H locs) (t0 : Nat) {cA : ClassId} {n : Nat} {f f' : Nat → Int32} (he : M a = some (.inl (cA, n, .inl f))) (ht : tys[t0]? = some (cA, .int)) {i : Nat} {x : Int32} (hi : i < n) (hn : n < 2 ^ 31) (hf : upd f i x = f') (hdg : decode cc pc = .ok (.iastore, 1))
    (kk : ∀ (H1 : Heap) (locs1 : List Loc), mw D cl A H0 (mp_up M a (.inl (cA, n, .inl f'))) H1 locs1 → W p l e R s m args below meth c H1 locs1 cells slots Q (F0 m (pc + 1) ls rest)) : W p l e R s m args below meth c H locs cells slots Q (F0 m pc ls (.int x :: .int (nI i) :: .ref a :: rest)) := by
  obtain ⟨q, hq⟩ := mp_idx (mp_lt hw.1 he) he
  refine va_iast hx hb hK (mp_P hw.1 _) (mp_D hw.2.1 _) hw.2.2 q t0 hq ht (vp_in_nI hi hn) hdg (fun H1 locs1 hP hD hS => ?_)
  rw [nI_clamp (by omega), hf] at hP
  exact kk H1 locs1 (mw_set hw hq hP hS)
theorem m_last (hx : p.tables.exec = Jvm.exec) (hb : c.code = cc) (hK : va_K D cl tys s) (hw : mw D cl A H0 M H locs) (t0 : Nat) {cA : ClassId} {n : Nat} {f f' : Nat → Int64} (he : M a = some (.inl (cA, n, .inr (.inl f)))) (ht : tys[t0]? = some (cA, .long)) {i : Nat} {x : Int64} (hi : i < n) (hn : n < 2 ^ 31) (hf : vp_updL f i x = f') (hdg : decode cc pc = .ok (.lastore, 1))
    (kk : ∀ (H1 : Heap) (locs1 : List Loc), mw D cl A H0 (mp_up M a (.inl (cA, n, .inr (.inl f')))) H1 locs1 → W p l e R s m args below meth c H1 locs1 cells slots Q (F0 m (pc + 1) ls rest)) : W p l e R s m args below meth c H locs cells slots Q (F0 m pc ls (.long x :: .int (nI i) :: .ref a :: rest)) := by
  obtain ⟨q, hq⟩ := mp_idx (mp_lt hw.1 he) he
  refine va_last hx hb hK (mp_P hw.1 _) (mp_D hw.2.1 _) hw.2.2 q t0 hq ht (vp_in_nI hi hn) hdg (fun H1 locs1 hP hD hS => ?_)
  rw [nI_clamp (by omega), hf] at hP
  exact kk H1 locs1 (mw_set hw hq hP hS)
theorem m_aast (hx : p.tables.exec = Jvm.exec) (hb : c.code = cc) (hK : va_K D cl tys s) (hw : mw D cl A H0 M H locs) (t0 ci : Nat) {cA : ClassId} {r : vw_C} {n v : Nat} {fv : List Value} {f f' : Nat → Option Nat} (he : M a = some (.inl (cA, n, .inr (.inr (.inr (.inr f)))))) (ht : tys[t0]? = some (cA, .object r.1)) (hv : M v = some (.inr (ci, fv))) (hc : cl[ci]? = some r) {i : Nat} (hi : i < n) (hn : n < 2 ^ 31) (hf : va_up f i (some v) = f') (hdg : decode cc pc = .ok (.aastore, 1))
    (kk : ∀ (H1 : Heap) (locs1 : List Loc), mw D cl A H0 (mp_up M a (.inl (cA, n, .inr (.inr (.inr (.inr f')))))) H1 locs1 → W p l e R s m args below meth c H1 locs1 cells slots Q (F0 m (pc + 1) ls rest)) : W p l e R s m args below meth c H locs cells slots Q (F0 m pc ls (.ref v :: .int (nI i) :: .ref a :: rest)) := by
  obtain ⟨q, hq⟩ := mp_idx (mp_lt hw.1 he) he
  obtain ⟨q2, hq2⟩ := mp_idx (mp_lt hw.1 hv) hv
  refine va_astq hx hb hK (mp_P hw.1 _) (mp_D hw.2.1 _) hw.2.2 q t0 q2 ci hq ht hq2 hc (vp_in_nI hi hn) hdg (fun H1 locs1 hP hD hS => ?_)
  rw [nI_clamp (by omega), hf] at hP
  exact kk H1 locs1 (mw_set hw hq hP hS)
theorem m_aastN (hx : p.tables.exec = Jvm.exec) (hb : c.code = cc) (hK : va_K D cl tys s) (hw : mw D cl A H0 M H locs) (t0 : Nat) {cA : ClassId} {C : String} {n : Nat} {f f' : Nat → Option Nat} (he : M a = some (.inl (cA, n, .inr (.inr (.inr (.inr f)))))) (ht : tys[t0]? = some (cA, .object C)) {i : Nat} (hi : i < n) (hn : n < 2 ^ 31) (hf : va_up f i none = f') (hdg : decode cc pc = .ok (.aastore, 1))
    (kk : ∀ (H1 : Heap) (locs1 : List Loc), mw D cl A H0 (mp_up M a (.inl (cA, n, .inr (.inr (.inr (.inr f')))))) H1 locs1 → W p l e R s m args below meth c H1 locs1 cells slots Q (F0 m (pc + 1) ls rest)) : W p l e R s m args below meth c H locs cells slots Q (F0 m pc ls (.null :: .int (nI i) :: .ref a :: rest)) := by
  obtain ⟨q, hq⟩ := mp_idx (mp_lt hw.1 he) he
  refine va_astqN hx hb hK (mp_P hw.1 _) (mp_D hw.2.1 _) hw.2.2 q t0 hq ht (vp_in_nI hi hn) hdg (fun H1 locs1 hP hD hS => ?_)
  rw [nI_clamp (by omega), hf] at hP
  exact kk H1 locs1 (mw_set hw hq hP hS)
theorem m_aastQ (hx : p.tables.exec = Jvm.exec) (hb : c.code = cc) (hK : va_K D cl tys s) (hw : mw D cl A H0 M H locs) (t0 ci : Nat) {cA : ClassId} {r : vw_C} {n : Nat} {v : Option Nat} {f f' : Nat → Option Nat} (he : M a = some (.inl (cA, n, .inr (.inr (.inr (.inr f)))))) (ht : tys[t0]? = some (cA, .object r.1)) (hv : ∀ b, v = some b → ∃ fv, M b = some (.inr (ci, fv))) (hc : cl[ci]? = some r) {i : Nat} (hi : i < n) (hn : n < 2 ^ 31) (hf : va_up f i v = f') (hdg : decode cc pc = .ok (.aastore, 1))
    (kk : ∀ (H1 : Heap) (locs1 : List Loc), mw D cl A H0 (mp_up M a (.inl (cA, n, .inr (.inr (.inr (.inr f')))))) H1 locs1 → W p l e R s m args below meth c H1 locs1 cells slots Q (F0 m (pc + 1) ls rest)) : W p l e R s m args below meth c H locs cells slots Q (F0 m pc ls (va_rf v :: .int (nI i) :: .ref a :: rest)) := by
  cases v with
  | none => exact m_aastN hx hb hK hw t0 he ht hi hn hf hdg kk
  | some b =>
    obtain ⟨fv, hb2⟩ := hv b rfl
    exact m_aast hx hb hK hw t0 ci he ht hb2 hc hi hn hf hdg kk
theorem m_recv {ci : Nat} {q : vw_C} {fs : List Value} (hK : va_K D cl tys s) (hw : mw D cl A H0 M H locs) (hc : cl[ci]? = some q) (he : M a = some (.inr (ci, fs))) : ∃ cell : Cell, H[a]? = some cell ∧ cell.vm.isStatics = false ∧ s.vm.findClass q.1 = some cell.cls := va_recv hK (mp_one hw.1 he) hc (q0 := 0) rfl
end MC
