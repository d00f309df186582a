/-! contracts over the map: start, end, calls -/
section CT
def mPc (E : Ev) (as : List Value) (M : mp_M) (sz : Nat) : Array Value → State → Prop := va_Pc as (fun U => U.heap.size = sz ∧ mp_ok E.1 vwCl M U.heap ∧ EN E (mfr M sz) U U.heap)
def mB (E : Ev) (A : Nat → Prop) (M' : mp_M) (t : State) : Prop := mp_ok E.1 vwCl M' t.heap ∧ ∀ a, M' a ≠ none → A a
def FX (E : Ev) (p : Program) (s : State) (m : MethodId) (meth : Method) (c : Code) (cd : ByteArray) (nl : Nat) (rt : Option FieldType) (own : String) (args : Array Value) (nm : String) (A : Nat → Prop) : Prop :=
  CallFix p m c cd nl s args WALL own ∧ EN E A s s.heap ∧ (∀ q, s.heap.size ≤ q → A q) ∧ meth.sig.returnType = rt ∧ meth.locks = false ∧ meth.name = nm
abbrev MCv (l : Launch) (E : Ev) (y : MethodName) (cd : ByteArray) (nl : Nat) (rt : Option FieldType) (fr lo mc ms : Nat) (as : List Value) (M : mp_M) (sz : Nat) (P : mp_M → Prop) : Prop := Met l y (.code y cd nl rt :: WALL) { frames := fr, cells := mc, slots := ms, locals := lo } (mPc E as M sz) (va_Qv P (mB E (mfr M sz)) (mfr M sz)) mc ms (mfr M sz)
abbrev MCi (l : Launch) (E : Ev) (y : MethodName) (cd : ByteArray) (nl : Nat) (rt : Option FieldType) (fr lo mc ms : Nat) (as : List Value) (M : mp_M) (sz : Nat) (P : Int32 → mp_M → Prop) : Prop := Met l y (.code y cd nl rt :: WALL) { frames := fr, cells := mc, slots := ms, locals := lo } (mPc E as M sz) (va_Qi P (mB E (mfr M sz)) (mfr M sz)) mc ms (mfr M sz)
abbrev MCl (l : Launch) (E : Ev) (y : MethodName) (cd : ByteArray) (nl : Nat) (rt : Option FieldType) (fr lo mc ms : Nat) (as : List Value) (M : mp_M) (sz : Nat) (P : Int64 → mp_M → Prop) : Prop := Met l y (.code y cd nl rt :: WALL) { frames := fr, cells := mc, slots := ms, locals := lo } (mPc E as M sz) (va_Ql P (mB E (mfr M sz)) (mfr M sz)) mc ms (mfr M sz)
abbrev MCq (l : Launch) (E : Ev) (y : MethodName) (cd : ByteArray) (nl : Nat) (rt : Option FieldType) (fr lo mc ms : Nat) (as : List Value) (M : mp_M) (sz : Nat) (P : Option Nat → mp_M → Prop) : Prop := Met l y (.code y cd nl rt :: WALL) { frames := fr, cells := mc, slots := ms, locals := lo } (mPc E as M sz) (va_Qq P (mB E (mfr M sz)) (mfr M sz)) mc ms (mfr M sz)
theorem mc_of {l : Launch} {E : Ev} {y : MethodName} {cd : ByteArray} {nl : Nat} {rt : Option FieldType} {fr lo mc ms : Nat} {as : List Value} {M : mp_M} {sz : Nat} {Qc : Array Value → State → Outcome → State → Prop} {free : Addr → Prop} (own : String) (ho : y.cls = own) (vs : List (Option Value)) (hy : plainName y.cls = true) (hlen : (lg_sl as).length ≤ nl) (hvs : lh_e as ++ List.replicate (nl - (lg_sl as).length) none = vs)
    (body : ∀ (p : Program) (e : Env) (R : Room) (s : State) (m : MethodId) (ag : Array Value) (below : List Frame) (meth : Method) (c : Code) (ls : Array Slot) (Q : State → Prop) (A : Nat → Prop), FX E p s m meth c cd nl rt own ag y.name A → A = mfr M sz → Q = MQ below Qc ag s mc ms free → (fr ≤ R.frames ∧ lo ≤ R.locals ∧ mc ≤ R.cells ∧ ms ≤ R.slots) → sz = s.heap.size → mw E.1 vwCl A s.heap M s.heap [] → lh ls vs →
      W p l e R s m ag below meth c s.heap [] 0 0 Q (F0 m 0 ls [])) : Met l y (.code y cd nl rt :: WALL) { frames := fr, cells := mc, slots := ms, locals := lo } (mPc E as M sz) Qc mc ms free := by
  refine Met.ofW (cc := cd) (maxL := nl) (ret := rt) hy rfl ?_
  intro p e s m args below meth c s₁ B hml hv
  obtain ⟨rfl, hsz, hP, hE⟩ := hv
  have hts := atoms_spec (ws := .code y cd nl rt :: WALL) B.pre
  have hown : s.vm.findClass own = some m.cls := by rw [← ho]; exact findClass_of_methodNamed B.named
  have hl := lh_entry as hlen
  rw [hvs] at hl
  rw [lg_entry_eq]
  generalize (lg_sl as ++ List.replicate (nl - (lg_sl as).length) Slot.unset).toArray = ls at hl ⊢
  refine body p e _ s m _ below meth c ls _ _ ⟨⟨B.exec, B.bytes, hml, hown, fun w h => hts w (List.mem_cons_of_mem _ h)⟩, hE, fun q h => Or.inr (by rw [← hsz]; exact h), B.returns, B.notSynchronized, (name_of_methodNamed B.named B.method).1⟩ rfl rfl ⟨Nat.le_refl _, Nat.le_refl _, Nat.le_refl _, Nat.le_refl _⟩ hsz.symm ?_ hl
  have h := mw_rf hP
  rw [hsz] at h
  exact h
variable {p : Program} {l : Launch} {e : Env} {R : Room} {s : State} {m : MethodId} {args : Array Value} {below : List Frame} {meth : Method} {c : Code} {H : Heap} {locs : List Loc} {cells slots : Nat} {Q : State → Prop}
variable {cc : ByteArray} {pc : Nat} {ls : Array Slot} {rest st0 : List Value} {E : Ev} {A A1 : Nat → Prop} {M : mp_M} {H0 : Heap} {a : Array Value}
theorem x_retv {P : mp_M → Prop} {mc ms : Nat} (hQ : Q = MQ below (va_Qv P (mB E A) A) args s mc ms A) (hx : p.tables.exec = Jvm.exec) (hb : c.code = cc) (hr : meth.sig.returnType = none) (hlk : meth.locks = false) (hw : mw E.1 vwCl A s.heap M H locs) (hc : cells ≤ mc) (hs : slots ≤ ms) (hdg : decode cc pc = .ok (.return_, 1)) (hP : P M) : W p l e R s m args below meth c H locs cells slots Q (F0 m pc ls []) := by
  subst hQ
  exact W.widen hc hs (W.vret hx hb hr (fun t ht hW => ⟨⟨M, rfl, hP, by rw [ht]; exact hw.1, hw.2.1⟩, hw.2.2.F ht⟩) hw.2.2.2.2 hdg hlk)
theorem x_reti {P : Int32 → mp_M → Prop} {mc ms : Nat} {ty : FieldType} {v : Int32} (hQ : Q = MQ below (va_Qi P (mB E A) A) args s mc ms A) (hx : p.tables.exec = Jvm.exec) (hb : c.code = cc) (hr : meth.sig.returnType = some ty) (hlk : meth.locks = false) (hn : narrow ty (.int v) = .int v) (hw : mw E.1 vwCl A s.heap M H locs) (hc : cells ≤ mc) (hs : slots ≤ ms) (hdg : decode cc pc = .ok (.ireturn, 1)) (hP : P v M) : W p l e R s m args below meth c H locs cells slots Q (F0 m pc ls [.int v]) := by
  subst hQ
  exact W.widen hc hs (W.zret hx hb hr hn (fun t ht hW => ⟨⟨v, M, rfl, hP, by rw [ht]; exact hw.1, hw.2.1⟩, hw.2.2.F ht⟩) hw.2.2.2.2 hdg hlk)
theorem x_retl {P : Int64 → mp_M → Prop} {mc ms : Nat} {v : Int64} (hQ : Q = MQ below (va_Ql P (mB E A) A) args s mc ms A) (hx : p.tables.exec = Jvm.exec) (hb : c.code = cc) (hr : meth.sig.returnType = some .long) (hlk : meth.locks = false) (hw : mw E.1 vwCl A s.heap M H locs) (hc : cells ≤ mc) (hs : slots ≤ ms) (hdg : decode cc pc = .ok (.lreturn, 1)) (hP : P v M) : W p l e R s m args below meth c H locs cells slots Q (F0 m pc ls [.long v]) := by
  subst hQ
  exact W.widen hc hs (W.lret hx hb hr (fun t ht hW => ⟨⟨v, M, rfl, hP, by rw [ht]; exact hw.1, hw.2.1⟩, hw.2.2.F ht⟩) hw.2.2.2.2 hdg hlk)
theorem x_retq {P : Option Nat → mp_M → Prop} {mc ms : Nat} {C : String} {v : Option Nat} (hQ : Q = MQ below (va_Qq P (mB E A) A) args s mc ms A) (hx : p.tables.exec = Jvm.exec) (hb : c.code = cc) (hr : meth.sig.returnType = some (.object C)) (hlk : meth.locks = false) (hw : mw E.1 vwCl A s.heap M H locs) (hc : cells ≤ mc) (hs : slots ≤ ms) (hdg : decode cc pc = .ok (.areturn, 1)) (hP : P v M) : W p l e R s m args below meth c H locs cells slots Q (F0 m pc ls [va_rf v]) := by
  subst hQ
  exact W.widen hc hs (W.aret hx hb hr (Or.inl ⟨C, rfl⟩) (va_rf_or v) (fun t ht hW => ⟨⟨v, M, rfl, hP, by rw [ht]; exact hw.1, hw.2.1⟩, hw.2.2.F ht⟩) hw.2.2.2.2 hdg hlk)
theorem x_retr {P : Option Nat → mp_M → Prop} {mc ms : Nat} {C : String} {v : Nat} (hQ : Q = MQ below (va_Qq P (mB E A) A) args s mc ms A) (hx : p.tables.exec = Jvm.exec) (hb : c.code = cc) (hr : meth.sig.returnType = some (.object C)) (hlk : meth.locks = false) (hw : mw E.1 vwCl A s.heap M H locs) (hc : cells ≤ mc) (hs : slots ≤ ms) (hdg : decode cc pc = .ok (.areturn, 1)) (hP : P (some v) M) : W p l e R s m args below meth c H locs cells slots Q (F0 m pc ls [.ref v]) := by
  subst hQ
  exact x_retq (v := some v) rfl hx hb hr hlk hw hc hs hdg hP
section
variable {mc ms : Nat}
theorem m_callv {P : mp_M → Prop} (hr : va_Run p l e R s m args below meth c H locs cells slots mc ms (F0 m pc ls st0) rest (va_Qv P (mB E A1) A1 a) A1) (hw : mw E.1 vwCl A H0 M H locs) (hA1 : ∀ q, A1 q → A q)
    (kk : ∀ (M' : mp_M) (H1 : Heap) (locs1 : List Loc), P M' → mw E.1 vwCl A H0 M' H1 locs1 → W p l e R s m args below meth c H1 locs1 (cells + mc) (slots + ms) Q (F0 m (pc + 3) ls rest)) : W p l e R s m args below meth c H locs cells slots Q (F0 m pc ls st0) :=
  va_callv hr hw.2.2 (fun q _ h => hA1 q h) hA1 (fun u t H1 locs1 ht hvm hp hB hz hk hS => kk u H1 locs1 hp ⟨by rw [← ht]; exact hB.1, fun a ha => hA1 a (hB.2 a ha), hS⟩)
theorem m_calli {P : Int32 → mp_M → Prop} (hr : va_Run p l e R s m args below meth c H locs cells slots mc ms (F0 m pc ls st0) rest (va_Qi P (mB E A1) A1 a) A1) (hw : mw E.1 vwCl A H0 M H locs) (hA1 : ∀ q, A1 q → A q)
    (kk : ∀ (r : Int32) (M' : mp_M) (H1 : Heap) (locs1 : List Loc), P r M' → mw E.1 vwCl A H0 M' H1 locs1 → W p l e R s m args below meth c H1 locs1 (cells + mc) (slots + ms) Q (F0 m (pc + 3) ls (.int r :: rest))) : W p l e R s m args below meth c H locs cells slots Q (F0 m pc ls st0) :=
  va_calli hr hw.2.2 (fun q _ h => hA1 q h) hA1 (fun r u t H1 locs1 ht hvm hp hB hz hk hS => kk r u H1 locs1 hp ⟨by rw [← ht]; exact hB.1, fun a ha => hA1 a (hB.2 a ha), hS⟩)
theorem m_calll {P : Int64 → mp_M → Prop} (hr : va_Run p l e R s m args below meth c H locs cells slots mc ms (F0 m pc ls st0) rest (va_Ql P (mB E A1) A1 a) A1) (hw : mw E.1 vwCl A H0 M H locs) (hA1 : ∀ q, A1 q → A q)
    (kk : ∀ (r : Int64) (M' : mp_M) (H1 : Heap) (locs1 : List Loc), P r M' → mw E.1 vwCl A H0 M' H1 locs1 → W p l e R s m args below meth c H1 locs1 (cells + mc) (slots + ms) Q (F0 m (pc + 3) ls (.long r :: rest))) : W p l e R s m args below meth c H locs cells slots Q (F0 m pc ls st0) :=
  va_calll hr hw.2.2 (fun q _ h => hA1 q h) hA1 (fun r u t H1 locs1 ht hvm hp hB hz hk hS => kk r u H1 locs1 hp ⟨by rw [← ht]; exact hB.1, fun a ha => hA1 a (hB.2 a ha), hS⟩)
theorem m_callq {P : Option Nat → mp_M → Prop} (hr : va_Run p l e R s m args below meth c H locs cells slots mc ms (F0 m pc ls st0) rest (va_Qq P (mB E A1) A1 a) A1) (hw : mw E.1 vwCl A H0 M H locs) (hA1 : ∀ q, A1 q → A q)
    (kk : ∀ (r : Option Nat) (M' : mp_M) (H1 : Heap) (locs1 : List Loc), P r M' → mw E.1 vwCl A H0 M' H1 locs1 → W p l e R s m args below meth c H1 locs1 (cells + mc) (slots + ms) Q (F0 m (pc + 3) ls (va_rf r :: rest))) : W p l e R s m args below meth c H locs cells slots Q (F0 m pc ls st0) :=
  va_callq hr hw.2.2 (fun q _ h => hA1 q h) hA1 (fun r u t H1 locs1 ht hvm hp hB hz hk hS => kk r u H1 locs1 hp ⟨by rw [← ht]; exact hB.1, fun a ha => hA1 a (hB.2 a ha), hS⟩)
end
theorem m_blind {as : List Value} {sz : Nat} : FrameBlind (mPc E as M sz) := by
  intro a U g mk q
  obtain ⟨h1, h2, h3, h4⟩ := q
  exact ⟨h1, h2, h3, EN.vm (u := U) (U := U.calling g mk a) rfl h4⟩
theorem m_pre {As : List Value} (hE : EN E A s s.heap) (hA : ∀ q, s.heap.size ≤ q → A q) (hw : mw E.1 vwCl A s.heap M H locs) : PreS s H (mPc E As M H.size) As :=
  ⟨m_blind, fun U hU hW => ⟨rfl, by rw [hU], by rw [hU]; exact hw.1, by rw [hU]; exact EN.warm hW (EN.kept hE hw.2.2 (mfr_in hw hA))⟩⟩
theorem good_in {y : MethodName} {cd : ByteArray} {nl : Nat} {rt : Option FieldType} (h4 : Cond.code y cd nl rt ∈ WALL) : GoodIn WALL (.code y cd nl rt :: WALL) := by
  intro w h
  rcases List.mem_cons.mp h with rfl | h
  · exact ⟨h4, Or.inl rfl⟩
  · exact ⟨h, good_of_word (WALL_good w h)⟩
section
variable {y : MethodName} {cd : ByteArray} {nl nL mc ms n index : Nat} {rt : Option FieldType} {rm : Room} {Qc : Array Value → State → Outcome → State → Prop} {free : Addr → Prop} {own : String} {As : List Value} {b ci : Nat}
theorem k_S (F : CallFix p m c cc nL s args WALL own) (hE : EN E A s s.heap) (hA : ∀ q, s.heap.size ≤ q → A q) (hw : mw E.1 vwCl A s.heap M H locs) (hM : Met l y (.code y cd nl rt :: WALL) rm (mPc E As M H.size) Qc mc ms free) (h1 : Cond.methodLink own index y ∈ WALL) (h2 : Cond.static y ∈ WALL) (h3 : Cond.initialized y.cls ∈ WALL) (h4 : Cond.code y cd nl rt ∈ WALL) (hrc : rm.cells = mc) (hrs : rm.slots = ms)
    (hd : y.cls ≠ "java/lang/invoke/MethodHandle" ∧ y.cls ≠ "java/lang/invoke/VarHandle" ∧ (parseMethodDescriptor y.desc).map (fun d => d.parameters.length) = some n) (hR : rm.frames + 1 ≤ R.frames ∧ 8 + (nl + 11) + rm.locals ≤ R.locals) (hn : As.length = n) (hsize : ls.size = nL) (hst : st0 = As.reverse ++ rest) (hW : (rest.map fun v => v.category).sum ≤ 8) (hdg : decode cc pc = .ok (.invokestatic index, 3)) (hf : cells + mc ≤ R.cells ∧ slots + ms ≤ R.slots) :
    va_Run p l e R s m args below meth c H locs cells slots mc ms (F0 m pc ls st0) rest (Qc As.toArray) free := by
  have ht := F.2.2.2.2
  exact va_runS F hM ⟨callB_of n ht (good_in h4) rfl hrc hrs (ht _ h3) (ht _ h1) hd hR, ht _ h2⟩ (m_pre hE hA hw) rfl hn hsize hst (lv_room hW) hdg hf
theorem k_V (F : CallFix p m c cc nL s args WALL own) (hE : EN E A s s.heap) (hA : ∀ q, s.heap.size ≤ q → A q) (hw : mw E.1 vwCl A s.heap M H locs) (hM : Met l y (.code y cd nl rt :: WALL) rm (mPc E (.ref b :: As) M H.size) Qc mc ms free) {q : vw_C} {fs : List Value} (hc : vwCl[ci]? = some q) (hq : q.1 = y.cls) (he : M b = some (.inr (ci, fs))) (h1 : Cond.methodLink own index y ∈ WALL) (h2 : Cond.instanceMethod y ∈ WALL) (h5 : Cond.selects y.cls y y ∈ WALL) (h3 : Cond.initialized y.cls ∈ WALL) (h4 : Cond.code y cd nl rt ∈ WALL) (hrc : rm.cells = mc) (hrs : rm.slots = ms)
    (hd : y.cls ≠ "java/lang/invoke/MethodHandle" ∧ y.cls ≠ "java/lang/invoke/VarHandle" ∧ (parseMethodDescriptor y.desc).map (fun d => d.parameters.length) = some n) (hR : rm.frames + 1 ≤ R.frames ∧ 8 + (nl + 11) + rm.locals ≤ R.locals) (hn : As.length = n) (hsize : ls.size = nL) (hst : st0 = As.reverse ++ .ref b :: rest) (hW : (rest.map fun v => v.category).sum ≤ 8) (hdg : decode cc pc = .ok (.invokevirtual index, 3)) (hf : cells + mc ≤ R.cells ∧ slots + ms ≤ R.slots) :
    va_Run p l e R s m args below meth c H locs cells slots mc ms (F0 m pc ls st0) rest (Qc (.ref b :: As).toArray) free := by
  have ht := F.2.2.2.2
  have hp := m_pre (As := .ref b :: As) hE hA hw
  exact va_runV (C := y.cls) F hM ⟨callB_of n ht (good_in h4) rfl hrc hrs (ht _ h3) (ht _ h1) hd hR, ht _ h2, ht _ h5⟩ ⟨hp.1, by rw [← hq]; exact m_recv hE.1 hw hc he, hp.2⟩ rfl hn hsize hst (lv_room hW) hdg hf
theorem k_I (F : CallFix p m c cc nL s args WALL own) (hE : EN E A s s.heap) (hA : ∀ q, s.heap.size ≤ q → A q) (hw : mw E.1 vwCl A s.heap M H locs) (hM : Met l y (.code y cd nl none :: WALL) rm (mPc E (.ref b :: As) M H.size) Qc mc ms free) (h1 : Cond.methodLink own index y ∈ WALL) (h2 : Cond.instanceMethod y ∈ WALL) (h3 : Cond.initialized y.cls ∈ WALL) (h4 : Cond.code y cd nl none ∈ WALL) (h6 : y.name = "<init>") (hrc : rm.cells = mc) (hrs : rm.slots = ms)
    (hd : y.cls ≠ "java/lang/invoke/MethodHandle" ∧ y.cls ≠ "java/lang/invoke/VarHandle" ∧ (parseMethodDescriptor y.desc).map (fun d => d.parameters.length) = some n) (hR : rm.frames + 1 ≤ R.frames ∧ 8 + (nl + 11) + rm.locals ≤ R.locals) (hn : As.length = n) (hsize : ls.size = nL) (hst : st0 = As.reverse ++ .ref b :: rest) (hW : (rest.map fun v => v.category).sum ≤ 8) (hdg : decode cc pc = .ok (.invokespecial index, 3)) (hf : cells + mc ≤ R.cells ∧ slots + ms ≤ R.slots) :
    va_Run p l e R s m args below meth c H locs cells slots mc ms (F0 m pc ls st0) rest (Qc (.ref b :: As).toArray) free := by
  have ht := F.2.2.2.2
  exact va_runI F hM ⟨callB_of n ht (good_in h4) rfl hrc hrs (ht _ h3) (ht _ h1) hd hR, h6, ht _ h2⟩ (m_pre hE hA hw) rfl hn hsize hst (lv_room hW) hdg hf
end
end CT
