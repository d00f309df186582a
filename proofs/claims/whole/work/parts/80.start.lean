/-! the law's start: what its tables give; calls beside a second map -/
section LS
theorem lt1 (i : Nat) {w : Cond} (h : tables_1_1[i]? = some w) : w ∈ lw_tbl := List.mem_append_right _ (List.mem_append_left _ (List.mem_of_getElem? h))
theorem lt2 (i : Nat) {w : Cond} (h : tables_1_2[i]? = some w) : w ∈ lw_tbl := List.mem_append_right _ (List.mem_append_right _ (List.mem_append_left _ (List.mem_of_getElem? h)))
theorem lt3 (i : Nat) {w : Cond} (h : tables_1_3[i]? = some w) : w ∈ lw_tbl := List.mem_append_right _ (List.mem_append_right _ (List.mem_append_right _ (List.mem_append_left _ (List.mem_of_getElem? h))))
theorem lt4 (i : Nat) {w : Cond} (h : tables_1_4[i]? = some w) : w ∈ lw_tbl := List.mem_append_right _ (List.mem_append_right _ (List.mem_append_right _ (List.mem_append_right _ (List.mem_of_getElem? h))))
theorem ar_obj {s : State} {C : String} (h : va_AO C s) : ∃ cA : ClassId, ArrOfT s cA (.object C) ∧ va_RA s cA (.object C) := by
  obtain ⟨comp, c, k, h1, h2, h3, h4, h5⟩ := Cond.arrayOver_spec h
  exact ⟨c, fun N z => ⟨(fun k h => by cases h), k, h3, comp, h4⟩, k, comp, h3, h4, h1, h5⟩
theorem ar_prm {s : State} {A : Array Value} {ty : FieldType} (h : (Cond.arrayClass ty).before A s = true) : ∃ cA : ClassId, ArrOfT s cA ty ∧ s.vm.findClass ("[" ++ ty.toString) = some cA := by
  obtain ⟨c, k, comp, h1, h2, h3⟩ := Cond.arrayClass_spec h
  exact ⟨c, fun N z => ⟨(fun k h => by cases h), k, h2, comp, h3⟩, h1⟩
theorem len_eqi {args : Array Value} {s : State} {tm : Term} {z : Int32} (h : (Cond.eq tm (.int z)).before args s = true) : tm.eval args s none [] s = some (.int z) := by
  cases hv : tm.eval args s none [] s with
  | none => simp [Cond.before, Cond.holds, Cond.value, hv] at h
  | some w =>
    have hz : (Term.int z).eval args s none [] s = some (.int z) := rfl
    simp only [Cond.before, Cond.holds, Cond.value, hv, hz] at h
    cases w <;> simp_all
def e9 {α : Type} (a0 a1 a2 a3 a4 a5 a6 a7 a8 a9 : α) : Nat → α
  | 0 => a0 | 1 => a1 | 2 => a2 | 3 => a3 | 4 => a4 | 5 => a5 | 6 => a6 | 7 => a7 | 8 => a8 | _ => a9
theorem en_start {s : State} {b : Nat} (hts : ∀ w ∈ lw_tbl, w.before #[Value.ref b] s = true) (hg : (Jvm.Cond.and given_1 narrow_1).before #[Value.ref b] s = true) : ∃ E : Ev, EN E (fun q => s.heap.size ≤ q) s s.heap := by
  have hW : ∀ w ∈ WALL, w.before #[Value.ref b] s = true := fun w h => hts w (WALL_in w h)
  have hA : ∀ a : Nat, a < s.heap.size → ¬ (fun q => s.heap.size ≤ q) a := fun a h1 h2 => absurd h1 (Nat.not_lt.mpr h2)
  obtain ⟨c0, i0, k0⟩ := u_known hW ci_T.2.1 (hts (.instantiable "TreeRevisions" 6) (lt1 20 rfl))
  obtain ⟨c1, i1, k1⟩ := u_known hW ci_Tr.2.1 (hts (.instantiable "TreeRevisions$Tree" 1) (lt1 72 rfl))
  obtain ⟨c2, i2, k2⟩ := u_known hW ci_Tx.2.1 (hts (.instantiable "TreeRevisions$Transaction" 3) (lt1 83 rfl))
  obtain ⟨c3, i3, k3⟩ := u_known hW ci_N.2.1 (hts (.instantiable "TreeRevisions$Node" 10) (lt1 104 rfl))
  obtain ⟨c4, i4, k4⟩ := u_known hW ci_Te.2.1 (hts (.instantiable "TreeRevisions$Text" 2) (lt1 58 rfl))
  obtain ⟨c5, i5, k5⟩ := u_known hW ci_Rp.2.1 (hts (.instantiable "TreeRevisions$Representation" 4) (lt2 144 rfl))
  obtain ⟨c6, i6, k6⟩ := u_known hW ci_Me.2.1 (hts (.instantiable "TreeRevisions$Merge" 3) (lt2 55 rfl))
  obtain ⟨c7, i7, k7⟩ := u_known hW ci_AL.2.1 (hts (.instantiable "java/util/ArrayList" 3) (lt1 32 rfl))
  obtain ⟨c8, i8, k8⟩ := u_known hW ci_M.2.1 (hts (.instantiable "TreeRevisionsModel" 21) (lt3 67 rfl))
  have o1 : va_AO "TreeRevisions$Tree" s := va_AO.of (hts _ (lt1 28 rfl))
  have o2 : va_AO "TreeRevisions$Transaction" s := va_AO.of (hts _ (lt1 30 rfl))
  have o0 : va_AO "TreeRevisions$Node" s := va_AO.of (hts _ (lt1 78 rfl))
  have o3 : va_AO "java/lang/Object" s := va_AO.of (hts _ (lt2 228 rfl))
  obtain ⟨a0, p0, q0⟩ := ar_obj o0
  obtain ⟨a1, p1, q1⟩ := ar_obj o1
  obtain ⟨a2, p2, q2⟩ := ar_obj o2
  obtain ⟨a3, p3, q3⟩ := ar_obj o3
  obtain ⟨a4, p4, q4⟩ := ar_prm (hts (.arrayClass .short) (lt3 136 rfl))
  obtain ⟨a5, p5, q5⟩ := ar_prm (hts (.arrayClass .byte) (lt3 139 rfl))
  obtain ⟨a6, p6, q6⟩ := ar_prm (hts (.arrayClass .boolean) (lt3 137 rfl))
  obtain ⟨a7, p7, q7⟩ := ar_prm (hts (.arrayClass .int) (lt3 138 rfl))
  obtain ⟨a8, p8, q8⟩ := ar_prm (hts (.arrayClass .long) (lt3 140 rfl))
  have hs := flat_of_before _ hg
  have harr : (Cond.arrayOf (.static "java/util/ArrayList" "DEFAULTCAPACITY_EMPTY_ELEMENTDATA" "[Ljava/lang/Object;") (.object "java/lang/Object")).before #[Value.ref b] s = true := hs _ (by decide +kernel)
  have hlen : (Cond.eq (.length (.static "java/util/ArrayList" "DEFAULTCAPACITY_EMPTY_ELEMENTDATA" "[Ljava/lang/Object;")) (.int 0)).before #[Value.ref b] s = true := hs _ (by decide +kernel)
  have hmir : (Cond.isRef (.mirror "[Ljava/lang/Object;")).before #[Value.ref b] s = true := hs _ (by decide +kernel)
  obtain ⟨mi, hmi⟩ := va_Mi.of hmir
  obtain ⟨t, ht, hT⟩ := va_Tof (N := 0) (f := fun _ => .null) (A := fun q => s.heap.size ≤ q) (by decide) harr (len_eqi hlen) (fun j h => absurd h (Nat.not_lt_zero _)) hA
  have hZ := va_Zref (hts _ (lt1 44 rfl)) (hts _ (lt1 4 rfl)) ht hA
  refine ⟨((e9 c0 c1 c2 c3 c4 c5 c6 c7 c8 c8, e9 i0 i1 i2 i3 i4 i5 i6 i7 i8 i8), e9 a0 a1 a2 a3 a4 a5 a6 a7 a8 mi, t), ⟨fun c q hq => ?_, fun k q hk => ?_⟩, ⟨⟨va_Nw.of rfl (hts _ (lt1 73 rfl)), va_Nw.of rfl (hts _ (lt1 84 rfl)), va_Nw.of rfl (hts _ (lt1 89 rfl)), va_Nw.of rfl (hts _ (lt1 218 rfl)), va_Nw.of rfl (hts _ (lt2 70 rfl)), va_Nw.of rfl (hts _ (lt2 83 rfl)), va_Nw.of rfl (hts _ (lt2 91 rfl))⟩, ⟨o1, o2, o0, o3⟩, ⟨va_Nw.of rfl (hts _ (lt4 74 rfl)), va_Nw.of rfl (hts _ (lt4 85 rfl))⟩, hmi, va_Dc.of (hts _ (lt4 77 rfl))⟩, hZ, hT⟩
  · match c, hq with
    | 0, hq => cases hq.symm.trans ci_T.1; exact k0
    | 1, hq => cases hq.symm.trans ci_Tr.1; exact k1
    | 2, hq => cases hq.symm.trans ci_Tx.1; exact k2
    | 3, hq => cases hq.symm.trans ci_N.1; exact k3
    | 4, hq => cases hq.symm.trans ci_Te.1; exact k4
    | 5, hq => cases hq.symm.trans ci_Rp.1; exact k5
    | 6, hq => cases hq.symm.trans ci_Me.1; exact k6
    | 7, hq => cases hq.symm.trans ci_AL.1; exact k7
    | 8, hq => cases hq.symm.trans ci_M.1; exact k8
    | c + 9, hq => exact absurd (List.getElem?_eq_some_iff.mp hq).1 (by show ¬ c + 9 < 9; omega)
  · match k, hk with
    | 0, hk => cases hk; exact ⟨p0, q0⟩
    | 1, hk => cases hk; exact ⟨p1, q1⟩
    | 2, hk => cases hk; exact ⟨p2, q2⟩
    | 3, hk => cases hk; exact ⟨p3, q3⟩
    | 4, hk => cases hk; exact ⟨p4, q4⟩
    | 5, hk => cases hk; exact ⟨p5, q5⟩
    | 6, hk => cases hk; exact ⟨p6, q6⟩
    | 7, hk => cases hk; exact ⟨p7, q7⟩
    | 8, hk => cases hk; exact ⟨p8, q8⟩
    | k + 9, hk => exact absurd (List.getElem?_eq_some_iff.mp hk).1 (by show ¬ k + 9 < 9; omega)
variable {p : Program} {l : Launch} {e : Env} {R : Room} {s : State} {m : MethodId} {args : Array Value} {below : List Frame} {meth : Method} {c : Code} {H : Heap} {locs : List Loc} {cells slots : Nat} {Q : State → Prop}
variable {pc : Nat} {ls : Array Slot} {rest st0 : List Value} {E : Ev} {A : Nat → Prop} {M M2 : mp_M} {H0 : Heap} {a : Array Value} {mc ms : Nat}
/-- a smaller map -/
theorem mw_sub {M' : mp_M} (hw : mw E.1 vwCl A H0 M H locs) (h : ∀ q e, M' q = some e → M q = some e) : mw E.1 vwCl A H0 M' H locs := by
  refine ⟨fun q e hq => hw.1 q e (h q e hq), fun q hq => ?_, hw.2.2⟩
  cases hm : M' q with
  | none => exact absurd hm hq
  | some e => exact hw.2.1 q (by rw [h q e hm]; exact fun z => by cases z)
/-- no cell of both -/
def mdj (M M2 : mp_M) : Prop := ∀ q, M2 q ≠ none → M q = none
theorem mdj.symm (h : mdj M M2) : mdj M2 M := by
  intro q hq
  cases hm : M2 q with
  | none => rfl
  | some e => exact absurd (h q (by rw [hm]; exact fun z => by cases z)) hq
theorem mdj_keep {M' : mp_M} {H1 : Heap} {locs1 : List Loc} (hw2 : mw E.1 vwCl A H0 M2 H locs) (hd : mdj M M2) (hB : ∀ q, M' q ≠ none → mfr M H.size q) (hk : ∀ q : Nat, q < H.size → ¬ mfr M H.size q → H1[q]? = H[q]?) (hS : va_S A H0 H1 locs1) : mw E.1 vwCl A H0 M2 H1 locs1 ∧ mdj M' M2 := by
  have hn : ∀ q, M2 q ≠ none → ¬ mfr M H.size q := by
    intro q hq h
    rcases h with h | h
    · exact h (hd q hq)
    · exact absurd (mp_ltn hw2.1 hq) (Nat.not_lt.mpr h)
  refine ⟨⟨fun q e hq => ?_, hw2.2.1, hS⟩, fun q hq => ?_⟩
  · have hq' : M2 q ≠ none := by rw [hq]; exact fun z => by cases z
    exact (hw2.1 q e hq).kept (hk q (mp_ltn hw2.1 hq') (hn q hq'))
  · cases hm : M' q with
    | none => rfl
    | some e => exact absurd (hB q (by rw [hm]; exact fun z => by cases z)) (hn q hq)
theorem f_callv {P : mp_M → Prop} (hr : va_Run p l e R s m args below meth c H locs cells slots mc ms (F0 m pc ls st0) rest (va_Qv P (mB E (mfr M H.size)) (mfr M H.size) a) (mfr M H.size)) (hw : mw E.1 vwCl A H0 M H locs) (hA : ∀ q, H0.size ≤ q → A q) (hw2 : mw E.1 vwCl A H0 M2 H locs) (hd : mdj M M2)
    (kk : ∀ (M' : mp_M) (H1 : Heap) (locs1 : List Loc), P M' → mw E.1 vwCl A H0 M' H1 locs1 → mw E.1 vwCl A H0 M2 H1 locs1 → mdj M' M2 → W p l e R s m args below meth c H1 locs1 (cells + mc) (slots + ms) Q (F0 m (pc + 3) ls rest)) : W p l e R s m args below meth c H locs cells slots Q (F0 m pc ls st0) :=
  have hA1 := mfr_in hw hA
  va_callv hr hw.2.2 (fun q _ h => hA1 q h) hA1 (fun u t H1 locs1 ht hvm hp hB hz hk hS => by
    obtain ⟨g1, g2⟩ := mdj_keep hw2 hd hB.2 hk hS
    exact kk u H1 locs1 hp ⟨by rw [← ht]; exact hB.1, fun a ha => hA1 a (hB.2 a ha), hS⟩ g1 g2)
theorem f_calli {P : Int32 → mp_M → Prop} (hr : va_Run p l e R s m args below meth c H locs cells slots mc ms (F0 m pc ls st0) rest (va_Qi P (mB E (mfr M H.size)) (mfr M H.size) a) (mfr M H.size)) (hw : mw E.1 vwCl A H0 M H locs) (hA : ∀ q, H0.size ≤ q → A q) (hw2 : mw E.1 vwCl A H0 M2 H locs) (hd : mdj M M2)
    (kk : ∀ (r : Int32) (M' : mp_M) (H1 : Heap) (locs1 : List Loc), P r M' → mw E.1 vwCl A H0 M' H1 locs1 → mw E.1 vwCl A H0 M2 H1 locs1 → mdj M' M2 → W p l e R s m args below meth c H1 locs1 (cells + mc) (slots + ms) Q (F0 m (pc + 3) ls (.int r :: rest))) : W p l e R s m args below meth c H locs cells slots Q (F0 m pc ls st0) :=
  have hA1 := mfr_in hw hA
  va_calli hr hw.2.2 (fun q _ h => hA1 q h) hA1 (fun r u t H1 locs1 ht hvm hp hB hz hk hS => by
    obtain ⟨g1, g2⟩ := mdj_keep hw2 hd hB.2 hk hS
    exact kk r u H1 locs1 hp ⟨by rw [← ht]; exact hB.1, fun a ha => hA1 a (hB.2 a ha), hS⟩ g1 g2)
theorem f_calll {P : Int64 → mp_M → Prop} (hr : va_Run p l e R s m args below meth c H locs cells slots mc ms (F0 m pc ls st0) rest (va_Ql P (mB E (mfr M H.size)) (mfr M H.size) a) (mfr M H.size)) (hw : mw E.1 vwCl A H0 M H locs) (hA : ∀ q, H0.size ≤ q → A q) (hw2 : mw E.1 vwCl A H0 M2 H locs) (hd : mdj M M2)
    (kk : ∀ (r : Int64) (M' : mp_M) (H1 : Heap) (locs1 : List Loc), P r M' → mw E.1 vwCl A H0 M' H1 locs1 → mw E.1 vwCl A H0 M2 H1 locs1 → mdj M' M2 → W p l e R s m args below meth c H1 locs1 (cells + mc) (slots + ms) Q (F0 m (pc + 3) ls (.long r :: rest))) : W p l e R s m args below meth c H locs cells slots Q (F0 m pc ls st0) :=
  have hA1 := mfr_in hw hA
  va_calll hr hw.2.2 (fun q _ h => hA1 q h) hA1 (fun r u t H1 locs1 ht hvm hp hB hz hk hS => by
    obtain ⟨g1, g2⟩ := mdj_keep hw2 hd hB.2 hk hS
    exact kk r u H1 locs1 hp ⟨by rw [← ht]; exact hB.1, fun a ha => hA1 a (hB.2 a ha), hS⟩ g1 g2)
end LS
