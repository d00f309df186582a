/-! the reference's cells: ad 0 is the object, ad (f + 1) the array of field f -/
section RF
def rfF (σ : SS) (ad : Nat → Nat) : List Value := [.ref (ad 1), .int (nI (σ 1 0)), .ref (ad 3), .ref (ad 4), .int (nI (σ 4 0)), .int (nI (σ 5 0)), .ref (ad 7), .ref (ad 8), .ref (ad 9), .ref (ad 10), .ref (ad 11), .ref (ad 12), .ref (ad 13), .ref (ad 14), .ref (ad 15), .ref (ad 16), .int (nI (σ 16 0)), .ref (ad 18), .ref (ad 19), .ref (ad 20), .ref (ad 21)]
def rc_0 (E : Ev) (g : Nat → Nat) : va_E := .inl (E.2.1 4, 2375, .inl (fun j => nI (g j)))
def rc_2 (E : Ev) (g : Nat → Nat) : va_E := .inl (E.2.1 6, 3, .inl (fun j => nI (g j)))
def rc_3 (E : Ev) (g : Nat → Nat) : va_E := .inl (E.2.1 7, 3, .inl (fun j => nI (g j)))
def rc_6 (E : Ev) (g : Nat → Nat) : va_E := .inl (E.2.1 5, 1300, .inl (fun j => nI (g j)))
def rc_7 (E : Ev) (g : Nat → Nat) : va_E := .inl (E.2.1 5, 1300, .inl (fun j => nI (g j)))
def rc_8 (E : Ev) (g : Nat → Nat) : va_E := .inl (E.2.1 6, 1300, .inl (fun j => nI (g j)))
def rc_9 (E : Ev) (g : Nat → Nat) : va_E := .inl (E.2.1 8, 1300, .inr (.inl (fun j => lN (g j))))
def rc_10 (E : Ev) (g : Nat → Nat) : va_E := .inl (E.2.1 4, 1300, .inl (fun j => nI (g j)))
def rc_11 (E : Ev) (g : Nat → Nat) : va_E := .inl (E.2.1 4, 1300, .inl (fun j => nI (g j)))
def rc_12 (E : Ev) (g : Nat → Nat) : va_E := .inl (E.2.1 5, 1300, .inl (fun j => bI (g j)))
def rc_13 (E : Ev) (g : Nat → Nat) : va_E := .inl (E.2.1 4, 1300, .inl (fun j => nI (g j)))
def rc_14 (E : Ev) (g : Nat → Nat) : va_E := .inl (E.2.1 4, 1300, .inl (fun j => nI (g j)))
def rc_15 (E : Ev) (g : Nat → Nat) : va_E := .inl (E.2.1 4, 1300, .inl (fun j => nI (g j)))
def rc_17 (E : Ev) (g : Nat → Nat) : va_E := .inl (E.2.1 8, 512, .inr (.inl (fun j => lN (g j))))
def rc_18 (E : Ev) (g : Nat → Nat) : va_E := .inl (E.2.1 5, 512, .inl (fun j => nI (g j)))
def rc_19 (E : Ev) (g : Nat → Nat) : va_E := .inl (E.2.1 4, 512, .inl (fun j => nI (g j)))
def rc_20 (E : Ev) (g : Nat → Nat) : va_E := .inl (E.2.1 5, 512, .inl (fun j => nI (g j)))
def rfE (E : Ev) (σ : SS) (ad : Nat → Nat) : Nat → Option va_E
  | 0 => some (.inr (8, rfF σ ad))
  | 1 => some (rc_0 E (σ 0))
  | 3 => some (rc_2 E (σ 2))
  | 4 => some (rc_3 E (σ 3))
  | 7 => some (rc_6 E (σ 6))
  | 8 => some (rc_7 E (σ 7))
  | 9 => some (rc_8 E (σ 8))
  | 10 => some (rc_9 E (σ 9))
  | 11 => some (rc_10 E (σ 10))
  | 12 => some (rc_11 E (σ 11))
  | 13 => some (rc_12 E (σ 12))
  | 14 => some (rc_13 E (σ 13))
  | 15 => some (rc_14 E (σ 14))
  | 16 => some (rc_15 E (σ 15))
  | 18 => some (rc_17 E (σ 17))
  | 19 => some (rc_18 E (σ 18))
  | 20 => some (rc_19 E (σ 19))
  | 21 => some (rc_20 E (σ 20))
  | _ => none
def rfx (ad : Nat → Nat) (a : Nat) : Option Nat := (List.range 22).find? (fun i => ad i == a)
def rfM (E : Ev) (σ : SS) (ad : Nat → Nat) : mp_M := fun a => (rfx ad a).bind (rfE E σ ad)
def rfI (ad : Nat → Nat) : Prop := ∀ i j, i < 22 → j < 22 → ad i = ad j → i = j
theorem rfx_at {ad : Nat → Nat} (h : rfI ad) {i : Nat} (hi : i < 22) : rfx ad (ad i) = some i := by
  unfold rfx
  cases hf : (List.range 22).find? (fun j => ad j == ad i) with
  | none =>
    have := List.find?_eq_none.mp hf i (List.mem_range.mpr hi)
    simp at this
  | some j =>
    have h1 := List.find?_some hf
    have h2 := List.mem_range.mp (List.mem_of_find?_eq_some hf)
    rw [h j i h2 hi (by simpa using h1)]
theorem rf_at {E : Ev} {σ : SS} {ad : Nat → Nat} (h : rfI ad) (i : Nat) (hi : i < 22) {e : va_E} (he : rfE E σ ad i = some e) : rfM E σ ad (ad i) = some e := by
  unfold rfM
  rw [rfx_at h hi]
  exact he
theorem rf_up {E : Ev} {σ σ' : SS} {ad : Nat → Nat} (h : rfI ad) {i : Nat} (hi : i < 22) {e : va_E} (he : rfE E σ' ad i = some e) (ho : ∀ j, j ≠ i → rfE E σ' ad j = rfE E σ ad j) : mp_up (rfM E σ ad) (ad i) e = rfM E σ' ad := by
  funext a
  by_cases ha : a = ad i
  · subst ha
    rw [mp_up_s]
    exact (rf_at h i hi he).symm
  · rw [mp_up_n ha]
    unfold rfM
    cases hx : rfx ad a with
    | none => rfl
    | some j =>
      have hj : j ≠ i := by
        rintro rfl
        have := List.find?_some hx
        simp at this
        exact ha this.symm
      exact (ho j hj).symm
theorem rfq_1 {E : Ev} {σ σ' : SS} {ad : Nat → Nat} (h : σ' 0 = σ 0) : rfE E σ' ad 1 = rfE E σ ad 1 := congrArg (fun g => some (rc_0 E g)) h
theorem rfq_3 {E : Ev} {σ σ' : SS} {ad : Nat → Nat} (h : σ' 2 = σ 2) : rfE E σ' ad 3 = rfE E σ ad 3 := congrArg (fun g => some (rc_2 E g)) h
theorem rfq_4 {E : Ev} {σ σ' : SS} {ad : Nat → Nat} (h : σ' 3 = σ 3) : rfE E σ' ad 4 = rfE E σ ad 4 := congrArg (fun g => some (rc_3 E g)) h
theorem rfq_7 {E : Ev} {σ σ' : SS} {ad : Nat → Nat} (h : σ' 6 = σ 6) : rfE E σ' ad 7 = rfE E σ ad 7 := congrArg (fun g => some (rc_6 E g)) h
theorem rfq_8 {E : Ev} {σ σ' : SS} {ad : Nat → Nat} (h : σ' 7 = σ 7) : rfE E σ' ad 8 = rfE E σ ad 8 := congrArg (fun g => some (rc_7 E g)) h
theorem rfq_9 {E : Ev} {σ σ' : SS} {ad : Nat → Nat} (h : σ' 8 = σ 8) : rfE E σ' ad 9 = rfE E σ ad 9 := congrArg (fun g => some (rc_8 E g)) h
theorem rfq_10 {E : Ev} {σ σ' : SS} {ad : Nat → Nat} (h : σ' 9 = σ 9) : rfE E σ' ad 10 = rfE E σ ad 10 := congrArg (fun g => some (rc_9 E g)) h
theorem rfq_11 {E : Ev} {σ σ' : SS} {ad : Nat → Nat} (h : σ' 10 = σ 10) : rfE E σ' ad 11 = rfE E σ ad 11 := congrArg (fun g => some (rc_10 E g)) h
theorem rfq_12 {E : Ev} {σ σ' : SS} {ad : Nat → Nat} (h : σ' 11 = σ 11) : rfE E σ' ad 12 = rfE E σ ad 12 := congrArg (fun g => some (rc_11 E g)) h
theorem rfq_13 {E : Ev} {σ σ' : SS} {ad : Nat → Nat} (h : σ' 12 = σ 12) : rfE E σ' ad 13 = rfE E σ ad 13 := congrArg (fun g => some (rc_12 E g)) h
theorem rfq_14 {E : Ev} {σ σ' : SS} {ad : Nat → Nat} (h : σ' 13 = σ 13) : rfE E σ' ad 14 = rfE E σ ad 14 := congrArg (fun g => some (rc_13 E g)) h
theorem rfq_15 {E : Ev} {σ σ' : SS} {ad : Nat → Nat} (h : σ' 14 = σ 14) : rfE E σ' ad 15 = rfE E σ ad 15 := congrArg (fun g => some (rc_14 E g)) h
theorem rfq_16 {E : Ev} {σ σ' : SS} {ad : Nat → Nat} (h : σ' 15 = σ 15) : rfE E σ' ad 16 = rfE E σ ad 16 := congrArg (fun g => some (rc_15 E g)) h
theorem rfq_18 {E : Ev} {σ σ' : SS} {ad : Nat → Nat} (h : σ' 17 = σ 17) : rfE E σ' ad 18 = rfE E σ ad 18 := congrArg (fun g => some (rc_17 E g)) h
theorem rfq_19 {E : Ev} {σ σ' : SS} {ad : Nat → Nat} (h : σ' 18 = σ 18) : rfE E σ' ad 19 = rfE E σ ad 19 := congrArg (fun g => some (rc_18 E g)) h
theorem rfq_20 {E : Ev} {σ σ' : SS} {ad : Nat → Nat} (h : σ' 19 = σ 19) : rfE E σ' ad 20 = rfE E σ ad 20 := congrArg (fun g => some (rc_19 E g)) h
theorem rfq_21 {E : Ev} {σ σ' : SS} {ad : Nat → Nat} (h : σ' 20 = σ 20) : rfE E σ' ad 21 = rfE E σ ad 21 := congrArg (fun g => some (rc_20 E g)) h
theorem rfn_2 {E : Ev} {σ : SS} {ad : Nat → Nat} : rfE E σ ad 2 = none := rfl
theorem rfn_5 {E : Ev} {σ : SS} {ad : Nat → Nat} : rfE E σ ad 5 = none := rfl
theorem rfn_6 {E : Ev} {σ : SS} {ad : Nat → Nat} : rfE E σ ad 6 = none := rfl
theorem rfn_17 {E : Ev} {σ : SS} {ad : Nat → Nat} : rfE E σ ad 17 = none := rfl
theorem rfE_big {E : Ev} {σ : SS} {ad : Nat → Nat} {j : Nat} (h : 22 ≤ j) : rfE E σ ad j = none := by
  obtain ⟨k, rfl⟩ : ∃ k, j = k + 22 := ⟨j - 22, by omega⟩
  rfl
theorem rfE_eq {E : Ev} {σ σ' : SS} {ad : Nat → Nat} (j : Nat) (h : j = 0 → σ' 1 = σ 1 ∧ σ' 4 = σ 4 ∧ σ' 5 = σ 5 ∧ σ' 16 = σ 16) (g : ∀ f, j = f + 1 → σ' f = σ f) : rfE E σ' ad j = rfE E σ ad j := by
  rcases (show j = 0 ∨ j = 1 ∨ j = 2 ∨ j = 3 ∨ j = 4 ∨ j = 5 ∨ j = 6 ∨ j = 7 ∨ j = 8 ∨ j = 9 ∨ j = 10 ∨ j = 11 ∨ j = 12 ∨ j = 13 ∨ j = 14 ∨ j = 15 ∨ j = 16 ∨ j = 17 ∨ j = 18 ∨ j = 19 ∨ j = 20 ∨ j = 21 ∨ 22 ≤ j by omega) with rfl | rfl | rfl | rfl | rfl | rfl | rfl | rfl | rfl | rfl | rfl | rfl | rfl | rfl | rfl | rfl | rfl | rfl | rfl | rfl | rfl | rfl | hj
  · obtain ⟨a, b, c, d⟩ := h rfl
    show some (Sum.inr (8, rfF σ' ad)) = some (Sum.inr (8, rfF σ ad))
    unfold rfF
    rw [a, b, c, d]
  · exact rfq_1 (g 0 rfl)
  · exact (rfn_2).trans (rfn_2).symm
  · exact rfq_3 (g 2 rfl)
  · exact rfq_4 (g 3 rfl)
  · exact (rfn_5).trans (rfn_5).symm
  · exact (rfn_6).trans (rfn_6).symm
  · exact rfq_7 (g 6 rfl)
  · exact rfq_8 (g 7 rfl)
  · exact rfq_9 (g 8 rfl)
  · exact rfq_10 (g 9 rfl)
  · exact rfq_11 (g 10 rfl)
  · exact rfq_12 (g 11 rfl)
  · exact rfq_13 (g 12 rfl)
  · exact rfq_14 (g 13 rfl)
  · exact rfq_15 (g 14 rfl)
  · exact rfq_16 (g 15 rfl)
  · exact (rfn_17).trans (rfn_17).symm
  · exact rfq_18 (g 17 rfl)
  · exact rfq_19 (g 18 rfl)
  · exact rfq_20 (g 19 rfl)
  · exact rfq_21 (g 20 rfl)
  · rw [rfE_big hj, rfE_big hj]
def rB (σ : SS) : Prop := ∀ f j, f ≠ 9 → f ≠ 17 → σ f j < 32768
theorem rB_sp {σ : SS} {f k v : Nat} (h : rB σ) (hv : v < 32768) : rB (sp σ f k v) := by
  intro g j h1 h2
  rw [sp_at]
  split
  · exact hv
  · exact h g j h1 h2
theorem rB_spL {σ : SS} {f k v : Nat} (h : rB σ) (hf : f = 9 ∨ f = 17) : rB (sp σ f k v) := by
  intro g j h1 h2
  rw [sp_at, if_neg (by omega)]
  exact h g j h1 h2
theorem rB_fil {σ : SS} {a b i : Nat} (h : rB σ) : rB (fil σ a b i) := rB_fil' h
theorem up_n {g : Nat → Nat} {k v : Nat} {x : Int32} (hx : x = nI v) : upd (fun j => nI (g j)) k x = fun j => nI (va_up g k v j) := by
  subst hx
  funext j
  simp only [upd, va_up]
  split <;> rfl
theorem up_b {g : Nat → Nat} {k v : Nat} {x : Int32} (hx : x = bI v) : upd (fun j => bI (g j)) k x = fun j => bI (va_up g k v j) := by
  subst hx
  funext j
  simp only [upd, va_up]
  split <;> rfl
theorem up_l {g : Nat → Nat} {k v : Nat} : vp_updL (fun j => lN (g j)) k (lN v) = fun j => lN (va_up g k v j) := by
  funext j
  simp only [vp_updL, va_up]
  split <;> rfl
theorem nar_bI {b : Nat} : vp_nar .byte (bI b) = bI b := pk_vb _
variable {p : Program} {l : Launch} {e : Env} {R : Room} {s : State} {m : MethodId} {args : Array Value} {below : List Frame} {meth : Method} {c : Code} {H : Heap} {locs : List Loc} {cells slots : Nat} {Q : State → Prop}
variable {cc : ByteArray} {pc : Nat} {ls : Array Slot} {rest : List Value} {E : Ev} {A : Nat → Prop} {H0 : Heap} {σ : SS} {ad : Nat → Nat}
theorem rl_0 (hx : p.tables.exec = Jvm.exec) (hb : c.code = cc) (hK : va_K E.1 vwCl (tysE E) s) (hI : rfI ad) (hB : rB σ) (hw : mw E.1 vwCl A H0 (rfM E σ ad) H locs) {i : Nat} (hi : i < 2375) (hdg : decode cc pc = .ok (.saload, 1))
    (kk : σ 0 i < 32768 → W p l e R s m args below meth c H locs cells slots Q (F0 m (pc + 1) ls (.int (nI (σ 0 i)) :: rest))) : W p l e R s m args below meth c H locs cells slots Q (F0 m pc ls (.int (nI i) :: .ref (ad 1) :: rest)) :=
  m_sald hx hb hK hw 4 (rf_at hI 1 (by decide) rfl) rfl hi (by decide) rfl hdg (kk (hB 0 i (by decide) (by decide)))
theorem rs_0 (hx : p.tables.exec = Jvm.exec) (hb : c.code = cc) (hK : va_K E.1 vwCl (tysE E) s) (hI : rfI ad) (hB : rB σ) (hw : mw E.1 vwCl A H0 (rfM E σ ad) H locs) {i v : Nat} (hi : i < 2375) (hv : v < 32768) (hdg : decode cc pc = .ok (.sastore, 1))
    (kk : ∀ (H1 : Heap) (locs1 : List Loc), mw E.1 vwCl A H0 (rfM E (sp σ 0 i v) ad) H1 locs1 → rB (sp σ 0 i v) → W p l e R s m args below meth c H1 locs1 cells slots Q (F0 m (pc + 1) ls rest)) : W p l e R s m args below meth c H locs cells slots Q (F0 m pc ls (.int (nI v) :: .int (nI i) :: .ref (ad 1) :: rest)) := by
  refine m_sast hx hb hK hw 4 (rf_at hI 1 (by decide) rfl) rfl hi (by decide) (up_n (nar_s hv)) hdg (fun H1 locs1 h => kk H1 locs1 ?_ (rB_sp hB (by omega)))
  rw [rf_up (E := E) (σ := σ) (σ' := sp σ 0 i v) (e := .inl (E.2.1 4, 2375, .inl (fun j => nI (va_up (σ 0) i v j)))) hI (by decide) rfl (fun j hj => rfE_eq j (fun _ => ⟨sp_o (by decide), sp_o (by decide), sp_o (by decide), sp_o (by decide)⟩) (fun g hg => sp_o (by omega)))] at h
  exact h
theorem rfE_s1 {E : Ev} {σ : SS} {ad : Nat → Nat} {v : Nat} (j : Nat) (hj : j ≠ 0) : rfE E (sp σ 1 0 v) ad j = rfE E σ ad j := by
  rcases (show j = 0 ∨ j = 1 ∨ j = 2 ∨ j = 3 ∨ j = 4 ∨ j = 5 ∨ j = 6 ∨ j = 7 ∨ j = 8 ∨ j = 9 ∨ j = 10 ∨ j = 11 ∨ j = 12 ∨ j = 13 ∨ j = 14 ∨ j = 15 ∨ j = 16 ∨ j = 17 ∨ j = 18 ∨ j = 19 ∨ j = 20 ∨ j = 21 ∨ 22 ≤ j by omega) with rfl | rfl | rfl | rfl | rfl | rfl | rfl | rfl | rfl | rfl | rfl | rfl | rfl | rfl | rfl | rfl | rfl | rfl | rfl | rfl | rfl | rfl | h
  · exact absurd rfl hj
  · exact rfq_1 (sp_o (by decide))
  · exact (rfn_2).trans (rfn_2).symm
  · exact rfq_3 (sp_o (by decide))
  · exact rfq_4 (sp_o (by decide))
  · exact (rfn_5).trans (rfn_5).symm
  · exact (rfn_6).trans (rfn_6).symm
  · exact rfq_7 (sp_o (by decide))
  · exact rfq_8 (sp_o (by decide))
  · exact rfq_9 (sp_o (by decide))
  · exact rfq_10 (sp_o (by decide))
  · exact rfq_11 (sp_o (by decide))
  · exact rfq_12 (sp_o (by decide))
  · exact rfq_13 (sp_o (by decide))
  · exact rfq_14 (sp_o (by decide))
  · exact rfq_15 (sp_o (by decide))
  · exact rfq_16 (sp_o (by decide))
  · exact (rfn_17).trans (rfn_17).symm
  · exact rfq_18 (sp_o (by decide))
  · exact rfq_19 (sp_o (by decide))
  · exact rfq_20 (sp_o (by decide))
  · exact rfq_21 (sp_o (by decide))
  · rw [rfE_big h, rfE_big h]
theorem rp_1 (hx : p.tables.exec = Jvm.exec) (hb : c.code = cc) {index : Nat} (hts : ∀ w ∈ WALL, w.before args s = true) (hown : s.vm.findClass R_M = some m.cls) (hK : va_K E.1 vwCl (tysE E) s) (hI : rfI ad) (hB : rB σ) (hw : mw E.1 vwCl A H0 (rfM E σ ad) H locs) (hlink : Cond.fieldLink R_M index (T_M 1).1 (T_M 1).2.1 (T_M 1).2.2.1 ∈ WALL) {v : Nat} (hv : v < 32768) (hdg : decode cc pc = .ok (.putfield index, 3))
    (kk : ∀ (H1 : Heap) (locs1 : List Loc), mw E.1 vwCl A H0 (rfM E (sp σ 1 0 v) ad) H1 locs1 → rB (sp σ 1 0 v) → W p l e R s m args below meth c H1 locs1 cells slots Q (F0 m (pc + 3) ls rest)) : W p l e R s m args below meth c H locs cells slots Q (F0 m pc ls (.int (nI v) :: .ref (ad 0) :: rest)) := by
  refine m_put hx hb hts hown hK hw ci_M (rf_at hI 0 (by decide) rfl) 1 (by decide) hlink rfl rfl rfl (Nat.le_of_ble_eq_true rfl) hdg (fun H1 locs1 h => kk H1 locs1 ?_ (rB_sp hB hv))
  rw [rf_up (E := E) (σ := σ) (σ' := sp σ 1 0 v) (e := .inr (8, (rfF σ ad).set 1 (.int (nI v)))) hI (by decide) rfl (fun j hj => rfE_s1 j hj)] at h
  exact h
theorem rl_2 (hx : p.tables.exec = Jvm.exec) (hb : c.code = cc) (hK : va_K E.1 vwCl (tysE E) s) (hI : rfI ad) (hB : rB σ) (hw : mw E.1 vwCl A H0 (rfM E σ ad) H locs) {i : Nat} (hi : i < 3) (hdg : decode cc pc = .ok (.baload, 1))
    (kk : σ 2 i < 32768 → W p l e R s m args below meth c H locs cells slots Q (F0 m (pc + 1) ls (.int (nI (σ 2 i)) :: rest))) : W p l e R s m args below meth c H locs cells slots Q (F0 m pc ls (.int (nI i) :: .ref (ad 3) :: rest)) :=
  m_zald hx hb hK hw 6 (rf_at hI 3 (by decide) rfl) rfl hi (by decide) rfl hdg (kk (hB 2 i (by decide) (by decide)))
theorem rs_2 (hx : p.tables.exec = Jvm.exec) (hb : c.code = cc) (hK : va_K E.1 vwCl (tysE E) s) (hI : rfI ad) (hB : rB σ) (hw : mw E.1 vwCl A H0 (rfM E σ ad) H locs) {i v : Nat} (hi : i < 3) (hv : v ≤ 1) (hdg : decode cc pc = .ok (.bastore, 1))
    (kk : ∀ (H1 : Heap) (locs1 : List Loc), mw E.1 vwCl A H0 (rfM E (sp σ 2 i v) ad) H1 locs1 → rB (sp σ 2 i v) → W p l e R s m args below meth c H1 locs1 cells slots Q (F0 m (pc + 1) ls rest)) : W p l e R s m args below meth c H locs cells slots Q (F0 m pc ls (.int (nI v) :: .int (nI i) :: .ref (ad 3) :: rest)) := by
  refine m_zast hx hb hK hw 6 (rf_at hI 3 (by decide) rfl) rfl hi (by decide) (up_n (nar_z hv)) hdg (fun H1 locs1 h => kk H1 locs1 ?_ (rB_sp hB (by omega)))
  rw [rf_up (E := E) (σ := σ) (σ' := sp σ 2 i v) (e := .inl (E.2.1 6, 3, .inl (fun j => nI (va_up (σ 2) i v j)))) hI (by decide) rfl (fun j hj => rfE_eq j (fun _ => ⟨sp_o (by decide), sp_o (by decide), sp_o (by decide), sp_o (by decide)⟩) (fun g hg => sp_o (by omega)))] at h
  exact h
theorem rl_3 (hx : p.tables.exec = Jvm.exec) (hb : c.code = cc) (hK : va_K E.1 vwCl (tysE E) s) (hI : rfI ad) (hB : rB σ) (hw : mw E.1 vwCl A H0 (rfM E σ ad) H locs) {i : Nat} (hi : i < 3) (hdg : decode cc pc = .ok (.iaload, 1))
    (kk : σ 3 i < 32768 → W p l e R s m args below meth c H locs cells slots Q (F0 m (pc + 1) ls (.int (nI (σ 3 i)) :: rest))) : W p l e R s m args below meth c H locs cells slots Q (F0 m pc ls (.int (nI i) :: .ref (ad 4) :: rest)) :=
  m_iald hx hb hK hw 7 (rf_at hI 4 (by decide) rfl) rfl hi (by decide) rfl hdg (kk (hB 3 i (by decide) (by decide)))
theorem rs_3 (hx : p.tables.exec = Jvm.exec) (hb : c.code = cc) (hK : va_K E.1 vwCl (tysE E) s) (hI : rfI ad) (hB : rB σ) (hw : mw E.1 vwCl A H0 (rfM E σ ad) H locs) {i v : Nat} (hi : i < 3) (hv : v < 32768) (hdg : decode cc pc = .ok (.iastore, 1))
    (kk : ∀ (H1 : Heap) (locs1 : List Loc), mw E.1 vwCl A H0 (rfM E (sp σ 3 i v) ad) H1 locs1 → rB (sp σ 3 i v) → W p l e R s m args below meth c H1 locs1 cells slots Q (F0 m (pc + 1) ls rest)) : W p l e R s m args below meth c H locs cells slots Q (F0 m pc ls (.int (nI v) :: .int (nI i) :: .ref (ad 4) :: rest)) := by
  refine m_iast hx hb hK hw 7 (rf_at hI 4 (by decide) rfl) rfl hi (by decide) (up_n rfl) hdg (fun H1 locs1 h => kk H1 locs1 ?_ (rB_sp hB (by omega)))
  rw [rf_up (E := E) (σ := σ) (σ' := sp σ 3 i v) (e := .inl (E.2.1 7, 3, .inl (fun j => nI (va_up (σ 3) i v j)))) hI (by decide) rfl (fun j hj => rfE_eq j (fun _ => ⟨sp_o (by decide), sp_o (by decide), sp_o (by decide), sp_o (by decide)⟩) (fun g hg => sp_o (by omega)))] at h
  exact h
theorem rfE_s4 {E : Ev} {σ : SS} {ad : Nat → Nat} {v : Nat} (j : Nat) (hj : j ≠ 0) : rfE E (sp σ 4 0 v) ad j = rfE E σ ad j := by
  rcases (show j = 0 ∨ j = 1 ∨ j = 2 ∨ j = 3 ∨ j = 4 ∨ j = 5 ∨ j = 6 ∨ j = 7 ∨ j = 8 ∨ j = 9 ∨ j = 10 ∨ j = 11 ∨ j = 12 ∨ j = 13 ∨ j = 14 ∨ j = 15 ∨ j = 16 ∨ j = 17 ∨ j = 18 ∨ j = 19 ∨ j = 20 ∨ j = 21 ∨ 22 ≤ j by omega) with rfl | rfl | rfl | rfl | rfl | rfl | rfl | rfl | rfl | rfl | rfl | rfl | rfl | rfl | rfl | rfl | rfl | rfl | rfl | rfl | rfl | rfl | h
  · exact absurd rfl hj
  · exact rfq_1 (sp_o (by decide))
  · exact (rfn_2).trans (rfn_2).symm
  · exact rfq_3 (sp_o (by decide))
  · exact rfq_4 (sp_o (by decide))
  · exact (rfn_5).trans (rfn_5).symm
  · exact (rfn_6).trans (rfn_6).symm
  · exact rfq_7 (sp_o (by decide))
  · exact rfq_8 (sp_o (by decide))
  · exact rfq_9 (sp_o (by decide))
  · exact rfq_10 (sp_o (by decide))
  · exact rfq_11 (sp_o (by decide))
  · exact rfq_12 (sp_o (by decide))
  · exact rfq_13 (sp_o (by decide))
  · exact rfq_14 (sp_o (by decide))
  · exact rfq_15 (sp_o (by decide))
  · exact rfq_16 (sp_o (by decide))
  · exact (rfn_17).trans (rfn_17).symm
  · exact rfq_18 (sp_o (by decide))
  · exact rfq_19 (sp_o (by decide))
  · exact rfq_20 (sp_o (by decide))
  · exact rfq_21 (sp_o (by decide))
  · rw [rfE_big h, rfE_big h]
theorem rp_4 (hx : p.tables.exec = Jvm.exec) (hb : c.code = cc) {index : Nat} (hts : ∀ w ∈ WALL, w.before args s = true) (hown : s.vm.findClass R_M = some m.cls) (hK : va_K E.1 vwCl (tysE E) s) (hI : rfI ad) (hB : rB σ) (hw : mw E.1 vwCl A H0 (rfM E σ ad) H locs) (hlink : Cond.fieldLink R_M index (T_M 4).1 (T_M 4).2.1 (T_M 4).2.2.1 ∈ WALL) {v : Nat} (hv : v < 32768) (hdg : decode cc pc = .ok (.putfield index, 3))
    (kk : ∀ (H1 : Heap) (locs1 : List Loc), mw E.1 vwCl A H0 (rfM E (sp σ 4 0 v) ad) H1 locs1 → rB (sp σ 4 0 v) → W p l e R s m args below meth c H1 locs1 cells slots Q (F0 m (pc + 3) ls rest)) : W p l e R s m args below meth c H locs cells slots Q (F0 m pc ls (.int (nI v) :: .ref (ad 0) :: rest)) := by
  refine m_put hx hb hts hown hK hw ci_M (rf_at hI 0 (by decide) rfl) 4 (by decide) hlink rfl rfl rfl (Nat.le_of_ble_eq_true rfl) hdg (fun H1 locs1 h => kk H1 locs1 ?_ (rB_sp hB hv))
  rw [rf_up (E := E) (σ := σ) (σ' := sp σ 4 0 v) (e := .inr (8, (rfF σ ad).set 4 (.int (nI v)))) hI (by decide) rfl (fun j hj => rfE_s4 j hj)] at h
  exact h
theorem rfE_s5 {E : Ev} {σ : SS} {ad : Nat → Nat} {v : Nat} (j : Nat) (hj : j ≠ 0) : rfE E (sp σ 5 0 v) ad j = rfE E σ ad j := by
  rcases (show j = 0 ∨ j = 1 ∨ j = 2 ∨ j = 3 ∨ j = 4 ∨ j = 5 ∨ j = 6 ∨ j = 7 ∨ j = 8 ∨ j = 9 ∨ j = 10 ∨ j = 11 ∨ j = 12 ∨ j = 13 ∨ j = 14 ∨ j = 15 ∨ j = 16 ∨ j = 17 ∨ j = 18 ∨ j = 19 ∨ j = 20 ∨ j = 21 ∨ 22 ≤ j by omega) with rfl | rfl | rfl | rfl | rfl | rfl | rfl | rfl | rfl | rfl | rfl | rfl | rfl | rfl | rfl | rfl | rfl | rfl | rfl | rfl | rfl | rfl | h
  · exact absurd rfl hj
  · exact rfq_1 (sp_o (by decide))
  · exact (rfn_2).trans (rfn_2).symm
  · exact rfq_3 (sp_o (by decide))
  · exact rfq_4 (sp_o (by decide))
  · exact (rfn_5).trans (rfn_5).symm
  · exact (rfn_6).trans (rfn_6).symm
  · exact rfq_7 (sp_o (by decide))
  · exact rfq_8 (sp_o (by decide))
  · exact rfq_9 (sp_o (by decide))
  · exact rfq_10 (sp_o (by decide))
  · exact rfq_11 (sp_o (by decide))
  · exact rfq_12 (sp_o (by decide))
  · exact rfq_13 (sp_o (by decide))
  · exact rfq_14 (sp_o (by decide))
  · exact rfq_15 (sp_o (by decide))
  · exact rfq_16 (sp_o (by decide))
  · exact (rfn_17).trans (rfn_17).symm
  · exact rfq_18 (sp_o (by decide))
  · exact rfq_19 (sp_o (by decide))
  · exact rfq_20 (sp_o (by decide))
  · exact rfq_21 (sp_o (by decide))
  · rw [rfE_big h, rfE_big h]
theorem rp_5 (hx : p.tables.exec = Jvm.exec) (hb : c.code = cc) {index : Nat} (hts : ∀ w ∈ WALL, w.before args s = true) (hown : s.vm.findClass R_M = some m.cls) (hK : va_K E.1 vwCl (tysE E) s) (hI : rfI ad) (hB : rB σ) (hw : mw E.1 vwCl A H0 (rfM E σ ad) H locs) (hlink : Cond.fieldLink R_M index (T_M 5).1 (T_M 5).2.1 (T_M 5).2.2.1 ∈ WALL) {v : Nat} (hv : v < 32768) (hdg : decode cc pc = .ok (.putfield index, 3))
    (kk : ∀ (H1 : Heap) (locs1 : List Loc), mw E.1 vwCl A H0 (rfM E (sp σ 5 0 v) ad) H1 locs1 → rB (sp σ 5 0 v) → W p l e R s m args below meth c H1 locs1 cells slots Q (F0 m (pc + 3) ls rest)) : W p l e R s m args below meth c H locs cells slots Q (F0 m pc ls (.int (nI v) :: .ref (ad 0) :: rest)) := by
  refine m_put hx hb hts hown hK hw ci_M (rf_at hI 0 (by decide) rfl) 5 (by decide) hlink rfl rfl rfl (Nat.le_of_ble_eq_true rfl) hdg (fun H1 locs1 h => kk H1 locs1 ?_ (rB_sp hB hv))
  rw [rf_up (E := E) (σ := σ) (σ' := sp σ 5 0 v) (e := .inr (8, (rfF σ ad).set 5 (.int (nI v)))) hI (by decide) rfl (fun j hj => rfE_s5 j hj)] at h
  exact h
theorem rl_6 (hx : p.tables.exec = Jvm.exec) (hb : c.code = cc) (hK : va_K E.1 vwCl (tysE E) s) (hI : rfI ad) (hB : rB σ) (hw : mw E.1 vwCl A H0 (rfM E σ ad) H locs) {i : Nat} (hi : i < 1300) (hdg : decode cc pc = .ok (.baload, 1))
    (kk : σ 6 i < 32768 → W p l e R s m args below meth c H locs cells slots Q (F0 m (pc + 1) ls (.int (nI (σ 6 i)) :: rest))) : W p l e R s m args below meth c H locs cells slots Q (F0 m pc ls (.int (nI i) :: .ref (ad 7) :: rest)) :=
  m_bald hx hb hK hw 5 (rf_at hI 7 (by decide) rfl) rfl hi (by decide) rfl hdg (kk (hB 6 i (by decide) (by decide)))
theorem rs_6 (hx : p.tables.exec = Jvm.exec) (hb : c.code = cc) (hK : va_K E.1 vwCl (tysE E) s) (hI : rfI ad) (hB : rB σ) (hw : mw E.1 vwCl A H0 (rfM E σ ad) H locs) {i v : Nat} (hi : i < 1300) (hv : v < 128) (hdg : decode cc pc = .ok (.bastore, 1))
    (kk : ∀ (H1 : Heap) (locs1 : List Loc), mw E.1 vwCl A H0 (rfM E (sp σ 6 i v) ad) H1 locs1 → rB (sp σ 6 i v) → W p l e R s m args below meth c H1 locs1 cells slots Q (F0 m (pc + 1) ls rest)) : W p l e R s m args below meth c H locs cells slots Q (F0 m pc ls (.int (nI v) :: .int (nI i) :: .ref (ad 7) :: rest)) := by
  refine m_bast hx hb hK hw 5 (rf_at hI 7 (by decide) rfl) rfl hi (by decide) (up_n (nar_b hv)) hdg (fun H1 locs1 h => kk H1 locs1 ?_ (rB_sp hB (by omega)))
  rw [rf_up (E := E) (σ := σ) (σ' := sp σ 6 i v) (e := .inl (E.2.1 5, 1300, .inl (fun j => nI (va_up (σ 6) i v j)))) hI (by decide) rfl (fun j hj => rfE_eq j (fun _ => ⟨sp_o (by decide), sp_o (by decide), sp_o (by decide), sp_o (by decide)⟩) (fun g hg => sp_o (by omega)))] at h
  exact h
theorem rl_7 (hx : p.tables.exec = Jvm.exec) (hb : c.code = cc) (hK : va_K E.1 vwCl (tysE E) s) (hI : rfI ad) (hB : rB σ) (hw : mw E.1 vwCl A H0 (rfM E σ ad) H locs) {i : Nat} (hi : i < 1300) (hdg : decode cc pc = .ok (.baload, 1))
    (kk : σ 7 i < 32768 → W p l e R s m args below meth c H locs cells slots Q (F0 m (pc + 1) ls (.int (nI (σ 7 i)) :: rest))) : W p l e R s m args below meth c H locs cells slots Q (F0 m pc ls (.int (nI i) :: .ref (ad 8) :: rest)) :=
  m_bald hx hb hK hw 5 (rf_at hI 8 (by decide) rfl) rfl hi (by decide) rfl hdg (kk (hB 7 i (by decide) (by decide)))
theorem rs_7 (hx : p.tables.exec = Jvm.exec) (hb : c.code = cc) (hK : va_K E.1 vwCl (tysE E) s) (hI : rfI ad) (hB : rB σ) (hw : mw E.1 vwCl A H0 (rfM E σ ad) H locs) {i v : Nat} (hi : i < 1300) (hv : v < 128) (hdg : decode cc pc = .ok (.bastore, 1))
    (kk : ∀ (H1 : Heap) (locs1 : List Loc), mw E.1 vwCl A H0 (rfM E (sp σ 7 i v) ad) H1 locs1 → rB (sp σ 7 i v) → W p l e R s m args below meth c H1 locs1 cells slots Q (F0 m (pc + 1) ls rest)) : W p l e R s m args below meth c H locs cells slots Q (F0 m pc ls (.int (nI v) :: .int (nI i) :: .ref (ad 8) :: rest)) := by
  refine m_bast hx hb hK hw 5 (rf_at hI 8 (by decide) rfl) rfl hi (by decide) (up_n (nar_b hv)) hdg (fun H1 locs1 h => kk H1 locs1 ?_ (rB_sp hB (by omega)))
  rw [rf_up (E := E) (σ := σ) (σ' := sp σ 7 i v) (e := .inl (E.2.1 5, 1300, .inl (fun j => nI (va_up (σ 7) i v j)))) hI (by decide) rfl (fun j hj => rfE_eq j (fun _ => ⟨sp_o (by decide), sp_o (by decide), sp_o (by decide), sp_o (by decide)⟩) (fun g hg => sp_o (by omega)))] at h
  exact h
theorem rl_8 (hx : p.tables.exec = Jvm.exec) (hb : c.code = cc) (hK : va_K E.1 vwCl (tysE E) s) (hI : rfI ad) (hB : rB σ) (hw : mw E.1 vwCl A H0 (rfM E σ ad) H locs) {i : Nat} (hi : i < 1300) (hdg : decode cc pc = .ok (.baload, 1))
    (kk : σ 8 i < 32768 → W p l e R s m args below meth c H locs cells slots Q (F0 m (pc + 1) ls (.int (nI (σ 8 i)) :: rest))) : W p l e R s m args below meth c H locs cells slots Q (F0 m pc ls (.int (nI i) :: .ref (ad 9) :: rest)) :=
  m_zald hx hb hK hw 6 (rf_at hI 9 (by decide) rfl) rfl hi (by decide) rfl hdg (kk (hB 8 i (by decide) (by decide)))
theorem rs_8 (hx : p.tables.exec = Jvm.exec) (hb : c.code = cc) (hK : va_K E.1 vwCl (tysE E) s) (hI : rfI ad) (hB : rB σ) (hw : mw E.1 vwCl A H0 (rfM E σ ad) H locs) {i v : Nat} (hi : i < 1300) (hv : v ≤ 1) (hdg : decode cc pc = .ok (.bastore, 1))
    (kk : ∀ (H1 : Heap) (locs1 : List Loc), mw E.1 vwCl A H0 (rfM E (sp σ 8 i v) ad) H1 locs1 → rB (sp σ 8 i v) → W p l e R s m args below meth c H1 locs1 cells slots Q (F0 m (pc + 1) ls rest)) : W p l e R s m args below meth c H locs cells slots Q (F0 m pc ls (.int (nI v) :: .int (nI i) :: .ref (ad 9) :: rest)) := by
  refine m_zast hx hb hK hw 6 (rf_at hI 9 (by decide) rfl) rfl hi (by decide) (up_n (nar_z hv)) hdg (fun H1 locs1 h => kk H1 locs1 ?_ (rB_sp hB (by omega)))
  rw [rf_up (E := E) (σ := σ) (σ' := sp σ 8 i v) (e := .inl (E.2.1 6, 1300, .inl (fun j => nI (va_up (σ 8) i v j)))) hI (by decide) rfl (fun j hj => rfE_eq j (fun _ => ⟨sp_o (by decide), sp_o (by decide), sp_o (by decide), sp_o (by decide)⟩) (fun g hg => sp_o (by omega)))] at h
  exact h
theorem rl_9 (hx : p.tables.exec = Jvm.exec) (hb : c.code = cc) (hK : va_K E.1 vwCl (tysE E) s) (hI : rfI ad) (hw : mw E.1 vwCl A H0 (rfM E σ ad) H locs) {i : Nat} (hi : i < 1300) (hdg : decode cc pc = .ok (.laload, 1))
    (kk : W p l e R s m args below meth c H locs cells slots Q (F0 m (pc + 1) ls (.long (lN (σ 9 i)) :: rest))) : W p l e R s m args below meth c H locs cells slots Q (F0 m pc ls (.int (nI i) :: .ref (ad 10) :: rest)) :=
  m_lald hx hb hK hw 8 (rf_at hI 10 (by decide) rfl) rfl hi (by decide) rfl hdg kk
theorem rs_9 (hx : p.tables.exec = Jvm.exec) (hb : c.code = cc) (hK : va_K E.1 vwCl (tysE E) s) (hI : rfI ad) (hB : rB σ) (hw : mw E.1 vwCl A H0 (rfM E σ ad) H locs) {i v : Nat} (hi : i < 1300) (hdg : decode cc pc = .ok (.lastore, 1))
    (kk : ∀ (H1 : Heap) (locs1 : List Loc), mw E.1 vwCl A H0 (rfM E (sp σ 9 i v) ad) H1 locs1 → rB (sp σ 9 i v) → W p l e R s m args below meth c H1 locs1 cells slots Q (F0 m (pc + 1) ls rest)) : W p l e R s m args below meth c H locs cells slots Q (F0 m pc ls (.long (lN v) :: .int (nI i) :: .ref (ad 10) :: rest)) := by
  refine m_last hx hb hK hw 8 (rf_at hI 10 (by decide) rfl) rfl hi (by decide) up_l hdg (fun H1 locs1 h => kk H1 locs1 ?_ (rB_spL hB (by decide)))
  rw [rf_up (E := E) (σ := σ) (σ' := sp σ 9 i v) (e := .inl (E.2.1 8, 1300, .inr (.inl (fun j => lN (va_up (σ 9) i v j))))) hI (by decide) rfl (fun j hj => rfE_eq j (fun _ => ⟨sp_o (by decide), sp_o (by decide), sp_o (by decide), sp_o (by decide)⟩) (fun g hg => sp_o (by omega)))] at h
  exact h
theorem rl_10 (hx : p.tables.exec = Jvm.exec) (hb : c.code = cc) (hK : va_K E.1 vwCl (tysE E) s) (hI : rfI ad) (hB : rB σ) (hw : mw E.1 vwCl A H0 (rfM E σ ad) H locs) {i : Nat} (hi : i < 1300) (hdg : decode cc pc = .ok (.saload, 1))
    (kk : σ 10 i < 32768 → W p l e R s m args below meth c H locs cells slots Q (F0 m (pc + 1) ls (.int (nI (σ 10 i)) :: rest))) : W p l e R s m args below meth c H locs cells slots Q (F0 m pc ls (.int (nI i) :: .ref (ad 11) :: rest)) :=
  m_sald hx hb hK hw 4 (rf_at hI 11 (by decide) rfl) rfl hi (by decide) rfl hdg (kk (hB 10 i (by decide) (by decide)))
theorem rs_10 (hx : p.tables.exec = Jvm.exec) (hb : c.code = cc) (hK : va_K E.1 vwCl (tysE E) s) (hI : rfI ad) (hB : rB σ) (hw : mw E.1 vwCl A H0 (rfM E σ ad) H locs) {i v : Nat} (hi : i < 1300) (hv : v < 32768) (hdg : decode cc pc = .ok (.sastore, 1))
    (kk : ∀ (H1 : Heap) (locs1 : List Loc), mw E.1 vwCl A H0 (rfM E (sp σ 10 i v) ad) H1 locs1 → rB (sp σ 10 i v) → W p l e R s m args below meth c H1 locs1 cells slots Q (F0 m (pc + 1) ls rest)) : W p l e R s m args below meth c H locs cells slots Q (F0 m pc ls (.int (nI v) :: .int (nI i) :: .ref (ad 11) :: rest)) := by
  refine m_sast hx hb hK hw 4 (rf_at hI 11 (by decide) rfl) rfl hi (by decide) (up_n (nar_s hv)) hdg (fun H1 locs1 h => kk H1 locs1 ?_ (rB_sp hB (by omega)))
  rw [rf_up (E := E) (σ := σ) (σ' := sp σ 10 i v) (e := .inl (E.2.1 4, 1300, .inl (fun j => nI (va_up (σ 10) i v j)))) hI (by decide) rfl (fun j hj => rfE_eq j (fun _ => ⟨sp_o (by decide), sp_o (by decide), sp_o (by decide), sp_o (by decide)⟩) (fun g hg => sp_o (by omega)))] at h
  exact h
theorem rl_11 (hx : p.tables.exec = Jvm.exec) (hb : c.code = cc) (hK : va_K E.1 vwCl (tysE E) s) (hI : rfI ad) (hB : rB σ) (hw : mw E.1 vwCl A H0 (rfM E σ ad) H locs) {i : Nat} (hi : i < 1300) (hdg : decode cc pc = .ok (.saload, 1))
    (kk : σ 11 i < 32768 → W p l e R s m args below meth c H locs cells slots Q (F0 m (pc + 1) ls (.int (nI (σ 11 i)) :: rest))) : W p l e R s m args below meth c H locs cells slots Q (F0 m pc ls (.int (nI i) :: .ref (ad 12) :: rest)) :=
  m_sald hx hb hK hw 4 (rf_at hI 12 (by decide) rfl) rfl hi (by decide) rfl hdg (kk (hB 11 i (by decide) (by decide)))
theorem rs_11 (hx : p.tables.exec = Jvm.exec) (hb : c.code = cc) (hK : va_K E.1 vwCl (tysE E) s) (hI : rfI ad) (hB : rB σ) (hw : mw E.1 vwCl A H0 (rfM E σ ad) H locs) {i v : Nat} (hi : i < 1300) (hv : v < 32768) (hdg : decode cc pc = .ok (.sastore, 1))
    (kk : ∀ (H1 : Heap) (locs1 : List Loc), mw E.1 vwCl A H0 (rfM E (sp σ 11 i v) ad) H1 locs1 → rB (sp σ 11 i v) → W p l e R s m args below meth c H1 locs1 cells slots Q (F0 m (pc + 1) ls rest)) : W p l e R s m args below meth c H locs cells slots Q (F0 m pc ls (.int (nI v) :: .int (nI i) :: .ref (ad 12) :: rest)) := by
  refine m_sast hx hb hK hw 4 (rf_at hI 12 (by decide) rfl) rfl hi (by decide) (up_n (nar_s hv)) hdg (fun H1 locs1 h => kk H1 locs1 ?_ (rB_sp hB (by omega)))
  rw [rf_up (E := E) (σ := σ) (σ' := sp σ 11 i v) (e := .inl (E.2.1 4, 1300, .inl (fun j => nI (va_up (σ 11) i v j)))) hI (by decide) rfl (fun j hj => rfE_eq j (fun _ => ⟨sp_o (by decide), sp_o (by decide), sp_o (by decide), sp_o (by decide)⟩) (fun g hg => sp_o (by omega)))] at h
  exact h
theorem rl_12 (hx : p.tables.exec = Jvm.exec) (hb : c.code = cc) (hK : va_K E.1 vwCl (tysE E) s) (hI : rfI ad) (hB : rB σ) (hw : mw E.1 vwCl A H0 (rfM E σ ad) H locs) {i : Nat} (hi : i < 1300) (hdg : decode cc pc = .ok (.baload, 1))
    (kk : σ 12 i < 32768 → W p l e R s m args below meth c H locs cells slots Q (F0 m (pc + 1) ls (.int (bI (σ 12 i)) :: rest))) : W p l e R s m args below meth c H locs cells slots Q (F0 m pc ls (.int (nI i) :: .ref (ad 13) :: rest)) :=
  m_bald hx hb hK hw 5 (rf_at hI 13 (by decide) rfl) rfl hi (by decide) rfl hdg (kk (hB 12 i (by decide) (by decide)))
theorem rs_12e (σ : SS) (i v : Nat) : (fun j => bI (sp σ 12 i v 12 j)) = fun j => bI (va_up (σ 12) i v j) := by
  have h : sp σ 12 i v 12 = va_up (σ 12) i v := by unfold sp upf; rw [if_pos rfl]
  rw [h]
theorem rs_12f (E : Ev) (σ : SS) (ad : Nat → Nat) (i v : Nat) : rfE E (sp σ 12 i v) ad 13 = some (.inl (E.2.1 5, 1300, .inl (fun j => bI (va_up (σ 12) i v j)))) := by
  show some (Sum.inl (E.2.1 5, 1300, Sum.inl (fun j => bI (sp σ 12 i v 12 j)))) = _
  rw [rs_12e]
theorem rs_12g (E : Ev) (σ : SS) (ad : Nat → Nat) (i v : Nat) (hI : rfI ad) : mp_up (rfM E σ ad) (ad 13) (.inl (E.2.1 5, 1300, .inl (fun j => bI (va_up (σ 12) i v j)))) = rfM E (sp σ 12 i v) ad := rf_up hI (by decide) (rs_12f E σ ad i v) (fun j hj => rfE_eq j (fun _ => ⟨sp_o (by decide), sp_o (by decide), sp_o (by decide), sp_o (by decide)⟩) (fun g hg => sp_o (by omega)))
theorem rs_12 (hx : p.tables.exec = Jvm.exec) (hb : c.code = cc) (hK : va_K E.1 vwCl (tysE E) s) (hI : rfI ad) (hB : rB σ) (hw : mw E.1 vwCl A H0 (rfM E σ ad) H locs) {i v : Nat} (hi : i < 1300) (hv : v < 256) (hdg : decode cc pc = .ok (.bastore, 1))
    (kk : ∀ (H1 : Heap) (locs1 : List Loc), mw E.1 vwCl A H0 (rfM E (sp σ 12 i v) ad) H1 locs1 → rB (sp σ 12 i v) → W p l e R s m args below meth c H1 locs1 cells slots Q (F0 m (pc + 1) ls rest)) : W p l e R s m args below meth c H locs cells slots Q (F0 m pc ls (.int (bI v) :: .int (nI i) :: .ref (ad 13) :: rest)) := by
  have e1 : upd (fun j => bI (σ 12 j)) i (vp_nar .byte (bI v)) = fun j => bI (va_up (σ 12) i v j) := up_b nar_bI
  refine m_bast hx hb hK hw 5 (rf_at hI 13 (by decide) rfl) rfl hi (by decide) e1 hdg (fun H1 locs1 h => kk H1 locs1 ?_ (rB_sp hB (by omega)))
  rw [rs_12g E σ ad i v hI] at h
  exact h
theorem rl_13 (hx : p.tables.exec = Jvm.exec) (hb : c.code = cc) (hK : va_K E.1 vwCl (tysE E) s) (hI : rfI ad) (hB : rB σ) (hw : mw E.1 vwCl A H0 (rfM E σ ad) H locs) {i : Nat} (hi : i < 1300) (hdg : decode cc pc = .ok (.saload, 1))
    (kk : σ 13 i < 32768 → W p l e R s m args below meth c H locs cells slots Q (F0 m (pc + 1) ls (.int (nI (σ 13 i)) :: rest))) : W p l e R s m args below meth c H locs cells slots Q (F0 m pc ls (.int (nI i) :: .ref (ad 14) :: rest)) :=
  m_sald hx hb hK hw 4 (rf_at hI 14 (by decide) rfl) rfl hi (by decide) rfl hdg (kk (hB 13 i (by decide) (by decide)))
theorem rs_13 (hx : p.tables.exec = Jvm.exec) (hb : c.code = cc) (hK : va_K E.1 vwCl (tysE E) s) (hI : rfI ad) (hB : rB σ) (hw : mw E.1 vwCl A H0 (rfM E σ ad) H locs) {i v : Nat} (hi : i < 1300) (hv : v < 32768) (hdg : decode cc pc = .ok (.sastore, 1))
    (kk : ∀ (H1 : Heap) (locs1 : List Loc), mw E.1 vwCl A H0 (rfM E (sp σ 13 i v) ad) H1 locs1 → rB (sp σ 13 i v) → W p l e R s m args below meth c H1 locs1 cells slots Q (F0 m (pc + 1) ls rest)) : W p l e R s m args below meth c H locs cells slots Q (F0 m pc ls (.int (nI v) :: .int (nI i) :: .ref (ad 14) :: rest)) := by
  refine m_sast hx hb hK hw 4 (rf_at hI 14 (by decide) rfl) rfl hi (by decide) (up_n (nar_s hv)) hdg (fun H1 locs1 h => kk H1 locs1 ?_ (rB_sp hB (by omega)))
  rw [rf_up (E := E) (σ := σ) (σ' := sp σ 13 i v) (e := .inl (E.2.1 4, 1300, .inl (fun j => nI (va_up (σ 13) i v j)))) hI (by decide) rfl (fun j hj => rfE_eq j (fun _ => ⟨sp_o (by decide), sp_o (by decide), sp_o (by decide), sp_o (by decide)⟩) (fun g hg => sp_o (by omega)))] at h
  exact h
theorem rl_14 (hx : p.tables.exec = Jvm.exec) (hb : c.code = cc) (hK : va_K E.1 vwCl (tysE E) s) (hI : rfI ad) (hB : rB σ) (hw : mw E.1 vwCl A H0 (rfM E σ ad) H locs) {i : Nat} (hi : i < 1300) (hdg : decode cc pc = .ok (.saload, 1))
    (kk : σ 14 i < 32768 → W p l e R s m args below meth c H locs cells slots Q (F0 m (pc + 1) ls (.int (nI (σ 14 i)) :: rest))) : W p l e R s m args below meth c H locs cells slots Q (F0 m pc ls (.int (nI i) :: .ref (ad 15) :: rest)) :=
  m_sald hx hb hK hw 4 (rf_at hI 15 (by decide) rfl) rfl hi (by decide) rfl hdg (kk (hB 14 i (by decide) (by decide)))
theorem rs_14 (hx : p.tables.exec = Jvm.exec) (hb : c.code = cc) (hK : va_K E.1 vwCl (tysE E) s) (hI : rfI ad) (hB : rB σ) (hw : mw E.1 vwCl A H0 (rfM E σ ad) H locs) {i v : Nat} (hi : i < 1300) (hv : v < 32768) (hdg : decode cc pc = .ok (.sastore, 1))
    (kk : ∀ (H1 : Heap) (locs1 : List Loc), mw E.1 vwCl A H0 (rfM E (sp σ 14 i v) ad) H1 locs1 → rB (sp σ 14 i v) → W p l e R s m args below meth c H1 locs1 cells slots Q (F0 m (pc + 1) ls rest)) : W p l e R s m args below meth c H locs cells slots Q (F0 m pc ls (.int (nI v) :: .int (nI i) :: .ref (ad 15) :: rest)) := by
  refine m_sast hx hb hK hw 4 (rf_at hI 15 (by decide) rfl) rfl hi (by decide) (up_n (nar_s hv)) hdg (fun H1 locs1 h => kk H1 locs1 ?_ (rB_sp hB (by omega)))
  rw [rf_up (E := E) (σ := σ) (σ' := sp σ 14 i v) (e := .inl (E.2.1 4, 1300, .inl (fun j => nI (va_up (σ 14) i v j)))) hI (by decide) rfl (fun j hj => rfE_eq j (fun _ => ⟨sp_o (by decide), sp_o (by decide), sp_o (by decide), sp_o (by decide)⟩) (fun g hg => sp_o (by omega)))] at h
  exact h
theorem rl_15 (hx : p.tables.exec = Jvm.exec) (hb : c.code = cc) (hK : va_K E.1 vwCl (tysE E) s) (hI : rfI ad) (hB : rB σ) (hw : mw E.1 vwCl A H0 (rfM E σ ad) H locs) {i : Nat} (hi : i < 1300) (hdg : decode cc pc = .ok (.saload, 1))
    (kk : σ 15 i < 32768 → W p l e R s m args below meth c H locs cells slots Q (F0 m (pc + 1) ls (.int (nI (σ 15 i)) :: rest))) : W p l e R s m args below meth c H locs cells slots Q (F0 m pc ls (.int (nI i) :: .ref (ad 16) :: rest)) :=
  m_sald hx hb hK hw 4 (rf_at hI 16 (by decide) rfl) rfl hi (by decide) rfl hdg (kk (hB 15 i (by decide) (by decide)))
theorem rs_15 (hx : p.tables.exec = Jvm.exec) (hb : c.code = cc) (hK : va_K E.1 vwCl (tysE E) s) (hI : rfI ad) (hB : rB σ) (hw : mw E.1 vwCl A H0 (rfM E σ ad) H locs) {i v : Nat} (hi : i < 1300) (hv : v < 32768) (hdg : decode cc pc = .ok (.sastore, 1))
    (kk : ∀ (H1 : Heap) (locs1 : List Loc), mw E.1 vwCl A H0 (rfM E (sp σ 15 i v) ad) H1 locs1 → rB (sp σ 15 i v) → W p l e R s m args below meth c H1 locs1 cells slots Q (F0 m (pc + 1) ls rest)) : W p l e R s m args below meth c H locs cells slots Q (F0 m pc ls (.int (nI v) :: .int (nI i) :: .ref (ad 16) :: rest)) := by
  refine m_sast hx hb hK hw 4 (rf_at hI 16 (by decide) rfl) rfl hi (by decide) (up_n (nar_s hv)) hdg (fun H1 locs1 h => kk H1 locs1 ?_ (rB_sp hB (by omega)))
  rw [rf_up (E := E) (σ := σ) (σ' := sp σ 15 i v) (e := .inl (E.2.1 4, 1300, .inl (fun j => nI (va_up (σ 15) i v j)))) hI (by decide) rfl (fun j hj => rfE_eq j (fun _ => ⟨sp_o (by decide), sp_o (by decide), sp_o (by decide), sp_o (by decide)⟩) (fun g hg => sp_o (by omega)))] at h
  exact h
theorem rfE_s16 {E : Ev} {σ : SS} {ad : Nat → Nat} {v : Nat} (j : Nat) (hj : j ≠ 0) : rfE E (sp σ 16 0 v) ad j = rfE E σ ad j := by
  rcases (show j = 0 ∨ j = 1 ∨ j = 2 ∨ j = 3 ∨ j = 4 ∨ j = 5 ∨ j = 6 ∨ j = 7 ∨ j = 8 ∨ j = 9 ∨ j = 10 ∨ j = 11 ∨ j = 12 ∨ j = 13 ∨ j = 14 ∨ j = 15 ∨ j = 16 ∨ j = 17 ∨ j = 18 ∨ j = 19 ∨ j = 20 ∨ j = 21 ∨ 22 ≤ j by omega) with rfl | rfl | rfl | rfl | rfl | rfl | rfl | rfl | rfl | rfl | rfl | rfl | rfl | rfl | rfl | rfl | rfl | rfl | rfl | rfl | rfl | rfl | h
  · exact absurd rfl hj
  · exact rfq_1 (sp_o (by decide))
  · exact (rfn_2).trans (rfn_2).symm
  · exact rfq_3 (sp_o (by decide))
  · exact rfq_4 (sp_o (by decide))
  · exact (rfn_5).trans (rfn_5).symm
  · exact (rfn_6).trans (rfn_6).symm
  · exact rfq_7 (sp_o (by decide))
  · exact rfq_8 (sp_o (by decide))
  · exact rfq_9 (sp_o (by decide))
  · exact rfq_10 (sp_o (by decide))
  · exact rfq_11 (sp_o (by decide))
  · exact rfq_12 (sp_o (by decide))
  · exact rfq_13 (sp_o (by decide))
  · exact rfq_14 (sp_o (by decide))
  · exact rfq_15 (sp_o (by decide))
  · exact rfq_16 (sp_o (by decide))
  · exact (rfn_17).trans (rfn_17).symm
  · exact rfq_18 (sp_o (by decide))
  · exact rfq_19 (sp_o (by decide))
  · exact rfq_20 (sp_o (by decide))
  · exact rfq_21 (sp_o (by decide))
  · rw [rfE_big h, rfE_big h]
theorem rp_16 (hx : p.tables.exec = Jvm.exec) (hb : c.code = cc) {index : Nat} (hts : ∀ w ∈ WALL, w.before args s = true) (hown : s.vm.findClass R_M = some m.cls) (hK : va_K E.1 vwCl (tysE E) s) (hI : rfI ad) (hB : rB σ) (hw : mw E.1 vwCl A H0 (rfM E σ ad) H locs) (hlink : Cond.fieldLink R_M index (T_M 16).1 (T_M 16).2.1 (T_M 16).2.2.1 ∈ WALL) {v : Nat} (hv : v < 32768) (hdg : decode cc pc = .ok (.putfield index, 3))
    (kk : ∀ (H1 : Heap) (locs1 : List Loc), mw E.1 vwCl A H0 (rfM E (sp σ 16 0 v) ad) H1 locs1 → rB (sp σ 16 0 v) → W p l e R s m args below meth c H1 locs1 cells slots Q (F0 m (pc + 3) ls rest)) : W p l e R s m args below meth c H locs cells slots Q (F0 m pc ls (.int (nI v) :: .ref (ad 0) :: rest)) := by
  refine m_put hx hb hts hown hK hw ci_M (rf_at hI 0 (by decide) rfl) 16 (by decide) hlink rfl rfl rfl (Nat.le_of_ble_eq_true rfl) hdg (fun H1 locs1 h => kk H1 locs1 ?_ (rB_sp hB hv))
  rw [rf_up (E := E) (σ := σ) (σ' := sp σ 16 0 v) (e := .inr (8, (rfF σ ad).set 16 (.int (nI v)))) hI (by decide) rfl (fun j hj => rfE_s16 j hj)] at h
  exact h
theorem rl_17 (hx : p.tables.exec = Jvm.exec) (hb : c.code = cc) (hK : va_K E.1 vwCl (tysE E) s) (hI : rfI ad) (hw : mw E.1 vwCl A H0 (rfM E σ ad) H locs) {i : Nat} (hi : i < 512) (hdg : decode cc pc = .ok (.laload, 1))
    (kk : W p l e R s m args below meth c H locs cells slots Q (F0 m (pc + 1) ls (.long (lN (σ 17 i)) :: rest))) : W p l e R s m args below meth c H locs cells slots Q (F0 m pc ls (.int (nI i) :: .ref (ad 18) :: rest)) :=
  m_lald hx hb hK hw 8 (rf_at hI 18 (by decide) rfl) rfl hi (by decide) rfl hdg kk
theorem rs_17 (hx : p.tables.exec = Jvm.exec) (hb : c.code = cc) (hK : va_K E.1 vwCl (tysE E) s) (hI : rfI ad) (hB : rB σ) (hw : mw E.1 vwCl A H0 (rfM E σ ad) H locs) {i v : Nat} (hi : i < 512) (hdg : decode cc pc = .ok (.lastore, 1))
    (kk : ∀ (H1 : Heap) (locs1 : List Loc), mw E.1 vwCl A H0 (rfM E (sp σ 17 i v) ad) H1 locs1 → rB (sp σ 17 i v) → W p l e R s m args below meth c H1 locs1 cells slots Q (F0 m (pc + 1) ls rest)) : W p l e R s m args below meth c H locs cells slots Q (F0 m pc ls (.long (lN v) :: .int (nI i) :: .ref (ad 18) :: rest)) := by
  refine m_last hx hb hK hw 8 (rf_at hI 18 (by decide) rfl) rfl hi (by decide) up_l hdg (fun H1 locs1 h => kk H1 locs1 ?_ (rB_spL hB (by decide)))
  rw [rf_up (E := E) (σ := σ) (σ' := sp σ 17 i v) (e := .inl (E.2.1 8, 512, .inr (.inl (fun j => lN (va_up (σ 17) i v j))))) hI (by decide) rfl (fun j hj => rfE_eq j (fun _ => ⟨sp_o (by decide), sp_o (by decide), sp_o (by decide), sp_o (by decide)⟩) (fun g hg => sp_o (by omega)))] at h
  exact h
theorem rl_18 (hx : p.tables.exec = Jvm.exec) (hb : c.code = cc) (hK : va_K E.1 vwCl (tysE E) s) (hI : rfI ad) (hB : rB σ) (hw : mw E.1 vwCl A H0 (rfM E σ ad) H locs) {i : Nat} (hi : i < 512) (hdg : decode cc pc = .ok (.baload, 1))
    (kk : σ 18 i < 32768 → W p l e R s m args below meth c H locs cells slots Q (F0 m (pc + 1) ls (.int (nI (σ 18 i)) :: rest))) : W p l e R s m args below meth c H locs cells slots Q (F0 m pc ls (.int (nI i) :: .ref (ad 19) :: rest)) :=
  m_bald hx hb hK hw 5 (rf_at hI 19 (by decide) rfl) rfl hi (by decide) rfl hdg (kk (hB 18 i (by decide) (by decide)))
theorem rs_18 (hx : p.tables.exec = Jvm.exec) (hb : c.code = cc) (hK : va_K E.1 vwCl (tysE E) s) (hI : rfI ad) (hB : rB σ) (hw : mw E.1 vwCl A H0 (rfM E σ ad) H locs) {i v : Nat} (hi : i < 512) (hv : v < 128) (hdg : decode cc pc = .ok (.bastore, 1))
    (kk : ∀ (H1 : Heap) (locs1 : List Loc), mw E.1 vwCl A H0 (rfM E (sp σ 18 i v) ad) H1 locs1 → rB (sp σ 18 i v) → W p l e R s m args below meth c H1 locs1 cells slots Q (F0 m (pc + 1) ls rest)) : W p l e R s m args below meth c H locs cells slots Q (F0 m pc ls (.int (nI v) :: .int (nI i) :: .ref (ad 19) :: rest)) := by
  refine m_bast hx hb hK hw 5 (rf_at hI 19 (by decide) rfl) rfl hi (by decide) (up_n (nar_b hv)) hdg (fun H1 locs1 h => kk H1 locs1 ?_ (rB_sp hB (by omega)))
  rw [rf_up (E := E) (σ := σ) (σ' := sp σ 18 i v) (e := .inl (E.2.1 5, 512, .inl (fun j => nI (va_up (σ 18) i v j)))) hI (by decide) rfl (fun j hj => rfE_eq j (fun _ => ⟨sp_o (by decide), sp_o (by decide), sp_o (by decide), sp_o (by decide)⟩) (fun g hg => sp_o (by omega)))] at h
  exact h
theorem rl_19 (hx : p.tables.exec = Jvm.exec) (hb : c.code = cc) (hK : va_K E.1 vwCl (tysE E) s) (hI : rfI ad) (hB : rB σ) (hw : mw E.1 vwCl A H0 (rfM E σ ad) H locs) {i : Nat} (hi : i < 512) (hdg : decode cc pc = .ok (.saload, 1))
    (kk : σ 19 i < 32768 → W p l e R s m args below meth c H locs cells slots Q (F0 m (pc + 1) ls (.int (nI (σ 19 i)) :: rest))) : W p l e R s m args below meth c H locs cells slots Q (F0 m pc ls (.int (nI i) :: .ref (ad 20) :: rest)) :=
  m_sald hx hb hK hw 4 (rf_at hI 20 (by decide) rfl) rfl hi (by decide) rfl hdg (kk (hB 19 i (by decide) (by decide)))
theorem rs_19 (hx : p.tables.exec = Jvm.exec) (hb : c.code = cc) (hK : va_K E.1 vwCl (tysE E) s) (hI : rfI ad) (hB : rB σ) (hw : mw E.1 vwCl A H0 (rfM E σ ad) H locs) {i v : Nat} (hi : i < 512) (hv : v < 32768) (hdg : decode cc pc = .ok (.sastore, 1))
    (kk : ∀ (H1 : Heap) (locs1 : List Loc), mw E.1 vwCl A H0 (rfM E (sp σ 19 i v) ad) H1 locs1 → rB (sp σ 19 i v) → W p l e R s m args below meth c H1 locs1 cells slots Q (F0 m (pc + 1) ls rest)) : W p l e R s m args below meth c H locs cells slots Q (F0 m pc ls (.int (nI v) :: .int (nI i) :: .ref (ad 20) :: rest)) := by
  refine m_sast hx hb hK hw 4 (rf_at hI 20 (by decide) rfl) rfl hi (by decide) (up_n (nar_s hv)) hdg (fun H1 locs1 h => kk H1 locs1 ?_ (rB_sp hB (by omega)))
  rw [rf_up (E := E) (σ := σ) (σ' := sp σ 19 i v) (e := .inl (E.2.1 4, 512, .inl (fun j => nI (va_up (σ 19) i v j)))) hI (by decide) rfl (fun j hj => rfE_eq j (fun _ => ⟨sp_o (by decide), sp_o (by decide), sp_o (by decide), sp_o (by decide)⟩) (fun g hg => sp_o (by omega)))] at h
  exact h
theorem rl_20 (hx : p.tables.exec = Jvm.exec) (hb : c.code = cc) (hK : va_K E.1 vwCl (tysE E) s) (hI : rfI ad) (hB : rB σ) (hw : mw E.1 vwCl A H0 (rfM E σ ad) H locs) {i : Nat} (hi : i < 512) (hdg : decode cc pc = .ok (.baload, 1))
    (kk : σ 20 i < 32768 → W p l e R s m args below meth c H locs cells slots Q (F0 m (pc + 1) ls (.int (nI (σ 20 i)) :: rest))) : W p l e R s m args below meth c H locs cells slots Q (F0 m pc ls (.int (nI i) :: .ref (ad 21) :: rest)) :=
  m_bald hx hb hK hw 5 (rf_at hI 21 (by decide) rfl) rfl hi (by decide) rfl hdg (kk (hB 20 i (by decide) (by decide)))
theorem rs_20 (hx : p.tables.exec = Jvm.exec) (hb : c.code = cc) (hK : va_K E.1 vwCl (tysE E) s) (hI : rfI ad) (hB : rB σ) (hw : mw E.1 vwCl A H0 (rfM E σ ad) H locs) {i v : Nat} (hi : i < 512) (hv : v < 128) (hdg : decode cc pc = .ok (.bastore, 1))
    (kk : ∀ (H1 : Heap) (locs1 : List Loc), mw E.1 vwCl A H0 (rfM E (sp σ 20 i v) ad) H1 locs1 → rB (sp σ 20 i v) → W p l e R s m args below meth c H1 locs1 cells slots Q (F0 m (pc + 1) ls rest)) : W p l e R s m args below meth c H locs cells slots Q (F0 m pc ls (.int (nI v) :: .int (nI i) :: .ref (ad 21) :: rest)) := by
  refine m_bast hx hb hK hw 5 (rf_at hI 21 (by decide) rfl) rfl hi (by decide) (up_n (nar_b hv)) hdg (fun H1 locs1 h => kk H1 locs1 ?_ (rB_sp hB (by omega)))
  rw [rf_up (E := E) (σ := σ) (σ' := sp σ 20 i v) (e := .inl (E.2.1 5, 512, .inl (fun j => nI (va_up (σ 20) i v j)))) hI (by decide) rfl (fun j hj => rfE_eq j (fun _ => ⟨sp_o (by decide), sp_o (by decide), sp_o (by decide), sp_o (by decide)⟩) (fun g hg => sp_o (by omega)))] at h
  exact h
end RF
