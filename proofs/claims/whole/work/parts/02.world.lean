/-! The world as a map: address to cell. A contract speaks of one map M before and one map M' behind; what M doesn't name is unchanged. -/
section MP
abbrev mp_M : Type := Nat → Option va_E
def mp_up (M : mp_M) (a : Nat) (e : va_E) : mp_M := fun j => if j = a then some e else M j
theorem mp_up_s {M : mp_M} {a : Nat} {e : va_E} : mp_up M a e a = some e := by simp [mp_up]
theorem mp_up_n {M : mp_M} {a b : Nat} {e : va_E} (h : b ≠ a) : mp_up M a e b = M b := by simp [mp_up, h]
def mp_ok (D : va_G) (cl : List vw_C) (M : mp_M) (H : Heap) : Prop := ∀ a e, M a = some e → va_at D cl (a, e) H
def mp_en (M : mp_M) (n : Nat) : va_W := (List.range n).filterMap (fun a => (M a).map (fun e => (a, e)))
theorem mp_mem {M : mp_M} {n a : Nat} {e : va_E} : (a, e) ∈ mp_en M n ↔ a < n ∧ M a = some e := by
  simp only [mp_en, List.mem_filterMap, List.mem_range, Option.map_eq_some_iff, Prod.mk.injEq]
  constructor
  · rintro ⟨b, hb, e', h1, rfl, rfl⟩
    exact ⟨hb, h1⟩
  · rintro ⟨h1, h2⟩
    exact ⟨a, h1, e, h2, rfl, rfl⟩
variable {D : va_G} {cl : List vw_C} {M : mp_M} {H H1 H0 : Heap} {A : Nat → Prop} {locs : List Loc}
theorem mp_lt {a : Nat} {e : va_E} (h : mp_ok D cl M H) (ha : M a = some e) : a < H.size := (h a e ha).lt
theorem mp_ltn {a : Nat} (h : mp_ok D cl M H) (ha : M a ≠ none) : a < H.size := by
  cases hm : M a with
  | none => exact absurd hm ha
  | some e => exact mp_lt h hm
theorem mp_fresh (h : mp_ok D cl M H) {a : Nat} (ha : H.size ≤ a) : M a = none := by
  cases hm : M a with
  | none => rfl
  | some e => exact absurd (mp_lt h hm) (by omega)
theorem mp_P (h : mp_ok D cl M H) (n : Nat) : va_P D cl (mp_en M n) H := fun k q hk => by
  obtain ⟨a, e⟩ := q
  exact h a e (mp_mem.mp (List.mem_of_getElem? hk)).2
theorem mp_pw (M : mp_M) (n : Nat) : (mp_en M n).Pairwise (fun p q => p.1 < q.1) := by
  unfold mp_en
  rw [List.pairwise_filterMap]
  refine List.Pairwise.imp ?_ List.pairwise_lt_range
  intro a b hab x hx y hy
  obtain ⟨e1, -, rfl⟩ := Option.map_eq_some_iff.mp hx
  obtain ⟨e2, -, rfl⟩ := Option.map_eq_some_iff.mp hy
  exact hab
theorem mp_D (hI : ∀ a, M a ≠ none → A a) (n : Nat) : va_D A (mp_en M n) := by
  have hpw := List.pairwise_iff_getElem.mp (mp_pw M n)
  refine ⟨fun i j x y hi hj hxy => ?_, fun k q hk => ?_⟩
  · obtain ⟨li, ei⟩ := List.getElem?_eq_some_iff.mp hi
    obtain ⟨lj, ej⟩ := List.getElem?_eq_some_iff.mp hj
    rcases Nat.lt_trichotomy i j with h | h | h
    · have := hpw i j li lj h
      rw [ei, ej] at this
      omega
    · exact h
    · have := hpw j i lj li h
      rw [ei, ej] at this
      omega
  · obtain ⟨a, e⟩ := q
    have := (mp_mem.mp (List.mem_of_getElem? hk)).2
    exact hI a (by rw [this]; exact fun z => by cases z)
theorem mp_idx {n a : Nat} {e : va_E} (hn : a < n) (h : M a = some e) : ∃ p : Nat, (mp_en M n)[p]? = some (a, e) := List.getElem?_of_mem (mp_mem.mpr ⟨hn, h⟩)
theorem mp_one {a : Nat} {e : va_E} (h : mp_ok D cl M H) (ha : M a = some e) : va_P D cl [(a, e)] H := by
  intro k q hk
  cases k with
  | zero => cases hk; exact h a e ha
  | succ k => simp at hk
theorem mp_set {n p a : Nat} {e0 e : va_E} (hd : ∀ b, M b ≠ none → b < n) (hp : (mp_en M n)[p]? = some (a, e0)) (h : va_P D cl ((mp_en M n).set p (a, e)) H1) : mp_ok D cl (mp_up M a e) H1 := by
  have hl := (List.getElem?_eq_some_iff.mp hp).1
  intro b e1 hb
  by_cases hba : b = a
  · subst hba
    rw [mp_up_s] at hb
    cases hb
    exact h p (b, e) (List.getElem?_set_self hl)
  · rw [mp_up_n hba] at hb
    obtain ⟨k, hk⟩ := mp_idx (hd b (by rw [hb]; exact fun z => by cases z)) hb
    have hkp : p ≠ k := by
      intro z
      subst z
      rw [hp] at hk
      cases hk
      exact hba rfl
    exact h k (b, e1) (by rw [List.getElem?_set_ne hkp]; exact hk)
/-- the world within a walk: the map holds, its cells are of A, since H0 nothing outside A has changed -/
def mw (D : va_G) (cl : List vw_C) (A : Nat → Prop) (H0 : Heap) (M : mp_M) (H : Heap) (locs : List Loc) : Prop := mp_ok D cl M H ∧ (∀ a, M a ≠ none → A a) ∧ va_S A H0 H locs
theorem mw_set {p a : Nat} {e0 e : va_E} {locs1 : List Loc} (hw : mw D cl A H0 M H locs) (hp : (mp_en M H.size)[p]? = some (a, e0)) (h : va_P D cl ((mp_en M H.size).set p (a, e)) H1) (hS : va_S A H0 H1 locs1) : mw D cl A H0 (mp_up M a e) H1 locs1 := by
  refine ⟨mp_set (fun b hb => mp_ltn hw.1 hb) hp h, fun b hb => ?_, hS⟩
  by_cases hba : b = a
  · subst hba
    have := (mp_mem.mp (List.mem_of_getElem? hp)).2
    exact hw.2.1 b (by rw [this]; exact fun z => by cases z)
  · rw [mp_up_n hba] at hb
    exact hw.2.1 b hb
/-- a new cell, the next -/
theorem mw_push {e : va_E} (hw : mw D cl A H0 M H locs) (hA : ∀ q, H0.size ≤ q → A q) (he : va_at D cl (H.size, e) H1) (hz : H1.size = H.size + 1) (hk : ∀ q, q < H.size → H1[q]? = H[q]?) : mw D cl A H0 (mp_up M H.size e) H1 locs := by
  obtain ⟨h1, h2, h3, h4, h5⟩ := hw
  refine ⟨fun b e1 hb => ?_, fun b hb => ?_, by omega, fun q h6 h7 => ?_, h5⟩
  · by_cases hba : b = H.size
    · subst hba
      rw [mp_up_s] at hb
      cases hb
      exact he
    · rw [mp_up_n hba] at hb
      exact (h1 b e1 hb).kept (hk b (mp_lt h1 hb))
  · by_cases hba : b = H.size
    · subst hba
      exact hA _ h3
    · rw [mp_up_n hba] at hb
      exact h2 b hb
  · rw [hk q (by omega)]
    exact h4 q h6 h7
/-- what a method may change: its map's cells, and those that it makes -/
def mfr (M : mp_M) (sz : Nat) : Nat → Prop := fun q => M q ≠ none ∨ sz ≤ q
theorem mfr_in (hw : mw D cl A H0 M H locs) (hA : ∀ q, H0.size ≤ q → A q) : ∀ q, mfr M H.size q → A q := by
  intro q h
  rcases h with h | h
  · exact hw.2.1 q h
  · exact hA q (Nat.le_trans hw.2.2.1 h)
theorem mw_rf (h : mp_ok D cl M H) : mw D cl (mfr M H.size) H M H [] := ⟨h, fun _ h => Or.inl h, va_S.rf⟩
end MP
/-! locals as a list of known values -/
section LH
def lh_l (vs : List (Option Value)) : List (Nat × Value) := (List.range vs.length).filterMap (fun i => (vs[i]?.join).map (fun v => (i, v)))
def lh (ls : Array Slot) (vs : List (Option Value)) : Prop := ls.size = vs.length ∧ lv_wf ls ∧ ∀ (i : Nat) (v : Value), vs[i]? = some (some v) → ls[i]? = some (.val v)
theorem lh_mem {vs : List (Option Value)} {i : Nat} {v : Value} : (i, v) ∈ lh_l vs ↔ vs[i]? = some (some v) := by
  simp only [lh_l, List.mem_filterMap, List.mem_range, Option.map_eq_some_iff, Prod.mk.injEq]
  constructor
  · rintro ⟨j, hj, w, h1, rfl, rfl⟩
    cases h : vs[j]? with
    | none => rw [h] at h1; cases h1
    | some o => rw [h] at h1; cases o with
      | none => cases h1
      | some x => cases h1; rfl
  · intro h
    exact ⟨i, (List.getElem?_eq_some_iff.mp h).1, v, by rw [h]; rfl, rfl, rfl⟩
theorem lh_has {ls : Array Slot} {vs : List (Option Value)} (h : lh ls vs) : lv_has ls vs.length (lh_l vs) := ⟨h.1, h.2.1, fun q hq => h.2.2 q.1 q.2 (lh_mem.mp hq)⟩
theorem lh_at {ls : Array Slot} {vs : List (Option Value)} (h : lh ls vs) {i : Nat} {v : Value} (hv : vs[i]? = some (some v)) : ls[i]? = some (.val v) := h.2.2 i v hv
/-- the value in front of place i is no long -/
def lh_ok (vs : List (Option Value)) (i : Nat) : Prop := ∀ (j : Nat) (w : Value), j + 1 = i → vs[j]? = some (some w) → ¬ w.category = 2
theorem lh_put1 {ls' : Array Slot} {vs : List (Option Value)} {i : Nat} {v : Value} (hi : i < vs.length) (hp : lh_ok vs i) (h : lv_has ls' vs.length ((i, v) :: (lh_l vs).filter (fun q => !(q.1 == i) && !(q.1 + 1 == i && q.2.category == 2)))) : lh ls' (vs.set i (some v)) := by
  refine ⟨by rw [h.1, List.length_set], h.2.1, fun j w hj => ?_⟩
  by_cases hji : j = i
  · subst hji
    rw [List.getElem?_set_self hi] at hj
    cases hj
    exact h.2.2 (j, v) List.mem_cons_self
  · rw [List.getElem?_set_ne (fun z => hji z.symm)] at hj
    refine h.2.2 (j, w) (List.mem_cons_of_mem _ (List.mem_filter.mpr ⟨lh_mem.mpr hj, ?_⟩))
    simp only [Bool.and_eq_true, Bool.not_eq_true', beq_eq_false_iff_ne, ne_eq, Bool.and_eq_false_iff]
    refine ⟨hji, ?_⟩
    by_cases h1 : j + 1 = i
    · exact Or.inr (hp j w h1 hj)
    · exact Or.inl h1
theorem lh_put2 {ls' : Array Slot} {vs : List (Option Value)} {i : Nat} {v : Value} (hi : i + 1 < vs.length) (hp : lh_ok vs i) (h : lv_has ls' vs.length ((i, v) :: (lh_l vs).filter (fun q => !(q.1 == i) && (!(q.1 == i + 1) && !(q.1 + 1 == i && q.2.category == 2))))) : lh ls' ((vs.set (i + 1) none).set i (some v)) := by
  refine ⟨by rw [h.1, List.length_set, List.length_set], h.2.1, fun j w hj => ?_⟩
  by_cases hji : j = i
  · subst hji
    rw [List.getElem?_set_self (by rw [List.length_set]; omega)] at hj
    cases hj
    exact h.2.2 (j, v) List.mem_cons_self
  · rw [List.getElem?_set_ne (fun z => hji z.symm)] at hj
    by_cases hj1 : j = i + 1
    · subst hj1
      rw [List.getElem?_set_self hi] at hj
      cases hj
    · rw [List.getElem?_set_ne (fun z => hj1 z.symm)] at hj
      refine h.2.2 (j, w) (List.mem_cons_of_mem _ (List.mem_filter.mpr ⟨lh_mem.mpr hj, ?_⟩))
      simp only [Bool.and_eq_true, Bool.not_eq_true', beq_eq_false_iff_ne, ne_eq, Bool.and_eq_false_iff]
      refine ⟨hji, hj1, ?_⟩
      by_cases h1 : j + 1 = i
      · exact Or.inr (hp j w h1 hj)
      · exact Or.inl h1
def lh_e (as : List Value) : List (Option Value) := as.flatMap fun v => if v.category = 2 then [some v, none] else [some v]
theorem lh_len (as : List Value) : (lh_e as).length = (lg_sl as).length := by
  induction as with
  | nil => rfl
  | cons v t ih =>
    simp only [lh_e, lg_sl, List.flatMap_cons, List.length_append] at ih ⊢
    rw [ih]
    by_cases h : v.category = 2
    · simp [h]
    · simp [h]
theorem lh_args : ∀ (as : List Value) (k i : Nat) (v : Value), (lh_e as)[i]? = some (some v) → (k + i, v) ∈ lv_args k as
  | [], k, i, v, h => by simp [lh_e] at h
  | a :: t, k, i, v, h => by
    simp only [lh_e, List.flatMap_cons] at h
    unfold lv_args
    by_cases hc : a.category = 2
    · rw [if_pos hc] at h ⊢
      match i, h with
      | 0, h => simp at h; subst h; exact List.mem_cons_self
      | 1, h => simp at h
      | j + 2, h =>
        have h' : (lh_e t)[j]? = some (some v) := by simpa [lh_e] using h
        have := lh_args t (k + 2) j v h'
        rw [show k + (j + 2) = k + 2 + j by omega]
        exact List.mem_cons_of_mem _ this
    · rw [if_neg hc] at h ⊢
      match i, h with
      | 0, h => simp at h; subst h; exact List.mem_cons_self
      | j + 1, h =>
        have h' : (lh_e t)[j]? = some (some v) := by simpa [lh_e] using h
        have := lh_args t (k + 1) j v h'
        rw [show k + (j + 1) = k + 1 + j by omega]
        exact List.mem_cons_of_mem _ this
theorem lh_entry (as : List Value) {n : Nat} (h : (lg_sl as).length ≤ n) : lh ((lg_sl as ++ List.replicate (n - (lg_sl as).length) Slot.unset).toArray) (lh_e as ++ List.replicate (n - (lg_sl as).length) none) := by
  have h0 := lv_entry as h
  refine ⟨?_, h0.2.1, fun i v hv => ?_⟩
  · rw [h0.1, List.length_append, lh_len, List.length_replicate]; omega
  · by_cases hi : i < (lh_e as).length
    · rw [List.getElem?_append_left hi] at hv
      have := lh_args as 0 i v hv
      rw [Nat.zero_add] at this
      exact h0.2.2 _ this
    · rw [List.getElem?_append_right (by omega)] at hv
      have := List.eq_of_mem_replicate (List.mem_of_getElem? hv)
      cases this
/-- a value is forgotten -/
theorem lh_drop {ls : Array Slot} {vs : List (Option Value)} (i : Nat) (h : lh ls vs) : lh ls (vs.set i none) := by
  refine ⟨by rw [h.1, List.length_set], h.2.1, fun j w hj => ?_⟩
  by_cases hji : j = i
  · subst hji
    by_cases hl : j < vs.length
    · rw [List.getElem?_set_self hl] at hj
      cases hj
    · rw [List.getElem?_eq_none (by rw [List.length_set]; omega)] at hj
      cases hj
  · rw [List.getElem?_set_ne (fun z => hji z.symm)] at hj
    exact h.2.2 j w hj
theorem va_rf_c (o : Option Nat) : (va_rf o).category = 1 := by cases o <;> rfl
end LH
