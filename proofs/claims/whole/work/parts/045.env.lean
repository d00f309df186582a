theorem ci_T : CI WALL vwCl 0 R_T T_T 6 ty_T := by
  refine ⟨rfl, fun w hw => ?_, by decide +kernel, by decide +kernel⟩
  obtain ⟨k, hk, rfl⟩ := List.mem_map.mp hw
  have hk := List.mem_range.mp hk
  match k, hk with
  | 0, _ => exact wm1 166 rfl rfl
  | 1, _ => exact wm1 168 rfl rfl
  | 2, _ => exact wm1 170 rfl rfl
  | 3, _ => exact wm1 172 rfl rfl
  | 4, _ => exact wm1 174 rfl rfl
  | 5, _ => exact wm1 176 rfl rfl
theorem ci_Tr : CI WALL vwCl 1 R_Tr T_Tr 1 ty_Tr := by
  refine ⟨rfl, fun w hw => ?_, by decide +kernel, by decide +kernel⟩
  obtain ⟨k, hk, rfl⟩ := List.mem_map.mp hw
  have hk := List.mem_range.mp hk
  match k, hk with
  | 0, _ => exact wm1 80 rfl rfl
theorem ci_Tx : CI WALL vwCl 2 R_Tx T_Tx 3 ty_Tx := by
  refine ⟨rfl, fun w hw => ?_, by decide +kernel, by decide +kernel⟩
  obtain ⟨k, hk, rfl⟩ := List.mem_map.mp hw
  have hk := List.mem_range.mp hk
  match k, hk with
  | 0, _ => exact wm1 96 rfl rfl
  | 1, _ => exact wm1 98 rfl rfl
  | 2, _ => exact wm1 100 rfl rfl
theorem ci_N : CI WALL vwCl 3 R_N T_N 10 ty_N := by
  refine ⟨rfl, fun w hw => ?_, by decide +kernel, by decide +kernel⟩
  obtain ⟨k, hk, rfl⟩ := List.mem_map.mp hw
  have hk := List.mem_range.mp hk
  match k, hk with
  | 0, _ => exact wm1 135 rfl rfl
  | 1, _ => exact wm1 137 rfl rfl
  | 2, _ => exact wm1 139 rfl rfl
  | 3, _ => exact wm1 141 rfl rfl
  | 4, _ => exact wm1 143 rfl rfl
  | 5, _ => exact wm1 145 rfl rfl
  | 6, _ => exact wm1 147 rfl rfl
  | 7, _ => exact wm1 149 rfl rfl
  | 8, _ => exact wm1 151 rfl rfl
  | 9, _ => exact wm1 153 rfl rfl
theorem ci_Te : CI WALL vwCl 4 R_Te T_Te 2 ty_Te := by
  refine ⟨rfl, fun w hw => ?_, by decide +kernel, by decide +kernel⟩
  obtain ⟨k, hk, rfl⟩ := List.mem_map.mp hw
  have hk := List.mem_range.mp hk
  match k, hk with
  | 0, _ => exact wm1 67 rfl rfl
  | 1, _ => exact wm1 69 rfl rfl
theorem ci_Rp : CI WALL vwCl 5 R_Rp T_Rp 4 ty_Rp := by
  refine ⟨rfl, fun w hw => ?_, by decide +kernel, by decide +kernel⟩
  obtain ⟨k, hk, rfl⟩ := List.mem_map.mp hw
  have hk := List.mem_range.mp hk
  match k, hk with
  | 0, _ => exact wm2 175 rfl rfl
  | 1, _ => exact wm2 177 rfl rfl
  | 2, _ => exact wm2 179 rfl rfl
  | 3, _ => exact wm2 181 rfl rfl
theorem ci_Me : CI WALL vwCl 6 R_Me T_Me 3 ty_Me := by
  refine ⟨rfl, fun w hw => ?_, by decide +kernel, by decide +kernel⟩
  obtain ⟨k, hk, rfl⟩ := List.mem_map.mp hw
  have hk := List.mem_range.mp hk
  match k, hk with
  | 0, _ => exact wm2 63 rfl rfl
  | 1, _ => exact wm2 65 rfl rfl
  | 2, _ => exact wm2 67 rfl rfl
theorem ci_AL : CI WALL vwCl 7 R_AL T_AL 3 ty_AL := by
  refine ⟨rfl, fun w hw => ?_, by decide +kernel, by decide +kernel⟩
  obtain ⟨k, hk, rfl⟩ := List.mem_map.mp hw
  have hk := List.mem_range.mp hk
  match k, hk with
  | 0, _ => exact wm1 54 rfl rfl
  | 1, _ => exact wm1 50 rfl rfl
  | 2, _ => exact wm1 52 rfl rfl
theorem ci_M : CI WALL vwCl 8 R_M T_M 21 ty_M := by
  refine ⟨rfl, fun w hw => ?_, by decide +kernel, by decide +kernel⟩
  obtain ⟨k, hk, rfl⟩ := List.mem_map.mp hw
  have hk := List.mem_range.mp hk
  match k, hk with
  | 0, _ => exact wm3 93 rfl rfl
  | 1, _ => exact wm3 95 rfl rfl
  | 2, _ => exact wm3 97 rfl rfl
  | 3, _ => exact wm3 99 rfl rfl
  | 4, _ => exact wm3 101 rfl rfl
  | 5, _ => exact wm3 103 rfl rfl
  | 6, _ => exact wm3 105 rfl rfl
  | 7, _ => exact wm3 107 rfl rfl
  | 8, _ => exact wm3 109 rfl rfl
  | 9, _ => exact wm3 111 rfl rfl
  | 10, _ => exact wm3 113 rfl rfl
  | 11, _ => exact wm3 115 rfl rfl
  | 12, _ => exact wm3 117 rfl rfl
  | 13, _ => exact wm3 119 rfl rfl
  | 14, _ => exact wm3 121 rfl rfl
  | 15, _ => exact wm3 123 rfl rfl
  | 16, _ => exact wm3 125 rfl rfl
  | 17, _ => exact wm3 127 rfl rfl
  | 18, _ => exact wm3 129 rfl rfl
  | 19, _ => exact wm3 131 rfl rfl
  | 20, _ => exact wm3 133 rfl rfl
  | j + 21, hk => exact absurd hk (by omega)
/-! what a state's tables give everywhere -/
section ENV
abbrev Ev : Type := va_G × (Nat → ClassId) × Nat
def tysE (E : Ev) : List (ClassId × FieldType) := [(E.2.1 0, .object "TreeRevisions$Node"), (E.2.1 1, .object "TreeRevisions$Tree"), (E.2.1 2, .object "TreeRevisions$Transaction"), (E.2.1 3, .object "java/lang/Object"), (E.2.1 4, .short), (E.2.1 5, .byte), (E.2.1 6, .boolean), (E.2.1 7, .int), (E.2.1 8, .long)]
def NW (U : State) : Prop := va_Nw (.methodLinkNest R_T 44 y_Tr_init R_T) U ∧ va_Nw (.methodLinkNest R_T 45 y_Tx_init R_T) U ∧ va_Nw (.methodLinkNest R_Tx 11 y_Tr_init R_T) U ∧ va_Nw (.methodLinkNest R_Tx 40 y_T_kindOf R_T) U ∧ va_Nw (.methodLinkNest R_T 141 y_Me_conflictAt R_T) U ∧ va_Nw (.methodLinkNest R_Me 62 y_T_kindOf R_T) U ∧ va_Nw (.methodLinkNest R_T 144 y_Me_mergeAt R_T) U
def AOs (U : State) : Prop := va_AO "TreeRevisions$Tree" U ∧ va_AO "TreeRevisions$Transaction" U ∧ va_AO "TreeRevisions$Node" U ∧ va_AO "java/lang/Object" U
def CSs (U : State) : Prop := va_Nw (.castable "TreeRevisions$Representation" "TreeRevisions$Representation") U ∧ va_Nw (.castable "TreeRevisions$Representation" "java/lang/Object") U
def EN (E : Ev) (A : Nat → Prop) (U : State) (H : Heap) : Prop := va_K E.1 vwCl (tysE E) U ∧ (NW U ∧ AOs U ∧ CSs U ∧ va_Mi "[Ljava/lang/Object;" (E.2.1 9) U ∧ va_Dc U) ∧ va_Z "java/util/ArrayList" "DEFAULTCAPACITY_EMPTY_ELEMENTDATA" "[Ljava/lang/Object;" (.ref E.2.2) A U H ∧ va_T (.object "java/lang/Object") E.2.2 0 (fun _ => .null) A U H
theorem EN.warm {E : Ev} {A : Nat → Prop} {s U : State} {H : Heap} (hW : s.WarmedH U.vm) (h : EN E A s H) : EN E A U H := by
  obtain ⟨h1, ⟨⟨n0, n1, n2, n3, n4, n5, n6⟩, ⟨a0, a1, a2, a3⟩, ⟨c0, c1⟩, d0, d1⟩, h3, h4⟩ := h
  exact ⟨va_K.moved hW.alike h1, ⟨⟨va_Nw.warmM hW n0, va_Nw.warmM hW n1, va_Nw.warmM hW n2, va_Nw.warmM hW n3, va_Nw.warmM hW n4, va_Nw.warmM hW n5, va_Nw.warmM hW n6⟩, ⟨va_AO.moved hW.alike a0, va_AO.moved hW.alike a1, va_AO.moved hW.alike a2, va_AO.moved hW.alike a3⟩, ⟨va_Nw.warmC hW c0, va_Nw.warmC hW c1⟩, va_Mi.moved hW.alike d0, va_Dc.moved hW.alike d1⟩, va_Z.moved hW.alike h3, va_T.moved hW.alike h4⟩
theorem EN.vm {E : Ev} {A : Nat → Prop} {u U : State} {H : Heap} (hv : u.vm = U.vm) (h : EN E A u H) : EN E A U H := by
  have al : u.vm.Alike U.vm := hv ▸ Vm.Alike.refl u.vm
  obtain ⟨h1, ⟨⟨n0, n1, n2, n3, n4, n5, n6⟩, ⟨a0, a1, a2, a3⟩, ⟨c0, c1⟩, d0, d1⟩, h3, h4⟩ := h
  exact ⟨va_K.moved al h1, ⟨⟨va_Nw.same rfl hv n0, va_Nw.same rfl hv n1, va_Nw.same rfl hv n2, va_Nw.same rfl hv n3, va_Nw.same rfl hv n4, va_Nw.same rfl hv n5, va_Nw.same rfl hv n6⟩, ⟨va_AO.moved al a0, va_AO.moved al a1, va_AO.moved al a2, va_AO.moved al a3⟩, ⟨va_Nw.same rfl hv c0, va_Nw.same rfl hv c1⟩, va_Mi.moved al d0, va_Dc.moved al d1⟩, va_Z.moved al h3, va_T.moved al h4⟩
theorem EN.kept {E : Ev} {A A' : Nat → Prop} {U : State} {H0 H : Heap} {locs : List Loc} (h : EN E A U H0) (hS : va_S A H0 H locs) (hA : ∀ q, A' q → A q) : EN E A' U H :=
  ⟨h.1, h.2.1, (va_Z.kept h.2.2.1 (fun a h1 h2 => hS.2.1 a h1 h2)).narrow hA, (va_T.kept h.2.2.2 (fun a h1 h2 => hS.2.1 a h1 h2)).narrow hA⟩
end ENV
