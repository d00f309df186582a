/-! the law's step: rows, invariant -/
section LW
variable {σ : SS}
theorem tch_r1 {t : Nat} : ∀ n (τ : SS) q, tch n τ t q 1 = τ 1
  | 0, τ, q => tst_o (by decide) (Or.inl ⟨by decide, by decide⟩)
  | n + 1, τ, q => by
    show tch n (tst τ t q) t (pp q) 1 = τ 1
    rw [tch_r1 n, tst_o (by decide) (Or.inl ⟨by decide, by decide⟩)]
theorem abO_y {t : Nat} : abO σ t 1 0 = σ 1 0 := by
  unfold abO
  split
  · rfl
  · rfl
theorem bgO_y {t : Nat} : bgO σ t 1 0 = σ 1 0 := by
  unfold bgO
  split
  · rfl
  · rfl
theorem mkO_y {t q : Nat} {b : Bool} : mkO σ t q b 1 0 = σ 1 0 := by
  unfold mkO
  split
  · rw [tch_r1]; rfl
  · rfl
theorem rmO_y {t q : Nat} : rmO σ t q 1 0 = σ 1 0 := by
  unfold rmO
  split
  · rw [tch_r1]; rfl
  · rfl
theorem cpO_y {t r f g : Nat} : cpO σ t r f g 1 0 = σ 1 0 := by
  unfold cpO
  split
  · rw [tch_r1]
    unfold cp4
    rw [gff_o _ _ _ (by decide)]
    rfl
  · rfl
theorem wrO_y {t q D z : Nat} : wrO σ t q D z 1 0 = σ 1 0 := by
  unfold wrO
  split
  · show tch (pd q) σ t q 1 0 = σ 1 0
    rw [tch_r1]
  · rfl
theorem cmO_y {t : Nat} (h : INV σ 3) (hC : CW σ ≤ 511) (hc : cmb σ t = true) (hf : cf σ t 3 0 = 125) : cmO σ t 1 0 = σ 1 0 + 1 := by
  have hc' := hc
  unfold cmb at hc'
  simp only [Bool.and_eq_true, decide_eq_true_eq] at hc'
  obtain ⟨h1, h2⟩ := hc'
  obtain ⟨ht, ho⟩ := opb_lt h1
  have hy := h.2.1.1
  obtain ⟨e, hx⟩ := cm1_e h ht ho
  obtain ⟨hI, hO⟩ := hx hf
  rw [if_pos hf, hf] at e
  have c1 : (cm1 σ t).1 = cg t 3 σ 0 := by rw [e]
  have c2 : (cm1 σ t).2 = 125 := by rw [e]
  have ho1 : cg t 3 σ 0 2 t ≠ 0 := by rw [hO.2.2 2 (by decide) (by decide) (by decide)]; exact ho
  have hy1 : cg t 3 σ 0 1 0 ≤ 14 := by rw [hO.2.2 1 (by decide) (by decide) (by decide)]; omega
  obtain ⟨hsv, hcv⟩ := com_sv h hC ht ho (by omega) hI hO
  rw [← com_cm2 (hO.2.2 1 (by decide) (by decide) (by decide))] at hsv hcv
  obtain ⟨-, -, s3, -⟩ := sv_slf ht 125 0 _ hsv hcv
  rw [cmO_t hc c2, c1, s3 1 (by decide), cm2_1, hO.2.2 1 (by decide) (by decide) (by decide)]
theorem cmO_n {t : Nat} (h : INV σ 3) (hn : ¬ (cmb σ t = true ∧ cf σ t 3 0 = 125)) : cmO σ t = σ := by
  by_cases hc : cmb σ t = true
  · have hc' := hc
    unfold cmb at hc'
    simp only [Bool.and_eq_true, decide_eq_true_eq] at hc'
    obtain ⟨ht, ho⟩ := opb_lt hc'.1
    obtain ⟨e, -⟩ := cm1_e h ht ho
    have c2 : (cm1 σ t).2 = cf σ t 3 0 := by rw [e]
    exact cmO_c hc (by rw [c2]; exact fun z => hn ⟨hc, z⟩)
  · exact cmO_f hc
theorem rvn_le (hy : σ 1 0 ≤ 15) {x : Int32} : rvn σ x < 16 → rvn σ x ≤ σ 1 0 := by
  unfold rvn
  split
  · next h =>
    intro _
    have h2 := Int32.le_iff_toInt_le.mp h.2
    rw [nI_toInt (by omega)] at h2
    show x.toInt.toNat ≤ σ 1 0
    omega
  · intro z
    exact absurd z (by omega)
theorem inv_b9 {s : Nat} (h : INV σ s) (j : Nat) : σ 12 j < 256 := by
  obtain ⟨n1, n2, -⟩ := h.2.2.1.2.2.2 j
  rcases Nat.lt_or_ge (σ 12 j) 128 with z | z
  · omega
  · have := n2 z; omega
theorem lN_ex (v : Int64) : ∃ D : Nat, D < 2 ^ 64 ∧ v = lN D := by
  refine ⟨v.toUInt64.toNat, v.toUInt64.toNat_lt, ?_⟩
  unfold lN
  apply Int64.toBitVec_inj.mp
  simp
/-- what holds at the head of the law's loop -/
def LI (E : Ev) (A : Nat → Prop) (H0 : Heap) (k : Nat) (σ : SS) (ca na ta ad : Nat → Nat) (M : mp_M) (H : Heap) (locs : List Loc) (cells slots : Nat) : Prop :=
  PIC E σ ca na ta M ∧ INV σ 3 ∧ rB σ ∧ PT σ ≤ 5 + 5 * k ∧ CW σ ≤ k ∧ rfI ad ∧ mw E.1 vwCl A H0 M H locs ∧ mw E.1 vwCl A H0 (rfM E σ ad) H locs ∧ mdj M (rfM E σ ad) ∧ cells ≤ 100 + 5 * k + 251 * σ 1 0 ∧ slots ≤ 30000 + 50 * k + 100503 * σ 1 0
/-- what holds all through the law -/
def LX (p : Program) (s : State) (m : MethodId) (c : Code) (b L : Nat) (xs : Nat → Int32) (E : Ev) (A : Nat → Prop) : Prop :=
  CallFix p m c code 4 s #[Value.ref b] WALL R_L ∧ EN E A s s.heap ∧ (∀ q, s.heap.size ≤ q → A q) ∧ va_X b L xs s s.heap ∧ b < s.heap.size ∧ ¬ A b ∧ (Cond.constantLong "TreeRevisionsLaw" 33 4294967295).before #[Value.ref b] s = true ∧ L ≤ 3072
variable {p : Program} {l : Launch} {e : Env} {R : Room} {s : State} {m : MethodId} {args : Array Value} {below : List Frame} {meth : Method} {c : Code} {H : Heap} {locs : List Loc} {cells slots : Nat} {Q : State → Prop}
variable {cc : ByteArray} {pc : Nat} {ls : Array Slot} {rest : List Value} {A : Nat → Prop} {H0 : Heap} {b L k : Nat} {xs : Nat → Int32} {vs : List (Option Value)}
/-- script[i + j] -/
theorem x_scr (j : Nat) (hx : p.tables.exec = Jvm.exec) (hb : c.code = cc) (hX : va_X b L xs s H0) (hbl : b < H0.size) (hbA : ¬ A b) (hS : va_S A H0 H locs) (hj : 6 * k + j < L) (hL : L ≤ 3072) (hl : lh ls vs) (h0 : vs[0]? = some (some (.ref b))) (h3 : vs[3]? = some (some (.int (nI (6 * k))))) {n : Int} (d0 : decode cc pc = .ok (.aload_n 0, 1)) (d1 : decode cc (pc + 1) = .ok (.iload_n 3, 1)) (d2 : decode cc (pc + 2) = .ok (.iconst n, 1)) (hn : Int32.ofInt n = nI j) (d3 : decode cc (pc + 3) = .ok (.iadd, 1)) (d4 : decode cc (pc + 4) = .ok (.iaload, 1))
    (kk : W p l e R s m args below meth c H locs cells slots Q (F0 m (pc + 5) ls (.int (xs (6 * k + j)) :: rest))) : W p l e R s m args below meth c H locs cells slots Q (F0 m pc ls rest) := by
  refine x_aload_n hx hb d0 hl h0 ?_
  refine x_iload_n hx hb d1 hl h3 ?_
  refine lv_iconst hx hb d2 hn ?_
  refine x_iadd hx hb d3 ?_
  refine va_sld hx hb hX hbl hbA hS (nI_in hj (by omega)) d4 ?_
  rw [nI_clamp (by omega)]
  exact kk
/-- script[i] -/
theorem x_scr0 (hx : p.tables.exec = Jvm.exec) (hb : c.code = cc) (hX : va_X b L xs s H0) (hbl : b < H0.size) (hbA : ¬ A b) (hS : va_S A H0 H locs) (hj : 6 * k < L) (hL : L ≤ 3072) (hl : lh ls vs) (h0 : vs[0]? = some (some (.ref b))) (h3 : vs[3]? = some (some (.int (nI (6 * k))))) (d0 : decode cc pc = .ok (.aload_n 0, 1)) (d1 : decode cc (pc + 1) = .ok (.iload_n 3, 1)) (d4 : decode cc (pc + 2) = .ok (.iaload, 1))
    (kk : W p l e R s m args below meth c H locs cells slots Q (F0 m (pc + 3) ls (.int (xs (6 * k)) :: rest))) : W p l e R s m args below meth c H locs cells slots Q (F0 m pc ls rest) := by
  refine x_aload_n hx hb d0 hl h0 ?_
  refine x_iload_n hx hb d1 hl h3 ?_
  refine va_sld hx hb hX hbl hbA hS (nI_in hj (by omega)) d4 ?_
  rw [nI_clamp (by omega)]
  exact kk
/-- v != 0 -/
theorem x_nz {v : Int32} (hx : p.tables.exec = Jvm.exec) (hb : c.code = cc) (d0 : decode cc pc = .ok (.ifCond .eq 7, 3)) (d1 : decode cc (pc + 3) = .ok (.iconst 1, 1)) (d2 : decode cc (pc + 4) = .ok (.goto 4, 3)) (d3 : decode cc (pc + 7) = .ok (.iconst 0, 1))
    (kk : W p l e R s m args below meth c H locs cells slots Q (F0 m (pc + 8) ls (.int (bz (decide (v ≠ 0))) :: rest))) : W p l e R s m args below meth c H locs cells slots Q (F0 m pc ls (.int v :: rest)) := by
  refine lv_if_eq (tgt := pc + 7) hx hb d0 rfl (fun h => ?_) (fun h => ?_)
  · refine lv_iconst (v := bz (decide (v ≠ 0))) hx hb d3 (by subst h; rfl) ?_
    exact kk
  · refine lv_iconst (v := bz (decide (v ≠ 0))) hx hb d1 (by rw [decide_eq_true h]; rfl) ?_
    refine lv_goto (tgt := pc + 8) hx hb d2 (by omega) ?_
    exact kk
theorem x_lorN {x y : Int64} {D : Nat} (hx : p.tables.exec = Jvm.exec) (hb : c.code = cc) (hd : decode cc pc = .ok (.lor, 1)) (hv : x ||| y = lN D) (kk : W p l e R s m args below meth c H locs cells slots Q (F0 m (pc + 1) ls (.long (lN D) :: rest))) : W p l e R s m args below meth c H locs cells slots Q (F0 m pc ls (.long y :: .long x :: rest)) :=
  lv_lor hx hb hd (by rw [hv]; exact kk)
end LW
