/-! settling does not read which transactions are open -/
section SL2
variable {σ τ θ : SS} {ca na ta : Nat → Nat} {E : Ev} {M : mp_M}
theorem eqf_2 {g : Nat → Nat} {n : Nat} : ∀ u k, eqf (upf τ 2 g) n u k = eqf τ n u k := by
  intro u
  induction u with
  | zero => intro k; rfl
  | succ u ih =>
    intro k
    show (if τ 18 k = τ 7 n ∧ τ 17 k = τ 9 n then k else eqf (upf τ 2 g) n u (k + 1)) = (if τ 18 k = τ 7 n ∧ τ 17 k = τ 9 n then k else eqf τ n u (k + 1))
    rw [ih]
theorem anc_2 {g : Nat → Nat} : ∀ u a, anc (upf τ 2 g) u a = anc τ u a := by
  intro u
  induction u with
  | zero => intro a; rfl
  | succ u ih => intro a; show anc (upf τ 2 g) u (τ 13 a) = anc τ u (τ 13 a); rw [ih]
theorem sp_2 {g : Nat → Nat} {f k v : Nat} (h : f ≠ 2) : sp (upf τ 2 g) f k v = upf (sp τ f k v) 2 g := (upf_sp h).symm
theorem st5_2 {g : Nat → Nat} {n bv cv : Nat} : st5 (upf τ 2 g) n bv cv = upf (st5 τ n bv cv) 2 g := by
  unfold st5
  rw [show upf τ 2 g 16 = τ 16 from rfl, show upf τ 2 g 9 = τ 9 from rfl, show upf τ 2 g 7 = τ 7 from rfl]
  rw [sp_2 (by decide), sp_2 (by decide), sp_2 (by decide), sp_2 (by decide), sp_2 (by decide), sp_2 (by decide)]
theorem oldf_2 {g : Nat → Nat} {n : Nat} : oldf (upf τ 2 g) n = oldf τ n := by
  unfold oldf
  rw [show upf τ 2 g 11 = τ 11 from rfl, anc_2]
  rfl
theorem st3_2 {g : Nat → Nat} {n : Nat} : st3 (upf τ 2 g) n = upf (st3 τ n) 2 g := by
  unfold st3
  rw [oldf_2, show upf τ 2 g 20 = τ 20 from rfl, show upf τ 2 g 11 = τ 11 from rfl, st5_2, st5_2]
  split <;> rfl
theorem st2_2 {g : Nat → Nat} {n : Nat} : st2 (upf τ 2 g) n = upf (st2 τ n) 2 g := by
  unfold st2
  rw [show upf τ 2 g 7 = τ 7 from rfl, show upf τ 2 g 16 = τ 16 from rfl, eqf_2, st3_2, sp_2 (by decide)]
  split
  · rfl
  · split <;> rfl
theorem stf_2 {g : Nat → Nat} {n : Nat} : stf (upf τ 2 g) n = upf (stf τ n) 2 g := by
  unfold stf
  rw [sp_2 (by decide), st2_2]
theorem sl1_2 {g : Nat → Nat} {p : Nat} : sl1 (upf τ 2 g) p = upf (sl1 τ p) 2 g := by
  have r : rat (upf τ 2 g) (upf τ 2 g 1 0) p = rat τ (τ 1 0) p := rfl
  unfold sl1
  rw [r, show upf τ 2 g 12 = τ 12 from rfl, show upf τ 2 g 6 = τ 6 from rfl, show upf τ 2 g 8 = τ 8 from rfl, show upf τ 2 g 1 = τ 1 from rfl, sp_2 (by decide), stf_2]
  split
  · split <;> rfl
  · rfl
theorem slf_2 {g : Nat → Nat} : ∀ u p (τ : SS), slf u p (upf τ 2 g) = upf (slf u p τ) 2 g := by
  intro u
  induction u with
  | zero => intro p τ; rfl
  | succ u ih => intro p τ; show slf u (p + 1) (sl1 (upf τ 2 g) p) = upf (slf u (p + 1) (sl1 τ p)) 2 g; rw [sl1_2, ih]
theorem sl1_row2 {p : Nat} : sl1 τ p 2 = τ 2 := by
  have h := sl1_2 (τ := τ) (g := τ 2) (p := p)
  have e : upf τ 2 (τ 2) = τ := by
    funext i
    unfold upf
    split
    · next z => rw [z]
    · rfl
  rw [e] at h
  rw [h]
  exact if_pos rfl
/-- closing first or last -/
theorem slf_close {t : Nat} (u p : Nat) (κ : SS) : slf u p (sp κ 2 t 0) = sp (slf u p κ) 2 t 0 := by
  have e2 : ∀ u p (κ : SS), slf u p κ 2 = κ 2 := by
    intro u
    induction u with
    | zero => intro p κ; rfl
    | succ u ih => intro p κ; show slf u (p + 1) (sl1 κ p) 2 = κ 2; rw [ih, sl1_row2]
  unfold sp
  rw [slf_2, e2]
theorem ndf_12 {n z : Nat} (hz : z < 128) : (ndf σ na ta n).set 4 (.int (nI z)) = ndf (sp σ 12 n z) na ta n := by
  unfold ndf
  rw [sp_s, crI_n hz, sp_o (by decide), sp_o (by decide), sp_o (by decide), sp_o (by decide), sp_o (by decide), sp_o (by decide), sp_o (by decide)]
  rfl
theorem ndf_15 {n v : Nat} : (ndf σ na ta n).set 9 (.int (shI v)) = ndf (sp σ 15 n v) na ta n := by
  unfold ndf
  rw [sp_s, sp_o (by decide), sp_o (by decide), sp_o (by decide), sp_o (by decide), sp_o (by decide), sp_o (by decide), sp_o (by decide)]
  rfl
theorem pic_12 (h : PIC E σ ca na ta M) {n z : Nat} (h0 : 0 < n) (hn : n ≤ σ 4 0) (hz : z < 128) : PIC E (sp σ 12 n z) ca na ta (mp_up M (na n) (.inr (3, (ndf σ na ta n).set 4 (.int (nI z))))) := by
  rw [ndf_12 hz]
  exact pic_nod h h0 hn (fun f hf => sp_o (by omega)) (fun f j hj => by rw [sp_at, if_neg (fun y => hj y.2)]) (by rw [sp_o (by decide)]; exact (pic_z h).2.1 n)
theorem pic_15 (h : PIC E σ ca na ta M) {n v : Nat} (h0 : 0 < n) (hn : n ≤ σ 4 0) : PIC E (sp σ 15 n v) ca na ta (mp_up M (na n) (.inr (3, (ndf σ na ta n).set 9 (.int (shI v))))) := by
  rw [ndf_15]
  exact pic_nod h h0 hn (fun f hf => sp_o (by omega)) (fun f j hj => by rw [sp_at, if_neg (fun y => hj y.2)]) (by rw [sp_o (by decide)]; exact (pic_z h).2.1 n)
end SL2
