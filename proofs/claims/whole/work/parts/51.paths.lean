/-! facts of paths -/
section PF
/-- the path of the first i names of q -/
def pq (q i : Nat) : Nat := q % pu i
set_option maxRecDepth 100000 in
set_option maxHeartbeats 2000000 in
theorem pf_1 : ∀ q : Fin 125, pgb q.val = true → ∀ i : Fin 4, pgb (pq q.val i.val) = true ∧ (i.val ≤ pd q.val → pd (pq q.val i.val) = i.val) ∧ (pd q.val ≤ i.val → pq q.val i.val = q.val) := by decide +kernel
theorem pq_good {q i : Nat} (h : pgb q = true) (hi : i < 4) : pgb (pq q i) = true := (pf_1 ⟨q, (pgb_t.mp h).1⟩ h ⟨i, hi⟩).1
theorem pq_d {q i : Nat} (h : pgb q = true) (hi : i ≤ pd q) : pd (pq q i) = i := (pf_1 ⟨q, (pgb_t.mp h).1⟩ h ⟨i, by have := pd_le q; omega⟩).2.1 hi
theorem pq_s {q i : Nat} (h : pgb q = true) (hi : i < 4) (h2 : pd q ≤ i) : pq q i = q := (pf_1 ⟨q, (pgb_t.mp h).1⟩ h ⟨i, hi⟩).2.2 h2
theorem pq_0 {q : Nat} : pq q 0 = 0 := Nat.mod_one q
theorem pu_dvd {j i : Nat} (h : j ≤ i) (hi : i < 4) : pu j ∣ pu i := by
  have hj : j = 0 ∨ j = 1 ∨ j = 2 ∨ j = 3 := by omega
  have hi : i = 0 ∨ i = 1 ∨ i = 2 ∨ i = 3 := by omega
  rcases hj with rfl | rfl | rfl | rfl <;> rcases hi with rfl | rfl | rfl | rfl <;> first | omega | decide
theorem pq_pq {q i j : Nat} (h : j ≤ i) (hi : i < 4) : pq (pq q i) j = pq q j := Nat.mod_mod_of_dvd q (pu_dvd h hi)
theorem pp_pq {q : Nat} : pp q = pq q (pd q - 1) := rfl
theorem pp_good {q : Nat} (h : pgb q = true) : pgb (pp q) = true := pq_good h (by have := pd_le q; omega)
theorem pd_0 : pd 0 = 0 := rfl
theorem pp_d {q : Nat} (h : pgb q = true) (h0 : 0 < q) : pd (pp q) + 1 = pd q := by
  have := pd_pos h0
  have h2 : pd (pp q) = pd q - 1 := pq_d h (by omega)
  omega
theorem pg_0 : pgb 0 = true := by decide
theorem pd_z {q : Nat} (h : pd q = 0) : q = 0 := by
  rcases Nat.eq_zero_or_pos q with z | z
  · exact z
  · have := pd_pos z
    omega
theorem pq_pp {q i : Nat} (h : i < pd q) : pq (pp q) i = pq q i := by
  have := pd_le q
  rw [pp_pq]
  exact pq_pq (by omega) (by omega)
/-- at or below -/
theorem pun_iff {w q : Nat} : pun w q = true ↔ pq w (pd q) = q := beq_iff_eq
theorem pun_r {q : Nat} (h : pgb q = true) : pun q q = true := pun_iff.mpr (pq_s h (by have := pd_le q; omega) (Nat.le_refl _))
theorem pun_0 {w : Nat} : pun w 0 = true := pun_iff.mpr pq_0
theorem pun_t {w q r : Nat} (h : pun w q = true) (h2 : pun q r = true) (hd : pd r ≤ pd q) : pun w r = true := by
  rw [pun_iff] at *
  rw [← h] at h2
  rw [pq_pq hd (by have := pd_le q; omega)] at h2
  exact h2
theorem pun_p {q : Nat} (h : pgb q = true) : pun q (pp q) = true := by
  rcases Nat.eq_zero_or_pos q with z | z
  · subst z; decide
  · have h1 := pp_d h z
    rw [pun_iff, show pd (pp q) = pd q - 1 by omega]
    rfl
/-- what is below q is above the path above too -/
theorem pun_up {w q : Nat} (hw : pgb w = true) (hq : pgb q = true) (h : pun w q = true) (hne : w ≠ q) : pun (pp w) q = true ∧ pd q < pd w := by
  have hd := pun_pd (pgb_t.mp hw).1 (pgb_t.mp hq).1 h
  have h1 := pun_iff.mp h
  have hlt : pd q < pd w := by
    rcases Nat.lt_or_ge (pd q) (pd w) with z | z
    · exact z
    · exfalso
      rw [pq_s hw (by have := pd_le q; omega) z] at h1
      exact hne h1
  refine ⟨pun_iff.mpr ?_, hlt⟩
  rw [pq_pp hlt]
  exact h1
theorem pun_dn {w q : Nat} (hw : pgb w = true) (h : pun (pp w) q = true) (hq : pgb q = true) : pun w q = true := by
  rcases Nat.eq_zero_or_pos w with z | z
  · subst z; exact h
  · have h1 := pun_iff.mp h
    have hd := pun_pd (pgb_t.mp (pp_good hw)).1 (pgb_t.mp hq).1 h
    have h2 := pp_d hw z
    rw [pq_pp (by omega)] at h1
    exact pun_iff.mpr h1
/-! names v behind f -/
set_option maxRecDepth 100000 in
set_option maxHeartbeats 2000000 in
theorem pf_2 : ∀ f : Fin 125, pgb f.val = true → ∀ v : Fin 125, pgb v.val = true → pd f.val + pd v.val ≤ 3 → pgb (f.val + v.val * pu (pd f.val)) = true ∧ pd (f.val + v.val * pu (pd f.val)) = pd f.val + pd v.val ∧ (0 < v.val → pp (f.val + v.val * pu (pd f.val)) = f.val + pp v.val * pu (pd f.val)) := by decide +kernel
set_option maxRecDepth 100000 in
set_option maxHeartbeats 2000000 in
theorem pf_3 : ∀ f : Fin 125, pgb f.val = true → ∀ w : Fin 125, pgb w.val = true → pun w.val f.val = true → pgb (w.val / pu (pd f.val)) = true ∧ pd f.val + pd (w.val / pu (pd f.val)) = pd w.val ∧ f.val + w.val / pu (pd f.val) * pu (pd f.val) = w.val := by decide +kernel
theorem pf_4 {f v : Nat} (hf : pgb f = true) : (f + v * pu (pd f)) / pu (pd f) = v ∧ (f + v * pu (pd f)) % pu (pd f) = f := by
  have h1 := pd_ub (pgb_t.mp hf).1
  have h2 := (pu_lt (pd f)).1
  constructor
  · rw [Nat.add_mul_div_right _ _ h2, Nat.div_eq_of_lt h1, Nat.zero_add]
  · rw [Nat.add_mul_mod_self_right, Nat.mod_eq_of_lt h1]
/-- a copied path -/
theorem pm_good {w f g : Nat} (hw : pgb w = true) (hf : pgb f = true) (hg : pgb g = true) (hu : pun w f = true) (hd : ¬ 3 < pd g + pd w - pd f) : pgb (pm w f g) = true ∧ pd (pm w f g) = pd g + pd w - pd f ∧ pun (pm w f g) g = true ∧ (w ≠ f → 0 < w / pu (pd f)) ∧ (0 < w / pu (pd f) → pp (pm w f g) = pm (pp w) f g ∧ pun (pp w) f = true) := by
  have hwl := (pgb_t.mp hw).1
  obtain ⟨a1, a2, a3⟩ := pf_3 ⟨f, (pgb_t.mp hf).1⟩ hf ⟨w, hwl⟩ hw hu
  simp only at a1 a2 a3
  have hvl := (pgb_t.mp a1).1
  obtain ⟨b1, b2, b3⟩ := pf_2 ⟨g, (pgb_t.mp hg).1⟩ hg ⟨w / pu (pd f), hvl⟩ a1 (by simp only; omega)
  simp only at b1 b2 b3
  refine ⟨b1, by show pd (g + _) = _; omega, pun_iff.mpr (pf_4 hg).2, fun hne => ?_, fun hv => ⟨?_, ?_⟩⟩
  · rcases Nat.eq_zero_or_pos (w / pu (pd f)) with z | z
    · rw [z, Nat.zero_mul, Nat.add_zero] at a3
      exact absurd a3.symm hne
    · exact z
  · obtain ⟨c1, c2, c3⟩ := pf_2 ⟨f, (pgb_t.mp hf).1⟩ hf ⟨w / pu (pd f), hvl⟩ a1 (by simp only; have := pd_le w; omega)
    simp only at c1 c2 c3
    have c4 := c3 hv
    rw [a3] at c4
    unfold pm
    rw [b3 hv, c4, (pf_4 hf).1]
  · obtain ⟨c1, c2, c3⟩ := pf_2 ⟨f, (pgb_t.mp hf).1⟩ hf ⟨w / pu (pd f), hvl⟩ a1 (by simp only; have := pd_le w; omega)
    simp only at c1 c2 c3
    have c4 := c3 hv
    rw [a3] at c4
    rw [c4]
    exact pun_iff.mpr (pf_4 hf).2
theorem pm_f {f g : Nat} (hf : pgb f = true) : pm f f g = g := by
  unfold pm
  rw [Nat.div_eq_of_lt (pd_ub (pgb_t.mp hf).1), Nat.zero_mul, Nat.add_zero]
/-- the path that came to q -/
def bk (f g q : Nat) : Nat := f + q / pu (pd g) * pu (pd f)
theorem bk_pm {w f g : Nat} (hw : pgb w = true) (hf : pgb f = true) (hg : pgb g = true) (hu : pun w f = true) : bk f g (pm w f g) = w := by
  unfold bk pm
  rw [(pf_4 hg).1]
  exact (pf_3 ⟨f, (pgb_t.mp hf).1⟩ hf ⟨w, (pgb_t.mp hw).1⟩ hw hu).2.2
end PF
