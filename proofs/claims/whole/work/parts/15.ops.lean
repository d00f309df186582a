/-! what the calls do, as functions of the state -/
section OP
theorem rmb_of {σ : SS} {x y : Int32} (h : rmb σ (tx x) (ix y) = true) : ∃ t, t < 3 ∧ x = nI t ∧ ∃ q, q < 125 ∧ y = nI q ∧ 0 < q := by
  unfold rmb at h
  simp only [Bool.and_eq_true, decide_eq_true_eq] at h
  obtain ⟨⟨⟨⟨⟨h1, h2⟩, h3⟩, -⟩, -⟩, -⟩ := h
  obtain ⟨t, ht, rfl, -⟩ := opb_of h1
  obtain ⟨q, hq, rfl⟩ := ix_good h2
  rw [ix_n hq] at h3
  exact ⟨t, ht, rfl, q, hq, rfl, by omega⟩
def mk4 (σ : SS) (t q w : Nat) : SS := plc (sp (sp (nod0 σ t w) 5 0 (σ 5 0 + 1)) 10 (σ 4 0 + 1) (σ 5 0 + 1)) t q (σ 4 0 + 1)
def mkO (σ : SS) (t q : Nat) (b : Bool) : SS := if rmb σ t q = true then tch (pd (pp q)) (mk4 σ t q (if b = true then 1 else 2)) t (pp q) else σ
theorem mkO_f {σ : SS} {t q : Nat} {b : Bool} (h : rmb σ t q = false) : mkO σ t q b = σ := if_neg (by rw [h]; decide)
theorem mkO_t {σ : SS} {t q : Nat} {b : Bool} (h : rmb σ t q = true) : mkO σ t q b = tch (pd (pp q)) (mk4 σ t q (if b = true then 1 else 2)) t (pp q) := if_pos h
end OP
