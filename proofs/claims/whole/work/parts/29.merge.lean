/-! the merging loops, as functions of the state: the state and the path of a conflict, 125 without one -/
section MG
def mg3 (t p : Nat) (d : Bool) : Nat → SS → SS × Nat
  | 0, τ => (τ, 125)
  | n + 1, τ => if wy τ t (p + 25 * (5 - (n + 1))) = 3 then (τ, p + 25 * (5 - (n + 1))) else mg3 t p d n (stl τ t (p + 25 * (5 - (n + 1))) (wy τ t (p + 25 * (5 - (n + 1)))) d)
def md3 (t p : Nat) (d : Bool) (τ : SS) : SS × Nat := if wy τ t p = 2 then mg3 t p d 4 (stl τ t p (wy τ t p) d) else (stl τ t p (wy τ t p) d, 125)
def mg2 (t o : Nat) (d : Bool) : Nat → SS → SS × Nat
  | 0, τ => (τ, 125)
  | n + 1, τ => if wy τ t (o + 5 * (5 - (n + 1))) = 3 then (τ, o + 5 * (5 - (n + 1))) else if (md3 t (o + 5 * (5 - (n + 1))) d τ).2 = 125 then mg2 t o d n (md3 t (o + 5 * (5 - (n + 1))) d τ).1 else md3 t (o + 5 * (5 - (n + 1))) d τ
def md2 (t o : Nat) (d : Bool) (τ : SS) : SS × Nat := if wy τ t o = 2 then mg2 t o d 4 (stl τ t o (wy τ t o) d) else (stl τ t o (wy τ t o) d, 125)
def mg1 (t : Nat) (d : Bool) : Nat → SS → SS × Nat
  | 0, τ => (τ, 125)
  | n + 1, τ => if wy τ t (5 - (n + 1)) = 3 then (τ, 5 - (n + 1)) else if (md2 t (5 - (n + 1)) d τ).2 = 125 then mg1 t d n (md2 t (5 - (n + 1)) d τ).1 else md2 t (5 - (n + 1)) d τ
def mI (r : Nat) : Int32 := if r = 125 then -1 else nI r
theorem mI_n {r : Nat} (h : r ≠ 125) : mI r = nI r := if_neg h
def MJ (τ : SS) (t k : Nat) : Prop := rB τ ∧ (∀ j, τ 0 j < 1300) ∧ τ 1 0 ≤ 15 ∧ τ 3 t ≤ 15 ∧ ∀ n, τ 11 n ≤ k
theorem MJ_up {τ : SS} {t k k' : Nat} (h : MJ τ t k) (hk : k ≤ k') : MJ τ t k' := ⟨h.1, h.2.1, h.2.2.1, h.2.2.2.1, fun n => Nat.le_trans (h.2.2.2.2 n) hk⟩
theorem MJ_tkn {τ : SS} {t q k : Nat} (h : MJ τ t k) : MJ (tkn τ t q 125) t k := by
  refine ⟨rB_rng (fun _ => h.1 0 _ (by decide) (by decide)) h.1, fun j => ?_, h.2.2.1, h.2.2.2.1, h.2.2.2.2⟩
  show (if 2000 + 125 * t ≤ j ∧ j < 2000 + 125 * t + 125 ∧ (pgb (j - (2000 + 125 * t)) && pun (j - (2000 + 125 * t)) q) = true then τ 0 (125 * τ 1 0 + (j - (2000 + 125 * t))) else τ 0 j) < 1300
  split <;> exact h.2.1 _
theorem MJ_jn {τ : SS} {t q k : Nat} (hk : k < 32000) (h : MJ τ t k) : MJ (jn τ t q) t (k + 1) := by
  have h1 := h.2.1 (125 * τ 1 0 + q)
  have h2 := h.2.2.2.2 (τ 0 (125 * τ 1 0 + q))
  refine ⟨rB_sp (rB_sp h.1 (by omega)) (by omega), h.2.1, h.2.2.1, h.2.2.2.1, fun n => ?_⟩
  unfold jn
  rw [sp_at]
  split
  · omega
  · have := h.2.2.2.2 n
    show τ 11 n ≤ k + 1
    omega
theorem MJ_stl {τ : SS} {t q w k : Nat} {d : Bool} (hk : k < 32000) (h : MJ τ t k) : MJ (stl τ t q w d) t (k + 1) := by
  unfold stl
  split
  · split
    · exact MJ_up (MJ_tkn h) (by omega)
    · split
      · exact MJ_jn hk h
      · exact MJ_up h (by omega)
  · exact MJ_up h (by omega)
theorem MJ_3 {t p : Nat} {d : Bool} : ∀ (n k : Nat) (τ : SS), k + n < 32000 → MJ τ t k → MJ (mg3 t p d n τ).1 t (k + n)
  | 0, k, τ, _, h => h
  | n + 1, k, τ, hk, h => by
    unfold mg3
    split
    · exact MJ_up h (by omega)
    · exact MJ_up (MJ_3 n (k + 1) _ (by omega) (MJ_stl (by omega) h)) (by omega)
theorem MJ_d3 {t p k : Nat} {d : Bool} {τ : SS} (hk : k < 31000) (h : MJ τ t k) : MJ (md3 t p d τ).1 t (k + 5) := by
  unfold md3
  split
  · exact MJ_up (MJ_3 4 (k + 1) _ (by omega) (MJ_stl (by omega) h)) (by omega)
  · exact MJ_up (MJ_stl (by omega) h) (by omega)
theorem MJ_2 {t o : Nat} {d : Bool} : ∀ (n k : Nat) (τ : SS), k + 5 * n < 30000 → MJ τ t k → MJ (mg2 t o d n τ).1 t (k + 5 * n)
  | 0, k, τ, _, h => h
  | n + 1, k, τ, hk, h => by
    unfold mg2
    split
    · exact MJ_up h (by omega)
    · split
      · exact MJ_up (MJ_2 n (k + 5) _ (by omega) (MJ_d3 (by omega) h)) (by omega)
      · exact MJ_up (MJ_d3 (by omega) h) (by omega)
theorem MJ_d2 {t o k : Nat} {d : Bool} {τ : SS} (hk : k < 29000) (h : MJ τ t k) : MJ (md2 t o d τ).1 t (k + 21) := by
  unfold md2
  split
  · exact MJ_up (MJ_2 4 (k + 1) _ (by omega) (MJ_stl (by omega) h)) (by omega)
  · exact MJ_up (MJ_stl (by omega) h) (by omega)
theorem MJ_1 {t : Nat} {d : Bool} : ∀ (n k : Nat) (τ : SS), k + 21 * n < 28000 → MJ τ t k → MJ (mg1 t d n τ).1 t (k + 21 * n)
  | 0, k, τ, _, h => h
  | n + 1, k, τ, hk, h => by
    unfold mg1
    split
    · exact MJ_up h (by omega)
    · split
      · exact MJ_up (MJ_1 n (k + 21) _ (by omega) (MJ_d2 (by omega) h)) (by omega)
      · exact MJ_up (MJ_d2 (by omega) h) (by omega)
theorem mg3_c {t p n : Nat} {d : Bool} {τ : SS} (h : wy τ t (p + 25 * (5 - (n + 1))) = 3) : mg3 t p d (n + 1) τ = (τ, p + 25 * (5 - (n + 1))) := if_pos h
theorem mg3_g {t p n : Nat} {d : Bool} {τ : SS} (h : wy τ t (p + 25 * (5 - (n + 1))) ≠ 3) : mg3 t p d (n + 1) τ = mg3 t p d n (stl τ t (p + 25 * (5 - (n + 1))) (wy τ t (p + 25 * (5 - (n + 1)))) d) := if_neg h
theorem md3_2 {t p : Nat} {d : Bool} {τ : SS} (h : wy τ t p = 2) : md3 t p d τ = mg3 t p d 4 (stl τ t p (wy τ t p) d) := if_pos h
theorem md3_n {t p : Nat} {d : Bool} {τ : SS} (h : wy τ t p ≠ 2) : md3 t p d τ = (stl τ t p (wy τ t p) d, 125) := if_neg h
theorem mg2_c {t o n : Nat} {d : Bool} {τ : SS} (h : wy τ t (o + 5 * (5 - (n + 1))) = 3) : mg2 t o d (n + 1) τ = (τ, o + 5 * (5 - (n + 1))) := if_pos h
theorem mg2_g {t o n : Nat} {d : Bool} {τ : SS} (h : wy τ t (o + 5 * (5 - (n + 1))) ≠ 3) (h2 : (md3 t (o + 5 * (5 - (n + 1))) d τ).2 = 125) : mg2 t o d (n + 1) τ = mg2 t o d n (md3 t (o + 5 * (5 - (n + 1))) d τ).1 := by
  show (if _ then _ else _) = _
  rw [if_neg h, if_pos h2]
theorem mg2_d {t o n : Nat} {d : Bool} {τ : SS} (h : wy τ t (o + 5 * (5 - (n + 1))) ≠ 3) (h2 : (md3 t (o + 5 * (5 - (n + 1))) d τ).2 ≠ 125) : mg2 t o d (n + 1) τ = md3 t (o + 5 * (5 - (n + 1))) d τ := by
  show (if _ then _ else _) = _
  rw [if_neg h, if_neg h2]
theorem md2_2 {t o : Nat} {d : Bool} {τ : SS} (h : wy τ t o = 2) : md2 t o d τ = mg2 t o d 4 (stl τ t o (wy τ t o) d) := if_pos h
theorem md2_n {t o : Nat} {d : Bool} {τ : SS} (h : wy τ t o ≠ 2) : md2 t o d τ = (stl τ t o (wy τ t o) d, 125) := if_neg h
theorem mg1_c {t n : Nat} {d : Bool} {τ : SS} (h : wy τ t (5 - (n + 1)) = 3) : mg1 t d (n + 1) τ = (τ, 5 - (n + 1)) := if_pos h
theorem mg1_g {t n : Nat} {d : Bool} {τ : SS} (h : wy τ t (5 - (n + 1)) ≠ 3) (h2 : (md2 t (5 - (n + 1)) d τ).2 = 125) : mg1 t d (n + 1) τ = mg1 t d n (md2 t (5 - (n + 1)) d τ).1 := by
  show (if _ then _ else _) = _
  rw [if_neg h, if_pos h2]
theorem mg1_d {t n : Nat} {d : Bool} {τ : SS} (h : wy τ t (5 - (n + 1)) ≠ 3) (h2 : (md2 t (5 - (n + 1)) d τ).2 ≠ 125) : mg1 t d (n + 1) τ = md2 t (5 - (n + 1)) d τ := by
  show (if _ then _ else _) = _
  rw [if_neg h, if_neg h2]
end MG
