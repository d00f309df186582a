/-! trees of the class -/
section TR
theorem mp_up_id {M : mp_M} {a : Nat} {e : va_E} (h : M a = some e) : mp_up M a e = M := by
  funext j
  unfold mp_up
  split
  · next z => rw [z, h]
  · rfl
theorem ar_ne {E : Ev} {M : mp_M} {ar b ci : Nat} {f : Nat → Option Nat} {fv : List Value} (h1 : M ar = some (refs E f)) (h2 : M b = some (.inr (ci, fv))) : b ≠ ar := by
  rintro rfl
  rw [h1] at h2
  cases h2
def tput (f : Nat → Option Nat) (x : Int32) (v : Option Nat) : Nat → Option Nat := if ix x < 125 then va_up f (ix x) v else f
theorem tput_n {f : Nat → Option Nat} {k : Nat} {v : Option Nat} (h : k < 125) : tput f (nI k) v = va_up f k v := by
  unfold tput
  rw [ix_n h, if_pos h]
theorem tput_b {f : Nat → Option Nat} {x : Int32} {v : Option Nat} (h : ix x = 125) : tput f x v = f := by
  unfold tput
  rw [h, if_neg (by decide)]
/-- the nodes below f of row v are put below g in row u -/
def grf (v : Nat → Option Nat) (f g : Nat) : Nat → Nat → (Nat → Option Nat) → Nat → Option Nat
  | 0, _, u => u
  | n + 1, w, u => grf v f g n (w + 1) (if w ≠ f ∧ v w ≠ none ∧ pun w f = true then tput u (nI (pm w f g)) (v w) else u)
theorem grf_0 {v : Nat → Option Nat} {f g w : Nat} {u : Nat → Option Nat} : grf v f g 0 w u = u := rfl
theorem grf_s {v : Nat → Option Nat} {f g n w : Nat} {u : Nat → Option Nat} : grf v f g (n + 1) w u = grf v f g n (w + 1) (if w ≠ f ∧ v w ≠ none ∧ pun w f = true then tput u (nI (pm w f g)) (v w) else u) := rfl
/-- the deepest of the places w.. at and below q that hold a node -/
def htf (f : Nat → Option Nat) (q : Nat) : Nat → Nat → Nat → Nat
  | 0, _, b => b
  | n + 1, w, b => htf f q n (w + 1) (if f w ≠ none ∧ pun w q = true then (if b < pd w then pd w else b) else b)
theorem htf_le {f : Nat → Option Nat} {q : Nat} : ∀ n w b, b ≤ 3 → b ≤ htf f q n w b ∧ htf f q n w b ≤ 3
  | 0, _, b, h => ⟨Nat.le_refl _, h⟩
  | n + 1, w, b, h => by
    have hw := pd_le w
    unfold htf
    split
    · split
      · have := htf_le (f := f) (q := q) n (w + 1) (pd w) hw
        exact ⟨by omega, this.2⟩
      · exact htf_le n (w + 1) b h
    · exact htf_le n (w + 1) b h
theorem htf_s {f : Nat → Option Nat} {q n w b : Nat} : htf f q (n + 1) w b = htf f q n (w + 1) (if f w ≠ none ∧ pun w q = true then (if b < pd w then pd w else b) else b) := rfl
end TR
