/-! booleans, narrowings -/
section XB
variable {p : Program} {l : Launch} {e : Env} {R : Room} {s : State} {m : MethodId} {args : Array Value} {below : List Frame} {meth : Method} {c : Code} {H : Heap} {locs : List Loc} {cells slots : Nat} {Q : State → Prop}
variable {cc : ByteArray} {pc : Nat} {ls : Array Slot} {rest : List Value} {off : Int} {tgt : Nat}
theorem bz_0 {b : Bool} : bz b = 0 ↔ b = false := by cases b <;> decide
theorem bz_1 {b : Bool} : ¬ bz b = 0 ↔ b = true := by cases b <;> decide
theorem bz_nI (b : Bool) : bz b = nI (if b = true then 1 else 0) := by cases b <;> rfl
theorem nar_bz {b : Bool} : narrow .boolean (.int (bz b)) = .int (bz b) := by cases b <;> rfl
theorem nar_z {k : Nat} (h : k ≤ 1) : vp_nar .boolean (nI k) = nI k := by
  rcases (show k = 0 ∨ k = 1 by omega) with rfl | rfl <;> decide
theorem x_if_eqB (hx : p.tables.exec = Jvm.exec) (hb : c.code = cc) {b : Bool} (hdg : decode cc pc = .ok (.ifCond .eq off, 3)) (ht : (pc : Int) + off = (tgt : Int))
    (kt : b = false → W p l e R s m args below meth c H locs cells slots Q (F0 m tgt ls rest)) (kf : b = true → W p l e R s m args below meth c H locs cells slots Q (F0 m (pc + 3) ls rest)) : W p l e R s m args below meth c H locs cells slots Q (F0 m pc ls (.int (bz b) :: rest)) := lv_if_eq hx hb hdg ht (fun h => kt (bz_0.mp h)) (fun h => kf (bz_1.mp h))
theorem x_if_neB (hx : p.tables.exec = Jvm.exec) (hb : c.code = cc) {b : Bool} (hdg : decode cc pc = .ok (.ifCond .ne off, 3)) (ht : (pc : Int) + off = (tgt : Int))
    (kt : b = true → W p l e R s m args below meth c H locs cells slots Q (F0 m tgt ls rest)) (kf : b = false → W p l e R s m args below meth c H locs cells slots Q (F0 m (pc + 3) ls rest)) : W p l e R s m args below meth c H locs cells slots Q (F0 m pc ls (.int (bz b) :: rest)) := lv_if_ne hx hb hdg ht (fun h => kt (bz_1.mp h)) (fun h => kf (bz_0.mp h))
theorem n16 {k : Nat} (h : k < 32768) : (nI k).toInt16.toInt32 = nI k := by
  apply Int32.toInt_inj.mp
  rw [Int16.toInt_toInt32, Int32.toInt_toInt16, nI_toInt (by omega)]
  rw [Int.bmod_eq_of_le (by omega) (by omega)]
theorem n8 {k : Nat} (h : k < 128) : (nI k).toInt8.toInt32 = nI k := by
  apply Int32.toInt_inj.mp
  rw [Int8.toInt_toInt32, Int32.toInt_toInt8, nI_toInt (by omega)]
  rw [Int.bmod_eq_of_le (by omega) (by omega)]
theorem nar_s {k : Nat} (h : k < 32768) : vp_nar .short (nI k) = nI k := by rw [vp_nar_short, n16 h]
theorem nar_b {k : Nat} (h : k < 128) : vp_nar .byte (nI k) = nI k := by rw [vp_nar_byte, n8 h]
theorem x_i2s (hx : p.tables.exec = Jvm.exec) (hb : c.code = cc) {k : Nat} (hdg : decode cc pc = .ok (.i2s, 1)) (h : k < 32768)
    (kk : W p l e R s m args below meth c H locs cells slots Q (F0 m (pc + 1) ls (.int (nI k) :: rest))) : W p l e R s m args below meth c H locs cells slots Q (F0 m pc ls (.int (nI k) :: rest)) := lv_i2s hx hb hdg (n16 h) kk
theorem x_i2b (hx : p.tables.exec = Jvm.exec) (hb : c.code = cc) {k : Nat} (hdg : decode cc pc = .ok (.i2b, 1)) (h : k < 128)
    (kk : W p l e R s m args below meth c H locs cells slots Q (F0 m (pc + 1) ls (.int (nI k) :: rest))) : W p l e R s m args below meth c H locs cells slots Q (F0 m pc ls (.int (nI k) :: rest)) := lv_i2b hx hb hdg (n8 h) kk
end XB
