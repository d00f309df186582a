theorem d_Me_isUnchangedIn_0 : decode prog_2_method_4_code 0 = .ok (.aload_n 1, 1) := by decide +kernel
theorem d_Me_isUnchangedIn_1 : decode prog_2_method_4_code 1 = .ok (.iload_n 2, 1) := by decide +kernel
theorem d_Me_isUnchangedIn_2 : decode prog_2_method_4_code 2 = .ok (.invokevirtual 52, 3) := by decide +kernel
theorem d_Me_isUnchangedIn_5 : decode prog_2_method_4_code 5 = .ok (.aload_n 0, 1) := by decide +kernel
theorem d_Me_isUnchangedIn_6 : decode prog_2_method_4_code 6 = .ok (.getfield 9, 3) := by decide +kernel
theorem d_Me_isUnchangedIn_9 : decode prog_2_method_4_code 9 = .ok (.iload_n 2, 1) := by decide +kernel
theorem d_Me_isUnchangedIn_10 : decode prog_2_method_4_code 10 = .ok (.invokevirtual 52, 3) := by decide +kernel
theorem d_Me_isUnchangedIn_13 : decode prog_2_method_4_code 13 = .ok (.if_acmp .ne 7, 3) := by decide +kernel
theorem d_Me_isUnchangedIn_16 : decode prog_2_method_4_code 16 = .ok (.iconst 1, 1) := by decide +kernel
theorem d_Me_isUnchangedIn_17 : decode prog_2_method_4_code 17 = .ok (.goto 4, 3) := by decide +kernel
theorem d_Me_isUnchangedIn_20 : decode prog_2_method_4_code 20 = .ok (.iconst 0, 1) := by decide +kernel
theorem d_Me_isUnchangedIn_21 : decode prog_2_method_4_code 21 = .ok (.ireturn, 1) := by decide +kernel

theorem d_Me_isOneDirectory_0 : decode prog_2_method_5_code 0 = .ok (.aload_n 0, 1) := by decide +kernel
theorem d_Me_isOneDirectory_1 : decode prog_2_method_5_code 1 = .ok (.getfield 9, 3) := by decide +kernel
theorem d_Me_isOneDirectory_4 : decode prog_2_method_5_code 4 = .ok (.iload_n 1, 1) := by decide +kernel
theorem d_Me_isOneDirectory_5 : decode prog_2_method_5_code 5 = .ok (.invokevirtual 52, 3) := by decide +kernel
theorem d_Me_isOneDirectory_8 : decode prog_2_method_5_code 8 = .ok (.astore_n 2, 1) := by decide +kernel
theorem d_Me_isOneDirectory_9 : decode prog_2_method_5_code 9 = .ok (.aload_n 0, 1) := by decide +kernel
theorem d_Me_isOneDirectory_10 : decode prog_2_method_5_code 10 = .ok (.getfield 15, 3) := by decide +kernel
theorem d_Me_isOneDirectory_13 : decode prog_2_method_5_code 13 = .ok (.iload_n 1, 1) := by decide +kernel
theorem d_Me_isOneDirectory_14 : decode prog_2_method_5_code 14 = .ok (.invokevirtual 52, 3) := by decide +kernel
theorem d_Me_isOneDirectory_17 : decode prog_2_method_5_code 17 = .ok (.astore_n 3, 1) := by decide +kernel
theorem d_Me_isOneDirectory_18 : decode prog_2_method_5_code 18 = .ok (.aload_n 0, 1) := by decide +kernel
theorem d_Me_isOneDirectory_19 : decode prog_2_method_5_code 19 = .ok (.getfield 18, 3) := by decide +kernel
theorem d_Me_isOneDirectory_22 : decode prog_2_method_5_code 22 = .ok (.iload_n 1, 1) := by decide +kernel
theorem d_Me_isOneDirectory_23 : decode prog_2_method_5_code 23 = .ok (.invokevirtual 52, 3) := by decide +kernel
theorem d_Me_isOneDirectory_26 : decode prog_2_method_5_code 26 = .ok (.astore 4, 2) := by decide +kernel
theorem d_Me_isOneDirectory_28 : decode prog_2_method_5_code 28 = .ok (.aload_n 2, 1) := by decide +kernel
theorem d_Me_isOneDirectory_29 : decode prog_2_method_5_code 29 = .ok (.invokestatic 62, 3) := by decide +kernel
theorem d_Me_isOneDirectory_32 : decode prog_2_method_5_code 32 = .ok (.iconst 1, 1) := by decide +kernel
theorem d_Me_isOneDirectory_33 : decode prog_2_method_5_code 33 = .ok (.if_icmp .ne 47, 3) := by decide +kernel
theorem d_Me_isOneDirectory_36 : decode prog_2_method_5_code 36 = .ok (.aload_n 3, 1) := by decide +kernel
theorem d_Me_isOneDirectory_37 : decode prog_2_method_5_code 37 = .ok (.invokestatic 62, 3) := by decide +kernel
theorem d_Me_isOneDirectory_40 : decode prog_2_method_5_code 40 = .ok (.iconst 1, 1) := by decide +kernel
theorem d_Me_isOneDirectory_41 : decode prog_2_method_5_code 41 = .ok (.if_icmp .ne 39, 3) := by decide +kernel
theorem d_Me_isOneDirectory_44 : decode prog_2_method_5_code 44 = .ok (.aload 4, 2) := by decide +kernel
theorem d_Me_isOneDirectory_46 : decode prog_2_method_5_code 46 = .ok (.invokestatic 62, 3) := by decide +kernel
theorem d_Me_isOneDirectory_49 : decode prog_2_method_5_code 49 = .ok (.iconst 1, 1) := by decide +kernel
theorem d_Me_isOneDirectory_50 : decode prog_2_method_5_code 50 = .ok (.if_icmp .ne 30, 3) := by decide +kernel
theorem d_Me_isOneDirectory_53 : decode prog_2_method_5_code 53 = .ok (.aload_n 2, 1) := by decide +kernel
theorem d_Me_isOneDirectory_54 : decode prog_2_method_5_code 54 = .ok (.getfield 66, 3) := by decide +kernel
theorem d_Me_isOneDirectory_57 : decode prog_2_method_5_code 57 = .ok (.aload_n 3, 1) := by decide +kernel
theorem d_Me_isOneDirectory_58 : decode prog_2_method_5_code 58 = .ok (.getfield 66, 3) := by decide +kernel
theorem d_Me_isOneDirectory_61 : decode prog_2_method_5_code 61 = .ok (.if_icmp .ne 19, 3) := by decide +kernel
theorem d_Me_isOneDirectory_64 : decode prog_2_method_5_code 64 = .ok (.aload_n 2, 1) := by decide +kernel
theorem d_Me_isOneDirectory_65 : decode prog_2_method_5_code 65 = .ok (.getfield 66, 3) := by decide +kernel
theorem d_Me_isOneDirectory_68 : decode prog_2_method_5_code 68 = .ok (.aload 4, 2) := by decide +kernel
theorem d_Me_isOneDirectory_70 : decode prog_2_method_5_code 70 = .ok (.getfield 66, 3) := by decide +kernel
theorem d_Me_isOneDirectory_73 : decode prog_2_method_5_code 73 = .ok (.if_icmp .ne 7, 3) := by decide +kernel
theorem d_Me_isOneDirectory_76 : decode prog_2_method_5_code 76 = .ok (.iconst 1, 1) := by decide +kernel
theorem d_Me_isOneDirectory_77 : decode prog_2_method_5_code 77 = .ok (.goto 4, 3) := by decide +kernel
theorem d_Me_isOneDirectory_80 : decode prog_2_method_5_code 80 = .ok (.iconst 0, 1) := by decide +kernel
theorem d_Me_isOneDirectory_81 : decode prog_2_method_5_code 81 = .ok (.ireturn, 1) := by decide +kernel

theorem d_Me_conflictAt_0 : decode prog_2_method_2_code 0 = .ok (.aload_n 0, 1) := by decide +kernel
theorem d_Me_conflictAt_1 : decode prog_2_method_2_code 1 = .ok (.aload_n 0, 1) := by decide +kernel
theorem d_Me_conflictAt_2 : decode prog_2_method_2_code 2 = .ok (.getfield 15, 3) := by decide +kernel
theorem d_Me_conflictAt_5 : decode prog_2_method_2_code 5 = .ok (.iload_n 1, 1) := by decide +kernel
theorem d_Me_conflictAt_6 : decode prog_2_method_2_code 6 = .ok (.invokevirtual 21, 3) := by decide +kernel
theorem d_Me_conflictAt_9 : decode prog_2_method_2_code 9 = .ok (.ifCond .ne 15, 3) := by decide +kernel
theorem d_Me_conflictAt_12 : decode prog_2_method_2_code 12 = .ok (.aload_n 0, 1) := by decide +kernel
theorem d_Me_conflictAt_13 : decode prog_2_method_2_code 13 = .ok (.aload_n 0, 1) := by decide +kernel
theorem d_Me_conflictAt_14 : decode prog_2_method_2_code 14 = .ok (.getfield 18, 3) := by decide +kernel
theorem d_Me_conflictAt_17 : decode prog_2_method_2_code 17 = .ok (.iload_n 1, 1) := by decide +kernel
theorem d_Me_conflictAt_18 : decode prog_2_method_2_code 18 = .ok (.invokevirtual 21, 3) := by decide +kernel
theorem d_Me_conflictAt_21 : decode prog_2_method_2_code 21 = .ok (.ifCond .eq 5, 3) := by decide +kernel
theorem d_Me_conflictAt_24 : decode prog_2_method_2_code 24 = .ok (.iconst (-1), 1) := by decide +kernel
theorem d_Me_conflictAt_25 : decode prog_2_method_2_code 25 = .ok (.ireturn, 1) := by decide +kernel
theorem d_Me_conflictAt_26 : decode prog_2_method_2_code 26 = .ok (.aload_n 0, 1) := by decide +kernel
theorem d_Me_conflictAt_27 : decode prog_2_method_2_code 27 = .ok (.iload_n 1, 1) := by decide +kernel
theorem d_Me_conflictAt_28 : decode prog_2_method_2_code 28 = .ok (.invokevirtual 25, 3) := by decide +kernel
theorem d_Me_conflictAt_31 : decode prog_2_method_2_code 31 = .ok (.ifCond .ne 5, 3) := by decide +kernel
theorem d_Me_conflictAt_34 : decode prog_2_method_2_code 34 = .ok (.iload_n 1, 1) := by decide +kernel
theorem d_Me_conflictAt_35 : decode prog_2_method_2_code 35 = .ok (.ireturn, 1) := by decide +kernel
theorem d_Me_conflictAt_36 : decode prog_2_method_2_code 36 = .ok (.iconst 1, 1) := by decide +kernel
theorem d_Me_conflictAt_37 : decode prog_2_method_2_code 37 = .ok (.istore_n 2, 1) := by decide +kernel
theorem d_Me_conflictAt_38 : decode prog_2_method_2_code 38 = .ok (.iload_n 2, 1) := by decide +kernel
theorem d_Me_conflictAt_39 : decode prog_2_method_2_code 39 = .ok (.iload_n 1, 1) := by decide +kernel
theorem d_Me_conflictAt_40 : decode prog_2_method_2_code 40 = .ok (.invokestatic 29, 3) := by decide +kernel
theorem d_Me_conflictAt_43 : decode prog_2_method_2_code 43 = .ok (.if_icmp .gt 26, 3) := by decide +kernel
theorem d_Me_conflictAt_46 : decode prog_2_method_2_code 46 = .ok (.aload_n 0, 1) := by decide +kernel
theorem d_Me_conflictAt_47 : decode prog_2_method_2_code 47 = .ok (.iload_n 1, 1) := by decide +kernel
theorem d_Me_conflictAt_48 : decode prog_2_method_2_code 48 = .ok (.iload_n 2, 1) := by decide +kernel
theorem d_Me_conflictAt_49 : decode prog_2_method_2_code 49 = .ok (.invokestatic 35, 3) := by decide +kernel
theorem d_Me_conflictAt_52 : decode prog_2_method_2_code 52 = .ok (.invokevirtual 39, 3) := by decide +kernel
theorem d_Me_conflictAt_55 : decode prog_2_method_2_code 55 = .ok (.istore_n 3, 1) := by decide +kernel
theorem d_Me_conflictAt_56 : decode prog_2_method_2_code 56 = .ok (.iload_n 3, 1) := by decide +kernel
theorem d_Me_conflictAt_57 : decode prog_2_method_2_code 57 = .ok (.iconst (-1), 1) := by decide +kernel
theorem d_Me_conflictAt_58 : decode prog_2_method_2_code 58 = .ok (.if_icmp .eq 5, 3) := by decide +kernel
theorem d_Me_conflictAt_61 : decode prog_2_method_2_code 61 = .ok (.iload_n 3, 1) := by decide +kernel
theorem d_Me_conflictAt_62 : decode prog_2_method_2_code 62 = .ok (.ireturn, 1) := by decide +kernel
theorem d_Me_conflictAt_63 : decode prog_2_method_2_code 63 = .ok (.iinc 2 1, 3) := by decide +kernel
theorem d_Me_conflictAt_66 : decode prog_2_method_2_code 66 = .ok (.goto (-28), 3) := by decide +kernel
theorem d_Me_conflictAt_69 : decode prog_2_method_2_code 69 = .ok (.iconst (-1), 1) := by decide +kernel
theorem d_Me_conflictAt_70 : decode prog_2_method_2_code 70 = .ok (.ireturn, 1) := by decide +kernel

theorem d_Me_mergeAt_0 : decode prog_2_method_3_code 0 = .ok (.aload_n 0, 1) := by decide +kernel
theorem d_Me_mergeAt_1 : decode prog_2_method_3_code 1 = .ok (.aload_n 0, 1) := by decide +kernel
theorem d_Me_mergeAt_2 : decode prog_2_method_3_code 2 = .ok (.getfield 15, 3) := by decide +kernel
theorem d_Me_mergeAt_5 : decode prog_2_method_3_code 5 = .ok (.iload_n 1, 1) := by decide +kernel
theorem d_Me_mergeAt_6 : decode prog_2_method_3_code 6 = .ok (.invokevirtual 21, 3) := by decide +kernel
theorem d_Me_mergeAt_9 : decode prog_2_method_3_code 9 = .ok (.ifCond .eq 4, 3) := by decide +kernel
theorem d_Me_mergeAt_12 : decode prog_2_method_3_code 12 = .ok (.return_, 1) := by decide +kernel
theorem d_Me_mergeAt_13 : decode prog_2_method_3_code 13 = .ok (.aload_n 0, 1) := by decide +kernel
theorem d_Me_mergeAt_14 : decode prog_2_method_3_code 14 = .ok (.aload_n 0, 1) := by decide +kernel
theorem d_Me_mergeAt_15 : decode prog_2_method_3_code 15 = .ok (.getfield 18, 3) := by decide +kernel
theorem d_Me_mergeAt_18 : decode prog_2_method_3_code 18 = .ok (.iload_n 1, 1) := by decide +kernel
theorem d_Me_mergeAt_19 : decode prog_2_method_3_code 19 = .ok (.invokevirtual 21, 3) := by decide +kernel
theorem d_Me_mergeAt_22 : decode prog_2_method_3_code 22 = .ok (.ifCond .eq 16, 3) := by decide +kernel
theorem d_Me_mergeAt_25 : decode prog_2_method_3_code 25 = .ok (.aload_n 0, 1) := by decide +kernel
theorem d_Me_mergeAt_26 : decode prog_2_method_3_code 26 = .ok (.getfield 18, 3) := by decide +kernel
theorem d_Me_mergeAt_29 : decode prog_2_method_3_code 29 = .ok (.aload_n 0, 1) := by decide +kernel
theorem d_Me_mergeAt_30 : decode prog_2_method_3_code 30 = .ok (.getfield 15, 3) := by decide +kernel
theorem d_Me_mergeAt_33 : decode prog_2_method_3_code 33 = .ok (.iload_n 1, 1) := by decide +kernel
theorem d_Me_mergeAt_34 : decode prog_2_method_3_code 34 = .ok (.invokevirtual 42, 3) := by decide +kernel
theorem d_Me_mergeAt_37 : decode prog_2_method_3_code 37 = .ok (.return_, 1) := by decide +kernel
theorem d_Me_mergeAt_38 : decode prog_2_method_3_code 38 = .ok (.iconst 1, 1) := by decide +kernel
theorem d_Me_mergeAt_39 : decode prog_2_method_3_code 39 = .ok (.istore_n 2, 1) := by decide +kernel
theorem d_Me_mergeAt_40 : decode prog_2_method_3_code 40 = .ok (.iload_n 2, 1) := by decide +kernel
theorem d_Me_mergeAt_41 : decode prog_2_method_3_code 41 = .ok (.iload_n 1, 1) := by decide +kernel
theorem d_Me_mergeAt_42 : decode prog_2_method_3_code 42 = .ok (.invokestatic 29, 3) := by decide +kernel
theorem d_Me_mergeAt_45 : decode prog_2_method_3_code 45 = .ok (.if_icmp .gt 18, 3) := by decide +kernel
theorem d_Me_mergeAt_48 : decode prog_2_method_3_code 48 = .ok (.aload_n 0, 1) := by decide +kernel
theorem d_Me_mergeAt_49 : decode prog_2_method_3_code 49 = .ok (.iload_n 1, 1) := by decide +kernel
theorem d_Me_mergeAt_50 : decode prog_2_method_3_code 50 = .ok (.iload_n 2, 1) := by decide +kernel
theorem d_Me_mergeAt_51 : decode prog_2_method_3_code 51 = .ok (.invokestatic 35, 3) := by decide +kernel
theorem d_Me_mergeAt_54 : decode prog_2_method_3_code 54 = .ok (.invokevirtual 48, 3) := by decide +kernel
theorem d_Me_mergeAt_57 : decode prog_2_method_3_code 57 = .ok (.iinc 2 1, 3) := by decide +kernel
theorem d_Me_mergeAt_60 : decode prog_2_method_3_code 60 = .ok (.goto (-20), 3) := by decide +kernel
theorem d_Me_mergeAt_63 : decode prog_2_method_3_code 63 = .ok (.aload_n 0, 1) := by decide +kernel
theorem d_Me_mergeAt_64 : decode prog_2_method_3_code 64 = .ok (.getfield 18, 3) := by decide +kernel
theorem d_Me_mergeAt_67 : decode prog_2_method_3_code 67 = .ok (.iload_n 1, 1) := by decide +kernel
theorem d_Me_mergeAt_68 : decode prog_2_method_3_code 68 = .ok (.invokevirtual 52, 3) := by decide +kernel
theorem d_Me_mergeAt_71 : decode prog_2_method_3_code 71 = .ok (.astore_n 2, 1) := by decide +kernel
theorem d_Me_mergeAt_72 : decode prog_2_method_3_code 72 = .ok (.aload_n 0, 1) := by decide +kernel
theorem d_Me_mergeAt_73 : decode prog_2_method_3_code 73 = .ok (.getfield 15, 3) := by decide +kernel
theorem d_Me_mergeAt_76 : decode prog_2_method_3_code 76 = .ok (.iload_n 1, 1) := by decide +kernel
theorem d_Me_mergeAt_77 : decode prog_2_method_3_code 77 = .ok (.invokevirtual 52, 3) := by decide +kernel
theorem d_Me_mergeAt_80 : decode prog_2_method_3_code 80 = .ok (.astore_n 3, 1) := by decide +kernel
theorem d_Me_mergeAt_81 : decode prog_2_method_3_code 81 = .ok (.aload_n 2, 1) := by decide +kernel
theorem d_Me_mergeAt_82 : decode prog_2_method_3_code 82 = .ok (.ifnull 12, 3) := by decide +kernel
theorem d_Me_mergeAt_85 : decode prog_2_method_3_code 85 = .ok (.aload_n 3, 1) := by decide +kernel
theorem d_Me_mergeAt_86 : decode prog_2_method_3_code 86 = .ok (.ifnull 8, 3) := by decide +kernel
theorem d_Me_mergeAt_89 : decode prog_2_method_3_code 89 = .ok (.aload_n 2, 1) := by decide +kernel
theorem d_Me_mergeAt_90 : decode prog_2_method_3_code 90 = .ok (.aload_n 3, 1) := by decide +kernel
theorem d_Me_mergeAt_91 : decode prog_2_method_3_code 91 = .ok (.invokevirtual 56, 3) := by decide +kernel
theorem d_Me_mergeAt_94 : decode prog_2_method_3_code 94 = .ok (.return_, 1) := by decide +kernel

section CLM
variable {σ τ X : SS} {ca na ta : Nat → Nat} {E : Ev} {M : mp_M}
theorem nq_inj (h : PIC E σ ca na ta M) {k q k' q' : Nat} (e : nq na (rat σ k q) = nq na (rat σ k' q')) : rat σ k q = rat σ k' q' := by
  rcases Nat.eq_zero_or_pos (rat σ k q) with z | z
  · rw [z, nq_0] at e
    rw [z, nq_none e.symm]
  · rw [nq_n z] at e
    obtain ⟨z2, e2⟩ := nq_some e.symm
    exact h.2.2.2.2.2.1.2.2.1 _ _ z (rat_le (pic_z h)) z2 (rat_le (pic_z h)) e2
theorem line_le {s : Nat} (h : INV σ s) (n : Nat) : σ 10 n ≤ σ 4 0 := Nat.le_trans (h.2.2.1.2.2.2 n).2.2.2.2.1 h.2.1.2.2.1
def odb (σ : SS) (b y o : Nat) : Bool := decide (σ 6 b = 1) && decide (σ 6 y = 1) && decide (σ 6 o = 1) && decide (σ 10 b = σ 10 y) && decide (σ 10 b = σ 10 o)
theorem od_t {b y o : Nat} (h1 : σ 6 b = 1) (h2 : σ 6 y = 1) (h3 : σ 6 o = 1) (h4 : σ 10 b = σ 10 y) (h5 : σ 10 b = σ 10 o) : odb σ b y o = true := by simp [odb, h1, h2, h3, ← h4, ← h5]
theorem od_1 {b y o : Nat} (h : σ 6 b ≠ 1) : ¬ odb σ b y o = true := by simp [odb, h]
theorem od_2 {b y o : Nat} (h : σ 6 y ≠ 1) : ¬ odb σ b y o = true := by simp [odb, h]
theorem od_3 {b y o : Nat} (h : σ 6 o ≠ 1) : ¬ odb σ b y o = true := by simp [odb, h]
theorem od_4 {b y o : Nat} (h : σ 10 b ≠ σ 10 y) : ¬ odb σ b y o = true := by simp [odb, h]
theorem od_5 {b y o : Nat} (h : σ 10 b ≠ σ 10 o) : ¬ odb σ b y o = true := by simp [odb, h]
theorem wy_rat (hz : pZ σ) {t q : Nat} (ht : t < 3) (hy : σ 1 0 ≤ 15) (hb3 : σ 3 t ≤ 15) (hq : q < 125) : wy σ t q = wyf σ (rat σ (σ 3 t) q) (rat σ (σ 1 0) q) (rat σ (16 + t) q) := by
  unfold wy
  rw [own_rat hz ht hq, rat_z hz (by omega) hq, rat_z hz (by omega) hq]
theorem wyf_0 {b y o : Nat} (h : y = b) : wyf σ b y o = 0 := if_pos h
theorem wyf_1 {b y o : Nat} (h : ¬ y = b) (h2 : o = b) : wyf σ b y o = 1 := by
  unfold wyf
  rw [if_neg h, if_pos h2]
theorem wyf_2 {s b y o : Nat} (hI : INV σ s) (h : ¬ y = b) (h2 : ¬ o = b) (h3 : odb σ b y o = true) : wyf σ b y o = 2 := by
  unfold odb at h3
  simp only [Bool.and_eq_true, decide_eq_true_eq] at h3
  obtain ⟨⟨⟨⟨a1, a2⟩, a3⟩, a4⟩, a5⟩ := h3
  unfold wyf
  rw [if_neg h, if_neg h2, if_pos ⟨⟨kind_p hI a1, kind_p hI a2, kind_p hI a3, a1, a2, a3⟩, a4, a5⟩]
theorem wyf_3 {b y o : Nat} (h : ¬ y = b) (h2 : ¬ o = b) (h3 : odb σ b y o = false) : wyf σ b y o = 3 := by
  unfold wyf
  rw [if_neg h, if_neg h2, if_neg]
  rintro ⟨⟨-, -, -, a1, a2, a3⟩, a4, a5⟩
  rw [od_t a1 a2 a3 a4 a5] at h3
  cases h3
theorem cf_v0 {t d q : Nat} (h : wy σ t q = 0 ∨ wy σ t q = 1) : -1 = mI (cf σ t d q) := by
  have : cf σ t d q = 125 := by
    cases d with
    | zero => exact if_neg (by omega)
    | succ d => show (if wy σ t q = 3 then q else if wy σ t q = 2 then _ else 125) = 125; rw [if_neg (by omega), if_neg (by omega)]
  rw [this]
  rfl
theorem cf_v3 {t d q : Nat} (hq : q < 125) (h : wy σ t q = 3) : nI q = mI (cf σ t d q) := by
  have : cf σ t d q = q := by
    cases d with
    | zero => exact if_pos h
    | succ d => exact if_pos h
  rw [this, mI_n (by omega)]
theorem cf_v2 {t q : Nat} (h : wy σ t q = 2) : -1 = mI (cf σ t 0 q) := by
  have : cf σ t 0 q = 125 := if_neg (by omega)
  rw [this]
  rfl
theorem cf_v4 {t d q : Nat} (h : wy σ t q = 2) : cf σ t (d + 1) q = cfl (cf σ t d) q 4 := by
  show (if wy σ t q = 3 then q else if wy σ t q = 2 then _ else 125) = _
  rw [if_neg (by omega), if_pos h]
theorem cfl_le {c : Nat → Nat} {q : Nat} (h : ∀ j, 0 < j → j < 5 → c (cq q j) ≤ 125) : ∀ n, n ≤ 4 → cfl c q n ≤ 125
  | 0, _ => Nat.le_refl _
  | n + 1, hn => by
    unfold cfl
    split
    · exact cfl_le h n (by omega)
    · exact h _ (by omega) (by omega)
theorem cf_le {t : Nat} : ∀ d q, pgb q = true → pd q + d = 3 → cf σ t d q ≤ 125 := by
  intro d
  induction d with
  | zero =>
    intro q hq hd
    have := (pgb_t.mp hq).1
    show (if wy σ t q = 3 then q else 125) ≤ 125
    split <;> omega
  | succ d ih =>
    intro q hq hd
    have := (pgb_t.mp hq).1
    show (if wy σ t q = 3 then q else if wy σ t q = 2 then cfl (cf σ t d) q 4 else 125) ≤ 125
    split
    · omega
    · split
      · exact cfl_le (fun j j1 j5 => by have a := cq_all hq j1 j5 (by omega); exact ih _ a.1 (by omega)) 4 (Nat.le_refl _)
      · exact Nat.le_refl _
theorem mI_1 {r : Nat} (hr : r ≤ 125) (h : mI r = -1) : r = 125 := by
  unfold mI at h
  by_cases z : r = 125
  · exact z
  · rw [if_neg z] at h
    have h2 := nI_toInt (n := r) (by omega)
    rw [h] at h2
    have h3 : (-1 : Int32).toInt = -1 := by decide
    rw [h3] at h2
    omega
theorem wy_not {t q b y o : Nat} (hw : wy σ t q = wyf σ b y o) (h3 : wy σ t q ≠ 3) (h : ¬ y = b) (h2 : ¬ o = b) : wy σ t q = 2 := by
  rw [hw] at h3 ⊢
  unfold wyf at h3 ⊢
  rw [if_neg h, if_neg h2] at h3 ⊢
  split
  · rfl
  · next c => rw [if_neg c] at h3; exact absurd rfl h3
theorem wy_2r (h : PIC E σ ca na ta M) {t q : Nat} (ht : t < 3) (hy : σ 1 0 ≤ 15) (hb3 : σ 3 t ≤ 15) (hq : q < 125) (hw : wy σ t q = 2) : 0 < rat σ (16 + t) q ∧ 0 < rat σ (σ 1 0) q := by
  have w := wy_2 hw
  rw [own_rat (pic_z h) ht hq, rat_z (pic_z h) (k := σ 1 0) (by omega) hq] at w
  exact ⟨w.2.2.1, w.2.1⟩
theorem cg_0 {t d q : Nat} (h : wy σ t q = 0) : cg t d σ q = σ := by
  cases d with
  | zero => show stl σ t q (wy σ t q) true = σ; rw [h, stl_0 (by decide) (by decide)]
  | succ d => show (if wy σ t q = 2 then _ else stl σ t q (wy σ t q) true) = σ; rw [if_neg (by omega), h, stl_0 (by decide) (by decide)]
theorem cg_1 {t d q : Nat} (h : wy σ t q = 1) : cg t d σ q = tkn σ t q 125 := by
  cases d with
  | zero => show stl σ t q (wy σ t q) true = _; rw [stl_1 h]
  | succ d => show (if wy σ t q = 2 then _ else stl σ t q (wy σ t q) true) = _; rw [if_neg (by omega), stl_1 h]
theorem cg_2z {t q : Nat} (h : wy σ t q = 2) : cg t 0 σ q = jn σ t q := stl_2 h
theorem hy_of {t d q : Nat} (ht : t < 3) (hI : INV σ t) (ho : σ 2 t ≠ 0) (hg : pgb q = true) (hd : pd q + d = 2) (hc : cf σ t (d + 1) q = 125) (hgd : gd σ t (d + 1) q) (hw : wy σ t q = 2) : HY t d 4 σ q := by
  have hcj := cf_2 (pgb_t.mp hg).1 hc hw
  have w2 := wy_2 hw
  rw [own_rat hI.1 ht (pgb_t.mp hg).1] at w2
  exact ⟨hg, hd, hI, ho, w2.2.2.1, w2.2.2.2.1, fun j j1 j2 => ⟨hcj j (by omega) j2, (hgd hw).2 j (by omega) j2⟩⟩
theorem jn_ne (h : PIC E X ca na ta M) {t q : Nat} (ht : t < 3) (hI : INV X t) (ho : X 2 t ≠ 0) (hq : q < 125) (hy0 : 0 < rat X (X 1 0) q) (hb : 128 ≤ X 12 (rat X (16 + t) q)) : na (rat X (X 1 0) q) ≠ na (rat X (16 + t) q) := fun z => by
  have h0 : 0 < rat X (16 + t) q := by
    rcases Nat.eq_zero_or_pos (rat X (16 + t) q) with y | y
    · rw [y, hI.2.2.1.1.2.2.1] at hb; omega
    · exact y
  have e := h.2.2.2.2.2.1.2.2.1 _ _ hy0 (rat_le (pic_z h)) h0 (rat_le (pic_z h)) z
  rw [← e] at hb
  have := (hI.2.2.2.2.2.1 (X 1 0) (Nat.le_refl _)).2 q
  omega
theorem pic_jn (h : PIC E X ca na ta M) {t q : Nat} (ht : t < 3) (hy : X 1 0 ≤ 15) (hq : q < 125) (ho0 : 0 < rat X (16 + t) q) (hy0 : 0 < rat X (X 1 0) q) : PIC E (jn X t q) ca na ta (mp_up M (na (rat X (16 + t) q)) (.inr (3, [.int (nI (X 10 (rat X (16 + t) q))), .int (bz (decide (X 6 (rat X (16 + t) q) = 1))), .ref (ta (rat X (16 + t) q)), .int (nI (X 11 (rat X (X 1 0) q) + 1)), .int (crI (X 12 (rat X (16 + t) q))), .ref (na (rat X (X 1 0) q)), .int (srI (X 14 (rat X (16 + t) q))), .int (spI (X 14 (rat X (16 + t) q))), .int (bz (decide (X 8 (rat X (16 + t) q) ≠ 0))), .int (shI (X 15 (rat X (16 + t) q)))]))) := by
  have eo := own_rat (pic_z h) ht hq
  have ey := rat_z (pic_z h) (k := X 1 0) (by omega) hq
  have e13 : jn X t q 13 (rat X (16 + t) q) = rat X (X 1 0) q := by rw [← eo, jn_13, ey]
  have e11 : jn X t q 11 (rat X (16 + t) q) = X 11 (rat X (X 1 0) q) + 1 := by rw [← eo, jn_11, ey]
  have hp := pic_nod (τ := jn X t q) h ho0 (rat_le (pic_z h)) (fun f hf => jn_o (by omega) (by omega)) (fun f j hj => jn_n (by rw [eo]; exact hj)) (by rw [e13]; exact rat_le (pic_z h))
  have e : ndf (jn X t q) na ta (rat X (16 + t) q) = [.int (nI (X 10 (rat X (16 + t) q))), .int (bz (decide (X 6 (rat X (16 + t) q) = 1))), .ref (ta (rat X (16 + t) q)), .int (nI (X 11 (rat X (X 1 0) q) + 1)), .int (crI (X 12 (rat X (16 + t) q))), .ref (na (rat X (X 1 0) q)), .int (srI (X 14 (rat X (16 + t) q))), .int (spI (X 14 (rat X (16 + t) q))), .int (bz (decide (X 8 (rat X (16 + t) q) ≠ 0))), .int (shI (X 15 (rat X (16 + t) q)))] := by
    unfold ndf
    rw [jn_o (f := 10) (by decide) (by decide), jn_o (f := 6) (by decide) (by decide), jn_o (f := 12) (by decide) (by decide), jn_o (f := 14) (by decide) (by decide), jn_o (f := 8) (by decide) (by decide), jn_o (f := 15) (by decide) (by decide), e13, e11, nq_n hy0]
    rfl
  rw [e] at hp
  exact hp
end CLM
set_option maxHeartbeats 600000 in
set_option maxRecDepth 100000 in
theorem c_Me_unch {l : Launch} {E : Ev} {M : mp_M} {sz : Nat} {σ : SS} {ca na ta : Nat → Nat} (hP : PIC E σ ca na ta M) {am t : Nat} (ht : t < 3) (hm : M am = some (.inr (6, [.ref (ca (σ 3 t + 5)), .ref (ca (σ 1 0 + 5)), .ref (ca (16 + t + 5))]))) (hy : σ 1 0 ≤ 15) (hb3 : σ 3 t ≤ 15) {k q : Nat} (hk : k < 19) (hq : q < 125) : MCi l E y_Me_isUnchangedIn prog_2_method_4_code 3 (some .boolean) 1 21 0 0 [.ref am, .ref (ca (k + 5)), .int (nI q)] M sz (fun r M' => r = bz (decide (rat σ k q = rat σ (σ 3 t) q)) ∧ M' = M) := by
  refine mc_of R_Me rfl [some (.ref am), some (.ref (ca (k + 5))), some (.int (nI q))] (by decide) (Nat.le_of_ble_eq_true rfl) rfl ?_
  intro p e R s m ag below meth c ls Q A X hAe hQ hR hsz hw hl
  rw [← hAe] at hQ
  obtain ⟨⟨hx, hb, hml, hown, hts⟩, hE, hA, hr, hlk, hnm⟩ := X
  have hK := hE.1
  first | refine x_aload_n hx hb d_Me_isUnchangedIn_0 hl rfl ?_ | refine x_aload_nQ hx hb d_Me_isUnchangedIn_0 hl rfl ?_
  refine x_iload_n hx hb d_Me_isUnchangedIn_1 hl rfl ?_
  refine m_callq (k_V ⟨hx, hb, hml, hown, hts⟩ hE hA hw (c_Tr_at (pic_t hP (k := k) (by omega)) (pic_a hP (k := k) (by omega))) (ci_Tr).1 rfl (pic_t hP (k := k) (by omega)) (wm2 78 rfl rfl) (wm1 212 rfl rfl) (wm1 213 rfl rfl) (wm1 6 rfl rfl) (wm1 214 rfl rfl) rfl rfl ar_Tr_at ⟨Nat.le_trans (Nat.le_of_ble_eq_true rfl) hR.1, Nat.le_trans (Nat.le_of_ble_eq_true rfl) hR.2.1⟩ rfl hl.1 rfl (Nat.le_of_ble_eq_true rfl) d_Me_isUnchangedIn_2 ⟨Nat.le_trans (Nat.le_of_ble_eq_true rfl) hR.2.2.1, Nat.le_trans (Nat.le_of_ble_eq_true rfl) hR.2.2.2⟩) hw (mfr_in hw hA) (fun r2 M2 H locs hP2 hw => ?_)
  obtain ⟨rfl, hM2⟩ := hP2
  rw [hM2] at hw
  rw [tat_row (pic_z hP) (k := k) (by omega), ix_n hq]
  first | refine x_aload_n hx hb d_Me_isUnchangedIn_5 hl rfl ?_ | refine x_aload_nQ hx hb d_Me_isUnchangedIn_5 hl rfl ?_
  refine m_get hx hb hts hown hK hw ci_Me hm 0 (by decide) (wm2 60 rfl rfl) rfl d_Me_isUnchangedIn_6 ?_
  refine x_iload_n hx hb d_Me_isUnchangedIn_9 hl rfl ?_
  refine m_callq (k_V ⟨hx, hb, hml, hown, hts⟩ hE hA hw (c_Tr_at (pic_t hP (k := σ 3 t) (by omega)) (pic_a hP (k := σ 3 t) (by omega))) (ci_Tr).1 rfl (pic_t hP (k := σ 3 t) (by omega)) (wm2 78 rfl rfl) (wm1 212 rfl rfl) (wm1 213 rfl rfl) (wm1 6 rfl rfl) (wm1 214 rfl rfl) rfl rfl ar_Tr_at ⟨Nat.le_trans (Nat.le_of_ble_eq_true rfl) hR.1, Nat.le_trans (Nat.le_of_ble_eq_true rfl) hR.2.1⟩ rfl hl.1 rfl (by simp [va_rf_c]) d_Me_isUnchangedIn_10 ⟨Nat.le_trans (Nat.le_of_ble_eq_true rfl) hR.2.2.1, Nat.le_trans (Nat.le_of_ble_eq_true rfl) hR.2.2.2⟩) hw (mfr_in hw hA) (fun r10 M10 H locs hP10 hw => ?_)
  obtain ⟨rfl, hM10⟩ := hP10
  rw [hM10] at hw
  rw [tat_row (pic_z hP) (k := σ 3 t) (by omega), ix_n hq]
  refine lv_acmp_ne hx hb d_Me_isUnchangedIn_13 rfl (fun h13 => ?_) (fun h13 => ?_)
  · refine lv_iconst (v := nI 0) hx hb d_Me_isUnchangedIn_20 (by decide) ?_
    exact x_reti hQ hx hb hr hlk (by first | exact nar_bz | decide) hw (by omega) (by omega) d_Me_isUnchangedIn_21 (⟨by first | exact bz_t (decide_eq_true (nq_inj hP h13)) | exact bz_f (fun z => h13 (by rw [of_decide_eq_true z])), rfl⟩)
  · refine lv_iconst (v := nI 1) hx hb d_Me_isUnchangedIn_16 (by decide) ?_
    refine lv_goto hx hb d_Me_isUnchangedIn_17 rfl ?_
    exact x_reti hQ hx hb hr hlk (by first | exact nar_bz | decide) hw (by omega) (by omega) d_Me_isUnchangedIn_21 (⟨by first | exact bz_t (decide_eq_true (nq_inj hP h13)) | exact bz_f (fun z => h13 (by rw [of_decide_eq_true z])), rfl⟩)

set_option maxHeartbeats 600000 in
set_option maxRecDepth 100000 in
theorem c_Me_one {l : Launch} {E : Ev} {M : mp_M} {sz : Nat} {σ : SS} {ca na ta : Nat → Nat} (hP : PIC E σ ca na ta M) {am t : Nat} (ht : t < 3) (hm : M am = some (.inr (6, [.ref (ca (σ 3 t + 5)), .ref (ca (σ 1 0 + 5)), .ref (ca (16 + t + 5))]))) (hy : σ 1 0 ≤ 15) (hb3 : σ 3 t ≤ 15) {s0 q : Nat} (hI : INV σ s0) (hN : σ 4 0 < 1300) (hq : q < 125) : MCi l E y_Me_isOneDirectory prog_2_method_5_code 5 (some .boolean) 1 21 0 0 [.ref am, .int (nI q)] M sz (fun r M' => r = bz (odb σ (rat σ (σ 3 t) q) (rat σ (σ 1 0) q) (rat σ (16 + t) q)) ∧ M' = M) := by
  refine mc_of R_Me rfl [some (.ref am), some (.int (nI q)), none, none, none] (by decide) (Nat.le_of_ble_eq_true rfl) rfl ?_
  intro p e R s m ag below meth c ls Q A X hAe hQ hR hsz hw hl
  rw [← hAe] at hQ
  obtain ⟨⟨hx, hb, hml, hown, hts⟩, hE, hA, hr, hlk, hnm⟩ := X
  have hK := hE.1
  first | refine x_aload_n hx hb d_Me_isOneDirectory_0 hl rfl ?_ | refine x_aload_nQ hx hb d_Me_isOneDirectory_0 hl rfl ?_
  refine m_get hx hb hts hown hK hw ci_Me hm 0 (by decide) (wm2 60 rfl rfl) rfl d_Me_isOneDirectory_1 ?_
  refine x_iload_n hx hb d_Me_isOneDirectory_4 hl rfl ?_
  refine m_callq (k_V ⟨hx, hb, hml, hown, hts⟩ hE hA hw (c_Tr_at (pic_t hP (k := σ 3 t) (by omega)) (pic_a hP (k := σ 3 t) (by omega))) (ci_Tr).1 rfl (pic_t hP (k := σ 3 t) (by omega)) (wm2 78 rfl rfl) (wm1 212 rfl rfl) (wm1 213 rfl rfl) (wm1 6 rfl rfl) (wm1 214 rfl rfl) rfl rfl ar_Tr_at ⟨Nat.le_trans (Nat.le_of_ble_eq_true rfl) hR.1, Nat.le_trans (Nat.le_of_ble_eq_true rfl) hR.2.1⟩ rfl hl.1 rfl (Nat.le_of_ble_eq_true rfl) d_Me_isOneDirectory_5 ⟨Nat.le_trans (Nat.le_of_ble_eq_true rfl) hR.2.2.1, Nat.le_trans (Nat.le_of_ble_eq_true rfl) hR.2.2.2⟩) hw (mfr_in hw hA) (fun r5 M5 H locs hP5 hw => ?_)
  obtain ⟨rfl, hM5⟩ := hP5
  rw [hM5] at hw
  rw [tat_row (pic_z hP) (k := σ 3 t) (by omega), ix_n hq]
  first | refine x_astore_n hx hb d_Me_isOneDirectory_8 hl (Nat.le_of_ble_eq_true rfl) (lh_k (i := 1) rfl (by first | exact lk_n | exact lk_i | exact lk_r | exact lk_q | exact lk_0)) (fun ls hl => ?_) | refine x_astore_nQ hx hb d_Me_isOneDirectory_8 hl (Nat.le_of_ble_eq_true rfl) (lh_k (i := 1) rfl (by first | exact lk_n | exact lk_i | exact lk_r | exact lk_q | exact lk_0)) (fun ls hl => ?_)
  first | refine x_aload_n hx hb d_Me_isOneDirectory_9 hl rfl ?_ | refine x_aload_nQ hx hb d_Me_isOneDirectory_9 hl rfl ?_
  refine m_get hx hb hts hown hK hw ci_Me hm 1 (by decide) (wm2 61 rfl rfl) rfl d_Me_isOneDirectory_10 ?_
  refine x_iload_n hx hb d_Me_isOneDirectory_13 hl rfl ?_
  refine m_callq (k_V ⟨hx, hb, hml, hown, hts⟩ hE hA hw (c_Tr_at (pic_t hP (k := σ 1 0) (by omega)) (pic_a hP (k := σ 1 0) (by omega))) (ci_Tr).1 rfl (pic_t hP (k := σ 1 0) (by omega)) (wm2 78 rfl rfl) (wm1 212 rfl rfl) (wm1 213 rfl rfl) (wm1 6 rfl rfl) (wm1 214 rfl rfl) rfl rfl ar_Tr_at ⟨Nat.le_trans (Nat.le_of_ble_eq_true rfl) hR.1, Nat.le_trans (Nat.le_of_ble_eq_true rfl) hR.2.1⟩ rfl hl.1 rfl (Nat.le_of_ble_eq_true rfl) d_Me_isOneDirectory_14 ⟨Nat.le_trans (Nat.le_of_ble_eq_true rfl) hR.2.2.1, Nat.le_trans (Nat.le_of_ble_eq_true rfl) hR.2.2.2⟩) hw (mfr_in hw hA) (fun r14 M14 H locs hP14 hw => ?_)
  obtain ⟨rfl, hM14⟩ := hP14
  rw [hM14] at hw
  rw [tat_row (pic_z hP) (k := σ 1 0) (by omega), ix_n hq]
  first | refine x_astore_n hx hb d_Me_isOneDirectory_17 hl (Nat.le_of_ble_eq_true rfl) (lh_k (i := 2) rfl (by first | exact lk_n | exact lk_i | exact lk_r | exact lk_q | exact lk_0)) (fun ls hl => ?_) | refine x_astore_nQ hx hb d_Me_isOneDirectory_17 hl (Nat.le_of_ble_eq_true rfl) (lh_k (i := 2) rfl (by first | exact lk_n | exact lk_i | exact lk_r | exact lk_q | exact lk_0)) (fun ls hl => ?_)
  first | refine x_aload_n hx hb d_Me_isOneDirectory_18 hl rfl ?_ | refine x_aload_nQ hx hb d_Me_isOneDirectory_18 hl rfl ?_
  refine m_get hx hb hts hown hK hw ci_Me hm 2 (by decide) (wm2 62 rfl rfl) rfl d_Me_isOneDirectory_19 ?_
  refine x_iload_n hx hb d_Me_isOneDirectory_22 hl rfl ?_
  refine m_callq (k_V ⟨hx, hb, hml, hown, hts⟩ hE hA hw (c_Tr_at (pic_t hP (k := 16 + t) (by omega)) (pic_a hP (k := 16 + t) (by omega))) (ci_Tr).1 rfl (pic_t hP (k := 16 + t) (by omega)) (wm2 78 rfl rfl) (wm1 212 rfl rfl) (wm1 213 rfl rfl) (wm1 6 rfl rfl) (wm1 214 rfl rfl) rfl rfl ar_Tr_at ⟨Nat.le_trans (Nat.le_of_ble_eq_true rfl) hR.1, Nat.le_trans (Nat.le_of_ble_eq_true rfl) hR.2.1⟩ rfl hl.1 rfl (Nat.le_of_ble_eq_true rfl) d_Me_isOneDirectory_23 ⟨Nat.le_trans (Nat.le_of_ble_eq_true rfl) hR.2.2.1, Nat.le_trans (Nat.le_of_ble_eq_true rfl) hR.2.2.2⟩) hw (mfr_in hw hA) (fun r23 M23 H locs hP23 hw => ?_)
  obtain ⟨rfl, hM23⟩ := hP23
  rw [hM23] at hw
  rw [tat_row (pic_z hP) (k := 16 + t) (by omega), ix_n hq]
  first | refine x_astore hx hb d_Me_isOneDirectory_26 hl (Nat.le_of_ble_eq_true rfl) (lh_k (i := 3) rfl (by first | exact lk_n | exact lk_i | exact lk_r | exact lk_q | exact lk_0)) (fun ls hl => ?_) | refine x_astoreQ hx hb d_Me_isOneDirectory_26 hl (Nat.le_of_ble_eq_true rfl) (lh_k (i := 3) rfl (by first | exact lk_n | exact lk_i | exact lk_r | exact lk_q | exact lk_0)) (fun ls hl => ?_)
  have k1 := kind_le hI (rat_le (pic_z hP) (k := σ 3 t) (q := q))
  have k2 := kind_le hI (rat_le (pic_z hP) (k := σ 1 0) (q := q))
  have k3 := kind_le hI (rat_le (pic_z hP) (k := 16 + t) (q := q))
  have l1 := line_le hI (rat σ (σ 3 t) q)
  have l2 := line_le hI (rat σ (σ 1 0) q)
  have l3 := line_le hI (rat σ (16 + t) q)
  first | refine x_aload_n hx hb d_Me_isOneDirectory_28 hl rfl ?_ | refine x_aload_nQ hx hb d_Me_isOneDirectory_28 hl rfl ?_
  refine m_calli (k_SN ⟨hx, hb, hml, hown, hts⟩ hE hA hw (c_T_kind (kk := σ 6 (rat σ (σ 3 t) q)) (kind_0 hI) (kind_1 hP hI)) hE.2.1.1.2.2.2.2.2.1 (wm1 219 rfl rfl) (wm1 1 rfl rfl) (wm1 220 rfl rfl) rfl rfl ar_T_kindOf ⟨Nat.le_trans (Nat.le_of_ble_eq_true rfl) hR.1, Nat.le_trans (Nat.le_of_ble_eq_true rfl) hR.2.1⟩ rfl hl.1 rfl (Nat.le_of_ble_eq_true rfl) d_Me_isOneDirectory_29 ⟨Nat.le_trans (Nat.le_of_ble_eq_true rfl) hR.2.2.1, Nat.le_trans (Nat.le_of_ble_eq_true rfl) hR.2.2.2⟩) hw (mfr_in hw hA) (fun r29 M29 H locs hP29 hw => ?_)
  obtain ⟨rfl, hM29⟩ := hP29
  rw [hM29] at hw
  refine lv_iconst (v := nI 1) hx hb d_Me_isOneDirectory_32 (by decide) ?_
  refine x_icmp_ne hx hb d_Me_isOneDirectory_33 rfl (by omega) (by omega) (fun h33 => ?_) (fun h33 => ?_)
  · refine lv_iconst (v := nI 0) hx hb d_Me_isOneDirectory_80 (by decide) ?_
    exact x_reti hQ hx hb hr hlk (by first | exact nar_bz | decide) hw (by omega) (by omega) d_Me_isOneDirectory_81 (⟨by first | exact bz_t (od_t h33 h41 h50 h61 h73) | exact bz_f (od_5 h73) | exact bz_f (od_4 h61) | exact bz_f (od_3 h50) | exact bz_f (od_2 h41) | exact bz_f (od_1 h33), rfl⟩)
  · first | refine x_aload_n hx hb d_Me_isOneDirectory_36 hl rfl ?_ | refine x_aload_nQ hx hb d_Me_isOneDirectory_36 hl rfl ?_
    refine m_calli (k_SN ⟨hx, hb, hml, hown, hts⟩ hE hA hw (c_T_kind (kk := σ 6 (rat σ (σ 1 0) q)) (kind_0 hI) (kind_1 hP hI)) hE.2.1.1.2.2.2.2.2.1 (wm1 219 rfl rfl) (wm1 1 rfl rfl) (wm1 220 rfl rfl) rfl rfl ar_T_kindOf ⟨Nat.le_trans (Nat.le_of_ble_eq_true rfl) hR.1, Nat.le_trans (Nat.le_of_ble_eq_true rfl) hR.2.1⟩ rfl hl.1 rfl (Nat.le_of_ble_eq_true rfl) d_Me_isOneDirectory_37 ⟨Nat.le_trans (Nat.le_of_ble_eq_true rfl) hR.2.2.1, Nat.le_trans (Nat.le_of_ble_eq_true rfl) hR.2.2.2⟩) hw (mfr_in hw hA) (fun r37 M37 H locs hP37 hw => ?_)
    obtain ⟨rfl, hM37⟩ := hP37
    rw [hM37] at hw
    refine lv_iconst (v := nI 1) hx hb d_Me_isOneDirectory_40 (by decide) ?_
    refine x_icmp_ne hx hb d_Me_isOneDirectory_41 rfl (by omega) (by omega) (fun h41 => ?_) (fun h41 => ?_)
    · refine lv_iconst (v := nI 0) hx hb d_Me_isOneDirectory_80 (by decide) ?_
      exact x_reti hQ hx hb hr hlk (by first | exact nar_bz | decide) hw (by omega) (by omega) d_Me_isOneDirectory_81 (⟨by first | exact bz_t (od_t h33 h41 h50 h61 h73) | exact bz_f (od_5 h73) | exact bz_f (od_4 h61) | exact bz_f (od_3 h50) | exact bz_f (od_2 h41) | exact bz_f (od_1 h33), rfl⟩)
    · first | refine x_aload hx hb d_Me_isOneDirectory_44 hl rfl ?_ | refine x_aloadQ hx hb d_Me_isOneDirectory_44 hl rfl ?_
      refine m_calli (k_SN ⟨hx, hb, hml, hown, hts⟩ hE hA hw (c_T_kind (kk := σ 6 (rat σ (16 + t) q)) (kind_0 hI) (kind_1 hP hI)) hE.2.1.1.2.2.2.2.2.1 (wm1 219 rfl rfl) (wm1 1 rfl rfl) (wm1 220 rfl rfl) rfl rfl ar_T_kindOf ⟨Nat.le_trans (Nat.le_of_ble_eq_true rfl) hR.1, Nat.le_trans (Nat.le_of_ble_eq_true rfl) hR.2.1⟩ rfl hl.1 rfl (Nat.le_of_ble_eq_true rfl) d_Me_isOneDirectory_46 ⟨Nat.le_trans (Nat.le_of_ble_eq_true rfl) hR.2.2.1, Nat.le_trans (Nat.le_of_ble_eq_true rfl) hR.2.2.2⟩) hw (mfr_in hw hA) (fun r46 M46 H locs hP46 hw => ?_)
      obtain ⟨rfl, hM46⟩ := hP46
      rw [hM46] at hw
      refine lv_iconst (v := nI 1) hx hb d_Me_isOneDirectory_49 (by decide) ?_
      refine x_icmp_ne hx hb d_Me_isOneDirectory_50 rfl (by omega) (by omega) (fun h50 => ?_) (fun h50 => ?_)
      · refine lv_iconst (v := nI 0) hx hb d_Me_isOneDirectory_80 (by decide) ?_
        exact x_reti hQ hx hb hr hlk (by first | exact nar_bz | decide) hw (by omega) (by omega) d_Me_isOneDirectory_81 (⟨by first | exact bz_t (od_t h33 h41 h50 h61 h73) | exact bz_f (od_5 h73) | exact bz_f (od_4 h61) | exact bz_f (od_3 h50) | exact bz_f (od_2 h41) | exact bz_f (od_1 h33), rfl⟩)
      · rw [nq_n (kind_p hI h33), nq_n (kind_p hI h41), nq_n (kind_p hI h50)] at hl
        first | refine x_aload_n hx hb d_Me_isOneDirectory_53 hl rfl ?_ | refine x_aload_nQ hx hb d_Me_isOneDirectory_53 hl rfl ?_
        refine m_get hx hb hts hown hK hw ci_N (pic_n hP (kind_p hI h33) (rat_le (pic_z hP))) 0 (by decide) (wm1 111 rfl rfl) rfl d_Me_isOneDirectory_54 ?_
        first | refine x_aload_n hx hb d_Me_isOneDirectory_57 hl rfl ?_ | refine x_aload_nQ hx hb d_Me_isOneDirectory_57 hl rfl ?_
        refine m_get hx hb hts hown hK hw ci_N (pic_n hP (kind_p hI h41) (rat_le (pic_z hP))) 0 (by decide) (wm1 111 rfl rfl) rfl d_Me_isOneDirectory_58 ?_
        refine x_icmp_ne hx hb d_Me_isOneDirectory_61 rfl (by omega) (by omega) (fun h61 => ?_) (fun h61 => ?_)
        · refine lv_iconst (v := nI 0) hx hb d_Me_isOneDirectory_80 (by decide) ?_
          exact x_reti hQ hx hb hr hlk (by first | exact nar_bz | decide) hw (by omega) (by omega) d_Me_isOneDirectory_81 (⟨by first | exact bz_t (od_t h33 h41 h50 h61 h73) | exact bz_f (od_5 h73) | exact bz_f (od_4 h61) | exact bz_f (od_3 h50) | exact bz_f (od_2 h41) | exact bz_f (od_1 h33), rfl⟩)
        · first | refine x_aload_n hx hb d_Me_isOneDirectory_64 hl rfl ?_ | refine x_aload_nQ hx hb d_Me_isOneDirectory_64 hl rfl ?_
          refine m_get hx hb hts hown hK hw ci_N (pic_n hP (kind_p hI h33) (rat_le (pic_z hP))) 0 (by decide) (wm1 111 rfl rfl) rfl d_Me_isOneDirectory_65 ?_
          first | refine x_aload hx hb d_Me_isOneDirectory_68 hl rfl ?_ | refine x_aloadQ hx hb d_Me_isOneDirectory_68 hl rfl ?_
          refine m_get hx hb hts hown hK hw ci_N (pic_n hP (kind_p hI h50) (rat_le (pic_z hP))) 0 (by decide) (wm1 111 rfl rfl) rfl d_Me_isOneDirectory_70 ?_
          refine x_icmp_ne hx hb d_Me_isOneDirectory_73 rfl (by omega) (by omega) (fun h73 => ?_) (fun h73 => ?_)
          · refine lv_iconst (v := nI 0) hx hb d_Me_isOneDirectory_80 (by decide) ?_
            exact x_reti hQ hx hb hr hlk (by first | exact nar_bz | decide) hw (by omega) (by omega) d_Me_isOneDirectory_81 (⟨by first | exact bz_t (od_t h33 h41 h50 h61 h73) | exact bz_f (od_5 h73) | exact bz_f (od_4 h61) | exact bz_f (od_3 h50) | exact bz_f (od_2 h41) | exact bz_f (od_1 h33), rfl⟩)
          · refine lv_iconst (v := nI 1) hx hb d_Me_isOneDirectory_76 (by decide) ?_
            refine lv_goto hx hb d_Me_isOneDirectory_77 rfl ?_
            exact x_reti hQ hx hb hr hlk (by first | exact nar_bz | decide) hw (by omega) (by omega) d_Me_isOneDirectory_81 (⟨by first | exact bz_t (od_t h33 h41 h50 h61 h73) | exact bz_f (od_5 h73) | exact bz_f (od_4 h61) | exact bz_f (od_3 h50) | exact bz_f (od_2 h41) | exact bz_f (od_1 h33), rfl⟩)

set_option maxHeartbeats 1000000 in
set_option maxRecDepth 100000 in
theorem c_Me_conf0 {l : Launch} {E : Ev} {M : mp_M} {sz : Nat} {σ : SS} {ca na ta : Nat → Nat} (hP : PIC E σ ca na ta M) {s0 : Nat} (hI : INV σ s0) (hN : σ 4 0 < 1300) {am t : Nat} (ht : t < 3) (hm : M am = some (.inr (6, [.ref (ca (σ 3 t + 5)), .ref (ca (σ 1 0 + 5)), .ref (ca (16 + t + 5))]))) (hy : σ 1 0 ≤ 15) (hb3 : σ 3 t ≤ 15) {q : Nat} (hg : pgb q = true) (hd : pd q = 3) : MCi l E y_Me_conflictAt prog_2_method_2_code 4 (some .int) 2 45 0 0 [.ref am, .int (nI q)] M sz (fun r M' => r = mI (cf σ t 0 q) ∧ M' = M) := by
  refine mc_of R_Me rfl [some (.ref am), some (.int (nI q)), none, none] (by decide) (Nat.le_of_ble_eq_true rfl) rfl ?_
  intro p e R s m ag below meth c ls Q A X hAe hQ hR hsz hw hl
  rw [← hAe] at hQ
  obtain ⟨⟨hx, hb, hml, hown, hts⟩, hE, hA, hr, hlk, hnm⟩ := X
  have hK := hE.1
  have hq := (pgb_t.mp hg).1
  have hwr := wy_rat (pic_z hP) ht hy hb3 hq
  first | refine x_aload_n hx hb d_Me_conflictAt_0 hl rfl ?_ | refine x_aload_nQ hx hb d_Me_conflictAt_0 hl rfl ?_
  first | refine x_aload_n hx hb d_Me_conflictAt_1 hl rfl ?_ | refine x_aload_nQ hx hb d_Me_conflictAt_1 hl rfl ?_
  refine m_get hx hb hts hown hK hw ci_Me hm 1 (by decide) (wm2 61 rfl rfl) rfl d_Me_conflictAt_2 ?_
  refine x_iload_n hx hb d_Me_conflictAt_5 hl rfl ?_
  refine m_calli (k_V ⟨hx, hb, hml, hown, hts⟩ hE hA hw (c_Me_unch hP ht hm hy hb3 (k := σ 1 0) (by omega) hq) (ci_Me).1 rfl hm (wm2 74 rfl rfl) (wm2 76 rfl rfl) (wmp1 4 rfl) (wm1 12 rfl rfl) (wm2 77 rfl rfl) rfl rfl ar_Me_isUnchangedIn ⟨Nat.le_trans (Nat.le_of_ble_eq_true rfl) hR.1, Nat.le_trans (Nat.le_of_ble_eq_true rfl) hR.2.1⟩ rfl hl.1 rfl (Nat.le_of_ble_eq_true rfl) d_Me_conflictAt_6 ⟨Nat.le_trans (Nat.le_of_ble_eq_true rfl) hR.2.2.1, Nat.le_trans (Nat.le_of_ble_eq_true rfl) hR.2.2.2⟩) hw (mfr_in hw hA) (fun r6 M6 H locs hP6 hw => ?_)
  obtain ⟨rfl, hM6⟩ := hP6
  rw [hM6] at hw
  refine x_if_neB hx hb d_Me_conflictAt_9 rfl (fun h9 => ?_) (fun h9 => ?_)
  · have h9 := of_decide_eq_true h9
    refine lv_iconst (v := -1) hx hb d_Me_conflictAt_24 (by decide) ?_
    exact x_reti hQ hx hb hr hlk rfl hw (by omega) (by omega) d_Me_conflictAt_25 (⟨by first | exact (cf_v0 (d := 0)) (Or.inl (by rw [hwr]; exact wyf_0 h9)) | exact (cf_v0 (d := 0)) (Or.inr (by rw [hwr]; exact wyf_1 h9 h21)), rfl⟩)
  · have h9 := of_decide_eq_false h9
    first | refine x_aload_n hx hb d_Me_conflictAt_12 hl rfl ?_ | refine x_aload_nQ hx hb d_Me_conflictAt_12 hl rfl ?_
    first | refine x_aload_n hx hb d_Me_conflictAt_13 hl rfl ?_ | refine x_aload_nQ hx hb d_Me_conflictAt_13 hl rfl ?_
    refine m_get hx hb hts hown hK hw ci_Me hm 2 (by decide) (wm2 62 rfl rfl) rfl d_Me_conflictAt_14 ?_
    refine x_iload_n hx hb d_Me_conflictAt_17 hl rfl ?_
    refine m_calli (k_V ⟨hx, hb, hml, hown, hts⟩ hE hA hw (c_Me_unch hP ht hm hy hb3 (k := 16 + t) (by omega) hq) (ci_Me).1 rfl hm (wm2 74 rfl rfl) (wm2 76 rfl rfl) (wmp1 4 rfl) (wm1 12 rfl rfl) (wm2 77 rfl rfl) rfl rfl ar_Me_isUnchangedIn ⟨Nat.le_trans (Nat.le_of_ble_eq_true rfl) hR.1, Nat.le_trans (Nat.le_of_ble_eq_true rfl) hR.2.1⟩ rfl hl.1 rfl (Nat.le_of_ble_eq_true rfl) d_Me_conflictAt_18 ⟨Nat.le_trans (Nat.le_of_ble_eq_true rfl) hR.2.2.1, Nat.le_trans (Nat.le_of_ble_eq_true rfl) hR.2.2.2⟩) hw (mfr_in hw hA) (fun r18 M18 H locs hP18 hw => ?_)
    obtain ⟨rfl, hM18⟩ := hP18
    rw [hM18] at hw
    refine x_if_eqB hx hb d_Me_conflictAt_21 rfl (fun h21 => ?_) (fun h21 => ?_)
    · have h21 := of_decide_eq_false h21
      first | refine x_aload_n hx hb d_Me_conflictAt_26 hl rfl ?_ | refine x_aload_nQ hx hb d_Me_conflictAt_26 hl rfl ?_
      refine x_iload_n hx hb d_Me_conflictAt_27 hl rfl ?_
      refine m_calli (k_V ⟨hx, hb, hml, hown, hts⟩ hE hA hw (c_Me_one hP ht hm hy hb3 hI hN hq) (ci_Me).1 rfl hm (wm2 79 rfl rfl) (wm2 81 rfl rfl) (wmp1 5 rfl) (wm1 12 rfl rfl) (wm2 82 rfl rfl) rfl rfl ar_Me_isOneDirectory ⟨Nat.le_trans (Nat.le_of_ble_eq_true rfl) hR.1, Nat.le_trans (Nat.le_of_ble_eq_true rfl) hR.2.1⟩ rfl hl.1 rfl (Nat.le_of_ble_eq_true rfl) d_Me_conflictAt_28 ⟨Nat.le_trans (Nat.le_of_ble_eq_true rfl) hR.2.2.1, Nat.le_trans (Nat.le_of_ble_eq_true rfl) hR.2.2.2⟩) hw (mfr_in hw hA) (fun r28 M28 H locs hP28 hw => ?_)
      obtain ⟨rfl, hM28⟩ := hP28
      rw [hM28] at hw
      refine x_if_neB hx hb d_Me_conflictAt_31 rfl (fun h31 => ?_) (fun h31 => ?_)
      · have hw2 : wy σ t q = 2 := by rw [hwr]; exact wyf_2 hI h9 h21 h31
        refine lv_iconst (v := nI 1) hx hb d_Me_conflictAt_36 (by decide) ?_
        refine x_istore_n hx hb d_Me_conflictAt_37 hl (Nat.le_of_ble_eq_true rfl) (lh_k (i := 1) rfl (by first | exact lk_n | exact lk_i | exact lk_r | exact lk_q | exact lk_0)) (fun ls hl => ?_)
        refine x_iload_n hx hb d_Me_conflictAt_38 hl rfl ?_
        refine x_iload_n hx hb d_Me_conflictAt_39 hl rfl ?_
        refine m_calli (k_S ⟨hx, hb, hml, hown, hts⟩ hE hA hw (c_P_names (by omega)) (wm2 84 rfl rfl) (wm2 85 rfl rfl) (wm1 10 rfl rfl) (wm2 86 rfl rfl) rfl rfl ar_P_namesBelow ⟨Nat.le_trans (Nat.le_of_ble_eq_true rfl) hR.1, Nat.le_trans (Nat.le_of_ble_eq_true rfl) hR.2.1⟩ rfl hl.1 rfl (Nat.le_of_ble_eq_true rfl) d_Me_conflictAt_40 ⟨Nat.le_trans (Nat.le_of_ble_eq_true rfl) hR.2.2.1, Nat.le_trans (Nat.le_of_ble_eq_true rfl) hR.2.2.2⟩) hw (mfr_in hw hA) (fun r40 M40 H locs hP40 hw => ?_)
        obtain ⟨rfl, hM40⟩ := hP40
        rw [hM40] at hw
        rw [if_neg (by omega)]
        refine x_icmp_gt hx hb d_Me_conflictAt_43 rfl (by omega) (by omega) (fun h43 => ?_) (fun h43 => ?_)
        · refine lv_iconst (v := -1) hx hb d_Me_conflictAt_69 (by decide) ?_
          exact x_reti hQ hx hb hr hlk rfl hw (by omega) (by omega) d_Me_conflictAt_70 (⟨cf_v2 hw2, rfl⟩)
        · exact absurd h43 (by omega)
      · have hw3 : wy σ t q = 3 := by rw [hwr]; exact wyf_3 h9 h21 h31
        refine x_iload_n hx hb d_Me_conflictAt_34 hl rfl ?_
        exact x_reti hQ hx hb hr hlk rfl hw (by omega) (by omega) d_Me_conflictAt_35 (⟨cf_v3 (d := 0) hq hw3, rfl⟩)
    · have h21 := of_decide_eq_true h21
      refine lv_iconst (v := -1) hx hb d_Me_conflictAt_24 (by decide) ?_
      exact x_reti hQ hx hb hr hlk rfl hw (by omega) (by omega) d_Me_conflictAt_25 (⟨by first | exact (cf_v0 (d := 0)) (Or.inl (by rw [hwr]; exact wyf_0 h9)) | exact (cf_v0 (d := 0)) (Or.inr (by rw [hwr]; exact wyf_1 h9 h21)), rfl⟩)

set_option maxHeartbeats 1000000 in
set_option maxRecDepth 100000 in
theorem c_Me_conf1 {l : Launch} {E : Ev} {M : mp_M} {sz : Nat} {σ : SS} {ca na ta : Nat → Nat} (hP : PIC E σ ca na ta M) {s0 : Nat} (hI : INV σ s0) (hN : σ 4 0 < 1300) {am t : Nat} (ht : t < 3) (hm : M am = some (.inr (6, [.ref (ca (σ 3 t + 5)), .ref (ca (σ 1 0 + 5)), .ref (ca (16 + t + 5))]))) (hy : σ 1 0 ≤ 15) (hb3 : σ 3 t ≤ 15) {q : Nat} (hg : pgb q = true) (hd : pd q = 2) : MCi l E y_Me_conflictAt prog_2_method_2_code 4 (some .int) 3 68 0 0 [.ref am, .int (nI q)] M sz (fun r M' => r = mI (cf σ t 1 q) ∧ M' = M) := by
  refine mc_of R_Me rfl [some (.ref am), some (.int (nI q)), none, none] (by decide) (Nat.le_of_ble_eq_true rfl) rfl ?_
  intro p e R s m ag below meth c ls Q A X hAe hQ hR hsz hw hl
  rw [← hAe] at hQ
  obtain ⟨⟨hx, hb, hml, hown, hts⟩, hE, hA, hr, hlk, hnm⟩ := X
  have hK := hE.1
  obtain ⟨F, hF⟩ : ∃ F, F = cfl (cf σ t 0) q 4 := ⟨_, rfl⟩
  have hFe : wy σ t q = 2 → cf σ t 1 q = F := fun z => by rw [hF]; exact cf_v4 z
  have loop : ∀ (n i : Nat) (H : Heap) (locs : List Loc) (ls : Array Slot), i + n = 5 → 0 < i → mw E.1 vwCl A s.heap M H locs → lh ls [some (.ref am), some (.int (nI q)), some (.int (nI i)), none] → wy σ t q = 2 → cfl (cf σ t 0) q n = F → W p l e R s m ag below meth c H locs 0 0 Q (F0 m 38 ls []) := by
    have hq := (pgb_t.mp hg).1
    intro n
    induction n with
    | zero =>
      intro i H locs ls hi hi0 hw hl hw2 hT
      have hT : 125 = F := hT
      refine x_iload_n hx hb d_Me_conflictAt_38 hl rfl ?_
      refine x_iload_n hx hb d_Me_conflictAt_39 hl rfl ?_
      refine m_calli (k_S ⟨hx, hb, hml, hown, hts⟩ hE hA hw (c_P_names (by omega)) (wm2 84 rfl rfl) (wm2 85 rfl rfl) (wm1 10 rfl rfl) (wm2 86 rfl rfl) rfl rfl ar_P_namesBelow ⟨Nat.le_trans (Nat.le_of_ble_eq_true rfl) hR.1, Nat.le_trans (Nat.le_of_ble_eq_true rfl) hR.2.1⟩ rfl hl.1 rfl (Nat.le_of_ble_eq_true rfl) d_Me_conflictAt_40 ⟨Nat.le_trans (Nat.le_of_ble_eq_true rfl) hR.2.2.1, Nat.le_trans (Nat.le_of_ble_eq_true rfl) hR.2.2.2⟩) hw (mfr_in hw hA) (fun r40 M40 H locs hP40 hw => ?_)
      obtain ⟨rfl, hM40⟩ := hP40
      rw [hM40] at hw
      rw [if_pos (by omega)]
      refine x_icmp_gt hx hb d_Me_conflictAt_43 rfl (by omega) (by omega) (fun h43 => ?_) (fun h43 => ?_)
      · refine lv_iconst (v := -1) hx hb d_Me_conflictAt_69 (by decide) ?_
        exact x_reti hQ hx hb hr hlk rfl hw (by omega) (by omega) d_Me_conflictAt_70 (⟨by rw [hFe hw2, ← hT]; rfl, rfl⟩)
      · exact absurd h43 (by omega)
    | succ n ih =>
      intro i H locs ls hi hi0 hw hl hw2 hT
      have hi5 : 5 - (n + 1) = i := by omega
      have hch := cq_all hg hi0 (by omega) (by omega)
      refine x_iload_n hx hb d_Me_conflictAt_38 hl rfl ?_
      refine x_iload_n hx hb d_Me_conflictAt_39 hl rfl ?_
      refine m_calli (k_S ⟨hx, hb, hml, hown, hts⟩ hE hA hw (c_P_names (by omega)) (wm2 84 rfl rfl) (wm2 85 rfl rfl) (wm1 10 rfl rfl) (wm2 86 rfl rfl) rfl rfl ar_P_namesBelow ⟨Nat.le_trans (Nat.le_of_ble_eq_true rfl) hR.1, Nat.le_trans (Nat.le_of_ble_eq_true rfl) hR.2.1⟩ rfl hl.1 rfl (Nat.le_of_ble_eq_true rfl) d_Me_conflictAt_40 ⟨Nat.le_trans (Nat.le_of_ble_eq_true rfl) hR.2.2.1, Nat.le_trans (Nat.le_of_ble_eq_true rfl) hR.2.2.2⟩) hw (mfr_in hw hA) (fun r40 M40 H locs hP40 hw => ?_)
      obtain ⟨rfl, hM40⟩ := hP40
      rw [hM40] at hw
      rw [if_pos (by omega)]
      refine x_icmp_gt hx hb d_Me_conflictAt_43 rfl (by omega) (by omega) (fun h43 => ?_) (fun h43 => ?_)
      · exact absurd h43 (by omega)
      · first | refine x_aload_n hx hb d_Me_conflictAt_46 hl rfl ?_ | refine x_aload_nQ hx hb d_Me_conflictAt_46 hl rfl ?_
        refine x_iload_n hx hb d_Me_conflictAt_47 hl rfl ?_
        refine x_iload_n hx hb d_Me_conflictAt_48 hl rfl ?_
        refine m_calli (k_S ⟨hx, hb, hml, hown, hts⟩ hE hA hw (c_P_child (by omega) (by omega)) (wm2 87 rfl rfl) (wm2 88 rfl rfl) (wm1 10 rfl rfl) (wm2 89 rfl rfl) rfl rfl ar_P_childOf ⟨Nat.le_trans (Nat.le_of_ble_eq_true rfl) hR.1, Nat.le_trans (Nat.le_of_ble_eq_true rfl) hR.2.1⟩ rfl hl.1 rfl (Nat.le_of_ble_eq_true rfl) d_Me_conflictAt_49 ⟨Nat.le_trans (Nat.le_of_ble_eq_true rfl) hR.2.2.1, Nat.le_trans (Nat.le_of_ble_eq_true rfl) hR.2.2.2⟩) hw (mfr_in hw hA) (fun r49 M49 H locs hP49 hw => ?_)
        obtain ⟨rfl, hM49⟩ := hP49
        rw [hM49] at hw
        refine m_calli (k_V ⟨hx, hb, hml, hown, hts⟩ hE hA hw (c_Me_conf0 hP hI hN ht hm hy hb3 (q := cq q i) hch.1 (by have := hch.2.1; omega)) (ci_Me).1 rfl hm (wm2 90 rfl rfl) (wm2 72 rfl rfl) (wmp1 3 rfl) (wm1 12 rfl rfl) (wm2 73 rfl rfl) rfl rfl ar_Me_conflictAt ⟨Nat.le_trans (Nat.le_of_ble_eq_true rfl) hR.1, Nat.le_trans (Nat.le_of_ble_eq_true rfl) hR.2.1⟩ rfl hl.1 rfl (Nat.le_of_ble_eq_true rfl) d_Me_conflictAt_52 ⟨Nat.le_trans (Nat.le_of_ble_eq_true rfl) hR.2.2.1, Nat.le_trans (Nat.le_of_ble_eq_true rfl) hR.2.2.2⟩) hw (mfr_in hw hA) (fun r52 M52 H locs hP52 hw => ?_)
        obtain ⟨rfl, hM52⟩ := hP52
        rw [hM52] at hw
        refine x_istore_n hx hb d_Me_conflictAt_55 hl (Nat.le_of_ble_eq_true rfl) (lh_k (i := 2) rfl (by first | exact lk_n | exact lk_i | exact lk_r | exact lk_q | exact lk_0)) (fun ls hl => ?_)
        refine x_iload_n hx hb d_Me_conflictAt_56 hl rfl ?_
        refine lv_iconst (v := -1) hx hb d_Me_conflictAt_57 (by decide) ?_
        refine lv_icmp_eq hx hb d_Me_conflictAt_58 rfl (fun h58 => ?_) (fun h58 => ?_)
        · have h58 := mI_1 (cf_le 0 (cq q i) hch.1 (by have := hch.2.1; omega)) h58
          have hT2 : cfl (cf σ t 0) q n = F := by
            rw [← hT]
            exact (if_pos (by rw [hi5]; exact h58)).symm
          refine x_iincN hx hb d_Me_conflictAt_63 hl rfl (lh_k (i := 1) rfl (by first | exact lk_n | exact lk_i | exact lk_r | exact lk_q | exact lk_0)) (fun ls hl => ?_)
          refine lv_goto hx hb d_Me_conflictAt_66 rfl ?_
          exact ih (i + 1) H locs ls (by omega) (by omega) hw (lh_drop 3 hl) hw2 hT2
        · have hT2 : cf σ t 0 (cq q i) = F := by
            rw [← hT, ← hi5]
            exact (if_neg (fun z => h58 (by rw [← hi5, z]; rfl))).symm
          refine x_iload_n hx hb d_Me_conflictAt_61 hl rfl ?_
          exact x_reti hQ hx hb hr hlk rfl hw (by omega) (by omega) d_Me_conflictAt_62 (⟨by rw [hFe hw2, ← hT2], rfl⟩)
  have hq := (pgb_t.mp hg).1
  have hwr := wy_rat (pic_z hP) ht hy hb3 hq
  first | refine x_aload_n hx hb d_Me_conflictAt_0 hl rfl ?_ | refine x_aload_nQ hx hb d_Me_conflictAt_0 hl rfl ?_
  first | refine x_aload_n hx hb d_Me_conflictAt_1 hl rfl ?_ | refine x_aload_nQ hx hb d_Me_conflictAt_1 hl rfl ?_
  refine m_get hx hb hts hown hK hw ci_Me hm 1 (by decide) (wm2 61 rfl rfl) rfl d_Me_conflictAt_2 ?_
  refine x_iload_n hx hb d_Me_conflictAt_5 hl rfl ?_
  refine m_calli (k_V ⟨hx, hb, hml, hown, hts⟩ hE hA hw (c_Me_unch hP ht hm hy hb3 (k := σ 1 0) (by omega) hq) (ci_Me).1 rfl hm (wm2 74 rfl rfl) (wm2 76 rfl rfl) (wmp1 4 rfl) (wm1 12 rfl rfl) (wm2 77 rfl rfl) rfl rfl ar_Me_isUnchangedIn ⟨Nat.le_trans (Nat.le_of_ble_eq_true rfl) hR.1, Nat.le_trans (Nat.le_of_ble_eq_true rfl) hR.2.1⟩ rfl hl.1 rfl (Nat.le_of_ble_eq_true rfl) d_Me_conflictAt_6 ⟨Nat.le_trans (Nat.le_of_ble_eq_true rfl) hR.2.2.1, Nat.le_trans (Nat.le_of_ble_eq_true rfl) hR.2.2.2⟩) hw (mfr_in hw hA) (fun r6 M6 H locs hP6 hw => ?_)
  obtain ⟨rfl, hM6⟩ := hP6
  rw [hM6] at hw
  refine x_if_neB hx hb d_Me_conflictAt_9 rfl (fun h9 => ?_) (fun h9 => ?_)
  · have h9 := of_decide_eq_true h9
    refine lv_iconst (v := -1) hx hb d_Me_conflictAt_24 (by decide) ?_
    exact x_reti hQ hx hb hr hlk rfl hw (by omega) (by omega) d_Me_conflictAt_25 (⟨by first | exact (cf_v0 (d := 1)) (Or.inl (by rw [hwr]; exact wyf_0 h9)) | exact (cf_v0 (d := 1)) (Or.inr (by rw [hwr]; exact wyf_1 h9 h21)), rfl⟩)
  · have h9 := of_decide_eq_false h9
    first | refine x_aload_n hx hb d_Me_conflictAt_12 hl rfl ?_ | refine x_aload_nQ hx hb d_Me_conflictAt_12 hl rfl ?_
    first | refine x_aload_n hx hb d_Me_conflictAt_13 hl rfl ?_ | refine x_aload_nQ hx hb d_Me_conflictAt_13 hl rfl ?_
    refine m_get hx hb hts hown hK hw ci_Me hm 2 (by decide) (wm2 62 rfl rfl) rfl d_Me_conflictAt_14 ?_
    refine x_iload_n hx hb d_Me_conflictAt_17 hl rfl ?_
    refine m_calli (k_V ⟨hx, hb, hml, hown, hts⟩ hE hA hw (c_Me_unch hP ht hm hy hb3 (k := 16 + t) (by omega) hq) (ci_Me).1 rfl hm (wm2 74 rfl rfl) (wm2 76 rfl rfl) (wmp1 4 rfl) (wm1 12 rfl rfl) (wm2 77 rfl rfl) rfl rfl ar_Me_isUnchangedIn ⟨Nat.le_trans (Nat.le_of_ble_eq_true rfl) hR.1, Nat.le_trans (Nat.le_of_ble_eq_true rfl) hR.2.1⟩ rfl hl.1 rfl (Nat.le_of_ble_eq_true rfl) d_Me_conflictAt_18 ⟨Nat.le_trans (Nat.le_of_ble_eq_true rfl) hR.2.2.1, Nat.le_trans (Nat.le_of_ble_eq_true rfl) hR.2.2.2⟩) hw (mfr_in hw hA) (fun r18 M18 H locs hP18 hw => ?_)
    obtain ⟨rfl, hM18⟩ := hP18
    rw [hM18] at hw
    refine x_if_eqB hx hb d_Me_conflictAt_21 rfl (fun h21 => ?_) (fun h21 => ?_)
    · have h21 := of_decide_eq_false h21
      first | refine x_aload_n hx hb d_Me_conflictAt_26 hl rfl ?_ | refine x_aload_nQ hx hb d_Me_conflictAt_26 hl rfl ?_
      refine x_iload_n hx hb d_Me_conflictAt_27 hl rfl ?_
      refine m_calli (k_V ⟨hx, hb, hml, hown, hts⟩ hE hA hw (c_Me_one hP ht hm hy hb3 hI hN hq) (ci_Me).1 rfl hm (wm2 79 rfl rfl) (wm2 81 rfl rfl) (wmp1 5 rfl) (wm1 12 rfl rfl) (wm2 82 rfl rfl) rfl rfl ar_Me_isOneDirectory ⟨Nat.le_trans (Nat.le_of_ble_eq_true rfl) hR.1, Nat.le_trans (Nat.le_of_ble_eq_true rfl) hR.2.1⟩ rfl hl.1 rfl (Nat.le_of_ble_eq_true rfl) d_Me_conflictAt_28 ⟨Nat.le_trans (Nat.le_of_ble_eq_true rfl) hR.2.2.1, Nat.le_trans (Nat.le_of_ble_eq_true rfl) hR.2.2.2⟩) hw (mfr_in hw hA) (fun r28 M28 H locs hP28 hw => ?_)
      obtain ⟨rfl, hM28⟩ := hP28
      rw [hM28] at hw
      refine x_if_neB hx hb d_Me_conflictAt_31 rfl (fun h31 => ?_) (fun h31 => ?_)
      · have hw2 : wy σ t q = 2 := by rw [hwr]; exact wyf_2 hI h9 h21 h31
        refine lv_iconst (v := nI 1) hx hb d_Me_conflictAt_36 (by decide) ?_
        refine x_istore_n hx hb d_Me_conflictAt_37 hl (Nat.le_of_ble_eq_true rfl) (lh_k (i := 1) rfl (by first | exact lk_n | exact lk_i | exact lk_r | exact lk_q | exact lk_0)) (fun ls hl => ?_)
        exact loop 4 1 _ _ _ rfl (by decide) hw hl hw2 hF.symm
      · have hw3 : wy σ t q = 3 := by rw [hwr]; exact wyf_3 h9 h21 h31
        refine x_iload_n hx hb d_Me_conflictAt_34 hl rfl ?_
        exact x_reti hQ hx hb hr hlk rfl hw (by omega) (by omega) d_Me_conflictAt_35 (⟨cf_v3 (d := 1) hq hw3, rfl⟩)
    · have h21 := of_decide_eq_true h21
      refine lv_iconst (v := -1) hx hb d_Me_conflictAt_24 (by decide) ?_
      exact x_reti hQ hx hb hr hlk rfl hw (by omega) (by omega) d_Me_conflictAt_25 (⟨by first | exact (cf_v0 (d := 1)) (Or.inl (by rw [hwr]; exact wyf_0 h9)) | exact (cf_v0 (d := 1)) (Or.inr (by rw [hwr]; exact wyf_1 h9 h21)), rfl⟩)

set_option maxHeartbeats 1000000 in
set_option maxRecDepth 100000 in
theorem c_Me_conf2 {l : Launch} {E : Ev} {M : mp_M} {sz : Nat} {σ : SS} {ca na ta : Nat → Nat} (hP : PIC E σ ca na ta M) {s0 : Nat} (hI : INV σ s0) (hN : σ 4 0 < 1300) {am t : Nat} (ht : t < 3) (hm : M am = some (.inr (6, [.ref (ca (σ 3 t + 5)), .ref (ca (σ 1 0 + 5)), .ref (ca (16 + t + 5))]))) (hy : σ 1 0 ≤ 15) (hb3 : σ 3 t ≤ 15) {q : Nat} (hg : pgb q = true) (hd : pd q = 1) : MCi l E y_Me_conflictAt prog_2_method_2_code 4 (some .int) 4 91 0 0 [.ref am, .int (nI q)] M sz (fun r M' => r = mI (cf σ t 2 q) ∧ M' = M) := by
  refine mc_of R_Me rfl [some (.ref am), some (.int (nI q)), none, none] (by decide) (Nat.le_of_ble_eq_true rfl) rfl ?_
  intro p e R s m ag below meth c ls Q A X hAe hQ hR hsz hw hl
  rw [← hAe] at hQ
  obtain ⟨⟨hx, hb, hml, hown, hts⟩, hE, hA, hr, hlk, hnm⟩ := X
  have hK := hE.1
  obtain ⟨F, hF⟩ : ∃ F, F = cfl (cf σ t 1) q 4 := ⟨_, rfl⟩
  have hFe : wy σ t q = 2 → cf σ t 2 q = F := fun z => by rw [hF]; exact cf_v4 z
  have loop : ∀ (n i : Nat) (H : Heap) (locs : List Loc) (ls : Array Slot), i + n = 5 → 0 < i → mw E.1 vwCl A s.heap M H locs → lh ls [some (.ref am), some (.int (nI q)), some (.int (nI i)), none] → wy σ t q = 2 → cfl (cf σ t 1) q n = F → W p l e R s m ag below meth c H locs 0 0 Q (F0 m 38 ls []) := by
    have hq := (pgb_t.mp hg).1
    intro n
    induction n with
    | zero =>
      intro i H locs ls hi hi0 hw hl hw2 hT
      have hT : 125 = F := hT
      refine x_iload_n hx hb d_Me_conflictAt_38 hl rfl ?_
      refine x_iload_n hx hb d_Me_conflictAt_39 hl rfl ?_
      refine m_calli (k_S ⟨hx, hb, hml, hown, hts⟩ hE hA hw (c_P_names (by omega)) (wm2 84 rfl rfl) (wm2 85 rfl rfl) (wm1 10 rfl rfl) (wm2 86 rfl rfl) rfl rfl ar_P_namesBelow ⟨Nat.le_trans (Nat.le_of_ble_eq_true rfl) hR.1, Nat.le_trans (Nat.le_of_ble_eq_true rfl) hR.2.1⟩ rfl hl.1 rfl (Nat.le_of_ble_eq_true rfl) d_Me_conflictAt_40 ⟨Nat.le_trans (Nat.le_of_ble_eq_true rfl) hR.2.2.1, Nat.le_trans (Nat.le_of_ble_eq_true rfl) hR.2.2.2⟩) hw (mfr_in hw hA) (fun r40 M40 H locs hP40 hw => ?_)
      obtain ⟨rfl, hM40⟩ := hP40
      rw [hM40] at hw
      rw [if_pos (by omega)]
      refine x_icmp_gt hx hb d_Me_conflictAt_43 rfl (by omega) (by omega) (fun h43 => ?_) (fun h43 => ?_)
      · refine lv_iconst (v := -1) hx hb d_Me_conflictAt_69 (by decide) ?_
        exact x_reti hQ hx hb hr hlk rfl hw (by omega) (by omega) d_Me_conflictAt_70 (⟨by rw [hFe hw2, ← hT]; rfl, rfl⟩)
      · exact absurd h43 (by omega)
    | succ n ih =>
      intro i H locs ls hi hi0 hw hl hw2 hT
      have hi5 : 5 - (n + 1) = i := by omega
      have hch := cq_all hg hi0 (by omega) (by omega)
      refine x_iload_n hx hb d_Me_conflictAt_38 hl rfl ?_
      refine x_iload_n hx hb d_Me_conflictAt_39 hl rfl ?_
      refine m_calli (k_S ⟨hx, hb, hml, hown, hts⟩ hE hA hw (c_P_names (by omega)) (wm2 84 rfl rfl) (wm2 85 rfl rfl) (wm1 10 rfl rfl) (wm2 86 rfl rfl) rfl rfl ar_P_namesBelow ⟨Nat.le_trans (Nat.le_of_ble_eq_true rfl) hR.1, Nat.le_trans (Nat.le_of_ble_eq_true rfl) hR.2.1⟩ rfl hl.1 rfl (Nat.le_of_ble_eq_true rfl) d_Me_conflictAt_40 ⟨Nat.le_trans (Nat.le_of_ble_eq_true rfl) hR.2.2.1, Nat.le_trans (Nat.le_of_ble_eq_true rfl) hR.2.2.2⟩) hw (mfr_in hw hA) (fun r40 M40 H locs hP40 hw => ?_)
      obtain ⟨rfl, hM40⟩ := hP40
      rw [hM40] at hw
      rw [if_pos (by omega)]
      refine x_icmp_gt hx hb d_Me_conflictAt_43 rfl (by omega) (by omega) (fun h43 => ?_) (fun h43 => ?_)
      · exact absurd h43 (by omega)
      · first | refine x_aload_n hx hb d_Me_conflictAt_46 hl rfl ?_ | refine x_aload_nQ hx hb d_Me_conflictAt_46 hl rfl ?_
        refine x_iload_n hx hb d_Me_conflictAt_47 hl rfl ?_
        refine x_iload_n hx hb d_Me_conflictAt_48 hl rfl ?_
        refine m_calli (k_S ⟨hx, hb, hml, hown, hts⟩ hE hA hw (c_P_child (by omega) (by omega)) (wm2 87 rfl rfl) (wm2 88 rfl rfl) (wm1 10 rfl rfl) (wm2 89 rfl rfl) rfl rfl ar_P_childOf ⟨Nat.le_trans (Nat.le_of_ble_eq_true rfl) hR.1, Nat.le_trans (Nat.le_of_ble_eq_true rfl) hR.2.1⟩ rfl hl.1 rfl (Nat.le_of_ble_eq_true rfl) d_Me_conflictAt_49 ⟨Nat.le_trans (Nat.le_of_ble_eq_true rfl) hR.2.2.1, Nat.le_trans (Nat.le_of_ble_eq_true rfl) hR.2.2.2⟩) hw (mfr_in hw hA) (fun r49 M49 H locs hP49 hw => ?_)
        obtain ⟨rfl, hM49⟩ := hP49
        rw [hM49] at hw
        refine m_calli (k_V ⟨hx, hb, hml, hown, hts⟩ hE hA hw (c_Me_conf1 hP hI hN ht hm hy hb3 (q := cq q i) hch.1 (by have := hch.2.1; omega)) (ci_Me).1 rfl hm (wm2 90 rfl rfl) (wm2 72 rfl rfl) (wmp1 3 rfl) (wm1 12 rfl rfl) (wm2 73 rfl rfl) rfl rfl ar_Me_conflictAt ⟨Nat.le_trans (Nat.le_of_ble_eq_true rfl) hR.1, Nat.le_trans (Nat.le_of_ble_eq_true rfl) hR.2.1⟩ rfl hl.1 rfl (Nat.le_of_ble_eq_true rfl) d_Me_conflictAt_52 ⟨Nat.le_trans (Nat.le_of_ble_eq_true rfl) hR.2.2.1, Nat.le_trans (Nat.le_of_ble_eq_true rfl) hR.2.2.2⟩) hw (mfr_in hw hA) (fun r52 M52 H locs hP52 hw => ?_)
        obtain ⟨rfl, hM52⟩ := hP52
        rw [hM52] at hw
        refine x_istore_n hx hb d_Me_conflictAt_55 hl (Nat.le_of_ble_eq_true rfl) (lh_k (i := 2) rfl (by first | exact lk_n | exact lk_i | exact lk_r | exact lk_q | exact lk_0)) (fun ls hl => ?_)
        refine x_iload_n hx hb d_Me_conflictAt_56 hl rfl ?_
        refine lv_iconst (v := -1) hx hb d_Me_conflictAt_57 (by decide) ?_
        refine lv_icmp_eq hx hb d_Me_conflictAt_58 rfl (fun h58 => ?_) (fun h58 => ?_)
        · have h58 := mI_1 (cf_le 1 (cq q i) hch.1 (by have := hch.2.1; omega)) h58
          have hT2 : cfl (cf σ t 1) q n = F := by
            rw [← hT]
            exact (if_pos (by rw [hi5]; exact h58)).symm
          refine x_iincN hx hb d_Me_conflictAt_63 hl rfl (lh_k (i := 1) rfl (by first | exact lk_n | exact lk_i | exact lk_r | exact lk_q | exact lk_0)) (fun ls hl => ?_)
          refine lv_goto hx hb d_Me_conflictAt_66 rfl ?_
          exact ih (i + 1) H locs ls (by omega) (by omega) hw (lh_drop 3 hl) hw2 hT2
        · have hT2 : cf σ t 1 (cq q i) = F := by
            rw [← hT, ← hi5]
            exact (if_neg (fun z => h58 (by rw [← hi5, z]; rfl))).symm
          refine x_iload_n hx hb d_Me_conflictAt_61 hl rfl ?_
          exact x_reti hQ hx hb hr hlk rfl hw (by omega) (by omega) d_Me_conflictAt_62 (⟨by rw [hFe hw2, ← hT2], rfl⟩)
  have hq := (pgb_t.mp hg).1
  have hwr := wy_rat (pic_z hP) ht hy hb3 hq
  first | refine x_aload_n hx hb d_Me_conflictAt_0 hl rfl ?_ | refine x_aload_nQ hx hb d_Me_conflictAt_0 hl rfl ?_
  first | refine x_aload_n hx hb d_Me_conflictAt_1 hl rfl ?_ | refine x_aload_nQ hx hb d_Me_conflictAt_1 hl rfl ?_
  refine m_get hx hb hts hown hK hw ci_Me hm 1 (by decide) (wm2 61 rfl rfl) rfl d_Me_conflictAt_2 ?_
  refine x_iload_n hx hb d_Me_conflictAt_5 hl rfl ?_
  refine m_calli (k_V ⟨hx, hb, hml, hown, hts⟩ hE hA hw (c_Me_unch hP ht hm hy hb3 (k := σ 1 0) (by omega) hq) (ci_Me).1 rfl hm (wm2 74 rfl rfl) (wm2 76 rfl rfl) (wmp1 4 rfl) (wm1 12 rfl rfl) (wm2 77 rfl rfl) rfl rfl ar_Me_isUnchangedIn ⟨Nat.le_trans (Nat.le_of_ble_eq_true rfl) hR.1, Nat.le_trans (Nat.le_of_ble_eq_true rfl) hR.2.1⟩ rfl hl.1 rfl (Nat.le_of_ble_eq_true rfl) d_Me_conflictAt_6 ⟨Nat.le_trans (Nat.le_of_ble_eq_true rfl) hR.2.2.1, Nat.le_trans (Nat.le_of_ble_eq_true rfl) hR.2.2.2⟩) hw (mfr_in hw hA) (fun r6 M6 H locs hP6 hw => ?_)
  obtain ⟨rfl, hM6⟩ := hP6
  rw [hM6] at hw
  refine x_if_neB hx hb d_Me_conflictAt_9 rfl (fun h9 => ?_) (fun h9 => ?_)
  · have h9 := of_decide_eq_true h9
    refine lv_iconst (v := -1) hx hb d_Me_conflictAt_24 (by decide) ?_
    exact x_reti hQ hx hb hr hlk rfl hw (by omega) (by omega) d_Me_conflictAt_25 (⟨by first | exact (cf_v0 (d := 2)) (Or.inl (by rw [hwr]; exact wyf_0 h9)) | exact (cf_v0 (d := 2)) (Or.inr (by rw [hwr]; exact wyf_1 h9 h21)), rfl⟩)
  · have h9 := of_decide_eq_false h9
    first | refine x_aload_n hx hb d_Me_conflictAt_12 hl rfl ?_ | refine x_aload_nQ hx hb d_Me_conflictAt_12 hl rfl ?_
    first | refine x_aload_n hx hb d_Me_conflictAt_13 hl rfl ?_ | refine x_aload_nQ hx hb d_Me_conflictAt_13 hl rfl ?_
    refine m_get hx hb hts hown hK hw ci_Me hm 2 (by decide) (wm2 62 rfl rfl) rfl d_Me_conflictAt_14 ?_
    refine x_iload_n hx hb d_Me_conflictAt_17 hl rfl ?_
    refine m_calli (k_V ⟨hx, hb, hml, hown, hts⟩ hE hA hw (c_Me_unch hP ht hm hy hb3 (k := 16 + t) (by omega) hq) (ci_Me).1 rfl hm (wm2 74 rfl rfl) (wm2 76 rfl rfl) (wmp1 4 rfl) (wm1 12 rfl rfl) (wm2 77 rfl rfl) rfl rfl ar_Me_isUnchangedIn ⟨Nat.le_trans (Nat.le_of_ble_eq_true rfl) hR.1, Nat.le_trans (Nat.le_of_ble_eq_true rfl) hR.2.1⟩ rfl hl.1 rfl (Nat.le_of_ble_eq_true rfl) d_Me_conflictAt_18 ⟨Nat.le_trans (Nat.le_of_ble_eq_true rfl) hR.2.2.1, Nat.le_trans (Nat.le_of_ble_eq_true rfl) hR.2.2.2⟩) hw (mfr_in hw hA) (fun r18 M18 H locs hP18 hw => ?_)
    obtain ⟨rfl, hM18⟩ := hP18
    rw [hM18] at hw
    refine x_if_eqB hx hb d_Me_conflictAt_21 rfl (fun h21 => ?_) (fun h21 => ?_)
    · have h21 := of_decide_eq_false h21
      first | refine x_aload_n hx hb d_Me_conflictAt_26 hl rfl ?_ | refine x_aload_nQ hx hb d_Me_conflictAt_26 hl rfl ?_
      refine x_iload_n hx hb d_Me_conflictAt_27 hl rfl ?_
      refine m_calli (k_V ⟨hx, hb, hml, hown, hts⟩ hE hA hw (c_Me_one hP ht hm hy hb3 hI hN hq) (ci_Me).1 rfl hm (wm2 79 rfl rfl) (wm2 81 rfl rfl) (wmp1 5 rfl) (wm1 12 rfl rfl) (wm2 82 rfl rfl) rfl rfl ar_Me_isOneDirectory ⟨Nat.le_trans (Nat.le_of_ble_eq_true rfl) hR.1, Nat.le_trans (Nat.le_of_ble_eq_true rfl) hR.2.1⟩ rfl hl.1 rfl (Nat.le_of_ble_eq_true rfl) d_Me_conflictAt_28 ⟨Nat.le_trans (Nat.le_of_ble_eq_true rfl) hR.2.2.1, Nat.le_trans (Nat.le_of_ble_eq_true rfl) hR.2.2.2⟩) hw (mfr_in hw hA) (fun r28 M28 H locs hP28 hw => ?_)
      obtain ⟨rfl, hM28⟩ := hP28
      rw [hM28] at hw
      refine x_if_neB hx hb d_Me_conflictAt_31 rfl (fun h31 => ?_) (fun h31 => ?_)
      · have hw2 : wy σ t q = 2 := by rw [hwr]; exact wyf_2 hI h9 h21 h31
        refine lv_iconst (v := nI 1) hx hb d_Me_conflictAt_36 (by decide) ?_
        refine x_istore_n hx hb d_Me_conflictAt_37 hl (Nat.le_of_ble_eq_true rfl) (lh_k (i := 1) rfl (by first | exact lk_n | exact lk_i | exact lk_r | exact lk_q | exact lk_0)) (fun ls hl => ?_)
        exact loop 4 1 _ _ _ rfl (by decide) hw hl hw2 hF.symm
      · have hw3 : wy σ t q = 3 := by rw [hwr]; exact wyf_3 h9 h21 h31
        refine x_iload_n hx hb d_Me_conflictAt_34 hl rfl ?_
        exact x_reti hQ hx hb hr hlk rfl hw (by omega) (by omega) d_Me_conflictAt_35 (⟨cf_v3 (d := 2) hq hw3, rfl⟩)
    · have h21 := of_decide_eq_true h21
      refine lv_iconst (v := -1) hx hb d_Me_conflictAt_24 (by decide) ?_
      exact x_reti hQ hx hb hr hlk rfl hw (by omega) (by omega) d_Me_conflictAt_25 (⟨by first | exact (cf_v0 (d := 2)) (Or.inl (by rw [hwr]; exact wyf_0 h9)) | exact (cf_v0 (d := 2)) (Or.inr (by rw [hwr]; exact wyf_1 h9 h21)), rfl⟩)

set_option maxHeartbeats 1000000 in
set_option maxRecDepth 100000 in
theorem c_Me_conf3 {l : Launch} {E : Ev} {M : mp_M} {sz : Nat} {σ : SS} {ca na ta : Nat → Nat} (hP : PIC E σ ca na ta M) {s0 : Nat} (hI : INV σ s0) (hN : σ 4 0 < 1300) {am t : Nat} (ht : t < 3) (hm : M am = some (.inr (6, [.ref (ca (σ 3 t + 5)), .ref (ca (σ 1 0 + 5)), .ref (ca (16 + t + 5))]))) (hy : σ 1 0 ≤ 15) (hb3 : σ 3 t ≤ 15) {q : Nat} (hg : pgb q = true) (hd : pd q = 0) : MCi l E y_Me_conflictAt prog_2_method_2_code 4 (some .int) 5 114 0 0 [.ref am, .int (nI q)] M sz (fun r M' => r = mI (cf σ t 3 q) ∧ M' = M) := by
  refine mc_of R_Me rfl [some (.ref am), some (.int (nI q)), none, none] (by decide) (Nat.le_of_ble_eq_true rfl) rfl ?_
  intro p e R s m ag below meth c ls Q A X hAe hQ hR hsz hw hl
  rw [← hAe] at hQ
  obtain ⟨⟨hx, hb, hml, hown, hts⟩, hE, hA, hr, hlk, hnm⟩ := X
  have hK := hE.1
  obtain ⟨F, hF⟩ : ∃ F, F = cfl (cf σ t 2) q 4 := ⟨_, rfl⟩
  have hFe : wy σ t q = 2 → cf σ t 3 q = F := fun z => by rw [hF]; exact cf_v4 z
  have loop : ∀ (n i : Nat) (H : Heap) (locs : List Loc) (ls : Array Slot), i + n = 5 → 0 < i → mw E.1 vwCl A s.heap M H locs → lh ls [some (.ref am), some (.int (nI q)), some (.int (nI i)), none] → wy σ t q = 2 → cfl (cf σ t 2) q n = F → W p l e R s m ag below meth c H locs 0 0 Q (F0 m 38 ls []) := by
    have hq := (pgb_t.mp hg).1
    intro n
    induction n with
    | zero =>
      intro i H locs ls hi hi0 hw hl hw2 hT
      have hT : 125 = F := hT
      refine x_iload_n hx hb d_Me_conflictAt_38 hl rfl ?_
      refine x_iload_n hx hb d_Me_conflictAt_39 hl rfl ?_
      refine m_calli (k_S ⟨hx, hb, hml, hown, hts⟩ hE hA hw (c_P_names (by omega)) (wm2 84 rfl rfl) (wm2 85 rfl rfl) (wm1 10 rfl rfl) (wm2 86 rfl rfl) rfl rfl ar_P_namesBelow ⟨Nat.le_trans (Nat.le_of_ble_eq_true rfl) hR.1, Nat.le_trans (Nat.le_of_ble_eq_true rfl) hR.2.1⟩ rfl hl.1 rfl (Nat.le_of_ble_eq_true rfl) d_Me_conflictAt_40 ⟨Nat.le_trans (Nat.le_of_ble_eq_true rfl) hR.2.2.1, Nat.le_trans (Nat.le_of_ble_eq_true rfl) hR.2.2.2⟩) hw (mfr_in hw hA) (fun r40 M40 H locs hP40 hw => ?_)
      obtain ⟨rfl, hM40⟩ := hP40
      rw [hM40] at hw
      rw [if_pos (by omega)]
      refine x_icmp_gt hx hb d_Me_conflictAt_43 rfl (by omega) (by omega) (fun h43 => ?_) (fun h43 => ?_)
      · refine lv_iconst (v := -1) hx hb d_Me_conflictAt_69 (by decide) ?_
        exact x_reti hQ hx hb hr hlk rfl hw (by omega) (by omega) d_Me_conflictAt_70 (⟨by rw [hFe hw2, ← hT]; rfl, rfl⟩)
      · exact absurd h43 (by omega)
    | succ n ih =>
      intro i H locs ls hi hi0 hw hl hw2 hT
      have hi5 : 5 - (n + 1) = i := by omega
      have hch := cq_all hg hi0 (by omega) (by omega)
      refine x_iload_n hx hb d_Me_conflictAt_38 hl rfl ?_
      refine x_iload_n hx hb d_Me_conflictAt_39 hl rfl ?_
      refine m_calli (k_S ⟨hx, hb, hml, hown, hts⟩ hE hA hw (c_P_names (by omega)) (wm2 84 rfl rfl) (wm2 85 rfl rfl) (wm1 10 rfl rfl) (wm2 86 rfl rfl) rfl rfl ar_P_namesBelow ⟨Nat.le_trans (Nat.le_of_ble_eq_true rfl) hR.1, Nat.le_trans (Nat.le_of_ble_eq_true rfl) hR.2.1⟩ rfl hl.1 rfl (Nat.le_of_ble_eq_true rfl) d_Me_conflictAt_40 ⟨Nat.le_trans (Nat.le_of_ble_eq_true rfl) hR.2.2.1, Nat.le_trans (Nat.le_of_ble_eq_true rfl) hR.2.2.2⟩) hw (mfr_in hw hA) (fun r40 M40 H locs hP40 hw => ?_)
      obtain ⟨rfl, hM40⟩ := hP40
      rw [hM40] at hw
      rw [if_pos (by omega)]
      refine x_icmp_gt hx hb d_Me_conflictAt_43 rfl (by omega) (by omega) (fun h43 => ?_) (fun h43 => ?_)
      · exact absurd h43 (by omega)
      · first | refine x_aload_n hx hb d_Me_conflictAt_46 hl rfl ?_ | refine x_aload_nQ hx hb d_Me_conflictAt_46 hl rfl ?_
        refine x_iload_n hx hb d_Me_conflictAt_47 hl rfl ?_
        refine x_iload_n hx hb d_Me_conflictAt_48 hl rfl ?_
        refine m_calli (k_S ⟨hx, hb, hml, hown, hts⟩ hE hA hw (c_P_child (by omega) (by omega)) (wm2 87 rfl rfl) (wm2 88 rfl rfl) (wm1 10 rfl rfl) (wm2 89 rfl rfl) rfl rfl ar_P_childOf ⟨Nat.le_trans (Nat.le_of_ble_eq_true rfl) hR.1, Nat.le_trans (Nat.le_of_ble_eq_true rfl) hR.2.1⟩ rfl hl.1 rfl (Nat.le_of_ble_eq_true rfl) d_Me_conflictAt_49 ⟨Nat.le_trans (Nat.le_of_ble_eq_true rfl) hR.2.2.1, Nat.le_trans (Nat.le_of_ble_eq_true rfl) hR.2.2.2⟩) hw (mfr_in hw hA) (fun r49 M49 H locs hP49 hw => ?_)
        obtain ⟨rfl, hM49⟩ := hP49
        rw [hM49] at hw
        refine m_calli (k_V ⟨hx, hb, hml, hown, hts⟩ hE hA hw (c_Me_conf2 hP hI hN ht hm hy hb3 (q := cq q i) hch.1 (by have := hch.2.1; omega)) (ci_Me).1 rfl hm (wm2 90 rfl rfl) (wm2 72 rfl rfl) (wmp1 3 rfl) (wm1 12 rfl rfl) (wm2 73 rfl rfl) rfl rfl ar_Me_conflictAt ⟨Nat.le_trans (Nat.le_of_ble_eq_true rfl) hR.1, Nat.le_trans (Nat.le_of_ble_eq_true rfl) hR.2.1⟩ rfl hl.1 rfl (Nat.le_of_ble_eq_true rfl) d_Me_conflictAt_52 ⟨Nat.le_trans (Nat.le_of_ble_eq_true rfl) hR.2.2.1, Nat.le_trans (Nat.le_of_ble_eq_true rfl) hR.2.2.2⟩) hw (mfr_in hw hA) (fun r52 M52 H locs hP52 hw => ?_)
        obtain ⟨rfl, hM52⟩ := hP52
        rw [hM52] at hw
        refine x_istore_n hx hb d_Me_conflictAt_55 hl (Nat.le_of_ble_eq_true rfl) (lh_k (i := 2) rfl (by first | exact lk_n | exact lk_i | exact lk_r | exact lk_q | exact lk_0)) (fun ls hl => ?_)
        refine x_iload_n hx hb d_Me_conflictAt_56 hl rfl ?_
        refine lv_iconst (v := -1) hx hb d_Me_conflictAt_57 (by decide) ?_
        refine lv_icmp_eq hx hb d_Me_conflictAt_58 rfl (fun h58 => ?_) (fun h58 => ?_)
        · have h58 := mI_1 (cf_le 2 (cq q i) hch.1 (by have := hch.2.1; omega)) h58
          have hT2 : cfl (cf σ t 2) q n = F := by
            rw [← hT]
            exact (if_pos (by rw [hi5]; exact h58)).symm
          refine x_iincN hx hb d_Me_conflictAt_63 hl rfl (lh_k (i := 1) rfl (by first | exact lk_n | exact lk_i | exact lk_r | exact lk_q | exact lk_0)) (fun ls hl => ?_)
          refine lv_goto hx hb d_Me_conflictAt_66 rfl ?_
          exact ih (i + 1) H locs ls (by omega) (by omega) hw (lh_drop 3 hl) hw2 hT2
        · have hT2 : cf σ t 2 (cq q i) = F := by
            rw [← hT, ← hi5]
            exact (if_neg (fun z => h58 (by rw [← hi5, z]; rfl))).symm
          refine x_iload_n hx hb d_Me_conflictAt_61 hl rfl ?_
          exact x_reti hQ hx hb hr hlk rfl hw (by omega) (by omega) d_Me_conflictAt_62 (⟨by rw [hFe hw2, ← hT2], rfl⟩)
  have hq := (pgb_t.mp hg).1
  have hwr := wy_rat (pic_z hP) ht hy hb3 hq
  first | refine x_aload_n hx hb d_Me_conflictAt_0 hl rfl ?_ | refine x_aload_nQ hx hb d_Me_conflictAt_0 hl rfl ?_
  first | refine x_aload_n hx hb d_Me_conflictAt_1 hl rfl ?_ | refine x_aload_nQ hx hb d_Me_conflictAt_1 hl rfl ?_
  refine m_get hx hb hts hown hK hw ci_Me hm 1 (by decide) (wm2 61 rfl rfl) rfl d_Me_conflictAt_2 ?_
  refine x_iload_n hx hb d_Me_conflictAt_5 hl rfl ?_
  refine m_calli (k_V ⟨hx, hb, hml, hown, hts⟩ hE hA hw (c_Me_unch hP ht hm hy hb3 (k := σ 1 0) (by omega) hq) (ci_Me).1 rfl hm (wm2 74 rfl rfl) (wm2 76 rfl rfl) (wmp1 4 rfl) (wm1 12 rfl rfl) (wm2 77 rfl rfl) rfl rfl ar_Me_isUnchangedIn ⟨Nat.le_trans (Nat.le_of_ble_eq_true rfl) hR.1, Nat.le_trans (Nat.le_of_ble_eq_true rfl) hR.2.1⟩ rfl hl.1 rfl (Nat.le_of_ble_eq_true rfl) d_Me_conflictAt_6 ⟨Nat.le_trans (Nat.le_of_ble_eq_true rfl) hR.2.2.1, Nat.le_trans (Nat.le_of_ble_eq_true rfl) hR.2.2.2⟩) hw (mfr_in hw hA) (fun r6 M6 H locs hP6 hw => ?_)
  obtain ⟨rfl, hM6⟩ := hP6
  rw [hM6] at hw
  refine x_if_neB hx hb d_Me_conflictAt_9 rfl (fun h9 => ?_) (fun h9 => ?_)
  · have h9 := of_decide_eq_true h9
    refine lv_iconst (v := -1) hx hb d_Me_conflictAt_24 (by decide) ?_
    exact x_reti hQ hx hb hr hlk rfl hw (by omega) (by omega) d_Me_conflictAt_25 (⟨by first | exact (cf_v0 (d := 3)) (Or.inl (by rw [hwr]; exact wyf_0 h9)) | exact (cf_v0 (d := 3)) (Or.inr (by rw [hwr]; exact wyf_1 h9 h21)), rfl⟩)
  · have h9 := of_decide_eq_false h9
    first | refine x_aload_n hx hb d_Me_conflictAt_12 hl rfl ?_ | refine x_aload_nQ hx hb d_Me_conflictAt_12 hl rfl ?_
    first | refine x_aload_n hx hb d_Me_conflictAt_13 hl rfl ?_ | refine x_aload_nQ hx hb d_Me_conflictAt_13 hl rfl ?_
    refine m_get hx hb hts hown hK hw ci_Me hm 2 (by decide) (wm2 62 rfl rfl) rfl d_Me_conflictAt_14 ?_
    refine x_iload_n hx hb d_Me_conflictAt_17 hl rfl ?_
    refine m_calli (k_V ⟨hx, hb, hml, hown, hts⟩ hE hA hw (c_Me_unch hP ht hm hy hb3 (k := 16 + t) (by omega) hq) (ci_Me).1 rfl hm (wm2 74 rfl rfl) (wm2 76 rfl rfl) (wmp1 4 rfl) (wm1 12 rfl rfl) (wm2 77 rfl rfl) rfl rfl ar_Me_isUnchangedIn ⟨Nat.le_trans (Nat.le_of_ble_eq_true rfl) hR.1, Nat.le_trans (Nat.le_of_ble_eq_true rfl) hR.2.1⟩ rfl hl.1 rfl (Nat.le_of_ble_eq_true rfl) d_Me_conflictAt_18 ⟨Nat.le_trans (Nat.le_of_ble_eq_true rfl) hR.2.2.1, Nat.le_trans (Nat.le_of_ble_eq_true rfl) hR.2.2.2⟩) hw (mfr_in hw hA) (fun r18 M18 H locs hP18 hw => ?_)
    obtain ⟨rfl, hM18⟩ := hP18
    rw [hM18] at hw
    refine x_if_eqB hx hb d_Me_conflictAt_21 rfl (fun h21 => ?_) (fun h21 => ?_)
    · have h21 := of_decide_eq_false h21
      first | refine x_aload_n hx hb d_Me_conflictAt_26 hl rfl ?_ | refine x_aload_nQ hx hb d_Me_conflictAt_26 hl rfl ?_
      refine x_iload_n hx hb d_Me_conflictAt_27 hl rfl ?_
      refine m_calli (k_V ⟨hx, hb, hml, hown, hts⟩ hE hA hw (c_Me_one hP ht hm hy hb3 hI hN hq) (ci_Me).1 rfl hm (wm2 79 rfl rfl) (wm2 81 rfl rfl) (wmp1 5 rfl) (wm1 12 rfl rfl) (wm2 82 rfl rfl) rfl rfl ar_Me_isOneDirectory ⟨Nat.le_trans (Nat.le_of_ble_eq_true rfl) hR.1, Nat.le_trans (Nat.le_of_ble_eq_true rfl) hR.2.1⟩ rfl hl.1 rfl (Nat.le_of_ble_eq_true rfl) d_Me_conflictAt_28 ⟨Nat.le_trans (Nat.le_of_ble_eq_true rfl) hR.2.2.1, Nat.le_trans (Nat.le_of_ble_eq_true rfl) hR.2.2.2⟩) hw (mfr_in hw hA) (fun r28 M28 H locs hP28 hw => ?_)
      obtain ⟨rfl, hM28⟩ := hP28
      rw [hM28] at hw
      refine x_if_neB hx hb d_Me_conflictAt_31 rfl (fun h31 => ?_) (fun h31 => ?_)
      · have hw2 : wy σ t q = 2 := by rw [hwr]; exact wyf_2 hI h9 h21 h31
        refine lv_iconst (v := nI 1) hx hb d_Me_conflictAt_36 (by decide) ?_
        refine x_istore_n hx hb d_Me_conflictAt_37 hl (Nat.le_of_ble_eq_true rfl) (lh_k (i := 1) rfl (by first | exact lk_n | exact lk_i | exact lk_r | exact lk_q | exact lk_0)) (fun ls hl => ?_)
        exact loop 4 1 _ _ _ rfl (by decide) hw hl hw2 hF.symm
      · have hw3 : wy σ t q = 3 := by rw [hwr]; exact wyf_3 h9 h21 h31
        refine x_iload_n hx hb d_Me_conflictAt_34 hl rfl ?_
        exact x_reti hQ hx hb hr hlk rfl hw (by omega) (by omega) d_Me_conflictAt_35 (⟨cf_v3 (d := 3) hq hw3, rfl⟩)
    · have h21 := of_decide_eq_true h21
      refine lv_iconst (v := -1) hx hb d_Me_conflictAt_24 (by decide) ?_
      exact x_reti hQ hx hb hr hlk rfl hw (by omega) (by omega) d_Me_conflictAt_25 (⟨by first | exact (cf_v0 (d := 3)) (Or.inl (by rw [hwr]; exact wyf_0 h9)) | exact (cf_v0 (d := 3)) (Or.inr (by rw [hwr]; exact wyf_1 h9 h21)), rfl⟩)

set_option maxHeartbeats 1000000 in
set_option maxRecDepth 100000 in
theorem c_Me_mrg0 {l : Launch} {E : Ev} {M : mp_M} {sz : Nat} {σ : SS} {ca na ta : Nat → Nat} (hP : PIC E σ ca na ta M) {am t : Nat} (ht : t < 3) (hm : M am = some (.inr (6, [.ref (ca (σ 3 t + 5)), .ref (ca (σ 1 0 + 5)), .ref (ca (16 + t + 5))]))) {q : Nat} (hI : INV σ t) (ho : σ 2 t ≠ 0) (hg : pgb q = true) (hd : pd q = 3) (hc : cf σ t 0 q = 125) (hgd : gd σ t 0 q) : MCv l E y_Me_mergeAt prog_2_method_3_code 4 none 3 64 0 0 [.ref am, .int (nI q)] M sz (fun M' => PIC E (cg t 0 σ q) ca na ta M' ∧ M' am = some (.inr (6, [.ref (ca (σ 3 t + 5)), .ref (ca (σ 1 0 + 5)), .ref (ca (16 + t + 5))]))) := by
  refine mc_of R_Me rfl [some (.ref am), some (.int (nI q)), none, none] (by decide) (Nat.le_of_ble_eq_true rfl) rfl ?_
  intro p e R s m ag below meth c ls Q A X hAe hQ hR hsz hw hl
  rw [← hAe] at hQ
  obtain ⟨⟨hx, hb, hml, hown, hts⟩, hE, hA, hr, hlk, hnm⟩ := X
  have hK := hE.1
  have hy := hI.2.1.1
  have hb3 : σ 3 t ≤ 15 := Nat.le_trans (hI.2.1.2.1 t ht) hy
  have hq := (pgb_t.mp hg).1
  have hwr := wy_rat (pic_z hP) ht hy hb3 hq
  have hw3 := cf_3 hq hc
  first | refine x_aload_n hx hb d_Me_mergeAt_0 hl rfl ?_ | refine x_aload_nQ hx hb d_Me_mergeAt_0 hl rfl ?_
  first | refine x_aload_n hx hb d_Me_mergeAt_1 hl rfl ?_ | refine x_aload_nQ hx hb d_Me_mergeAt_1 hl rfl ?_
  refine m_get hx hb hts hown hK hw ci_Me hm 1 (by decide) (wm2 61 rfl rfl) rfl d_Me_mergeAt_2 ?_
  refine x_iload_n hx hb d_Me_mergeAt_5 hl rfl ?_
  refine m_calli (k_V ⟨hx, hb, hml, hown, hts⟩ hE hA hw (c_Me_unch hP ht hm hy hb3 (k := σ 1 0) (by omega) hq) (ci_Me).1 rfl hm (wm2 74 rfl rfl) (wm2 76 rfl rfl) (wmp1 4 rfl) (wm1 12 rfl rfl) (wm2 77 rfl rfl) rfl rfl ar_Me_isUnchangedIn ⟨Nat.le_trans (Nat.le_of_ble_eq_true rfl) hR.1, Nat.le_trans (Nat.le_of_ble_eq_true rfl) hR.2.1⟩ rfl hl.1 rfl (Nat.le_of_ble_eq_true rfl) d_Me_mergeAt_6 ⟨Nat.le_trans (Nat.le_of_ble_eq_true rfl) hR.2.2.1, Nat.le_trans (Nat.le_of_ble_eq_true rfl) hR.2.2.2⟩) hw (mfr_in hw hA) (fun r6 M6 H locs hP6 hw => ?_)
  obtain ⟨rfl, hM6⟩ := hP6
  rw [hM6] at hw
  refine x_if_eqB hx hb d_Me_mergeAt_9 rfl (fun h9 => ?_) (fun h9 => ?_)
  · have h9 := of_decide_eq_false h9
    first | refine x_aload_n hx hb d_Me_mergeAt_13 hl rfl ?_ | refine x_aload_nQ hx hb d_Me_mergeAt_13 hl rfl ?_
    first | refine x_aload_n hx hb d_Me_mergeAt_14 hl rfl ?_ | refine x_aload_nQ hx hb d_Me_mergeAt_14 hl rfl ?_
    refine m_get hx hb hts hown hK hw ci_Me hm 2 (by decide) (wm2 62 rfl rfl) rfl d_Me_mergeAt_15 ?_
    refine x_iload_n hx hb d_Me_mergeAt_18 hl rfl ?_
    refine m_calli (k_V ⟨hx, hb, hml, hown, hts⟩ hE hA hw (c_Me_unch hP ht hm hy hb3 (k := 16 + t) (by omega) hq) (ci_Me).1 rfl hm (wm2 74 rfl rfl) (wm2 76 rfl rfl) (wmp1 4 rfl) (wm1 12 rfl rfl) (wm2 77 rfl rfl) rfl rfl ar_Me_isUnchangedIn ⟨Nat.le_trans (Nat.le_of_ble_eq_true rfl) hR.1, Nat.le_trans (Nat.le_of_ble_eq_true rfl) hR.2.1⟩ rfl hl.1 rfl (Nat.le_of_ble_eq_true rfl) d_Me_mergeAt_19 ⟨Nat.le_trans (Nat.le_of_ble_eq_true rfl) hR.2.2.1, Nat.le_trans (Nat.le_of_ble_eq_true rfl) hR.2.2.2⟩) hw (mfr_in hw hA) (fun r19 M19 H locs hP19 hw => ?_)
    obtain ⟨rfl, hM19⟩ := hP19
    rw [hM19] at hw
    refine x_if_eqB hx hb d_Me_mergeAt_22 rfl (fun h22 => ?_) (fun h22 => ?_)
    · have h22 := of_decide_eq_false h22
      have hw2 : wy σ t q = 2 := wy_not hwr hw3 h9 h22
      have w9 := wy_2r hP ht hy hb3 hq hw2
      have ho0 := w9.1
      have hy0 := w9.2
      have hIX := hI
      have hoX := ho
      have hyX := hy
      have hbX := hgd hw2
      refine lv_iconst (v := nI 1) hx hb d_Me_mergeAt_38 (by decide) ?_
      refine x_istore_n hx hb d_Me_mergeAt_39 hl (Nat.le_of_ble_eq_true rfl) (lh_k (i := 1) rfl (by first | exact lk_n | exact lk_i | exact lk_r | exact lk_q | exact lk_0)) (fun ls hl => ?_)
      refine x_iload_n hx hb d_Me_mergeAt_40 hl rfl ?_
      refine x_iload_n hx hb d_Me_mergeAt_41 hl rfl ?_
      refine m_calli (k_S ⟨hx, hb, hml, hown, hts⟩ hE hA hw (c_P_names (by omega)) (wm2 84 rfl rfl) (wm2 85 rfl rfl) (wm1 10 rfl rfl) (wm2 86 rfl rfl) rfl rfl ar_P_namesBelow ⟨Nat.le_trans (Nat.le_of_ble_eq_true rfl) hR.1, Nat.le_trans (Nat.le_of_ble_eq_true rfl) hR.2.1⟩ rfl hl.1 rfl (Nat.le_of_ble_eq_true rfl) d_Me_mergeAt_42 ⟨Nat.le_trans (Nat.le_of_ble_eq_true rfl) hR.2.2.1, Nat.le_trans (Nat.le_of_ble_eq_true rfl) hR.2.2.2⟩) hw (mfr_in hw hA) (fun r42 M42 H locs hP42 hw => ?_)
      obtain ⟨rfl, hM42⟩ := hP42
      rw [hM42] at hw
      rw [if_neg (by omega)]
      refine x_icmp_gt hx hb d_Me_mergeAt_45 rfl (by omega) (by omega) (fun h45 => ?_) (fun h45 => ?_)
      · first | refine x_aload_n hx hb d_Me_mergeAt_63 hl rfl ?_ | refine x_aload_nQ hx hb d_Me_mergeAt_63 hl rfl ?_
        refine m_get hx hb hts hown hK hw ci_Me hm 2 (by decide) (wm2 62 rfl rfl) rfl d_Me_mergeAt_64 ?_
        refine x_iload_n hx hb d_Me_mergeAt_67 hl rfl ?_
        refine m_callq (k_V ⟨hx, hb, hml, hown, hts⟩ hE hA hw (c_Tr_at (pic_u hP ht) (pic_a hP (k := 16 + t) (by omega))) (ci_Tr).1 rfl (pic_u hP ht) (wm2 78 rfl rfl) (wm1 212 rfl rfl) (wm1 213 rfl rfl) (wm1 6 rfl rfl) (wm1 214 rfl rfl) rfl rfl ar_Tr_at ⟨Nat.le_trans (Nat.le_of_ble_eq_true rfl) hR.1, Nat.le_trans (Nat.le_of_ble_eq_true rfl) hR.2.1⟩ rfl hl.1 rfl (Nat.le_of_ble_eq_true rfl) d_Me_mergeAt_68 ⟨Nat.le_trans (Nat.le_of_ble_eq_true rfl) hR.2.2.1, Nat.le_trans (Nat.le_of_ble_eq_true rfl) hR.2.2.2⟩) hw (mfr_in hw hA) (fun r68 M68 H locs hP68 hw => ?_)
        obtain ⟨rfl, hM68⟩ := hP68
        rw [hM68] at hw
        rw [tat_row (pic_z hP) (k := 16 + t) (by omega), ix_n hq, nq_n ho0]
        first | refine x_astore_n hx hb d_Me_mergeAt_71 hl (Nat.le_of_ble_eq_true rfl) (lh_k (i := 1) rfl (by first | exact lk_n | exact lk_i | exact lk_r | exact lk_q | exact lk_0)) (fun ls hl => ?_) | refine x_astore_nQ hx hb d_Me_mergeAt_71 hl (Nat.le_of_ble_eq_true rfl) (lh_k (i := 1) rfl (by first | exact lk_n | exact lk_i | exact lk_r | exact lk_q | exact lk_0)) (fun ls hl => ?_)
        first | refine x_aload_n hx hb d_Me_mergeAt_72 hl rfl ?_ | refine x_aload_nQ hx hb d_Me_mergeAt_72 hl rfl ?_
        refine m_get hx hb hts hown hK hw ci_Me hm 1 (by decide) (wm2 61 rfl rfl) rfl d_Me_mergeAt_73 ?_
        refine x_iload_n hx hb d_Me_mergeAt_76 hl rfl ?_
        refine m_callq (k_V ⟨hx, hb, hml, hown, hts⟩ hE hA hw (c_Tr_at (pic_t hP (k := σ 1 0) (by omega)) (pic_a hP (k := σ 1 0) (by omega))) (ci_Tr).1 rfl (pic_t hP (k := σ 1 0) (by omega)) (wm2 78 rfl rfl) (wm1 212 rfl rfl) (wm1 213 rfl rfl) (wm1 6 rfl rfl) (wm1 214 rfl rfl) rfl rfl ar_Tr_at ⟨Nat.le_trans (Nat.le_of_ble_eq_true rfl) hR.1, Nat.le_trans (Nat.le_of_ble_eq_true rfl) hR.2.1⟩ rfl hl.1 rfl (Nat.le_of_ble_eq_true rfl) d_Me_mergeAt_77 ⟨Nat.le_trans (Nat.le_of_ble_eq_true rfl) hR.2.2.1, Nat.le_trans (Nat.le_of_ble_eq_true rfl) hR.2.2.2⟩) hw (mfr_in hw hA) (fun r77 M77 H locs hP77 hw => ?_)
        obtain ⟨rfl, hM77⟩ := hP77
        rw [hM77] at hw
        rw [tat_row (pic_z hP) (k := σ 1 0) (by omega), ix_n hq, nq_n hy0]
        first | refine x_astore_n hx hb d_Me_mergeAt_80 hl (Nat.le_of_ble_eq_true rfl) (lh_k (i := 2) rfl (by first | exact lk_n | exact lk_i | exact lk_r | exact lk_q | exact lk_0)) (fun ls hl => ?_) | refine x_astore_nQ hx hb d_Me_mergeAt_80 hl (Nat.le_of_ble_eq_true rfl) (lh_k (i := 2) rfl (by first | exact lk_n | exact lk_i | exact lk_r | exact lk_q | exact lk_0)) (fun ls hl => ?_)
        first | refine x_aload_n hx hb d_Me_mergeAt_81 hl rfl ?_ | refine x_aload_nQ hx hb d_Me_mergeAt_81 hl rfl ?_
        refine lv_ifnull hx hb d_Me_mergeAt_82 ?_
        first | refine x_aload_n hx hb d_Me_mergeAt_85 hl rfl ?_ | refine x_aload_nQ hx hb d_Me_mergeAt_85 hl rfl ?_
        refine lv_ifnull hx hb d_Me_mergeAt_86 ?_
        first | refine x_aload_n hx hb d_Me_mergeAt_89 hl rfl ?_ | refine x_aload_nQ hx hb d_Me_mergeAt_89 hl rfl ?_
        first | refine x_aload_n hx hb d_Me_mergeAt_90 hl rfl ?_ | refine x_aload_nQ hx hb d_Me_mergeAt_90 hl rfl ?_
        refine m_callv (k_V ⟨hx, hb, hml, hown, hts⟩ hE hA hw (c_N_follow (pic_n hP ho0 (rat_le (pic_z hP))) (pic_n hP hy0 (rat_le (pic_z hP))) (jn_ne hP ht hIX hoX hq hy0 hbX)) (ci_N).1 rfl (pic_n hP ho0 (rat_le (pic_z hP))) (wm2 97 rfl rfl) (wm2 1 rfl rfl) (wm2 2 rfl rfl) (wm1 8 rfl rfl) (wm2 3 rfl rfl) rfl rfl ar_N_follow ⟨Nat.le_trans (Nat.le_of_ble_eq_true rfl) hR.1, Nat.le_trans (Nat.le_of_ble_eq_true rfl) hR.2.1⟩ rfl hl.1 rfl (Nat.le_of_ble_eq_true rfl) d_Me_mergeAt_91 ⟨Nat.le_trans (Nat.le_of_ble_eq_true rfl) hR.2.2.1, Nat.le_trans (Nat.le_of_ble_eq_true rfl) hR.2.2.2⟩) hw (mfr_in hw hA) (fun M91 H locs hP91 hw => ?_)
        have hPj := pic_jn hP ht hyX hq ho0 hy0
        rw [← hP91] at hPj
        have hmj : M91 am = some (.inr (6, [.ref (ca (σ 3 t + 5)), .ref (ca (σ 1 0 + 5)), .ref (ca (16 + t + 5))])) := by rw [hP91]; exact av_up (av_i (ks := [6]) (pic_n hP ho0 (rat_le (pic_z hP))) (by decide)) hm (by simp [kd])
        exact x_retv hQ hx hb hr hlk hw (by omega) (by omega) d_Me_mergeAt_94 (⟨by rw [cg_2z hw2]; exact hPj, hmj⟩)
      · exact absurd h45 (by omega)
    · have h22 := of_decide_eq_true h22
      first | refine x_aload_n hx hb d_Me_mergeAt_25 hl rfl ?_ | refine x_aload_nQ hx hb d_Me_mergeAt_25 hl rfl ?_
      refine m_get hx hb hts hown hK hw ci_Me hm 2 (by decide) (wm2 62 rfl rfl) rfl d_Me_mergeAt_26 ?_
      first | refine x_aload_n hx hb d_Me_mergeAt_29 hl rfl ?_ | refine x_aload_nQ hx hb d_Me_mergeAt_29 hl rfl ?_
      refine m_get hx hb hts hown hK hw ci_Me hm 1 (by decide) (wm2 61 rfl rfl) rfl d_Me_mergeAt_30 ?_
      refine x_iload_n hx hb d_Me_mergeAt_33 hl rfl ?_
      refine m_callv (k_V ⟨hx, hb, hml, hown, hts⟩ hE hA hw (c_Tr_take hq (pic_u hP ht) (pic_a hP (k := 16 + t) (by omega)) (pic_t hP (k := σ 1 0) (by omega)) (pic_a hP (k := σ 1 0) (by omega)) (pic_ne hP (by omega) (by omega) (by omega)) (pic_row_n hP)) (ci_Tr).1 rfl (pic_u hP ht) (wm2 95 rfl rfl) (wm1 184 rfl rfl) (wm1 185 rfl rfl) (wm1 6 rfl rfl) (wm1 186 rfl rfl) rfl rfl ar_Tr_takeFrom ⟨Nat.le_trans (Nat.le_of_ble_eq_true rfl) hR.1, Nat.le_trans (Nat.le_of_ble_eq_true rfl) hR.2.1⟩ rfl hl.1 rfl (Nat.le_of_ble_eq_true rfl) d_Me_mergeAt_34 ⟨Nat.le_trans (Nat.le_of_ble_eq_true rfl) hR.2.2.1, Nat.le_trans (Nat.le_of_ble_eq_true rfl) hR.2.2.2⟩) hw (mfr_in hw hA) (fun M34 H locs hP34 hw => ?_)
      have hP1 := pic_tkn (q := q) hP ht hy
      rw [← hP34] at hP1
      have hm1 : M34 am = some (.inr (6, [.ref (ca (σ 3 t + 5)), .ref (ca (σ 1 0 + 5)), .ref (ca (16 + t + 5))])) := by rw [hP34]; exact av_up (av_l (ks := [6]) (pic_a hP (k := 16 + t) (by omega)) (by decide)) hm (by simp [kd])
      exact x_retv hQ hx hb hr hlk hw (by omega) (by omega) d_Me_mergeAt_37 (⟨by rw [cg_1 (d := 0) (by rw [hwr]; exact wyf_1 h9 h22)]; exact hP1, hm1⟩)
  · have h9 := of_decide_eq_true h9
    exact x_retv hQ hx hb hr hlk hw (by omega) (by omega) d_Me_mergeAt_12 (⟨by rw [cg_0 (d := 0) (by rw [hwr]; exact wyf_0 h9)]; exact hP, hm⟩)

set_option maxHeartbeats 1000000 in
set_option maxRecDepth 100000 in
theorem c_Me_mrg1 {l : Launch} {E : Ev} {M : mp_M} {sz : Nat} {σ : SS} {ca na ta : Nat → Nat} (hP : PIC E σ ca na ta M) {am t : Nat} (ht : t < 3) (hm : M am = some (.inr (6, [.ref (ca (σ 3 t + 5)), .ref (ca (σ 1 0 + 5)), .ref (ca (16 + t + 5))]))) {q : Nat} (hI : INV σ t) (ho : σ 2 t ≠ 0) (hg : pgb q = true) (hd : pd q = 2) (hc : cf σ t 1 q = 125) (hgd : gd σ t 1 q) : MCv l E y_Me_mergeAt prog_2_method_3_code 4 none 4 87 0 0 [.ref am, .int (nI q)] M sz (fun M' => PIC E (cg t 1 σ q) ca na ta M' ∧ M' am = some (.inr (6, [.ref (ca (σ 3 t + 5)), .ref (ca (σ 1 0 + 5)), .ref (ca (16 + t + 5))]))) := by
  refine mc_of R_Me rfl [some (.ref am), some (.int (nI q)), none, none] (by decide) (Nat.le_of_ble_eq_true rfl) rfl ?_
  intro p e R s m ag below meth c ls Q A X hAe hQ hR hsz hw hl
  rw [← hAe] at hQ
  obtain ⟨⟨hx, hb, hml, hown, hts⟩, hE, hA, hr, hlk, hnm⟩ := X
  have hK := hE.1
  obtain ⟨F, hF⟩ : ∃ F, F = cgl (cg t 0) q 4 σ := ⟨_, rfl⟩
  have hFe : wy σ t q = 2 → cg t 1 σ q = jn F t q := fun z => by rw [hF]; exact if_pos z
  have loop : ∀ (n i : Nat) (X : SS) (MX : mp_M) (H : Heap) (locs : List Loc) (ls : Array Slot), i + n = 5 → 0 < i → HY t 0 n X q → PIC E X ca na ta MX → MX am = some (.inr (6, [.ref (ca (X 3 t + 5)), .ref (ca (X 1 0 + 5)), .ref (ca (16 + t + 5))])) → X 3 t = σ 3 t → X 1 0 = σ 1 0 → rat X (16 + t) q = rat σ (16 + t) q → 128 ≤ X 12 (rat X (16 + t) q) → 0 < rat X (X 1 0) q → mw E.1 vwCl A s.heap MX H locs → lh ls [some (.ref am), some (.int (nI q)), some (.int (nI i)), none] → wy σ t q = 2 → cgl (cg t 0) q n X = F → W p l e R s m ag below meth c H locs 0 0 Q (F0 m 40 ls []) := by
    have hq := (pgb_t.mp hg).1
    intro n
    induction n with
    | zero =>
      intro i X MX H locs ls hi hi0 hH hPX hmX e3 e1 er hbX hy0 hw hl hw2 hT
      have hT : X = F := hT
      have hIX := hH.2.2.1
      have hoX := hH.2.2.2.1
      have ho0 := hH.2.2.2.2.1
      have hyX := hIX.2.1.1
      refine x_iload_n hx hb d_Me_mergeAt_40 hl rfl ?_
      refine x_iload_n hx hb d_Me_mergeAt_41 hl rfl ?_
      refine m_calli (k_S ⟨hx, hb, hml, hown, hts⟩ hE hA hw (c_P_names (by omega)) (wm2 84 rfl rfl) (wm2 85 rfl rfl) (wm1 10 rfl rfl) (wm2 86 rfl rfl) rfl rfl ar_P_namesBelow ⟨Nat.le_trans (Nat.le_of_ble_eq_true rfl) hR.1, Nat.le_trans (Nat.le_of_ble_eq_true rfl) hR.2.1⟩ rfl hl.1 rfl (Nat.le_of_ble_eq_true rfl) d_Me_mergeAt_42 ⟨Nat.le_trans (Nat.le_of_ble_eq_true rfl) hR.2.2.1, Nat.le_trans (Nat.le_of_ble_eq_true rfl) hR.2.2.2⟩) hw (mfr_in hw hA) (fun r42 M42 H locs hP42 hw => ?_)
      obtain ⟨rfl, hM42⟩ := hP42
      rw [hM42] at hw
      rw [if_pos (by omega)]
      refine x_icmp_gt hx hb d_Me_mergeAt_45 rfl (by omega) (by omega) (fun h45 => ?_) (fun h45 => ?_)
      · first | refine x_aload_n hx hb d_Me_mergeAt_63 hl rfl ?_ | refine x_aload_nQ hx hb d_Me_mergeAt_63 hl rfl ?_
        refine m_get hx hb hts hown hK hw ci_Me hmX 2 (by decide) (wm2 62 rfl rfl) rfl d_Me_mergeAt_64 ?_
        refine x_iload_n hx hb d_Me_mergeAt_67 hl rfl ?_
        refine m_callq (k_V ⟨hx, hb, hml, hown, hts⟩ hE hA hw (c_Tr_at (pic_u hPX ht) (pic_a hPX (k := 16 + t) (by omega))) (ci_Tr).1 rfl (pic_u hPX ht) (wm2 78 rfl rfl) (wm1 212 rfl rfl) (wm1 213 rfl rfl) (wm1 6 rfl rfl) (wm1 214 rfl rfl) rfl rfl ar_Tr_at ⟨Nat.le_trans (Nat.le_of_ble_eq_true rfl) hR.1, Nat.le_trans (Nat.le_of_ble_eq_true rfl) hR.2.1⟩ rfl hl.1 rfl (Nat.le_of_ble_eq_true rfl) d_Me_mergeAt_68 ⟨Nat.le_trans (Nat.le_of_ble_eq_true rfl) hR.2.2.1, Nat.le_trans (Nat.le_of_ble_eq_true rfl) hR.2.2.2⟩) hw (mfr_in hw hA) (fun r68 M68 H locs hP68 hw => ?_)
        obtain ⟨rfl, hM68⟩ := hP68
        rw [hM68] at hw
        rw [tat_row (pic_z hPX) (k := 16 + t) (by omega), ix_n hq, nq_n ho0]
        first | refine x_astore_n hx hb d_Me_mergeAt_71 hl (Nat.le_of_ble_eq_true rfl) (lh_k (i := 1) rfl (by first | exact lk_n | exact lk_i | exact lk_r | exact lk_q | exact lk_0)) (fun ls hl => ?_) | refine x_astore_nQ hx hb d_Me_mergeAt_71 hl (Nat.le_of_ble_eq_true rfl) (lh_k (i := 1) rfl (by first | exact lk_n | exact lk_i | exact lk_r | exact lk_q | exact lk_0)) (fun ls hl => ?_)
        first | refine x_aload_n hx hb d_Me_mergeAt_72 hl rfl ?_ | refine x_aload_nQ hx hb d_Me_mergeAt_72 hl rfl ?_
        refine m_get hx hb hts hown hK hw ci_Me hmX 1 (by decide) (wm2 61 rfl rfl) rfl d_Me_mergeAt_73 ?_
        refine x_iload_n hx hb d_Me_mergeAt_76 hl rfl ?_
        refine m_callq (k_V ⟨hx, hb, hml, hown, hts⟩ hE hA hw (c_Tr_at (pic_t hPX (k := X 1 0) (by omega)) (pic_a hPX (k := X 1 0) (by omega))) (ci_Tr).1 rfl (pic_t hPX (k := X 1 0) (by omega)) (wm2 78 rfl rfl) (wm1 212 rfl rfl) (wm1 213 rfl rfl) (wm1 6 rfl rfl) (wm1 214 rfl rfl) rfl rfl ar_Tr_at ⟨Nat.le_trans (Nat.le_of_ble_eq_true rfl) hR.1, Nat.le_trans (Nat.le_of_ble_eq_true rfl) hR.2.1⟩ rfl hl.1 rfl (Nat.le_of_ble_eq_true rfl) d_Me_mergeAt_77 ⟨Nat.le_trans (Nat.le_of_ble_eq_true rfl) hR.2.2.1, Nat.le_trans (Nat.le_of_ble_eq_true rfl) hR.2.2.2⟩) hw (mfr_in hw hA) (fun r77 M77 H locs hP77 hw => ?_)
        obtain ⟨rfl, hM77⟩ := hP77
        rw [hM77] at hw
        rw [tat_row (pic_z hPX) (k := X 1 0) (by omega), ix_n hq, nq_n hy0]
        first | refine x_astore_n hx hb d_Me_mergeAt_80 hl (Nat.le_of_ble_eq_true rfl) (lh_k (i := 2) rfl (by first | exact lk_n | exact lk_i | exact lk_r | exact lk_q | exact lk_0)) (fun ls hl => ?_) | refine x_astore_nQ hx hb d_Me_mergeAt_80 hl (Nat.le_of_ble_eq_true rfl) (lh_k (i := 2) rfl (by first | exact lk_n | exact lk_i | exact lk_r | exact lk_q | exact lk_0)) (fun ls hl => ?_)
        first | refine x_aload_n hx hb d_Me_mergeAt_81 hl rfl ?_ | refine x_aload_nQ hx hb d_Me_mergeAt_81 hl rfl ?_
        refine lv_ifnull hx hb d_Me_mergeAt_82 ?_
        first | refine x_aload_n hx hb d_Me_mergeAt_85 hl rfl ?_ | refine x_aload_nQ hx hb d_Me_mergeAt_85 hl rfl ?_
        refine lv_ifnull hx hb d_Me_mergeAt_86 ?_
        first | refine x_aload_n hx hb d_Me_mergeAt_89 hl rfl ?_ | refine x_aload_nQ hx hb d_Me_mergeAt_89 hl rfl ?_
        first | refine x_aload_n hx hb d_Me_mergeAt_90 hl rfl ?_ | refine x_aload_nQ hx hb d_Me_mergeAt_90 hl rfl ?_
        refine m_callv (k_V ⟨hx, hb, hml, hown, hts⟩ hE hA hw (c_N_follow (pic_n hPX ho0 (rat_le (pic_z hPX))) (pic_n hPX hy0 (rat_le (pic_z hPX))) (jn_ne hPX ht hIX hoX hq hy0 hbX)) (ci_N).1 rfl (pic_n hPX ho0 (rat_le (pic_z hPX))) (wm2 97 rfl rfl) (wm2 1 rfl rfl) (wm2 2 rfl rfl) (wm1 8 rfl rfl) (wm2 3 rfl rfl) rfl rfl ar_N_follow ⟨Nat.le_trans (Nat.le_of_ble_eq_true rfl) hR.1, Nat.le_trans (Nat.le_of_ble_eq_true rfl) hR.2.1⟩ rfl hl.1 rfl (Nat.le_of_ble_eq_true rfl) d_Me_mergeAt_91 ⟨Nat.le_trans (Nat.le_of_ble_eq_true rfl) hR.2.2.1, Nat.le_trans (Nat.le_of_ble_eq_true rfl) hR.2.2.2⟩) hw (mfr_in hw hA) (fun M91 H locs hP91 hw => ?_)
        have hPj := pic_jn hPX ht hyX hq ho0 hy0
        rw [← hP91] at hPj
        have hmj : M91 am = some (.inr (6, [.ref (ca (σ 3 t + 5)), .ref (ca (σ 1 0 + 5)), .ref (ca (16 + t + 5))])) := by rw [hP91]; exact av_up (av_i (ks := [6]) (pic_n hPX ho0 (rat_le (pic_z hPX))) (by decide)) (by rw [← e3, ← e1]; exact hmX) (by simp [kd])
        exact x_retv hQ hx hb hr hlk hw (by omega) (by omega) d_Me_mergeAt_94 (⟨by rw [hFe hw2, ← hT]; exact hPj, hmj⟩)
      · exact absurd h45 (by omega)
    | succ n ih =>
      intro i X MX H locs ls hi hi0 hH hPX hmX e3 e1 er hbX hy0 hw hl hw2 hT
      have hi5 : 5 - (n + 1) = i := by omega
      have hch := cq_all hg hi0 (by omega) (by omega)
      obtain ⟨s1, s2, -⟩ := hy_step ht (cgp_all ht 0) (by omega) hH
      rw [hi5] at s1 s2
      have hqn : pun q (cq q i) = false := pun_no hch.1 hg (by omega)
      obtain ⟨c1, c2⟩ := hH.2.2.2.2.2.2 i (by omega) (by omega)
      have hT : cgl (cg t 0) q n (cg t 0 X (cq q i)) = F := by
        rw [← hT, ← hi5]
        rfl
      refine x_iload_n hx hb d_Me_mergeAt_40 hl rfl ?_
      refine x_iload_n hx hb d_Me_mergeAt_41 hl rfl ?_
      refine m_calli (k_S ⟨hx, hb, hml, hown, hts⟩ hE hA hw (c_P_names (by omega)) (wm2 84 rfl rfl) (wm2 85 rfl rfl) (wm1 10 rfl rfl) (wm2 86 rfl rfl) rfl rfl ar_P_namesBelow ⟨Nat.le_trans (Nat.le_of_ble_eq_true rfl) hR.1, Nat.le_trans (Nat.le_of_ble_eq_true rfl) hR.2.1⟩ rfl hl.1 rfl (Nat.le_of_ble_eq_true rfl) d_Me_mergeAt_42 ⟨Nat.le_trans (Nat.le_of_ble_eq_true rfl) hR.2.2.1, Nat.le_trans (Nat.le_of_ble_eq_true rfl) hR.2.2.2⟩) hw (mfr_in hw hA) (fun r42 M42 H locs hP42 hw => ?_)
      obtain ⟨rfl, hM42⟩ := hP42
      rw [hM42] at hw
      rw [if_pos (by omega)]
      refine x_icmp_gt hx hb d_Me_mergeAt_45 rfl (by omega) (by omega) (fun h45 => ?_) (fun h45 => ?_)
      · exact absurd h45 (by omega)
      · first | refine x_aload_n hx hb d_Me_mergeAt_48 hl rfl ?_ | refine x_aload_nQ hx hb d_Me_mergeAt_48 hl rfl ?_
        refine x_iload_n hx hb d_Me_mergeAt_49 hl rfl ?_
        refine x_iload_n hx hb d_Me_mergeAt_50 hl rfl ?_
        refine m_calli (k_S ⟨hx, hb, hml, hown, hts⟩ hE hA hw (c_P_child (by omega) (by omega)) (wm2 87 rfl rfl) (wm2 88 rfl rfl) (wm1 10 rfl rfl) (wm2 89 rfl rfl) rfl rfl ar_P_childOf ⟨Nat.le_trans (Nat.le_of_ble_eq_true rfl) hR.1, Nat.le_trans (Nat.le_of_ble_eq_true rfl) hR.2.1⟩ rfl hl.1 rfl (Nat.le_of_ble_eq_true rfl) d_Me_mergeAt_51 ⟨Nat.le_trans (Nat.le_of_ble_eq_true rfl) hR.2.2.1, Nat.le_trans (Nat.le_of_ble_eq_true rfl) hR.2.2.2⟩) hw (mfr_in hw hA) (fun r51 M51 H locs hP51 hw => ?_)
        obtain ⟨rfl, hM51⟩ := hP51
        rw [hM51] at hw
        refine m_callv (k_V ⟨hx, hb, hml, hown, hts⟩ hE hA hw (c_Me_mrg0 hPX ht hmX (q := cq q i) hH.2.2.1 hH.2.2.2.1 hch.1 (by have := hch.2.1; omega) c1 c2) (ci_Me).1 rfl hmX (wm2 96 rfl rfl) (wm2 93 rfl rfl) (wmp1 6 rfl) (wm1 12 rfl rfl) (wm2 94 rfl rfl) rfl rfl ar_Me_mergeAt ⟨Nat.le_trans (Nat.le_of_ble_eq_true rfl) hR.1, Nat.le_trans (Nat.le_of_ble_eq_true rfl) hR.2.1⟩ rfl hl.1 rfl (Nat.le_of_ble_eq_true rfl) d_Me_mergeAt_54 ⟨Nat.le_trans (Nat.le_of_ble_eq_true rfl) hR.2.2.1, Nat.le_trans (Nat.le_of_ble_eq_true rfl) hR.2.2.2⟩) hw (mfr_in hw hA) (fun M54 H locs hP54 hw => ?_)
        obtain ⟨hPY, hmY⟩ := hP54
        have f3 := s2.2.2 3 (by decide) (by decide) (by decide)
        have f1 := s2.2.2 1 (by decide) (by decide) (by decide)
        have f12 := s2.2.2 12 (by decide) (by decide) (by decide)
        have hrq := OUT_rat s2 hqn
        have hy9 := hH.2.2.1.2.1.1
        have hry : rat (cg t 0 X (cq q i)) (X 1 0) q = rat X (X 1 0) q := rat_c (fun j hj => s2.2.1 _ (by omega)) q
        refine x_iincN hx hb d_Me_mergeAt_57 hl rfl (lh_k (i := 1) rfl (by first | exact lk_n | exact lk_i | exact lk_r | exact lk_q | exact lk_0)) (fun ls hl => ?_)
        refine lv_goto hx hb d_Me_mergeAt_60 rfl ?_
        exact ih (i + 1) (cg t 0 X (cq q i)) _ H locs ls (by omega) (by omega) s1 hPY (by rw [f3, f1]; exact hmY) (by rw [f3]; exact e3) (by rw [f1]; exact e1) (hrq.trans er) (by rw [hrq, f12]; exact hbX) (by rw [f1, hry]; exact hy0) hw hl hw2 hT
  have hy := hI.2.1.1
  have hb3 : σ 3 t ≤ 15 := Nat.le_trans (hI.2.1.2.1 t ht) hy
  have hq := (pgb_t.mp hg).1
  have hwr := wy_rat (pic_z hP) ht hy hb3 hq
  have hw3 := cf_3 hq hc
  first | refine x_aload_n hx hb d_Me_mergeAt_0 hl rfl ?_ | refine x_aload_nQ hx hb d_Me_mergeAt_0 hl rfl ?_
  first | refine x_aload_n hx hb d_Me_mergeAt_1 hl rfl ?_ | refine x_aload_nQ hx hb d_Me_mergeAt_1 hl rfl ?_
  refine m_get hx hb hts hown hK hw ci_Me hm 1 (by decide) (wm2 61 rfl rfl) rfl d_Me_mergeAt_2 ?_
  refine x_iload_n hx hb d_Me_mergeAt_5 hl rfl ?_
  refine m_calli (k_V ⟨hx, hb, hml, hown, hts⟩ hE hA hw (c_Me_unch hP ht hm hy hb3 (k := σ 1 0) (by omega) hq) (ci_Me).1 rfl hm (wm2 74 rfl rfl) (wm2 76 rfl rfl) (wmp1 4 rfl) (wm1 12 rfl rfl) (wm2 77 rfl rfl) rfl rfl ar_Me_isUnchangedIn ⟨Nat.le_trans (Nat.le_of_ble_eq_true rfl) hR.1, Nat.le_trans (Nat.le_of_ble_eq_true rfl) hR.2.1⟩ rfl hl.1 rfl (Nat.le_of_ble_eq_true rfl) d_Me_mergeAt_6 ⟨Nat.le_trans (Nat.le_of_ble_eq_true rfl) hR.2.2.1, Nat.le_trans (Nat.le_of_ble_eq_true rfl) hR.2.2.2⟩) hw (mfr_in hw hA) (fun r6 M6 H locs hP6 hw => ?_)
  obtain ⟨rfl, hM6⟩ := hP6
  rw [hM6] at hw
  refine x_if_eqB hx hb d_Me_mergeAt_9 rfl (fun h9 => ?_) (fun h9 => ?_)
  · have h9 := of_decide_eq_false h9
    first | refine x_aload_n hx hb d_Me_mergeAt_13 hl rfl ?_ | refine x_aload_nQ hx hb d_Me_mergeAt_13 hl rfl ?_
    first | refine x_aload_n hx hb d_Me_mergeAt_14 hl rfl ?_ | refine x_aload_nQ hx hb d_Me_mergeAt_14 hl rfl ?_
    refine m_get hx hb hts hown hK hw ci_Me hm 2 (by decide) (wm2 62 rfl rfl) rfl d_Me_mergeAt_15 ?_
    refine x_iload_n hx hb d_Me_mergeAt_18 hl rfl ?_
    refine m_calli (k_V ⟨hx, hb, hml, hown, hts⟩ hE hA hw (c_Me_unch hP ht hm hy hb3 (k := 16 + t) (by omega) hq) (ci_Me).1 rfl hm (wm2 74 rfl rfl) (wm2 76 rfl rfl) (wmp1 4 rfl) (wm1 12 rfl rfl) (wm2 77 rfl rfl) rfl rfl ar_Me_isUnchangedIn ⟨Nat.le_trans (Nat.le_of_ble_eq_true rfl) hR.1, Nat.le_trans (Nat.le_of_ble_eq_true rfl) hR.2.1⟩ rfl hl.1 rfl (Nat.le_of_ble_eq_true rfl) d_Me_mergeAt_19 ⟨Nat.le_trans (Nat.le_of_ble_eq_true rfl) hR.2.2.1, Nat.le_trans (Nat.le_of_ble_eq_true rfl) hR.2.2.2⟩) hw (mfr_in hw hA) (fun r19 M19 H locs hP19 hw => ?_)
    obtain ⟨rfl, hM19⟩ := hP19
    rw [hM19] at hw
    refine x_if_eqB hx hb d_Me_mergeAt_22 rfl (fun h22 => ?_) (fun h22 => ?_)
    · have h22 := of_decide_eq_false h22
      have hw2 : wy σ t q = 2 := wy_not hwr hw3 h9 h22
      refine lv_iconst (v := nI 1) hx hb d_Me_mergeAt_38 (by decide) ?_
      refine x_istore_n hx hb d_Me_mergeAt_39 hl (Nat.le_of_ble_eq_true rfl) (lh_k (i := 1) rfl (by first | exact lk_n | exact lk_i | exact lk_r | exact lk_q | exact lk_0)) (fun ls hl => ?_)
      have w9 := wy_2r hP ht hy hb3 hq hw2
      exact loop 4 1 σ M _ _ _ rfl (by decide) (hy_of ht hI ho hg (by omega) hc hgd hw2) hP hm rfl rfl rfl (hgd hw2).1 w9.2 hw hl hw2 hF.symm
    · have h22 := of_decide_eq_true h22
      first | refine x_aload_n hx hb d_Me_mergeAt_25 hl rfl ?_ | refine x_aload_nQ hx hb d_Me_mergeAt_25 hl rfl ?_
      refine m_get hx hb hts hown hK hw ci_Me hm 2 (by decide) (wm2 62 rfl rfl) rfl d_Me_mergeAt_26 ?_
      first | refine x_aload_n hx hb d_Me_mergeAt_29 hl rfl ?_ | refine x_aload_nQ hx hb d_Me_mergeAt_29 hl rfl ?_
      refine m_get hx hb hts hown hK hw ci_Me hm 1 (by decide) (wm2 61 rfl rfl) rfl d_Me_mergeAt_30 ?_
      refine x_iload_n hx hb d_Me_mergeAt_33 hl rfl ?_
      refine m_callv (k_V ⟨hx, hb, hml, hown, hts⟩ hE hA hw (c_Tr_take hq (pic_u hP ht) (pic_a hP (k := 16 + t) (by omega)) (pic_t hP (k := σ 1 0) (by omega)) (pic_a hP (k := σ 1 0) (by omega)) (pic_ne hP (by omega) (by omega) (by omega)) (pic_row_n hP)) (ci_Tr).1 rfl (pic_u hP ht) (wm2 95 rfl rfl) (wm1 184 rfl rfl) (wm1 185 rfl rfl) (wm1 6 rfl rfl) (wm1 186 rfl rfl) rfl rfl ar_Tr_takeFrom ⟨Nat.le_trans (Nat.le_of_ble_eq_true rfl) hR.1, Nat.le_trans (Nat.le_of_ble_eq_true rfl) hR.2.1⟩ rfl hl.1 rfl (Nat.le_of_ble_eq_true rfl) d_Me_mergeAt_34 ⟨Nat.le_trans (Nat.le_of_ble_eq_true rfl) hR.2.2.1, Nat.le_trans (Nat.le_of_ble_eq_true rfl) hR.2.2.2⟩) hw (mfr_in hw hA) (fun M34 H locs hP34 hw => ?_)
      have hP1 := pic_tkn (q := q) hP ht hy
      rw [← hP34] at hP1
      have hm1 : M34 am = some (.inr (6, [.ref (ca (σ 3 t + 5)), .ref (ca (σ 1 0 + 5)), .ref (ca (16 + t + 5))])) := by rw [hP34]; exact av_up (av_l (ks := [6]) (pic_a hP (k := 16 + t) (by omega)) (by decide)) hm (by simp [kd])
      exact x_retv hQ hx hb hr hlk hw (by omega) (by omega) d_Me_mergeAt_37 (⟨by rw [cg_1 (d := 1) (by rw [hwr]; exact wyf_1 h9 h22)]; exact hP1, hm1⟩)
  · have h9 := of_decide_eq_true h9
    exact x_retv hQ hx hb hr hlk hw (by omega) (by omega) d_Me_mergeAt_12 (⟨by rw [cg_0 (d := 1) (by rw [hwr]; exact wyf_0 h9)]; exact hP, hm⟩)

set_option maxHeartbeats 1000000 in
set_option maxRecDepth 100000 in
theorem c_Me_mrg2 {l : Launch} {E : Ev} {M : mp_M} {sz : Nat} {σ : SS} {ca na ta : Nat → Nat} (hP : PIC E σ ca na ta M) {am t : Nat} (ht : t < 3) (hm : M am = some (.inr (6, [.ref (ca (σ 3 t + 5)), .ref (ca (σ 1 0 + 5)), .ref (ca (16 + t + 5))]))) {q : Nat} (hI : INV σ t) (ho : σ 2 t ≠ 0) (hg : pgb q = true) (hd : pd q = 1) (hc : cf σ t 2 q = 125) (hgd : gd σ t 2 q) : MCv l E y_Me_mergeAt prog_2_method_3_code 4 none 5 110 0 0 [.ref am, .int (nI q)] M sz (fun M' => PIC E (cg t 2 σ q) ca na ta M' ∧ M' am = some (.inr (6, [.ref (ca (σ 3 t + 5)), .ref (ca (σ 1 0 + 5)), .ref (ca (16 + t + 5))]))) := by
  refine mc_of R_Me rfl [some (.ref am), some (.int (nI q)), none, none] (by decide) (Nat.le_of_ble_eq_true rfl) rfl ?_
  intro p e R s m ag below meth c ls Q A X hAe hQ hR hsz hw hl
  rw [← hAe] at hQ
  obtain ⟨⟨hx, hb, hml, hown, hts⟩, hE, hA, hr, hlk, hnm⟩ := X
  have hK := hE.1
  obtain ⟨F, hF⟩ : ∃ F, F = cgl (cg t 1) q 4 σ := ⟨_, rfl⟩
  have hFe : wy σ t q = 2 → cg t 2 σ q = jn F t q := fun z => by rw [hF]; exact if_pos z
  have loop : ∀ (n i : Nat) (X : SS) (MX : mp_M) (H : Heap) (locs : List Loc) (ls : Array Slot), i + n = 5 → 0 < i → HY t 1 n X q → PIC E X ca na ta MX → MX am = some (.inr (6, [.ref (ca (X 3 t + 5)), .ref (ca (X 1 0 + 5)), .ref (ca (16 + t + 5))])) → X 3 t = σ 3 t → X 1 0 = σ 1 0 → rat X (16 + t) q = rat σ (16 + t) q → 128 ≤ X 12 (rat X (16 + t) q) → 0 < rat X (X 1 0) q → mw E.1 vwCl A s.heap MX H locs → lh ls [some (.ref am), some (.int (nI q)), some (.int (nI i)), none] → wy σ t q = 2 → cgl (cg t 1) q n X = F → W p l e R s m ag below meth c H locs 0 0 Q (F0 m 40 ls []) := by
    have hq := (pgb_t.mp hg).1
    intro n
    induction n with
    | zero =>
      intro i X MX H locs ls hi hi0 hH hPX hmX e3 e1 er hbX hy0 hw hl hw2 hT
      have hT : X = F := hT
      have hIX := hH.2.2.1
      have hoX := hH.2.2.2.1
      have ho0 := hH.2.2.2.2.1
      have hyX := hIX.2.1.1
      refine x_iload_n hx hb d_Me_mergeAt_40 hl rfl ?_
      refine x_iload_n hx hb d_Me_mergeAt_41 hl rfl ?_
      refine m_calli (k_S ⟨hx, hb, hml, hown, hts⟩ hE hA hw (c_P_names (by omega)) (wm2 84 rfl rfl) (wm2 85 rfl rfl) (wm1 10 rfl rfl) (wm2 86 rfl rfl) rfl rfl ar_P_namesBelow ⟨Nat.le_trans (Nat.le_of_ble_eq_true rfl) hR.1, Nat.le_trans (Nat.le_of_ble_eq_true rfl) hR.2.1⟩ rfl hl.1 rfl (Nat.le_of_ble_eq_true rfl) d_Me_mergeAt_42 ⟨Nat.le_trans (Nat.le_of_ble_eq_true rfl) hR.2.2.1, Nat.le_trans (Nat.le_of_ble_eq_true rfl) hR.2.2.2⟩) hw (mfr_in hw hA) (fun r42 M42 H locs hP42 hw => ?_)
      obtain ⟨rfl, hM42⟩ := hP42
      rw [hM42] at hw
      rw [if_pos (by omega)]
      refine x_icmp_gt hx hb d_Me_mergeAt_45 rfl (by omega) (by omega) (fun h45 => ?_) (fun h45 => ?_)
      · first | refine x_aload_n hx hb d_Me_mergeAt_63 hl rfl ?_ | refine x_aload_nQ hx hb d_Me_mergeAt_63 hl rfl ?_
        refine m_get hx hb hts hown hK hw ci_Me hmX 2 (by decide) (wm2 62 rfl rfl) rfl d_Me_mergeAt_64 ?_
        refine x_iload_n hx hb d_Me_mergeAt_67 hl rfl ?_
        refine m_callq (k_V ⟨hx, hb, hml, hown, hts⟩ hE hA hw (c_Tr_at (pic_u hPX ht) (pic_a hPX (k := 16 + t) (by omega))) (ci_Tr).1 rfl (pic_u hPX ht) (wm2 78 rfl rfl) (wm1 212 rfl rfl) (wm1 213 rfl rfl) (wm1 6 rfl rfl) (wm1 214 rfl rfl) rfl rfl ar_Tr_at ⟨Nat.le_trans (Nat.le_of_ble_eq_true rfl) hR.1, Nat.le_trans (Nat.le_of_ble_eq_true rfl) hR.2.1⟩ rfl hl.1 rfl (Nat.le_of_ble_eq_true rfl) d_Me_mergeAt_68 ⟨Nat.le_trans (Nat.le_of_ble_eq_true rfl) hR.2.2.1, Nat.le_trans (Nat.le_of_ble_eq_true rfl) hR.2.2.2⟩) hw (mfr_in hw hA) (fun r68 M68 H locs hP68 hw => ?_)
        obtain ⟨rfl, hM68⟩ := hP68
        rw [hM68] at hw
        rw [tat_row (pic_z hPX) (k := 16 + t) (by omega), ix_n hq, nq_n ho0]
        first | refine x_astore_n hx hb d_Me_mergeAt_71 hl (Nat.le_of_ble_eq_true rfl) (lh_k (i := 1) rfl (by first | exact lk_n | exact lk_i | exact lk_r | exact lk_q | exact lk_0)) (fun ls hl => ?_) | refine x_astore_nQ hx hb d_Me_mergeAt_71 hl (Nat.le_of_ble_eq_true rfl) (lh_k (i := 1) rfl (by first | exact lk_n | exact lk_i | exact lk_r | exact lk_q | exact lk_0)) (fun ls hl => ?_)
        first | refine x_aload_n hx hb d_Me_mergeAt_72 hl rfl ?_ | refine x_aload_nQ hx hb d_Me_mergeAt_72 hl rfl ?_
        refine m_get hx hb hts hown hK hw ci_Me hmX 1 (by decide) (wm2 61 rfl rfl) rfl d_Me_mergeAt_73 ?_
        refine x_iload_n hx hb d_Me_mergeAt_76 hl rfl ?_
        refine m_callq (k_V ⟨hx, hb, hml, hown, hts⟩ hE hA hw (c_Tr_at (pic_t hPX (k := X 1 0) (by omega)) (pic_a hPX (k := X 1 0) (by omega))) (ci_Tr).1 rfl (pic_t hPX (k := X 1 0) (by omega)) (wm2 78 rfl rfl) (wm1 212 rfl rfl) (wm1 213 rfl rfl) (wm1 6 rfl rfl) (wm1 214 rfl rfl) rfl rfl ar_Tr_at ⟨Nat.le_trans (Nat.le_of_ble_eq_true rfl) hR.1, Nat.le_trans (Nat.le_of_ble_eq_true rfl) hR.2.1⟩ rfl hl.1 rfl (Nat.le_of_ble_eq_true rfl) d_Me_mergeAt_77 ⟨Nat.le_trans (Nat.le_of_ble_eq_true rfl) hR.2.2.1, Nat.le_trans (Nat.le_of_ble_eq_true rfl) hR.2.2.2⟩) hw (mfr_in hw hA) (fun r77 M77 H locs hP77 hw => ?_)
        obtain ⟨rfl, hM77⟩ := hP77
        rw [hM77] at hw
        rw [tat_row (pic_z hPX) (k := X 1 0) (by omega), ix_n hq, nq_n hy0]
        first | refine x_astore_n hx hb d_Me_mergeAt_80 hl (Nat.le_of_ble_eq_true rfl) (lh_k (i := 2) rfl (by first | exact lk_n | exact lk_i | exact lk_r | exact lk_q | exact lk_0)) (fun ls hl => ?_) | refine x_astore_nQ hx hb d_Me_mergeAt_80 hl (Nat.le_of_ble_eq_true rfl) (lh_k (i := 2) rfl (by first | exact lk_n | exact lk_i | exact lk_r | exact lk_q | exact lk_0)) (fun ls hl => ?_)
        first | refine x_aload_n hx hb d_Me_mergeAt_81 hl rfl ?_ | refine x_aload_nQ hx hb d_Me_mergeAt_81 hl rfl ?_
        refine lv_ifnull hx hb d_Me_mergeAt_82 ?_
        first | refine x_aload_n hx hb d_Me_mergeAt_85 hl rfl ?_ | refine x_aload_nQ hx hb d_Me_mergeAt_85 hl rfl ?_
        refine lv_ifnull hx hb d_Me_mergeAt_86 ?_
        first | refine x_aload_n hx hb d_Me_mergeAt_89 hl rfl ?_ | refine x_aload_nQ hx hb d_Me_mergeAt_89 hl rfl ?_
        first | refine x_aload_n hx hb d_Me_mergeAt_90 hl rfl ?_ | refine x_aload_nQ hx hb d_Me_mergeAt_90 hl rfl ?_
        refine m_callv (k_V ⟨hx, hb, hml, hown, hts⟩ hE hA hw (c_N_follow (pic_n hPX ho0 (rat_le (pic_z hPX))) (pic_n hPX hy0 (rat_le (pic_z hPX))) (jn_ne hPX ht hIX hoX hq hy0 hbX)) (ci_N).1 rfl (pic_n hPX ho0 (rat_le (pic_z hPX))) (wm2 97 rfl rfl) (wm2 1 rfl rfl) (wm2 2 rfl rfl) (wm1 8 rfl rfl) (wm2 3 rfl rfl) rfl rfl ar_N_follow ⟨Nat.le_trans (Nat.le_of_ble_eq_true rfl) hR.1, Nat.le_trans (Nat.le_of_ble_eq_true rfl) hR.2.1⟩ rfl hl.1 rfl (Nat.le_of_ble_eq_true rfl) d_Me_mergeAt_91 ⟨Nat.le_trans (Nat.le_of_ble_eq_true rfl) hR.2.2.1, Nat.le_trans (Nat.le_of_ble_eq_true rfl) hR.2.2.2⟩) hw (mfr_in hw hA) (fun M91 H locs hP91 hw => ?_)
        have hPj := pic_jn hPX ht hyX hq ho0 hy0
        rw [← hP91] at hPj
        have hmj : M91 am = some (.inr (6, [.ref (ca (σ 3 t + 5)), .ref (ca (σ 1 0 + 5)), .ref (ca (16 + t + 5))])) := by rw [hP91]; exact av_up (av_i (ks := [6]) (pic_n hPX ho0 (rat_le (pic_z hPX))) (by decide)) (by rw [← e3, ← e1]; exact hmX) (by simp [kd])
        exact x_retv hQ hx hb hr hlk hw (by omega) (by omega) d_Me_mergeAt_94 (⟨by rw [hFe hw2, ← hT]; exact hPj, hmj⟩)
      · exact absurd h45 (by omega)
    | succ n ih =>
      intro i X MX H locs ls hi hi0 hH hPX hmX e3 e1 er hbX hy0 hw hl hw2 hT
      have hi5 : 5 - (n + 1) = i := by omega
      have hch := cq_all hg hi0 (by omega) (by omega)
      obtain ⟨s1, s2, -⟩ := hy_step ht (cgp_all ht 1) (by omega) hH
      rw [hi5] at s1 s2
      have hqn : pun q (cq q i) = false := pun_no hch.1 hg (by omega)
      obtain ⟨c1, c2⟩ := hH.2.2.2.2.2.2 i (by omega) (by omega)
      have hT : cgl (cg t 1) q n (cg t 1 X (cq q i)) = F := by
        rw [← hT, ← hi5]
        rfl
      refine x_iload_n hx hb d_Me_mergeAt_40 hl rfl ?_
      refine x_iload_n hx hb d_Me_mergeAt_41 hl rfl ?_
      refine m_calli (k_S ⟨hx, hb, hml, hown, hts⟩ hE hA hw (c_P_names (by omega)) (wm2 84 rfl rfl) (wm2 85 rfl rfl) (wm1 10 rfl rfl) (wm2 86 rfl rfl) rfl rfl ar_P_namesBelow ⟨Nat.le_trans (Nat.le_of_ble_eq_true rfl) hR.1, Nat.le_trans (Nat.le_of_ble_eq_true rfl) hR.2.1⟩ rfl hl.1 rfl (Nat.le_of_ble_eq_true rfl) d_Me_mergeAt_42 ⟨Nat.le_trans (Nat.le_of_ble_eq_true rfl) hR.2.2.1, Nat.le_trans (Nat.le_of_ble_eq_true rfl) hR.2.2.2⟩) hw (mfr_in hw hA) (fun r42 M42 H locs hP42 hw => ?_)
      obtain ⟨rfl, hM42⟩ := hP42
      rw [hM42] at hw
      rw [if_pos (by omega)]
      refine x_icmp_gt hx hb d_Me_mergeAt_45 rfl (by omega) (by omega) (fun h45 => ?_) (fun h45 => ?_)
      · exact absurd h45 (by omega)
      · first | refine x_aload_n hx hb d_Me_mergeAt_48 hl rfl ?_ | refine x_aload_nQ hx hb d_Me_mergeAt_48 hl rfl ?_
        refine x_iload_n hx hb d_Me_mergeAt_49 hl rfl ?_
        refine x_iload_n hx hb d_Me_mergeAt_50 hl rfl ?_
        refine m_calli (k_S ⟨hx, hb, hml, hown, hts⟩ hE hA hw (c_P_child (by omega) (by omega)) (wm2 87 rfl rfl) (wm2 88 rfl rfl) (wm1 10 rfl rfl) (wm2 89 rfl rfl) rfl rfl ar_P_childOf ⟨Nat.le_trans (Nat.le_of_ble_eq_true rfl) hR.1, Nat.le_trans (Nat.le_of_ble_eq_true rfl) hR.2.1⟩ rfl hl.1 rfl (Nat.le_of_ble_eq_true rfl) d_Me_mergeAt_51 ⟨Nat.le_trans (Nat.le_of_ble_eq_true rfl) hR.2.2.1, Nat.le_trans (Nat.le_of_ble_eq_true rfl) hR.2.2.2⟩) hw (mfr_in hw hA) (fun r51 M51 H locs hP51 hw => ?_)
        obtain ⟨rfl, hM51⟩ := hP51
        rw [hM51] at hw
        refine m_callv (k_V ⟨hx, hb, hml, hown, hts⟩ hE hA hw (c_Me_mrg1 hPX ht hmX (q := cq q i) hH.2.2.1 hH.2.2.2.1 hch.1 (by have := hch.2.1; omega) c1 c2) (ci_Me).1 rfl hmX (wm2 96 rfl rfl) (wm2 93 rfl rfl) (wmp1 6 rfl) (wm1 12 rfl rfl) (wm2 94 rfl rfl) rfl rfl ar_Me_mergeAt ⟨Nat.le_trans (Nat.le_of_ble_eq_true rfl) hR.1, Nat.le_trans (Nat.le_of_ble_eq_true rfl) hR.2.1⟩ rfl hl.1 rfl (Nat.le_of_ble_eq_true rfl) d_Me_mergeAt_54 ⟨Nat.le_trans (Nat.le_of_ble_eq_true rfl) hR.2.2.1, Nat.le_trans (Nat.le_of_ble_eq_true rfl) hR.2.2.2⟩) hw (mfr_in hw hA) (fun M54 H locs hP54 hw => ?_)
        obtain ⟨hPY, hmY⟩ := hP54
        have f3 := s2.2.2 3 (by decide) (by decide) (by decide)
        have f1 := s2.2.2 1 (by decide) (by decide) (by decide)
        have f12 := s2.2.2 12 (by decide) (by decide) (by decide)
        have hrq := OUT_rat s2 hqn
        have hy9 := hH.2.2.1.2.1.1
        have hry : rat (cg t 1 X (cq q i)) (X 1 0) q = rat X (X 1 0) q := rat_c (fun j hj => s2.2.1 _ (by omega)) q
        refine x_iincN hx hb d_Me_mergeAt_57 hl rfl (lh_k (i := 1) rfl (by first | exact lk_n | exact lk_i | exact lk_r | exact lk_q | exact lk_0)) (fun ls hl => ?_)
        refine lv_goto hx hb d_Me_mergeAt_60 rfl ?_
        exact ih (i + 1) (cg t 1 X (cq q i)) _ H locs ls (by omega) (by omega) s1 hPY (by rw [f3, f1]; exact hmY) (by rw [f3]; exact e3) (by rw [f1]; exact e1) (hrq.trans er) (by rw [hrq, f12]; exact hbX) (by rw [f1, hry]; exact hy0) hw hl hw2 hT
  have hy := hI.2.1.1
  have hb3 : σ 3 t ≤ 15 := Nat.le_trans (hI.2.1.2.1 t ht) hy
  have hq := (pgb_t.mp hg).1
  have hwr := wy_rat (pic_z hP) ht hy hb3 hq
  have hw3 := cf_3 hq hc
  first | refine x_aload_n hx hb d_Me_mergeAt_0 hl rfl ?_ | refine x_aload_nQ hx hb d_Me_mergeAt_0 hl rfl ?_
  first | refine x_aload_n hx hb d_Me_mergeAt_1 hl rfl ?_ | refine x_aload_nQ hx hb d_Me_mergeAt_1 hl rfl ?_
  refine m_get hx hb hts hown hK hw ci_Me hm 1 (by decide) (wm2 61 rfl rfl) rfl d_Me_mergeAt_2 ?_
  refine x_iload_n hx hb d_Me_mergeAt_5 hl rfl ?_
  refine m_calli (k_V ⟨hx, hb, hml, hown, hts⟩ hE hA hw (c_Me_unch hP ht hm hy hb3 (k := σ 1 0) (by omega) hq) (ci_Me).1 rfl hm (wm2 74 rfl rfl) (wm2 76 rfl rfl) (wmp1 4 rfl) (wm1 12 rfl rfl) (wm2 77 rfl rfl) rfl rfl ar_Me_isUnchangedIn ⟨Nat.le_trans (Nat.le_of_ble_eq_true rfl) hR.1, Nat.le_trans (Nat.le_of_ble_eq_true rfl) hR.2.1⟩ rfl hl.1 rfl (Nat.le_of_ble_eq_true rfl) d_Me_mergeAt_6 ⟨Nat.le_trans (Nat.le_of_ble_eq_true rfl) hR.2.2.1, Nat.le_trans (Nat.le_of_ble_eq_true rfl) hR.2.2.2⟩) hw (mfr_in hw hA) (fun r6 M6 H locs hP6 hw => ?_)
  obtain ⟨rfl, hM6⟩ := hP6
  rw [hM6] at hw
  refine x_if_eqB hx hb d_Me_mergeAt_9 rfl (fun h9 => ?_) (fun h9 => ?_)
  · have h9 := of_decide_eq_false h9
    first | refine x_aload_n hx hb d_Me_mergeAt_13 hl rfl ?_ | refine x_aload_nQ hx hb d_Me_mergeAt_13 hl rfl ?_
    first | refine x_aload_n hx hb d_Me_mergeAt_14 hl rfl ?_ | refine x_aload_nQ hx hb d_Me_mergeAt_14 hl rfl ?_
    refine m_get hx hb hts hown hK hw ci_Me hm 2 (by decide) (wm2 62 rfl rfl) rfl d_Me_mergeAt_15 ?_
    refine x_iload_n hx hb d_Me_mergeAt_18 hl rfl ?_
    refine m_calli (k_V ⟨hx, hb, hml, hown, hts⟩ hE hA hw (c_Me_unch hP ht hm hy hb3 (k := 16 + t) (by omega) hq) (ci_Me).1 rfl hm (wm2 74 rfl rfl) (wm2 76 rfl rfl) (wmp1 4 rfl) (wm1 12 rfl rfl) (wm2 77 rfl rfl) rfl rfl ar_Me_isUnchangedIn ⟨Nat.le_trans (Nat.le_of_ble_eq_true rfl) hR.1, Nat.le_trans (Nat.le_of_ble_eq_true rfl) hR.2.1⟩ rfl hl.1 rfl (Nat.le_of_ble_eq_true rfl) d_Me_mergeAt_19 ⟨Nat.le_trans (Nat.le_of_ble_eq_true rfl) hR.2.2.1, Nat.le_trans (Nat.le_of_ble_eq_true rfl) hR.2.2.2⟩) hw (mfr_in hw hA) (fun r19 M19 H locs hP19 hw => ?_)
    obtain ⟨rfl, hM19⟩ := hP19
    rw [hM19] at hw
    refine x_if_eqB hx hb d_Me_mergeAt_22 rfl (fun h22 => ?_) (fun h22 => ?_)
    · have h22 := of_decide_eq_false h22
      have hw2 : wy σ t q = 2 := wy_not hwr hw3 h9 h22
      refine lv_iconst (v := nI 1) hx hb d_Me_mergeAt_38 (by decide) ?_
      refine x_istore_n hx hb d_Me_mergeAt_39 hl (Nat.le_of_ble_eq_true rfl) (lh_k (i := 1) rfl (by first | exact lk_n | exact lk_i | exact lk_r | exact lk_q | exact lk_0)) (fun ls hl => ?_)
      have w9 := wy_2r hP ht hy hb3 hq hw2
      exact loop 4 1 σ M _ _ _ rfl (by decide) (hy_of ht hI ho hg (by omega) hc hgd hw2) hP hm rfl rfl rfl (hgd hw2).1 w9.2 hw hl hw2 hF.symm
    · have h22 := of_decide_eq_true h22
      first | refine x_aload_n hx hb d_Me_mergeAt_25 hl rfl ?_ | refine x_aload_nQ hx hb d_Me_mergeAt_25 hl rfl ?_
      refine m_get hx hb hts hown hK hw ci_Me hm 2 (by decide) (wm2 62 rfl rfl) rfl d_Me_mergeAt_26 ?_
      first | refine x_aload_n hx hb d_Me_mergeAt_29 hl rfl ?_ | refine x_aload_nQ hx hb d_Me_mergeAt_29 hl rfl ?_
      refine m_get hx hb hts hown hK hw ci_Me hm 1 (by decide) (wm2 61 rfl rfl) rfl d_Me_mergeAt_30 ?_
      refine x_iload_n hx hb d_Me_mergeAt_33 hl rfl ?_
      refine m_callv (k_V ⟨hx, hb, hml, hown, hts⟩ hE hA hw (c_Tr_take hq (pic_u hP ht) (pic_a hP (k := 16 + t) (by omega)) (pic_t hP (k := σ 1 0) (by omega)) (pic_a hP (k := σ 1 0) (by omega)) (pic_ne hP (by omega) (by omega) (by omega)) (pic_row_n hP)) (ci_Tr).1 rfl (pic_u hP ht) (wm2 95 rfl rfl) (wm1 184 rfl rfl) (wm1 185 rfl rfl) (wm1 6 rfl rfl) (wm1 186 rfl rfl) rfl rfl ar_Tr_takeFrom ⟨Nat.le_trans (Nat.le_of_ble_eq_true rfl) hR.1, Nat.le_trans (Nat.le_of_ble_eq_true rfl) hR.2.1⟩ rfl hl.1 rfl (Nat.le_of_ble_eq_true rfl) d_Me_mergeAt_34 ⟨Nat.le_trans (Nat.le_of_ble_eq_true rfl) hR.2.2.1, Nat.le_trans (Nat.le_of_ble_eq_true rfl) hR.2.2.2⟩) hw (mfr_in hw hA) (fun M34 H locs hP34 hw => ?_)
      have hP1 := pic_tkn (q := q) hP ht hy
      rw [← hP34] at hP1
      have hm1 : M34 am = some (.inr (6, [.ref (ca (σ 3 t + 5)), .ref (ca (σ 1 0 + 5)), .ref (ca (16 + t + 5))])) := by rw [hP34]; exact av_up (av_l (ks := [6]) (pic_a hP (k := 16 + t) (by omega)) (by decide)) hm (by simp [kd])
      exact x_retv hQ hx hb hr hlk hw (by omega) (by omega) d_Me_mergeAt_37 (⟨by rw [cg_1 (d := 2) (by rw [hwr]; exact wyf_1 h9 h22)]; exact hP1, hm1⟩)
  · have h9 := of_decide_eq_true h9
    exact x_retv hQ hx hb hr hlk hw (by omega) (by omega) d_Me_mergeAt_12 (⟨by rw [cg_0 (d := 2) (by rw [hwr]; exact wyf_0 h9)]; exact hP, hm⟩)

set_option maxHeartbeats 1000000 in
set_option maxRecDepth 100000 in
theorem c_Me_mrg3 {l : Launch} {E : Ev} {M : mp_M} {sz : Nat} {σ : SS} {ca na ta : Nat → Nat} (hP : PIC E σ ca na ta M) {am t : Nat} (ht : t < 3) (hm : M am = some (.inr (6, [.ref (ca (σ 3 t + 5)), .ref (ca (σ 1 0 + 5)), .ref (ca (16 + t + 5))]))) {q : Nat} (hI : INV σ t) (ho : σ 2 t ≠ 0) (hg : pgb q = true) (hd : pd q = 0) (hc : cf σ t 3 q = 125) (hgd : gd σ t 3 q) : MCv l E y_Me_mergeAt prog_2_method_3_code 4 none 6 133 0 0 [.ref am, .int (nI q)] M sz (fun M' => PIC E (cg t 3 σ q) ca na ta M' ∧ M' am = some (.inr (6, [.ref (ca (σ 3 t + 5)), .ref (ca (σ 1 0 + 5)), .ref (ca (16 + t + 5))]))) := by
  refine mc_of R_Me rfl [some (.ref am), some (.int (nI q)), none, none] (by decide) (Nat.le_of_ble_eq_true rfl) rfl ?_
  intro p e R s m ag below meth c ls Q A X hAe hQ hR hsz hw hl
  rw [← hAe] at hQ
  obtain ⟨⟨hx, hb, hml, hown, hts⟩, hE, hA, hr, hlk, hnm⟩ := X
  have hK := hE.1
  obtain ⟨F, hF⟩ : ∃ F, F = cgl (cg t 2) q 4 σ := ⟨_, rfl⟩
  have hFe : wy σ t q = 2 → cg t 3 σ q = jn F t q := fun z => by rw [hF]; exact if_pos z
  have loop : ∀ (n i : Nat) (X : SS) (MX : mp_M) (H : Heap) (locs : List Loc) (ls : Array Slot), i + n = 5 → 0 < i → HY t 2 n X q → PIC E X ca na ta MX → MX am = some (.inr (6, [.ref (ca (X 3 t + 5)), .ref (ca (X 1 0 + 5)), .ref (ca (16 + t + 5))])) → X 3 t = σ 3 t → X 1 0 = σ 1 0 → rat X (16 + t) q = rat σ (16 + t) q → 128 ≤ X 12 (rat X (16 + t) q) → 0 < rat X (X 1 0) q → mw E.1 vwCl A s.heap MX H locs → lh ls [some (.ref am), some (.int (nI q)), some (.int (nI i)), none] → wy σ t q = 2 → cgl (cg t 2) q n X = F → W p l e R s m ag below meth c H locs 0 0 Q (F0 m 40 ls []) := by
    have hq := (pgb_t.mp hg).1
    intro n
    induction n with
    | zero =>
      intro i X MX H locs ls hi hi0 hH hPX hmX e3 e1 er hbX hy0 hw hl hw2 hT
      have hT : X = F := hT
      have hIX := hH.2.2.1
      have hoX := hH.2.2.2.1
      have ho0 := hH.2.2.2.2.1
      have hyX := hIX.2.1.1
      refine x_iload_n hx hb d_Me_mergeAt_40 hl rfl ?_
      refine x_iload_n hx hb d_Me_mergeAt_41 hl rfl ?_
      refine m_calli (k_S ⟨hx, hb, hml, hown, hts⟩ hE hA hw (c_P_names (by omega)) (wm2 84 rfl rfl) (wm2 85 rfl rfl) (wm1 10 rfl rfl) (wm2 86 rfl rfl) rfl rfl ar_P_namesBelow ⟨Nat.le_trans (Nat.le_of_ble_eq_true rfl) hR.1, Nat.le_trans (Nat.le_of_ble_eq_true rfl) hR.2.1⟩ rfl hl.1 rfl (Nat.le_of_ble_eq_true rfl) d_Me_mergeAt_42 ⟨Nat.le_trans (Nat.le_of_ble_eq_true rfl) hR.2.2.1, Nat.le_trans (Nat.le_of_ble_eq_true rfl) hR.2.2.2⟩) hw (mfr_in hw hA) (fun r42 M42 H locs hP42 hw => ?_)
      obtain ⟨rfl, hM42⟩ := hP42
      rw [hM42] at hw
      rw [if_pos (by omega)]
      refine x_icmp_gt hx hb d_Me_mergeAt_45 rfl (by omega) (by omega) (fun h45 => ?_) (fun h45 => ?_)
      · first | refine x_aload_n hx hb d_Me_mergeAt_63 hl rfl ?_ | refine x_aload_nQ hx hb d_Me_mergeAt_63 hl rfl ?_
        refine m_get hx hb hts hown hK hw ci_Me hmX 2 (by decide) (wm2 62 rfl rfl) rfl d_Me_mergeAt_64 ?_
        refine x_iload_n hx hb d_Me_mergeAt_67 hl rfl ?_
        refine m_callq (k_V ⟨hx, hb, hml, hown, hts⟩ hE hA hw (c_Tr_at (pic_u hPX ht) (pic_a hPX (k := 16 + t) (by omega))) (ci_Tr).1 rfl (pic_u hPX ht) (wm2 78 rfl rfl) (wm1 212 rfl rfl) (wm1 213 rfl rfl) (wm1 6 rfl rfl) (wm1 214 rfl rfl) rfl rfl ar_Tr_at ⟨Nat.le_trans (Nat.le_of_ble_eq_true rfl) hR.1, Nat.le_trans (Nat.le_of_ble_eq_true rfl) hR.2.1⟩ rfl hl.1 rfl (Nat.le_of_ble_eq_true rfl) d_Me_mergeAt_68 ⟨Nat.le_trans (Nat.le_of_ble_eq_true rfl) hR.2.2.1, Nat.le_trans (Nat.le_of_ble_eq_true rfl) hR.2.2.2⟩) hw (mfr_in hw hA) (fun r68 M68 H locs hP68 hw => ?_)
        obtain ⟨rfl, hM68⟩ := hP68
        rw [hM68] at hw
        rw [tat_row (pic_z hPX) (k := 16 + t) (by omega), ix_n hq, nq_n ho0]
        first | refine x_astore_n hx hb d_Me_mergeAt_71 hl (Nat.le_of_ble_eq_true rfl) (lh_k (i := 1) rfl (by first | exact lk_n | exact lk_i | exact lk_r | exact lk_q | exact lk_0)) (fun ls hl => ?_) | refine x_astore_nQ hx hb d_Me_mergeAt_71 hl (Nat.le_of_ble_eq_true rfl) (lh_k (i := 1) rfl (by first | exact lk_n | exact lk_i | exact lk_r | exact lk_q | exact lk_0)) (fun ls hl => ?_)
        first | refine x_aload_n hx hb d_Me_mergeAt_72 hl rfl ?_ | refine x_aload_nQ hx hb d_Me_mergeAt_72 hl rfl ?_
        refine m_get hx hb hts hown hK hw ci_Me hmX 1 (by decide) (wm2 61 rfl rfl) rfl d_Me_mergeAt_73 ?_
        refine x_iload_n hx hb d_Me_mergeAt_76 hl rfl ?_
        refine m_callq (k_V ⟨hx, hb, hml, hown, hts⟩ hE hA hw (c_Tr_at (pic_t hPX (k := X 1 0) (by omega)) (pic_a hPX (k := X 1 0) (by omega))) (ci_Tr).1 rfl (pic_t hPX (k := X 1 0) (by omega)) (wm2 78 rfl rfl) (wm1 212 rfl rfl) (wm1 213 rfl rfl) (wm1 6 rfl rfl) (wm1 214 rfl rfl) rfl rfl ar_Tr_at ⟨Nat.le_trans (Nat.le_of_ble_eq_true rfl) hR.1, Nat.le_trans (Nat.le_of_ble_eq_true rfl) hR.2.1⟩ rfl hl.1 rfl (Nat.le_of_ble_eq_true rfl) d_Me_mergeAt_77 ⟨Nat.le_trans (Nat.le_of_ble_eq_true rfl) hR.2.2.1, Nat.le_trans (Nat.le_of_ble_eq_true rfl) hR.2.2.2⟩) hw (mfr_in hw hA) (fun r77 M77 H locs hP77 hw => ?_)
        obtain ⟨rfl, hM77⟩ := hP77
        rw [hM77] at hw
        rw [tat_row (pic_z hPX) (k := X 1 0) (by omega), ix_n hq, nq_n hy0]
        first | refine x_astore_n hx hb d_Me_mergeAt_80 hl (Nat.le_of_ble_eq_true rfl) (lh_k (i := 2) rfl (by first | exact lk_n | exact lk_i | exact lk_r | exact lk_q | exact lk_0)) (fun ls hl => ?_) | refine x_astore_nQ hx hb d_Me_mergeAt_80 hl (Nat.le_of_ble_eq_true rfl) (lh_k (i := 2) rfl (by first | exact lk_n | exact lk_i | exact lk_r | exact lk_q | exact lk_0)) (fun ls hl => ?_)
        first | refine x_aload_n hx hb d_Me_mergeAt_81 hl rfl ?_ | refine x_aload_nQ hx hb d_Me_mergeAt_81 hl rfl ?_
        refine lv_ifnull hx hb d_Me_mergeAt_82 ?_
        first | refine x_aload_n hx hb d_Me_mergeAt_85 hl rfl ?_ | refine x_aload_nQ hx hb d_Me_mergeAt_85 hl rfl ?_
        refine lv_ifnull hx hb d_Me_mergeAt_86 ?_
        first | refine x_aload_n hx hb d_Me_mergeAt_89 hl rfl ?_ | refine x_aload_nQ hx hb d_Me_mergeAt_89 hl rfl ?_
        first | refine x_aload_n hx hb d_Me_mergeAt_90 hl rfl ?_ | refine x_aload_nQ hx hb d_Me_mergeAt_90 hl rfl ?_
        refine m_callv (k_V ⟨hx, hb, hml, hown, hts⟩ hE hA hw (c_N_follow (pic_n hPX ho0 (rat_le (pic_z hPX))) (pic_n hPX hy0 (rat_le (pic_z hPX))) (jn_ne hPX ht hIX hoX hq hy0 hbX)) (ci_N).1 rfl (pic_n hPX ho0 (rat_le (pic_z hPX))) (wm2 97 rfl rfl) (wm2 1 rfl rfl) (wm2 2 rfl rfl) (wm1 8 rfl rfl) (wm2 3 rfl rfl) rfl rfl ar_N_follow ⟨Nat.le_trans (Nat.le_of_ble_eq_true rfl) hR.1, Nat.le_trans (Nat.le_of_ble_eq_true rfl) hR.2.1⟩ rfl hl.1 rfl (Nat.le_of_ble_eq_true rfl) d_Me_mergeAt_91 ⟨Nat.le_trans (Nat.le_of_ble_eq_true rfl) hR.2.2.1, Nat.le_trans (Nat.le_of_ble_eq_true rfl) hR.2.2.2⟩) hw (mfr_in hw hA) (fun M91 H locs hP91 hw => ?_)
        have hPj := pic_jn hPX ht hyX hq ho0 hy0
        rw [← hP91] at hPj
        have hmj : M91 am = some (.inr (6, [.ref (ca (σ 3 t + 5)), .ref (ca (σ 1 0 + 5)), .ref (ca (16 + t + 5))])) := by rw [hP91]; exact av_up (av_i (ks := [6]) (pic_n hPX ho0 (rat_le (pic_z hPX))) (by decide)) (by rw [← e3, ← e1]; exact hmX) (by simp [kd])
        exact x_retv hQ hx hb hr hlk hw (by omega) (by omega) d_Me_mergeAt_94 (⟨by rw [hFe hw2, ← hT]; exact hPj, hmj⟩)
      · exact absurd h45 (by omega)
    | succ n ih =>
      intro i X MX H locs ls hi hi0 hH hPX hmX e3 e1 er hbX hy0 hw hl hw2 hT
      have hi5 : 5 - (n + 1) = i := by omega
      have hch := cq_all hg hi0 (by omega) (by omega)
      obtain ⟨s1, s2, -⟩ := hy_step ht (cgp_all ht 2) (by omega) hH
      rw [hi5] at s1 s2
      have hqn : pun q (cq q i) = false := pun_no hch.1 hg (by omega)
      obtain ⟨c1, c2⟩ := hH.2.2.2.2.2.2 i (by omega) (by omega)
      have hT : cgl (cg t 2) q n (cg t 2 X (cq q i)) = F := by
        rw [← hT, ← hi5]
        rfl
      refine x_iload_n hx hb d_Me_mergeAt_40 hl rfl ?_
      refine x_iload_n hx hb d_Me_mergeAt_41 hl rfl ?_
      refine m_calli (k_S ⟨hx, hb, hml, hown, hts⟩ hE hA hw (c_P_names (by omega)) (wm2 84 rfl rfl) (wm2 85 rfl rfl) (wm1 10 rfl rfl) (wm2 86 rfl rfl) rfl rfl ar_P_namesBelow ⟨Nat.le_trans (Nat.le_of_ble_eq_true rfl) hR.1, Nat.le_trans (Nat.le_of_ble_eq_true rfl) hR.2.1⟩ rfl hl.1 rfl (Nat.le_of_ble_eq_true rfl) d_Me_mergeAt_42 ⟨Nat.le_trans (Nat.le_of_ble_eq_true rfl) hR.2.2.1, Nat.le_trans (Nat.le_of_ble_eq_true rfl) hR.2.2.2⟩) hw (mfr_in hw hA) (fun r42 M42 H locs hP42 hw => ?_)
      obtain ⟨rfl, hM42⟩ := hP42
      rw [hM42] at hw
      rw [if_pos (by omega)]
      refine x_icmp_gt hx hb d_Me_mergeAt_45 rfl (by omega) (by omega) (fun h45 => ?_) (fun h45 => ?_)
      · exact absurd h45 (by omega)
      · first | refine x_aload_n hx hb d_Me_mergeAt_48 hl rfl ?_ | refine x_aload_nQ hx hb d_Me_mergeAt_48 hl rfl ?_
        refine x_iload_n hx hb d_Me_mergeAt_49 hl rfl ?_
        refine x_iload_n hx hb d_Me_mergeAt_50 hl rfl ?_
        refine m_calli (k_S ⟨hx, hb, hml, hown, hts⟩ hE hA hw (c_P_child (by omega) (by omega)) (wm2 87 rfl rfl) (wm2 88 rfl rfl) (wm1 10 rfl rfl) (wm2 89 rfl rfl) rfl rfl ar_P_childOf ⟨Nat.le_trans (Nat.le_of_ble_eq_true rfl) hR.1, Nat.le_trans (Nat.le_of_ble_eq_true rfl) hR.2.1⟩ rfl hl.1 rfl (Nat.le_of_ble_eq_true rfl) d_Me_mergeAt_51 ⟨Nat.le_trans (Nat.le_of_ble_eq_true rfl) hR.2.2.1, Nat.le_trans (Nat.le_of_ble_eq_true rfl) hR.2.2.2⟩) hw (mfr_in hw hA) (fun r51 M51 H locs hP51 hw => ?_)
        obtain ⟨rfl, hM51⟩ := hP51
        rw [hM51] at hw
        refine m_callv (k_V ⟨hx, hb, hml, hown, hts⟩ hE hA hw (c_Me_mrg2 hPX ht hmX (q := cq q i) hH.2.2.1 hH.2.2.2.1 hch.1 (by have := hch.2.1; omega) c1 c2) (ci_Me).1 rfl hmX (wm2 96 rfl rfl) (wm2 93 rfl rfl) (wmp1 6 rfl) (wm1 12 rfl rfl) (wm2 94 rfl rfl) rfl rfl ar_Me_mergeAt ⟨Nat.le_trans (Nat.le_of_ble_eq_true rfl) hR.1, Nat.le_trans (Nat.le_of_ble_eq_true rfl) hR.2.1⟩ rfl hl.1 rfl (Nat.le_of_ble_eq_true rfl) d_Me_mergeAt_54 ⟨Nat.le_trans (Nat.le_of_ble_eq_true rfl) hR.2.2.1, Nat.le_trans (Nat.le_of_ble_eq_true rfl) hR.2.2.2⟩) hw (mfr_in hw hA) (fun M54 H locs hP54 hw => ?_)
        obtain ⟨hPY, hmY⟩ := hP54
        have f3 := s2.2.2 3 (by decide) (by decide) (by decide)
        have f1 := s2.2.2 1 (by decide) (by decide) (by decide)
        have f12 := s2.2.2 12 (by decide) (by decide) (by decide)
        have hrq := OUT_rat s2 hqn
        have hy9 := hH.2.2.1.2.1.1
        have hry : rat (cg t 2 X (cq q i)) (X 1 0) q = rat X (X 1 0) q := rat_c (fun j hj => s2.2.1 _ (by omega)) q
        refine x_iincN hx hb d_Me_mergeAt_57 hl rfl (lh_k (i := 1) rfl (by first | exact lk_n | exact lk_i | exact lk_r | exact lk_q | exact lk_0)) (fun ls hl => ?_)
        refine lv_goto hx hb d_Me_mergeAt_60 rfl ?_
        exact ih (i + 1) (cg t 2 X (cq q i)) _ H locs ls (by omega) (by omega) s1 hPY (by rw [f3, f1]; exact hmY) (by rw [f3]; exact e3) (by rw [f1]; exact e1) (hrq.trans er) (by rw [hrq, f12]; exact hbX) (by rw [f1, hry]; exact hy0) hw hl hw2 hT
  have hy := hI.2.1.1
  have hb3 : σ 3 t ≤ 15 := Nat.le_trans (hI.2.1.2.1 t ht) hy
  have hq := (pgb_t.mp hg).1
  have hwr := wy_rat (pic_z hP) ht hy hb3 hq
  have hw3 := cf_3 hq hc
  first | refine x_aload_n hx hb d_Me_mergeAt_0 hl rfl ?_ | refine x_aload_nQ hx hb d_Me_mergeAt_0 hl rfl ?_
  first | refine x_aload_n hx hb d_Me_mergeAt_1 hl rfl ?_ | refine x_aload_nQ hx hb d_Me_mergeAt_1 hl rfl ?_
  refine m_get hx hb hts hown hK hw ci_Me hm 1 (by decide) (wm2 61 rfl rfl) rfl d_Me_mergeAt_2 ?_
  refine x_iload_n hx hb d_Me_mergeAt_5 hl rfl ?_
  refine m_calli (k_V ⟨hx, hb, hml, hown, hts⟩ hE hA hw (c_Me_unch hP ht hm hy hb3 (k := σ 1 0) (by omega) hq) (ci_Me).1 rfl hm (wm2 74 rfl rfl) (wm2 76 rfl rfl) (wmp1 4 rfl) (wm1 12 rfl rfl) (wm2 77 rfl rfl) rfl rfl ar_Me_isUnchangedIn ⟨Nat.le_trans (Nat.le_of_ble_eq_true rfl) hR.1, Nat.le_trans (Nat.le_of_ble_eq_true rfl) hR.2.1⟩ rfl hl.1 rfl (Nat.le_of_ble_eq_true rfl) d_Me_mergeAt_6 ⟨Nat.le_trans (Nat.le_of_ble_eq_true rfl) hR.2.2.1, Nat.le_trans (Nat.le_of_ble_eq_true rfl) hR.2.2.2⟩) hw (mfr_in hw hA) (fun r6 M6 H locs hP6 hw => ?_)
  obtain ⟨rfl, hM6⟩ := hP6
  rw [hM6] at hw
  refine x_if_eqB hx hb d_Me_mergeAt_9 rfl (fun h9 => ?_) (fun h9 => ?_)
  · have h9 := of_decide_eq_false h9
    first | refine x_aload_n hx hb d_Me_mergeAt_13 hl rfl ?_ | refine x_aload_nQ hx hb d_Me_mergeAt_13 hl rfl ?_
    first | refine x_aload_n hx hb d_Me_mergeAt_14 hl rfl ?_ | refine x_aload_nQ hx hb d_Me_mergeAt_14 hl rfl ?_
    refine m_get hx hb hts hown hK hw ci_Me hm 2 (by decide) (wm2 62 rfl rfl) rfl d_Me_mergeAt_15 ?_
    refine x_iload_n hx hb d_Me_mergeAt_18 hl rfl ?_
    refine m_calli (k_V ⟨hx, hb, hml, hown, hts⟩ hE hA hw (c_Me_unch hP ht hm hy hb3 (k := 16 + t) (by omega) hq) (ci_Me).1 rfl hm (wm2 74 rfl rfl) (wm2 76 rfl rfl) (wmp1 4 rfl) (wm1 12 rfl rfl) (wm2 77 rfl rfl) rfl rfl ar_Me_isUnchangedIn ⟨Nat.le_trans (Nat.le_of_ble_eq_true rfl) hR.1, Nat.le_trans (Nat.le_of_ble_eq_true rfl) hR.2.1⟩ rfl hl.1 rfl (Nat.le_of_ble_eq_true rfl) d_Me_mergeAt_19 ⟨Nat.le_trans (Nat.le_of_ble_eq_true rfl) hR.2.2.1, Nat.le_trans (Nat.le_of_ble_eq_true rfl) hR.2.2.2⟩) hw (mfr_in hw hA) (fun r19 M19 H locs hP19 hw => ?_)
    obtain ⟨rfl, hM19⟩ := hP19
    rw [hM19] at hw
    refine x_if_eqB hx hb d_Me_mergeAt_22 rfl (fun h22 => ?_) (fun h22 => ?_)
    · have h22 := of_decide_eq_false h22
      have hw2 : wy σ t q = 2 := wy_not hwr hw3 h9 h22
      refine lv_iconst (v := nI 1) hx hb d_Me_mergeAt_38 (by decide) ?_
      refine x_istore_n hx hb d_Me_mergeAt_39 hl (Nat.le_of_ble_eq_true rfl) (lh_k (i := 1) rfl (by first | exact lk_n | exact lk_i | exact lk_r | exact lk_q | exact lk_0)) (fun ls hl => ?_)
      have w9 := wy_2r hP ht hy hb3 hq hw2
      exact loop 4 1 σ M _ _ _ rfl (by decide) (hy_of ht hI ho hg (by omega) hc hgd hw2) hP hm rfl rfl rfl (hgd hw2).1 w9.2 hw hl hw2 hF.symm
    · have h22 := of_decide_eq_true h22
      first | refine x_aload_n hx hb d_Me_mergeAt_25 hl rfl ?_ | refine x_aload_nQ hx hb d_Me_mergeAt_25 hl rfl ?_
      refine m_get hx hb hts hown hK hw ci_Me hm 2 (by decide) (wm2 62 rfl rfl) rfl d_Me_mergeAt_26 ?_
      first | refine x_aload_n hx hb d_Me_mergeAt_29 hl rfl ?_ | refine x_aload_nQ hx hb d_Me_mergeAt_29 hl rfl ?_
      refine m_get hx hb hts hown hK hw ci_Me hm 1 (by decide) (wm2 61 rfl rfl) rfl d_Me_mergeAt_30 ?_
      refine x_iload_n hx hb d_Me_mergeAt_33 hl rfl ?_
      refine m_callv (k_V ⟨hx, hb, hml, hown, hts⟩ hE hA hw (c_Tr_take hq (pic_u hP ht) (pic_a hP (k := 16 + t) (by omega)) (pic_t hP (k := σ 1 0) (by omega)) (pic_a hP (k := σ 1 0) (by omega)) (pic_ne hP (by omega) (by omega) (by omega)) (pic_row_n hP)) (ci_Tr).1 rfl (pic_u hP ht) (wm2 95 rfl rfl) (wm1 184 rfl rfl) (wm1 185 rfl rfl) (wm1 6 rfl rfl) (wm1 186 rfl rfl) rfl rfl ar_Tr_takeFrom ⟨Nat.le_trans (Nat.le_of_ble_eq_true rfl) hR.1, Nat.le_trans (Nat.le_of_ble_eq_true rfl) hR.2.1⟩ rfl hl.1 rfl (Nat.le_of_ble_eq_true rfl) d_Me_mergeAt_34 ⟨Nat.le_trans (Nat.le_of_ble_eq_true rfl) hR.2.2.1, Nat.le_trans (Nat.le_of_ble_eq_true rfl) hR.2.2.2⟩) hw (mfr_in hw hA) (fun M34 H locs hP34 hw => ?_)
      have hP1 := pic_tkn (q := q) hP ht hy
      rw [← hP34] at hP1
      have hm1 : M34 am = some (.inr (6, [.ref (ca (σ 3 t + 5)), .ref (ca (σ 1 0 + 5)), .ref (ca (16 + t + 5))])) := by rw [hP34]; exact av_up (av_l (ks := [6]) (pic_a hP (k := 16 + t) (by omega)) (by decide)) hm (by simp [kd])
      exact x_retv hQ hx hb hr hlk hw (by omega) (by omega) d_Me_mergeAt_37 (⟨by rw [cg_1 (d := 3) (by rw [hwr]; exact wyf_1 h9 h22)]; exact hP1, hm1⟩)
  · have h9 := of_decide_eq_true h9
    exact x_retv hQ hx hb hr hlk hw (by omega) (by omega) d_Me_mergeAt_12 (⟨by rw [cg_0 (d := 3) (by rw [hwr]; exact wyf_0 h9)]; exact hP, hm⟩)
