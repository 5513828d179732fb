/-! quotients compared with themselves -/
theorem ord_self {d : FP.Core.Datum} (h : d ≠ .nan) : FP.Core.order d d = some .eq := by
  cases d with
  | nan => exact absurd rfl h
  | inf s => simp [FP.Core.order]
  | fin s c q => simp [FP.Core.order]
theorem dec_nn64 {n : Nat} (h : n ≤ 9218868437227405312) : FP.Core.decode FP.Core.b64 n ≠ .nan := by
  have e1 : FP.Core.Fmt.tails FP.Core.b64 = 4503599627370496 := rfl
  have e2 : FP.Core.Fmt.exps FP.Core.b64 = 2048 := rfl
  unfold FP.Core.decode FP.Core.fieldE FP.Core.fieldT
  rw [e1, e2]
  split
  · rw [if_pos (by omega)]
    exact fun h => by cases h
  · split <;> exact fun h => by cases h
theorem cmp_self64 {v : UInt64} (h : v.toNat ≤ 9218868437227405312) : Op.cmpValue (FP.dcmp v v) CmpOp.l = 0 := by
  unfold FP.dcmp FP.Core.dcmp FP.Core.cmp
  rw [ord_self (dec_nn64 h)]
  rfl
theorem dns_le {f : Nat → Int32} {n : Nat} (h0 : 1 ≤ n) (hn : n ≤ 32) : (FP.ddiv (FP.i2d (onesF f n)) (FP.i2d (nI n * nI n))).toNat ≤ 9218868437227405312 := by
  rw [onesF_n]
  have h := quo64 (d_num (onesN f n) (by have := onesN_le f n; omega)) (d_den n (by omega) (by omega))
  show (UInt64.ofNat (FP.Core.encode FP.Core.b64 (FP.Core.quotient FP.Core.b64 _ _))).toNat ≤ 9218868437227405312
  rw [UInt64.toNat_ofNat']
  exact Nat.le_trans (Nat.mod_le _ _) h
theorem mrc_le {f : Nat → Int32} {n : Nat} (h0 : 1 ≤ n) (hn : n ≤ 32) : (FP.fdiv (FP.i2f (onesF f n)) (FP.i2f (nI n))).toNat ≤ 2139095040 := by
  rw [onesF_n]
  have h := quo32 (f_num (onesN f n) (by have := onesN_le f n; omega)) (f_den n (by omega) (by omega))
  show (UInt32.ofNat (FP.Core.encode FP.Core.b32 (FP.Core.quotient FP.Core.b32 _ _))).toNat ≤ 2139095040
  rw [UInt32.toNat_ofNat']
  exact Nat.le_trans (Nat.mod_le _ _) h
theorem rnd_64 {d : FP.Core.Datum} (h : d = .inf false ∨ ∃ c q, d = .fin false c q) : FP.Core.encode FP.Core.b64 (FP.Core.round FP.Core.b64 d) ≤ 9218868437227405312 := by
  rcases h with rfl | ⟨c, q, rfl⟩
  · decide +kernel
  · show FP.Core.encode _ (FP.Core.roundRatio FP.Core.b64 false c 1 q) ≤ _
    unfold FP.Core.roundRatio
    by_cases hc : c = 0
    · rw [if_pos hc]; decide +kernel
    · rw [if_neg hc]
      exact enc64 _ _ (Int.le_max_left ..)
theorem dec_32 {n : Nat} (h : n ≤ 2139095040) : FP.Core.decode FP.Core.b32 n = .inf false ∨ ∃ c q, FP.Core.decode FP.Core.b32 n = .fin false c q := by
  have e1 : FP.Core.Fmt.tails FP.Core.b32 = 8388608 := rfl
  have e2 : FP.Core.Fmt.exps FP.Core.b32 = 256 := rfl
  have e3 : FP.Core.fieldS FP.Core.b32 n = false := by
    unfold FP.Core.fieldS
    rw [e1, e2]
    have h9 : n / 8388608 / 256 % 2 = 0 := by omega
    rw [h9]
    rfl
  unfold FP.Core.decode
  rw [e3]
  unfold FP.Core.fieldE FP.Core.fieldT
  rw [e1, e2]
  split
  · rw [if_pos (by omega)]
    exact Or.inl rfl
  · split
    · exact Or.inr ⟨_, _, rfl⟩
    · exact Or.inr ⟨_, _, rfl⟩
theorem f2d_le {v : UInt32} (h : v.toNat ≤ 2139095040) : (FP.f2d v).toNat ≤ 9218868437227405312 := by
  have hn : ¬ FP.Core.fIsNaN v = true := by
    unfold FP.Core.fIsNaN FP.Core.isNaN
    rw [decide_eq_true_eq]
    intro q
    rcases dec_32 h with e | ⟨c, q9, e⟩
    · rw [e] at q; cases q
    · rw [e] at q; cases q
  unfold FP.f2d
  rw [if_neg hn]
  show (UInt64.ofNat (FP.Core.encode FP.Core.b64 (FP.Core.round FP.Core.b64 (FP.Core.decode FP.Core.b32 v.toNat)))).toNat ≤ 9218868437227405312
  rw [UInt64.toNat_ofNat']
  exact Nat.le_trans (Nat.mod_le _ _) (rnd_64 (dec_32 h))
theorem n64_le {v : UInt64} (h : v.toNat ≤ 9218868437227405312) : vf_n64 v := by
  unfold vf_n64
  rw [UInt64.le_iff_toNat_le, UInt64.toNat_and]
  exact Nat.le_trans Nat.and_le_left h
