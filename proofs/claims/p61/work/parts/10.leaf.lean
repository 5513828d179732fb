/-! leaves: the class's static methods, Integer.bitCount, Math -/
section
variable {l : Launch} {M : Mem}
theorem s_hasOne {x : Int32} {c : Nat} (hc : c < 32) : EvR l jX6_hasOne 0 0 0 0 [.int x, .int (nI c)] M (.inl (some (.int (b1 (hb x c))))) M := by
  refine ev_intro rfl (nb rfl) rfl ?_
  refine g_iload_n (pc := 0) dX6_hasOne_0 rfl ?_
  refine g_iload_n (pc := 1) dX6_hasOne_1 rfl ?_
  refine g_iushr (pc := 2) dX6_hasOne_2 rfl ?_
  refine g_iconst (pc := 3) (v := 1) dX6_hasOne_3 rfl ?_
  refine g_iand (pc := 4) dX6_hasOne_4 ?_
  rw [bit32 x hc]
  refine g_if_eq (pc := 5) (tgt := 12) dX6_hasOne_5 rfl (fun h5 => ?_) (fun h5 => ?_)
  · rw [b1_0] at h5
    rw [h5]
    refine g_iconst (pc := 12) (v := 0) dX6_hasOne_12 rfl ?_
    refine g_ireturn (pc := 13) dX6_hasOne_13 rfl rfl ?_
    exact ⟨rfl, rfl⟩
  · rw [b1_0, Bool.not_eq_false] at h5
    rw [h5]
    refine g_iconst (pc := 8) (v := 1) dX6_hasOne_8 rfl ?_
    refine g_goto (pc := 9) (tgt := 13) dX6_hasOne_9 rfl ?_
    refine g_ireturn (pc := 13) dX6_hasOne_13 rfl rfl ?_
    exact ⟨rfl, rfl⟩
/-- shift to the right without sign -/
def us (x k : Int32) : Int32 := (x.toUInt32 >>> (k.toUInt32 &&& Int32.toUInt32 31)).toInt32
def bcJ (x : Int32) : Int32 :=
  let a := x - (us x 1 &&& 1431655765)
  let b := (a &&& 858993459) + (us a 2 &&& 858993459)
  let c := (b + us b 4) &&& 252645135
  let d := c + us c 8
  let e := d + us d 16
  e &&& 63
theorem s_bitCount {x : Int32} : EvR l jJ6_bitCount_0f7a4 0 0 0 0 [.int x] M (.inl (some (.int (bcJ x)))) M := by
  refine ev_intro rfl (nb rfl) rfl ?_
  refine g_iload_n (pc := 0) dJ6_bitCount_0f7a4_0 rfl ?_
  refine g_iload_n (pc := 1) dJ6_bitCount_0f7a4_1 rfl ?_
  refine g_iconst (pc := 2) (v := 1) dJ6_bitCount_0f7a4_2 rfl ?_
  refine g_iushr (pc := 3) dJ6_bitCount_0f7a4_3 rfl ?_
  refine g_ldcw (pc := 4) dJ6_bitCount_0f7a4_4 wd_684 ?_
  refine g_iand (pc := 7) dJ6_bitCount_0f7a4_7 ?_
  refine g_isub (pc := 8) dJ6_bitCount_0f7a4_8 ?_
  refine g_istore_n (pc := 9) (lv' := [(0, _)]) dJ6_bitCount_0f7a4_9 (nl rfl) rfl ?_
  refine g_iload_n (pc := 10) dJ6_bitCount_0f7a4_10 rfl ?_
  refine g_ldcw (pc := 11) dJ6_bitCount_0f7a4_11 wd_685 ?_
  refine g_iand (pc := 14) dJ6_bitCount_0f7a4_14 ?_
  refine g_iload_n (pc := 15) dJ6_bitCount_0f7a4_15 rfl ?_
  refine g_iconst (pc := 16) (v := 2) dJ6_bitCount_0f7a4_16 rfl ?_
  refine g_iushr (pc := 17) dJ6_bitCount_0f7a4_17 rfl ?_
  refine g_ldcw (pc := 18) dJ6_bitCount_0f7a4_18 wd_685 ?_
  refine g_iand (pc := 21) dJ6_bitCount_0f7a4_21 ?_
  refine g_iadd (pc := 22) dJ6_bitCount_0f7a4_22 ?_
  refine g_istore_n (pc := 23) (lv' := [(0, _)]) dJ6_bitCount_0f7a4_23 (nl rfl) rfl ?_
  refine g_iload_n (pc := 24) dJ6_bitCount_0f7a4_24 rfl ?_
  refine g_iload_n (pc := 25) dJ6_bitCount_0f7a4_25 rfl ?_
  refine g_iconst (pc := 26) (v := 4) dJ6_bitCount_0f7a4_26 rfl ?_
  refine g_iushr (pc := 27) dJ6_bitCount_0f7a4_27 rfl ?_
  refine g_iadd (pc := 28) dJ6_bitCount_0f7a4_28 ?_
  refine g_ldcw (pc := 29) dJ6_bitCount_0f7a4_29 wd_686 ?_
  refine g_iand (pc := 32) dJ6_bitCount_0f7a4_32 ?_
  refine g_istore_n (pc := 33) (lv' := [(0, _)]) dJ6_bitCount_0f7a4_33 (nl rfl) rfl ?_
  refine g_iload_n (pc := 34) dJ6_bitCount_0f7a4_34 rfl ?_
  refine g_iload_n (pc := 35) dJ6_bitCount_0f7a4_35 rfl ?_
  refine g_bipush (pc := 36) (v := 8) dJ6_bitCount_0f7a4_36 rfl ?_
  refine g_iushr (pc := 38) dJ6_bitCount_0f7a4_38 rfl ?_
  refine g_iadd (pc := 39) dJ6_bitCount_0f7a4_39 ?_
  refine g_istore_n (pc := 40) (lv' := [(0, _)]) dJ6_bitCount_0f7a4_40 (nl rfl) rfl ?_
  refine g_iload_n (pc := 41) dJ6_bitCount_0f7a4_41 rfl ?_
  refine g_iload_n (pc := 42) dJ6_bitCount_0f7a4_42 rfl ?_
  refine g_bipush (pc := 43) (v := 16) dJ6_bitCount_0f7a4_43 rfl ?_
  refine g_iushr (pc := 45) dJ6_bitCount_0f7a4_45 rfl ?_
  refine g_iadd (pc := 46) dJ6_bitCount_0f7a4_46 ?_
  refine g_istore_n (pc := 47) (lv' := [(0, _)]) dJ6_bitCount_0f7a4_47 (nl rfl) rfl ?_
  refine g_iload_n (pc := 48) dJ6_bitCount_0f7a4_48 rfl ?_
  refine g_bipush (pc := 49) (v := 63) dJ6_bitCount_0f7a4_49 rfl ?_
  refine g_iand (pc := 51) dJ6_bitCount_0f7a4_51 ?_
  refine g_ireturn (pc := 52) dJ6_bitCount_0f7a4_52 rfl rfl ?_
  exact ⟨rfl, rfl⟩
def colOf (f : Nat → Int32) (c : Nat) : Nat → Int32
  | 0 => 0
  | i + 1 => colOf f c i ||| b1 (hb (f i) c) <<< (nI i &&& 31)
theorem s_columnOf {r c n : Nat} (hk : (mK M)[r]? = some (kI 32)) (hc : c < 32) (hn : n ≤ 32) : EvR l jX6_columnOf 0 0 0 0 [.ref r, .int (nI c), .int (nI n)] M (.inl (some (.int (colOf (mI M r) c n)))) M := by
  refine ev_intro rfl (nb rfl) rfl ?_
  refine g_iconst (pc := 0) (v := 0) dX6_columnOf_0 rfl ?_
  refine g_istore_n (pc := 1) (lv' := [(0, _), (1, _), (2, _), (3, _)]) dX6_columnOf_1 (nl rfl) rfl ?_
  refine g_iconst (pc := 2) (v := 0) dX6_columnOf_2 rfl ?_
  refine g_istore (pc := 3) (lv' := [(0, _), (1, _), (2, _), (3, _), (4, _)]) dX6_columnOf_3 (nl rfl) rfl ?_
  refine go_loop (pc := 5) n (fun i => [(0, .ref r), (1, .int (nI c)), (2, .int (nI n)), (3, .int (colOf (mI M r) c i)), (4, .int (nI i))]) (fun _ => M) ⟨rfl, rfl, rfl, rfl, rfl, trivial⟩ rfl ?_ ?_
  · intro i hi ih
    refine g_iload (pc := 5) dX6_columnOf_5 rfl ?_
    refine g_iload_n (pc := 7) dX6_columnOf_7 rfl ?_
    refine g_icmp_ge (pc := 8) (tgt := 31) dX6_columnOf_8 rfl (fun h8 => absurd h8 (nI_ge hi (by omega))) (fun _ => ?_)
    refine g_iload_n (pc := 11) dX6_columnOf_11 rfl ?_
    refine g_aload_n (pc := 12) dX6_columnOf_12 rfl trivial ?_
    refine g_iload (pc := 13) dX6_columnOf_13 rfl ?_
    refine g_iaload (pc := 15) dX6_columnOf_15 hk rfl (by omega) (nl rfl) ?_
    refine g_iload_n (pc := 16) dX6_columnOf_16 rfl ?_
    refine g_iushr (pc := 17) dX6_columnOf_17 rfl ?_
    refine g_iconst (pc := 18) (v := 1) dX6_columnOf_18 rfl ?_
    refine g_iand (pc := 19) dX6_columnOf_19 ?_
    rw [bit32 _ hc]
    refine g_iload (pc := 20) dX6_columnOf_20 rfl ?_
    refine g_ishl (pc := 22) dX6_columnOf_22 ?_
    refine g_ior (pc := 23) dX6_columnOf_23 ?_
    refine g_istore_n (pc := 24) (lv' := [(0, _), (1, _), (2, _), (3, _), (4, _)]) dX6_columnOf_24 (nl rfl) rfl ?_
    refine g_iinc (pc := 25) (lv' := [(0, _), (1, _), (2, _), (3, _), (4, _)]) dX6_columnOf_25 rfl (nI_1 _) (nl rfl) rfl ?_
    refine g_goto (pc := 28) (tgt := 5) dX6_columnOf_28 rfl ?_
    exact ih
  · refine g_iload (pc := 5) dX6_columnOf_5 rfl ?_
    refine g_iload_n (pc := 7) dX6_columnOf_7 rfl ?_
    refine g_icmp_ge (pc := 8) (tgt := 31) dX6_columnOf_8 rfl (fun _ => ?_) (fun h8 => absurd (nI_le (Nat.le_refl _) (by omega)) h8)
    refine g_iload_n (pc := 31) dX6_columnOf_31 rfl ?_
    refine g_ireturn (pc := 32) dX6_columnOf_32 rfl rfl ?_
    exact ⟨rfl, rfl⟩
def onesF (f : Nat → Int32) : Nat → Int32
  | 0 => 0
  | i + 1 => onesF f i + bcJ (f i)
theorem s_onesOf {r n : Nat} (hk : (mK M)[r]? = some (kI 32)) (hn : n ≤ 32) : EvR l jX6_onesOf 1 20 0 0 [.ref r, .int (nI n)] M (.inl (some (.int (onesF (mI M r) n)))) M := by
  refine ev_intro rfl (nb rfl) rfl ?_
  refine g_iconst (pc := 0) (v := 0) dX6_onesOf_0 rfl ?_
  refine g_istore_n (pc := 1) (lv' := [(0, _), (1, _), (2, _)]) dX6_onesOf_1 (nl rfl) rfl ?_
  refine g_iconst (pc := 2) (v := 0) dX6_onesOf_2 rfl ?_
  refine g_istore_n (pc := 3) (lv' := [(0, _), (1, _), (2, _), (3, _)]) dX6_onesOf_3 (nl rfl) rfl ?_
  refine go_loop (pc := 4) n (fun i => [(0, .ref r), (1, .int (nI n)), (2, .int (onesF (mI M r) i)), (3, .int (nI i))]) (fun _ => M) ⟨rfl, rfl, rfl, rfl, trivial⟩ rfl ?_ ?_
  · intro i hi ih
    refine g_iload_n (pc := 4) dX6_onesOf_4 rfl ?_
    refine g_iload_n (pc := 5) dX6_onesOf_5 rfl ?_
    refine g_icmp_ge (pc := 6) (tgt := 24) dX6_onesOf_6 rfl (fun h6 => absurd h6 (nI_ge hi (by omega))) (fun _ => ?_)
    refine g_iload_n (pc := 9) dX6_onesOf_9 rfl ?_
    refine g_aload_n (pc := 10) dX6_onesOf_10 rfl trivial ?_
    refine g_iload_n (pc := 11) dX6_onesOf_11 rfl ?_
    refine g_iaload (pc := 12) dX6_onesOf_12 hk rfl (by omega) (nl rfl) ?_
    refine g_invS_r (pc := 13) (As := [_]) dX6_onesOf_13 rfl (s_bitCount) rfl rfl lk_X6_132 rfl (nb rfl) ⟨nb rfl, nb rfl⟩ rfl ?_
    refine g_iadd (pc := 16) dX6_onesOf_16 ?_
    refine g_istore_n (pc := 17) (lv' := [(0, _), (1, _), (2, _), (3, _)]) dX6_onesOf_17 (nl rfl) rfl ?_
    refine g_iinc (pc := 18) (lv' := [(0, _), (1, _), (2, _), (3, _)]) dX6_onesOf_18 rfl (nI_1 _) (nl rfl) rfl ?_
    refine g_goto (pc := 21) (tgt := 4) dX6_onesOf_21 rfl ?_
    exact ih
  · refine g_iload_n (pc := 4) dX6_onesOf_4 rfl ?_
    refine g_iload_n (pc := 5) dX6_onesOf_5 rfl ?_
    refine g_icmp_ge (pc := 6) (tgt := 24) dX6_onesOf_6 rfl (fun _ => ?_) (fun h6 => absurd (nI_le (Nat.le_refl _) (by omega)) h6)
    refine g_iload_n (pc := 24) dX6_onesOf_24 rfl ?_
    refine g_ireturn (pc := 25) dX6_onesOf_25 rfl rfl ?_
    exact ⟨rfl, rfl⟩
def comb (x y : Int32) (how : Nat) : Int32 := match how with
  | 0 => x &&& y
  | 1 => x ||| y
  | 2 => x ^^^ y
  | _ => x &&& (y ^^^ -1)
theorem s_combined {x y : Int32} {how : Nat} (hh : how < 4) : EvR l jX6_combined 0 0 0 0 [.int x, .int y, .int (nI how)] M (.inl (some (.int (comb x y how)))) M := by
  refine ev_intro rfl (nb rfl) rfl ?_
  rcases (by omega : how = 0 ∨ how = 1 ∨ how = 2 ∨ how = 3) with rfl | rfl | rfl | rfl
  · refine g_iload_n (pc := 0) dX6_combined_0 rfl ?_
    refine g_tableIn (pc := 1) (tgt := 28) (off := 27) dX6_combined_1 (by decide) (by decide) (by decide) (by decide) ?_
    refine g_iload_n (pc := 28) dX6_combined_28 rfl ?_
    refine g_iload_n (pc := 29) dX6_combined_29 rfl ?_
    refine g_iand (pc := 30) dX6_combined_30 ?_
    refine g_ireturn (pc := 31) dX6_combined_31 rfl rfl ?_
    exact ⟨rfl, rfl⟩
  · refine g_iload_n (pc := 0) dX6_combined_0 rfl ?_
    refine g_tableIn (pc := 1) (tgt := 32) (off := 31) dX6_combined_1 (by decide) (by decide) (by decide) (by decide) ?_
    refine g_iload_n (pc := 32) dX6_combined_32 rfl ?_
    refine g_iload_n (pc := 33) dX6_combined_33 rfl ?_
    refine g_ior (pc := 34) dX6_combined_34 ?_
    refine g_ireturn (pc := 35) dX6_combined_35 rfl rfl ?_
    exact ⟨rfl, rfl⟩
  · refine g_iload_n (pc := 0) dX6_combined_0 rfl ?_
    refine g_tableIn (pc := 1) (tgt := 36) (off := 35) dX6_combined_1 (by decide) (by decide) (by decide) (by decide) ?_
    refine g_iload_n (pc := 36) dX6_combined_36 rfl ?_
    refine g_iload_n (pc := 37) dX6_combined_37 rfl ?_
    refine g_ixor (pc := 38) dX6_combined_38 ?_
    refine g_ireturn (pc := 39) dX6_combined_39 rfl rfl ?_
    exact ⟨rfl, rfl⟩
  · refine g_iload_n (pc := 0) dX6_combined_0 rfl ?_
    refine g_tableOut (pc := 1) (tgt := 40) dX6_combined_1 (by decide) (by decide) ?_
    refine g_iload_n (pc := 40) dX6_combined_40 rfl ?_
    refine g_iload_n (pc := 41) dX6_combined_41 rfl ?_
    refine g_iconst (pc := 42) (v := (-1)) dX6_combined_42 rfl ?_
    refine g_ixor (pc := 43) dX6_combined_43 ?_
    refine g_iand (pc := 44) dX6_combined_44 ?_
    refine g_ireturn (pc := 45) dX6_combined_45 rfl rfl ?_
    exact ⟨rfl, rfl⟩
def bitI (c : Nat) : Int32 := 1 <<< (nI c &&& 31)
theorem b1_eq (a b : Bool) : (b1 a = b1 b) = (a = b) := by cases a <;> cases b <;> decide
def exch (x : Int32) (a b : Nat) : Int32 := if hb x a = hb x b then x else x ^^^ bitI a ^^^ bitI b
theorem s_exchanged {x : Int32} {a b : Nat} (ha : a < 32) (hb9 : b < 32) : EvR l jX6_exchanged 1 21 0 0 [.int x, .int (nI a), .int (nI b)] M (.inl (some (.int (exch x a b)))) M := by
  refine ev_intro rfl (nb rfl) rfl ?_
  refine g_iload_n (pc := 0) dX6_exchanged_0 rfl ?_
  refine g_iload_n (pc := 1) dX6_exchanged_1 rfl ?_
  refine g_invS_r (pc := 2) (As := [_, _]) dX6_exchanged_2 rfl (s_hasOne ha) rfl rfl lk_X6_116 rfl (nb rfl) ⟨nb rfl, nb rfl⟩ rfl ?_
  refine g_iload_n (pc := 5) dX6_exchanged_5 rfl ?_
  refine g_iload_n (pc := 6) dX6_exchanged_6 rfl ?_
  refine g_invS_r (pc := 7) (As := [_, _]) dX6_exchanged_7 rfl (s_hasOne hb9) rfl rfl lk_X6_116 rfl (nb rfl) ⟨nb rfl, nb rfl⟩ rfl ?_
  refine g_icmp_ne (pc := 10) (tgt := 17) dX6_exchanged_10 rfl (fun h10 => ?_) (fun h10 => ?_)
  · rw [b1_eq] at h10
    refine g_iload_n (pc := 17) dX6_exchanged_17 rfl ?_
    refine g_iconst (pc := 18) (v := 1) dX6_exchanged_18 rfl ?_
    refine g_iload_n (pc := 19) dX6_exchanged_19 rfl ?_
    refine g_ishl (pc := 20) dX6_exchanged_20 ?_
    refine g_ixor (pc := 21) dX6_exchanged_21 ?_
    refine g_iconst (pc := 22) (v := 1) dX6_exchanged_22 rfl ?_
    refine g_iload_n (pc := 23) dX6_exchanged_23 rfl ?_
    refine g_ishl (pc := 24) dX6_exchanged_24 ?_
    refine g_ixor (pc := 25) dX6_exchanged_25 ?_
    refine g_ireturn (pc := 26) dX6_exchanged_26 rfl rfl ?_
    exact ⟨by unfold exch; simp [h10, bitI], rfl⟩
  · rw [b1_eq, Decidable.not_not] at h10
    refine g_iload_n (pc := 13) dX6_exchanged_13 rfl ?_
    refine g_goto (pc := 14) (tgt := 26) dX6_exchanged_14 rfl ?_
    refine g_ireturn (pc := 26) dX6_exchanged_26 rfl rfl ?_
    exact ⟨by unfold exch; simp [h10, bitI], rfl⟩
theorem s_unsigned {x : Int32} : EvR l jX6_unsigned 0 0 0 0 [.int x] M (.inl (some (.long (x.toInt64 &&& 4294967295)))) M := by
  refine ev_intro rfl (nb rfl) rfl ?_
  refine g_iload_n (pc := 0) dX6_unsigned_0 rfl ?_
  refine g_i2l (pc := 1) dX6_unsigned_1 rfl ?_
  refine g_ldc2 (pc := 2) dX6_unsigned_2 wd_672 ?_
  refine g_land (pc := 5) dX6_unsigned_5 ?_
  refine g_lreturn (pc := 6) dX6_unsigned_6 rfl ?_
  exact ⟨rfl, rfl⟩
/-- the lowest c bits -/
def lowM (c : Nat) : Int32 := if c = 0 then 0 else us (-1) (32 - nI c)
theorem s_lowest {c : Nat} (hc : c ≤ 32) : EvR l jX6_lowest 0 0 0 0 [.int (nI c)] M (.inl (some (.int (lowM c)))) M := by
  refine ev_intro rfl (nb rfl) rfl ?_
  refine g_iload_n (pc := 0) dX6_lowest_0 rfl ?_
  refine g_if_ne (pc := 1) (tgt := 8) dX6_lowest_1 rfl (fun h1 => ?_) (fun h1 => ?_)
  · have h1' : c ≠ 0 := fun h => h1 (by rw [h]; rfl)
    refine g_iconst (pc := 8) (v := (-1)) dX6_lowest_8 rfl ?_
    refine g_bipush (pc := 9) (v := 32) dX6_lowest_9 rfl ?_
    refine g_iload_n (pc := 11) dX6_lowest_11 rfl ?_
    refine g_isub (pc := 12) dX6_lowest_12 ?_
    refine g_iushr (pc := 13) dX6_lowest_13 rfl ?_
    refine g_ireturn (pc := 14) dX6_lowest_14 rfl rfl ?_
    exact ⟨by simp [lowM, h1', us], rfl⟩
  · have h1' : c = 0 := (nI_eq (by omega) (by decide)).mp (Decidable.not_not.mp h1)
    refine g_iconst (pc := 4) (v := 0) dX6_lowest_4 rfl ?_
    refine g_goto (pc := 5) (tgt := 14) dX6_lowest_5 rfl ?_
    refine g_ireturn (pc := 14) dX6_lowest_14 rfl rfl ?_
    exact ⟨by simp [lowM, h1', us], rfl⟩
/-- the number of the lowest one -/
def lowI (x : Int32) : Int32 := bcJ ((x &&& -x) - 1) &&& 31
def lowN (x : Int32) : Nat := (lowI x).toNatClampNeg
theorem and31 (y : Int32) : 0 ≤ (y &&& 31).toInt ∧ (y &&& 31).toInt < 32 := by
  have h : (y &&& 31).toBitVec.toNat < 32 := by
    rw [Int32.toBitVec_and, BitVec.toNat_and]
    exact Nat.lt_of_le_of_lt Nat.and_le_right (by decide)
  have h2 : (y &&& 31).toInt = ((y &&& 31).toBitVec.toNat : Int) := by
    show (y &&& 31).toBitVec.toInt = _
    rw [BitVec.toInt_eq_toNat_of_lt (by omega)]
  omega
theorem lowI_n (x : Int32) : lowI x = nI (lowN x) := by
  have h := and31 (bcJ ((x &&& -x) - 1))
  have h2 : (lowI x).toInt = (lowN x : Int) := by
    unfold lowN Int32.toNatClampNeg
    show _ = (((lowI x).toInt.toNat : Nat) : Int)
    have : 0 ≤ (lowI x).toInt := h.1
    omega
  have h3 : lowN x < 32 := by have : (lowI x).toInt < 32 := h.2; omega
  apply Int32.toInt_inj.mp
  rw [h2, nI_toInt (by omega)]
theorem lowN_lt (x : Int32) : lowN x < 32 := by
  have h := and31 (bcJ ((x &&& -x) - 1))
  have h2 : (lowI x).toInt < 32 := h.2
  unfold lowN Int32.toNatClampNeg
  omega
theorem s_lowestOne {x : Int32} : EvR l jX6_lowestOne 1 20 0 0 [.int x] M (.inl (some (.int (nI (lowN x))))) M := by
  rw [← lowI_n]
  refine ev_intro rfl (nb rfl) rfl ?_
  refine g_iload_n (pc := 0) dX6_lowestOne_0 rfl ?_
  refine g_iload_n (pc := 1) dX6_lowestOne_1 rfl ?_
  refine g_ineg (pc := 2) dX6_lowestOne_2 ?_
  refine g_iand (pc := 3) dX6_lowestOne_3 ?_
  refine g_iconst (pc := 4) (v := 1) dX6_lowestOne_4 rfl ?_
  refine g_isub (pc := 5) dX6_lowestOne_5 ?_
  refine g_invS_r (pc := 6) (As := [_]) dX6_lowestOne_6 rfl (s_bitCount) rfl rfl lk_X6_132 rfl (nb rfl) ⟨nb rfl, nb rfl⟩ rfl ?_
  refine g_bipush (pc := 9) (v := 31) dX6_lowestOne_9 rfl ?_
  refine g_iand (pc := 11) dX6_lowestOne_11 ?_
  refine g_ireturn (pc := 12) dX6_lowestOne_12 rfl rfl ?_
  exact ⟨rfl, rfl⟩
def selG (x idx : Int32) : Nat → Nat → Int32 → Int32
  | 0, _, _ => -1
  | d + 1, c, b => if hb x c = true then (if b = idx then nI c else selG x idx d (c + 1) (b + 1)) else selG x idx d (c + 1) b
/-- what is reached from what is found; d rounds are left -/
def reachL (f : Nat → Int32) : Nat → Int32 → Int32 → Int32
  | 0, fd, _ => fd
  | d + 1, fd, dn => if fd = dn then fd else reachL f d (fd ||| f (lowN (fd &&& (dn ^^^ -1)))) (dn ||| bitI (lowN (fd &&& (dn ^^^ -1))))
theorem s_reachedFrom {r a n : Nat} (hk : (mK M)[r]? = some (kI 32)) (ha : a < 32) (hn : n ≤ 32) : EvR l jX6_reachedFrom 2 40 0 0 [.ref r, .int (nI a), .int (nI n)] M (.inl (some (.int (reachL (mI M r) n (mI M r a) 0)))) M := by
  obtain ⟨S, hS⟩ : ∃ S, S = reachL (mI M r) n (mI M r a) 0 := ⟨_, rfl⟩
  rw [← hS]
  refine ev_intro rfl (nb rfl) rfl ?_
  refine g_aload_n (pc := 0) dX6_reachedFrom_0 rfl trivial ?_
  refine g_iload_n (pc := 1) dX6_reachedFrom_1 rfl ?_
  refine g_iaload (pc := 2) dX6_reachedFrom_2 hk rfl (by omega) (nl rfl) ?_
  refine g_istore_n (pc := 3) (lv' := [(0, _), (1, _), (2, _), (3, _)]) dX6_reachedFrom_3 (nl rfl) rfl ?_
  refine g_iconst (pc := 4) (v := 0) dX6_reachedFrom_4 rfl ?_
  refine g_istore (pc := 5) (lv' := [(0, _), (1, _), (2, _), (3, _), (4, _)]) dX6_reachedFrom_5 (nl rfl) rfl ?_
  refine g_iconst (pc := 7) (v := 0) dX6_reachedFrom_7 rfl ?_
  refine g_istore (pc := 8) (lv' := [(0, _), (1, _), (2, _), (3, _), (4, _), (5, _)]) dX6_reachedFrom_8 (nl rfl) rfl ?_
  refine go_while (pc := 10) (σ := Nat × Int32 × Int32) (fun s => s.1 ≤ n ∧ reachL (mI M r) (n - s.1) s.2.1 s.2.2 = S) (fun s => n - s.1) (fun s => [(0, .ref r), (1, .int (nI a)), (2, .int (nI n)), (3, .int s.2.1), (4, .int s.2.2), (5, .int (nI s.1))]) (fun _ => M) (0, mI M r a, 0) ⟨rfl, rfl, rfl, rfl, rfl, rfl, trivial⟩ rfl ⟨Nat.zero_le _, hS.symm⟩ ?_
  rintro ⟨i, fd, dn⟩ ⟨h1, h2⟩ ih
  simp only at h1 h2 ih
  by_cases hi : i < n
  · obtain ⟨d, hd⟩ : ∃ d, n - i = d + 1 := ⟨n - i - 1, by omega⟩
    have hd' : n - (i + 1) = d := by omega
    rw [hd] at h2 ih
    rw [reachL] at h2
    refine g_iload (pc := 10) dX6_reachedFrom_10 rfl ?_
    refine g_iload_n (pc := 12) dX6_reachedFrom_12 rfl ?_
    refine g_icmp_ge (pc := 13) (tgt := 55) dX6_reachedFrom_13 rfl (fun h13 => absurd h13 (nI_ge hi (by omega))) (fun _ => ?_)
    refine g_iload_n (pc := 16) dX6_reachedFrom_16 rfl ?_
    refine g_iload (pc := 17) dX6_reachedFrom_17 rfl ?_
    refine g_icmp_eq (pc := 19) (tgt := 55) dX6_reachedFrom_19 rfl (fun h19 => ?_) (fun h19 => ?_)
    · rw [if_pos h19] at h2
      refine g_iload_n (pc := 55) dX6_reachedFrom_55 rfl ?_
      refine g_ireturn (pc := 56) dX6_reachedFrom_56 rfl rfl ?_
      exact ⟨by rw [h2], rfl⟩
    · rw [if_neg h19] at h2
      refine g_iload_n (pc := 22) dX6_reachedFrom_22 rfl ?_
      refine g_iload (pc := 23) dX6_reachedFrom_23 rfl ?_
      refine g_iconst (pc := 25) (v := (-1)) dX6_reachedFrom_25 rfl ?_
      refine g_ixor (pc := 26) dX6_reachedFrom_26 ?_
      refine g_iand (pc := 27) dX6_reachedFrom_27 ?_
      refine g_invS_r (pc := 28) (As := [_]) dX6_reachedFrom_28 rfl (s_lowestOne) rfl rfl lk_X6_186 rfl (nb rfl) ⟨nb rfl, nb rfl⟩ rfl ?_
      refine g_istore (pc := 31) (lv' := [(0, _), (1, _), (2, _), (3, _), (4, _), (5, _), (6, _)]) dX6_reachedFrom_31 (nl rfl) rfl ?_
      refine g_iload_n (pc := 33) dX6_reachedFrom_33 rfl ?_
      refine g_aload_n (pc := 34) dX6_reachedFrom_34 rfl trivial ?_
      refine g_iload (pc := 35) dX6_reachedFrom_35 rfl ?_
      refine g_iaload (pc := 37) dX6_reachedFrom_37 hk rfl (lowN_lt _) (nl rfl) ?_
      refine g_ior (pc := 38) dX6_reachedFrom_38 ?_
      refine g_istore_n (pc := 39) (lv' := [(0, _), (1, _), (2, _), (3, _), (4, _), (5, _), (6, _)]) dX6_reachedFrom_39 (nl rfl) rfl ?_
      refine g_iload (pc := 40) dX6_reachedFrom_40 rfl ?_
      refine g_iconst (pc := 42) (v := 1) dX6_reachedFrom_42 rfl ?_
      refine g_iload (pc := 43) dX6_reachedFrom_43 rfl ?_
      refine g_ishl (pc := 45) dX6_reachedFrom_45 ?_
      refine g_ior (pc := 46) dX6_reachedFrom_46 ?_
      refine g_istore (pc := 47) (lv' := [(0, _), (1, _), (2, _), (3, _), (4, _), (5, _), (6, _)]) dX6_reachedFrom_47 (nl rfl) rfl ?_
      refine g_iinc (pc := 49) (lv' := [(0, _), (1, _), (2, _), (3, _), (4, _), (5, _), (6, _)]) dX6_reachedFrom_49 rfl (nI_1 _) (nl rfl) rfl ?_
      refine g_goto (pc := 52) (tgt := 10) dX6_reachedFrom_52 rfl ?_
      exact g_sub (lv' := [(0, .ref r), (1, .int (nI a)), (2, .int (nI n)), (3, _), (4, _), (5, _)]) ⟨rfl, rfl, rfl, rfl, rfl, rfl, trivial⟩ (ih (i + 1, _, _) ⟨by simp only; omega, by simp only; rw [hd']; exact h2⟩ (by simp only; omega))
  · have hi' : i = n := by omega
    subst hi'
    refine g_iload (pc := 10) dX6_reachedFrom_10 rfl ?_
    refine g_iload_n (pc := 12) dX6_reachedFrom_12 rfl ?_
    refine g_icmp_ge (pc := 13) (tgt := 55) dX6_reachedFrom_13 rfl (fun _ => ?_) (fun h13 => absurd (nI_le (Nat.le_refl _) (by omega)) h13)
    refine g_iload_n (pc := 55) dX6_reachedFrom_55 rfl ?_
    refine g_ireturn (pc := 56) dX6_reachedFrom_56 rfl rfl ?_
    exact ⟨by rw [← h2, Nat.sub_self]; rfl, rfl⟩
end
