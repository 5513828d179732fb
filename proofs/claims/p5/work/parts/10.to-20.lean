-- 10.leaf
section
/-! leaves: the class's static methods, Integer.bitCount, Math -/
section
variable {l : Launch} {M : Mem}
theorem s_hasOne {x : Int32} {c : Nat} (hc : c < 32) : EvR l jX6_hasOne 0 0 0 0 [.int x, .int (nI c)] M (.inl (some (.int (b1 (hb x c))))) M := by
  refine ev_intro rfl (nb rfl) rfl ?_
  refine g_iload_n (pc := 0) dX6_hasOne_0 rfl ?_
  refine g_iload_n (pc := 1) dX6_hasOne_1 rfl ?_
  refine g_iushr (pc := 2) dX6_hasOne_2 rfl ?_
  refine g_iconst (pc := 3) (v := 1) dX6_hasOne_3 rfl ?_
  refine g_iand (pc := 4) dX6_hasOne_4 ?_
  rw [bit32 x hc]
  refine g_if_eq (pc := 5) (tgt := 12) dX6_hasOne_5 rfl (fun h5 => ?_) (fun h5 => ?_)
  · rw [b1_0] at h5
    rw [h5]
    refine g_iconst (pc := 12) (v := 0) dX6_hasOne_12 rfl ?_
    refine g_ireturn (pc := 13) dX6_hasOne_13 rfl rfl ?_
    exact ⟨rfl, rfl⟩
  · rw [b1_0, Bool.not_eq_false] at h5
    rw [h5]
    refine g_iconst (pc := 8) (v := 1) dX6_hasOne_8 rfl ?_
    refine g_goto (pc := 9) (tgt := 13) dX6_hasOne_9 rfl ?_
    refine g_ireturn (pc := 13) dX6_hasOne_13 rfl rfl ?_
    exact ⟨rfl, rfl⟩
/-- shift to the right without sign -/
def us (x k : Int32) : Int32 := (x.toUInt32 >>> (k.toUInt32 &&& Int32.toUInt32 31)).toInt32
def bcJ (x : Int32) : Int32 :=
  let a := x - (us x 1 &&& 1431655765)
  let b := (a &&& 858993459) + (us a 2 &&& 858993459)
  let c := (b + us b 4) &&& 252645135
  let d := c + us c 8
  let e := d + us d 16
  e &&& 63
theorem s_bitCount {x : Int32} : EvR l jJ6_bitCount_0f7a4 0 0 0 0 [.int x] M (.inl (some (.int (bcJ x)))) M := by
  refine ev_intro rfl (nb rfl) rfl ?_
  refine g_iload_n (pc := 0) dJ6_bitCount_0f7a4_0 rfl ?_
  refine g_iload_n (pc := 1) dJ6_bitCount_0f7a4_1 rfl ?_
  refine g_iconst (pc := 2) (v := 1) dJ6_bitCount_0f7a4_2 rfl ?_
  refine g_iushr (pc := 3) dJ6_bitCount_0f7a4_3 rfl ?_
  refine g_ldcw (pc := 4) dJ6_bitCount_0f7a4_4 wd_684 ?_
  refine g_iand (pc := 7) dJ6_bitCount_0f7a4_7 ?_
  refine g_isub (pc := 8) dJ6_bitCount_0f7a4_8 ?_
  refine g_istore_n (pc := 9) (lv' := [(0, _)]) dJ6_bitCount_0f7a4_9 (nl rfl) rfl ?_
  refine g_iload_n (pc := 10) dJ6_bitCount_0f7a4_10 rfl ?_
  refine g_ldcw (pc := 11) dJ6_bitCount_0f7a4_11 wd_685 ?_
  refine g_iand (pc := 14) dJ6_bitCount_0f7a4_14 ?_
  refine g_iload_n (pc := 15) dJ6_bitCount_0f7a4_15 rfl ?_
  refine g_iconst (pc := 16) (v := 2) dJ6_bitCount_0f7a4_16 rfl ?_
  refine g_iushr (pc := 17) dJ6_bitCount_0f7a4_17 rfl ?_
  refine g_ldcw (pc := 18) dJ6_bitCount_0f7a4_18 wd_685 ?_
  refine g_iand (pc := 21) dJ6_bitCount_0f7a4_21 ?_
  refine g_iadd (pc := 22) dJ6_bitCount_0f7a4_22 ?_
  refine g_istore_n (pc := 23) (lv' := [(0, _)]) dJ6_bitCount_0f7a4_23 (nl rfl) rfl ?_
  refine g_iload_n (pc := 24) dJ6_bitCount_0f7a4_24 rfl ?_
  refine g_iload_n (pc := 25) dJ6_bitCount_0f7a4_25 rfl ?_
  refine g_iconst (pc := 26) (v := 4) dJ6_bitCount_0f7a4_26 rfl ?_
  refine g_iushr (pc := 27) dJ6_bitCount_0f7a4_27 rfl ?_
  refine g_iadd (pc := 28) dJ6_bitCount_0f7a4_28 ?_
  refine g_ldcw (pc := 29) dJ6_bitCount_0f7a4_29 wd_686 ?_
  refine g_iand (pc := 32) dJ6_bitCount_0f7a4_32 ?_
  refine g_istore_n (pc := 33) (lv' := [(0, _)]) dJ6_bitCount_0f7a4_33 (nl rfl) rfl ?_
  refine g_iload_n (pc := 34) dJ6_bitCount_0f7a4_34 rfl ?_
  refine g_iload_n (pc := 35) dJ6_bitCount_0f7a4_35 rfl ?_
  refine g_bipush (pc := 36) (v := 8) dJ6_bitCount_0f7a4_36 rfl ?_
  refine g_iushr (pc := 38) dJ6_bitCount_0f7a4_38 rfl ?_
  refine g_iadd (pc := 39) dJ6_bitCount_0f7a4_39 ?_
  refine g_istore_n (pc := 40) (lv' := [(0, _)]) dJ6_bitCount_0f7a4_40 (nl rfl) rfl ?_
  refine g_iload_n (pc := 41) dJ6_bitCount_0f7a4_41 rfl ?_
  refine g_iload_n (pc := 42) dJ6_bitCount_0f7a4_42 rfl ?_
  refine g_bipush (pc := 43) (v := 16) dJ6_bitCount_0f7a4_43 rfl ?_
  refine g_iushr (pc := 45) dJ6_bitCount_0f7a4_45 rfl ?_
  refine g_iadd (pc := 46) dJ6_bitCount_0f7a4_46 ?_
  refine g_istore_n (pc := 47) (lv' := [(0, _)]) dJ6_bitCount_0f7a4_47 (nl rfl) rfl ?_
  refine g_iload_n (pc := 48) dJ6_bitCount_0f7a4_48 rfl ?_
  refine g_bipush (pc := 49) (v := 63) dJ6_bitCount_0f7a4_49 rfl ?_
  refine g_iand (pc := 51) dJ6_bitCount_0f7a4_51 ?_
  refine g_ireturn (pc := 52) dJ6_bitCount_0f7a4_52 rfl rfl ?_
  exact ⟨rfl, rfl⟩
def colOf (f : Nat → Int32) (c : Nat) : Nat → Int32
  | 0 => 0
  | i + 1 => colOf f c i ||| b1 (hb (f i) c) <<< (nI i &&& 31)
theorem s_columnOf {r c n : Nat} (hk : (mK M)[r]? = some (kI 32)) (hc : c < 32) (hn : n ≤ 32) : EvR l jX6_columnOf 0 0 0 0 [.ref r, .int (nI c), .int (nI n)] M (.inl (some (.int (colOf (mI M r) c n)))) M := by
  refine ev_intro rfl (nb rfl) rfl ?_
  refine g_iconst (pc := 0) (v := 0) dX6_columnOf_0 rfl ?_
  refine g_istore_n (pc := 1) (lv' := [(0, _), (1, _), (2, _), (3, _)]) dX6_columnOf_1 (nl rfl) rfl ?_
  refine g_iconst (pc := 2) (v := 0) dX6_columnOf_2 rfl ?_
  refine g_istore (pc := 3) (lv' := [(0, _), (1, _), (2, _), (3, _), (4, _)]) dX6_columnOf_3 (nl rfl) rfl ?_
  refine go_loop (pc := 5) n (fun i => [(0, .ref r), (1, .int (nI c)), (2, .int (nI n)), (3, .int (colOf (mI M r) c i)), (4, .int (nI i))]) (fun _ => M) ⟨rfl, rfl, rfl, rfl, rfl, trivial⟩ rfl ?_ ?_
  · intro i hi ih
    refine g_iload (pc := 5) dX6_columnOf_5 rfl ?_
    refine g_iload_n (pc := 7) dX6_columnOf_7 rfl ?_
    refine g_icmp_ge (pc := 8) (tgt := 31) dX6_columnOf_8 rfl (fun h8 => absurd h8 (nI_ge hi (by omega))) (fun _ => ?_)
    refine g_iload_n (pc := 11) dX6_columnOf_11 rfl ?_
    refine g_aload_n (pc := 12) dX6_columnOf_12 rfl trivial ?_
    refine g_iload (pc := 13) dX6_columnOf_13 rfl ?_
    refine g_iaload (pc := 15) dX6_columnOf_15 hk rfl (by omega) (nl rfl) ?_
    refine g_iload_n (pc := 16) dX6_columnOf_16 rfl ?_
    refine g_iushr (pc := 17) dX6_columnOf_17 rfl ?_
    refine g_iconst (pc := 18) (v := 1) dX6_columnOf_18 rfl ?_
    refine g_iand (pc := 19) dX6_columnOf_19 ?_
    rw [bit32 _ hc]
    refine g_iload (pc := 20) dX6_columnOf_20 rfl ?_
    refine g_ishl (pc := 22) dX6_columnOf_22 ?_
    refine g_ior (pc := 23) dX6_columnOf_23 ?_
    refine g_istore_n (pc := 24) (lv' := [(0, _), (1, _), (2, _), (3, _), (4, _)]) dX6_columnOf_24 (nl rfl) rfl ?_
    refine g_iinc (pc := 25) (lv' := [(0, _), (1, _), (2, _), (3, _), (4, _)]) dX6_columnOf_25 rfl (nI_1 _) (nl rfl) rfl ?_
    refine g_goto (pc := 28) (tgt := 5) dX6_columnOf_28 rfl ?_
    exact ih
  · refine g_iload (pc := 5) dX6_columnOf_5 rfl ?_
    refine g_iload_n (pc := 7) dX6_columnOf_7 rfl ?_
    refine g_icmp_ge (pc := 8) (tgt := 31) dX6_columnOf_8 rfl (fun _ => ?_) (fun h8 => absurd (nI_le (Nat.le_refl _) (by omega)) h8)
    refine g_iload_n (pc := 31) dX6_columnOf_31 rfl ?_
    refine g_ireturn (pc := 32) dX6_columnOf_32 rfl rfl ?_
    exact ⟨rfl, rfl⟩
def onesF (f : Nat → Int32) : Nat → Int32
  | 0 => 0
  | i + 1 => onesF f i + bcJ (f i)
theorem s_onesOf {r n : Nat} (hk : (mK M)[r]? = some (kI 32)) (hn : n ≤ 32) : EvR l jX6_onesOf 1 20 0 0 [.ref r, .int (nI n)] M (.inl (some (.int (onesF (mI M r) n)))) M := by
  refine ev_intro rfl (nb rfl) rfl ?_
  refine g_iconst (pc := 0) (v := 0) dX6_onesOf_0 rfl ?_
  refine g_istore_n (pc := 1) (lv' := [(0, _), (1, _), (2, _)]) dX6_onesOf_1 (nl rfl) rfl ?_
  refine g_iconst (pc := 2) (v := 0) dX6_onesOf_2 rfl ?_
  refine g_istore_n (pc := 3) (lv' := [(0, _), (1, _), (2, _), (3, _)]) dX6_onesOf_3 (nl rfl) rfl ?_
  refine go_loop (pc := 4) n (fun i => [(0, .ref r), (1, .int (nI n)), (2, .int (onesF (mI M r) i)), (3, .int (nI i))]) (fun _ => M) ⟨rfl, rfl, rfl, rfl, trivial⟩ rfl ?_ ?_
  · intro i hi ih
    refine g_iload_n (pc := 4) dX6_onesOf_4 rfl ?_
    refine g_iload_n (pc := 5) dX6_onesOf_5 rfl ?_
    refine g_icmp_ge (pc := 6) (tgt := 24) dX6_onesOf_6 rfl (fun h6 => absurd h6 (nI_ge hi (by omega))) (fun _ => ?_)
    refine g_iload_n (pc := 9) dX6_onesOf_9 rfl ?_
    refine g_aload_n (pc := 10) dX6_onesOf_10 rfl trivial ?_
    refine g_iload_n (pc := 11) dX6_onesOf_11 rfl ?_
    refine g_iaload (pc := 12) dX6_onesOf_12 hk rfl (by omega) (nl rfl) ?_
    refine g_invS_r (pc := 13) (As := [_]) dX6_onesOf_13 rfl (s_bitCount) rfl rfl lk_X6_132 rfl (nb rfl) ⟨nb rfl, nb rfl⟩ rfl ?_
    refine g_iadd (pc := 16) dX6_onesOf_16 ?_
    refine g_istore_n (pc := 17) (lv' := [(0, _), (1, _), (2, _), (3, _)]) dX6_onesOf_17 (nl rfl) rfl ?_
    refine g_iinc (pc := 18) (lv' := [(0, _), (1, _), (2, _), (3, _)]) dX6_onesOf_18 rfl (nI_1 _) (nl rfl) rfl ?_
    refine g_goto (pc := 21) (tgt := 4) dX6_onesOf_21 rfl ?_
    exact ih
  · refine g_iload_n (pc := 4) dX6_onesOf_4 rfl ?_
    refine g_iload_n (pc := 5) dX6_onesOf_5 rfl ?_
    refine g_icmp_ge (pc := 6) (tgt := 24) dX6_onesOf_6 rfl (fun _ => ?_) (fun h6 => absurd (nI_le (Nat.le_refl _) (by omega)) h6)
    refine g_iload_n (pc := 24) dX6_onesOf_24 rfl ?_
    refine g_ireturn (pc := 25) dX6_onesOf_25 rfl rfl ?_
    exact ⟨rfl, rfl⟩
def comb (x y : Int32) (how : Nat) : Int32 := match how with
  | 0 => x &&& y
  | 1 => x ||| y
  | 2 => x ^^^ y
  | _ => x &&& (y ^^^ -1)
theorem s_combined {x y : Int32} {how : Nat} (hh : how < 4) : EvR l jX6_combined 0 0 0 0 [.int x, .int y, .int (nI how)] M (.inl (some (.int (comb x y how)))) M := by
  refine ev_intro rfl (nb rfl) rfl ?_
  rcases (by omega : how = 0 ∨ how = 1 ∨ how = 2 ∨ how = 3) with rfl | rfl | rfl | rfl
  · refine g_iload_n (pc := 0) dX6_combined_0 rfl ?_
    refine g_tableIn (pc := 1) (tgt := 28) (off := 27) dX6_combined_1 (by decide) (by decide) (by decide) (by decide) ?_
    refine g_iload_n (pc := 28) dX6_combined_28 rfl ?_
    refine g_iload_n (pc := 29) dX6_combined_29 rfl ?_
    refine g_iand (pc := 30) dX6_combined_30 ?_
    refine g_ireturn (pc := 31) dX6_combined_31 rfl rfl ?_
    exact ⟨rfl, rfl⟩
  · refine g_iload_n (pc := 0) dX6_combined_0 rfl ?_
    refine g_tableIn (pc := 1) (tgt := 32) (off := 31) dX6_combined_1 (by decide) (by decide) (by decide) (by decide) ?_
    refine g_iload_n (pc := 32) dX6_combined_32 rfl ?_
    refine g_iload_n (pc := 33) dX6_combined_33 rfl ?_
    refine g_ior (pc := 34) dX6_combined_34 ?_
    refine g_ireturn (pc := 35) dX6_combined_35 rfl rfl ?_
    exact ⟨rfl, rfl⟩
  · refine g_iload_n (pc := 0) dX6_combined_0 rfl ?_
    refine g_tableIn (pc := 1) (tgt := 36) (off := 35) dX6_combined_1 (by decide) (by decide) (by decide) (by decide) ?_
    refine g_iload_n (pc := 36) dX6_combined_36 rfl ?_
    refine g_iload_n (pc := 37) dX6_combined_37 rfl ?_
    refine g_ixor (pc := 38) dX6_combined_38 ?_
    refine g_ireturn (pc := 39) dX6_combined_39 rfl rfl ?_
    exact ⟨rfl, rfl⟩
  · refine g_iload_n (pc := 0) dX6_combined_0 rfl ?_
    refine g_tableOut (pc := 1) (tgt := 40) dX6_combined_1 (by decide) (by decide) ?_
    refine g_iload_n (pc := 40) dX6_combined_40 rfl ?_
    refine g_iload_n (pc := 41) dX6_combined_41 rfl ?_
    refine g_iconst (pc := 42) (v := (-1)) dX6_combined_42 rfl ?_
    refine g_ixor (pc := 43) dX6_combined_43 ?_
    refine g_iand (pc := 44) dX6_combined_44 ?_
    refine g_ireturn (pc := 45) dX6_combined_45 rfl rfl ?_
    exact ⟨rfl, rfl⟩
def bitI (c : Nat) : Int32 := 1 <<< (nI c &&& 31)
theorem b1_eq (a b : Bool) : (b1 a = b1 b) = (a = b) := by cases a <;> cases b <;> decide
def exch (x : Int32) (a b : Nat) : Int32 := if hb x a = hb x b then x else x ^^^ bitI a ^^^ bitI b
theorem s_exchanged {x : Int32} {a b : Nat} (ha : a < 32) (hb9 : b < 32) : EvR l jX6_exchanged 1 21 0 0 [.int x, .int (nI a), .int (nI b)] M (.inl (some (.int (exch x a b)))) M := by
  refine ev_intro rfl (nb rfl) rfl ?_
  refine g_iload_n (pc := 0) dX6_exchanged_0 rfl ?_
  refine g_iload_n (pc := 1) dX6_exchanged_1 rfl ?_
  refine g_invS_r (pc := 2) (As := [_, _]) dX6_exchanged_2 rfl (s_hasOne ha) rfl rfl lk_X6_116 rfl (nb rfl) ⟨nb rfl, nb rfl⟩ rfl ?_
  refine g_iload_n (pc := 5) dX6_exchanged_5 rfl ?_
  refine g_iload_n (pc := 6) dX6_exchanged_6 rfl ?_
  refine g_invS_r (pc := 7) (As := [_, _]) dX6_exchanged_7 rfl (s_hasOne hb9) rfl rfl lk_X6_116 rfl (nb rfl) ⟨nb rfl, nb rfl⟩ rfl ?_
  refine g_icmp_ne (pc := 10) (tgt := 17) dX6_exchanged_10 rfl (fun h10 => ?_) (fun h10 => ?_)
  · rw [b1_eq] at h10
    refine g_iload_n (pc := 17) dX6_exchanged_17 rfl ?_
    refine g_iconst (pc := 18) (v := 1) dX6_exchanged_18 rfl ?_
    refine g_iload_n (pc := 19) dX6_exchanged_19 rfl ?_
    refine g_ishl (pc := 20) dX6_exchanged_20 ?_
    refine g_ixor (pc := 21) dX6_exchanged_21 ?_
    refine g_iconst (pc := 22) (v := 1) dX6_exchanged_22 rfl ?_
    refine g_iload_n (pc := 23) dX6_exchanged_23 rfl ?_
    refine g_ishl (pc := 24) dX6_exchanged_24 ?_
    refine g_ixor (pc := 25) dX6_exchanged_25 ?_
    refine g_ireturn (pc := 26) dX6_exchanged_26 rfl rfl ?_
    exact ⟨by unfold exch; simp [h10, bitI], rfl⟩
  · rw [b1_eq, Decidable.not_not] at h10
    refine g_iload_n (pc := 13) dX6_exchanged_13 rfl ?_
    refine g_goto (pc := 14) (tgt := 26) dX6_exchanged_14 rfl ?_
    refine g_ireturn (pc := 26) dX6_exchanged_26 rfl rfl ?_
    exact ⟨by unfold exch; simp [h10, bitI], rfl⟩
theorem s_edgeNumber {a b : Int32} : EvR l jX6_edgeNumber 0 0 0 0 [.int a, .int b] M (.inl (some (.int (32 * a + b)))) M := by
  refine ev_intro rfl (nb rfl) rfl ?_
  refine g_bipush (pc := 0) (v := 32) dX6_edgeNumber_0 rfl ?_
  refine g_iload_n (pc := 2) dX6_edgeNumber_2 rfl ?_
  refine g_imul (pc := 3) dX6_edgeNumber_3 ?_
  refine g_iload_n (pc := 4) dX6_edgeNumber_4 rfl ?_
  refine g_iadd (pc := 5) dX6_edgeNumber_5 ?_
  refine g_ireturn (pc := 6) dX6_edgeNumber_6 rfl rfl ?_
  exact ⟨rfl, rfl⟩
theorem s_unsigned {x : Int32} : EvR l jX6_unsigned 0 0 0 0 [.int x] M (.inl (some (.long (x.toInt64 &&& 4294967295)))) M := by
  refine ev_intro rfl (nb rfl) rfl ?_
  refine g_iload_n (pc := 0) dX6_unsigned_0 rfl ?_
  refine g_i2l (pc := 1) dX6_unsigned_1 rfl ?_
  refine g_ldc2 (pc := 2) dX6_unsigned_2 wd_672 ?_
  refine g_land (pc := 5) dX6_unsigned_5 ?_
  refine g_lreturn (pc := 6) dX6_unsigned_6 rfl ?_
  exact ⟨rfl, rfl⟩
/-- the lowest c bits -/
def lowM (c : Nat) : Int32 := if c = 0 then 0 else us (-1) (32 - nI c)
theorem s_lowest {c : Nat} (hc : c ≤ 32) : EvR l jX6_lowest 0 0 0 0 [.int (nI c)] M (.inl (some (.int (lowM c)))) M := by
  refine ev_intro rfl (nb rfl) rfl ?_
  refine g_iload_n (pc := 0) dX6_lowest_0 rfl ?_
  refine g_if_ne (pc := 1) (tgt := 8) dX6_lowest_1 rfl (fun h1 => ?_) (fun h1 => ?_)
  · have h1' : c ≠ 0 := fun h => h1 (by rw [h]; rfl)
    refine g_iconst (pc := 8) (v := (-1)) dX6_lowest_8 rfl ?_
    refine g_bipush (pc := 9) (v := 32) dX6_lowest_9 rfl ?_
    refine g_iload_n (pc := 11) dX6_lowest_11 rfl ?_
    refine g_isub (pc := 12) dX6_lowest_12 ?_
    refine g_iushr (pc := 13) dX6_lowest_13 rfl ?_
    refine g_ireturn (pc := 14) dX6_lowest_14 rfl rfl ?_
    exact ⟨by simp [lowM, h1', us], rfl⟩
  · have h1' : c = 0 := (nI_eq (by omega) (by decide)).mp (Decidable.not_not.mp h1)
    refine g_iconst (pc := 4) (v := 0) dX6_lowest_4 rfl ?_
    refine g_goto (pc := 5) (tgt := 14) dX6_lowest_5 rfl ?_
    refine g_ireturn (pc := 14) dX6_lowest_14 rfl rfl ?_
    exact ⟨by simp [lowM, h1', us], rfl⟩
/-- the number of the lowest one -/
def lowI (x : Int32) : Int32 := bcJ ((x &&& -x) - 1) &&& 31
def lowN (x : Int32) : Nat := (lowI x).toNatClampNeg
theorem and31 (y : Int32) : 0 ≤ (y &&& 31).toInt ∧ (y &&& 31).toInt < 32 := by
  have h : (y &&& 31).toBitVec.toNat < 32 := by
    rw [Int32.toBitVec_and, BitVec.toNat_and]
    exact Nat.lt_of_le_of_lt Nat.and_le_right (by decide)
  have h2 : (y &&& 31).toInt = ((y &&& 31).toBitVec.toNat : Int) := by
    show (y &&& 31).toBitVec.toInt = _
    rw [BitVec.toInt_eq_toNat_of_lt (by omega)]
  omega
theorem lowI_n (x : Int32) : lowI x = nI (lowN x) := by
  have h := and31 (bcJ ((x &&& -x) - 1))
  have h2 : (lowI x).toInt = (lowN x : Int) := by
    unfold lowN Int32.toNatClampNeg
    show _ = (((lowI x).toInt.toNat : Nat) : Int)
    have : 0 ≤ (lowI x).toInt := h.1
    omega
  have h3 : lowN x < 32 := by have : (lowI x).toInt < 32 := h.2; omega
  apply Int32.toInt_inj.mp
  rw [h2, nI_toInt (by omega)]
theorem lowN_lt (x : Int32) : lowN x < 32 := by
  have h := and31 (bcJ ((x &&& -x) - 1))
  have h2 : (lowI x).toInt < 32 := h.2
  unfold lowN Int32.toNatClampNeg
  omega
theorem s_lowestOne {x : Int32} : EvR l jX6_lowestOne 1 20 0 0 [.int x] M (.inl (some (.int (nI (lowN x))))) M := by
  rw [← lowI_n]
  refine ev_intro rfl (nb rfl) rfl ?_
  refine g_iload_n (pc := 0) dX6_lowestOne_0 rfl ?_
  refine g_iload_n (pc := 1) dX6_lowestOne_1 rfl ?_
  refine g_ineg (pc := 2) dX6_lowestOne_2 ?_
  refine g_iand (pc := 3) dX6_lowestOne_3 ?_
  refine g_iconst (pc := 4) (v := 1) dX6_lowestOne_4 rfl ?_
  refine g_isub (pc := 5) dX6_lowestOne_5 ?_
  refine g_invS_r (pc := 6) (As := [_]) dX6_lowestOne_6 rfl (s_bitCount) rfl rfl lk_X6_132 rfl (nb rfl) ⟨nb rfl, nb rfl⟩ rfl ?_
  refine g_bipush (pc := 9) (v := 31) dX6_lowestOne_9 rfl ?_
  refine g_iand (pc := 11) dX6_lowestOne_11 ?_
  refine g_ireturn (pc := 12) dX6_lowestOne_12 rfl rfl ?_
  exact ⟨rfl, rfl⟩
def selG (x idx : Int32) : Nat → Nat → Int32 → Int32
  | 0, _, _ => -1
  | d + 1, c, b => if hb x c = true then (if b = idx then nI c else selG x idx d (c + 1) (b + 1)) else selG x idx d (c + 1) b
theorem s_oneAt {x idx : Int32} : EvR l jX6_oneAt 1 21 0 0 [.int x, .int idx] M (.inl (some (.int (selG x idx 32 0 0)))) M := by
  obtain ⟨S, hS⟩ : ∃ S, S = selG x idx 32 0 0 := ⟨_, rfl⟩
  rw [← hS]
  refine ev_intro rfl (nb rfl) rfl ?_
  refine g_iconst (pc := 0) (v := 0) dX6_oneAt_0 rfl ?_
  refine g_istore_n (pc := 1) (lv' := [(0, _), (1, _), (2, _)]) dX6_oneAt_1 (nl rfl) rfl ?_
  refine g_iconst (pc := 2) (v := 0) dX6_oneAt_2 rfl ?_
  refine g_istore_n (pc := 3) (lv' := [(0, _), (1, _), (2, _), (3, _)]) dX6_oneAt_3 (nl rfl) rfl ?_
  refine go_while (pc := 4) (σ := Nat × Int32) (fun s => s.1 ≤ 32 ∧ selG x idx (32 - s.1) s.1 s.2 = S) (fun s => 32 - s.1) (fun s => [(0, .int x), (1, .int idx), (2, .int s.2), (3, .int (nI s.1))]) (fun _ => M) (0, 0) ⟨rfl, rfl, rfl, rfl, trivial⟩ rfl ⟨by decide, hS.symm⟩ ?_
  rintro ⟨c, b⟩ ⟨h1, h2⟩ ih
  simp only at h1 h2 ih
  by_cases hc : c < 32
  · obtain ⟨d, hd⟩ : ∃ d, 32 - c = d + 1 := ⟨31 - c, by omega⟩
    rw [hd] at h2 ih
    have hd' : 32 - (c + 1) = d := by omega
    rw [selG] at h2
    refine g_iload_n (pc := 4) dX6_oneAt_4 rfl ?_
    refine g_bipush (pc := 5) (v := 32) dX6_oneAt_5 rfl ?_
    refine g_icmp_ge (pc := 7) (tgt := 34) dX6_oneAt_7 rfl (fun h7 => absurd h7 (nI_ge (b := 32) hc (by decide))) (fun _ => ?_)
    refine g_iload_n (pc := 10) dX6_oneAt_10 rfl ?_
    refine g_iload_n (pc := 11) dX6_oneAt_11 rfl ?_
    refine g_invS_r (pc := 12) (As := [_, _]) dX6_oneAt_12 rfl (s_hasOne hc) rfl rfl lk_X6_116 rfl (nb rfl) ⟨nb rfl, nb rfl⟩ rfl ?_
    refine g_if_eq (pc := 15) (tgt := 28) dX6_oneAt_15 rfl (fun h15 => ?_) (fun h15 => ?_)
    · rw [b1_0] at h15
      rw [h15] at h2
      refine g_iinc (pc := 28) (lv' := [(0, _), (1, _), (2, _), (3, _)]) dX6_oneAt_28 rfl (nI_1 _) (nl rfl) rfl ?_
      refine g_goto (pc := 31) (tgt := 4) dX6_oneAt_31 rfl ?_
      exact ih (c + 1, b) ⟨by simp only; omega, by simp only; rw [hd']; exact h2⟩ (by simp only; omega)
    · rw [b1_0, Bool.not_eq_false] at h15
      rw [if_pos h15] at h2
      refine g_iload_n (pc := 18) dX6_oneAt_18 rfl ?_
      refine g_iload_n (pc := 19) dX6_oneAt_19 rfl ?_
      refine g_icmp_ne (pc := 20) (tgt := 25) dX6_oneAt_20 rfl (fun h20 => ?_) (fun h20 => ?_)
      · rw [if_neg h20] at h2
        refine g_iinc (pc := 25) (lv' := [(0, _), (1, _), (2, _), (3, _)]) dX6_oneAt_25 rfl (show _ = b + 1 from rfl) (nl rfl) rfl ?_
        refine g_iinc (pc := 28) (lv' := [(0, _), (1, _), (2, _), (3, _)]) dX6_oneAt_28 rfl (nI_1 _) (nl rfl) rfl ?_
        refine g_goto (pc := 31) (tgt := 4) dX6_oneAt_31 rfl ?_
        exact ih (c + 1, b + 1) ⟨by simp only; omega, by simp only; rw [hd']; exact h2⟩ (by simp only; omega)
      · rw [Decidable.not_not] at h20
        rw [if_pos h20] at h2
        refine g_iload_n (pc := 23) dX6_oneAt_23 rfl ?_
        refine g_ireturn (pc := 24) dX6_oneAt_24 rfl rfl ?_
        exact ⟨by rw [h2], rfl⟩
  · have hc' : c = 32 := by omega
    subst hc'
    refine g_iload_n (pc := 4) dX6_oneAt_4 rfl ?_
    refine g_bipush (pc := 5) (v := 32) dX6_oneAt_5 rfl ?_
    refine g_icmp_ge (pc := 7) (tgt := 34) dX6_oneAt_7 rfl (fun _ => ?_) (fun h7 => absurd (nI_le (Nat.le_refl 32) (by decide)) h7)
    refine g_iconst (pc := 34) (v := (-1)) dX6_oneAt_34 rfl ?_
    refine g_ireturn (pc := 35) dX6_oneAt_35 rfl rfl ?_
    exact ⟨by rw [← h2]; rfl, rfl⟩
/-- what is reached from what is found; d rounds are left -/
def reachL (f : Nat → Int32) : Nat → Int32 → Int32 → Int32
  | 0, fd, _ => fd
  | d + 1, fd, dn => if fd = dn then fd else reachL f d (fd ||| f (lowN (fd &&& (dn ^^^ -1)))) (dn ||| bitI (lowN (fd &&& (dn ^^^ -1))))
theorem s_reachedFrom {r a n : Nat} (hk : (mK M)[r]? = some (kI 32)) (ha : a < 32) (hn : n ≤ 32) : EvR l jX6_reachedFrom 2 40 0 0 [.ref r, .int (nI a), .int (nI n)] M (.inl (some (.int (reachL (mI M r) n (mI M r a) 0)))) M := by
  obtain ⟨S, hS⟩ : ∃ S, S = reachL (mI M r) n (mI M r a) 0 := ⟨_, rfl⟩
  rw [← hS]
  refine ev_intro rfl (nb rfl) rfl ?_
  refine g_aload_n (pc := 0) dX6_reachedFrom_0 rfl trivial ?_
  refine g_iload_n (pc := 1) dX6_reachedFrom_1 rfl ?_
  refine g_iaload (pc := 2) dX6_reachedFrom_2 hk rfl (by omega) (nl rfl) ?_
  refine g_istore_n (pc := 3) (lv' := [(0, _), (1, _), (2, _), (3, _)]) dX6_reachedFrom_3 (nl rfl) rfl ?_
  refine g_iconst (pc := 4) (v := 0) dX6_reachedFrom_4 rfl ?_
  refine g_istore (pc := 5) (lv' := [(0, _), (1, _), (2, _), (3, _), (4, _)]) dX6_reachedFrom_5 (nl rfl) rfl ?_
  refine g_iconst (pc := 7) (v := 0) dX6_reachedFrom_7 rfl ?_
  refine g_istore (pc := 8) (lv' := [(0, _), (1, _), (2, _), (3, _), (4, _), (5, _)]) dX6_reachedFrom_8 (nl rfl) rfl ?_
  refine go_while (pc := 10) (σ := Nat × Int32 × Int32) (fun s => s.1 ≤ n ∧ reachL (mI M r) (n - s.1) s.2.1 s.2.2 = S) (fun s => n - s.1) (fun s => [(0, .ref r), (1, .int (nI a)), (2, .int (nI n)), (3, .int s.2.1), (4, .int s.2.2), (5, .int (nI s.1))]) (fun _ => M) (0, mI M r a, 0) ⟨rfl, rfl, rfl, rfl, rfl, rfl, trivial⟩ rfl ⟨Nat.zero_le _, hS.symm⟩ ?_
  rintro ⟨i, fd, dn⟩ ⟨h1, h2⟩ ih
  simp only at h1 h2 ih
  by_cases hi : i < n
  · obtain ⟨d, hd⟩ : ∃ d, n - i = d + 1 := ⟨n - i - 1, by omega⟩
    have hd' : n - (i + 1) = d := by omega
    rw [hd] at h2 ih
    rw [reachL] at h2
    refine g_iload (pc := 10) dX6_reachedFrom_10 rfl ?_
    refine g_iload_n (pc := 12) dX6_reachedFrom_12 rfl ?_
    refine g_icmp_ge (pc := 13) (tgt := 55) dX6_reachedFrom_13 rfl (fun h13 => absurd h13 (nI_ge hi (by omega))) (fun _ => ?_)
    refine g_iload_n (pc := 16) dX6_reachedFrom_16 rfl ?_
    refine g_iload (pc := 17) dX6_reachedFrom_17 rfl ?_
    refine g_icmp_eq (pc := 19) (tgt := 55) dX6_reachedFrom_19 rfl (fun h19 => ?_) (fun h19 => ?_)
    · rw [if_pos h19] at h2
      refine g_iload_n (pc := 55) dX6_reachedFrom_55 rfl ?_
      refine g_ireturn (pc := 56) dX6_reachedFrom_56 rfl rfl ?_
      exact ⟨by rw [h2], rfl⟩
    · rw [if_neg h19] at h2
      refine g_iload_n (pc := 22) dX6_reachedFrom_22 rfl ?_
      refine g_iload (pc := 23) dX6_reachedFrom_23 rfl ?_
      refine g_iconst (pc := 25) (v := (-1)) dX6_reachedFrom_25 rfl ?_
      refine g_ixor (pc := 26) dX6_reachedFrom_26 ?_
      refine g_iand (pc := 27) dX6_reachedFrom_27 ?_
      refine g_invS_r (pc := 28) (As := [_]) dX6_reachedFrom_28 rfl (s_lowestOne) rfl rfl lk_X6_186 rfl (nb rfl) ⟨nb rfl, nb rfl⟩ rfl ?_
      refine g_istore (pc := 31) (lv' := [(0, _), (1, _), (2, _), (3, _), (4, _), (5, _), (6, _)]) dX6_reachedFrom_31 (nl rfl) rfl ?_
      refine g_iload_n (pc := 33) dX6_reachedFrom_33 rfl ?_
      refine g_aload_n (pc := 34) dX6_reachedFrom_34 rfl trivial ?_
      refine g_iload (pc := 35) dX6_reachedFrom_35 rfl ?_
      refine g_iaload (pc := 37) dX6_reachedFrom_37 hk rfl (lowN_lt _) (nl rfl) ?_
      refine g_ior (pc := 38) dX6_reachedFrom_38 ?_
      refine g_istore_n (pc := 39) (lv' := [(0, _), (1, _), (2, _), (3, _), (4, _), (5, _), (6, _)]) dX6_reachedFrom_39 (nl rfl) rfl ?_
      refine g_iload (pc := 40) dX6_reachedFrom_40 rfl ?_
      refine g_iconst (pc := 42) (v := 1) dX6_reachedFrom_42 rfl ?_
      refine g_iload (pc := 43) dX6_reachedFrom_43 rfl ?_
      refine g_ishl (pc := 45) dX6_reachedFrom_45 ?_
      refine g_ior (pc := 46) dX6_reachedFrom_46 ?_
      refine g_istore (pc := 47) (lv' := [(0, _), (1, _), (2, _), (3, _), (4, _), (5, _), (6, _)]) dX6_reachedFrom_47 (nl rfl) rfl ?_
      refine g_iinc (pc := 49) (lv' := [(0, _), (1, _), (2, _), (3, _), (4, _), (5, _), (6, _)]) dX6_reachedFrom_49 rfl (nI_1 _) (nl rfl) rfl ?_
      refine g_goto (pc := 52) (tgt := 10) dX6_reachedFrom_52 rfl ?_
      exact g_sub (lv' := [(0, .ref r), (1, .int (nI a)), (2, .int (nI n)), (3, _), (4, _), (5, _)]) ⟨rfl, rfl, rfl, rfl, rfl, rfl, trivial⟩ (ih (i + 1, _, _) ⟨by simp only; omega, by simp only; rw [hd']; exact h2⟩ (by simp only; omega))
  · have hi' : i = n := by omega
    subst hi'
    refine g_iload (pc := 10) dX6_reachedFrom_10 rfl ?_
    refine g_iload_n (pc := 12) dX6_reachedFrom_12 rfl ?_
    refine g_icmp_ge (pc := 13) (tgt := 55) dX6_reachedFrom_13 rfl (fun _ => ?_) (fun h13 => absurd (nI_le (Nat.le_refl _) (by omega)) h13)
    refine g_iload_n (pc := 55) dX6_reachedFrom_55 rfl ?_
    refine g_ireturn (pc := 56) dX6_reachedFrom_56 rfl rfl ?_
    exact ⟨by rw [← h2, Nat.sub_self]; rfl, rfl⟩
end
end
-- 11.need
section
/-! what a call asks for; throws -/
section
variable {l : Launch} {M : Mem}
theorem th_sub {ps : List Nat} {w : Cond} (h : w ∈ ps.filterMap (fun i => lw_tbl[i]?)) : w ∈ lw_tbl := by
  obtain ⟨i, -, hi⟩ := List.mem_filterMap.mp h
  exact List.mem_of_getElem? hi
theorem th_io : (∀ w ∈ (vx_atS RX6 323 xIO xNm).filter goodWord, w ∈ WS) ∧ (∀ w ∈ (vx_atS RX6 323 xIO xNm).filter (fun w => !goodWord w), w ∈ xB xIO) ∧ (∀ w ∈ Cond.classLink RX6 319 xIO :: Cond.initialized xIO :: vx_atS RX6 323 xIO xNm, vx_ot w = true) := by
  have h : ∀ w ∈ (vx_atS RX6 323 xIO xNm).filter goodWord, w ∈ [19, 109, 110, 111, 113, 120, 121, 122, 128, 160, 167, 224, 240, 273, 547, 548, 549, 550, 551, 552, 553, 554, 555, 556, 557, 558, 559, 560, 561, 562, 563, 564, 565, 566, 567, 568, 569, 570, 571, 572, 573, 574, 575, 576, 577, 578, 579, 580, 581, 582, 583, 588, 589, 590, 591, 592, 593, 594, 595, 596, 597, 598, 599, 600, 601, 602, 603, 604, 605, 606, 607, 608, 609, 617, 634, 635, 636, 637, 638, 639, 640, 641, 642, 644, 645, 646, 647, 648, 649, 1211, 1781].filterMap (fun i => lw_tbl[i]?) := by decide +kernel
  exact ⟨fun w hw => List.mem_filter.mpr ⟨th_sub (h w hw), (List.mem_filter.mp hw).2⟩, by decide +kernel, by decide +kernel⟩
theorem th_ia : (∀ w ∈ (vx_atS RX6 335 xIA xNm).filter goodWord, w ∈ WS) ∧ (∀ w ∈ (vx_atS RX6 335 xIA xNm).filter (fun w => !goodWord w), w ∈ xB xIA) ∧ (∀ w ∈ Cond.classLink RX6 331 xIA :: Cond.initialized xIA :: vx_atS RX6 335 xIA xNm, vx_ot w = true) := by
  have h : ∀ w ∈ (vx_atS RX6 335 xIA xNm).filter goodWord, w ∈ [19, 109, 110, 111, 112, 120, 121, 122, 128, 160, 167, 224, 240, 273, 535, 544, 545, 546, 547, 548, 549, 550, 551, 552, 553, 554, 555, 556, 557, 558, 559, 560, 561, 562, 563, 564, 565, 566, 567, 568, 569, 570, 571, 572, 573, 574, 575, 576, 577, 578, 579, 580, 581, 582, 583, 585, 586, 587, 588, 589, 590, 591, 592, 593, 594, 595, 596, 597, 598, 599, 600, 601, 602, 603, 604, 605, 606, 607, 608, 609, 637, 638, 639, 640, 641, 642, 647, 648, 649, 1211, 1781].filterMap (fun i => lw_tbl[i]?) := by decide +kernel
  exact ⟨fun w hw => List.mem_filter.mpr ⟨th_sub (h w hw), (List.mem_filter.mp hw).2⟩, by decide +kernel, by decide +kernel⟩
theorem th_slot : TH RX6 319 321 323 11 xIO := ⟨Or.inl rfl, wd_634, wd_113, ⟨_, _, rfl⟩, th_io.1, th_io.2.1, th_io.2.2, by decide +kernel, by decide +kernel⟩
theorem th_node : TH RX6 319 326 323 12 xIO := ⟨Or.inl rfl, wd_634, wd_113, ⟨_, _, rfl⟩, th_io.1, th_io.2.1, th_io.2.2, by decide +kernel, by decide +kernel⟩
theorem th_range : TH RX6 331 333 335 10 xIA := ⟨Or.inr rfl, wd_544, wd_112, ⟨_, _, rfl⟩, th_ia.1, th_ia.2.1, th_ia.2.2, by decide +kernel, by decide +kernel⟩
/-- 0 ≤ v < n -/
def inR (v : Int32) (n : Nat) : Prop := ¬ v < 0 ∧ v < nI n
theorem inR_nI {i n : Nat} (h : i < n) (hn : n < 2147483648) : inR (nI i) n := ⟨nI_pos (by omega), nI_lt h hn⟩
theorem inR_of {v : Int32} {n : Nat} (h : inR v n) (hn : n < 2147483648) : ∃ i, i < n ∧ v = nI i := by
  obtain ⟨i, hi, rfl⟩ := nI_of h.1
  exact ⟨i, (nI_ltI hi hn).mp h.2, rfl⟩
theorem s_needSlot {v : Int32} (h : inR v 6) : EvR l jX6_needSlot 6 82 1 6 [.ref 0, .int v] M (.inl none) M := by
  refine ev_intro rfl (nb rfl) rfl ?_
  refine g_iload_n (pc := 0) dX6_needSlot_0 rfl ?_
  refine g_if_lt (pc := 1) (tgt := 10) dX6_needSlot_1 rfl (fun h1 => absurd h1 (h.1)) (fun _ => ?_)
  refine g_iload_n (pc := 4) dX6_needSlot_4 rfl ?_
  refine g_bipush (pc := 5) (v := 6) dX6_needSlot_5 rfl ?_
  refine g_icmp_lt (pc := 7) (tgt := 21) dX6_needSlot_7 rfl (fun _ => ?_) (fun h7 => absurd (h.2) h7)
  refine g_return (pc := 21) dX6_needSlot_21 rfl ?_
  exact ⟨rfl, rfl⟩
theorem x_needSlot {v : Int32} (hS : Shp M) (h : ¬ inR v 6) : EvR l jX6_needSlot 6 82 1 6 [.ref 0, .int v] M (.inr xIO) M := by
  refine ev_intro rfl (nb rfl) rfl ?_
  refine g_iload_n (pc := 0) dX6_needSlot_0 rfl ?_
  refine g_if_lt (pc := 1) (tgt := 10) dX6_needSlot_1 rfl (fun h1 => ?_) (fun h1 => ?_)
  · exact g_throwW (pc := 10) (k := 0) (n := 0) dX6_needSlot_10 dX6_needSlot_13 dX6_needSlot_14 dX6_needSlot_17 dX6_needSlot_20 th_slot rfl (nb rfl) (nb rfl) hS.2.1 ⟨rfl, rfl⟩
  · refine g_iload_n (pc := 4) dX6_needSlot_4 rfl ?_
    refine g_bipush (pc := 5) (v := 6) dX6_needSlot_5 rfl ?_
    refine g_icmp_lt (pc := 7) (tgt := 21) dX6_needSlot_7 rfl (fun h7 => absurd h7 (fun h7 => h ⟨h1, h7⟩)) (fun _ => ?_)
    exact g_throwW (pc := 10) (k := 0) (n := 0) dX6_needSlot_10 dX6_needSlot_13 dX6_needSlot_14 dX6_needSlot_17 dX6_needSlot_20 th_slot rfl (nb rfl) (nb rfl) hS.2.1 ⟨rfl, rfl⟩
theorem s_needNode {v : Int32} {n : Nat} (hS : Shp M) (hz : mI M 3 1 = nI n) (h : inR v n) : EvR l jX6_needNode 6 82 1 6 [.ref 0, .int v] M (.inl none) M := by
  refine ev_intro rfl (nb rfl) rfl ?_
  refine g_iload_n (pc := 0) dX6_needNode_0 rfl ?_
  refine g_if_lt (pc := 1) (tgt := 15) dX6_needNode_1 rfl (fun h1 => absurd h1 (h.1)) (fun _ => ?_)
  refine g_iload_n (pc := 4) dX6_needNode_4 rfl ?_
  refine g_aload_n (pc := 5) dX6_needNode_5 rfl trivial ?_
  refine g_getf (pc := 6) dX6_needNode_6 fk_X6_19 (shK hS rfl) (fv_obj (shR hS rfl)) ?_
  refine g_getf (pc := 9) (v := .int _) dX6_needNode_9 fk_X6_89 (shK hS rfl) (fun _ => congrArg Value.int (hz)) ?_
  refine g_icmp_lt (pc := 12) (tgt := 26) dX6_needNode_12 rfl (fun _ => ?_) (fun h12 => absurd (h.2) h12)
  refine g_return (pc := 26) dX6_needNode_26 rfl ?_
  exact ⟨rfl, rfl⟩
theorem x_needNode {v : Int32} {n : Nat} (hS : Shp M) (hz : mI M 3 1 = nI n) (h : ¬ inR v n) : EvR l jX6_needNode 6 82 1 6 [.ref 0, .int v] M (.inr xIO) M := by
  refine ev_intro rfl (nb rfl) rfl ?_
  refine g_iload_n (pc := 0) dX6_needNode_0 rfl ?_
  refine g_if_lt (pc := 1) (tgt := 15) dX6_needNode_1 rfl (fun h1 => ?_) (fun h1 => ?_)
  · exact g_throwW (pc := 15) (k := 0) (n := 0) dX6_needNode_15 dX6_needNode_18 dX6_needNode_19 dX6_needNode_22 dX6_needNode_25 th_node rfl (nb rfl) (nb rfl) hS.2.1 ⟨rfl, rfl⟩
  · refine g_iload_n (pc := 4) dX6_needNode_4 rfl ?_
    refine g_aload_n (pc := 5) dX6_needNode_5 rfl trivial ?_
    refine g_getf (pc := 6) dX6_needNode_6 fk_X6_19 (shK hS rfl) (fv_obj (shR hS rfl)) ?_
    refine g_getf (pc := 9) (v := .int _) dX6_needNode_9 fk_X6_89 (shK hS rfl) (fun _ => congrArg Value.int (hz)) ?_
    refine g_icmp_lt (pc := 12) (tgt := 26) dX6_needNode_12 rfl (fun h12 => absurd h12 (fun h7 => h ⟨h1, h7⟩)) (fun _ => ?_)
    exact g_throwW (pc := 15) (k := 0) (n := 0) dX6_needNode_15 dX6_needNode_18 dX6_needNode_19 dX6_needNode_22 dX6_needNode_25 th_node rfl (nb rfl) (nb rfl) hS.2.1 ⟨rfl, rfl⟩
theorem s_needRow {v w : Int32} {n : Nat} (hS : Shp M) (hz : mI M 3 1 = nI n) (h : inR v 6) (h' : inR w n) : EvR l jX6_needRow 7 104 2 12 [.ref 0, .int v, .int w] M (.inl none) M := by
  refine ev_intro rfl (nb rfl) rfl ?_
  refine g_aload_n (pc := 0) dX6_needRow_0 rfl trivial ?_
  refine g_iload_n (pc := 1) dX6_needRow_1 rfl ?_
  refine g_invV_r (pc := 2) (As := [_]) dX6_needRow_2 rfl (s_needSlot h) rfl rfl (shK hS rfl) rfl rfl lk_X6_141 rfl (nb rfl) ⟨nb rfl, nb rfl⟩ rfl ?_
  refine g_aload_n (pc := 5) dX6_needRow_5 rfl trivial ?_
  refine g_iload_n (pc := 6) dX6_needRow_6 rfl ?_
  refine g_invV_r (pc := 7) (As := [_]) dX6_needRow_7 rfl (s_needNode hS hz h') rfl rfl (shK hS rfl) rfl rfl lk_X6_328 rfl (nb rfl) ⟨nb rfl, nb rfl⟩ rfl ?_
  refine g_return (pc := 10) dX6_needRow_10 rfl ?_
  exact ⟨rfl, rfl⟩
theorem x_needRow {v w : Int32} {n : Nat} (hS : Shp M) (hz : mI M 3 1 = nI n) (h : ¬ (inR v 6 ∧ inR w n)) : EvR l jX6_needRow 7 104 2 12 [.ref 0, .int v, .int w] M (.inr xIO) M := by
  refine ev_intro rfl (nb rfl) rfl ?_
  by_cases h1 : inR v 6
  · refine g_aload_n (pc := 0) dX6_needRow_0 rfl trivial ?_
    refine g_iload_n (pc := 1) dX6_needRow_1 rfl ?_
    refine g_invV_r (pc := 2) (As := [_]) dX6_needRow_2 rfl (s_needSlot h1) rfl rfl (shK hS rfl) rfl rfl lk_X6_141 rfl (nb rfl) ⟨nb rfl, nb rfl⟩ rfl ?_
    refine g_aload_n (pc := 5) dX6_needRow_5 rfl trivial ?_
    refine g_iload_n (pc := 6) dX6_needRow_6 rfl ?_
    refine g_invV_x (pc := 7) (As := [_]) dX6_needRow_7 rfl (x_needNode hS hz (fun h2 => h ⟨h1, h2⟩)) rfl rfl (shK hS rfl) rfl rfl lk_X6_328 rfl (nb rfl) ⟨nb rfl, nb rfl⟩ rfl ?_
    exact ⟨rfl, rfl⟩
  · refine g_aload_n (pc := 0) dX6_needRow_0 rfl trivial ?_
    refine g_iload_n (pc := 1) dX6_needRow_1 rfl ?_
    refine g_invV_x (pc := 2) (As := [_]) dX6_needRow_2 rfl (x_needSlot hS h1) rfl rfl (shK hS rfl) rfl rfl lk_X6_141 rfl (nb rfl) ⟨nb rfl, nb rfl⟩ rfl ?_
    exact ⟨rfl, rfl⟩
theorem s_needCell {v w u : Int32} {n : Nat} (hS : Shp M) (hz : mI M 3 1 = nI n) (h : inR v 6) (h' : inR w n) (h2 : inR u n) : EvR l jX6_needCell 8 126 3 18 [.ref 0, .int v, .int w, .int u] M (.inl none) M := by
  refine ev_intro rfl (nb rfl) rfl ?_
  refine g_aload_n (pc := 0) dX6_needCell_0 rfl trivial ?_
  refine g_iload_n (pc := 1) dX6_needCell_1 rfl ?_
  refine g_iload_n (pc := 2) dX6_needCell_2 rfl ?_
  refine g_invV_r (pc := 3) (As := [_, _]) dX6_needCell_3 rfl (s_needRow hS hz h h') rfl rfl (shK hS rfl) rfl rfl lk_X6_120 rfl (nb rfl) ⟨nb rfl, nb rfl⟩ rfl ?_
  refine g_aload_n (pc := 6) dX6_needCell_6 rfl trivial ?_
  refine g_iload_n (pc := 7) dX6_needCell_7 rfl ?_
  refine g_invV_r (pc := 8) (As := [_]) dX6_needCell_8 rfl (s_needNode hS hz h2) rfl rfl (shK hS rfl) rfl rfl lk_X6_328 rfl (nb rfl) ⟨nb rfl, nb rfl⟩ rfl ?_
  refine g_return (pc := 11) dX6_needCell_11 rfl ?_
  exact ⟨rfl, rfl⟩
theorem x_needCell {v w u : Int32} {n : Nat} (hS : Shp M) (hz : mI M 3 1 = nI n) (h : ¬ (inR v 6 ∧ inR w n ∧ inR u n)) : EvR l jX6_needCell 8 126 3 18 [.ref 0, .int v, .int w, .int u] M (.inr xIO) M := by
  refine ev_intro rfl (nb rfl) rfl ?_
  by_cases h1 : inR v 6 ∧ inR w n
  · refine g_aload_n (pc := 0) dX6_needCell_0 rfl trivial ?_
    refine g_iload_n (pc := 1) dX6_needCell_1 rfl ?_
    refine g_iload_n (pc := 2) dX6_needCell_2 rfl ?_
    refine g_invV_r (pc := 3) (As := [_, _]) dX6_needCell_3 rfl (s_needRow hS hz h1.1 h1.2) rfl rfl (shK hS rfl) rfl rfl lk_X6_120 rfl (nb rfl) ⟨nb rfl, nb rfl⟩ rfl ?_
    refine g_aload_n (pc := 6) dX6_needCell_6 rfl trivial ?_
    refine g_iload_n (pc := 7) dX6_needCell_7 rfl ?_
    refine g_invV_x (pc := 8) (As := [_]) dX6_needCell_8 rfl (x_needNode hS hz (fun h2 => h ⟨h1.1, h1.2, h2⟩)) rfl rfl (shK hS rfl) rfl rfl lk_X6_328 rfl (nb rfl) ⟨nb rfl, nb rfl⟩ rfl ?_
    exact ⟨rfl, rfl⟩
  · refine g_aload_n (pc := 0) dX6_needCell_0 rfl trivial ?_
    refine g_iload_n (pc := 1) dX6_needCell_1 rfl ?_
    refine g_iload_n (pc := 2) dX6_needCell_2 rfl ?_
    refine g_invV_x (pc := 3) (As := [_, _]) dX6_needCell_3 rfl (x_needRow hS hz h1) rfl rfl (shK hS rfl) rfl rfl lk_X6_120 rfl (nb rfl) ⟨nb rfl, nb rfl⟩ rfl ?_
    exact ⟨rfl, rfl⟩
theorem s_needRange {v a b : Int32} (h : ¬ v < a) (h' : v ≤ b) : EvR l jX6_needRange 6 82 1 6 [.ref 0, .int v, .int a, .int b] M (.inl none) M := by
  refine ev_intro rfl (nb rfl) rfl ?_
  refine g_iload_n (pc := 0) dX6_needRange_0 rfl ?_
  refine g_iload_n (pc := 1) dX6_needRange_1 rfl ?_
  refine g_icmp_lt (pc := 2) (tgt := 10) dX6_needRange_2 rfl (fun h2 => absurd h2 (h)) (fun _ => ?_)
  refine g_iload_n (pc := 5) dX6_needRange_5 rfl ?_
  refine g_iload_n (pc := 6) dX6_needRange_6 rfl ?_
  refine g_icmp_le (pc := 7) (tgt := 21) dX6_needRange_7 rfl (fun _ => ?_) (fun h7 => absurd (h') h7)
  refine g_return (pc := 21) dX6_needRange_21 rfl ?_
  exact ⟨rfl, rfl⟩
theorem x_needRange {v a b : Int32} (hS : Shp M) (h : ¬ (¬ v < a ∧ v ≤ b)) : EvR l jX6_needRange 6 82 1 6 [.ref 0, .int v, .int a, .int b] M (.inr xIA) M := by
  refine ev_intro rfl (nb rfl) rfl ?_
  refine g_iload_n (pc := 0) dX6_needRange_0 rfl ?_
  refine g_iload_n (pc := 1) dX6_needRange_1 rfl ?_
  refine g_icmp_lt (pc := 2) (tgt := 10) dX6_needRange_2 rfl (fun h2 => ?_) (fun h2 => ?_)
  · exact g_throwW (pc := 10) (k := 0) (n := 0) dX6_needRange_10 dX6_needRange_13 dX6_needRange_14 dX6_needRange_17 dX6_needRange_20 th_range rfl (nb rfl) (nb rfl) hS.2.1 ⟨rfl, rfl⟩
  · refine g_iload_n (pc := 5) dX6_needRange_5 rfl ?_
    refine g_iload_n (pc := 6) dX6_needRange_6 rfl ?_
    refine g_icmp_le (pc := 7) (tgt := 21) dX6_needRange_7 rfl (fun h7 => absurd h7 (fun h7 => h ⟨h2, h7⟩)) (fun _ => ?_)
    exact g_throwW (pc := 10) (k := 0) (n := 0) dX6_needRange_10 dX6_needRange_13 dX6_needRange_14 dX6_needRange_17 dX6_needRange_20 th_range rfl (nb rfl) (nb rfl) hS.2.1 ⟨rfl, rfl⟩
/-- the states' bases -/
def bases : List Nat := [3, 17, 32, 46, 60, 74, 88, 102, 116, 130, 145, 159]
theorem base_ok : ∀ b ∈ bases, (LAY[b]? = some (.inr 5) ∧ LAY[b + 1]? = some (.inl (.object kMx, 6)) ∧ REFT b 0 = some (b + 1)) ∧ ∀ s, s < 6 → LAY[b + 2 + 2 * s]? = some (.inr 2) ∧ LAY[b + 3 + 2 * s]? = some (kI 32) ∧ REFT (b + 1) s = some (b + 2 + 2 * s) ∧ REFT (b + 2 + 2 * s) 0 = some (b + 3 + 2 * s) := by decide +kernel
theorem s_rowsOf {s : Nat} (hS : Shp M) (hs : s < 6) : EvR l jX6_rowsOf 0 0 0 0 [.ref 0, .int (nI s)] M (.inl (some (.ref (6 + 2 * s)))) M := by
  obtain ⟨g1, g2, g3, g4⟩ := (base_ok 3 (by decide)).2 s hs
  rw [show 3 + 3 + 2 * s = 6 + 2 * s by omega] at g4 g2
  refine ev_intro rfl (nb rfl) rfl ?_
  refine g_aload_n (pc := 0) dX6_rowsOf_0 rfl trivial ?_
  refine g_getf (pc := 1) dX6_rowsOf_1 fk_X6_19 (shK hS rfl) (fv_obj (shR hS rfl)) ?_
  refine g_getf (pc := 4) dX6_rowsOf_4 fk_X6_225 (shK hS rfl) (fv_arr (shR hS rfl)) ?_
  refine g_iload_n (pc := 7) dX6_rowsOf_7 rfl ?_
  refine g_aaload_Matrix (pc := 8) dX6_rowsOf_8 (shK hS rfl) rfl hs (by decide) (shR hS g3) ?_
  refine g_getf (pc := 9) dX6_rowsOf_9 fk_X6_229 (shK hS g1) (fv_arr (shR hS g4)) ?_
  refine g_areturn (pc := 12) dX6_rowsOf_12 rfl (Or.inr ⟨_, rfl⟩) ?_
  exact ⟨rfl, rfl⟩
end
end
-- 12.state
section
/-! matrices and states -/
section
variable {l : Launch} {M : Mem}
/-- a matrix's cells -/
def isMx (m : Nat) : Prop := LAY[m]? = some (.inr 2) ∧ LAY[m + 1]? = some (kI 32) ∧ REFT m 0 = some (m + 1)
def isSt (b : Nat) : Prop := (LAY[b]? = some (.inr 5) ∧ LAY[b + 1]? = some (.inl (.object kMx, 6)) ∧ REFT b 0 = some (b + 1)) ∧ ∀ s, s < 6 → isMx (b + 2 + 2 * s) ∧ REFT (b + 1) s = some (b + 2 + 2 * s)
theorem st_of {b : Nat} (h : b ∈ bases) : isSt b := by
  obtain ⟨h1, h2⟩ := base_ok b h
  refine ⟨h1, fun s hs => ?_⟩
  obtain ⟨g1, g2, g3, g4⟩ := h2 s hs
  have e : b + 3 + 2 * s = b + 2 + 2 * s + 1 := by omega
  rw [e] at g2 g4
  exact ⟨⟨g1, g2, g4⟩, g3⟩
def mxLook (M : Mem) (m : Nat) (x : Int32) : Mem := if mI M m 1 = 0 then M else pI (pI M m 2 x) m 3 (mI (pI M m 2 x) m 3 + x)
def mxAnew (M : Mem) (m : Nat) (x : Int32) : Mem := if mI M m 1 = 0 then M else pI (mxLook M m x) m 4 (mI (mxLook M m x) m 4 + 1)
theorem Shp.look {m : Nat} {x : Int32} (hS : Shp M) : Shp (mxLook M m x) := by unfold mxLook; split <;> exact hS
theorem Shp.anew {m : Nat} {x : Int32} (hS : Shp M) : Shp (mxAnew M m x) := by
  unfold mxAnew
  split
  · exact hS
  · exact hS.look (m := m) (x := x)
theorem s_noteLooked {m : Nat} {x : Int32} (hS : Shp M) (hm : isMx m) : EvR l jX2_noteLooked 0 0 0 0 [.ref m, .int x] M (.inl none) (mxLook M m x) := by
  refine ev_intro rfl (nb rfl) rfl ?_
  unfold mxLook
  refine g_aload_n (pc := 0) dX2_noteLooked_0 rfl trivial ?_
  refine g_getf (pc := 1) (v := .int (mI _ _ _)) dX2_noteLooked_1 fk_X2_15 (shK hS hm.1) (fun _ => rfl) ?_
  refine g_if_eq (pc := 4) (tgt := 22) dX2_noteLooked_4 rfl (fun h4 => ?_) (fun h4 => ?_)
  · refine g_return (pc := 22) dX2_noteLooked_22 rfl ?_
    exact ⟨rfl, (if_pos h4).symm⟩
  · refine g_aload_n (pc := 7) dX2_noteLooked_7 rfl trivial ?_
    refine g_iload_n (pc := 8) dX2_noteLooked_8 rfl ?_
    refine g_putI (pc := 9) dX2_noteLooked_9 fp_X2_19 (shK hS hm.1) ⟨rfl, rfl⟩ (fun _ _ _ _ => rfl) ?_
    refine g_aload_n (pc := 12) dX2_noteLooked_12 rfl trivial ?_
    refine g_dup (pc := 13) dX2_noteLooked_13 rfl ?_
    refine g_getf (pc := 14) (v := .int (mI _ _ _)) dX2_noteLooked_14 fk_X2_23 (shK hS hm.1) (fun _ => rfl) ?_
    refine g_iload_n (pc := 17) dX2_noteLooked_17 rfl ?_
    refine g_iadd (pc := 18) dX2_noteLooked_18 ?_
    refine g_putI (pc := 19) dX2_noteLooked_19 fp_X2_23 (shK hS hm.1) ⟨rfl, rfl⟩ (fun _ _ _ _ => rfl) ?_
    refine g_return (pc := 22) dX2_noteLooked_22 rfl ?_
    exact ⟨rfl, (if_neg h4).symm⟩
theorem s_noteMadeAnew {m : Nat} {x : Int32} (hS : Shp M) (hm : isMx m) : EvR l jX2_noteMadeAnew 1 21 0 0 [.ref m, .int x] M (.inl none) (mxAnew M m x) := by
  refine ev_intro rfl (nb rfl) rfl ?_
  unfold mxAnew
  have hS2 : Shp (mxLook M m x) := hS.look
  refine g_aload_n (pc := 0) dX2_noteMadeAnew_0 rfl trivial ?_
  refine g_getf (pc := 1) (v := .int (mI _ _ _)) dX2_noteMadeAnew_1 fk_X2_15 (shK hS hm.1) (fun _ => rfl) ?_
  refine g_if_eq (pc := 4) (tgt := 22) dX2_noteMadeAnew_4 rfl (fun h4 => ?_) (fun h4 => ?_)
  · refine g_return (pc := 22) dX2_noteMadeAnew_22 rfl ?_
    exact ⟨rfl, (if_pos h4).symm⟩
  · refine g_aload_n (pc := 7) dX2_noteMadeAnew_7 rfl trivial ?_
    refine g_iload_n (pc := 8) dX2_noteMadeAnew_8 rfl ?_
    refine g_invV_r (pc := 9) (As := [_]) dX2_noteMadeAnew_9 rfl (s_noteLooked hS hm) rfl rfl (shK hS hm.1) rfl rfl lk_X2_35 rfl (nb rfl) ⟨nb rfl, nb rfl⟩ rfl ?_
    refine g_aload_n (pc := 12) dX2_noteMadeAnew_12 rfl trivial ?_
    refine g_dup (pc := 13) dX2_noteMadeAnew_13 rfl ?_
    refine g_getf (pc := 14) (v := .int (mI _ _ _)) dX2_noteMadeAnew_14 fk_X2_26 (shK hS2 hm.1) (fun _ => rfl) ?_
    refine g_iconst (pc := 17) (v := 1) dX2_noteMadeAnew_17 rfl ?_
    refine g_iadd (pc := 18) dX2_noteMadeAnew_18 ?_
    refine g_putI (pc := 19) dX2_noteMadeAnew_19 fp_X2_26 (shK hS2 hm.1) ⟨rfl, rfl⟩ (fun _ _ _ _ => rfl) ?_
    refine g_return (pc := 22) dX2_noteMadeAnew_22 rfl ?_
    exact ⟨rfl, (if_neg h4).symm⟩
/-- all 0 -/
def mxEmpty (M : Mem) (m : Nat) : Mem := pI (pI (pI (pI (sI M (m + 1) (wr (mI M (m + 1)) (fun _ => 0) 32)) m 1 0) m 2 0) m 3 0) m 4 0
theorem s_mxEmpty {m : Nat} (hS : Shp M) (hm : isMx m) : EvR l jX2_makeEmpty 0 0 0 0 [.ref m] M (.inl none) (mxEmpty M m) := by
  refine ev_intro rfl (nb rfl) rfl ?_
  refine g_iconst (pc := 0) (v := 0) dX2_makeEmpty_0 rfl ?_
  refine g_istore_n (pc := 1) (lv' := [(0, _), (1, _)]) dX2_makeEmpty_1 (nl rfl) rfl ?_
  refine go_loop (pc := 2) 32 (fun i => [(0, .ref m), (1, .int (nI i))]) (fun i => sI M (m + 1) (wr (mI M (m + 1)) (fun _ => 0) i)) ⟨rfl, rfl, trivial⟩ (sI_eq (wr_0 _ _)) ?_ ?_
  · intro i hi ih
    refine g_iload_n (pc := 2) dX2_makeEmpty_2 rfl ?_
    refine g_bipush (pc := 3) (v := 32) dX2_makeEmpty_3 rfl ?_
    refine g_icmp_ge (pc := 5) (tgt := 21) dX2_makeEmpty_5 rfl (fun h5 => absurd h5 (nI_ge (b := 32) hi (by omega))) (fun _ => ?_)
    refine g_aload_n (pc := 8) dX2_makeEmpty_8 rfl trivial ?_
    refine g_getf (pc := 9) dX2_makeEmpty_9 fk_X2_9 (shK hS hm.1) (fv_arr (shR hS hm.2.2)) ?_
    refine g_iload_n (pc := 12) dX2_makeEmpty_12 rfl ?_
    refine g_iconst (pc := 13) (v := 0) dX2_makeEmpty_13 rfl ?_
    refine g_iastore (pc := 14) dX2_makeEmpty_14 (shK hS hm.2.1) rfl (by omega) (nl rfl) ?_
    refine g_iinc (pc := 15) (lv' := [(0, _), (1, _)]) dX2_makeEmpty_15 rfl (nI_1 _) (nl rfl) rfl ?_
    refine g_goto (pc := 18) (tgt := 2) dX2_makeEmpty_18 rfl ?_
    exact go_cast (sI_st (wr_s _ _ i)) ih
  · refine g_iload_n (pc := 2) dX2_makeEmpty_2 rfl ?_
    refine g_bipush (pc := 3) (v := 32) dX2_makeEmpty_3 rfl ?_
    refine g_icmp_ge (pc := 5) (tgt := 21) dX2_makeEmpty_5 rfl (fun _ => ?_) (fun h5 => absurd (nI_le (Nat.le_refl 32) (by omega)) h5)
    refine g_aload_n (pc := 21) dX2_makeEmpty_21 rfl trivial ?_
    refine g_iconst (pc := 22) (v := 0) dX2_makeEmpty_22 rfl ?_
    refine g_putI (pc := 23) dX2_makeEmpty_23 fp_X2_15 (shK hS hm.1) ⟨rfl, rfl⟩ (fun _ _ _ _ => rfl) ?_
    refine g_aload_n (pc := 26) dX2_makeEmpty_26 rfl trivial ?_
    refine g_iconst (pc := 27) (v := 0) dX2_makeEmpty_27 rfl ?_
    refine g_putI (pc := 28) dX2_makeEmpty_28 fp_X2_19 (shK hS hm.1) ⟨rfl, rfl⟩ (fun _ _ _ _ => rfl) ?_
    refine g_aload_n (pc := 31) dX2_makeEmpty_31 rfl trivial ?_
    refine g_iconst (pc := 32) (v := 0) dX2_makeEmpty_32 rfl ?_
    refine g_putI (pc := 33) dX2_makeEmpty_33 fp_X2_23 (shK hS hm.1) ⟨rfl, rfl⟩ (fun _ _ _ _ => rfl) ?_
    refine g_aload_n (pc := 36) dX2_makeEmpty_36 rfl trivial ?_
    refine g_iconst (pc := 37) (v := 0) dX2_makeEmpty_37 rfl ?_
    refine g_putI (pc := 38) dX2_makeEmpty_38 fp_X2_26 (shK hS hm.1) ⟨rfl, rfl⟩ (fun _ _ _ _ => rfl) ?_
    refine g_return (pc := 41) dX2_makeEmpty_41 rfl ?_
    exact ⟨rfl, rfl⟩
/-- m becomes as o -/
def mxTake (M : Mem) (m o : Nat) : Mem := pI (pI (pI (pI (sI M (m + 1) (wr (mI M (m + 1)) (mI M (o + 1)) 32)) m 1 (mI M o 1)) m 2 (mI M o 2)) m 3 (mI M o 3)) m 4 (mI M o 4)
def k01 (x : Int32) : Prop := x = 0 ∨ x = 1
theorem k01_n {x : Int32} (h : k01 x) : narrow .boolean (.int x) = .int x ∧ fits .boolean (.int x) = true := by rcases h with rfl | rfl <;> exact ⟨rfl, rfl⟩
theorem s_mxTake {m o : Nat} (hS : Shp M) (hm : isMx m) (ho : isMx o) (h1 : o ≠ m) (h2 : o ≠ m + 1) (hk : k01 (mI M o 1)) : EvR l jX2_takeFrom 1 60 0 0 [.ref m, .ref o] M (.inl none) (mxTake M m o) := by
  refine ev_intro rfl (nb rfl) rfl ?_
  have e1 : mI (sI M (m + 1) (wr (mI M (m + 1)) (mI M (o + 1)) 32)) o = mI M o := sI_ne h2
  refine g_aload_n (pc := 0) dX2_takeFrom_0 rfl trivial ?_
  refine g_getf (pc := 1) dX2_takeFrom_1 fk_X2_9 (shK hS ho.1) (fv_arr (shR hS ho.2.2)) ?_
  refine g_iconst (pc := 4) (v := 0) dX2_takeFrom_4 rfl ?_
  refine g_aload_n (pc := 5) dX2_takeFrom_5 rfl trivial ?_
  refine g_getf (pc := 6) dX2_takeFrom_6 fk_X2_9 (shK hS hm.1) (fv_arr (shR hS hm.2.2)) ?_
  refine g_iconst (pc := 9) (v := 0) dX2_takeFrom_9 rfl ?_
  refine g_bipush (pc := 10) (v := 32) dX2_takeFrom_10 rfl ?_
  refine g_copyI (pc := 12) dX2_takeFrom_12 wd_508 wd_510 wd_509 wd_108 (shK hS ho.2.1) (shK hS hm.2.1) rfl rfl rfl (by decide) (by decide) ⟨by decide, by decide⟩ hS.2.1 (nb rfl) (nb rfl) ?_
  rw [cpy_wr]
  refine g_aload_n (pc := 15) dX2_takeFrom_15 rfl trivial ?_
  refine g_aload_n (pc := 16) dX2_takeFrom_16 rfl trivial ?_
  refine g_getf (pc := 17) (v := .int _) dX2_takeFrom_17 fk_X2_15 (shK hS ho.1) (fun _ => congrArg Value.int ((congrFun e1 1))) ?_
  refine g_putI (pc := 20) dX2_takeFrom_20 fp_X2_15 (shK hS hm.1) (k01_n hk) (fun _ _ _ _ => rfl) ?_
  refine g_aload_n (pc := 23) dX2_takeFrom_23 rfl trivial ?_
  refine g_aload_n (pc := 24) dX2_takeFrom_24 rfl trivial ?_
  refine g_getf (pc := 25) (v := .int _) dX2_takeFrom_25 fk_X2_19 (shK hS ho.1) (fun _ => congrArg Value.int (((congrFun (pI_i h1) 2).trans (congrFun e1 2)))) ?_
  refine g_putI (pc := 28) dX2_takeFrom_28 fp_X2_19 (shK hS hm.1) ⟨rfl, rfl⟩ (fun _ _ _ _ => rfl) ?_
  refine g_aload_n (pc := 31) dX2_takeFrom_31 rfl trivial ?_
  refine g_aload_n (pc := 32) dX2_takeFrom_32 rfl trivial ?_
  refine g_getf (pc := 33) (v := .int _) dX2_takeFrom_33 fk_X2_23 (shK hS ho.1) (fun _ => congrArg Value.int (((congrFun (pI_i h1) 3).trans ((congrFun (pI_i h1) 3).trans (congrFun e1 3))))) ?_
  refine g_putI (pc := 36) dX2_takeFrom_36 fp_X2_23 (shK hS hm.1) ⟨rfl, rfl⟩ (fun _ _ _ _ => rfl) ?_
  refine g_aload_n (pc := 39) dX2_takeFrom_39 rfl trivial ?_
  refine g_aload_n (pc := 40) dX2_takeFrom_40 rfl trivial ?_
  refine g_getf (pc := 41) (v := .int _) dX2_takeFrom_41 fk_X2_26 (shK hS ho.1) (fun _ => congrArg Value.int (((congrFun (pI_i h1) 4).trans ((congrFun (pI_i h1) 4).trans ((congrFun (pI_i h1) 4).trans (congrFun e1 4)))))) ?_
  refine g_putI (pc := 44) dX2_takeFrom_44 fp_X2_26 (shK hS hm.1) ⟨rfl, rfl⟩ (fun _ _ _ _ => rfl) ?_
  refine g_return (pc := 47) dX2_takeFrom_47 rfl ?_
  exact ⟨rfl, rfl⟩
end
end
-- 13.clos
section
/-! closures -/
section
variable {l : Launch} {M : Mem}
def isCl (c : Nat) : Prop := LAY[c]? = some (.inr 0) ∧ LAY[c + 1]? = some (kI 32) ∧ REFT c 0 = some (c + 1)
theorem cl_ok : ∀ s, s < 6 → (LAY[175 + 2 * s]? = some (.inr 0) ∧ LAY[175 + 2 * s + 1]? = some (kI 32) ∧ REFT (175 + 2 * s) 0 = some (175 + 2 * s + 1)) ∧ REFT 174 s = some (175 + 2 * s) := by decide +kernel
theorem cl_of {s : Nat} (h : s < 6) : isCl (175 + 2 * s) := (cl_ok s h).1
def wIn (g : Nat → Int32) (m : Nat) : Nat → Nat → Int32
  | 0 => g
  | i + 1 => if hb (wIn g m i i) m = true then fun_set (wIn g m i) i (wIn g m i i ||| wIn g m i m) else wIn g m i
def wOut (g : Nat → Int32) (n : Nat) : Nat → Nat → Int32
  | 0 => g
  | m + 1 => wIn (wOut g n m) m n
def clMake (M : Mem) (c r n : Nat) : Mem := pI (sI M (c + 1) (wOut (wr (mI M (c + 1)) (mI M r) n) n n)) c 1 1
theorem s_makeFrom {c r n : Nat} (hS : Shp M) (hc : isCl c) (hk : (mK M)[r]? = some (kI 32)) (hn : n ≤ 32) : EvR l jX0_makeFrom 1 60 0 0 [.ref c, .ref r, .int (nI n)] M (.inl none) (clMake M c r n) := by
  refine ev_intro rfl (nb rfl) rfl ?_
  unfold clMake
  refine g_aload_n (pc := 0) dX0_makeFrom_0 rfl trivial ?_
  refine g_iconst (pc := 1) (v := 0) dX0_makeFrom_1 rfl ?_
  refine g_aload_n (pc := 2) dX0_makeFrom_2 rfl trivial ?_
  refine g_getf (pc := 3) dX0_makeFrom_3 fk_X0_9 (shK hS hc.1) (fv_arr (shR hS hc.2.2)) ?_
  refine g_iconst (pc := 6) (v := 0) dX0_makeFrom_6 rfl ?_
  refine g_iload_n (pc := 7) dX0_makeFrom_7 rfl ?_
  refine g_copyI (pc := 8) (sp := 0) (dp := 0) dX0_makeFrom_8 wd_790 wd_510 wd_509 wd_108 hk (shK hS hc.2.1) rfl rfl rfl (by omega) (by omega) ⟨by decide, by decide⟩ hS.2.1 (nb rfl) (nb rfl) ?_
  rw [cpy_wr]
  generalize wr (mI M (c + 1)) (mI M r) n = g0
  refine g_iconst (pc := 11) (v := 0) dX0_makeFrom_11 rfl ?_
  refine g_istore_n (pc := 12) (lv' := [(0, _), (1, _), (2, _), (3, _)]) dX0_makeFrom_12 (nl rfl) rfl ?_
  refine go_loop (pc := 13) n (fun m => [(0, .ref c), (1, .ref r), (2, .int (nI n)), (3, .int (nI m))]) (fun m => sI M (c + 1) (wOut g0 n m)) ⟨rfl, rfl, rfl, rfl, trivial⟩ rfl ?_ ?_
  · intro m hm ihm
    refine g_iload_n (pc := 13) dX0_makeFrom_13 rfl ?_
    refine g_iload_n (pc := 14) dX0_makeFrom_14 rfl ?_
    refine g_icmp_ge (pc := 15) (tgt := 69) dX0_makeFrom_15 rfl (fun h15 => absurd h15 (nI_ge hm (by omega))) (fun _ => ?_)
    refine g_iconst (pc := 18) (v := 0) dX0_makeFrom_18 rfl ?_
    refine g_istore (pc := 19) (lv' := [(0, _), (1, _), (2, _), (3, _), (4, _)]) dX0_makeFrom_19 (nl rfl) rfl ?_
    refine go_loop (pc := 21) n (fun i => [(0, .ref c), (1, .ref r), (2, .int (nI n)), (3, .int (nI m)), (4, .int (nI i))]) (fun i => sI M (c + 1) (wIn (wOut g0 n m) m i)) ⟨rfl, rfl, rfl, rfl, rfl, trivial⟩ rfl ?_ ?_
    · intro i hi ih
      have hS1 : Shp (sI M (c + 1) (wIn (wOut g0 n m) m i)) := hS
      have e1 := sI_self M (c + 1) (wIn (wOut g0 n m) m i)
      refine g_iload (pc := 21) dX0_makeFrom_21 rfl ?_
      refine g_iload_n (pc := 23) dX0_makeFrom_23 rfl ?_
      refine g_icmp_ge (pc := 24) (tgt := 63) dX0_makeFrom_24 rfl (fun h24 => absurd h24 (nI_ge hi (by omega))) (fun _ => ?_)
      refine g_aload_n (pc := 27) dX0_makeFrom_27 rfl trivial ?_
      refine g_getf (pc := 28) dX0_makeFrom_28 fk_X0_9 (shK hS hc.1) (fv_arr (shR hS hc.2.2)) ?_
      refine g_iload (pc := 31) dX0_makeFrom_31 rfl ?_
      refine g_iaload (pc := 33) dX0_makeFrom_33 (shK hS hc.2.1) rfl (by omega) (nl rfl) ?_
      rw [e1]
      refine g_iload_n (pc := 34) dX0_makeFrom_34 rfl ?_
      refine g_invSN_r (pc := 35) (As := [_, _]) dX0_makeFrom_35 rfl (s_hasOne (by omega)) rfl rfl lk_X0_21 rfl (nb rfl) ⟨nb rfl, nb rfl⟩ rfl ?_
      refine g_if_eq (pc := 38) (tgt := 57) dX0_makeFrom_38 rfl (fun h38 => ?_) (fun h38 => ?_)
      · rw [b1_0] at h38
        refine g_iinc (pc := 57) (lv' := [(0, _), (1, _), (2, _), (3, _), (4, _)]) dX0_makeFrom_57 rfl (nI_1 _) (nl rfl) rfl ?_
        refine g_goto (pc := 60) (tgt := 21) dX0_makeFrom_60 rfl ?_
        exact go_cast (by rw [wIn, if_neg (by rw [h38]; decide)]) ih
      · rw [b1_0, Bool.not_eq_false] at h38
        refine g_aload_n (pc := 41) dX0_makeFrom_41 rfl trivial ?_
        refine g_getf (pc := 42) dX0_makeFrom_42 fk_X0_9 (shK hS hc.1) (fv_arr (shR hS hc.2.2)) ?_
        refine g_iload (pc := 45) dX0_makeFrom_45 rfl ?_
        refine g_dup2_11 (pc := 47) dX0_makeFrom_47 rfl rfl ?_
        refine g_iaload (pc := 48) dX0_makeFrom_48 (shK hS hc.2.1) rfl (by omega) (nl rfl) ?_
        refine g_aload_n (pc := 49) dX0_makeFrom_49 rfl trivial ?_
        refine g_getf (pc := 50) dX0_makeFrom_50 fk_X0_9 (shK hS hc.1) (fv_arr (shR hS hc.2.2)) ?_
        refine g_iload_n (pc := 53) dX0_makeFrom_53 rfl ?_
        refine g_iaload (pc := 54) dX0_makeFrom_54 (shK hS hc.2.1) rfl (by omega) (nl rfl) ?_
        rw [e1]
        refine g_ior (pc := 55) dX0_makeFrom_55 ?_
        refine g_iastore (pc := 56) dX0_makeFrom_56 (shK hS hc.2.1) rfl (by omega) (nl rfl) ?_
        refine g_iinc (pc := 57) (lv' := [(0, _), (1, _), (2, _), (3, _), (4, _)]) dX0_makeFrom_57 rfl (nI_1 _) (nl rfl) rfl ?_
        refine g_goto (pc := 60) (tgt := 21) dX0_makeFrom_60 rfl ?_
        exact go_cast (sI_st (by rw [wIn, if_pos h38])) ih
    · refine g_iload (pc := 21) dX0_makeFrom_21 rfl ?_
      refine g_iload_n (pc := 23) dX0_makeFrom_23 rfl ?_
      refine g_icmp_ge (pc := 24) (tgt := 63) dX0_makeFrom_24 rfl (fun _ => ?_) (fun h24 => absurd (nI_le (Nat.le_refl _) (by omega)) h24)
      refine g_iinc (pc := 63) (lv' := [(0, _), (1, _), (2, _), (3, _), (4, _)]) dX0_makeFrom_63 rfl (nI_1 _) (nl rfl) rfl ?_
      refine g_goto (pc := 66) (tgt := 13) dX0_makeFrom_66 rfl ?_
      exact g_sub (lv' := [(0, _), (1, _), (2, _), (3, _)]) ⟨rfl, rfl, rfl, rfl, trivial⟩ ihm
  · refine g_iload_n (pc := 13) dX0_makeFrom_13 rfl ?_
    refine g_iload_n (pc := 14) dX0_makeFrom_14 rfl ?_
    refine g_icmp_ge (pc := 15) (tgt := 69) dX0_makeFrom_15 rfl (fun _ => ?_) (fun h15 => absurd (nI_le (Nat.le_refl _) (by omega)) h15)
    refine g_aload_n (pc := 69) dX0_makeFrom_69 rfl trivial ?_
    refine g_iconst (pc := 70) (v := 1) dX0_makeFrom_70 rfl ?_
    refine g_putI (pc := 71) dX0_makeFrom_71 fp_X0_25 (shK hS hc.1) ⟨rfl, rfl⟩ (fun _ _ _ _ => rfl) ?_
    refine g_return (pc := 74) dX0_makeFrom_74 rfl ?_
    exact ⟨rfl, rfl⟩
def nodesTo (g : Nat → Int32) (a n : Nat) : Int32 := colOf g a n ||| bitI a
theorem s_nodesTo {c a n : Nat} (hS : Shp M) (hc : isCl c) (ha : a < 32) (hn : n ≤ 32) : EvR l jX0_nodesTo 1 40 0 0 [.ref c, .int (nI a), .int (nI n)] M (.inl (some (.int (nodesTo (mI M (c + 1)) a n)))) M := by
  refine ev_intro rfl (nb rfl) rfl ?_
  refine g_aload_n (pc := 0) dX0_nodesTo_0 rfl trivial ?_
  refine g_getf (pc := 1) dX0_nodesTo_1 fk_X0_9 (shK hS hc.1) (fv_arr (shR hS hc.2.2)) ?_
  refine g_iload_n (pc := 4) dX0_nodesTo_4 rfl ?_
  refine g_iload_n (pc := 5) dX0_nodesTo_5 rfl ?_
  refine g_invSN_r (pc := 6) (As := [_, _, _]) dX0_nodesTo_6 rfl (s_columnOf (shK hS hc.2.1) ha hn) rfl rfl lk_X0_29 rfl (nb rfl) ⟨nb rfl, nb rfl⟩ rfl ?_
  refine g_iconst (pc := 9) (v := 1) dX0_nodesTo_9 rfl ?_
  refine g_iload_n (pc := 10) dX0_nodesTo_10 rfl ?_
  refine g_ishl (pc := 11) dX0_nodesTo_11 ?_
  refine g_ior (pc := 12) dX0_nodesTo_12 ?_
  refine g_ireturn (pc := 13) dX0_nodesTo_13 rfl rfl ?_
  exact ⟨rfl, rfl⟩
def lowMut (g : Nat → Int32) (a n : Nat) : Nat := lowN (g a &&& colOf g a n ||| bitI a)
theorem s_lowestMutual {c a n : Nat} (hS : Shp M) (hc : isCl c) (ha : a < 32) (hn : n ≤ 32) : EvR l jX0_lowestMutual 2 40 0 0 [.ref c, .int (nI a), .int (nI n)] M (.inl (some (.int (nI (lowMut (mI M (c + 1)) a n))))) M := by
  refine ev_intro rfl (nb rfl) rfl ?_
  refine g_aload_n (pc := 0) dX0_lowestMutual_0 rfl trivial ?_
  refine g_getf (pc := 1) dX0_lowestMutual_1 fk_X0_9 (shK hS hc.1) (fv_arr (shR hS hc.2.2)) ?_
  refine g_iload_n (pc := 4) dX0_lowestMutual_4 rfl ?_
  refine g_iaload (pc := 5) dX0_lowestMutual_5 (shK hS hc.2.1) rfl (by omega) (nl rfl) ?_
  refine g_aload_n (pc := 6) dX0_lowestMutual_6 rfl trivial ?_
  refine g_getf (pc := 7) dX0_lowestMutual_7 fk_X0_9 (shK hS hc.1) (fv_arr (shR hS hc.2.2)) ?_
  refine g_iload_n (pc := 10) dX0_lowestMutual_10 rfl ?_
  refine g_iload_n (pc := 11) dX0_lowestMutual_11 rfl ?_
  refine g_invSN_r (pc := 12) (As := [_, _, _]) dX0_lowestMutual_12 rfl (s_columnOf (shK hS hc.2.1) ha hn) rfl rfl lk_X0_29 rfl (nb rfl) ⟨nb rfl, nb rfl⟩ rfl ?_
  refine g_iand (pc := 15) dX0_lowestMutual_15 ?_
  refine g_iconst (pc := 16) (v := 1) dX0_lowestMutual_16 rfl ?_
  refine g_iload_n (pc := 17) dX0_lowestMutual_17 rfl ?_
  refine g_ishl (pc := 18) dX0_lowestMutual_18 ?_
  refine g_ior (pc := 19) dX0_lowestMutual_19 ?_
  refine g_invSN_r (pc := 20) (As := [_]) dX0_lowestMutual_20 rfl (s_lowestOne) rfl rfl lk_X0_33 rfl (nb rfl) ⟨nb rfl, nb rfl⟩ rfl ?_
  refine g_ireturn (pc := 23) dX0_lowestMutual_23 rfl rfl ?_
  exact ⟨rfl, rfl⟩
def gainF (g : Nat → Int32) (nodes tg : Int32) : Nat → Int32
  | 0 => 0
  | i + 1 => if hb nodes i = true then gainF g nodes tg i + bcJ (tg &&& (g i ^^^ -1)) else gainF g nodes tg i
def gainW (g : Nat → Int32) (nodes : Int32) (b n : Nat) : Int32 := gainF g nodes (g b ||| bitI b) n
theorem s_gainWith {c b n : Nat} {nodes : Int32} (hS : Shp M) (hc : isCl c) (hb9 : b < 32) (hn : n ≤ 32) : EvR l jX0_gainWith 1 40 0 0 [.ref c, .int nodes, .int (nI b), .int (nI n)] M (.inl (some (.int (gainW (mI M (c + 1)) nodes b n)))) M := by
  refine ev_intro rfl (nb rfl) rfl ?_
  unfold gainW
  refine g_aload_n (pc := 0) dX0_gainWith_0 rfl trivial ?_
  refine g_getf (pc := 1) dX0_gainWith_1 fk_X0_9 (shK hS hc.1) (fv_arr (shR hS hc.2.2)) ?_
  refine g_iload_n (pc := 4) dX0_gainWith_4 rfl ?_
  refine g_iaload (pc := 5) dX0_gainWith_5 (shK hS hc.2.1) rfl (by omega) (nl rfl) ?_
  refine g_iconst (pc := 6) (v := 1) dX0_gainWith_6 rfl ?_
  refine g_iload_n (pc := 7) dX0_gainWith_7 rfl ?_
  refine g_ishl (pc := 8) dX0_gainWith_8 ?_
  refine g_ior (pc := 9) dX0_gainWith_9 ?_
  refine g_istore (pc := 10) (lv' := [(0, _), (1, _), (2, _), (3, _), (4, _)]) dX0_gainWith_10 (nl rfl) rfl ?_
  refine g_iconst (pc := 12) (v := 0) dX0_gainWith_12 rfl ?_
  refine g_istore (pc := 13) (lv' := [(0, _), (1, _), (2, _), (3, _), (4, _), (5, _)]) dX0_gainWith_13 (nl rfl) rfl ?_
  refine g_iconst (pc := 15) (v := 0) dX0_gainWith_15 rfl ?_
  refine g_istore (pc := 16) (lv' := [(0, _), (1, _), (2, _), (3, _), (4, _), (5, _), (6, _)]) dX0_gainWith_16 (nl rfl) rfl ?_
  refine go_loop (pc := 18) n (fun i => [(0, .ref c), (1, .int nodes), (2, .int (nI b)), (3, .int (nI n)), (4, .int (mI M (c + 1) b ||| bitI b)), (5, .int (gainF (mI M (c + 1)) nodes (mI M (c + 1) b ||| bitI b) i)), (6, .int (nI i))]) (fun _ => M) ⟨rfl, rfl, rfl, rfl, rfl, rfl, rfl, trivial⟩ rfl ?_ ?_
  · intro i hi ih
    refine g_iload (pc := 18) dX0_gainWith_18 rfl ?_
    refine g_iload_n (pc := 20) dX0_gainWith_20 rfl ?_
    refine g_icmp_ge (pc := 21) (tgt := 59) dX0_gainWith_21 rfl (fun h21 => absurd h21 (nI_ge hi (by omega))) (fun _ => ?_)
    refine g_iload_n (pc := 24) dX0_gainWith_24 rfl ?_
    refine g_iload (pc := 25) dX0_gainWith_25 rfl ?_
    refine g_invSN_r (pc := 27) (As := [_, _]) dX0_gainWith_27 rfl (s_hasOne (by omega)) rfl rfl lk_X0_21 rfl (nb rfl) ⟨nb rfl, nb rfl⟩ rfl ?_
    refine g_if_eq (pc := 30) (tgt := 53) dX0_gainWith_30 rfl (fun h30 => ?_) (fun h30 => ?_)
    · rw [b1_0] at h30
      refine g_iinc (pc := 53) (lv' := [(0, _), (1, _), (2, _), (3, _), (4, _), (5, _), (6, _)]) dX0_gainWith_53 rfl (nI_1 _) (nl rfl) rfl ?_
      refine g_goto (pc := 56) (tgt := 18) dX0_gainWith_56 rfl ?_
      rw [gainF, if_neg (by rw [h30]; decide)] at ih
      exact ih
    · rw [b1_0, Bool.not_eq_false] at h30
      refine g_iload (pc := 33) dX0_gainWith_33 rfl ?_
      refine g_iload (pc := 35) dX0_gainWith_35 rfl ?_
      refine g_aload_n (pc := 37) dX0_gainWith_37 rfl trivial ?_
      refine g_getf (pc := 38) dX0_gainWith_38 fk_X0_9 (shK hS hc.1) (fv_arr (shR hS hc.2.2)) ?_
      refine g_iload (pc := 41) dX0_gainWith_41 rfl ?_
      refine g_iaload (pc := 43) dX0_gainWith_43 (shK hS hc.2.1) rfl (by omega) (nl rfl) ?_
      refine g_iconst (pc := 44) (v := (-1)) dX0_gainWith_44 rfl ?_
      refine g_ixor (pc := 45) dX0_gainWith_45 ?_
      refine g_iand (pc := 46) dX0_gainWith_46 ?_
      refine g_invS_r (pc := 47) (As := [_]) dX0_gainWith_47 rfl (s_bitCount) rfl rfl lk_X0_37 rfl (nb rfl) ⟨nb rfl, nb rfl⟩ rfl ?_
      refine g_iadd (pc := 50) dX0_gainWith_50 ?_
      refine g_istore (pc := 51) (lv' := [(0, _), (1, _), (2, _), (3, _), (4, _), (5, _), (6, _)]) dX0_gainWith_51 (nl rfl) rfl ?_
      refine g_iinc (pc := 53) (lv' := [(0, _), (1, _), (2, _), (3, _), (4, _), (5, _), (6, _)]) dX0_gainWith_53 rfl (nI_1 _) (nl rfl) rfl ?_
      refine g_goto (pc := 56) (tgt := 18) dX0_gainWith_56 rfl ?_
      rw [gainF, if_pos h30] at ih
      exact ih
  · refine g_iload (pc := 18) dX0_gainWith_18 rfl ?_
    refine g_iload_n (pc := 20) dX0_gainWith_20 rfl ?_
    refine g_icmp_ge (pc := 21) (tgt := 59) dX0_gainWith_21 rfl (fun _ => ?_) (fun h21 => absurd (nI_le (Nat.le_refl _) (by omega)) h21)
    refine g_iload (pc := 59) dX0_gainWith_59 rfl ?_
    refine g_ireturn (pc := 61) dX0_gainWith_61 rfl rfl ?_
    exact ⟨rfl, rfl⟩
def extF (g : Nat → Int32) (nodes tg : Int32) : Nat → Nat → Int32
  | 0 => g
  | i + 1 => if hb nodes i = true then fun_set (extF g nodes tg i) i (extF g nodes tg i i ||| tg) else extF g nodes tg i
theorem s_extend {c b n : Nat} {nodes : Int32} (hS : Shp M) (hc : isCl c) (hb9 : b < 32) (hn : n ≤ 32) : EvR l jX0_extend 2 70 0 0 [.ref c, .int nodes, .int (nI b), .int (nI n)] M (.inl (some (.int (gainW (mI M (c + 1)) nodes b n)))) (sI M (c + 1) (extF (mI M (c + 1)) nodes (mI M (c + 1) b ||| bitI b) n)) := by
  refine ev_intro rfl (nb rfl) rfl ?_
  refine g_aload_n (pc := 0) dX0_extend_0 rfl trivial ?_
  refine g_iload_n (pc := 1) dX0_extend_1 rfl ?_
  refine g_iload_n (pc := 2) dX0_extend_2 rfl ?_
  refine g_iload_n (pc := 3) dX0_extend_3 rfl ?_
  refine g_invV_r (pc := 4) (As := [_, _, _]) dX0_extend_4 rfl (s_gainWith hS hc hb9 hn) rfl rfl (shK hS hc.1) rfl rfl lk_X0_42 rfl (nb rfl) ⟨nb rfl, nb rfl⟩ rfl ?_
  refine g_istore (pc := 7) (lv' := [(0, _), (1, _), (2, _), (3, _), (4, _)]) dX0_extend_7 (nl rfl) rfl ?_
  refine g_aload_n (pc := 9) dX0_extend_9 rfl trivial ?_
  refine g_getf (pc := 10) dX0_extend_10 fk_X0_9 (shK hS hc.1) (fv_arr (shR hS hc.2.2)) ?_
  refine g_iload_n (pc := 13) dX0_extend_13 rfl ?_
  refine g_iaload (pc := 14) dX0_extend_14 (shK hS hc.2.1) rfl (by omega) (nl rfl) ?_
  refine g_iconst (pc := 15) (v := 1) dX0_extend_15 rfl ?_
  refine g_iload_n (pc := 16) dX0_extend_16 rfl ?_
  refine g_ishl (pc := 17) dX0_extend_17 ?_
  refine g_ior (pc := 18) dX0_extend_18 ?_
  refine g_istore (pc := 19) (lv' := [(0, _), (1, _), (2, _), (3, _), (4, _), (5, _)]) dX0_extend_19 (nl rfl) rfl ?_
  refine g_iconst (pc := 21) (v := 0) dX0_extend_21 rfl ?_
  refine g_istore (pc := 22) (lv' := [(0, _), (1, _), (2, _), (3, _), (4, _), (5, _), (6, _)]) dX0_extend_22 (nl rfl) rfl ?_
  generalize gainW (mI M (c + 1)) nodes b n = S
  refine go_loop (pc := 24) n (fun i => [(0, .ref c), (1, .int nodes), (2, .int (nI b)), (3, .int (nI n)), (4, .int S), (5, .int (mI M (c + 1) b ||| bitI b)), (6, .int (nI i))]) (fun i => sI M (c + 1) (extF (mI M (c + 1)) nodes (mI M (c + 1) b ||| bitI b) i)) ⟨rfl, rfl, rfl, rfl, rfl, rfl, rfl, trivial⟩ (sI_id M (c + 1)).symm ?_ ?_
  · intro i hi ih
    have e1 := sI_self M (c + 1) (extF (mI M (c + 1)) nodes (mI M (c + 1) b ||| bitI b) i)
    refine g_iload (pc := 24) dX0_extend_24 rfl ?_
    refine g_iload_n (pc := 26) dX0_extend_26 rfl ?_
    refine g_icmp_ge (pc := 27) (tgt := 57) dX0_extend_27 rfl (fun h27 => absurd h27 (nI_ge hi (by omega))) (fun _ => ?_)
    refine g_iload_n (pc := 30) dX0_extend_30 rfl ?_
    refine g_iload (pc := 31) dX0_extend_31 rfl ?_
    refine g_invSN_r (pc := 33) (As := [_, _]) dX0_extend_33 rfl (s_hasOne (by omega)) rfl rfl lk_X0_21 rfl (nb rfl) ⟨nb rfl, nb rfl⟩ rfl ?_
    refine g_if_eq (pc := 36) (tgt := 51) dX0_extend_36 rfl (fun h36 => ?_) (fun h36 => ?_)
    · rw [b1_0] at h36
      refine g_iinc (pc := 51) (lv' := [(0, _), (1, _), (2, _), (3, _), (4, _), (5, _), (6, _)]) dX0_extend_51 rfl (nI_1 _) (nl rfl) rfl ?_
      refine g_goto (pc := 54) (tgt := 24) dX0_extend_54 rfl ?_
      exact go_cast (by rw [extF, if_neg (by rw [h36]; decide)]) ih
    · rw [b1_0, Bool.not_eq_false] at h36
      refine g_aload_n (pc := 39) dX0_extend_39 rfl trivial ?_
      refine g_getf (pc := 40) dX0_extend_40 fk_X0_9 (shK hS hc.1) (fv_arr (shR hS hc.2.2)) ?_
      refine g_iload (pc := 43) dX0_extend_43 rfl ?_
      refine g_dup2_11 (pc := 45) dX0_extend_45 rfl rfl ?_
      refine g_iaload (pc := 46) dX0_extend_46 (shK hS hc.2.1) rfl (by omega) (nl rfl) ?_
      rw [e1]
      refine g_iload (pc := 47) dX0_extend_47 rfl ?_
      refine g_ior (pc := 49) dX0_extend_49 ?_
      refine g_iastore (pc := 50) dX0_extend_50 (shK hS hc.2.1) rfl (by omega) (nl rfl) ?_
      refine g_iinc (pc := 51) (lv' := [(0, _), (1, _), (2, _), (3, _), (4, _), (5, _), (6, _)]) dX0_extend_51 rfl (nI_1 _) (nl rfl) rfl ?_
      refine g_goto (pc := 54) (tgt := 24) dX0_extend_54 rfl ?_
      exact go_cast (sI_st (by rw [extF, if_pos h36])) ih
  · refine g_iload (pc := 24) dX0_extend_24 rfl ?_
    refine g_iload_n (pc := 26) dX0_extend_26 rfl ?_
    refine g_icmp_ge (pc := 27) (tgt := 57) dX0_extend_27 rfl (fun _ => ?_) (fun h27 => absurd (nI_le (Nat.le_refl _) (by omega)) h27)
    refine g_iload (pc := 57) dX0_extend_57 rfl ?_
    refine g_ireturn (pc := 59) dX0_extend_59 rfl rfl ?_
    exact ⟨rfl, rfl⟩
def mendG (g f : Nat → Int32) (nodes : Int32) (n : Nat) : Nat → Nat → Int32
  | 0 => g
  | i + 1 => if hb nodes i = true then fun_set (mendG g f nodes n i) i (reachL f n (f i) 0) else mendG g f nodes n i
def mendS (g f : Nat → Int32) (nodes : Int32) (n : Nat) : Nat → Int32
  | 0 => 0
  | i + 1 => if hb nodes i = true then mendS g f nodes n i + bcJ (mendG g f nodes n i i &&& (reachL f n (f i) 0 ^^^ -1)) else mendS g f nodes n i
theorem s_mend {c r n : Nat} {nodes : Int32} (hS : Shp M) (hc : isCl c) (hk : (mK M)[r]? = some (kI 32)) (hr : r ≠ c + 1) (hn : n ≤ 32) : EvR l jX0_mend 3 90 0 0 [.ref c, .int nodes, .ref r, .int (nI n)] M (.inl (some (.int (mendS (mI M (c + 1)) (mI M r) nodes n n)))) (sI M (c + 1) (mendG (mI M (c + 1)) (mI M r) nodes n n)) := by
  refine ev_intro rfl (nb rfl) rfl ?_
  refine g_iconst (pc := 0) (v := 0) dX0_mend_0 rfl ?_
  refine g_istore (pc := 1) (lv' := [(0, _), (1, _), (2, _), (3, _), (4, _)]) dX0_mend_1 (nl rfl) rfl ?_
  refine g_iconst (pc := 3) (v := 0) dX0_mend_3 rfl ?_
  refine g_istore (pc := 4) (lv' := [(0, _), (1, _), (2, _), (3, _), (4, _), (5, _)]) dX0_mend_4 (nl rfl) rfl ?_
  refine go_loop (pc := 6) n (fun i => [(0, .ref c), (1, .int nodes), (2, .ref r), (3, .int (nI n)), (4, .int (mendS (mI M (c + 1)) (mI M r) nodes n i)), (5, .int (nI i))]) (fun i => sI M (c + 1) (mendG (mI M (c + 1)) (mI M r) nodes n i)) ⟨rfl, rfl, rfl, rfl, rfl, rfl, trivial⟩ (sI_id M (c + 1)).symm ?_ ?_
  · intro i hi ih
    have e1 := sI_self M (c + 1) (mendG (mI M (c + 1)) (mI M r) nodes n i)
    have e2 : mI (sI M (c + 1) (mendG (mI M (c + 1)) (mI M r) nodes n i)) r = mI M r := sI_ne hr
    have hk2 : (mK (sI M (c + 1) (mendG (mI M (c + 1)) (mI M r) nodes n i)))[r]? = some (kI 32) := hk
    refine g_iload (pc := 6) dX0_mend_6 rfl ?_
    refine g_iload_n (pc := 8) dX0_mend_8 rfl ?_
    refine g_icmp_ge (pc := 9) (tgt := 65) dX0_mend_9 rfl (fun h9 => absurd h9 (nI_ge hi (by omega))) (fun _ => ?_)
    refine g_iload_n (pc := 12) dX0_mend_12 rfl ?_
    refine g_iload (pc := 13) dX0_mend_13 rfl ?_
    refine g_invSN_r (pc := 15) (As := [_, _]) dX0_mend_15 rfl (s_hasOne (by omega)) rfl rfl lk_X0_21 rfl (nb rfl) ⟨nb rfl, nb rfl⟩ rfl ?_
    refine g_if_eq (pc := 18) (tgt := 59) dX0_mend_18 rfl (fun h18 => ?_) (fun h18 => ?_)
    · rw [b1_0] at h18
      refine g_iinc (pc := 59) (lv' := [(0, _), (1, _), (2, _), (3, _), (4, _), (5, _)]) dX0_mend_59 rfl (nI_1 _) (nl rfl) rfl ?_
      refine g_goto (pc := 62) (tgt := 6) dX0_mend_62 rfl ?_
      rw [mendS, if_neg (by rw [h18]; decide), mendG, if_neg (by rw [h18]; decide)] at ih
      exact ih
    · rw [b1_0, Bool.not_eq_false] at h18
      refine g_aload_n (pc := 21) dX0_mend_21 rfl trivial ?_
      refine g_iload (pc := 22) dX0_mend_22 rfl ?_
      refine g_iload_n (pc := 24) dX0_mend_24 rfl ?_
      refine g_invSN_r (pc := 25) (As := [_, _, _]) dX0_mend_25 rfl (s_reachedFrom hk2 (by omega) hn) rfl rfl lk_X0_46 rfl (nb rfl) ⟨nb rfl, nb rfl⟩ rfl ?_
      rw [e2]
      refine g_istore (pc := 28) (lv' := [(0, _), (1, _), (2, _), (3, _), (4, _), (5, _), (6, _)]) dX0_mend_28 (nl rfl) rfl ?_
      refine g_iload (pc := 30) dX0_mend_30 rfl ?_
      refine g_aload_n (pc := 32) dX0_mend_32 rfl trivial ?_
      refine g_getf (pc := 33) dX0_mend_33 fk_X0_9 (shK hS hc.1) (fv_arr (shR hS hc.2.2)) ?_
      refine g_iload (pc := 36) dX0_mend_36 rfl ?_
      refine g_iaload (pc := 38) dX0_mend_38 (shK hS hc.2.1) rfl (by omega) (nl rfl) ?_
      rw [e1]
      refine g_iload (pc := 39) dX0_mend_39 rfl ?_
      refine g_iconst (pc := 41) (v := (-1)) dX0_mend_41 rfl ?_
      refine g_ixor (pc := 42) dX0_mend_42 ?_
      refine g_iand (pc := 43) dX0_mend_43 ?_
      refine g_invS_r (pc := 44) (As := [_]) dX0_mend_44 rfl (s_bitCount) rfl rfl lk_X0_37 rfl (nb rfl) ⟨nb rfl, nb rfl⟩ rfl ?_
      refine g_iadd (pc := 47) dX0_mend_47 ?_
      refine g_istore (pc := 48) (lv' := [(0, _), (1, _), (2, _), (3, _), (4, _), (5, _), (6, _)]) dX0_mend_48 (nl rfl) rfl ?_
      refine g_aload_n (pc := 50) dX0_mend_50 rfl trivial ?_
      refine g_getf (pc := 51) dX0_mend_51 fk_X0_9 (shK hS hc.1) (fv_arr (shR hS hc.2.2)) ?_
      refine g_iload (pc := 54) dX0_mend_54 rfl ?_
      refine g_iload (pc := 56) dX0_mend_56 rfl ?_
      refine g_iastore (pc := 58) dX0_mend_58 (shK hS hc.2.1) rfl (by omega) (nl rfl) ?_
      refine g_iinc (pc := 59) (lv' := [(0, _), (1, _), (2, _), (3, _), (4, _), (5, _), (6, _)]) dX0_mend_59 rfl (nI_1 _) (nl rfl) rfl ?_
      refine g_goto (pc := 62) (tgt := 6) dX0_mend_62 rfl ?_
      rw [mendS, if_pos h18] at ih
      exact go_cast (sI_st (by rw [mendG, if_pos h18])) (g_sub (lv' := [(0, _), (1, _), (2, _), (3, _), (4, _), (5, _)]) ⟨rfl, rfl, rfl, rfl, rfl, rfl, trivial⟩ ih)
  · refine g_iload (pc := 6) dX0_mend_6 rfl ?_
    refine g_iload_n (pc := 8) dX0_mend_8 rfl ?_
    refine g_icmp_ge (pc := 9) (tgt := 65) dX0_mend_9 rfl (fun _ => ?_) (fun h9 => absurd (nI_le (Nat.le_refl _) (by omega)) h9)
    refine g_iload (pc := 65) dX0_mend_65 rfl ?_
    refine g_ireturn (pc := 67) dX0_mend_67 rfl rfl ?_
    exact ⟨rfl, rfl⟩
def lossF (g f : Nat → Int32) (nodes : Int32) (n : Nat) : Nat → Int32
  | 0 => 0
  | i + 1 => if hb nodes i = true then lossF g f nodes n i + bcJ (g i &&& (reachL f n (f i) 0 ^^^ -1)) else lossF g f nodes n i
def lossB (g f : Nat → Int32) (a b n : Nat) : Int32 := if hb (reachL f n (f a) 0) b = true then 0 else lossF g f (nodesTo g a n) n n
theorem s_lossBy {c r a b n : Nat} (hS : Shp M) (hc : isCl c) (hk : (mK M)[r]? = some (kI 32)) (ha : a < 32) (hb9 : b < 32) (hn : n ≤ 32) : EvR l jX0_lossBy 3 90 0 0 [.ref c, .ref r, .int (nI a), .int (nI b), .int (nI n)] M (.inl (some (.int (lossB (mI M (c + 1)) (mI M r) a b n)))) M := by
  refine ev_intro rfl (nb rfl) rfl ?_
  unfold lossB
  by_cases hx : hb (reachL (mI M r) n (mI M r a) 0) b = true
  · rw [if_pos hx]
    refine g_aload_n (pc := 0) dX0_lossBy_0 rfl trivial ?_
    refine g_iload_n (pc := 1) dX0_lossBy_1 rfl ?_
    refine g_iload (pc := 2) dX0_lossBy_2 rfl ?_
    refine g_invSN_r (pc := 4) (As := [_, _, _]) dX0_lossBy_4 rfl (s_reachedFrom hk ha hn) rfl rfl lk_X0_46 rfl (nb rfl) ⟨nb rfl, nb rfl⟩ rfl ?_
    refine g_iload_n (pc := 7) dX0_lossBy_7 rfl ?_
    refine g_invSN_r (pc := 8) (As := [_, _]) dX0_lossBy_8 rfl (s_hasOne hb9) rfl rfl lk_X0_21 rfl (nb rfl) ⟨nb rfl, nb rfl⟩ rfl ?_
    refine g_if_eq (pc := 11) (tgt := 16) dX0_lossBy_11 rfl (fun h11 => absurd h11 (by rw [b1_0, hx]; decide)) (fun _ => ?_)
    refine g_iconst (pc := 14) (v := 0) dX0_lossBy_14 rfl ?_
    refine g_ireturn (pc := 15) dX0_lossBy_15 rfl rfl ?_
    exact ⟨rfl, rfl⟩
  · rw [if_neg hx]
    refine g_aload_n (pc := 0) dX0_lossBy_0 rfl trivial ?_
    refine g_iload_n (pc := 1) dX0_lossBy_1 rfl ?_
    refine g_iload (pc := 2) dX0_lossBy_2 rfl ?_
    refine g_invSN_r (pc := 4) (As := [_, _, _]) dX0_lossBy_4 rfl (s_reachedFrom hk ha hn) rfl rfl lk_X0_46 rfl (nb rfl) ⟨nb rfl, nb rfl⟩ rfl ?_
    refine g_iload_n (pc := 7) dX0_lossBy_7 rfl ?_
    refine g_invSN_r (pc := 8) (As := [_, _]) dX0_lossBy_8 rfl (s_hasOne hb9) rfl rfl lk_X0_21 rfl (nb rfl) ⟨nb rfl, nb rfl⟩ rfl ?_
    refine g_if_eq (pc := 11) (tgt := 16) dX0_lossBy_11 rfl (fun _ => ?_) (fun h11 => absurd (by rw [b1_0]; exact Bool.eq_false_iff.mpr hx) h11)
    refine g_aload_n (pc := 16) dX0_lossBy_16 rfl trivial ?_
    refine g_iload_n (pc := 17) dX0_lossBy_17 rfl ?_
    refine g_iload (pc := 18) dX0_lossBy_18 rfl ?_
    refine g_invV_r (pc := 20) (As := [_, _]) dX0_lossBy_20 rfl (s_nodesTo hS hc ha hn) rfl rfl (shK hS hc.1) rfl rfl lk_X0_49 rfl (nb rfl) ⟨nb rfl, nb rfl⟩ rfl ?_
    refine g_istore (pc := 23) (lv' := [(0, _), (1, _), (2, _), (3, _), (4, _), (5, _)]) dX0_lossBy_23 (nl rfl) rfl ?_
    refine g_iconst (pc := 25) (v := 0) dX0_lossBy_25 rfl ?_
    refine g_istore (pc := 26) (lv' := [(0, _), (1, _), (2, _), (3, _), (4, _), (5, _), (6, _)]) dX0_lossBy_26 (nl rfl) rfl ?_
    refine g_iconst (pc := 28) (v := 0) dX0_lossBy_28 rfl ?_
    refine g_istore (pc := 29) (lv' := [(0, _), (1, _), (2, _), (3, _), (4, _), (5, _), (6, _), (7, _)]) dX0_lossBy_29 (nl rfl) rfl ?_
    generalize nodesTo (mI M (c + 1)) a n = nodes
    refine go_loop (pc := 31) n (fun i => [(0, .ref c), (1, .ref r), (2, .int (nI a)), (3, .int (nI b)), (4, .int (nI n)), (5, .int nodes), (6, .int (lossF (mI M (c + 1)) (mI M r) nodes n i)), (7, .int (nI i))]) (fun _ => M) ⟨rfl, rfl, rfl, rfl, rfl, rfl, rfl, rfl, trivial⟩ rfl (fun i hi ih => ?_) ?_
    · refine g_iload (pc := 31) dX0_lossBy_31 rfl ?_
      refine g_iload (pc := 33) dX0_lossBy_33 rfl ?_
      refine g_icmp_ge (pc := 35) (tgt := 80) dX0_lossBy_35 rfl (fun h35 => absurd h35 (nI_ge hi (by omega))) (fun _ => ?_)
      refine g_iload (pc := 38) dX0_lossBy_38 rfl ?_
      refine g_iload (pc := 40) dX0_lossBy_40 rfl ?_
      refine g_invSN_r (pc := 42) (As := [_, _]) dX0_lossBy_42 rfl (s_hasOne (by omega)) rfl rfl lk_X0_21 rfl (nb rfl) ⟨nb rfl, nb rfl⟩ rfl ?_
      refine g_if_eq (pc := 45) (tgt := 74) dX0_lossBy_45 rfl (fun h45 => ?_) (fun h45 => ?_)
      · rw [b1_0] at h45
        refine g_iinc (pc := 74) (lv' := [(0, _), (1, _), (2, _), (3, _), (4, _), (5, _), (6, _), (7, _)]) dX0_lossBy_74 rfl (nI_1 _) (nl rfl) rfl ?_
        refine g_goto (pc := 77) (tgt := 31) dX0_lossBy_77 rfl ?_
        rw [lossF, if_neg (by rw [h45]; decide)] at ih
        exact ih
      · rw [b1_0, Bool.not_eq_false] at h45
        refine g_iload (pc := 48) dX0_lossBy_48 rfl ?_
        refine g_aload_n (pc := 50) dX0_lossBy_50 rfl trivial ?_
        refine g_getf (pc := 51) dX0_lossBy_51 fk_X0_9 (shK hS hc.1) (fv_arr (shR hS hc.2.2)) ?_
        refine g_iload (pc := 54) dX0_lossBy_54 rfl ?_
        refine g_iaload (pc := 56) dX0_lossBy_56 (shK hS hc.2.1) rfl (by omega) (nl rfl) ?_
        refine g_aload_n (pc := 57) dX0_lossBy_57 rfl trivial ?_
        refine g_iload (pc := 58) dX0_lossBy_58 rfl ?_
        refine g_iload (pc := 60) dX0_lossBy_60 rfl ?_
        refine g_invSN_r (pc := 62) (As := [_, _, _]) dX0_lossBy_62 rfl (s_reachedFrom hk (by omega) hn) rfl rfl lk_X0_46 rfl (nb rfl) ⟨nb rfl, nb rfl⟩ rfl ?_
        refine g_iconst (pc := 65) (v := (-1)) dX0_lossBy_65 rfl ?_
        refine g_ixor (pc := 66) dX0_lossBy_66 ?_
        refine g_iand (pc := 67) dX0_lossBy_67 ?_
        refine g_invS_r (pc := 68) (As := [_]) dX0_lossBy_68 rfl (s_bitCount) rfl rfl lk_X0_37 rfl (nb rfl) ⟨nb rfl, nb rfl⟩ rfl ?_
        refine g_iadd (pc := 71) dX0_lossBy_71 ?_
        refine g_istore (pc := 72) (lv' := [(0, _), (1, _), (2, _), (3, _), (4, _), (5, _), (6, _), (7, _)]) dX0_lossBy_72 (nl rfl) rfl ?_
        refine g_iinc (pc := 74) (lv' := [(0, _), (1, _), (2, _), (3, _), (4, _), (5, _), (6, _), (7, _)]) dX0_lossBy_74 rfl (nI_1 _) (nl rfl) rfl ?_
        refine g_goto (pc := 77) (tgt := 31) dX0_lossBy_77 rfl ?_
        rw [lossF, if_pos h45] at ih
        exact ih
    · refine g_iload (pc := 31) dX0_lossBy_31 rfl ?_
      refine g_iload (pc := 33) dX0_lossBy_33 rfl ?_
      refine g_icmp_ge (pc := 35) (tgt := 80) dX0_lossBy_35 rfl (fun _ => ?_) (fun h35 => absurd (nI_le (Nat.le_refl _) (by omega)) h35)
      refine g_iload (pc := 80) dX0_lossBy_80 rfl ?_
      refine g_ireturn (pc := 82) dX0_lossBy_82 rfl rfl ?_
      exact ⟨rfl, rfl⟩
end
end
-- 14.mult
section
/-! the multiplier: 187, its table 188, its two matrices 189, 190 -/
section
variable {l : Launch} {M : Mem}
theorem sI_swap {a b : Nat} {f g : Nat → Int32} (h : a ≠ b) : sI (sI M a f) b g = sI (sI M b g) a f := by simp only [sI, fs_comm _ _ _ h]
def jn (f x y : Int32) : Int32 := if f = 0 then x ||| y else x ^^^ y
theorem s_joined {x y : Int32} (hS : Shp M) : EvR l jX3_joined 0 0 0 0 [.ref 187, .int x, .int y] M (.inl (some (.int (jn (mI M 187 5) x y)))) M := by
  refine ev_intro rfl (nb rfl) rfl ?_
  refine g_aload_n (pc := 0) dX3_joined_0 rfl trivial ?_
  refine g_getf (pc := 1) (v := .int (mI _ _ _)) dX3_joined_1 fk_X3_32 (shK hS rfl) (fun _ => rfl) ?_
  refine g_if_eq (pc := 4) (tgt := 13) dX3_joined_4 rfl (fun h4 => ?_) (fun h4 => ?_)
  · refine g_iload_n (pc := 13) dX3_joined_13 rfl ?_
    refine g_iload_n (pc := 14) dX3_joined_14 rfl ?_
    refine g_ior (pc := 15) dX3_joined_15 ?_
    refine g_ireturn (pc := 16) dX3_joined_16 rfl rfl ?_
    exact ⟨by simp [jn, h4], rfl⟩
  · refine g_iload_n (pc := 7) dX3_joined_7 rfl ?_
    refine g_iload_n (pc := 8) dX3_joined_8 rfl ?_
    refine g_ixor (pc := 9) dX3_joined_9 ?_
    refine g_goto (pc := 10) (tgt := 16) dX3_joined_10 rfl ?_
    refine g_ireturn (pc := 16) dX3_joined_16 rfl rfl ?_
    exact ⟨by simp [jn, h4], rfl⟩
theorem pow_sh : ∀ c, c < 9 → (1 : Int32) <<< (nI c &&& 31) = nI (2 ^ c) := by decide +kernel
def ftIn (f : Int32) (tb : Nat → Int32) (v : Int32) (half : Nat) : Nat → Nat → Int32
  | 0 => tb
  | s + 1 => fun_set (ftIn f tb v half s) (half + s) (jn f (ftIn f tb v half s s) v)
def ftOut (f : Int32) (tb b : Nat → Int32) (start : Nat) : Nat → Nat → Int32
  | 0 => tb
  | c + 1 => ftIn f (ftOut f tb b start c) (b (start + c)) (2 ^ c) (2 ^ c)
theorem pow_le {c k : Nat} (h : c < k) : 2 ^ c + 2 ^ c ≤ 2 ^ k := by
  have : 2 ^ (c + 1) ≤ 2 ^ k := Nat.pow_le_pow_right (by decide) h
  rw [Nat.pow_succ] at this
  omega
theorem s_fillTable {r start cols : Nat} (hS : Shp M) (hk : (mK M)[r]? = some (kI 32)) (hr : r ≠ 188) (h1 : start + cols ≤ 32) (h2 : cols ≤ 8) : EvR l jX3_fillTable 1 30 0 0 [.ref 187, .ref r, .int (nI start), .int (nI cols)] M (.inl none) (pI (sI M 188 (ftOut (mI M 187 5) (mI M 188) (mI M r) start cols)) 187 6 (mI M 187 6 + (nI (2 ^ cols) - 1))) := by
  have h8 : 2 ^ cols ≤ 2 ^ 8 := Nat.pow_le_pow_right (by decide) h2
  refine ev_intro rfl (nb rfl) rfl ?_
  refine g_iconst (pc := 0) (v := 0) dX3_fillTable_0 rfl ?_
  refine g_istore (pc := 1) (lv' := [(0, _), (1, _), (2, _), (3, _), (4, _)]) dX3_fillTable_1 (nl rfl) rfl ?_
  refine go_loop (pc := 3) cols (fun c => [(0, .ref 187), (1, .ref r), (2, .int (nI start)), (3, .int (nI cols)), (4, .int (nI c))]) (fun c => sI M 188 (ftOut (mI M 187 5) (mI M 188) (mI M r) start c)) ⟨rfl, rfl, rfl, rfl, rfl, trivial⟩ (sI_id M 188).symm ?_ ?_
  · intro c hc ihc
    have hp := pow_le hc
    refine g_iload (pc := 3) dX3_fillTable_3 rfl ?_
    refine g_iload_n (pc := 5) dX3_fillTable_5 rfl ?_
    refine g_icmp_ge (pc := 6) (tgt := 64) dX3_fillTable_6 rfl (fun h6 => absurd h6 (nI_ge hc (by omega))) (fun _ => ?_)
    refine g_iconst (pc := 9) (v := 1) dX3_fillTable_9 rfl ?_
    refine g_iload (pc := 10) dX3_fillTable_10 rfl ?_
    refine g_ishl (pc := 12) dX3_fillTable_12 ?_
    rw [pow_sh c (by omega)]
    refine g_istore (pc := 13) (lv' := [(0, _), (1, _), (2, _), (3, _), (4, _), (5, _)]) dX3_fillTable_13 (nl rfl) rfl ?_
    refine g_iconst (pc := 15) (v := 0) dX3_fillTable_15 rfl ?_
    refine g_istore (pc := 16) (lv' := [(0, _), (1, _), (2, _), (3, _), (4, _), (5, _), (6, _)]) dX3_fillTable_16 (nl rfl) rfl ?_
    refine go_loop (pc := 18) (2 ^ c) (fun s => [(0, .ref 187), (1, .ref r), (2, .int (nI start)), (3, .int (nI cols)), (4, .int (nI c)), (5, .int (nI (2 ^ c))), (6, .int (nI s))]) (fun s => sI M 188 (ftIn (mI M 187 5) (ftOut (mI M 187 5) (mI M 188) (mI M r) start c) (mI M r (start + c)) (2 ^ c) s)) ⟨rfl, rfl, rfl, rfl, rfl, rfl, rfl, trivial⟩ rfl ?_ ?_
    · intro s hs ih
      have e1 := sI_self M 188 (ftIn (mI M 187 5) (ftOut (mI M 187 5) (mI M 188) (mI M r) start c) (mI M r (start + c)) (2 ^ c) s)
      have e2 : mI (sI M 188 (ftIn (mI M 187 5) (ftOut (mI M 187 5) (mI M 188) (mI M r) start c) (mI M r (start + c)) (2 ^ c) s)) r = mI M r := sI_ne hr
      refine g_iload (pc := 18) dX3_fillTable_18 rfl ?_
      refine g_iload (pc := 20) dX3_fillTable_20 rfl ?_
      refine g_icmp_ge (pc := 22) (tgt := 58) dX3_fillTable_22 rfl (fun h22 => absurd h22 (nI_ge hs (by omega))) (fun _ => ?_)
      refine g_aload_n (pc := 25) dX3_fillTable_25 rfl trivial ?_
      refine g_getf (pc := 26) dX3_fillTable_26 fk_X3_9 (shK hS rfl) (fv_arr (shR hS rfl)) ?_
      refine g_iload (pc := 29) dX3_fillTable_29 rfl ?_
      refine g_iload (pc := 31) dX3_fillTable_31 rfl ?_
      refine g_iadd (pc := 33) dX3_fillTable_33 ?_
      rw [nI_add]
      refine g_aload_n (pc := 34) dX3_fillTable_34 rfl trivial ?_
      refine g_aload_n (pc := 35) dX3_fillTable_35 rfl trivial ?_
      refine g_getf (pc := 36) dX3_fillTable_36 fk_X3_9 (shK hS rfl) (fv_arr (shR hS rfl)) ?_
      refine g_iload (pc := 39) dX3_fillTable_39 rfl ?_
      refine g_iaload (pc := 41) dX3_fillTable_41 (shK hS rfl) rfl (by omega : s < 256) (nl rfl) ?_
      refine g_aload_n (pc := 42) dX3_fillTable_42 rfl trivial ?_
      refine g_iload_n (pc := 43) dX3_fillTable_43 rfl ?_
      refine g_iload (pc := 44) dX3_fillTable_44 rfl ?_
      refine g_iadd (pc := 46) dX3_fillTable_46 ?_
      rw [nI_add]
      refine g_iaload (pc := 47) dX3_fillTable_47 hk rfl (by omega) (nl rfl) ?_
      rw [e1, e2]
      refine g_invV_r (pc := 48) (As := [_, _]) dX3_fillTable_48 rfl (s_joined hS) rfl rfl (shK hS rfl) rfl rfl lk_X3_64 rfl (nb rfl) ⟨nb rfl, nb rfl⟩ rfl ?_
      refine g_iastore (pc := 51) dX3_fillTable_51 (shK hS rfl) rfl (by omega : 2 ^ c + s < 256) (nl rfl) ?_
      refine g_iinc (pc := 52) (lv' := [(0, _), (1, _), (2, _), (3, _), (4, _), (5, _), (6, _)]) dX3_fillTable_52 rfl (nI_1 _) (nl rfl) rfl ?_
      refine g_goto (pc := 55) (tgt := 18) dX3_fillTable_55 rfl ?_
      exact go_cast (sI_st rfl) ih
    · refine g_iload (pc := 18) dX3_fillTable_18 rfl ?_
      refine g_iload (pc := 20) dX3_fillTable_20 rfl ?_
      refine g_icmp_ge (pc := 22) (tgt := 58) dX3_fillTable_22 rfl (fun _ => ?_) (fun h22 => absurd (nI_le (Nat.le_refl _) (by omega)) h22)
      refine g_iinc (pc := 58) (lv' := [(0, _), (1, _), (2, _), (3, _), (4, _), (5, _), (6, _)]) dX3_fillTable_58 rfl (nI_1 _) (nl rfl) rfl ?_
      refine g_goto (pc := 61) (tgt := 3) dX3_fillTable_61 rfl ?_
      exact g_sub (lv' := [(0, _), (1, _), (2, _), (3, _), (4, _)]) ⟨rfl, rfl, rfl, rfl, rfl, trivial⟩ ihc
  · refine g_iload (pc := 3) dX3_fillTable_3 rfl ?_
    refine g_iload_n (pc := 5) dX3_fillTable_5 rfl ?_
    refine g_icmp_ge (pc := 6) (tgt := 64) dX3_fillTable_6 rfl (fun _ => ?_) (fun h6 => absurd (nI_le (Nat.le_refl _) (by omega)) h6)
    refine g_aload_n (pc := 64) dX3_fillTable_64 rfl trivial ?_
    refine g_dup (pc := 65) dX3_fillTable_65 rfl ?_
    refine g_getf (pc := 66) (v := .int (mI _ _ _)) dX3_fillTable_66 fk_X3_36 (shK hS rfl) (fun _ => rfl) ?_
    refine g_iconst (pc := 69) (v := 1) dX3_fillTable_69 rfl ?_
    refine g_iload_n (pc := 70) dX3_fillTable_70 rfl ?_
    refine g_ishl (pc := 71) dX3_fillTable_71 ?_
    rw [pow_sh cols (by omega)]
    refine g_iconst (pc := 72) (v := 1) dX3_fillTable_72 rfl ?_
    refine g_isub (pc := 73) dX3_fillTable_73 ?_
    refine g_iadd (pc := 74) dX3_fillTable_74 ?_
    refine g_putI (pc := 75) dX3_fillTable_75 fp_X3_36 (shK hS rfl) ⟨rfl, rfl⟩ (fun _ _ _ _ => rfl) ?_
    refine g_return (pc := 78) dX3_fillTable_78 rfl ?_
    exact ⟨rfl, rfl⟩
def setI (x : Int32) (st c : Nat) : Int32 := us x (nI st) &&& lowM c
def setN (x : Int32) (st c : Nat) : Nat := (setI x st c).toNatClampNeg
theorem low8 : ∀ c, c < 9 → (lowM c).toBitVec.toNat < 256 := by decide +kernel
theorem setI_n (x : Int32) (st : Nat) {c : Nat} (hc : c ≤ 8) : setI x st c = nI (setN x st c) ∧ setN x st c < 256 := by
  have h : (setI x st c).toBitVec.toNat < 256 := by
    unfold setI
    rw [Int32.toBitVec_and, BitVec.toNat_and]
    exact Nat.lt_of_le_of_lt Nat.and_le_right (low8 c (by omega))
  have h2 : (setI x st c).toInt = ((setI x st c).toBitVec.toNat : Int) := by
    show (setI x st c).toBitVec.toInt = _
    rw [BitVec.toInt_eq_toNat_of_lt (by omega)]
  have h3 : (setI x st c).toInt = (setN x st c : Int) := by
    unfold setN Int32.toNatClampNeg
    show _ = (((setI x st c).toInt.toNat : Nat) : Int)
    omega
  refine ⟨?_, by omega⟩
  apply Int32.toInt_inj.mp
  rw [h3, nI_toInt (by omega)]
def teG (f : Int32) (tb a : Nat → Int32) (st c : Nat) (g : Nat → Int32) : Nat → Nat → Int32
  | 0 => g
  | i + 1 => if setI (a i) st c = 0 then teG f tb a st c g i else fun_set (teG f tb a st c g i) i (jn f (teG f tb a st c g i i) (tb (setN (a i) st c)))
def teC (a : Nat → Int32) (st c : Nat) (t : Int32) : Nat → Int32
  | 0 => t
  | i + 1 => if setI (a i) st c = 0 then teC a st c t i else teC a st c t i + 1
theorem s_takeEntries {ra ri st c n : Nat} (hS : Shp M) (hz : mI M 187 3 = nI n) (hn : n ≤ 32) (ha : (mK M)[ra]? = some (kI 32)) (hi9 : (mK M)[ri]? = some (kI 32)) (h1 : ra ≠ ri) (h2 : ra ≠ 187) (h3 : ri ≠ 187) (h4 : ri ≠ 188) (hc : c ≤ 8) : EvR l jX3_takeEntries 1 40 0 0 [.ref 187, .ref ra, .ref ri, .int (nI st), .int (nI c)] M (.inl none) (pI (sI M ri (teG (mI M 187 5) (mI M 188) (mI M ra) st c (mI M ri) n)) 187 7 (teC (mI M ra) st c (mI M 187 7) n)) := by
  refine ev_intro rfl (nb rfl) rfl ?_
  refine g_iconst (pc := 0) (v := 0) dX3_takeEntries_0 rfl ?_
  refine g_istore (pc := 1) (lv' := [(0, _), (1, _), (2, _), (3, _), (4, _), (5, _)]) dX3_takeEntries_1 (nl rfl) rfl ?_
  refine go_loop (pc := 3) n (fun i => [(0, .ref 187), (1, .ref ra), (2, .ref ri), (3, .int (nI st)), (4, .int (nI c)), (5, .int (nI i))]) (fun i => pI (sI M ri (teG (mI M 187 5) (mI M 188) (mI M ra) st c (mI M ri) i)) 187 7 (teC (mI M ra) st c (mI M 187 7) i)) ⟨rfl, rfl, rfl, rfl, rfl, rfl, trivial⟩ (by simp only [teG, teC, sI_id, pI, fs_same]) ?_ ?_
  · intro i hi ih
    generalize hg : teG (mI M 187 5) (mI M 188) (mI M ra) st c (mI M ri) i = g at ih ⊢
    generalize ht : teC (mI M ra) st c (mI M 187 7) i = t at ih ⊢
    have q1 : mI (pI (sI M ri g) 187 7 t) ra = mI M ra := by rw [pI_i h2, sI_ne h1]
    have q2 : mI (pI (sI M ri g) 187 7 t) ri = g := by rw [pI_i h3, sI_self]
    have q3 : mI (pI (sI M ri g) 187 7 t) 188 = mI M 188 := by rw [pI_i (by decide), sI_ne (Ne.symm h4)]
    have q4 : ∀ j, j ≠ 7 → mI (pI (sI M ri g) 187 7 t) 187 j = mI M 187 j := fun j hj => by rw [pI_k hj, sI_ne (Ne.symm h3)]
    obtain ⟨k1, k2⟩ := setI_n (mI M ra i) st hc
    refine g_iload (pc := 3) dX3_takeEntries_3 rfl ?_
    refine g_aload_n (pc := 5) dX3_takeEntries_5 rfl trivial ?_
    refine g_getf (pc := 6) (v := .int _) dX3_takeEntries_6 fk_X3_27 (shK hS rfl) (fun _ => congrArg Value.int (((q4 3 (by decide)).trans hz))) ?_
    refine g_icmp_ge (pc := 9) (tgt := 66) dX3_takeEntries_9 rfl (fun h9 => absurd h9 (nI_ge hi (by omega))) (fun _ => ?_)
    refine g_aload_n (pc := 12) dX3_takeEntries_12 rfl trivial ?_
    refine g_iload (pc := 13) dX3_takeEntries_13 rfl ?_
    refine g_iaload (pc := 15) dX3_takeEntries_15 ha rfl (by omega) (nl rfl) ?_
    rw [q1]
    refine g_iload_n (pc := 16) dX3_takeEntries_16 rfl ?_
    refine g_iushr (pc := 17) dX3_takeEntries_17 rfl ?_
    refine g_iload (pc := 18) dX3_takeEntries_18 rfl ?_
    refine g_invSN_r (pc := 20) (As := [_]) dX3_takeEntries_20 rfl (s_lowest (by omega)) rfl rfl lk_X3_67 rfl (nb rfl) ⟨nb rfl, nb rfl⟩ rfl ?_
    refine g_iand (pc := 23) dX3_takeEntries_23 ?_
    refine g_istore (pc := 24) (lv' := [(0, _), (1, _), (2, _), (3, _), (4, _), (5, _), (6, _)]) dX3_takeEntries_24 (nl rfl) rfl ?_
    refine g_iload (pc := 26) dX3_takeEntries_26 rfl ?_
    refine g_if_eq (pc := 28) (tgt := 60) dX3_takeEntries_28 rfl (fun h28 => ?_) (fun h28 => ?_)
    · refine g_iinc (pc := 60) (lv' := [(0, _), (1, _), (2, _), (3, _), (4, _), (5, _), (6, _)]) dX3_takeEntries_60 rfl (nI_1 _) (nl rfl) rfl ?_
      refine g_goto (pc := 63) (tgt := 3) dX3_takeEntries_63 rfl ?_
      have h28' : setI (mI M ra i) st c = 0 := h28
      rw [teG, if_pos h28', teC, if_pos h28', hg, ht] at ih
      exact g_sub (lv' := [(0, _), (1, _), (2, _), (3, _), (4, _), (5, _)]) ⟨rfl, rfl, rfl, rfl, rfl, rfl, trivial⟩ ih
    · refine g_aload_n (pc := 31) dX3_takeEntries_31 rfl trivial ?_
      refine g_iload (pc := 32) dX3_takeEntries_32 rfl ?_
      refine g_aload_n (pc := 34) dX3_takeEntries_34 rfl trivial ?_
      refine g_aload_n (pc := 35) dX3_takeEntries_35 rfl trivial ?_
      refine g_iload (pc := 36) dX3_takeEntries_36 rfl ?_
      refine g_iaload (pc := 38) dX3_takeEntries_38 hi9 rfl (by omega) (nl rfl) ?_
      rw [q2]
      refine g_aload_n (pc := 39) dX3_takeEntries_39 rfl trivial ?_
      refine g_getf (pc := 40) dX3_takeEntries_40 fk_X3_9 (shK hS rfl) (fv_arr (shR hS rfl)) ?_
      refine g_iload (pc := 43) dX3_takeEntries_43 rfl ?_
      refine g_iaload (pc := 45) dX3_takeEntries_45 (shK hS rfl) k1 k2 (nl rfl) ?_
      rw [q3]
      refine g_invV_r (pc := 46) (As := [_, _]) dX3_takeEntries_46 rfl (s_joined hS) rfl rfl (shK hS rfl) rfl rfl lk_X3_64 rfl (nb rfl) ⟨nb rfl, nb rfl⟩ rfl ?_
      refine g_iastore (pc := 49) dX3_takeEntries_49 hi9 rfl (by omega) (nl rfl) ?_
      refine g_aload_n (pc := 50) dX3_takeEntries_50 rfl trivial ?_
      refine g_dup (pc := 51) dX3_takeEntries_51 rfl ?_
      refine g_getf (pc := 52) (v := .int (mI _ _ _)) dX3_takeEntries_52 fk_X3_39 (shK hS rfl) (fun _ => rfl) ?_
      refine g_iconst (pc := 55) (v := 1) dX3_takeEntries_55 rfl ?_
      refine g_iadd (pc := 56) dX3_takeEntries_56 ?_
      refine g_putI (pc := 57) dX3_takeEntries_57 fp_X3_39 (shK hS rfl) ⟨rfl, rfl⟩ (fun _ _ _ _ => rfl) ?_
      refine g_iinc (pc := 60) (lv' := [(0, _), (1, _), (2, _), (3, _), (4, _), (5, _), (6, _)]) dX3_takeEntries_60 rfl (nI_1 _) (nl rfl) rfl ?_
      refine g_goto (pc := 63) (tgt := 3) dX3_takeEntries_63 rfl ?_
      have h28' : ¬ setI (mI M ra i) st c = 0 := h28
      rw [teG, if_neg h28', teC, if_neg h28', hg, ht] at ih
      refine go_cast ?_ (g_sub (lv' := [(0, _), (1, _), (2, _), (3, _), (4, _), (5, _)]) ⟨rfl, rfl, rfl, rfl, rfl, rfl, trivial⟩ ih)
      rw [q4 5 (by decide)]
      simp only [pI, sI, mI, fs_self, fs_twice, fs_comm _ _ _ h3, fs_ne _ _ h3, fs_ne _ _ (Ne.symm h3)]
  · have q5 : mI (pI (sI M ri (teG (mI M 187 5) (mI M 188) (mI M ra) st c (mI M ri) n)) 187 7 (teC (mI M ra) st c (mI M 187 7) n)) 187 3 = nI n := by rw [pI_k (by decide), sI_ne (Ne.symm h3)]; exact hz
    refine g_iload (pc := 3) dX3_takeEntries_3 rfl ?_
    refine g_aload_n (pc := 5) dX3_takeEntries_5 rfl trivial ?_
    refine g_getf (pc := 6) (v := .int _) dX3_takeEntries_6 fk_X3_27 (shK hS rfl) (fun _ => congrArg Value.int (q5)) ?_
    refine g_icmp_ge (pc := 9) (tgt := 66) dX3_takeEntries_9 rfl (fun _ => ?_) (fun h9 => absurd (nI_le (Nat.le_refl _) (by omega)) h9)
    refine g_return (pc := 66) dX3_takeEntries_66 rfl ?_
    exact ⟨rfl, rfl⟩
/-- what a product holds: the table, the rows, entries made, entries taken -/
abbrev PS : Type := (Nat → Int32) × (Nat → Int32) × Int32 × Int32
def mulStep (f : Int32) (n bl : Nat) (a b : Nat → Int32) (start : Nat) (s : PS) : PS :=
  (ftOut f s.1 b start (min bl (n - start)), teG f (ftOut f s.1 b start (min bl (n - start))) a start (min bl (n - start)) s.2.1 n, s.2.2.1 + (nI (2 ^ (min bl (n - start))) - 1), teC a start (min bl (n - start)) s.2.2.2 n)
def mulIt (f : Int32) (n bl : Nat) (a b tb g : Nat → Int32) : Nat → PS
  | 0 => (tb, wr g (fun _ => 0) n, 0, 0)
  | k + 1 => mulStep f n bl a b (k * bl) (mulIt f n bl a b tb g k)
def blocks (n bl : Nat) : Nat := (n + bl - 1) / bl
def mulMem (M : Mem) (ri : Nat) (s : PS) : Mem := sI (sI (sI M 188 s.1) ri s.2.1) 187 (fun_set (fun_set (mI M 187) 6 s.2.2.1) 7 s.2.2.2)
def mulEnd (M : Mem) (n bl ra rb ri : Nat) : PS := mulIt (mI M 187 5) n bl (mI M ra) (mI M rb) (mI M 188) (mI M ri) (blocks n bl)
theorem blocks_lt {n bl k : Nat} (hb9 : 0 < bl) (h : k < blocks n bl) : k * bl < n := by
  unfold blocks at h
  have h2 : k + 1 ≤ (n + bl - 1) / bl := h
  rw [Nat.le_div_iff_mul_le hb9, Nat.add_mul] at h2
  omega
theorem blocks_ge {n bl : Nat} (hb9 : 0 < bl) : n ≤ blocks n bl * bl ∧ blocks n bl * bl < n + bl := by
  unfold blocks
  have h1 := Nat.div_add_mod (n + bl - 1) bl
  have h2 := Nat.mod_lt (n + bl - 1) hb9
  rw [Nat.mul_comm] at h1
  omega
theorem s_multiply {n bl ra rb ri : Nat} (hS : Shp M) (hz : mI M 187 3 = nI n) (hbl : mI M 187 4 = nI bl) (hn : n ≤ 32) (hb1 : 1 ≤ bl) (hb8 : bl ≤ 8) (ha : (mK M)[ra]? = some (kI 32)) (hb9 : (mK M)[rb]? = some (kI 32)) (hi9 : (mK M)[ri]? = some (kI 32)) (h1 : ra ≠ ri) (h1' : rb ≠ ri) (h2 : ra ≠ 187) (h2' : rb ≠ 187) (h3 : ri ≠ 187) (h4 : ri ≠ 188) (h5 : ra ≠ 188) (h5' : rb ≠ 188) : EvR l jX3_multiply 2 70 0 0 [.ref 187, .ref ra, .ref rb, .ref ri] M (.inl none) (mulMem M ri (mulEnd M n bl ra rb ri)) := by
  refine ev_intro rfl (nb rfl) rfl ?_
  refine g_aload_n (pc := 0) dX3_multiply_0 rfl trivial ?_
  refine g_iconst (pc := 1) (v := 0) dX3_multiply_1 rfl ?_
  refine g_putI (pc := 2) dX3_multiply_2 fp_X3_36 (shK hS rfl) ⟨rfl, rfl⟩ (fun _ _ _ _ => rfl) ?_
  refine g_aload_n (pc := 5) dX3_multiply_5 rfl trivial ?_
  refine g_iconst (pc := 6) (v := 0) dX3_multiply_6 rfl ?_
  refine g_putI (pc := 7) dX3_multiply_7 fp_X3_39 (shK hS rfl) ⟨rfl, rfl⟩ (fun _ _ _ _ => rfl) ?_
  refine g_iconst (pc := 10) (v := 0) dX3_multiply_10 rfl ?_
  refine g_istore (pc := 11) (lv' := [(0, _), (1, _), (2, _), (3, _), (4, _)]) dX3_multiply_11 (nl rfl) rfl ?_
  refine go_loop (pc := 13) n (fun i => [(0, .ref 187), (1, .ref ra), (2, .ref rb), (3, .ref ri), (4, .int (nI i))]) (fun i => sI (pI (pI M 187 6 0) 187 7 0) ri (wr (mI M ri) (fun _ => 0) i)) ⟨rfl, rfl, rfl, rfl, rfl, trivial⟩ (sI_eq (by rw [wr_0, pI_i h3, pI_i h3])) ?_ ?_
  · intro i hi ih
    have e : mI (sI (pI (pI M 187 6 0) 187 7 0) ri (wr (mI M ri) (fun _ => 0) i)) 187 3 = nI n := by rw [sI_ne (Ne.symm h3), pI_k (by decide), pI_k (by decide)]; exact hz
    refine g_iload (pc := 13) dX3_multiply_13 rfl ?_
    refine g_aload_n (pc := 15) dX3_multiply_15 rfl trivial ?_
    refine g_getf (pc := 16) (v := .int _) dX3_multiply_16 fk_X3_27 (shK hS rfl) (fun _ => congrArg Value.int (e)) ?_
    refine g_icmp_ge (pc := 19) (tgt := 33) dX3_multiply_19 rfl (fun h19 => absurd h19 (nI_ge hi (by omega))) (fun _ => ?_)
    refine g_aload_n (pc := 22) dX3_multiply_22 rfl trivial ?_
    refine g_iload (pc := 23) dX3_multiply_23 rfl ?_
    refine g_iconst (pc := 25) (v := 0) dX3_multiply_25 rfl ?_
    refine g_iastore (pc := 26) dX3_multiply_26 hi9 rfl (by omega) (nl rfl) ?_
    refine g_iinc (pc := 27) (lv' := [(0, _), (1, _), (2, _), (3, _), (4, _)]) dX3_multiply_27 rfl (nI_1 _) (nl rfl) rfl ?_
    refine g_goto (pc := 30) (tgt := 13) dX3_multiply_30 rfl ?_
    exact go_cast (sI_st (wr_s _ _ i)) ih
  · have e : mI (sI (pI (pI M 187 6 0) 187 7 0) ri (wr (mI M ri) (fun _ => 0) n)) 187 3 = nI n := by rw [sI_ne (Ne.symm h3), pI_k (by decide), pI_k (by decide)]; exact hz
    refine g_iload (pc := 13) dX3_multiply_13 rfl ?_
    refine g_aload_n (pc := 15) dX3_multiply_15 rfl trivial ?_
    refine g_getf (pc := 16) (v := .int _) dX3_multiply_16 fk_X3_27 (shK hS rfl) (fun _ => congrArg Value.int (e)) ?_
    refine g_icmp_ge (pc := 19) (tgt := 33) dX3_multiply_19 rfl (fun _ => ?_) (fun h19 => absurd (nI_le (Nat.le_refl _) (by omega)) h19)
    refine g_iconst (pc := 33) (v := 0) dX3_multiply_33 rfl ?_
    refine g_istore (pc := 34) (lv' := [(0, _), (1, _), (2, _), (3, _), (4, _)]) dX3_multiply_34 (nl rfl) rfl ?_
    refine go_loop (pc := 36) (blocks n bl) (fun k => [(0, .ref 187), (1, .ref ra), (2, .ref rb), (3, .ref ri), (4, .int (nI (k * bl)))]) (fun k => mulMem M ri (mulIt (mI M 187 5) n bl (mI M ra) (mI M rb) (mI M 188) (mI M ri) k)) ⟨rfl, rfl, rfl, rfl, by rw [Nat.zero_mul]; rfl, trivial⟩ ?_ ?_ ?_
    · simp only [mulMem, mulIt]
      simp only [pI, sI, mI, fs_same, fs_self, fs_twice, fs_comm _ _ _ h3]
    · intro k hk9 ih
      have hlt := blocks_lt hb1 hk9
      rw [mulIt] at ih
      generalize mulIt (mI M 187 5) n bl (mI M ra) (mI M rb) (mI M 188) (mI M ri) k = s at ih ⊢
      obtain ⟨tb, g, e, t⟩ := s
      have z3 : mI (mulMem M ri (tb, g, e, t)) 187 3 = nI n := by simp only [mulMem, sI, mI, fs_self]; rw [fs_ne _ _ (by decide), fs_ne _ _ (by decide)]; exact hz
      have z4 : mI (mulMem M ri (tb, g, e, t)) 187 4 = nI bl := by simp only [mulMem, sI, mI, fs_self]; rw [fs_ne _ _ (by decide), fs_ne _ _ (by decide)]; exact hbl
      have z5 : mI (mulMem M ri (tb, g, e, t)) 187 5 = mI M 187 5 := by simp only [mulMem, sI, mI, fs_self]; rw [fs_ne _ _ (by decide), fs_ne _ _ (by decide)]
      have z6 : mI (mulMem M ri (tb, g, e, t)) 187 6 = e := by simp only [mulMem, sI, mI, fs_self]; rw [fs_ne _ _ (by decide), fs_self]
      have z7 : mI (mulMem M ri (tb, g, e, t)) 187 7 = t := by simp only [mulMem, sI, mI, fs_self]
      have za : mI (mulMem M ri (tb, g, e, t)) ra = mI M ra := by simp only [mulMem]; rw [sI_ne h2, sI_ne h1, sI_ne h5]
      have zb : mI (mulMem M ri (tb, g, e, t)) rb = mI M rb := by simp only [mulMem]; rw [sI_ne h2', sI_ne h1', sI_ne h5']
      have zi : mI (mulMem M ri (tb, g, e, t)) ri = g := by simp only [mulMem]; rw [sI_ne h3, sI_self]
      have zt : mI (mulMem M ri (tb, g, e, t)) 188 = tb := by simp only [mulMem]; rw [sI_ne (by decide), sI_ne (Ne.symm h4), sI_self]
      have hS1 : Shp (mulMem M ri (tb, g, e, t)) := hS
      have hmin : (if nI n - nI (k * bl) < nI bl then nI n - nI (k * bl) else nI bl) = nI (min bl (n - k * bl)) := by
        have e9 : nI n - nI (k * bl) = nI (n - k * bl) := by
          have h9 := nI_add (n - k * bl) (k * bl)
          rw [Nat.sub_add_cancel (by omega)] at h9
          rw [← h9, Int32.add_sub_cancel]
        rw [e9]
        by_cases h9 : n - k * bl < bl
        · rw [if_pos ((nI_ltI (by omega) (by omega)).mpr h9), Nat.min_eq_right (by omega)]
        · rw [if_neg (fun q => h9 ((nI_ltI (by omega) (by omega)).mp q)), Nat.min_eq_left (by omega)]
      generalize hmm : mulMem M ri (tb, g, e, t) = M0 at *
      have hc1 : k * bl + min bl (n - k * bl) ≤ 32 := by omega
      have hc2 : min bl (n - k * bl) ≤ 8 := by omega
      have hka : (mK M0)[ra]? = some (kI 32) := by rw [← hmm]; exact ha
      have hkb : (mK M0)[rb]? = some (kI 32) := by rw [← hmm]; exact hb9
      have hki : (mK M0)[ri]? = some (kI 32) := by rw [← hmm]; exact hi9
      refine g_iload (pc := 36) dX3_multiply_36 rfl ?_
      refine g_aload_n (pc := 38) dX3_multiply_38 rfl trivial ?_
      refine g_getf (pc := 39) (v := .int _) dX3_multiply_39 fk_X3_27 (shK hS1 rfl) (fun _ => congrArg Value.int (z3)) ?_
      refine g_icmp_ge (pc := 42) (tgt := 92) dX3_multiply_42 rfl (fun h42 => absurd h42 (nI_ge hlt (by omega))) (fun _ => ?_)
      refine g_aload_n (pc := 45) dX3_multiply_45 rfl trivial ?_
      refine g_getf (pc := 46) (v := .int _) dX3_multiply_46 fk_X3_31 (shK hS1 rfl) (fun _ => congrArg Value.int (z4)) ?_
      refine g_aload_n (pc := 49) dX3_multiply_49 rfl trivial ?_
      refine g_getf (pc := 50) (v := .int _) dX3_multiply_50 fk_X3_27 (shK hS1 rfl) (fun _ => congrArg Value.int (z3)) ?_
      refine g_iload (pc := 53) dX3_multiply_53 rfl ?_
      refine g_isub (pc := 55) dX3_multiply_55 ?_
      refine g_mmin (pc := 56) dX3_multiply_56 wd_1085 wd_430 wd_107 wd_431 (nb rfl) (nb rfl) ?_
      rw [hmin]
      refine g_istore (pc := 59) (lv' := [(0, _), (1, _), (2, _), (3, _), (4, _), (5, _)]) dX3_multiply_59 (nl rfl) rfl ?_
      refine g_aload_n (pc := 61) dX3_multiply_61 rfl trivial ?_
      refine g_aload_n (pc := 62) dX3_multiply_62 rfl trivial ?_
      refine g_iload (pc := 63) dX3_multiply_63 rfl ?_
      refine g_iload (pc := 65) dX3_multiply_65 rfl ?_
      refine g_invV_r (pc := 67) (As := [_, _, _]) dX3_multiply_67 rfl (s_fillTable hS1 hkb h5' hc1 hc2) rfl rfl (shK hS1 rfl) rfl rfl lk_X3_48 rfl (nb rfl) ⟨nb rfl, nb rfl⟩ rfl ?_
      refine g_aload_n (pc := 70) dX3_multiply_70 rfl trivial ?_
      refine g_aload_n (pc := 71) dX3_multiply_71 rfl trivial ?_
      refine g_aload_n (pc := 72) dX3_multiply_72 rfl trivial ?_
      refine g_iload (pc := 73) dX3_multiply_73 rfl ?_
      refine g_iload (pc := 75) dX3_multiply_75 rfl ?_
      refine g_invV_r (pc := 77) (As := [_, _, _, _]) dX3_multiply_77 rfl (s_takeEntries hS1 (by rw [pI_k (by decide), sI_ne (by decide)]; exact z3) hn hka hki h1 h2 h3 h4 hc2) rfl rfl (shK hS1 rfl) rfl rfl lk_X3_52 rfl (nb rfl) ⟨nb rfl, nb rfl⟩ rfl ?_
      refine g_iload (pc := 80) dX3_multiply_80 rfl ?_
      refine g_aload_n (pc := 82) dX3_multiply_82 rfl trivial ?_
      refine g_getf (pc := 83) (v := .int _) dX3_multiply_83 fk_X3_31 (shK hS1 rfl) (fun _ => congrArg Value.int ((show _ = nI bl by rw [pI_k (by decide), sI_ne (Ne.symm h3), pI_k (by decide), sI_ne (by decide)]; exact z4))) ?_
      refine g_iadd (pc := 86) dX3_multiply_86 ?_
      rw [nI_add, show k * bl + bl = (k + 1) * bl by rw [Nat.add_mul, Nat.one_mul]]
      refine g_istore (pc := 87) (lv' := [(0, _), (1, _), (2, _), (3, _), (4, _), (5, _)]) dX3_multiply_87 (nl rfl) rfl ?_
      refine g_goto (pc := 89) (tgt := 36) dX3_multiply_89 rfl ?_
      refine go_cast ?_ (g_sub (lv' := [(0, _), (1, _), (2, _), (3, _), (4, _)]) ⟨rfl, rfl, rfl, rfl, rfl, trivial⟩ ih)
      have y5 : mI (pI (sI M0 188 (ftOut (mI M0 187 5) (mI M0 188) (mI M0 rb) (k * bl) (min bl (n - k * bl)))) 187 6 (mI M0 187 6 + (nI (2 ^ min bl (n - k * bl)) - 1))) 187 5 = mI M 187 5 := by rw [pI_k (by decide), sI_ne (by decide)]; exact z5
      have y8 : mI (pI (sI M0 188 (ftOut (mI M0 187 5) (mI M0 188) (mI M0 rb) (k * bl) (min bl (n - k * bl)))) 187 6 (mI M0 187 6 + (nI (2 ^ min bl (n - k * bl)) - 1))) 188 = ftOut (mI M0 187 5) (mI M0 188) (mI M0 rb) (k * bl) (min bl (n - k * bl)) := by rw [pI_i (by decide), sI_self]
      have ya : mI (pI (sI M0 188 (ftOut (mI M0 187 5) (mI M0 188) (mI M0 rb) (k * bl) (min bl (n - k * bl)))) 187 6 (mI M0 187 6 + (nI (2 ^ min bl (n - k * bl)) - 1))) ra = mI M ra := by rw [pI_i h2, sI_ne h5]; exact za
      have yi : mI (pI (sI M0 188 (ftOut (mI M0 187 5) (mI M0 188) (mI M0 rb) (k * bl) (min bl (n - k * bl)))) 187 6 (mI M0 187 6 + (nI (2 ^ min bl (n - k * bl)) - 1))) ri = g := by rw [pI_i h3, sI_ne h4]; exact zi
      have y7 : mI (pI (sI M0 188 (ftOut (mI M0 187 5) (mI M0 188) (mI M0 rb) (k * bl) (min bl (n - k * bl)))) 187 6 (mI M0 187 6 + (nI (2 ^ min bl (n - k * bl)) - 1))) 187 7 = t := by rw [pI_k (by decide), sI_ne (by decide)]; exact z7
      rw [y5, y8, ya, yi, y7, z5, z6, zb, zt, ← hmm]
      refine mem_extI rfl rfl rfl rfl rfl rfl (fun i => ?_)
      simp only [mulMem, mulStep, pI, sI, mI]
      by_cases i1 : i = 187
      · subst i1
        funext j
        by_cases j7 : j = 7
        · subst j7; simp [fun_set, Ne.symm h3]
        · by_cases j6 : j = 6
          · subst j6; simp [fun_set, Ne.symm h3]
          · simp [fun_set, j7, j6, Ne.symm h3]
      · by_cases i2 : i = 188
        · subst i2; simp [fun_set, Ne.symm h4]
        · by_cases i3 : i = ri
          · subst i3; simp [fun_set, h3, h4]
          · simp [fun_set, i1, i2, i3]
    · have hge := blocks_ge (n := n) (bl := bl) hb1
      have z3 : mI (mulMem M ri (mulIt (mI M 187 5) n bl (mI M ra) (mI M rb) (mI M 188) (mI M ri) (blocks n bl))) 187 3 = nI n := by simp only [mulMem, sI, mI, fs_self]; rw [fs_ne _ _ (by decide), fs_ne _ _ (by decide)]; exact hz
      have hS1 : Shp (mulMem M ri (mulIt (mI M 187 5) n bl (mI M ra) (mI M rb) (mI M 188) (mI M ri) (blocks n bl))) := hS
      refine g_iload (pc := 36) dX3_multiply_36 rfl ?_
      refine g_aload_n (pc := 38) dX3_multiply_38 rfl trivial ?_
      refine g_getf (pc := 39) (v := .int _) dX3_multiply_39 fk_X3_27 (shK hS1 rfl) (fun _ => congrArg Value.int (z3)) ?_
      refine g_icmp_ge (pc := 42) (tgt := 92) dX3_multiply_42 rfl (fun _ => ?_) (fun h42 => absurd (nI_le hge.1 (by omega)) h42)
      refine g_return (pc := 92) dX3_multiply_92 rfl ?_
      exact ⟨rfl, rfl⟩
end
end
-- 15.raise
section
/-! powers -/
section
variable {l : Launch} {M : Mem}
def begMem (M : Mem) (f : Int32) : Mem := pI (pI (pI M 187 3 (mI M 3 1)) 187 4 (mI M 3 2)) 187 5 f
theorem s_begin {f : Int32} (hS : Shp M) (hf : k01 f) : EvR l jX3_begin 0 0 0 0 [.ref 187, .ref 3, .int f] M (.inl none) (begMem M f) := by
  refine ev_intro rfl (nb rfl) rfl ?_
  refine g_aload_n (pc := 0) dX3_begin_0 rfl trivial ?_
  refine g_aload_n (pc := 1) dX3_begin_1 rfl trivial ?_
  refine g_getf (pc := 2) (v := .int (mI _ _ _)) dX3_begin_2 fk_X3_21 (shK hS rfl) (fun _ => rfl) ?_
  refine g_putI (pc := 5) dX3_begin_5 fp_X3_27 (shK hS rfl) ⟨rfl, rfl⟩ (fun _ _ _ _ => rfl) ?_
  refine g_aload_n (pc := 8) dX3_begin_8 rfl trivial ?_
  refine g_aload_n (pc := 9) dX3_begin_9 rfl trivial ?_
  refine g_getf (pc := 10) (v := .int _) dX3_begin_10 fk_X3_28 (shK hS rfl) (fun _ => congrArg Value.int ((congrFun (pI_i (by decide)) 2))) ?_
  refine g_putI (pc := 13) dX3_begin_13 fp_X3_31 (shK hS rfl) ⟨rfl, rfl⟩ (fun _ _ _ _ => rfl) ?_
  refine g_aload_n (pc := 16) dX3_begin_16 rfl trivial ?_
  refine g_iload_n (pc := 17) dX3_begin_17 rfl ?_
  refine g_putI (pc := 18) dX3_begin_18 fp_X3_32 (shK hS rfl) (k01_n hf) (fun _ _ _ _ => rfl) ?_
  refine g_return (pc := 21) dX3_begin_21 rfl ?_
  exact ⟨rfl, rfl⟩
/-- a power under way: whether 190 holds it (else 189), the table, 189, 190, entries made, entries taken -/
abbrev RS : Type := Bool × (Nat → Int32) × (Nat → Int32) × (Nat → Int32) × Int32 × Int32
def rsMem (M : Mem) (s : RS) : Mem := sI (sI (sI (sI M 188 s.2.1) 189 s.2.2.1) 190 s.2.2.2.1) 187 (fun_set (fun_set (mI M 187) 6 s.2.2.2.2.1) 7 s.2.2.2.2.2)
def rsP (s : RS) : Nat := match s.1 with
  | true => 190
  | false => 189
def rsN (s : RS) : Nat := match s.1 with
  | true => 189
  | false => 190
/-- the power so far times itself, or a matrix -/
def rsMul (f : Int32) (n bl : Nat) (base : Option (Nat → Int32)) (s : RS) : RS := match s.1 with
  | false => let m := mulIt f n bl s.2.2.1 (base.getD s.2.2.1) s.2.1 s.2.2.2.1 (blocks n bl); (true, m.1, s.2.2.1, m.2.1, m.2.2.1, m.2.2.2)
  | true => let m := mulIt f n bl s.2.2.2.1 (base.getD s.2.2.2.1) s.2.1 s.2.2.1 (blocks n bl); (false, m.1, m.2.1, s.2.2.2.1, m.2.2.1, m.2.2.2)
def rsA (f : Int32) (n bl : Nat) (x : Int32) (b : Nat) (s : RS) : RS := if x >>> (nI b &&& 31) = 0 then s else rsMul f n bl none s
def rsB (f : Int32) (n bl : Nat) (base : Nat → Int32) (x : Int32) (b : Nat) (s : RS) : RS := if hb x b = true then rsMul f n bl (some base) s else s
def rsIt (f : Int32) (n bl : Nat) (base : Nat → Int32) (x : Int32) (s0 : RS) : Nat → RS
  | 0 => s0
  | i + 1 => rsB f n bl base x (19 - i) (rsA f n bl x (19 - i) (rsIt f n bl base x s0 i))
def rs0 (M : Mem) (n : Nat) : RS := (false, mI M 188, wr (mI M 189) bitI n, mI M 190, mI M 187 6, mI M 187 7)
theorem rs_mul {n bl rb : Nat} (s : RS) (base : Option (Nat → Int32)) (h2 : rb ≠ 187) (h3 : rb ≠ 188) (hrb : (base = none ∧ rb = rsP s) ∨ (base = some (mI M rb) ∧ rb ≠ 189 ∧ rb ≠ 190)) :
    mulMem (rsMem M s) (rsN s) (mulEnd (rsMem M s) n bl (rsP s) rb (rsN s)) = rsMem M (rsMul (mI M 187 5) n bl base s) := by
  obtain ⟨sw, tb, f1, f2, e, t⟩ := s
  have z5 : mI (rsMem M (sw, tb, f1, f2, e, t)) 187 5 = mI M 187 5 := by simp [rsMem, sI, mI, fun_set]
  have z1 : mI (rsMem M (sw, tb, f1, f2, e, t)) 189 = f1 := by simp [rsMem, sI, mI, fun_set]
  have z2 : mI (rsMem M (sw, tb, f1, f2, e, t)) 190 = f2 := by simp [rsMem, sI, mI, fun_set]
  have zt : mI (rsMem M (sw, tb, f1, f2, e, t)) 188 = tb := by simp [rsMem, sI, mI, fun_set]
  have zb : rb ≠ 189 → rb ≠ 190 → mI (rsMem M (sw, tb, f1, f2, e, t)) rb = mI M rb := fun a b => by simp [rsMem, sI, mI, fun_set, h2, h3, a, b]
  have fin : ∀ (sw' : Bool) (m : PS), (sw = false → mulMem (rsMem M (sw, tb, f1, f2, e, t)) 190 m = rsMem M (true, m.1, f1, m.2.1, m.2.2.1, m.2.2.2)) ∧ (sw = true → mulMem (rsMem M (sw, tb, f1, f2, e, t)) 189 m = rsMem M (false, m.1, m.2.1, f2, m.2.2.1, m.2.2.2)) := by
    intro sw' m
    constructor <;> intro _ <;> refine mem_extI rfl rfl rfl rfl rfl rfl (fun i => ?_) <;> simp only [mulMem, rsMem, sI, mI] <;> (
      by_cases i1 : i = 187
      · subst i1
        funext j
        by_cases j7 : j = 7
        · subst j7; simp [fun_set]
        · by_cases j6 : j = 6
          · subst j6; simp [fun_set]
          · simp [fun_set, j7, j6]
      · by_cases i2 : i = 188
        · subst i2; simp [fun_set]
        · by_cases i3 : i = 189
          · subst i3; simp [fun_set]
          · by_cases i4 : i = 190
            · subst i4; simp [fun_set]
            · simp [fun_set, i1, i2, i3, i4])
  rcases hrb with ⟨rfl, hr⟩ | ⟨rfl, hr1, hr2⟩
  · cases sw with
    | false =>
      simp only [rsP] at hr
      subst hr
      simp only [rsN, rsP, rsMul, mulEnd, z5, z1, z2, zt, Option.getD]
      exact (fin false _).1 rfl
    | true =>
      simp only [rsP] at hr
      subst hr
      simp only [rsN, rsP, rsMul, mulEnd, z5, z1, z2, zt, Option.getD]
      exact (fin false _).2 rfl
  · cases sw with
    | false =>
      simp only [rsN, rsP, rsMul, mulEnd, z5, z1, z2, zt, zb hr1 hr2, Option.getD]
      exact (fin false _).1 rfl
    | true =>
      simp only [rsN, rsP, rsMul, mulEnd, z5, z1, z2, zt, zb hr1 hr2, Option.getD]
      exact (fin false _).2 rfl
theorem rsMul_P (f : Int32) (n bl : Nat) (base : Option (Nat → Int32)) (s : RS) : rsP (rsMul f n bl base s) = rsN s ∧ rsN (rsMul f n bl base s) = rsP s := by
  obtain ⟨sw, tb, f1, f2, e, t⟩ := s
  cases sw <;> exact ⟨rfl, rfl⟩
theorem rs_get (s : RS) (j : Nat) (h : j ≠ 6) (h' : j ≠ 7) : mI (rsMem M s) 187 j = mI M 187 j := by simp [rsMem, sI, mI, fun_set, h, h']
theorem rs_ids (s : RS) : (rsP s = 189 ∨ rsP s = 190) ∧ (rsN s = 189 ∨ rsN s = 190) ∧ rsP s ≠ rsN s := by
  obtain ⟨sw, tb, f1, f2, e, t⟩ := s
  cases sw <;> simp [rsP, rsN]
theorem rs_lay (hS : Shp M) (s : RS) {i : Nat} (h : i = 189 ∨ i = 190) : (mK (rsMem M s))[i]? = some (kI 32) := by
  have hS' : Shp (rsMem M s) := hS
  rcases h with rfl | rfl
  · exact shK hS' rfl
  · exact shK hS' rfl
def raiseEnd (M : Mem) (n bl rb : Nat) (x : Int32) : RS := rsIt (mI M 187 5) n bl (mI M rb) x (rs0 M n) 20
theorem s_raise {n bl rb : Nat} {x : Int32} (hS : Shp M) (hz : mI M 187 3 = nI n) (hbl : mI M 187 4 = nI bl) (hn : n ≤ 32) (hb1 : 1 ≤ bl) (hb8 : bl ≤ 8) (hk9 : (mK M)[rb]? = some (kI 32)) (h2 : rb ≠ 187) (h3 : rb ≠ 188) (h4 : rb ≠ 189) (h5 : rb ≠ 190) : EvR l jX3_raise 3 100 0 0 [.ref 187, .ref rb, .int x] M (.inl (some (.ref (rsP (raiseEnd M n bl rb x))))) (rsMem M (raiseEnd M n bl rb x)) := by
  refine ev_intro rfl (nb rfl) rfl ?_
  refine g_aload_n (pc := 0) dX3_raise_0 rfl trivial ?_
  refine g_getf (pc := 1) dX3_raise_1 fk_X3_15 (shK hS rfl) (fv_arr (shR hS rfl)) ?_
  refine g_astore_n (pc := 4) (lv' := [(0, _), (1, _), (2, _), (3, _)]) dX3_raise_4 trivial (nl rfl) rfl ?_
  refine g_aload_n (pc := 5) dX3_raise_5 rfl trivial ?_
  refine g_getf (pc := 6) dX3_raise_6 fk_X3_18 (shK hS rfl) (fv_arr (shR hS rfl)) ?_
  refine g_astore (pc := 9) (lv' := [(0, _), (1, _), (2, _), (3, _), (4, _)]) dX3_raise_9 trivial (nl rfl) rfl ?_
  refine g_iconst (pc := 11) (v := 0) dX3_raise_11 rfl ?_
  refine g_istore (pc := 12) (lv' := [(0, _), (1, _), (2, _), (3, _), (4, _), (5, _)]) dX3_raise_12 (nl rfl) rfl ?_
  refine go_loop (pc := 14) n (fun i => [(0, .ref 187), (1, .ref rb), (2, .int x), (3, .ref 189), (4, .ref 190), (5, .int (nI i))]) (fun i => sI M 189 (wr (mI M 189) bitI i)) ⟨rfl, rfl, rfl, rfl, rfl, rfl, trivial⟩ (sI_eq (wr_0 _ _)) ?_ ?_
  · intro i hi ih
    have e : mI (sI M 189 (wr (mI M 189) bitI i)) 187 3 = nI n := by rw [sI_ne (by decide)]; exact hz
    refine g_iload (pc := 14) dX3_raise_14 rfl ?_
    refine g_aload_n (pc := 16) dX3_raise_16 rfl trivial ?_
    refine g_getf (pc := 17) (v := .int _) dX3_raise_17 fk_X3_27 (shK hS rfl) (fun _ => congrArg Value.int (e)) ?_
    refine g_icmp_ge (pc := 20) (tgt := 37) dX3_raise_20 rfl (fun h20 => absurd h20 (nI_ge hi (by omega))) (fun _ => ?_)
    refine g_aload_n (pc := 23) dX3_raise_23 rfl trivial ?_
    refine g_iload (pc := 24) dX3_raise_24 rfl ?_
    refine g_iconst (pc := 26) (v := 1) dX3_raise_26 rfl ?_
    refine g_iload (pc := 27) dX3_raise_27 rfl ?_
    refine g_ishl (pc := 29) dX3_raise_29 ?_
    refine g_iastore (pc := 30) dX3_raise_30 (shK hS rfl) rfl (by omega) (nl rfl) ?_
    refine g_iinc (pc := 31) (lv' := [(0, _), (1, _), (2, _), (3, _), (4, _), (5, _)]) dX3_raise_31 rfl (nI_1 _) (nl rfl) rfl ?_
    refine g_goto (pc := 34) (tgt := 14) dX3_raise_34 rfl ?_
    exact go_cast (sI_st (wr_s _ _ i)) ih
  · have e : mI (sI M 189 (wr (mI M 189) bitI n)) 187 3 = nI n := by rw [sI_ne (by decide)]; exact hz
    refine g_iload (pc := 14) dX3_raise_14 rfl ?_
    refine g_aload_n (pc := 16) dX3_raise_16 rfl trivial ?_
    refine g_getf (pc := 17) (v := .int _) dX3_raise_17 fk_X3_27 (shK hS rfl) (fun _ => congrArg Value.int (e)) ?_
    refine g_icmp_ge (pc := 20) (tgt := 37) dX3_raise_20 rfl (fun _ => ?_) (fun h20 => absurd (nI_le (Nat.le_refl _) (by omega)) h20)
    refine g_bipush (pc := 37) (v := 19) dX3_raise_37 rfl ?_
    refine g_istore (pc := 39) (lv' := [(0, _), (1, _), (2, _), (3, _), (4, _), (5, _)]) dX3_raise_39 (nl rfl) rfl ?_
    refine go_loop (pc := 41) 20 (fun i => [(0, .ref 187), (1, .ref rb), (2, .int x), (3, .ref (rsP (rsIt (mI M 187 5) n bl (mI M rb) x (rs0 M n) i))), (4, .ref (rsN (rsIt (mI M 187 5) n bl (mI M rb) x (rs0 M n) i))), (5, .int (nI (20 - i) - 1))]) (fun i => rsMem M (rsIt (mI M 187 5) n bl (mI M rb) x (rs0 M n) i)) ⟨rfl, rfl, rfl, rfl, rfl, rfl, trivial⟩ ?_ ?_ ?_
    · refine mem_extI rfl rfl rfl rfl rfl rfl (fun i => ?_)
      simp only [rsIt, rs0, rsMem, sI, mI]
      by_cases i1 : i = 187
      · subst i1
        funext j
        by_cases j7 : j = 7
        · subst j7; simp [fun_set]
        · by_cases j6 : j = 6
          · subst j6; simp [fun_set]
          · simp [fun_set, j7, j6]
      · by_cases i2 : i = 188
        · subst i2; simp [fun_set]
        · by_cases i3 : i = 189
          · subst i3; simp [fun_set]
          · by_cases i4 : i = 190
            · subst i4; simp [fun_set]
            · simp [fun_set, i1, i2, i3, i4]
    · intro i hi ih
      have hbit : nI (20 - i) - 1 = nI (19 - i) := by rw [show 20 - i = 19 - i + 1 by omega]; exact nI_pred _
      have hdec : nI (19 - i) + Int32.ofInt (-1) = nI (20 - (i + 1)) - 1 := by
        rw [show 20 - (i + 1) = 19 - i by omega]
        rw [show Int32.ofInt (-1) = -1 by decide +kernel]
        exact (Int32.sub_eq_add_neg _ _).symm
      rw [hbit]
      rw [rsIt] at ih
      generalize rsIt (mI M 187 5) n bl (mI M rb) x (rs0 M n) i = s at ih ⊢
      have p2 : ∀ s1 : RS, rsB (mI M 187 5) n bl (mI M rb) x (19 - i) s1 = rsB (mI M 187 5) n bl (mI M rb) x (19 - i) (rsA (mI M 187 5) n bl x (19 - i) s) → Go l jX3_raise 3 100 0 0 (fun r' M9 => r' = .inl (some (.ref (rsP (raiseEnd M n bl rb x)))) ∧ M9 = rsMem M (raiseEnd M n bl rb x)) 71 [(0, .ref 187), (1, .ref rb), (2, .int x), (3, .ref (rsP s1)), (4, .ref (rsN s1)), (5, .int (nI (19 - i)))] [] 0 0 (rsMem M s1) := by
        intro s1 hs1
        rw [← hs1] at ih
        have hS1 : Shp (rsMem M s1) := hS
        obtain ⟨i1, i2, i3⟩ := rs_ids s1
        by_cases hB : hb x (19 - i) = true
        · rw [rsB, if_pos hB] at ih
          refine g_iload_n (pc := 71) dX3_raise_71 rfl ?_
          refine g_iload (pc := 72) dX3_raise_72 rfl ?_
          refine g_invSN_r (pc := 74) (As := [_, _]) dX3_raise_74 rfl (s_hasOne (by omega)) rfl rfl lk_X3_60 rfl (nb rfl) ⟨nb rfl, nb rfl⟩ rfl ?_
          refine g_if_eq (pc := 77) (tgt := 98) dX3_raise_77 rfl (fun h77 => absurd h77 (by rw [b1_0, hB]; decide)) (fun _ => ?_)
          refine g_aload_n (pc := 80) dX3_raise_80 rfl trivial ?_
          refine g_aload_n (pc := 81) dX3_raise_81 rfl trivial ?_
          refine g_aload_n (pc := 82) dX3_raise_82 rfl trivial ?_
          refine g_aload (pc := 83) dX3_raise_83 rfl trivial ?_
          refine g_invV_r (pc := 85) (As := [_, _, _]) dX3_raise_85 rfl (s_multiply hS1 (by rw [rs_get _ _ (by decide) (by decide)]; exact hz) (by rw [rs_get _ _ (by decide) (by decide)]; exact hbl) hn hb1 hb8 (rs_lay hS _ i1) hk9 (rs_lay hS _ i2) i3 (by omega) (by omega) h2 (by omega) (by omega) (by omega) h3) rfl rfl (shK hS1 rfl) rfl rfl lk_X3_56 rfl (nb rfl) ⟨nb rfl, nb rfl⟩ rfl ?_
          rw [rs_mul s1 (some (mI M rb)) h2 h3 (Or.inr ⟨rfl, h4, h5⟩)]
          refine g_aload (pc := 88) dX3_raise_88 rfl trivial ?_
          refine g_astore (pc := 90) (lv' := [(0, _), (1, _), (2, _), (3, _), (4, _), (5, _), (6, _)]) dX3_raise_90 trivial (nl rfl) rfl ?_
          refine g_aload_n (pc := 92) dX3_raise_92 rfl trivial ?_
          refine g_astore (pc := 93) (lv' := [(0, _), (1, _), (2, _), (3, _), (4, _), (5, _), (6, _)]) dX3_raise_93 trivial (nl rfl) rfl ?_
          refine g_aload (pc := 95) dX3_raise_95 rfl trivial ?_
          refine g_astore_n (pc := 97) (lv' := [(0, _), (1, _), (2, _), (3, _), (4, _), (5, _), (6, _)]) dX3_raise_97 trivial (nl rfl) rfl ?_
          refine g_iinc (pc := 98) (lv' := [(0, _), (1, _), (2, _), (3, _), (4, _), (5, _), (6, _)]) dX3_raise_98 rfl hdec (nl rfl) rfl ?_
          refine g_goto (pc := 101) (tgt := 41) dX3_raise_101 rfl ?_
          obtain ⟨u1, u2⟩ := rsMul_P (mI M 187 5) n bl (some (mI M rb)) s1
          rw [u1, u2] at ih
          exact g_sub (lv' := [(0, _), (1, _), (2, _), (3, _), (4, _), (5, _)]) ⟨rfl, rfl, rfl, rfl, rfl, rfl, trivial⟩ ih
        · rw [rsB, if_neg hB] at ih
          refine g_iload_n (pc := 71) dX3_raise_71 rfl ?_
          refine g_iload (pc := 72) dX3_raise_72 rfl ?_
          refine g_invSN_r (pc := 74) (As := [_, _]) dX3_raise_74 rfl (s_hasOne (by omega)) rfl rfl lk_X3_60 rfl (nb rfl) ⟨nb rfl, nb rfl⟩ rfl ?_
          refine g_if_eq (pc := 77) (tgt := 98) dX3_raise_77 rfl (fun _ => ?_) (fun h77 => absurd (by rw [b1_0]; exact Bool.eq_false_iff.mpr hB) h77)
          refine g_iinc (pc := 98) (lv' := [(0, _), (1, _), (2, _), (3, _), (4, _), (5, _)]) dX3_raise_98 rfl hdec (nl rfl) rfl ?_
          refine g_goto (pc := 101) (tgt := 41) dX3_raise_101 rfl ?_
          exact ih
      have hS1 : Shp (rsMem M s) := hS
      obtain ⟨i1, i2, i3⟩ := rs_ids s
      by_cases hA : x >>> (nI (19 - i) &&& 31) = 0
      · refine g_iload (pc := 41) dX3_raise_41 rfl ?_
        refine g_if_lt (pc := 43) (tgt := 104) dX3_raise_43 rfl (fun h43 => absurd h43 (nI_pos (by omega))) (fun _ => ?_)
        refine g_iload_n (pc := 46) dX3_raise_46 rfl ?_
        refine g_iload (pc := 47) dX3_raise_47 rfl ?_
        refine g_ishr (pc := 49) dX3_raise_49 ?_
        refine g_if_eq (pc := 50) (tgt := 71) dX3_raise_50 rfl (fun _ => ?_) (fun h50 => absurd (hA) h50)
        exact p2 s (by rw [rsA, if_pos hA])
      · refine g_iload (pc := 41) dX3_raise_41 rfl ?_
        refine g_if_lt (pc := 43) (tgt := 104) dX3_raise_43 rfl (fun h43 => absurd h43 (nI_pos (by omega))) (fun _ => ?_)
        refine g_iload_n (pc := 46) dX3_raise_46 rfl ?_
        refine g_iload (pc := 47) dX3_raise_47 rfl ?_
        refine g_ishr (pc := 49) dX3_raise_49 ?_
        refine g_if_eq (pc := 50) (tgt := 71) dX3_raise_50 rfl (fun h50 => absurd h50 (hA)) (fun _ => ?_)
        refine g_aload_n (pc := 53) dX3_raise_53 rfl trivial ?_
        refine g_aload_n (pc := 54) dX3_raise_54 rfl trivial ?_
        refine g_aload_n (pc := 55) dX3_raise_55 rfl trivial ?_
        refine g_aload (pc := 56) dX3_raise_56 rfl trivial ?_
        refine g_invV_r (pc := 58) (As := [_, _, _]) dX3_raise_58 rfl (s_multiply hS1 (by rw [rs_get _ _ (by decide) (by decide)]; exact hz) (by rw [rs_get _ _ (by decide) (by decide)]; exact hbl) hn hb1 hb8 (rs_lay hS _ i1) (rs_lay hS _ i1) (rs_lay hS _ i2) i3 i3 (by omega) (by omega) (by omega) (by omega) (by omega) (by omega)) rfl rfl (shK hS1 rfl) rfl rfl lk_X3_56 rfl (nb rfl) ⟨nb rfl, nb rfl⟩ rfl ?_
        rw [rs_mul s none (by omega) (by omega) (Or.inl ⟨rfl, rfl⟩)]
        refine g_aload (pc := 61) dX3_raise_61 rfl trivial ?_
        refine g_astore (pc := 63) (lv' := [(0, _), (1, _), (2, _), (3, _), (4, _), (5, _), (6, _)]) dX3_raise_63 trivial (nl rfl) rfl ?_
        refine g_aload_n (pc := 65) dX3_raise_65 rfl trivial ?_
        refine g_astore (pc := 66) (lv' := [(0, _), (1, _), (2, _), (3, _), (4, _), (5, _), (6, _)]) dX3_raise_66 trivial (nl rfl) rfl ?_
        refine g_aload (pc := 68) dX3_raise_68 rfl trivial ?_
        refine g_astore_n (pc := 70) (lv' := [(0, _), (1, _), (2, _), (3, _), (4, _), (5, _), (6, _)]) dX3_raise_70 trivial (nl rfl) rfl ?_
        have h9 := p2 (rsMul (mI M 187 5) n bl none s) (by rw [rsA, if_neg hA])
        obtain ⟨u1, u2⟩ := rsMul_P (mI M 187 5) n bl none s
        rw [u1, u2] at h9
        exact g_sub (lv' := [(0, _), (1, _), (2, _), (3, _), (4, _), (5, _)]) ⟨rfl, rfl, rfl, rfl, rfl, rfl, trivial⟩ h9
    · refine g_iload (pc := 41) dX3_raise_41 rfl ?_
      refine g_if_lt (pc := 43) (tgt := 104) dX3_raise_43 rfl (fun _ => ?_) (fun h43 => absurd (by decide) h43)
      refine g_aload_n (pc := 104) dX3_raise_104 rfl trivial ?_
      refine g_areturn (pc := 105) dX3_raise_105 rfl (Or.inr ⟨_, rfl⟩) ?_
      exact ⟨rfl, rfl⟩
end
end
-- 16.elim
section
/-! elimination: 191, left 192, right 193, pivots 194 -/
section
variable {l : Launch} {M : Mem}
/-- left, right, pivots, how many -/
abbrev ES : Type := (Nat → Int32) × (Nat → Int32) × (Nat → Int32) × Nat
def elMem (M : Mem) (s : ES) : Mem := sI (sI (sI (sI M 192 s.1) 193 s.2.1) 194 s.2.2.1) 191 (fun_set (mI M 191) 3 (nI s.2.2.2))
theorem el_l (s : ES) : mI (elMem M s) 192 = s.1 := by simp [elMem, sI, mI, fun_set]
theorem el_r (s : ES) : mI (elMem M s) 193 = s.2.1 := by simp [elMem, sI, mI, fun_set]
theorem el_p (s : ES) : mI (elMem M s) 194 = s.2.2.1 := by simp [elMem, sI, mI, fun_set]
theorem el_c (s : ES) : mI (elMem M s) 191 3 = nI s.2.2.2 := by simp [elMem, sI, mI, fun_set]
theorem el_ne (s : ES) {i : Nat} (h : i < 191 ∨ 194 < i) : mI (elMem M s) i = mI M i := by
  have h1 : i ≠ 191 := by omega
  have h2 : i ≠ 192 := by omega
  have h3 : i ≠ 193 := by omega
  have h4 : i ≠ 194 := by omega
  simp [elMem, sI, mI, fun_set, h1, h2, h3, h4]
theorem el_S (hS : Shp M) (s : ES) : Shp (elMem M s) := hS
theorem el_setL (s : ES) (f : Nat → Int32) : sI (elMem M s) 192 f = elMem M (f, s.2) := by
  refine mem_extI rfl rfl rfl rfl rfl rfl (fun i => ?_)
  simp only [elMem, sI, mI]
  by_cases h : i = 192
  · subst h; simp [fun_set]
  · simp [fun_set, h]
theorem el_setR (s : ES) (f : Nat → Int32) : sI (elMem M s) 193 f = elMem M (s.1, f, s.2.2) := by
  refine mem_extI rfl rfl rfl rfl rfl rfl (fun i => ?_)
  simp only [elMem, sI, mI]
  by_cases h : i = 193
  · subst h; simp [fun_set]
  · simp [fun_set, h]
theorem el_setP (s : ES) (f : Nat → Int32) : sI (elMem M s) 194 f = elMem M (s.1, s.2.1, f, s.2.2.2) := by
  refine mem_extI rfl rfl rfl rfl rfl rfl (fun i => ?_)
  simp only [elMem, sI, mI]
  by_cases h : i = 194
  · subst h; simp [fun_set]
  · simp [fun_set, h]
theorem el_setC (s : ES) (c : Nat) : sI (elMem M s) 191 (fun_set (mI (elMem M s) 191) 3 (nI c)) = elMem M (s.1, s.2.1, s.2.2.1, c) := by
  refine mem_extI rfl rfl rfl rfl rfl rfl (fun i => ?_)
  simp only [elMem, pI, sI, mI]
  by_cases h : i = 191
  · subst h
    funext j
    by_cases h3 : j = 3 <;> simp [fun_set, h3]
  · simp [fun_set, h]
def rnt (lf : Nat → Int32) (c : Nat) : Nat → Nat → Option Nat
  | 0, _ => none
  | d + 1, r => if hb (lf r) c = true then some r else rnt lf c d (r + 1)
def oI (o : Option Nat) : Int32 := match o with
  | some r => nI r
  | none => -1
theorem rnt_lt (lf : Nat → Int32) (c : Nat) : ∀ (d r q : Nat), rnt lf c d r = some q → r ≤ q ∧ q < r + d
  | 0, r, q, h => by cases h
  | d + 1, r, q, h => by
    unfold rnt at h
    split at h
    · cases h; omega
    · have := rnt_lt lf c d (r + 1) q h; omega
theorem s_rowNotTaken {s : ES} {c n : Nat} (hS : Shp M) (hc : c < 32) (hn : n ≤ 32) (hp : s.2.2.2 ≤ n) : EvR l jX1_rowNotTaken 1 30 0 0 [.ref 191, .int (nI c), .int (nI n)] (elMem M s) (.inl (some (.int (oI (rnt s.1 c (n - s.2.2.2) s.2.2.2))))) (elMem M s) := by
  have hS1 : Shp (elMem M s) := hS
  obtain ⟨S, hs⟩ : ∃ S, S = rnt s.1 c (n - s.2.2.2) s.2.2.2 := ⟨_, rfl⟩
  rw [← hs]
  refine ev_intro rfl (nb rfl) rfl ?_
  refine g_aload_n (pc := 0) dX1_rowNotTaken_0 rfl trivial ?_
  refine g_getf (pc := 1) (v := .int _) dX1_rowNotTaken_1 fk_X1_25 (shK hS1 rfl) (fun _ => congrArg Value.int ((el_c s))) ?_
  refine g_istore_n (pc := 4) (lv' := [(0, _), (1, _), (2, _), (3, _)]) dX1_rowNotTaken_4 (nl rfl) rfl ?_
  refine go_while (pc := 5) (σ := Nat) (fun r => r ≤ n ∧ rnt s.1 c (n - r) r = S) (fun r => n - r) (fun r => [(0, .ref 191), (1, .int (nI c)), (2, .int (nI n)), (3, .int (nI r))]) (fun _ => elMem M s) s.2.2.2 ⟨rfl, rfl, rfl, rfl, trivial⟩ rfl ⟨hp, hs.symm⟩ ?_
  rintro r ⟨h1, h2⟩ ih
  by_cases hr : r < n
  · rw [show n - r = (n - (r + 1)) + 1 by omega, rnt] at h2
    refine g_iload_n (pc := 5) dX1_rowNotTaken_5 rfl ?_
    refine g_iload_n (pc := 6) dX1_rowNotTaken_6 rfl ?_
    refine g_icmp_ge (pc := 7) (tgt := 31) dX1_rowNotTaken_7 rfl (fun h7 => absurd h7 (nI_ge hr (by omega))) (fun _ => ?_)
    refine g_aload_n (pc := 10) dX1_rowNotTaken_10 rfl trivial ?_
    refine g_getf (pc := 11) dX1_rowNotTaken_11 fk_X1_9 (shK hS1 rfl) (fv_arr (shR hS1 rfl)) ?_
    refine g_iload_n (pc := 14) dX1_rowNotTaken_14 rfl ?_
    refine g_iaload (pc := 15) dX1_rowNotTaken_15 (shK hS1 rfl) rfl (by omega) (nl rfl) ?_
    rw [el_l]
    refine g_iload_n (pc := 16) dX1_rowNotTaken_16 rfl ?_
    refine g_invSN_r (pc := 17) (As := [_, _]) dX1_rowNotTaken_17 rfl (s_hasOne hc) rfl rfl lk_X1_47 rfl (nb rfl) ⟨nb rfl, nb rfl⟩ rfl ?_
    refine g_if_eq (pc := 20) (tgt := 25) dX1_rowNotTaken_20 rfl (fun h20 => ?_) (fun h20 => ?_)
    · rw [b1_0] at h20
      rw [if_neg (by rw [h20]; decide)] at h2
      refine g_iinc (pc := 25) (lv' := [(0, _), (1, _), (2, _), (3, _)]) dX1_rowNotTaken_25 rfl (nI_1 _) (nl rfl) rfl ?_
      refine g_goto (pc := 28) (tgt := 5) dX1_rowNotTaken_28 rfl ?_
      exact ih (r + 1) ⟨by omega, h2⟩ (by omega)
    · rw [b1_0, Bool.not_eq_false] at h20
      rw [if_pos h20] at h2
      refine g_iload_n (pc := 23) dX1_rowNotTaken_23 rfl ?_
      refine g_ireturn (pc := 24) dX1_rowNotTaken_24 rfl rfl ?_
      exact ⟨by rw [← h2]; rfl, rfl⟩
  · have hr' : r = n := by omega
    subst hr'
    refine g_iload_n (pc := 5) dX1_rowNotTaken_5 rfl ?_
    refine g_iload_n (pc := 6) dX1_rowNotTaken_6 rfl ?_
    refine g_icmp_ge (pc := 7) (tgt := 31) dX1_rowNotTaken_7 rfl (fun _ => ?_) (fun h7 => absurd (nI_le (Nat.le_refl _) (by omega)) h7)
    refine g_iconst (pc := 31) (v := (-1)) dX1_rowNotTaken_31 rfl ?_
    refine g_ireturn (pc := 32) dX1_rowNotTaken_32 rfl rfl ?_
    exact ⟨by rw [← h2, Nat.sub_self]; rfl, rfl⟩
def swp (f : Nat → Int32) (a b : Nat) : Nat → Int32 := fun_set (fun_set f a (f b)) b (f a)
theorem s_swapRows {s : ES} {a b : Nat} (hS : Shp M) (ha : a < 32) (hb9 : b < 32) : EvR l jX1_swapRows 0 0 0 0 [.ref 191, .int (nI a), .int (nI b)] (elMem M s) (.inl none) (elMem M (swp s.1 a b, swp s.2.1 a b, s.2.2)) := by
  have hS1 : Shp (elMem M s) := hS
  refine ev_intro rfl (nb rfl) rfl ?_
  refine g_aload_n (pc := 0) dX1_swapRows_0 rfl trivial ?_
  refine g_getf (pc := 1) dX1_swapRows_1 fk_X1_9 (shK hS1 rfl) (fv_arr (shR hS1 rfl)) ?_
  refine g_iload_n (pc := 4) dX1_swapRows_4 rfl ?_
  refine g_iaload (pc := 5) dX1_swapRows_5 (shK hS1 rfl) rfl (by omega) (nl rfl) ?_
  rw [el_l]
  refine g_istore_n (pc := 6) (lv' := [(0, _), (1, _), (2, _), (3, _)]) dX1_swapRows_6 (nl rfl) rfl ?_
  refine g_aload_n (pc := 7) dX1_swapRows_7 rfl trivial ?_
  refine g_getf (pc := 8) dX1_swapRows_8 fk_X1_9 (shK hS1 rfl) (fv_arr (shR hS1 rfl)) ?_
  refine g_iload_n (pc := 11) dX1_swapRows_11 rfl ?_
  refine g_aload_n (pc := 12) dX1_swapRows_12 rfl trivial ?_
  refine g_getf (pc := 13) dX1_swapRows_13 fk_X1_9 (shK hS1 rfl) (fv_arr (shR hS1 rfl)) ?_
  refine g_iload_n (pc := 16) dX1_swapRows_16 rfl ?_
  refine g_iaload (pc := 17) dX1_swapRows_17 (shK hS1 rfl) rfl (by omega) (nl rfl) ?_
  rw [el_l]
  refine g_iastore (pc := 18) dX1_swapRows_18 (shK hS1 rfl) rfl (by omega) (nl rfl) ?_
  rw [el_l, el_setL]
  refine g_aload_n (pc := 19) dX1_swapRows_19 rfl trivial ?_
  refine g_getf (pc := 20) dX1_swapRows_20 fk_X1_9 (shK hS1 rfl) (fv_arr (shR hS1 rfl)) ?_
  refine g_iload_n (pc := 23) dX1_swapRows_23 rfl ?_
  refine g_iload_n (pc := 24) dX1_swapRows_24 rfl ?_
  refine g_iastore (pc := 25) dX1_swapRows_25 (shK hS1 rfl) rfl (by omega) (nl rfl) ?_
  rw [el_l, el_setL]
  refine g_aload_n (pc := 26) dX1_swapRows_26 rfl trivial ?_
  refine g_getf (pc := 27) dX1_swapRows_27 fk_X1_15 (shK hS1 rfl) (fv_arr (shR hS1 rfl)) ?_
  refine g_iload_n (pc := 30) dX1_swapRows_30 rfl ?_
  refine g_iaload (pc := 31) dX1_swapRows_31 (shK hS1 rfl) rfl (by omega) (nl rfl) ?_
  rw [el_r]
  refine g_istore (pc := 32) (lv' := [(0, _), (1, _), (2, _), (3, _), (4, _)]) dX1_swapRows_32 (nl rfl) rfl ?_
  refine g_aload_n (pc := 34) dX1_swapRows_34 rfl trivial ?_
  refine g_getf (pc := 35) dX1_swapRows_35 fk_X1_15 (shK hS1 rfl) (fv_arr (shR hS1 rfl)) ?_
  refine g_iload_n (pc := 38) dX1_swapRows_38 rfl ?_
  refine g_aload_n (pc := 39) dX1_swapRows_39 rfl trivial ?_
  refine g_getf (pc := 40) dX1_swapRows_40 fk_X1_15 (shK hS1 rfl) (fv_arr (shR hS1 rfl)) ?_
  refine g_iload_n (pc := 43) dX1_swapRows_43 rfl ?_
  refine g_iaload (pc := 44) dX1_swapRows_44 (shK hS1 rfl) rfl (by omega) (nl rfl) ?_
  rw [el_r]
  refine g_iastore (pc := 45) dX1_swapRows_45 (shK hS1 rfl) rfl (by omega) (nl rfl) ?_
  rw [el_r, el_setR]
  refine g_aload_n (pc := 46) dX1_swapRows_46 rfl trivial ?_
  refine g_getf (pc := 47) dX1_swapRows_47 fk_X1_15 (shK hS1 rfl) (fv_arr (shR hS1 rfl)) ?_
  refine g_iload_n (pc := 50) dX1_swapRows_50 rfl ?_
  refine g_iload (pc := 51) dX1_swapRows_51 rfl ?_
  refine g_iastore (pc := 53) dX1_swapRows_53 (shK hS1 rfl) rfl (by omega) (nl rfl) ?_
  rw [el_r, el_setR]
  refine g_return (pc := 54) dX1_swapRows_54 rfl ?_
  exact ⟨rfl, rfl⟩
def clG (t c : Nat) (lf rt : Nat → Int32) : Nat → (Nat → Int32) × (Nat → Int32)
  | 0 => (lf, rt)
  | i + 1 => if i ≠ t ∧ hb ((clG t c lf rt i).1 i) c = true then (fun_set (clG t c lf rt i).1 i ((clG t c lf rt i).1 i ^^^ (clG t c lf rt i).1 t), fun_set (clG t c lf rt i).2 i ((clG t c lf rt i).2 i ^^^ (clG t c lf rt i).2 t)) else clG t c lf rt i
theorem s_clearOthers {s : ES} {t c n : Nat} (hS : Shp M) (ht : t < 32) (hc : c < 32) (hn : n ≤ 32) : EvR l jX1_clearOthers 1 30 0 0 [.ref 191, .int (nI t), .int (nI c), .int (nI n)] (elMem M s) (.inl none) (elMem M ((clG t c s.1 s.2.1 n).1, (clG t c s.1 s.2.1 n).2, s.2.2)) := by
  refine ev_intro rfl (nb rfl) rfl ?_
  refine g_iconst (pc := 0) (v := 0) dX1_clearOthers_0 rfl ?_
  refine g_istore (pc := 1) (lv' := [(0, _), (1, _), (2, _), (3, _), (4, _)]) dX1_clearOthers_1 (nl rfl) rfl ?_
  refine go_loop (pc := 3) n (fun i => [(0, .ref 191), (1, .int (nI t)), (2, .int (nI c)), (3, .int (nI n)), (4, .int (nI i))]) (fun i => elMem M ((clG t c s.1 s.2.1 i).1, (clG t c s.1 s.2.1 i).2, s.2.2)) ⟨rfl, rfl, rfl, rfl, rfl, trivial⟩ rfl ?_ ?_
  · intro i hi ih
    have hS1 : Shp (elMem M ((clG t c s.1 s.2.1 i).1, (clG t c s.1 s.2.1 i).2, s.2.2)) := hS
    rw [clG] at ih
    refine g_iload (pc := 3) dX1_clearOthers_3 rfl ?_
    refine g_iload_n (pc := 5) dX1_clearOthers_5 rfl ?_
    refine g_icmp_ge (pc := 6) (tgt := 67) dX1_clearOthers_6 rfl (fun h6 => absurd h6 (nI_ge hi (by omega))) (fun _ => ?_)
    refine g_iload (pc := 9) dX1_clearOthers_9 rfl ?_
    refine g_iload_n (pc := 11) dX1_clearOthers_11 rfl ?_
    refine g_icmp_eq (pc := 12) (tgt := 61) dX1_clearOthers_12 rfl (fun h12 => ?_) (fun h12 => ?_)
    · rw [if_neg (fun h => h.1 ((nI_eq (by omega) (by omega)).mp h12))] at ih
      refine g_iinc (pc := 61) (lv' := [(0, _), (1, _), (2, _), (3, _), (4, _)]) dX1_clearOthers_61 rfl (nI_1 _) (nl rfl) rfl ?_
      refine g_goto (pc := 64) (tgt := 3) dX1_clearOthers_64 rfl ?_
      exact ih
    · have h12' : i ≠ t := fun h => h12 (by rw [h])
      refine g_aload_n (pc := 15) dX1_clearOthers_15 rfl trivial ?_
      refine g_getf (pc := 16) dX1_clearOthers_16 fk_X1_9 (shK hS1 rfl) (fv_arr (shR hS1 rfl)) ?_
      refine g_iload (pc := 19) dX1_clearOthers_19 rfl ?_
      refine g_iaload (pc := 21) dX1_clearOthers_21 (shK hS1 rfl) rfl (by omega) (nl rfl) ?_
      rw [el_l]
      refine g_iload_n (pc := 22) dX1_clearOthers_22 rfl ?_
      refine g_invSN_r (pc := 23) (As := [_, _]) dX1_clearOthers_23 rfl (s_hasOne hc) rfl rfl lk_X1_47 rfl (nb rfl) ⟨nb rfl, nb rfl⟩ rfl ?_
      refine g_if_eq (pc := 26) (tgt := 61) dX1_clearOthers_26 rfl (fun h26 => ?_) (fun h26 => ?_)
      · rw [b1_0] at h26
        rw [if_neg (fun h => absurd (h26.symm.trans h.2) (by decide))] at ih
        refine g_iinc (pc := 61) (lv' := [(0, _), (1, _), (2, _), (3, _), (4, _)]) dX1_clearOthers_61 rfl (nI_1 _) (nl rfl) rfl ?_
        refine g_goto (pc := 64) (tgt := 3) dX1_clearOthers_64 rfl ?_
        exact ih
      · rw [b1_0, Bool.not_eq_false] at h26
        rw [if_pos ⟨h12', h26⟩] at ih
        refine g_aload_n (pc := 29) dX1_clearOthers_29 rfl trivial ?_
        refine g_getf (pc := 30) dX1_clearOthers_30 fk_X1_9 (shK hS1 rfl) (fv_arr (shR hS1 rfl)) ?_
        refine g_iload (pc := 33) dX1_clearOthers_33 rfl ?_
        refine g_dup2_11 (pc := 35) dX1_clearOthers_35 rfl rfl ?_
        refine g_iaload (pc := 36) dX1_clearOthers_36 (shK hS1 rfl) rfl (by omega) (nl rfl) ?_
        rw [el_l]
        refine g_aload_n (pc := 37) dX1_clearOthers_37 rfl trivial ?_
        refine g_getf (pc := 38) dX1_clearOthers_38 fk_X1_9 (shK hS1 rfl) (fv_arr (shR hS1 rfl)) ?_
        refine g_iload_n (pc := 41) dX1_clearOthers_41 rfl ?_
        refine g_iaload (pc := 42) dX1_clearOthers_42 (shK hS1 rfl) rfl (by omega) (nl rfl) ?_
        rw [el_l]
        refine g_ixor (pc := 43) dX1_clearOthers_43 ?_
        refine g_iastore (pc := 44) dX1_clearOthers_44 (shK hS1 rfl) rfl (by omega) (nl rfl) ?_
        rw [el_l, el_setL]
        refine g_aload_n (pc := 45) dX1_clearOthers_45 rfl trivial ?_
        refine g_getf (pc := 46) dX1_clearOthers_46 fk_X1_15 (shK hS1 rfl) (fv_arr (shR hS1 rfl)) ?_
        refine g_iload (pc := 49) dX1_clearOthers_49 rfl ?_
        refine g_dup2_11 (pc := 51) dX1_clearOthers_51 rfl rfl ?_
        refine g_iaload (pc := 52) dX1_clearOthers_52 (shK hS1 rfl) rfl (by omega) (nl rfl) ?_
        rw [el_r]
        refine g_aload_n (pc := 53) dX1_clearOthers_53 rfl trivial ?_
        refine g_getf (pc := 54) dX1_clearOthers_54 fk_X1_15 (shK hS1 rfl) (fv_arr (shR hS1 rfl)) ?_
        refine g_iload_n (pc := 57) dX1_clearOthers_57 rfl ?_
        refine g_iaload (pc := 58) dX1_clearOthers_58 (shK hS1 rfl) rfl (by omega) (nl rfl) ?_
        rw [el_r]
        refine g_ixor (pc := 59) dX1_clearOthers_59 ?_
        refine g_iastore (pc := 60) dX1_clearOthers_60 (shK hS1 rfl) rfl (by omega) (nl rfl) ?_
        rw [el_r, el_setR]
        refine g_iinc (pc := 61) (lv' := [(0, _), (1, _), (2, _), (3, _), (4, _)]) dX1_clearOthers_61 rfl (nI_1 _) (nl rfl) rfl ?_
        refine g_goto (pc := 64) (tgt := 3) dX1_clearOthers_64 rfl ?_
        exact ih
  · have hS1 : Shp (elMem M ((clG t c s.1 s.2.1 n).1, (clG t c s.1 s.2.1 n).2, s.2.2)) := hS
    refine g_iload (pc := 3) dX1_clearOthers_3 rfl ?_
    refine g_iload_n (pc := 5) dX1_clearOthers_5 rfl ?_
    refine g_icmp_ge (pc := 6) (tgt := 67) dX1_clearOthers_6 rfl (fun _ => ?_) (fun h6 => absurd (nI_le (Nat.le_refl _) (by omega)) h6)
    refine g_return (pc := 67) dX1_clearOthers_67 rfl ?_
    exact ⟨rfl, rfl⟩
def elStep (n c : Nat) (s : ES) : ES := match rnt s.1 c (n - s.2.2.2) s.2.2.2 with
  | none => s
  | some r => ((clG s.2.2.2 c (swp s.1 r s.2.2.2) (swp s.2.1 r s.2.2.2) n).1, (clG s.2.2.2 c (swp s.1 r s.2.2.2) (swp s.2.1 r s.2.2.2) n).2, fun_set s.2.2.1 s.2.2.2 (nI c), s.2.2.2 + 1)
def elIt (n : Nat) (s : ES) : Nat → ES
  | 0 => s
  | c + 1 => elStep n c (elIt n s c)
theorem elIt_c (n : Nat) (s : ES) : ∀ c, (elIt n s c).2.2.2 ≤ s.2.2.2 + c
  | 0 => Nat.le_refl _
  | c + 1 => by
    have h := elIt_c n s c
    unfold elIt elStep
    split
    · omega
    · simp only; omega
/-- all of it, from rows and a right side -/
def elAll (M : Mem) (n : Nat) (rows rt : Nat → Int32) : ES := elIt n (wr (mI M 192) rows n, rt, mI M 194, 0) n
theorem s_eliminateAll {r n : Nat} {rt : Nat → Int32} (hS : Shp M) (hk : (mK M)[r]? = some (kI 32)) (hr : r < 191 ∨ 194 < r) (hn : n ≤ 32) : EvR l jX1_eliminateAll 2 60 0 0 [.ref 191, .ref r, .int (nI n)] (sI M 193 rt) (.inl none) (elMem M (elAll M n (mI M r) rt)) := by
  have hSr : Shp (sI M 193 rt) := hS
  have hk2 : (mK (sI M 193 rt))[r]? = some (kI 32) := hk
  refine ev_intro rfl (nb rfl) rfl ?_
  refine g_aload_n (pc := 0) dX1_eliminateAll_0 rfl trivial ?_
  refine g_iconst (pc := 1) (v := 0) dX1_eliminateAll_1 rfl ?_
  refine g_aload_n (pc := 2) dX1_eliminateAll_2 rfl trivial ?_
  refine g_getf (pc := 3) dX1_eliminateAll_3 fk_X1_9 (shK hSr rfl) (fv_arr (shR hSr rfl)) ?_
  refine g_iconst (pc := 6) (v := 0) dX1_eliminateAll_6 rfl ?_
  refine g_iload_n (pc := 7) dX1_eliminateAll_7 rfl ?_
  refine g_copyI (pc := 8) (sp := 0) (dp := 0) dX1_eliminateAll_8 wd_960 wd_510 wd_509 wd_108 hk2 (shK hSr rfl) rfl rfl rfl (by omega) (by omega) ⟨by decide, by decide⟩ hSr.2.1 (nb rfl) (nb rfl) ?_
  rw [cpy_wr, sI_ne (show r ≠ 193 by omega), sI_ne (show 192 ≠ 193 by decide)]
  refine g_aload_n (pc := 11) dX1_eliminateAll_11 rfl trivial ?_
  refine g_iconst (pc := 12) (v := 0) dX1_eliminateAll_12 rfl ?_
  refine g_putI (pc := 13) dX1_eliminateAll_13 fp_X1_25 (shK hSr rfl) ⟨rfl, rfl⟩ (fun _ _ _ _ => rfl) ?_
  refine g_iconst (pc := 16) (v := 0) dX1_eliminateAll_16 rfl ?_
  refine g_istore_n (pc := 17) (lv' := [(0, _), (1, _), (2, _), (3, _)]) dX1_eliminateAll_17 (nl rfl) rfl ?_
  refine go_loop (pc := 18) n (fun i => [(0, .ref 191), (1, .ref r), (2, .int (nI n)), (3, .int (nI i))]) (fun i => elMem M (elIt n (wr (mI M 192) (mI M r) n, rt, mI M 194, 0) i)) ⟨rfl, rfl, rfl, rfl, trivial⟩ ?_ ?_ ?_
  · refine mem_extI rfl rfl rfl rfl rfl rfl (fun i => ?_)
    simp only [elIt, elMem, pI, sI, mI]
    by_cases h1 : i = 191
    · subst h1
      funext j
      by_cases h3 : j = 3
      · subst h3; simp [fun_set, nI_0]
      · simp [fun_set, h3]
    · by_cases h2 : i = 192
      · subst h2; simp [fun_set]
      · by_cases h3 : i = 193
        · subst h3; simp [fun_set]
        · by_cases h4 : i = 194
          · subst h4; simp [fun_set]
          · simp [fun_set, h1, h2, h3, h4]
  · intro i hi ih
    have hc := elIt_c n (wr (mI M 192) (mI M r) n, rt, mI M 194, 0) i
    rw [elIt] at ih
    generalize elIt n (wr (mI M 192) (mI M r) n, rt, mI M 194, 0) i = s at ih hc ⊢
    simp only [Nat.zero_add] at hc
    have hS1 : Shp (elMem M s) := hS
    unfold elStep at ih
    have hq := rnt_lt s.1 i (n - s.2.2.2) s.2.2.2
    cases hr9 : rnt s.1 i (n - s.2.2.2) s.2.2.2 with
    | none =>
      rw [hr9] at ih
      refine g_iload_n (pc := 18) dX1_eliminateAll_18 rfl ?_
      refine g_iload_n (pc := 19) dX1_eliminateAll_19 rfl ?_
      refine g_icmp_ge (pc := 20) (tgt := 83) dX1_eliminateAll_20 rfl (fun h20 => absurd h20 (nI_ge hi (by omega))) (fun _ => ?_)
      refine g_aload_n (pc := 23) dX1_eliminateAll_23 rfl trivial ?_
      refine g_iload_n (pc := 24) dX1_eliminateAll_24 rfl ?_
      refine g_iload_n (pc := 25) dX1_eliminateAll_25 rfl ?_
      refine g_invV_r (pc := 26) (As := [_, _]) dX1_eliminateAll_26 rfl ((by have h8 := s_rowNotTaken (l := l) (M := M) (s := s) (c := i) (n := n) hS (by omega) hn (by omega); rw [hr9] at h8; exact h8 : EvR l jX1_rowNotTaken 1 30 0 0 [.ref 191, .int (nI i), .int (nI n)] (elMem M s) (.inl (some (.int (-1)))) (elMem M s))) rfl rfl (shK hS1 rfl) rfl rfl lk_X1_35 rfl (nb rfl) ⟨nb rfl, nb rfl⟩ rfl ?_
      refine g_istore (pc := 29) (lv' := [(0, _), (1, _), (2, _), (3, _), (4, _)]) dX1_eliminateAll_29 (nl rfl) rfl ?_
      refine g_iload (pc := 31) dX1_eliminateAll_31 rfl ?_
      refine g_iconst (pc := 33) (v := (-1)) dX1_eliminateAll_33 rfl ?_
      refine g_icmp_eq (pc := 34) (tgt := 77) dX1_eliminateAll_34 rfl (fun _ => ?_) (fun h34 => absurd (rfl) h34)
      refine g_iinc (pc := 77) (lv' := [(0, _), (1, _), (2, _), (3, _), (4, _)]) dX1_eliminateAll_77 rfl (nI_1 _) (nl rfl) rfl ?_
      refine g_goto (pc := 80) (tgt := 18) dX1_eliminateAll_80 rfl ?_
      exact g_sub (lv' := [(0, _), (1, _), (2, _), (3, _)]) ⟨rfl, rfl, rfl, rfl, trivial⟩ ih
    | some q =>
      rw [hr9] at ih
      have hq' := hq q hr9
      refine g_iload_n (pc := 18) dX1_eliminateAll_18 rfl ?_
      refine g_iload_n (pc := 19) dX1_eliminateAll_19 rfl ?_
      refine g_icmp_ge (pc := 20) (tgt := 83) dX1_eliminateAll_20 rfl (fun h20 => absurd h20 (nI_ge hi (by omega))) (fun _ => ?_)
      refine g_aload_n (pc := 23) dX1_eliminateAll_23 rfl trivial ?_
      refine g_iload_n (pc := 24) dX1_eliminateAll_24 rfl ?_
      refine g_iload_n (pc := 25) dX1_eliminateAll_25 rfl ?_
      refine g_invV_r (pc := 26) (As := [_, _]) dX1_eliminateAll_26 rfl ((by have h8 := s_rowNotTaken (l := l) (M := M) (s := s) (c := i) (n := n) hS (by omega) hn (by omega); rw [hr9] at h8; exact h8 : EvR l jX1_rowNotTaken 1 30 0 0 [.ref 191, .int (nI i), .int (nI n)] (elMem M s) (.inl (some (.int (nI q)))) (elMem M s))) rfl rfl (shK hS1 rfl) rfl rfl lk_X1_35 rfl (nb rfl) ⟨nb rfl, nb rfl⟩ rfl ?_
      refine g_istore (pc := 29) (lv' := [(0, _), (1, _), (2, _), (3, _), (4, _)]) dX1_eliminateAll_29 (nl rfl) rfl ?_
      refine g_iload (pc := 31) dX1_eliminateAll_31 rfl ?_
      refine g_iconst (pc := 33) (v := (-1)) dX1_eliminateAll_33 rfl ?_
      refine g_icmp_eq (pc := 34) (tgt := 77) dX1_eliminateAll_34 rfl (fun h34 => absurd h34 (fun h => nI_pos (n := q) (by omega) (by rw [h]; decide))) (fun _ => ?_)
      refine g_aload_n (pc := 37) dX1_eliminateAll_37 rfl trivial ?_
      refine g_iload (pc := 38) dX1_eliminateAll_38 rfl ?_
      refine g_aload_n (pc := 40) dX1_eliminateAll_40 rfl trivial ?_
      refine g_getf (pc := 41) (v := .int _) dX1_eliminateAll_41 fk_X1_25 (shK hS1 rfl) (fun _ => congrArg Value.int ((el_c s))) ?_
      refine g_invV_r (pc := 44) (As := [_, _]) dX1_eliminateAll_44 rfl (s_swapRows hS (by omega) (by omega)) rfl rfl (shK hS1 rfl) rfl rfl lk_X1_39 rfl (nb rfl) ⟨nb rfl, nb rfl⟩ rfl ?_
      refine g_aload_n (pc := 47) dX1_eliminateAll_47 rfl trivial ?_
      refine g_aload_n (pc := 48) dX1_eliminateAll_48 rfl trivial ?_
      refine g_getf (pc := 49) (v := .int _) dX1_eliminateAll_49 fk_X1_25 (shK hS1 rfl) (fun _ => congrArg Value.int ((el_c _))) ?_
      refine g_iload_n (pc := 52) dX1_eliminateAll_52 rfl ?_
      refine g_iload_n (pc := 53) dX1_eliminateAll_53 rfl ?_
      refine g_invV_r (pc := 54) (As := [_, _, _]) dX1_eliminateAll_54 rfl (s_clearOthers hS (show s.2.2.2 < 32 by omega) (by omega) hn) rfl rfl (shK hS1 rfl) rfl rfl lk_X1_43 rfl (nb rfl) ⟨nb rfl, nb rfl⟩ rfl ?_
      refine g_aload_n (pc := 57) dX1_eliminateAll_57 rfl trivial ?_
      refine g_getf (pc := 58) dX1_eliminateAll_58 fk_X1_18 (shK hS1 rfl) (fv_arr (shR hS1 rfl)) ?_
      refine g_aload_n (pc := 61) dX1_eliminateAll_61 rfl trivial ?_
      refine g_getf (pc := 62) (v := .int _) dX1_eliminateAll_62 fk_X1_25 (shK hS1 rfl) (fun _ => congrArg Value.int ((el_c _))) ?_
      refine g_iload_n (pc := 65) dX1_eliminateAll_65 rfl ?_
      refine g_iastore (pc := 66) dX1_eliminateAll_66 (shK hS1 rfl) rfl (by omega : s.2.2.2 < 32) (nl rfl) ?_
      rw [el_p, el_setP]
      refine g_aload_n (pc := 67) dX1_eliminateAll_67 rfl trivial ?_
      refine g_dup (pc := 68) dX1_eliminateAll_68 rfl ?_
      refine g_getf (pc := 69) (v := .int _) dX1_eliminateAll_69 fk_X1_25 (shK hS1 rfl) (fun _ => congrArg Value.int ((el_c _))) ?_
      refine g_iconst (pc := 72) (v := 1) dX1_eliminateAll_72 rfl ?_
      refine g_iadd (pc := 73) dX1_eliminateAll_73 ?_
      rw [nI_1]
      refine g_putI (pc := 74) dX1_eliminateAll_74 fp_X1_25 (shK hS1 rfl) ⟨rfl, rfl⟩ (fun _ _ _ _ => rfl) ?_
      rw [el_setC]
      refine g_iinc (pc := 77) (lv' := [(0, _), (1, _), (2, _), (3, _), (4, _)]) dX1_eliminateAll_77 rfl (nI_1 _) (nl rfl) rfl ?_
      refine g_goto (pc := 80) (tgt := 18) dX1_eliminateAll_80 rfl ?_
      exact g_sub (lv' := [(0, _), (1, _), (2, _), (3, _)]) ⟨rfl, rfl, rfl, rfl, trivial⟩ ih
  · refine g_iload_n (pc := 18) dX1_eliminateAll_18 rfl ?_
    refine g_iload_n (pc := 19) dX1_eliminateAll_19 rfl ?_
    refine g_icmp_ge (pc := 20) (tgt := 83) dX1_eliminateAll_20 rfl (fun _ => ?_) (fun h20 => absurd (nI_le (Nat.le_refl _) (by omega)) h20)
    refine g_return (pc := 83) dX1_eliminateAll_83 rfl ?_
    exact ⟨rfl, rfl⟩
theorem s_eliminate {r n : Nat} {x : Int32} (hS : Shp M) (hk : (mK M)[r]? = some (kI 32)) (hr : r < 191 ∨ 194 < r) (hn : n ≤ 32) : EvR l jX1_eliminate 3 90 0 0 [.ref 191, .ref r, .int (nI n), .int x] M (.inl none) (elMem M (elAll M n (mI M r) (wr (mI M 193) (fun i => us x (nI i) &&& 1) n))) := by
  refine ev_intro rfl (nb rfl) rfl ?_
  refine g_iconst (pc := 0) (v := 0) dX1_eliminate_0 rfl ?_
  refine g_istore (pc := 1) (lv' := [(0, _), (1, _), (2, _), (3, _), (4, _)]) dX1_eliminate_1 (nl rfl) rfl ?_
  refine go_loop (pc := 3) n (fun i => [(0, .ref 191), (1, .ref r), (2, .int (nI n)), (3, .int x), (4, .int (nI i))]) (fun i => sI M 193 (wr (mI M 193) (fun i => us x (nI i) &&& 1) i)) ⟨rfl, rfl, rfl, rfl, rfl, trivial⟩ (sI_eq (wr_0 _ _)) ?_ ?_
  · intro i hi ih
    refine g_iload (pc := 3) dX1_eliminate_3 rfl ?_
    refine g_iload_n (pc := 5) dX1_eliminate_5 rfl ?_
    refine g_icmp_ge (pc := 6) (tgt := 28) dX1_eliminate_6 rfl (fun h6 => absurd h6 (nI_ge hi (by omega))) (fun _ => ?_)
    refine g_aload_n (pc := 9) dX1_eliminate_9 rfl trivial ?_
    refine g_getf (pc := 10) dX1_eliminate_10 fk_X1_15 (shK hS rfl) (fv_arr (shR hS rfl)) ?_
    refine g_iload (pc := 13) dX1_eliminate_13 rfl ?_
    refine g_iload_n (pc := 15) dX1_eliminate_15 rfl ?_
    refine g_iload (pc := 16) dX1_eliminate_16 rfl ?_
    refine g_iushr (pc := 18) dX1_eliminate_18 rfl ?_
    refine g_iconst (pc := 19) (v := 1) dX1_eliminate_19 rfl ?_
    refine g_iand (pc := 20) dX1_eliminate_20 ?_
    refine g_iastore (pc := 21) dX1_eliminate_21 (shK hS rfl) rfl (by omega) (nl rfl) ?_
    refine g_iinc (pc := 22) (lv' := [(0, _), (1, _), (2, _), (3, _), (4, _)]) dX1_eliminate_22 rfl (nI_1 _) (nl rfl) rfl ?_
    refine g_goto (pc := 25) (tgt := 3) dX1_eliminate_25 rfl ?_
    exact go_cast (sI_st (wr_s _ (fun i => us x (nI i) &&& 1) i)) ih
  · refine g_iload (pc := 3) dX1_eliminate_3 rfl ?_
    refine g_iload_n (pc := 5) dX1_eliminate_5 rfl ?_
    refine g_icmp_ge (pc := 6) (tgt := 28) dX1_eliminate_6 rfl (fun _ => ?_) (fun h6 => absurd (nI_le (Nat.le_refl _) (by omega)) h6)
    refine g_aload_n (pc := 28) dX1_eliminate_28 rfl trivial ?_
    refine g_aload_n (pc := 29) dX1_eliminate_29 rfl trivial ?_
    refine g_iload_n (pc := 30) dX1_eliminate_30 rfl ?_
    refine g_invV_r (pc := 31) (As := [_, _]) dX1_eliminate_31 rfl (s_eliminateAll hS hk hr hn) rfl rfl (shK hS rfl) rfl rfl lk_X1_21 rfl (nb rfl) ⟨nb rfl, nb rfl⟩ rfl ?_
    refine g_return (pc := 34) dX1_eliminate_34 rfl ?_
    exact ⟨rfl, rfl⟩
theorem s_eliminateBesideUnit {r n : Nat} (hS : Shp M) (hk : (mK M)[r]? = some (kI 32)) (hr : r < 191 ∨ 194 < r) (hn : n ≤ 32) : EvR l jX1_eliminateBesideUnit 3 90 0 0 [.ref 191, .ref r, .int (nI n)] M (.inl none) (elMem M (elAll M n (mI M r) (wr (mI M 193) bitI n))) := by
  refine ev_intro rfl (nb rfl) rfl ?_
  refine g_iconst (pc := 0) (v := 0) dX1_eliminateBesideUnit_0 rfl ?_
  refine g_istore_n (pc := 1) (lv' := [(0, _), (1, _), (2, _), (3, _)]) dX1_eliminateBesideUnit_1 (nl rfl) rfl ?_
  refine go_loop (pc := 2) n (fun i => [(0, .ref 191), (1, .ref r), (2, .int (nI n)), (3, .int (nI i))]) (fun i => sI M 193 (wr (mI M 193) bitI i)) ⟨rfl, rfl, rfl, rfl, trivial⟩ (sI_eq (wr_0 _ _)) ?_ ?_
  · intro i hi ih
    refine g_iload_n (pc := 2) dX1_eliminateBesideUnit_2 rfl ?_
    refine g_iload_n (pc := 3) dX1_eliminateBesideUnit_3 rfl ?_
    refine g_icmp_ge (pc := 4) (tgt := 22) dX1_eliminateBesideUnit_4 rfl (fun h4 => absurd h4 (nI_ge hi (by omega))) (fun _ => ?_)
    refine g_aload_n (pc := 7) dX1_eliminateBesideUnit_7 rfl trivial ?_
    refine g_getf (pc := 8) dX1_eliminateBesideUnit_8 fk_X1_15 (shK hS rfl) (fv_arr (shR hS rfl)) ?_
    refine g_iload_n (pc := 11) dX1_eliminateBesideUnit_11 rfl ?_
    refine g_iconst (pc := 12) (v := 1) dX1_eliminateBesideUnit_12 rfl ?_
    refine g_iload_n (pc := 13) dX1_eliminateBesideUnit_13 rfl ?_
    refine g_ishl (pc := 14) dX1_eliminateBesideUnit_14 ?_
    refine g_iastore (pc := 15) dX1_eliminateBesideUnit_15 (shK hS rfl) rfl (by omega) (nl rfl) ?_
    refine g_iinc (pc := 16) (lv' := [(0, _), (1, _), (2, _), (3, _)]) dX1_eliminateBesideUnit_16 rfl (nI_1 _) (nl rfl) rfl ?_
    refine g_goto (pc := 19) (tgt := 2) dX1_eliminateBesideUnit_19 rfl ?_
    exact go_cast (sI_st (wr_s _ bitI i)) ih
  · refine g_iload_n (pc := 2) dX1_eliminateBesideUnit_2 rfl ?_
    refine g_iload_n (pc := 3) dX1_eliminateBesideUnit_3 rfl ?_
    refine g_icmp_ge (pc := 4) (tgt := 22) dX1_eliminateBesideUnit_4 rfl (fun _ => ?_) (fun h4 => absurd (nI_le (Nat.le_refl _) (by omega)) h4)
    refine g_aload_n (pc := 22) dX1_eliminateBesideUnit_22 rfl trivial ?_
    refine g_aload_n (pc := 23) dX1_eliminateBesideUnit_23 rfl trivial ?_
    refine g_iload_n (pc := 24) dX1_eliminateBesideUnit_24 rfl ?_
    refine g_invV_r (pc := 25) (As := [_, _]) dX1_eliminateBesideUnit_25 rfl (s_eliminateAll hS hk hr hn) rfl rfl (shK hS rfl) rfl rfl lk_X1_21 rfl (nb rfl) ⟨nb rfl, nb rfl⟩ rfl ?_
    refine g_return (pc := 28) dX1_eliminateBesideUnit_28 rfl ?_
    exact ⟨rfl, rfl⟩
def solvB (s : ES) : Nat → Nat → Bool
  | 0, _ => true
  | d + 1, r => if s.2.1 r = 0 then solvB s d (r + 1) else false
theorem s_isSolvable {s : ES} {n : Nat} (hS : Shp M) (hn : n ≤ 32) (hp : s.2.2.2 ≤ n) : EvR l jX1_isSolvable 0 0 0 0 [.ref 191, .int (nI n)] (elMem M s) (.inl (some (.int (b1 (solvB s (n - s.2.2.2) s.2.2.2))))) (elMem M s) := by
  have hS1 : Shp (elMem M s) := hS
  obtain ⟨S, hs⟩ : ∃ S, S = solvB s (n - s.2.2.2) s.2.2.2 := ⟨_, rfl⟩
  rw [← hs]
  refine ev_intro rfl (nb rfl) rfl ?_
  refine g_aload_n (pc := 0) dX1_isSolvable_0 rfl trivial ?_
  refine g_getf (pc := 1) (v := .int _) dX1_isSolvable_1 fk_X1_25 (shK hS1 rfl) (fun _ => congrArg Value.int ((el_c s))) ?_
  refine g_istore_n (pc := 4) (lv' := [(0, _), (1, _), (2, _)]) dX1_isSolvable_4 (nl rfl) rfl ?_
  refine go_while (pc := 5) (σ := Nat) (fun r => r ≤ n ∧ solvB s (n - r) r = S) (fun r => n - r) (fun r => [(0, .ref 191), (1, .int (nI n)), (2, .int (nI r))]) (fun _ => elMem M s) s.2.2.2 ⟨rfl, rfl, rfl, trivial⟩ rfl ⟨hp, hs.symm⟩ ?_
  rintro r ⟨h1, h2⟩ ih
  by_cases hr : r < n
  · rw [show n - r = (n - (r + 1)) + 1 by omega, solvB] at h2
    refine g_iload_n (pc := 5) dX1_isSolvable_5 rfl ?_
    refine g_iload_n (pc := 6) dX1_isSolvable_6 rfl ?_
    refine g_icmp_ge (pc := 7) (tgt := 27) dX1_isSolvable_7 rfl (fun h7 => absurd h7 (nI_ge hr (by omega))) (fun _ => ?_)
    refine g_aload_n (pc := 10) dX1_isSolvable_10 rfl trivial ?_
    refine g_getf (pc := 11) dX1_isSolvable_11 fk_X1_15 (shK hS1 rfl) (fv_arr (shR hS1 rfl)) ?_
    refine g_iload_n (pc := 14) dX1_isSolvable_14 rfl ?_
    refine g_iaload (pc := 15) dX1_isSolvable_15 (shK hS1 rfl) rfl (by omega) (nl rfl) ?_
    rw [el_r]
    refine g_if_eq (pc := 16) (tgt := 21) dX1_isSolvable_16 rfl (fun h16 => ?_) (fun h16 => ?_)
    · rw [if_pos h16] at h2
      refine g_iinc (pc := 21) (lv' := [(0, _), (1, _), (2, _)]) dX1_isSolvable_21 rfl (nI_1 _) (nl rfl) rfl ?_
      refine g_goto (pc := 24) (tgt := 5) dX1_isSolvable_24 rfl ?_
      exact ih (r + 1) ⟨by omega, h2⟩ (by omega)
    · rw [if_neg h16] at h2
      refine g_iconst (pc := 19) (v := 0) dX1_isSolvable_19 rfl ?_
      refine g_ireturn (pc := 20) dX1_isSolvable_20 rfl rfl ?_
      exact ⟨by rw [← h2]; rfl, rfl⟩
  · have hr' : r = n := by omega
    subst hr'
    refine g_iload_n (pc := 5) dX1_isSolvable_5 rfl ?_
    refine g_iload_n (pc := 6) dX1_isSolvable_6 rfl ?_
    refine g_icmp_ge (pc := 7) (tgt := 27) dX1_isSolvable_7 rfl (fun _ => ?_) (fun h7 => absurd (nI_le (Nat.le_refl _) (by omega)) h7)
    refine g_iconst (pc := 27) (v := 1) dX1_isSolvable_27 rfl ?_
    refine g_ireturn (pc := 28) dX1_isSolvable_28 rfl rfl ?_
    exact ⟨by rw [← h2, Nat.sub_self]; rfl, rfl⟩
def solF (s : ES) : Nat → Int32
  | 0 => 0
  | i + 1 => solF s i ||| s.2.1 i <<< (s.2.2.1 i &&& 31)
theorem s_solution {s : ES} (hS : Shp M) (hp : s.2.2.2 ≤ 32) : EvR l jX1_solution 0 0 0 0 [.ref 191] (elMem M s) (.inl (some (.int (solF s s.2.2.2)))) (elMem M s) := by
  have hS1 : Shp (elMem M s) := hS
  refine ev_intro rfl (nb rfl) rfl ?_
  refine g_iconst (pc := 0) (v := 0) dX1_solution_0 rfl ?_
  refine g_istore_n (pc := 1) (lv' := [(0, _), (1, _)]) dX1_solution_1 (nl rfl) rfl ?_
  refine g_iconst (pc := 2) (v := 0) dX1_solution_2 rfl ?_
  refine g_istore_n (pc := 3) (lv' := [(0, _), (1, _), (2, _)]) dX1_solution_3 (nl rfl) rfl ?_
  refine go_loop (pc := 4) s.2.2.2 (fun i => [(0, .ref 191), (1, .int (solF s i)), (2, .int (nI i))]) (fun i => elMem M s) ⟨rfl, rfl, rfl, trivial⟩ rfl ?_ ?_
  · intro i hi ih
    refine g_iload_n (pc := 4) dX1_solution_4 rfl ?_
    refine g_aload_n (pc := 5) dX1_solution_5 rfl trivial ?_
    refine g_getf (pc := 6) (v := .int _) dX1_solution_6 fk_X1_25 (shK hS1 rfl) (fun _ => congrArg Value.int ((el_c s))) ?_
    refine g_icmp_ge (pc := 9) (tgt := 34) dX1_solution_9 rfl (fun h9 => absurd h9 (nI_ge hi (by omega))) (fun _ => ?_)
    refine g_iload_n (pc := 12) dX1_solution_12 rfl ?_
    refine g_aload_n (pc := 13) dX1_solution_13 rfl trivial ?_
    refine g_getf (pc := 14) dX1_solution_14 fk_X1_15 (shK hS1 rfl) (fv_arr (shR hS1 rfl)) ?_
    refine g_iload_n (pc := 17) dX1_solution_17 rfl ?_
    refine g_iaload (pc := 18) dX1_solution_18 (shK hS1 rfl) rfl (by omega) (nl rfl) ?_
    rw [el_r]
    refine g_aload_n (pc := 19) dX1_solution_19 rfl trivial ?_
    refine g_getf (pc := 20) dX1_solution_20 fk_X1_18 (shK hS1 rfl) (fv_arr (shR hS1 rfl)) ?_
    refine g_iload_n (pc := 23) dX1_solution_23 rfl ?_
    refine g_iaload (pc := 24) dX1_solution_24 (shK hS1 rfl) rfl (by omega) (nl rfl) ?_
    rw [el_p]
    refine g_ishl (pc := 25) dX1_solution_25 ?_
    refine g_ior (pc := 26) dX1_solution_26 ?_
    refine g_istore_n (pc := 27) (lv' := [(0, _), (1, _), (2, _)]) dX1_solution_27 (nl rfl) rfl ?_
    refine g_iinc (pc := 28) (lv' := [(0, _), (1, _), (2, _)]) dX1_solution_28 rfl (nI_1 _) (nl rfl) rfl ?_
    refine g_goto (pc := 31) (tgt := 4) dX1_solution_31 rfl ?_
    exact ih
  · refine g_iload_n (pc := 4) dX1_solution_4 rfl ?_
    refine g_aload_n (pc := 5) dX1_solution_5 rfl trivial ?_
    refine g_getf (pc := 6) (v := .int _) dX1_solution_6 fk_X1_25 (shK hS1 rfl) (fun _ => congrArg Value.int ((el_c s))) ?_
    refine g_icmp_ge (pc := 9) (tgt := 34) dX1_solution_9 rfl (fun _ => ?_) (fun h9 => absurd (nI_le (Nat.le_refl _) (by omega)) h9)
    refine g_iload_n (pc := 34) dX1_solution_34 rfl ?_
    refine g_ireturn (pc := 35) dX1_solution_35 rfl rfl ?_
    exact ⟨rfl, rfl⟩
theorem s_pivotAt {s : ES} {x : Int32} (hS : Shp M) (hp : s.2.2.2 ≤ 32) : EvR l jX1_pivotAt 0 0 0 0 [.ref 191, .int x] (elMem M s) (.inl (some (.int (if ¬ x < 0 ∧ x < nI s.2.2.2 then s.2.2.1 x.toNatClampNeg else -1)))) (elMem M s) := by
  have hS1 : Shp (elMem M s) := hS
  refine ev_intro rfl (nb rfl) rfl ?_
  refine g_iload_n (pc := 0) dX1_pivotAt_0 rfl ?_
  refine g_if_lt (pc := 1) (tgt := 21) dX1_pivotAt_1 rfl (fun h1 => ?_) (fun h1 => ?_)
  · rw [if_neg (fun h => h.1 h1)]
    refine g_iconst (pc := 21) (v := (-1)) dX1_pivotAt_21 rfl ?_
    refine g_ireturn (pc := 22) dX1_pivotAt_22 rfl rfl ?_
    exact ⟨rfl, rfl⟩
  · refine g_iload_n (pc := 4) dX1_pivotAt_4 rfl ?_
    refine g_aload_n (pc := 5) dX1_pivotAt_5 rfl trivial ?_
    refine g_getf (pc := 6) (v := .int _) dX1_pivotAt_6 fk_X1_25 (shK hS1 rfl) (fun _ => congrArg Value.int ((el_c s))) ?_
    refine g_icmp_ge (pc := 9) (tgt := 21) dX1_pivotAt_9 rfl (fun h9 => ?_) (fun h9 => ?_)
    · rw [if_neg (fun h => absurd h.2 (Int32.not_lt.mpr h9))]
      refine g_iconst (pc := 21) (v := (-1)) dX1_pivotAt_21 rfl ?_
      refine g_ireturn (pc := 22) dX1_pivotAt_22 rfl rfl ?_
      exact ⟨rfl, rfl⟩
    · have h9' := Int32.not_le.mp h9
      obtain ⟨j, hj, hx⟩ := inR_of ⟨h1, h9'⟩ (by omega)
      rw [if_pos ⟨h1, h9'⟩, hx, nI_clamp (by omega)]
      refine g_aload_n (pc := 12) dX1_pivotAt_12 rfl trivial ?_
      refine g_getf (pc := 13) dX1_pivotAt_13 fk_X1_18 (shK hS1 rfl) (fv_arr (shR hS1 rfl)) ?_
      refine g_iload_n (pc := 16) dX1_pivotAt_16 rfl ?_
      refine g_iaload (pc := 17) dX1_pivotAt_17 (shK hS1 rfl) rfl (by omega) (nl rfl) ?_
      rw [el_p]
      refine g_goto (pc := 18) (tgt := 22) dX1_pivotAt_18 rfl ?_
      refine g_ireturn (pc := 22) dX1_pivotAt_22 rfl rfl ?_
      exact ⟨rfl, rfl⟩
end
end
-- 17.priv
section
/-! states as wholes; what the class's object does within -/
section
variable {l : Launch} {M : Mem}
theorem shp_pI {b i : Nat} {x : Int32} (hS : Shp M) : Shp (pI M b i x) := hS
theorem shp_sI {b : Nat} {x : Nat → Int32} (hS : Shp M) : Shp (sI M b x) := hS
def stTakeL (M : Mem) (b o : Nat) : Nat → Mem
  | 0 => M
  | s + 1 => mxTake (stTakeL M b o s) (b + 2 + 2 * s) (o + 2 + 2 * s)
termination_by s => s
theorem mxTake_ne {m o i : Nat} (h1 : i ≠ m) (h2 : i ≠ m + 1) : mI (mxTake M m o) i = mI M i := by
  simp only [mxTake]; rw [pI_i h1, pI_i h1, pI_i h1, pI_i h1, sI_ne h2]
theorem mxTake_S (hS : Shp M) (m o : Nat) : Shp (mxTake M m o) := hS
theorem stTakeL_S (hS : Shp M) (b o : Nat) : ∀ s, Shp (stTakeL M b o s)
  | 0 => by rw [stTakeL]; exact hS
  | s + 1 => by rw [stTakeL]; exact mxTake_S (stTakeL_S hS b o s) _ _
theorem stTakeL_ne {b o i : Nat} : ∀ (s : Nat), s ≤ 6 → (i < b + 2 ∨ b + 14 ≤ i) → mI (stTakeL M b o s) i = mI M i
  | 0, _, _ => by rw [stTakeL]
  | s + 1, h, h2 => by
    rw [stTakeL, mxTake_ne (by omega) (by omega)]
    exact stTakeL_ne s (by omega) h2
/-- state b becomes as state o -/
def stTake (M : Mem) (b o : Nat) : Mem := pI (pI (pI (pI (stTakeL M b o 6) b 1 (mI M o 1)) b 2 (mI M o 2)) b 3 (mI M o 3)) b 4 (mI M o 4)
theorem stTake_S (hS : Shp M) (b o : Nat) : Shp (stTake M b o) := by rw [stTake]; exact stTakeL_S hS b o 6
theorem stTake_ne {b o i : Nat} (h : i < b ∨ b + 14 ≤ i) : mI (stTake M b o) i = mI M i := by
  simp only [stTake]; rw [pI_i (by omega), pI_i (by omega), pI_i (by omega), pI_i (by omega), stTakeL_ne 6 (by omega) (by omega)]
def keptOk (M : Mem) (b : Nat) : Prop := ∀ s, s < 6 → k01 (mI M (b + 2 + 2 * s) 1)
theorem s_stTake {b o : Nat} (hS : Shp M) (hb9 : isSt b) (ho : isSt o) (hd : b + 14 ≤ o ∨ o + 14 ≤ b) (hk : keptOk M o) : EvR l jX5_takeFrom 2 90 0 0 [.ref b, .ref o] M (.inl none) (stTake M b o) := by
  refine ev_intro rfl (nb rfl) rfl ?_
  refine g_iconst (pc := 0) (v := 0) dX5_takeFrom_0 rfl ?_
  refine g_istore_n (pc := 1) (lv' := [(0, _), (1, _), (2, _)]) dX5_takeFrom_1 (nl rfl) rfl ?_
  refine go_loop (pc := 2) 6 (fun i => [(0, .ref b), (1, .ref o), (2, .int (nI i))]) (fun i => stTakeL M b o i) ⟨rfl, rfl, rfl, trivial⟩ (by rw [stTakeL]) ?_ ?_
  · intro i hi ih
    have hS1 := stTakeL_S hS b o i
    rw [stTakeL.eq_2 M b o i] at ih
    obtain ⟨m1, m2⟩ := hb9.2 i hi
    obtain ⟨o1, o2⟩ := ho.2 i hi
    have hk1 : k01 (mI (stTakeL M b o i) (o + 2 + 2 * i) 1) := by rw [stTakeL_ne i (by omega) (by omega)]; exact hk i hi
    refine g_iload_n (pc := 2) dX5_takeFrom_2 rfl ?_
    refine g_bipush (pc := 3) (v := 6) dX5_takeFrom_3 rfl ?_
    refine g_icmp_ge (pc := 5) (tgt := 29) dX5_takeFrom_5 rfl (fun h5 => absurd h5 (nI_ge (b := 6) hi (by omega))) (fun _ => ?_)
    refine g_aload_n (pc := 8) dX5_takeFrom_8 rfl trivial ?_
    refine g_getf (pc := 9) dX5_takeFrom_9 fk_X5_11 (shK hS1 hb9.1.1) (fv_arr (shR hS1 hb9.1.2.2)) ?_
    refine g_iload_n (pc := 12) dX5_takeFrom_12 rfl ?_
    refine g_aaload_Matrix (pc := 13) dX5_takeFrom_13 (shK hS1 hb9.1.2.1) rfl hi (by decide) (shR hS1 m2) ?_
    refine g_aload_n (pc := 14) dX5_takeFrom_14 rfl trivial ?_
    refine g_getf (pc := 15) dX5_takeFrom_15 fk_X5_11 (shK hS1 ho.1.1) (fv_arr (shR hS1 ho.1.2.2)) ?_
    refine g_iload_n (pc := 18) dX5_takeFrom_18 rfl ?_
    refine g_aaload_Matrix (pc := 19) dX5_takeFrom_19 (shK hS1 ho.1.2.1) rfl hi (by decide) (shR hS1 o2) ?_
    refine g_invV_r (pc := 20) (As := [_]) dX5_takeFrom_20 rfl (s_mxTake hS1 m1 o1 (by omega) (by omega) hk1) rfl rfl (shK hS1 m1.1) rfl rfl lk_X5_34 rfl (nb rfl) ⟨nb rfl, nb rfl⟩ rfl ?_
    refine g_iinc (pc := 23) (lv' := [(0, _), (1, _), (2, _)]) dX5_takeFrom_23 rfl (nI_1 _) (nl rfl) rfl ?_
    refine g_goto (pc := 26) (tgt := 2) dX5_takeFrom_26 rfl ?_
    exact ih
  · have hS1 := stTakeL_S hS b o 6
    have e1 : mI (stTakeL M b o 6) o = mI M o := stTakeL_ne 6 (by omega) (by omega)
    have hob : o ≠ b := by omega
    unfold stTake
    generalize stTakeL M b o 6 = X at hS1 e1 ⊢
    refine g_iload_n (pc := 2) dX5_takeFrom_2 rfl ?_
    refine g_bipush (pc := 3) (v := 6) dX5_takeFrom_3 rfl ?_
    refine g_icmp_ge (pc := 5) (tgt := 29) dX5_takeFrom_5 rfl (fun _ => ?_) (fun h5 => absurd (nI_le (Nat.le_refl 6) (by omega)) h5)
    refine g_aload_n (pc := 29) dX5_takeFrom_29 rfl trivial ?_
    refine g_aload_n (pc := 30) dX5_takeFrom_30 rfl trivial ?_
    refine g_getf (pc := 31) (v := .int _) dX5_takeFrom_31 fk_X5_18 (shK hS1 ho.1.1) (fun _ => congrArg Value.int (congrFun e1 1)) ?_
    refine g_putI (pc := 34) dX5_takeFrom_34 fp_X5_18 (shK hS1 hb9.1.1) ⟨rfl, rfl⟩ (fun _ _ _ _ => rfl) ?_
    have hS2 : Shp (pI X b 1 (mI M o 1)) := shp_pI hS1
    have e2 : mI (pI X b 1 (mI M o 1)) o = mI M o := (pI_i hob).trans e1
    show Go _ _ _ _ _ _ _ _ _ _ _ _ (pI X b 1 (mI M o 1))
    generalize pI X b 1 (mI M o 1) = X2 at hS2 e2 ⊢
    refine g_aload_n (pc := 37) dX5_takeFrom_37 rfl trivial ?_
    refine g_aload_n (pc := 38) dX5_takeFrom_38 rfl trivial ?_
    refine g_getf (pc := 39) (v := .int _) dX5_takeFrom_39 fk_X5_22 (shK hS2 ho.1.1) (fun _ => congrArg Value.int (congrFun e2 2)) ?_
    refine g_putI (pc := 42) dX5_takeFrom_42 fp_X5_22 (shK hS2 hb9.1.1) ⟨rfl, rfl⟩ (fun _ _ _ _ => rfl) ?_
    have hS3 : Shp (pI X2 b 2 (mI M o 2)) := shp_pI hS2
    have e3 : mI (pI X2 b 2 (mI M o 2)) o = mI M o := (pI_i hob).trans e2
    show Go _ _ _ _ _ _ _ _ _ _ _ _ (pI X2 b 2 (mI M o 2))
    generalize pI X2 b 2 (mI M o 2) = X3 at hS3 e3 ⊢
    refine g_aload_n (pc := 45) dX5_takeFrom_45 rfl trivial ?_
    refine g_aload_n (pc := 46) dX5_takeFrom_46 rfl trivial ?_
    refine g_getf (pc := 47) (v := .int _) dX5_takeFrom_47 fk_X5_28 (shK hS3 ho.1.1) (fun _ => congrArg Value.int (congrFun e3 3)) ?_
    refine g_putI (pc := 50) dX5_takeFrom_50 fp_X5_28 (shK hS3 hb9.1.1) ⟨rfl, rfl⟩ (fun _ _ _ _ => rfl) ?_
    have hS4 : Shp (pI X3 b 3 (mI M o 3)) := shp_pI hS3
    have e4 : mI (pI X3 b 3 (mI M o 3)) o = mI M o := (pI_i hob).trans e3
    show Go _ _ _ _ _ _ _ _ _ _ _ _ (pI X3 b 3 (mI M o 3))
    generalize pI X3 b 3 (mI M o 3) = X4 at hS4 e4 ⊢
    refine g_aload_n (pc := 53) dX5_takeFrom_53 rfl trivial ?_
    refine g_aload_n (pc := 54) dX5_takeFrom_54 rfl trivial ?_
    refine g_getf (pc := 55) (v := .int _) dX5_takeFrom_55 fk_X5_31 (shK hS4 ho.1.1) (fun _ => congrArg Value.int (congrFun e4 4)) ?_
    refine g_putI (pc := 58) dX5_takeFrom_58 fp_X5_31 (shK hS4 hb9.1.1) ⟨rfl, rfl⟩ (fun _ _ _ _ => rfl) ?_
    refine g_return (pc := 61) dX5_takeFrom_61 rfl ?_
    exact ⟨rfl, rfl⟩
def stEmptyL (M : Mem) (b : Nat) : Nat → Mem
  | 0 => M
  | s + 1 => mxEmpty (stEmptyL M b s) (b + 2 + 2 * s)
termination_by s => s
theorem stEmptyL_S (hS : Shp M) (b : Nat) : ∀ s, Shp (stEmptyL M b s)
  | 0 => by rw [stEmptyL]; exact hS
  | s + 1 => by rw [stEmptyL]; exact stEmptyL_S hS b s
def stEmpty (M : Mem) (b : Nat) (n : Int32) : Mem := pI (pI (pI (pI (stEmptyL M b 6) b 1 n) b 2 4) b 3 0) b 4 0
theorem stEmpty_S (hS : Shp M) (b : Nat) (n : Int32) : Shp (stEmpty M b n) := by rw [stEmpty]; exact stEmptyL_S hS b 6
theorem s_stEmpty {b : Nat} {n : Int32} (hS : Shp M) (hb9 : isSt b) : EvR l jX5_makeEmpty 1 40 0 0 [.ref b, .int n] M (.inl none) (stEmpty M b n) := by
  refine ev_intro rfl (nb rfl) rfl ?_
  refine g_iconst (pc := 0) (v := 0) dX5_makeEmpty_0 rfl ?_
  refine g_istore_n (pc := 1) (lv' := [(0, _), (1, _), (2, _)]) dX5_makeEmpty_1 (nl rfl) rfl ?_
  refine go_loop (pc := 2) 6 (fun i => [(0, .ref b), (1, .int n), (2, .int (nI i))]) (fun i => stEmptyL M b i) ⟨rfl, rfl, rfl, trivial⟩ (by rw [stEmptyL]) ?_ ?_
  · intro i hi ih
    have hS1 := stEmptyL_S hS b i
    rw [stEmptyL.eq_2 M b i] at ih
    obtain ⟨m1, m2⟩ := hb9.2 i hi
    refine g_iload_n (pc := 2) dX5_makeEmpty_2 rfl ?_
    refine g_bipush (pc := 3) (v := 6) dX5_makeEmpty_3 rfl ?_
    refine g_icmp_ge (pc := 5) (tgt := 23) dX5_makeEmpty_5 rfl (fun h5 => absurd h5 (nI_ge (b := 6) hi (by omega))) (fun _ => ?_)
    refine g_aload_n (pc := 8) dX5_makeEmpty_8 rfl trivial ?_
    refine g_getf (pc := 9) dX5_makeEmpty_9 fk_X5_11 (shK hS1 hb9.1.1) (fv_arr (shR hS1 hb9.1.2.2)) ?_
    refine g_iload_n (pc := 12) dX5_makeEmpty_12 rfl ?_
    refine g_aaload_Matrix (pc := 13) dX5_makeEmpty_13 (shK hS1 hb9.1.2.1) rfl hi (by decide) (shR hS1 m2) ?_
    refine g_invV_r (pc := 14) (As := []) dX5_makeEmpty_14 rfl (s_mxEmpty hS1 m1) rfl rfl (shK hS1 m1.1) rfl rfl lk_X5_25 rfl (nb rfl) ⟨nb rfl, nb rfl⟩ rfl ?_
    refine g_iinc (pc := 17) (lv' := [(0, _), (1, _), (2, _)]) dX5_makeEmpty_17 rfl (nI_1 _) (nl rfl) rfl ?_
    refine g_goto (pc := 20) (tgt := 2) dX5_makeEmpty_20 rfl ?_
    exact ih
  · have hS1 := stEmptyL_S hS b 6
    unfold stEmpty
    generalize stEmptyL M b 6 = X at hS1 ⊢
    refine g_iload_n (pc := 2) dX5_makeEmpty_2 rfl ?_
    refine g_bipush (pc := 3) (v := 6) dX5_makeEmpty_3 rfl ?_
    refine g_icmp_ge (pc := 5) (tgt := 23) dX5_makeEmpty_5 rfl (fun _ => ?_) (fun h5 => absurd (nI_le (Nat.le_refl 6) (by omega)) h5)
    refine g_aload_n (pc := 23) dX5_makeEmpty_23 rfl trivial ?_
    refine g_iload_n (pc := 24) dX5_makeEmpty_24 rfl ?_
    refine g_putI (pc := 25) dX5_makeEmpty_25 fp_X5_18 (shK hS1 hb9.1.1) ⟨rfl, rfl⟩ (fun _ _ _ _ => rfl) ?_
    have hS2 : Shp (pI X b 1 n) := shp_pI hS1
    show Go _ _ _ _ _ _ _ _ _ _ _ _ (pI X b 1 n)
    generalize pI X b 1 n = X2 at hS2 ⊢
    refine g_aload_n (pc := 28) dX5_makeEmpty_28 rfl trivial ?_
    refine g_iconst (pc := 29) (v := 4) dX5_makeEmpty_29 rfl ?_
    refine g_putI (pc := 30) dX5_makeEmpty_30 fp_X5_22 (shK hS2 hb9.1.1) ⟨rfl, rfl⟩ (fun _ _ _ _ => rfl) ?_
    have hS3 : Shp (pI X2 b 2 4) := shp_pI hS2
    show Go _ _ _ _ _ _ _ _ _ _ _ _ (pI X2 b 2 4)
    generalize pI X2 b 2 4 = X3 at hS3 ⊢
    refine g_aload_n (pc := 33) dX5_makeEmpty_33 rfl trivial ?_
    refine g_iconst (pc := 34) (v := 0) dX5_makeEmpty_34 rfl ?_
    refine g_putI (pc := 35) dX5_makeEmpty_35 fp_X5_28 (shK hS3 hb9.1.1) ⟨rfl, rfl⟩ (fun _ _ _ _ => rfl) ?_
    have hS4 : Shp (pI X3 b 3 0) := shp_pI hS3
    show Go _ _ _ _ _ _ _ _ _ _ _ _ (pI X3 b 3 0)
    generalize pI X3 b 3 0 = X4 at hS4 ⊢
    refine g_aload_n (pc := 38) dX5_makeEmpty_38 rfl trivial ?_
    refine g_iconst (pc := 39) (v := 0) dX5_makeEmpty_39 rfl ?_
    refine g_putI (pc := 40) dX5_makeEmpty_40 fp_X5_31 (shK hS4 hb9.1.1) ⟨rfl, rfl⟩ (fun _ _ _ _ => rfl) ?_
    refine g_return (pc := 43) dX5_makeEmpty_43 rfl ?_
    exact ⟨rfl, rfl⟩
/-- no closure is current -/
def dropC (M : Mem) : Nat → Mem
  | 0 => M
  | s + 1 => pI (dropC M s) (175 + 2 * s) 1 0
termination_by s => s
theorem dropC_S (hS : Shp M) : ∀ s, Shp (dropC M s)
  | 0 => by rw [dropC]; exact hS
  | s + 1 => by rw [dropC]; exact dropC_S hS s
theorem s_dropClosures (hS : Shp M) : EvR l jX6_dropClosures 0 0 0 0 [.ref 0] M (.inl none) (dropC M 6) := by
  refine ev_intro rfl (nb rfl) rfl ?_
  refine g_iconst (pc := 0) (v := 0) dX6_dropClosures_0 rfl ?_
  refine g_istore_n (pc := 1) (lv' := [(0, _), (1, _)]) dX6_dropClosures_1 (nl rfl) rfl ?_
  refine go_loop (pc := 2) 6 (fun i => [(0, .ref 0), (1, .int (nI i))]) (fun i => dropC M i) ⟨rfl, rfl, trivial⟩ (by rw [dropC]) ?_ ?_
  · intro i hi ih
    have hS1 := dropC_S hS i
    rw [dropC.eq_2 M i] at ih
    obtain ⟨c1, c2⟩ := cl_ok i hi
    refine g_iload_n (pc := 2) dX6_dropClosures_2 rfl ?_
    refine g_bipush (pc := 3) (v := 6) dX6_dropClosures_3 rfl ?_
    refine g_icmp_ge (pc := 5) (tgt := 24) dX6_dropClosures_5 rfl (fun h5 => absurd h5 (nI_ge (b := 6) hi (by omega))) (fun _ => ?_)
    refine g_aload_n (pc := 8) dX6_dropClosures_8 rfl trivial ?_
    refine g_getf (pc := 9) dX6_dropClosures_9 fk_X6_39 (shK hS1 rfl) (fv_arr (shR hS1 rfl)) ?_
    refine g_iload_n (pc := 12) dX6_dropClosures_12 rfl ?_
    refine g_aaload_Closure (pc := 13) dX6_dropClosures_13 (shK hS1 rfl) rfl hi (by decide) (shR hS1 c2) ?_
    refine g_iconst (pc := 14) (v := 0) dX6_dropClosures_14 rfl ?_
    refine g_putI (pc := 15) dX6_dropClosures_15 fp_X6_341 (shK hS1 c1.1) ⟨rfl, rfl⟩ (fun _ _ _ _ => rfl) ?_
    refine g_iinc (pc := 18) (lv' := [(0, _), (1, _)]) dX6_dropClosures_18 rfl (nI_1 _) (nl rfl) rfl ?_
    refine g_goto (pc := 21) (tgt := 2) dX6_dropClosures_21 rfl ?_
    exact ih
  · generalize dropC M 6 = X
    refine g_iload_n (pc := 2) dX6_dropClosures_2 rfl ?_
    refine g_bipush (pc := 3) (v := 6) dX6_dropClosures_3 rfl ?_
    refine g_icmp_ge (pc := 5) (tgt := 24) dX6_dropClosures_5 rfl (fun _ => ?_) (fun h5 => absurd (nI_le (Nat.le_refl 6) (by omega)) h5)
    refine g_return (pc := 24) dX6_dropClosures_24 rfl ?_
    exact ⟨rfl, rfl⟩
theorem st3 : isSt 3 := st_of (by decide)
/-- the state is replaced: nothing can be taken back, no closure is current -/
def replM (M : Mem) (o : Nat) : Mem := dropC (pI (stTake M 3 o) 0 5 0) 6
theorem s_replaceState {o : Nat} (hS : Shp M) (ho : isSt o) (hd : 17 ≤ o) (hk : keptOk M o) : EvR l jX6_replaceState 3 120 0 0 [.ref 0, .ref o] M (.inl none) (replM M o) := by
  have hS1 := stTake_S hS 3 o
  have hS2 : Shp (pI (stTake M 3 o) 0 5 0) := shp_pI hS1
  refine ev_intro rfl (nb rfl) rfl ?_
  refine g_aload_n (pc := 0) dX6_replaceState_0 rfl trivial ?_
  refine g_getf (pc := 1) dX6_replaceState_1 fk_X6_19 (shK hS rfl) (fv_obj (shR hS rfl)) ?_
  refine g_aload_n (pc := 4) dX6_replaceState_4 rfl trivial ?_
  refine g_invV_r (pc := 5) (As := [_]) dX6_replaceState_5 rfl (s_stTake hS st3 ho (by omega) hk) rfl rfl (shK hS rfl) rfl rfl lk_X6_313 rfl (nb rfl) ⟨nb rfl, nb rfl⟩ rfl ?_
  refine g_aload_n (pc := 8) dX6_replaceState_8 rfl trivial ?_
  refine g_iconst (pc := 9) (v := 0) dX6_replaceState_9 rfl ?_
  refine g_putI (pc := 10) dX6_replaceState_10 fp_X6_106 (shK hS1 rfl) ⟨rfl, rfl⟩ (fun _ _ _ _ => rfl) ?_
  refine g_aload_n (pc := 13) dX6_replaceState_13 rfl trivial ?_
  refine g_invV_r (pc := 14) (As := []) dX6_replaceState_14 rfl (s_dropClosures hS2) rfl rfl (shK hS2 rfl) rfl rfl lk_X6_316 rfl (nb rfl) ⟨nb rfl, nb rfl⟩ rfl ?_
  refine g_return (pc := 17) dX6_replaceState_17 rfl ?_
  exact ⟨rfl, rfl⟩
def keptC (M : Mem) : Nat → Nat
  | 0 => 0
  | s + 1 => if mI M (5 + 2 * s) 1 = 0 then keptC M s else keptC M s + 1
termination_by s => s
theorem s_keptSlots (hS : Shp M) : EvR l jX6_keptSlots 0 0 0 0 [.ref 0] M (.inl (some (.int (nI (keptC M 6))))) M := by
  refine ev_intro rfl (nb rfl) rfl ?_
  refine g_iconst (pc := 0) (v := 0) dX6_keptSlots_0 rfl ?_
  refine g_istore_n (pc := 1) (lv' := [(0, _), (1, _)]) dX6_keptSlots_1 (nl rfl) rfl ?_
  refine g_iconst (pc := 2) (v := 0) dX6_keptSlots_2 rfl ?_
  refine g_istore_n (pc := 3) (lv' := [(0, _), (1, _), (2, _)]) dX6_keptSlots_3 (nl rfl) rfl ?_
  refine go_loop (pc := 4) 6 (fun i => [(0, .ref 0), (1, .int (nI (keptC M i))), (2, .int (nI i))]) (fun i => M) ⟨rfl, by rw [keptC]; rfl, rfl, trivial⟩ rfl ?_ ?_
  · intro i hi ih
    obtain ⟨m1, m2⟩ := st3.2 i hi
    rw [show 3 + 2 + 2 * i = 5 + 2 * i by omega] at m1 m2
    generalize keptC M 6 = X at ih ⊢
    rw [keptC] at ih
    refine g_iload_n (pc := 4) dX6_keptSlots_4 rfl ?_
    refine g_bipush (pc := 5) (v := 6) dX6_keptSlots_5 rfl ?_
    refine g_icmp_ge (pc := 7) (tgt := 34) dX6_keptSlots_7 rfl (fun h7 => absurd h7 (nI_ge (b := 6) hi (by omega))) (fun _ => ?_)
    refine g_aload_n (pc := 10) dX6_keptSlots_10 rfl trivial ?_
    refine g_getf (pc := 11) dX6_keptSlots_11 fk_X6_19 (shK hS rfl) (fv_obj (shR hS rfl)) ?_
    refine g_getf (pc := 14) dX6_keptSlots_14 fk_X6_225 (shK hS rfl) (fv_arr (shR hS rfl)) ?_
    refine g_iload_n (pc := 17) dX6_keptSlots_17 rfl ?_
    refine g_aaload_Matrix (pc := 18) dX6_keptSlots_18 (shK hS rfl) rfl hi (by decide) (shR hS m2) ?_
    refine g_getf (pc := 19) (v := .int (mI _ _ _)) dX6_keptSlots_19 fk_X6_288 (shK hS m1.1) (fun _ => rfl) ?_
    refine g_if_eq (pc := 22) (tgt := 28) dX6_keptSlots_22 rfl (fun h22 => ?_) (fun h22 => ?_)
    · rw [if_pos h22] at ih
      refine g_iinc (pc := 28) (lv' := [(0, _), (1, _), (2, _)]) dX6_keptSlots_28 rfl (nI_1 _) (nl rfl) rfl ?_
      refine g_goto (pc := 31) (tgt := 4) dX6_keptSlots_31 rfl ?_
      exact ih
    · rw [if_neg h22] at ih
      refine g_iinc (pc := 25) (lv' := [(0, _), (1, _), (2, _)]) dX6_keptSlots_25 rfl (nI_1 _) (nl rfl) rfl ?_
      refine g_iinc (pc := 28) (lv' := [(0, _), (1, _), (2, _)]) dX6_keptSlots_28 rfl (nI_1 _) (nl rfl) rfl ?_
      refine g_goto (pc := 31) (tgt := 4) dX6_keptSlots_31 rfl ?_
      exact ih
  · generalize keptC M 6 = X
    refine g_iload_n (pc := 4) dX6_keptSlots_4 rfl ?_
    refine g_bipush (pc := 5) (v := 6) dX6_keptSlots_5 rfl ?_
    refine g_icmp_ge (pc := 7) (tgt := 34) dX6_keptSlots_7 rfl (fun _ => ?_) (fun h7 => absurd (nI_le (Nat.le_refl 6) (by omega)) h7)
    refine g_iload_n (pc := 34) dX6_keptSlots_34 rfl ?_
    refine g_ireturn (pc := 35) dX6_keptSlots_35 rfl rfl ?_
    exact ⟨rfl, rfl⟩
/-- the state is remembered: p the place of the next, c how many are remembered -/
def remM (M : Mem) (p c : Nat) : Mem := pI (pI (stTake M (32 + 14 * p) 3) 0 4 (nI (if p = 7 then 0 else p + 1))) 0 5 (nI (if c = 8 then 8 else c + 1))
theorem past_ok : ∀ p, p < 8 → 32 + 14 * p ∈ bases ∧ REFT 31 p = some (32 + 14 * p) := by decide +kernel
theorem remM_S (hS : Shp M) (p c : Nat) : Shp (remM M p c) := by
  unfold remM
  exact shp_pI (shp_pI (stTake_S hS _ _))
theorem s_remember {p c : Nat} (hS : Shp M) (hp : p < 8) (hc : c ≤ 8) (h4 : mI M 0 4 = nI p) (h5 : mI M 0 5 = nI c) (hk : keptOk M 3) : EvR l jX6_remember 3 120 0 0 [.ref 0] M (.inl none) (remM M p c) := by
  obtain ⟨b1, b2⟩ := past_ok p hp
  have hb9 := st_of b1
  have hS1 := stTake_S hS (32 + 14 * p) 3
  have e0 : mI (stTake M (32 + 14 * p) 3) 0 = mI M 0 := stTake_ne (by omega)
  have hmin : (if 8 < nI c + 1 then 8 else nI c + 1) = nI (if c = 8 then 8 else c + 1) := by
    rw [nI_1]
    by_cases h : c = 8
    · subst h; decide
    · rw [if_neg h, if_neg (fun q => h (by have := (nI_ltI (a := 8) (b := c + 1) (by omega) (by omega)).mp q; omega))]
  refine ev_intro rfl (nb rfl) rfl ?_
  unfold remM
  by_cases h7 : p = 7
  · rw [if_pos h7]
    refine g_aload_n (pc := 0) dX6_remember_0 rfl trivial ?_
    refine g_getf (pc := 1) dX6_remember_1 fk_X6_26 (shK hS rfl) (fv_arr (shR hS rfl)) ?_
    refine g_aload_n (pc := 4) dX6_remember_4 rfl trivial ?_
    refine g_getf (pc := 5) (v := .int _) dX6_remember_5 fk_X6_310 (shK hS rfl) (fun _ => congrArg Value.int (h4)) ?_
    refine g_aaload_State (pc := 8) dX6_remember_8 (shK hS rfl) rfl hp (by decide) (shR hS b2) ?_
    refine g_aload_n (pc := 9) dX6_remember_9 rfl trivial ?_
    refine g_getf (pc := 10) dX6_remember_10 fk_X6_19 (shK hS rfl) (fv_obj (shR hS rfl)) ?_
    refine g_invV_r (pc := 13) (As := [_]) dX6_remember_13 rfl (s_stTake hS hb9 st3 (by omega) hk) rfl rfl (shK hS hb9.1.1) rfl rfl lk_X6_313 rfl (nb rfl) ⟨nb rfl, nb rfl⟩ rfl ?_
    generalize stTake M (32 + 14 * p) 3 = X at hS1 e0 ⊢
    refine g_aload_n (pc := 16) dX6_remember_16 rfl trivial ?_
    refine g_aload_n (pc := 17) dX6_remember_17 rfl trivial ?_
    refine g_getf (pc := 18) (v := .int _) dX6_remember_18 fk_X6_310 (shK hS1 rfl) (fun _ => congrArg Value.int (((congrFun e0 4).trans h4))) ?_
    refine g_bipush (pc := 21) (v := 7) dX6_remember_21 rfl ?_
    refine g_icmp_ne (pc := 23) (tgt := 30) dX6_remember_23 rfl (fun h23 => absurd h23 (fun h => h (by rw [h7]; rfl))) (fun _ => ?_)
    refine g_iconst (pc := 26) (v := 0) dX6_remember_26 rfl ?_
    refine g_goto (pc := 27) (tgt := 36) dX6_remember_27 rfl ?_
    refine g_putI (pc := 36) dX6_remember_36 fp_X6_310 (shK hS1 rfl) ⟨rfl, rfl⟩ (fun _ _ _ _ => rfl) ?_
    refine g_aload_n (pc := 39) dX6_remember_39 rfl trivial ?_
    refine g_aload_n (pc := 40) dX6_remember_40 rfl trivial ?_
    refine g_getf (pc := 41) (v := .int _) dX6_remember_41 fk_X6_106 (shK hS1 rfl) (fun _ => congrArg Value.int (((pI_k (by decide)).trans ((congrFun e0 5).trans h5)))) ?_
    refine g_iconst (pc := 44) (v := 1) dX6_remember_44 rfl ?_
    refine g_iadd (pc := 45) dX6_remember_45 ?_
    refine g_bipush (pc := 46) (v := 8) dX6_remember_46 rfl ?_
    refine g_mmin (pc := 48) dX6_remember_48 wd_1019 wd_430 wd_107 wd_431 (nb rfl) (nb rfl) ?_
    rw [hmin]
    refine g_putI (pc := 51) dX6_remember_51 fp_X6_106 (shK hS1 rfl) ⟨rfl, rfl⟩ (fun _ _ _ _ => rfl) ?_
    refine g_return (pc := 54) dX6_remember_54 rfl ?_
    exact ⟨rfl, rfl⟩
  · rw [if_neg h7]
    refine g_aload_n (pc := 0) dX6_remember_0 rfl trivial ?_
    refine g_getf (pc := 1) dX6_remember_1 fk_X6_26 (shK hS rfl) (fv_arr (shR hS rfl)) ?_
    refine g_aload_n (pc := 4) dX6_remember_4 rfl trivial ?_
    refine g_getf (pc := 5) (v := .int _) dX6_remember_5 fk_X6_310 (shK hS rfl) (fun _ => congrArg Value.int (h4)) ?_
    refine g_aaload_State (pc := 8) dX6_remember_8 (shK hS rfl) rfl hp (by decide) (shR hS b2) ?_
    refine g_aload_n (pc := 9) dX6_remember_9 rfl trivial ?_
    refine g_getf (pc := 10) dX6_remember_10 fk_X6_19 (shK hS rfl) (fv_obj (shR hS rfl)) ?_
    refine g_invV_r (pc := 13) (As := [_]) dX6_remember_13 rfl (s_stTake hS hb9 st3 (by omega) hk) rfl rfl (shK hS hb9.1.1) rfl rfl lk_X6_313 rfl (nb rfl) ⟨nb rfl, nb rfl⟩ rfl ?_
    generalize stTake M (32 + 14 * p) 3 = X at hS1 e0 ⊢
    refine g_aload_n (pc := 16) dX6_remember_16 rfl trivial ?_
    refine g_aload_n (pc := 17) dX6_remember_17 rfl trivial ?_
    refine g_getf (pc := 18) (v := .int _) dX6_remember_18 fk_X6_310 (shK hS1 rfl) (fun _ => congrArg Value.int (((congrFun e0 4).trans h4))) ?_
    refine g_bipush (pc := 21) (v := 7) dX6_remember_21 rfl ?_
    refine g_icmp_ne (pc := 23) (tgt := 30) dX6_remember_23 rfl (fun _ => ?_) (fun h23 => absurd (fun h => h7 ((nI_eq (by omega) (by decide)).mp h)) h23)
    refine g_aload_n (pc := 30) dX6_remember_30 rfl trivial ?_
    refine g_getf (pc := 31) (v := .int _) dX6_remember_31 fk_X6_310 (shK hS1 rfl) (fun _ => congrArg Value.int (((congrFun e0 4).trans h4))) ?_
    refine g_iconst (pc := 34) (v := 1) dX6_remember_34 rfl ?_
    refine g_iadd (pc := 35) dX6_remember_35 ?_
    rw [nI_1]
    refine g_putI (pc := 36) dX6_remember_36 fp_X6_310 (shK hS1 rfl) ⟨rfl, rfl⟩ (fun _ _ _ _ => rfl) ?_
    refine g_aload_n (pc := 39) dX6_remember_39 rfl trivial ?_
    refine g_aload_n (pc := 40) dX6_remember_40 rfl trivial ?_
    refine g_getf (pc := 41) (v := .int _) dX6_remember_41 fk_X6_106 (shK hS1 rfl) (fun _ => congrArg Value.int (((pI_k (by decide)).trans ((congrFun e0 5).trans h5)))) ?_
    refine g_iconst (pc := 44) (v := 1) dX6_remember_44 rfl ?_
    refine g_iadd (pc := 45) dX6_remember_45 ?_
    refine g_bipush (pc := 46) (v := 8) dX6_remember_46 rfl ?_
    refine g_mmin (pc := 48) dX6_remember_48 wd_1019 wd_430 wd_107 wd_431 (nb rfl) (nb rfl) ?_
    rw [hmin]
    refine g_putI (pc := 51) dX6_remember_51 fp_X6_106 (shK hS1 rfl) ⟨rfl, rfl⟩ (fun _ _ _ _ => rfl) ?_
    refine g_return (pc := 54) dX6_remember_54 rfl ?_
    exact ⟨rfl, rfl⟩
/-- the closure of a slot, made if it isn't current -/
def clOf (M : Mem) (s n : Nat) : Mem := if mI M (175 + 2 * s) 1 = 0 then clMake M (175 + 2 * s) (6 + 2 * s) n else M
theorem clOf_S (hS : Shp M) (s n : Nat) : Shp (clOf M s n) := by unfold clOf; split <;> exact hS
theorem rows_lay {s : Nat} (hs : s < 6) : LAY[6 + 2 * s]? = some (kI 32) := by
  have := ((base_ok 3 (by decide)).2 s hs).2.1
  rw [show 3 + 3 + 2 * s = 6 + 2 * s by omega] at this
  exact this
theorem s_closureOf {s n : Nat} (hS : Shp M) (hs : s < 6) (hz : mI M 3 1 = nI n) (hn : n ≤ 32) : EvR l jX6_closureOf 2 90 0 0 [.ref 0, .int (nI s)] M (.inl (some (.ref (175 + 2 * s)))) (clOf M s n) := by
  obtain ⟨c1, c2⟩ := cl_ok s hs
  refine ev_intro rfl (nb rfl) rfl ?_
  unfold clOf
  refine g_aload_n (pc := 0) dX6_closureOf_0 rfl trivial ?_
  refine g_getf (pc := 1) dX6_closureOf_1 fk_X6_39 (shK hS rfl) (fv_arr (shR hS rfl)) ?_
  refine g_iload_n (pc := 4) dX6_closureOf_4 rfl ?_
  refine g_aaload_Closure (pc := 5) dX6_closureOf_5 (shK hS rfl) rfl hs (by decide) (shR hS c2) ?_
  refine g_astore_n (pc := 6) (lv' := [(0, _), (1, _), (2, _)]) dX6_closureOf_6 trivial (nl rfl) rfl ?_
  refine g_aload_n (pc := 7) dX6_closureOf_7 rfl trivial ?_
  refine g_getf (pc := 8) (v := .int (mI _ _ _)) dX6_closureOf_8 fk_X6_341 (shK hS c1.1) (fun _ => rfl) ?_
  refine g_if_ne (pc := 11) (tgt := 30) dX6_closureOf_11 rfl (fun h11 => ?_) (fun h11 => ?_)
  · refine g_aload_n (pc := 30) dX6_closureOf_30 rfl trivial ?_
    refine g_areturn (pc := 31) dX6_closureOf_31 rfl (Or.inl ⟨_, rfl⟩) ?_
    exact ⟨rfl, (if_neg h11).symm⟩
  · refine g_aload_n (pc := 14) dX6_closureOf_14 rfl trivial ?_
    refine g_aload_n (pc := 15) dX6_closureOf_15 rfl trivial ?_
    refine g_iload_n (pc := 16) dX6_closureOf_16 rfl ?_
    refine g_invV_r (pc := 17) (As := [_]) dX6_closureOf_17 rfl (s_rowsOf hS hs) rfl rfl (shK hS rfl) rfl rfl lk_X6_112 rfl (nb rfl) ⟨nb rfl, nb rfl⟩ rfl ?_
    refine g_aload_n (pc := 20) dX6_closureOf_20 rfl trivial ?_
    refine g_getf (pc := 21) dX6_closureOf_21 fk_X6_19 (shK hS rfl) (fv_obj (shR hS rfl)) ?_
    refine g_getf (pc := 24) (v := .int _) dX6_closureOf_24 fk_X6_89 (shK hS rfl) (fun _ => congrArg Value.int (hz)) ?_
    refine g_invV_r (pc := 27) (As := [_, _]) dX6_closureOf_27 rfl (s_makeFrom hS c1 (shK hS (rows_lay hs)) hn) rfl rfl (shK hS c1.1) rfl rfl lk_X6_344 rfl (nb rfl) ⟨nb rfl, nb rfl⟩ rfl ?_
    refine g_aload_n (pc := 30) dX6_closureOf_30 rfl trivial ?_
    refine g_areturn (pc := 31) dX6_closureOf_31 rfl (Or.inl ⟨_, rfl⟩) ?_
    exact ⟨rfl, (if_pos (Decidable.not_not.mp h11)).symm⟩
def noteM (M : Mem) (s : Nat) (x : Int32) : Mem := mxAnew (pI M (175 + 2 * s) 1 0) (5 + 2 * s) x
theorem noteM_S (hS : Shp M) (s : Nat) (x : Int32) : Shp (noteM M s x) := Shp.anew (M := pI M (175 + 2 * s) 1 0) hS
theorem mx5 {s : Nat} (hs : s < 6) : isMx (5 + 2 * s) ∧ REFT 4 s = some (5 + 2 * s) := by
  have h := st3.2 s hs
  rw [show 3 + 2 + 2 * s = 5 + 2 * s by omega] at h
  exact h
theorem s_noteChange {s : Nat} {x : Int32} (hS : Shp M) (hs : s < 6) (hz : mI M 3 1 = x) : EvR l jX6_noteChange 2 50 0 0 [.ref 0, .int (nI s)] M (.inl none) (noteM M s x) := by
  obtain ⟨c1, c2⟩ := cl_ok s hs
  obtain ⟨m1, m2⟩ := mx5 hs
  have hS1 : Shp (pI M (175 + 2 * s) 1 0) := hS
  refine ev_intro rfl (nb rfl) rfl ?_
  refine g_aload_n (pc := 0) dX6_noteChange_0 rfl trivial ?_
  refine g_getf (pc := 1) dX6_noteChange_1 fk_X6_39 (shK hS rfl) (fv_arr (shR hS rfl)) ?_
  refine g_iload_n (pc := 4) dX6_noteChange_4 rfl ?_
  refine g_aaload_Closure (pc := 5) dX6_noteChange_5 (shK hS rfl) rfl hs (by decide) (shR hS c2) ?_
  refine g_iconst (pc := 6) (v := 0) dX6_noteChange_6 rfl ?_
  refine g_putI (pc := 7) dX6_noteChange_7 fp_X6_341 (shK hS c1.1) ⟨rfl, rfl⟩ (fun _ _ _ _ => rfl) ?_
  refine g_aload_n (pc := 10) dX6_noteChange_10 rfl trivial ?_
  refine g_getf (pc := 11) dX6_noteChange_11 fk_X6_19 (shK hS rfl) (fv_obj (shR hS rfl)) ?_
  refine g_getf (pc := 14) dX6_noteChange_14 fk_X6_225 (shK hS rfl) (fv_arr (shR hS rfl)) ?_
  refine g_iload_n (pc := 17) dX6_noteChange_17 rfl ?_
  refine g_aaload_Matrix (pc := 18) dX6_noteChange_18 (shK hS rfl) rfl hs (by decide) (shR hS m2) ?_
  refine g_aload_n (pc := 19) dX6_noteChange_19 rfl trivial ?_
  refine g_getf (pc := 20) dX6_noteChange_20 fk_X6_19 (shK hS rfl) (fv_obj (shR hS rfl)) ?_
  refine g_getf (pc := 23) (v := .int _) dX6_noteChange_23 fk_X6_89 (shK hS rfl) (fun _ => congrArg Value.int (((congrFun (pI_i (by omega)) 1).trans hz))) ?_
  refine g_invV_r (pc := 26) (As := [_]) dX6_noteChange_26 rfl (s_noteMadeAnew hS1 m1) rfl rfl (shK hS m1.1) rfl rfl lk_X6_292 rfl (nb rfl) ⟨nb rfl, nb rfl⟩ rfl ?_
  refine g_return (pc := 29) dX6_noteChange_29 rfl ?_
  exact ⟨rfl, rfl⟩
theorem mxAnew_ne {m i : Nat} {x : Int32} (h : i ≠ m) : mI (mxAnew M m x) i = mI M i := by
  unfold mxAnew mxLook
  split
  · rfl
  · rw [pI_i h, pI_i h, pI_i h]
theorem noteM_ne {s i : Nat} {x : Int32} (h : i ≠ 175 + 2 * s) (h2 : i ≠ 5 + 2 * s) : mI (noteM M s x) i = mI M i := by
  unfold noteM; rw [mxAnew_ne h2, pI_i h]
/-- rows are stored in a slot -/
def storeM (M : Mem) (r t n : Nat) : Mem := noteM (sI M (6 + 2 * t) (wr (mI M (6 + 2 * t)) (mI M r) n)) t (nI n)
theorem s_store {r t n : Nat} (hS : Shp M) (ht : t < 6) (hz : mI M 3 1 = nI n) (hn : n ≤ 32) (hk : (mK M)[r]? = some (kI 32)) : EvR l jX6_store 3 80 0 0 [.ref 0, .ref r, .int (nI t)] M (.inl (some (.int (onesF (mI (storeM M r t n) (6 + 2 * t)) n)))) (storeM M r t n) := by
  have hS1 : Shp (sI M (6 + 2 * t) (wr (mI M (6 + 2 * t)) (mI M r) n)) := hS
  have hS2 : Shp (storeM M r t n) := noteM_S hS1 t (nI n)
  have z2 : mI (sI M (6 + 2 * t) (wr (mI M (6 + 2 * t)) (mI M r) n)) 3 1 = nI n := (congrFun (sI_ne (by omega)) 1).trans hz
  have z3 : mI (storeM M r t n) 3 1 = nI n := (congrFun (noteM_ne (by omega) (by omega)) 1).trans z2
  refine ev_intro rfl (nb rfl) rfl ?_
  refine g_aload_n (pc := 0) dX6_store_0 rfl trivial ?_
  refine g_iconst (pc := 1) (v := 0) dX6_store_1 rfl ?_
  refine g_aload_n (pc := 2) dX6_store_2 rfl trivial ?_
  refine g_iload_n (pc := 3) dX6_store_3 rfl ?_
  refine g_invV_r (pc := 4) (As := [_]) dX6_store_4 rfl (s_rowsOf hS ht) rfl rfl (shK hS rfl) rfl rfl lk_X6_112 rfl (nb rfl) ⟨nb rfl, nb rfl⟩ rfl ?_
  refine g_iconst (pc := 7) (v := 0) dX6_store_7 rfl ?_
  refine g_aload_n (pc := 8) dX6_store_8 rfl trivial ?_
  refine g_getf (pc := 9) dX6_store_9 fk_X6_19 (shK hS rfl) (fv_obj (shR hS rfl)) ?_
  refine g_getf (pc := 12) (v := .int _) dX6_store_12 fk_X6_89 (shK hS rfl) (fun _ => congrArg Value.int (hz)) ?_
  refine g_copyI (pc := 15) (sp := 0) (dp := 0) dX6_store_15 wd_912 wd_510 wd_509 wd_108 hk (shK hS (rows_lay ht)) rfl rfl rfl (by omega) (by omega) ⟨by decide, by decide⟩ hS.2.1 (nb rfl) (nb rfl) ?_
  rw [cpy_wr]
  refine g_aload_n (pc := 18) dX6_store_18 rfl trivial ?_
  refine g_iload_n (pc := 19) dX6_store_19 rfl ?_
  refine g_invV_r (pc := 20) (As := [_]) dX6_store_20 rfl (s_noteChange hS1 ht z2) rfl rfl (shK hS rfl) rfl rfl lk_X6_244 rfl (nb rfl) ⟨nb rfl, nb rfl⟩ rfl ?_
  refine g_aload_n (pc := 23) dX6_store_23 rfl trivial ?_
  refine g_iload_n (pc := 24) dX6_store_24 rfl ?_
  refine g_invV_r (pc := 25) (As := [_]) dX6_store_25 rfl (s_rowsOf hS2 ht) rfl rfl (shK hS2 rfl) rfl rfl lk_X6_112 rfl (nb rfl) ⟨nb rfl, nb rfl⟩ rfl ?_
  refine g_aload_n (pc := 28) dX6_store_28 rfl trivial ?_
  refine g_getf (pc := 29) dX6_store_29 fk_X6_19 (shK hS2 rfl) (fv_obj (shR hS2 rfl)) ?_
  refine g_getf (pc := 32) (v := .int _) dX6_store_32 fk_X6_89 (shK hS2 rfl) (fun _ => congrArg Value.int (z3)) ?_
  refine g_invS_r (pc := 35) (As := [_, _]) dX6_store_35 rfl (s_onesOf (shK hS2 (rows_lay ht)) hn) rfl rfl lk_X6_145 rfl (nb rfl) ⟨nb rfl, nb rfl⟩ rfl ?_
  refine g_ireturn (pc := 38) dX6_store_38 rfl rfl ?_
  exact ⟨rfl, rfl⟩
def workM (M : Mem) : Mem := pI (pI M 3 3 (mI M 187 6)) 3 4 (mI M 187 7)
theorem s_noteWork (hS : Shp M) : EvR l jX6_noteWork 0 0 0 0 [.ref 0] M (.inl none) (workM M) := by
  refine ev_intro rfl (nb rfl) rfl ?_
  refine g_aload_n (pc := 0) dX6_noteWork_0 rfl trivial ?_
  refine g_getf (pc := 1) dX6_noteWork_1 fk_X6_19 (shK hS rfl) (fv_obj (shR hS rfl)) ?_
  refine g_aload_n (pc := 4) dX6_noteWork_4 rfl trivial ?_
  refine g_getf (pc := 5) dX6_noteWork_5 fk_X6_47 (shK hS rfl) (fv_obj (shR hS rfl)) ?_
  refine g_getf (pc := 8) (v := .int (mI _ _ _)) dX6_noteWork_8 fk_X6_347 (shK hS rfl) (fun _ => rfl) ?_
  refine g_putI (pc := 11) dX6_noteWork_11 fp_X6_304 (shK hS rfl) ⟨rfl, rfl⟩ (fun _ _ _ _ => rfl) ?_
  refine g_aload_n (pc := 14) dX6_noteWork_14 rfl trivial ?_
  refine g_getf (pc := 15) dX6_noteWork_15 fk_X6_19 (shK hS rfl) (fv_obj (shR hS rfl)) ?_
  refine g_aload_n (pc := 18) dX6_noteWork_18 rfl trivial ?_
  refine g_getf (pc := 19) dX6_noteWork_19 fk_X6_47 (shK hS rfl) (fv_obj (shR hS rfl)) ?_
  refine g_getf (pc := 22) (v := .int _) dX6_noteWork_22 fk_X6_348 (shK hS rfl) (fun _ => congrArg Value.int ((congrFun (pI_i (by decide)) 7))) ?_
  refine g_putI (pc := 25) dX6_noteWork_25 fp_X6_307 (shK hS rfl) ⟨rfl, rfl⟩ (fun _ _ _ _ => rfl) ?_
  refine g_return (pc := 28) dX6_noteWork_28 rfl ?_
  exact ⟨rfl, rfl⟩
end
end
-- 18.deskpriv
section
/-! what the class's object computes over rows -/
section
variable {l : Launch} {M : Mem}
def firstEq (f : Nat → Int32) (x : Int32) : Nat → Nat → Int32
  | 0, _ => -1
  | d + 1, i => if f i = x then nI i else firstEq f x d (i + 1)
theorem s_firstEqual {r n : Nat} {x : Int32} (hS : Shp M) (hk : (mK M)[r]? = some (kI 32)) (hz : mI M 3 1 = nI n) (hn : n ≤ 32) : EvR l jX6_firstEqual 0 0 0 0 [.ref 0, .ref r, .int x] M (.inl (some (.int (firstEq (mI M r) x n 0)))) M := by
  obtain ⟨S, hs⟩ : ∃ S, S = firstEq (mI M r) x n 0 := ⟨_, rfl⟩
  rw [← hs]
  refine ev_intro rfl (nb rfl) rfl ?_
  refine g_iconst (pc := 0) (v := 0) dX6_firstEqual_0 rfl ?_
  refine g_istore_n (pc := 1) (lv' := [(0, _), (1, _), (2, _), (3, _)]) dX6_firstEqual_1 (nl rfl) rfl ?_
  refine go_while (pc := 2) (σ := Nat) (fun i => i ≤ n ∧ firstEq (mI M r) x (n - i) i = S) (fun i => n - i) (fun i => [(0, .ref 0), (1, .ref r), (2, .int x), (3, .int (nI i))]) (fun _ => M) 0 ⟨rfl, rfl, rfl, rfl, trivial⟩ rfl ⟨Nat.zero_le _, hs.symm⟩ ?_
  rintro i ⟨h1, h2⟩ ih
  by_cases hi : i < n
  · rw [show n - i = (n - (i + 1)) + 1 by omega, firstEq] at h2
    refine g_iload_n (pc := 2) dX6_firstEqual_2 rfl ?_
    refine g_aload_n (pc := 3) dX6_firstEqual_3 rfl trivial ?_
    refine g_getf (pc := 4) dX6_firstEqual_4 fk_X6_19 (shK hS rfl) (fv_obj (shR hS rfl)) ?_
    refine g_getf (pc := 7) (v := .int _) dX6_firstEqual_7 fk_X6_89 (shK hS rfl) (fun _ => congrArg Value.int (hz)) ?_
    refine g_icmp_ge (pc := 10) (tgt := 28) dX6_firstEqual_10 rfl (fun h10 => absurd h10 (nI_ge hi (by omega))) (fun _ => ?_)
    refine g_aload_n (pc := 13) dX6_firstEqual_13 rfl trivial ?_
    refine g_iload_n (pc := 14) dX6_firstEqual_14 rfl ?_
    refine g_iaload (pc := 15) dX6_firstEqual_15 hk rfl (by omega) (nl rfl) ?_
    refine g_iload_n (pc := 16) dX6_firstEqual_16 rfl ?_
    refine g_icmp_ne (pc := 17) (tgt := 22) dX6_firstEqual_17 rfl (fun h17 => ?_) (fun h17 => ?_)
    · rw [if_neg h17] at h2
      refine g_iinc (pc := 22) (lv' := [(0, _), (1, _), (2, _), (3, _)]) dX6_firstEqual_22 rfl (nI_1 _) (nl rfl) rfl ?_
      refine g_goto (pc := 25) (tgt := 2) dX6_firstEqual_25 rfl ?_
      exact ih (i + 1) ⟨by omega, h2⟩ (by omega)
    · rw [if_pos (Decidable.not_not.mp h17)] at h2
      refine g_iload_n (pc := 20) dX6_firstEqual_20 rfl ?_
      refine g_ireturn (pc := 21) dX6_firstEqual_21 rfl rfl ?_
      exact ⟨by rw [← h2], rfl⟩
  · have hi' : i = n := by omega
    subst hi'
    refine g_iload_n (pc := 2) dX6_firstEqual_2 rfl ?_
    refine g_aload_n (pc := 3) dX6_firstEqual_3 rfl trivial ?_
    refine g_getf (pc := 4) dX6_firstEqual_4 fk_X6_19 (shK hS rfl) (fv_obj (shR hS rfl)) ?_
    refine g_getf (pc := 7) (v := .int _) dX6_firstEqual_7 fk_X6_89 (shK hS rfl) (fun _ => congrArg Value.int (hz)) ?_
    refine g_icmp_ge (pc := 10) (tgt := 28) dX6_firstEqual_10 rfl (fun _ => ?_) (fun h10 => absurd (nI_le (Nat.le_refl _) (by omega)) h10)
    refine g_iconst (pc := 28) (v := (-1)) dX6_firstEqual_28 rfl ?_
    refine g_ireturn (pc := 29) dX6_firstEqual_29 rfl rfl ?_
    exact ⟨by rw [← h2, Nat.sub_self]; rfl, rfl⟩
def frN (f : Nat → Int32) (n : Nat) : Nat → Int32
  | 0 => 0
  | k + 1 => if firstEq f (f k) n 0 = nI k then frN f n k + 1 else frN f n k
theorem s_firstRows {r n m : Nat} (hS : Shp M) (hk : (mK M)[r]? = some (kI 32)) (hz : mI M 3 1 = nI n) (hn : n ≤ 32) (hm : m ≤ 32) : EvR l jX6_firstRows 1 30 0 0 [.ref 0, .ref r, .int (nI m)] M (.inl (some (.int (frN (mI M r) n m)))) M := by
  refine ev_intro rfl (nb rfl) rfl ?_
  refine g_iconst (pc := 0) (v := 0) dX6_firstRows_0 rfl ?_
  refine g_istore_n (pc := 1) (lv' := [(0, _), (1, _), (2, _), (3, _)]) dX6_firstRows_1 (nl rfl) rfl ?_
  refine g_iconst (pc := 2) (v := 0) dX6_firstRows_2 rfl ?_
  refine g_istore (pc := 3) (lv' := [(0, _), (1, _), (2, _), (3, _), (4, _)]) dX6_firstRows_3 (nl rfl) rfl ?_
  refine go_loop (pc := 5) m (fun i => [(0, .ref 0), (1, .ref r), (2, .int (nI m)), (3, .int (frN (mI M r) n i)), (4, .int (nI i))]) (fun i => M) ⟨rfl, rfl, rfl, rfl, rfl, trivial⟩ rfl ?_ ?_
  · intro i hi ih
    generalize hX : frN (mI M r) n m = X
    rw [hX, frN] at ih
    refine g_iload (pc := 5) dX6_firstRows_5 rfl ?_
    refine g_iload_n (pc := 7) dX6_firstRows_7 rfl ?_
    refine g_icmp_ge (pc := 8) (tgt := 34) dX6_firstRows_8 rfl (fun h8 => absurd h8 (nI_ge hi (by omega))) (fun _ => ?_)
    refine g_aload_n (pc := 11) dX6_firstRows_11 rfl trivial ?_
    refine g_aload_n (pc := 12) dX6_firstRows_12 rfl trivial ?_
    refine g_aload_n (pc := 13) dX6_firstRows_13 rfl trivial ?_
    refine g_iload (pc := 14) dX6_firstRows_14 rfl ?_
    refine g_iaload (pc := 16) dX6_firstRows_16 hk rfl (by omega) (nl rfl) ?_
    refine g_invV_r (pc := 17) (As := [_, _]) dX6_firstRows_17 rfl (s_firstEqual hS hk hz hn) rfl rfl (shK hS rfl) rfl rfl lk_X6_153 rfl (nb rfl) ⟨nb rfl, nb rfl⟩ rfl ?_
    refine g_iload (pc := 20) dX6_firstRows_20 rfl ?_
    refine g_icmp_ne (pc := 22) (tgt := 28) dX6_firstRows_22 rfl (fun h22 => ?_) (fun h22 => ?_)
    · rw [if_neg h22] at ih
      refine g_iinc (pc := 28) (lv' := [(0, _), (1, _), (2, _), (3, _), (4, _)]) dX6_firstRows_28 rfl (nI_1 _) (nl rfl) rfl ?_
      refine g_goto (pc := 31) (tgt := 5) dX6_firstRows_31 rfl ?_
      exact ih
    · rw [if_pos (Decidable.not_not.mp h22)] at ih
      refine g_iinc (pc := 25) (lv' := [(0, _), (1, _), (2, _), (3, _), (4, _)]) dX6_firstRows_25 rfl rfl (nl rfl) rfl ?_
      refine g_iinc (pc := 28) (lv' := [(0, _), (1, _), (2, _), (3, _), (4, _)]) dX6_firstRows_28 rfl (nI_1 _) (nl rfl) rfl ?_
      refine g_goto (pc := 31) (tgt := 5) dX6_firstRows_31 rfl ?_
      exact ih
  · refine g_iload (pc := 5) dX6_firstRows_5 rfl ?_
    refine g_iload_n (pc := 7) dX6_firstRows_7 rfl ?_
    refine g_icmp_ge (pc := 8) (tgt := 34) dX6_firstRows_8 rfl (fun _ => ?_) (fun h8 => absurd (nI_le (Nat.le_refl _) (by omega)) h8)
    refine g_iload_n (pc := 34) dX6_firstRows_34 rfl ?_
    refine g_ireturn (pc := 35) dX6_firstRows_35 rfl rfl ?_
    exact ⟨rfl, rfl⟩
def jrF (f : Nat → Int32) (x : Int32) : Nat → Int32
  | 0 => 0
  | k + 1 => if hb x k = true then jrF f x k ||| f k else jrF f x k
theorem s_joinedRows {r n : Nat} {x : Int32} (hS : Shp M) (hk : (mK M)[r]? = some (kI 32)) (hz : mI M 3 1 = nI n) (hn : n ≤ 32) : EvR l jX6_joinedRows 1 30 0 0 [.ref 0, .ref r, .int x] M (.inl (some (.int (jrF (mI M r) x n)))) M := by
  refine ev_intro rfl (nb rfl) rfl ?_
  refine g_iconst (pc := 0) (v := 0) dX6_joinedRows_0 rfl ?_
  refine g_istore_n (pc := 1) (lv' := [(0, _), (1, _), (2, _), (3, _)]) dX6_joinedRows_1 (nl rfl) rfl ?_
  refine g_iconst (pc := 2) (v := 0) dX6_joinedRows_2 rfl ?_
  refine g_istore (pc := 3) (lv' := [(0, _), (1, _), (2, _), (3, _), (4, _)]) dX6_joinedRows_3 (nl rfl) rfl ?_
  refine go_loop (pc := 5) n (fun i => [(0, .ref 0), (1, .ref r), (2, .int x), (3, .int (jrF (mI M r) x i)), (4, .int (nI i))]) (fun i => M) ⟨rfl, rfl, rfl, rfl, rfl, trivial⟩ rfl ?_ ?_
  · intro i hi ih
    generalize hX : jrF (mI M r) x n = X
    rw [hX, jrF] at ih
    refine g_iload (pc := 5) dX6_joinedRows_5 rfl ?_
    refine g_aload_n (pc := 7) dX6_joinedRows_7 rfl trivial ?_
    refine g_getf (pc := 8) dX6_joinedRows_8 fk_X6_19 (shK hS rfl) (fv_obj (shR hS rfl)) ?_
    refine g_getf (pc := 11) (v := .int _) dX6_joinedRows_11 fk_X6_89 (shK hS rfl) (fun _ => congrArg Value.int (hz)) ?_
    refine g_icmp_ge (pc := 14) (tgt := 39) dX6_joinedRows_14 rfl (fun h14 => absurd h14 (nI_ge hi (by omega))) (fun _ => ?_)
    refine g_iload_n (pc := 17) dX6_joinedRows_17 rfl ?_
    refine g_iload (pc := 18) dX6_joinedRows_18 rfl ?_
    refine g_invS_r (pc := 20) (As := [_, _]) dX6_joinedRows_20 rfl (s_hasOne (by omega)) rfl rfl lk_X6_116 rfl (nb rfl) ⟨nb rfl, nb rfl⟩ rfl ?_
    refine g_if_eq (pc := 23) (tgt := 33) dX6_joinedRows_23 rfl (fun h23 => ?_) (fun h23 => ?_)
    · rw [b1_0] at h23
      rw [if_neg (by rw [h23]; decide)] at ih
      refine g_iinc (pc := 33) (lv' := [(0, _), (1, _), (2, _), (3, _), (4, _)]) dX6_joinedRows_33 rfl (nI_1 _) (nl rfl) rfl ?_
      refine g_goto (pc := 36) (tgt := 5) dX6_joinedRows_36 rfl ?_
      exact ih
    · rw [b1_0, Bool.not_eq_false] at h23
      rw [if_pos h23] at ih
      refine g_iload_n (pc := 26) dX6_joinedRows_26 rfl ?_
      refine g_aload_n (pc := 27) dX6_joinedRows_27 rfl trivial ?_
      refine g_iload (pc := 28) dX6_joinedRows_28 rfl ?_
      refine g_iaload (pc := 30) dX6_joinedRows_30 hk rfl (by omega) (nl rfl) ?_
      refine g_ior (pc := 31) dX6_joinedRows_31 ?_
      refine g_istore_n (pc := 32) (lv' := [(0, _), (1, _), (2, _), (3, _), (4, _)]) dX6_joinedRows_32 (nl rfl) rfl ?_
      refine g_iinc (pc := 33) (lv' := [(0, _), (1, _), (2, _), (3, _), (4, _)]) dX6_joinedRows_33 rfl (nI_1 _) (nl rfl) rfl ?_
      refine g_goto (pc := 36) (tgt := 5) dX6_joinedRows_36 rfl ?_
      exact ih
  · refine g_iload (pc := 5) dX6_joinedRows_5 rfl ?_
    refine g_aload_n (pc := 7) dX6_joinedRows_7 rfl trivial ?_
    refine g_getf (pc := 8) dX6_joinedRows_8 fk_X6_19 (shK hS rfl) (fv_obj (shR hS rfl)) ?_
    refine g_getf (pc := 11) (v := .int _) dX6_joinedRows_11 fk_X6_89 (shK hS rfl) (fun _ => congrArg Value.int (hz)) ?_
    refine g_icmp_ge (pc := 14) (tgt := 39) dX6_joinedRows_14 rfl (fun _ => ?_) (fun h14 => absurd (nI_le (Nat.le_refl _) (by omega)) h14)
    refine g_iload_n (pc := 39) dX6_joinedRows_39 rfl ?_
    refine g_ireturn (pc := 40) dX6_joinedRows_40 rfl rfl ?_
    exact ⟨rfl, rfl⟩
def feF (f : Nat → Int32) (b n : Nat) : Nat → Nat → Int32 → Int32
  | 0, _, _ => -1
  | d + 1, e, x => if hb x b = true then nI e else feF f b n d (e + 1) (jrF f x n)
theorem nI_gt {a b : Nat} (h : b < a) (hb : a < 2147483648) : nI b < nI a := (nI_ltI (by omega) hb).mpr h
theorem nI_ngt {a b : Nat} (h : a ≤ b) (hb : b < 2147483648) : ¬ nI b < nI a := fun q => by have := (nI_ltI (a := b) (b := a) hb (by omega)).mp q; omega
theorem s_fewestEdges {r n a b : Nat} (hS : Shp M) (hk : (mK M)[r]? = some (kI 32)) (hz : mI M 3 1 = nI n) (hn : n ≤ 32) (ha : a < 32) (hb9 : b < 32) : EvR l jX6_fewestEdges 2 60 0 0 [.ref 0, .ref r, .int (nI a), .int (nI b)] M (.inl (some (.int (feF (mI M r) b n n 1 (mI M r a))))) M := by
  obtain ⟨S, hs⟩ : ∃ S, S = feF (mI M r) b n n 1 (mI M r a) := ⟨_, rfl⟩
  rw [← hs]
  refine ev_intro rfl (nb rfl) rfl ?_
  refine g_aload_n (pc := 0) dX6_fewestEdges_0 rfl trivial ?_
  refine g_iload_n (pc := 1) dX6_fewestEdges_1 rfl ?_
  refine g_iaload (pc := 2) dX6_fewestEdges_2 hk rfl ha (nl rfl) ?_
  refine g_istore (pc := 3) (lv' := [(0, _), (1, _), (2, _), (3, _), (4, _)]) dX6_fewestEdges_3 (nl rfl) rfl ?_
  refine g_iconst (pc := 5) (v := 1) dX6_fewestEdges_5 rfl ?_
  refine g_istore (pc := 6) (lv' := [(0, _), (1, _), (2, _), (3, _), (4, _), (5, _)]) dX6_fewestEdges_6 (nl rfl) rfl ?_
  refine go_while (pc := 8) (σ := Nat × Int32) (fun s => 1 ≤ s.1 ∧ s.1 ≤ n + 1 ∧ feF (mI M r) b n (n + 1 - s.1) s.1 s.2 = S) (fun s => n + 1 - s.1) (fun s => [(0, .ref 0), (1, .ref r), (2, .int (nI a)), (3, .int (nI b)), (4, .int s.2), (5, .int (nI s.1))]) (fun _ => M) (1, mI M r a) ⟨rfl, rfl, rfl, rfl, rfl, rfl, trivial⟩ rfl ⟨Nat.le_refl _, by simp only; omega, hs.symm⟩ ?_
  rintro ⟨e, x⟩ ⟨h0, h1, h2⟩ ih
  simp only at h0 h1 h2 ih
  by_cases hi : e ≤ n
  · rw [show n + 1 - e = (n + 1 - (e + 1)) + 1 by omega, feF] at h2
    refine g_iload (pc := 8) dX6_fewestEdges_8 rfl ?_
    refine g_aload_n (pc := 10) dX6_fewestEdges_10 rfl trivial ?_
    refine g_getf (pc := 11) dX6_fewestEdges_11 fk_X6_19 (shK hS rfl) (fv_obj (shR hS rfl)) ?_
    refine g_getf (pc := 14) (v := .int _) dX6_fewestEdges_14 fk_X6_89 (shK hS rfl) (fun _ => congrArg Value.int (hz)) ?_
    refine g_icmp_gt (pc := 17) (tgt := 47) dX6_fewestEdges_17 rfl (fun h17 => absurd h17 (nI_ngt hi (by omega))) (fun _ => ?_)
    refine g_iload (pc := 20) dX6_fewestEdges_20 rfl ?_
    refine g_iload_n (pc := 22) dX6_fewestEdges_22 rfl ?_
    refine g_invS_r (pc := 23) (As := [_, _]) dX6_fewestEdges_23 rfl (s_hasOne hb9) rfl rfl lk_X6_116 rfl (nb rfl) ⟨nb rfl, nb rfl⟩ rfl ?_
    refine g_if_eq (pc := 26) (tgt := 32) dX6_fewestEdges_26 rfl (fun h26 => ?_) (fun h26 => ?_)
    · rw [b1_0] at h26
      rw [if_neg (by rw [h26]; decide)] at h2
      refine g_aload_n (pc := 32) dX6_fewestEdges_32 rfl trivial ?_
      refine g_aload_n (pc := 33) dX6_fewestEdges_33 rfl trivial ?_
      refine g_iload (pc := 34) dX6_fewestEdges_34 rfl ?_
      refine g_invV_r (pc := 36) (As := [_, _]) dX6_fewestEdges_36 rfl (s_joinedRows hS hk hz hn) rfl rfl (shK hS rfl) rfl rfl lk_X6_189 rfl (nb rfl) ⟨nb rfl, nb rfl⟩ rfl ?_
      refine g_istore (pc := 39) (lv' := [(0, _), (1, _), (2, _), (3, _), (4, _), (5, _)]) dX6_fewestEdges_39 (nl rfl) rfl ?_
      refine g_iinc (pc := 41) (lv' := [(0, _), (1, _), (2, _), (3, _), (4, _), (5, _)]) dX6_fewestEdges_41 rfl (nI_1 _) (nl rfl) rfl ?_
      refine g_goto (pc := 44) (tgt := 8) dX6_fewestEdges_44 rfl ?_
      exact ih (e + 1, _) ⟨by simp only; omega, by simp only; omega, h2⟩ (by simp only; omega)
    · rw [b1_0, Bool.not_eq_false] at h26
      rw [if_pos h26] at h2
      refine g_iload (pc := 29) dX6_fewestEdges_29 rfl ?_
      refine g_ireturn (pc := 31) dX6_fewestEdges_31 rfl rfl ?_
      exact ⟨by rw [← h2], rfl⟩
  · have hi' : e = n + 1 := by omega
    subst hi'
    refine g_iload (pc := 8) dX6_fewestEdges_8 rfl ?_
    refine g_aload_n (pc := 10) dX6_fewestEdges_10 rfl trivial ?_
    refine g_getf (pc := 11) dX6_fewestEdges_11 fk_X6_19 (shK hS rfl) (fv_obj (shR hS rfl)) ?_
    refine g_getf (pc := 14) (v := .int _) dX6_fewestEdges_14 fk_X6_89 (shK hS rfl) (fun _ => congrArg Value.int (hz)) ?_
    refine g_icmp_gt (pc := 17) (tgt := 47) dX6_fewestEdges_17 rfl (fun _ => ?_) (fun h17 => absurd (nI_gt (Nat.lt_succ_self _) (by omega)) h17)
    refine g_iconst (pc := 47) (v := (-1)) dX6_fewestEdges_47 rfl ?_
    refine g_ireturn (pc := 48) dX6_fewestEdges_48 rfl rfl ?_
    exact ⟨by rw [← h2, Nat.sub_self]; rfl, rfl⟩
def rwlI (f : Nat → Int32) (x : Int32) : Nat → Int32
  | 0 => 0
  | k + 1 => if f k &&& x = 0 then rwlI f x k else rwlI f x k ||| bitI k
def rwlF (f : Nat → Int32) (e n : Nat) : Nat → Int32
  | 0 => bitI e
  | k + 1 => rwlI f (rwlF f e n k) n
theorem lay_196 (hS : Shp M) : (mK M)[196]? = some (kI 32) := shK hS rfl
theorem nI_m1 {e : Nat} (h : 1 ≤ e) : nI e - 1 = nI (e - 1) := by
  obtain ⟨d, rfl⟩ : ∃ d, e = d + 1 := ⟨e - 1, by omega⟩
  rw [← nI_1]; simp
theorem s_fillLevels {r n b e : Nat} (hS : Shp M) (hk : (mK M)[r]? = some (kI 32)) (hr : r ≠ 196) (hz : mI M 3 1 = nI n) (hn : n ≤ 32) (he : 1 ≤ e) (he9 : e ≤ 32) : EvR l jX6_fillLevels 0 0 0 0 [.ref 0, .ref r, .int (nI b), .int (nI e)] M (.inl none) (sI M 196 (wr (mI M 196) (rwlF (mI M r) b n) e)) := by
  refine ev_intro rfl (nb rfl) rfl ?_
  refine g_aload_n (pc := 0) dX6_fillLevels_0 rfl trivial ?_
  refine g_getf (pc := 1) dX6_fillLevels_1 fk_X6_62 (shK hS rfl) (fv_arr (shR hS rfl)) ?_
  refine g_iconst (pc := 4) (v := 0) dX6_fillLevels_4 rfl ?_
  refine g_iconst (pc := 5) (v := 1) dX6_fillLevels_5 rfl ?_
  refine g_iload_n (pc := 6) dX6_fillLevels_6 rfl ?_
  refine g_ishl (pc := 7) dX6_fillLevels_7 ?_
  refine g_iastore (pc := 8) dX6_fillLevels_8 (shK hS rfl) rfl (by decide) (nl rfl) ?_
  refine g_iconst (pc := 9) (v := 1) dX6_fillLevels_9 rfl ?_
  refine g_istore (pc := 10) (lv' := [(0, _), (1, _), (2, _), (3, _), (4, _)]) dX6_fillLevels_10 (nl rfl) rfl ?_
  refine go_while (pc := 12) (σ := Nat) (fun s => 1 ≤ s ∧ s ≤ e) (fun s => e - s) (fun s => [(0, .ref 0), (1, .ref r), (2, .int (nI b)), (3, .int (nI e)), (4, .int (nI s))]) (fun s => sI M 196 (wr (mI M 196) (rwlF (mI M r) b n) s)) 1 ⟨rfl, rfl, rfl, rfl, rfl, trivial⟩ ?_ ⟨Nat.le_refl _, he⟩ ?_
  · rw [← wr_s, wr_0]; rfl
  rintro s ⟨h1, h2⟩ ih
  have hz1 : mI (sI M 196 (wr (mI M 196) (rwlF (mI M r) b n) s)) 3 1 = nI n := (congrFun (sI_ne (by decide)) 1).trans hz
  have er : mI (sI M 196 (wr (mI M 196) (rwlF (mI M r) b n) s)) r = mI M r := sI_ne hr
  have hl : mI (sI M 196 (wr (mI M 196) (rwlF (mI M r) b n) s)) 196 (s - 1) = rwlF (mI M r) b n (s - 1) := by rw [sI_self, wr_lt (by omega)]
  have e2 : sI (sI M 196 (wr (mI M 196) (rwlF (mI M r) b n) s)) 196 (fun_set (mI (sI M 196 (wr (mI M 196) (rwlF (mI M r) b n) s)) 196) s (rwlF (mI M r) b n s)) = sI M 196 (wr (mI M 196) (rwlF (mI M r) b n) (s + 1)) := by rw [sI_self, wr_s, sI_2]
  have hS0 : Shp (sI M 196 (wr (mI M 196) (rwlF (mI M r) b n) s)) := shp_sI hS
  have hk0 : (mK (sI M 196 (wr (mI M 196) (rwlF (mI M r) b n) s)))[r]? = some (kI 32) := hk
  by_cases hi : s < e
  · obtain ⟨d, hd⟩ : ∃ d, s = d + 1 := ⟨s - 1, by omega⟩
    have eq1 : rwlF (mI M r) b n s = rwlI (mI M r) (rwlF (mI M r) b n (s - 1)) n := by rw [hd]; rfl
    rw [eq1] at e2
    have ih := ih (s + 1) ⟨by omega, by omega⟩ (by omega)
    rw [← e2] at ih
    generalize sI M 196 (wr (mI M 196) (rwlF (mI M r) b n) s) = M1 at *
    generalize rwlF (mI M r) b n (s - 1) = x at *
    generalize mI M r = f at *
    refine g_iload (pc := 12) dX6_fillLevels_12 rfl ?_
    refine g_iload_n (pc := 14) dX6_fillLevels_14 rfl ?_
    refine g_icmp_ge (pc := 15) (tgt := 83) dX6_fillLevels_15 rfl (fun h15 => absurd h15 (nI_ge hi (by omega))) (fun _ => ?_)
    refine g_iconst (pc := 18) (v := 0) dX6_fillLevels_18 rfl ?_
    refine g_istore (pc := 19) (lv' := [(0, _), (1, _), (2, _), (3, _), (4, _), (5, _)]) dX6_fillLevels_19 (nl rfl) rfl ?_
    refine g_iconst (pc := 21) (v := 0) dX6_fillLevels_21 rfl ?_
    refine g_istore (pc := 22) (lv' := [(0, _), (1, _), (2, _), (3, _), (4, _), (5, _), (6, _)]) dX6_fillLevels_22 (nl rfl) rfl ?_
    refine go_loop (pc := 24) n (fun i => [(0, .ref 0), (1, .ref r), (2, .int (nI b)), (3, .int (nI e)), (4, .int (nI s)), (5, .int (rwlI f x i)), (6, .int (nI i))]) (fun i => M1) ⟨rfl, rfl, rfl, rfl, rfl, rfl, rfl, trivial⟩ rfl ?_ ?_
    · intro i hi2 ih2
      generalize hX : rwlI f x n = X at ih ⊢
      rw [rwlI] at ih2
      refine g_iload (pc := 24) dX6_fillLevels_24 rfl ?_
      refine g_aload_n (pc := 26) dX6_fillLevels_26 rfl trivial ?_
      refine g_getf (pc := 27) dX6_fillLevels_27 fk_X6_19 (shK hS0 rfl) (fv_obj (shR hS0 rfl)) ?_
      refine g_getf (pc := 30) (v := .int _) dX6_fillLevels_30 fk_X6_89 (shK hS0 rfl) (fun _ => congrArg Value.int (hz1)) ?_
      refine g_icmp_ge (pc := 33) (tgt := 68) dX6_fillLevels_33 rfl (fun h33 => absurd h33 (nI_ge hi2 (by omega))) (fun _ => ?_)
      refine g_aload_n (pc := 36) dX6_fillLevels_36 rfl trivial ?_
      refine g_iload (pc := 37) dX6_fillLevels_37 rfl ?_
      refine g_iaload (pc := 39) dX6_fillLevels_39 hk0 rfl (by omega) (nl rfl) ?_
      refine g_aload_n (pc := 40) dX6_fillLevels_40 rfl trivial ?_
      refine g_getf (pc := 41) dX6_fillLevels_41 fk_X6_62 (shK hS0 rfl) (fv_arr (shR hS0 rfl)) ?_
      refine g_iload (pc := 44) dX6_fillLevels_44 rfl ?_
      refine g_iconst (pc := 46) (v := 1) dX6_fillLevels_46 rfl ?_
      refine g_isub (pc := 47) dX6_fillLevels_47 ?_
      rw [nI_m1 h1]
      refine g_iaload (pc := 48) dX6_fillLevels_48 (lay_196 hS0) rfl (by omega) (nl rfl) ?_
      rw [hl, er]
      refine g_iand (pc := 49) dX6_fillLevels_49 ?_
      refine g_if_eq (pc := 50) (tgt := 62) dX6_fillLevels_50 rfl (fun h50 => ?_) (fun h50 => ?_)
      · rw [if_pos h50] at ih2
        refine g_iinc (pc := 62) (lv' := [(0, _), (1, _), (2, _), (3, _), (4, _), (5, _), (6, _)]) dX6_fillLevels_62 rfl (nI_1 _) (nl rfl) rfl ?_
        refine g_goto (pc := 65) (tgt := 24) dX6_fillLevels_65 rfl ?_
        exact ih2
      · rw [if_neg h50] at ih2
        refine g_iload (pc := 53) dX6_fillLevels_53 rfl ?_
        refine g_iconst (pc := 55) (v := 1) dX6_fillLevels_55 rfl ?_
        refine g_iload (pc := 56) dX6_fillLevels_56 rfl ?_
        refine g_ishl (pc := 58) dX6_fillLevels_58 ?_
        refine g_ior (pc := 59) dX6_fillLevels_59 ?_
        refine g_istore (pc := 60) (lv' := [(0, _), (1, _), (2, _), (3, _), (4, _), (5, _), (6, _)]) dX6_fillLevels_60 (nl rfl) rfl ?_
        refine g_iinc (pc := 62) (lv' := [(0, _), (1, _), (2, _), (3, _), (4, _), (5, _), (6, _)]) dX6_fillLevels_62 rfl (nI_1 _) (nl rfl) rfl ?_
        refine g_goto (pc := 65) (tgt := 24) dX6_fillLevels_65 rfl ?_
        exact ih2
    · refine g_iload (pc := 24) dX6_fillLevels_24 rfl ?_
      refine g_aload_n (pc := 26) dX6_fillLevels_26 rfl trivial ?_
      refine g_getf (pc := 27) dX6_fillLevels_27 fk_X6_19 (shK hS0 rfl) (fv_obj (shR hS0 rfl)) ?_
      refine g_getf (pc := 30) (v := .int _) dX6_fillLevels_30 fk_X6_89 (shK hS0 rfl) (fun _ => congrArg Value.int (hz1)) ?_
      refine g_icmp_ge (pc := 33) (tgt := 68) dX6_fillLevels_33 rfl (fun _ => ?_) (fun h33 => absurd (nI_le (Nat.le_refl _) (by omega)) h33)
      refine g_aload_n (pc := 68) dX6_fillLevels_68 rfl trivial ?_
      refine g_getf (pc := 69) dX6_fillLevels_69 fk_X6_62 (shK hS0 rfl) (fv_arr (shR hS0 rfl)) ?_
      refine g_iload (pc := 72) dX6_fillLevels_72 rfl ?_
      refine g_iload (pc := 74) dX6_fillLevels_74 rfl ?_
      refine g_iastore (pc := 76) dX6_fillLevels_76 (lay_196 hS0) rfl (by omega) (nl rfl) ?_
      refine g_iinc (pc := 77) (lv' := [(0, _), (1, _), (2, _), (3, _), (4, _), (5, _), (6, _)]) dX6_fillLevels_77 rfl (nI_1 _) (nl rfl) rfl ?_
      refine g_goto (pc := 80) (tgt := 12) dX6_fillLevels_80 rfl ?_
      exact g_sub (lv' := [(0, .ref 0), (1, .ref r), (2, .int (nI b)), (3, .int (nI e)), (4, .int (nI (s + 1)))]) ⟨rfl, rfl, rfl, rfl, rfl, trivial⟩ ih
  · have hi' : s = e := by omega
    subst hi'
    refine g_iload (pc := 12) dX6_fillLevels_12 rfl ?_
    refine g_iload_n (pc := 14) dX6_fillLevels_14 rfl ?_
    refine g_icmp_ge (pc := 15) (tgt := 83) dX6_fillLevels_15 rfl (fun _ => ?_) (fun h15 => absurd (nI_le (Nat.le_refl _) (by omega)) h15)
    refine g_return (pc := 83) dX6_fillLevels_83 rfl ?_
    exact ⟨rfl, rfl⟩
/-- a slot's rows without an edge, beside them -/
def lwMem (M : Mem) (s a b n : Nat) : Mem := sI M 195 (fun_set (wr (mI M 195) (mI M (6 + 2 * s)) n) a (mI M (6 + 2 * s) a &&& (bitI b ^^^ -1)))
theorem clMake_ne {c r n i : Nat} (h : i ≠ c) (h2 : i ≠ c + 1) : mI (clMake M c r n) i = mI M i := by
  unfold clMake; rw [pI_i h, sI_ne h2]
theorem clOf_ne {s n i : Nat} (h : i < 175 ∨ 187 ≤ i) (hs : s < 6) : mI (clOf M s n) i = mI M i := by
  unfold clOf; split
  · rw [clMake_ne (by omega) (by omega)]
  · rfl
theorem cl_ok' : ∀ s, s < 6 → isCl (175 + 2 * s) := fun s h => (cl_ok s h).1
theorem s_lossWithout {s a b n : Nat} (hS : Shp M) (hs : s < 6) (hz : mI M 3 1 = nI n) (hn : n ≤ 32) (ha : a < n) (hb9 : b < n) : EvR l jX6_lossWithout 4 150 0 0 [.ref 0, .int (nI s), .int (nI a), .int (nI b)] M (.inl (some (.int (lossB (mI (clOf (lwMem M s a b n) s n) (176 + 2 * s)) (mI (lwMem M s a b n) 195) a b n)))) (clOf (lwMem M s a b n) s n) := by
  have hS1 : Shp (sI M 195 (wr (mI M 195) (mI M (6 + 2 * s)) n)) := shp_sI hS
  have hS2 : Shp (lwMem M s a b n) := shp_sI hS
  have hS3 := clOf_S hS2 s n
  have hz2 : mI (lwMem M s a b n) 3 1 = nI n := by unfold lwMem; rw [sI_ne (by decide)]; exact hz
  have hz3 : mI (clOf (lwMem M s a b n) s n) 3 1 = nI n := by rw [clOf_ne (by omega) hs]; exact hz2
  have e3 : mI (clOf (lwMem M s a b n) s n) 195 = mI (lwMem M s a b n) 195 := clOf_ne (by omega) hs
  rw [← e3]
  have hc := cl_ok' s hs
  rw [show 176 + 2 * s = 175 + 2 * s + 1 by omega]
  have e9 : ∀ x, x = mI M (6 + 2 * s) a &&& (bitI b ^^^ -1) → sI (sI M 195 (wr (mI M 195) (mI M (6 + 2 * s)) n)) 195 (fun_set (mI (sI M 195 (wr (mI M 195) (mI M (6 + 2 * s)) n)) 195) a x) = lwMem M s a b n := by
    intro x hx; rw [hx, sI_2, sI_self]; rfl
  have e8 : mI (sI M 195 (wr (mI M 195) (mI M (6 + 2 * s)) n)) 195 a = mI M (6 + 2 * s) a := by rw [sI_self, wr_lt ha]
  refine ev_intro rfl (nb rfl) rfl ?_
  refine g_aload_n (pc := 0) dX6_lossWithout_0 rfl trivial ?_
  refine g_iload_n (pc := 1) dX6_lossWithout_1 rfl ?_
  refine g_invV_r (pc := 2) (As := [_]) dX6_lossWithout_2 rfl (s_rowsOf hS hs) rfl rfl (shK hS rfl) rfl rfl lk_X6_112 rfl (nb rfl) ⟨nb rfl, nb rfl⟩ rfl ?_
  refine g_iconst (pc := 5) (v := 0) dX6_lossWithout_5 rfl ?_
  refine g_aload_n (pc := 6) dX6_lossWithout_6 rfl trivial ?_
  refine g_getf (pc := 7) dX6_lossWithout_7 fk_X6_58 (shK hS rfl) (fv_arr (shR hS rfl)) ?_
  refine g_iconst (pc := 10) (v := 0) dX6_lossWithout_10 rfl ?_
  refine g_aload_n (pc := 11) dX6_lossWithout_11 rfl trivial ?_
  refine g_getf (pc := 12) dX6_lossWithout_12 fk_X6_19 (shK hS rfl) (fv_obj (shR hS rfl)) ?_
  refine g_getf (pc := 15) (v := .int _) dX6_lossWithout_15 fk_X6_89 (shK hS rfl) (fun _ => congrArg Value.int (hz)) ?_
  refine g_copyI (pc := 18) (sp := 0) (dp := 0) dX6_lossWithout_18 wd_912 wd_510 wd_509 wd_108 (shK hS (rows_lay hs)) (shK hS rfl) rfl rfl rfl (by omega) (by omega) ⟨by decide, by decide⟩ hS.2.1 (nb rfl) (nb rfl) ?_
  rw [cpy_wr]
  refine g_aload_n (pc := 21) dX6_lossWithout_21 rfl trivial ?_
  refine g_getf (pc := 22) dX6_lossWithout_22 fk_X6_58 (shK hS1 rfl) (fv_arr (shR hS1 rfl)) ?_
  refine g_iload_n (pc := 25) dX6_lossWithout_25 rfl ?_
  refine g_dup2_11 (pc := 26) dX6_lossWithout_26 rfl rfl ?_
  refine g_iaload (pc := 27) dX6_lossWithout_27 (shK hS1 rfl) rfl (by omega) (nl rfl) ?_
  refine g_iconst (pc := 28) (v := 1) dX6_lossWithout_28 rfl ?_
  refine g_iload_n (pc := 29) dX6_lossWithout_29 rfl ?_
  refine g_ishl (pc := 30) dX6_lossWithout_30 ?_
  refine g_iconst (pc := 31) (v := (-1)) dX6_lossWithout_31 rfl ?_
  refine g_ixor (pc := 32) dX6_lossWithout_32 ?_
  refine g_iand (pc := 33) dX6_lossWithout_33 ?_
  refine g_iastore (pc := 34) dX6_lossWithout_34 (shK hS1 rfl) rfl (by omega) (nl rfl) ?_
  rw [e9 _ (by rw [e8]; rfl)]
  refine g_aload_n (pc := 35) dX6_lossWithout_35 rfl trivial ?_
  refine g_iload_n (pc := 36) dX6_lossWithout_36 rfl ?_
  refine g_invV_r (pc := 37) (As := [_]) dX6_lossWithout_37 rfl (s_closureOf hS2 hs hz2 hn) rfl rfl (shK hS2 rfl) rfl rfl lk_X6_162 rfl (nb rfl) ⟨nb rfl, nb rfl⟩ rfl ?_
  refine g_aload_n (pc := 40) dX6_lossWithout_40 rfl trivial ?_
  refine g_getf (pc := 41) dX6_lossWithout_41 fk_X6_58 (shK hS3 rfl) (fv_arr (shR hS3 rfl)) ?_
  refine g_iload_n (pc := 44) dX6_lossWithout_44 rfl ?_
  refine g_iload_n (pc := 45) dX6_lossWithout_45 rfl ?_
  refine g_aload_n (pc := 46) dX6_lossWithout_46 rfl trivial ?_
  refine g_getf (pc := 47) dX6_lossWithout_47 fk_X6_19 (shK hS3 rfl) (fv_obj (shR hS3 rfl)) ?_
  refine g_getf (pc := 50) (v := .int _) dX6_lossWithout_50 fk_X6_89 (shK hS3 rfl) (fun _ => congrArg Value.int (hz3)) ?_
  refine g_invV_r (pc := 53) (As := [_, _, _, _]) dX6_lossWithout_53 rfl (s_lossBy hS3 hc (shK hS3 rfl) (by omega) (by omega) hn) rfl rfl (shK hS3 hc.1) rfl rfl lk_X6_349 rfl (nb rfl) ⟨nb rfl, nb rfl⟩ rfl ?_
  refine g_ireturn (pc := 56) dX6_lossWithout_56 rfl rfl ?_
  exact ⟨rfl, rfl⟩
def dnF (f : Nat → Int32) (a n : Nat) : Nat → Nat → Int32
  | 0 => f
  | k + 1 => if hb (dnF f a n k a) k = true then (if hb (reachL (fun_set (dnF f a n k) a (dnF f a n k a &&& (bitI k ^^^ -1))) n (dnF f a n k a &&& (bitI k ^^^ -1)) 0) k = true then fun_set (dnF f a n k) a (dnF f a n k a &&& (bitI k ^^^ -1)) else dnF f a n k) else dnF f a n k
theorem s_dropNeedless {r a n : Nat} (hS : Shp M) (hk : (mK M)[r]? = some (kI 32)) (hr : r ≠ 3) (hz : mI M 3 1 = nI n) (hn : n ≤ 32) (ha : a < n) : EvR l jX6_dropNeedless 3 80 0 0 [.ref 0, .ref r, .int (nI a)] M (.inl none) (sI M r (dnF (mI M r) a n n)) := by
  obtain ⟨S, hs⟩ : ∃ S, S = sI M r (dnF (mI M r) a n n) := ⟨_, rfl⟩
  rw [← hs]
  refine ev_intro rfl (nb rfl) rfl ?_
  refine g_iconst (pc := 0) (v := 0) dX6_dropNeedless_0 rfl ?_
  refine g_istore_n (pc := 1) (lv' := [(0, _), (1, _), (2, _), (3, _)]) dX6_dropNeedless_1 (nl rfl) rfl ?_
  refine go_loop (pc := 2) n (fun i => [(0, .ref 0), (1, .ref r), (2, .int (nI a)), (3, .int (nI i))]) (fun i => sI M r (dnF (mI M r) a n i)) ⟨rfl, rfl, rfl, rfl, trivial⟩ (sI_id M r).symm ?_ ?_
  · intro i hi ih
    rw [dnF] at ih
    have hz1 : ∀ f, mI (sI M r f) 3 1 = nI n := fun f => (congrFun (sI_ne (Ne.symm hr)) 1).trans hz
    have hS0 : ∀ f, Shp (sI M r f) := fun f => shp_sI hS
    have hk0 : ∀ f, (mK (sI M r f))[r]? = some (kI 32) := fun f => hk
    have e0 : ∀ f, mI (sI M r f) r = f := fun f => sI_self M r f
    have e2 : ∀ f g, sI (sI M r f) r g = sI M r g := fun f g => sI_2 M r f g
    generalize dnF (mI M r) a n i = g at *
    refine g_iload_n (pc := 2) dX6_dropNeedless_2 rfl ?_
    refine g_aload_n (pc := 3) dX6_dropNeedless_3 rfl trivial ?_
    refine g_getf (pc := 4) dX6_dropNeedless_4 fk_X6_19 (shK (hS0 _) rfl) (fv_obj (shR (hS0 _) rfl)) ?_
    refine g_getf (pc := 7) (v := .int _) dX6_dropNeedless_7 fk_X6_89 (shK (hS0 _) rfl) (fun _ => congrArg Value.int ((hz1 _))) ?_
    refine g_icmp_ge (pc := 10) (tgt := 68) dX6_dropNeedless_10 rfl (fun h10 => absurd h10 (nI_ge hi (by omega))) (fun _ => ?_)
    refine g_aload_n (pc := 13) dX6_dropNeedless_13 rfl trivial ?_
    refine g_iload_n (pc := 14) dX6_dropNeedless_14 rfl ?_
    refine g_iaload (pc := 15) dX6_dropNeedless_15 (hk0 _) rfl (by omega) (nl rfl) ?_
    rw [e0]
    refine g_istore (pc := 16) (lv' := [(0, _), (1, _), (2, _), (3, _), (4, _)]) dX6_dropNeedless_16 (nl rfl) rfl ?_
    refine g_iload (pc := 18) dX6_dropNeedless_18 rfl ?_
    refine g_iload_n (pc := 20) dX6_dropNeedless_20 rfl ?_
    refine g_invS_r (pc := 21) (As := [_, _]) dX6_dropNeedless_21 rfl (s_hasOne (by omega)) rfl rfl lk_X6_116 rfl (nb rfl) ⟨nb rfl, nb rfl⟩ rfl ?_
    refine g_if_eq (pc := 24) (tgt := 62) dX6_dropNeedless_24 rfl (fun h24 => ?_) (fun h24 => ?_)
    · rw [b1_0] at h24
      rw [if_neg (by rw [h24]; decide)] at ih
      refine g_iinc (pc := 62) (lv' := [(0, _), (1, _), (2, _), (3, _), (4, _)]) dX6_dropNeedless_62 rfl (nI_1 _) (nl rfl) rfl ?_
      refine g_goto (pc := 65) (tgt := 2) dX6_dropNeedless_65 rfl ?_
      exact g_sub (lv' := [(0, _), (1, _), (2, _), (3, _)]) ⟨rfl, rfl, rfl, rfl, trivial⟩ ih
    · rw [b1_0, Bool.not_eq_false] at h24
      rw [if_pos h24] at ih
      refine g_aload_n (pc := 27) dX6_dropNeedless_27 rfl trivial ?_
      refine g_iload_n (pc := 28) dX6_dropNeedless_28 rfl ?_
      refine g_iload (pc := 29) dX6_dropNeedless_29 rfl ?_
      refine g_iconst (pc := 31) (v := 1) dX6_dropNeedless_31 rfl ?_
      refine g_iload_n (pc := 32) dX6_dropNeedless_32 rfl ?_
      refine g_ishl (pc := 33) dX6_dropNeedless_33 ?_
      refine g_iconst (pc := 34) (v := (-1)) dX6_dropNeedless_34 rfl ?_
      refine g_ixor (pc := 35) dX6_dropNeedless_35 ?_
      refine g_iand (pc := 36) dX6_dropNeedless_36 ?_
      refine g_iastore (pc := 37) dX6_dropNeedless_37 (hk0 _) rfl (by omega) (nl rfl) ?_
      rw [e0, e2]
      refine g_aload_n (pc := 38) dX6_dropNeedless_38 rfl trivial ?_
      refine g_iload_n (pc := 39) dX6_dropNeedless_39 rfl ?_
      refine g_aload_n (pc := 40) dX6_dropNeedless_40 rfl trivial ?_
      refine g_getf (pc := 41) dX6_dropNeedless_41 fk_X6_19 (shK (hS0 _) rfl) (fv_obj (shR (hS0 _) rfl)) ?_
      refine g_getf (pc := 44) (v := .int _) dX6_dropNeedless_44 fk_X6_89 (shK (hS0 _) rfl) (fun _ => congrArg Value.int ((hz1 _))) ?_
      refine g_invS_r (pc := 47) (As := [_, _, _]) dX6_dropNeedless_47 rfl (s_reachedFrom (hk0 _) (by omega) hn) rfl rfl lk_X6_353 rfl (nb rfl) ⟨nb rfl, nb rfl⟩ rfl ?_
      refine g_iload_n (pc := 50) dX6_dropNeedless_50 rfl ?_
      refine g_invS_r (pc := 51) (As := [_, _]) dX6_dropNeedless_51 rfl (s_hasOne (by omega)) rfl rfl lk_X6_116 rfl (nb rfl) ⟨nb rfl, nb rfl⟩ rfl ?_
      rw [e0, fs_self]
      refine g_if_ne (pc := 54) (tgt := 62) dX6_dropNeedless_54 rfl (fun h54 => ?_) (fun h54 => ?_)
      · rw [if_pos (by rw [b1_0] at h54; exact Bool.not_eq_false _ ▸ h54)] at ih
        refine g_iinc (pc := 62) (lv' := [(0, _), (1, _), (2, _), (3, _), (4, _)]) dX6_dropNeedless_62 rfl (nI_1 _) (nl rfl) rfl ?_
        refine g_goto (pc := 65) (tgt := 2) dX6_dropNeedless_65 rfl ?_
        exact g_sub (lv' := [(0, _), (1, _), (2, _), (3, _)]) ⟨rfl, rfl, rfl, rfl, trivial⟩ ih
      · rw [if_neg (by rw [b1_0] at h54; exact Bool.eq_false_iff.mp (Decidable.not_not.mp h54))] at ih
        refine g_aload_n (pc := 57) dX6_dropNeedless_57 rfl trivial ?_
        refine g_iload_n (pc := 58) dX6_dropNeedless_58 rfl ?_
        refine g_iload (pc := 59) dX6_dropNeedless_59 rfl ?_
        refine g_iastore (pc := 61) dX6_dropNeedless_61 (hk0 _) rfl (by omega) (nl rfl) ?_
        rw [e0, e2, fs_twice, fs_same]
        refine g_iinc (pc := 62) (lv' := [(0, _), (1, _), (2, _), (3, _), (4, _)]) dX6_dropNeedless_62 rfl (nI_1 _) (nl rfl) rfl ?_
        refine g_goto (pc := 65) (tgt := 2) dX6_dropNeedless_65 rfl ?_
        exact g_sub (lv' := [(0, _), (1, _), (2, _), (3, _)]) ⟨rfl, rfl, rfl, rfl, trivial⟩ ih
  · refine g_iload_n (pc := 2) dX6_dropNeedless_2 rfl ?_
    refine g_aload_n (pc := 3) dX6_dropNeedless_3 rfl trivial ?_
    refine g_getf (pc := 4) dX6_dropNeedless_4 fk_X6_19 (shK (shp_sI hS) rfl) (fv_obj (shR (shp_sI hS) rfl)) ?_
    refine g_getf (pc := 7) (v := .int _) dX6_dropNeedless_7 fk_X6_89 (shK (shp_sI hS) rfl) (fun _ => congrArg Value.int (((congrFun (sI_ne (Ne.symm hr)) 1).trans hz))) ?_
    refine g_icmp_ge (pc := 10) (tgt := 68) dX6_dropNeedless_10 rfl (fun _ => ?_) (fun h10 => absurd (nI_le (Nat.le_refl _) (by omega)) h10)
    refine g_return (pc := 68) dX6_dropNeedless_68 rfl ?_
    exact ⟨rfl, hs.symm⟩
end
end
-- 185.str
section
/-! String constants: a call on one -/
section
variable {l : Launch} {J : Jm} {F L MC MS : Nat} {Q : Res → Mem → Prop} {pc : Nat} {lv : List (Nat × Value)} {st : List Value} {k n : Nat} {M : Mem}
theorem g_invVT {ix nA F' L' mc' ms' : Nat} {J' : Jm} {As rest : List Value} {Q' : Res → Mem → Prop} {kS : Nat} {q0 : String × Nat × String × List Int32} (hd : decode J.2.1 pc = .ok (.invokevirtual ix, 3)) (hlk : LkV J.1.cls ix J' nA) (hn : As.length = nA) (hcat : (rest.map fun v => v.category).sum ≤ 8) (hF : F' + 1 ≤ F ∧ 8 + (J'.2.2.1 + 11) + L' ≤ L) (hE : Ev l J' F' L' mc' ms' (.retAddr (2 * kS + 2) :: As) M Q') (hst : st = As.reverse ++ .retAddr (2 * kS + 2) :: rest) (hk : strT[kS]? = some q0) (hq0 : "java/lang/String" = J'.1.cls) (hh : J.2.2.2.2 = [])
    (kk : ∀ v M', Q' (.inl v) M' → Go l J F L MC MS Q (pc + 3) lv (v.toList ++ rest) k n M') (kx : ∀ E M', Q' (.inr E) M' → Q (.inr E) M') : Go l J F L MC MS Q pc lv st (k + mc') (n + ms') M := by
  subst hst
  intro p e s m args below meth c G H locs cells slots ls hX hC hR hS hl hc hs
  have hts := hX.1.2.2.2.2
  have eS : cv G (.retAddr (2 * kS + 2)) = .ref (gSK G kS) := by show (if 2 * kS % 2 = 0 then _ else _) = _; rw [if_pos (by omega), show 2 * kS / 2 = kS by omega]
  have hrun := vx_runV (As := As.map (cv G)) (rest := rest.map (cv G)) (e := e) (below := below) (meth := meth) (g := F0 m pc ls ((As.reverse ++ .retAddr (2 * kS + 2) :: rest).map (cv G))) (locs := locs) (cells := cells) (slots := slots) (H := H) (b := gSK G kS) hX.1 (hE G) ⟨lk_B hlk.1 hts hF, hts _ hlk.2.1, hts _ hlk.2.2⟩
    ⟨blind G _ l M, by have := vk_recv (i := 0) (hC.2.2.2.2.2.1 kS _ hk).2 (by decide) hS; rw [hq0] at this; exact this, fun U hU hW => ⟨by rw [List.map_cons, eS], ctx_call hC hS hU hW, by rw [hU]; exact hR⟩⟩
    rfl (by rw [List.length_map]; exact hn) hl.1 (by show (List.map (cv G) _) = _; rw [List.map_append, List.map_reverse, List.map_cons, eS]) (by show 2 * 0 + _ ≤ 8; rw [cv_cats]; omega) hd ⟨by show cells + mc' ≤ MC; omega, by show slots + ms' ≤ MS; omega⟩
  refine vx_go (hrun) hS (fun v M' H1 locs1 hq hR1 hS1 => ?_) (fun E ce q9 M' H1 locs1 hq hR1 hS1 h5 h6 h7 => ?_)
  · have h1 := kk v M' hq p e s m args below meth c G H1 locs1 (cells + mc') (slots + ms') ls hX hC hR1 hS1 hl (by omega) (by omega)
    rw [List.map_append] at h1
    cases v <;> exact h1
  · exact vx_out (by rw [hX.2.2.2.1, hh]; intro x hx; cases hx) hX.2.2.1 h5 h6 h7 (fun t ht _ => ⟨⟨M', kx E M' hq, by rw [ht]; exact hR1⟩, hS1.F ht⟩) hS1.2.2 (by omega) (by omega)
theorem g_invVT_r {ix nA F' L' mc' ms' : Nat} {J' : Jm} {As rest : List Value} {kS : Nat} {q0 : String × Nat × String × List Int32} {k0 n0 : Nat} {v : Option Value} {M' : Mem} (hd : decode J.2.1 pc = .ok (.invokevirtual ix, 3)) (hst : st = As.reverse ++ .retAddr (2 * kS + 2) :: rest) (hE : EvR l J' F' L' mc' ms' (.retAddr (2 * kS + 2) :: As) M (.inl v) M') (hk9 : k0 = k + mc') (hn9 : n0 = n + ms') (hk : strT[kS]? = some q0) (hlk : LkV J.1.cls ix J' nA) (hn : As.length = nA) (hcat : (rest.map fun v => v.category).sum ≤ 8) (hF : F' + 1 ≤ F ∧ 8 + (J'.2.2.1 + 11) + L' ≤ L) (hh : J.2.2.2.2 = []) (kk : Go l J F L MC MS Q (pc + 3) lv (v.toList ++ rest) k n M') (hq0 : "java/lang/String" = J'.1.cls := by rfl) : Go l J F L MC MS Q pc lv st k0 n0 M := by
  subst hk9; subst hn9
  exact g_invVT hd hlk hn hcat hF hE hst hk hq0 hh (fun v1 M1 h => by obtain ⟨h1, h2⟩ := h; cases h1; subst h2; exact kk) (fun E M1 h => by cases h.1)
end
theorem i_shr0 (x : Int32) : x >>> (0 : Int32) = x := by
  apply Int32.toBitVec_inj.mp
  simp
theorem getD_mem {xs : List Int32} {i : Nat} (h : i < xs.length) : xs.getD i 0 ∈ xs := by
  rw [List.getD_eq_getElem?_getD, List.getElem?_eq_getElem h]; exact List.getElem_mem h
theorem str_ok : ∀ q ∈ strT, q.2.2.2.length < 256 ∧ ∀ x ∈ q.2.2.2, ((x &&& 255).toUInt32 % 65536).toInt32 = x ∧ narrow FieldType.char (.int x) = .int x := by decide +kernel
theorem str_len {kS : Nat} {q0 : String × Nat × String × List Int32} (hq9 : strT[kS]? = some q0) : q0.2.2.2.length < 256 := (str_ok q0 (List.mem_of_getElem? hq9)).1
theorem str_chr {kS i : Nat} {q0 : String × Nat × String × List Int32} (hq9 : strT[kS]? = some q0) (hi : i < q0.2.2.2.length) : ((q0.2.2.2.getD i 0 &&& 255).toUInt32 % 65536).toInt32 = q0.2.2.2.getD i 0 ∧ narrow FieldType.char (.int (q0.2.2.2.getD i 0)) = .int (q0.2.2.2.getD i 0) := (str_ok q0 (List.mem_of_getElem? hq9)).2 _ (getD_mem hi)
theorem isA_s (k : Nat) : isA (.retAddr (2 * k + 2)) := by show _ ≠ 1; omega
theorem isA_v (k : Nat) : isA (.retAddr (2 * k + 3)) := by show _ ≠ 1; omega
section
variable {l : Launch} {M : Mem} {kS : Nat} {q0 : String × Nat × String × List Int32}
theorem t_coder (hq9 : strT[kS]? = some q0) : EvR l jJ0_coder_7d493 0 0 0 0 [.retAddr (2 * kS + 2)] M (.inl (some (.int 0))) M := by
  refine ev_intro rfl (nb rfl) rfl ?_
  refine g_compact (pc := 0) dJ0_coder_7d493_0 wd_377 ?_
  refine g_if_eq (pc := 3) (tgt := 13) dJ0_coder_7d493_3 rfl (fun h3 => absurd h3 ((by decide))) (fun _ => ?_)
  refine g_aload_n (pc := 6) dJ0_coder_7d493_6 rfl (isA_s _) ?_
  refine g_strCoder (pc := 7) dJ0_coder_7d493_7 hq9 wd_1787 ?_
  refine g_goto (pc := 10) (tgt := 14) dJ0_coder_7d493_10 rfl ?_
  refine g_ireturn (pc := 14) dJ0_coder_7d493_14 rfl rfl ?_
  exact ⟨rfl, rfl⟩
theorem t_length (hq9 : strT[kS]? = some q0) : EvR l jJ0_length_8abf5 1 20 0 0 [.retAddr (2 * kS + 2)] M (.inl (some (.int (nI q0.2.2.2.length)))) M := by
  refine ev_intro rfl (nb rfl) rfl ?_
  refine g_aload_n (pc := 0) dJ0_length_8abf5_0 rfl (isA_s _) ?_
  refine g_strValue (pc := 1) dJ0_length_8abf5_1 hq9 wd_1786 ?_
  refine g_strLen (pc := 4) dJ0_length_8abf5_4 (hq9) ?_
  refine g_aload_n (pc := 5) dJ0_length_8abf5_5 rfl (isA_s _) ?_
  refine g_invVT_r (pc := 6) (As := []) dJ0_length_8abf5_6 rfl (t_coder hq9) rfl rfl (hq9) lk_J0_335 rfl (nb rfl) ⟨nb rfl, nb rfl⟩ rfl ?_
  refine g_ishr (pc := 9) dJ0_length_8abf5_9 ?_
  refine g_ireturn (pc := 10) dJ0_length_8abf5_10 rfl rfl ?_
  exact ⟨by rw [show (0 : Int32) &&& 31 = 0 by decide, i_shr0], rfl⟩
theorem t_isLatin1 (hq9 : strT[kS]? = some q0) : EvR l jJ0_isLatin1_aae02 0 0 0 0 [.retAddr (2 * kS + 2)] M (.inl (some (.int 1))) M := by
  refine ev_intro rfl (nb rfl) rfl ?_
  refine g_compact (pc := 0) dJ0_isLatin1_aae02_0 wd_377 ?_
  refine g_if_eq (pc := 3) (tgt := 17) dJ0_isLatin1_aae02_3 rfl (fun h3 => absurd h3 ((by decide))) (fun _ => ?_)
  refine g_aload_n (pc := 6) dJ0_isLatin1_aae02_6 rfl (isA_s _) ?_
  refine g_strCoder (pc := 7) dJ0_isLatin1_aae02_7 hq9 wd_1787 ?_
  refine g_if_ne (pc := 10) (tgt := 17) dJ0_isLatin1_aae02_10 rfl (fun h10 => absurd h10 ((by decide))) (fun _ => ?_)
  refine g_iconst (pc := 13) (v := 1) dJ0_isLatin1_aae02_13 rfl ?_
  refine g_goto (pc := 14) (tgt := 18) dJ0_isLatin1_aae02_14 rfl ?_
  refine g_ireturn (pc := 18) dJ0_isLatin1_aae02_18 rfl rfl ?_
  exact ⟨rfl, rfl⟩
theorem t_check3 {i len : Nat} (h : i < len) (hL : len < 2147483648) : EvR l jJ3_checkIndex_8e157 0 0 0 0 [.int (nI i), .int (nI len), .retAddr 1] M (.inl (some (.int (nI i)))) M := by
  refine ev_intro rfl (nb rfl) rfl ?_
  refine g_iload_n (pc := 0) dJ3_checkIndex_8e157_0 rfl ?_
  refine g_if_lt (pc := 1) (tgt := 9) dJ3_checkIndex_8e157_1 rfl (fun h1 => absurd h1 (nI_pos (by omega))) (fun _ => ?_)
  refine g_iload_n (pc := 4) dJ3_checkIndex_8e157_4 rfl ?_
  refine g_iload_n (pc := 5) dJ3_checkIndex_8e157_5 rfl ?_
  refine g_icmp_lt (pc := 6) (tgt := 16) dJ3_checkIndex_8e157_6 rfl (fun _ => ?_) (fun h6 => absurd (nI_gt h hL) h6)
  refine g_iload_n (pc := 16) dJ3_checkIndex_8e157_16 rfl ?_
  refine g_ireturn (pc := 17) dJ3_checkIndex_8e157_17 rfl rfl ?_
  exact ⟨rfl, rfl⟩
theorem t_check0 {i len : Nat} (h : i < len) (hL : len < 2147483648) : EvR l jJ0_checkIndex_df160 1 22 0 0 [.int (nI i), .int (nI len)] M (.inl none) M := by
  refine ev_intro rfl (nb rfl) rfl ?_
  refine g_iload_n (pc := 0) dJ0_checkIndex_df160_0 rfl ?_
  refine g_iload_n (pc := 1) dJ0_checkIndex_df160_1 rfl ?_
  refine g_formatter (pc := 2) dJ0_checkIndex_df160_2 wd_393 ?_
  refine g_invS_r (pc := 5) (As := [_, _, _]) dJ0_checkIndex_df160_5 rfl (t_check3 h hL) rfl rfl lk_J0_1059 rfl (nb rfl) ⟨nb rfl, nb rfl⟩ rfl ?_
  refine g_pop (pc := 8) dJ0_checkIndex_df160_8 rfl ?_
  refine g_return (pc := 9) dJ0_checkIndex_df160_9 rfl ?_
  exact ⟨rfl, rfl⟩
theorem t_charAt1 {i : Nat} (hq9 : strT[kS]? = some q0) (hi : i < q0.2.2.2.length) : EvR l jJ1_charAt_3b067 2 43 0 0 [.retAddr (2 * kS + 3), .int (nI i)] M (.inl (some (.int (q0.2.2.2.getD i 0)))) M := by
  have hL := str_len hq9
  obtain ⟨c1, c2⟩ := str_chr hq9 hi
  refine ev_intro rfl (nb rfl) rfl ?_
  refine g_iload_n (pc := 0) dJ1_charAt_3b067_0 rfl ?_
  refine g_aload_n (pc := 1) dJ1_charAt_3b067_1 rfl (isA_v _) ?_
  refine g_strLen (pc := 2) dJ1_charAt_3b067_2 (hq9) ?_
  refine g_invS_r (pc := 3) (As := [_, _]) dJ1_charAt_3b067_3 rfl (t_check0 hi (by omega)) rfl rfl lk_J1_9 rfl (nb rfl) ⟨nb rfl, nb rfl⟩ rfl ?_
  refine g_aload_n (pc := 6) dJ1_charAt_3b067_6 rfl (isA_v _) ?_
  refine g_iload_n (pc := 7) dJ1_charAt_3b067_7 rfl ?_
  refine g_strByte (pc := 8) dJ1_charAt_3b067_8 hq9 rfl hi (by omega) ?_
  generalize q0.2.2.2.getD i 0 = x at *
  refine g_sipush (pc := 9) (v := 255) dJ1_charAt_3b067_9 rfl ?_
  refine g_iand (pc := 12) dJ1_charAt_3b067_12 ?_
  refine g_i2c (pc := 13) dJ1_charAt_3b067_13 c1 ?_
  refine g_ireturn (pc := 14) dJ1_charAt_3b067_14 rfl c2 ?_
  exact ⟨rfl, rfl⟩
theorem t_charAt {i : Nat} (hq9 : strT[kS]? = some q0) (hi : i < q0.2.2.2.length) : EvR l jJ0_charAt_5068e 3 70 0 0 [.retAddr (2 * kS + 2), .int (nI i)] M (.inl (some (.int (q0.2.2.2.getD i 0)))) M := by
  obtain ⟨c1, c2⟩ := str_chr hq9 hi
  refine ev_intro rfl (nb rfl) rfl ?_
  refine g_aload_n (pc := 0) dJ0_charAt_5068e_0 rfl (isA_s _) ?_
  refine g_invVT_r (pc := 1) (As := []) dJ0_charAt_5068e_1 rfl (t_isLatin1 hq9) rfl rfl (hq9) lk_J0_492 rfl (nb rfl) ⟨nb rfl, nb rfl⟩ rfl ?_
  refine g_if_eq (pc := 4) (tgt := 16) dJ0_charAt_5068e_4 rfl (fun h4 => absurd h4 ((by decide))) (fun _ => ?_)
  refine g_aload_n (pc := 7) dJ0_charAt_5068e_7 rfl (isA_s _) ?_
  refine g_strValue (pc := 8) dJ0_charAt_5068e_8 hq9 wd_1786 ?_
  refine g_iload_n (pc := 11) dJ0_charAt_5068e_11 rfl ?_
  refine g_invS_r (pc := 12) (As := [_, _]) dJ0_charAt_5068e_12 rfl (t_charAt1 hq9 hi) rfl rfl lk_J0_495 rfl (nb rfl) ⟨nb rfl, nb rfl⟩ rfl ?_
  refine g_ireturn (pc := 15) dJ0_charAt_5068e_15 rfl c2 ?_
  exact ⟨rfl, rfl⟩
end
end
-- 19.reader
section
/-! the reader of a text -/
/-- position, start, statement, error, its position -/
abbrev RP : Type := Nat × Int32 × Int32 × Int32 × Int32
def rdF (g : Nat → Int32) (s : RP) : Nat → Int32 := fun j => if j = 2 then nI s.1 else if j = 3 then s.2.1 else if j = 4 then s.2.2.1 else if j = 5 then s.2.2.2.1 else if j = 6 then s.2.2.2.2 else g j
def rdM (M : Mem) (s : RP) : Mem := sI M 1 (rdF (mI M 1) s)
section
variable {M : Mem} {s : RP}
theorem rd_S (hS : Shp M) : Shp (rdM M s) := hS
theorem rd_1 : mI (rdM M s) 1 1 = mI M 1 1 := by simp [rdM, rdF, sI, mI, fun_set]
theorem rd_2 : mI (rdM M s) 1 2 = nI s.1 := by simp [rdM, rdF, sI, mI, fun_set]
theorem rd_3 : mI (rdM M s) 1 3 = s.2.1 := by simp [rdM, rdF, sI, mI, fun_set]
theorem rd_4 : mI (rdM M s) 1 4 = s.2.2.1 := by simp [rdM, rdF, sI, mI, fun_set]
theorem rd_5 : mI (rdM M s) 1 5 = s.2.2.2.1 := by simp [rdM, rdF, sI, mI, fun_set]
theorem rd_6 : mI (rdM M s) 1 6 = s.2.2.2.2 := by simp [rdM, rdF, sI, mI, fun_set]
theorem rd_ne {i : Nat} (h : i ≠ 1) : mI (rdM M s) i = mI M i := sI_ne h
theorem rd_p2 {v : Int32} {p : Nat} (h : v = nI p) : pI (rdM M s) 1 2 v = rdM M (p, s.2) := by
  subst h
  refine mem_extI rfl rfl rfl rfl rfl rfl (fun i => ?_)
  by_cases i1 : i = 1
  · subst i1; funext j; simp only [rdM, rdF, sI, mI, pI, fun_set, if_true]; split <;> simp [*]
  · simp [rdM, sI, mI, pI, fun_set, i1]
theorem rd_p3 {v : Int32} : pI (rdM M s) 1 3 v = rdM M (s.1, v, s.2.2) := by
  refine mem_extI rfl rfl rfl rfl rfl rfl (fun i => ?_)
  by_cases i1 : i = 1
  · subst i1; funext j; simp only [rdM, rdF, sI, mI, pI, fun_set, if_true]
    by_cases j3 : j = 3
    · subst j3; simp
    · simp [j3]
  · simp [rdM, sI, mI, pI, fun_set, i1]
theorem rd_p4 {v : Int32} : pI (rdM M s) 1 4 v = rdM M (s.1, s.2.1, v, s.2.2.2) := by
  refine mem_extI rfl rfl rfl rfl rfl rfl (fun i => ?_)
  by_cases i1 : i = 1
  · subst i1; funext j; simp only [rdM, rdF, sI, mI, pI, fun_set, if_true]
    by_cases j3 : j = 4
    · subst j3; simp
    · simp [j3]
  · simp [rdM, sI, mI, pI, fun_set, i1]
theorem rd_p56 {v w : Int32} : pI (pI (rdM M s) 1 5 v) 1 6 w = rdM M (s.1, s.2.1, s.2.2.1, v, w) := by
  refine mem_extI rfl rfl rfl rfl rfl rfl (fun i => ?_)
  by_cases i1 : i = 1
  · subst i1; funext j; simp only [rdM, rdF, sI, mI, pI, fun_set, if_true]
    by_cases j3 : j = 5
    · subst j3; simp
    · by_cases j4 : j = 6
      · subst j4; simp
      · simp [j3, j4]
  · simp [rdM, sI, mI, pI, fun_set, i1]
theorem rd_sI {i : Nat} {f : Nat → Int32} (h : i ≠ 1) : sI (rdM M s) i f = rdM (sI M i f) s := by
  unfold rdM
  rw [sI_swap (Ne.symm h), sI_ne (Ne.symm h)]
theorem rd_pI {i j : Nat} {v : Int32} (h : i ≠ 1) : pI (rdM M s) i j v = rdM (pI M i j v) s := by
  show sI (rdM M s) i (fun_set (mI (rdM M s) i) j v) = _
  rw [rd_sI h, rd_ne h]
end
section
variable {l : Launch} {M : Mem} {s : RP} {len : Nat}
def scan (c : Int32 → Bool) (T : Nat → Int32) : Nat → Nat → Nat
  | 0, p => p
  | d + 1, p => if c (T p) = true then scan c T d (p + 1) else p
theorem scan_le (c : Int32 → Bool) (T : Nat → Int32) : ∀ d p, p ≤ scan c T d p ∧ scan c T d p ≤ p + d
  | 0, p => ⟨Nat.le_refl _, Nat.le_refl _⟩
  | d + 1, p => by
    unfold scan
    split
    · have := scan_le c T d (p + 1); omega
    · omega
def isSp (v : Int32) : Bool := decide (v = 32)
def isLo (v : Int32) : Bool := !decide (v < 97) && !decide (122 < v)
def isDi (v : Int32) : Bool := !decide (v < 48) && !decide (57 < v)
def skipP (T : Nat → Int32) (len p : Nat) : Nat := scan isSp T (len - p) p
theorem skipP_le {T : Nat → Int32} {p : Nat} (h : p ≤ len) : p ≤ skipP T len p ∧ skipP T len p ≤ len := by have := scan_le isSp T (len - p) p; unfold skipP; omega
def skp (T : Nat → Int32) (len : Nat) (s : RP) : RP := (skipP T len s.1, s.2)
theorem r_skipSpaces (hS : Shp M) (hl : mI M 1 1 = nI len) (hL : len ≤ 600) (hp : s.1 ≤ len) : EvR l jX4_skipSpaces 0 0 0 0 [.ref 1] (rdM M s) (.inl none) (rdM M (skp (mI M 2) len s)) := by
  obtain ⟨S, hs⟩ : ∃ S, S = skp (mI M 2) len s := ⟨_, rfl⟩
  rw [← hs]
  refine ev_intro rfl (nb rfl) rfl ?_
  refine go_while (pc := 0) (σ := Nat) (fun p => p ≤ len ∧ (scan isSp (mI M 2) (len - p) p, s.2) = S) (fun p => len - p) (fun _ => [(0, .ref 1)]) (fun p => rdM M (p, s.2)) s.1 ⟨rfl, trivial⟩ rfl ⟨hp, hs.symm⟩ ?_
  rintro p ⟨h1, h2⟩ ih
  have hS1 : Shp (rdM M (p, s.2)) := rd_S hS
  have hr2 : mI (rdM M (p, s.2)) 1 2 = nI p := rd_2
  have hr1 : mI (rdM M (p, s.2)) 1 1 = nI len := rd_1.trans hl
  by_cases hi : p < len
  · rw [show len - p = (len - (p + 1)) + 1 by omega, scan] at h2
    refine g_aload_n (pc := 0) dX4_skipSpaces_0 rfl trivial ?_
    refine g_getf (pc := 1) (v := .int _) dX4_skipSpaces_1 fk_X4_21 (shK hS1 rfl) (fun _ => congrArg Value.int (hr2)) ?_
    refine g_aload_n (pc := 4) dX4_skipSpaces_4 rfl trivial ?_
    refine g_getf (pc := 5) (v := .int _) dX4_skipSpaces_5 fk_X4_17 (shK hS1 rfl) (fun _ => congrArg Value.int (hr1)) ?_
    refine g_icmp_ge (pc := 8) (tgt := 38) dX4_skipSpaces_8 rfl (fun h8 => absurd h8 (nI_ge hi (by omega))) (fun _ => ?_)
    refine g_aload_n (pc := 11) dX4_skipSpaces_11 rfl trivial ?_
    refine g_getf (pc := 12) dX4_skipSpaces_12 fk_X4_9 (shK hS1 rfl) (fv_arr (shR hS1 rfl)) ?_
    refine g_aload_n (pc := 15) dX4_skipSpaces_15 rfl trivial ?_
    refine g_getf (pc := 16) (v := .int _) dX4_skipSpaces_16 fk_X4_21 (shK hS1 rfl) (fun _ => congrArg Value.int (hr2)) ?_
    refine g_iaload (pc := 19) dX4_skipSpaces_19 (shK hS1 rfl) rfl (show p < 600 by omega) (nl rfl) ?_
    rw [rd_ne (by decide)]
    refine g_bipush (pc := 20) (v := 32) dX4_skipSpaces_20 rfl ?_
    refine g_icmp_ne (pc := 22) (tgt := 38) dX4_skipSpaces_22 rfl (fun h22 => ?_) (fun h22 => ?_)
    · rw [if_neg (by unfold isSp; simp [h22])] at h2
      refine g_return (pc := 38) dX4_skipSpaces_38 rfl ?_
      exact ⟨rfl, by rw [← h2]⟩
    · rw [if_pos (by unfold isSp; simpa using h22)] at h2
      refine g_aload_n (pc := 25) dX4_skipSpaces_25 rfl trivial ?_
      refine g_dup (pc := 26) dX4_skipSpaces_26 rfl ?_
      refine g_getf (pc := 27) (v := .int _) dX4_skipSpaces_27 fk_X4_21 (shK hS1 rfl) (fun _ => congrArg Value.int (hr2)) ?_
      refine g_iconst (pc := 30) (v := 1) dX4_skipSpaces_30 rfl ?_
      refine g_iadd (pc := 31) dX4_skipSpaces_31 ?_
      refine g_putI (pc := 32) dX4_skipSpaces_32 fp_X4_21 (shK hS1 rfl) ⟨rfl, rfl⟩ (fun _ _ _ _ => rfl) ?_
      refine go_cast (rd_p2 (nI_1 p)) ?_
      refine g_goto (pc := 35) (tgt := 0) dX4_skipSpaces_35 rfl ?_
      exact ih (p + 1) ⟨by omega, h2⟩ (by omega)
  · have hi' : p = len := by omega
    subst hi'
    refine g_aload_n (pc := 0) dX4_skipSpaces_0 rfl trivial ?_
    refine g_getf (pc := 1) (v := .int _) dX4_skipSpaces_1 fk_X4_21 (shK hS1 rfl) (fun _ => congrArg Value.int (hr2)) ?_
    refine g_aload_n (pc := 4) dX4_skipSpaces_4 rfl trivial ?_
    refine g_getf (pc := 5) (v := .int _) dX4_skipSpaces_5 fk_X4_17 (shK hS1 rfl) (fun _ => congrArg Value.int (hr1)) ?_
    refine g_icmp_ge (pc := 8) (tgt := 38) dX4_skipSpaces_8 rfl (fun _ => ?_) (fun h8 => absurd (nI_le (Nat.le_refl _) (by omega)) h8)
    refine g_return (pc := 38) dX4_skipSpaces_38 rfl ?_
    exact ⟨rfl, by rw [← h2, Nat.sub_self]; rfl⟩
def wordP (T : Nat → Int32) (len p : Nat) : Nat := scan isLo T (len - p) p
def twd (T : Nat → Int32) (len : Nat) (s : RP) : RP := (wordP T len (skipP T len s.1), nI (skipP T len s.1), s.2.2)
theorem wordP_le {T : Nat → Int32} {p : Nat} (h : p ≤ len) : p ≤ wordP T len p ∧ wordP T len p ≤ len := by have := scan_le isLo T (len - p) p; unfold wordP; omega
theorem r_takeWord (hS : Shp M) (hl : mI M 1 1 = nI len) (hL : len ≤ 600) (hp : s.1 ≤ len) : EvR l jX4_takeWord 1 20 0 0 [.ref 1] (rdM M s) (.inl none) (rdM M (twd (mI M 2) len s)) := by
  obtain ⟨S, hs⟩ : ∃ S, S = twd (mI M 2) len s := ⟨_, rfl⟩
  rw [← hs]
  have hsk := skipP_le (T := mI M 2) hp
  have hS0 : Shp (rdM M (skp (mI M 2) len s)) := rd_S hS
  have hr0 : mI (rdM M (skp (mI M 2) len s)) 1 2 = nI (skipP (mI M 2) len s.1) := rd_2
  have hS9 : Shp (rdM M s) := rd_S hS
  refine ev_intro rfl (nb rfl) rfl ?_
  refine g_aload_n (pc := 0) dX4_takeWord_0 rfl trivial ?_
  refine g_invV_r (pc := 1) (As := []) dX4_takeWord_1 rfl (r_skipSpaces hS hl hL hp) rfl rfl (shK hS9 rfl) rfl rfl lk_X4_133 rfl (nb rfl) ⟨nb rfl, nb rfl⟩ rfl ?_
  refine g_aload_n (pc := 4) dX4_takeWord_4 rfl trivial ?_
  refine g_aload_n (pc := 5) dX4_takeWord_5 rfl trivial ?_
  refine g_getf (pc := 6) (v := .int _) dX4_takeWord_6 fk_X4_21 (shK hS0 rfl) (fun _ => congrArg Value.int (hr0)) ?_
  refine g_putI (pc := 9) dX4_takeWord_9 fp_X4_70 (shK hS0 rfl) ⟨rfl, rfl⟩ (fun _ _ _ _ => rfl) ?_
  refine go_cast rd_p3 ?_
  refine go_while (pc := 12) (σ := Nat) (fun p => p ≤ len ∧ (scan isLo (mI M 2) (len - p) p, nI (skipP (mI M 2) len s.1), s.2.2) = S) (fun p => len - p) (fun _ => [(0, .ref 1)]) (fun p => rdM M (p, nI (skipP (mI M 2) len s.1), s.2.2)) (skipP (mI M 2) len s.1) ⟨rfl, trivial⟩ rfl ⟨hsk.2, hs.symm⟩ ?_
  generalize skipP (mI M 2) len s.1 = q at *
  rintro p ⟨h1, h2⟩ ih
  have hS1 : Shp (rdM M (p, nI q, s.2.2)) := rd_S hS
  have hr2 : mI (rdM M (p, nI q, s.2.2)) 1 2 = nI p := rd_2
  have hr1 : mI (rdM M (p, nI q, s.2.2)) 1 1 = nI len := rd_1.trans hl
  by_cases hi : p < len
  · rw [show len - p = (len - (p + 1)) + 1 by omega, scan] at h2
    refine g_aload_n (pc := 12) dX4_takeWord_12 rfl trivial ?_
    refine g_getf (pc := 13) (v := .int _) dX4_takeWord_13 fk_X4_21 (shK hS1 rfl) (fun _ => congrArg Value.int (hr2)) ?_
    refine g_aload_n (pc := 16) dX4_takeWord_16 rfl trivial ?_
    refine g_getf (pc := 17) (v := .int _) dX4_takeWord_17 fk_X4_17 (shK hS1 rfl) (fun _ => congrArg Value.int (hr1)) ?_
    refine g_icmp_ge (pc := 20) (tgt := 64) dX4_takeWord_20 rfl (fun h20 => absurd h20 (nI_ge hi (by omega))) (fun _ => ?_)
    refine g_aload_n (pc := 23) dX4_takeWord_23 rfl trivial ?_
    refine g_getf (pc := 24) dX4_takeWord_24 fk_X4_9 (shK hS1 rfl) (fv_arr (shR hS1 rfl)) ?_
    refine g_aload_n (pc := 27) dX4_takeWord_27 rfl trivial ?_
    refine g_getf (pc := 28) (v := .int _) dX4_takeWord_28 fk_X4_21 (shK hS1 rfl) (fun _ => congrArg Value.int (hr2)) ?_
    refine g_iaload (pc := 31) dX4_takeWord_31 (shK hS1 rfl) rfl (show p < 600 by omega) (nl rfl) ?_
    rw [rd_ne (by decide)]
    refine g_bipush (pc := 32) (v := 97) dX4_takeWord_32 rfl ?_
    refine g_icmp_lt (pc := 34) (tgt := 64) dX4_takeWord_34 rfl (fun h34 => ?_) (fun h34 => ?_)
    · rw [if_neg (by unfold isLo; simp [h34])] at h2
      refine g_return (pc := 64) dX4_takeWord_64 rfl ?_
      exact ⟨rfl, by rw [← h2]⟩
    · refine g_aload_n (pc := 37) dX4_takeWord_37 rfl trivial ?_
      refine g_getf (pc := 38) dX4_takeWord_38 fk_X4_9 (shK hS1 rfl) (fv_arr (shR hS1 rfl)) ?_
      refine g_aload_n (pc := 41) dX4_takeWord_41 rfl trivial ?_
      refine g_getf (pc := 42) (v := .int _) dX4_takeWord_42 fk_X4_21 (shK hS1 rfl) (fun _ => congrArg Value.int (hr2)) ?_
      refine g_iaload (pc := 45) dX4_takeWord_45 (shK hS1 rfl) rfl (show p < 600 by omega) (nl rfl) ?_
      rw [rd_ne (by decide)]
      refine g_bipush (pc := 46) (v := 122) dX4_takeWord_46 rfl ?_
      refine g_icmp_gt (pc := 48) (tgt := 64) dX4_takeWord_48 rfl (fun h48 => ?_) (fun h48 => ?_)
      · rw [if_neg (by unfold isLo; simp [h48])] at h2
        refine g_return (pc := 64) dX4_takeWord_64 rfl ?_
        exact ⟨rfl, by rw [← h2]⟩
      · rw [if_pos (by unfold isLo; simp [h34, h48])] at h2
        refine g_aload_n (pc := 51) dX4_takeWord_51 rfl trivial ?_
        refine g_dup (pc := 52) dX4_takeWord_52 rfl ?_
        refine g_getf (pc := 53) (v := .int _) dX4_takeWord_53 fk_X4_21 (shK hS1 rfl) (fun _ => congrArg Value.int (hr2)) ?_
        refine g_iconst (pc := 56) (v := 1) dX4_takeWord_56 rfl ?_
        refine g_iadd (pc := 57) dX4_takeWord_57 ?_
        refine g_putI (pc := 58) dX4_takeWord_58 fp_X4_21 (shK hS1 rfl) ⟨rfl, rfl⟩ (fun _ _ _ _ => rfl) ?_
        refine go_cast (rd_p2 (nI_1 p)) ?_
        refine g_goto (pc := 61) (tgt := 12) dX4_takeWord_61 rfl ?_
        exact ih (p + 1) ⟨by omega, h2⟩ (by omega)
  · have hi' : p = len := by omega
    subst hi'
    refine g_aload_n (pc := 12) dX4_takeWord_12 rfl trivial ?_
    refine g_getf (pc := 13) (v := .int _) dX4_takeWord_13 fk_X4_21 (shK hS1 rfl) (fun _ => congrArg Value.int (hr2)) ?_
    refine g_aload_n (pc := 16) dX4_takeWord_16 rfl trivial ?_
    refine g_getf (pc := 17) (v := .int _) dX4_takeWord_17 fk_X4_17 (shK hS1 rfl) (fun _ => congrArg Value.int (hr1)) ?_
    refine g_icmp_ge (pc := 20) (tgt := 64) dX4_takeWord_20 rfl (fun _ => ?_) (fun h20 => absurd (nI_le (Nat.le_refl _) (by omega)) h20)
    refine g_return (pc := 64) dX4_takeWord_64 rfl ?_
    exact ⟨rfl, by rw [← h2, Nat.sub_self]; rfl⟩
end
end
-- 191.reader
section
section
variable {l : Launch} {M : Mem} {s : RP} {len : Nat}
def rFail (k a : Int32) (s : RP) : RP := if s.2.2.2.1 = 0 then (s.1, s.2.1, s.2.2.1, k, a) else s
theorem rFail_1 (k a : Int32) (s : RP) : (rFail k a s).1 = s.1 ∧ (rFail k a s).2.1 = s.2.1 := by unfold rFail; split <;> exact ⟨rfl, rfl⟩
theorem r_fail {k a : Int32} (hS : Shp M) : EvR l jX4_fail 0 0 0 0 [.ref 1, .int k, .int a] (rdM M s) (.inl none) (rdM M (rFail k a s)) := by
  have hS1 : Shp (rdM M s) := rd_S hS
  have h5 : mI (rdM M s) 1 5 = s.2.2.2.1 := rd_5
  refine ev_intro rfl (nb rfl) rfl ?_
  unfold rFail
  refine g_aload_n (pc := 0) dX4_fail_0 rfl trivial ?_
  refine g_getf (pc := 1) (v := .int _) dX4_fail_1 fk_X4_27 (shK hS1 rfl) (fun _ => congrArg Value.int (h5)) ?_
  refine g_if_ne (pc := 4) (tgt := 17) dX4_fail_4 rfl (fun h4 => ?_) (fun h4 => ?_)
  · rw [if_neg h4]
    refine g_return (pc := 17) dX4_fail_17 rfl ?_
    exact ⟨rfl, rfl⟩
  · rw [if_pos (Decidable.not_not.mp h4)]
    refine g_aload_n (pc := 7) dX4_fail_7 rfl trivial ?_
    refine g_iload_n (pc := 8) dX4_fail_8 rfl ?_
    refine g_putI (pc := 9) dX4_fail_9 fp_X4_27 (shK hS1 rfl) ⟨rfl, rfl⟩ (fun _ _ _ _ => rfl) ?_
    refine g_aload_n (pc := 12) dX4_fail_12 rfl trivial ?_
    refine g_iload_n (pc := 13) dX4_fail_13 rfl ?_
    refine g_putI (pc := 14) dX4_fail_14 fp_X4_30 (shK hS1 rfl) ⟨rfl, rfl⟩ (fun _ _ _ _ => rfl) ?_
    refine go_cast rd_p56 ?_
    refine g_return (pc := 17) dX4_fail_17 rfl ?_
    exact ⟨rfl, rfl⟩
def digP (T : Nat → Int32) (len p : Nat) : Nat := scan isDi T (len - p) p
theorem digP_le {T : Nat → Int32} {p : Nat} (h : p ≤ len) : p ≤ digP T len p ∧ digP T len p ≤ len := by have := scan_le isDi T (len - p) p; unfold digP; omega
def tdg0 (T : Nat → Int32) (len : Nat) (s : RP) : RP := (digP T len (skipP T len s.1), nI (skipP T len s.1), s.2.2)
def tdg (T : Nat → Int32) (len : Nat) (s : RP) : RP := if skipP T len s.1 = digP T len (skipP T len s.1) then rFail 1 (nI (skipP T len s.1)) (tdg0 T len s) else tdg0 T len s
theorem tdg_1 (T : Nat → Int32) (len : Nat) (s : RP) : (tdg T len s).1 = digP T len (skipP T len s.1) ∧ (tdg T len s).2.1 = nI (skipP T len s.1) := by
  unfold tdg; split
  · exact rFail_1 _ _ _
  · exact ⟨rfl, rfl⟩
theorem r_takeDigits (hS : Shp M) (hl : mI M 1 1 = nI len) (hL : len ≤ 600) (hp : s.1 ≤ len) : EvR l jX4_takeDigits 1 30 0 0 [.ref 1] (rdM M s) (.inl none) (rdM M (tdg (mI M 2) len s)) := by
  obtain ⟨S, hs⟩ : ∃ S, S = tdg (mI M 2) len s := ⟨_, rfl⟩
  obtain ⟨S0, hs0⟩ : ∃ S0, S0 = digP (mI M 2) len (skipP (mI M 2) len s.1) := ⟨_, rfl⟩
  rw [← hs]
  unfold tdg tdg0 at hs
  rw [← hs0] at hs
  unfold digP at hs0
  have hsk := skipP_le (T := mI M 2) hp
  have hS0 : Shp (rdM M (skp (mI M 2) len s)) := rd_S hS
  have hr0 : mI (rdM M (skp (mI M 2) len s)) 1 2 = nI (skipP (mI M 2) len s.1) := rd_2
  have hS9 : Shp (rdM M s) := rd_S hS
  refine ev_intro rfl (nb rfl) rfl ?_
  refine g_aload_n (pc := 0) dX4_takeDigits_0 rfl trivial ?_
  refine g_invV_r (pc := 1) (As := []) dX4_takeDigits_1 rfl (r_skipSpaces hS hl hL hp) rfl rfl (shK hS9 rfl) rfl rfl lk_X4_133 rfl (nb rfl) ⟨nb rfl, nb rfl⟩ rfl ?_
  refine g_aload_n (pc := 4) dX4_takeDigits_4 rfl trivial ?_
  refine g_aload_n (pc := 5) dX4_takeDigits_5 rfl trivial ?_
  refine g_getf (pc := 6) (v := .int _) dX4_takeDigits_6 fk_X4_21 (shK hS0 rfl) (fun _ => congrArg Value.int (hr0)) ?_
  refine g_putI (pc := 9) dX4_takeDigits_9 fp_X4_70 (shK hS0 rfl) ⟨rfl, rfl⟩ (fun _ _ _ _ => rfl) ?_
  refine go_cast rd_p3 ?_
  refine go_while (pc := 12) (σ := Nat) (fun p => p ≤ len ∧ scan isDi (mI M 2) (len - p) p = S0) (fun p => len - p) (fun _ => [(0, .ref 1)]) (fun p => rdM M (p, nI (skipP (mI M 2) len s.1), s.2.2)) (skipP (mI M 2) len s.1) ⟨rfl, trivial⟩ rfl ⟨hsk.2, hs0.symm⟩ ?_
  generalize skipP (mI M 2) len s.1 = q at *
  have hdone : ∀ p, p = S0 → p ≤ len → Go l jX4_takeDigits 1 30 0 0 (fun r' M9 => r' = .inl none ∧ M9 = rdM M S) 64 [(0, .ref 1)] [] 0 0 (rdM M (p, nI q, s.2.2)) := by
    intro p hp1 hp2
    subst hp1
    have hS1 : Shp (rdM M (p, nI q, s.2.2)) := rd_S hS
    have hr2 : mI (rdM M (p, nI q, s.2.2)) 1 2 = nI p := rd_2
    have hr3 : mI (rdM M (p, nI q, s.2.2)) 1 3 = nI q := rd_3
    rw [hs]
    refine g_aload_n (pc := 64) dX4_takeDigits_64 rfl trivial ?_
    refine g_getf (pc := 65) (v := .int _) dX4_takeDigits_65 fk_X4_70 (shK hS1 rfl) (fun _ => congrArg Value.int (hr3)) ?_
    refine g_aload_n (pc := 68) dX4_takeDigits_68 rfl trivial ?_
    refine g_getf (pc := 69) (v := .int _) dX4_takeDigits_69 fk_X4_21 (shK hS1 rfl) (fun _ => congrArg Value.int (hr2)) ?_
    refine g_icmp_ne (pc := 72) (tgt := 84) dX4_takeDigits_72 rfl (fun h72 => ?_) (fun h72 => ?_)
    · rw [if_neg (fun h => h72 (by rw [h]))]
      refine g_return (pc := 84) dX4_takeDigits_84 rfl ?_
      exact ⟨rfl, rfl⟩
    · rw [if_pos ((nI_eq (by omega) (by omega)).mp (Decidable.not_not.mp h72))]
      refine g_aload_n (pc := 75) dX4_takeDigits_75 rfl trivial ?_
      refine g_iconst (pc := 76) (v := 1) dX4_takeDigits_76 rfl ?_
      refine g_aload_n (pc := 77) dX4_takeDigits_77 rfl trivial ?_
      refine g_getf (pc := 78) (v := .int _) dX4_takeDigits_78 fk_X4_70 (shK hS1 rfl) (fun _ => congrArg Value.int (hr3)) ?_
      refine g_invV_r (pc := 81) (As := [_, _]) dX4_takeDigits_81 rfl (r_fail hS) rfl rfl (shK hS1 rfl) rfl rfl lk_X4_73 rfl (nb rfl) ⟨nb rfl, nb rfl⟩ rfl ?_
      refine g_return (pc := 84) dX4_takeDigits_84 rfl ?_
      exact ⟨rfl, rfl⟩
  rintro p ⟨h1, h2⟩ ih
  have hS1 : Shp (rdM M (p, nI q, s.2.2)) := rd_S hS
  have hr2 : mI (rdM M (p, nI q, s.2.2)) 1 2 = nI p := rd_2
  have hr1 : mI (rdM M (p, nI q, s.2.2)) 1 1 = nI len := rd_1.trans hl
  by_cases hi : p < len
  · rw [show len - p = (len - (p + 1)) + 1 by omega, scan] at h2
    refine g_aload_n (pc := 12) dX4_takeDigits_12 rfl trivial ?_
    refine g_getf (pc := 13) (v := .int _) dX4_takeDigits_13 fk_X4_21 (shK hS1 rfl) (fun _ => congrArg Value.int (hr2)) ?_
    refine g_aload_n (pc := 16) dX4_takeDigits_16 rfl trivial ?_
    refine g_getf (pc := 17) (v := .int _) dX4_takeDigits_17 fk_X4_17 (shK hS1 rfl) (fun _ => congrArg Value.int (hr1)) ?_
    refine g_icmp_ge (pc := 20) (tgt := 64) dX4_takeDigits_20 rfl (fun h20 => absurd h20 (nI_ge hi (by omega))) (fun _ => ?_)
    refine g_aload_n (pc := 23) dX4_takeDigits_23 rfl trivial ?_
    refine g_getf (pc := 24) dX4_takeDigits_24 fk_X4_9 (shK hS1 rfl) (fv_arr (shR hS1 rfl)) ?_
    refine g_aload_n (pc := 27) dX4_takeDigits_27 rfl trivial ?_
    refine g_getf (pc := 28) (v := .int _) dX4_takeDigits_28 fk_X4_21 (shK hS1 rfl) (fun _ => congrArg Value.int (hr2)) ?_
    refine g_iaload (pc := 31) dX4_takeDigits_31 (shK hS1 rfl) rfl (show p < 600 by omega) (nl rfl) ?_
    rw [rd_ne (by decide)]
    refine g_bipush (pc := 32) (v := 48) dX4_takeDigits_32 rfl ?_
    refine g_icmp_lt (pc := 34) (tgt := 64) dX4_takeDigits_34 rfl (fun h34 => ?_) (fun h34 => ?_)
    · rw [if_neg (by unfold isDi; simp [h34])] at h2
      exact hdone p h2 h1
    · refine g_aload_n (pc := 37) dX4_takeDigits_37 rfl trivial ?_
      refine g_getf (pc := 38) dX4_takeDigits_38 fk_X4_9 (shK hS1 rfl) (fv_arr (shR hS1 rfl)) ?_
      refine g_aload_n (pc := 41) dX4_takeDigits_41 rfl trivial ?_
      refine g_getf (pc := 42) (v := .int _) dX4_takeDigits_42 fk_X4_21 (shK hS1 rfl) (fun _ => congrArg Value.int (hr2)) ?_
      refine g_iaload (pc := 45) dX4_takeDigits_45 (shK hS1 rfl) rfl (show p < 600 by omega) (nl rfl) ?_
      rw [rd_ne (by decide)]
      refine g_bipush (pc := 46) (v := 57) dX4_takeDigits_46 rfl ?_
      refine g_icmp_gt (pc := 48) (tgt := 64) dX4_takeDigits_48 rfl (fun h48 => ?_) (fun h48 => ?_)
      · rw [if_neg (by unfold isDi; simp [h48])] at h2
        exact hdone p h2 h1
      · rw [if_pos (by unfold isDi; simp [h34, h48])] at h2
        refine g_aload_n (pc := 51) dX4_takeDigits_51 rfl trivial ?_
        refine g_dup (pc := 52) dX4_takeDigits_52 rfl ?_
        refine g_getf (pc := 53) (v := .int _) dX4_takeDigits_53 fk_X4_21 (shK hS1 rfl) (fun _ => congrArg Value.int (hr2)) ?_
        refine g_iconst (pc := 56) (v := 1) dX4_takeDigits_56 rfl ?_
        refine g_iadd (pc := 57) dX4_takeDigits_57 ?_
        refine g_putI (pc := 58) dX4_takeDigits_58 fp_X4_21 (shK hS1 rfl) ⟨rfl, rfl⟩ (fun _ _ _ _ => rfl) ?_
        refine go_cast (rd_p2 (nI_1 p)) ?_
        refine g_goto (pc := 61) (tgt := 12) dX4_takeDigits_61 rfl ?_
        exact ih (p + 1) ⟨by omega, h2⟩ (by omega)
  · have hi' : p = len := by omega
    subst hi'
    refine g_aload_n (pc := 12) dX4_takeDigits_12 rfl trivial ?_
    refine g_getf (pc := 13) (v := .int _) dX4_takeDigits_13 fk_X4_21 (shK hS1 rfl) (fun _ => congrArg Value.int (hr2)) ?_
    refine g_aload_n (pc := 16) dX4_takeDigits_16 rfl trivial ?_
    refine g_getf (pc := 17) (v := .int _) dX4_takeDigits_17 fk_X4_17 (shK hS1 rfl) (fun _ => congrArg Value.int (hr1)) ?_
    refine g_icmp_ge (pc := 20) (tgt := 64) dX4_takeDigits_20 rfl (fun _ => ?_) (fun h20 => absurd (nI_le (Nat.le_refl _) (by omega)) h20)
    exact hdone p (by rw [← h2, Nat.sub_self]; rfl) h1
def least9 (x y : Int32) : Int32 := if y < x then y else x
def valF (T : Nat → Int32) (q : Nat) : Nat → Int32
  | 0 => 0
  | k + 1 => least9 (10 * valF T q k + T (q + k) - 48) 1000
def numV (T : Nat → Int32) (len p : Nat) : Int32 := valF T (skipP T len p) (digP T len (skipP T len p) - skipP T len p)
def tnm (T : Nat → Int32) (len : Nat) (lo hi : Int32) (s : RP) : RP := if numV T len s.1 < lo ∨ hi < numV T len s.1 then rFail 2 (nI (skipP T len s.1)) (tdg T len s) else tdg T len s
def tnv (T : Nat → Int32) (len : Nat) (lo hi : Int32) (s : RP) : Int32 := if (tnm T len lo hi s).2.2.2.1 = 0 then numV T len s.1 else lo
theorem tnm_1 (T : Nat → Int32) (len : Nat) (lo hi : Int32) (s : RP) : (tnm T len lo hi s).1 = digP T len (skipP T len s.1) ∧ (tnm T len lo hi s).2.1 = nI (skipP T len s.1) := by
  unfold tnm; split
  · rw [(rFail_1 _ _ _).1, (rFail_1 _ _ _).2]; exact tdg_1 T len s
  · exact tdg_1 T len s
theorem tnv_in (T : Nat → Int32) (len : Nat) (lo hi : Int32) (s : RP) (h : ¬ hi < lo) : ¬ tnv T len lo hi s < lo ∧ ¬ hi < tnv T len lo hi s := by
  unfold tnv
  split
  · rename_i h0
    unfold tnm at h0
    split at h0
    · unfold rFail at h0
      split at h0
      · exact absurd h0 (show ¬ (2 : Int32) = 0 by decide)
      · contradiction
    · rename_i h1
      exact ⟨fun h2 => h1 (Or.inl h2), fun h2 => h1 (Or.inr h2)⟩
  · exact ⟨Int32.lt_irrefl, h⟩
theorem r_takeNumber {lo hi : Int32} (hS : Shp M) (hl : mI M 1 1 = nI len) (hL : len ≤ 600) (hp : s.1 ≤ len) : EvR l jX4_takeNumber 2 60 0 0 [.ref 1, .int lo, .int hi] (rdM M s) (.inl (some (.int (tnv (mI M 2) len lo hi s)))) (rdM M (tnm (mI M 2) len lo hi s)) := by
  have hsk := skipP_le (T := mI M 2) hp
  have hdg := digP_le (T := mI M 2) hsk.2
  have hS9 : Shp (rdM M s) := rd_S hS
  have hS1 : Shp (rdM M (tdg (mI M 2) len s)) := rd_S hS
  have hr2 : mI (rdM M (tdg (mI M 2) len s)) 1 2 = nI (digP (mI M 2) len (skipP (mI M 2) len s.1)) := by rw [rd_2, (tdg_1 _ _ _).1]
  have hr3 : mI (rdM M (tdg (mI M 2) len s)) 1 3 = nI (skipP (mI M 2) len s.1) := by rw [rd_3, (tdg_1 _ _ _).2]
  have er : mI (rdM M (tdg (mI M 2) len s)) 2 = mI M 2 := rd_ne (by decide)
  have hfin : ∀ s1 v, s1 = tnm (mI M 2) len lo hi s → (if s1.2.2.2.1 = 0 then v else lo) = tnv (mI M 2) len lo hi s → Go l jX4_takeNumber 2 60 0 0 (fun r' M9 => r' = .inl (some (.int (tnv (mI M 2) len lo hi s))) ∧ M9 = rdM M (tnm (mI M 2) len lo hi s)) 68 [(0, .ref 1), (1, .int lo), (2, .int hi), (3, .int v)] [] 0 0 (rdM M s1) := by
    intro s1 v e1 e2
    have hS2 : Shp (rdM M s1) := rd_S hS
    have hr5 : mI (rdM M s1) 1 5 = s1.2.2.2.1 := rd_5
    rw [← e1, ← e2]
    refine g_aload_n (pc := 68) dX4_takeNumber_68 rfl trivial ?_
    refine g_getf (pc := 69) (v := .int _) dX4_takeNumber_69 fk_X4_27 (shK hS2 rfl) (fun _ => congrArg Value.int (hr5)) ?_
    refine g_if_ne (pc := 72) (tgt := 79) dX4_takeNumber_72 rfl (fun h72 => ?_) (fun h72 => ?_)
    · rw [if_neg h72]
      refine g_iload_n (pc := 79) dX4_takeNumber_79 rfl ?_
      refine g_ireturn (pc := 80) dX4_takeNumber_80 rfl rfl ?_
      exact ⟨rfl, rfl⟩
    · rw [if_pos (Decidable.not_not.mp h72)]
      refine g_iload_n (pc := 75) dX4_takeNumber_75 rfl ?_
      refine g_goto (pc := 76) (tgt := 80) dX4_takeNumber_76 rfl ?_
      refine g_ireturn (pc := 80) dX4_takeNumber_80 rfl rfl ?_
      exact ⟨rfl, rfl⟩
  have ev : valF (mI M 2) (skipP (mI M 2) len s.1) (digP (mI M 2) len (skipP (mI M 2) len s.1) - skipP (mI M 2) len s.1) = numV (mI M 2) len s.1 := rfl
  have e1 : tnm (mI M 2) len lo hi s = if numV (mI M 2) len s.1 < lo ∨ hi < numV (mI M 2) len s.1 then rFail 2 (nI (skipP (mI M 2) len s.1)) (tdg (mI M 2) len s) else tdg (mI M 2) len s := rfl
  have e2 : tnv (mI M 2) len lo hi s = if (tnm (mI M 2) len lo hi s).2.2.2.1 = 0 then numV (mI M 2) len s.1 else lo := rfl
  refine ev_intro rfl (nb rfl) rfl ?_
  generalize numV (mI M 2) len s.1 = V at *
  generalize tnv (mI M 2) len lo hi s = V9 at *
  generalize tnm (mI M 2) len lo hi s = s9 at *
  refine g_aload_n (pc := 0) dX4_takeNumber_0 rfl trivial ?_
  refine g_invV_r (pc := 1) (As := []) dX4_takeNumber_1 rfl (r_takeDigits hS hl hL hp) rfl rfl (shK hS9 rfl) rfl rfl lk_X4_136 rfl (nb rfl) ⟨nb rfl, nb rfl⟩ rfl ?_
  refine g_iconst (pc := 4) (v := 0) dX4_takeNumber_4 rfl ?_
  refine g_istore_n (pc := 5) (lv' := [(0, _), (1, _), (2, _), (3, _)]) dX4_takeNumber_5 (nl rfl) rfl ?_
  refine g_aload_n (pc := 6) dX4_takeNumber_6 rfl trivial ?_
  refine g_getf (pc := 7) (v := .int _) dX4_takeNumber_7 fk_X4_70 (shK hS1 rfl) (fun _ => congrArg Value.int (hr3)) ?_
  refine g_istore (pc := 10) (lv' := [(0, _), (1, _), (2, _), (3, _), (4, _)]) dX4_takeNumber_10 (nl rfl) rfl ?_
  refine go_while (pc := 12) (σ := Nat) (fun k => k ≤ digP (mI M 2) len (skipP (mI M 2) len s.1) - skipP (mI M 2) len s.1) (fun k => digP (mI M 2) len (skipP (mI M 2) len s.1) - skipP (mI M 2) len s.1 - k) (fun k => [(0, .ref 1), (1, .int lo), (2, .int hi), (3, .int (valF (mI M 2) (skipP (mI M 2) len s.1) k)), (4, .int (nI (skipP (mI M 2) len s.1 + k)))]) (fun _ => rdM M (tdg (mI M 2) len s)) 0 ⟨rfl, rfl, rfl, rfl, rfl, trivial⟩ rfl (Nat.zero_le _) ?_
  generalize digP (mI M 2) len (skipP (mI M 2) len s.1) = p at *
  generalize skipP (mI M 2) len s.1 = q at *
  generalize tdg (mI M 2) len s = s1 at *
  intro k h1 ih
  by_cases hi : q + k < p
  · have ih := ih (k + 1) (by omega) (by omega)
    rw [valF] at ih
    refine g_iload (pc := 12) dX4_takeNumber_12 rfl ?_
    refine g_aload_n (pc := 14) dX4_takeNumber_14 rfl trivial ?_
    refine g_getf (pc := 15) (v := .int _) dX4_takeNumber_15 fk_X4_21 (shK hS1 rfl) (fun _ => congrArg Value.int (hr2)) ?_
    refine g_icmp_ge (pc := 18) (tgt := 49) dX4_takeNumber_18 rfl (fun h18 => absurd h18 (nI_ge hi (by omega))) (fun _ => ?_)
    refine g_bipush (pc := 21) (v := 10) dX4_takeNumber_21 rfl ?_
    refine g_iload_n (pc := 23) dX4_takeNumber_23 rfl ?_
    refine g_imul (pc := 24) dX4_takeNumber_24 ?_
    refine g_aload_n (pc := 25) dX4_takeNumber_25 rfl trivial ?_
    refine g_getf (pc := 26) dX4_takeNumber_26 fk_X4_9 (shK hS1 rfl) (fv_arr (shR hS1 rfl)) ?_
    refine g_iload (pc := 29) dX4_takeNumber_29 rfl ?_
    refine g_iaload (pc := 31) dX4_takeNumber_31 (shK hS1 rfl) rfl (show q + k < 600 by omega) (nl rfl) ?_
    rw [er]
    refine g_iadd (pc := 32) dX4_takeNumber_32 ?_
    refine g_bipush (pc := 33) (v := 48) dX4_takeNumber_33 rfl ?_
    refine g_isub (pc := 35) dX4_takeNumber_35 ?_
    refine g_sipush (pc := 36) (v := 1000) dX4_takeNumber_36 rfl ?_
    refine g_mmin (pc := 39) dX4_takeNumber_39 wd_429 wd_430 wd_107 wd_431 (nb rfl) (nb rfl) ?_
    refine g_istore_n (pc := 42) (lv' := [(0, _), (1, _), (2, _), (3, _), (4, _)]) dX4_takeNumber_42 (nl rfl) rfl ?_
    refine g_iinc (pc := 43) (lv' := [(0, _), (1, _), (2, _), (3, _), (4, _)]) dX4_takeNumber_43 rfl (nI_1 _) (nl rfl) rfl ?_
    refine g_goto (pc := 46) (tgt := 12) dX4_takeNumber_46 rfl ?_
    exact ih
  · have hk : k = p - q := by omega
    subst hk
    rw [ev]
    refine g_iload (pc := 12) dX4_takeNumber_12 rfl ?_
    refine g_aload_n (pc := 14) dX4_takeNumber_14 rfl trivial ?_
    refine g_getf (pc := 15) (v := .int _) dX4_takeNumber_15 fk_X4_21 (shK hS1 rfl) (fun _ => congrArg Value.int (hr2)) ?_
    refine g_icmp_ge (pc := 18) (tgt := 49) dX4_takeNumber_18 rfl (fun _ => ?_) (fun h18 => absurd (nI_le (by omega) (by omega)) h18)
    refine g_iload_n (pc := 49) dX4_takeNumber_49 rfl ?_
    refine g_iload_n (pc := 50) dX4_takeNumber_50 rfl ?_
    refine g_icmp_lt (pc := 51) (tgt := 59) dX4_takeNumber_51 rfl (fun h51 => ?_) (fun h51 => ?_)
    · rw [if_pos (Or.inl h51)] at e1
      refine g_aload_n (pc := 59) dX4_takeNumber_59 rfl trivial ?_
      refine g_iconst (pc := 60) (v := 2) dX4_takeNumber_60 rfl ?_
      refine g_aload_n (pc := 61) dX4_takeNumber_61 rfl trivial ?_
      refine g_getf (pc := 62) (v := .int _) dX4_takeNumber_62 fk_X4_70 (shK hS1 rfl) (fun _ => congrArg Value.int (hr3)) ?_
      refine g_invV_r (pc := 65) (As := [_, _]) dX4_takeNumber_65 rfl (r_fail hS) rfl rfl (shK hS1 rfl) rfl rfl lk_X4_73 rfl (nb rfl) ⟨nb rfl, nb rfl⟩ rfl ?_
      exact g_sub (lv' := [(0, _), (1, _), (2, _), (3, _)]) ⟨rfl, rfl, rfl, rfl, trivial⟩ (hfin _ _ e1.symm (by rw [e2, e1]))
    · refine g_iload_n (pc := 54) dX4_takeNumber_54 rfl ?_
      refine g_iload_n (pc := 55) dX4_takeNumber_55 rfl ?_
      refine g_icmp_le (pc := 56) (tgt := 68) dX4_takeNumber_56 rfl (fun h56 => ?_) (fun h56 => ?_)
      · rw [if_neg (not_or.mpr ⟨h51, Int32.not_lt.mpr h56⟩)] at e1
        exact g_sub (lv' := [(0, _), (1, _), (2, _), (3, _)]) ⟨rfl, rfl, rfl, rfl, trivial⟩ (hfin _ _ e1.symm (by rw [e2, e1]))
      · rw [if_pos (Or.inr (Int32.not_le.mp h56))] at e1
        refine g_aload_n (pc := 59) dX4_takeNumber_59 rfl trivial ?_
        refine g_iconst (pc := 60) (v := 2) dX4_takeNumber_60 rfl ?_
        refine g_aload_n (pc := 61) dX4_takeNumber_61 rfl trivial ?_
        refine g_getf (pc := 62) (v := .int _) dX4_takeNumber_62 fk_X4_70 (shK hS1 rfl) (fun _ => congrArg Value.int (hr3)) ?_
        refine g_invV_r (pc := 65) (As := [_, _]) dX4_takeNumber_65 rfl (r_fail hS) rfl rfl (shK hS1 rfl) rfl rfl lk_X4_73 rfl (nb rfl) ⟨nb rfl, nb rfl⟩ rfl ?_
        exact g_sub (lv' := [(0, _), (1, _), (2, _), (3, _)]) ⟨rfl, rfl, rfl, rfl, trivial⟩ (hfin _ _ e1.symm (by rw [e2, e1]))
end
end
-- 192.reader
section
section
variable {l : Launch} {M : Mem} {s : RP} {len : Nat}
theorem nI_sub' {a b : Nat} (h : b ≤ a) : nI a - nI b = nI (a - b) := by
  obtain ⟨d, rfl⟩ : ∃ d, a = d + b := ⟨a - b, by omega⟩
  rw [← nI_add, Nat.add_sub_cancel]; simp
def wdL (T : Nat → Int32) (b : Nat) (w : List Int32) : Nat → Nat → Bool
  | 0, _ => true
  | d + 1, i => if T (b + i) = w.getD i 0 then wdL T b w d (i + 1) else false
/-- from b to p the text is the word -/
def wdQ (T : Nat → Int32) (b p : Nat) (w : List Int32) : Bool := if p - b = w.length then wdL T b w w.length 0 else false
theorem r_isWord {kS b : Nat} {q0 : String × Nat × String × List Int32} (hS : Shp M) (hL : s.1 ≤ 600) (hb9 : s.2.1 = nI b) (hb : b ≤ s.1) (hq9 : strT[kS]? = some q0) : EvR l jX4_isWord 4 100 0 0 [.ref 1, .retAddr (2 * kS + 2)] (rdM M s) (.inl (some (.int (b1 (wdQ (mI M 2) b s.1 q0.2.2.2))))) (rdM M s) := by
  have hS1 : Shp (rdM M s) := rd_S hS
  have hr2 : mI (rdM M s) 1 2 = nI s.1 := rd_2
  have hr3 : mI (rdM M s) 1 3 = nI b := rd_3.trans hb9
  have er : mI (rdM M s) 2 = mI M 2 := rd_ne (by decide)
  have hlen := str_len hq9
  unfold wdQ
  generalize rdM M s = M1 at *
  generalize s.1 = p at *
  refine ev_intro rfl (nb rfl) rfl ?_
  by_cases h9 : p - b = q0.2.2.2.length
  · rw [if_pos h9]
    obtain ⟨S, hs⟩ : ∃ S, S = wdL (mI M 2) b q0.2.2.2 q0.2.2.2.length 0 := ⟨_, rfl⟩
    rw [← hs]
    refine g_aload_n (pc := 0) dX4_isWord_0 rfl trivial ?_
    refine g_getf (pc := 1) (v := .int _) dX4_isWord_1 fk_X4_21 (shK hS1 rfl) (fun _ => congrArg Value.int (hr2)) ?_
    refine g_aload_n (pc := 4) dX4_isWord_4 rfl trivial ?_
    refine g_getf (pc := 5) (v := .int _) dX4_isWord_5 fk_X4_70 (shK hS1 rfl) (fun _ => congrArg Value.int (hr3)) ?_
    refine g_isub (pc := 8) dX4_isWord_8 ?_
    rw [nI_sub' hb, h9]
    refine g_aload_n (pc := 9) dX4_isWord_9 rfl (isA_s _) ?_
    refine g_invVT_r (pc := 10) (As := []) dX4_isWord_10 rfl (t_length hq9) rfl rfl (hq9) lk_X4_144 rfl (nb rfl) ⟨nb rfl, nb rfl⟩ rfl ?_
    refine g_icmp_eq (pc := 13) (tgt := 18) dX4_isWord_13 rfl (fun _ => ?_) (fun h13 => absurd (rfl) h13)
    refine g_iconst (pc := 18) (v := 0) dX4_isWord_18 rfl ?_
    refine g_istore_n (pc := 19) (lv' := [(0, _), (1, _), (2, _)]) dX4_isWord_19 (nl rfl) rfl ?_
    refine go_while (pc := 20) (σ := Nat) (fun i => i ≤ q0.2.2.2.length ∧ wdL (mI M 2) b q0.2.2.2 (q0.2.2.2.length - i) i = S) (fun i => q0.2.2.2.length - i) (fun i => [(0, .ref 1), (1, .retAddr (2 * kS + 2)), (2, .int (nI i))]) (fun _ => M1) 0 ⟨rfl, rfl, rfl, trivial⟩ rfl ⟨Nat.zero_le _, hs.symm⟩ ?_
    rintro i ⟨h1, h2⟩ ih
    by_cases hi : i < q0.2.2.2.length
    · rw [show q0.2.2.2.length - i = (q0.2.2.2.length - (i + 1)) + 1 by omega, wdL] at h2
      refine g_iload_n (pc := 20) dX4_isWord_20 rfl ?_
      refine g_aload_n (pc := 21) dX4_isWord_21 rfl (isA_s _) ?_
      refine g_invVT_r (pc := 22) (As := []) dX4_isWord_22 rfl (t_length hq9) rfl rfl (hq9) lk_X4_144 rfl (nb rfl) ⟨nb rfl, nb rfl⟩ rfl ?_
      refine g_icmp_ge (pc := 25) (tgt := 55) dX4_isWord_25 rfl (fun h25 => absurd h25 (nI_ge hi (by omega))) (fun _ => ?_)
      refine g_aload_n (pc := 28) dX4_isWord_28 rfl trivial ?_
      refine g_getf (pc := 29) dX4_isWord_29 fk_X4_9 (shK hS1 rfl) (fv_arr (shR hS1 rfl)) ?_
      refine g_aload_n (pc := 32) dX4_isWord_32 rfl trivial ?_
      refine g_getf (pc := 33) (v := .int _) dX4_isWord_33 fk_X4_70 (shK hS1 rfl) (fun _ => congrArg Value.int (hr3)) ?_
      refine g_iload_n (pc := 36) dX4_isWord_36 rfl ?_
      refine g_iadd (pc := 37) dX4_isWord_37 ?_
      rw [nI_add]
      refine g_iaload (pc := 38) dX4_isWord_38 (shK hS1 rfl) rfl (show b + i < 600 by omega) (nl rfl) ?_
      rw [er]
      refine g_aload_n (pc := 39) dX4_isWord_39 rfl (isA_s _) ?_
      refine g_iload_n (pc := 40) dX4_isWord_40 rfl ?_
      refine g_invVT_r (pc := 41) (As := [_]) dX4_isWord_41 rfl (t_charAt hq9 hi) rfl rfl (hq9) lk_X4_149 rfl (nb rfl) ⟨nb rfl, nb rfl⟩ rfl ?_
      refine g_icmp_eq (pc := 44) (tgt := 49) dX4_isWord_44 rfl (fun h44 => ?_) (fun h44 => ?_)
      · rw [if_pos h44] at h2
        refine g_iinc (pc := 49) (lv' := [(0, _), (1, _), (2, _)]) dX4_isWord_49 rfl (nI_1 _) (nl rfl) rfl ?_
        refine g_goto (pc := 52) (tgt := 20) dX4_isWord_52 rfl ?_
        exact ih (i + 1) ⟨by omega, h2⟩ (by omega)
      · rw [if_neg h44] at h2
        refine g_iconst (pc := 47) (v := 0) dX4_isWord_47 rfl ?_
        refine g_ireturn (pc := 48) dX4_isWord_48 rfl rfl ?_
        exact ⟨by rw [← h2]; rfl, rfl⟩
    · have hi' : i = q0.2.2.2.length := by omega
      rw [hi', Nat.sub_self] at h2
      rw [hi']
      refine g_iload_n (pc := 20) dX4_isWord_20 rfl ?_
      refine g_aload_n (pc := 21) dX4_isWord_21 rfl (isA_s _) ?_
      refine g_invVT_r (pc := 22) (As := []) dX4_isWord_22 rfl (t_length hq9) rfl rfl (hq9) lk_X4_144 rfl (nb rfl) ⟨nb rfl, nb rfl⟩ rfl ?_
      refine g_icmp_ge (pc := 25) (tgt := 55) dX4_isWord_25 rfl (fun _ => ?_) (fun h25 => absurd (nI_le (Nat.le_refl _) (by omega)) h25)
      refine g_iconst (pc := 55) (v := 1) dX4_isWord_55 rfl ?_
      refine g_ireturn (pc := 56) dX4_isWord_56 rfl rfl ?_
      exact ⟨by rw [← h2]; rfl, rfl⟩
  · rw [if_neg h9]
    refine g_aload_n (pc := 0) dX4_isWord_0 rfl trivial ?_
    refine g_getf (pc := 1) (v := .int _) dX4_isWord_1 fk_X4_21 (shK hS1 rfl) (fun _ => congrArg Value.int (hr2)) ?_
    refine g_aload_n (pc := 4) dX4_isWord_4 rfl trivial ?_
    refine g_getf (pc := 5) (v := .int _) dX4_isWord_5 fk_X4_70 (shK hS1 rfl) (fun _ => congrArg Value.int (hr3)) ?_
    refine g_isub (pc := 8) dX4_isWord_8 ?_
    rw [nI_sub' hb]
    refine g_aload_n (pc := 9) dX4_isWord_9 rfl (isA_s _) ?_
    refine g_invVT_r (pc := 10) (As := []) dX4_isWord_10 rfl (t_length hq9) rfl rfl (hq9) lk_X4_144 rfl (nb rfl) ⟨nb rfl, nb rfl⟩ rfl ?_
    refine g_icmp_eq (pc := 13) (tgt := 18) dX4_isWord_13 rfl (fun h13 => absurd h13 (fun h => h9 ((nI_eq (by omega) (by omega)).mp h))) (fun _ => ?_)
    refine g_iconst (pc := 16) (v := 0) dX4_isWord_16 rfl ?_
    refine g_ireturn (pc := 17) dX4_isWord_17 rfl rfl ?_
    exact ⟨rfl, rfl⟩
/-- bits from text at b; s as it becomes -/
def tbI (T : Nat → Int32) (b : Nat) (a : Int32) (s : RP) : Nat → RP × Int32
  | 0 => (s, 0)
  | k + 1 => if 49 < T (b + k) then (rFail 2 a (tbI T b a s k).1, (tbI T b a s k).2) else if T (b + k) = 49 then ((tbI T b a s k).1, (tbI T b a s k).2 ||| bitI k) else tbI T b a s k
theorem tbI_1 (T : Nat → Int32) (b : Nat) (a : Int32) (s : RP) : ∀ k, (tbI T b a s k).1.1 = s.1 ∧ (tbI T b a s k).1.2.1 = s.2.1
  | 0 => ⟨rfl, rfl⟩
  | k + 1 => by
    rw [tbI]
    split
    · rw [(rFail_1 _ _ _).1, (rFail_1 _ _ _).2]; exact tbI_1 T b a s k
    · split
      · exact tbI_1 T b a s k
      · exact tbI_1 T b a s k
def tbs (T : Nat → Int32) (len n : Nat) (s : RP) : RP × Int32 := if digP T len (skipP T len s.1) - skipP T len s.1 = n then tbI T (skipP T len s.1) (nI (skipP T len s.1)) (tdg T len s) n else (rFail 2 (nI (skipP T len s.1)) (tdg T len s), 0)
theorem tbs_1 (T : Nat → Int32) (len n : Nat) (s : RP) : (tbs T len n s).1.1 = digP T len (skipP T len s.1) ∧ (tbs T len n s).1.2.1 = nI (skipP T len s.1) := by
  unfold tbs; split
  · rw [(tbI_1 _ _ _ _ _).1, (tbI_1 _ _ _ _ _).2]; exact tdg_1 T len s
  · rw [(rFail_1 _ _ _).1, (rFail_1 _ _ _).2]; exact tdg_1 T len s
theorem r_takeBits {n : Nat} (hS : Shp M) (hl : mI M 1 1 = nI len) (hL : len ≤ 600) (hp : s.1 ≤ len) (hn : n ≤ 32) : EvR l jX4_takeBits 2 60 0 0 [.ref 1, .int (nI n)] (rdM M s) (.inl (some (.int (tbs (mI M 2) len n s).2))) (rdM M (tbs (mI M 2) len n s).1) := by
  have hsk := skipP_le (T := mI M 2) hp
  have hdg := digP_le (T := mI M 2) hsk.2
  have hS9 : Shp (rdM M s) := rd_S hS
  have hS1 : ∀ s, Shp (rdM M s) := fun s => rd_S hS
  have hr2 : mI (rdM M (tdg (mI M 2) len s)) 1 2 = nI (digP (mI M 2) len (skipP (mI M 2) len s.1)) := by rw [rd_2, (tdg_1 _ _ _).1]
  have hr3 : mI (rdM M (tdg (mI M 2) len s)) 1 3 = nI (skipP (mI M 2) len s.1) := by rw [rd_3, (tdg_1 _ _ _).2]
  have er : ∀ s, mI (rdM M s) 2 = mI M 2 := fun s => rd_ne (by decide)
  have ht := (tdg_1 (mI M 2) len s).2
  obtain ⟨S, hs⟩ : ∃ S, S = tbs (mI M 2) len n s := ⟨_, rfl⟩
  rw [← hs]
  unfold tbs at hs
  refine ev_intro rfl (nb rfl) rfl ?_
  refine g_aload_n (pc := 0) dX4_takeBits_0 rfl trivial ?_
  refine g_invV_r (pc := 1) (As := []) dX4_takeBits_1 rfl (r_takeDigits hS hl hL hp) rfl rfl (shK hS9 rfl) rfl rfl lk_X4_136 rfl (nb rfl) ⟨nb rfl, nb rfl⟩ rfl ?_
  skip
  generalize digP (mI M 2) len (skipP (mI M 2) len s.1) = p at *
  generalize skipP (mI M 2) len s.1 = q at *
  generalize tdg (mI M 2) len s = s1 at *
  by_cases h9 : p - q = n
  · rw [if_pos h9] at hs
    refine g_aload_n (pc := 4) dX4_takeBits_4 rfl trivial ?_
    refine g_getf (pc := 5) (v := .int _) dX4_takeBits_5 fk_X4_21 (shK (hS1 _) rfl) (fun _ => congrArg Value.int (hr2)) ?_
    refine g_aload_n (pc := 8) dX4_takeBits_8 rfl trivial ?_
    refine g_getf (pc := 9) (v := .int _) dX4_takeBits_9 fk_X4_70 (shK (hS1 _) rfl) (fun _ => congrArg Value.int (hr3)) ?_
    refine g_isub (pc := 12) dX4_takeBits_12 ?_
    rw [nI_sub' hdg.1, h9]
    refine g_iload_n (pc := 13) dX4_takeBits_13 rfl ?_
    refine g_icmp_eq (pc := 14) (tgt := 28) dX4_takeBits_14 rfl (fun _ => ?_) (fun h14 => absurd (rfl) h14)
    refine g_iconst (pc := 28) (v := 0) dX4_takeBits_28 rfl ?_
    refine g_istore_n (pc := 29) (lv' := [(0, _), (1, _), (2, _)]) dX4_takeBits_29 (nl rfl) rfl ?_
    refine g_iconst (pc := 30) (v := 0) dX4_takeBits_30 rfl ?_
    refine g_istore_n (pc := 31) (lv' := [(0, _), (1, _), (2, _), (3, _)]) dX4_takeBits_31 (nl rfl) rfl ?_
    refine go_loop (pc := 32) n (fun i => [(0, .ref 1), (1, .int (nI n)), (2, .int (tbI (mI M 2) q (nI q) s1 i).2), (3, .int (nI i))]) (fun i => rdM M (tbI (mI M 2) q (nI q) s1 i).1) ⟨rfl, rfl, rfl, rfl, trivial⟩ rfl ?_ ?_
    · intro i hi ih
      rw [tbI] at ih
      have hr3 : mI (rdM M (tbI (mI M 2) q (nI q) s1 i).1) 1 3 = nI q := by rw [rd_3, (tbI_1 _ _ _ _ _).2]; exact ht
      generalize tbI (mI M 2) q (nI q) s1 i = s2 at *
      refine g_iload_n (pc := 32) dX4_takeBits_32 rfl ?_
      refine g_iload_n (pc := 33) dX4_takeBits_33 rfl ?_
      refine g_icmp_ge (pc := 34) (tgt := 88) dX4_takeBits_34 rfl (fun h34 => absurd h34 (nI_ge hi (by omega))) (fun _ => ?_)
      refine g_aload_n (pc := 37) dX4_takeBits_37 rfl trivial ?_
      refine g_getf (pc := 38) dX4_takeBits_38 fk_X4_9 (shK (hS1 _) rfl) (fv_arr (shR (hS1 _) rfl)) ?_
      refine g_aload_n (pc := 41) dX4_takeBits_41 rfl trivial ?_
      refine g_getf (pc := 42) (v := .int _) dX4_takeBits_42 fk_X4_70 (shK (hS1 _) rfl) (fun _ => congrArg Value.int (hr3)) ?_
      refine g_iload_n (pc := 45) dX4_takeBits_45 rfl ?_
      refine g_iadd (pc := 46) dX4_takeBits_46 ?_
      rw [nI_add]
      refine g_iaload (pc := 47) dX4_takeBits_47 (shK (hS1 _) rfl) rfl (show q + i < 600 by omega) (nl rfl) ?_
      rw [er]
      refine g_istore (pc := 48) (lv' := [(0, _), (1, _), (2, _), (3, _), (4, _)]) dX4_takeBits_48 (nl rfl) rfl ?_
      refine g_iload (pc := 50) dX4_takeBits_50 rfl ?_
      refine g_bipush (pc := 52) (v := 49) dX4_takeBits_52 rfl ?_
      refine g_icmp_le (pc := 54) (tgt := 69) dX4_takeBits_54 rfl (fun h54 => ?_) (fun h54 => ?_)
      · rw [if_neg (Int32.not_lt.mpr h54)] at ih
        refine g_iload (pc := 69) dX4_takeBits_69 rfl ?_
        refine g_bipush (pc := 71) (v := 49) dX4_takeBits_71 rfl ?_
        refine g_icmp_ne (pc := 73) (tgt := 82) dX4_takeBits_73 rfl (fun h73 => ?_) (fun h73 => ?_)
        · rw [if_neg h73] at ih
          refine g_iinc (pc := 82) (lv' := [(0, _), (1, _), (2, _), (3, _), (4, _)]) dX4_takeBits_82 rfl (nI_1 _) (nl rfl) rfl ?_
          refine g_goto (pc := 85) (tgt := 32) dX4_takeBits_85 rfl ?_
          exact g_sub (lv' := [(0, _), (1, _), (2, _), (3, _)]) ⟨rfl, rfl, rfl, rfl, trivial⟩ ih
        · rw [if_pos (Decidable.not_not.mp h73)] at ih
          refine g_iload_n (pc := 76) dX4_takeBits_76 rfl ?_
          refine g_iconst (pc := 77) (v := 1) dX4_takeBits_77 rfl ?_
          refine g_iload_n (pc := 78) dX4_takeBits_78 rfl ?_
          refine g_ishl (pc := 79) dX4_takeBits_79 ?_
          refine g_ior (pc := 80) dX4_takeBits_80 ?_
          refine g_istore_n (pc := 81) (lv' := [(0, _), (1, _), (2, _), (3, _), (4, _)]) dX4_takeBits_81 (nl rfl) rfl ?_
          refine g_iinc (pc := 82) (lv' := [(0, _), (1, _), (2, _), (3, _), (4, _)]) dX4_takeBits_82 rfl (nI_1 _) (nl rfl) rfl ?_
          refine g_goto (pc := 85) (tgt := 32) dX4_takeBits_85 rfl ?_
          exact g_sub (lv' := [(0, _), (1, _), (2, _), (3, _)]) ⟨rfl, rfl, rfl, rfl, trivial⟩ ih
      · rw [if_pos (Int32.not_le.mp h54)] at ih
        refine g_aload_n (pc := 57) dX4_takeBits_57 rfl trivial ?_
        refine g_iconst (pc := 58) (v := 2) dX4_takeBits_58 rfl ?_
        refine g_aload_n (pc := 59) dX4_takeBits_59 rfl trivial ?_
        refine g_getf (pc := 60) (v := .int _) dX4_takeBits_60 fk_X4_70 (shK (hS1 _) rfl) (fun _ => congrArg Value.int (hr3)) ?_
        refine g_invV_r (pc := 63) (As := [_, _]) dX4_takeBits_63 rfl (r_fail hS) rfl rfl (shK (hS1 _) rfl) rfl rfl lk_X4_73 rfl (nb rfl) ⟨nb rfl, nb rfl⟩ rfl ?_
        refine g_goto (pc := 66) (tgt := 82) dX4_takeBits_66 rfl ?_
        refine g_iinc (pc := 82) (lv' := [(0, _), (1, _), (2, _), (3, _), (4, _)]) dX4_takeBits_82 rfl (nI_1 _) (nl rfl) rfl ?_
        refine g_goto (pc := 85) (tgt := 32) dX4_takeBits_85 rfl ?_
        exact g_sub (lv' := [(0, _), (1, _), (2, _), (3, _)]) ⟨rfl, rfl, rfl, rfl, trivial⟩ ih
    · rw [hs]
      refine g_iload_n (pc := 32) dX4_takeBits_32 rfl ?_
      refine g_iload_n (pc := 33) dX4_takeBits_33 rfl ?_
      refine g_icmp_ge (pc := 34) (tgt := 88) dX4_takeBits_34 rfl (fun _ => ?_) (fun h34 => absurd (nI_le (Nat.le_refl _) (by omega)) h34)
      refine g_iload_n (pc := 88) dX4_takeBits_88 rfl ?_
      refine g_ireturn (pc := 89) dX4_takeBits_89 rfl rfl ?_
      exact ⟨rfl, rfl⟩
  · rw [if_neg h9] at hs
    rw [hs]
    refine g_aload_n (pc := 4) dX4_takeBits_4 rfl trivial ?_
    refine g_getf (pc := 5) (v := .int _) dX4_takeBits_5 fk_X4_21 (shK (hS1 _) rfl) (fun _ => congrArg Value.int (hr2)) ?_
    refine g_aload_n (pc := 8) dX4_takeBits_8 rfl trivial ?_
    refine g_getf (pc := 9) (v := .int _) dX4_takeBits_9 fk_X4_70 (shK (hS1 _) rfl) (fun _ => congrArg Value.int (hr3)) ?_
    refine g_isub (pc := 12) dX4_takeBits_12 ?_
    rw [nI_sub' hdg.1]
    refine g_iload_n (pc := 13) dX4_takeBits_13 rfl ?_
    refine g_icmp_eq (pc := 14) (tgt := 28) dX4_takeBits_14 rfl (fun h14 => absurd h14 (fun h => h9 ((nI_eq (by omega) (by omega)).mp h))) (fun _ => ?_)
    refine g_aload_n (pc := 17) dX4_takeBits_17 rfl trivial ?_
    refine g_iconst (pc := 18) (v := 2) dX4_takeBits_18 rfl ?_
    refine g_aload_n (pc := 19) dX4_takeBits_19 rfl trivial ?_
    refine g_getf (pc := 20) (v := .int _) dX4_takeBits_20 fk_X4_70 (shK (hS1 _) rfl) (fun _ => congrArg Value.int (hr3)) ?_
    refine g_invV_r (pc := 23) (As := [_, _]) dX4_takeBits_23 rfl (r_fail hS) rfl rfl (shK (hS1 _) rfl) rfl rfl lk_X4_73 rfl (nb rfl) ⟨nb rfl, nb rfl⟩ rfl ?_
    refine g_iconst (pc := 26) (v := 0) dX4_takeBits_26 rfl ?_
    refine g_ireturn (pc := 27) dX4_takeBits_27 rfl rfl ?_
    exact ⟨rfl, rfl⟩
theorem r_hasMore (hS : Shp M) (hl : mI M 1 1 = nI len) (hL : len ≤ 600) (hp : s.1 ≤ len) : EvR l jX4_hasMore 1 30 0 0 [.ref 1] (rdM M s) (.inl (some (.int (b1 (decide (s.2.2.2.1 = 0) && decide (skipP (mI M 2) len s.1 < len)))))) (rdM M (skp (mI M 2) len s)) := by
  have hsk := skipP_le (T := mI M 2) hp
  have hS9 : Shp (rdM M s) := rd_S hS
  have hS1 : Shp (rdM M (skp (mI M 2) len s)) := rd_S hS
  have hr2 : mI (rdM M (skp (mI M 2) len s)) 1 2 = nI (skipP (mI M 2) len s.1) := rd_2
  have hr5 : mI (rdM M (skp (mI M 2) len s)) 1 5 = s.2.2.2.1 := rd_5
  have hr1 : mI (rdM M (skp (mI M 2) len s)) 1 1 = nI len := rd_1.trans hl
  refine ev_intro rfl (nb rfl) rfl ?_
  refine g_aload_n (pc := 0) dX4_hasMore_0 rfl trivial ?_
  refine g_invV_r (pc := 1) (As := []) dX4_hasMore_1 rfl (r_skipSpaces hS hl hL hp) rfl rfl (shK hS9 rfl) rfl rfl lk_X4_133 rfl (nb rfl) ⟨nb rfl, nb rfl⟩ rfl ?_
  refine g_aload_n (pc := 4) dX4_hasMore_4 rfl trivial ?_
  refine g_getf (pc := 5) (v := .int _) dX4_hasMore_5 fk_X4_27 (shK hS1 rfl) (fun _ => congrArg Value.int (hr5)) ?_
  refine g_if_ne (pc := 8) (tgt := 26) dX4_hasMore_8 rfl (fun h8 => ?_) (fun h8 => ?_)
  · rw [decide_eq_false h8, Bool.false_and]
    refine g_iconst (pc := 26) (v := 0) dX4_hasMore_26 rfl ?_
    refine g_ireturn (pc := 27) dX4_hasMore_27 rfl rfl ?_
    exact ⟨rfl, rfl⟩
  · rw [decide_eq_true (Decidable.not_not.mp h8), Bool.true_and]
    refine g_aload_n (pc := 11) dX4_hasMore_11 rfl trivial ?_
    refine g_getf (pc := 12) (v := .int _) dX4_hasMore_12 fk_X4_21 (shK hS1 rfl) (fun _ => congrArg Value.int (hr2)) ?_
    refine g_aload_n (pc := 15) dX4_hasMore_15 rfl trivial ?_
    refine g_getf (pc := 16) (v := .int _) dX4_hasMore_16 fk_X4_17 (shK hS1 rfl) (fun _ => congrArg Value.int (hr1)) ?_
    refine g_icmp_ge (pc := 19) (tgt := 26) dX4_hasMore_19 rfl (fun h19 => ?_) (fun h19 => ?_)
    · rw [decide_eq_false (fun h => nI_ge h (by omega) h19)]
      refine g_iconst (pc := 26) (v := 0) dX4_hasMore_26 rfl ?_
      refine g_ireturn (pc := 27) dX4_hasMore_27 rfl rfl ?_
      exact ⟨rfl, rfl⟩
    · rw [decide_eq_true (Nat.lt_of_not_le fun h => h19 (nI_le h (by omega)))]
      refine g_iconst (pc := 22) (v := 1) dX4_hasMore_22 rfl ?_
      refine g_goto (pc := 23) (tgt := 27) dX4_hasMore_23 rfl ?_
      refine g_ireturn (pc := 27) dX4_hasMore_27 rfl rfl ?_
      exact ⟨rfl, rfl⟩
def tsc (T : Nat → Int32) (len : Nat) (s : RP) : RP := if s.1 < len ∧ T s.1 = 59 then (s.1 + 1, s.2.1, s.2.2.1 + 1, s.2.2.2) else rFail 1 (nI s.1) s
theorem r_takeSemicolon (hS : Shp M) (hl : mI M 1 1 = nI len) (hL : len ≤ 600) (hp : s.1 ≤ len) : EvR l jX4_takeSemicolon 1 30 0 0 [.ref 1] (rdM M s) (.inl none) (rdM M (tsc (mI M 2) len s)) := by
  have hS1 : ∀ s, Shp (rdM M s) := fun s => rd_S hS
  have hr2 : mI (rdM M s) 1 2 = nI s.1 := rd_2
  have hr1 : mI (rdM M s) 1 1 = nI len := rd_1.trans hl
  have hr4 : mI (rdM M (s.1 + 1, s.2)) 1 4 = s.2.2.1 := rd_4
  refine ev_intro rfl (nb rfl) rfl ?_
  unfold tsc
  refine g_aload_n (pc := 0) dX4_takeSemicolon_0 rfl trivial ?_
  refine g_getf (pc := 1) (v := .int _) dX4_takeSemicolon_1 fk_X4_21 (shK (hS1 _) rfl) (fun _ => congrArg Value.int (hr2)) ?_
  refine g_aload_n (pc := 4) dX4_takeSemicolon_4 rfl trivial ?_
  refine g_getf (pc := 5) (v := .int _) dX4_takeSemicolon_5 fk_X4_17 (shK (hS1 _) rfl) (fun _ => congrArg Value.int (hr1)) ?_
  refine g_icmp_ge (pc := 8) (tgt := 48) dX4_takeSemicolon_8 rfl (fun h8 => ?_) (fun h8 => ?_)
  · rw [if_neg (fun h => nI_ge h.1 (by omega) h8)]
    refine g_aload_n (pc := 48) dX4_takeSemicolon_48 rfl trivial ?_
    refine g_iconst (pc := 49) (v := 1) dX4_takeSemicolon_49 rfl ?_
    refine g_aload_n (pc := 50) dX4_takeSemicolon_50 rfl trivial ?_
    refine g_getf (pc := 51) (v := .int _) dX4_takeSemicolon_51 fk_X4_21 (shK (hS1 _) rfl) (fun _ => congrArg Value.int (hr2)) ?_
    refine g_invV_r (pc := 54) (As := [_, _]) dX4_takeSemicolon_54 rfl (r_fail hS) rfl rfl (shK (hS1 _) rfl) rfl rfl lk_X4_73 rfl (nb rfl) ⟨nb rfl, nb rfl⟩ rfl ?_
    refine g_return (pc := 57) dX4_takeSemicolon_57 rfl ?_
    exact ⟨rfl, rfl⟩
  · have hlt : s.1 < len := Nat.lt_of_not_le fun h => h8 (nI_le h (by omega))
    refine g_aload_n (pc := 11) dX4_takeSemicolon_11 rfl trivial ?_
    refine g_getf (pc := 12) dX4_takeSemicolon_12 fk_X4_9 (shK (hS1 _) rfl) (fv_arr (shR (hS1 _) rfl)) ?_
    refine g_aload_n (pc := 15) dX4_takeSemicolon_15 rfl trivial ?_
    refine g_getf (pc := 16) (v := .int _) dX4_takeSemicolon_16 fk_X4_21 (shK (hS1 _) rfl) (fun _ => congrArg Value.int (hr2)) ?_
    refine g_iaload (pc := 19) dX4_takeSemicolon_19 (shK (hS1 _) rfl) rfl (show s.1 < 600 by omega) (nl rfl) ?_
    rw [rd_ne (by decide)]
    refine g_bipush (pc := 20) (v := 59) dX4_takeSemicolon_20 rfl ?_
    refine g_icmp_ne (pc := 22) (tgt := 48) dX4_takeSemicolon_22 rfl (fun h22 => ?_) (fun h22 => ?_)
    · rw [if_neg (fun h => h22 h.2)]
      refine g_aload_n (pc := 48) dX4_takeSemicolon_48 rfl trivial ?_
      refine g_iconst (pc := 49) (v := 1) dX4_takeSemicolon_49 rfl ?_
      refine g_aload_n (pc := 50) dX4_takeSemicolon_50 rfl trivial ?_
      refine g_getf (pc := 51) (v := .int _) dX4_takeSemicolon_51 fk_X4_21 (shK (hS1 _) rfl) (fun _ => congrArg Value.int (hr2)) ?_
      refine g_invV_r (pc := 54) (As := [_, _]) dX4_takeSemicolon_54 rfl (r_fail hS) rfl rfl (shK (hS1 _) rfl) rfl rfl lk_X4_73 rfl (nb rfl) ⟨nb rfl, nb rfl⟩ rfl ?_
      refine g_return (pc := 57) dX4_takeSemicolon_57 rfl ?_
      exact ⟨rfl, rfl⟩
    · rw [if_pos ⟨hlt, Decidable.not_not.mp h22⟩]
      refine g_aload_n (pc := 25) dX4_takeSemicolon_25 rfl trivial ?_
      refine g_dup (pc := 26) dX4_takeSemicolon_26 rfl ?_
      refine g_getf (pc := 27) (v := .int _) dX4_takeSemicolon_27 fk_X4_21 (shK (hS1 _) rfl) (fun _ => congrArg Value.int (hr2)) ?_
      refine g_iconst (pc := 30) (v := 1) dX4_takeSemicolon_30 rfl ?_
      refine g_iadd (pc := 31) dX4_takeSemicolon_31 ?_
      refine g_putI (pc := 32) dX4_takeSemicolon_32 fp_X4_21 (shK (hS1 _) rfl) ⟨rfl, rfl⟩ (fun _ _ _ _ => rfl) ?_
      refine go_cast (rd_p2 (nI_1 _)) ?_
      refine g_aload_n (pc := 35) dX4_takeSemicolon_35 rfl trivial ?_
      refine g_dup (pc := 36) dX4_takeSemicolon_36 rfl ?_
      refine g_getf (pc := 37) (v := .int _) dX4_takeSemicolon_37 fk_X4_24 (shK (hS1 _) rfl) (fun _ => congrArg Value.int (hr4)) ?_
      refine g_iconst (pc := 40) (v := 1) dX4_takeSemicolon_40 rfl ?_
      refine g_iadd (pc := 41) dX4_takeSemicolon_41 ?_
      refine g_putI (pc := 42) dX4_takeSemicolon_42 fp_X4_24 (shK (hS1 _) rfl) ⟨rfl, rfl⟩ (fun _ _ _ _ => rfl) ?_
      refine go_cast rd_p4 ?_
      refine g_goto (pc := 45) (tgt := 57) dX4_takeSemicolon_45 rfl ?_
      refine g_return (pc := 57) dX4_takeSemicolon_57 rfl ?_
      exact ⟨rfl, rfl⟩
end
end
-- 193.reader
section
/-- the letters of the String constant k -/
def strW (k : Nat) : List Int32 := (strT[k]?.getD ("", 0, "", [])).2.2.2
section
variable {l : Launch} {M : Mem} {s : RP} {len : Nat}
theorem r_isW {b : Nat} (k : Nat) (hS : Shp M) (hL : s.1 ≤ 600) (hb9 : s.2.1 = nI b) (hb : b ≤ s.1) (hk : k < strT.length) : EvR l jX4_isWord 4 100 0 0 [.ref 1, .retAddr (2 * k + 2)] (rdM M s) (.inl (some (.int (b1 (wdQ (mI M 2) b s.1 (strW k)))))) (rdM M s) := by
  have h : strT[k]? = some (strT[k]?.getD ("", 0, "", [])) := by rw [List.getElem?_eq_getElem hk]; rfl
  exact r_isWord hS hL hb9 hb h
/-- a row of a kind -/
def kdV (T : Nat → Int32) (b p n i : Nat) : Option Int32 :=
  if wdQ T b p (strW 4) = true then some (bitI i) else if wdQ T b p (strW 5) = true then some (lowM n) else if wdQ T b p (strW 6) = true then some (if i + 1 < n then bitI (i + 1) else 1) else if wdQ T b p (strW 7) = true then some (lowM i) else none
def kdS (T : Nat → Int32) (b p n i : Nat) (s : RP) : RP := if kdV T b p n i = none then rFail 1 (nI b) s else s
theorem kdS_1 (T : Nat → Int32) (b p n i : Nat) (s : RP) : (kdS T b p n i s).1 = s.1 ∧ (kdS T b p n i s).2.1 = s.2.1 := by
  unfold kdS; split
  · exact rFail_1 _ _ _
  · exact ⟨rfl, rfl⟩
theorem r_rowOfKind {b n i : Nat} (hS : Shp M) (hL : s.1 ≤ 600) (hb9 : s.2.1 = nI b) (hb : b ≤ s.1) (hn : n ≤ 32) (hi : i < n) : EvR l jX4_rowOfKind 5 130 0 0 [.ref 1, .int (nI i), .int (nI n)] (rdM M s) (.inl (some (.int ((kdV (mI M 2) b s.1 n i).getD 0)))) (rdM M (kdS (mI M 2) b s.1 n i s)) := by
  have hS1 : Shp (rdM M s) := rd_S hS
  have hr3 : mI (rdM M s) 1 3 = nI b := rd_3.trans hb9
  have q4 : EvR l jX4_isWord 4 100 0 0 [.ref 1, .retAddr (2 * 4 + 2)] (rdM M s) (.inl (some (.int (b1 (wdQ (mI M 2) b s.1 (strW 4)))))) (rdM M s) := r_isW 4 hS hL hb9 hb (by decide)
  have q5 : EvR l jX4_isWord 4 100 0 0 [.ref 1, .retAddr (2 * 5 + 2)] (rdM M s) (.inl (some (.int (b1 (wdQ (mI M 2) b s.1 (strW 5)))))) (rdM M s) := r_isW 5 hS hL hb9 hb (by decide)
  have q6 : EvR l jX4_isWord 4 100 0 0 [.ref 1, .retAddr (2 * 6 + 2)] (rdM M s) (.inl (some (.int (b1 (wdQ (mI M 2) b s.1 (strW 6)))))) (rdM M s) := r_isW 6 hS hL hb9 hb (by decide)
  have q7 : EvR l jX4_isWord 4 100 0 0 [.ref 1, .retAddr (2 * 7 + 2)] (rdM M s) (.inl (some (.int (b1 (wdQ (mI M 2) b s.1 (strW 7)))))) (rdM M s) := r_isW 7 hS hL hb9 hb (by decide)
  unfold kdS kdV
  generalize wdQ (mI M 2) b s.1 (strW 4) = w4 at *
  generalize wdQ (mI M 2) b s.1 (strW 5) = w5 at *
  generalize wdQ (mI M 2) b s.1 (strW 6) = w6 at *
  generalize wdQ (mI M 2) b s.1 (strW 7) = w7 at *
  refine ev_intro rfl (nb rfl) rfl ?_
  cases w4 with
  | true =>
    refine g_aload_n (pc := 0) dX4_rowOfKind_0 rfl trivial ?_
    refine g_ldcS (pc := 1) (kS := 4) dX4_rowOfKind_1 rfl ?_
    refine g_invV_r (pc := 3) (As := [_]) dX4_rowOfKind_3 rfl (q4) rfl rfl (shK hS1 rfl) rfl rfl lk_X4_66 rfl (nb rfl) ⟨nb rfl, nb rfl⟩ rfl ?_
    refine g_if_eq (pc := 6) (tgt := 13) dX4_rowOfKind_6 rfl (fun h6 => absurd h6 ((by decide))) (fun _ => ?_)
    refine g_iconst (pc := 9) (v := 1) dX4_rowOfKind_9 rfl ?_
    refine g_iload_n (pc := 10) dX4_rowOfKind_10 rfl ?_
    refine g_ishl (pc := 11) dX4_rowOfKind_11 ?_
    refine g_ireturn (pc := 12) dX4_rowOfKind_12 rfl rfl ?_
    exact ⟨rfl, rfl⟩
  | false =>
    cases w5 with
    | true =>
      refine g_aload_n (pc := 0) dX4_rowOfKind_0 rfl trivial ?_
      refine g_ldcS (pc := 1) (kS := 4) dX4_rowOfKind_1 rfl ?_
      refine g_invV_r (pc := 3) (As := [_]) dX4_rowOfKind_3 rfl (q4) rfl rfl (shK hS1 rfl) rfl rfl lk_X4_66 rfl (nb rfl) ⟨nb rfl, nb rfl⟩ rfl ?_
      refine g_if_eq (pc := 6) (tgt := 13) dX4_rowOfKind_6 rfl (fun _ => ?_) (fun h6 => absurd (rfl) h6)
      refine g_aload_n (pc := 13) dX4_rowOfKind_13 rfl trivial ?_
      refine g_ldcS (pc := 14) (kS := 5) dX4_rowOfKind_14 rfl ?_
      refine g_invV_r (pc := 16) (As := [_]) dX4_rowOfKind_16 rfl (q5) rfl rfl (shK hS1 rfl) rfl rfl lk_X4_66 rfl (nb rfl) ⟨nb rfl, nb rfl⟩ rfl ?_
      refine g_if_eq (pc := 19) (tgt := 27) dX4_rowOfKind_19 rfl (fun h19 => absurd h19 ((by decide))) (fun _ => ?_)
      refine g_iload_n (pc := 22) dX4_rowOfKind_22 rfl ?_
      refine g_invSN_r (pc := 23) (As := [_]) dX4_rowOfKind_23 rfl (s_lowest hn) rfl rfl lk_X4_126 rfl (nb rfl) ⟨nb rfl, nb rfl⟩ rfl ?_
      refine g_ireturn (pc := 26) dX4_rowOfKind_26 rfl rfl ?_
      exact ⟨rfl, rfl⟩
    | false =>
      cases w6 with
      | true =>
        refine g_aload_n (pc := 0) dX4_rowOfKind_0 rfl trivial ?_
        refine g_ldcS (pc := 1) (kS := 4) dX4_rowOfKind_1 rfl ?_
        refine g_invV_r (pc := 3) (As := [_]) dX4_rowOfKind_3 rfl (q4) rfl rfl (shK hS1 rfl) rfl rfl lk_X4_66 rfl (nb rfl) ⟨nb rfl, nb rfl⟩ rfl ?_
        refine g_if_eq (pc := 6) (tgt := 13) dX4_rowOfKind_6 rfl (fun _ => ?_) (fun h6 => absurd (rfl) h6)
        refine g_aload_n (pc := 13) dX4_rowOfKind_13 rfl trivial ?_
        refine g_ldcS (pc := 14) (kS := 5) dX4_rowOfKind_14 rfl ?_
        refine g_invV_r (pc := 16) (As := [_]) dX4_rowOfKind_16 rfl (q5) rfl rfl (shK hS1 rfl) rfl rfl lk_X4_66 rfl (nb rfl) ⟨nb rfl, nb rfl⟩ rfl ?_
        refine g_if_eq (pc := 19) (tgt := 27) dX4_rowOfKind_19 rfl (fun _ => ?_) (fun h19 => absurd (rfl) h19)
        refine g_aload_n (pc := 27) dX4_rowOfKind_27 rfl trivial ?_
        refine g_ldcS (pc := 28) (kS := 6) dX4_rowOfKind_28 rfl ?_
        refine g_invV_r (pc := 30) (As := [_]) dX4_rowOfKind_30 rfl (q6) rfl rfl (shK hS1 rfl) rfl rfl lk_X4_66 rfl (nb rfl) ⟨nb rfl, nb rfl⟩ rfl ?_
        refine g_if_eq (pc := 33) (tgt := 53) dX4_rowOfKind_33 rfl (fun h33 => absurd h33 ((by decide))) (fun _ => ?_)
        refine g_iload_n (pc := 36) dX4_rowOfKind_36 rfl ?_
        refine g_iconst (pc := 37) (v := 1) dX4_rowOfKind_37 rfl ?_
        refine g_iadd (pc := 38) dX4_rowOfKind_38 ?_
        rw [nI_1]
        refine g_iload_n (pc := 39) dX4_rowOfKind_39 rfl ?_
        refine g_icmp_ge (pc := 40) (tgt := 51) dX4_rowOfKind_40 rfl (fun h40 => ?_) (fun h40 => ?_)
        · refine g_iconst (pc := 51) (v := 1) dX4_rowOfKind_51 rfl ?_
          refine g_ireturn (pc := 52) dX4_rowOfKind_52 rfl rfl ?_
          exact ⟨by simp only [Bool.false_eq_true, if_true, if_false]; rw [if_neg (fun h => nI_ge h (by omega) h40)]; rfl, rfl⟩
        · refine g_iconst (pc := 43) (v := 1) dX4_rowOfKind_43 rfl ?_
          refine g_iload_n (pc := 44) dX4_rowOfKind_44 rfl ?_
          refine g_iconst (pc := 45) (v := 1) dX4_rowOfKind_45 rfl ?_
          refine g_iadd (pc := 46) dX4_rowOfKind_46 ?_
          rw [nI_1]
          refine g_ishl (pc := 47) dX4_rowOfKind_47 ?_
          refine g_goto (pc := 48) (tgt := 52) dX4_rowOfKind_48 rfl ?_
          refine g_ireturn (pc := 52) dX4_rowOfKind_52 rfl rfl ?_
          exact ⟨by simp only [Bool.false_eq_true, if_true, if_false]; rw [if_pos (Nat.lt_of_not_le fun h => h40 (nI_le h (by omega)))]; rfl, rfl⟩
      | false =>
        cases w7 with
        | true =>
          refine g_aload_n (pc := 0) dX4_rowOfKind_0 rfl trivial ?_
          refine g_ldcS (pc := 1) (kS := 4) dX4_rowOfKind_1 rfl ?_
          refine g_invV_r (pc := 3) (As := [_]) dX4_rowOfKind_3 rfl (q4) rfl rfl (shK hS1 rfl) rfl rfl lk_X4_66 rfl (nb rfl) ⟨nb rfl, nb rfl⟩ rfl ?_
          refine g_if_eq (pc := 6) (tgt := 13) dX4_rowOfKind_6 rfl (fun _ => ?_) (fun h6 => absurd (rfl) h6)
          refine g_aload_n (pc := 13) dX4_rowOfKind_13 rfl trivial ?_
          refine g_ldcS (pc := 14) (kS := 5) dX4_rowOfKind_14 rfl ?_
          refine g_invV_r (pc := 16) (As := [_]) dX4_rowOfKind_16 rfl (q5) rfl rfl (shK hS1 rfl) rfl rfl lk_X4_66 rfl (nb rfl) ⟨nb rfl, nb rfl⟩ rfl ?_
          refine g_if_eq (pc := 19) (tgt := 27) dX4_rowOfKind_19 rfl (fun _ => ?_) (fun h19 => absurd (rfl) h19)
          refine g_aload_n (pc := 27) dX4_rowOfKind_27 rfl trivial ?_
          refine g_ldcS (pc := 28) (kS := 6) dX4_rowOfKind_28 rfl ?_
          refine g_invV_r (pc := 30) (As := [_]) dX4_rowOfKind_30 rfl (q6) rfl rfl (shK hS1 rfl) rfl rfl lk_X4_66 rfl (nb rfl) ⟨nb rfl, nb rfl⟩ rfl ?_
          refine g_if_eq (pc := 33) (tgt := 53) dX4_rowOfKind_33 rfl (fun _ => ?_) (fun h33 => absurd (rfl) h33)
          refine g_aload_n (pc := 53) dX4_rowOfKind_53 rfl trivial ?_
          refine g_ldcS (pc := 54) (kS := 7) dX4_rowOfKind_54 rfl ?_
          refine g_invV_r (pc := 56) (As := [_]) dX4_rowOfKind_56 rfl (q7) rfl rfl (shK hS1 rfl) rfl rfl lk_X4_66 rfl (nb rfl) ⟨nb rfl, nb rfl⟩ rfl ?_
          refine g_if_eq (pc := 59) (tgt := 67) dX4_rowOfKind_59 rfl (fun h59 => absurd h59 ((by decide))) (fun _ => ?_)
          refine g_iload_n (pc := 62) dX4_rowOfKind_62 rfl ?_
          refine g_invSN_r (pc := 63) (As := [_]) dX4_rowOfKind_63 rfl (s_lowest (show i ≤ 32 by omega)) rfl rfl lk_X4_126 rfl (nb rfl) ⟨nb rfl, nb rfl⟩ rfl ?_
          refine g_ireturn (pc := 66) dX4_rowOfKind_66 rfl rfl ?_
          exact ⟨rfl, rfl⟩
        | false =>
          refine g_aload_n (pc := 0) dX4_rowOfKind_0 rfl trivial ?_
          refine g_ldcS (pc := 1) (kS := 4) dX4_rowOfKind_1 rfl ?_
          refine g_invV_r (pc := 3) (As := [_]) dX4_rowOfKind_3 rfl (q4) rfl rfl (shK hS1 rfl) rfl rfl lk_X4_66 rfl (nb rfl) ⟨nb rfl, nb rfl⟩ rfl ?_
          refine g_if_eq (pc := 6) (tgt := 13) dX4_rowOfKind_6 rfl (fun _ => ?_) (fun h6 => absurd (rfl) h6)
          refine g_aload_n (pc := 13) dX4_rowOfKind_13 rfl trivial ?_
          refine g_ldcS (pc := 14) (kS := 5) dX4_rowOfKind_14 rfl ?_
          refine g_invV_r (pc := 16) (As := [_]) dX4_rowOfKind_16 rfl (q5) rfl rfl (shK hS1 rfl) rfl rfl lk_X4_66 rfl (nb rfl) ⟨nb rfl, nb rfl⟩ rfl ?_
          refine g_if_eq (pc := 19) (tgt := 27) dX4_rowOfKind_19 rfl (fun _ => ?_) (fun h19 => absurd (rfl) h19)
          refine g_aload_n (pc := 27) dX4_rowOfKind_27 rfl trivial ?_
          refine g_ldcS (pc := 28) (kS := 6) dX4_rowOfKind_28 rfl ?_
          refine g_invV_r (pc := 30) (As := [_]) dX4_rowOfKind_30 rfl (q6) rfl rfl (shK hS1 rfl) rfl rfl lk_X4_66 rfl (nb rfl) ⟨nb rfl, nb rfl⟩ rfl ?_
          refine g_if_eq (pc := 33) (tgt := 53) dX4_rowOfKind_33 rfl (fun _ => ?_) (fun h33 => absurd (rfl) h33)
          refine g_aload_n (pc := 53) dX4_rowOfKind_53 rfl trivial ?_
          refine g_ldcS (pc := 54) (kS := 7) dX4_rowOfKind_54 rfl ?_
          refine g_invV_r (pc := 56) (As := [_]) dX4_rowOfKind_56 rfl (q7) rfl rfl (shK hS1 rfl) rfl rfl lk_X4_66 rfl (nb rfl) ⟨nb rfl, nb rfl⟩ rfl ?_
          refine g_if_eq (pc := 59) (tgt := 67) dX4_rowOfKind_59 rfl (fun _ => ?_) (fun h59 => absurd (rfl) h59)
          refine g_aload_n (pc := 67) dX4_rowOfKind_67 rfl trivial ?_
          refine g_iconst (pc := 68) (v := 1) dX4_rowOfKind_68 rfl ?_
          refine g_aload_n (pc := 69) dX4_rowOfKind_69 rfl trivial ?_
          refine g_getf (pc := 70) (v := .int _) dX4_rowOfKind_70 fk_X4_70 (shK hS1 rfl) (fun _ => congrArg Value.int (hr3)) ?_
          refine g_invV_r (pc := 73) (As := [_, _]) dX4_rowOfKind_73 rfl (r_fail hS) rfl rfl (shK hS1 rfl) rfl rfl lk_X4_73 rfl (nb rfl) ⟨nb rfl, nb rfl⟩ rfl ?_
          refine g_iconst (pc := 76) (v := 0) dX4_rowOfKind_76 rfl ?_
          refine g_ireturn (pc := 77) dX4_rowOfKind_77 rfl rfl ?_
          exact ⟨rfl, rfl⟩
/-- the number read, from 0 on -/
def tnN (T : Nat → Int32) (len h : Nat) (s : RP) : Nat := (tnv T len 0 (nI h) s).toNatClampNeg
theorem tnN_ok (T : Nat → Int32) (len : Nat) {h : Nat} (hh : h < 2147483648) (s : RP) : tnv T len 0 (nI h) s = nI (tnN T len h s) ∧ tnN T len h s ≤ h := by
  obtain ⟨h1, h2⟩ := tnv_in T len 0 (nI h) s (nI_pos hh)
  obtain ⟨j, h3, h4⟩ := nI_of2 (nI_toInt hh) h1 (Int32.not_lt.mp h2)
  unfold tnN
  rw [h4, nI_clamp (by omega)]
  exact ⟨rfl, h3⟩
theorem tnm_le {T : Nat → Int32} {lo hi : Int32} (hp : s.1 ≤ len) : (tnm T len lo hi s).1 ≤ len := by
  rw [(tnm_1 T len lo hi s).1]
  exact (digP_le (skipP_le hp).2).2
theorem tbs_le {T : Nat → Int32} {n : Nat} (hp : s.1 ≤ len) : (tbs T len n s).1.1 ≤ len := by
  rw [(tbs_1 T len n s).1]
  exact (digP_le (skipP_le hp).2).2
theorem r_takeN {h : Nat} (hS : Shp M) (hl : mI M 1 1 = nI len) (hL : len ≤ 600) (hp : s.1 ≤ len) (hh : h < 2147483648) : EvR l jX4_takeNumber 2 60 0 0 [.ref 1, .int 0, .int (nI h)] (rdM M s) (.inl (some (.int (nI (tnN (mI M 2) len h s))))) (rdM M (tnm (mI M 2) len 0 (nI h) s)) := by
  rw [← (tnN_ok (mI M 2) len hh s).1]
  exact r_takeNumber hS hl hL hp
theorem st17 : isSt 17 := st_of (by decide)
theorem mx19 (a : Nat) (h : a < 6) : isMx (19 + 2 * a) ∧ REFT 18 a = some (19 + 2 * a) ∧ LAY[20 + 2 * a]? = some (kI 32) ∧ REFT (19 + 2 * a) 0 = some (20 + 2 * a) := by
  obtain ⟨h1, h2⟩ := st17.2 a h
  rw [show 17 + 2 + 2 * a = 19 + 2 * a by omega] at h1 h2
  have h3 := h1.2.1
  have h4 := h1.2.2
  rw [show 19 + 2 * a + 1 = 20 + 2 * a by omega] at h3 h4
  exact ⟨h1, h2, h3, h4⟩
/-- what a reading leaves: the memory beside the reader's numbers, and these -/
def edS (T : Nat → Int32) (len n : Nat) (s : RP) : RP := tnm T len 0 (nI (n - 1)) (tnm T len 0 (nI (n - 1)) (tnm T len 0 (nI 5) s))
def edM (M : Mem) (len n : Nat) (s : RP) : Mem :=
  sI M (20 + 2 * tnN (mI M 2) len 5 s) (fun_set (mI M (20 + 2 * tnN (mI M 2) len 5 s)) (tnN (mI M 2) len (n - 1) (tnm (mI M 2) len 0 (nI 5) s)) (mI M (20 + 2 * tnN (mI M 2) len 5 s) (tnN (mI M 2) len (n - 1) (tnm (mI M 2) len 0 (nI 5) s)) ||| bitI (tnN (mI M 2) len (n - 1) (tnm (mI M 2) len 0 (nI (n - 1)) (tnm (mI M 2) len 0 (nI 5) s)))))
theorem r_readEdge {n : Nat} (hS : Shp M) (hl : mI M 1 1 = nI len) (hL : len ≤ 600) (hp : s.1 ≤ len) (hz : mI M 17 1 = nI n) (hn : 1 ≤ n) (hn9 : n ≤ 32) : EvR l jX4_readEdge 3 90 0 0 [.ref 1, .ref 17] (rdM M s) (.inl none) (rdM (edM M len n s) (edS (mI M 2) len n s)) := by
  have hS1 : ∀ s, Shp (rdM M s) := fun s => rd_S hS
  have hz1 : ∀ s, mI (rdM M s) 17 1 = nI n := fun s => (congrFun (rd_ne (by decide)) 1).trans hz
  have hp1 := tnm_le (T := mI M 2) (lo := 0) (hi := nI 5) hp
  have hp2 := tnm_le (T := mI M 2) (lo := 0) (hi := nI (n - 1)) hp1
  have ha := (tnN_ok (mI M 2) len (show 5 < 2147483648 by decide) s).2
  have hr := (tnN_ok (mI M 2) len (show n - 1 < 2147483648 by omega) (tnm (mI M 2) len 0 (nI 5) s)).2
  have q1 := r_takeN (l := l) (h := 5) hS hl hL hp (by decide)
  have q2 := r_takeN (l := l) (h := n - 1) hS hl hL hp1 (by omega)
  have q3 := r_takeN (l := l) (h := n - 1) hS hl hL hp2 (by omega)
  unfold edM edS
  refine ev_intro rfl (nb rfl) rfl ?_
  generalize tnm (mI M 2) len 0 (nI 5) s = s1 at *
  generalize tnN (mI M 2) len 5 s = a at *
  generalize tnm (mI M 2) len 0 (nI (n - 1)) s1 = s2 at *
  generalize tnN (mI M 2) len (n - 1) s1 = r at *
  generalize tnm (mI M 2) len 0 (nI (n - 1)) s2 = s3 at *
  generalize tnN (mI M 2) len (n - 1) s2 = c at *
  obtain ⟨m1, m2, m3, m4⟩ := mx19 a (by omega)
  have er : mI (rdM M s3) (20 + 2 * a) = mI M (20 + 2 * a) := rd_ne (by omega)
  refine g_aload_n (pc := 0) dX4_readEdge_0 rfl trivial ?_
  refine g_iconst (pc := 1) (v := 0) dX4_readEdge_1 rfl ?_
  refine g_iconst (pc := 2) (v := (nI 5)) dX4_readEdge_2 rfl ?_
  refine g_invV_r (pc := 3) (As := [_, _]) dX4_readEdge_3 rfl (q1) rfl rfl (shK (hS1 _) rfl) rfl rfl lk_X4_77 rfl (nb rfl) ⟨nb rfl, nb rfl⟩ rfl ?_
  refine g_istore_n (pc := 6) (lv' := [(0, _), (1, _), (2, _)]) dX4_readEdge_6 (nl rfl) rfl ?_
  refine g_aload_n (pc := 7) dX4_readEdge_7 rfl trivial ?_
  refine g_iconst (pc := 8) (v := 0) dX4_readEdge_8 rfl ?_
  refine g_aload_n (pc := 9) dX4_readEdge_9 rfl trivial ?_
  refine g_getf (pc := 10) (v := .int _) dX4_readEdge_10 fk_X4_53 (shK (hS1 _) rfl) (fun _ => congrArg Value.int ((hz1 _))) ?_
  refine g_iconst (pc := 13) (v := 1) dX4_readEdge_13 rfl ?_
  refine g_isub (pc := 14) dX4_readEdge_14 ?_
  rw [nI_m1 hn]
  refine g_invV_r (pc := 15) (As := [_, _]) dX4_readEdge_15 rfl (q2) rfl rfl (shK (hS1 _) rfl) rfl rfl lk_X4_77 rfl (nb rfl) ⟨nb rfl, nb rfl⟩ rfl ?_
  refine g_istore_n (pc := 18) (lv' := [(0, _), (1, _), (2, _), (3, _)]) dX4_readEdge_18 (nl rfl) rfl ?_
  refine g_aload_n (pc := 19) dX4_readEdge_19 rfl trivial ?_
  refine g_iconst (pc := 20) (v := 0) dX4_readEdge_20 rfl ?_
  refine g_aload_n (pc := 21) dX4_readEdge_21 rfl trivial ?_
  refine g_getf (pc := 22) (v := .int _) dX4_readEdge_22 fk_X4_53 (shK (hS1 _) rfl) (fun _ => congrArg Value.int ((hz1 _))) ?_
  refine g_iconst (pc := 25) (v := 1) dX4_readEdge_25 rfl ?_
  refine g_isub (pc := 26) dX4_readEdge_26 ?_
  rw [nI_m1 hn]
  refine g_invV_r (pc := 27) (As := [_, _]) dX4_readEdge_27 rfl (q3) rfl rfl (shK (hS1 _) rfl) rfl rfl lk_X4_77 rfl (nb rfl) ⟨nb rfl, nb rfl⟩ rfl ?_
  refine g_istore (pc := 30) (lv' := [(0, _), (1, _), (2, _), (3, _), (4, _)]) dX4_readEdge_30 (nl rfl) rfl ?_
  refine g_aload_n (pc := 32) dX4_readEdge_32 rfl trivial ?_
  refine g_getf (pc := 33) dX4_readEdge_33 fk_X4_47 (shK (hS1 _) rfl) (fv_arr (shR (hS1 _) rfl)) ?_
  refine g_iload_n (pc := 36) dX4_readEdge_36 rfl ?_
  refine g_aaload_Matrix (pc := 37) dX4_readEdge_37 (shK (hS1 _) rfl) rfl (show a < 6 by omega) (by decide) (shR (hS1 _) m2) ?_
  refine g_getf (pc := 38) dX4_readEdge_38 fk_X4_108 (shK (hS1 _) m1.1) (fv_arr (shR (hS1 _) m4)) ?_
  refine g_iload_n (pc := 41) dX4_readEdge_41 rfl ?_
  refine g_dup2_11 (pc := 42) dX4_readEdge_42 rfl rfl ?_
  refine g_iaload (pc := 43) dX4_readEdge_43 (shK (hS1 _) m3) rfl (show r < 32 by omega) (nl rfl) ?_
  refine g_iconst (pc := 44) (v := 1) dX4_readEdge_44 rfl ?_
  refine g_iload (pc := 45) dX4_readEdge_45 rfl ?_
  refine g_ishl (pc := 47) dX4_readEdge_47 ?_
  refine g_ior (pc := 48) dX4_readEdge_48 ?_
  refine g_iastore (pc := 49) dX4_readEdge_49 (shK (hS1 _) m3) rfl (show r < 32 by omega) (nl rfl) ?_
  refine g_return (pc := 50) dX4_readEdge_50 rfl ?_
  exact ⟨rfl, by rw [er]; exact rd_sI (by omega)⟩
end
end
-- 194.reader
section
section
variable {l : Launch} {M : Mem} {s : RP} {len : Nat}
def rrS (T : Nat → Int32) (len n : Nat) (s : RP) : RP := (tbs T len n (tnm T len 0 (nI (n - 1)) (tnm T len 0 (nI 5) s))).1
def rrM (M : Mem) (len n : Nat) (s : RP) : Mem := sI M (20 + 2 * tnN (mI M 2) len 5 s) (fun_set (mI M (20 + 2 * tnN (mI M 2) len 5 s)) (tnN (mI M 2) len (n - 1) (tnm (mI M 2) len 0 (nI 5) s)) (tbs (mI M 2) len n (tnm (mI M 2) len 0 (nI (n - 1)) (tnm (mI M 2) len 0 (nI 5) s))).2)
theorem r_readRow {n : Nat} (hS : Shp M) (hl : mI M 1 1 = nI len) (hL : len ≤ 600) (hp : s.1 ≤ len) (hz : mI M 17 1 = nI n) (hn : 1 ≤ n) (hn9 : n ≤ 32) : EvR l jX4_readRow 3 90 0 0 [.ref 1, .ref 17] (rdM M s) (.inl none) (rdM (rrM M len n s) (rrS (mI M 2) len n s)) := by
  have hS1 : ∀ s, Shp (rdM M s) := fun s => rd_S hS
  have hz1 : ∀ s, mI (rdM M s) 17 1 = nI n := fun s => (congrFun (rd_ne (by decide)) 1).trans hz
  have hp1 := tnm_le (T := mI M 2) (lo := 0) (hi := nI 5) hp
  have hp2 := tnm_le (T := mI M 2) (lo := 0) (hi := nI (n - 1)) hp1
  have ha := (tnN_ok (mI M 2) len (show 5 < 2147483648 by decide) s).2
  have hr := (tnN_ok (mI M 2) len (show n - 1 < 2147483648 by omega) (tnm (mI M 2) len 0 (nI 5) s)).2
  have q1 := r_takeN (l := l) (h := 5) hS hl hL hp (by decide)
  have q2 := r_takeN (l := l) (h := n - 1) hS hl hL hp1 (by omega)
  have q3 := r_takeBits (l := l) (n := n) hS hl hL hp2 hn9
  unfold rrM rrS
  refine ev_intro rfl (nb rfl) rfl ?_
  generalize tnm (mI M 2) len 0 (nI 5) s = s1 at *
  generalize tnN (mI M 2) len 5 s = a at *
  generalize tnm (mI M 2) len 0 (nI (n - 1)) s1 = s2 at *
  generalize tnN (mI M 2) len (n - 1) s1 = r at *
  generalize tbs (mI M 2) len n s2 = s3 at *
  obtain ⟨m1, m2, m3, m4⟩ := mx19 a (by omega)
  have er : mI (rdM M s3.1) (20 + 2 * a) = mI M (20 + 2 * a) := rd_ne (by omega)
  refine g_aload_n (pc := 0) dX4_readRow_0 rfl trivial ?_
  refine g_iconst (pc := 1) (v := 0) dX4_readRow_1 rfl ?_
  refine g_iconst (pc := 2) (v := (nI 5)) dX4_readRow_2 rfl ?_
  refine g_invV_r (pc := 3) (As := [_, _]) dX4_readRow_3 rfl (q1) rfl rfl (shK (hS1 _) rfl) rfl rfl lk_X4_77 rfl (nb rfl) ⟨nb rfl, nb rfl⟩ rfl ?_
  refine g_istore_n (pc := 6) (lv' := [(0, _), (1, _), (2, _)]) dX4_readRow_6 (nl rfl) rfl ?_
  refine g_aload_n (pc := 7) dX4_readRow_7 rfl trivial ?_
  refine g_iconst (pc := 8) (v := 0) dX4_readRow_8 rfl ?_
  refine g_aload_n (pc := 9) dX4_readRow_9 rfl trivial ?_
  refine g_getf (pc := 10) (v := .int _) dX4_readRow_10 fk_X4_53 (shK (hS1 _) rfl) (fun _ => congrArg Value.int ((hz1 _))) ?_
  refine g_iconst (pc := 13) (v := 1) dX4_readRow_13 rfl ?_
  refine g_isub (pc := 14) dX4_readRow_14 ?_
  rw [nI_m1 hn]
  refine g_invV_r (pc := 15) (As := [_, _]) dX4_readRow_15 rfl (q2) rfl rfl (shK (hS1 _) rfl) rfl rfl lk_X4_77 rfl (nb rfl) ⟨nb rfl, nb rfl⟩ rfl ?_
  refine g_istore_n (pc := 18) (lv' := [(0, _), (1, _), (2, _), (3, _)]) dX4_readRow_18 (nl rfl) rfl ?_
  refine g_aload_n (pc := 19) dX4_readRow_19 rfl trivial ?_
  refine g_getf (pc := 20) dX4_readRow_20 fk_X4_47 (shK (hS1 _) rfl) (fv_arr (shR (hS1 _) rfl)) ?_
  refine g_iload_n (pc := 23) dX4_readRow_23 rfl ?_
  refine g_aaload_Matrix (pc := 24) dX4_readRow_24 (shK (hS1 _) rfl) rfl (show a < 6 by omega) (by decide) (shR (hS1 _) m2) ?_
  refine g_getf (pc := 25) dX4_readRow_25 fk_X4_108 (shK (hS1 _) m1.1) (fv_arr (shR (hS1 _) m4)) ?_
  refine g_iload_n (pc := 28) dX4_readRow_28 rfl ?_
  refine g_aload_n (pc := 29) dX4_readRow_29 rfl trivial ?_
  refine g_aload_n (pc := 30) dX4_readRow_30 rfl trivial ?_
  refine g_getf (pc := 31) (v := .int _) dX4_readRow_31 fk_X4_53 (shK (hS1 _) rfl) (fun _ => congrArg Value.int ((hz1 _))) ?_
  refine g_invV_r (pc := 34) (As := [_]) dX4_readRow_34 rfl (q3) rfl rfl (shK (hS1 _) rfl) rfl rfl lk_X4_111 rfl (nb rfl) ⟨nb rfl, nb rfl⟩ rfl ?_
  refine g_iastore (pc := 37) dX4_readRow_37 (shK (hS1 _) m3) rfl (show r < 32 by omega) (nl rfl) ?_
  refine g_return (pc := 38) dX4_readRow_38 rfl ?_
  exact ⟨rfl, by rw [er]; exact rd_sI (by omega)⟩
def rkS (M : Mem) (len : Nat) (s : RP) : RP := if mI M (19 + 2 * tnN (mI M 2) len 5 s) 1 = 0 then tnm (mI M 2) len 0 (nI 5) s else rFail 3 (tnm (mI M 2) len 0 (nI 5) s).2.1 (tnm (mI M 2) len 0 (nI 5) s)
def rkM (M : Mem) (len : Nat) (s : RP) : Mem := pI M (19 + 2 * tnN (mI M 2) len 5 s) 1 1
theorem r_readKeep (hS : Shp M) (hl : mI M 1 1 = nI len) (hL : len ≤ 600) (hp : s.1 ≤ len) : EvR l jX4_readKeep 3 90 0 0 [.ref 1, .ref 17] (rdM M s) (.inl none) (rdM (rkM M len s) (rkS M len s)) := by
  have hS1 : ∀ s, Shp (rdM M s) := fun s => rd_S hS
  have ha := (tnN_ok (mI M 2) len (show 5 < 2147483648 by decide) s).2
  have q1 := r_takeN (l := l) (h := 5) hS hl hL hp (by decide)
  unfold rkM rkS
  refine ev_intro rfl (nb rfl) rfl ?_
  generalize tnm (mI M 2) len 0 (nI 5) s = s1 at *
  generalize tnN (mI M 2) len 5 s = a at *
  obtain ⟨m1, m2, m3, m4⟩ := mx19 a (by omega)
  have er : ∀ s, mI (rdM M s) (19 + 2 * a) 1 = mI M (19 + 2 * a) 1 := fun s => congrFun (rd_ne (by omega)) 1
  have hr3 : mI (rdM M s1) 1 3 = s1.2.1 := rd_3
  refine g_aload_n (pc := 0) dX4_readKeep_0 rfl trivial ?_
  refine g_iconst (pc := 1) (v := 0) dX4_readKeep_1 rfl ?_
  refine g_iconst (pc := 2) (v := (nI 5)) dX4_readKeep_2 rfl ?_
  refine g_invV_r (pc := 3) (As := [_, _]) dX4_readKeep_3 rfl (q1) rfl rfl (shK (hS1 _) rfl) rfl rfl lk_X4_77 rfl (nb rfl) ⟨nb rfl, nb rfl⟩ rfl ?_
  refine g_istore_n (pc := 6) (lv' := [(0, _), (1, _), (2, _)]) dX4_readKeep_6 (nl rfl) rfl ?_
  refine g_aload_n (pc := 7) dX4_readKeep_7 rfl trivial ?_
  refine g_getf (pc := 8) dX4_readKeep_8 fk_X4_47 (shK (hS1 _) rfl) (fv_arr (shR (hS1 _) rfl)) ?_
  refine g_iload_n (pc := 11) dX4_readKeep_11 rfl ?_
  refine g_aaload_Matrix (pc := 12) dX4_readKeep_12 (shK (hS1 _) rfl) rfl (show a < 6 by omega) (by decide) (shR (hS1 _) m2) ?_
  refine g_getf (pc := 13) (v := .int _) dX4_readKeep_13 fk_X4_115 (shK (hS1 _) m1.1) (fun _ => congrArg Value.int ((er _))) ?_
  refine g_if_eq (pc := 16) (tgt := 28) dX4_readKeep_16 rfl (fun h16 => ?_) (fun h16 => ?_)
  · rw [if_pos h16]
    refine g_aload_n (pc := 28) dX4_readKeep_28 rfl trivial ?_
    refine g_getf (pc := 29) dX4_readKeep_29 fk_X4_47 (shK (hS1 _) rfl) (fv_arr (shR (hS1 _) rfl)) ?_
    refine g_iload_n (pc := 32) dX4_readKeep_32 rfl ?_
    refine g_aaload_Matrix (pc := 33) dX4_readKeep_33 (shK (hS1 _) rfl) rfl (show a < 6 by omega) (by decide) (shR (hS1 _) m2) ?_
    refine g_iconst (pc := 34) (v := 1) dX4_readKeep_34 rfl ?_
    refine g_putI (pc := 35) dX4_readKeep_35 fp_X4_115 (shK (hS1 _) m1.1) ⟨rfl, rfl⟩ (fun _ _ _ _ => rfl) ?_
    refine g_return (pc := 38) dX4_readKeep_38 rfl ?_
    exact ⟨rfl, rd_pI (by omega)⟩
  · rw [if_neg h16]
    refine g_aload_n (pc := 19) dX4_readKeep_19 rfl trivial ?_
    refine g_iconst (pc := 20) (v := 3) dX4_readKeep_20 rfl ?_
    refine g_aload_n (pc := 21) dX4_readKeep_21 rfl trivial ?_
    refine g_getf (pc := 22) (v := .int _) dX4_readKeep_22 fk_X4_70 (shK (hS1 _) rfl) (fun _ => congrArg Value.int (hr3)) ?_
    refine g_invV_r (pc := 25) (As := [_, _]) dX4_readKeep_25 rfl (r_fail hS) rfl rfl (shK (hS1 _) rfl) rfl rfl lk_X4_73 rfl (nb rfl) ⟨nb rfl, nb rfl⟩ rfl ?_
    refine g_aload_n (pc := 28) dX4_readKeep_28 rfl trivial ?_
    refine g_getf (pc := 29) dX4_readKeep_29 fk_X4_47 (shK (hS1 _) rfl) (fv_arr (shR (hS1 _) rfl)) ?_
    refine g_iload_n (pc := 32) dX4_readKeep_32 rfl ?_
    refine g_aaload_Matrix (pc := 33) dX4_readKeep_33 (shK (hS1 _) rfl) rfl (show a < 6 by omega) (by decide) (shR (hS1 _) m2) ?_
    refine g_iconst (pc := 34) (v := 1) dX4_readKeep_34 rfl ?_
    refine g_putI (pc := 35) dX4_readKeep_35 fp_X4_115 (shK (hS1 _) m1.1) ⟨rfl, rfl⟩ (fun _ _ _ _ => rfl) ?_
    refine g_return (pc := 38) dX4_readKeep_38 rfl ?_
    exact ⟨rfl, rd_pI (by omega)⟩
def fiS (T : Nat → Int32) (b p n : Nat) (s : RP) : Nat → RP
  | 0 => s
  | k + 1 => kdS T b p n k (fiS T b p n s k)
theorem fiS_1 (T : Nat → Int32) (b p n : Nat) (s : RP) : ∀ k, (fiS T b p n s k).1 = s.1 ∧ (fiS T b p n s k).2.1 = s.2.1
  | 0 => ⟨rfl, rfl⟩
  | k + 1 => by
    rw [fiS, (kdS_1 _ _ _ _ _ _).1, (kdS_1 _ _ _ _ _ _).2]
    exact fiS_1 T b p n s k
def kdG (T : Nat → Int32) (b p n : Nat) (i : Nat) : Int32 := (kdV T b p n i).getD 0
theorem twd_le {T : Nat → Int32} (hp : s.1 ≤ len) : (twd T len s).1 ≤ len ∧ skipP T len s.1 ≤ (twd T len s).1 := by
  have h1 := skipP_le (T := T) hp
  have h2 := wordP_le (T := T) h1.2
  exact ⟨h2.2, h2.1⟩
def rfS (T : Nat → Int32) (len n : Nat) (s : RP) : RP := fiS T (skipP T len (tnm T len 0 (nI 5) s).1) (twd T len (tnm T len 0 (nI 5) s)).1 n (twd T len (tnm T len 0 (nI 5) s)) n
def rfM (M : Mem) (len n : Nat) (s : RP) : Mem := sI M (20 + 2 * tnN (mI M 2) len 5 s) (wr (mI M (20 + 2 * tnN (mI M 2) len 5 s)) (kdG (mI M 2) (skipP (mI M 2) len (tnm (mI M 2) len 0 (nI 5) s).1) (twd (mI M 2) len (tnm (mI M 2) len 0 (nI 5) s)).1 n) n)
theorem r_readFill {n : Nat} (hS : Shp M) (hl : mI M 1 1 = nI len) (hL : len ≤ 600) (hp : s.1 ≤ len) (hz : mI M 17 1 = nI n) (hn9 : n ≤ 32) : EvR l jX4_readFill 6 160 0 0 [.ref 1, .ref 17] (rdM M s) (.inl none) (rdM (rfM M len n s) (rfS (mI M 2) len n s)) := by
  have hS1 : ∀ s, Shp (rdM M s) := fun s => rd_S hS
  have ha := (tnN_ok (mI M 2) len (show 5 < 2147483648 by decide) s).2
  have hp1 := tnm_le (T := mI M 2) (lo := 0) (hi := nI 5) hp
  have q1 := r_takeN (l := l) (h := 5) hS hl hL hp (by decide)
  have q2 := r_takeWord (l := l) hS hl hL hp1
  have hw := twd_le (T := mI M 2) hp1
  have hw2 : (twd (mI M 2) len (tnm (mI M 2) len 0 (nI 5) s)).2.1 = nI (skipP (mI M 2) len (tnm (mI M 2) len 0 (nI 5) s).1) := rfl
  unfold rfM rfS
  refine ev_intro rfl (nb rfl) rfl ?_
  generalize twd (mI M 2) len (tnm (mI M 2) len 0 (nI 5) s) = s2 at *
  generalize skipP (mI M 2) len (tnm (mI M 2) len 0 (nI 5) s).1 = b at *
  generalize tnm (mI M 2) len 0 (nI 5) s = s1 at *
  generalize tnN (mI M 2) len 5 s = a at *
  obtain ⟨m1, m2, m3, m4⟩ := mx19 a (by omega)
  refine g_aload_n (pc := 0) dX4_readFill_0 rfl trivial ?_
  refine g_iconst (pc := 1) (v := 0) dX4_readFill_1 rfl ?_
  refine g_iconst (pc := 2) (v := (nI 5)) dX4_readFill_2 rfl ?_
  refine g_invV_r (pc := 3) (As := [_, _]) dX4_readFill_3 rfl (q1) rfl rfl (shK (hS1 _) rfl) rfl rfl lk_X4_77 rfl (nb rfl) ⟨nb rfl, nb rfl⟩ rfl ?_
  refine g_istore_n (pc := 6) (lv' := [(0, _), (1, _), (2, _)]) dX4_readFill_6 (nl rfl) rfl ?_
  refine g_aload_n (pc := 7) dX4_readFill_7 rfl trivial ?_
  refine g_invV_r (pc := 8) (As := []) dX4_readFill_8 rfl (q2) rfl rfl (shK (hS1 _) rfl) rfl rfl lk_X4_62 rfl (nb rfl) ⟨nb rfl, nb rfl⟩ rfl ?_
  refine g_iconst (pc := 11) (v := 0) dX4_readFill_11 rfl ?_
  refine g_istore_n (pc := 12) (lv' := [(0, _), (1, _), (2, _), (3, _)]) dX4_readFill_12 (nl rfl) rfl ?_
  refine go_loop (pc := 13) n (fun i => [(0, .ref 1), (1, .ref 17), (2, .int (nI a)), (3, .int (nI i))]) (fun i => rdM (sI M (20 + 2 * a) (wr (mI M (20 + 2 * a)) (kdG (mI M 2) b s2.1 n) i)) (fiS (mI M 2) b s2.1 n s2 i)) ⟨rfl, rfl, rfl, rfl, trivial⟩ (by rw [wr_0, sI_id]; rfl) ?_ ?_
  · intro i hi ih
    have hS2 : Shp (sI M (20 + 2 * a) (wr (mI M (20 + 2 * a)) (kdG (mI M 2) b s2.1 n) i)) := shp_sI hS
    have hz2 : mI (sI M (20 + 2 * a) (wr (mI M (20 + 2 * a)) (kdG (mI M 2) b s2.1 n) i)) 17 1 = nI n := (congrFun (sI_ne (by omega)) 1).trans hz
    have eT : mI (sI M (20 + 2 * a) (wr (mI M (20 + 2 * a)) (kdG (mI M 2) b s2.1 n) i)) 2 = mI M 2 := sI_ne (by omega)
    obtain ⟨f1, f2⟩ := fiS_1 (mI M 2) b s2.1 n s2 i
    rw [fiS] at ih
    have eN : ∀ s, pI (rdM (sI M (20 + 2 * a) (wr (mI M (20 + 2 * a)) (kdG (mI M 2) b s2.1 n) i)) s) (20 + 2 * a) i (kdG (mI M 2) b s2.1 n i) = rdM (sI M (20 + 2 * a) (wr (mI M (20 + 2 * a)) (kdG (mI M 2) b s2.1 n) (i + 1))) s := fun s => by
      rw [rd_pI (by omega), sI_st (wr_s _ _ i)]
    have qk := r_rowOfKind (l := l) (s := fiS (mI M 2) b s2.1 n s2 i) (b := b) (n := n) (i := i) hS2 (by rw [f1]; omega) (by rw [f2]; exact hw2) (by rw [f1]; exact hw.2) hn9 hi
    rw [eT, f1] at qk
    generalize sI M (20 + 2 * a) (wr (mI M (20 + 2 * a)) (kdG (mI M 2) b s2.1 n) i) = M1 at *
    have hS3 : ∀ s, Shp (rdM M1 s) := fun s => rd_S hS2
    have hz3 : ∀ s, mI (rdM M1 s) 17 1 = nI n := fun s => (congrFun (rd_ne (by decide)) 1).trans hz2
    generalize fiS (mI M 2) b s2.1 n s2 i = s3 at *
    refine g_iload_n (pc := 13) dX4_readFill_13 rfl ?_
    refine g_aload_n (pc := 14) dX4_readFill_14 rfl trivial ?_
    refine g_getf (pc := 15) (v := .int _) dX4_readFill_15 fk_X4_53 (shK (hS3 _) rfl) (fun _ => congrArg Value.int ((hz3 _))) ?_
    refine g_icmp_ge (pc := 18) (tgt := 47) dX4_readFill_18 rfl (fun h18 => absurd h18 (nI_ge hi (by omega))) (fun _ => ?_)
    refine g_aload_n (pc := 21) dX4_readFill_21 rfl trivial ?_
    refine g_getf (pc := 22) dX4_readFill_22 fk_X4_47 (shK (hS3 _) rfl) (fv_arr (shR (hS3 _) rfl)) ?_
    refine g_iload_n (pc := 25) dX4_readFill_25 rfl ?_
    refine g_aaload_Matrix (pc := 26) dX4_readFill_26 (shK (hS3 _) rfl) rfl (show a < 6 by omega) (by decide) (shR (hS3 _) m2) ?_
    refine g_getf (pc := 27) dX4_readFill_27 fk_X4_108 (shK (hS3 _) m1.1) (fv_arr (shR (hS3 _) m4)) ?_
    refine g_iload_n (pc := 30) dX4_readFill_30 rfl ?_
    refine g_aload_n (pc := 31) dX4_readFill_31 rfl trivial ?_
    refine g_iload_n (pc := 32) dX4_readFill_32 rfl ?_
    refine g_aload_n (pc := 33) dX4_readFill_33 rfl trivial ?_
    refine g_getf (pc := 34) (v := .int _) dX4_readFill_34 fk_X4_53 (shK (hS3 _) rfl) (fun _ => congrArg Value.int ((hz3 _))) ?_
    refine g_invV_r (pc := 37) (As := [_, _]) dX4_readFill_37 rfl (qk) rfl rfl (shK (hS3 _) rfl) rfl rfl lk_X4_119 rfl (nb rfl) ⟨nb rfl, nb rfl⟩ rfl ?_
    refine g_iastore (pc := 40) dX4_readFill_40 (shK (hS3 _) m3) rfl (show i < 32 by omega) (nl rfl) ?_
    refine go_cast (eN _) ?_
    refine g_iinc (pc := 41) (lv' := [(0, _), (1, _), (2, _), (3, _)]) dX4_readFill_41 rfl (nI_1 _) (nl rfl) rfl ?_
    refine g_goto (pc := 44) (tgt := 13) dX4_readFill_44 rfl ?_
    exact ih
  · have hS2 : Shp (sI M (20 + 2 * a) (wr (mI M (20 + 2 * a)) (kdG (mI M 2) b s2.1 n) n)) := shp_sI hS
    have hz2 : mI (sI M (20 + 2 * a) (wr (mI M (20 + 2 * a)) (kdG (mI M 2) b s2.1 n) n)) 17 1 = nI n := (congrFun (sI_ne (by omega)) 1).trans hz
    generalize sI M (20 + 2 * a) (wr (mI M (20 + 2 * a)) (kdG (mI M 2) b s2.1 n) n) = M1 at *
    generalize fiS (mI M 2) b s2.1 n s2 n = s3 at *
    have hS3 : ∀ s, Shp (rdM M1 s) := fun s => rd_S hS2
    have hz3 : ∀ s, mI (rdM M1 s) 17 1 = nI n := fun s => (congrFun (rd_ne (by decide)) 1).trans hz2
    refine g_iload_n (pc := 13) dX4_readFill_13 rfl ?_
    refine g_aload_n (pc := 14) dX4_readFill_14 rfl trivial ?_
    refine g_getf (pc := 15) (v := .int _) dX4_readFill_15 fk_X4_53 (shK (hS3 _) rfl) (fun _ => congrArg Value.int ((hz3 _))) ?_
    refine g_icmp_ge (pc := 18) (tgt := 47) dX4_readFill_18 rfl (fun _ => ?_) (fun h18 => absurd (nI_le (Nat.le_refl _) (by omega)) h18)
    refine g_return (pc := 47) dX4_readFill_47 rfl ?_
    exact ⟨rfl, rfl⟩
end
end
-- 195.reader
section
section
variable {l : Launch} {M : Mem} {s : RP} {len : Nat}
/-- a statement read -/
def rsR (M : Mem) (len n : Nat) (s : RP) : Mem × RP :=
  if wdQ (mI M 2) (skipP (mI M 2) len s.1) (twd (mI M 2) len s).1 (strW 1) = true then (edM M len n (twd (mI M 2) len s), edS (mI M 2) len n (twd (mI M 2) len s))
  else if wdQ (mI M 2) (skipP (mI M 2) len s.1) (twd (mI M 2) len s).1 (strW 2) = true then (rrM M len n (twd (mI M 2) len s), rrS (mI M 2) len n (twd (mI M 2) len s))
  else if wdQ (mI M 2) (skipP (mI M 2) len s.1) (twd (mI M 2) len s).1 (strW 3) = true then (rfM M len n (twd (mI M 2) len s), rfS (mI M 2) len n (twd (mI M 2) len s))
  else if wdQ (mI M 2) (skipP (mI M 2) len s.1) (twd (mI M 2) len s).1 (strW 8) = true then (rkM M len (twd (mI M 2) len s), rkS M len (twd (mI M 2) len s))
  else if wdQ (mI M 2) (skipP (mI M 2) len s.1) (twd (mI M 2) len s).1 (strW 9) = true then (pI M 17 2 (tnv (mI M 2) len 1 8 (twd (mI M 2) len s)), tnm (mI M 2) len 1 8 (twd (mI M 2) len s))
  else (M, rFail 1 (nI (skipP (mI M 2) len s.1)) (twd (mI M 2) len s))
theorem r_readStatement {n : Nat} (hS : Shp M) (hl : mI M 1 1 = nI len) (hL : len ≤ 600) (hp : s.1 ≤ len) (hz : mI M 17 1 = nI n) (hn : 1 ≤ n) (hn9 : n ≤ 32) : EvR l jX4_readStatement 7 190 0 0 [.ref 1, .ref 17] (rdM M s) (.inl none) (rdM (rsR M len n s).1 (rsR M len n s).2) := by
  have hS1 : ∀ s, Shp (rdM M s) := fun s => rd_S hS
  have q0 := r_takeWord (l := l) hS hl hL hp
  have hw := twd_le (T := mI M 2) hp
  have hw2 : (twd (mI M 2) len s).2.1 = nI (skipP (mI M 2) len s.1) := rfl
  unfold rsR
  generalize twd (mI M 2) len s = s1 at *
  generalize skipP (mI M 2) len s.1 = b at *
  have w : ∀ k, k < strT.length → EvR l jX4_isWord 4 100 0 0 [.ref 1, .retAddr (2 * k + 2)] (rdM M s1) (.inl (some (.int (b1 (wdQ (mI M 2) b s1.1 (strW k)))))) (rdM M s1) := fun k hk => r_isW k hS (by omega) hw2 hw.2 hk
  have w1 := w 1 (by decide)
  have w2 := w 2 (by decide)
  have w3 := w 3 (by decide)
  have w8 := w 8 (by decide)
  have w9 := w 9 (by decide)
  have t1 := r_readEdge (l := l) (s := s1) hS hl hL hw.1 hz hn hn9
  have t2 := r_readRow (l := l) (s := s1) hS hl hL hw.1 hz hn hn9
  have t3 := r_readFill (l := l) (s := s1) hS hl hL hw.1 hz hn9
  have t8 := r_readKeep (l := l) (s := s1) hS hl hL hw.1
  have t9 := r_takeNumber (l := l) (s := s1) (lo := 1) (hi := 8) hS hl hL hw.1
  have hr3 : mI (rdM M s1) 1 3 = nI b := rd_3.trans hw2
  generalize wdQ (mI M 2) b s1.1 (strW 1) = c1 at *
  generalize wdQ (mI M 2) b s1.1 (strW 2) = c2 at *
  generalize wdQ (mI M 2) b s1.1 (strW 3) = c3 at *
  generalize wdQ (mI M 2) b s1.1 (strW 8) = c8 at *
  generalize wdQ (mI M 2) b s1.1 (strW 9) = c9 at *
  generalize edM M len n s1 = m1 at *
  generalize edS (mI M 2) len n s1 = e1 at *
  generalize rrM M len n s1 = m2 at *
  generalize rrS (mI M 2) len n s1 = e2 at *
  generalize rfM M len n s1 = m3 at *
  generalize rfS (mI M 2) len n s1 = e3 at *
  generalize rkM M len s1 = m8 at *
  generalize rkS M len s1 = e8 at *
  refine ev_intro rfl (nb rfl) rfl ?_
  refine g_aload_n (pc := 0) dX4_readStatement_0 rfl trivial ?_
  refine g_invV_r (pc := 1) (As := []) dX4_readStatement_1 rfl (q0) rfl rfl (shK (hS1 _) rfl) rfl rfl lk_X4_62 rfl (nb rfl) ⟨nb rfl, nb rfl⟩ rfl ?_
  skip
  cases c1 with
  | true =>
    refine g_aload_n (pc := 4) dX4_readStatement_4 rfl trivial ?_
    refine g_ldcS (pc := 5) (kS := 1) dX4_readStatement_5 rfl ?_
    refine g_invV_r (pc := 7) (As := [_]) dX4_readStatement_7 rfl (w1) rfl rfl (shK (hS1 _) rfl) rfl rfl lk_X4_66 rfl (nb rfl) ⟨nb rfl, nb rfl⟩ rfl ?_
    refine g_if_eq (pc := 10) (tgt := 21) dX4_readStatement_10 rfl (fun h10 => absurd h10 ((by decide))) (fun _ => ?_)
    refine g_aload_n (pc := 13) dX4_readStatement_13 rfl trivial ?_
    refine g_aload_n (pc := 14) dX4_readStatement_14 rfl trivial ?_
    refine g_invV_r (pc := 15) (As := [_]) dX4_readStatement_15 rfl (t1) rfl rfl (shK (hS1 _) rfl) rfl rfl lk_X4_86 rfl (nb rfl) ⟨nb rfl, nb rfl⟩ rfl ?_
    refine g_goto (pc := 18) (tgt := 104) dX4_readStatement_18 rfl ?_
    refine g_return (pc := 104) dX4_readStatement_104 rfl ?_
    exact ⟨rfl, rfl⟩
  | false =>
    refine g_aload_n (pc := 4) dX4_readStatement_4 rfl trivial ?_
    refine g_ldcS (pc := 5) (kS := 1) dX4_readStatement_5 rfl ?_
    refine g_invV_r (pc := 7) (As := [_]) dX4_readStatement_7 rfl (w1) rfl rfl (shK (hS1 _) rfl) rfl rfl lk_X4_66 rfl (nb rfl) ⟨nb rfl, nb rfl⟩ rfl ?_
    refine g_if_eq (pc := 10) (tgt := 21) dX4_readStatement_10 rfl (fun _ => ?_) (fun h10 => absurd (rfl) h10)
    skip
    cases c2 with
    | true =>
      refine g_aload_n (pc := 21) dX4_readStatement_21 rfl trivial ?_
      refine g_ldcS (pc := 22) (kS := 2) dX4_readStatement_22 rfl ?_
      refine g_invV_r (pc := 24) (As := [_]) dX4_readStatement_24 rfl (w2) rfl rfl (shK (hS1 _) rfl) rfl rfl lk_X4_66 rfl (nb rfl) ⟨nb rfl, nb rfl⟩ rfl ?_
      refine g_if_eq (pc := 27) (tgt := 38) dX4_readStatement_27 rfl (fun h27 => absurd h27 ((by decide))) (fun _ => ?_)
      refine g_aload_n (pc := 30) dX4_readStatement_30 rfl trivial ?_
      refine g_aload_n (pc := 31) dX4_readStatement_31 rfl trivial ?_
      refine g_invV_r (pc := 32) (As := [_]) dX4_readStatement_32 rfl (t2) rfl rfl (shK (hS1 _) rfl) rfl rfl lk_X4_91 rfl (nb rfl) ⟨nb rfl, nb rfl⟩ rfl ?_
      refine g_goto (pc := 35) (tgt := 104) dX4_readStatement_35 rfl ?_
      refine g_return (pc := 104) dX4_readStatement_104 rfl ?_
      exact ⟨rfl, rfl⟩
    | false =>
      refine g_aload_n (pc := 21) dX4_readStatement_21 rfl trivial ?_
      refine g_ldcS (pc := 22) (kS := 2) dX4_readStatement_22 rfl ?_
      refine g_invV_r (pc := 24) (As := [_]) dX4_readStatement_24 rfl (w2) rfl rfl (shK (hS1 _) rfl) rfl rfl lk_X4_66 rfl (nb rfl) ⟨nb rfl, nb rfl⟩ rfl ?_
      refine g_if_eq (pc := 27) (tgt := 38) dX4_readStatement_27 rfl (fun _ => ?_) (fun h27 => absurd (rfl) h27)
      skip
      cases c3 with
      | true =>
        refine g_aload_n (pc := 38) dX4_readStatement_38 rfl trivial ?_
        refine g_ldcS (pc := 39) (kS := 3) dX4_readStatement_39 rfl ?_
        refine g_invV_r (pc := 41) (As := [_]) dX4_readStatement_41 rfl (w3) rfl rfl (shK (hS1 _) rfl) rfl rfl lk_X4_66 rfl (nb rfl) ⟨nb rfl, nb rfl⟩ rfl ?_
        refine g_if_eq (pc := 44) (tgt := 55) dX4_readStatement_44 rfl (fun h44 => absurd h44 ((by decide))) (fun _ => ?_)
        refine g_aload_n (pc := 47) dX4_readStatement_47 rfl trivial ?_
        refine g_aload_n (pc := 48) dX4_readStatement_48 rfl trivial ?_
        refine g_invV_r (pc := 49) (As := [_]) dX4_readStatement_49 rfl (t3) rfl rfl (shK (hS1 _) rfl) rfl rfl lk_X4_96 rfl (nb rfl) ⟨nb rfl, nb rfl⟩ rfl ?_
        refine g_goto (pc := 52) (tgt := 104) dX4_readStatement_52 rfl ?_
        refine g_return (pc := 104) dX4_readStatement_104 rfl ?_
        exact ⟨rfl, rfl⟩
      | false =>
        refine g_aload_n (pc := 38) dX4_readStatement_38 rfl trivial ?_
        refine g_ldcS (pc := 39) (kS := 3) dX4_readStatement_39 rfl ?_
        refine g_invV_r (pc := 41) (As := [_]) dX4_readStatement_41 rfl (w3) rfl rfl (shK (hS1 _) rfl) rfl rfl lk_X4_66 rfl (nb rfl) ⟨nb rfl, nb rfl⟩ rfl ?_
        refine g_if_eq (pc := 44) (tgt := 55) dX4_readStatement_44 rfl (fun _ => ?_) (fun h44 => absurd (rfl) h44)
        skip
        cases c8 with
        | true =>
          refine g_aload_n (pc := 55) dX4_readStatement_55 rfl trivial ?_
          refine g_ldcS (pc := 56) (kS := 8) dX4_readStatement_56 rfl ?_
          refine g_invV_r (pc := 58) (As := [_]) dX4_readStatement_58 rfl (w8) rfl rfl (shK (hS1 _) rfl) rfl rfl lk_X4_66 rfl (nb rfl) ⟨nb rfl, nb rfl⟩ rfl ?_
          refine g_if_eq (pc := 61) (tgt := 72) dX4_readStatement_61 rfl (fun h61 => absurd h61 ((by decide))) (fun _ => ?_)
          refine g_aload_n (pc := 64) dX4_readStatement_64 rfl trivial ?_
          refine g_aload_n (pc := 65) dX4_readStatement_65 rfl trivial ?_
          refine g_invV_r (pc := 66) (As := [_]) dX4_readStatement_66 rfl (t8) rfl rfl (shK (hS1 _) rfl) rfl rfl lk_X4_101 rfl (nb rfl) ⟨nb rfl, nb rfl⟩ rfl ?_
          refine g_goto (pc := 69) (tgt := 104) dX4_readStatement_69 rfl ?_
          refine g_return (pc := 104) dX4_readStatement_104 rfl ?_
          exact ⟨rfl, rfl⟩
        | false =>
          cases c9 with
          | true =>
            refine g_aload_n (pc := 55) dX4_readStatement_55 rfl trivial ?_
            refine g_ldcS (pc := 56) (kS := 8) dX4_readStatement_56 rfl ?_
            refine g_invV_r (pc := 58) (As := [_]) dX4_readStatement_58 rfl (w8) rfl rfl (shK (hS1 _) rfl) rfl rfl lk_X4_66 rfl (nb rfl) ⟨nb rfl, nb rfl⟩ rfl ?_
            refine g_if_eq (pc := 61) (tgt := 72) dX4_readStatement_61 rfl (fun _ => ?_) (fun h61 => absurd (rfl) h61)
            refine g_aload_n (pc := 72) dX4_readStatement_72 rfl trivial ?_
            refine g_ldcS (pc := 73) (kS := 9) dX4_readStatement_73 rfl ?_
            refine g_invV_r (pc := 75) (As := [_]) dX4_readStatement_75 rfl (w9) rfl rfl (shK (hS1 _) rfl) rfl rfl lk_X4_66 rfl (nb rfl) ⟨nb rfl, nb rfl⟩ rfl ?_
            refine g_if_eq (pc := 78) (tgt := 95) dX4_readStatement_78 rfl (fun h78 => absurd h78 ((by decide))) (fun _ => ?_)
            refine g_aload_n (pc := 81) dX4_readStatement_81 rfl trivial ?_
            refine g_aload_n (pc := 82) dX4_readStatement_82 rfl trivial ?_
            refine g_iconst (pc := 83) (v := 1) dX4_readStatement_83 rfl ?_
            refine g_bipush (pc := 84) (v := 8) dX4_readStatement_84 rfl ?_
            refine g_invV_r (pc := 86) (As := [_, _]) dX4_readStatement_86 rfl (t9) rfl rfl (shK (hS1 _) rfl) rfl rfl lk_X4_77 rfl (nb rfl) ⟨nb rfl, nb rfl⟩ rfl ?_
            refine g_putI (pc := 89) dX4_readStatement_89 fp_X4_106 (shK (hS1 _) rfl) ⟨rfl, rfl⟩ (fun _ _ _ _ => rfl) ?_
            refine g_goto (pc := 92) (tgt := 104) dX4_readStatement_92 rfl ?_
            refine g_return (pc := 104) dX4_readStatement_104 rfl ?_
            exact ⟨rfl, rd_pI (by decide)⟩
          | false =>
            refine g_aload_n (pc := 55) dX4_readStatement_55 rfl trivial ?_
            refine g_ldcS (pc := 56) (kS := 8) dX4_readStatement_56 rfl ?_
            refine g_invV_r (pc := 58) (As := [_]) dX4_readStatement_58 rfl (w8) rfl rfl (shK (hS1 _) rfl) rfl rfl lk_X4_66 rfl (nb rfl) ⟨nb rfl, nb rfl⟩ rfl ?_
            refine g_if_eq (pc := 61) (tgt := 72) dX4_readStatement_61 rfl (fun _ => ?_) (fun h61 => absurd (rfl) h61)
            refine g_aload_n (pc := 72) dX4_readStatement_72 rfl trivial ?_
            refine g_ldcS (pc := 73) (kS := 9) dX4_readStatement_73 rfl ?_
            refine g_invV_r (pc := 75) (As := [_]) dX4_readStatement_75 rfl (w9) rfl rfl (shK (hS1 _) rfl) rfl rfl lk_X4_66 rfl (nb rfl) ⟨nb rfl, nb rfl⟩ rfl ?_
            refine g_if_eq (pc := 78) (tgt := 95) dX4_readStatement_78 rfl (fun _ => ?_) (fun h78 => absurd (rfl) h78)
            refine g_aload_n (pc := 95) dX4_readStatement_95 rfl trivial ?_
            refine g_iconst (pc := 96) (v := 1) dX4_readStatement_96 rfl ?_
            refine g_aload_n (pc := 97) dX4_readStatement_97 rfl trivial ?_
            refine g_getf (pc := 98) (v := .int _) dX4_readStatement_98 fk_X4_70 (shK (hS1 _) rfl) (fun _ => congrArg Value.int (hr3)) ?_
            refine g_invV_r (pc := 101) (As := [_, _]) dX4_readStatement_101 rfl (r_fail hS) rfl rfl (shK (hS1 _) rfl) rfl rfl lk_X4_73 rfl (nb rfl) ⟨nb rfl, nb rfl⟩ rfl ?_
            refine g_return (pc := 104) dX4_readStatement_104 rfl ?_
            exact ⟨rfl, rfl⟩
theorem sI_okA {a : Nat} {f : Nat → Int32} (hS : Shp M) (ha : a ≤ 5) : Shp (sI M (20 + 2 * a) f) ∧ (∀ i, i < 17 ∨ 31 ≤ i → mI (sI M (20 + 2 * a) f) i = mI M i) ∧ mI (sI M (20 + 2 * a) f) 17 1 = mI M 17 1 :=
  ⟨shp_sI hS, fun i h => sI_ne (by omega), congrFun (sI_ne (by omega)) 1⟩
theorem pI_okA {a : Nat} {v : Int32} (hS : Shp M) (ha : a ≤ 5) : Shp (pI M (19 + 2 * a) 1 v) ∧ (∀ i, i < 17 ∨ 31 ≤ i → mI (pI M (19 + 2 * a) 1 v) i = mI M i) ∧ mI (pI M (19 + 2 * a) 1 v) 17 1 = mI M 17 1 :=
  ⟨shp_pI hS, fun i h => pI_i (by omega), congrFun (pI_i (by omega)) 1⟩
theorem tn5 (T : Nat → Int32) (len : Nat) (s : RP) : tnN T len 5 s ≤ 5 := (tnN_ok T len (show 5 < 2147483648 by decide) s).2
theorem edM_ok {n : Nat} (hS : Shp M) : Shp (edM M len n s) ∧ (∀ i, i < 17 ∨ 31 ≤ i → mI (edM M len n s) i = mI M i) ∧ mI (edM M len n s) 17 1 = mI M 17 1 := by
  unfold edM; exact sI_okA hS (tn5 _ _ _)
theorem rrM_ok {n : Nat} (hS : Shp M) : Shp (rrM M len n s) ∧ (∀ i, i < 17 ∨ 31 ≤ i → mI (rrM M len n s) i = mI M i) ∧ mI (rrM M len n s) 17 1 = mI M 17 1 := by
  unfold rrM; exact sI_okA hS (tn5 _ _ _)
theorem rfM_ok {n : Nat} (hS : Shp M) : Shp (rfM M len n s) ∧ (∀ i, i < 17 ∨ 31 ≤ i → mI (rfM M len n s) i = mI M i) ∧ mI (rfM M len n s) 17 1 = mI M 17 1 := by
  unfold rfM; exact sI_okA hS (tn5 _ _ _)
theorem rkM_ok (hS : Shp M) : Shp (rkM M len s) ∧ (∀ i, i < 17 ∨ 31 ≤ i → mI (rkM M len s) i = mI M i) ∧ mI (rkM M len s) 17 1 = mI M 17 1 := by
  unfold rkM; exact pI_okA hS (tn5 _ _ _)
theorem edS_le {T : Nat → Int32} {n : Nat} (hp : s.1 ≤ len) : (edS T len n s).1 ≤ len := by unfold edS; exact tnm_le (tnm_le (tnm_le hp))
theorem rrS_le {T : Nat → Int32} {n : Nat} (hp : s.1 ≤ len) : (rrS T len n s).1 ≤ len := by unfold rrS; exact tbs_le (tnm_le (tnm_le hp))
theorem rfS_le {T : Nat → Int32} {n : Nat} (hp : s.1 ≤ len) : (rfS T len n s).1 ≤ len := by
  unfold rfS
  rw [(fiS_1 _ _ _ _ _ _).1]
  exact (twd_le (tnm_le hp)).1
theorem rkS_le (hp : s.1 ≤ len) : (rkS M len s).1 ≤ len := by
  unfold rkS
  split
  · exact tnm_le hp
  · rw [(rFail_1 _ _ _).1]; exact tnm_le hp
/-- what a statement leaves -/
theorem rsR_ok {n : Nat} (hS : Shp M) (hp : s.1 ≤ len) : (Shp (rsR M len n s).1 ∧ (∀ i, i < 17 ∨ 31 ≤ i → mI (rsR M len n s).1 i = mI M i) ∧ mI (rsR M len n s).1 17 1 = mI M 17 1) ∧ (rsR M len n s).2.1 ≤ len := by
  have hw := (twd_le (T := mI M 2) hp).1
  unfold rsR
  generalize twd (mI M 2) len s = s1 at *
  generalize skipP (mI M 2) len s.1 = b at *
  generalize wdQ (mI M 2) b s1.1 (strW 1) = c1
  generalize wdQ (mI M 2) b s1.1 (strW 2) = c2
  generalize wdQ (mI M 2) b s1.1 (strW 3) = c3
  generalize wdQ (mI M 2) b s1.1 (strW 8) = c8
  generalize wdQ (mI M 2) b s1.1 (strW 9) = c9
  have k1 := edM_ok (len := len) (n := n) (s := s1) hS
  have k2 := rrM_ok (len := len) (n := n) (s := s1) hS
  have k3 := rfM_ok (len := len) (n := n) (s := s1) hS
  have k8 := rkM_ok (len := len) (s := s1) hS
  have l1 := edS_le (T := mI M 2) (n := n) hw
  have l2 := rrS_le (T := mI M 2) (n := n) hw
  have l3 := rfS_le (T := mI M 2) (n := n) hw
  have l8 := rkS_le (M := M) hw
  have k9 : Shp (pI M 17 2 (tnv (mI M 2) len 1 8 s1)) ∧ (∀ i, i < 17 ∨ 31 ≤ i → mI (pI M 17 2 (tnv (mI M 2) len 1 8 s1)) i = mI M i) ∧ mI (pI M 17 2 (tnv (mI M 2) len 1 8 s1)) 17 1 = mI M 17 1 := ⟨shp_pI hS, fun i h => pI_i (by omega), pI_k (by decide)⟩
  have l9 := tnm_le (T := mI M 2) (lo := 1) (hi := 8) hw
  have k0 : Shp M ∧ (∀ i, i < 17 ∨ 31 ≤ i → mI M i = mI M i) ∧ mI M 17 1 = mI M 17 1 := ⟨hS, fun i h => rfl, rfl⟩
  have l0 : (rFail 1 (nI b) s1).1 ≤ len := by rw [(rFail_1 _ _ _).1]; exact hw
  generalize tnm (mI M 2) len 1 8 s1 = e9 at *
  generalize pI M 17 2 (tnv (mI M 2) len 1 8 s1) = m9 at *
  generalize rFail 1 (nI b) s1 = e0 at *
  generalize edM M len n s1 = m1 at *
  generalize edS (mI M 2) len n s1 = e1 at *
  generalize rrM M len n s1 = m2 at *
  generalize rrS (mI M 2) len n s1 = e2 at *
  generalize rfM M len n s1 = m3 at *
  generalize rfS (mI M 2) len n s1 = e3 at *
  generalize rkM M len s1 = m8 at *
  generalize rkS M len s1 = e8 at *
  cases c1 with
  | true => exact ⟨k1, l1⟩
  | false =>
  cases c2 with
  | true => exact ⟨k2, l2⟩
  | false =>
  cases c3 with
  | true => exact ⟨k3, l3⟩
  | false =>
  cases c8 with
  | true => exact ⟨k8, l8⟩
  | false =>
  cases c9 with
  | true => exact ⟨k9, l9⟩
  | false => exact ⟨k0, l0⟩
theorem mxEmpty_rd {m : Nat} (h : 1 < m) : mxEmpty (rdM M s) m = rdM (mxEmpty M m) s := by
  unfold mxEmpty
  rw [rd_ne (by omega), rd_sI (by omega), rd_pI (by omega), rd_pI (by omega), rd_pI (by omega), rd_pI (by omega)]
theorem stEmptyL_rd {b : Nat} (h : 1 < b) : ∀ k, stEmptyL (rdM M s) b k = rdM (stEmptyL M b k) s
  | 0 => by rw [stEmptyL.eq_1, stEmptyL.eq_1]
  | k + 1 => by rw [stEmptyL.eq_2, stEmptyL.eq_2, stEmptyL_rd h k, mxEmpty_rd (by omega)]
theorem stEmpty_rd {b : Nat} {n : Int32} (h : 1 < b) : stEmpty (rdM M s) b n = rdM (stEmpty M b n) s := by
  unfold stEmpty
  rw [stEmptyL_rd h, rd_pI (by omega), rd_pI (by omega), rd_pI (by omega), rd_pI (by omega)]
/-- the size read -/
def rzS0 (T : Nat → Int32) (len : Nat) (s : RP) : RP := if wdQ T (skipP T len s.1) (twd T len s).1 (strW 0) = true then twd T len s else rFail 1 (nI (skipP T len s.1)) (twd T len s)
def rzS (T : Nat → Int32) (len : Nat) (s : RP) : RP := tnm T len 1 32 (rzS0 T len s)
def rzV (T : Nat → Int32) (len : Nat) (s : RP) : Int32 := tnv T len 1 32 (rzS0 T len s)
theorem rzS0_le {T : Nat → Int32} (hp : s.1 ≤ len) : (rzS0 T len s).1 ≤ len := by
  unfold rzS0; split
  · exact (twd_le hp).1
  · rw [(rFail_1 _ _ _).1]; exact (twd_le hp).1
theorem r_readSize (hS : Shp M) (hl : mI M 1 1 = nI len) (hL : len ≤ 600) (hp : s.1 ≤ len) : EvR l jX4_readSize 5 130 0 0 [.ref 1, .ref 17] (rdM M s) (.inl none) (rdM (stEmpty M 17 (rzV (mI M 2) len s)) (rzS (mI M 2) len s)) := by
  have hS1 : ∀ s, Shp (rdM M s) := fun s => rd_S hS
  have q0 := r_takeWord (l := l) hS hl hL hp
  have hw := twd_le (T := mI M 2) hp
  have hw2 : (twd (mI M 2) len s).2.1 = nI (skipP (mI M 2) len s.1) := rfl
  have hz0 := rzS0_le (T := mI M 2) hp
  unfold rzV rzS
  unfold rzS0 at *
  generalize twd (mI M 2) len s = s1 at *
  generalize skipP (mI M 2) len s.1 = b at *
  have w0 : EvR l jX4_isWord 4 100 0 0 [.ref 1, .retAddr (2 * 0 + 2)] (rdM M s1) (.inl (some (.int (b1 (wdQ (mI M 2) b s1.1 (strW 0)))))) (rdM M s1) := r_isW 0 hS (by omega) hw2 hw.2 (by decide)
  have hr3 : mI (rdM M s1) 1 3 = nI b := rd_3.trans hw2
  have tN : ∀ s2 : RP, s2.1 ≤ len → EvR l jX4_takeNumber 2 60 0 0 [.ref 1, .int 1, .int 32] (rdM M s2) (.inl (some (.int (tnv (mI M 2) len 1 32 s2)))) (rdM M (tnm (mI M 2) len 1 32 s2)) := fun s2 h => r_takeNumber hS hl hL h
  have tE : ∀ (s2 : RP) (v : Int32), EvR l jX5_makeEmpty 1 40 0 0 [.ref 17, .int v] (rdM M s2) (.inl none) (rdM (stEmpty M 17 v) s2) := fun s2 v => by
    rw [← stEmpty_rd (by decide)]; exact s_stEmpty (hS1 s2) st17
  generalize wdQ (mI M 2) b s1.1 (strW 0) = w at *
  refine ev_intro rfl (nb rfl) rfl ?_
  cases w with
  | true =>
    refine g_aload_n (pc := 0) dX4_readSize_0 rfl trivial ?_
    refine g_invV_r (pc := 1) (As := []) dX4_readSize_1 rfl (q0) rfl rfl (shK (hS1 _) rfl) rfl rfl lk_X4_62 rfl (nb rfl) ⟨nb rfl, nb rfl⟩ rfl ?_
    refine g_aload_n (pc := 4) dX4_readSize_4 rfl trivial ?_
    refine g_ldcS (pc := 5) (kS := 0) dX4_readSize_5 rfl ?_
    refine g_invV_r (pc := 7) (As := [_]) dX4_readSize_7 rfl (w0) rfl rfl (shK (hS1 _) rfl) rfl rfl lk_X4_66 rfl (nb rfl) ⟨nb rfl, nb rfl⟩ rfl ?_
    refine g_if_ne (pc := 10) (tgt := 22) dX4_readSize_10 rfl (fun _ => ?_) (fun h10 => absurd ((by decide)) h10)
    refine g_aload_n (pc := 22) dX4_readSize_22 rfl trivial ?_
    refine g_aload_n (pc := 23) dX4_readSize_23 rfl trivial ?_
    refine g_iconst (pc := 24) (v := 1) dX4_readSize_24 rfl ?_
    refine g_bipush (pc := 25) (v := 32) dX4_readSize_25 rfl ?_
    refine g_invV_r (pc := 27) (As := [_, _]) dX4_readSize_27 rfl (tN _ hz0) rfl rfl (shK (hS1 _) rfl) rfl rfl lk_X4_77 rfl (nb rfl) ⟨nb rfl, nb rfl⟩ rfl ?_
    refine g_invV_r (pc := 30) (As := [_]) dX4_readSize_30 rfl (tE _ _) rfl rfl (shK (hS1 _) rfl) rfl rfl lk_X4_81 rfl (nb rfl) ⟨nb rfl, nb rfl⟩ rfl ?_
    refine g_return (pc := 33) dX4_readSize_33 rfl ?_
    exact ⟨rfl, rfl⟩
  | false =>
    refine g_aload_n (pc := 0) dX4_readSize_0 rfl trivial ?_
    refine g_invV_r (pc := 1) (As := []) dX4_readSize_1 rfl (q0) rfl rfl (shK (hS1 _) rfl) rfl rfl lk_X4_62 rfl (nb rfl) ⟨nb rfl, nb rfl⟩ rfl ?_
    refine g_aload_n (pc := 4) dX4_readSize_4 rfl trivial ?_
    refine g_ldcS (pc := 5) (kS := 0) dX4_readSize_5 rfl ?_
    refine g_invV_r (pc := 7) (As := [_]) dX4_readSize_7 rfl (w0) rfl rfl (shK (hS1 _) rfl) rfl rfl lk_X4_66 rfl (nb rfl) ⟨nb rfl, nb rfl⟩ rfl ?_
    refine g_if_ne (pc := 10) (tgt := 22) dX4_readSize_10 rfl (fun h10 => absurd h10 ((fun h => h rfl))) (fun _ => ?_)
    refine g_aload_n (pc := 13) dX4_readSize_13 rfl trivial ?_
    refine g_iconst (pc := 14) (v := 1) dX4_readSize_14 rfl ?_
    refine g_aload_n (pc := 15) dX4_readSize_15 rfl trivial ?_
    refine g_getf (pc := 16) (v := .int _) dX4_readSize_16 fk_X4_70 (shK (hS1 _) rfl) (fun _ => congrArg Value.int (hr3)) ?_
    refine g_invV_r (pc := 19) (As := [_, _]) dX4_readSize_19 rfl (r_fail hS) rfl rfl (shK (hS1 _) rfl) rfl rfl lk_X4_73 rfl (nb rfl) ⟨nb rfl, nb rfl⟩ rfl ?_
    refine g_aload_n (pc := 22) dX4_readSize_22 rfl trivial ?_
    refine g_aload_n (pc := 23) dX4_readSize_23 rfl trivial ?_
    refine g_iconst (pc := 24) (v := 1) dX4_readSize_24 rfl ?_
    refine g_bipush (pc := 25) (v := 32) dX4_readSize_25 rfl ?_
    refine g_invV_r (pc := 27) (As := [_, _]) dX4_readSize_27 rfl (tN _ hz0) rfl rfl (shK (hS1 _) rfl) rfl rfl lk_X4_77 rfl (nb rfl) ⟨nb rfl, nb rfl⟩ rfl ?_
    refine g_invV_r (pc := 30) (As := [_]) dX4_readSize_30 rfl (tE _ _) rfl rfl (shK (hS1 _) rfl) rfl rfl lk_X4_81 rfl (nb rfl) ⟨nb rfl, nb rfl⟩ rfl ?_
    refine g_return (pc := 33) dX4_readSize_33 rfl ?_
    exact ⟨rfl, rfl⟩
end
end
-- 196.reader
section
section
variable {l : Launch} {M : Mem} {s : RP} {len : Nat}
theorem rd_start : pI (pI (pI (pI M 1 2 0) 1 4 0) 1 5 0) 1 6 0 = rdM M (0, mI M 1 3, 0, 0, 0) := by
  refine mem_extI rfl rfl rfl rfl rfl rfl (fun i => ?_)
  by_cases i1 : i = 1
  · subst i1; funext j; simp only [rdM, rdF, sI, mI, pI, fun_set, if_true]
    by_cases j2 : j = 2
    · subst j2; rfl
    · by_cases j3 : j = 3
      · subst j3; rfl
      · by_cases j4 : j = 4
        · subst j4; rfl
        · by_cases j5 : j = 5
          · subst j5; rfl
          · by_cases j6 : j = 6
            · subst j6; rfl
            · simp [j2, j3, j4, j5, j6]
  · simp [rdM, sI, mI, pI, fun_set, i1]
/-- statements one after another, d at most -/
def rsL (len n : Nat) : Nat → Mem → RP → Mem × RP
  | 0, M, s => (M, s)
  | d + 1, M, s =>
    if (decide (s.2.2.2.1 = 0) && decide (skipP (mI M 2) len s.1 < len)) = true then
      (if (tsc (mI M 2) len (skp (mI M 2) len s)).2.2.2.1 = 0 then rsL len n d (rsR M len n (tsc (mI M 2) len (skp (mI M 2) len s))).1 (rsR M len n (tsc (mI M 2) len (skp (mI M 2) len s))).2
      else rsL len n d M (tsc (mI M 2) len (skp (mI M 2) len s)))
    else (M, skp (mI M 2) len s)
termination_by d => d
theorem tsc_le {T : Nat → Int32} (hp : s.1 ≤ len) : (tsc T len s).1 ≤ len := by
  unfold tsc
  split
  · rename_i h; exact h.1
  · rw [(rFail_1 _ _ _).1]; exact hp
theorem skp_le {T : Nat → Int32} (hp : s.1 ≤ len) : (skp T len s).1 ≤ len := (skipP_le hp).2
theorem rsL_ok {n : Nat} : ∀ (d : Nat) (M : Mem) (s : RP), Shp M → s.1 ≤ len → (Shp (rsL len n d M s).1 ∧ (∀ i, i < 17 ∨ 31 ≤ i → mI (rsL len n d M s).1 i = mI M i) ∧ mI (rsL len n d M s).1 17 1 = mI M 17 1) ∧ (rsL len n d M s).2.1 ≤ len
  | 0, M, s, hS, hp => by rw [rsL.eq_1]; exact ⟨⟨hS, fun i h => rfl, rfl⟩, hp⟩
  | d + 1, M, s, hS, hp => by
    rw [rsL.eq_2]
    have h1 := skp_le (T := mI M 2) hp
    have h2 := tsc_le (T := mI M 2) h1
    have h3 := rsR_ok (n := n) hS h2
    generalize tsc (mI M 2) len (skp (mI M 2) len s) = s2 at *
    generalize skp (mI M 2) len s = s1 at *
    generalize rsR M len n s2 = r at *
    split
    · split
      · obtain ⟨⟨a1, a2, a3⟩, a4⟩ := rsL_ok d r.1 r.2 h3.1.1 h3.2
        exact ⟨⟨a1, fun i h => (a2 i h).trans (h3.1.2.1 i h), a3.trans h3.1.2.2⟩, a4⟩
      · exact rsL_ok d M s2 hS h2
    · exact ⟨⟨hS, fun i h => rfl, rfl⟩, h1⟩
/-- what is made is noted -/
def anL (M : Mem) (x : Int32) : Nat → Mem
  | 0 => M
  | k + 1 => mxAnew (anL M x k) (19 + 2 * k) x
termination_by k => k
theorem anL_S (hS : Shp M) (x : Int32) : ∀ k, Shp (anL M x k)
  | 0 => by rw [anL]; exact hS
  | k + 1 => by rw [anL]; exact (anL_S hS x k).anew
theorem anL_ne {x : Int32} {i : Nat} (h : i < 19 ∨ 31 ≤ i) : ∀ k, k ≤ 6 → mI (anL M x k) i = mI M i
  | 0, _ => by rw [anL]
  | k + 1, hk => by rw [anL, mxAnew_ne (by omega), anL_ne h k (by omega)]
theorem mxLook_rd {m : Nat} {x : Int32} (h : 1 < m) : mxLook (rdM M s) m x = rdM (mxLook M m x) s := by
  unfold mxLook
  rw [rd_ne (by omega), rd_pI (by omega), rd_ne (by omega), rd_pI (by omega)]
  split <;> rfl
theorem mxAnew_rd {m : Nat} {x : Int32} (h : 1 < m) : mxAnew (rdM M s) m x = rdM (mxAnew M m x) s := by
  unfold mxAnew
  rw [rd_ne (by omega), mxLook_rd h, rd_ne (by omega), rd_pI (by omega)]
  split <;> rfl
theorem stEmptyL_ne {b i : Nat} : ∀ (k : Nat), k ≤ 6 → (i < b + 2 ∨ b + 14 ≤ i) → mI (stEmptyL M b k) i = mI M i
  | 0, _, _ => by rw [stEmptyL]
  | k + 1, h, h2 => by
    rw [stEmptyL]
    unfold mxEmpty
    rw [pI_i (by omega), pI_i (by omega), pI_i (by omega), pI_i (by omega), sI_ne (by omega)]
    exact stEmptyL_ne k (by omega) h2
theorem stEmpty_ne {b i : Nat} {n : Int32} (h : i < b ∨ b + 14 ≤ i) : mI (stEmpty M b n) i = mI M i := by
  unfold stEmpty; rw [pI_i (by omega), pI_i (by omega), pI_i (by omega), pI_i (by omega), stEmptyL_ne 6 (by omega) (by omega)]
theorem stEmpty_n {b : Nat} {n : Int32} : mI (stEmpty M b n) b 1 = n := by
  unfold stEmpty
  rw [pI_k (by decide), pI_k (by decide), pI_k (by decide), pI_self]
/-- the size read, as a number -/
def rzN (T : Nat → Int32) (len : Nat) (s : RP) : Nat := (rzV T len s).toNatClampNeg
theorem rzN_ok (T : Nat → Int32) (len : Nat) (s : RP) : rzV T len s = nI (rzN T len s) ∧ 1 ≤ rzN T len s ∧ rzN T len s ≤ 32 := by
  have h := tnv_in T len 1 32 (rzS0 T len s) (by decide)
  have hv : rzV T len s = tnv T len 1 32 (rzS0 T len s) := rfl
  rw [← hv] at h
  unfold rzN
  generalize rzV T len s = v at *
  obtain ⟨j, h3, h4⟩ := nI_of2 (x := v) (M := 32) (n := 32) (by decide) (fun q => h.1 (Int32.lt_trans q (by decide))) (Int32.not_lt.mp h.2)
  subst h4
  rw [nI_clamp (by omega)]
  refine ⟨rfl, Nat.pos_of_ne_zero fun q => ?_, h3⟩
  subst q
  exact h.1 (by decide)
def riN (M : Mem) (len : Nat) : Nat := rzN (mI M 2) len (0, mI M 1 3, 0, 0, 0)
def riR (M : Mem) (len : Nat) : Mem × RP := rsL len (riN M len) len (stEmpty M 17 (nI (riN M len))) (rzS (mI M 2) len (0, mI M 1 3, 0, 0, 0))
/-- a text read -/
def riM (M : Mem) (len : Nat) : Mem := pI (rdM (anL (riR M len).1 (nI (riN M len)) 6) (riR M len).2) 1 1 0
theorem r_readInto (hS : Shp M) (hl : mI M 1 1 = nI len) (hL : len ≤ 600) : EvR l jX4_readInto 8 220 0 0 [.ref 1, .ref 17] M (.inl none) (riM M len) := by
  have hS1 : ∀ s, Shp (rdM M s) := fun s => rd_S hS
  have z1 := r_readSize (l := l) (s := (0, mI M 1 3, 0, 0, 0)) hS hl hL (Nat.zero_le _)
  obtain ⟨n1, n2, n3⟩ := rzN_ok (mI M 2) len (0, mI M 1 3, 0, 0, 0)
  have z2 : (rzS (mI M 2) len (0, mI M 1 3, 0, 0, 0)).1 ≤ len := by unfold rzS; exact tnm_le (rzS0_le (Nat.zero_le _))
  rw [n1] at z1
  unfold riM riR
  have en : rzN (mI M 2) len (0, mI M 1 3, 0, 0, 0) = riN M len := rfl
  rw [en] at z1 n2 n3
  generalize riN M len = n at *
  have e1 : mI (stEmpty M 17 (nI n)) 1 1 = nI len := by rw [stEmpty_ne (by decide)]; exact hl
  have e17 : mI (stEmpty M 17 (nI n)) 17 1 = nI n := stEmpty_n
  have e2 : Shp (stEmpty M 17 (nI n)) := stEmpty_S hS 17 (nI n)
  generalize stEmpty M 17 (nI n) = M1 at *
  generalize rzS (mI M 2) len (0, mI M 1 3, 0, 0, 0) = s1 at *
  have hfin : ∀ (M2 : Mem) (s2 : RP), Shp M2 → mI M2 17 1 = nI n → Go l jX4_readInto 8 220 0 0 (fun r' M9 => r' = .inl none ∧ M9 = pI (rdM (anL M2 (nI n) 6) s2) 1 1 0) 64 [(0, .ref 1), (1, .ref 17)] [] 0 0 (rdM M2 s2) := by
    intro M2 s2 hS2 hz2
    refine g_iconst (pc := 64) (v := 0) dX4_readInto_64 rfl ?_
    refine g_istore_n (pc := 65) (lv' := [(0, _), (1, _), (2, _)]) dX4_readInto_65 (nl rfl) rfl ?_
    refine go_loop (pc := 66) 6 (fun i => [(0, .ref 1), (1, .ref 17), (2, .int (nI i))]) (fun i => rdM (anL M2 (nI n) i) s2) ⟨rfl, rfl, rfl, trivial⟩ (by rw [anL]) ?_ ?_
    · intro i hi ih
      have hS3 : Shp (rdM (anL M2 (nI n) i) s2) := rd_S (anL_S hS2 (nI n) i)
      have hz3 : mI (rdM (anL M2 (nI n) i) s2) 17 1 = nI n := (congrFun (rd_ne (by decide)) 1).trans ((congrFun (anL_ne (by decide) i (by omega)) 1).trans hz2)
      rw [anL.eq_2 M2 (nI n) i, ← mxAnew_rd (by omega)] at ih
      generalize rdM (anL M2 (nI n) i) s2 = M3 at *
      generalize pI (rdM (anL M2 (nI n) 6) s2) 1 1 0 = M9 at *
      obtain ⟨m1, m2, m3, m4⟩ := mx19 i hi
      refine g_iload_n (pc := 66) dX4_readInto_66 rfl ?_
      refine g_bipush (pc := 67) (v := 6) dX4_readInto_67 rfl ?_
      refine g_icmp_ge (pc := 69) (tgt := 91) dX4_readInto_69 rfl (fun h69 => absurd h69 (nI_ge (b := 6) hi (by omega))) (fun _ => ?_)
      refine g_aload_n (pc := 72) dX4_readInto_72 rfl trivial ?_
      refine g_getf (pc := 73) dX4_readInto_73 fk_X4_47 (shK hS3 rfl) (fv_arr (shR hS3 rfl)) ?_
      refine g_iload_n (pc := 76) dX4_readInto_76 rfl ?_
      refine g_aaload_Matrix (pc := 77) dX4_readInto_77 (shK hS3 rfl) rfl hi (by decide) (shR hS3 m2) ?_
      refine g_aload_n (pc := 78) dX4_readInto_78 rfl trivial ?_
      refine g_getf (pc := 79) (v := .int _) dX4_readInto_79 fk_X4_53 (shK hS3 rfl) (fun _ => congrArg Value.int (hz3)) ?_
      refine g_invV_r (pc := 82) (As := [_]) dX4_readInto_82 rfl (s_noteMadeAnew hS3 m1) rfl rfl (shK hS3 m1.1) rfl rfl lk_X4_56 rfl (nb rfl) ⟨nb rfl, nb rfl⟩ rfl ?_
      refine g_iinc (pc := 85) (lv' := [(0, _), (1, _), (2, _)]) dX4_readInto_85 rfl (nI_1 _) (nl rfl) rfl ?_
      refine g_goto (pc := 88) (tgt := 66) dX4_readInto_88 rfl ?_
      exact ih
    · have hS3 : Shp (rdM (anL M2 (nI n) 6) s2) := rd_S (anL_S hS2 (nI n) 6)
      generalize rdM (anL M2 (nI n) 6) s2 = M3 at *
      refine g_iload_n (pc := 66) dX4_readInto_66 rfl ?_
      refine g_bipush (pc := 67) (v := 6) dX4_readInto_67 rfl ?_
      refine g_icmp_ge (pc := 69) (tgt := 91) dX4_readInto_69 rfl (fun _ => ?_) (fun h69 => absurd (nI_le (Nat.le_refl 6) (by omega)) h69)
      refine g_aload_n (pc := 91) dX4_readInto_91 rfl trivial ?_
      refine g_iconst (pc := 92) (v := 0) dX4_readInto_92 rfl ?_
      refine g_putI (pc := 93) dX4_readInto_93 fp_X4_17 (shK hS3 rfl) ⟨rfl, rfl⟩ (fun _ _ _ _ => rfl) ?_
      refine g_return (pc := 96) dX4_readInto_96 rfl ?_
      exact ⟨rfl, rfl⟩
  refine ev_intro rfl (nb rfl) rfl ?_
  obtain ⟨S, hs⟩ : ∃ S, S = rsL len n len M1 s1 := ⟨_, rfl⟩
  rw [← hs]
  refine g_aload_n (pc := 0) dX4_readInto_0 rfl trivial ?_
  refine g_iconst (pc := 1) (v := 0) dX4_readInto_1 rfl ?_
  refine g_putI (pc := 2) dX4_readInto_2 fp_X4_21 (shK hS rfl) ⟨rfl, rfl⟩ (fun _ _ _ _ => rfl) ?_
  refine g_aload_n (pc := 5) dX4_readInto_5 rfl trivial ?_
  refine g_iconst (pc := 6) (v := 0) dX4_readInto_6 rfl ?_
  refine g_putI (pc := 7) dX4_readInto_7 fp_X4_24 (shK (shp_pI hS) rfl) ⟨rfl, rfl⟩ (fun _ _ _ _ => rfl) ?_
  refine g_aload_n (pc := 10) dX4_readInto_10 rfl trivial ?_
  refine g_iconst (pc := 11) (v := 0) dX4_readInto_11 rfl ?_
  refine g_putI (pc := 12) dX4_readInto_12 fp_X4_27 (shK (shp_pI (shp_pI hS)) rfl) ⟨rfl, rfl⟩ (fun _ _ _ _ => rfl) ?_
  refine g_aload_n (pc := 15) dX4_readInto_15 rfl trivial ?_
  refine g_iconst (pc := 16) (v := 0) dX4_readInto_16 rfl ?_
  refine g_putI (pc := 17) dX4_readInto_17 fp_X4_30 (shK (shp_pI (shp_pI (shp_pI hS))) rfl) ⟨rfl, rfl⟩ (fun _ _ _ _ => rfl) ?_
  refine go_cast rd_start ?_
  skip
  refine g_aload_n (pc := 20) dX4_readInto_20 rfl trivial ?_
  refine g_aload_n (pc := 21) dX4_readInto_21 rfl trivial ?_
  refine g_invV_r (pc := 22) (As := [_]) dX4_readInto_22 rfl (z1) rfl rfl (shK (hS1 _) rfl) rfl rfl lk_X4_33 rfl (nb rfl) ⟨nb rfl, nb rfl⟩ rfl ?_
  refine g_iconst (pc := 25) (v := 0) dX4_readInto_25 rfl ?_
  refine g_istore_n (pc := 26) (lv' := [(0, _), (1, _), (2, _)]) dX4_readInto_26 (nl rfl) rfl ?_
  refine go_while (pc := 27) (σ := Nat × Mem × RP) (fun q => q.1 ≤ len ∧ Shp q.2.1 ∧ mI q.2.1 1 1 = nI len ∧ mI q.2.1 17 1 = nI n ∧ q.2.2.1 ≤ len ∧ rsL len n (len - q.1) q.2.1 q.2.2 = S) (fun q => len - q.1) (fun q => [(0, .ref 1), (1, .ref 17), (2, .int (nI q.1))]) (fun q => rdM q.2.1 q.2.2) (0, M1, s1) ⟨rfl, rfl, rfl, trivial⟩ rfl ⟨Nat.zero_le _, e2, e1, e17, z2, hs.symm⟩ ?_
  rintro ⟨i, M2, s2⟩ ⟨h1, hS2, hl2, hz2, hp2, hq2⟩ ih
  simp only at h1 hS2 hl2 hz2 hp2 hq2 ih
  have hS3 : ∀ s, Shp (rdM M2 s) := fun s => rd_S hS2
  have hr1 : ∀ s, mI (rdM M2 s) 1 1 = nI len := fun s => rd_1.trans hl2
  by_cases hi : i < len
  · rw [show len - i = (len - (i + 1)) + 1 by omega, rsL.eq_2] at hq2
    have hp3 := skp_le (T := mI M2 2) hp2
    have hp4 := tsc_le (T := mI M2 2) hp3
    have qh := r_hasMore (l := l) hS2 hl2 hL hp2
    have qt := r_takeSemicolon (l := l) hS2 hl2 hL hp3
    have qs := r_readStatement (l := l) hS2 hl2 hL hp4 hz2 n2 n3
    have ok := rsR_ok (n := n) hS2 hp4
    have h5 : mI (rdM M2 (tsc (mI M2 2) len (skp (mI M2 2) len s2))) 1 5 = (tsc (mI M2 2) len (skp (mI M2 2) len s2)).2.2.2.1 := rd_5
    generalize (decide (s2.2.2.2.1 = 0) && decide (skipP (mI M2 2) len s2.1 < len)) = c at *
    generalize tsc (mI M2 2) len (skp (mI M2 2) len s2) = s4 at *
    generalize skp (mI M2 2) len s2 = s3 at *
    generalize rsR M2 len n s4 = r at *
    cases c with
    | false =>
      rw [if_neg (by decide)] at hq2
      rw [← hq2]
      refine g_iload_n (pc := 27) dX4_readInto_27 rfl ?_
      refine g_aload_n (pc := 28) dX4_readInto_28 rfl trivial ?_
      refine g_getf (pc := 29) (v := .int _) dX4_readInto_29 fk_X4_17 (shK (hS3 _) rfl) (fun _ => congrArg Value.int ((hr1 _))) ?_
      refine g_icmp_ge (pc := 32) (tgt := 64) dX4_readInto_32 rfl (fun h32 => absurd h32 (nI_ge hi (by omega))) (fun _ => ?_)
      refine g_aload_n (pc := 35) dX4_readInto_35 rfl trivial ?_
      refine g_invV_r (pc := 36) (As := []) dX4_readInto_36 rfl (qh) rfl rfl (shK (hS3 _) rfl) rfl rfl lk_X4_37 rfl (nb rfl) ⟨nb rfl, nb rfl⟩ rfl ?_
      refine g_if_eq (pc := 39) (tgt := 64) dX4_readInto_39 rfl (fun _ => ?_) (fun h39 => absurd (rfl) h39)
      exact g_sub (lv' := [(0, _), (1, _)]) ⟨rfl, rfl, trivial⟩ (hfin M2 s3 hS2 hz2)
    | true =>
      rw [if_pos rfl] at hq2
      refine g_iload_n (pc := 27) dX4_readInto_27 rfl ?_
      refine g_aload_n (pc := 28) dX4_readInto_28 rfl trivial ?_
      refine g_getf (pc := 29) (v := .int _) dX4_readInto_29 fk_X4_17 (shK (hS3 _) rfl) (fun _ => congrArg Value.int ((hr1 _))) ?_
      refine g_icmp_ge (pc := 32) (tgt := 64) dX4_readInto_32 rfl (fun h32 => absurd h32 (nI_ge hi (by omega))) (fun _ => ?_)
      refine g_aload_n (pc := 35) dX4_readInto_35 rfl trivial ?_
      refine g_invV_r (pc := 36) (As := []) dX4_readInto_36 rfl (qh) rfl rfl (shK (hS3 _) rfl) rfl rfl lk_X4_37 rfl (nb rfl) ⟨nb rfl, nb rfl⟩ rfl ?_
      refine g_if_eq (pc := 39) (tgt := 64) dX4_readInto_39 rfl (fun h39 => absurd h39 ((by decide))) (fun _ => ?_)
      refine g_aload_n (pc := 42) dX4_readInto_42 rfl trivial ?_
      refine g_invV_r (pc := 43) (As := []) dX4_readInto_43 rfl (qt) rfl rfl (shK (hS3 _) rfl) rfl rfl lk_X4_41 rfl (nb rfl) ⟨nb rfl, nb rfl⟩ rfl ?_
      refine g_aload_n (pc := 46) dX4_readInto_46 rfl trivial ?_
      refine g_getf (pc := 47) (v := .int _) dX4_readInto_47 fk_X4_27 (shK (hS3 _) rfl) (fun _ => congrArg Value.int (h5)) ?_
      refine g_if_ne (pc := 50) (tgt := 58) dX4_readInto_50 rfl (fun h50 => ?_) (fun h50 => ?_)
      · rw [if_neg h50] at hq2
        refine g_iinc (pc := 58) (lv' := [(0, _), (1, _), (2, _)]) dX4_readInto_58 rfl (nI_1 _) (nl rfl) rfl ?_
        refine g_goto (pc := 61) (tgt := 27) dX4_readInto_61 rfl ?_
        exact ih (i + 1, M2, s4) ⟨by simp only; omega, hS2, hl2, hz2, hp4, hq2⟩ (by simp only; omega)
      · rw [if_pos (Decidable.not_not.mp h50)] at hq2
        refine g_aload_n (pc := 53) dX4_readInto_53 rfl trivial ?_
        refine g_aload_n (pc := 54) dX4_readInto_54 rfl trivial ?_
        refine g_invV_r (pc := 55) (As := [_]) dX4_readInto_55 rfl (qs) rfl rfl (shK (hS3 _) rfl) rfl rfl lk_X4_44 rfl (nb rfl) ⟨nb rfl, nb rfl⟩ rfl ?_
        refine g_iinc (pc := 58) (lv' := [(0, _), (1, _), (2, _)]) dX4_readInto_58 rfl (nI_1 _) (nl rfl) rfl ?_
        refine g_goto (pc := 61) (tgt := 27) dX4_readInto_61 rfl ?_
        exact ih (i + 1, r.1, r.2) ⟨by simp only; omega, ok.1.1, (congrFun (ok.1.2.1 1 (by decide)) 1).trans hl2, ok.1.2.2.trans hz2, ok.2, hq2⟩ (by simp only; omega)
  · have hi' : i = len := by omega
    subst hi'
    rw [Nat.sub_self, rsL.eq_1] at hq2
    rw [← hq2]
    refine g_iload_n (pc := 27) dX4_readInto_27 rfl ?_
    refine g_aload_n (pc := 28) dX4_readInto_28 rfl trivial ?_
    refine g_getf (pc := 29) (v := .int _) dX4_readInto_29 fk_X4_17 (shK (hS3 _) rfl) (fun _ => congrArg Value.int ((hr1 _))) ?_
    refine g_icmp_ge (pc := 32) (tgt := 64) dX4_readInto_32 rfl (fun _ => ?_) (fun h32 => absurd (nI_le (Nat.le_refl _) (by omega)) h32)
    exact g_sub (lv' := [(0, _), (1, _)]) ⟨rfl, rfl, trivial⟩ (hfin M2 s2 hS2 hz2)
end
end
-- 197.append
section
section
variable {l : Launch} {M : Mem}
def shI : Nat → Int32
  | 0 => 56
  | k + 1 => shI k + Int32.ofInt (-8)
theorem sh_ge : ∀ i, i < 8 → ¬ shI i < 0 := by decide +kernel
theorem sh_8 : shI 8 < 0 := by decide +kernel
/-- byte k of a long, from the highest on -/
def btX (x : Int64) (k : Nat) : Int64 := (x.toUInt64 >>> ((shI k).toInt64.toUInt64 &&& Int64.toUInt64 63)).toInt64 &&& 255
def bI (x : Int64) (k : Nat) : Int32 := (btX x k).toInt32
def mrN (x : Int64) : Nat → Nat
  | 0 => 0
  | k + 1 => if lg_cmp (btX x k) 0 = 0 then mrN x k else mrN x k + 1
theorem mrN_le (x : Int64) : ∀ k, mrN x k ≤ k
  | 0 => Nat.le_refl _
  | k + 1 => by have := mrN_le x k; unfold mrN; split <;> omega
def apL (len : Nat) (T : Nat → Int32) (x : Int64) : Nat → Nat × (Nat → Int32)
  | 0 => (len, T)
  | k + 1 => if bI x k = 0 then apL len T x k else if (apL len T x k).1 < 600 then ((apL len T x k).1 + 1, fun_set (apL len T x k).2 (apL len T x k).1 (bI x k)) else apL len T x k
theorem apL_le {len : Nat} {T : Nat → Int32} {x : Int64} (h : len ≤ 600) : ∀ k, (apL len T x k).1 ≤ 600
  | 0 => h
  | k + 1 => by
    have := apL_le (T := T) (x := x) h k
    unfold apL
    split
    · exact this
    · split
      · rename_i q; exact q
      · exact this
def apQ (M : Mem) (q : Nat × (Nat → Int32)) : Mem := pI (sI M 2 q.2) 1 1 (nI q.1)
theorem apQ_S (hS : Shp M) (q : Nat × (Nat → Int32)) : Shp (apQ M q) := hS
theorem apQ_1 (q : Nat × (Nat → Int32)) : mI (apQ M q) 1 1 = nI q.1 := by simp [apQ, pI, sI, mI, fun_set]
theorem apQ_2 (q : Nat × (Nat → Int32)) : mI (apQ M q) 2 = q.2 := by simp [apQ, pI, sI, mI, fun_set]
theorem apQ_id {len : Nat} (h : mI M 1 1 = nI len) : M = apQ M (len, mI M 2) := by
  refine mem_extI rfl rfl rfl rfl rfl rfl (fun i => ?_)
  simp only [apQ, sI, mI, pI]
  by_cases i1 : i = 1
  · subst i1; funext j
    by_cases j1 : j = 1
    · subst j1; simp only [fun_set]; exact h
    · simp [fun_set, j1]
  · by_cases i2 : i = 2
    · subst i2; simp [fun_set]
    · simp [fun_set, i1, i2]
theorem apQ_st {q : Nat × (Nat → Int32)} {i : Nat} {x : Int32} (h : i = q.1) : pI (sI (apQ M q) 2 (fun_set (mI (apQ M q) 2) i x)) 1 1 (nI (q.1 + 1)) = apQ M (q.1 + 1, fun_set q.2 q.1 x) := by
  subst h
  rw [apQ_2]
  refine mem_extI rfl rfl rfl rfl rfl rfl (fun i => ?_)
  simp only [apQ, sI, mI, pI]
  by_cases i1 : i = 1
  · subst i1; funext j
    by_cases j1 : j = 1
    · subst j1; simp [fun_set]
    · simp [fun_set, j1]
  · by_cases i2 : i = 2
    · subst i2; simp [fun_set]
    · simp [fun_set, i1, i2]
/-- bytes put to the text -/
def apM (M : Mem) (len : Nat) (x : Int64) : Mem := if 600 < len + mrN x 8 then M else apQ M (apL len (mI M 2) x 8)
def apV (M : Mem) (len : Nat) (x : Int64) : Int32 := if 600 < len + mrN x 8 then -2 else nI (apL len (mI M 2) x 8).1
theorem r_addBytes {x : Int64} {len : Nat} (hS : Shp M) (hl : mI M 1 1 = nI len) (hL : len ≤ 600) : EvR l jX4_addBytes 0 0 0 0 [.ref 1, .long x] M (.inl (some (.int (apV M len x)))) (apM M len x) := by
  have hm := mrN_le x 8
  have hB : Go l jX4_addBytes 0 0 0 0 (fun r' M9 => r' = .inl (some (.int (nI (apL len (mI M 2) x 8).1))) ∧ M9 = apQ M (apL len (mI M 2) x 8)) 48 [(0, .ref 1), (1, .long x), (3, .int (nI (mrN x 8)))] [] 0 0 M := by
    refine g_bipush (pc := 48) (v := 56) dX4_addBytes_48 rfl ?_
    refine g_istore (pc := 50) (lv' := [(0, _), (1, _), (3, _), (4, _)]) dX4_addBytes_50 (nl rfl) rfl ?_
    refine go_loop (pc := 52) 8 (fun i => [(0, .ref 1), (1, .long x), (3, .int (nI (mrN x 8))), (4, .int (shI i))]) (fun i => apQ M (apL len (mI M 2) x i)) ⟨rfl, rfl, rfl, rfl, trivial⟩ (apQ_id hl) ?_ ?_
    · intro i hi ih
      have hle := apL_le (T := mI M 2) (x := x) hL i
      generalize apL len (mI M 2) x 8 = q9 at ih ⊢
      rw [apL] at ih
      generalize apL len (mI M 2) x i = q at *
      have h1 := apQ_1 (M := M) q
      have hS1 := apQ_S hS q
      have e2 := fun (j : Nat) (y : Int32) (h : j = q.1) => apQ_st (M := M) (q := q) (x := y) h
      have hq3 : ∀ f : Nat → Int32, mI (sI (apQ M q) 2 f) 1 1 = nI q.1 := fun f => (congrFun (sI_ne (by decide)) 1).trans h1
      have hS4 : ∀ f : Nat → Int32, Shp (sI (apQ M q) 2 f) := fun f => shp_sI hS1
      generalize hM1 : apQ M q = M1 at *
      refine g_iload (pc := 52) dX4_addBytes_52 rfl ?_
      refine g_if_lt (pc := 54) (tgt := 110) dX4_addBytes_54 rfl (fun h54 => absurd h54 (sh_ge i hi)) (fun _ => ?_)
      refine g_lload_n (pc := 57) dX4_addBytes_57 rfl ?_
      refine g_iload (pc := 58) dX4_addBytes_58 rfl ?_
      refine g_lushr (pc := 60) dX4_addBytes_60 rfl ?_
      refine g_ldc2 (pc := 61) dX4_addBytes_61 wd_343 ?_
      refine g_land (pc := 64) dX4_addBytes_64 ?_
      refine g_l2i (pc := 65) dX4_addBytes_65 rfl ?_
      refine g_istore (pc := 66) (lv' := [(0, _), (1, _), (3, _), (4, _), (5, _)]) dX4_addBytes_66 (nl rfl) rfl ?_
      refine g_iload (pc := 68) dX4_addBytes_68 rfl ?_
      refine g_if_eq (pc := 70) (tgt := 104) dX4_addBytes_70 rfl (fun h70 => ?_) (fun h70 => ?_)
      · rw [if_pos (show bI x i = 0 from h70), hM1] at ih
        refine g_iinc (pc := 104) (lv' := [(0, _), (1, _), (3, _), (4, _), (5, _)]) dX4_addBytes_104 rfl rfl (nl rfl) rfl ?_
        refine g_goto (pc := 107) (tgt := 52) dX4_addBytes_107 rfl ?_
        exact g_sub (lv' := [(0, _), (1, _), (3, _), (4, _)]) ⟨rfl, rfl, rfl, rfl, trivial⟩ ih
      · rw [if_neg (show ¬ bI x i = 0 from h70)] at ih
        refine g_aload_n (pc := 73) dX4_addBytes_73 rfl trivial ?_
        refine g_getf (pc := 74) (v := .int _) dX4_addBytes_74 fk_X4_17 (shK hS1 rfl) (fun _ => congrArg Value.int (h1)) ?_
        refine g_sipush (pc := 77) (v := 600) dX4_addBytes_77 rfl ?_
        refine g_icmp_ge (pc := 80) (tgt := 104) dX4_addBytes_80 rfl (fun h80 => ?_) (fun h80 => ?_)
        · rw [if_neg (fun h => nI_ge (b := 600) h (by decide) h80), hM1] at ih
          refine g_iinc (pc := 104) (lv' := [(0, _), (1, _), (3, _), (4, _), (5, _)]) dX4_addBytes_104 rfl rfl (nl rfl) rfl ?_
          refine g_goto (pc := 107) (tgt := 52) dX4_addBytes_107 rfl ?_
          exact g_sub (lv' := [(0, _), (1, _), (3, _), (4, _)]) ⟨rfl, rfl, rfl, rfl, trivial⟩ ih
        · have hlt : q.1 < 600 := Nat.lt_of_not_le fun h => h80 (nI_le (a := 600) h (by omega))
          rw [if_pos hlt] at ih
          refine g_aload_n (pc := 83) dX4_addBytes_83 rfl trivial ?_
          refine g_getf (pc := 84) dX4_addBytes_84 fk_X4_9 (shK hS1 rfl) (fv_arr (shR hS1 rfl)) ?_
          refine g_aload_n (pc := 87) dX4_addBytes_87 rfl trivial ?_
          refine g_getf (pc := 88) (v := .int _) dX4_addBytes_88 fk_X4_17 (shK hS1 rfl) (fun _ => congrArg Value.int (h1)) ?_
          refine g_iload (pc := 91) dX4_addBytes_91 rfl ?_
          refine g_iastore (pc := 93) dX4_addBytes_93 (shK hS1 rfl) rfl hlt (nl rfl) ?_
          refine g_aload_n (pc := 94) dX4_addBytes_94 rfl trivial ?_
          refine g_dup (pc := 95) dX4_addBytes_95 rfl ?_
          refine g_getf (pc := 96) (v := .int _) dX4_addBytes_96 fk_X4_17 (shK (hS4 _) rfl) (fun _ => congrArg Value.int ((hq3 _))) ?_
          refine g_iconst (pc := 99) (v := 1) dX4_addBytes_99 rfl ?_
          refine g_iadd (pc := 100) dX4_addBytes_100 ?_
          rw [nI_1]
          refine g_putI (pc := 101) dX4_addBytes_101 fp_X4_17 (shK (hS4 _) rfl) ⟨rfl, rfl⟩ (fun _ _ _ _ => rfl) ?_
          refine go_cast (e2 q.1 (bI x i) rfl) ?_
          refine g_iinc (pc := 104) (lv' := [(0, _), (1, _), (3, _), (4, _), (5, _)]) dX4_addBytes_104 rfl rfl (nl rfl) rfl ?_
          refine g_goto (pc := 107) (tgt := 52) dX4_addBytes_107 rfl ?_
          exact g_sub (lv' := [(0, _), (1, _), (3, _), (4, _)]) ⟨rfl, rfl, rfl, rfl, trivial⟩ ih
    · have h1 := apQ_1 (M := M) (apL len (mI M 2) x 8)
      have hS1 := apQ_S hS (apL len (mI M 2) x 8)
      generalize apQ M (apL len (mI M 2) x 8) = M1 at *
      refine g_iload (pc := 52) dX4_addBytes_52 rfl ?_
      refine g_if_lt (pc := 54) (tgt := 110) dX4_addBytes_54 rfl (fun _ => ?_) (fun h54 => absurd (sh_8) h54)
      refine g_aload_n (pc := 110) dX4_addBytes_110 rfl trivial ?_
      refine g_getf (pc := 111) (v := .int _) dX4_addBytes_111 fk_X4_17 (shK hS1 rfl) (fun _ => congrArg Value.int (h1)) ?_
      refine g_ireturn (pc := 114) dX4_addBytes_114 rfl rfl ?_
      exact ⟨rfl, rfl⟩
  refine ev_intro rfl (nb rfl) rfl ?_
  refine g_iconst (pc := 0) (v := 0) dX4_addBytes_0 rfl ?_
  refine g_istore_n (pc := 1) (lv' := [(0, _), (1, _), (3, _)]) dX4_addBytes_1 (nl rfl) rfl ?_
  refine g_bipush (pc := 2) (v := 56) dX4_addBytes_2 rfl ?_
  refine g_istore (pc := 4) (lv' := [(0, _), (1, _), (3, _), (4, _)]) dX4_addBytes_4 (nl rfl) rfl ?_
  refine go_loop (pc := 6) 8 (fun i => [(0, .ref 1), (1, .long x), (3, .int (nI (mrN x i))), (4, .int (shI i))]) (fun i => M) ⟨rfl, rfl, rfl, rfl, trivial⟩ rfl ?_ ?_
  · intro i hi ih
    rw [mrN] at ih
    refine g_iload (pc := 6) dX4_addBytes_6 rfl ?_
    refine g_if_lt (pc := 8) (tgt := 33) dX4_addBytes_8 rfl (fun h8 => absurd h8 (sh_ge i hi)) (fun _ => ?_)
    refine g_lload_n (pc := 11) dX4_addBytes_11 rfl ?_
    refine g_iload (pc := 12) dX4_addBytes_12 rfl ?_
    refine g_lushr (pc := 14) dX4_addBytes_14 rfl ?_
    refine g_ldc2 (pc := 15) dX4_addBytes_15 wd_343 ?_
    refine g_land (pc := 18) dX4_addBytes_18 ?_
    refine g_lconst (pc := 19) (v := 0) dX4_addBytes_19 rfl ?_
    refine g_lcmp (pc := 20) dX4_addBytes_20 ?_
    refine g_if_eq (pc := 21) (tgt := 27) dX4_addBytes_21 rfl (fun h21 => ?_) (fun h21 => ?_)
    · rw [if_pos (show lg_cmp (btX x i) 0 = 0 from h21)] at ih
      refine g_iinc (pc := 27) (lv' := [(0, _), (1, _), (3, _), (4, _)]) dX4_addBytes_27 rfl rfl (nl rfl) rfl ?_
      refine g_goto (pc := 30) (tgt := 6) dX4_addBytes_30 rfl ?_
      exact ih
    · rw [if_neg (show ¬ lg_cmp (btX x i) 0 = 0 from h21)] at ih
      refine g_iinc (pc := 24) (lv' := [(0, _), (1, _), (3, _), (4, _)]) dX4_addBytes_24 rfl (nI_1 _) (nl rfl) rfl ?_
      refine g_iinc (pc := 27) (lv' := [(0, _), (1, _), (3, _), (4, _)]) dX4_addBytes_27 rfl rfl (nl rfl) rfl ?_
      refine g_goto (pc := 30) (tgt := 6) dX4_addBytes_30 rfl ?_
      exact ih
  · unfold apV apM
    refine g_iload (pc := 6) dX4_addBytes_6 rfl ?_
    refine g_if_lt (pc := 8) (tgt := 33) dX4_addBytes_8 rfl (fun _ => ?_) (fun h8 => absurd (sh_8) h8)
    refine g_aload_n (pc := 33) dX4_addBytes_33 rfl trivial ?_
    refine g_getf (pc := 34) (v := .int _) dX4_addBytes_34 fk_X4_17 (shK hS rfl) (fun _ => congrArg Value.int (hl)) ?_
    refine g_iload_n (pc := 37) dX4_addBytes_37 rfl ?_
    refine g_iadd (pc := 38) dX4_addBytes_38 ?_
    rw [nI_add]
    refine g_sipush (pc := 39) (v := 600) dX4_addBytes_39 rfl ?_
    refine g_icmp_le (pc := 42) (tgt := 48) dX4_addBytes_42 rfl (fun h42 => ?_) (fun h42 => ?_)
    · rw [if_neg (fun h => by have := (nI_leI (a := len + mrN x 8) (b := 600) (by omega) (by decide)).mp h42; omega), if_neg (fun h => by have := (nI_leI (a := len + mrN x 8) (b := 600) (by omega) (by decide)).mp h42; omega)]
      exact g_sub (lv' := [(0, _), (1, _), (3, _)]) ⟨rfl, rfl, rfl, trivial⟩ hB
    · rw [if_pos (Nat.lt_of_not_le fun h => h42 (nI_le (b := 600) h (by decide))), if_pos (Nat.lt_of_not_le fun h => h42 (nI_le (b := 600) h (by decide)))]
      refine g_bipush (pc := 45) (v := (-2)) dX4_addBytes_45 rfl ?_
      refine g_ireturn (pc := 47) dX4_addBytes_47 rfl rfl ?_
      exact ⟨rfl, rfl⟩
end
end
-- 20.query
section
/-! queries on rows: with arguments as asked, and without -/
section
variable {l : Launch} {M : Mem}
theorem in6 {s : Nat} (h : s < 6) : inR (nI s) 6 := inR_nI h (by decide)
theorem q_bit {s r c n : Nat} (hS : Shp M) (hz : mI M 3 1 = nI n) (hn : n ≤ 32) (hs : s < 6) (hr : r < n) (hc : c < n) : EvR l jX6_bit 9 160 3 18 [.ref 0, .int (nI s), .int (nI r), .int (nI c)] M (.inl (some (.int (b1 (hb (mI M (6 + 2 * s) r) c))))) M := by
  refine ev_intro rfl (nb rfl) rfl ?_
  refine g_aload_n (pc := 0) dX6_bit_0 rfl trivial ?_
  refine g_iload_n (pc := 1) dX6_bit_1 rfl ?_
  refine g_iload_n (pc := 2) dX6_bit_2 rfl ?_
  refine g_iload_n (pc := 3) dX6_bit_3 rfl ?_
  refine g_invV_r (pc := 4) (As := [_, _, _]) dX6_bit_4 rfl (s_needCell hS hz (in6 hs) (inR_nI hr (by omega)) (inR_nI hc (by omega))) rfl rfl (shK hS rfl) rfl rfl lk_X6_109 rfl (nb rfl) ⟨nb rfl, nb rfl⟩ rfl ?_
  refine g_aload_n (pc := 7) dX6_bit_7 rfl trivial ?_
  refine g_iload_n (pc := 8) dX6_bit_8 rfl ?_
  refine g_invV_r (pc := 9) (As := [_]) dX6_bit_9 rfl (s_rowsOf hS hs) rfl rfl (shK hS rfl) rfl rfl lk_X6_112 rfl (nb rfl) ⟨nb rfl, nb rfl⟩ rfl ?_
  refine g_iload_n (pc := 12) dX6_bit_12 rfl ?_
  refine g_iaload (pc := 13) dX6_bit_13 (shK hS (rows_lay hs)) rfl (by omega) (nl rfl) ?_
  refine g_iload_n (pc := 14) dX6_bit_14 rfl ?_
  refine g_invS_r (pc := 15) (As := [_, _]) dX6_bit_15 rfl (s_hasOne (by omega)) rfl rfl lk_X6_116 rfl (nb rfl) ⟨nb rfl, nb rfl⟩ rfl ?_
  refine g_if_eq (pc := 18) (tgt := 25) dX6_bit_18 rfl (fun h18 => ?_) (fun h18 => ?_)
  · rw [b1_0] at h18
    refine g_iconst (pc := 25) (v := 0) dX6_bit_25 rfl ?_
    refine g_ireturn (pc := 26) dX6_bit_26 rfl rfl ?_
    exact ⟨by rw [h18]; rfl, rfl⟩
  · rw [b1_0, Bool.not_eq_false] at h18
    refine g_iconst (pc := 21) (v := 1) dX6_bit_21 rfl ?_
    refine g_goto (pc := 22) (tgt := 26) dX6_bit_22 rfl ?_
    refine g_ireturn (pc := 26) dX6_bit_26 rfl rfl ?_
    exact ⟨by rw [h18]; rfl, rfl⟩
theorem x_bit {v w u : Int32} {n : Nat} (hS : Shp M) (hz : mI M 3 1 = nI n) (h : ¬ (inR v 6 ∧ inR w n ∧ inR u n)) : EvR l jX6_bit 9 160 3 18 [.ref 0, .int v, .int w, .int u] M (.inr xIO) M := by
  refine ev_intro rfl (nb rfl) rfl ?_
  refine g_aload_n (pc := 0) dX6_bit_0 rfl trivial ?_
  refine g_iload_n (pc := 1) dX6_bit_1 rfl ?_
  refine g_iload_n (pc := 2) dX6_bit_2 rfl ?_
  refine g_iload_n (pc := 3) dX6_bit_3 rfl ?_
  refine g_invV_x (pc := 4) (As := [_, _, _]) dX6_bit_4 rfl (x_needCell hS hz h) rfl rfl (shK hS rfl) rfl rfl lk_X6_109 rfl (nb rfl) ⟨nb rfl, nb rfl⟩ rfl ?_
  exact ⟨rfl, rfl⟩
theorem q_row {s r n : Nat} (hS : Shp M) (hz : mI M 3 1 = nI n) (hn : n ≤ 32) (hs : s < 6) (hr : r < n) : EvR l jX6_row 8 140 2 12 [.ref 0, .int (nI s), .int (nI r)] M (.inl (some (.long ((mI M (6 + 2 * s) r).toInt64 &&& 4294967295)))) M := by
  refine ev_intro rfl (nb rfl) rfl ?_
  refine g_aload_n (pc := 0) dX6_row_0 rfl trivial ?_
  refine g_iload_n (pc := 1) dX6_row_1 rfl ?_
  refine g_iload_n (pc := 2) dX6_row_2 rfl ?_
  refine g_invV_r (pc := 3) (As := [_, _]) dX6_row_3 rfl (s_needRow hS hz (in6 hs) (inR_nI hr (by omega))) rfl rfl (shK hS rfl) rfl rfl lk_X6_120 rfl (nb rfl) ⟨nb rfl, nb rfl⟩ rfl ?_
  refine g_aload_n (pc := 6) dX6_row_6 rfl trivial ?_
  refine g_iload_n (pc := 7) dX6_row_7 rfl ?_
  refine g_invV_r (pc := 8) (As := [_]) dX6_row_8 rfl (s_rowsOf hS hs) rfl rfl (shK hS rfl) rfl rfl lk_X6_112 rfl (nb rfl) ⟨nb rfl, nb rfl⟩ rfl ?_
  refine g_iload_n (pc := 11) dX6_row_11 rfl ?_
  refine g_iaload (pc := 12) dX6_row_12 (shK hS (rows_lay hs)) rfl (by omega) (nl rfl) ?_
  refine g_invS_r (pc := 13) (As := [_]) dX6_row_13 rfl (s_unsigned) rfl rfl lk_X6_124 rfl (nb rfl) ⟨nb rfl, nb rfl⟩ rfl ?_
  refine g_lreturn (pc := 16) dX6_row_16 rfl ?_
  exact ⟨rfl, rfl⟩
theorem x_row {v w : Int32} {n : Nat} (hS : Shp M) (hz : mI M 3 1 = nI n) (h : ¬ (inR v 6 ∧ inR w n)) : EvR l jX6_row 8 140 2 12 [.ref 0, .int v, .int w] M (.inr xIO) M := by
  refine ev_intro rfl (nb rfl) rfl ?_
  refine g_aload_n (pc := 0) dX6_row_0 rfl trivial ?_
  refine g_iload_n (pc := 1) dX6_row_1 rfl ?_
  refine g_iload_n (pc := 2) dX6_row_2 rfl ?_
  refine g_invV_x (pc := 3) (As := [_, _]) dX6_row_3 rfl (x_needRow hS hz h) rfl rfl (shK hS rfl) rfl rfl lk_X6_120 rfl (nb rfl) ⟨nb rfl, nb rfl⟩ rfl ?_
  exact ⟨rfl, rfl⟩
theorem q_rank {s r c n : Nat} (hS : Shp M) (hz : mI M 3 1 = nI n) (hn : n ≤ 32) (hs : s < 6) (hr : r < n) (hc : c ≤ n) : EvR l jX6_rank 8 140 3 18 [.ref 0, .int (nI s), .int (nI r), .int (nI c)] M (.inl (some (.int (bcJ (mI M (6 + 2 * s) r &&& lowM c))))) M := by
  refine ev_intro rfl (nb rfl) rfl ?_
  refine g_aload_n (pc := 0) dX6_rank_0 rfl trivial ?_
  refine g_iload_n (pc := 1) dX6_rank_1 rfl ?_
  refine g_iload_n (pc := 2) dX6_rank_2 rfl ?_
  refine g_invV_r (pc := 3) (As := [_, _]) dX6_rank_3 rfl (s_needRow hS hz (in6 hs) (inR_nI hr (by omega))) rfl rfl (shK hS rfl) rfl rfl lk_X6_120 rfl (nb rfl) ⟨nb rfl, nb rfl⟩ rfl ?_
  refine g_aload_n (pc := 6) dX6_rank_6 rfl trivial ?_
  refine g_iload_n (pc := 7) dX6_rank_7 rfl ?_
  refine g_iconst (pc := 8) (v := 0) dX6_rank_8 rfl ?_
  refine g_aload_n (pc := 9) dX6_rank_9 rfl trivial ?_
  refine g_getf (pc := 10) dX6_rank_10 fk_X6_19 (shK hS rfl) (fv_obj (shR hS rfl)) ?_
  refine g_getf (pc := 13) (v := .int _) dX6_rank_13 fk_X6_89 (shK hS rfl) (fun _ => congrArg Value.int (hz)) ?_
  refine g_invV_r (pc := 16) (As := [_, _, _]) dX6_rank_16 rfl (s_needRange (nI_pos (by omega)) (nI_le hc (by omega))) rfl rfl (shK hS rfl) rfl rfl lk_X6_95 rfl (nb rfl) ⟨nb rfl, nb rfl⟩ rfl ?_
  refine g_aload_n (pc := 19) dX6_rank_19 rfl trivial ?_
  refine g_iload_n (pc := 20) dX6_rank_20 rfl ?_
  refine g_invV_r (pc := 21) (As := [_]) dX6_rank_21 rfl (s_rowsOf hS hs) rfl rfl (shK hS rfl) rfl rfl lk_X6_112 rfl (nb rfl) ⟨nb rfl, nb rfl⟩ rfl ?_
  refine g_iload_n (pc := 24) dX6_rank_24 rfl ?_
  refine g_iaload (pc := 25) dX6_rank_25 (shK hS (rows_lay hs)) rfl (by omega) (nl rfl) ?_
  refine g_iload_n (pc := 26) dX6_rank_26 rfl ?_
  refine g_invS_r (pc := 27) (As := [_]) dX6_rank_27 rfl (s_lowest (show c ≤ 32 by omega)) rfl rfl lk_X6_128 rfl (nb rfl) ⟨nb rfl, nb rfl⟩ rfl ?_
  refine g_iand (pc := 30) dX6_rank_30 ?_
  refine g_invS_r (pc := 31) (As := [_]) dX6_rank_31 rfl (s_bitCount) rfl rfl lk_X6_132 rfl (nb rfl) ⟨nb rfl, nb rfl⟩ rfl ?_
  refine g_ireturn (pc := 34) dX6_rank_34 rfl rfl ?_
  exact ⟨rfl, rfl⟩
theorem x_rank {v w u : Int32} {n : Nat} (hS : Shp M) (hz : mI M 3 1 = nI n) (h : ¬ (inR v 6 ∧ inR w n)) : EvR l jX6_rank 8 140 3 18 [.ref 0, .int v, .int w, .int u] M (.inr xIO) M := by
  refine ev_intro rfl (nb rfl) rfl ?_
  refine g_aload_n (pc := 0) dX6_rank_0 rfl trivial ?_
  refine g_iload_n (pc := 1) dX6_rank_1 rfl ?_
  refine g_iload_n (pc := 2) dX6_rank_2 rfl ?_
  refine g_invV_x (pc := 3) (As := [_, _]) dX6_rank_3 rfl (x_needRow hS hz h) rfl rfl (shK hS rfl) rfl rfl lk_X6_120 rfl (nb rfl) ⟨nb rfl, nb rfl⟩ rfl ?_
  exact ⟨rfl, rfl⟩
theorem y_rank {v w u : Int32} {n : Nat} (hS : Shp M) (hz : mI M 3 1 = nI n) (h : inR v 6) (h' : inR w n) (h2 : ¬ (¬ u < 0 ∧ u ≤ nI n)) : EvR l jX6_rank 8 140 3 18 [.ref 0, .int v, .int w, .int u] M (.inr xIA) M := by
  refine ev_intro rfl (nb rfl) rfl ?_
  refine g_aload_n (pc := 0) dX6_rank_0 rfl trivial ?_
  refine g_iload_n (pc := 1) dX6_rank_1 rfl ?_
  refine g_iload_n (pc := 2) dX6_rank_2 rfl ?_
  refine g_invV_r (pc := 3) (As := [_, _]) dX6_rank_3 rfl (s_needRow hS hz h h') rfl rfl (shK hS rfl) rfl rfl lk_X6_120 rfl (nb rfl) ⟨nb rfl, nb rfl⟩ rfl ?_
  refine g_aload_n (pc := 6) dX6_rank_6 rfl trivial ?_
  refine g_iload_n (pc := 7) dX6_rank_7 rfl ?_
  refine g_iconst (pc := 8) (v := 0) dX6_rank_8 rfl ?_
  refine g_aload_n (pc := 9) dX6_rank_9 rfl trivial ?_
  refine g_getf (pc := 10) dX6_rank_10 fk_X6_19 (shK hS rfl) (fv_obj (shR hS rfl)) ?_
  refine g_getf (pc := 13) (v := .int _) dX6_rank_13 fk_X6_89 (shK hS rfl) (fun _ => congrArg Value.int (hz)) ?_
  refine g_invV_x (pc := 16) (As := [_, _, _]) dX6_rank_16 rfl (x_needRange hS h2) rfl rfl (shK hS rfl) rfl rfl lk_X6_95 rfl (nb rfl) ⟨nb rfl, nb rfl⟩ rfl ?_
  exact ⟨rfl, rfl⟩
theorem q_select {s r n : Nat} {x : Int32} (hS : Shp M) (hz : mI M 3 1 = nI n) (hn : n ≤ 32) (hs : s < 6) (hr : r < n) : EvR l jX6_select 8 140 2 12 [.ref 0, .int (nI s), .int (nI r), .int x] M (.inl (some (.int (selG (mI M (6 + 2 * s) r) x 32 0 0)))) M := by
  refine ev_intro rfl (nb rfl) rfl ?_
  refine g_aload_n (pc := 0) dX6_select_0 rfl trivial ?_
  refine g_iload_n (pc := 1) dX6_select_1 rfl ?_
  refine g_iload_n (pc := 2) dX6_select_2 rfl ?_
  refine g_invV_r (pc := 3) (As := [_, _]) dX6_select_3 rfl (s_needRow hS hz (in6 hs) (inR_nI hr (by omega))) rfl rfl (shK hS rfl) rfl rfl lk_X6_120 rfl (nb rfl) ⟨nb rfl, nb rfl⟩ rfl ?_
  refine g_aload_n (pc := 6) dX6_select_6 rfl trivial ?_
  refine g_iload_n (pc := 7) dX6_select_7 rfl ?_
  refine g_invV_r (pc := 8) (As := [_]) dX6_select_8 rfl (s_rowsOf hS hs) rfl rfl (shK hS rfl) rfl rfl lk_X6_112 rfl (nb rfl) ⟨nb rfl, nb rfl⟩ rfl ?_
  refine g_iload_n (pc := 11) dX6_select_11 rfl ?_
  refine g_iaload (pc := 12) dX6_select_12 (shK hS (rows_lay hs)) rfl (by omega) (nl rfl) ?_
  refine g_iload_n (pc := 13) dX6_select_13 rfl ?_
  refine g_invS_r (pc := 14) (As := [_, _]) dX6_select_14 rfl (s_oneAt) rfl rfl lk_X6_137 rfl (nb rfl) ⟨nb rfl, nb rfl⟩ rfl ?_
  refine g_ireturn (pc := 17) dX6_select_17 rfl rfl ?_
  exact ⟨rfl, rfl⟩
theorem x_select {v w x : Int32} {n : Nat} (hS : Shp M) (hz : mI M 3 1 = nI n) (h : ¬ (inR v 6 ∧ inR w n)) : EvR l jX6_select 8 140 2 12 [.ref 0, .int v, .int w, .int x] M (.inr xIO) M := by
  refine ev_intro rfl (nb rfl) rfl ?_
  refine g_aload_n (pc := 0) dX6_select_0 rfl trivial ?_
  refine g_iload_n (pc := 1) dX6_select_1 rfl ?_
  refine g_iload_n (pc := 2) dX6_select_2 rfl ?_
  refine g_invV_x (pc := 3) (As := [_, _]) dX6_select_3 rfl (x_needRow hS hz h) rfl rfl (shK hS rfl) rfl rfl lk_X6_120 rfl (nb rfl) ⟨nb rfl, nb rfl⟩ rfl ?_
  exact ⟨rfl, rfl⟩
theorem q_ones {s n : Nat} (hS : Shp M) (hz : mI M 3 1 = nI n) (hn : n ≤ 32) (hs : s < 6) : EvR l jX6_ones 7 120 1 6 [.ref 0, .int (nI s)] M (.inl (some (.int (onesF (mI M (6 + 2 * s)) n)))) M := by
  refine ev_intro rfl (nb rfl) rfl ?_
  refine g_aload_n (pc := 0) dX6_ones_0 rfl trivial ?_
  refine g_iload_n (pc := 1) dX6_ones_1 rfl ?_
  refine g_invV_r (pc := 2) (As := [_]) dX6_ones_2 rfl (s_needSlot (in6 hs)) rfl rfl (shK hS rfl) rfl rfl lk_X6_141 rfl (nb rfl) ⟨nb rfl, nb rfl⟩ rfl ?_
  refine g_aload_n (pc := 5) dX6_ones_5 rfl trivial ?_
  refine g_iload_n (pc := 6) dX6_ones_6 rfl ?_
  refine g_invV_r (pc := 7) (As := [_]) dX6_ones_7 rfl (s_rowsOf hS hs) rfl rfl (shK hS rfl) rfl rfl lk_X6_112 rfl (nb rfl) ⟨nb rfl, nb rfl⟩ rfl ?_
  refine g_aload_n (pc := 10) dX6_ones_10 rfl trivial ?_
  refine g_getf (pc := 11) dX6_ones_11 fk_X6_19 (shK hS rfl) (fv_obj (shR hS rfl)) ?_
  refine g_getf (pc := 14) (v := .int _) dX6_ones_14 fk_X6_89 (shK hS rfl) (fun _ => congrArg Value.int (hz)) ?_
  refine g_invS_r (pc := 17) (As := [_, _]) dX6_ones_17 rfl (s_onesOf (shK hS (rows_lay hs)) hn) rfl rfl lk_X6_145 rfl (nb rfl) ⟨nb rfl, nb rfl⟩ rfl ?_
  refine g_ireturn (pc := 20) dX6_ones_20 rfl rfl ?_
  exact ⟨rfl, rfl⟩
theorem x_ones {v : Int32} (hS : Shp M) (h : ¬ inR v 6) : EvR l jX6_ones 7 120 1 6 [.ref 0, .int v] M (.inr xIO) M := by
  refine ev_intro rfl (nb rfl) rfl ?_
  refine g_aload_n (pc := 0) dX6_ones_0 rfl trivial ?_
  refine g_iload_n (pc := 1) dX6_ones_1 rfl ?_
  refine g_invV_x (pc := 2) (As := [_]) dX6_ones_2 rfl (x_needSlot hS h) rfl rfl (shK hS rfl) rfl rfl lk_X6_141 rfl (nb rfl) ⟨nb rfl, nb rfl⟩ rfl ?_
  exact ⟨rfl, rfl⟩
theorem q_columnOnes {s c n : Nat} (hS : Shp M) (hz : mI M 3 1 = nI n) (hn : n ≤ 32) (hs : s < 6) (hc : c < n) : EvR l jX6_columnOnes 8 140 2 12 [.ref 0, .int (nI s), .int (nI c)] M (.inl (some (.int (bcJ (colOf (mI M (6 + 2 * s)) c n))))) M := by
  refine ev_intro rfl (nb rfl) rfl ?_
  refine g_aload_n (pc := 0) dX6_columnOnes_0 rfl trivial ?_
  refine g_iload_n (pc := 1) dX6_columnOnes_1 rfl ?_
  refine g_iload_n (pc := 2) dX6_columnOnes_2 rfl ?_
  refine g_invV_r (pc := 3) (As := [_, _]) dX6_columnOnes_3 rfl (s_needRow hS hz (in6 hs) (inR_nI hc (by omega))) rfl rfl (shK hS rfl) rfl rfl lk_X6_120 rfl (nb rfl) ⟨nb rfl, nb rfl⟩ rfl ?_
  refine g_aload_n (pc := 6) dX6_columnOnes_6 rfl trivial ?_
  refine g_iload_n (pc := 7) dX6_columnOnes_7 rfl ?_
  refine g_invV_r (pc := 8) (As := [_]) dX6_columnOnes_8 rfl (s_rowsOf hS hs) rfl rfl (shK hS rfl) rfl rfl lk_X6_112 rfl (nb rfl) ⟨nb rfl, nb rfl⟩ rfl ?_
  refine g_iload_n (pc := 11) dX6_columnOnes_11 rfl ?_
  refine g_aload_n (pc := 12) dX6_columnOnes_12 rfl trivial ?_
  refine g_getf (pc := 13) dX6_columnOnes_13 fk_X6_19 (shK hS rfl) (fv_obj (shR hS rfl)) ?_
  refine g_getf (pc := 16) (v := .int _) dX6_columnOnes_16 fk_X6_89 (shK hS rfl) (fun _ => congrArg Value.int (hz)) ?_
  refine g_invS_r (pc := 19) (As := [_, _, _]) dX6_columnOnes_19 rfl (s_columnOf (shK hS (rows_lay hs)) (show c < 32 by omega) hn) rfl rfl lk_X6_149 rfl (nb rfl) ⟨nb rfl, nb rfl⟩ rfl ?_
  refine g_invS_r (pc := 22) (As := [_]) dX6_columnOnes_22 rfl (s_bitCount) rfl rfl lk_X6_132 rfl (nb rfl) ⟨nb rfl, nb rfl⟩ rfl ?_
  refine g_ireturn (pc := 25) dX6_columnOnes_25 rfl rfl ?_
  exact ⟨rfl, rfl⟩
theorem x_columnOnes {v w : Int32} {n : Nat} (hS : Shp M) (hz : mI M 3 1 = nI n) (h : ¬ (inR v 6 ∧ inR w n)) : EvR l jX6_columnOnes 8 140 2 12 [.ref 0, .int v, .int w] M (.inr xIO) M := by
  refine ev_intro rfl (nb rfl) rfl ?_
  refine g_aload_n (pc := 0) dX6_columnOnes_0 rfl trivial ?_
  refine g_iload_n (pc := 1) dX6_columnOnes_1 rfl ?_
  refine g_iload_n (pc := 2) dX6_columnOnes_2 rfl ?_
  refine g_invV_x (pc := 3) (As := [_, _]) dX6_columnOnes_3 rfl (x_needRow hS hz h) rfl rfl (shK hS rfl) rfl rfl lk_X6_120 rfl (nb rfl) ⟨nb rfl, nb rfl⟩ rfl ?_
  exact ⟨rfl, rfl⟩
theorem q_sameAs {s r n : Nat} (hS : Shp M) (hz : mI M 3 1 = nI n) (hn : n ≤ 32) (hs : s < 6) (hr : r < n) : EvR l jX6_sameAs 8 140 2 12 [.ref 0, .int (nI s), .int (nI r)] M (.inl (some (.int (firstEq (mI M (6 + 2 * s)) (mI M (6 + 2 * s) r) n 0)))) M := by
  refine ev_intro rfl (nb rfl) rfl ?_
  refine g_aload_n (pc := 0) dX6_sameAs_0 rfl trivial ?_
  refine g_iload_n (pc := 1) dX6_sameAs_1 rfl ?_
  refine g_iload_n (pc := 2) dX6_sameAs_2 rfl ?_
  refine g_invV_r (pc := 3) (As := [_, _]) dX6_sameAs_3 rfl (s_needRow hS hz (in6 hs) (inR_nI hr (by omega))) rfl rfl (shK hS rfl) rfl rfl lk_X6_120 rfl (nb rfl) ⟨nb rfl, nb rfl⟩ rfl ?_
  refine g_aload_n (pc := 6) dX6_sameAs_6 rfl trivial ?_
  refine g_aload_n (pc := 7) dX6_sameAs_7 rfl trivial ?_
  refine g_iload_n (pc := 8) dX6_sameAs_8 rfl ?_
  refine g_invV_r (pc := 9) (As := [_]) dX6_sameAs_9 rfl (s_rowsOf hS hs) rfl rfl (shK hS rfl) rfl rfl lk_X6_112 rfl (nb rfl) ⟨nb rfl, nb rfl⟩ rfl ?_
  refine g_aload_n (pc := 12) dX6_sameAs_12 rfl trivial ?_
  refine g_iload_n (pc := 13) dX6_sameAs_13 rfl ?_
  refine g_invV_r (pc := 14) (As := [_]) dX6_sameAs_14 rfl (s_rowsOf hS hs) rfl rfl (shK hS rfl) rfl rfl lk_X6_112 rfl (nb rfl) ⟨nb rfl, nb rfl⟩ rfl ?_
  refine g_iload_n (pc := 17) dX6_sameAs_17 rfl ?_
  refine g_iaload (pc := 18) dX6_sameAs_18 (shK hS (rows_lay hs)) rfl (by omega) (nl rfl) ?_
  refine g_invV_r (pc := 19) (As := [_, _]) dX6_sameAs_19 rfl (s_firstEqual hS (shK hS (rows_lay hs)) hz hn) rfl rfl (shK hS rfl) rfl rfl lk_X6_153 rfl (nb rfl) ⟨nb rfl, nb rfl⟩ rfl ?_
  refine g_ireturn (pc := 22) dX6_sameAs_22 rfl rfl ?_
  exact ⟨rfl, rfl⟩
theorem x_sameAs {v w : Int32} {n : Nat} (hS : Shp M) (hz : mI M 3 1 = nI n) (h : ¬ (inR v 6 ∧ inR w n)) : EvR l jX6_sameAs 8 140 2 12 [.ref 0, .int v, .int w] M (.inr xIO) M := by
  refine ev_intro rfl (nb rfl) rfl ?_
  refine g_aload_n (pc := 0) dX6_sameAs_0 rfl trivial ?_
  refine g_iload_n (pc := 1) dX6_sameAs_1 rfl ?_
  refine g_iload_n (pc := 2) dX6_sameAs_2 rfl ?_
  refine g_invV_x (pc := 3) (As := [_, _]) dX6_sameAs_3 rfl (x_needRow hS hz h) rfl rfl (shK hS rfl) rfl rfl lk_X6_120 rfl (nb rfl) ⟨nb rfl, nb rfl⟩ rfl ?_
  exact ⟨rfl, rfl⟩
theorem q_classes {s n : Nat} (hS : Shp M) (hz : mI M 3 1 = nI n) (hn : n ≤ 32) (hs : s < 6) : EvR l jX6_classes 7 120 1 6 [.ref 0, .int (nI s)] M (.inl (some (.int (frN (mI M (6 + 2 * s)) n n)))) M := by
  refine ev_intro rfl (nb rfl) rfl ?_
  refine g_aload_n (pc := 0) dX6_classes_0 rfl trivial ?_
  refine g_iload_n (pc := 1) dX6_classes_1 rfl ?_
  refine g_invV_r (pc := 2) (As := [_]) dX6_classes_2 rfl (s_needSlot (in6 hs)) rfl rfl (shK hS rfl) rfl rfl lk_X6_141 rfl (nb rfl) ⟨nb rfl, nb rfl⟩ rfl ?_
  refine g_aload_n (pc := 5) dX6_classes_5 rfl trivial ?_
  refine g_aload_n (pc := 6) dX6_classes_6 rfl trivial ?_
  refine g_iload_n (pc := 7) dX6_classes_7 rfl ?_
  refine g_invV_r (pc := 8) (As := [_]) dX6_classes_8 rfl (s_rowsOf hS hs) rfl rfl (shK hS rfl) rfl rfl lk_X6_112 rfl (nb rfl) ⟨nb rfl, nb rfl⟩ rfl ?_
  refine g_aload_n (pc := 11) dX6_classes_11 rfl trivial ?_
  refine g_getf (pc := 12) dX6_classes_12 fk_X6_19 (shK hS rfl) (fv_obj (shR hS rfl)) ?_
  refine g_getf (pc := 15) (v := .int _) dX6_classes_15 fk_X6_89 (shK hS rfl) (fun _ => congrArg Value.int (hz)) ?_
  refine g_invV_r (pc := 18) (As := [_, _]) dX6_classes_18 rfl (s_firstRows hS (shK hS (rows_lay hs)) hz hn hn) rfl rfl (shK hS rfl) rfl rfl lk_X6_156 rfl (nb rfl) ⟨nb rfl, nb rfl⟩ rfl ?_
  refine g_ireturn (pc := 21) dX6_classes_21 rfl rfl ?_
  exact ⟨rfl, rfl⟩
theorem x_classes {v : Int32} (hS : Shp M) (h : ¬ inR v 6) : EvR l jX6_classes 7 120 1 6 [.ref 0, .int v] M (.inr xIO) M := by
  refine ev_intro rfl (nb rfl) rfl ?_
  refine g_aload_n (pc := 0) dX6_classes_0 rfl trivial ?_
  refine g_iload_n (pc := 1) dX6_classes_1 rfl ?_
  refine g_invV_x (pc := 2) (As := [_]) dX6_classes_2 rfl (x_needSlot hS h) rfl rfl (shK hS rfl) rfl rfl lk_X6_141 rfl (nb rfl) ⟨nb rfl, nb rfl⟩ rfl ?_
  exact ⟨rfl, rfl⟩
/-- the first row equal to a row is a row up to it -/
theorem firstEq_le (f : Nat → Int32) (r : Nat) : ∀ d i, i ≤ r → r < i + d → ∃ j, j ≤ r ∧ firstEq f (f r) d i = nI j
  | 0, i, h, h' => by omega
  | d + 1, i, h, h' => by
    rw [firstEq]
    by_cases h9 : f i = f r
    · rw [if_pos h9]; exact ⟨i, h, rfl⟩
    · rw [if_neg h9]
      have hne : i ≠ r := fun q => h9 (by rw [q])
      exact firstEq_le f r d (i + 1) (by omega) (by omega)
def firstN (f : Nat → Int32) (r n : Nat) : Nat := (firstEq f (f r) n 0).toNatClampNeg
theorem firstN_ok {f : Nat → Int32} {r n : Nat} (hr : r < n) (hn : n ≤ 32) : firstEq f (f r) n 0 = nI (firstN f r n) ∧ firstN f r n ≤ r := by
  obtain ⟨j, h1, h2⟩ := firstEq_le f r n 0 (Nat.zero_le _) (by omega)
  unfold firstN
  rw [h2, nI_clamp (by omega)]
  exact ⟨rfl, h1⟩
theorem q_classOf {s r n : Nat} (hS : Shp M) (hz : mI M 3 1 = nI n) (hn : n ≤ 32) (hs : s < 6) (hr : r < n) : EvR l jX6_classOf 8 140 2 12 [.ref 0, .int (nI s), .int (nI r)] M (.inl (some (.int (frN (mI M (6 + 2 * s)) n (firstN (mI M (6 + 2 * s)) r n))))) M := by
  obtain ⟨f1, f2⟩ := firstN_ok (f := mI M (6 + 2 * s)) hr hn
  refine ev_intro rfl (nb rfl) rfl ?_
  refine g_aload_n (pc := 0) dX6_classOf_0 rfl trivial ?_
  refine g_iload_n (pc := 1) dX6_classOf_1 rfl ?_
  refine g_iload_n (pc := 2) dX6_classOf_2 rfl ?_
  refine g_invV_r (pc := 3) (As := [_, _]) dX6_classOf_3 rfl (s_needRow hS hz (in6 hs) (inR_nI hr (by omega))) rfl rfl (shK hS rfl) rfl rfl lk_X6_120 rfl (nb rfl) ⟨nb rfl, nb rfl⟩ rfl ?_
  refine g_aload_n (pc := 6) dX6_classOf_6 rfl trivial ?_
  refine g_iload_n (pc := 7) dX6_classOf_7 rfl ?_
  refine g_invV_r (pc := 8) (As := [_]) dX6_classOf_8 rfl (s_rowsOf hS hs) rfl rfl (shK hS rfl) rfl rfl lk_X6_112 rfl (nb rfl) ⟨nb rfl, nb rfl⟩ rfl ?_
  refine g_astore_n (pc := 11) (lv' := [(0, _), (1, _), (2, _), (3, _)]) dX6_classOf_11 trivial (nl rfl) rfl ?_
  refine g_aload_n (pc := 12) dX6_classOf_12 rfl trivial ?_
  refine g_aload_n (pc := 13) dX6_classOf_13 rfl trivial ?_
  refine g_aload_n (pc := 14) dX6_classOf_14 rfl trivial ?_
  refine g_aload_n (pc := 15) dX6_classOf_15 rfl trivial ?_
  refine g_aload_n (pc := 16) dX6_classOf_16 rfl trivial ?_
  refine g_iload_n (pc := 17) dX6_classOf_17 rfl ?_
  refine g_iaload (pc := 18) dX6_classOf_18 (shK hS (rows_lay hs)) rfl (by omega) (nl rfl) ?_
  refine g_invV_r (pc := 19) (As := [_, _]) dX6_classOf_19 rfl (s_firstEqual hS (shK hS (rows_lay hs)) hz hn) rfl rfl (shK hS rfl) rfl rfl lk_X6_153 rfl (nb rfl) ⟨nb rfl, nb rfl⟩ rfl ?_
  rw [f1]
  refine g_invV_r (pc := 22) (As := [_, _]) dX6_classOf_22 rfl (s_firstRows hS (shK hS (rows_lay hs)) hz hn (by omega)) rfl rfl (shK hS rfl) rfl rfl lk_X6_156 rfl (nb rfl) ⟨nb rfl, nb rfl⟩ rfl ?_
  refine g_ireturn (pc := 25) dX6_classOf_25 rfl rfl ?_
  exact ⟨rfl, rfl⟩
theorem x_classOf {v w : Int32} {n : Nat} (hS : Shp M) (hz : mI M 3 1 = nI n) (h : ¬ (inR v 6 ∧ inR w n)) : EvR l jX6_classOf 8 140 2 12 [.ref 0, .int v, .int w] M (.inr xIO) M := by
  refine ev_intro rfl (nb rfl) rfl ?_
  refine g_aload_n (pc := 0) dX6_classOf_0 rfl trivial ?_
  refine g_iload_n (pc := 1) dX6_classOf_1 rfl ?_
  refine g_iload_n (pc := 2) dX6_classOf_2 rfl ?_
  refine g_invV_x (pc := 3) (As := [_, _]) dX6_classOf_3 rfl (x_needRow hS hz h) rfl rfl (shK hS rfl) rfl rfl lk_X6_120 rfl (nb rfl) ⟨nb rfl, nb rfl⟩ rfl ?_
  exact ⟨rfl, rfl⟩
theorem q_find {s n : Nat} {x : Int64} (hS : Shp M) (hz : mI M 3 1 = nI n) (hn : n ≤ 32) (hs : s < 6) : EvR l jX6_find 7 120 1 6 [.ref 0, .int (nI s), .long x] M (.inl (some (.int (firstEq (mI M (6 + 2 * s)) (x.toInt32 &&& lowM n) n 0)))) M := by
  refine ev_intro rfl (nb rfl) rfl ?_
  refine g_aload_n (pc := 0) dX6_find_0 rfl trivial ?_
  refine g_iload_n (pc := 1) dX6_find_1 rfl ?_
  refine g_invV_r (pc := 2) (As := [_]) dX6_find_2 rfl (s_needSlot (in6 hs)) rfl rfl (shK hS rfl) rfl rfl lk_X6_141 rfl (nb rfl) ⟨nb rfl, nb rfl⟩ rfl ?_
  refine g_aload_n (pc := 5) dX6_find_5 rfl trivial ?_
  refine g_aload_n (pc := 6) dX6_find_6 rfl trivial ?_
  refine g_iload_n (pc := 7) dX6_find_7 rfl ?_
  refine g_invV_r (pc := 8) (As := [_]) dX6_find_8 rfl (s_rowsOf hS hs) rfl rfl (shK hS rfl) rfl rfl lk_X6_112 rfl (nb rfl) ⟨nb rfl, nb rfl⟩ rfl ?_
  refine g_lload_n (pc := 11) dX6_find_11 rfl ?_
  refine g_l2i (pc := 12) dX6_find_12 rfl ?_
  refine g_aload_n (pc := 13) dX6_find_13 rfl trivial ?_
  refine g_getf (pc := 14) dX6_find_14 fk_X6_19 (shK hS rfl) (fv_obj (shR hS rfl)) ?_
  refine g_getf (pc := 17) (v := .int _) dX6_find_17 fk_X6_89 (shK hS rfl) (fun _ => congrArg Value.int (hz)) ?_
  refine g_invS_r (pc := 20) (As := [_]) dX6_find_20 rfl (s_lowest hn) rfl rfl lk_X6_128 rfl (nb rfl) ⟨nb rfl, nb rfl⟩ rfl ?_
  refine g_iand (pc := 23) dX6_find_23 ?_
  refine g_invV_r (pc := 24) (As := [_, _]) dX6_find_24 rfl (s_firstEqual hS (shK hS (rows_lay hs)) hz hn) rfl rfl (shK hS rfl) rfl rfl lk_X6_153 rfl (nb rfl) ⟨nb rfl, nb rfl⟩ rfl ?_
  refine g_ireturn (pc := 27) dX6_find_27 rfl rfl ?_
  exact ⟨rfl, rfl⟩
theorem x_find {v : Int32} {x : Int64} (hS : Shp M) (h : ¬ inR v 6) : EvR l jX6_find 7 120 1 6 [.ref 0, .int v, .long x] M (.inr xIO) M := by
  refine ev_intro rfl (nb rfl) rfl ?_
  refine g_aload_n (pc := 0) dX6_find_0 rfl trivial ?_
  refine g_iload_n (pc := 1) dX6_find_1 rfl ?_
  refine g_invV_x (pc := 2) (As := [_]) dX6_find_2 rfl (x_needSlot hS h) rfl rfl (shK hS rfl) rfl rfl lk_X6_141 rfl (nb rfl) ⟨nb rfl, nb rfl⟩ rfl ?_
  exact ⟨rfl, rfl⟩
/-- the nearest row so far, and how unlike it is -/
def nrF (f : Nat → Int32) (r : Nat) : Nat → Int32 × Int32
  | 0 => (-1, 33)
  | k + 1 => if k = r then nrF f r k else if bcJ (f k ^^^ f r) < (nrF f r k).2 then (nI k, bcJ (f k ^^^ f r)) else nrF f r k
theorem q_nearest {s r n : Nat} (hS : Shp M) (hz : mI M 3 1 = nI n) (hn : n ≤ 32) (hs : s < 6) (hr : r < n) : EvR l jX6_nearest 8 140 2 12 [.ref 0, .int (nI s), .int (nI r)] M (.inl (some (.int (nrF (mI M (6 + 2 * s)) r n).1))) M := by
  refine ev_intro rfl (nb rfl) rfl ?_
  refine g_aload_n (pc := 0) dX6_nearest_0 rfl trivial ?_
  refine g_iload_n (pc := 1) dX6_nearest_1 rfl ?_
  refine g_iload_n (pc := 2) dX6_nearest_2 rfl ?_
  refine g_invV_r (pc := 3) (As := [_, _]) dX6_nearest_3 rfl (s_needRow hS hz (in6 hs) (inR_nI hr (by omega))) rfl rfl (shK hS rfl) rfl rfl lk_X6_120 rfl (nb rfl) ⟨nb rfl, nb rfl⟩ rfl ?_
  refine g_aload_n (pc := 6) dX6_nearest_6 rfl trivial ?_
  refine g_iload_n (pc := 7) dX6_nearest_7 rfl ?_
  refine g_invV_r (pc := 8) (As := [_]) dX6_nearest_8 rfl (s_rowsOf hS hs) rfl rfl (shK hS rfl) rfl rfl lk_X6_112 rfl (nb rfl) ⟨nb rfl, nb rfl⟩ rfl ?_
  refine g_astore_n (pc := 11) (lv' := [(0, _), (1, _), (2, _), (3, _)]) dX6_nearest_11 trivial (nl rfl) rfl ?_
  refine g_iconst (pc := 12) (v := (-1)) dX6_nearest_12 rfl ?_
  refine g_istore (pc := 13) (lv' := [(0, _), (1, _), (2, _), (3, _), (4, _)]) dX6_nearest_13 (nl rfl) rfl ?_
  refine g_bipush (pc := 15) (v := 33) dX6_nearest_15 rfl ?_
  refine g_istore (pc := 17) (lv' := [(0, _), (1, _), (2, _), (3, _), (4, _), (5, _)]) dX6_nearest_17 (nl rfl) rfl ?_
  refine g_iconst (pc := 19) (v := 0) dX6_nearest_19 rfl ?_
  refine g_istore (pc := 20) (lv' := [(0, _), (1, _), (2, _), (3, _), (4, _), (5, _), (6, _)]) dX6_nearest_20 (nl rfl) rfl ?_
  refine go_loop (pc := 22) n (fun i => [(0, .ref 0), (1, .int (nI s)), (2, .int (nI r)), (3, .ref (6 + 2 * s)), (4, .int (nrF (mI M (6 + 2 * s)) r i).1), (5, .int (nrF (mI M (6 + 2 * s)) r i).2), (6, .int (nI i))]) (fun i => M) ⟨rfl, rfl, rfl, rfl, rfl, rfl, rfl, trivial⟩ rfl ?_ ?_
  · intro i hi ih
    generalize nrF (mI M (6 + 2 * s)) r n = X at ih ⊢
    rw [nrF] at ih
    refine g_iload (pc := 22) dX6_nearest_22 rfl ?_
    refine g_aload_n (pc := 24) dX6_nearest_24 rfl trivial ?_
    refine g_getf (pc := 25) dX6_nearest_25 fk_X6_19 (shK hS rfl) (fv_obj (shR hS rfl)) ?_
    refine g_getf (pc := 28) (v := .int _) dX6_nearest_28 fk_X6_89 (shK hS rfl) (fun _ => congrArg Value.int (hz)) ?_
    refine g_icmp_ge (pc := 31) (tgt := 74) dX6_nearest_31 rfl (fun h31 => absurd h31 (nI_ge hi (by omega))) (fun _ => ?_)
    refine g_aload_n (pc := 34) dX6_nearest_34 rfl trivial ?_
    refine g_iload (pc := 35) dX6_nearest_35 rfl ?_
    refine g_iaload (pc := 37) dX6_nearest_37 (shK hS (rows_lay hs)) rfl (by omega) (nl rfl) ?_
    refine g_aload_n (pc := 38) dX6_nearest_38 rfl trivial ?_
    refine g_iload_n (pc := 39) dX6_nearest_39 rfl ?_
    refine g_iaload (pc := 40) dX6_nearest_40 (shK hS (rows_lay hs)) rfl (by omega) (nl rfl) ?_
    refine g_ixor (pc := 41) dX6_nearest_41 ?_
    refine g_invS_r (pc := 42) (As := [_]) dX6_nearest_42 rfl (s_bitCount) rfl rfl lk_X6_132 rfl (nb rfl) ⟨nb rfl, nb rfl⟩ rfl ?_
    refine g_istore (pc := 45) (lv' := [(0, _), (1, _), (2, _), (3, _), (4, _), (5, _), (6, _), (7, _)]) dX6_nearest_45 (nl rfl) rfl ?_
    refine g_iload (pc := 47) dX6_nearest_47 rfl ?_
    refine g_iload_n (pc := 49) dX6_nearest_49 rfl ?_
    refine g_icmp_eq (pc := 50) (tgt := 68) dX6_nearest_50 rfl (fun h50 => ?_) (fun h50 => ?_)
    · rw [if_pos ((nI_eq (by omega) (by omega)).mp h50)] at ih
      refine g_iinc (pc := 68) (lv' := [(0, _), (1, _), (2, _), (3, _), (4, _), (5, _), (6, _), (7, _)]) dX6_nearest_68 rfl (nI_1 _) (nl rfl) rfl ?_
      refine g_goto (pc := 71) (tgt := 22) dX6_nearest_71 rfl ?_
      exact g_sub (lv' := [(0, _), (1, _), (2, _), (3, _), (4, _), (5, _), (6, _)]) ⟨rfl, rfl, rfl, rfl, rfl, rfl, rfl, trivial⟩ ih
    · rw [if_neg (fun h => h50 (by rw [h]))] at ih
      refine g_iload (pc := 53) dX6_nearest_53 rfl ?_
      refine g_iload (pc := 55) dX6_nearest_55 rfl ?_
      refine g_icmp_ge (pc := 57) (tgt := 68) dX6_nearest_57 rfl (fun h57 => ?_) (fun h57 => ?_)
      · rw [if_neg (Int32.not_lt.mpr h57)] at ih
        refine g_iinc (pc := 68) (lv' := [(0, _), (1, _), (2, _), (3, _), (4, _), (5, _), (6, _), (7, _)]) dX6_nearest_68 rfl (nI_1 _) (nl rfl) rfl ?_
        refine g_goto (pc := 71) (tgt := 22) dX6_nearest_71 rfl ?_
        exact g_sub (lv' := [(0, _), (1, _), (2, _), (3, _), (4, _), (5, _), (6, _)]) ⟨rfl, rfl, rfl, rfl, rfl, rfl, rfl, trivial⟩ ih
      · rw [if_pos (Int32.not_le.mp h57)] at ih
        refine g_iload (pc := 60) dX6_nearest_60 rfl ?_
        refine g_istore (pc := 62) (lv' := [(0, _), (1, _), (2, _), (3, _), (4, _), (5, _), (6, _), (7, _)]) dX6_nearest_62 (nl rfl) rfl ?_
        refine g_iload (pc := 64) dX6_nearest_64 rfl ?_
        refine g_istore (pc := 66) (lv' := [(0, _), (1, _), (2, _), (3, _), (4, _), (5, _), (6, _), (7, _)]) dX6_nearest_66 (nl rfl) rfl ?_
        refine g_iinc (pc := 68) (lv' := [(0, _), (1, _), (2, _), (3, _), (4, _), (5, _), (6, _), (7, _)]) dX6_nearest_68 rfl (nI_1 _) (nl rfl) rfl ?_
        refine g_goto (pc := 71) (tgt := 22) dX6_nearest_71 rfl ?_
        exact g_sub (lv' := [(0, _), (1, _), (2, _), (3, _), (4, _), (5, _), (6, _)]) ⟨rfl, rfl, rfl, rfl, rfl, rfl, rfl, trivial⟩ ih
  · refine g_iload (pc := 22) dX6_nearest_22 rfl ?_
    refine g_aload_n (pc := 24) dX6_nearest_24 rfl trivial ?_
    refine g_getf (pc := 25) dX6_nearest_25 fk_X6_19 (shK hS rfl) (fv_obj (shR hS rfl)) ?_
    refine g_getf (pc := 28) (v := .int _) dX6_nearest_28 fk_X6_89 (shK hS rfl) (fun _ => congrArg Value.int (hz)) ?_
    refine g_icmp_ge (pc := 31) (tgt := 74) dX6_nearest_31 rfl (fun _ => ?_) (fun h31 => absurd (nI_le (Nat.le_refl _) (by omega)) h31)
    refine g_iload (pc := 74) dX6_nearest_74 rfl ?_
    refine g_ireturn (pc := 76) dX6_nearest_76 rfl rfl ?_
    exact ⟨rfl, rfl⟩
theorem x_nearest {v w : Int32} {n : Nat} (hS : Shp M) (hz : mI M 3 1 = nI n) (h : ¬ (inR v 6 ∧ inR w n)) : EvR l jX6_nearest 8 140 2 12 [.ref 0, .int v, .int w] M (.inr xIO) M := by
  refine ev_intro rfl (nb rfl) rfl ?_
  refine g_aload_n (pc := 0) dX6_nearest_0 rfl trivial ?_
  refine g_iload_n (pc := 1) dX6_nearest_1 rfl ?_
  refine g_iload_n (pc := 2) dX6_nearest_2 rfl ?_
  refine g_invV_x (pc := 3) (As := [_, _]) dX6_nearest_3 rfl (x_needRow hS hz h) rfl rfl (shK hS rfl) rfl rfl lk_X6_120 rfl (nb rfl) ⟨nb rfl, nb rfl⟩ rfl ?_
  exact ⟨rfl, rfl⟩
end
end
