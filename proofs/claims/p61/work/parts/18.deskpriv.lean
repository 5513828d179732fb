/-! what the class's object computes over rows -/
section
variable {l : Launch} {M : Mem}
def firstEq (f : Nat → Int32) (x : Int32) : Nat → Nat → Int32
  | 0, _ => -1
  | d + 1, i => if f i = x then nI i else firstEq f x d (i + 1)
def frN (f : Nat → Int32) (n : Nat) : Nat → Int32
  | 0 => 0
  | k + 1 => if firstEq f (f k) n 0 = nI k then frN f n k + 1 else frN f n k
def jrF (f : Nat → Int32) (x : Int32) : Nat → Int32
  | 0 => 0
  | k + 1 => if hb x k = true then jrF f x k ||| f k else jrF f x k
def feF (f : Nat → Int32) (b n : Nat) : Nat → Nat → Int32 → Int32
  | 0, _, _ => -1
  | d + 1, e, x => if hb x b = true then nI e else feF f b n d (e + 1) (jrF f x n)
theorem nI_gt {a b : Nat} (h : b < a) (hb : a < 2147483648) : nI b < nI a := (nI_ltI (by omega) hb).mpr h
theorem nI_ngt {a b : Nat} (h : a ≤ b) (hb : b < 2147483648) : ¬ nI b < nI a := fun q => by have := (nI_ltI (a := b) (b := a) hb (by omega)).mp q; omega
def rwlI (f : Nat → Int32) (x : Int32) : Nat → Int32
  | 0 => 0
  | k + 1 => if f k &&& x = 0 then rwlI f x k else rwlI f x k ||| bitI k
def rwlF (f : Nat → Int32) (e n : Nat) : Nat → Int32
  | 0 => bitI e
  | k + 1 => rwlI f (rwlF f e n k) n
theorem lay_196 (hS : Shp M) : (mK M)[196]? = some (kI 32) := shK hS rfl
theorem nI_m1 {e : Nat} (h : 1 ≤ e) : nI e - 1 = nI (e - 1) := by
  obtain ⟨d, rfl⟩ : ∃ d, e = d + 1 := ⟨e - 1, by omega⟩
  rw [← nI_1]; simp
/-- a slot's rows without an edge, beside them -/
def lwMem (M : Mem) (s a b n : Nat) : Mem := sI M 195 (fun_set (wr (mI M 195) (mI M (6 + 2 * s)) n) a (mI M (6 + 2 * s) a &&& (bitI b ^^^ -1)))
theorem clMake_ne {c r n i : Nat} (h : i ≠ c) (h2 : i ≠ c + 1) : mI (clMake M c r n) i = mI M i := by
  unfold clMake; rw [pI_i h, sI_ne h2]
theorem clOf_ne {s n i : Nat} (h : i < 175 ∨ 187 ≤ i) (hs : s < 6) : mI (clOf M s n) i = mI M i := by
  unfold clOf; split
  · rw [clMake_ne (by omega) (by omega)]
  · rfl
theorem cl_ok' : ∀ s, s < 6 → isCl (175 + 2 * s) := fun s h => (cl_ok s h).1
def dnF (f : Nat → Int32) (a n : Nat) : Nat → Nat → Int32
  | 0 => f
  | k + 1 => if hb (dnF f a n k a) k = true then (if hb (reachL (fun_set (dnF f a n k) a (dnF f a n k a &&& (bitI k ^^^ -1))) n (dnF f a n k a &&& (bitI k ^^^ -1)) 0) k = true then fun_set (dnF f a n k) a (dnF f a n k a &&& (bitI k ^^^ -1)) else dnF f a n k) else dnF f a n k
theorem s_dropNeedless {r a n : Nat} (hS : Shp M) (hk : (mK M)[r]? = some (kI 32)) (hr : r ≠ 3) (hz : mI M 3 1 = nI n) (hn : n ≤ 32) (ha : a < n) : EvR l jX6_dropNeedless 3 80 0 0 [.ref 0, .ref r, .int (nI a)] M (.inl none) (sI M r (dnF (mI M r) a n n)) := by
  obtain ⟨S, hs⟩ : ∃ S, S = sI M r (dnF (mI M r) a n n) := ⟨_, rfl⟩
  rw [← hs]
  refine ev_intro rfl (nb rfl) rfl ?_
  refine g_iconst (pc := 0) (v := 0) dX6_dropNeedless_0 rfl ?_
  refine g_istore_n (pc := 1) (lv' := [(0, _), (1, _), (2, _), (3, _)]) dX6_dropNeedless_1 (nl rfl) rfl ?_
  refine go_loop (pc := 2) n (fun i => [(0, .ref 0), (1, .ref r), (2, .int (nI a)), (3, .int (nI i))]) (fun i => sI M r (dnF (mI M r) a n i)) ⟨rfl, rfl, rfl, rfl, trivial⟩ (sI_id M r).symm ?_ ?_
  · intro i hi ih
    rw [dnF] at ih
    have hz1 : ∀ f, mI (sI M r f) 3 1 = nI n := fun f => (congrFun (sI_ne (Ne.symm hr)) 1).trans hz
    have hS0 : ∀ f, Shp (sI M r f) := fun f => shp_sI hS
    have hk0 : ∀ f, (mK (sI M r f))[r]? = some (kI 32) := fun f => hk
    have e0 : ∀ f, mI (sI M r f) r = f := fun f => sI_self M r f
    have e2 : ∀ f g, sI (sI M r f) r g = sI M r g := fun f g => sI_2 M r f g
    generalize dnF (mI M r) a n i = g at *
    refine g_iload_n (pc := 2) dX6_dropNeedless_2 rfl ?_
    refine g_aload_n (pc := 3) dX6_dropNeedless_3 rfl trivial ?_
    refine g_getf (pc := 4) dX6_dropNeedless_4 fk_X6_19 (shK (hS0 _) rfl) (fv_obj (shR (hS0 _) rfl)) ?_
    refine g_getf (pc := 7) (v := .int _) dX6_dropNeedless_7 fk_X6_89 (shK (hS0 _) rfl) (fun _ => congrArg Value.int ((hz1 _))) ?_
    refine g_icmp_ge (pc := 10) (tgt := 68) dX6_dropNeedless_10 rfl (fun h10 => absurd h10 (nI_ge hi (by omega))) (fun _ => ?_)
    refine g_aload_n (pc := 13) dX6_dropNeedless_13 rfl trivial ?_
    refine g_iload_n (pc := 14) dX6_dropNeedless_14 rfl ?_
    refine g_iaload (pc := 15) dX6_dropNeedless_15 (hk0 _) rfl (by omega) (nl rfl) ?_
    rw [e0]
    refine g_istore (pc := 16) (lv' := [(0, _), (1, _), (2, _), (3, _), (4, _)]) dX6_dropNeedless_16 (nl rfl) rfl ?_
    refine g_iload (pc := 18) dX6_dropNeedless_18 rfl ?_
    refine g_iload_n (pc := 20) dX6_dropNeedless_20 rfl ?_
    refine g_invS_r (pc := 21) (As := [_, _]) dX6_dropNeedless_21 rfl (s_hasOne (by omega)) rfl rfl lk_X6_116 rfl (nb rfl) ⟨nb rfl, nb rfl⟩ rfl ?_
    refine g_if_eq (pc := 24) (tgt := 62) dX6_dropNeedless_24 rfl (fun h24 => ?_) (fun h24 => ?_)
    · rw [b1_0] at h24
      rw [if_neg (by rw [h24]; decide)] at ih
      refine g_iinc (pc := 62) (lv' := [(0, _), (1, _), (2, _), (3, _), (4, _)]) dX6_dropNeedless_62 rfl (nI_1 _) (nl rfl) rfl ?_
      refine g_goto (pc := 65) (tgt := 2) dX6_dropNeedless_65 rfl ?_
      exact g_sub (lv' := [(0, _), (1, _), (2, _), (3, _)]) ⟨rfl, rfl, rfl, rfl, trivial⟩ ih
    · rw [b1_0, Bool.not_eq_false] at h24
      rw [if_pos h24] at ih
      refine g_aload_n (pc := 27) dX6_dropNeedless_27 rfl trivial ?_
      refine g_iload_n (pc := 28) dX6_dropNeedless_28 rfl ?_
      refine g_iload (pc := 29) dX6_dropNeedless_29 rfl ?_
      refine g_iconst (pc := 31) (v := 1) dX6_dropNeedless_31 rfl ?_
      refine g_iload_n (pc := 32) dX6_dropNeedless_32 rfl ?_
      refine g_ishl (pc := 33) dX6_dropNeedless_33 ?_
      refine g_iconst (pc := 34) (v := (-1)) dX6_dropNeedless_34 rfl ?_
      refine g_ixor (pc := 35) dX6_dropNeedless_35 ?_
      refine g_iand (pc := 36) dX6_dropNeedless_36 ?_
      refine g_iastore (pc := 37) dX6_dropNeedless_37 (hk0 _) rfl (by omega) (nl rfl) ?_
      rw [e0, e2]
      refine g_aload_n (pc := 38) dX6_dropNeedless_38 rfl trivial ?_
      refine g_iload_n (pc := 39) dX6_dropNeedless_39 rfl ?_
      refine g_aload_n (pc := 40) dX6_dropNeedless_40 rfl trivial ?_
      refine g_getf (pc := 41) dX6_dropNeedless_41 fk_X6_19 (shK (hS0 _) rfl) (fv_obj (shR (hS0 _) rfl)) ?_
      refine g_getf (pc := 44) (v := .int _) dX6_dropNeedless_44 fk_X6_89 (shK (hS0 _) rfl) (fun _ => congrArg Value.int ((hz1 _))) ?_
      refine g_invS_r (pc := 47) (As := [_, _, _]) dX6_dropNeedless_47 rfl (s_reachedFrom (hk0 _) (by omega) hn) rfl rfl lk_X6_353 rfl (nb rfl) ⟨nb rfl, nb rfl⟩ rfl ?_
      refine g_iload_n (pc := 50) dX6_dropNeedless_50 rfl ?_
      refine g_invS_r (pc := 51) (As := [_, _]) dX6_dropNeedless_51 rfl (s_hasOne (by omega)) rfl rfl lk_X6_116 rfl (nb rfl) ⟨nb rfl, nb rfl⟩ rfl ?_
      rw [e0, fs_self]
      refine g_if_ne (pc := 54) (tgt := 62) dX6_dropNeedless_54 rfl (fun h54 => ?_) (fun h54 => ?_)
      · rw [if_pos (by rw [b1_0] at h54; exact Bool.not_eq_false _ ▸ h54)] at ih
        refine g_iinc (pc := 62) (lv' := [(0, _), (1, _), (2, _), (3, _), (4, _)]) dX6_dropNeedless_62 rfl (nI_1 _) (nl rfl) rfl ?_
        refine g_goto (pc := 65) (tgt := 2) dX6_dropNeedless_65 rfl ?_
        exact g_sub (lv' := [(0, _), (1, _), (2, _), (3, _)]) ⟨rfl, rfl, rfl, rfl, trivial⟩ ih
      · rw [if_neg (by rw [b1_0] at h54; exact Bool.eq_false_iff.mp (Decidable.not_not.mp h54))] at ih
        refine g_aload_n (pc := 57) dX6_dropNeedless_57 rfl trivial ?_
        refine g_iload_n (pc := 58) dX6_dropNeedless_58 rfl ?_
        refine g_iload (pc := 59) dX6_dropNeedless_59 rfl ?_
        refine g_iastore (pc := 61) dX6_dropNeedless_61 (hk0 _) rfl (by omega) (nl rfl) ?_
        rw [e0, e2, fs_twice, fs_same]
        refine g_iinc (pc := 62) (lv' := [(0, _), (1, _), (2, _), (3, _), (4, _)]) dX6_dropNeedless_62 rfl (nI_1 _) (nl rfl) rfl ?_
        refine g_goto (pc := 65) (tgt := 2) dX6_dropNeedless_65 rfl ?_
        exact g_sub (lv' := [(0, _), (1, _), (2, _), (3, _)]) ⟨rfl, rfl, rfl, rfl, trivial⟩ ih
  · refine g_iload_n (pc := 2) dX6_dropNeedless_2 rfl ?_
    refine g_aload_n (pc := 3) dX6_dropNeedless_3 rfl trivial ?_
    refine g_getf (pc := 4) dX6_dropNeedless_4 fk_X6_19 (shK (shp_sI hS) rfl) (fv_obj (shR (shp_sI hS) rfl)) ?_
    refine g_getf (pc := 7) (v := .int _) dX6_dropNeedless_7 fk_X6_89 (shK (shp_sI hS) rfl) (fun _ => congrArg Value.int (((congrFun (sI_ne (Ne.symm hr)) 1).trans hz))) ?_
    refine g_icmp_ge (pc := 10) (tgt := 68) dX6_dropNeedless_10 rfl (fun _ => ?_) (fun h10 => absurd (nI_le (Nat.le_refl _) (by omega)) h10)
    refine g_return (pc := 68) dX6_dropNeedless_68 rfl ?_
    exact ⟨rfl, hs.symm⟩
end
