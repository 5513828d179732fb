section
variable {l : Launch} {M : Mem}
theorem clOf_z {s n : Nat} (hz : mI M 3 1 = nI n) (hs : s < 6) : mI (clOf M s n) 3 1 = nI n := by rw [clOf_ne (by omega) hs]; exact hz
def cmN (g : Nat → Int32) (n : Nat) : Nat → Int32
  | 0 => 0
  | k + 1 => if lowMut g k n = k then cmN g n k + 1 else cmN g n k
theorem lowMut_lt (g : Nat → Int32) (a n : Nat) : lowMut g a n < 32 := lowN_lt _
def dsV (f : Nat → Int32) (a b n : Nat) : Int32 := if a = b then 0 else feF f b n n 1 (f a)
def giV (f : Nat → Int32) (n : Nat) : Nat → Int32
  | 0 => -1
  | k + 1 => if feF f k n n 1 (f k) = -1 then giV f n k else if giV f n k = -1 then feF f k n n 1 (f k) else if giV f n k ≤ feF f k n n 1 (f k) then giV f n k else feF f k n n 1 (f k)
theorem q_loadErr (hS : Shp M) : EvR l jX6_loadError 0 0 0 0 [.ref 0] M (.inl (some (.int (mI M 1 5)))) M := by
  refine ev_intro rfl (nb rfl) rfl ?_
  refine g_aload_n (pc := 0) dX6_loadError_0 rfl trivial ?_
  refine g_getf (pc := 1) dX6_loadError_1 fk_X6_10 (shK hS rfl) (fv_obj (shR hS rfl)) ?_
  refine g_getf (pc := 4) (v := .int (mI _ _ _)) dX6_loadError_4 fk_X6_76 (shK hS rfl) (fun _ => rfl) ?_
  refine g_ireturn (pc := 7) dX6_loadError_7 rfl rfl ?_
  exact ⟨rfl, rfl⟩
theorem q_loadStatement (hS : Shp M) : EvR l jX6_loadStatement 0 0 0 0 [.ref 0] M (.inl (some (.int (if mI M 1 5 = 0 then -1 else mI M 1 4)))) M := by
  refine ev_intro rfl (nb rfl) rfl ?_
  refine g_aload_n (pc := 0) dX6_loadStatement_0 rfl trivial ?_
  refine g_getf (pc := 1) dX6_loadStatement_1 fk_X6_10 (shK hS rfl) (fv_obj (shR hS rfl)) ?_
  refine g_getf (pc := 4) (v := .int (mI _ _ _)) dX6_loadStatement_4 fk_X6_76 (shK hS rfl) (fun _ => rfl) ?_
  refine g_if_ne (pc := 7) (tgt := 14) dX6_loadStatement_7 rfl (fun h7 => ?_) (fun h7 => ?_)
  · rw [if_neg h7]
    refine g_aload_n (pc := 14) dX6_loadStatement_14 rfl trivial ?_
    refine g_getf (pc := 15) dX6_loadStatement_15 fk_X6_10 (shK hS rfl) (fv_obj (shR hS rfl)) ?_
    refine g_getf (pc := 18) (v := .int (mI _ _ _)) dX6_loadStatement_18 fk_X6_92 (shK hS rfl) (fun _ => rfl) ?_
    refine g_ireturn (pc := 21) dX6_loadStatement_21 rfl rfl ?_
    exact ⟨rfl, rfl⟩
  · rw [if_pos (Decidable.not_not.mp h7)]
    refine g_iconst (pc := 10) (v := (-1)) dX6_loadStatement_10 rfl ?_
    refine g_goto (pc := 11) (tgt := 21) dX6_loadStatement_11 rfl ?_
    refine g_ireturn (pc := 21) dX6_loadStatement_21 rfl rfl ?_
    exact ⟨rfl, rfl⟩
theorem q_append {x : Int64} {len : Nat} (hS : Shp M) (hl : mI M 1 1 = nI len) (hL : len ≤ 600) : EvR l jX6_append 1 30 0 0 [.ref 0, .long x] M (.inl (some (.int (apV M len x)))) (apM M len x) := by
  refine ev_intro rfl (nb rfl) rfl ?_
  refine g_aload_n (pc := 0) dX6_append_0 rfl trivial ?_
  refine g_getf (pc := 1) dX6_append_1 fk_X6_10 (shK hS rfl) (fv_obj (shR hS rfl)) ?_
  refine g_lload_n (pc := 4) dX6_append_4 rfl ?_
  refine g_invV_r (pc := 5) (As := [_]) dX6_append_5 rfl (r_addBytes hS hl hL) rfl rfl (shK hS rfl) rfl rfl lk_X6_68 rfl (nb rfl) ⟨nb rfl, nb rfl⟩ rfl ?_
  refine g_ireturn (pc := 8) dX6_append_8 rfl rfl ?_
  exact ⟨rfl, rfl⟩
end
