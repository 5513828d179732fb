section
variable {l : Launch} {M : Mem}
def smF (f : Nat → Int32) (n : Nat) : Nat → Nat → Bool
  | 0, _ => true
  | d + 1, i => if f i = colOf f i n then smF f n d (i + 1) else false
/-- the node at a place of an order: d places are left, p is the place, y what is left -/
def orF (f : Nat → Int32) (n : Nat) (x : Int32) : Nat → Nat → Int32 → Int32
  | 0, _, _ => -1
  | d + 1, p, y => if y &&& (jrF f y n ^^^ -1) = 0 then -1 else if nI p = x then nI (lowN (y &&& (jrF f y n ^^^ -1))) else orF f n x d (p + 1) (y &&& (bitI (lowN (y &&& (jrF f y n ^^^ -1))) ^^^ -1))
def loV (M : Mem) (s a b n : Nat) : Int32 := lossB (mI (clOf (lwMem M s a b n) s n) (176 + 2 * s)) (mI (lwMem M s a b n) 195) a b n
def loM (M : Mem) (s a b n : Nat) : Mem := clOf (lwMem M s a b n) s n
def trI (f : Nat → Int32) (n a : Nat) (x : Int32) : Nat → Int32
  | 0 => x
  | k + 1 => if a = k then trI f n a x k else if hb (f a) k = true then trI f n a x k + bcJ (f k &&& (colOf f a n &&& (bitI a ^^^ -1)) &&& (bitI k ^^^ -1)) else trI f n a x k
def trO (f : Nat → Int32) (n : Nat) : Nat → Int32
  | 0 => 0
  | k + 1 => trI f n k (trO f n k) n
theorem q_count0 (hS : Shp M) : EvR l jX6_count 7 120 1 6 [.ref 0, .int 0] M (.inl (some (.int (mI M 3 1)))) M := by
  refine ev_intro rfl (nb rfl) rfl ?_
  refine g_aload_n (pc := 0) dX6_count_0 rfl trivial ?_
  refine g_iload_n (pc := 1) dX6_count_1 rfl ?_
  refine g_iconst (pc := 2) (v := 0) dX6_count_2 rfl ?_
  refine g_iconst (pc := 3) (v := 3) dX6_count_3 rfl ?_
  refine g_invV_r (pc := 4) (As := [_, _, _]) dX6_count_4 rfl (s_needRange (by decide) (by decide)) rfl rfl (shK hS rfl) rfl rfl lk_X6_95 rfl (nb rfl) ⟨nb rfl, nb rfl⟩ rfl ?_
  refine g_iload_n (pc := 7) dX6_count_7 rfl ?_
  refine g_tableIn (pc := 8) (tgt := 36) (off := 28) dX6_count_8 (by decide) (by decide) (by decide) (by decide) ?_
  refine g_aload_n (pc := 36) dX6_count_36 rfl trivial ?_
  refine g_getf (pc := 37) dX6_count_37 fk_X6_19 (shK hS rfl) (fv_obj (shR hS rfl)) ?_
  refine g_getf (pc := 40) (v := .int (mI _ _ _)) dX6_count_40 fk_X6_89 (shK hS rfl) (fun _ => rfl) ?_
  refine g_ireturn (pc := 43) dX6_count_43 rfl rfl ?_
  exact ⟨rfl, rfl⟩
theorem q_count1 (hS : Shp M) : EvR l jX6_count 7 120 1 6 [.ref 0, .int 1] M (.inl (some (.int (mI M 3 2)))) M := by
  refine ev_intro rfl (nb rfl) rfl ?_
  refine g_aload_n (pc := 0) dX6_count_0 rfl trivial ?_
  refine g_iload_n (pc := 1) dX6_count_1 rfl ?_
  refine g_iconst (pc := 2) (v := 0) dX6_count_2 rfl ?_
  refine g_iconst (pc := 3) (v := 3) dX6_count_3 rfl ?_
  refine g_invV_r (pc := 4) (As := [_, _, _]) dX6_count_4 rfl (s_needRange (by decide) (by decide)) rfl rfl (shK hS rfl) rfl rfl lk_X6_95 rfl (nb rfl) ⟨nb rfl, nb rfl⟩ rfl ?_
  refine g_iload_n (pc := 7) dX6_count_7 rfl ?_
  refine g_tableIn (pc := 8) (tgt := 44) (off := 36) dX6_count_8 (by decide) (by decide) (by decide) (by decide) ?_
  refine g_aload_n (pc := 44) dX6_count_44 rfl trivial ?_
  refine g_getf (pc := 45) dX6_count_45 fk_X6_19 (shK hS rfl) (fv_obj (shR hS rfl)) ?_
  refine g_getf (pc := 48) (v := .int (mI _ _ _)) dX6_count_48 fk_X6_99 (shK hS rfl) (fun _ => rfl) ?_
  refine g_ireturn (pc := 51) dX6_count_51 rfl rfl ?_
  exact ⟨rfl, rfl⟩
theorem q_count2 (hS : Shp M) : EvR l jX6_count 7 120 1 6 [.ref 0, .int 2] M (.inl (some (.int (nI (keptC M 6))))) M := by
  generalize hX : keptC M 6 = X
  have hk := s_keptSlots (l := l) hS
  rw [hX] at hk
  refine ev_intro rfl (nb rfl) rfl ?_
  refine g_aload_n (pc := 0) dX6_count_0 rfl trivial ?_
  refine g_iload_n (pc := 1) dX6_count_1 rfl ?_
  refine g_iconst (pc := 2) (v := 0) dX6_count_2 rfl ?_
  refine g_iconst (pc := 3) (v := 3) dX6_count_3 rfl ?_
  refine g_invV_r (pc := 4) (As := [_, _, _]) dX6_count_4 rfl (s_needRange (by decide) (by decide)) rfl rfl (shK hS rfl) rfl rfl lk_X6_95 rfl (nb rfl) ⟨nb rfl, nb rfl⟩ rfl ?_
  refine g_iload_n (pc := 7) dX6_count_7 rfl ?_
  refine g_tableIn (pc := 8) (tgt := 52) (off := 44) dX6_count_8 (by decide) (by decide) (by decide) (by decide) ?_
  refine g_aload_n (pc := 52) dX6_count_52 rfl trivial ?_
  refine g_invV_r (pc := 53) (As := []) dX6_count_53 rfl (hk) rfl rfl (shK hS rfl) rfl rfl lk_X6_102 rfl (nb rfl) ⟨nb rfl, nb rfl⟩ rfl ?_
  refine g_ireturn (pc := 56) dX6_count_56 rfl rfl ?_
  exact ⟨rfl, rfl⟩
theorem q_count3 (hS : Shp M) : EvR l jX6_count 7 120 1 6 [.ref 0, .int 3] M (.inl (some (.int (mI M 0 5)))) M := by
  refine ev_intro rfl (nb rfl) rfl ?_
  refine g_aload_n (pc := 0) dX6_count_0 rfl trivial ?_
  refine g_iload_n (pc := 1) dX6_count_1 rfl ?_
  refine g_iconst (pc := 2) (v := 0) dX6_count_2 rfl ?_
  refine g_iconst (pc := 3) (v := 3) dX6_count_3 rfl ?_
  refine g_invV_r (pc := 4) (As := [_, _, _]) dX6_count_4 rfl (s_needRange (by decide) (by decide)) rfl rfl (shK hS rfl) rfl rfl lk_X6_95 rfl (nb rfl) ⟨nb rfl, nb rfl⟩ rfl ?_
  refine g_iload_n (pc := 7) dX6_count_7 rfl ?_
  refine g_tableOut (pc := 8) (tgt := 57) dX6_count_8 (by decide) (by decide) ?_
  refine g_aload_n (pc := 57) dX6_count_57 rfl trivial ?_
  refine g_getf (pc := 58) (v := .int (mI _ _ _)) dX6_count_58 fk_X6_106 (shK hS rfl) (fun _ => rfl) ?_
  refine g_ireturn (pc := 61) dX6_count_61 rfl rfl ?_
  exact ⟨rfl, rfl⟩
end
