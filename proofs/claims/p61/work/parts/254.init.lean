/-! a new desk -/
/-- the cells of a desk that was made at L -/
def qD (L n : Nat) : DQ := (L + 8, L, L + 1, fun s => L + 8 + 1 + s * (n + 1), fun s r => L + 8 + 1 + s * (n + 1) + 1 + r, fun s => L + 1 + 1 + s)
/-- a new desk's numbers -/
def uN (u : Nat → Int64) : Prop := (u 1).toInt32 = 4 ∧ (u 2).toInt32 = 0 ∧ (u 3).toInt32 = 0 ∧ ∀ j, 4 ≤ j → j < 220 → u j = 0
/-- the owners where a desk was made -/
def rhoD (ρ : Nat → Nat × Nat) (p L n : Nat) : Nat → Nat × Nat := fun i => if i = p then (p, 0) else if i < L then ρ i else if i = L then (p, 2) else if i = L + 1 then (p, 3) else if i < L + 8 then (p, 20 + (i - (L + 2))) else if i = L + 8 then (p, 1) else if (i - (L + 9)) % (n + 1) = 0 then (p, 10 + (i - (L + 9)) / (n + 1)) else (p, 30 + 16 * ((i - (L + 9)) / (n + 1)) + ((i - (L + 9)) % (n + 1) - 1))
section
variable {l : Launch} {M M' : Mem} {m n d s t a b p L : Nat} {q : DQ} {u u' : Nat → Int64} {ρ ρ' : Nat → Nat × Nat} {W : Nat → Prop} {ty : FieldType} {h : Nat}
theorem rhoD_old {i : Nat} (hi : i < L) (hp : i ≠ p) : rhoD ρ p L n i = ρ i := by
  unfold rhoD
  rw [if_neg hp, if_pos hi]
theorem dm_at {k : Nat} (hk : k < n + 1) : (s * (n + 1) + k) % (n + 1) = k ∧ (s * (n + 1) + k) / (n + 1) = s := by
  constructor
  · rw [Nat.add_comm, Nat.add_mul_mod_self_right, Nat.mod_eq_of_lt hk]
  · rw [Nat.add_comm, Nat.add_mul_div_right _ _ (Nat.succ_pos n), Nat.div_eq_of_lt hk, Nat.zero_add]
theorem OW.new (hp : p < L) : OW (rhoD ρ p L n) p n (qD L n) := by
  refine ⟨if_pos rfl, ?_, ?_, ?_, fun s hs => ⟨?_, ?_, fun r hr => ?_⟩⟩
  · show rhoD ρ p L n (L + 8) = _
    unfold rhoD
    rw [if_neg (by omega), if_neg (by omega), if_neg (by omega), if_neg (by omega), if_neg (by omega), if_pos rfl]
  · show rhoD ρ p L n L = _
    unfold rhoD
    rw [if_neg (by omega), if_neg (by omega), if_pos rfl]
  · show rhoD ρ p L n (L + 1) = _
    unfold rhoD
    rw [if_neg (by omega), if_neg (by omega), if_neg (by omega), if_pos rfl]
  · show rhoD ρ p L n (L + 8 + 1 + s * (n + 1)) = _
    obtain ⟨e1, e2⟩ := dm_at (s := s) (n := n) (k := 0) (by omega)
    unfold rhoD
    rw [if_neg (by omega), if_neg (by omega), if_neg (by omega), if_neg (by omega), if_neg (by omega), if_neg (by omega), show L + 8 + 1 + s * (n + 1) - (L + 9) = s * (n + 1) + 0 by omega, e1, e2, if_pos rfl]
  · show rhoD ρ p L n (L + 1 + 1 + s) = _
    unfold rhoD
    rw [if_neg (by omega), if_neg (by omega), if_neg (by omega), if_neg (by omega), if_pos (by omega), show L + 1 + 1 + s - (L + 2) = s by omega]
  · show rhoD ρ p L n (L + 8 + 1 + s * (n + 1) + 1 + r) = _
    obtain ⟨e1, e2⟩ := dm_at (s := s) (n := n) (k := 1 + r) (by omega)
    unfold rhoD
    rw [if_neg (by omega), if_neg (by omega), if_neg (by omega), if_neg (by omega), if_neg (by omega), if_neg (by omega), show L + 8 + 1 + s * (n + 1) + 1 + r - (L + 9) = s * (n + 1) + (1 + r) by omega, e1, e2, if_neg (by omega), show 1 + r - 1 = r by omega]
theorem B2.mt (hB : B2 .boolean n n h M) : Mt M h n (fun r => h + 1 + r) (fun _ _ => false) := ⟨hB.1, fun r hr => ⟨(hB.2 r hr).1, (hB.2 r hr).2.1, fun c _ => by rw [(hB.2 r hr).2.2]; rfl⟩⟩
theorem k_init (hk : (mK M)[p]? = some (.inr 7)) (h0 : mI M p = fun _ => 0) (hn : n ≤ 9) (hx : mX M = true) (hu : uN u) : EvO l jX7_init 1 30 70 600 [.ref p, .int (nI n)] M (fun r M' => r = none ∧ DK M' p n (qD (mK M).length n) u ∧ Xt (fun i => i = p) M M' ∧ (mK M').length = (mK M).length + (9 + 6 * (n + 1))) := by
  have hnn : n * n ≤ 81 := Nat.mul_le_mul hn hn
  have hp := k_lt hk
  generalize hL : (mK M).length = L at *
  refine ev_intro rfl (nb rfl) rfl ?_
  refine g_aload_n (pc := 0) dX7_init_0 rfl trivial ?_
  refine g_objInit (pc := 1) dX7_init_1 wd_x405 wd_121 wd_122 (nb rfl) (nb rfl) ?_
  refine g_aload_n (pc := 4) dX7_init_4 rfl trivial ?_
  refine g_iconst (pc := 5) (v := 4) dX7_init_5 rfl ?_
  refine g_putI (pc := 6) dX7_init_6 fp_X7_7 hk ⟨rfl, rfl⟩ (fun _ _ _ _ => rfl) ?_
  refine g_aload_n (pc := 9) dX7_init_9 rfl trivial ?_
  refine g_bipush (pc := 10) (v := 6) dX7_init_10 rfl ?_
  refine g_wk (pc := 12) (k := 68 + 1) (n := 594 + 6) (by omega) (by omega) ?_
  have k1 : (mK (nK (sI M p (fun_set (mI M p) 1 4)) (.inl (.boolean, 6))))[L]? = some (.inl (.boolean, 6)) := by
    rw [← hL]
    exact new_at (sI M p (fun_set (mI M p) 1 4)) _
  have i1 : mI (nK (sI M p (fun_set (mI M p) 1 4)) (.inl (.boolean, 6))) L = fun _ => 0 := by
    rw [← hL]
    exact new_I (sI M p (fun_set (mI M p) 1 4)) _
  have l1 : (mK (nK (sI M p (fun_set (mI M p) 1 4)) (.inl (.boolean, 6)))).length = L + 1 := by
    rw [← hL]
    exact new_l (sI M p (fun_set (mI M p) 1 4)) _
  have x1 : Xt (fun i => i = p) M (nK (sI M p (fun_set (mI M p) 1 4)) (.inl (.boolean, 6))) := ((Xt.rf (fun i => i = p) M).sI (fun _ => rfl)).nK _
  have f1 : mI (nK (sI M p (fun_set (mI M p) 1 4)) (.inl (.boolean, 6))) p = fun_set (mI M p) 1 4 := by
    rw [new_Ine (sI M p (fun_set (mI M p) 1 4)) _ (by show p < (mK M).length; omega), sI_self]
  refine g_newarray_boolean (pc := 12) dX7_init_12 wd_234 rfl (by decide) hx ?_
  refine g_putR (pc := 14) dX7_init_14 fp_X7_13 (fun h => by cases h) (x1.k hk) (fun _ => ⟨rfl, rfl⟩) (fun _ _ _ _ => rfl) ?_
  rw [show (mK (sI M p (fun_set (mI M p) 1 4))).length = L from hL]
  generalize nK (sI M p (fun_set (mI M p) 1 4)) (.inl (.boolean, 6)) = M2 at *
  have x2 : Xt (fun i => i = p) M (sR M2 p (fun_set (mR M2 p) 5 (some L))) := x1.sR (fun _ => rfl)
  have hB := os2_B (sR M2 p (fun_set (mR M2 p) 5 (some L))) .int 6 3
  have hX := os2_xt (sR M2 p (fun_set (mR M2 p) 5 (some L))) .int 6 3
  have hl := os2_len (sR M2 p (fun_set (mR M2 p) 5 (some L))) .int 6 3
  rw [show (mK (sR M2 p (fun_set (mR M2 p) 5 (some L)))).length = L + 1 from l1] at hB hX hl
  refine g_aload_n (pc := 17) dX7_init_17 rfl trivial ?_
  refine g_bipush (pc := 18) (v := 6) dX7_init_18 rfl ?_
  refine g_iconst (pc := 20) (v := 3) dX7_init_20 rfl ?_
  refine g_multi2 (pc := 21) dX7_init_21 wd_x406 (by decide) (a9 := 6) (b9 := 3) (t0 := 9) (fun _ => rfl) (mk2_I (by decide) (by decide)) (os2_v okT_I 6 3) (x2.2.1.trans hx) (k := 61) (n := 570) (by rw [os2_C]; omega) (by rw [os2_N]; omega) ?_
  rw [show (mK (sR M2 p (fun_set (mR M2 p) 5 (some L)))).length = L + 1 from l1]
  have x3 : Xt (fun i => i = p) M (opsM (sR M2 p (fun_set (mR M2 p) 5 (some L))) (os2 .int 6 3 (L + 1))) := x2.tr' hX (fun _ _ z => z.elim)
  have r3 : mR (opsM (sR M2 p (fun_set (mR M2 p) 5 (some L))) (os2 .int 6 3 (L + 1))) p = fun_set (mR M2 p) 5 (some L) := (hX.R (k_lt (x1.k hk)) id).trans (sR_self _ _ _)
  have f3 : mI (opsM (sR M2 p (fun_set (mR M2 p) 5 (some L))) (os2 .int 6 3 (L + 1))) p = fun_set (mI M p) 1 4 := (hX.I (k_lt (x1.k hk)) id).trans f1
  have k3 : (mK (opsM (sR M2 p (fun_set (mR M2 p) 5 (some L))) (os2 .int 6 3 (L + 1))))[L]? = some (.inl (.boolean, 6)) := hX.k k1
  have i3 : mI (opsM (sR M2 p (fun_set (mR M2 p) 5 (some L))) (os2 .int 6 3 (L + 1))) L = fun _ => 0 := (hX.I (k_lt k1) id).trans i1
  generalize opsM (sR M2 p (fun_set (mR M2 p) 5 (some L))) (os2 .int 6 3 (L + 1)) = M4 at *
  have l4 : (mK M4).length = L + 8 := hl
  have x5 : Xt (fun i => i = p) M4 (sI (sR M4 p (fun_set (mR M4 p) 6 (some (L + 1)))) p (fun_set (mI M4 p) 0 (nI n))) := ((Xt.rf (fun i => i = p) M4).sR (fun _ => rfl)).sI (fun _ => rfl)
  have hB3 := os3_B (sI (sR M4 p (fun_set (mR M4 p) 6 (some (L + 1)))) p (fun_set (mI M4 p) 0 (nI n))) .boolean 6 n n
  have hl3 := opsM_len (os3 .boolean 6 n n (L + 8)) (sI (sR M4 p (fun_set (mR M4 p) 6 (some (L + 1)))) p (fun_set (mI M4 p) 0 (nI n)))
  rw [show (mK (sI (sR M4 p (fun_set (mR M4 p) 6 (some (L + 1)))) p (fun_set (mI M4 p) 0 (nI n)))).length = L + 8 from l4] at hB3
  obtain ⟨hB3, hX3⟩ := hB3
  refine g_putR (pc := 25) dX7_init_25 fp_X7_19 (fun h => by cases h) (x3.k hk) (fun _ => ⟨rfl, rfl⟩) (fun _ _ _ _ => rfl) ?_
  refine g_aload_n (pc := 28) dX7_init_28 rfl trivial ?_
  refine g_iload_n (pc := 29) dX7_init_29 rfl ?_
  refine g_putIf (pc := 30) dX7_init_30 fp_X7_22 ⟨rfl, _, rfl, rfl⟩ (x3.k hk) ⟨rfl, rfl⟩ (fun _ _ _ _ => rfl) ?_
  refine g_aload_n (pc := 33) dX7_init_33 rfl trivial ?_
  refine g_bipush (pc := 34) (v := 6) dX7_init_34 rfl ?_
  refine g_iload_n (pc := 36) dX7_init_36 rfl ?_
  refine g_iload_n (pc := 37) dX7_init_37 rfl ?_
  refine g_multi3 (pc := 38) dX7_init_38 wd_x408 (by decide) (a9 := 6) (b9 := n) (c9 := n) (t0 := 8) (fun _ => rfl) (mk3_Z (by decide) (by omega) (by omega)) (os3_v okT_Z 6 n n) (x3.2.1.trans hx) (k := 0) (n := 0) (by rw [os3_C]; omega) (by rw [os3_N]; omega) ?_
  rw [show (mK (sI (sR M4 p (fun_set (mR M4 p) 6 (some (L + 1)))) p (fun_set (mI M4 p) 0 (nI n)))).length = L + 8 from l4]
  have hkp := (x3.tr x5).k hk
  have r6 := (hX3.R (k_lt hkp) id).trans (show mR (sI (sR M4 p (fun_set (mR M4 p) 6 (some (L + 1)))) p (fun_set (mI M4 p) 0 (nI n))) p = _ from sR_self _ _ _)
  have f6 := (hX3.I (k_lt hkp) id).trans (sI_self _ _ _)
  have hL0 : L ≠ p := by omega
  have k6 := hX3.k (x5.k k3)
  have i6 := (hX3.I (k_lt (x5.k k3)) id).trans ((x5.I (k_lt k3) hL0).trans i3)
  have kN := hX3.k (x5.k hB.1)
  have hN : ∀ s, s < 6 → _ := fun s hs => (hB.2 s hs)
  have hxx := (x3.tr x5).tr' hX3 (fun _ _ z => z.elim)
  have hx5 : ∀ i, L < i → i < (mK M4).length → ¬ (i = p) := fun i h1 _ => by omega
  have kN2 : ∀ s, s < 6 → mR (opsM (sI (sR M4 p (fun_set (mR M4 p) 6 (some (L + 1)))) p (fun_set (mI M4 p) 0 (nI n))) (os3 .boolean 6 n n (L + 8))) (L + 1) s = some (L + 1 + 1 + s) ∧ (mK (opsM (sI (sR M4 p (fun_set (mR M4 p) 6 (some (L + 1)))) p (fun_set (mI M4 p) 0 (nI n))) (os3 .boolean 6 n n (L + 8))))[L + 1 + 1 + s]? = some (.inl (.int, 3)) ∧ mI (opsM (sI (sR M4 p (fun_set (mR M4 p) 6 (some (L + 1)))) p (fun_set (mI M4 p) 0 (nI n))) (os3 .boolean 6 n n (L + 8))) (L + 1 + 1 + s) = fun _ => 0 := fun s hs => by
    obtain ⟨z1, z2, z3⟩ := hB.2 s hs
    refine ⟨?_, hX3.k (x5.k z2), ?_⟩
    · rw [hX3.R (k_lt (x5.k hB.1)) id, x5.R (k_lt hB.1) (by omega)]
      exact z1
    · rw [hX3.I (k_lt (x5.k z2)) id, x5.I (k_lt z2) (by omega)]
      exact z3
  generalize opsM (sI (sR M4 p (fun_set (mR M4 p) 6 (some (L + 1)))) p (fun_set (mI M4 p) 0 (nI n))) (os3 .boolean 6 n n (L + 8)) = M6 at *
  have x7 : Xt (fun i => i = p) M6 (sR M6 p (fun_set (mR M6 p) 4 (some (L + 8)))) := (Xt.rf (fun i => i = p) M6).sR (fun _ => rfl)
  obtain ⟨u1, u2, u3, u4⟩ := hu
  refine g_putR (pc := 42) dX7_init_42 fp_X7_27 (fun h => by cases h) (hxx.k hk) (fun _ => ⟨rfl, rfl⟩) (fun _ _ _ _ => rfl) ?_
  refine g_return (pc := 45) dX7_init_45 rfl ?_
  refine ⟨_, rfl, rfl, ?_, hxx.tr x7, hl3.trans ?_⟩
  · refine ⟨⟨x7.k (hxx.k hk), ?_, ?_, ?_⟩, ⟨?_, ?_, ?_, ?_⟩, ⟨x7.k hB3.1, x7.k k6, x7.k kN⟩, fun s hs => ?_⟩
    · rw [sR_self, fs_self]
      rfl
    · rw [sR_self, fs_ne _ _ (by decide), r6, fs_ne _ _ (by decide), r3, fs_self]
      rfl
    · rw [sR_self, fs_ne _ _ (by decide), r6, fs_self]
      rfl
    · rw [mI_sR, f6, fs_self]
    · rw [mI_sR, f6, fs_ne _ _ (by decide), f3, fs_self, u1]
    · rw [mI_sR, f6, fs_ne _ _ (by decide), f3, fs_ne _ _ (by decide), h0, u2]
    · rw [mI_sR, f6, fs_ne _ _ (by decide), f3, fs_ne _ _ (by decide), h0, u3]
    · obtain ⟨z1, z2⟩ := hB3.2 s hs
      obtain ⟨y1, y2, y3⟩ := kN2 s hs
      have hm := z2.mt
      refine ⟨⟨?_, (hm.xt x7 ?_ (fun r hr => ?_)).cg (fun r c hr _ => ?_)⟩, ⟨false, ?_, ?_⟩, ?_, x7.k y2, ?_, ?_, ?_⟩
      · show mR (sR M6 p _) (L + 8) s = some (L + 8 + 1 + s * (n + 1))
        rw [x7.R (k_lt hB3.1) (by omega)]
        exact z1
      · show ¬ (L + 8 + 1 + s * (n + 1) = p)
        omega
      · show ¬ (L + 8 + 1 + s * (n + 1) + 1 + r = p)
        omega
      · show false = hb (rI u s r) c
        unfold rI
        rw [u4 _ (by omega) (by omega)]
        exact (hb_0 c).symm
      · show mI (sR M6 p _) L s = _
        rw [mI_sR, i6]
        rfl
      · rw [u4 _ (by omega) (by omega)]
        rfl
      · show mR (sR M6 p _) (L + 1) s = _
        rw [x7.R (k_lt kN) (by omega)]
        exact y1
      · show mI (sR M6 p _) (L + 1 + 1 + s) 0 = _
        rw [mI_sR, y3, u4 _ (by omega) (by omega)]
        rfl
      · show mI (sR M6 p _) (L + 1 + 1 + s) 1 = _
        rw [mI_sR, y3, u4 _ (by omega) (by omega)]
        rfl
      · show mI (sR M6 p _) (L + 1 + 1 + s) 2 = _
        rw [mI_sR, y3, u4 _ (by omega) (by omega)]
        rfl
  · rw [os3_C, show (mK (sI (sR M4 p (fun_set (mR M4 p) 6 (some (L + 1)))) p (fun_set (mI M4 p) 0 (nI n)))).length = L + 8 from l4]
    omega
end

