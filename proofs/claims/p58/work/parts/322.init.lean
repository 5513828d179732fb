/-! what the reference's constructor makes -/
def R1M (M : Mem) (m : Nat) : Mem := cR (cR (cR (cR M m 0 (kL 220)) m 1 (kL 220)) m 2 (kL 1760)) m 3 (kL 440)
def R2M (M : Mem) (m : Nat) : Mem := pI (cR (cR M m 4 (.inl (.boolean, 2))) m 7 (.inl (.byte, 600))) m 15 (-1)
def R3M (M : Mem) (m : Nat) : Mem := cR (cR (cR (cR M m 16 (kL 32)) m 17 (kL 32)) m 18 (kL 32)) m 19 (kI 32)
def R4M (M : Mem) (m : Nat) : Mem := cR (cR (cR M m 20 (kL 32)) m 21 (kI 32)) m 23 (.inl (.byte, 32))
def R0M (M : Mem) (m : Nat) : Mem := R4M (R3M (R2M (R1M M m) m) m) m
def X7M (M : Mem) (m : Nat) : Mem := sL (R0M M m) (mK M).length (bgF (mL (R0M M m) (mK M).length) 8)
section
variable {l : Launch} {M : Mem} {m : Nat}
theorem R1_e (M : Mem) (m : Nat) : Ext m M (R1M M m) := ((((Ext.rf m M).tr (ex_cR _ _ _ _)).tr (ex_cR _ _ _ _)).tr (ex_cR _ _ _ _)).tr (ex_cR _ _ _ _)
theorem R2_e (M : Mem) (m : Nat) : Ext m M (R2M M m) := (((Ext.rf m M).tr (ex_cR _ _ _ _)).tr (ex_cR _ _ _ _)).tr (ex_pI _ _ _ _ _)
theorem R3_e (M : Mem) (m : Nat) : Ext m M (R3M M m) := ((((Ext.rf m M).tr (ex_cR _ _ _ _)).tr (ex_cR _ _ _ _)).tr (ex_cR _ _ _ _)).tr (ex_cR _ _ _ _)
theorem R4_e (M : Mem) (m : Nat) : Ext m M (R4M M m) := (((Ext.rf m M).tr (ex_cR _ _ _ _)).tr (ex_cR _ _ _ _)).tr (ex_cR _ _ _ _)
theorem cR_g {a j r : Nat} {k x : Knd} (hk : (mK M)[m]? = some x) (hj : j ≠ a) (h : mR M m j = some r) : mR (cR M m a k) m j = some r := by
  show mR (pR (nK M k) m a (mK M).length) m j = _
  rw [pR_o hj, nK_R hk]; exact h
theorem j_X7 (hx : mX M = true) (hk : (mK M)[m]? = some (.inr 7)) : EvR l jX7_init 1 30 13 3466 [.ref m] M (.inl none) (X7M M m) := by
  have hm : m ≠ (mK M).length := Nat.ne_of_lt (lenI hk)
  refine ev_intro rfl (nb rfl) rfl ?_
  obtain ⟨c0, hc0⟩ : ∃ x, x = cR M m 0 (kL 220) := ⟨_, rfl⟩
  have b0 : Ext m M c0 := hc0 ▸ ex_cR M m _ _
  have a0 : Ext m M c0 := b0
  obtain ⟨c1, hc1⟩ : ∃ x, x = cR c0 m 1 (kL 220) := ⟨_, rfl⟩
  have b1 : Ext m c0 c1 := hc1 ▸ ex_cR c0 m _ _
  have a1 : Ext m M c1 := a0.tr b1
  obtain ⟨c2, hc2⟩ : ∃ x, x = cR c1 m 2 (kL 1760) := ⟨_, rfl⟩
  have b2 : Ext m c1 c2 := hc2 ▸ ex_cR c1 m _ _
  have a2 : Ext m M c2 := a1.tr b2
  obtain ⟨c3, hc3⟩ : ∃ x, x = cR c2 m 3 (kL 440) := ⟨_, rfl⟩
  have b3 : Ext m c2 c3 := hc3 ▸ ex_cR c2 m _ _
  have a3 : Ext m M c3 := a2.tr b3
  obtain ⟨c4, hc4⟩ : ∃ x, x = cR c3 m 4 (.inl (.boolean, 2)) := ⟨_, rfl⟩
  have b4 : Ext m c3 c4 := hc4 ▸ ex_cR c3 m _ _
  have a4 : Ext m M c4 := a3.tr b4
  obtain ⟨c5, hc5⟩ : ∃ x, x = cR c4 m 7 (.inl (.byte, 600)) := ⟨_, rfl⟩
  have b5 : Ext m c4 c5 := hc5 ▸ ex_cR c4 m _ _
  have a5 : Ext m M c5 := a4.tr b5
  obtain ⟨c6, hc6⟩ : ∃ x, x = pI c5 m 15 (-1) := ⟨_, rfl⟩
  have b6 : Ext m c5 c6 := hc6 ▸ ex_pI m c5 _ _ _
  have a6 : Ext m M c6 := a5.tr b6
  obtain ⟨c7, hc7⟩ : ∃ x, x = cR c6 m 16 (kL 32) := ⟨_, rfl⟩
  have b7 : Ext m c6 c7 := hc7 ▸ ex_cR c6 m _ _
  have a7 : Ext m M c7 := a6.tr b7
  obtain ⟨c8, hc8⟩ : ∃ x, x = cR c7 m 17 (kL 32) := ⟨_, rfl⟩
  have b8 : Ext m c7 c8 := hc8 ▸ ex_cR c7 m _ _
  have a8 : Ext m M c8 := a7.tr b8
  obtain ⟨c9, hc9⟩ : ∃ x, x = cR c8 m 18 (kL 32) := ⟨_, rfl⟩
  have b9 : Ext m c8 c9 := hc9 ▸ ex_cR c8 m _ _
  have a9 : Ext m M c9 := a8.tr b9
  obtain ⟨c10, hc10⟩ : ∃ x, x = cR c9 m 19 (kI 32) := ⟨_, rfl⟩
  have b10 : Ext m c9 c10 := hc10 ▸ ex_cR c9 m _ _
  have a10 : Ext m M c10 := a9.tr b10
  obtain ⟨c11, hc11⟩ : ∃ x, x = cR c10 m 20 (kL 32) := ⟨_, rfl⟩
  have b11 : Ext m c10 c11 := hc11 ▸ ex_cR c10 m _ _
  have a11 : Ext m M c11 := a10.tr b11
  obtain ⟨c12, hc12⟩ : ∃ x, x = cR c11 m 21 (kI 32) := ⟨_, rfl⟩
  have b12 : Ext m c11 c12 := hc12 ▸ ex_cR c11 m _ _
  have a12 : Ext m M c12 := a11.tr b12
  obtain ⟨c13, hc13⟩ : ∃ x, x = cR c12 m 23 (.inl (.byte, 32)) := ⟨_, rfl⟩
  have b13 : Ext m c12 c13 := hc13 ▸ ex_cR c12 m _ _
  have a13 : Ext m M c13 := a12.tr b13
  have hR : X7M M m = sL c13 (mK M).length (bgF (mL c13 (mK M).length) 8) := by
    have h9 : R0M M m = c13 := by
      subst hc13 hc12 hc11 hc10 hc9 hc8 hc7 hc6 hc5 hc4 hc3 hc2 hc1 hc0
      rfl
    unfold X7M; rw [h9]
  rw [hR]
  have hn : mR c13 m 0 = some (mK M).length := by
    have e0 : mR c0 m 0 = some (mK M).length := by rw [hc0]; exact cR_f
    have e1 : mR c1 m 0 = some (mK M).length := by rw [hc1]; exact cR_g (a0.2.1 _ _ hk) (by decide) e0
    have e2 : mR c2 m 0 = some (mK M).length := by rw [hc2]; exact cR_g (a1.2.1 _ _ hk) (by decide) e1
    have e3 : mR c3 m 0 = some (mK M).length := by rw [hc3]; exact cR_g (a2.2.1 _ _ hk) (by decide) e2
    have e4 : mR c4 m 0 = some (mK M).length := by rw [hc4]; exact cR_g (a3.2.1 _ _ hk) (by decide) e3
    have e5 : mR c5 m 0 = some (mK M).length := by rw [hc5]; exact cR_g (a4.2.1 _ _ hk) (by decide) e4
    have e6 : mR c6 m 0 = some (mK M).length := by rw [hc6]; exact e5
    have e7 : mR c7 m 0 = some (mK M).length := by rw [hc7]; exact cR_g (a6.2.1 _ _ hk) (by decide) e6
    have e8 : mR c8 m 0 = some (mK M).length := by rw [hc8]; exact cR_g (a7.2.1 _ _ hk) (by decide) e7
    have e9 : mR c9 m 0 = some (mK M).length := by rw [hc9]; exact cR_g (a8.2.1 _ _ hk) (by decide) e8
    have e10 : mR c10 m 0 = some (mK M).length := by rw [hc10]; exact cR_g (a9.2.1 _ _ hk) (by decide) e9
    have e11 : mR c11 m 0 = some (mK M).length := by rw [hc11]; exact cR_g (a10.2.1 _ _ hk) (by decide) e10
    have e12 : mR c12 m 0 = some (mK M).length := by rw [hc12]; exact cR_g (a11.2.1 _ _ hk) (by decide) e11
    have e13 : mR c13 m 0 = some (mK M).length := by rw [hc13]; exact cR_g (a12.2.1 _ _ hk) (by decide) e12
    exact e13
  have hA0 : (mK c13)[(mK M).length]? = some (kL 220) := by
    have e0 : (mK c0)[(mK M).length]? = some (kL 220) := by rw [hc0]; exact cR_new
    have e1 : Ext m c0 c13 := ((((((((((((b1).tr b2).tr b3).tr b4).tr b5).tr b6).tr b7).tr b8).tr b9).tr b10).tr b11).tr b12).tr b13
    exact e1.2.1 _ _ e0
  refine g_aload_n (pc := 0) dX7_init_0 rfl trivial ?_
  refine g_objInit (pc := 1) dX7_init_1 wd_1211 wd_121 wd_122 (nb rfl) (nb rfl) ?_
  refine g_aload_n (pc := 4) dX7_init_4 rfl trivial ?_
  refine g_sipush (pc := 5) (v := 220) dX7_init_5 rfl ?_
  refine g_newarray_long (pc := 8) (len := 220) (n := 3246) (k := 12) dX7_init_8 wd_1292 rfl (by decide) hx ?_
  refine g_putR (pc := 10) dX7_init_10 fp_X7_9 (fun _ => ⟨rfl, _, rfl, rfl⟩) (nK_k hk) (fun _ => ⟨rfl, rfl⟩) (fun _ _ _ _ => rfl) ?_
  refine go_cast hc0.symm ?_
  refine g_aload_n (pc := 13) dX7_init_13 rfl trivial ?_
  refine g_sipush (pc := 14) (v := 220) dX7_init_14 rfl ?_
  refine g_newarray_long (pc := 17) (len := 220) (n := 3026) (k := 11) dX7_init_17 wd_1292 rfl (by decide) (a0.1 hx) ?_
  refine g_putR (pc := 19) dX7_init_19 fp_X7_13 (fun _ => ⟨rfl, _, rfl, rfl⟩) (nK_k (a0.2.1 _ _ hk)) (fun _ => ⟨rfl, rfl⟩) (fun _ _ _ _ => rfl) ?_
  refine go_cast hc1.symm ?_
  refine g_aload_n (pc := 22) dX7_init_22 rfl trivial ?_
  refine g_sipush (pc := 23) (v := 1760) dX7_init_23 rfl ?_
  refine g_newarray_long (pc := 26) (len := 1760) (n := 1266) (k := 10) dX7_init_26 wd_1292 rfl (by decide) (a1.1 hx) ?_
  refine g_putR (pc := 28) dX7_init_28 fp_X7_16 (fun _ => ⟨rfl, _, rfl, rfl⟩) (nK_k (a1.2.1 _ _ hk)) (fun _ => ⟨rfl, rfl⟩) (fun _ _ _ _ => rfl) ?_
  refine go_cast hc2.symm ?_
  refine g_aload_n (pc := 31) dX7_init_31 rfl trivial ?_
  refine g_sipush (pc := 32) (v := 440) dX7_init_32 rfl ?_
  refine g_newarray_long (pc := 35) (len := 440) (n := 826) (k := 9) dX7_init_35 wd_1292 rfl (by decide) (a2.1 hx) ?_
  refine g_putR (pc := 37) dX7_init_37 fp_X7_19 (fun _ => ⟨rfl, _, rfl, rfl⟩) (nK_k (a2.2.1 _ _ hk)) (fun _ => ⟨rfl, rfl⟩) (fun _ _ _ _ => rfl) ?_
  refine go_cast hc3.symm ?_
  refine g_aload_n (pc := 40) dX7_init_40 rfl trivial ?_
  refine g_iconst (pc := 41) (v := 2) dX7_init_41 rfl ?_
  refine g_newarray_boolean (pc := 42) (len := 2) (n := 824) (k := 8) dX7_init_42 wd_234 rfl (by decide) (a3.1 hx) ?_
  refine g_putR (pc := 44) dX7_init_44 fp_X7_22 (fun _ => ⟨rfl, _, rfl, rfl⟩) (nK_k (a3.2.1 _ _ hk)) (fun _ => ⟨rfl, rfl⟩) (fun _ _ _ _ => rfl) ?_
  refine go_cast hc4.symm ?_
  refine g_aload_n (pc := 47) dX7_init_47 rfl trivial ?_
  refine g_sipush (pc := 48) (v := 600) dX7_init_48 rfl ?_
  refine g_newarray_byte (pc := 51) (len := 600) (n := 224) (k := 7) dX7_init_51 wd_515 rfl (by decide) (a4.1 hx) ?_
  refine g_putR (pc := 53) dX7_init_53 fp_X7_26 (fun _ => ⟨rfl, _, rfl, rfl⟩) (nK_k (a4.2.1 _ _ hk)) (fun _ => ⟨rfl, rfl⟩) (fun _ _ _ _ => rfl) ?_
  refine go_cast hc5.symm ?_
  refine g_aload_n (pc := 56) dX7_init_56 rfl trivial ?_
  refine g_iconst (pc := 57) (v := (-1)) dX7_init_57 rfl ?_
  refine g_putI (pc := 58) dX7_init_58 fp_X7_30 (a5.2.1 _ _ hk) ⟨rfl, rfl⟩ (fun _ _ _ _ => rfl) ?_
  refine go_cast hc6.symm ?_
  refine g_aload_n (pc := 61) dX7_init_61 rfl trivial ?_
  refine g_bipush (pc := 62) (v := 32) dX7_init_62 rfl ?_
  refine g_newarray_long (pc := 64) (len := 32) (n := 192) (k := 6) dX7_init_64 wd_1292 rfl (by decide) (a6.1 hx) ?_
  refine g_putR (pc := 66) dX7_init_66 fp_X7_34 (fun _ => ⟨rfl, _, rfl, rfl⟩) (nK_k (a6.2.1 _ _ hk)) (fun _ => ⟨rfl, rfl⟩) (fun _ _ _ _ => rfl) ?_
  refine go_cast hc7.symm ?_
  refine g_aload_n (pc := 69) dX7_init_69 rfl trivial ?_
  refine g_bipush (pc := 70) (v := 32) dX7_init_70 rfl ?_
  refine g_newarray_long (pc := 72) (len := 32) (n := 160) (k := 5) dX7_init_72 wd_1292 rfl (by decide) (a7.1 hx) ?_
  refine g_putR (pc := 74) dX7_init_74 fp_X7_37 (fun _ => ⟨rfl, _, rfl, rfl⟩) (nK_k (a7.2.1 _ _ hk)) (fun _ => ⟨rfl, rfl⟩) (fun _ _ _ _ => rfl) ?_
  refine go_cast hc8.symm ?_
  refine g_aload_n (pc := 77) dX7_init_77 rfl trivial ?_
  refine g_bipush (pc := 78) (v := 32) dX7_init_78 rfl ?_
  refine g_newarray_long (pc := 80) (len := 32) (n := 128) (k := 4) dX7_init_80 wd_1292 rfl (by decide) (a8.1 hx) ?_
  refine g_putR (pc := 82) dX7_init_82 fp_X7_40 (fun _ => ⟨rfl, _, rfl, rfl⟩) (nK_k (a8.2.1 _ _ hk)) (fun _ => ⟨rfl, rfl⟩) (fun _ _ _ _ => rfl) ?_
  refine go_cast hc9.symm ?_
  refine g_aload_n (pc := 85) dX7_init_85 rfl trivial ?_
  refine g_bipush (pc := 86) (v := 32) dX7_init_86 rfl ?_
  refine g_newarray_int (pc := 88) (len := 32) (n := 96) (k := 3) dX7_init_88 wd_154 rfl (by decide) (a9.1 hx) ?_
  refine g_putR (pc := 90) dX7_init_90 fp_X7_43 (fun _ => ⟨rfl, _, rfl, rfl⟩) (nK_k (a9.2.1 _ _ hk)) (fun _ => ⟨rfl, rfl⟩) (fun _ _ _ _ => rfl) ?_
  refine go_cast hc10.symm ?_
  refine g_aload_n (pc := 93) dX7_init_93 rfl trivial ?_
  refine g_bipush (pc := 94) (v := 32) dX7_init_94 rfl ?_
  refine g_newarray_long (pc := 96) (len := 32) (n := 64) (k := 2) dX7_init_96 wd_1292 rfl (by decide) (a10.1 hx) ?_
  refine g_putR (pc := 98) dX7_init_98 fp_X7_47 (fun _ => ⟨rfl, _, rfl, rfl⟩) (nK_k (a10.2.1 _ _ hk)) (fun _ => ⟨rfl, rfl⟩) (fun _ _ _ _ => rfl) ?_
  refine go_cast hc11.symm ?_
  refine g_aload_n (pc := 101) dX7_init_101 rfl trivial ?_
  refine g_bipush (pc := 102) (v := 32) dX7_init_102 rfl ?_
  refine g_newarray_int (pc := 104) (len := 32) (n := 32) (k := 1) dX7_init_104 wd_154 rfl (by decide) (a11.1 hx) ?_
  refine g_putR (pc := 106) dX7_init_106 fp_X7_50 (fun _ => ⟨rfl, _, rfl, rfl⟩) (nK_k (a11.2.1 _ _ hk)) (fun _ => ⟨rfl, rfl⟩) (fun _ _ _ _ => rfl) ?_
  refine go_cast hc12.symm ?_
  refine g_aload_n (pc := 109) dX7_init_109 rfl trivial ?_
  refine g_bipush (pc := 110) (v := 32) dX7_init_110 rfl ?_
  refine g_newarray_byte (pc := 112) (len := 32) (n := 0) (k := 0) dX7_init_112 wd_515 rfl (by decide) (a12.1 hx) ?_
  refine g_putR (pc := 114) dX7_init_114 fp_X7_53 (fun _ => ⟨rfl, _, rfl, rfl⟩) (nK_k (a12.2.1 _ _ hk)) (fun _ => ⟨rfl, rfl⟩) (fun _ _ _ _ => rfl) ?_
  refine go_cast hc13.symm ?_
  refine g_aload_n (pc := 117) dX7_init_117 rfl trivial ?_
  refine g_getf (pc := 118) dX7_init_118 fk_X7_9 (a13.2.1 _ _ hk) (fv_arr hn) ?_
  refine g_bipush (pc := 121) (v := 8) dX7_init_121 rfl ?_
  refine g_invS_r (pc := 123) (As := [_, _]) dX7_init_123 rfl ((r_begins (n := 8) hA0 (by decide))) rfl rfl lk_X7_56 rfl (nb rfl) ⟨nb rfl, nb rfl⟩ rfl ?_
  refine g_return (pc := 126) dX7_init_126 rfl ?_
  exact ⟨rfl, rfl⟩
end

