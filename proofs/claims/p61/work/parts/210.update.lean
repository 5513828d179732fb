section
variable {l : Launch} {M : Mem} {n p c : Nat}
theorem mxLook_ne {m i : Nat} {x : Int32} (h : i ≠ m) : mI (mxLook M m x) i = mI M i := by
  unfold mxLook
  split
  · rfl
  · rw [pI_i h, pI_i h]
def ptN (R : Mem) (s r n : Nat) : Int32 := nodesTo (mI (clOf R s n) (175 + 2 * s + 1)) r n
/-- after the flip of an entry, the closure as before -/
def ptF (R : Mem) (s r k n : Nat) : Mem := sI (mxLook (clOf R s n) (5 + 2 * s) (bcJ (ptN R s r n))) (6 + 2 * s) (fun_set (mI R (6 + 2 * s)) r (mI R (6 + 2 * s) r ^^^ bitI k))
def ptV (R : Mem) (s r k n : Nat) (f : Int32) : Int32 := if b1 (hb (mI R (6 + 2 * s) r) k) = f then 0 else if f = 0 then mendS (mI (ptF R s r k n) (175 + 2 * s + 1)) (mI (ptF R s r k n) (6 + 2 * s)) (ptN R s r n) n n else gainW (mI (ptF R s r k n) (175 + 2 * s + 1)) (ptN R s r n) k n
def ptM (R : Mem) (s r k n : Nat) (f : Int32) : Mem := if b1 (hb (mI R (6 + 2 * s) r) k) = f then mxLook R (5 + 2 * s) 0 else if f = 0 then sI (ptF R s r k n) (175 + 2 * s + 1) (mendG (mI (ptF R s r k n) (175 + 2 * s + 1)) (mI (ptF R s r k n) (6 + 2 * s)) (ptN R s r n) n n) else sI (ptF R s r k n) (175 + 2 * s + 1) (extF (mI (ptF R s r k n) (175 + 2 * s + 1)) (ptN R s r n) (mI (ptF R s r k n) (175 + 2 * s + 1) k ||| bitI k) n)
theorem u_put {s r k : Nat} {f : Int32} (hD : Dk M n p c) (hs : s < 6) (hr : r < n) (hk9 : k < n) (hf : k01 f) : EvR l jX6_put 9 160 3 18 [.ref 0, .int (nI s), .int (nI r), .int (nI k), .int f] M (.inl (some (.int (ptV (remM M p c) s r k n f)))) (ptM (remM M p c) s r k n f) := by
  have hn := hD.2.2.1
  have hS1 := remM_S hD.1 p c
  have hz1 := d_z hD
  have q1 := d_remember (l := l) hD
  obtain ⟨m1, m2⟩ := mx5 hs
  have m3 := m1.2.1
  have m4 := m1.2.2
  rw [show 5 + 2 * s + 1 = 6 + 2 * s by omega] at m3 m4
  have hc := cl_ok' s hs
  generalize remM M p c = R at *
  have q2 := s_closureOf (l := l) hS1 hs hz1 hn
  have hS2 := clOf_S hS1 s n
  have hz2 := clOf_z hz1 hs
  have er : mI (clOf R s n) (6 + 2 * s) = mI R (6 + 2 * s) := clOf_ne (by omega) hs
  have hq0 := s_noteLooked (l := l) (x := 0) hS1 m1
  have eN : ptN R s r n = nodesTo (mI (clOf R s n) (175 + 2 * s + 1)) r n := rfl
  have eF : ptF R s r k n = sI (mxLook (clOf R s n) (5 + 2 * s) (bcJ (ptN R s r n))) (6 + 2 * s) (fun_set (mI R (6 + 2 * s)) r (mI R (6 + 2 * s) r ^^^ bitI k)) := rfl
  unfold ptV ptM
  generalize ptF R s r k n = F9 at *
  generalize ptN R s r n = N9 at *
  generalize mxLook R (5 + 2 * s) 0 = M0 at *
  generalize clOf R s n = C at *
  have q3 := s_noteLooked (l := l) (x := bcJ N9) hS2 m1
  have hS3 : Shp (mxLook C (5 + 2 * s) (bcJ N9)) := hS2.look
  have er3 : mI (mxLook C (5 + 2 * s) (bcJ N9)) (6 + 2 * s) = mI R (6 + 2 * s) := (mxLook_ne (by omega)).trans er
  have hz3 : mI (mxLook C (5 + 2 * s) (bcJ N9)) 3 1 = nI n := (congrFun (mxLook_ne (by omega)) 1).trans hz2
  generalize mxLook C (5 + 2 * s) (bcJ N9) = K at *
  have hS4 : Shp F9 := by rw [eF]; exact shp_sI hS3
  have hz4 : mI F9 3 1 = nI n := by rw [eF]; exact (congrFun (sI_ne (by omega)) 1).trans hz3
  have est : sI K (6 + 2 * s) (fun_set (mI K (6 + 2 * s)) r (mI K (6 + 2 * s) r ^^^ bitI k)) = F9 := by rw [eF, er3]
  have q5 := s_extend (l := l) (b := k) (nodes := N9) hS4 hc (by omega) hn
  have q6 := s_mend (l := l) (r := 6 + 2 * s) (nodes := N9) hS4 hc (shK hS4 (rows_lay hs)) (by omega) hn
  have q4 := s_nodesTo (l := l) (a := r) hS2 hc (by omega) hn
  rw [← eN] at q4
  refine ev_intro rfl (nb rfl) rfl ?_
  refine g_aload_n (pc := 0) dX6_put_0 rfl trivial ?_
  refine g_iload_n (pc := 1) dX6_put_1 rfl ?_
  refine g_iload_n (pc := 2) dX6_put_2 rfl ?_
  refine g_iload_n (pc := 3) dX6_put_3 rfl ?_
  refine g_invV_r (pc := 4) (As := [_, _, _]) dX6_put_4 rfl (s_needCell hD.1 hD.2.1 (in6 hs) (inR_nI hr (by omega)) (inR_nI hk9 (by omega))) rfl rfl (shK hD.1 rfl) rfl rfl lk_X6_109 rfl (nb rfl) ⟨nb rfl, nb rfl⟩ rfl ?_
  refine g_aload_n (pc := 7) dX6_put_7 rfl trivial ?_
  refine g_invV_r (pc := 8) (As := []) dX6_put_8 rfl (q1) rfl rfl (shK hD.1 rfl) rfl rfl lk_X6_222 rfl (nb rfl) ⟨nb rfl, nb rfl⟩ rfl ?_
  refine g_aload_n (pc := 11) dX6_put_11 rfl trivial ?_
  refine g_getf (pc := 12) dX6_put_12 fk_X6_19 (shK hS1 rfl) (fv_obj (shR hS1 rfl)) ?_
  refine g_getf (pc := 15) dX6_put_15 fk_X6_225 (shK hS1 rfl) (fv_arr (shR hS1 rfl)) ?_
  refine g_iload_n (pc := 18) dX6_put_18 rfl ?_
  refine g_aaload_Matrix (pc := 19) dX6_put_19 (shK hS1 rfl) rfl hs (by decide) (shR hS1 m2) ?_
  refine g_astore (pc := 20) (lv' := [(0, _), (1, _), (2, _), (3, _), (4, _), (5, _)]) dX6_put_20 trivial (nl rfl) rfl ?_
  refine g_aload (pc := 22) dX6_put_22 rfl trivial ?_
  refine g_getf (pc := 24) dX6_put_24 fk_X6_229 (shK hS1 m1.1) (fv_arr (shR hS1 m4)) ?_
  refine g_iload_n (pc := 27) dX6_put_27 rfl ?_
  refine g_iaload (pc := 28) dX6_put_28 (shK hS1 m3) rfl (by omega) (nl rfl) ?_
  refine g_iload_n (pc := 29) dX6_put_29 rfl ?_
  refine g_invS_r (pc := 30) (As := [_, _]) dX6_put_30 rfl (s_hasOne (by omega)) rfl rfl lk_X6_116 rfl (nb rfl) ⟨nb rfl, nb rfl⟩ rfl ?_
  refine g_iload (pc := 33) dX6_put_33 rfl ?_
  refine g_icmp_ne (pc := 35) (tgt := 46) dX6_put_35 rfl (fun h35 => ?_) (fun h35 => ?_)
  · rw [if_neg h35, if_neg h35]
    refine g_aload_n (pc := 46) dX6_put_46 rfl trivial ?_
    refine g_iload_n (pc := 47) dX6_put_47 rfl ?_
    refine g_invV_r (pc := 48) (As := [_]) dX6_put_48 rfl (q2) rfl rfl (shK hS1 rfl) rfl rfl lk_X6_162 rfl (nb rfl) ⟨nb rfl, nb rfl⟩ rfl ?_
    refine g_astore (pc := 51) (lv' := [(0, _), (1, _), (2, _), (3, _), (4, _), (5, _), (6, _)]) dX6_put_51 trivial (nl rfl) rfl ?_
    refine g_aload (pc := 53) dX6_put_53 rfl trivial ?_
    refine g_iload_n (pc := 55) dX6_put_55 rfl ?_
    refine g_aload_n (pc := 56) dX6_put_56 rfl trivial ?_
    refine g_getf (pc := 57) dX6_put_57 fk_X6_19 (shK hS2 rfl) (fv_obj (shR hS2 rfl)) ?_
    refine g_getf (pc := 60) (v := .int _) dX6_put_60 fk_X6_89 (shK hS2 rfl) (fun _ => congrArg Value.int (hz2)) ?_
    refine g_invV_r (pc := 63) (As := [_, _]) dX6_put_63 rfl (q4) rfl rfl (shK hS2 hc.1) rfl rfl lk_X6_192 rfl (nb rfl) ⟨nb rfl, nb rfl⟩ rfl ?_
    refine g_istore (pc := 66) (lv' := [(0, _), (1, _), (2, _), (3, _), (4, _), (5, _), (6, _), (7, _)]) dX6_put_66 (nl rfl) rfl ?_
    refine g_aload (pc := 68) dX6_put_68 rfl trivial ?_
    refine g_iload (pc := 70) dX6_put_70 rfl ?_
    refine g_invS_r (pc := 72) (As := [_]) dX6_put_72 rfl (s_bitCount) rfl rfl lk_X6_132 rfl (nb rfl) ⟨nb rfl, nb rfl⟩ rfl ?_
    refine g_invV_r (pc := 75) (As := [_]) dX6_put_75 rfl (q3) rfl rfl (shK hS2 m1.1) rfl rfl lk_X6_234 rfl (nb rfl) ⟨nb rfl, nb rfl⟩ rfl ?_
    refine g_aload (pc := 78) dX6_put_78 rfl trivial ?_
    refine g_getf (pc := 80) dX6_put_80 fk_X6_229 (shK hS3 m1.1) (fv_arr (shR hS3 m4)) ?_
    refine g_iload_n (pc := 83) dX6_put_83 rfl ?_
    refine g_dup2_11 (pc := 84) dX6_put_84 rfl rfl ?_
    refine g_iaload (pc := 85) dX6_put_85 (shK hS3 m3) rfl (by omega) (nl rfl) ?_
    refine g_iconst (pc := 86) (v := 1) dX6_put_86 rfl ?_
    refine g_iload_n (pc := 87) dX6_put_87 rfl ?_
    refine g_ishl (pc := 88) dX6_put_88 ?_
    refine g_ixor (pc := 89) dX6_put_89 ?_
    refine g_iastore (pc := 90) dX6_put_90 (shK hS3 m3) rfl (by omega) (nl rfl) ?_
    refine go_cast est ?_
    refine g_iload (pc := 91) dX6_put_91 rfl ?_
    refine g_if_eq (pc := 93) (tgt := 114) dX6_put_93 rfl (fun h93 => ?_) (fun h93 => ?_)
    · rw [if_pos h93, if_pos h93]
      refine g_aload (pc := 114) dX6_put_114 rfl trivial ?_
      refine g_iload (pc := 116) dX6_put_116 rfl ?_
      refine g_aload (pc := 118) dX6_put_118 rfl trivial ?_
      refine g_getf (pc := 120) dX6_put_120 fk_X6_229 (shK hS4 m1.1) (fv_arr (shR hS4 m4)) ?_
      refine g_aload_n (pc := 123) dX6_put_123 rfl trivial ?_
      refine g_getf (pc := 124) dX6_put_124 fk_X6_19 (shK hS4 rfl) (fv_obj (shR hS4 rfl)) ?_
      refine g_getf (pc := 127) (v := .int _) dX6_put_127 fk_X6_89 (shK hS4 rfl) (fun _ => congrArg Value.int (hz4)) ?_
      refine g_invV_r (pc := 130) (As := [_, _, _]) dX6_put_130 rfl (q6) rfl rfl (shK hS4 hc.1) rfl rfl lk_X6_240 rfl (nb rfl) ⟨nb rfl, nb rfl⟩ rfl ?_
      refine g_ireturn (pc := 133) dX6_put_133 rfl rfl ?_
      exact ⟨rfl, rfl⟩
    · rw [if_neg h93, if_neg h93]
      refine g_aload (pc := 96) dX6_put_96 rfl trivial ?_
      refine g_iload (pc := 98) dX6_put_98 rfl ?_
      refine g_iload_n (pc := 100) dX6_put_100 rfl ?_
      refine g_aload_n (pc := 101) dX6_put_101 rfl trivial ?_
      refine g_getf (pc := 102) dX6_put_102 fk_X6_19 (shK hS4 rfl) (fv_obj (shR hS4 rfl)) ?_
      refine g_getf (pc := 105) (v := .int _) dX6_put_105 fk_X6_89 (shK hS4 rfl) (fun _ => congrArg Value.int (hz4)) ?_
      refine g_invV_r (pc := 108) (As := [_, _, _]) dX6_put_108 rfl (q5) rfl rfl (shK hS4 hc.1) rfl rfl lk_X6_237 rfl (nb rfl) ⟨nb rfl, nb rfl⟩ rfl ?_
      refine g_goto (pc := 111) (tgt := 133) dX6_put_111 rfl ?_
      refine g_ireturn (pc := 133) dX6_put_133 rfl rfl ?_
      exact ⟨rfl, rfl⟩
  · rw [if_pos (Decidable.not_not.mp h35), if_pos (Decidable.not_not.mp h35)]
    refine g_aload (pc := 38) dX6_put_38 rfl trivial ?_
    refine g_iconst (pc := 40) (v := 0) dX6_put_40 rfl ?_
    refine g_invV_r (pc := 41) (As := [_]) dX6_put_41 rfl (hq0) rfl rfl (shK hS1 m1.1) rfl rfl lk_X6_234 rfl (nb rfl) ⟨nb rfl, nb rfl⟩ rfl ?_
    refine g_iconst (pc := 44) (v := 0) dX6_put_44 rfl ?_
    refine g_ireturn (pc := 45) dX6_put_45 rfl rfl ?_
    exact ⟨rfl, rfl⟩
end
