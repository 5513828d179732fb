/-! the reference: elimination: hand 205, beside 209, pivots 210, how many 198.22 -/
theorem swp_comm (f : Nat → Int32) (a b : Nat) : swp f a b = swp f b a := by
  unfold swp
  by_cases h : a = b
  · subst h; rfl
  · exact fs_comm f _ _ h
section
variable {l : Launch} {M : Mem} {n : Nat} {A : Nat → Nat → Int32}
def rbM (M : Mem) (n : Nat) (s : ES) : Mem := sI (sI (sL (sL M 205 (wr (mL M 205) (uR s.1) n)) 209 (wr (mL M 209) (uR s.2.1) n)) 210 s.2.2.1) 198 (fun_set (mI M 198) 22 (nI s.2.2.2))
theorem sL_sI (M : Mem) (i j : Nat) (f : Nat → Int32) (g : Nat → Int64) : sL (sI M i f) j g = sI (sL M j g) i f := rfl
theorem sL_comm {M : Mem} {i j : Nat} {f g : Nat → Int64} (h : i ≠ j) : sL (sL M i f) j g = sL (sL M j g) i f := by simp only [sL, mL, fs_comm _ _ _ h]
theorem sI_comm {M : Mem} {i j : Nat} {f g : Nat → Int32} (h : i ≠ j) : sI (sI M i f) j g = sI (sI M j g) i f := by simp only [sI, mI, fs_comm _ _ _ h]
theorem rb_l0 (s : ES) : mL (rbM M n s) 205 = wr (mL M 205) (uR s.1) n := (sL_ne (M := sL M 205 (wr (mL M 205) (uR s.1) n)) (a := 209) (b := 205) (f := wr (mL M 209) (uR s.2.1) n) (by decide)).trans (sL_self M 205 _)
theorem rb_r0 (s : ES) : mL (rbM M n s) 209 = wr (mL M 209) (uR s.2.1) n := sL_self (sL M 205 (wr (mL M 205) (uR s.1) n)) 209 _
theorem rb_p (s : ES) : mI (rbM M n s) 210 = s.2.2.1 := by unfold rbM; rw [sI_ne (by decide), sI_self]
theorem rb_c0 (s : ES) : mI (rbM M n s) 198 = fun_set (mI M 198) 22 (nI s.2.2.2) := by unfold rbM; rw [sI_self]
theorem rb_l {s : ES} {i : Nat} (hi : i < n) : mL (rbM M n s) 205 i = uL (s.1 i) := by rw [rb_l0, wr_lt hi]; rfl
theorem rb_r {s : ES} {i : Nat} (hi : i < n) : mL (rbM M n s) 209 i = uL (s.2.1 i) := by rw [rb_r0, wr_lt hi]; rfl
theorem rb_c (s : ES) : mI (rbM M n s) 198 22 = nI s.2.2.2 := by rw [rb_c0, fs_self]
theorem rb_n (s : ES) : mL (rbM M n s) 199 = mL M 199 := (sL_ne (M := sL M 205 (wr (mL M 205) (uR s.1) n)) (a := 209) (b := 199) (f := wr (mL M 209) (uR s.2.1) n) (by decide)).trans (sL_ne (by decide))
theorem rb_R (h : Rr M n A) (s : ES) : Rr (rbM M n s) n A := ⟨h.1, by rw [rb_n]; exact h.2.1, h.2.2.1, h.2.2.2.1, fun q r hq hr => by rw [rb_n]; exact h.2.2.2.2 q r hq hr⟩
theorem rb_setL {s : ES} {i : Nat} {v : Int32} (hi : i < n) : pL (rbM M n s) 205 i (uL v) = rbM M n (fun_set s.1 i v, s.2) := by
  show sL (rbM M n s) 205 (fun_set (mL (rbM M n s) 205) i (uL v)) = _
  rw [rb_l0, wr_set hi]
  unfold rbM
  rw [sL_sI, sL_sI, sL_comm (show 209 ≠ 205 by decide), sL_2]
theorem rb_setR {s : ES} {i : Nat} {v : Int32} (hi : i < n) : pL (rbM M n s) 209 i (uL v) = rbM M n (s.1, fun_set s.2.1 i v, s.2.2) := by
  show sL (rbM M n s) 209 (fun_set (mL (rbM M n s) 209) i (uL v)) = _
  rw [rb_r0, wr_set hi]
  unfold rbM
  rw [sL_sI, sL_sI, sL_2]
theorem rb_setP {s : ES} {i : Nat} {v : Int32} : pI (rbM M n s) 210 i v = rbM M n (s.1, s.2.1, fun_set s.2.2.1 i v, s.2.2.2) := by
  show sI (rbM M n s) 210 (fun_set (mI (rbM M n s) 210) i v) = _
  rw [rb_p]
  unfold rbM
  rw [sI_comm (show 198 ≠ 210 by decide), sI_2]
theorem rb_setC {s : ES} {c : Nat} : pI (rbM M n s) 198 22 (nI c) = rbM M n (s.1, s.2.1, s.2.2.1, c) := by
  show sI (rbM M n s) 198 (fun_set (mI (rbM M n s) 198) 22 (nI c)) = _
  rw [rb_c0, fs_twice]
  unfold rbM
  rw [sI_2]
theorem r_changes {s : ES} {a b : Nat} (h : Rr M n A) (ha : a < n) (hb9 : b < n) : EvR l jX7_changes 0 0 0 0 [.ref 198, .int (nI a), .int (nI b)] (rbM M n s) (.inl none) (rbM M n (swp s.1 a b, swp s.2.1 a b, s.2.2)) := by
  have hn := h.2.2.2.1
  have hS : Shp (rbM M n s) := h.1
  have e1 := rb_l (M := M) (s := s) ha
  have e2 := rb_l (M := M) (s := s) hb9
  have e3 := rb_r (M := M) (s := s) ha
  have s1 := rb_setL (M := M) (s := s) (v := s.1 b) ha
  obtain ⟨s1', hs1⟩ : ∃ t : ES, t = (fun_set s.1 a (s.1 b), s.2) := ⟨_, rfl⟩
  rw [← hs1] at s1
  have hS1 : Shp (rbM M n s1') := h.1
  have e4 : mL (rbM M n s1') 209 b = uL (s.2.1 b) := by rw [hs1]; exact rb_r hb9
  have s2 := rb_setR (M := M) (s := s1') (v := s.2.1 b) ha
  obtain ⟨s2', hs2⟩ : ∃ t : ES, t = (s1'.1, fun_set s1'.2.1 a (s.2.1 b), s1'.2.2) := ⟨_, rfl⟩
  rw [← hs2] at s2
  have hS2 : Shp (rbM M n s2') := h.1
  have s3 := rb_setL (M := M) (s := s2') (v := s.1 a) hb9
  obtain ⟨s3', hs3⟩ : ∃ t : ES, t = (fun_set s2'.1 b (s.1 a), s2'.2) := ⟨_, rfl⟩
  rw [← hs3] at s3
  have hS3 : Shp (rbM M n s3') := h.1
  have s4 := rb_setR (M := M) (s := s3') (v := s.2.1 a) hb9
  have e9 : (s3'.1, fun_set s3'.2.1 b (s.2.1 a), s3'.2.2) = (swp s.1 a b, swp s.2.1 a b, s.2.2) := by rw [hs3, hs2, hs1]; rfl
  rw [e9] at s4
  generalize (swp s.1 a b, swp s.2.1 a b, s.2.2) = s9 at *
  refine ev_intro rfl (nb rfl) rfl ?_
  refine g_aload_n (pc := 0) dX7_changes_0 rfl trivial ?_
  refine g_getf (pc := 1) dX7_changes_1 fk_X7_34 (shK hS rfl) (fv_arr (shR hS rfl)) ?_
  refine g_iload_n (pc := 4) dX7_changes_4 rfl ?_
  refine g_laload (pc := 5) dX7_changes_5 (shK hS rfl) rfl (show a < 32 by omega) (nl rfl) ?_
  rw [e1]
  refine g_lstore_n (pc := 6) (lv' := [(0, _), (1, _), (2, _), (3, _)]) dX7_changes_6 (nl rfl) rfl ?_
  refine g_aload_n (pc := 7) dX7_changes_7 rfl trivial ?_
  refine g_getf (pc := 8) dX7_changes_8 fk_X7_47 (shK hS rfl) (fv_arr (shR hS rfl)) ?_
  refine g_iload_n (pc := 11) dX7_changes_11 rfl ?_
  refine g_laload (pc := 12) dX7_changes_12 (shK hS rfl) rfl (show a < 32 by omega) (nl rfl) ?_
  rw [e3]
  refine g_lstore (pc := 13) (lv' := [(0, _), (1, _), (2, _), (3, _), (5, _)]) dX7_changes_13 (nl rfl) rfl ?_
  refine g_aload_n (pc := 15) dX7_changes_15 rfl trivial ?_
  refine g_getf (pc := 16) dX7_changes_16 fk_X7_34 (shK hS rfl) (fv_arr (shR hS rfl)) ?_
  refine g_iload_n (pc := 19) dX7_changes_19 rfl ?_
  refine g_aload_n (pc := 20) dX7_changes_20 rfl trivial ?_
  refine g_getf (pc := 21) dX7_changes_21 fk_X7_34 (shK hS rfl) (fv_arr (shR hS rfl)) ?_
  refine g_iload_n (pc := 24) dX7_changes_24 rfl ?_
  refine g_laload (pc := 25) dX7_changes_25 (shK hS rfl) rfl (show b < 32 by omega) (nl rfl) ?_
  rw [e2]
  refine g_lastore (pc := 26) dX7_changes_26 (shK hS rfl) rfl (show a < 32 by omega) (nl rfl) ?_
  refine go_cast s1 ?_
  refine g_aload_n (pc := 27) dX7_changes_27 rfl trivial ?_
  refine g_getf (pc := 28) dX7_changes_28 fk_X7_47 (shK hS1 rfl) (fv_arr (shR hS1 rfl)) ?_
  refine g_iload_n (pc := 31) dX7_changes_31 rfl ?_
  refine g_aload_n (pc := 32) dX7_changes_32 rfl trivial ?_
  refine g_getf (pc := 33) dX7_changes_33 fk_X7_47 (shK hS1 rfl) (fv_arr (shR hS1 rfl)) ?_
  refine g_iload_n (pc := 36) dX7_changes_36 rfl ?_
  refine g_laload (pc := 37) dX7_changes_37 (shK hS1 rfl) rfl (show b < 32 by omega) (nl rfl) ?_
  rw [e4]
  refine g_lastore (pc := 38) dX7_changes_38 (shK hS1 rfl) rfl (show a < 32 by omega) (nl rfl) ?_
  refine go_cast s2 ?_
  refine g_aload_n (pc := 39) dX7_changes_39 rfl trivial ?_
  refine g_getf (pc := 40) dX7_changes_40 fk_X7_34 (shK hS2 rfl) (fv_arr (shR hS2 rfl)) ?_
  refine g_iload_n (pc := 43) dX7_changes_43 rfl ?_
  refine g_lload_n (pc := 44) dX7_changes_44 rfl ?_
  refine g_lastore (pc := 45) dX7_changes_45 (shK hS2 rfl) rfl (show b < 32 by omega) (nl rfl) ?_
  refine go_cast s3 ?_
  refine g_aload_n (pc := 46) dX7_changes_46 rfl trivial ?_
  refine g_getf (pc := 47) dX7_changes_47 fk_X7_47 (shK hS3 rfl) (fv_arr (shR hS3 rfl)) ?_
  refine g_iload_n (pc := 50) dX7_changes_50 rfl ?_
  refine g_lload (pc := 51) dX7_changes_51 rfl ?_
  refine g_lastore (pc := 53) dX7_changes_53 (shK hS3 rfl) rfl (show b < 32 by omega) (nl rfl) ?_
  refine go_cast s4 ?_
  refine g_return (pc := 54) dX7_changes_54 rfl ?_
  exact ⟨rfl, rfl⟩
/-- the rows that are tried for a pivot -/
theorem rnt_s (lf : Nat → Int32) (c d r : Nat) : rnt lf c (d + 1) r = if hb (lf r) c = true then some r else rnt lf c d (r + 1) := rfl
theorem r_reduces {s : Nat} {R : Nat → Int32} (h : Rr M n A) (hs : s < 6) (hR : ∀ i, i < n → mL M 209 i = uL (R i)) : EvR l jX7_reduces 2 60 0 0 [.ref 198, .int (nI s)] M (.inl none) (rbM M n (elIt n (A s, R, mI M 210, 0) n)) := by
  have hn := h.2.2.2.1
  have hS := h.1
  have q1 := r_takes (l := l) (x := 205) h hs (Or.inl rfl)
  have h1 : Rr (hdM M 205 n (A s)) n A := h.hd (Or.inl rfl)
  have e0 : pI (hdM M 205 n (A s)) 198 22 (nI 0) = rbM M n (A s, R, mI M 210, 0) := by
    have e1 : wr (mL M 209) (uR R) n = mL M 209 := by
      funext k
      simp only [wr, uR]
      split
      · rw [hR k (by assumption)]
      · rfl
    unfold rbM
    simp only
    rw [e1, ← sL_eq (M := sL M 205 (wr (mL M 205) (uR (A s)) n)) (a := 209) (sL_ne (by decide)).symm, ← sI_eq (M := sL M 205 (wr (mL M 205) (uR (A s)) n)) (a := 210) rfl]
    rfl
  generalize hdM M 205 n (A s) = M1 at *
  refine ev_intro rfl (nb rfl) rfl ?_
  refine g_aload_n (pc := 0) dX7_reduces_0 rfl trivial ?_
  refine g_iload_n (pc := 1) dX7_reduces_1 rfl ?_
  refine g_aload_n (pc := 2) dX7_reduces_2 rfl trivial ?_
  refine g_getf (pc := 3) dX7_reduces_3 fk_X7_34 (shK hS rfl) (fv_arr (shR hS rfl)) ?_
  refine g_invV_r (pc := 6) (As := [_, _]) dX7_reduces_6 rfl (q1) rfl rfl (shK hS rfl) rfl rfl lk_X7_252 rfl (nb rfl) ⟨nb rfl, nb rfl⟩ rfl ?_
  refine g_aload_n (pc := 9) dX7_reduces_9 rfl trivial ?_
  refine g_iconst (pc := 10) (v := 0) dX7_reduces_10 rfl ?_
  refine g_putI (pc := 11) dX7_reduces_11 fp_X7_297 (shK h1.1 rfl) ⟨rfl, rfl⟩ (fun _ _ _ _ => rfl) ?_
  refine g_iconst (pc := 14) (v := 0) dX7_reduces_14 rfl ?_
  refine g_istore_n (pc := 15) (lv' := [(0, _), (1, _), (2, _)]) dX7_reduces_15 (nl rfl) rfl ?_
  refine go_loop (pc := 16) n (fun c => [(0, .ref 198), (1, .int (nI s)), (2, .int (nI c))]) (fun c => rbM M n (elIt n (A s, R, mI M 210, 0) c)) ⟨rfl, rfl, rfl, trivial⟩ e0 ?_ ?_
  · intro c hc ih
    have hcnt := elIt_c n (A s, R, mI M 210, 0) c
    rw [elIt] at ih
    generalize elIt n (A s, R, mI M 210, 0) c = z at ih hcnt ⊢
    simp only [Nat.zero_add] at hcnt
    have h2 : Rr (rbM M n z) n A := rb_R h z
    have ec0 := rb_c (M := M) (n := n) z
    have hnext : Go l jX7_reduces 2 60 0 0 (fun r' M' => r' = .inl none ∧ M' = rbM M n (elIt n (A s, R, mI M 210, 0) n)) 176 [(0, .ref 198), (1, .int (nI s)), (2, .int (nI c))] [] 0 0 (rbM M n (elStep n c z)) := by
      refine g_iinc (pc := 176) (lv' := [(0, _), (1, _), (2, _)]) dX7_reduces_176 rfl (nI_1 _) (nl rfl) rfl ?_
      refine g_goto (pc := 179) (tgt := 16) dX7_reduces_179 rfl ?_
      exact ih
    generalize elIt n (A s, R, mI M 210, 0) n = Z9 at *
    refine g_iload_n (pc := 16) dX7_reduces_16 rfl ?_
    refine g_aload_n (pc := 17) dX7_reduces_17 rfl trivial ?_
    refine g_invV_r (pc := 18) (As := []) dX7_reduces_18 rfl (r_size h2) rfl rfl (shK hS rfl) rfl rfl lk_X7_71 rfl (nb rfl) ⟨nb rfl, nb rfl⟩ rfl ?_
    refine g_icmp_ge (pc := 21) (tgt := 182) dX7_reduces_21 rfl (fun h21 => absurd h21 (nI_ge hc (by omega))) (fun _ => ?_)
    refine g_aload_n (pc := 24) dX7_reduces_24 rfl trivial ?_
    refine g_getf (pc := 25) (v := .int _) dX7_reduces_25 fk_X7_297 (shK h2.1 rfl) (fun _ => congrArg Value.int ((rb_c z))) ?_
    refine g_istore_n (pc := 28) (lv' := [(0, _), (1, _), (2, _), (3, _)]) dX7_reduces_28 (nl rfl) rfl ?_
    refine go_while (pc := 29) (σ := Nat) (fun q => z.2.2.2 ≤ q ∧ q ≤ n ∧ rnt z.1 c (n - q) q = rnt z.1 c (n - z.2.2.2) z.2.2.2) (fun q => n - q) (fun q => [(0, .ref 198), (1, .int (nI s)), (2, .int (nI c)), (3, .int (nI q))]) (fun q => rbM M n z) z.2.2.2 ⟨rfl, rfl, rfl, rfl, trivial⟩ rfl ⟨Nat.le_refl _, by omega, rfl⟩ ?_
    rintro q ⟨a0, a1, a2⟩ ih2
    by_cases hq : q < n
    · obtain ⟨d, hd⟩ : ∃ d, n - q = d + 1 := ⟨n - q - 1, by omega⟩
      have hd' : n - (q + 1) = d := by omega
      rw [hd, rnt_s] at a2
      cases h4 : hb (z.1 q) c with
      | false =>
        rw [h4, if_neg (by decide)] at a2
        refine g_iload_n (pc := 29) dX7_reduces_29 rfl ?_
        refine g_aload_n (pc := 30) dX7_reduces_30 rfl trivial ?_
        refine g_invV_r (pc := 31) (As := []) dX7_reduces_31 rfl (r_size h2) rfl rfl (shK hS rfl) rfl rfl lk_X7_71 rfl (nb rfl) ⟨nb rfl, nb rfl⟩ rfl ?_
        refine g_icmp_ge (pc := 34) (tgt := 56) dX7_reduces_34 rfl (fun h34 => absurd h34 (nI_ge hq (by omega))) (fun _ => ?_)
        refine g_aload_n (pc := 37) dX7_reduces_37 rfl trivial ?_
        refine g_getf (pc := 38) dX7_reduces_38 fk_X7_34 (shK h2.1 rfl) (fv_arr (shR h2.1 rfl)) ?_
        refine g_iload_n (pc := 41) dX7_reduces_41 rfl ?_
        refine g_laload (pc := 42) dX7_reduces_42 (shK h2.1 rfl) rfl (by omega) (nl rfl) ?_
        rw [rb_l hq]
        refine g_iload_n (pc := 43) dX7_reduces_43 rfl ?_
        refine g_invS_r (pc := 44) (As := [_, _]) dX7_reduces_44 rfl (r_one (show c < 32 by omega)) rfl rfl lk_X7_231 rfl (nb rfl) ⟨nb rfl, nb rfl⟩ rfl ?_
        rw [h4]
        refine g_if_ne (pc := 47) (tgt := 56) dX7_reduces_47 rfl (fun h47 => absurd h47 ((fun y => y rfl))) (fun _ => ?_)
        refine g_iinc (pc := 50) (lv' := [(0, _), (1, _), (2, _), (3, _)]) dX7_reduces_50 rfl (nI_1 _) (nl rfl) rfl ?_
        refine g_goto (pc := 53) (tgt := 29) dX7_reduces_53 rfl ?_
        exact ih2 (q + 1) ⟨by omega, by omega, by rw [hd']; exact a2⟩ (by omega)
      | true =>
        rw [h4, if_pos rfl] at a2
        have hes : elStep n c z = ((clG z.2.2.2 c (swp z.1 z.2.2.2 q) (swp z.2.1 z.2.2.2 q) n).1, (clG z.2.2.2 c (swp z.1 z.2.2.2 q) (swp z.2.1 z.2.2.2 q) n).2, fun_set z.2.2.1 z.2.2.2 (nI c), z.2.2.2 + 1) := by
          unfold elStep; rw [← a2]; simp only; rw [swp_comm z.1 q, swp_comm z.2.1 q]
        rw [hes] at hnext
        have q3 := r_changes (l := l) (s := z) h (show z.2.2.2 < n by omega) hq
        generalize swp z.1 z.2.2.2 q = lf at *
        generalize swp z.2.1 z.2.2.2 q = rt at *
        have hp : z.2.2.2 < n := by omega
        have hz2 : z.2.2 = (z.2.2.1, z.2.2.2) := rfl
        generalize z.2.2.1 = pv at *
        generalize z.2.2.2 = p at *
        rw [hz2] at q3
        have h3 : Rr (rbM M n (lf, rt, pv, p)) n A := rb_R h _
        refine g_iload_n (pc := 29) dX7_reduces_29 rfl ?_
        refine g_aload_n (pc := 30) dX7_reduces_30 rfl trivial ?_
        refine g_invV_r (pc := 31) (As := []) dX7_reduces_31 rfl (r_size h2) rfl rfl (shK hS rfl) rfl rfl lk_X7_71 rfl (nb rfl) ⟨nb rfl, nb rfl⟩ rfl ?_
        refine g_icmp_ge (pc := 34) (tgt := 56) dX7_reduces_34 rfl (fun h34 => absurd h34 (nI_ge hq (by omega))) (fun _ => ?_)
        refine g_aload_n (pc := 37) dX7_reduces_37 rfl trivial ?_
        refine g_getf (pc := 38) dX7_reduces_38 fk_X7_34 (shK h2.1 rfl) (fv_arr (shR h2.1 rfl)) ?_
        refine g_iload_n (pc := 41) dX7_reduces_41 rfl ?_
        refine g_laload (pc := 42) dX7_reduces_42 (shK h2.1 rfl) rfl (by omega) (nl rfl) ?_
        rw [rb_l hq]
        refine g_iload_n (pc := 43) dX7_reduces_43 rfl ?_
        refine g_invS_r (pc := 44) (As := [_, _]) dX7_reduces_44 rfl (r_one (show c < 32 by omega)) rfl rfl lk_X7_231 rfl (nb rfl) ⟨nb rfl, nb rfl⟩ rfl ?_
        rw [h4]
        refine g_if_ne (pc := 47) (tgt := 56) dX7_reduces_47 rfl (fun _ => ?_) (fun h47 => absurd ((by decide)) h47)
        refine g_iload_n (pc := 56) dX7_reduces_56 rfl ?_
        refine g_aload_n (pc := 57) dX7_reduces_57 rfl trivial ?_
        refine g_invV_r (pc := 58) (As := []) dX7_reduces_58 rfl (r_size h2) rfl rfl (shK hS rfl) rfl rfl lk_X7_71 rfl (nb rfl) ⟨nb rfl, nb rfl⟩ rfl ?_
        refine g_icmp_ne (pc := 61) (tgt := 67) dX7_reduces_61 rfl (fun _ => ?_) (fun h61 => absurd ((fun y => by have := (nI_eq (by omega) (by omega)).mp y; omega)) h61)
        refine g_aload_n (pc := 67) dX7_reduces_67 rfl trivial ?_
        refine g_aload_n (pc := 68) dX7_reduces_68 rfl trivial ?_
        refine g_getf (pc := 69) (v := .int _) dX7_reduces_69 fk_X7_297 (shK h2.1 rfl) (fun _ => congrArg Value.int (ec0)) ?_
        refine g_iload_n (pc := 72) dX7_reduces_72 rfl ?_
        refine g_invV_r (pc := 73) (As := [_, _]) dX7_reduces_73 rfl (q3) rfl rfl (shK h2.1 rfl) rfl rfl lk_X7_300 rfl (nb rfl) ⟨nb rfl, nb rfl⟩ rfl ?_
        refine g_iconst (pc := 76) (v := 0) dX7_reduces_76 rfl ?_
        refine g_istore (pc := 77) (lv' := [(0, _), (1, _), (2, _), (3, _), (4, _)]) dX7_reduces_77 (nl rfl) rfl ?_
        refine go_loop (pc := 79) n (fun k => [(0, .ref 198), (1, .int (nI s)), (2, .int (nI c)), (4, .int (nI k))]) (fun k => rbM M n ((clG p c lf rt k).1, (clG p c lf rt k).2, pv, p)) ⟨rfl, rfl, rfl, rfl, trivial⟩ rfl ?_ ?_
        · intro k hk ihk
          rw [clG] at ihk
          have h5 : Rr (rbM M n ((clG p c lf rt k).1, (clG p c lf rt k).2, pv, p)) n A := rb_R h _
          generalize clG p c lf rt k = g at *
          have ec : mI (rbM M n (g.1, g.2, pv, p)) 198 22 = nI p := rb_c _
          by_cases hkp : k = p
          · rw [if_neg (fun y => y.1 hkp)] at ihk
            refine g_iload (pc := 79) dX7_reduces_79 rfl ?_
            refine g_aload_n (pc := 81) dX7_reduces_81 rfl trivial ?_
            refine g_invV_r (pc := 82) (As := []) dX7_reduces_82 rfl (r_size h5) rfl rfl (shK hS rfl) rfl rfl lk_X7_71 rfl (nb rfl) ⟨nb rfl, nb rfl⟩ rfl ?_
            refine g_icmp_ge (pc := 85) (tgt := 156) dX7_reduces_85 rfl (fun h85 => absurd h85 (nI_ge hk (by omega))) (fun _ => ?_)
            refine g_iload (pc := 88) dX7_reduces_88 rfl ?_
            refine g_aload_n (pc := 90) dX7_reduces_90 rfl trivial ?_
            refine g_getf (pc := 91) (v := .int _) dX7_reduces_91 fk_X7_297 (shK h5.1 rfl) (fun _ => congrArg Value.int (ec)) ?_
            refine g_icmp_eq (pc := 94) (tgt := 150) dX7_reduces_94 rfl (fun _ => ?_) (fun h94 => absurd ((by rw [hkp])) h94)
            refine g_iinc (pc := 150) (lv' := [(0, _), (1, _), (2, _), (4, _)]) dX7_reduces_150 rfl (nI_1 _) (nl rfl) rfl ?_
            refine g_goto (pc := 153) (tgt := 79) dX7_reduces_153 rfl ?_
            exact ihk
          · have hne : ¬ nI k = nI p := fun y => hkp ((nI_eq (by omega) (by omega)).mp y)
            cases h6 : hb (g.1 k) c with
            | false =>
              rw [if_neg (fun y => by rw [h6] at y; cases y.2)] at ihk
              refine g_iload (pc := 79) dX7_reduces_79 rfl ?_
              refine g_aload_n (pc := 81) dX7_reduces_81 rfl trivial ?_
              refine g_invV_r (pc := 82) (As := []) dX7_reduces_82 rfl (r_size h5) rfl rfl (shK hS rfl) rfl rfl lk_X7_71 rfl (nb rfl) ⟨nb rfl, nb rfl⟩ rfl ?_
              refine g_icmp_ge (pc := 85) (tgt := 156) dX7_reduces_85 rfl (fun h85 => absurd h85 (nI_ge hk (by omega))) (fun _ => ?_)
              refine g_iload (pc := 88) dX7_reduces_88 rfl ?_
              refine g_aload_n (pc := 90) dX7_reduces_90 rfl trivial ?_
              refine g_getf (pc := 91) (v := .int _) dX7_reduces_91 fk_X7_297 (shK h5.1 rfl) (fun _ => congrArg Value.int (ec)) ?_
              refine g_icmp_eq (pc := 94) (tgt := 150) dX7_reduces_94 rfl (fun h94 => absurd h94 (hne)) (fun _ => ?_)
              refine g_aload_n (pc := 97) dX7_reduces_97 rfl trivial ?_
              refine g_getf (pc := 98) dX7_reduces_98 fk_X7_34 (shK h5.1 rfl) (fv_arr (shR h5.1 rfl)) ?_
              refine g_iload (pc := 101) dX7_reduces_101 rfl ?_
              refine g_laload (pc := 103) dX7_reduces_103 (shK h5.1 rfl) rfl (by omega) (nl rfl) ?_
              rw [rb_l hk]
              refine g_iload_n (pc := 104) dX7_reduces_104 rfl ?_
              refine g_invS_r (pc := 105) (As := [_, _]) dX7_reduces_105 rfl (r_one (show c < 32 by omega)) rfl rfl lk_X7_231 rfl (nb rfl) ⟨nb rfl, nb rfl⟩ rfl ?_
              rw [h6]
              refine g_iconst (pc := 108) (v := 1) dX7_reduces_108 rfl ?_
              refine g_icmp_ne (pc := 109) (tgt := 150) dX7_reduces_109 rfl (fun _ => ?_) (fun h109 => absurd ((by decide)) h109)
              refine g_iinc (pc := 150) (lv' := [(0, _), (1, _), (2, _), (4, _)]) dX7_reduces_150 rfl (nI_1 _) (nl rfl) rfl ?_
              refine g_goto (pc := 153) (tgt := 79) dX7_reduces_153 rfl ?_
              exact ihk
            | true =>
              rw [if_pos ⟨hkp, h6⟩] at ihk
              have t1 := rb_setL (M := M) (s := (g.1, g.2, pv, p)) (v := g.1 k ^^^ g.1 p) hk
              have t2 := rb_setR (M := M) (s := (fun_set g.1 k (g.1 k ^^^ g.1 p), g.2, pv, p)) (v := g.2 k ^^^ g.2 p) hk
              simp only at t1 t2
              have h7 : Rr (rbM M n (fun_set g.1 k (g.1 k ^^^ g.1 p), g.2, pv, p)) n A := rb_R h _
              have ec7 : mI (rbM M n (fun_set g.1 k (g.1 k ^^^ g.1 p), g.2, pv, p)) 198 22 = nI p := rb_c _
              have e71 := rb_r (M := M) (s := (fun_set g.1 k (g.1 k ^^^ g.1 p), g.2, pv, p)) hk
              have e72 := rb_r (M := M) (s := (fun_set g.1 k (g.1 k ^^^ g.1 p), g.2, pv, p)) hp
              have e51 := rb_l (M := M) (s := (g.1, g.2, pv, p)) hk
              have e52 := rb_l (M := M) (s := (g.1, g.2, pv, p)) hp
              simp only at ihk e71 e72 e51 e52
              generalize rbM M n (fun_set g.1 k (g.1 k ^^^ g.1 p), g.2, pv, p) = M7 at *
              generalize rbM M n (fun_set g.1 k (g.1 k ^^^ g.1 p), fun_set g.2 k (g.2 k ^^^ g.2 p), pv, p) = M8 at *
              generalize rbM M n (g.1, g.2, pv, p) = M5 at *
              refine g_iload (pc := 79) dX7_reduces_79 rfl ?_
              refine g_aload_n (pc := 81) dX7_reduces_81 rfl trivial ?_
              refine g_invV_r (pc := 82) (As := []) dX7_reduces_82 rfl (r_size h5) rfl rfl (shK h5.1 rfl) rfl rfl lk_X7_71 rfl (nb rfl) ⟨nb rfl, nb rfl⟩ rfl ?_
              refine g_icmp_ge (pc := 85) (tgt := 156) dX7_reduces_85 rfl (fun h85 => absurd h85 (nI_ge hk (by omega))) (fun _ => ?_)
              refine g_iload (pc := 88) dX7_reduces_88 rfl ?_
              refine g_aload_n (pc := 90) dX7_reduces_90 rfl trivial ?_
              refine g_getf (pc := 91) (v := .int _) dX7_reduces_91 fk_X7_297 (shK h5.1 rfl) (fun _ => congrArg Value.int (ec)) ?_
              refine g_icmp_eq (pc := 94) (tgt := 150) dX7_reduces_94 rfl (fun h94 => absurd h94 (hne)) (fun _ => ?_)
              refine g_aload_n (pc := 97) dX7_reduces_97 rfl trivial ?_
              refine g_getf (pc := 98) dX7_reduces_98 fk_X7_34 (shK h5.1 rfl) (fv_arr (shR h5.1 rfl)) ?_
              refine g_iload (pc := 101) dX7_reduces_101 rfl ?_
              refine g_laload (pc := 103) dX7_reduces_103 (shK h5.1 rfl) rfl (by omega) (nl rfl) ?_
              rw [e51]
              refine g_iload_n (pc := 104) dX7_reduces_104 rfl ?_
              refine g_invS_r (pc := 105) (As := [_, _]) dX7_reduces_105 rfl (r_one (show c < 32 by omega)) rfl rfl lk_X7_231 rfl (nb rfl) ⟨nb rfl, nb rfl⟩ rfl ?_
              rw [h6]
              refine g_iconst (pc := 108) (v := 1) dX7_reduces_108 rfl ?_
              refine g_icmp_ne (pc := 109) (tgt := 150) dX7_reduces_109 rfl (fun h109 => absurd h109 ((fun y => y rfl))) (fun _ => ?_)
              refine g_aload_n (pc := 112) dX7_reduces_112 rfl trivial ?_
              refine g_getf (pc := 113) dX7_reduces_113 fk_X7_34 (shK h5.1 rfl) (fv_arr (shR h5.1 rfl)) ?_
              refine g_iload (pc := 116) dX7_reduces_116 rfl ?_
              refine g_dup2_11 (pc := 118) dX7_reduces_118 rfl rfl ?_
              refine g_laload (pc := 119) dX7_reduces_119 (shK h5.1 rfl) rfl (by omega) (nl rfl) ?_
              rw [e51]
              refine g_aload_n (pc := 120) dX7_reduces_120 rfl trivial ?_
              refine g_getf (pc := 121) dX7_reduces_121 fk_X7_34 (shK h5.1 rfl) (fv_arr (shR h5.1 rfl)) ?_
              refine g_aload_n (pc := 124) dX7_reduces_124 rfl trivial ?_
              refine g_getf (pc := 125) (v := .int _) dX7_reduces_125 fk_X7_297 (shK h5.1 rfl) (fun _ => congrArg Value.int (ec)) ?_
              refine g_laload (pc := 128) dX7_reduces_128 (shK h5.1 rfl) rfl (by omega) (nl rfl) ?_
              rw [e52]
              refine g_lxor (pc := 129) dX7_reduces_129 ?_
              rw [uL_xor]
              refine g_lastore (pc := 130) dX7_reduces_130 (shK h5.1 rfl) rfl (by omega) (nl rfl) ?_
              refine go_cast t1 ?_
              refine g_aload_n (pc := 131) dX7_reduces_131 rfl trivial ?_
              refine g_getf (pc := 132) dX7_reduces_132 fk_X7_47 (shK h7.1 rfl) (fv_arr (shR h7.1 rfl)) ?_
              refine g_iload (pc := 135) dX7_reduces_135 rfl ?_
              refine g_dup2_11 (pc := 137) dX7_reduces_137 rfl rfl ?_
              refine g_laload (pc := 138) dX7_reduces_138 (shK h7.1 rfl) rfl (by omega) (nl rfl) ?_
              rw [e71]
              refine g_aload_n (pc := 139) dX7_reduces_139 rfl trivial ?_
              refine g_getf (pc := 140) dX7_reduces_140 fk_X7_47 (shK h7.1 rfl) (fv_arr (shR h7.1 rfl)) ?_
              refine g_aload_n (pc := 143) dX7_reduces_143 rfl trivial ?_
              refine g_getf (pc := 144) (v := .int _) dX7_reduces_144 fk_X7_297 (shK h7.1 rfl) (fun _ => congrArg Value.int (ec7)) ?_
              refine g_laload (pc := 147) dX7_reduces_147 (shK h7.1 rfl) rfl (by omega) (nl rfl) ?_
              rw [e72]
              refine g_lxor (pc := 148) dX7_reduces_148 ?_
              rw [uL_xor]
              refine g_lastore (pc := 149) dX7_reduces_149 (shK h7.1 rfl) rfl (by omega) (nl rfl) ?_
              refine go_cast t2 ?_
              refine g_iinc (pc := 150) (lv' := [(0, _), (1, _), (2, _), (4, _)]) dX7_reduces_150 rfl (nI_1 _) (nl rfl) rfl ?_
              refine g_goto (pc := 153) (tgt := 79) dX7_reduces_153 rfl ?_
              exact ihk
        · have h5 : Rr (rbM M n ((clG p c lf rt n).1, (clG p c lf rt n).2, pv, p)) n A := rb_R h _
          have ec : mI (rbM M n ((clG p c lf rt n).1, (clG p c lf rt n).2, pv, p)) 198 22 = nI p := rb_c _
          have t1 := rb_setP (M := M) (n := n) (s := ((clG p c lf rt n).1, (clG p c lf rt n).2, pv, p)) (i := p) (v := nI c)
          have t2 := rb_setC (M := M) (n := n) (s := ((clG p c lf rt n).1, (clG p c lf rt n).2, fun_set pv p (nI c), p)) (c := p + 1)
          simp only at t1 t2
          have h7 : Rr (rbM M n ((clG p c lf rt n).1, (clG p c lf rt n).2, fun_set pv p (nI c), p)) n A := rb_R h _
          have ec7 : mI (rbM M n ((clG p c lf rt n).1, (clG p c lf rt n).2, fun_set pv p (nI c), p)) 198 22 = nI p := rb_c _
          generalize rbM M n ((clG p c lf rt n).1, (clG p c lf rt n).2, fun_set pv p (nI c), p + 1) = M8 at *
          generalize rbM M n ((clG p c lf rt n).1, (clG p c lf rt n).2, fun_set pv p (nI c), p) = M7 at *
          generalize rbM M n ((clG p c lf rt n).1, (clG p c lf rt n).2, pv, p) = M5 at *
          refine g_iload (pc := 79) dX7_reduces_79 rfl ?_
          refine g_aload_n (pc := 81) dX7_reduces_81 rfl trivial ?_
          refine g_invV_r (pc := 82) (As := []) dX7_reduces_82 rfl (r_size h5) rfl rfl (shK h5.1 rfl) rfl rfl lk_X7_71 rfl (nb rfl) ⟨nb rfl, nb rfl⟩ rfl ?_
          refine g_icmp_ge (pc := 85) (tgt := 156) dX7_reduces_85 rfl (fun _ => ?_) (fun h85 => absurd (nI_le (Nat.le_refl _) (by omega)) h85)
          refine g_aload_n (pc := 156) dX7_reduces_156 rfl trivial ?_
          refine g_getf (pc := 157) dX7_reduces_157 fk_X7_50 (shK h5.1 rfl) (fv_arr (shR h5.1 rfl)) ?_
          refine g_aload_n (pc := 160) dX7_reduces_160 rfl trivial ?_
          refine g_getf (pc := 161) (v := .int _) dX7_reduces_161 fk_X7_297 (shK h5.1 rfl) (fun _ => congrArg Value.int (ec)) ?_
          refine g_iload_n (pc := 164) dX7_reduces_164 rfl ?_
          refine g_iastore (pc := 165) dX7_reduces_165 (shK h5.1 rfl) rfl (show p < 32 by omega) (nl rfl) ?_
          refine go_cast t1 ?_
          refine g_aload_n (pc := 166) dX7_reduces_166 rfl trivial ?_
          refine g_dup (pc := 167) dX7_reduces_167 rfl ?_
          refine g_getf (pc := 168) (v := .int _) dX7_reduces_168 fk_X7_297 (shK h7.1 rfl) (fun _ => congrArg Value.int (ec7)) ?_
          refine g_iconst (pc := 171) (v := 1) dX7_reduces_171 rfl ?_
          refine g_iadd (pc := 172) dX7_reduces_172 ?_
          rw [nI_1]
          refine g_putI (pc := 173) dX7_reduces_173 fp_X7_297 (shK h7.1 rfl) ⟨rfl, rfl⟩ (fun _ _ _ _ => rfl) ?_
          refine go_cast t2 ?_
          exact g_sub (lv' := [(0, _), (1, _), (2, _)]) ⟨rfl, rfl, rfl, trivial⟩ hnext
    · have hq' : q = n := by omega
      subst hq'
      rw [Nat.sub_self] at a2
      have hes : elStep q c z = z := by
        unfold elStep; rw [← a2]; rfl
      rw [hes] at hnext
      refine g_iload_n (pc := 29) dX7_reduces_29 rfl ?_
      refine g_aload_n (pc := 30) dX7_reduces_30 rfl trivial ?_
      refine g_invV_r (pc := 31) (As := []) dX7_reduces_31 rfl (r_size h2) rfl rfl (shK hS rfl) rfl rfl lk_X7_71 rfl (nb rfl) ⟨nb rfl, nb rfl⟩ rfl ?_
      refine g_icmp_ge (pc := 34) (tgt := 56) dX7_reduces_34 rfl (fun _ => ?_) (fun h34 => absurd (nI_le (Nat.le_refl _) (by omega)) h34)
      refine g_iload_n (pc := 56) dX7_reduces_56 rfl ?_
      refine g_aload_n (pc := 57) dX7_reduces_57 rfl trivial ?_
      refine g_invV_r (pc := 58) (As := []) dX7_reduces_58 rfl (r_size h2) rfl rfl (shK hS rfl) rfl rfl lk_X7_71 rfl (nb rfl) ⟨nb rfl, nb rfl⟩ rfl ?_
      refine g_icmp_ne (pc := 61) (tgt := 67) dX7_reduces_61 rfl (fun h61 => absurd h61 ((fun y => y rfl))) (fun _ => ?_)
      refine g_goto (pc := 64) (tgt := 176) dX7_reduces_64 rfl ?_
      exact g_sub (lv' := [(0, _), (1, _), (2, _)]) ⟨rfl, rfl, rfl, trivial⟩ hnext
  · have h2 : Rr (rbM M n (elIt n (A s, R, mI M 210, 0) n)) n A := rb_R h _
    generalize rbM M n (elIt n (A s, R, mI M 210, 0) n) = M9 at *
    refine g_iload_n (pc := 16) dX7_reduces_16 rfl ?_
    refine g_aload_n (pc := 17) dX7_reduces_17 rfl trivial ?_
    refine g_invV_r (pc := 18) (As := []) dX7_reduces_18 rfl (r_size h2) rfl rfl (shK h2.1 rfl) rfl rfl lk_X7_71 rfl (nb rfl) ⟨nb rfl, nb rfl⟩ rfl ?_
    refine g_icmp_ge (pc := 21) (tgt := 182) dX7_reduces_21 rfl (fun _ => ?_) (fun h21 => absurd (nI_le (Nat.le_refl _) (by omega)) h21)
    refine g_return (pc := 182) dX7_reduces_182 rfl ?_
    exact ⟨rfl, rfl⟩
end

