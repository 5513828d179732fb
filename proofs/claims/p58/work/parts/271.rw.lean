/-! the reference: queries on ways -/
section
variable {l : Launch} {M : Mem} {n : Nat} {A : Nat → Nat → Int32}
theorem farM_at {f : Nat → Int32} {t k : Nat} (hk : k < n) : mI (farM M f n t) 208 k = farF f n t n k := by unfold farM; rw [sI_self, wr_lt hk]
theorem farM_2 {f : Nat → Int32} {t u : Nat} : farM (farM M f n t) f n u = farM M f n u := by unfold farM; rw [sI_self, sI_2, wr_wr]
theorem Rr.far {f : Nat → Int32} {t : Nat} (h : Rr M n A) : Rr (farM M f n t) n A := h
theorem n_distance {s a b : Nat} (h : Rr M n A) (hs : s < 6) (ha : a < n) (hb9 : b < n) : EvR l jX7_distance 4 160 0 0 [.ref 198, .int (nI s), .int (nI a), .int (nI b)] M (.inl (some (.int (farF (A s) n b n a)))) (farM (thr M 0) (A s) n b) := by
  have hn := h.2.2.2.1
  have hS := h.1
  have h' := h.thr (x := 0)
  have h1 : Rr (farM (thr M 0) (A s) n b) n A := h'.far
  have e1 := farM_at (M := thr M 0) (f := A s) (t := b) ha
  have q1 := r_measures (l := l) h' hs hb9
  generalize farM (thr M 0) (A s) n b = M1 at *
  refine ev_intro rfl (nb rfl) rfl ?_
  refine g_aload_n (pc := 0) dX7_distance_0 rfl trivial ?_
  refine g_aload_n (pc := 1) dX7_distance_1 rfl trivial ?_
  refine g_iload_n (pc := 2) dX7_distance_2 rfl ?_
  refine g_iload_n (pc := 3) dX7_distance_3 rfl ?_
  refine g_invV_r (pc := 4) (As := [_, _]) dX7_distance_4 rfl (r_areIn_t h (in6 hs) (inR_nI ha (by omega))) rfl rfl (shK hS rfl) rfl rfl lk_X7_223 rfl (nb rfl) ⟨nb rfl, nb rfl⟩ rfl ?_
  refine g_if_eq (pc := 7) (tgt := 22) dX7_distance_7 rfl (fun h7 => absurd h7 ((by decide))) (fun _ => ?_)
  refine g_aload_n (pc := 10) dX7_distance_10 rfl trivial ?_
  refine g_iload_n (pc := 11) dX7_distance_11 rfl ?_
  refine g_invV_r (pc := 12) (As := [_]) dX7_distance_12 rfl (r_isNode_t h (inR_nI hb9 (by omega))) rfl rfl (shK hS rfl) rfl rfl lk_X7_220 rfl (nb rfl) ⟨nb rfl, nb rfl⟩ rfl ?_
  refine g_if_eq (pc := 15) (tgt := 22) dX7_distance_15 rfl (fun h15 => absurd h15 ((by decide))) (fun _ => ?_)
  refine g_iconst (pc := 18) (v := 1) dX7_distance_18 rfl ?_
  refine g_goto (pc := 19) (tgt := 23) dX7_distance_19 rfl ?_
  refine g_iconst (pc := 23) (v := 1) dX7_distance_23 rfl ?_
  refine g_invV_r (pc := 24) (As := [_, _]) dX7_distance_24 rfl (r_isThrown_0 hS) rfl rfl (shK hS rfl) rfl rfl lk_X7_209 rfl (nb rfl) ⟨nb rfl, nb rfl⟩ rfl ?_
  refine g_if_eq (pc := 27) (tgt := 32) dX7_distance_27 rfl (fun _ => ?_) (fun h27 => absurd (rfl) h27)
  refine g_aload_n (pc := 32) dX7_distance_32 rfl trivial ?_
  refine g_iload_n (pc := 33) dX7_distance_33 rfl ?_
  refine g_iload_n (pc := 34) dX7_distance_34 rfl ?_
  refine g_invV_r (pc := 35) (As := [_, _]) dX7_distance_35 rfl (q1) rfl rfl (shK h'.1 rfl) rfl rfl lk_X7_273 rfl (nb rfl) ⟨nb rfl, nb rfl⟩ rfl ?_
  refine g_aload_n (pc := 38) dX7_distance_38 rfl trivial ?_
  refine g_getf (pc := 39) dX7_distance_39 fk_X7_43 (shK h1.1 rfl) (fv_arr (shR h1.1 rfl)) ?_
  refine g_iload_n (pc := 42) dX7_distance_42 rfl ?_
  refine g_iaload (pc := 43) dX7_distance_43 (shK h1.1 rfl) rfl (by omega) (nl rfl) ?_
  rw [e1]
  refine g_ireturn (pc := 44) dX7_distance_44 rfl rfl ?_
  exact ⟨rfl, rfl⟩
theorem t_distance {v w u : Int32} (h : Rr M n A) (hx : ¬ (inR v 6 ∧ inR w n ∧ inR u n)) : EvR l jX7_distance 4 160 0 0 [.ref 198, .int v, .int w, .int u] M (.inl (some (.int 0))) (thr M 1) := by
  have hS := h.1
  refine ev_intro rfl (nb rfl) rfl ?_
  by_cases h1 : inR v 6 ∧ inR w n
  · refine g_aload_n (pc := 0) dX7_distance_0 rfl trivial ?_
    refine g_aload_n (pc := 1) dX7_distance_1 rfl trivial ?_
    refine g_iload_n (pc := 2) dX7_distance_2 rfl ?_
    refine g_iload_n (pc := 3) dX7_distance_3 rfl ?_
    refine g_invV_r (pc := 4) (As := [_, _]) dX7_distance_4 rfl (r_areIn_t h h1.1 h1.2) rfl rfl (shK hS rfl) rfl rfl lk_X7_223 rfl (nb rfl) ⟨nb rfl, nb rfl⟩ rfl ?_
    refine g_if_eq (pc := 7) (tgt := 22) dX7_distance_7 rfl (fun h7 => absurd h7 ((by decide))) (fun _ => ?_)
    refine g_aload_n (pc := 10) dX7_distance_10 rfl trivial ?_
    refine g_iload_n (pc := 11) dX7_distance_11 rfl ?_
    refine g_invV_r (pc := 12) (As := [_]) dX7_distance_12 rfl (r_isNode_f h (fun q => hx ⟨h1.1, h1.2, q⟩)) rfl rfl (shK hS rfl) rfl rfl lk_X7_220 rfl (nb rfl) ⟨nb rfl, nb rfl⟩ rfl ?_
    refine g_if_eq (pc := 15) (tgt := 22) dX7_distance_15 rfl (fun _ => ?_) (fun h15 => absurd (rfl) h15)
    refine g_iconst (pc := 22) (v := 0) dX7_distance_22 rfl ?_
    refine g_iconst (pc := 23) (v := 1) dX7_distance_23 rfl ?_
    refine g_invV_r (pc := 24) (As := [_, _]) dX7_distance_24 rfl (r_isThrown_1 hS) rfl rfl (shK hS rfl) rfl rfl lk_X7_209 rfl (nb rfl) ⟨nb rfl, nb rfl⟩ rfl ?_
    refine g_if_eq (pc := 27) (tgt := 32) dX7_distance_27 rfl (fun h27 => absurd h27 ((by decide))) (fun _ => ?_)
    refine g_iconst (pc := 30) (v := 0) dX7_distance_30 rfl ?_
    refine g_ireturn (pc := 31) dX7_distance_31 rfl rfl ?_
    exact ⟨rfl, rfl⟩
  · refine g_aload_n (pc := 0) dX7_distance_0 rfl trivial ?_
    refine g_aload_n (pc := 1) dX7_distance_1 rfl trivial ?_
    refine g_iload_n (pc := 2) dX7_distance_2 rfl ?_
    refine g_iload_n (pc := 3) dX7_distance_3 rfl ?_
    refine g_invV_r (pc := 4) (As := [_, _]) dX7_distance_4 rfl (r_areIn_f h h1) rfl rfl (shK hS rfl) rfl rfl lk_X7_223 rfl (nb rfl) ⟨nb rfl, nb rfl⟩ rfl ?_
    refine g_if_eq (pc := 7) (tgt := 22) dX7_distance_7 rfl (fun _ => ?_) (fun h7 => absurd (rfl) h7)
    refine g_iconst (pc := 22) (v := 0) dX7_distance_22 rfl ?_
    refine g_iconst (pc := 23) (v := 1) dX7_distance_23 rfl ?_
    refine g_invV_r (pc := 24) (As := [_, _]) dX7_distance_24 rfl (r_isThrown_1 hS) rfl rfl (shK hS rfl) rfl rfl lk_X7_209 rfl (nb rfl) ⟨nb rfl, nb rfl⟩ rfl ?_
    refine g_if_eq (pc := 27) (tgt := 32) dX7_distance_27 rfl (fun h27 => absurd h27 ((by decide))) (fun _ => ?_)
    refine g_iconst (pc := 30) (v := 0) dX7_distance_30 rfl ?_
    refine g_ireturn (pc := 31) dX7_distance_31 rfl rfl ?_
    exact ⟨rfl, rfl⟩
/-- the next node of the first shortest way -/
def nxP (f : Nat → Int32) (n t h : Nat) (j : Nat) : Bool := hb (f h) j && decide (farF f n t n j = farF f n t n h - 1)
def nxF (f : Nat → Int32) (n t h : Nat) : Nat := (fstI (nxP f n t h) n).toNatClampNeg
def spF (f : Nat → Int32) (n t a : Nat) : Nat → Nat
  | 0 => a
  | k + 1 => nxF f n t (spF f n t a k)
theorem nxF_ok {f : Nat → Int32} {t h e : Nat} (hn : n ≤ 32) (he : farF f n t n h = nI (e + 1)) (hen : e + 1 < n) : nxF f n t h < n ∧ hb (f h) (nxF f n t h) = true ∧ farF f n t n (nxF f n t h) = nI e ∧ ∀ j, j < nxF f n t h → ¬ (hb (f h) j = true ∧ farF f n t n j = nI e) := by
  have e1 : farF f n t n h - 1 = nI e := by rw [he]; exact nI_pred e
  have hP : ∀ j, nxP f n t h j = true ↔ hb (f h) j = true ∧ farF f n t n j = nI e := fun j => by
    unfold nxP; rw [e1, Bool.and_eq_true, decide_eq_true_iff]
  have hex : ∃ j, j < n ∧ nxP f n t h j = true := by
    have h1 := (fstI_at (P := fun m => wkB f n t m h) n (by omega) (by omega)).mp he
    obtain ⟨j, a1, a2, a3⟩ := wkB_s.mp h1.2.1
    refine ⟨j, a1, (hP j).mpr ⟨a2, (fstI_at (P := fun m => wkB f n t m j) n (by omega) (by omega)).mpr ⟨by omega, a3, fun i hi => ?_⟩⟩⟩
    cases h3 : wkB f n t i j with
    | false => rfl
    | true =>
      have h4 : wkB f n t (i + 1) h = false := h1.2.2 (i + 1) (by omega)
      rw [wkB_s.mpr ⟨j, a1, a2, h3⟩] at h4
      cases h4
  have h2 : fstI (nxP f n t h) n ≠ -1 := fun q => by
    obtain ⟨j, a1, a2⟩ := hex
    have := (fstI_none n (by omega)).mp q j a1
    rw [a2] at this; cases this
  rcases fstI_cases (nxP f n t h) n (by omega) with q | ⟨x, hx, q⟩
  · exact absurd q h2
  · have hx2 := (fstI_at n (by omega) (by omega)).mp q
    have hx3 : nxF f n t h = x := by unfold nxF; rw [q]; exact nI_clamp (by omega)
    rw [hx3]
    obtain ⟨b1, b2⟩ := (hP x).mp hx2.2.1
    exact ⟨hx, b1, b2, fun j hj z => by have := hx2.2.2 j hj; rw [(hP j).mpr z] at this; cases this⟩
theorem spF_ok {f : Nat → Int32} {t a e : Nat} (hn : n ≤ 32) (ha : a < n) (he : farF f n t n a = nI e) (hen : e < n) : ∀ k, k ≤ e → spF f n t a k < n ∧ farF f n t n (spF f n t a k) = nI (e - k)
  | 0, _ => ⟨ha, he⟩
  | k + 1, hk => by
    obtain ⟨a1, a2⟩ := spF_ok hn ha he hen k (by omega)
    rw [spF]
    have := nxF_ok (f := f) (t := t) (h := spF f n t a k) (e := e - (k + 1)) hn (by rw [a2]; congr 1; omega) (by omega)
    exact ⟨this.1, this.2.2.1⟩
theorem le_long (x y : Int32) : x.toInt64 ≤ y.toInt64 ↔ x ≤ y := by
  rw [Int64.le_iff_toInt_le, Int32.toInt_toInt64, Int32.toInt_toInt64, Int32.le_iff_toInt_le]
theorem n_stepAt {s a b e i : Nat} (h : Rr M n A) (hs : s < 6) (ha : a < n) (hb9 : b < n) (he : farF (A s) n b n a = nI e) (hen : e < n) (hi : i ≤ e) : EvR l jX7_stepAt 4 160 0 0 [.ref 198, .int (nI s), .int (nI a), .int (nI b), .int (nI i)] M (.inl (some (.int (nI (spF (A s) n b a i))))) (farM (thr M 0) (A s) n b) := by
  have hn := h.2.2.2.1
  have hS := h.1
  have h' := h.thr (x := 0)
  have h1 : Rr (farM (thr M 0) (A s) n b) n A := h'.far
  have e1 := fun k (hk : k < n) => farM_at (M := thr M 0) (f := A s) (t := b) hk
  have q1 := r_measures (l := l) h' hs hb9
  have hrow := fun k (hk : k < n) => r_rowOf (l := l) h1 hs hk
  have hsp := spF_ok (f := A s) (t := b) hn ha he hen
  have hnx := fun hh ee => nxF_ok (f := A s) (t := b) (h := hh) (e := ee) hn
  have hsuc : ∀ k, spF (A s) n b a (k + 1) = nxF (A s) n b (spF (A s) n b a k) := fun k => rfl
  have h0 : spF (A s) n b a 0 = a := rfl
  generalize farM (thr M 0) (A s) n b = M1 at *
  have e2 := e1 a ha
  rw [he] at e2
  generalize spF (A s) n b a = sp at *
  generalize nxF (A s) n b = nx at *
  generalize farF (A s) n b n = ff at *
  generalize A s = f at *
  refine ev_intro rfl (nb rfl) rfl ?_
  refine g_aload_n (pc := 0) dX7_stepAt_0 rfl trivial ?_
  refine g_aload_n (pc := 1) dX7_stepAt_1 rfl trivial ?_
  refine g_iload_n (pc := 2) dX7_stepAt_2 rfl ?_
  refine g_iload_n (pc := 3) dX7_stepAt_3 rfl ?_
  refine g_invV_r (pc := 4) (As := [_, _]) dX7_stepAt_4 rfl (r_areIn_t h (in6 hs) (inR_nI ha (by omega))) rfl rfl (shK hS rfl) rfl rfl lk_X7_223 rfl (nb rfl) ⟨nb rfl, nb rfl⟩ rfl ?_
  refine g_if_eq (pc := 7) (tgt := 22) dX7_stepAt_7 rfl (fun h7 => absurd h7 ((by decide))) (fun _ => ?_)
  refine g_aload_n (pc := 10) dX7_stepAt_10 rfl trivial ?_
  refine g_iload_n (pc := 11) dX7_stepAt_11 rfl ?_
  refine g_invV_r (pc := 12) (As := [_]) dX7_stepAt_12 rfl (r_isNode_t h (inR_nI hb9 (by omega))) rfl rfl (shK hS rfl) rfl rfl lk_X7_220 rfl (nb rfl) ⟨nb rfl, nb rfl⟩ rfl ?_
  refine g_if_eq (pc := 15) (tgt := 22) dX7_stepAt_15 rfl (fun h15 => absurd h15 ((by decide))) (fun _ => ?_)
  refine g_iconst (pc := 18) (v := 1) dX7_stepAt_18 rfl ?_
  refine g_goto (pc := 19) (tgt := 23) dX7_stepAt_19 rfl ?_
  refine g_iconst (pc := 23) (v := 1) dX7_stepAt_23 rfl ?_
  refine g_invV_r (pc := 24) (As := [_, _]) dX7_stepAt_24 rfl (r_isThrown_0 hS) rfl rfl (shK hS rfl) rfl rfl lk_X7_209 rfl (nb rfl) ⟨nb rfl, nb rfl⟩ rfl ?_
  refine g_if_eq (pc := 27) (tgt := 32) dX7_stepAt_27 rfl (fun _ => ?_) (fun h27 => absurd (rfl) h27)
  refine g_aload_n (pc := 32) dX7_stepAt_32 rfl trivial ?_
  refine g_iload_n (pc := 33) dX7_stepAt_33 rfl ?_
  refine g_iload_n (pc := 34) dX7_stepAt_34 rfl ?_
  refine g_invV_r (pc := 35) (As := [_, _]) dX7_stepAt_35 rfl (q1) rfl rfl (shK h'.1 rfl) rfl rfl lk_X7_273 rfl (nb rfl) ⟨nb rfl, nb rfl⟩ rfl ?_
  refine g_iload (pc := 38) dX7_stepAt_38 rfl ?_
  refine g_i2l (pc := 40) dX7_stepAt_40 rfl ?_
  refine g_lconst (pc := 41) (v := 0) dX7_stepAt_41 rfl ?_
  refine g_aload_n (pc := 42) dX7_stepAt_42 rfl trivial ?_
  refine g_getf (pc := 43) dX7_stepAt_43 fk_X7_43 (shK h1.1 rfl) (fv_arr (shR h1.1 rfl)) ?_
  refine g_iload_n (pc := 46) dX7_stepAt_46 rfl ?_
  refine g_iaload (pc := 47) dX7_stepAt_47 (shK h1.1 rfl) rfl (by omega) (nl rfl) ?_
  rw [e2]
  refine g_i2l (pc := 48) dX7_stepAt_48 rfl ?_
  refine g_invS_r (pc := 49) (As := [_, _, _]) dX7_stepAt_49 rfl (r_in_t (by rw [show (0 : Int64) = (0 : Int32).toInt64 from rfl, le_long]; exact nI_pos' (by omega)) ((le_long _ _).mpr (nI_le hi (by omega)))) rfl rfl lk_X7_67 rfl (nb rfl) ⟨nb rfl, nb rfl⟩ rfl ?_
  refine g_if_ne (pc := 52) (tgt := 57) dX7_stepAt_52 rfl (fun _ => ?_) (fun h52 => absurd ((by decide)) h52)
  refine g_iload_n (pc := 57) dX7_stepAt_57 rfl ?_
  refine g_istore (pc := 58) (lv' := [(0, _), (1, _), (2, _), (3, _), (4, _), (5, _)]) dX7_stepAt_58 (nl rfl) rfl ?_
  refine g_iconst (pc := 60) (v := 0) dX7_stepAt_60 rfl ?_
  refine g_istore (pc := 61) (lv' := [(0, _), (1, _), (2, _), (3, _), (4, _), (5, _), (6, _)]) dX7_stepAt_61 (nl rfl) rfl ?_
  refine go_loop (pc := 63) i (fun k => [(0, .ref 198), (1, .int (nI s)), (4, .int (nI i)), (5, .int (nI (sp k))), (6, .int (nI k))]) (fun _ => M1) ⟨rfl, rfl, rfl, by rw [h0]; rfl, rfl, trivial⟩ rfl ?_ ?_
  · intro k hk ihk
    obtain ⟨b1, b2⟩ := hsp k (by omega)
    obtain ⟨c1, c2, c3, c4⟩ := hnx (sp k) (e - (k + 1)) (by rw [b2]; congr 1; omega) (by omega)
    rw [hsuc k] at ihk
    have b3 : ff (sp k) - 1 = nI (e - (k + 1)) := by rw [b2, nI_m1 (by omega)]; congr 1
    generalize nx (sp k) = y at *
    generalize sp k = x at *
    refine g_iload (pc := 63) dX7_stepAt_63 rfl ?_
    refine g_iload (pc := 65) dX7_stepAt_65 rfl ?_
    refine g_icmp_ge (pc := 67) (tgt := 123) dX7_stepAt_67 rfl (fun h67 => absurd h67 (nI_ge hk (by omega))) (fun _ => ?_)
    refine g_iconst (pc := 70) (v := 0) dX7_stepAt_70 rfl ?_
    refine g_istore (pc := 71) (lv' := [(0, _), (1, _), (4, _), (5, _), (6, _), (7, _)]) dX7_stepAt_71 (nl rfl) rfl ?_
    refine go_while (pc := 73) (σ := Nat) (fun q => q ≤ y) (fun q => y - q) (fun q => [(0, .ref 198), (1, .int (nI s)), (4, .int (nI i)), (5, .int (nI x)), (6, .int (nI k)), (7, .int (nI q))]) (fun q => M1) 0 ⟨rfl, rfl, rfl, rfl, rfl, rfl, trivial⟩ rfl (by omega) ?_
    rintro q d1 ih
    by_cases hq : q = y
    · subst hq
      refine g_aload_n (pc := 73) dX7_stepAt_73 rfl trivial ?_
      refine g_iload_n (pc := 74) dX7_stepAt_74 rfl ?_
      refine g_iload (pc := 75) dX7_stepAt_75 rfl ?_
      refine g_invV_r (pc := 77) (As := [_, _]) dX7_stepAt_77 rfl ((hrow x b1)) rfl rfl (shK h1.1 rfl) rfl rfl lk_X7_227 rfl (nb rfl) ⟨nb rfl, nb rfl⟩ rfl ?_
      refine g_iload (pc := 80) dX7_stepAt_80 rfl ?_
      refine g_invS_r (pc := 82) (As := [_, _]) dX7_stepAt_82 rfl (r_one (show q < 32 by omega)) rfl rfl lk_X7_231 rfl (nb rfl) ⟨nb rfl, nb rfl⟩ rfl ?_
      rw [c2]
      refine g_if_eq (pc := 85) (tgt := 107) dX7_stepAt_85 rfl (fun h85 => absurd h85 ((by decide))) (fun _ => ?_)
      refine g_aload_n (pc := 88) dX7_stepAt_88 rfl trivial ?_
      refine g_getf (pc := 89) dX7_stepAt_89 fk_X7_43 (shK h1.1 rfl) (fv_arr (shR h1.1 rfl)) ?_
      refine g_iload (pc := 92) dX7_stepAt_92 rfl ?_
      refine g_iaload (pc := 94) dX7_stepAt_94 (shK h1.1 rfl) rfl (by omega) (nl rfl) ?_
      rw [e1 q (by omega), c3]
      refine g_aload_n (pc := 95) dX7_stepAt_95 rfl trivial ?_
      refine g_getf (pc := 96) dX7_stepAt_96 fk_X7_43 (shK h1.1 rfl) (fv_arr (shR h1.1 rfl)) ?_
      refine g_iload (pc := 99) dX7_stepAt_99 rfl ?_
      refine g_iaload (pc := 101) dX7_stepAt_101 (shK h1.1 rfl) rfl (by omega) (nl rfl) ?_
      rw [e1 x b1]
      refine g_iconst (pc := 102) (v := 1) dX7_stepAt_102 rfl ?_
      refine g_isub (pc := 103) dX7_stepAt_103 ?_
      rw [b3]
      refine g_icmp_eq (pc := 104) (tgt := 113) dX7_stepAt_104 rfl (fun _ => ?_) (fun h104 => absurd (rfl) h104)
      refine g_iload (pc := 113) dX7_stepAt_113 rfl ?_
      refine g_istore (pc := 115) (lv' := [(0, _), (1, _), (4, _), (5, _), (6, _), (7, _)]) dX7_stepAt_115 (nl rfl) rfl ?_
      refine g_iinc (pc := 117) (lv' := [(0, _), (1, _), (4, _), (5, _), (6, _), (7, _)]) dX7_stepAt_117 rfl (nI_1 _) (nl rfl) rfl ?_
      refine g_goto (pc := 120) (tgt := 63) dX7_stepAt_120 rfl ?_
      exact g_sub (lv' := [(0, _), (1, _), (4, _), (5, _), (6, _)]) ⟨rfl, rfl, rfl, rfl, rfl, trivial⟩ ihk
    · have hqy : q < y := by omega
      have d2 := c4 q hqy
      cases h4 : hb (f x) q with
      | false =>
        refine g_aload_n (pc := 73) dX7_stepAt_73 rfl trivial ?_
        refine g_iload_n (pc := 74) dX7_stepAt_74 rfl ?_
        refine g_iload (pc := 75) dX7_stepAt_75 rfl ?_
        refine g_invV_r (pc := 77) (As := [_, _]) dX7_stepAt_77 rfl ((hrow x b1)) rfl rfl (shK h1.1 rfl) rfl rfl lk_X7_227 rfl (nb rfl) ⟨nb rfl, nb rfl⟩ rfl ?_
        refine g_iload (pc := 80) dX7_stepAt_80 rfl ?_
        refine g_invS_r (pc := 82) (As := [_, _]) dX7_stepAt_82 rfl (r_one (show q < 32 by omega)) rfl rfl lk_X7_231 rfl (nb rfl) ⟨nb rfl, nb rfl⟩ rfl ?_
        rw [h4]
        refine g_if_eq (pc := 85) (tgt := 107) dX7_stepAt_85 rfl (fun _ => ?_) (fun h85 => absurd (rfl) h85)
        refine g_iinc (pc := 107) (lv' := [(0, _), (1, _), (4, _), (5, _), (6, _), (7, _)]) dX7_stepAt_107 rfl (nI_1 _) (nl rfl) rfl ?_
        refine g_goto (pc := 110) (tgt := 73) dX7_stepAt_110 rfl ?_
        exact ih (q + 1) hqy (by omega)
      | true =>
        refine g_aload_n (pc := 73) dX7_stepAt_73 rfl trivial ?_
        refine g_iload_n (pc := 74) dX7_stepAt_74 rfl ?_
        refine g_iload (pc := 75) dX7_stepAt_75 rfl ?_
        refine g_invV_r (pc := 77) (As := [_, _]) dX7_stepAt_77 rfl ((hrow x b1)) rfl rfl (shK h1.1 rfl) rfl rfl lk_X7_227 rfl (nb rfl) ⟨nb rfl, nb rfl⟩ rfl ?_
        refine g_iload (pc := 80) dX7_stepAt_80 rfl ?_
        refine g_invS_r (pc := 82) (As := [_, _]) dX7_stepAt_82 rfl (r_one (show q < 32 by omega)) rfl rfl lk_X7_231 rfl (nb rfl) ⟨nb rfl, nb rfl⟩ rfl ?_
        rw [h4]
        refine g_if_eq (pc := 85) (tgt := 107) dX7_stepAt_85 rfl (fun h85 => absurd h85 ((by decide))) (fun _ => ?_)
        refine g_aload_n (pc := 88) dX7_stepAt_88 rfl trivial ?_
        refine g_getf (pc := 89) dX7_stepAt_89 fk_X7_43 (shK h1.1 rfl) (fv_arr (shR h1.1 rfl)) ?_
        refine g_iload (pc := 92) dX7_stepAt_92 rfl ?_
        refine g_iaload (pc := 94) dX7_stepAt_94 (shK h1.1 rfl) rfl (by omega) (nl rfl) ?_
        rw [e1 q (by omega)]
        refine g_aload_n (pc := 95) dX7_stepAt_95 rfl trivial ?_
        refine g_getf (pc := 96) dX7_stepAt_96 fk_X7_43 (shK h1.1 rfl) (fv_arr (shR h1.1 rfl)) ?_
        refine g_iload (pc := 99) dX7_stepAt_99 rfl ?_
        refine g_iaload (pc := 101) dX7_stepAt_101 (shK h1.1 rfl) rfl (by omega) (nl rfl) ?_
        rw [e1 x b1]
        refine g_iconst (pc := 102) (v := 1) dX7_stepAt_102 rfl ?_
        refine g_isub (pc := 103) dX7_stepAt_103 ?_
        rw [b3]
        refine g_icmp_eq (pc := 104) (tgt := 113) dX7_stepAt_104 rfl (fun h104 => absurd h104 ((fun z => d2 ⟨h4, z⟩))) (fun _ => ?_)
        refine g_iinc (pc := 107) (lv' := [(0, _), (1, _), (4, _), (5, _), (6, _), (7, _)]) dX7_stepAt_107 rfl (nI_1 _) (nl rfl) rfl ?_
        refine g_goto (pc := 110) (tgt := 73) dX7_stepAt_110 rfl ?_
        exact ih (q + 1) hqy (by omega)
  · refine g_iload (pc := 63) dX7_stepAt_63 rfl ?_
    refine g_iload (pc := 65) dX7_stepAt_65 rfl ?_
    refine g_icmp_ge (pc := 67) (tgt := 123) dX7_stepAt_67 rfl (fun _ => ?_) (fun h67 => absurd (nI_le (Nat.le_refl _) (by omega)) h67)
    refine g_iload (pc := 123) dX7_stepAt_123 rfl ?_
    refine g_ireturn (pc := 125) dX7_stepAt_125 rfl rfl ?_
    exact ⟨rfl, rfl⟩
theorem o_stepAt {s a b : Nat} {x : Int32} (h : Rr M n A) (hs : s < 6) (ha : a < n) (hb9 : b < n) (hx : ¬ (0 ≤ x ∧ x ≤ farF (A s) n b n a)) : EvR l jX7_stepAt 4 160 0 0 [.ref 198, .int (nI s), .int (nI a), .int (nI b), .int x] M (.inl (some (.int (-1)))) (farM (thr M 0) (A s) n b) := by
  have hn := h.2.2.2.1
  have hS := h.1
  have h' := h.thr (x := 0)
  have h1 : Rr (farM (thr M 0) (A s) n b) n A := h'.far
  have e1 := farM_at (M := thr M 0) (f := A s) (t := b) ha
  have q1 := r_measures (l := l) h' hs hb9
  generalize farM (thr M 0) (A s) n b = M1 at *
  generalize farF (A s) n b n a = y at *
  refine ev_intro rfl (nb rfl) rfl ?_
  refine g_aload_n (pc := 0) dX7_stepAt_0 rfl trivial ?_
  refine g_aload_n (pc := 1) dX7_stepAt_1 rfl trivial ?_
  refine g_iload_n (pc := 2) dX7_stepAt_2 rfl ?_
  refine g_iload_n (pc := 3) dX7_stepAt_3 rfl ?_
  refine g_invV_r (pc := 4) (As := [_, _]) dX7_stepAt_4 rfl (r_areIn_t h (in6 hs) (inR_nI ha (by omega))) rfl rfl (shK hS rfl) rfl rfl lk_X7_223 rfl (nb rfl) ⟨nb rfl, nb rfl⟩ rfl ?_
  refine g_if_eq (pc := 7) (tgt := 22) dX7_stepAt_7 rfl (fun h7 => absurd h7 ((by decide))) (fun _ => ?_)
  refine g_aload_n (pc := 10) dX7_stepAt_10 rfl trivial ?_
  refine g_iload_n (pc := 11) dX7_stepAt_11 rfl ?_
  refine g_invV_r (pc := 12) (As := [_]) dX7_stepAt_12 rfl (r_isNode_t h (inR_nI hb9 (by omega))) rfl rfl (shK hS rfl) rfl rfl lk_X7_220 rfl (nb rfl) ⟨nb rfl, nb rfl⟩ rfl ?_
  refine g_if_eq (pc := 15) (tgt := 22) dX7_stepAt_15 rfl (fun h15 => absurd h15 ((by decide))) (fun _ => ?_)
  refine g_iconst (pc := 18) (v := 1) dX7_stepAt_18 rfl ?_
  refine g_goto (pc := 19) (tgt := 23) dX7_stepAt_19 rfl ?_
  refine g_iconst (pc := 23) (v := 1) dX7_stepAt_23 rfl ?_
  refine g_invV_r (pc := 24) (As := [_, _]) dX7_stepAt_24 rfl (r_isThrown_0 hS) rfl rfl (shK hS rfl) rfl rfl lk_X7_209 rfl (nb rfl) ⟨nb rfl, nb rfl⟩ rfl ?_
  refine g_if_eq (pc := 27) (tgt := 32) dX7_stepAt_27 rfl (fun _ => ?_) (fun h27 => absurd (rfl) h27)
  refine g_aload_n (pc := 32) dX7_stepAt_32 rfl trivial ?_
  refine g_iload_n (pc := 33) dX7_stepAt_33 rfl ?_
  refine g_iload_n (pc := 34) dX7_stepAt_34 rfl ?_
  refine g_invV_r (pc := 35) (As := [_, _]) dX7_stepAt_35 rfl (q1) rfl rfl (shK h'.1 rfl) rfl rfl lk_X7_273 rfl (nb rfl) ⟨nb rfl, nb rfl⟩ rfl ?_
  refine g_iload (pc := 38) dX7_stepAt_38 rfl ?_
  refine g_i2l (pc := 40) dX7_stepAt_40 rfl ?_
  refine g_lconst (pc := 41) (v := 0) dX7_stepAt_41 rfl ?_
  refine g_aload_n (pc := 42) dX7_stepAt_42 rfl trivial ?_
  refine g_getf (pc := 43) dX7_stepAt_43 fk_X7_43 (shK h1.1 rfl) (fv_arr (shR h1.1 rfl)) ?_
  refine g_iload_n (pc := 46) dX7_stepAt_46 rfl ?_
  refine g_iaload (pc := 47) dX7_stepAt_47 (shK h1.1 rfl) rfl (by omega) (nl rfl) ?_
  rw [e1]
  refine g_i2l (pc := 48) dX7_stepAt_48 rfl ?_
  refine g_invS_r (pc := 49) (As := [_, _, _]) dX7_stepAt_49 rfl (r_in_f (fun z => hx ⟨(le_long 0 x).mp z.1, (le_long _ _).mp z.2⟩)) rfl rfl lk_X7_67 rfl (nb rfl) ⟨nb rfl, nb rfl⟩ rfl ?_
  refine g_if_ne (pc := 52) (tgt := 57) dX7_stepAt_52 rfl (fun h52 => absurd h52 ((fun z => z rfl))) (fun _ => ?_)
  refine g_iconst (pc := 55) (v := (-1)) dX7_stepAt_55 rfl ?_
  refine g_ireturn (pc := 56) dX7_stepAt_56 rfl rfl ?_
  exact ⟨rfl, rfl⟩
theorem t_stepAt {v w u x : Int32} (h : Rr M n A) (hx : ¬ (inR v 6 ∧ inR w n ∧ inR u n)) : EvR l jX7_stepAt 4 160 0 0 [.ref 198, .int v, .int w, .int u, .int x] M (.inl (some (.int 0))) (thr M 1) := by
  have hS := h.1
  refine ev_intro rfl (nb rfl) rfl ?_
  by_cases h1 : inR v 6 ∧ inR w n
  · refine g_aload_n (pc := 0) dX7_stepAt_0 rfl trivial ?_
    refine g_aload_n (pc := 1) dX7_stepAt_1 rfl trivial ?_
    refine g_iload_n (pc := 2) dX7_stepAt_2 rfl ?_
    refine g_iload_n (pc := 3) dX7_stepAt_3 rfl ?_
    refine g_invV_r (pc := 4) (As := [_, _]) dX7_stepAt_4 rfl (r_areIn_t h h1.1 h1.2) rfl rfl (shK hS rfl) rfl rfl lk_X7_223 rfl (nb rfl) ⟨nb rfl, nb rfl⟩ rfl ?_
    refine g_if_eq (pc := 7) (tgt := 22) dX7_stepAt_7 rfl (fun h7 => absurd h7 ((by decide))) (fun _ => ?_)
    refine g_aload_n (pc := 10) dX7_stepAt_10 rfl trivial ?_
    refine g_iload_n (pc := 11) dX7_stepAt_11 rfl ?_
    refine g_invV_r (pc := 12) (As := [_]) dX7_stepAt_12 rfl (r_isNode_f h (fun q => hx ⟨h1.1, h1.2, q⟩)) rfl rfl (shK hS rfl) rfl rfl lk_X7_220 rfl (nb rfl) ⟨nb rfl, nb rfl⟩ rfl ?_
    refine g_if_eq (pc := 15) (tgt := 22) dX7_stepAt_15 rfl (fun _ => ?_) (fun h15 => absurd (rfl) h15)
    refine g_iconst (pc := 22) (v := 0) dX7_stepAt_22 rfl ?_
    refine g_iconst (pc := 23) (v := 1) dX7_stepAt_23 rfl ?_
    refine g_invV_r (pc := 24) (As := [_, _]) dX7_stepAt_24 rfl (r_isThrown_1 hS) rfl rfl (shK hS rfl) rfl rfl lk_X7_209 rfl (nb rfl) ⟨nb rfl, nb rfl⟩ rfl ?_
    refine g_if_eq (pc := 27) (tgt := 32) dX7_stepAt_27 rfl (fun h27 => absurd h27 ((by decide))) (fun _ => ?_)
    refine g_iconst (pc := 30) (v := 0) dX7_stepAt_30 rfl ?_
    refine g_ireturn (pc := 31) dX7_stepAt_31 rfl rfl ?_
    exact ⟨rfl, rfl⟩
  · refine g_aload_n (pc := 0) dX7_stepAt_0 rfl trivial ?_
    refine g_aload_n (pc := 1) dX7_stepAt_1 rfl trivial ?_
    refine g_iload_n (pc := 2) dX7_stepAt_2 rfl ?_
    refine g_iload_n (pc := 3) dX7_stepAt_3 rfl ?_
    refine g_invV_r (pc := 4) (As := [_, _]) dX7_stepAt_4 rfl (r_areIn_f h h1) rfl rfl (shK hS rfl) rfl rfl lk_X7_223 rfl (nb rfl) ⟨nb rfl, nb rfl⟩ rfl ?_
    refine g_if_eq (pc := 7) (tgt := 22) dX7_stepAt_7 rfl (fun _ => ?_) (fun h7 => absurd (rfl) h7)
    refine g_iconst (pc := 22) (v := 0) dX7_stepAt_22 rfl ?_
    refine g_iconst (pc := 23) (v := 1) dX7_stepAt_23 rfl ?_
    refine g_invV_r (pc := 24) (As := [_, _]) dX7_stepAt_24 rfl (r_isThrown_1 hS) rfl rfl (shK hS rfl) rfl rfl lk_X7_209 rfl (nb rfl) ⟨nb rfl, nb rfl⟩ rfl ?_
    refine g_if_eq (pc := 27) (tgt := 32) dX7_stepAt_27 rfl (fun h27 => absurd h27 ((by decide))) (fun _ => ?_)
    refine g_iconst (pc := 30) (v := 0) dX7_stepAt_30 rfl ?_
    refine g_ireturn (pc := 31) dX7_stepAt_31 rfl rfl ?_
    exact ⟨rfl, rfl⟩
/-- the least way back -/
def arF (f : Nat → Int32) (n a : Nat) : Nat → Int32
  | 0 => -1
  | k + 1 => if hb (f a) k = true ∧ farF f n a n k ≠ -1 ∧ (arF f n a k = -1 ∨ farF f n a n k + 1 < arF f n a k) then farF f n a n k + 1 else arF f n a k
theorem r_aroundOf {s a : Nat} (h : Rr M n A) (hs : s < 6) (ha : a < n) : EvR l jX7_aroundOf 2 60 0 0 [.ref 198, .int (nI s), .int (nI a)] M (.inl (some (.int (arF (A s) n a n)))) (farM M (A s) n a) := by
  have hn := h.2.2.2.1
  have hS := h.1
  have h1 : Rr (farM M (A s) n a) n A := h.far
  have e1 := fun k (hk : k < n) => farM_at (M := M) (f := A s) (t := a) hk
  have q1 := r_measures (l := l) h hs ha
  have hrow := r_rowOf (l := l) h1 hs ha
  have hsuc : ∀ k, arF (A s) n a (k + 1) = if hb (A s a) k = true ∧ farF (A s) n a n k ≠ -1 ∧ (arF (A s) n a k = -1 ∨ farF (A s) n a n k + 1 < arF (A s) n a k) then farF (A s) n a n k + 1 else arF (A s) n a k := fun k => rfl
  have h0 : arF (A s) n a 0 = -1 := rfl
  generalize farM M (A s) n a = M1 at *
  generalize arF (A s) n a = ar at *
  generalize farF (A s) n a n = ff at *
  generalize A s = f at *
  refine ev_intro rfl (nb rfl) rfl ?_
  refine g_aload_n (pc := 0) dX7_aroundOf_0 rfl trivial ?_
  refine g_iload_n (pc := 1) dX7_aroundOf_1 rfl ?_
  refine g_iload_n (pc := 2) dX7_aroundOf_2 rfl ?_
  refine g_invV_r (pc := 3) (As := [_, _]) dX7_aroundOf_3 rfl (q1) rfl rfl (shK hS rfl) rfl rfl lk_X7_273 rfl (nb rfl) ⟨nb rfl, nb rfl⟩ rfl ?_
  refine g_iconst (pc := 6) (v := (-1)) dX7_aroundOf_6 rfl ?_
  refine g_istore_n (pc := 7) (lv' := [(0, _), (1, _), (2, _), (3, _)]) dX7_aroundOf_7 (nl rfl) rfl ?_
  refine g_iconst (pc := 8) (v := 0) dX7_aroundOf_8 rfl ?_
  refine g_istore (pc := 9) (lv' := [(0, _), (1, _), (2, _), (3, _), (4, _)]) dX7_aroundOf_9 (nl rfl) rfl ?_
  refine go_loop (pc := 11) n (fun k => [(0, .ref 198), (1, .int (nI s)), (2, .int (nI a)), (3, .int (ar k)), (4, .int (nI k))]) (fun _ => M1) ⟨rfl, rfl, rfl, by rw [h0]; rfl, rfl, trivial⟩ rfl ?_ ?_
  · intro k hk ih
    rw [hsuc k] at ih
    have ek := e1 k hk
    generalize ar k = x at *
    generalize ff k = y at *
    refine g_iload (pc := 11) dX7_aroundOf_11 rfl ?_
    refine g_aload_n (pc := 13) dX7_aroundOf_13 rfl trivial ?_
    refine g_invV_r (pc := 14) (As := []) dX7_aroundOf_14 rfl (r_size h1) rfl rfl (shK h1.1 rfl) rfl rfl lk_X7_71 rfl (nb rfl) ⟨nb rfl, nb rfl⟩ rfl ?_
    refine g_icmp_ge (pc := 17) (tgt := 80) dX7_aroundOf_17 rfl (fun h17 => absurd h17 (nI_ge hk (by omega))) (fun _ => ?_)
    refine g_aload_n (pc := 20) dX7_aroundOf_20 rfl trivial ?_
    refine g_iload_n (pc := 21) dX7_aroundOf_21 rfl ?_
    refine g_iload_n (pc := 22) dX7_aroundOf_22 rfl ?_
    refine g_invV_r (pc := 23) (As := [_, _]) dX7_aroundOf_23 rfl (hrow) rfl rfl (shK h1.1 rfl) rfl rfl lk_X7_227 rfl (nb rfl) ⟨nb rfl, nb rfl⟩ rfl ?_
    refine g_iload (pc := 26) dX7_aroundOf_26 rfl ?_
    refine g_invS_r (pc := 28) (As := [_, _]) dX7_aroundOf_28 rfl (r_one (show k < 32 by omega)) rfl rfl lk_X7_231 rfl (nb rfl) ⟨nb rfl, nb rfl⟩ rfl ?_
    refine g_iconst (pc := 31) (v := 1) dX7_aroundOf_31 rfl ?_
    refine g_icmp_ne (pc := 32) (tgt := 74) dX7_aroundOf_32 rfl (fun h32 => ?_) (fun h32 => ?_)
    · rw [if_neg (fun z => h32 (by rw [z.1]; rfl))] at ih
      refine g_iinc (pc := 74) (lv' := [(0, _), (1, _), (2, _), (3, _), (4, _)]) dX7_aroundOf_74 rfl (nI_1 _) (nl rfl) rfl ?_
      refine g_goto (pc := 77) (tgt := 11) dX7_aroundOf_77 rfl ?_
      exact ih
    · have g1 : hb (f a) k = true := by cases hz : hb (f a) k with
      | true => rfl
      | false => rw [hz] at h32; exact absurd (fun z => by cases z) h32
      refine g_aload_n (pc := 35) dX7_aroundOf_35 rfl trivial ?_
      refine g_getf (pc := 36) dX7_aroundOf_36 fk_X7_43 (shK h1.1 rfl) (fv_arr (shR h1.1 rfl)) ?_
      refine g_iload (pc := 39) dX7_aroundOf_39 rfl ?_
      refine g_iaload (pc := 41) dX7_aroundOf_41 (shK h1.1 rfl) rfl (by omega) (nl rfl) ?_
      rw [ek]
      refine g_iconst (pc := 42) (v := (-1)) dX7_aroundOf_42 rfl ?_
      refine g_icmp_eq (pc := 43) (tgt := 74) dX7_aroundOf_43 rfl (fun h43 => ?_) (fun h43 => ?_)
      · rw [if_neg (fun z => z.2.1 h43)] at ih
        refine g_iinc (pc := 74) (lv' := [(0, _), (1, _), (2, _), (3, _), (4, _)]) dX7_aroundOf_74 rfl (nI_1 _) (nl rfl) rfl ?_
        refine g_goto (pc := 77) (tgt := 11) dX7_aroundOf_77 rfl ?_
        exact ih
      · refine g_iload_n (pc := 46) dX7_aroundOf_46 rfl ?_
        refine g_iconst (pc := 47) (v := (-1)) dX7_aroundOf_47 rfl ?_
        refine g_icmp_eq (pc := 48) (tgt := 64) dX7_aroundOf_48 rfl (fun h48 => ?_) (fun h48 => ?_)
        · rw [if_pos ⟨g1, h43, Or.inl h48⟩] at ih
          refine g_aload_n (pc := 64) dX7_aroundOf_64 rfl trivial ?_
          refine g_getf (pc := 65) dX7_aroundOf_65 fk_X7_43 (shK h1.1 rfl) (fv_arr (shR h1.1 rfl)) ?_
          refine g_iload (pc := 68) dX7_aroundOf_68 rfl ?_
          refine g_iaload (pc := 70) dX7_aroundOf_70 (shK h1.1 rfl) rfl (by omega) (nl rfl) ?_
          rw [ek]
          refine g_iconst (pc := 71) (v := 1) dX7_aroundOf_71 rfl ?_
          refine g_iadd (pc := 72) dX7_aroundOf_72 ?_
          refine g_istore_n (pc := 73) (lv' := [(0, _), (1, _), (2, _), (3, _), (4, _)]) dX7_aroundOf_73 (nl rfl) rfl ?_
          refine g_iinc (pc := 74) (lv' := [(0, _), (1, _), (2, _), (3, _), (4, _)]) dX7_aroundOf_74 rfl (nI_1 _) (nl rfl) rfl ?_
          refine g_goto (pc := 77) (tgt := 11) dX7_aroundOf_77 rfl ?_
          exact ih
        · refine g_aload_n (pc := 51) dX7_aroundOf_51 rfl trivial ?_
          refine g_getf (pc := 52) dX7_aroundOf_52 fk_X7_43 (shK h1.1 rfl) (fv_arr (shR h1.1 rfl)) ?_
          refine g_iload (pc := 55) dX7_aroundOf_55 rfl ?_
          refine g_iaload (pc := 57) dX7_aroundOf_57 (shK h1.1 rfl) rfl (by omega) (nl rfl) ?_
          rw [ek]
          refine g_iconst (pc := 58) (v := 1) dX7_aroundOf_58 rfl ?_
          refine g_iadd (pc := 59) dX7_aroundOf_59 ?_
          refine g_iload_n (pc := 60) dX7_aroundOf_60 rfl ?_
          refine g_icmp_ge (pc := 61) (tgt := 74) dX7_aroundOf_61 rfl (fun h61 => ?_) (fun h61 => ?_)
          · rw [if_neg (fun z => z.2.2.elim h48 (Int32.not_lt.mpr h61))] at ih
            refine g_iinc (pc := 74) (lv' := [(0, _), (1, _), (2, _), (3, _), (4, _)]) dX7_aroundOf_74 rfl (nI_1 _) (nl rfl) rfl ?_
            refine g_goto (pc := 77) (tgt := 11) dX7_aroundOf_77 rfl ?_
            exact ih
          · rw [if_pos ⟨g1, h43, Or.inr (Int32.not_le.mp h61)⟩] at ih
            refine g_aload_n (pc := 64) dX7_aroundOf_64 rfl trivial ?_
            refine g_getf (pc := 65) dX7_aroundOf_65 fk_X7_43 (shK h1.1 rfl) (fv_arr (shR h1.1 rfl)) ?_
            refine g_iload (pc := 68) dX7_aroundOf_68 rfl ?_
            refine g_iaload (pc := 70) dX7_aroundOf_70 (shK h1.1 rfl) rfl (by omega) (nl rfl) ?_
            rw [ek]
            refine g_iconst (pc := 71) (v := 1) dX7_aroundOf_71 rfl ?_
            refine g_iadd (pc := 72) dX7_aroundOf_72 ?_
            refine g_istore_n (pc := 73) (lv' := [(0, _), (1, _), (2, _), (3, _), (4, _)]) dX7_aroundOf_73 (nl rfl) rfl ?_
            refine g_iinc (pc := 74) (lv' := [(0, _), (1, _), (2, _), (3, _), (4, _)]) dX7_aroundOf_74 rfl (nI_1 _) (nl rfl) rfl ?_
            refine g_goto (pc := 77) (tgt := 11) dX7_aroundOf_77 rfl ?_
            exact ih
  · refine g_iload (pc := 11) dX7_aroundOf_11 rfl ?_
    refine g_aload_n (pc := 13) dX7_aroundOf_13 rfl trivial ?_
    refine g_invV_r (pc := 14) (As := []) dX7_aroundOf_14 rfl (r_size h1) rfl rfl (shK h1.1 rfl) rfl rfl lk_X7_71 rfl (nb rfl) ⟨nb rfl, nb rfl⟩ rfl ?_
    refine g_icmp_ge (pc := 17) (tgt := 80) dX7_aroundOf_17 rfl (fun _ => ?_) (fun h17 => absurd (nI_le (Nat.le_refl _) (by omega)) h17)
    refine g_iload_n (pc := 80) dX7_aroundOf_80 rfl ?_
    refine g_ireturn (pc := 81) dX7_aroundOf_81 rfl rfl ?_
    exact ⟨rfl, rfl⟩
theorem n_around {s a : Nat} (h : Rr M n A) (hs : s < 6) (ha : a < n) : EvR l jX7_around 4 160 0 0 [.ref 198, .int (nI s), .int (nI a)] M (.inl (some (.int (arF (A s) n a n)))) (farM (thr M 0) (A s) n a) := by
  have hn := h.2.2.2.1
  have hS := h.1
  refine ev_intro rfl (nb rfl) rfl ?_
  refine g_aload_n (pc := 0) dX7_around_0 rfl trivial ?_
  refine g_aload_n (pc := 1) dX7_around_1 rfl trivial ?_
  refine g_iload_n (pc := 2) dX7_around_2 rfl ?_
  refine g_iload_n (pc := 3) dX7_around_3 rfl ?_
  refine g_invV_r (pc := 4) (As := [_, _]) dX7_around_4 rfl (r_areIn_t h (in6 hs) (inR_nI ha (by omega))) rfl rfl (shK hS rfl) rfl rfl lk_X7_223 rfl (nb rfl) ⟨nb rfl, nb rfl⟩ rfl ?_
  refine g_iconst (pc := 7) (v := 1) dX7_around_7 rfl ?_
  refine g_invV_r (pc := 8) (As := [_, _]) dX7_around_8 rfl (r_isThrown_0 hS) rfl rfl (shK hS rfl) rfl rfl lk_X7_209 rfl (nb rfl) ⟨nb rfl, nb rfl⟩ rfl ?_
  refine g_if_eq (pc := 11) (tgt := 18) dX7_around_11 rfl (fun _ => ?_) (fun h11 => absurd (rfl) h11)
  refine g_aload_n (pc := 18) dX7_around_18 rfl trivial ?_
  refine g_iload_n (pc := 19) dX7_around_19 rfl ?_
  refine g_iload_n (pc := 20) dX7_around_20 rfl ?_
  refine g_invV_r (pc := 21) (As := [_, _]) dX7_around_21 rfl (r_aroundOf h.thr hs ha) rfl rfl (shK hS rfl) rfl rfl lk_X7_277 rfl (nb rfl) ⟨nb rfl, nb rfl⟩ rfl ?_
  refine g_ireturn (pc := 24) dX7_around_24 rfl rfl ?_
  exact ⟨rfl, rfl⟩
theorem t_around {v w : Int32} (h : Rr M n A) (hx : ¬ (inR v 6 ∧ inR w n)) : EvR l jX7_around 4 160 0 0 [.ref 198, .int v, .int w] M (.inl (some (.int 0))) (thr M 1) := by
  have hS := h.1
  refine ev_intro rfl (nb rfl) rfl ?_
  refine g_aload_n (pc := 0) dX7_around_0 rfl trivial ?_
  refine g_aload_n (pc := 1) dX7_around_1 rfl trivial ?_
  refine g_iload_n (pc := 2) dX7_around_2 rfl ?_
  refine g_iload_n (pc := 3) dX7_around_3 rfl ?_
  refine g_invV_r (pc := 4) (As := [_, _]) dX7_around_4 rfl (r_areIn_f h hx) rfl rfl (shK hS rfl) rfl rfl lk_X7_223 rfl (nb rfl) ⟨nb rfl, nb rfl⟩ rfl ?_
  refine g_iconst (pc := 7) (v := 1) dX7_around_7 rfl ?_
  refine g_invV_r (pc := 8) (As := [_, _]) dX7_around_8 rfl (r_isThrown_1 hS) rfl rfl (shK hS rfl) rfl rfl lk_X7_209 rfl (nb rfl) ⟨nb rfl, nb rfl⟩ rfl ?_
  refine g_if_eq (pc := 11) (tgt := 18) dX7_around_11 rfl (fun h11 => absurd h11 ((by decide))) (fun _ => ?_)
  refine g_iconst (pc := 14) (v := 0) dX7_around_14 rfl ?_
  refine g_goto (pc := 15) (tgt := 24) dX7_around_15 rfl ?_
  refine g_ireturn (pc := 24) dX7_around_24 rfl rfl ?_
  exact ⟨rfl, rfl⟩
def grF (f : Nat → Int32) (n : Nat) : Nat → Int32
  | 0 => -1
  | k + 1 => if arF f n k n = -1 then grF f n k else if grF f n k = -1 then arF f n k n else if grF f n k ≤ arF f n k n then grF f n k else arF f n k n
def gfM (M : Mem) (f : Nat → Int32) (n : Nat) : Nat → Mem
  | 0 => M
  | k + 1 => farM M f n k
theorem gfM_2 {f : Nat → Int32} {k : Nat} : farM (gfM M f n k) f n k = farM M f n k := by
  cases k with
  | zero => rfl
  | succ k => exact farM_2
theorem Rr.gf {f : Nat → Int32} {k : Nat} (h : Rr M n A) : Rr (gfM M f n k) n A := by cases k <;> exact h
theorem n_girth {s : Nat} (h : Rr M n A) (hs : s < 6) : EvR l jX7_girth 4 160 0 0 [.ref 198, .int (nI s)] M (.inl (some (.int (grF (A s) n n)))) (gfM (thr M 0) (A s) n n) := by
  have hn := h.2.2.2.1
  have hS := h.1
  have h' := h.thr (x := 0)
  refine ev_intro rfl (nb rfl) rfl ?_
  refine g_aload_n (pc := 0) dX7_girth_0 rfl trivial ?_
  refine g_iload_n (pc := 1) dX7_girth_1 rfl ?_
  refine g_invS_r (pc := 2) (As := [_]) dX7_girth_2 rfl (r_isSlot_t (in6 hs)) rfl rfl lk_X7_216 rfl (nb rfl) ⟨nb rfl, nb rfl⟩ rfl ?_
  refine g_iconst (pc := 5) (v := 1) dX7_girth_5 rfl ?_
  refine g_invV_r (pc := 6) (As := [_, _]) dX7_girth_6 rfl (r_isThrown_0 hS) rfl rfl (shK hS rfl) rfl rfl lk_X7_209 rfl (nb rfl) ⟨nb rfl, nb rfl⟩ rfl ?_
  refine g_if_eq (pc := 9) (tgt := 14) dX7_girth_9 rfl (fun _ => ?_) (fun h9 => absurd (rfl) h9)
  refine g_iconst (pc := 14) (v := (-1)) dX7_girth_14 rfl ?_
  refine g_istore_n (pc := 15) (lv' := [(0, _), (1, _), (2, _)]) dX7_girth_15 (nl rfl) rfl ?_
  refine g_iconst (pc := 16) (v := 0) dX7_girth_16 rfl ?_
  refine g_istore_n (pc := 17) (lv' := [(0, _), (1, _), (2, _), (3, _)]) dX7_girth_17 (nl rfl) rfl ?_
  refine go_loop (pc := 18) n (fun k => [(0, .ref 198), (1, .int (nI s)), (2, .int (grF (A s) n k)), (3, .int (nI k))]) (fun k => gfM (thr M 0) (A s) n k) ⟨rfl, rfl, rfl, rfl, trivial⟩ rfl ?_ ?_
  · intro k hk ih
    have h1 : Rr (gfM (thr M 0) (A s) n k) n A := h'.gf
    have q1 := r_aroundOf (l := l) h1 hs hk
    rw [gfM_2] at q1
    generalize gfM (thr M 0) (A s) n n = M9 at *
    generalize grF (A s) n n = X9 at *
    rw [grF, gfM] at ih
    generalize farM (thr M 0) (A s) n k = M2 at *
    generalize gfM (thr M 0) (A s) n k = M1 at *
    generalize grF (A s) n k = x at *
    generalize arF (A s) n k n = y at *
    refine g_iload_n (pc := 18) dX7_girth_18 rfl ?_
    refine g_aload_n (pc := 19) dX7_girth_19 rfl trivial ?_
    refine g_invV_r (pc := 20) (As := []) dX7_girth_20 rfl (r_size h1) rfl rfl (shK h1.1 rfl) rfl rfl lk_X7_71 rfl (nb rfl) ⟨nb rfl, nb rfl⟩ rfl ?_
    refine g_icmp_ge (pc := 23) (tgt := 64) dX7_girth_23 rfl (fun h23 => absurd h23 (nI_ge hk (by omega))) (fun _ => ?_)
    refine g_aload_n (pc := 26) dX7_girth_26 rfl trivial ?_
    refine g_iload_n (pc := 27) dX7_girth_27 rfl ?_
    refine g_iload_n (pc := 28) dX7_girth_28 rfl ?_
    refine g_invV_r (pc := 29) (As := [_, _]) dX7_girth_29 rfl (q1) rfl rfl (shK h1.1 rfl) rfl rfl lk_X7_277 rfl (nb rfl) ⟨nb rfl, nb rfl⟩ rfl ?_
    refine g_istore (pc := 32) (lv' := [(0, _), (1, _), (2, _), (3, _), (4, _)]) dX7_girth_32 (nl rfl) rfl ?_
    refine g_iload (pc := 34) dX7_girth_34 rfl ?_
    refine g_iconst (pc := 36) (v := (-1)) dX7_girth_36 rfl ?_
    refine g_icmp_eq (pc := 37) (tgt := 51) dX7_girth_37 rfl (fun h37 => ?_) (fun h37 => ?_)
    · rw [if_pos h37] at ih
      refine g_iload_n (pc := 51) dX7_girth_51 rfl ?_
      refine g_goto (pc := 52) (tgt := 57) dX7_girth_52 rfl ?_
      refine g_istore_n (pc := 57) (lv' := [(0, _), (1, _), (2, _), (3, _), (4, _)]) dX7_girth_57 (nl rfl) rfl ?_
      refine g_iinc (pc := 58) (lv' := [(0, _), (1, _), (2, _), (3, _), (4, _)]) dX7_girth_58 rfl (nI_1 _) (nl rfl) rfl ?_
      refine g_goto (pc := 61) (tgt := 18) dX7_girth_61 rfl ?_
      exact g_sub (lv' := [(0, _), (1, _), (2, _), (3, _)]) ⟨rfl, rfl, rfl, rfl, trivial⟩ ih
    · rw [if_neg h37] at ih
      refine g_iload_n (pc := 40) dX7_girth_40 rfl ?_
      refine g_iconst (pc := 41) (v := (-1)) dX7_girth_41 rfl ?_
      refine g_icmp_eq (pc := 42) (tgt := 55) dX7_girth_42 rfl (fun h42 => ?_) (fun h42 => ?_)
      · rw [if_pos h42] at ih
        refine g_iload (pc := 55) dX7_girth_55 rfl ?_
        refine g_istore_n (pc := 57) (lv' := [(0, _), (1, _), (2, _), (3, _), (4, _)]) dX7_girth_57 (nl rfl) rfl ?_
        refine g_iinc (pc := 58) (lv' := [(0, _), (1, _), (2, _), (3, _), (4, _)]) dX7_girth_58 rfl (nI_1 _) (nl rfl) rfl ?_
        refine g_goto (pc := 61) (tgt := 18) dX7_girth_61 rfl ?_
        exact g_sub (lv' := [(0, _), (1, _), (2, _), (3, _)]) ⟨rfl, rfl, rfl, rfl, trivial⟩ ih
      · rw [if_neg h42] at ih
        refine g_iload_n (pc := 45) dX7_girth_45 rfl ?_
        refine g_iload (pc := 46) dX7_girth_46 rfl ?_
        refine g_icmp_gt (pc := 48) (tgt := 55) dX7_girth_48 rfl (fun h48 => ?_) (fun h48 => ?_)
        · rw [if_neg (Int32.not_le.mpr h48)] at ih
          refine g_iload (pc := 55) dX7_girth_55 rfl ?_
          refine g_istore_n (pc := 57) (lv' := [(0, _), (1, _), (2, _), (3, _), (4, _)]) dX7_girth_57 (nl rfl) rfl ?_
          refine g_iinc (pc := 58) (lv' := [(0, _), (1, _), (2, _), (3, _), (4, _)]) dX7_girth_58 rfl (nI_1 _) (nl rfl) rfl ?_
          refine g_goto (pc := 61) (tgt := 18) dX7_girth_61 rfl ?_
          exact g_sub (lv' := [(0, _), (1, _), (2, _), (3, _)]) ⟨rfl, rfl, rfl, rfl, trivial⟩ ih
        · rw [if_pos (Int32.not_lt.mp h48)] at ih
          refine g_iload_n (pc := 51) dX7_girth_51 rfl ?_
          refine g_goto (pc := 52) (tgt := 57) dX7_girth_52 rfl ?_
          refine g_istore_n (pc := 57) (lv' := [(0, _), (1, _), (2, _), (3, _), (4, _)]) dX7_girth_57 (nl rfl) rfl ?_
          refine g_iinc (pc := 58) (lv' := [(0, _), (1, _), (2, _), (3, _), (4, _)]) dX7_girth_58 rfl (nI_1 _) (nl rfl) rfl ?_
          refine g_goto (pc := 61) (tgt := 18) dX7_girth_61 rfl ?_
          exact g_sub (lv' := [(0, _), (1, _), (2, _), (3, _)]) ⟨rfl, rfl, rfl, rfl, trivial⟩ ih
  · have h1 : Rr (gfM (thr M 0) (A s) n n) n A := h'.gf
    refine g_iload_n (pc := 18) dX7_girth_18 rfl ?_
    refine g_aload_n (pc := 19) dX7_girth_19 rfl trivial ?_
    refine g_invV_r (pc := 20) (As := []) dX7_girth_20 rfl (r_size h1) rfl rfl (shK h1.1 rfl) rfl rfl lk_X7_71 rfl (nb rfl) ⟨nb rfl, nb rfl⟩ rfl ?_
    refine g_icmp_ge (pc := 23) (tgt := 64) dX7_girth_23 rfl (fun _ => ?_) (fun h23 => absurd (nI_le (Nat.le_refl _) (by omega)) h23)
    refine g_iload_n (pc := 64) dX7_girth_64 rfl ?_
    refine g_ireturn (pc := 65) dX7_girth_65 rfl rfl ?_
    exact ⟨rfl, rfl⟩
theorem t_girth {v : Int32} (h : Rr M n A) (hx : ¬ inR v 6) : EvR l jX7_girth 4 160 0 0 [.ref 198, .int v] M (.inl (some (.int 0))) (thr M 1) := by
  have hS := h.1
  refine ev_intro rfl (nb rfl) rfl ?_
  refine g_aload_n (pc := 0) dX7_girth_0 rfl trivial ?_
  refine g_iload_n (pc := 1) dX7_girth_1 rfl ?_
  refine g_invS_r (pc := 2) (As := [_]) dX7_girth_2 rfl (r_isSlot_f hx) rfl rfl lk_X7_216 rfl (nb rfl) ⟨nb rfl, nb rfl⟩ rfl ?_
  refine g_iconst (pc := 5) (v := 1) dX7_girth_5 rfl ?_
  refine g_invV_r (pc := 6) (As := [_, _]) dX7_girth_6 rfl (r_isThrown_1 hS) rfl rfl (shK hS rfl) rfl rfl lk_X7_209 rfl (nb rfl) ⟨nb rfl, nb rfl⟩ rfl ?_
  refine g_if_eq (pc := 9) (tgt := 14) dX7_girth_9 rfl (fun h9 => absurd h9 ((by decide))) (fun _ => ?_)
  refine g_iconst (pc := 12) (v := 0) dX7_girth_12 rfl ?_
  refine g_ireturn (pc := 13) dX7_girth_13 rfl rfl ?_
  exact ⟨rfl, rfl⟩
end

