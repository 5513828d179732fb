/-! needless edges out -/
/-- an edge out, and back where it is missed -/
noncomputable def rdE (wh L : Nat → Nat → Bool) (n i j : Nat) : Nat → Nat → Bool := fun r c => if r = i ∧ c = j ∧ L i j = true then decide (0 < dM (clB (fun r' c' => if r' = i ∧ c' = j then false else L r' c') n) wh n n) else L r c
noncomputable def rdR (wh L : Nat → Nat → Bool) (n i : Nat) : Nat → (Nat → Nat → Bool)
  | 0 => L
  | j + 1 => rdE wh (rdR wh L n i j) n i j
noncomputable def rdB (wh f : Nat → Nat → Bool) (n : Nat) : Nat → (Nat → Nat → Bool)
  | 0 => f
  | i + 1 => rdR wh (rdB wh f n i) n i n
section
variable {l : Launch} {M M' Mx : Mem} {m n d x i j N : Nat} {rw9 : Nat → Nat} {f g h : Nat → Nat → Bool}
theorem cM_le (f : Nat → Nat → Bool) (n : Nat) : ∀ k, cM f n k ≤ k * n
  | 0 => Nat.zero_le _
  | k + 1 => by
    have h1 := cM_le f n k
    have h2 := cR_le (f k) n
    rw [cM, Nat.succ_mul]
    omega
/-- rows copied so far -/
def RC (M Mx : Mem) (N n : Nat) (f : Nat → Nat → Bool) (i : Nat) : Prop := Xt (fun y => N ≤ y) M Mx ∧ (mK Mx).length = N + (n + 1) + i ∧ (mK Mx)[N]? = some (.inl (.array .boolean, n)) ∧ ∀ r, r < i → mR Mx N r = some (N + (n + 1) + r) ∧ (mK Mx)[N + (n + 1) + r]? = some (.inl (.boolean, n)) ∧ ∀ c, c < n → mI Mx (N + (n + 1) + r) c = b1 (f r c)
theorem RC.row {a : Nat} (h : RC M Mx N n f i) (hi : i < n) (ha : a < N) (hv : ∀ c, c < n → mI Mx a c = b1 (f i c)) : RC M (sR (nC Mx a (.inl (.boolean, n))) N (fun_set (mR (nC Mx a (.inl (.boolean, n))) N) i (some (mK Mx).length))) N n f (i + 1) := by
  obtain ⟨h1, h2, h3, h4⟩ := h
  have hx : Xt (fun y => y = N) Mx (sR (nC Mx a (.inl (.boolean, n))) N (fun_set (mR (nC Mx a (.inl (.boolean, n))) N) i (some (mK Mx).length))) := ((Xt.rf (fun y => y = N) Mx).nC _ _).sR (fun _ => rfl)
  have eR0 : mR (nC Mx a (.inl (.boolean, n))) N = mR Mx N := ((Xt.rf (fun _ => False) Mx).nC _ _).R (k_lt h3) id
  refine ⟨(h1.nC _ _).sR (fun _ => Nat.le_refl N), ?_, hx.k h3, fun r hr => ?_⟩
  · show (mK Mx ++ [_]).length = _
    rw [List.length_append, h2]
    rfl
  · rw [sR_self]
    by_cases e : r = i
    · subst e
      rw [fs_self, h2]
      refine ⟨rfl, ?_, fun c hc => ?_⟩
      · show (mK Mx ++ [_])[_]? = _
        rw [List.getElem?_append_right (by omega), h2, Nat.sub_self]
        rfl
      · rw [mI_sR, ← h2, new_cI]
        exact hv c hc
    · obtain ⟨z1, z2, z3⟩ := h4 r (by omega)
      rw [fs_ne _ _ e, eR0]
      refine ⟨z1, hx.k z2, fun c hc => ?_⟩
      rw [hx.I (k_lt z2) (by omega)]
      exact z3 c hc
theorem k_reduced (hd : (mK M)[d]? = some (.inr 7)) (hz : mI M d 0 = nI n) (hm : Mt M m n rw9 f) (hn : n ≤ 9) (hx : mX M = true) : EvO l jX7_reduced 2 80 930 8400 [.ref d, .ref m] M (fun r M' => ∃ m2 b, r = some (.ref m2) ∧ NM M M' n m2 b (rdB (clB f n) f n n)) := by
  have hnn : n * n ≤ 81 := Nat.mul_le_mul hn hn
  have hFr := fresh_Mt M n
  have hX := os2_xt M .boolean n n
  have hLl := os2_len M .boolean n n
  have hml := hm.lt
  have hdl := k_lt hd
  refine ev_intro rfl (nb rfl) rfl ?_
  refine g_aload_n (pc := 0) dX7_reduced_0 rfl trivial ?_
  refine g_invV_r (pc := 1) (As := []) dX7_reduced_1 rfl (k_fresh hd hz hn hx) rfl rfl hd rfl rfl lk_X7_56 rfl (nb rfl) ⟨nb rfl, nb rfl⟩ rfl ?_
  show Go l _ _ _ _ _ _ _ _ ([.ref (mK M).length] : List Value) _ _ (opsM M (os2 .boolean n n (mK M).length))
  generalize hN : (mK M).length = N at *
  have cl : ∀ {My : Mem}, Xt (fun y => N ≤ y) M My → (mK My)[d]? = some (.inr 7) ∧ mI My d 0 = nI n ∧ Mt My m n rw9 f ∧ mX My = true := fun {My} h => ⟨h.k hd, (congrFun (h.I (k_lt hd) (by omega)) 0).trans hz, hm.xt h (by omega) (fun r hr => by have := hml.2 r hr; omega), h.2.1.trans hx⟩
  have R0 : RC M (opsM M (os2 .boolean n n N)) N n f 0 := ⟨hX.up (fun _ _ z => z.elim), hLl, hFr.1, fun r hr => absurd hr (Nat.not_lt_zero r)⟩
  generalize opsM M (os2 .boolean n n N) = M1 at *
  refine g_astore_n (pc := 4) (lv' := [(0, _), (1, _), (2, _)]) dX7_reduced_4 trivial (nl rfl) rfl ?_
  refine g_iconst (pc := 5) (v := 0) dX7_reduced_5 rfl ?_
  refine g_istore_n (pc := 6) (lv' := [(0, _), (1, _), (2, _), (3, _)]) dX7_reduced_6 (nl rfl) rfl ?_
  refine g_wk (pc := 7) (k := 911 + (n - 0)) (n := 8200 + (n - 0) * n) (by omega) (by rw [Nat.sub_zero]; omega) ?_
  refine go_forS (pc := 7) n (fun i (_ : Mem) => [(0, .ref d), (1, .ref m), (2, .ref N), (3, .int (nI i))]) (fun z => z) (fun i My => RC M My N n f i) (fun i => 911 + (n - i)) (fun i => 8200 + (n - i) * n) M1 ⟨rfl, rfl, rfl, rfl, trivial⟩ rfl rfl rfl R0 ?_ ?_
  · intro i My hi hC ih
    obtain ⟨hd9, hz9, hm9, hx9⟩ := cl hC.1
    obtain ⟨r1, r2, r3⟩ := hm9.2 i hi
    have hrl := hml.2 i hi
    have hC3 := hC.row hi hrl r3
    have hnj : (n - i) * n = (n - (i + 1)) * n + n := by rw [show n - i = (n - (i + 1)) + 1 by omega, Nat.succ_mul]
    refine g_iload_n (pc := 7) dX7_reduced_7 rfl ?_
    refine g_aload_n (pc := 8) dX7_reduced_8 rfl trivial ?_
    refine g_getf (pc := 9) (v := .int _) dX7_reduced_9 fk_X7_22 hd9 (fun _ => congrArg Value.int (hz9)) ?_
    refine g_icmp_ge (pc := 12) (tgt := 33) dX7_reduced_12 rfl (fun h12 => absurd h12 (nI_ge hi (by omega))) (fun _ => ?_)
    refine g_aload_n (pc := 15) dX7_reduced_15 rfl trivial ?_
    refine g_iload_n (pc := 16) dX7_reduced_16 rfl ?_
    refine g_aload_n (pc := 17) dX7_reduced_17 rfl trivial ?_
    refine g_iload_n (pc := 18) dX7_reduced_18 rfl ?_
    refine g_aaload_Z1 (pc := 19) dX7_reduced_19 hm9.1 rfl hi (by omega) r1 ?_
    refine g_wk (pc := 20) (k := 911 + (n - (i + 1)) + 1) (n := 8200 + (n - (i + 1)) * n + n) (by omega) (by omega) ?_
    refine g_cloneT (pc := 20) (ty := .boolean) (t0 := 3) dX7_reduced_20 wd_x870 wd_x871 wd_x650 wd_x651 wd_x872 (by simp [CX1]) (fun _ => rfl) (fun _ _ _ => rfl) rfl (fun _ _ h => h) r2 (fun c hc => by rw [r3 c hc]; exact fit_Z _) hx9 (nb rfl) (nb rfl) ?_
    refine g_castA (pc := 23) (t0 := 3) dX7_reduced_23 wd_x874 (new_at _ _) (fun _ => rfl) rfl (fun _ _ h => h) ?_
    refine g_aastore_Z1 (pc := 26) dX7_reduced_26 (new_o My hC.2.2.1) rfl hi (by omega) (new_at _ _) ?_
    refine g_iinc (pc := 27) (lv' := [(0, _), (1, _), (2, _), (3, _)]) dX7_reduced_27 rfl (nI_1 _) (nl rfl) rfl ?_
    refine g_goto (pc := 30) (tgt := 7) dX7_reduced_30 rfl ?_
    exact g_subk (ih _ hC3) ⟨rfl, rfl, rfl, rfl, trivial⟩
  · intro My hC
    obtain ⟨hd9, hz9, hm9, hx9⟩ := cl hC.1
    have hMt : Mt My N n (fun r => N + (n + 1) + r) f := ⟨hC.2.2.1, fun r hr => hC.2.2.2 r hr⟩
    have hlen := hC.2.1
    refine g_iload_n (pc := 7) dX7_reduced_7 rfl ?_
    refine g_aload_n (pc := 8) dX7_reduced_8 rfl trivial ?_
    refine g_getf (pc := 9) (v := .int _) dX7_reduced_9 fk_X7_22 hd9 (fun _ => congrArg Value.int (hz9)) ?_
    refine g_icmp_ge (pc := 12) (tgt := 33) dX7_reduced_12 rfl (fun _ => ?_) (fun h12 => absurd (nI_le (Nat.le_refl _) (by omega)) h12)
    refine g_aload_n (pc := 33) dX7_reduced_33 rfl trivial ?_
    refine (g_wk (k := 900 + 11) (n := 8100 + 100) (by omega) (by omega) ?_)
    refine g_aload_n (pc := 34) dX7_reduced_34 rfl trivial ?_
    refine g_invV_o (pc := 35) (As := [_]) dX7_reduced_35 rfl (k_closure hd9 hz9 hm9 hn hx9) rfl rfl hd9 rfl rfl lk_X7_89 rfl (nb rfl) ⟨nb rfl, nb rfl⟩ rfl (fun v1 M2 hq => ?_)
    obtain ⟨wc, wb, rfl, w1, w2, w3, w4⟩ := hq
    have X2 : Xt (fun y => N ≤ y) M M2 := hC.1.tr' w4 (fun _ _ z => z.elim)
    have hL2 := hMt.xt w4 id (fun _ _ => id)
    rw [hlen] at w2 w3
    show Go l _ _ _ _ _ _ _ _ ([.ref wc] : List Value) _ _ _
    refine g_astore_n (pc := 38) (lv' := [(0, _), (1, _), (2, _), (3, _)]) dX7_reduced_38 trivial (nl rfl) rfl ?_
    refine g_iconst (pc := 39) (v := 0) dX7_reduced_39 rfl ?_
    refine g_istore (pc := 40) (lv' := [(0, _), (1, _), (2, _), (3, _), (4, _)]) dX7_reduced_40 (nl rfl) rfl ?_
    refine g_wk (pc := 42) (k := (9 - 0) * 99) (n := (9 - 0) * 900) (by omega) (by omega) ?_
    refine go_forS (pc := 42) n (fun i (_ : Mem) => [(0, .ref d), (1, .ref m), (2, .ref N), (3, .ref wc), (4, .int (nI i))]) (fun z => z) (fun i My => Xt (fun y => N ≤ y) M My ∧ Mt My N n (fun r => N + (n + 1) + r) (rdB (clB f n) f n i) ∧ Mt My wc n (fun r => wb + r) (clB f n)) (fun i => (9 - i) * 99) (fun i => (9 - i) * 900) M2 ⟨rfl, rfl, rfl, rfl, rfl, trivial⟩ rfl rfl rfl ⟨X2, hL2, w1⟩ ?_ ?_
    · rintro i Ma hi ⟨g1, g2, g3⟩ ih
      obtain ⟨hd8, hz8, -, -⟩ := cl g1
      have e0 : rdB (clB f n) f n (i + 1) = rdR (clB f n) (rdB (clB f n) f n i) n i n := rfl
      generalize rdB (clB f n) f n i = L0 at *
      refine g_iload (pc := 42) dX7_reduced_42 rfl ?_
      refine g_aload_n (pc := 44) dX7_reduced_44 rfl trivial ?_
      refine g_getf (pc := 45) (v := .int _) dX7_reduced_45 fk_X7_22 hd8 (fun _ => congrArg Value.int (hz8)) ?_
      refine g_icmp_ge (pc := 48) (tgt := 121) dX7_reduced_48 rfl (fun h48 => absurd h48 (nI_ge hi (by omega))) (fun _ => ?_)
      refine g_iconst (pc := 51) (v := 0) dX7_reduced_51 rfl ?_
      refine g_istore (pc := 52) (lv' := [(0, _), (1, _), (2, _), (3, _), (4, _), (5, _)]) dX7_reduced_52 (nl rfl) rfl ?_
      refine g_wk (pc := 54) (k := (8 - i) * 99 + (9 - 0) * 11) (n := (8 - i) * 900 + (9 - 0) * 100) (by omega) (by omega) ?_
      refine go_forS (pc := 54) n (fun j (_ : Mem) => [(0, .ref d), (1, .ref m), (2, .ref N), (3, .ref wc), (4, .int (nI i)), (5, .int (nI j))]) (fun z => z) (fun j My => Xt (fun y => N ≤ y) M My ∧ Mt My N n (fun r => N + (n + 1) + r) (rdR (clB f n) L0 n i j) ∧ Mt My wc n (fun r => wb + r) (clB f n)) (fun j => (8 - i) * 99 + (9 - j) * 11) (fun j => (8 - i) * 900 + (9 - j) * 100) Ma ⟨rfl, rfl, rfl, rfl, rfl, rfl, trivial⟩ rfl rfl rfl ⟨g1, g2, g3⟩ ?_ ?_
      · rintro j Mb hj ⟨q1, q2, q3⟩ ih2
        obtain ⟨hd7, hz7, -, hx7⟩ := cl q1
        have e1 : rdR (clB f n) L0 n i (j + 1) = rdE (clB f n) (rdR (clB f n) L0 n i j) n i j := rfl
        generalize rdR (clB f n) L0 n i j = Lj at *
        have hv := (q2.2 i hi).2.2 j hj
        cases hf : Lj i j
        · rw [hf] at hv
          have e2 : rdE (clB f n) Lj n i j = Lj := by
            funext r c
            unfold rdE
            rw [if_neg (fun z => by rw [hf] at z; cases z.2.2)]
          refine g_iload (pc := 54) dX7_reduced_54 rfl ?_
          refine g_aload_n (pc := 56) dX7_reduced_56 rfl trivial ?_
          refine g_getf (pc := 57) (v := .int _) dX7_reduced_57 fk_X7_22 hd7 (fun _ => congrArg Value.int (hz7)) ?_
          refine g_icmp_ge (pc := 60) (tgt := 115) dX7_reduced_60 rfl (fun h60 => absurd h60 (nI_ge hj (by omega))) (fun _ => ?_)
          refine g_aload_n (pc := 63) dX7_reduced_63 rfl trivial ?_
          refine g_iload (pc := 64) dX7_reduced_64 rfl ?_
          refine g_aaload_Z1 (pc := 66) dX7_reduced_66 q2.1 rfl hi (by omega) (q2.2 i hi).1 ?_
          refine g_iload (pc := 67) dX7_reduced_67 rfl ?_
          refine g_zaload (pc := 69) dX7_reduced_69 (q2.2 i hi).2.1 rfl hj (by omega) ?_
          rw [hv]
          refine g_if_ne (pc := 70) (tgt := 76) dX7_reduced_70 rfl (fun h70 => absurd h70 ((by decide))) (fun _ => ?_)
          refine g_goto (pc := 73) (tgt := 109) dX7_reduced_73 rfl ?_
          refine g_iinc (pc := 109) (lv' := [(0, _), (1, _), (2, _), (3, _), (4, _), (5, _)]) dX7_reduced_109 rfl (nI_1 _) (nl rfl) rfl ?_
          refine g_goto (pc := 112) (tgt := 54) dX7_reduced_112 rfl ?_
          refine g_wk (pc := 54) (k := (8 - i) * 99 + (9 - (j + 1)) * 11) (n := (8 - i) * 900 + (9 - (j + 1)) * 100) (by omega) (by omega) ?_
          exact g_subk (ih2 Mb ⟨q1, by rw [e1, e2]; exact q2, q3⟩) ⟨rfl, rfl, rfl, rfl, rfl, rfl, trivial⟩
        · rw [hf] at hv
          have p1 := q2.put (v := false) (j := j) hi (fun r _ e => by omega)
          have px : Xt (fun y => y = N + (n + 1) + i) Mb (sI Mb (N + (n + 1) + i) (fun_set (mI Mb (N + (n + 1) + i)) j (vp_nar .boolean 0))) := (Xt.rf (fun y => y = N + (n + 1) + i) Mb).sI (fun _ => rfl)
          have p3 : Mt (sI Mb (N + (n + 1) + i) (fun_set (mI Mb (N + (n + 1) + i)) j (vp_nar .boolean 0))) wc n (fun r => wb + r) (clB f n) := q3.xt px (by omega) (fun r _ => by show ¬ (wb + r = _); omega)
          have pX : Xt (fun y => N ≤ y) M (sI Mb (N + (n + 1) + i) (fun_set (mI Mb (N + (n + 1) + i)) j (vp_nar .boolean 0))) := q1.sI (fun _ => by omega)
          have p1' : Mt (sI Mb (N + (n + 1) + i) (fun_set (mI Mb (N + (n + 1) + i)) j (vp_nar .boolean 0))) N n (fun r => N + (n + 1) + r) (fun r c => if r = i ∧ c = j then false else Lj r c) := p1
          refine g_iload (pc := 54) dX7_reduced_54 rfl ?_
          refine g_aload_n (pc := 56) dX7_reduced_56 rfl trivial ?_
          refine g_getf (pc := 57) (v := .int _) dX7_reduced_57 fk_X7_22 hd7 (fun _ => congrArg Value.int (hz7)) ?_
          refine g_icmp_ge (pc := 60) (tgt := 115) dX7_reduced_60 rfl (fun h60 => absurd h60 (nI_ge hj (by omega))) (fun _ => ?_)
          refine g_aload_n (pc := 63) dX7_reduced_63 rfl trivial ?_
          refine g_iload (pc := 64) dX7_reduced_64 rfl ?_
          refine g_aaload_Z1 (pc := 66) dX7_reduced_66 q2.1 rfl hi (by omega) (q2.2 i hi).1 ?_
          refine g_iload (pc := 67) dX7_reduced_67 rfl ?_
          refine g_zaload (pc := 69) dX7_reduced_69 (q2.2 i hi).2.1 rfl hj (by omega) ?_
          rw [hv]
          refine g_if_ne (pc := 70) (tgt := 76) dX7_reduced_70 rfl (fun _ => ?_) (fun h70 => absurd ((by decide)) h70)
          refine g_aload_n (pc := 76) dX7_reduced_76 rfl trivial ?_
          refine g_iload (pc := 77) dX7_reduced_77 rfl ?_
          refine g_aaload_Z1 (pc := 79) dX7_reduced_79 q2.1 rfl hi (by omega) (q2.2 i hi).1 ?_
          refine g_iload (pc := 80) dX7_reduced_80 rfl ?_
          refine g_iconst (pc := 82) (v := 0) dX7_reduced_82 rfl ?_
          refine g_zastore (pc := 83) dX7_reduced_83 (q2.2 i hi).2.1 rfl hj (by omega) ?_
          refine g_wk (pc := 84) (k := (8 - i) * 99 + (9 - (j + 1)) * 11 + 11) (n := (8 - i) * 900 + (9 - (j + 1)) * 100 + 100) (by omega) (by omega) ?_
          generalize sI Mb (N + (n + 1) + i) (fun_set (mI Mb (N + (n + 1) + i)) j (vp_nar .boolean 0)) = Mc at *
          obtain ⟨hd6, hz6, -, hx6⟩ := cl pX
          refine g_aload_n (pc := 84) dX7_reduced_84 rfl trivial ?_
          refine g_iload (pc := 85) dX7_reduced_85 rfl ?_
          refine g_aaload_Z1 (pc := 87) dX7_reduced_87 p1'.1 rfl hi (by omega) (p1'.2 i hi).1 ?_
          refine g_iload (pc := 88) dX7_reduced_88 rfl ?_
          refine g_aload_n (pc := 90) dX7_reduced_90 rfl trivial ?_
          refine g_aload_n (pc := 91) dX7_reduced_91 rfl trivial ?_
          refine g_aload_n (pc := 92) dX7_reduced_92 rfl trivial ?_
          refine g_invV_o (pc := 93) (As := [_]) dX7_reduced_93 rfl (k_closure hd6 hz6 p1' hn hx6) rfl rfl hd6 rfl rfl lk_X7_89 rfl (nb rfl) ⟨nb rfl, nb rfl⟩ rfl (fun v2 Md hq => ?_)
          obtain ⟨c2, b2, rfl, y1, y2, y3, y4⟩ := hq
          have yL := p1'.xt y4 id (fun _ _ => id)
          have yW := p3.xt y4 id (fun _ _ => id)
          have yX : Xt (fun y => N ≤ y) M Md := pX.tr' y4 (fun _ _ z => z.elim)
          obtain ⟨hd5, hz5, -, -⟩ := cl yX
          have hfin : ∀ v : Bool, v = decide (0 < dM (clB (fun r' c' => if r' = i ∧ c' = j then false else Lj r' c') n) (clB f n) n n) → Xt (fun y => N ≤ y) M (sI Md (N + (n + 1) + i) (fun_set (mI Md (N + (n + 1) + i)) j (vp_nar .boolean (b1 v)))) ∧ Mt (sI Md (N + (n + 1) + i) (fun_set (mI Md (N + (n + 1) + i)) j (vp_nar .boolean (b1 v)))) N n (fun r => N + (n + 1) + r) (rdE (clB f n) Lj n i j) ∧ Mt (sI Md (N + (n + 1) + i) (fun_set (mI Md (N + (n + 1) + i)) j (vp_nar .boolean (b1 v)))) wc n (fun r => wb + r) (clB f n) := fun v hv9 => by
            refine ⟨yX.sI (fun _ => by omega), (yL.put (v := v) (j := j) hi (fun r _ e => by omega)).cg (fun r c _ _ => ?_), yW.xt ((Xt.rf (fun y => y = N + (n + 1) + i) Md).sI (fun _ => rfl)) (by omega) (fun r _ => by show ¬ (wb + r = _); omega)⟩
            unfold rdE
            by_cases e : r = i ∧ c = j
            · rw [if_pos e, if_pos ⟨e.1, e.2, hf⟩, hv9]
            · rw [if_neg e, if_neg e, if_neg (fun z => e ⟨z.1, z.2.1⟩)]
          have hw := cM_le (fun r c => Bool.xor (clB (fun r' c' => if r' = i ∧ c' = j then false else Lj r' c') n r c) (clB f n r c)) n n
          have hw' : dM (clB (fun r' c' => if r' = i ∧ c' = j then false else Lj r' c') n) (clB f n) n n ≤ n * n := hw
          show Go l _ _ _ _ _ _ _ _ ([.ref c2, .ref d, .int (nI j), .ref (N + (n + 1) + i)] : List Value) _ _ _
          refine g_aload_n (pc := 96) dX7_reduced_96 rfl trivial ?_
          refine g_invV_r (pc := 97) (As := [_, _]) dX7_reduced_97 rfl (k_differ hd5 hz5 y1 yW hn) (Nat.add_zero _).symm (Nat.add_zero _).symm hd5 rfl rfl lk_X7_93 rfl (nb rfl) ⟨nb rfl, nb rfl⟩ rfl ?_
          show Go l _ _ _ _ _ _ _ _ ([.int (nI (dM (clB (fun r' c' => if r' = i ∧ c' = j then false else Lj r' c') n) (clB f n) n n)), .int (nI j), .ref (N + (n + 1) + i)] : List Value) _ _ _
          generalize dM (clB (fun r' c' => if r' = i ∧ c' = j then false else Lj r' c') n) (clB f n) n n = w at *
          by_cases h0 : 0 < w
          · refine g_if_le (pc := 100) (tgt := 107) dX7_reduced_100 rfl (fun h100 => absurd h100 ((nI_ngt9 h0 (by omega)))) (fun _ => ?_)
            refine g_iconst (pc := 103) (v := 1) dX7_reduced_103 rfl ?_
            refine g_goto (pc := 104) (tgt := 108) dX7_reduced_104 rfl ?_
            refine g_zastore (pc := 108) dX7_reduced_108 (yL.2 i hi).2.1 rfl hj (by omega) ?_
            refine g_iinc (pc := 109) (lv' := [(0, _), (1, _), (2, _), (3, _), (4, _), (5, _)]) dX7_reduced_109 rfl (nI_1 _) (nl rfl) rfl ?_
            refine g_goto (pc := 112) (tgt := 54) dX7_reduced_112 rfl ?_
            refine g_subk (pc := 54) (ih2 _ ?_) ⟨rfl, rfl, rfl, rfl, rfl, rfl, trivial⟩
            rw [e1]
            exact hfin true (decide_eq_true h0).symm
          · refine g_if_le (pc := 100) (tgt := 107) dX7_reduced_100 rfl (fun _ => ?_) (fun h100 => absurd ((by rw [show w = 0 by omega]; decide)) h100)
            refine g_iconst (pc := 107) (v := 0) dX7_reduced_107 rfl ?_
            refine g_zastore (pc := 108) dX7_reduced_108 (yL.2 i hi).2.1 rfl hj (by omega) ?_
            refine g_iinc (pc := 109) (lv' := [(0, _), (1, _), (2, _), (3, _), (4, _), (5, _)]) dX7_reduced_109 rfl (nI_1 _) (nl rfl) rfl ?_
            refine g_goto (pc := 112) (tgt := 54) dX7_reduced_112 rfl ?_
            refine g_subk (pc := 54) (ih2 _ ?_) ⟨rfl, rfl, rfl, rfl, rfl, rfl, trivial⟩
            rw [e1]
            exact hfin false (decide_eq_false h0).symm
      · rintro Mb ⟨q1, q2, q3⟩
        obtain ⟨hd7, hz7, -, hx7⟩ := cl q1
        refine g_iload (pc := 54) dX7_reduced_54 rfl ?_
        refine g_aload_n (pc := 56) dX7_reduced_56 rfl trivial ?_
        refine g_getf (pc := 57) (v := .int _) dX7_reduced_57 fk_X7_22 hd7 (fun _ => congrArg Value.int (hz7)) ?_
        refine g_icmp_ge (pc := 60) (tgt := 115) dX7_reduced_60 rfl (fun _ => ?_) (fun h60 => absurd (nI_le (Nat.le_refl _) (by omega)) h60)
        refine g_iinc (pc := 115) (lv' := [(0, _), (1, _), (2, _), (3, _), (4, _), (5, _)]) dX7_reduced_115 rfl (nI_1 _) (nl rfl) rfl ?_
        refine g_goto (pc := 118) (tgt := 42) dX7_reduced_118 rfl ?_
        refine g_wk (pc := 42) (k := (9 - (i + 1)) * 99) (n := (9 - (i + 1)) * 900) (by omega) (by omega) ?_
        refine g_subk (pc := 42) (ih Mb ⟨q1, ?_, q3⟩) ⟨rfl, rfl, rfl, rfl, rfl, trivial⟩
        rw [e0]
        exact q2
    · rintro Ma ⟨g1, g2, g3⟩
      obtain ⟨hd8, hz8, -, -⟩ := cl g1
      refine g_iload (pc := 42) dX7_reduced_42 rfl ?_
      refine g_aload_n (pc := 44) dX7_reduced_44 rfl trivial ?_
      refine g_getf (pc := 45) (v := .int _) dX7_reduced_45 fk_X7_22 hd8 (fun _ => congrArg Value.int (hz8)) ?_
      refine g_icmp_ge (pc := 48) (tgt := 121) dX7_reduced_48 rfl (fun _ => ?_) (fun h48 => absurd (nI_le (Nat.le_refl _) (by omega)) h48)
      refine g_aload_n (pc := 121) dX7_reduced_121 rfl trivial ?_
      refine g_areturn (pc := 122) dX7_reduced_122 rfl (Or.inr ⟨_, rfl⟩) ?_
      exact ⟨_, rfl, N, N + (n + 1), rfl, g2, by omega, by omega, g1.up (fun i hi z => by omega)⟩
end

