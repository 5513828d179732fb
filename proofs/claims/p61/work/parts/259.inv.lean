/-! inverses; needless edges out -/
section
variable {l : Launch} {M M' Mx : Mem} {m n d x : Nat} {rw9 : Nat → Nat} {f : Nat → Int32} {g h : Nat → Nat → Bool}
theorem oL_g : ∀ x, x < 512 → (lg_cmp (oL x) 0 ≥ 0) := by decide +kernel
theorem oL_1 : ∀ r, r < 9 → ∀ x, x < 512 → (lg_cmp ((oL x >>> ((nI r).toInt64 &&& 63)) &&& 1) 1 = 0 ↔ x.testBit r = true) := by decide +kernel
theorem k_inverse (hd : (mK M)[d]? = some (.inr 7)) (hz : mI M d 0 = nI n) (hm : Mt M m n rw9 (fB f)) (hn : n ≤ 9) (hx : mX M = true) : EvO l jX7_inverse 4 130 30 260 [.ref d, .ref m] M (fun r M' => Xn M M' ∧ ((r = some .null ∧ ∃ c, c < n ∧ (zso f n (2 ^ c)).1 ≠ 0) ∨ ((∀ c, c < n → (zso f n (2 ^ c)).1 = 0) ∧ ∃ m2 b, r = some (.ref m2) ∧ NM M M' n m2 b (fun r c => (zso f n (2 ^ c)).2.testBit r)))) := by
  have hFr := fresh_Mt M n
  have hX := os2_xt M .boolean n n
  refine ev_intro rfl (nb rfl) rfl ?_
  refine g_aload_n (pc := 0) dX7_inverse_0 rfl trivial ?_
  refine g_invV_r (pc := 1) (As := []) dX7_inverse_1 rfl (k_fresh hd hz hn hx) rfl rfl hd rfl rfl lk_X7_56 rfl (nb rfl) ⟨nb rfl, nb rfl⟩ rfl ?_
  show Go l _ _ _ _ _ _ _ _ ([.ref (mK M).length] : List Value) _ _ (opsM M (os2 .boolean n n (mK M).length))
  have hd1 := hX.k hd
  have hz1 := (congrFun (hX.I (k_lt hd) id) 0).trans hz
  have hm1 : Mt (opsM M (os2 .boolean n n (mK M).length)) m n rw9 (fB f) := hm.xt hX id (fun _ _ => id)
  have hx1 := hX.2.1.trans hx
  have hml := hm.lt
  have hdl := k_lt hd
  generalize hN : (mK M).length = N at *
  generalize opsM M (os2 .boolean n n N) = M1 at *
  have cl0 : ∀ {My : Mem}, Xt (fun i => N ≤ i) M1 My → (mK My)[d]? = some (.inr 7) ∧ mI My d 0 = nI n ∧ Mt My m n rw9 (fB f) ∧ mX My = true := fun {My} h => ⟨h.k hd1, (congrFun (h.I (k_lt hd1) (by omega)) 0).trans hz1, hm1.xt h (by omega) (fun r hr => by have := hml.2 r hr; omega), h.2.1.trans hx1⟩
  refine g_astore_n (pc := 4) (lv' := [(0, _), (1, _), (2, _)]) dX7_inverse_4 trivial (nl rfl) rfl ?_
  refine g_iconst (pc := 5) (v := 0) dX7_inverse_5 rfl ?_
  refine g_istore_n (pc := 6) (lv' := [(0, _), (1, _), (2, _), (3, _)]) dX7_inverse_6 (nl rfl) rfl ?_
  refine g_wk (pc := 7) (k := 2 * (n - 0)) (n := 18 * (n - 0)) (by omega) (by omega) ?_
  refine go_forS (pc := 7) n (fun c (_ : Mem) => [(0, .ref d), (1, .ref m), (2, .ref N), (3, .int (nI c))]) (fun z => z) (fun c My => Xt (fun i => N ≤ i) M1 My ∧ (∀ y, y < c → (zso f n (2 ^ y)).1 = 0) ∧ Mt My N n (fun r => N + 1 + r) (fun r y => if y < c then (zso f n (2 ^ y)).2.testBit r else false)) (fun c => 2 * (n - c)) (fun c => 18 * (n - c)) M1 ⟨rfl, rfl, rfl, rfl, trivial⟩ rfl rfl rfl ⟨Xt.rf _ M1, fun y hy => absurd hy (Nat.not_lt_zero y), hFr.cg (fun r c _ _ => (if_neg (Nat.not_lt_zero c)).symm)⟩ ?_ ?_
  · rintro c My hc ⟨g1, g2, g3⟩ ih
    obtain ⟨hd9, hz9, hm9, hx9⟩ := cl0 g1
    have hp2 : 2 ^ c < 2 ^ n := Nat.pow_lt_pow_right (by decide) hc
    refine g_iload_n (pc := 7) dX7_inverse_7 rfl ?_
    refine g_aload_n (pc := 8) dX7_inverse_8 rfl trivial ?_
    refine g_getf (pc := 9) (v := .int _) dX7_inverse_9 fk_X7_22 hd9 (fun _ => congrArg Value.int (hz9)) ?_
    refine g_icmp_ge (pc := 12) (tgt := 81) dX7_inverse_12 rfl (fun h12 => absurd h12 (nI_ge hc (by omega))) (fun _ => ?_)
    refine g_aload_n (pc := 15) dX7_inverse_15 rfl trivial ?_
    refine g_aload_n (pc := 16) dX7_inverse_16 rfl trivial ?_
    refine g_lconst (pc := 17) (v := 1) dX7_inverse_17 rfl ?_
    refine g_iload_n (pc := 18) dX7_inverse_18 rfl ?_
    refine g_lshl (pc := 19) dX7_inverse_19 (oL_s c (by omega)) ?_
    refine (g_wk (k := 2 * (n - (c + 1)) + 2) (n := 18 * (n - (c + 1)) + 18) (by omega) (by omega) ?_)
    refine g_invV_o (pc := 20) (As := [_, _]) dX7_inverse_20 rfl (k_solve hd9 hz9 hm9 hn hp2 hx9) rfl rfl hd9 rfl rfl lk_X7_85 rfl (nb rfl) ⟨nb rfl, nb rfl⟩ rfl (fun v1 M2 hq => ?_)
    obtain ⟨rfl, hlt, hXs⟩ := hq
    have g4 : Xt (fun i => N ≤ i) M1 M2 := g1.tr' hXs (fun _ _ z => z.elim)
    have g5 : Mt M2 N n (fun r => N + 1 + r) _ := g3.xt hXs id (fun _ _ => id)
    obtain ⟨hd8, hz8, hm8, hx8⟩ := cl0 g4
    show Go l _ _ _ _ _ _ _ _ ([.long (soR f n (2 ^ c))] : List Value) _ _ _
    by_cases h0 : (zso f n (2 ^ c)).1 = 0
    · rw [show soR f n (2 ^ c) = oL (zso f n (2 ^ c)).2 from if_pos h0]
      have hall : ∀ y, y < c + 1 → (zso f n (2 ^ y)).1 = 0 := fun y hy => by
        rcases Nat.lt_succ_iff_lt_or_eq.mp hy with z | z
        · exact g2 y z
        · rw [z]
          exact h0
      have hbit := fun r hr => oL_1 r hr _ hlt
      have hge := oL_g _ hlt
      generalize hv : (zso f n (2 ^ c)).2 = v at *
      refine g_lstore (pc := 23) (lv' := [(0, _), (1, _), (2, _), (3, _), (4, _)]) dX7_inverse_23 (nl rfl) rfl ?_
      refine g_lload (pc := 25) dX7_inverse_25 rfl ?_
      refine g_lconst (pc := 27) (v := 0) dX7_inverse_27 rfl ?_
      refine g_lcmp (pc := 28) dX7_inverse_28 ?_
      refine g_if_ge (pc := 29) (tgt := 34) dX7_inverse_29 rfl (fun _ => ?_) (fun h29 => absurd (hge) h29)
      refine g_iconst (pc := 34) (v := 0) dX7_inverse_34 rfl ?_
      refine g_istore (pc := 35) (lv' := [(0, _), (1, _), (2, _), (3, _), (4, _), (6, _)]) dX7_inverse_35 (nl rfl) rfl ?_
      refine go_forS (pc := 37) n (fun r (_ : Mem) => [(0, .ref d), (1, .ref m), (2, .ref N), (3, .int (nI c)), (4, .long (oL v)), (6, .int (nI r))]) (fun z => z) (fun r My => Xt (fun i => N ≤ i) M1 My ∧ Mt My N n (fun r => N + 1 + r) (fun r' y => if y < c then (zso f n (2 ^ y)).2.testBit r' else if y = c ∧ r' < r then v.testBit r' else false)) (fun _ => 2 * (n - (c + 1))) (fun _ => 18 * (n - (c + 1))) M2 ⟨rfl, rfl, rfl, rfl, rfl, rfl, trivial⟩ rfl rfl rfl ⟨g4, g5.cg (fun r y _ _ => ?_)⟩ ?_ ?_
      · by_cases e : y < c
        · rw [if_pos e, if_pos e]
        · rw [if_neg e, if_neg e, if_neg (fun z => Nat.not_lt_zero _ z.2)]
      · rintro r Mz hr ⟨q1, q2⟩ ih2
        obtain ⟨hd7, hz7, hm7, hx7⟩ := cl0 q1
        have hput : ∀ w : Bool, w = v.testBit r → Mt (sI Mz (N + 1 + r) (fun_set (mI Mz (N + 1 + r)) c (vp_nar .boolean (b1 w)))) N n (fun r => N + 1 + r) (fun r' y => if y < c then (zso f n (2 ^ y)).2.testBit r' else if y = c ∧ r' < r + 1 then v.testBit r' else false) := fun w hw => (q2.put (v := w) (j := c) hr (fun r' _ e => by omega)).cg (fun r' y _ _ => by
          by_cases e : r' = r ∧ y = c
          · rw [if_pos e, if_neg (by omega), if_pos (by omega), hw, e.1]
          · rw [if_neg e]
            by_cases e2 : y < c
            · rw [if_pos e2, if_pos e2]
            · rw [if_neg e2, if_neg e2]
              by_cases e3 : y = c ∧ r' < r
              · rw [if_pos e3, if_pos (by omega)]
              · rw [if_neg e3, if_neg (by omega)])
        have hpx : ∀ w : Bool, Xt (fun i => N ≤ i) M1 (sI Mz (N + 1 + r) (fun_set (mI Mz (N + 1 + r)) c (vp_nar .boolean (b1 w)))) := fun w => q1.sI (fun _ => by omega)
        cases hw : v.testBit r
        · refine g_iload (pc := 37) dX7_inverse_37 rfl ?_
          refine g_aload_n (pc := 39) dX7_inverse_39 rfl trivial ?_
          refine g_getf (pc := 40) (v := .int _) dX7_inverse_40 fk_X7_22 hd7 (fun _ => congrArg Value.int (hz7)) ?_
          refine g_icmp_ge (pc := 43) (tgt := 75) dX7_inverse_43 rfl (fun h43 => absurd h43 (nI_ge hr (by omega))) (fun _ => ?_)
          refine g_aload_n (pc := 46) dX7_inverse_46 rfl trivial ?_
          refine g_iload (pc := 47) dX7_inverse_47 rfl ?_
          refine g_aaload_Z1 (pc := 49) dX7_inverse_49 q2.1 rfl hr (by omega) (q2.2 r hr).1 ?_
          refine g_iload_n (pc := 50) dX7_inverse_50 rfl ?_
          refine g_lload (pc := 51) dX7_inverse_51 rfl ?_
          refine g_iload (pc := 53) dX7_inverse_53 rfl ?_
          refine g_lshr (pc := 55) dX7_inverse_55 rfl ?_
          refine g_lconst (pc := 56) (v := 1) dX7_inverse_56 rfl ?_
          refine g_land (pc := 57) dX7_inverse_57 ?_
          refine g_lconst (pc := 58) (v := 1) dX7_inverse_58 rfl ?_
          refine g_lcmp (pc := 59) dX7_inverse_59 ?_
          refine g_if_ne (pc := 60) (tgt := 67) dX7_inverse_60 rfl (fun _ => ?_) (fun h60 => absurd ((fun z => by rw [(hbit r (by omega)).mp z] at hw; cases hw)) h60)
          refine g_iconst (pc := 67) (v := 0) dX7_inverse_67 rfl ?_
          refine g_zastore (pc := 68) dX7_inverse_68 (q2.2 r hr).2.1 rfl hc (by omega) ?_
          refine g_iinc (pc := 69) (lv' := [(0, _), (1, _), (2, _), (3, _), (4, _), (6, _)]) dX7_inverse_69 rfl (nI_1 _) (nl rfl) rfl ?_
          refine g_goto (pc := 72) (tgt := 37) dX7_inverse_72 rfl ?_
          exact g_subk (ih2 _ ⟨hpx false, hput false hw.symm⟩) ⟨rfl, rfl, rfl, rfl, rfl, rfl, trivial⟩
        · refine g_iload (pc := 37) dX7_inverse_37 rfl ?_
          refine g_aload_n (pc := 39) dX7_inverse_39 rfl trivial ?_
          refine g_getf (pc := 40) (v := .int _) dX7_inverse_40 fk_X7_22 hd7 (fun _ => congrArg Value.int (hz7)) ?_
          refine g_icmp_ge (pc := 43) (tgt := 75) dX7_inverse_43 rfl (fun h43 => absurd h43 (nI_ge hr (by omega))) (fun _ => ?_)
          refine g_aload_n (pc := 46) dX7_inverse_46 rfl trivial ?_
          refine g_iload (pc := 47) dX7_inverse_47 rfl ?_
          refine g_aaload_Z1 (pc := 49) dX7_inverse_49 q2.1 rfl hr (by omega) (q2.2 r hr).1 ?_
          refine g_iload_n (pc := 50) dX7_inverse_50 rfl ?_
          refine g_lload (pc := 51) dX7_inverse_51 rfl ?_
          refine g_iload (pc := 53) dX7_inverse_53 rfl ?_
          refine g_lshr (pc := 55) dX7_inverse_55 rfl ?_
          refine g_lconst (pc := 56) (v := 1) dX7_inverse_56 rfl ?_
          refine g_land (pc := 57) dX7_inverse_57 ?_
          refine g_lconst (pc := 58) (v := 1) dX7_inverse_58 rfl ?_
          refine g_lcmp (pc := 59) dX7_inverse_59 ?_
          refine g_if_ne (pc := 60) (tgt := 67) dX7_inverse_60 rfl (fun h60 => absurd h60 ((fun z => z ((hbit r (by omega)).mpr hw)))) (fun _ => ?_)
          refine g_iconst (pc := 63) (v := 1) dX7_inverse_63 rfl ?_
          refine g_goto (pc := 64) (tgt := 68) dX7_inverse_64 rfl ?_
          refine g_zastore (pc := 68) dX7_inverse_68 (q2.2 r hr).2.1 rfl hc (by omega) ?_
          refine g_iinc (pc := 69) (lv' := [(0, _), (1, _), (2, _), (3, _), (4, _), (6, _)]) dX7_inverse_69 rfl (nI_1 _) (nl rfl) rfl ?_
          refine g_goto (pc := 72) (tgt := 37) dX7_inverse_72 rfl ?_
          exact g_subk (ih2 _ ⟨hpx true, hput true hw.symm⟩) ⟨rfl, rfl, rfl, rfl, rfl, rfl, trivial⟩
      · rintro Mz ⟨q1, q2⟩
        obtain ⟨hd7, hz7, hm7, hx7⟩ := cl0 q1
        refine g_iload (pc := 37) dX7_inverse_37 rfl ?_
        refine g_aload_n (pc := 39) dX7_inverse_39 rfl trivial ?_
        refine g_getf (pc := 40) (v := .int _) dX7_inverse_40 fk_X7_22 hd7 (fun _ => congrArg Value.int (hz7)) ?_
        refine g_icmp_ge (pc := 43) (tgt := 75) dX7_inverse_43 rfl (fun _ => ?_) (fun h43 => absurd (nI_le (Nat.le_refl _) (by omega)) h43)
        refine g_iinc (pc := 75) (lv' := [(0, _), (1, _), (2, _), (3, _), (4, _), (6, _)]) dX7_inverse_75 rfl (nI_1 _) (nl rfl) rfl ?_
        refine g_goto (pc := 78) (tgt := 7) dX7_inverse_78 rfl ?_
        refine g_subk (pc := 7) (ih Mz ⟨q1, hall, q2.cg (fun r y hr _ => ?_)⟩) ⟨rfl, rfl, rfl, rfl, trivial⟩
        by_cases e : y < c
        · rw [if_pos e, if_pos (by omega)]
        · rw [if_neg e]
          by_cases e2 : y = c
          · rw [if_pos ⟨e2, hr⟩, if_pos (by omega), e2, hv]
          · rw [if_neg (fun z => e2 z.1), if_neg (by omega)]
    · rw [show soR f n (2 ^ c) = -1 from if_neg h0]
      refine g_lstore (pc := 23) (lv' := [(0, _), (1, _), (2, _), (3, _), (4, _)]) dX7_inverse_23 (nl rfl) rfl ?_
      refine g_lload (pc := 25) dX7_inverse_25 rfl ?_
      refine g_lconst (pc := 27) (v := 0) dX7_inverse_27 rfl ?_
      refine g_lcmp (pc := 28) dX7_inverse_28 ?_
      refine g_if_ge (pc := 29) (tgt := 34) dX7_inverse_29 rfl (fun h29 => absurd h29 ((by decide))) (fun _ => ?_)
      refine g_aconst_null (pc := 32) dX7_inverse_32 ?_
      refine g_areturn_null (pc := 33) dX7_inverse_33 rfl (Or.inr ⟨_, rfl⟩) ?_
      exact ⟨_, rfl, (hX.tr' g4 (fun i hi z => by omega)), Or.inl ⟨rfl, c, hc, h0⟩⟩
  · rintro My ⟨g1, g2, g3⟩
    obtain ⟨hd9, hz9, hm9, hx9⟩ := cl0 g1
    have hXF := hX.tr' g1 (W := fun _ => False) (fun i hi z => by omega)
    refine g_iload_n (pc := 7) dX7_inverse_7 rfl ?_
    refine g_aload_n (pc := 8) dX7_inverse_8 rfl trivial ?_
    refine g_getf (pc := 9) (v := .int _) dX7_inverse_9 fk_X7_22 hd9 (fun _ => congrArg Value.int (hz9)) ?_
    refine g_icmp_ge (pc := 12) (tgt := 81) dX7_inverse_12 rfl (fun _ => ?_) (fun h12 => absurd (nI_le (Nat.le_refl _) (by omega)) h12)
    refine g_aload_n (pc := 81) dX7_inverse_81 rfl trivial ?_
    refine g_areturn (pc := 82) dX7_inverse_82 rfl (Or.inr ⟨_, rfl⟩) ?_
    exact ⟨_, rfl, hXF, Or.inr ⟨g2, N, N + 1, rfl, g3.cg (fun r c _ hc => if_pos hc), by omega, by omega, hXF⟩⟩
end

