section
variable {l : Launch} {M M' M2 : Mem} {m n d s t a b c R : Nat} {rw9 : Nat → Nat} {f g : Nat → Nat → Bool} {W : Nat → Prop} {xs : List Nat}
theorem nd_len : ∀ (n : Nat) (xs : List Nat), xs.Nodup → (∀ x, x ∈ xs → x < n) → xs.length ≤ n
  | 0, [], _, _ => Nat.le_refl 0
  | 0, x :: xs, _, h => absurd (h x List.mem_cons_self) (Nat.not_lt_zero x)
  | n + 1, xs, hd, h => by
    have h1 := nd_len n (xs.erase n) (hd.erase n) (fun x hx => by
      have h2 := h x (List.mem_of_mem_erase hx)
      have h3 : x ≠ n := fun e => by rw [e] at hx; exact (hd.not_mem_erase) hx
      omega)
    have h2 := List.length_erase (a := n) (l := xs)
    split at h2 <;> omega
/-- a walk under way: the nodes so far -/
def CL (M2 : Mem) (c R n a N : Nat) (f : Nat → Nat → Bool) (Mx : Mem) (xs : List Nat) : Prop := Xt (fun i => N ≤ i) M2 Mx ∧ Mt Mx c n (fun r => c + 1 + r) (fun r b => if r < a then clB f n r b else if r = a then decide (b ∈ xs) else false) ∧ (mK Mx)[R]? = some (.inl (.int, n)) ∧ (∀ j, j < xs.length → mI Mx R j = nI (xs.getD j 0)) ∧ (∀ x, x ∈ xs → x < n ∧ TCb f n a x) ∧ xs.Nodup
theorem CL.len {N : Nat} (h : CL M2 c R n a N f M xs) : xs.length ≤ n := nd_len n xs h.2.2.2.2.2 (fun x hx => (h.2.2.2.2.1 x hx).1)
theorem CL.room {N : Nat} (h : CL M2 c R n a N f M xs) (hb : b < n) (hn : b ∉ xs) : xs.length < n := by
  have h1 := nd_len n (b :: xs) (List.nodup_cons.mpr ⟨hn, h.2.2.2.2.2⟩) (fun x hx => by
    rcases List.mem_cons.mp hx with e | e
    · rw [e]
      exact hb
    · exact (h.2.2.2.2.1 x e).1)
  exact h1
theorem CL.push {N : Nat} (h : CL M2 c R n a N f M xs) (hc : N ≤ c) (hR : N ≤ R) (ha : a < n) (hb : b < n) (hn : b ∉ xs) (ht : TCb f n a b) : CL M2 c R n a N f (sI (sI M (c + 1 + a) (fun_set (mI M (c + 1 + a)) b (vp_nar .boolean 1))) R (fun_set (mI (sI M (c + 1 + a) (fun_set (mI M (c + 1 + a)) b (vp_nar .boolean 1))) R) xs.length (nI b))) (xs ++ [b]) := by
  obtain ⟨h1, h2, h3, h4, h5, h6⟩ := h
  have hcR : ∀ r, r < n → c + 1 + r ≠ R := fun r hr e => by
    have h9 := (h2.2 r hr).2.1
    rw [show (fun r => c + 1 + r) r = R from e, h3] at h9
    cases h9
  have hM1 : Mt (sI M (c + 1 + a) (fun_set (mI M (c + 1 + a)) b (vp_nar .boolean 1))) c n (fun r => c + 1 + r) _ := h2.put (v := true) (j := b) ha (fun r _ e => by omega)
  have hX1 : Xt (fun i => i = R) (sI M (c + 1 + a) (fun_set (mI M (c + 1 + a)) b (vp_nar .boolean 1))) (sI (sI M (c + 1 + a) (fun_set (mI M (c + 1 + a)) b (vp_nar .boolean 1))) R (fun_set (mI (sI M (c + 1 + a) (fun_set (mI M (c + 1 + a)) b (vp_nar .boolean 1))) R) xs.length (nI b))) := (Xt.rf _ _).sI (fun _ => rfl)
  refine ⟨(h1.sI (fun _ => by omega)).sI (fun _ => hR), (hM1.xt hX1 (fun e => by have h9 := h2.1; rw [e, h3] at h9; cases h9) (fun r hr => hcR r hr)).cg (fun r y hr hy => ?_), h3, fun j hj => ?_, fun x hx => ?_, ?_⟩
  · by_cases e1 : r < a
    · rw [if_pos e1, if_pos e1, if_neg (fun z => by omega)]
    · rw [if_neg e1, if_neg e1]
      by_cases e2 : r = a
      · rw [if_pos e2, if_pos e2]
        by_cases e3 : y = b
        · rw [if_pos ⟨e2, e3⟩]
          exact (decide_eq_true (by rw [e3]; exact List.mem_append_right _ List.mem_cons_self)).symm
        · rw [if_neg (fun z => e3 z.2)]
          exact decide_eq_decide.mpr ⟨fun z => List.mem_append_left _ z, fun z => (List.mem_append.mp z).elim id (fun z9 => absurd (List.mem_singleton.mp z9) e3)⟩
      · rw [if_neg e2, if_neg e2, if_neg (fun z => e2 z.1)]
  · rw [sI_self]
    rw [List.length_append] at hj
    have hj' : j < xs.length + 1 := hj
    by_cases e : j = xs.length
    · rw [e, fs_self, List.getD_eq_getElem?_getD, List.getElem?_append_right (Nat.le_refl _), Nat.sub_self]
      rfl
    · rw [fs_ne _ _ e, sI_ne (Ne.symm (hcR a ha)), List.getD_eq_getElem?_getD, List.getElem?_append_left (by omega), ← List.getD_eq_getElem?_getD]
      exact h4 j (by omega)
  · rcases List.mem_append.mp hx with z | z
    · exact h5 x z
    · rw [List.mem_singleton.mp z]
      exact ⟨hb, ht⟩
  · exact List.nodup_append.mpr ⟨h6, List.nodup_cons.mpr ⟨List.not_mem_nil, List.nodup_nil⟩, fun x hx y hy e => hn (by rw [← List.mem_singleton.mp hy, ← e]; exact hx)⟩
/-- a walk is whole where every node's nodes are in it -/
theorem CL_whole (ha : a < n) (h1 : ∀ x, x ∈ xs → x < n ∧ TCb f n a x) (h2 : ∀ y, y < n → f a y = true → y ∈ xs) (h3 : ∀ x, x ∈ xs → ∀ y, y < n → f x y = true → y ∈ xs) : decide (b ∈ xs) = clB f n a b := by
  rw [Bool.eq_iff_iff, decide_eq_true_iff, clB_t]
  refine ⟨fun h => (h1 b h).2, fun h => ?_⟩
  have h9 := h (fun x y => (x = a → y ∈ xs) ∧ (x ∈ xs → y ∈ xs)) (fun x y hx hy hf => ⟨fun e => h2 y hy (by rw [← e]; exact hf), fun e => h3 x e y hy hf⟩) (fun x y z h4 h5 => ⟨fun e => h5.2 (h4.1 e), fun e => h5.2 (h4.2 e)⟩)
  exact h9.1 rfl
theorem k_closure (hd : (mK M)[d]? = some (.inr 7)) (hz : mI M d 0 = nI n) (hm : Mt M m n rw9 f) (hn : n ≤ 9) (hx : mX M = true) : EvO l jX7_closure 1 40 11 100 [.ref d, .ref m] M (fun r M' => ∃ c b, r = some (.ref c) ∧ NM M M' n c b (clB f n)) := by
  have hF := fresh_Mt M n
  have hX := os2_xt M .boolean n n
  have hL := os2_len M .boolean n n
  refine ev_intro rfl (nb rfl) rfl ?_
  refine g_aload_n (pc := 0) dX7_closure_0 rfl trivial ?_
  refine g_invV_r (pc := 1) (As := []) dX7_closure_1 rfl (k_fresh hd hz hn hx) rfl rfl hd rfl rfl lk_X7_56 rfl (nb rfl) ⟨nb rfl, nb rfl⟩ rfl ?_
  show Go l _ _ _ _ _ _ _ _ (.ref (mK M).length :: []) _ _ (opsM M (os2 .boolean n n (mK M).length))
  have hx1 : mX (opsM M (os2 .boolean n n (mK M).length)) = true := hX.2.1.trans hx
  generalize opsM M (os2 .boolean n n (mK M).length) = M1 at *
  generalize hN : (mK M).length = N at *
  have hd1 := hX.k hd
  have hz1 := (congrFun (hX.I (k_lt hd) id) 0).trans hz
  have hm1 : Mt M1 m n rw9 f := hm.xt hX id (fun _ _ => id)
  have hlt := hm.lt
  have hdlt := k_lt hd
  rw [hN] at hlt hdlt
  refine g_astore_n (pc := 4) (lv' := [(0, _), (1, _), (2, _)]) dX7_closure_4 trivial (nl rfl) rfl ?_
  refine g_aload_n (pc := 5) dX7_closure_5 rfl trivial ?_
  refine g_getf (pc := 6) (v := .int _) dX7_closure_6 fk_X7_22 hd1 (fun _ => congrArg Value.int (hz1)) ?_
  refine g_wk (pc := 9) (k := 0 + 1) (n := 0 + n) (by omega) (by omega) ?_
  have hk2 : (mK (nK M1 (.inl (.int, n))))[N + (n + 1)]? = some (.inl (.int, n)) := by
    rw [← hL]
    exact new_at M1 _
  have hX2 : Xn M1 (nK M1 (.inl (.int, n))) := (Xt.rf _ _).nK _
  have hd2 := hX2.k hd1
  have hz2 := (congrFun (hX2.I (k_lt hd1) id) 0).trans hz1
  have hm2 : Mt (nK M1 (.inl (.int, n))) m n rw9 f := hm1.xt hX2 id (fun _ _ => id)
  have hF2 : Mt (nK M1 (.inl (.int, n))) N n (fun r => N + 1 + r) (fun _ _ => false) := hF.xt hX2 id (fun _ _ => id)
  have hXM : Xn M (nK M1 (.inl (.int, n))) := hX.tr hX2
  refine g_newarray_int (pc := 9) dX7_closure_9 wd_154 rfl (by omega) hx1 ?_
  rw [hL]
  generalize nK M1 (.inl (.int, n)) = M2 at *
  have cl0 : ∀ {Mx : Mem}, Xt (fun i => N ≤ i) M2 Mx → (mK Mx)[d]? = some (.inr 7) ∧ mI Mx d 0 = nI n ∧ Mt Mx m n rw9 f := fun {Mx} h => ⟨h.k hd2, (congrFun (h.I (k_lt hd2) (by omega)) 0).trans hz2, hm2.xt h (by omega) (fun r hr => by have := hlt.2 r hr; omega)⟩
  refine g_astore_n (pc := 11) (lv' := [(0, _), (1, _), (2, _), (3, _)]) dX7_closure_11 trivial (nl rfl) rfl ?_
  refine g_iconst (pc := 12) (v := 0) dX7_closure_12 rfl ?_
  refine g_istore (pc := 13) (lv' := [(0, _), (1, _), (2, _), (3, _), (4, _)]) dX7_closure_13 (nl rfl) rfl ?_
  refine go_forS (pc := 15) n (fun a (_ : Mem) => [(0, .ref d), (1, .ref m), (2, .ref N), (3, .ref (N + (n + 1))), (4, .int (nI a))]) id (fun a Mx => Xt (fun j => N ≤ j) M2 Mx ∧ Mt Mx N n (fun r => N + 1 + r) (fun r b => if r < a then clB f n r b else false)) (fun _ => 0) (fun _ => 0) M2 ⟨rfl, rfl, rfl, rfl, rfl, trivial⟩ rfl rfl rfl ⟨Xt.rf _ M2, hF2.cg (fun r c _ _ => (if_neg (Nat.not_lt_zero r)).symm)⟩ ?_ ?_
  · rintro a Mx ha ⟨h1, h2⟩ ih
    obtain ⟨hd9, hz9, hm9⟩ := cl0 h1
    have hc0 : CL M2 N (N + (n + 1)) n a N f Mx [] := ⟨h1, h2.cg (fun r y _ _ => by
      by_cases e : r < a
      · rw [if_pos e, if_pos e]
      · rw [if_neg e, if_neg e]
        split
        · exact (decide_eq_false List.not_mem_nil).symm
        · rfl), h1.k hk2, fun j hj => absurd hj (Nat.not_lt_zero j), fun x hx => absurd hx List.not_mem_nil, List.nodup_nil⟩
    refine g_iload (pc := 15) dX7_closure_15 rfl ?_
    refine g_aload_n (pc := 17) dX7_closure_17 rfl trivial ?_
    refine g_getf (pc := 18) (v := .int _) dX7_closure_18 fk_X7_22 hd9 (fun _ => congrArg Value.int (hz9)) ?_
    refine g_icmp_ge (pc := 21) (tgt := 157) dX7_closure_21 rfl (fun h21 => absurd h21 (nI_ge ha (by omega))) (fun _ => ?_)
    refine g_iconst (pc := 24) (v := 0) dX7_closure_24 rfl ?_
    refine g_istore (pc := 25) (lv' := [(0, _), (1, _), (2, _), (3, _), (4, _), (5, _)]) dX7_closure_25 (nl rfl) rfl ?_
    refine g_iconst (pc := 27) (v := 0) dX7_closure_27 rfl ?_
    refine g_istore (pc := 28) (lv' := [(0, _), (1, _), (2, _), (3, _), (4, _), (5, _), (6, _)]) dX7_closure_28 (nl rfl) rfl ?_
    refine go_forS (pc := 30) n (fun b (z : Mem × List Nat) => [(0, .ref d), (1, .ref m), (2, .ref N), (3, .ref (N + (n + 1))), (4, .int (nI a)), (5, .int (nI z.2.length)), (6, .int (nI b))]) (fun z => z.1) (fun b z => CL M2 N (N + (n + 1)) n a N f z.1 z.2 ∧ (∀ y, y < b → f a y = true → y ∈ z.2) ∧ ∀ y, y ∈ z.2 → y < b) (fun _ => 0) (fun _ => 0) (Mx, []) ⟨rfl, rfl, rfl, rfl, rfl, rfl, rfl, trivial⟩ rfl rfl rfl ⟨hc0, fun y hy _ => absurd hy (Nat.not_lt_zero y), fun y hy => absurd hy List.not_mem_nil⟩ ?_ ?_
    · rintro b ⟨My, xs⟩ hb ⟨hc, hall, hlt9⟩ ih2
      obtain ⟨hd8, hz8, hm8⟩ := cl0 hc.1
      have hbx : b ∉ xs := fun z => Nat.lt_irrefl b (hlt9 b z)
      have hv := (hm8.2 a ha).2.2 b hb
      cases hf : f a b
      · rw [hf] at hv
        refine g_iload (pc := 30) dX7_closure_30 rfl ?_
        refine g_aload_n (pc := 32) dX7_closure_32 rfl trivial ?_
        refine g_getf (pc := 33) (v := .int _) dX7_closure_33 fk_X7_22 hd8 (fun _ => congrArg Value.int (hz8)) ?_
        refine g_icmp_ge (pc := 36) (tgt := 75) dX7_closure_36 rfl (fun h36 => absurd h36 (nI_ge hb (by omega))) (fun _ => ?_)
        refine g_aload_n (pc := 39) dX7_closure_39 rfl trivial ?_
        refine g_iload (pc := 40) dX7_closure_40 rfl ?_
        refine g_aaload_Z1 (pc := 42) dX7_closure_42 hm8.1 rfl ha (by omega) (hm8.2 a ha).1 ?_
        refine g_iload (pc := 43) dX7_closure_43 rfl ?_
        refine g_zaload (pc := 45) dX7_closure_45 (hm8.2 a ha).2.1 rfl hb (by omega) ?_
        rw [hv]
        refine g_if_ne (pc := 46) (tgt := 52) dX7_closure_46 rfl (fun h46 => absurd h46 ((by decide))) (fun _ => ?_)
        refine g_goto (pc := 49) (tgt := 69) dX7_closure_49 rfl ?_
        refine g_iinc (pc := 69) (lv' := [(0, _), (1, _), (2, _), (3, _), (4, _), (5, _), (6, _)]) dX7_closure_69 rfl (nI_1 _) (nl rfl) rfl ?_
        refine g_goto (pc := 72) (tgt := 30) dX7_closure_72 rfl ?_
        refine g_subk (pc := 30) (ih2 (My, xs) ⟨hc, fun y hy hfy => ?_, fun y hy => Nat.lt_succ_of_lt (hlt9 y hy)⟩) ⟨rfl, rfl, rfl, rfl, rfl, rfl, rfl, trivial⟩
        rcases Nat.lt_succ_iff_lt_or_eq.mp hy with z | z
        · exact hall y z hfy
        · rw [z, hf] at hfy
          cases hfy
      · rw [hf] at hv
        have hr := hc.room hb hbx
        have hp := hc.push (Nat.le_refl _) (Nat.le_add_right _ _) ha hb hbx (fun T h _ => h a b ha hb hf)
        refine g_iload (pc := 30) dX7_closure_30 rfl ?_
        refine g_aload_n (pc := 32) dX7_closure_32 rfl trivial ?_
        refine g_getf (pc := 33) (v := .int _) dX7_closure_33 fk_X7_22 hd8 (fun _ => congrArg Value.int (hz8)) ?_
        refine g_icmp_ge (pc := 36) (tgt := 75) dX7_closure_36 rfl (fun h36 => absurd h36 (nI_ge hb (by omega))) (fun _ => ?_)
        refine g_aload_n (pc := 39) dX7_closure_39 rfl trivial ?_
        refine g_iload (pc := 40) dX7_closure_40 rfl ?_
        refine g_aaload_Z1 (pc := 42) dX7_closure_42 hm8.1 rfl ha (by omega) (hm8.2 a ha).1 ?_
        refine g_iload (pc := 43) dX7_closure_43 rfl ?_
        refine g_zaload (pc := 45) dX7_closure_45 (hm8.2 a ha).2.1 rfl hb (by omega) ?_
        rw [hv]
        refine g_if_ne (pc := 46) (tgt := 52) dX7_closure_46 rfl (fun _ => ?_) (fun h46 => absurd ((by decide)) h46)
        refine g_aload_n (pc := 52) dX7_closure_52 rfl trivial ?_
        refine g_iload (pc := 53) dX7_closure_53 rfl ?_
        refine g_aaload_Z1 (pc := 55) dX7_closure_55 hc.2.1.1 rfl ha (by omega) (hc.2.1.2 a ha).1 ?_
        refine g_iload (pc := 56) dX7_closure_56 rfl ?_
        refine g_iconst (pc := 58) (v := 1) dX7_closure_58 rfl ?_
        refine g_zastore (pc := 59) dX7_closure_59 (hc.2.1.2 a ha).2.1 rfl hb (by omega) ?_
        refine g_aload_n (pc := 60) dX7_closure_60 rfl trivial ?_
        refine g_iload (pc := 61) dX7_closure_61 rfl ?_
        refine g_iinc (pc := 63) (lv' := [(0, _), (1, _), (2, _), (3, _), (4, _), (5, _), (6, _)]) dX7_closure_63 rfl (nI_1 _) (nl rfl) rfl ?_
        refine g_iload (pc := 66) dX7_closure_66 rfl ?_
        refine g_iastore (pc := 68) dX7_closure_68 hc.2.2.1 rfl hr (by omega) ?_
        refine g_iinc (pc := 69) (lv' := [(0, _), (1, _), (2, _), (3, _), (4, _), (5, _), (6, _)]) dX7_closure_69 rfl (nI_1 _) (nl rfl) rfl ?_
        refine g_goto (pc := 72) (tgt := 30) dX7_closure_72 rfl ?_
        refine g_subk (pc := 30) (ih2 (_, xs ++ [b]) ⟨hp, fun y hy hfy => ?_, fun y hy => ?_⟩) ⟨rfl, rfl, rfl, rfl, rfl, ?_, rfl, trivial⟩
        · rcases Nat.lt_succ_iff_lt_or_eq.mp hy with z | z
          · exact List.mem_append_left _ (hall y z hfy)
          · rw [z]
            exact List.mem_append_right _ List.mem_cons_self
        · rcases List.mem_append.mp hy with z | z
          · exact Nat.lt_succ_of_lt (hlt9 y z)
          · rw [List.mem_singleton.mp z]
            exact Nat.lt_succ_self b
        · show some (Value.int (nI (xs.length + 1))) = some (Value.int (nI (xs ++ [b]).length))
          rw [List.length_append]
          rfl
    · rintro ⟨My, xs0⟩ ⟨hc, hall, -⟩
      obtain ⟨hd8, hz8, hm8⟩ := cl0 hc.1
      refine g_iload (pc := 30) dX7_closure_30 rfl ?_
      refine g_aload_n (pc := 32) dX7_closure_32 rfl trivial ?_
      refine g_getf (pc := 33) (v := .int _) dX7_closure_33 fk_X7_22 hd8 (fun _ => congrArg Value.int (hz8)) ?_
      refine g_icmp_ge (pc := 36) (tgt := 75) dX7_closure_36 rfl (fun _ => ?_) (fun h36 => absurd (nI_le (Nat.le_refl _) (by omega)) h36)
      refine g_iconst (pc := 75) (v := 0) dX7_closure_75 rfl ?_
      refine g_istore (pc := 76) (lv' := [(0, _), (1, _), (2, _), (3, _), (4, _), (5, _), (6, _)]) dX7_closure_76 (nl rfl) rfl ?_
      refine go_whileS (pc := 78) n (fun i (z : Mem × List Nat) => [(0, .ref d), (1, .ref m), (2, .ref N), (3, .ref (N + (n + 1))), (4, .int (nI a)), (5, .int (nI z.2.length)), (6, .int (nI i))]) (fun z => z.1) (fun i z => CL M2 N (N + (n + 1)) n a N f z.1 z.2 ∧ (∀ y, y < n → f a y = true → y ∈ z.2) ∧ i ≤ z.2.length ∧ ∀ j, j < i → ∀ y, y < n → f (z.2.getD j 0) y = true → y ∈ z.2) (My, xs0) ⟨rfl, rfl, rfl, rfl, rfl, rfl, rfl, trivial⟩ rfl ⟨hc, hall, Nat.zero_le _, fun j hj => absurd hj (Nat.not_lt_zero j)⟩ (fun i z h => Nat.le_trans h.2.2.1 h.1.len) ?_
      rintro i ⟨My, xs⟩ ⟨hc, hall, hi, hcl⟩ ih2
      obtain ⟨hd8, hz8, hm8⟩ := cl0 hc.1
      have hl9 : xs.length ≤ n := hc.len
      rcases Nat.lt_or_ge i xs.length with hi9 | hi9
      · have hxi : xs.getD i 0 ∈ xs := by
          rw [List.getD_eq_getElem?_getD, List.getElem?_eq_getElem hi9]
          exact List.getElem_mem hi9
        obtain ⟨hxn, hxt⟩ := hc.2.2.2.2.1 _ hxi
        refine g_iload (pc := 78) dX7_closure_78 rfl ?_
        refine g_iload (pc := 80) dX7_closure_80 rfl ?_
        refine g_icmp_ge (pc := 82) (tgt := 151) dX7_closure_82 rfl (fun h82 => absurd h82 (nI_ge hi9 (show xs.length < 2147483648 by omega))) (fun _ => ?_)
        refine g_iconst (pc := 85) (v := 0) dX7_closure_85 rfl ?_
        refine g_istore (pc := 86) (lv' := [(0, _), (1, _), (2, _), (3, _), (4, _), (5, _), (6, _), (7, _)]) dX7_closure_86 (nl rfl) rfl ?_
        refine go_forS (pc := 88) n (fun b (z : Mem × List Nat) => [(0, .ref d), (1, .ref m), (2, .ref N), (3, .ref (N + (n + 1))), (4, .int (nI a)), (5, .int (nI z.2.length)), (6, .int (nI i)), (7, .int (nI b))]) (fun z => z.1) (fun b z => CL M2 N (N + (n + 1)) n a N f z.1 z.2 ∧ (∃ zs, z.2 = xs ++ zs) ∧ ∀ y, y < b → f (xs.getD i 0) y = true → y ∈ z.2) (fun _ => 0) (fun _ => 0) (My, xs) ⟨rfl, rfl, rfl, rfl, rfl, rfl, rfl, rfl, trivial⟩ rfl rfl rfl ⟨hc, ⟨[], (List.append_nil _).symm⟩, fun y hy _ => absurd hy (Nat.not_lt_zero y)⟩ ?_ ?_
        · rintro b ⟨Mz, ys⟩ hb ⟨hc7, ⟨zs, hzs⟩, hall7⟩ ih3
          obtain ⟨hd7, hz7, hm7⟩ := cl0 hc7.1
          have hl7 : ys.length ≤ n := hc7.len
          have hle : xs.length ≤ ys.length := by rw [show ys = xs ++ zs from hzs, List.length_append]; omega
          have hg : ys.getD i 0 = xs.getD i 0 := by
            rw [show ys = xs ++ zs from hzs, List.getD_eq_getElem?_getD, List.getElem?_append_left hi9, ← List.getD_eq_getElem?_getD]
          have hR := hc7.2.2.2.1 i (by show i < ys.length; omega)
          rw [show (Mz, ys).2.getD i 0 = xs.getD i 0 from hg] at hR
          have hv := (hm7.2 _ hxn).2.2 b hb
          have hw : mI Mz (N + 1 + a) b = b1 (if a < a then clB f n a b else if a = a then decide (b ∈ ys) else false) := (hc7.2.1.2 a ha).2.2 b hb
          rw [if_neg (Nat.lt_irrefl a), if_pos rfl] at hw
          cases hf : f (xs.getD i 0) b
          · rw [hf] at hv
            refine g_iload (pc := 88) dX7_closure_88 rfl ?_
            refine g_aload_n (pc := 90) dX7_closure_90 rfl trivial ?_
            refine g_getf (pc := 91) (v := .int _) dX7_closure_91 fk_X7_22 hd7 (fun _ => congrArg Value.int (hz7)) ?_
            refine g_icmp_ge (pc := 94) (tgt := 145) dX7_closure_94 rfl (fun h94 => absurd h94 (nI_ge hb (by omega))) (fun _ => ?_)
            refine g_aload_n (pc := 97) dX7_closure_97 rfl trivial ?_
            refine g_aload_n (pc := 98) dX7_closure_98 rfl trivial ?_
            refine g_iload (pc := 99) dX7_closure_99 rfl ?_
            refine g_iaload (pc := 101) dX7_closure_101 hc7.2.2.1 rfl (show i < n by omega) (by omega) ?_
            rw [hR]
            refine g_aaload_Z1 (pc := 102) dX7_closure_102 hm7.1 rfl hxn (by omega) (hm7.2 _ hxn).1 ?_
            refine g_iload (pc := 103) dX7_closure_103 rfl ?_
            refine g_zaload (pc := 105) dX7_closure_105 (hm7.2 _ hxn).2.1 rfl hb (by omega) ?_
            rw [hv]
            refine g_if_eq (pc := 106) (tgt := 139) dX7_closure_106 rfl (fun _ => ?_) (fun h106 => absurd (rfl) h106)
            refine g_iinc (pc := 139) (lv' := [(0, _), (1, _), (2, _), (3, _), (4, _), (5, _), (6, _), (7, _)]) dX7_closure_139 rfl (nI_1 _) (nl rfl) rfl ?_
            refine g_goto (pc := 142) (tgt := 88) dX7_closure_142 rfl ?_
            refine g_subk (pc := 88) (ih3 (Mz, ys) ⟨hc7, ⟨zs, hzs⟩, fun y hy hfy => ?_⟩) ⟨rfl, rfl, rfl, rfl, rfl, rfl, rfl, rfl, trivial⟩
            rcases Nat.lt_succ_iff_lt_or_eq.mp hy with z | z
            · exact hall7 y z hfy
            · rw [z, hf] at hfy
              cases hfy
          · rw [hf] at hv
            by_cases hby : b ∈ ys
            · rw [decide_eq_true hby] at hw
              refine g_iload (pc := 88) dX7_closure_88 rfl ?_
              refine g_aload_n (pc := 90) dX7_closure_90 rfl trivial ?_
              refine g_getf (pc := 91) (v := .int _) dX7_closure_91 fk_X7_22 hd7 (fun _ => congrArg Value.int (hz7)) ?_
              refine g_icmp_ge (pc := 94) (tgt := 145) dX7_closure_94 rfl (fun h94 => absurd h94 (nI_ge hb (by omega))) (fun _ => ?_)
              refine g_aload_n (pc := 97) dX7_closure_97 rfl trivial ?_
              refine g_aload_n (pc := 98) dX7_closure_98 rfl trivial ?_
              refine g_iload (pc := 99) dX7_closure_99 rfl ?_
              refine g_iaload (pc := 101) dX7_closure_101 hc7.2.2.1 rfl (show i < n by omega) (by omega) ?_
              rw [hR]
              refine g_aaload_Z1 (pc := 102) dX7_closure_102 hm7.1 rfl hxn (by omega) (hm7.2 _ hxn).1 ?_
              refine g_iload (pc := 103) dX7_closure_103 rfl ?_
              refine g_zaload (pc := 105) dX7_closure_105 (hm7.2 _ hxn).2.1 rfl hb (by omega) ?_
              rw [hv]
              refine g_if_eq (pc := 106) (tgt := 139) dX7_closure_106 rfl (fun h106 => absurd h106 ((by decide))) (fun _ => ?_)
              refine g_aload_n (pc := 109) dX7_closure_109 rfl trivial ?_
              refine g_iload (pc := 110) dX7_closure_110 rfl ?_
              refine g_aaload_Z1 (pc := 112) dX7_closure_112 hc7.2.1.1 rfl ha (by omega) (hc7.2.1.2 a ha).1 ?_
              refine g_iload (pc := 113) dX7_closure_113 rfl ?_
              refine g_zaload (pc := 115) dX7_closure_115 (hc7.2.1.2 a ha).2.1 rfl hb (by omega) ?_
              rw [hw]
              refine g_if_eq (pc := 116) (tgt := 122) dX7_closure_116 rfl (fun h116 => absurd h116 ((by decide))) (fun _ => ?_)
              refine g_goto (pc := 119) (tgt := 139) dX7_closure_119 rfl ?_
              refine g_iinc (pc := 139) (lv' := [(0, _), (1, _), (2, _), (3, _), (4, _), (5, _), (6, _), (7, _)]) dX7_closure_139 rfl (nI_1 _) (nl rfl) rfl ?_
              refine g_goto (pc := 142) (tgt := 88) dX7_closure_142 rfl ?_
              refine g_subk (pc := 88) (ih3 (Mz, ys) ⟨hc7, ⟨zs, hzs⟩, fun y hy hfy => ?_⟩) ⟨rfl, rfl, rfl, rfl, rfl, rfl, rfl, rfl, trivial⟩
              rcases Nat.lt_succ_iff_lt_or_eq.mp hy with z | z
              · exact hall7 y z hfy
              · rw [z]
                exact hby
            · rw [decide_eq_false hby] at hw
              have hr := hc7.room hb hby
              have hp := hc7.push (Nat.le_refl _) (Nat.le_add_right _ _) ha hb hby (fun T h1 h2 => h2 a _ b (hxt T h1 h2) (h1 _ b hxn hb hf))
              refine g_iload (pc := 88) dX7_closure_88 rfl ?_
              refine g_aload_n (pc := 90) dX7_closure_90 rfl trivial ?_
              refine g_getf (pc := 91) (v := .int _) dX7_closure_91 fk_X7_22 hd7 (fun _ => congrArg Value.int (hz7)) ?_
              refine g_icmp_ge (pc := 94) (tgt := 145) dX7_closure_94 rfl (fun h94 => absurd h94 (nI_ge hb (by omega))) (fun _ => ?_)
              refine g_aload_n (pc := 97) dX7_closure_97 rfl trivial ?_
              refine g_aload_n (pc := 98) dX7_closure_98 rfl trivial ?_
              refine g_iload (pc := 99) dX7_closure_99 rfl ?_
              refine g_iaload (pc := 101) dX7_closure_101 hc7.2.2.1 rfl (show i < n by omega) (by omega) ?_
              rw [hR]
              refine g_aaload_Z1 (pc := 102) dX7_closure_102 hm7.1 rfl hxn (by omega) (hm7.2 _ hxn).1 ?_
              refine g_iload (pc := 103) dX7_closure_103 rfl ?_
              refine g_zaload (pc := 105) dX7_closure_105 (hm7.2 _ hxn).2.1 rfl hb (by omega) ?_
              rw [hv]
              refine g_if_eq (pc := 106) (tgt := 139) dX7_closure_106 rfl (fun h106 => absurd h106 ((by decide))) (fun _ => ?_)
              refine g_aload_n (pc := 109) dX7_closure_109 rfl trivial ?_
              refine g_iload (pc := 110) dX7_closure_110 rfl ?_
              refine g_aaload_Z1 (pc := 112) dX7_closure_112 hc7.2.1.1 rfl ha (by omega) (hc7.2.1.2 a ha).1 ?_
              refine g_iload (pc := 113) dX7_closure_113 rfl ?_
              refine g_zaload (pc := 115) dX7_closure_115 (hc7.2.1.2 a ha).2.1 rfl hb (by omega) ?_
              rw [hw]
              refine g_if_eq (pc := 116) (tgt := 122) dX7_closure_116 rfl (fun _ => ?_) (fun h116 => absurd (rfl) h116)
              refine g_aload_n (pc := 122) dX7_closure_122 rfl trivial ?_
              refine g_iload (pc := 123) dX7_closure_123 rfl ?_
              refine g_aaload_Z1 (pc := 125) dX7_closure_125 hc7.2.1.1 rfl ha (by omega) (hc7.2.1.2 a ha).1 ?_
              refine g_iload (pc := 126) dX7_closure_126 rfl ?_
              refine g_iconst (pc := 128) (v := 1) dX7_closure_128 rfl ?_
              refine g_zastore (pc := 129) dX7_closure_129 (hc7.2.1.2 a ha).2.1 rfl hb (by omega) ?_
              refine g_aload_n (pc := 130) dX7_closure_130 rfl trivial ?_
              refine g_iload (pc := 131) dX7_closure_131 rfl ?_
              refine g_iinc (pc := 133) (lv' := [(0, _), (1, _), (2, _), (3, _), (4, _), (5, _), (6, _), (7, _)]) dX7_closure_133 rfl (nI_1 _) (nl rfl) rfl ?_
              refine g_iload (pc := 136) dX7_closure_136 rfl ?_
              refine g_iastore (pc := 138) dX7_closure_138 hc7.2.2.1 rfl hr (by omega) ?_
              refine g_iinc (pc := 139) (lv' := [(0, _), (1, _), (2, _), (3, _), (4, _), (5, _), (6, _), (7, _)]) dX7_closure_139 rfl (nI_1 _) (nl rfl) rfl ?_
              refine g_goto (pc := 142) (tgt := 88) dX7_closure_142 rfl ?_
              refine g_subk (pc := 88) (ih3 (_, ys ++ [b]) ⟨hp, ⟨zs ++ [b], ?_⟩, fun y hy hfy => ?_⟩) ⟨rfl, rfl, rfl, rfl, rfl, ?_, rfl, rfl, trivial⟩
              · show ys ++ [b] = _
                rw [show ys = xs ++ zs from hzs, List.append_assoc]
              · rcases Nat.lt_succ_iff_lt_or_eq.mp hy with z | z
                · exact List.mem_append_left _ (hall7 y z hfy)
                · rw [z]
                  exact List.mem_append_right _ List.mem_cons_self
              · show some (Value.int (nI (ys.length + 1))) = some (Value.int (nI (ys ++ [b]).length))
                rw [List.length_append]
                rfl
        · rintro ⟨Mz, ys⟩ ⟨hc7, ⟨zs, hzs⟩, hall7⟩
          obtain ⟨hd7, hz7, hm7⟩ := cl0 hc7.1
          have hys : ys = xs ++ zs := hzs
          have hg : ∀ j, j < xs.length → ys.getD j 0 = xs.getD j 0 := fun j hj => by
            rw [hys, List.getD_eq_getElem?_getD, List.getElem?_append_left hj, ← List.getD_eq_getElem?_getD]
          have hsub : ∀ y, y ∈ xs → y ∈ ys := fun y hy => by rw [hys]; exact List.mem_append_left _ hy
          refine g_iload (pc := 88) dX7_closure_88 rfl ?_
          refine g_aload_n (pc := 90) dX7_closure_90 rfl trivial ?_
          refine g_getf (pc := 91) (v := .int _) dX7_closure_91 fk_X7_22 hd7 (fun _ => congrArg Value.int (hz7)) ?_
          refine g_icmp_ge (pc := 94) (tgt := 145) dX7_closure_94 rfl (fun _ => ?_) (fun h94 => absurd (nI_le (Nat.le_refl _) (by omega)) h94)
          refine g_iinc (pc := 145) (lv' := [(0, _), (1, _), (2, _), (3, _), (4, _), (5, _), (6, _), (7, _)]) dX7_closure_145 rfl (nI_1 _) (nl rfl) rfl ?_
          refine g_goto (pc := 148) (tgt := 78) dX7_closure_148 rfl ?_
          refine g_subk (pc := 78) (ih2 (Mz, ys) ⟨hc7, fun y hy hfy => hsub y (hall y hy hfy), ?_, fun j hj y hy hfy => ?_⟩) ⟨rfl, rfl, rfl, rfl, rfl, rfl, rfl, trivial⟩
          · show i + 1 ≤ ys.length
            rw [hys, List.length_append]
            omega
          · have hfy' : f (ys.getD j 0) y = true := hfy
            rw [hg j (by omega)] at hfy'
            rcases Nat.lt_succ_iff_lt_or_eq.mp hj with z | z
            · exact hsub y (hcl j z y hy hfy')
            · rw [z] at hfy'
              exact hall7 y hy hfy'
      · have hin : i = xs.length := Nat.le_antisymm hi hi9
        have hwh : ∀ b, decide (b ∈ xs) = clB f n a b := fun b => CL_whole ha hc.2.2.2.2.1 hall (fun x hx y hy hfy => by
          obtain ⟨j, hj, e⟩ := List.mem_iff_getElem.mp hx
          refine hcl j (by omega) y hy ?_
          rw [List.getD_eq_getElem?_getD, List.getElem?_eq_getElem hj]
          show f xs[j] y = true
          rw [e]
          exact hfy)
        refine g_iload (pc := 78) dX7_closure_78 rfl ?_
        refine g_iload (pc := 80) dX7_closure_80 rfl ?_
        refine g_icmp_ge (pc := 82) (tgt := 151) dX7_closure_82 rfl (fun _ => ?_) (fun h82 => absurd (nI_le hi9 (show i < 2147483648 by omega)) h82)
        refine g_iinc (pc := 151) (lv' := [(0, _), (1, _), (2, _), (3, _), (4, _), (5, _), (6, _)]) dX7_closure_151 rfl (nI_1 _) (nl rfl) rfl ?_
        refine g_goto (pc := 154) (tgt := 15) dX7_closure_154 rfl ?_
        refine g_subk (pc := 15) (ih My ⟨hc.1, hc.2.1.cg (fun r y hr hy => ?_)⟩) ⟨rfl, rfl, rfl, rfl, rfl, trivial⟩
        by_cases e : r < a
        · rw [if_pos e, if_pos (by omega)]
        · rw [if_neg e]
          by_cases e2 : r = a
          · rw [if_pos e2, if_pos (by omega), e2]
            exact hwh y
          · rw [if_neg e2, if_neg (by omega)]
  · rintro Mx ⟨h1, h2⟩
    obtain ⟨hd9, hz9, hm9⟩ := cl0 h1
    refine g_iload (pc := 15) dX7_closure_15 rfl ?_
    refine g_aload_n (pc := 17) dX7_closure_17 rfl trivial ?_
    refine g_getf (pc := 18) (v := .int _) dX7_closure_18 fk_X7_22 hd9 (fun _ => congrArg Value.int (hz9)) ?_
    refine g_icmp_ge (pc := 21) (tgt := 157) dX7_closure_21 rfl (fun _ => ?_) (fun h21 => absurd (nI_le (Nat.le_refl _) (by omega)) h21)
    refine g_aload_n (pc := 157) dX7_closure_157 rfl trivial ?_
    refine g_areturn (pc := 158) dX7_closure_158 rfl (Or.inr ⟨_, rfl⟩) ?_
    refine ⟨_, rfl, N, N + 1, rfl, h2.cg (fun r c hr _ => if_pos hr), by omega, by omega, hXM.tr' h1 (fun j hj z => by omega)⟩
end

