/-! powers -/
/-- a power by halves; the left matrix of its last product -/
def pwG (is : Bool) (f : Nat → Nat → Bool) (n : Nat) : Nat → Nat → Nat → Nat → Bool
  | 0, _ => fun r c => decide (r = c)
  | t + 1, e => if e = 0 then fun r c => decide (r = c) else if e % 2 = 1 then mlB is (mlB is (pwG is f n t (e / 2)) (pwG is f n t (e / 2)) n) f n else mlB is (pwG is f n t (e / 2)) (pwG is f n t (e / 2)) n
def pwH (is : Bool) (f : Nat → Nat → Bool) (n : Nat) (t e : Nat) : Nat → Nat → Bool := if e % 2 = 1 then mlB is (pwG is f n t (e / 2)) (pwG is f n t (e / 2)) n else pwG is f n t (e / 2)
section
variable {l : Launch} {M M' Mx : Mem} {m n d bl e : Nat} {rw9 : Nat → Nat} {f g : Nat → Nat → Bool} {is : Bool}
theorem div_2 : ∀ e, e < 64 → nI e / 2 = nI (e / 2) := by decide +kernel
theorem rem_2' : ∀ w, w < 64 → (nI w - nI w / 2 * 2 = 1 ↔ w % 2 = 1) := by decide +kernel
theorem eq_0' : ∀ w, w < 64 → (nI w = 0 ↔ w = 0) := by decide +kernel
theorem k_power (hn : n ≤ 9) (h1 : 1 ≤ bl) (h8 : bl ≤ 8) : ∀ (t e : Nat) (M : Mem), e < 2 ^ t → e < 64 → (mK M)[d]? = some (.inr 7) → mI M d 0 = nI n → mI M d 1 = nI bl → Mt M m n rw9 f → mX M = true → EvO l jX7_power (2 + t) (60 + 40 * t) (20 * t + 10) (180 * t + 90) [.ref d, .ref m, .int (nI e), .int (b1 is)] M (fun r M' => ∃ m2 b, r = some (.ref m2) ∧ Mt M' m2 n (fun r => b + r) (pwG is f n t e) ∧ (mK M).length ≤ m2 ∧ (mK M).length ≤ b ∧ Xt (fun i => i = d) M M' ∧ mR M' d = mR M d ∧ mI M' d 0 = nI n ∧ mI M' d 1 = nI bl ∧ (e = 0 → mI M' d = mI M d) ∧ (e ≠ 0 → ∃ K, (n ≤ K * bl ∧ ∀ j, j < K → j * bl < n) ∧ mI M' d 2 = nI (mdN n bl K) ∧ mI M' d 3 = nI (tkB (pwH is f n (t - 1) e) n bl K))) := by
  have hz0 : ∀ (t : Nat) (M : Mem), (mK M)[d]? = some (.inr 7) → mI M d 0 = nI n → mI M d 1 = nI bl → mX M = true → EvO l jX7_power (2 + t) (60 + 40 * t) (20 * t + 10) (180 * t + 90) [.ref d, .ref m, .int (nI 0), .int (b1 is)] M (fun r M' => ∃ m2 b, r = some (.ref m2) ∧ Mt M' m2 n (fun r => b + r) (fun r c => decide (r = c)) ∧ (mK M).length ≤ m2 ∧ (mK M).length ≤ b ∧ Xn M M') := by
    intro t M hd hz hbl hx
    refine ev_intro rfl (nb rfl) rfl ?_
    refine g_iload_n (pc := 0) dX7_power_0 rfl ?_
    refine g_if_ne (pc := 1) (tgt := 9) dX7_power_1 rfl (fun h1 => absurd h1 ((fun z => z rfl))) (fun _ => ?_)
    refine g_aload_n (pc := 4) dX7_power_4 rfl trivial ?_
    refine (g_wk (k := 10) (n := 90) (by omega) (by omega) ?_)
    refine g_invV_o (pc := 5) (As := []) dX7_power_5 rfl (k_unit hd hz hn hx) rfl rfl hd rfl rfl lk_X7_66 rfl (nb rfl) (show 1 + 1 ≤ 2 + t ∧ 8 + (3 + 11) + 30 ≤ 60 + 40 * t by omega) rfl (fun v1 M1 hq => ?_)
    obtain ⟨m2, b, rfl, h2, h3, h4, h5⟩ := hq
    show Go l _ _ _ _ _ _ _ _ ([.ref m2] : List Value) _ _ _
    refine g_areturn (pc := 8) dX7_power_8 rfl (Or.inr ⟨_, rfl⟩) ?_
    exact ⟨_, rfl, m2, b, rfl, h2, h3, h4, h5⟩
  intro t
  induction t with
  | zero =>
    intro e M he _ hd hz hbl hm hx
    have e0 : e = 0 := by omega
    subst e0
    refine (hz0 0 M hd hz hbl hx).mono (fun r M' hq => ?_)
    obtain ⟨m2, b, q1, q2, q3, q4, q5⟩ := hq
    have hI := q5.I (k_lt hd) id
    exact ⟨m2, b, q1, q2, q3, q4, q5.up (fun _ _ z => z.elim), q5.R (k_lt hd) id, (congrFun hI 0).trans hz, (congrFun hI 1).trans hbl, fun _ => hI, fun z => absurd rfl z⟩
  | succ t ih =>
    intro e M he h64 hd hz hbl hm hx
    by_cases e0 : e = 0
    · subst e0
      refine (hz0 (t + 1) M hd hz hbl hx).mono (fun r M' hq => ?_)
      obtain ⟨m2, b, q1, q2, q3, q4, q5⟩ := hq
      have hI := q5.I (k_lt hd) id
      exact ⟨m2, b, q1, q2, q3, q4, q5.up (fun _ _ z => z.elim), q5.R (k_lt hd) id, (congrFun hI 0).trans hz, (congrFun hI 1).trans hbl, fun _ => hI, fun z => absurd rfl z⟩
    · have he2 : e / 2 < 2 ^ t := by rw [Nat.pow_succ] at he; omega
      have hdl := k_lt hd
      have dm : m ≠ d := fun z => by have h9 := hm.1; rw [z, hd] at h9; cases h9
      have dr : ∀ r, r < n → rw9 r ≠ d := fun r hr z => by have h9 := (hm.2 r hr).2.1; rw [z, hd] at h9; cases h9
      refine ev_intro rfl (nb rfl) rfl ?_
      refine g_iload_n (pc := 0) dX7_power_0 rfl ?_
      refine g_if_ne (pc := 1) (tgt := 9) dX7_power_1 rfl (fun _ => ?_) (fun h1 => absurd ((fun z => e0 ((eq_0' e h64).mp z))) h1)
      refine g_aload_n (pc := 9) dX7_power_9 rfl trivial ?_
      refine g_aload_n (pc := 10) dX7_power_10 rfl trivial ?_
      refine g_iload_n (pc := 11) dX7_power_11 rfl ?_
      refine g_iconst (pc := 12) (v := 2) dX7_power_12 rfl ?_
      refine g_idiv (pc := 13) dX7_power_13 (by decide) ?_
      rw [div_2 e h64]
      refine g_iload_n (pc := 14) dX7_power_14 rfl ?_
      refine g_wk (pc := 15) (k := 20 + (20 * t + 10)) (n := 180 + (180 * t + 90)) (by omega) (by omega) ?_
      refine g_invV_o (pc := 15) (As := [_, _, _]) dX7_power_15 rfl (ih (e / 2) M he2 (by omega) hd hz hbl hm hx) rfl rfl hd rfl rfl lk_X7_69 rfl (nb rfl) (show 2 + t + 1 ≤ 2 + (t + 1) ∧ 8 + (6 + 11) + (60 + 40 * t) ≤ 60 + 40 * (t + 1) by omega) rfl (fun v1 M1 hq => ?_)
      obtain ⟨m2, b, rfl, p1, p2, p3, p4, p5, p6, p7, -, -⟩ := hq
      have hm1 := hm.xt p4 dm dr
      have hd1 := p4.k hd
      show Go l _ _ _ _ _ _ _ _ ([.ref m2] : List Value) _ _ _
      refine g_astore (pc := 18) (lv' := [(0, _), (1, _), (2, _), (3, _), (4, _)]) dX7_power_18 trivial (nl rfl) rfl ?_
      refine g_aload_n (pc := 20) dX7_power_20 rfl trivial ?_
      refine g_aload (pc := 21) dX7_power_21 rfl trivial ?_
      refine g_aload (pc := 23) dX7_power_23 rfl trivial ?_
      refine g_iload_n (pc := 25) dX7_power_25 rfl ?_
      refine g_invV_o (pc := 26) (As := [_, _, _]) dX7_power_26 rfl (k_product hd1 p6 p7 h1 h8 p1 p1 hn (p4.2.1.trans hx)) rfl rfl hd1 rfl rfl lk_X7_73 rfl (nb rfl) (show 1 + 1 ≤ 2 + (t + 1) ∧ 8 + (9 + 11) + 40 ≤ 60 + 40 * (t + 1) by omega) rfl (fun v2 M2 hq => ?_)
      obtain ⟨m3, b3, K, rfl, q1, q2, q3, q4, q5⟩ := hq
      obtain ⟨r1, r2, r3, r4, r5, r6⟩ := q5
      have hm2 := hm1.xt r1 dm dr
      have hd2 := r1.k hd1
      have hl1 := p4.len
      have hl2 := r1.len
      have hX2 := p4.tr r1
      show Go l _ _ _ _ _ _ _ _ ([.ref m3] : List Value) _ _ _
      by_cases ho : e % 2 = 1
      · refine g_astore (pc := 29) (lv' := [(0, _), (1, _), (2, _), (3, _), (4, _), (5, _)]) dX7_power_29 trivial (nl rfl) rfl ?_
        refine g_iload_n (pc := 31) dX7_power_31 rfl ?_
        refine g_iconst (pc := 32) (v := 2) dX7_power_32 rfl ?_
        refine g_irem (pc := 33) dX7_power_33 (by decide) ?_
        refine g_iconst (pc := 34) (v := 1) dX7_power_34 rfl ?_
        refine g_icmp_ne (pc := 35) (tgt := 49) dX7_power_35 rfl (fun h35 => absurd h35 ((fun z => z ((rem_2' e h64).mpr ho)))) (fun _ => ?_)
        refine g_aload_n (pc := 38) dX7_power_38 rfl trivial ?_
        refine g_aload (pc := 39) dX7_power_39 rfl trivial ?_
        refine g_aload_n (pc := 41) dX7_power_41 rfl trivial ?_
        refine g_iload_n (pc := 42) dX7_power_42 rfl ?_
        refine g_invV_o (pc := 43) (As := [_, _, _]) dX7_power_43 rfl (k_product hd2 r3 r4 h1 h8 q1 hm2 hn (r1.2.1.trans (p4.2.1.trans hx))) rfl rfl hd2 rfl rfl lk_X7_73 rfl (nb rfl) (show 1 + 1 ≤ 2 + (t + 1) ∧ 8 + (9 + 11) + 40 ≤ 60 + 40 * (t + 1) by omega) rfl (fun v3 M3 hq => ?_)
        obtain ⟨m4, b4, K4, rfl, s1, s2, s3, s4, s5⟩ := hq
        obtain ⟨w1, w2, w3, w4, w5, w6⟩ := s5
        have eG : pwG is f n (t + 1) e = mlB is (mlB is (pwG is f n t (e / 2)) (pwG is f n t (e / 2)) n) f n := by
          show (if e = 0 then _ else if e % 2 = 1 then _ else _) = _
          rw [if_neg e0, if_pos ho]
        have eH : pwH is f n t e = mlB is (pwG is f n t (e / 2)) (pwG is f n t (e / 2)) n := if_pos ho
        show Go l _ _ _ _ _ _ _ _ ([.ref m4] : List Value) _ _ _
        refine g_goto (pc := 46) (tgt := 51) dX7_power_46 rfl ?_
        refine g_areturn (pc := 51) dX7_power_51 rfl (Or.inr ⟨_, rfl⟩) ?_
        refine ⟨_, rfl, m4, b4, rfl, by rw [eG]; exact s1, by omega, by omega, hX2.tr w1, w2.trans (r2.trans p5), w3, w4, fun z => absurd z e0, fun _ => ⟨K4, s4, w5, ?_⟩⟩
        show mI M3 d 3 = nI (tkB (pwH is f n t e) n bl K4)
        rw [eH]
        exact w6
      · have eG : pwG is f n (t + 1) e = mlB is (pwG is f n t (e / 2)) (pwG is f n t (e / 2)) n := by
          show (if e = 0 then _ else if e % 2 = 1 then _ else _) = _
          rw [if_neg e0, if_neg ho]
        have eH : pwH is f n t e = pwG is f n t (e / 2) := if_neg ho
        refine g_astore (pc := 29) (lv' := [(0, _), (1, _), (2, _), (3, _), (4, _), (5, _)]) dX7_power_29 trivial (nl rfl) rfl ?_
        refine g_iload_n (pc := 31) dX7_power_31 rfl ?_
        refine g_iconst (pc := 32) (v := 2) dX7_power_32 rfl ?_
        refine g_irem (pc := 33) dX7_power_33 (by decide) ?_
        refine g_iconst (pc := 34) (v := 1) dX7_power_34 rfl ?_
        refine g_icmp_ne (pc := 35) (tgt := 49) dX7_power_35 rfl (fun _ => ?_) (fun h35 => absurd ((fun z => ho ((rem_2' e h64).mp z))) h35)
        refine g_aload (pc := 49) dX7_power_49 rfl trivial ?_
        refine g_areturn (pc := 51) dX7_power_51 rfl (Or.inr ⟨_, rfl⟩) ?_
        refine ⟨_, rfl, m3, b3, rfl, by rw [eG]; exact q1, by omega, by omega, hX2, r2.trans p5, r3, r4, fun z => absurd z e0, fun _ => ⟨K, q4, r5, ?_⟩⟩
        show mI M2 d 3 = nI (tkB (pwH is f n t e) n bl K)
        rw [eH]
        exact r6
end

