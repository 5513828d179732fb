/-! what is described, on both sides -/
section
variable {M X : Mem} {b n : Nat} {u : Nat → Int64}
theorem SR_rowb {t : Nat} {f g : Nat → Int32} (ht : t < 6) (h : SR M b u n) (hg : ∀ r, r < n → g r = f r) (hf : wfr n f) : SR (sI M (b + 3 + 2 * t) g) b (lyF u t f n) n := by
  obtain ⟨⟨a1, a2, a3, a4⟩, ⟨bl, b1', b2, b3, b4⟩, ⟨y, y1, y2⟩, ⟨z, z1, z2⟩, hS⟩ := h
  have e : ∀ i, i ≠ b + 3 + 2 * t → mI (sI M (b + 3 + 2 * t) g) i = mI M i := fun i hi => sI_ne hi
  have gu : ∀ j, j < 28 → lyF u t f n j = u j := fun j hj => by rw [ly_at, if_neg (fun h => by omega)]
  refine ⟨⟨a1, a2, by rw [e b (by omega)]; exact a3, by rw [gu 0 (by decide)]; exact a4⟩, ⟨bl, b1', b2, by rw [e b (by omega)]; exact b3, by rw [gu 1 (by decide)]; exact b4⟩, ⟨y, by rw [e b (by omega)]; exact y1, by rw [gu 2 (by decide)]; exact y2⟩, ⟨z, by rw [e b (by omega)]; exact z1, by rw [gu 3 (by decide)]; exact z2⟩, fun s hs => ?_⟩
  by_cases q : s = t
  · subst q
    obtain ⟨⟨k', f1, f2⟩, f3, f4, f5, f6, f7⟩ := hS s ht
    have e2 := e (b + 2 + 2 * s) (by omega)
    have e3 : mI (sI M (b + 3 + 2 * s) g) (b + 3 + 2 * s) = g := by rw [sI_self]
    refine ⟨⟨k', by rw [e2]; exact f1, by rw [gu _ (by omega)]; exact f2⟩, by rw [e2, gu _ (by omega)]; exact f3, by rw [e2, gu _ (by omega)]; exact f4, by rw [e2, gu _ (by omega)]; exact f5, fun r hr => ?_, fun r hr c hc => ?_⟩
    · rw [e3, ly_at, if_pos ⟨by omega, by omega⟩, hg r hr, show 28 + 32 * s + r - (28 + 32 * s) = r by omega]
    · rw [e3, hg r hr]
      exact hf r hr c hc
  · exact SS_cg (hS s hs) (fun j _ _ => by rw [e _ (by omega)]) (fun r _ => by rw [e _ (by omega)]) ⟨gu _ (by omega), gu _ (by omega), gu _ (by omega), gu _ (by omega)⟩ (fun r hr => by rw [ly_at, if_neg (fun h => by omega)])
theorem SR_setb {s r : Nat} {y : Int32} (hs : s < 6) (hr : r < n) (hn : n ≤ 32) (h : SR X b u n) (hy : ∀ c, n ≤ c → hb y c = false) : SR (sI X (b + 3 + 2 * s) (fun_set (mI X (b + 3 + 2 * s)) r y)) b (fun_set u (28 + 32 * s + r) (uL y)) n := by
  obtain ⟨-, -, -, -, c6, c7⟩ := h.2.2.2.2 s hs
  have hw : wfr n (fun_set (mI X (b + 3 + 2 * s)) r y) := fun x hx c hc => by
    unfold fun_set
    split
    · exact hy c hc
    · exact c7 x hx c hc
  refine SR_cg (SR_rowb hs h (fun _ _ => rfl) hw) (fun _ _ _ => rfl) (fun i hi => ?_)
  rw [fsu_at, ly_at]
  by_cases e : 28 + 32 * s ≤ i ∧ i < 28 + 32 * s + n
  · rw [if_pos e]
    by_cases e2 : i = 28 + 32 * s + r
    · rw [if_pos e2, e2, show 28 + 32 * s + r - (28 + 32 * s) = r by omega, fs_self]
    · rw [if_neg e2, fs_ne _ _ (by omega)]
      have := c6 (i - (28 + 32 * s)) (by omega)
      rw [show 28 + 32 * s + (i - (28 + 32 * s)) = i by omega] at this
      exact this
  · rw [if_neg e, if_neg (by omega)]
theorem SR_kpb {s : Nat} {k : Bool} (hs : s < 6) (h : SR X b u n) : SR (pI X (b + 2 + 2 * s) 1 (b1 k)) b (fun_set u (4 + s) (b1L k)) n := by
  obtain ⟨⟨a1, a2, a3, a4⟩, ⟨bl, b1', b2, b3, b4⟩, ⟨y, y1, y2⟩, ⟨z, z1, z2⟩, hS⟩ := h
  have e : ∀ i, i ≠ b + 2 + 2 * s → mI (pI X (b + 2 + 2 * s) 1 (b1 k)) i = mI X i := fun i hi => sI_ne hi
  have g : ∀ j, j ≠ 4 + s → fun_set u (4 + s) (b1L k) j = u j := fun j hj => fs_ne _ _ hj
  refine ⟨⟨a1, a2, by rw [e b (by omega)]; exact a3, by rw [g 0 (by omega)]; exact a4⟩, ⟨bl, b1', b2, by rw [e b (by omega)]; exact b3, by rw [g 1 (by omega)]; exact b4⟩, ⟨y, by rw [e b (by omega)]; exact y1, by rw [g 2 (by omega)]; exact y2⟩, ⟨z, by rw [e b (by omega)]; exact z1, by rw [g 3 (by omega)]; exact z2⟩, fun t ht => ?_⟩
  by_cases q : t = s
  · subst q
    obtain ⟨-, c3, c4, c5, c6, c7⟩ := hS t ht
    refine ⟨⟨k, by rw [pI_at, if_pos ⟨rfl, rfl⟩], by rw [fs_self]⟩, ?_, ?_, ?_, fun r hr => ?_, fun r hr c hc => ?_⟩
    · rw [pI_at, if_neg (by omega), g _ (by omega)]
      exact c3
    · rw [pI_at, if_neg (by omega), g _ (by omega)]
      exact c4
    · rw [pI_at, if_neg (by omega), g _ (by omega)]
      exact c5
    · rw [g _ (by omega), e _ (by omega)]
      exact c6 r hr
    · rw [e _ (by omega)]
      exact c7 r hr c hc
  · exact SS_cg (hS t ht) (fun j _ _ => by rw [e _ (by omega)]) (fun r _ => by rw [e _ (by omega)]) ⟨g _ (by omega), g _ (by omega), g _ (by omega), g _ (by omega)⟩ (fun r _ => g _ (by omega))
theorem SR_blb {m : Nat} (h1 : 1 ≤ m) (h8 : m ≤ 8) (h : SR X b u n) : SR (pI X b 2 (nI m)) b (fun_set u 1 (lN m)) n := by
  obtain ⟨⟨a1, a2, a3, a4⟩, -, ⟨y, y1, y2⟩, ⟨z, z1, z2⟩, hSS⟩ := h
  have g : ∀ j, j ≠ 1 → fun_set u 1 (lN m) j = u j := fun j hj => fs_ne _ _ hj
  have e : ∀ i, i ≠ b → mI (pI X b 2 (nI m)) i = mI X i := fun i hi => sI_ne hi
  have e3 : ∀ j, j ≠ 2 → mI (pI X b 2 (nI m)) b j = mI X b j := fun j hj => pI_k hj
  refine ⟨⟨a1, a2, by rw [e3 1 (by decide)]; exact a3, by rw [g 0 (by decide)]; exact a4⟩, ⟨m, h1, h8, by rw [pI_at9], by rw [fs_self]⟩, ⟨y, by rw [e3 3 (by decide)]; exact y1, by rw [g 2 (by decide)]; exact y2⟩, ⟨z, by rw [e3 4 (by decide)]; exact z1, by rw [g 3 (by decide)]; exact z2⟩, fun t ht => ?_⟩
  exact SS_cg (hSS t ht) (fun j _ _ => by rw [e _ (by omega)]) (fun r _ => by rw [e _ (by omega)]) ⟨g _ (by omega), g _ (by omega), g _ (by omega), g _ (by omega)⟩ (fun r _ => g _ (by omega))
end
/-! statements of both readers -/
section
variable {M : Mem} {s t : RP} {T : Nat → Int32} {len n : Nat} {u : Nat → Int64}
/-- a statement read on both sides -/
def StR (len n : Nat) (A : Mem × RP) (B : (Nat → Int64) × RP) : Prop := EqS A.2 B.2 ∧ (A.2.2.2.2.1 = 0 → SR A.1 17 B.1 n)
theorem StR_mk {A1 : Mem} {A2 : RP} {B : (Nat → Int64) × RP} (h1 : EqS A2 B.2) (h2 : A2.2.2.2.1 = 0 → SR A1 17 B.1 n) : StR len n (A1, A2) B := ⟨h1, h2⟩
theorem kp_e {a b : RP} (h : KpS a b) (e : b.2.2.2.1 = 0) : a.2.2.2.1 = 0 := Decidable.byContradiction (fun q => h.e q e)
theorem ed_D {a r c : Nat} (ha : a < 6) (hr : r < n) (hc : c < n) (hn : n ≤ 32) (hs0 : SR M 17 u n) : SR (sI M (20 + 2 * a) (fun_set (mI M (20 + 2 * a)) r (mI M (20 + 2 * a) r ||| bitI c))) 17 (fun_set u (28 + 32 * a + r) (u (28 + 32 * a + r) ||| uL (bitI c))) n := by
  obtain ⟨-, -, -, -, c6, c7⟩ := hs0.2.2.2.2 a ha
  rw [c6 r hr, uL_or]
  rw [show 17 + 3 + 2 * a = 20 + 2 * a by omega] at c7 ⊢
  have h9 := SR_setb (r := r) (y := mI M (20 + 2 * a) r ||| bitI c) ha hr hn hs0 (fun i hi => by
    rw [hb_or, c7 r hr i hi, hb_bitI (by omega), decide_eq_false (by omega)]
    rfl)
  rw [show 17 + 3 + 2 * a = 20 + 2 * a by omega] at h9
  exact h9
theorem st_ed (hn1 : 1 ≤ n) (hn : n ≤ 32) (h : EqS s t) (hD : s.2.2.2.1 = 0 → SR M 17 u n) : StR len n (edM M len n s, edS (mI M 2) len n s) (gE (mI M 2) len n u t) := by
  have hn2 : n - 1 < 2147483648 := by omega
  have hn3 : n - 1 < n := by omega
  have h1 := eq_tnm (T := mI M 2) (len := len) (lo := 0) (hi := nI 5) h
  have h2 := eq_tnm (T := mI M 2) (len := len) (lo := 0) (hi := nI (n - 1)) h1
  have h3 := eq_tnm (T := mI M 2) (len := len) (lo := 0) (hi := nI (n - 1)) h2
  have q1 := eq_tnN (T := mI M 2) (len := len) (k := 5) h
  have q2 := eq_tnN (T := mI M 2) (len := len) (k := n - 1) h1
  have q3 := eq_tnN (T := mI M 2) (len := len) (k := n - 1) h2
  have l1 := (tnN_ok (mI M 2) len (h := 5) (by decide) s).2
  have l2 := (tnN_ok (mI M 2) len (h := n - 1) hn2 (tnm (mI M 2) len 0 (nI 5) s)).2
  have l3 := (tnN_ok (mI M 2) len (h := n - 1) hn2 (tnm (mI M 2) len 0 (nI (n - 1)) (tnm (mI M 2) len 0 (nI 5) s))).2
  have hk : KpS s (edS (mI M 2) len n s) := (kp_tnm.tr kp_tnm).tr kp_tnm
  have g2 : (gE (mI M 2) len n u t).2 = nmS (mI M 2) len 0 (nI (n - 1)) (nmS (mI M 2) len 0 (nI (n - 1)) (nmS (mI M 2) len 0 (nI 5) t)) := rfl
  have e3 : EqS (edS (mI M 2) len n s) (gE (mI M 2) len n u t).2 := by
    rw [g2]
    exact h3
  refine StR_mk e3 (fun e8 => ?_)
  have e' := e3.e0.mp e8
  rw [g2] at e'
  have hE : (gE (mI M 2) len n u t).1 = fun_set u (28 + 32 * nmN (mI M 2) len 5 t + nmN (mI M 2) len (n - 1) (nmS (mI M 2) len 0 (nI 5) t)) (u (28 + 32 * nmN (mI M 2) len 5 t + nmN (mI M 2) len (n - 1) (nmS (mI M 2) len 0 (nI 5) t)) ||| uL (bitI (nmN (mI M 2) len (n - 1) (nmS (mI M 2) len 0 (nI (n - 1)) (nmS (mI M 2) len 0 (nI 5) t))))) := if_pos e'
  rw [hE, ← q1, ← q2, ← q3]
  unfold edM
  exact ed_D (Nat.lt_succ_of_le l1) (Nat.lt_of_le_of_lt l2 hn3) (Nat.lt_of_le_of_lt l3 hn3) hn (hD (kp_e hk e8))
theorem st_bl (h : EqS s t) (hD : s.2.2.2.1 = 0 → SR M 17 u n) : StR len n (pI M 17 2 (tnv (mI M 2) len 1 8 s), tnm (mI M 2) len 1 8 s) (gBk (mI M 2) len u t) := by
  have h1 := eq_tnm (T := mI M 2) (len := len) (lo := 1) (hi := 8) h
  have h2 := eq_tnv (T := mI M 2) (len := len) (lo := 1) (hi := 8) h
  unfold StR gBk
  rw [← h2]
  refine ⟨h1, fun e => ?_⟩
  obtain ⟨g1, g2⟩ := tnv_in (mI M 2) len 1 8 s (by decide)
  obtain ⟨m, hm, em⟩ := nI_of2 (x := tnv (mI M 2) len 1 8 s) (M := 8) (n := 8) (by decide) (fun q => g1 (Int32.lt_trans q (by decide))) (Int32.not_lt.mp g2)
  have hm1 : 1 ≤ m := by
    rcases Nat.eq_zero_or_pos m with q | q
    · rw [em, q] at g1
      exact absurd (by decide) g1
    · exact q
  show SR (pI M 17 2 (tnv (mI M 2) len 1 8 s)) 17 (fun_set u 1 (tnv (mI M 2) len 1 8 s).toInt64) n
  rw [em, show (nI m).toInt64 = lN m from nI_l (by omega)]
  exact SR_blb hm1 (by omega) (hD (kp_e kp_tnm e))
theorem st_kp (h : EqS s t) (hD : s.2.2.2.1 = 0 → SR M 17 u n) : StR len n (rkM M len s, rkS M len s) (gK (mI M 2) len u t) := by
  have h1 := eq_tnm (T := mI M 2) (len := len) (lo := 0) (hi := nI 5) h
  have q1 := eq_tnN (T := mI M 2) (len := len) (k := 5) h
  have l1 := (tnN_ok (mI M 2) len (h := 5) (by decide) s).2
  have hk : KpS s (tnm (mI M 2) len 0 (nI 5) s) := kp_tnm
  unfold StR rkM rkS gK
  rw [← q1]
  generalize tnN (mI M 2) len 5 s = a at *
  generalize tnm (mI M 2) len 0 (nI 5) s = s1 at *
  generalize nmS (mI M 2) len 0 (nI 5) t = t1 at *
  have ha : a < 6 := by omega
  by_cases e : s1.2.2.2.1 = 0
  · have hs0 := hD (kp_e hk e)
    obtain ⟨⟨k, k1, k2⟩, -⟩ := hs0.2.2.2.2 a ha
    rw [show 17 + 2 + 2 * a = 19 + 2 * a by omega] at k1
    have hkp := SR_kpb (k := true) ha hs0
    rw [show 17 + 2 + 2 * a = 19 + 2 * a by omega] at hkp
    show EqS (if mI M (19 + 2 * a) 1 = 0 then s1 else rFail 3 s1.2.1 s1) (if t1.2.2.2.1 = 0 ∧ u (4 + a) = 1 then rFail 3 t1.2.1 t1 else t1) ∧ ((if mI M (19 + 2 * a) 1 = 0 then s1 else rFail 3 s1.2.1 s1).2.2.2.1 = 0 → SR (pI M (19 + 2 * a) 1 1) 17 (fun_set u (4 + a) 1) n)
    rw [k1, k2]
    refine ⟨?_, fun _ => hkp⟩
    cases k
    · rw [if_pos ((b1_0k false).mpr rfl), if_neg (fun q => by cases (b1L_1 false).mp q.2)]
      exact h1
    · rw [if_neg (fun q => by cases (b1_0k true).mp q), if_pos ⟨h1.e0.mp e, (b1L_1 true).mpr rfl⟩, (h1.2.2.2 e).2]
      exact eq_fail h1
  · have hf : ∀ k a, rFail k a s1 = s1 := fun k a => by
      unfold rFail
      rw [if_neg e]
    show EqS (if mI M (19 + 2 * a) 1 = 0 then s1 else rFail 3 s1.2.1 s1) (if t1.2.2.2.1 = 0 ∧ u (4 + a) = 1 then rFail 3 t1.2.1 t1 else t1) ∧ ((if mI M (19 + 2 * a) 1 = 0 then s1 else rFail 3 s1.2.1 s1).2.2.2.1 = 0 → SR (pI M (19 + 2 * a) 1 1) 17 (fun_set u (4 + a) 1) n)
    rw [hf, ite_self, if_neg (fun q => e (h1.e0.mpr q.1))]
    exact ⟨h1, fun q => absurd q e⟩
end
