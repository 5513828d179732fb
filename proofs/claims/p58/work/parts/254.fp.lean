/-! quotients of small whole numbers are no NaN -/
def fnD : FP.Core.Datum → Bool
  | .fin false _ _ => true
  | _ => false
def fnZ : FP.Core.Datum → Bool
  | .fin false c _ => !Nat.beq c 0
  | _ => false
theorem enc64 (c : Nat) (q : Int) (hq : -1074 ≤ q) : FP.Core.encode FP.Core.b64 (FP.Core.settle FP.Core.b64 false c q) ≤ 9218868437227405312 := by
  have e1 : FP.Core.Fmt.tails FP.Core.b64 = 4503599627370496 := rfl
  have e2 : FP.Core.Fmt.exps FP.Core.b64 = 2048 := rfl
  have e3 : FP.Core.Fmt.qmin FP.Core.b64 = -1074 := rfl
  have e4 : FP.Core.Fmt.qmax FP.Core.b64 = 971 := rfl
  have e5 : 2 ^ FP.Core.Fmt.p FP.Core.b64 = 9007199254740992 := rfl
  unfold FP.Core.settle FP.Core.bound
  rw [e1, e4, e5]
  by_cases h1 : c < 9007199254740992
  · rw [if_pos h1]
    by_cases h2 : q ≤ 971
    · rw [if_pos h2]
      unfold FP.Core.encode FP.Core.assemble
      simp only [e1, e2, e3, Bool.toNat_false]
      by_cases h3 : c < 4503599627370496
      · rw [if_pos h3]; omega
      · rw [if_neg h3]; omega
    · rw [if_neg h2]
      unfold FP.Core.encode FP.Core.assemble
      simp only [e1, e2, Bool.toNat_false]
      omega
  · rw [if_neg h1]
    by_cases h2 : q + 1 ≤ 971
    · rw [if_pos h2]
      unfold FP.Core.encode FP.Core.assemble
      simp only [e1, e2, e3, Bool.toNat_false]
      rw [if_neg (by omega)]; omega
    · rw [if_neg h2]
      unfold FP.Core.encode FP.Core.assemble
      simp only [e1, e2, Bool.toNat_false]
      omega
theorem enc32 (c : Nat) (q : Int) (hq : -149 ≤ q) : FP.Core.encode FP.Core.b32 (FP.Core.settle FP.Core.b32 false c q) ≤ 2139095040 := by
  have e1 : FP.Core.Fmt.tails FP.Core.b32 = 8388608 := rfl
  have e2 : FP.Core.Fmt.exps FP.Core.b32 = 256 := rfl
  have e3 : FP.Core.Fmt.qmin FP.Core.b32 = -149 := rfl
  have e4 : FP.Core.Fmt.qmax FP.Core.b32 = 104 := rfl
  have e5 : 2 ^ FP.Core.Fmt.p FP.Core.b32 = 16777216 := rfl
  unfold FP.Core.settle FP.Core.bound
  rw [e1, e4, e5]
  by_cases h1 : c < 16777216
  · rw [if_pos h1]
    by_cases h2 : q ≤ 104
    · rw [if_pos h2]
      unfold FP.Core.encode FP.Core.assemble
      simp only [e1, e2, e3, Bool.toNat_false]
      by_cases h3 : c < 8388608
      · rw [if_pos h3]; omega
      · rw [if_neg h3]; omega
    · rw [if_neg h2]
      unfold FP.Core.encode FP.Core.assemble
      simp only [e1, e2, Bool.toNat_false]
      omega
  · rw [if_neg h1]
    by_cases h2 : q + 1 ≤ 104
    · rw [if_pos h2]
      unfold FP.Core.encode FP.Core.assemble
      simp only [e1, e2, e3, Bool.toNat_false]
      rw [if_neg (by omega)]; omega
    · rw [if_neg h2]
      unfold FP.Core.encode FP.Core.assemble
      simp only [e1, e2, Bool.toNat_false]
      omega
theorem quo64 {x y : FP.Core.Datum} (hx : fnD x = true) (hy : fnZ y = true) : FP.Core.encode FP.Core.b64 (FP.Core.quotient FP.Core.b64 x y) ≤ 9218868437227405312 := by
  match x, y, hx, hy with
  | .fin false c q, .fin false d r, _, hy =>
    have hd : d ≠ 0 := fun h => by rw [h] at hy; exact absurd (show false = true from hy) (by decide)
    show FP.Core.encode _ (if d = 0 then _ else FP.Core.roundRatio FP.Core.b64 (false != false) c d (q - r)) ≤ _
    rw [if_neg hd]
    unfold FP.Core.roundRatio
    by_cases hc : c = 0
    · rw [if_pos hc]; decide +kernel
    · rw [if_neg hc]
      exact enc64 _ _ (Int.le_max_left ..)
theorem quo32 {x y : FP.Core.Datum} (hx : fnD x = true) (hy : fnZ y = true) : FP.Core.encode FP.Core.b32 (FP.Core.quotient FP.Core.b32 x y) ≤ 2139095040 := by
  match x, y, hx, hy with
  | .fin false c q, .fin false d r, _, hy =>
    have hd : d ≠ 0 := fun h => by rw [h] at hy; exact absurd (show false = true from hy) (by decide)
    show FP.Core.encode _ (if d = 0 then _ else FP.Core.roundRatio FP.Core.b32 (false != false) c d (q - r)) ≤ _
    rw [if_neg hd]
    unfold FP.Core.roundRatio
    by_cases hc : c = 0
    · rw [if_pos hc]; decide +kernel
    · rw [if_neg hc]
      exact enc32 _ _ (Int.le_max_left ..)
theorem d_num : ∀ k, k < 1025 → fnD (FP.Core.decode FP.Core.b64 (FP.i2d (nI k)).toNat) = true := by decide +kernel
theorem d_den : ∀ k, k < 33 → k ≠ 0 → fnZ (FP.Core.decode FP.Core.b64 (FP.i2d (nI k * nI k)).toNat) = true := by decide +kernel
theorem f_num : ∀ k, k < 1025 → fnD (FP.Core.decode FP.Core.b32 (FP.i2f (nI k)).toNat) = true := by decide +kernel
theorem f_den : ∀ k, k < 33 → k ≠ 0 → fnZ (FP.Core.decode FP.Core.b32 (FP.i2f (nI k)).toNat) = true := by decide +kernel
theorem dns_n {k n : Nat} (hk : k ≤ 1024) (h0 : 1 ≤ n) (hn : n ≤ 32) : vf_n64 (FP.ddiv (FP.i2d (nI k)) (FP.i2d (nI n * nI n))) := by
  have h := quo64 (d_num k (by omega)) (d_den n (by omega) (by omega))
  unfold vf_n64
  rw [UInt64.le_iff_toNat_le, UInt64.toNat_and]
  refine Nat.le_trans Nat.and_le_left ?_
  show (UInt64.ofNat (FP.Core.encode FP.Core.b64 (FP.Core.quotient FP.Core.b64 _ _))).toNat ≤ 9218868437227405312
  rw [UInt64.toNat_ofNat']
  exact Nat.le_trans (Nat.mod_le _ _) h
theorem mrc_n {k n : Nat} (hk : k ≤ 1024) (h0 : 1 ≤ n) (hn : n ≤ 32) : vf_n32 (FP.fdiv (FP.i2f (nI k)) (FP.i2f (nI n))) := by
  have h := quo32 (f_num k (by omega)) (f_den n (by omega) (by omega))
  unfold vf_n32
  rw [UInt32.le_iff_toNat_le, UInt32.toNat_and]
  refine Nat.le_trans Nat.and_le_left ?_
  show (UInt32.ofNat (FP.Core.encode FP.Core.b32 (FP.Core.quotient FP.Core.b32 _ _))).toNat ≤ 2139095040
  rw [UInt32.toNat_ofNat']
  exact Nat.le_trans (Nat.mod_le _ _) h
def onesN (f : Nat → Int32) : Nat → Nat
  | 0 => 0
  | k + 1 => onesN f k + pcN (f k)
theorem onesF_n (f : Nat → Int32) : ∀ k, onesF f k = nI (onesN f k)
  | 0 => rfl
  | k + 1 => by rw [onesF, onesF_n f k, bcJ_n, nI_add, onesN]
theorem onesN_le (f : Nat → Int32) : ∀ k, onesN f k ≤ 32 * k
  | 0 => Nat.le_refl 0
  | k + 1 => by have := onesN_le f k; have := pcN_le (f k); rw [onesN]; omega
theorem dns_f {f : Nat → Int32} {n : Nat} (h0 : 1 ≤ n) (hn : n ≤ 32) : vf_n64 (FP.ddiv (FP.i2d (onesF f n)) (FP.i2d (nI n * nI n))) := by
  rw [onesF_n]; exact dns_n (by have := onesN_le f n; omega) h0 hn
theorem mrc_f {f : Nat → Int32} {n : Nat} (h0 : 1 ≤ n) (hn : n ≤ 32) : vf_n32 (FP.fdiv (FP.i2f (onesF f n)) (FP.i2f (nI n))) := by
  rw [onesF_n]; exact mrc_n (by have := onesN_le f n; omega) h0 hn
section
variable {l : Launch} {J : Jm} {F L MC MS : Nat} {Q : Res → Mem → Prop} {pc : Nat} {lv : List (Nat × Value)} {st : List Value} {k n : Nat} {M : Mem}
theorem g_dconst0 (hd : decode J.2.1 pc = .ok (.dconst 0, 1)) (kk : Go l J F L MC MS Q (pc + 1) lv (.double 0 :: st) k n M) : Go l J F L MC MS Q pc lv st k n M := by
  intro p e s m args below meth c G H locs cells slots ls hX hC hR hS hl hc hs
  exact lv_dconst0 hX.1.1 hX.1.2.1 hd (kk p e s m args below meth c G H locs cells slots ls hX hC hR hS hl hc hs)
theorem g_fconst0 (hd : decode J.2.1 pc = .ok (.fconst 0, 1)) (kk : Go l J F L MC MS Q (pc + 1) lv (.float 0 :: st) k n M) : Go l J F L MC MS Q pc lv st k n M := by
  intro p e s m args below meth c G H locs cells slots ls hX hC hR hS hl hc hs
  exact lv_fconst0 hX.1.1 hX.1.2.1 hd (kk p e s m args below meth c G H locs cells slots ls hX hC hR hS hl hc hs)
end
section
variable {l : Launch} {M : Mem} {n : Nat} {A : Nat → Nat → Int32}
theorem n_density {s : Nat} (h : Rr M n A) (hs : s < 6) : EvR l jX7_density 4 160 0 0 [.ref 198, .int (nI s)] M (.inl (some (.double (FP.ddiv (FP.i2d (onesF (A s) n)) (FP.i2d (nI n * nI n)))))) (thr M 0) := by
  have hS := h.1
  refine ev_intro rfl (nb rfl) rfl ?_
  refine g_aload_n (pc := 0) dX7_density_0 rfl trivial ?_
  refine g_iload_n (pc := 1) dX7_density_1 rfl ?_
  refine g_invS_r (pc := 2) (As := [_]) dX7_density_2 rfl (r_isSlot_t (in6 hs)) rfl rfl lk_X7_216 rfl (nb rfl) ⟨nb rfl, nb rfl⟩ rfl ?_
  refine g_iconst (pc := 5) (v := 1) dX7_density_5 rfl ?_
  refine g_invV_r (pc := 6) (As := [_, _]) dX7_density_6 rfl (r_isThrown_0 hS) rfl rfl (shK hS rfl) rfl rfl lk_X7_209 rfl (nb rfl) ⟨nb rfl, nb rfl⟩ rfl ?_
  refine g_if_eq (pc := 9) (tgt := 16) dX7_density_9 rfl (fun _ => ?_) (fun h9 => absurd (rfl) h9)
  refine g_aload_n (pc := 16) dX7_density_16 rfl trivial ?_
  refine g_iload_n (pc := 17) dX7_density_17 rfl ?_
  refine g_invV_r (pc := 18) (As := [_]) dX7_density_18 rfl (r_onesOf h.thr hs) rfl rfl (shK hS rfl) rfl rfl lk_X7_238 rfl (nb rfl) ⟨nb rfl, nb rfl⟩ rfl ?_
  refine g_i2d (pc := 21) dX7_density_21 ?_
  refine g_aload_n (pc := 22) dX7_density_22 rfl trivial ?_
  refine g_invV_r (pc := 23) (As := []) dX7_density_23 rfl (r_size h.thr) rfl rfl (shK hS rfl) rfl rfl lk_X7_71 rfl (nb rfl) ⟨nb rfl, nb rfl⟩ rfl ?_
  refine g_aload_n (pc := 26) dX7_density_26 rfl trivial ?_
  refine g_invV_r (pc := 27) (As := []) dX7_density_27 rfl (r_size h.thr) rfl rfl (shK hS rfl) rfl rfl lk_X7_71 rfl (nb rfl) ⟨nb rfl, nb rfl⟩ rfl ?_
  refine g_imul (pc := 30) dX7_density_30 ?_
  refine g_i2d (pc := 31) dX7_density_31 ?_
  refine g_ddiv (pc := 32) dX7_density_32 (dns_f h.2.2.1 h.2.2.2.1) ?_
  refine g_dreturn (pc := 33) dX7_density_33 rfl ?_
  exact ⟨rfl, rfl⟩
theorem t_density {v : Int32} (h : Rr M n A) (hx : ¬ inR v 6) : EvR l jX7_density 4 160 0 0 [.ref 198, .int v] M (.inl (some (.double 0))) (thr M 1) := by
  have hS := h.1
  refine ev_intro rfl (nb rfl) rfl ?_
  refine g_aload_n (pc := 0) dX7_density_0 rfl trivial ?_
  refine g_iload_n (pc := 1) dX7_density_1 rfl ?_
  refine g_invS_r (pc := 2) (As := [_]) dX7_density_2 rfl (r_isSlot_f hx) rfl rfl lk_X7_216 rfl (nb rfl) ⟨nb rfl, nb rfl⟩ rfl ?_
  refine g_iconst (pc := 5) (v := 1) dX7_density_5 rfl ?_
  refine g_invV_r (pc := 6) (As := [_, _]) dX7_density_6 rfl (r_isThrown_1 hS) rfl rfl (shK hS rfl) rfl rfl lk_X7_209 rfl (nb rfl) ⟨nb rfl, nb rfl⟩ rfl ?_
  refine g_if_eq (pc := 9) (tgt := 16) dX7_density_9 rfl (fun h9 => absurd h9 ((by decide))) (fun _ => ?_)
  refine g_dconst0 (pc := 12) dX7_density_12 ?_
  refine g_goto (pc := 13) (tgt := 33) dX7_density_13 rfl ?_
  refine g_dreturn (pc := 33) dX7_density_33 rfl ?_
  exact ⟨rfl, rfl⟩
theorem q_density {s : Nat} (hS : Shp M) (hz : mI M 3 1 = nI n) (h0 : 1 ≤ n) (hn : n ≤ 32) (hs : s < 6) : EvR l jX6_density 8 150 1 6 [.ref 0, .int (nI s)] M (.inl (some (.double (FP.ddiv (FP.i2d (onesF (mI M (6 + 2 * s)) n)) (FP.i2d (nI n * nI n)))))) M := by
  refine ev_intro rfl (nb rfl) rfl ?_
  refine g_aload_n (pc := 0) dX6_density_0 rfl trivial ?_
  refine g_iload_n (pc := 1) dX6_density_1 rfl ?_
  refine g_invV_r (pc := 2) (As := [_]) dX6_density_2 rfl (q_ones hS hz hn hs) rfl rfl (shK hS rfl) rfl rfl lk_X6_159 rfl (nb rfl) ⟨nb rfl, nb rfl⟩ rfl ?_
  refine g_i2d (pc := 5) dX6_density_5 ?_
  refine g_aload_n (pc := 6) dX6_density_6 rfl trivial ?_
  refine g_getf (pc := 7) dX6_density_7 fk_X6_19 (shK hS rfl) (fv_obj (shR hS rfl)) ?_
  refine g_getf (pc := 10) (v := .int _) dX6_density_10 fk_X6_89 (shK hS rfl) (fun _ => congrArg Value.int (hz)) ?_
  refine g_aload_n (pc := 13) dX6_density_13 rfl trivial ?_
  refine g_getf (pc := 14) dX6_density_14 fk_X6_19 (shK hS rfl) (fv_obj (shR hS rfl)) ?_
  refine g_getf (pc := 17) (v := .int _) dX6_density_17 fk_X6_89 (shK hS rfl) (fun _ => congrArg Value.int (hz)) ?_
  refine g_imul (pc := 20) dX6_density_20 ?_
  refine g_i2d (pc := 21) dX6_density_21 ?_
  refine g_ddiv (pc := 22) dX6_density_22 (dns_f h0 hn) ?_
  refine g_dreturn (pc := 23) dX6_density_23 rfl ?_
  exact ⟨rfl, rfl⟩
theorem x_density {v : Int32} (hS : Shp M) (h : ¬ inR v 6) : EvR l jX6_density 8 150 1 6 [.ref 0, .int v] M (.inr xIO) M := by
  refine ev_intro rfl (nb rfl) rfl ?_
  refine g_aload_n (pc := 0) dX6_density_0 rfl trivial ?_
  refine g_iload_n (pc := 1) dX6_density_1 rfl ?_
  refine g_invV_x (pc := 2) (As := [_]) dX6_density_2 rfl (x_ones hS h) rfl rfl (shK hS rfl) rfl rfl lk_X6_159 rfl (nb rfl) ⟨nb rfl, nb rfl⟩ rfl ?_
  exact ⟨rfl, rfl⟩
theorem q_meanReach {s : Nat} (hS : Shp M) (hz : mI M 3 1 = nI n) (h0 : 1 ≤ n) (hn : n ≤ 32) (hs : s < 6) : EvR l jX6_meanReach 8 150 1 6 [.ref 0, .int (nI s)] M (.inl (some (.float (FP.fdiv (FP.i2f (onesF (mI (clOf M s n) (175 + 2 * s + 1)) n)) (FP.i2f (nI n)))))) (clOf M s n) := by
  have hS1 := clOf_S hS s n
  have hz1 := clOf_z hz hs
  have q1 := q_pairs (l := l) hS hz hn hs
  generalize clOf M s n = M1 at *
  refine ev_intro rfl (nb rfl) rfl ?_
  refine g_aload_n (pc := 0) dX6_meanReach_0 rfl trivial ?_
  refine g_iload_n (pc := 1) dX6_meanReach_1 rfl ?_
  refine g_invV_r (pc := 2) (As := [_]) dX6_meanReach_2 rfl (q1) rfl rfl (shK hS rfl) rfl rfl lk_X6_169 rfl (nb rfl) ⟨nb rfl, nb rfl⟩ rfl ?_
  refine g_i2f (pc := 5) dX6_meanReach_5 ?_
  refine g_aload_n (pc := 6) dX6_meanReach_6 rfl trivial ?_
  refine g_getf (pc := 7) dX6_meanReach_7 fk_X6_19 (shK hS1 rfl) (fv_obj (shR hS1 rfl)) ?_
  refine g_getf (pc := 10) (v := .int _) dX6_meanReach_10 fk_X6_89 (shK hS1 rfl) (fun _ => congrArg Value.int (hz1)) ?_
  refine g_i2f (pc := 13) dX6_meanReach_13 ?_
  refine g_fdiv (pc := 14) dX6_meanReach_14 (mrc_f h0 hn) ?_
  refine g_freturn (pc := 15) dX6_meanReach_15 rfl ?_
  exact ⟨rfl, rfl⟩
theorem x_meanReach {v : Int32} (hS : Shp M) (h : ¬ inR v 6) : EvR l jX6_meanReach 8 150 1 6 [.ref 0, .int v] M (.inr xIO) M := by
  refine ev_intro rfl (nb rfl) rfl ?_
  refine g_aload_n (pc := 0) dX6_meanReach_0 rfl trivial ?_
  refine g_iload_n (pc := 1) dX6_meanReach_1 rfl ?_
  refine g_invV_x (pc := 2) (As := [_]) dX6_meanReach_2 rfl (x_pairs hS h) rfl rfl (shK hS rfl) rfl rfl lk_X6_169 rfl (nb rfl) ⟨nb rfl, nb rfl⟩ rfl ?_
  exact ⟨rfl, rfl⟩
end

