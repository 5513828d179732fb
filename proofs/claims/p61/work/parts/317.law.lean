/-! the law, walked -/
/-- behind a new desk of the class, untouched -/
def LQ (M : Mem) (S : Nat × (Nat → Int32)) : Prop := Shp M ∧ mI M 0 4 = 0 ∧ mI M 188 0 = 0 ∧ mI M 1 1 = 0 ∧ mX M = true ∧ mS M = S
/-- behind the load -/
def LD (M : Mem) (S : Nat × (Nat → Int32)) (A n : Nat) : Prop := ∃ (d : Nat) (q : DQ) (ρ : Nat → Nat × Nat) (u : Nat → Int64), CV M n 0 0 u (usO []) ∧ (DK M d n q u ∧ OW ρ d n q ∧ 198 ≤ d) ∧ AR M A d ∧ ((∀ i, i < 198 → (ρ i).1 = 0) ∧ (198 ≤ A ∧ (ρ A).1 = 0) ∧ ∀ i, (mK M).length ≤ i → (ρ i).1 = 0) ∧ mI M 1 5 = 0 ∧ (mX M = true ∧ mS M = S) ∧ n ≤ 9
section
variable {l : Launch} {M : Mem} {A P n b MC MS k nv : Nat} {S : Nat × (Nat → Int32)} {Q : Res → Mem → Prop} {L : Nat} {xs : Nat → Int32}
def nby : Option Knd → Bool
  | some (.inl (.byte, _)) => false
  | _ => true
set_option maxRecDepth 20000 in
theorem lay_by : ∀ i, i < 198 → nby LAY[i]? = true := by decide +kernel
theorem by198 {v c : Nat} (hS : Shp M) (hk : (mK M)[v]? = some (.inl (.byte, c))) : 198 ≤ v := by
  rcases Nat.lt_or_ge v 198 with h | h
  · obtain ⟨⟨rest, hr⟩, -⟩ := hS
    rw [hr, List.getElem?_append_left (by rw [lay_l]; exact h)] at hk
    have h3 := lay_by v h
    rw [hk] at h3
    cases h3
  · exact h
theorem us_nil (us : Nat → Nat → Int64) : ∀ i, i < 0 → us i = usO [] i := fun i hi => absurd hi (Nat.not_lt_zero i)
theorem law_b {Y : Mem} (hF : FQ Y) (hS : mS Y = S) (kk : ∀ M, LQ M S → Go l jL_law 2048 84000 MC MS Q 43 [(0, .retAddr 0), (1, .ref 0)] [] k nv M) : Go l jL_law 2048 84000 MC MS Q 8 [(0, .retAddr 0), (1, .ref 0)] [] (k + 1 + 149 + 70 + 1) (nv + 6 + 894 + 600 + 7) Y := by
  have hlen := hF.2.2.2
  have hnk := new_at Y (.inr 7)
  have hnI := new_I Y (.inr 7)
  have hX1 : Xt (fun i => i = 198) Y (nK Y (.inr 7)) := (Xt.rf _ Y).nK _
  have hx1 : mX (nK Y (.inr 7)) = true := hF.2.2.1
  rw [hlen] at hnk hnI
  refine g_aload_n (pc := 8) dL_law_8 rfl trivial ?_
  refine g_new (pc := 9) (nf := 7) (n := (nv+6+894+600)) (k := (k+1+149+70)) (ci := 7) (ty0 := tyX7) dL_law_9 rfl wd_x400 wd_x401 wd_x51 inW7 tyX7_ok (new_df7 _) rfl hF.2.2.1 ?_
  rw [hlen]
  refine g_dup (pc := 12) dL_law_12 rfl ?_
  refine g_bipush (pc := 13) (v := 8) dL_law_13 rfl ?_
  skip
  generalize nK Y (.inr 7) = Y1 at *
  refine g_invI_o (pc := 15) (As := [_]) dL_law_15 rfl (k_init hnk hnI (by decide) hx1 (uN_bg (n := 8))) rfl rfl hnk rfl rfl lk_L_35 rfl (nb rfl) ⟨nb rfl, nb rfl⟩ rfl (fun v1 M1 hq => ?_)
  obtain ⟨rfl, hD, hX2, -⟩ := hq
  have hX := hX1.tr hX2
  have hC : CV M1 8 0 0 (bgF (fun _ => 0) 8) (usO []) := (fq_CV hF).xt hX (fun i hi e => by
    have e9 : i = 198 := e
    omega)
  have eI : ∀ i, i < 198 → mI M1 i = mI Y i := fun i hi => hX.I (by omega) (fun e => by
    have e9 : i = 198 := e
    omega)
  have hu := c_undo0 (l := l) hC
  have hr : EvR l jX6_restoreSnapshot 7 170 1 6 [.ref 0, .int (nI 0)] M1 (.inl (some (.int (-1)))) M1 := by
    have h0 : mI M1 173 0 = 0 := by
      rw [eI 173 (by decide)]
      exact fq_0 hF (by decide +kernel)
    have h9 := u_restore (l := l) (M := M1) (q := 0) hC.S (fun s hs => by
      rw [eI _ (by omega)]
      exact fq_keep hF s hs) (by decide)
    rw [if_pos h0, if_pos h0] at h9
    exact h9
  have hsm := k_isSame (l := l) hC.S hC.2.1 hD (by decide)
  refine g_invS_r (pc := 18) (As := [_, _]) dL_law_18 rfl (hsm) rfl rfl lk_L_225 rfl (nb rfl) ⟨nb rfl, nb rfl⟩ rfl ?_
  refine g_if_eq (pc := 21) (tgt := 41) dL_law_21 rfl (fun h21 => absurd h21 ((by decide))) (fun _ => ?_)
  refine g_aload_n (pc := 24) dL_law_24 rfl trivial ?_
  refine g_invV_r (pc := 25) (As := []) dL_law_25 rfl (hu) rfl rfl (shK hC.S rfl) rfl rfl lk_L_124 rfl (nb rfl) ⟨nb rfl, nb rfl⟩ rfl ?_
  refine g_iconst (pc := 28) (v := (-1)) dL_law_28 rfl ?_
  refine g_icmp_ne (pc := 29) (tgt := 41) dL_law_29 rfl (fun h29 => absurd h29 ((fun z => z rfl))) (fun _ => ?_)
  refine g_aload_n (pc := 32) dL_law_32 rfl trivial ?_
  refine g_iconst (pc := 33) (v := 0) dL_law_33 rfl ?_
  refine g_invV_r (pc := 34) (As := [_]) dL_law_34 rfl (hr) rfl rfl (shK hC.S rfl) rfl rfl lk_L_229 rfl (nb rfl) ⟨nb rfl, nb rfl⟩ rfl ?_
  refine g_iconst (pc := 37) (v := (-1)) dL_law_37 rfl ?_
  refine g_icmp_eq (pc := 38) (tgt := 43) dL_law_38 rfl (fun _ => ?_) (fun h38 => absurd (rfl) h38)
  refine g_wk (pc := 43) (k := k) (n := nv) (by omega) (by omega) (kk M1 ⟨hC.S, ?_, ?_, ?_, hX.2.1.trans hF.2.2.1, hX.2.2.1.trans hS⟩)
  · exact hC.2.2.1.1
  · exact hC.2.2.2.2
  · rw [eI 1 (by decide)]
    exact fq_v hF (by decide +kernel)
theorem law_d {k0 n0 : Nat} (hk0 : k + 305 ≤ k0) (hn0 : nv + 160725 ≤ n0) (h : LQ M S) (hS9 : S.1 < 2147483648) (kk : ∀ M1 b A n, LD M1 S A n → Go l jL_law 2048 84000 MC MS Q 73 [(0, .retAddr 0), (1, .ref 0), (2, .ref b), (3, .ref A)] [.int (nI n)] k nv M1) : Go l jL_law 2048 84000 MC MS Q 43 [(0, .retAddr 0), (1, .ref 0)] [] k0 n0 M := by
  obtain ⟨h1, h2, h3, h4, h5, h6⟩ := h
  have hlen := shp_len h1
  have hnk := new_at M (.inr 9)
  have hnI := new_I M (.inr 9)
  have hX0 : Xt (fun i => 198 ≤ i) M (nK M (.inr 9)) := (Xt.rf _ M).nK _
  obtain ⟨ka, na, hka, hna⟩ : ∃ ka na, k0 = ka + 1 ∧ n0 = na + 4 := ⟨k0 - 1, n0 - 4, by omega, by omega⟩
  rw [hka, hna]
  refine g_new (pc := 43) (nf := 4) (n := na) (k := ka) (ci := 9) (ty0 := tyJ4) dL_law_43 rfl wd_x1197 wd_x1198 wd_x59 inW9 tyJ4_ok (new_df9 _) rfl h5 ?_
  refine g_dup (pc := 46) dL_law_46 rfl ?_
  skip
  have hx0 : mX (nK M (.inr 9)) = true := h5
  generalize nK M (.inr 9) = M1 at *
  generalize hb9 : (mK M).length = b at *
  obtain ⟨kc, nc, hkc, hnc⟩ : ∃ ka9 na9, ka = ka9 + 1 ∧ na = na9 + 16 := ⟨ka - 1, na - 16, by omega, by omega⟩
  rw [hkc, hnc]
  refine g_invI_o (pc := 47) (As := []) dL_law_47 rfl (k_sbNew hnk hnI hx0) rfl rfl hnk rfl rfl lk_L_232 rfl (nb rfl) ⟨nb rfl, nb rfl⟩ rfl (fun v1 M2 hq => ?_)
  obtain ⟨rfl, v, hB, hX1⟩ := hq
  have hX2 : Xt (fun i => 198 ≤ i) M M2 := hX0.tr' hX1 (fun i hi e => by
    have e9 : i = b := e
    show 198 ≤ i
    omega)
  have hkA := new_at M2 (.inl (.object "BitDeskLaw$Desk", 1))
  have hX3 : Xt (fun i => 198 ≤ i) M (nK M2 (.inl (.object "BitDeskLaw$Desk", 1))) := hX2.nK _
  have hB3 := hB.new (.inl (.object "BitDeskLaw$Desk", 1))
  have hA9 := Nat.le_trans hlen (hb9 ▸ hX2.len)
  have hl3 := new_l M2 (.inl (.object "BitDeskLaw$Desk", 1))
  obtain ⟨kd, nd, hkd, hnd⟩ : ∃ ka9 na9, kc = ka9 + 1 ∧ nc = na9 + 1 := ⟨kc - 1, nc - 1, by omega, by omega⟩
  rw [hkd, hnd]
  refine g_astore_n (pc := 50) (lv' := [(0, _), (1, _), (2, _)]) dL_law_50 trivial (nl rfl) rfl ?_
  refine g_iconst (pc := 51) (v := 1) dL_law_51 rfl ?_
  refine g_anewarray_Desk (pc := 52) dL_law_52 wd_x400 (len := 1) rfl (by decide) hB.2.2.2.2 ?_
  skip
  generalize nK M2 (.inl (.object "BitDeskLaw$Desk", 1)) = M3 at *
  generalize (mK M2).length = A at *
  obtain ⟨ke, ne, hke, hne⟩ : ∃ ka9 na9, kd = ka9 + 300 ∧ nd = na9 + 160000 := ⟨kd - 300, nd - 160000, by omega, by omega⟩
  rw [hke, hne]
  refine g_dup (pc := 55) dL_law_55 rfl ?_
  refine g_iconst (pc := 56) (v := 0) dL_law_56 rfl ?_
  refine g_aload_n (pc := 57) dL_law_57 rfl isA_0 ?_
  refine g_iconst (pc := 58) (v := 0) dL_law_58 rfl ?_
  refine g_aload_n (pc := 59) dL_law_59 rfl trivial ?_
  refine g_invS_o (pc := 60) (As := [_, _, _]) dL_law_60 rfl (k_drawn hB3 (by omega) (by rw [hX3.2.2.1, h6]; exact hS9)) rfl rfl lk_L_233 rfl (nb rfl) ⟨nb rfl, nb rfl⟩ rfl (fun v5 M5 hq => ?_)
  obtain ⟨d, n, q, ρ, ts, rfl, ⟨n1, n9, hd⟩, hD, ⟨hO, hρ1, hρ2⟩, hC, hBw, hlt⟩ := hq
  have hS3 := shp_xt h1 hX3 (fun i hi w => absurd w (Nat.not_le_of_lt hi))
  have hv9 := by198 hS3 hB3.1.2.2
  have hb198 : 198 ≤ b := by omega
  obtain ⟨v9, cap9, hs9, hx53, -⟩ := hBw
  have hX5 : Xt (fun i => 198 ≤ i) M M5 := hX3.tr' hx53 (fun i hi w => by
    show 198 ≤ i
    rcases w with e | e
    · have e9 : i = b := e
      omega
    · have e9 : i = v := e
      omega)
  have hA5 := hx53.k hkA
  show Go l _ _ _ _ _ _ _ _ ([.ref d, .int 0, .ref A, .ref A] : List Value) _ _ _
  have hX6 : Xt (fun i => i = A) M5 (sR M5 A (fun_set (mR M5 A) 0 (some d))) := (Xt.rf _ M5).sR (fun _ => rfl)
  have hD6 : DK (sR M5 A (fun_set (mR M5 A) 0 (some d))) d n q (anI (sF n (bgF (fun _ => 0) n) ts) (nI n) 6) := hD.xk hX6 (fun i e => ⟨.inl (.object "BitDeskLaw$Desk", 1), by rw [show i = A from e]; exact hA5, id⟩)
  have hAR : AR (sR M5 A (fun_set (mR M5 A) 0 (some d))) A d := ⟨hA5, by rw [sR_self, fs_self]⟩
  have hnk9 := hs9.nk hA5 bkO
  have hB6 := hs9.xt hX6 (fun e => hnk9.1 (Eq.symm e)) (fun e => hnk9.2 (Eq.symm e))
  refine g_aastore_Desk (pc := 63) dL_law_63 hA5 rfl (by decide) (by decide) hD.1.1 rfl rfl ?_
  show Go l _ _ _ _ _ _ _ _ _ _ _ (sR M5 A (fun_set (mR M5 A) 0 (some d)))
  have hX6' : Xt (fun i => 198 ≤ i) M (sR M5 A (fun_set (mR M5 A) 0 (some d))) := hX5.tr' hX6 (fun i hi e => by
    have e9 : i = A := e
    show 198 ≤ i
    omega)
  have hl5 : (mK M5).length = (mK (sR M5 A (fun_set (mR M5 A) 0 (some d)))).length := rfl
  generalize sR M5 A (fun_set (mR M5 A) 0 (some d)) = M6 at *
  have hchr := tx_chr n9 hC
  obtain ⟨T, hT⟩ := chr_T hchr
  obtain ⟨kf, nf, hkf, hnf⟩ : ∃ ka9 na9, ke = ka9 + 2 ∧ ne = na9 + 704 := ⟨ke - 2, ne - 704, by omega, by omega⟩
  rw [hkf, hnf]
  refine g_astore_n (pc := 64) (lv' := [(0, _), (1, _), (2, _), (3, _)]) dL_law_64 trivial (nl rfl) rfl ?_
  refine g_aload_n (pc := 65) dL_law_65 rfl trivial ?_
  refine g_aload_n (pc := 66) dL_law_66 rfl trivial ?_
  refine g_invV_o (pc := 67) (As := []) dL_law_67 rfl (k_toString hB6 (chr_asc hchr)) rfl rfl hB6.1.1 rfl rfl lk_L_237 rfl (nb rfl) ⟨nb rfl, nb rfl⟩ rfl (fun v6 M7 hq => ?_)
  obtain ⟨s7, v7, rfl, hST, hX7, hx7⟩ := hq
  show Go l _ _ _ _ _ _ _ _ ([.ref s7, .ref 0] : List Value) _ _ _
  have hX67 : Xt (fun i => 198 ≤ i) M M7 := hX6'.tr' hX7 (fun i hi w => w.elim)
  have hS7 := shp_xt h1 hX67 (fun i hi w => absurd w (Nat.not_le_of_lt hi))
  have eI : ∀ i, i < 198 → mI M7 i = mI M i := fun i hi => hX67.I (by omega) (fun w => absurd w (Nat.not_le_of_lt hi))
  have hD7 := hD6.xt hO hX7 (fun i _ w => w.elim)
  have hAR7 := hAR.xt hX7 id
  refine g_invS_o (pc := 70) (As := [_, _]) dL_law_70 rfl (k_load hS7 (by rw [eI 1 (by decide)]; exact h4) hST (by198 hS7 hST.2.2.2.1) hT (Nat.le_trans hlt (by decide))) rfl rfl lk_L_241 rfl (nb rfl) ⟨nb rfl, nb rfl⟩ rfl (fun v8 M8 hq => ?_)
  obtain ⟨Mx, hTD, hr8, hM8⟩ := hq
  have eX : ∀ i, i ≠ 1 → i ≠ 2 → i < 198 → mI Mx i = mI M i := fun i e1 e2 hi => (hTD.1.I (Nat.lt_of_lt_of_le hi (shp_len hS7)) (fun w => w.elim e1 e2)).trans (eI i hi)
  obtain ⟨f1, f2, f3, f4⟩ := ld_fin (us := usO []) (len := (szW n ++ sT n ts).length) (hTD.S hS7) n1 n9 hC (fun j hj => (hTD.2.2.2.2.2 j hj).trans (hT j hj).1.symm) rfl (by rw [eX 0 (by decide) (by decide) (by decide)]; exact h2) (by rw [eX 188 (by decide) (by decide) (by decide)]; exact h3)
  rw [if_pos f1, f2] at hr8
  rw [if_pos f1] at hM8
  subst hr8
  have hX78 : Xt (fun i => i < 198) M7 M8 := by
    rw [hM8]
    refine (Xt.tr' (Xt.rf _ M7) hTD.1 (fun i _ w => ?_)).tr (cf_pI (by decide) (cf_riM.tr cf_replM)).x
    show i < 198
    rcases w with e | e <;> omega
  rw [← hM8] at f3 f4
  clear hM8
  have hD8 := hD7.xt hO hX78 (fun i hi w => by
    have w9 : i < 198 := w
    rw [hρ1 i (by omega)]
    omega)
  have hAR8 := hAR7.xt hX78 (fun w => by
    have w9 : A < 198 := w
    omega)
  have hl7 := hX7.len
  have hl8 := hX78.len
  show Go l _ _ _ _ _ _ _ _ ([.int (nI n)] : List Value) _ _ _
  refine g_wk (k := k) (n := nv) (by omega) (by omega) (kk M8 b A n ⟨d, q, ρ, _, f3, ⟨hD8, hO, by omega⟩, hAR8, ⟨fun i hi => hρ1 i (by omega), ⟨by omega, hρ1 A (by omega)⟩, fun i hi => hρ2 i (by omega)⟩, f4, ⟨hX78.2.1.trans hx7, (hX78.2.2.1.trans hX67.2.2.1).trans h6⟩, n9⟩)
theorem law_e (h : LD M S A n) (kk : ∀ M1 P, LV M1 A P n → mS M1 = S → Go l jL_law 2048 84000 MC MS Q 118 [(0, .retAddr 0), (1, .ref 0), (2, .ref b), (3, .ref A), (4, .ref P)] [] k nv M1) : Go l jL_law 2048 84000 MC MS Q 73 [(0, .retAddr 0), (1, .ref 0), (2, .ref b), (3, .ref A)] [.int (nI n)] (k + 1 + 149) (nv + 3 + 894) M := by
  obtain ⟨d, q, ρ, u, hC, ⟨hD, hO, hd⟩, hAR, ⟨hρ1, hρA, hρ2⟩, h5, ⟨hx, hS⟩, n9⟩ := h
  have hlen := shp_len hC.S
  have hsm := k_isSame (l := l) hC.S hC.2.1 hD n9
  refine g_aload_n (pc := 73) dL_law_73 rfl trivial ?_
  refine g_iconst (pc := 74) (v := 0) dL_law_74 rfl ?_
  refine g_aaload_Desk (pc := 75) dL_law_75 hAR.1 rfl (by decide) (by decide) hAR.2 ?_
  refine g_getf (pc := 76) (v := .int _) dL_law_76 fk_L_45 hD.1.1 (fun _ => congrArg Value.int (hD.z)) ?_
  refine g_icmp_ne (pc := 79) (tgt := 107) dL_law_79 rfl (fun h79 => absurd h79 ((fun z => z rfl))) (fun _ => ?_)
  refine g_aload_n (pc := 82) dL_law_82 rfl trivial ?_
  refine g_invV_r (pc := 83) (As := []) dL_law_83 rfl (q_loadErr hC.S) rfl rfl (shK hC.S rfl) rfl rfl lk_L_244 rfl (nb rfl) ⟨nb rfl, nb rfl⟩ rfl ?_
  refine g_if_ne (pc := 86) (tgt := 107) dL_law_86 rfl (fun h86 => absurd h86 ((fun z => z h5))) (fun _ => ?_)
  refine g_aload_n (pc := 89) dL_law_89 rfl trivial ?_
  refine g_invV_r (pc := 90) (As := []) dL_law_90 rfl (q_loadStatement hC.S) rfl rfl (shK hC.S rfl) rfl rfl lk_L_247 rfl (nb rfl) ⟨nb rfl, nb rfl⟩ rfl ?_
  refine g_iconst (pc := 93) (v := (-1)) dL_law_93 rfl ?_
  refine g_icmp_ne (pc := 94) (tgt := 107) dL_law_94 rfl (fun h94 => absurd h94 ((fun z => z (if_pos h5)))) (fun _ => ?_)
  refine g_aload_n (pc := 97) dL_law_97 rfl trivial ?_
  refine g_aload_n (pc := 98) dL_law_98 rfl trivial ?_
  refine g_iconst (pc := 99) (v := 0) dL_law_99 rfl ?_
  refine g_aaload_Desk (pc := 100) dL_law_100 hAR.1 rfl (by decide) (by decide) hAR.2 ?_
  refine g_invS_r (pc := 101) (As := [_, _]) dL_law_101 rfl (hsm) rfl rfl lk_L_225 rfl (nb rfl) ⟨nb rfl, nb rfl⟩ rfl ?_
  refine g_if_ne (pc := 104) (tgt := 109) dL_law_104 rfl (fun _ => ?_) (fun h104 => absurd ((by decide)) h104)
  skip
  have hnk := new_at M (.inr 10)
  have hnI := new_I M (.inr 10)
  have hnR := new_R M (.inr 10)
  have hX1 : Xt (fun i => (mK M).length ≤ i) M (nK M (.inr 10)) := (Xt.rf _ M).nK _
  have hx1 : mX (nK M (.inr 10)) = true := hx
  refine g_new (pc := 109) (nf := 3) (n := nv) (k := k) (ci := 10) (ty0 := tyJx4a65c) dL_law_109 rfl wd_x1283 wd_x861 wd_x71 inW10 tyJx4a65c_ok (new_df10 _) rfl hx ?_
  generalize nK M (.inr 10) = M1 at *
  refine g_dup (pc := 112) dL_law_112 rfl ?_
  refine g_invI_o (pc := 113) (As := []) dL_law_113 rfl (k_alNew hnk hnI hnR hx1) rfl rfl hnk rfl rfl lk_L_250 rfl (nb rfl) ⟨nb rfl, nb rfl⟩ rfl (fun v1 M2 hq => ?_)
  obtain ⟨rfl, hAL, hX2⟩ := hq
  have hX : Xt (fun i => (mK M).length ≤ i) M M2 := hX1.tr' hX2 (fun i hi e => by
    have e9 : i = (mK M).length := e
    omega)
  have hlA := k_lt hAR.1
  refine g_astore (pc := 116) (lv' := [(0, _), (1, _), (2, _), (3, _), (4, _)]) dL_law_116 trivial (nl rfl) rfl ?_
  refine kk M2 (mK M).length ⟨0, u, d, q, ρ, none, [], hC.xt hX (fun i hi w => ?_), ⟨hAR.xt hX (Nat.not_le_of_lt hlA), hAL⟩, ⟨hD.xt hO hX (fun i hi w => absurd w (Nat.not_le_of_lt hi)), hO, hd⟩, fun o ho => absurd ho List.not_mem_nil, List.nodup_cons.mpr ⟨List.not_mem_nil, List.nodup_nil⟩, ⟨hρ1, ⟨hρA, hlen, hρ2 _ (Nat.le_refl _)⟩, fun e he => by cases he⟩, n9⟩ (hX.2.2.1.trans hS)
  have w9 : (mK M).length ≤ i := w
  omega
theorem law_fe {i k0 n0 : Nat} (hk0 : 179 ≤ k0) (hn0 : 1074 ≤ n0) {Mx : Mem} (hV : LV Mx A P n) (hQ : ∀ M1, Q (.inl (some (.int 1))) M1) : Go l jL_law 2048 84000 MC MS Q 165 [(0, .retAddr 0), (1, .ref 0), (2, .ref b), (3, .ref A), (4, .ref P), (5, .int (nI i))] [] k0 n0 Mx := by
  obtain ⟨p, u, d, q, ρ, eo, os, hC, ⟨hAR, hAL⟩, ⟨hD, hO, hd⟩, -, -, -, n9⟩ := hV
  have hsm := k_isSame (l := l) (M := sX Mx) hC.S hC.2.1 hD n9
  have hS := hC.S
  have hz := hC.z
  have n1 := hC.n1
  have hn1 : ¬ (nI n + 1 ≤ nI n) := fun z => by
    rw [nI_1] at z
    exact absurd (Int32.lt_of_lt_of_le (nI_gt (show n < n + 1 by omega) (by omega)) z) Int32.lt_irrefl
  have i0 : inR 0 6 := ⟨by decide +kernel, by decide +kernel⟩
  have i00 : inR 0 n := ⟨by decide +kernel, nI_gt (show 0 < n by omega) (by omega)⟩
  have i6 : ¬ inR 6 6 := fun z => absurd z.2 (by decide +kernel)
  have im : ∀ m, ¬ inR (-1) m := fun m z => z.1 (by decide +kernel)
  have inn : ¬ inR (nI n) n := fun z => absurd z.2 Int32.lt_irrefl
  have hp9 : ¬ (¬ (1000001 : Int32) < 0 ∧ (1000001 : Int32) ≤ 1000000) := by decide +kernel
  have i5 : inR 5 6 := ⟨by decide +kernel, by decide +kernel⟩
  have hm1 : (-1 : Int32) < 0 := by decide +kernel
  refine g_aload_n (pc := 165) dL_law_165 rfl trivial ?_
  refine g_iconst (pc := 166) (v := 0) dL_law_166 rfl ?_
  refine g_aaload_Desk (pc := 167) dL_law_167 hAR.1 rfl (by decide) (by decide) hAR.2 ?_
  refine g_getf (pc := 168) (v := .int _) dL_law_168 fk_L_45 hD.1.1 (fun _ => congrArg Value.int (hD.z)) ?_
  refine g_istore (pc := 171) (lv' := [(0, _), (1, _), (2, _), (3, _), (4, _), (5, _)]) dL_law_171 (nl rfl) rfl ?_
  refine g_sX (pc := 173) ?_
  have hSx : Shp (sX Mx) := hS
  have hzx : mI (sX Mx) 3 1 = nI n := hz
  have hxx : mX (sX Mx) = false := rfl
  have hARx : AR (sX Mx) A d := hAR
  generalize sX Mx = M at *
  refine g_wk (k := 179) (n := 1074) (by omega) (by omega) ?_
  refine g_aload_n (pc := 173) dL_law_173 rfl trivial ?_
  refine g_bipush (pc := 174) (v := 6) dL_law_174 rfl ?_
  refine g_iconst (pc := 176) (v := 0) dL_law_176 rfl ?_
  refine g_iconst (pc := 177) (v := 0) dL_law_177 rfl ?_
  refine g_invSX_r (pc := 178) (As := [_, _, _, _]) dL_law_178 rfl (k_noBit hSx hxx hzx (fun z => i6 z.1)) rfl rfl lk_L_255 rfl (nb rfl) ⟨nb rfl, nb rfl⟩ rfl ?_
  refine g_if_eq (pc := 181) (tgt := 241) dL_law_181 rfl (fun h181 => absurd h181 ((by decide))) (fun _ => ?_)
  refine g_aload_n (pc := 184) dL_law_184 rfl trivial ?_
  refine g_iconst (pc := 185) (v := 0) dL_law_185 rfl ?_
  refine g_iload (pc := 186) dL_law_186 rfl ?_
  refine g_iconst (pc := 188) (v := 0) dL_law_188 rfl ?_
  refine g_invSX_r (pc := 189) (As := [_, _, _, _]) dL_law_189 rfl (k_noBit hSx hxx hzx (fun z => inn z.2.1)) rfl rfl lk_L_255 rfl (nb rfl) ⟨nb rfl, nb rfl⟩ rfl ?_
  refine g_if_eq (pc := 192) (tgt := 241) dL_law_192 rfl (fun h192 => absurd h192 ((by decide))) (fun _ => ?_)
  refine g_aload_n (pc := 195) dL_law_195 rfl trivial ?_
  refine g_iconst (pc := 196) (v := 0) dL_law_196 rfl ?_
  refine g_iconst (pc := 197) (v := 0) dL_law_197 rfl ?_
  refine g_iconst (pc := 198) (v := (-1)) dL_law_198 rfl ?_
  refine g_invSX_r (pc := 199) (As := [_, _, _, _]) dL_law_199 rfl (k_noBit hSx hxx hzx (fun z => im _ z.2.2)) rfl rfl lk_L_255 rfl (nb rfl) ⟨nb rfl, nb rfl⟩ rfl ?_
  refine g_if_eq (pc := 202) (tgt := 241) dL_law_202 rfl (fun h202 => absurd h202 ((by decide))) (fun _ => ?_)
  refine g_aload_n (pc := 205) dL_law_205 rfl trivial ?_
  refine g_bipush (pc := 206) (v := 6) dL_law_206 rfl ?_
  refine g_iconst (pc := 208) (v := (-1)) dL_law_208 rfl ?_
  refine g_iconst (pc := 209) (v := 0) dL_law_209 rfl ?_
  refine g_iconst (pc := 210) (v := 1) dL_law_210 rfl ?_
  refine g_invSX_r (pc := 211) (As := [_, _, _, _, _]) dL_law_211 rfl (k_noPower1 hSx hxx (fun z => i6 z.1)) rfl rfl lk_L_259 rfl (nb rfl) ⟨nb rfl, nb rfl⟩ rfl ?_
  refine g_if_eq (pc := 214) (tgt := 241) dL_law_214 rfl (fun h214 => absurd h214 ((by decide))) (fun _ => ?_)
  refine g_aload_n (pc := 217) dL_law_217 rfl trivial ?_
  refine g_iconst (pc := 218) (v := 0) dL_law_218 rfl ?_
  refine g_ldcw (pc := 219) dL_law_219 wd_x1307 ?_
  refine g_iconst (pc := 222) (v := 5) dL_law_222 rfl ?_
  refine g_iconst (pc := 223) (v := 0) dL_law_223 rfl ?_
  refine g_invSX_r (pc := 224) (As := [_, _, _, _, _]) dL_law_224 rfl (k_noPower2 hSx hxx i0 i5 hp9) rfl rfl lk_L_259 rfl (nb rfl) ⟨nb rfl, nb rfl⟩ rfl ?_
  refine g_if_eq (pc := 227) (tgt := 241) dL_law_227 rfl (fun h227 => absurd h227 ((by decide))) (fun _ => ?_)
  refine g_aload_n (pc := 230) dL_law_230 rfl trivial ?_
  refine g_iconst (pc := 231) (v := 0) dL_law_231 rfl ?_
  refine g_iconst (pc := 232) (v := 1) dL_law_232 rfl ?_
  refine g_iconst (pc := 233) (v := (-1)) dL_law_233 rfl ?_
  refine g_iconst (pc := 234) (v := 1) dL_law_234 rfl ?_
  refine g_invSX_r (pc := 235) (As := [_, _, _, _, _]) dL_law_235 rfl (k_noPower1 hSx hxx (fun z => im _ z.2)) rfl rfl lk_L_259 rfl (nb rfl) ⟨nb rfl, nb rfl⟩ rfl ?_
  refine g_if_ne (pc := 238) (tgt := 243) dL_law_238 rfl (fun _ => ?_) (fun h238 => absurd ((by decide)) h238)
  skip
  refine g_aload_n (pc := 243) dL_law_243 rfl trivial ?_
  refine g_iconst (pc := 244) (v := 0) dL_law_244 rfl ?_
  refine g_iload (pc := 245) dL_law_245 rfl ?_
  refine g_iconst (pc := 247) (v := (-1)) dL_law_247 rfl ?_
  refine g_iconst (pc := 248) (v := 1) dL_law_248 rfl ?_
  refine g_invSX_r (pc := 249) (As := [_, _, _, _, _]) dL_law_249 rfl (k_noRank1 hSx hxx hzx (fun z => inn z.2)) rfl rfl lk_L_264 rfl (nb rfl) ⟨nb rfl, nb rfl⟩ rfl ?_
  refine g_if_eq (pc := 252) (tgt := 294) dL_law_252 rfl (fun h252 => absurd h252 ((by decide))) (fun _ => ?_)
  refine g_aload_n (pc := 255) dL_law_255 rfl trivial ?_
  refine g_iconst (pc := 256) (v := 0) dL_law_256 rfl ?_
  refine g_iconst (pc := 257) (v := 0) dL_law_257 rfl ?_
  refine g_iload (pc := 258) dL_law_258 rfl ?_
  refine g_iconst (pc := 260) (v := 1) dL_law_260 rfl ?_
  refine g_iadd (pc := 261) dL_law_261 ?_
  refine g_iconst (pc := 262) (v := 0) dL_law_262 rfl ?_
  refine g_invSX_r (pc := 263) (As := [_, _, _, _, _]) dL_law_263 rfl (k_noRank2 hSx hxx hzx i0 i00 (fun z => hn1 z.2)) rfl rfl lk_L_264 rfl (nb rfl) ⟨nb rfl, nb rfl⟩ rfl ?_
  refine g_if_eq (pc := 266) (tgt := 294) dL_law_266 rfl (fun h266 => absurd h266 ((by decide))) (fun _ => ?_)
  refine g_aload_n (pc := 269) dL_law_269 rfl trivial ?_
  refine g_iconst (pc := 270) (v := 0) dL_law_270 rfl ?_
  refine g_iconst (pc := 271) (v := 0) dL_law_271 rfl ?_
  refine g_iconst (pc := 272) (v := (-1)) dL_law_272 rfl ?_
  refine g_iconst (pc := 273) (v := 0) dL_law_273 rfl ?_
  refine g_invSX_r (pc := 274) (As := [_, _, _, _, _]) dL_law_274 rfl (k_noRank2 hSx hxx hzx i0 i00 (fun z => z.1 hm1)) rfl rfl lk_L_264 rfl (nb rfl) ⟨nb rfl, nb rfl⟩ rfl ?_
  refine g_if_eq (pc := 277) (tgt := 294) dL_law_277 rfl (fun h277 => absurd h277 ((by decide))) (fun _ => ?_)
  refine g_aload_n (pc := 280) dL_law_280 rfl trivial ?_
  refine g_aload_n (pc := 281) dL_law_281 rfl trivial ?_
  refine g_iconst (pc := 282) (v := 0) dL_law_282 rfl ?_
  refine g_aaload_Desk (pc := 283) dL_law_283 hARx.1 rfl (by decide) (by decide) hARx.2 ?_
  refine g_invS_r (pc := 284) (As := [_, _]) dL_law_284 rfl (hsm) rfl rfl lk_L_225 rfl (nb rfl) ⟨nb rfl, nb rfl⟩ rfl ?_
  refine g_if_eq (pc := 287) (tgt := 294) dL_law_287 rfl (fun h287 => absurd h287 ((by decide))) (fun _ => ?_)
  refine g_iconst (pc := 290) (v := 1) dL_law_290 rfl ?_
  refine g_goto (pc := 291) (tgt := 295) dL_law_291 rfl ?_
  refine g_ireturn (pc := 295) dL_law_295 rfl rfl ?_
  exact hQ _
theorem law_f {k0 n0 : Nat} (hk0 : 60 * 1399 + 179 ≤ k0) (hn0 : 60 * 11294 + 1074 ≤ n0) (hV0 : LV M A P n) (hS0 : mS M = S) (hS9 : S.1 < 2147483648) (hQ : ∀ M1, Q (.inl (some (.int 1))) M1) : Go l jL_law 2048 84000 MC MS Q 118 [(0, .retAddr 0), (1, .ref 0), (2, .ref b), (3, .ref A), (4, .ref P)] [] k0 n0 M := by
  refine g_iconst (pc := 118) (v := 0) dL_law_118 rfl ?_
  refine g_istore (pc := 119) (lv' := [(0, _), (1, _), (2, _), (3, _), (4, _), (5, _)]) dL_law_119 (nl rfl) rfl ?_
  refine g_wk (pc := 121) (k := (60 - 0) * 1399 + 179) (n := (60 - 0) * 11294 + 1074) (by omega) (by omega) ?_
  refine go_forS (σ := Mem) (pc := 121) 60 (fun i _ => [(0, .retAddr 0), (1, .ref 0), (2, .ref b), (3, .ref A), (4, .ref P), (5, .int (nI i))]) id (fun _ Mx => LV Mx A P n ∧ mS Mx = S) (fun i => (60 - i) * 1399 + 179) (fun i => (60 - i) * 11294 + 1074) M ⟨rfl, rfl, rfl, rfl, rfl, rfl, trivial⟩ rfl rfl rfl ⟨hV0, hS0⟩ ?_ ?_
  · intro i Mx hi ⟨hV, hS⟩ ih0
    obtain ⟨kb, nb9, hkb, hnb, ih⟩ : ∃ kb nb9, kb = (60 - (i + 1)) * 1399 + 179 ∧ nb9 = (60 - (i + 1)) * 11294 + 1074 ∧ ∀ s' : Mem, LV s' A P n ∧ mS s' = S → Go l jL_law 2048 84000 MC MS Q 121 [(0, .retAddr 0), (1, .ref 0), (2, .ref b), (3, .ref A), (4, .ref P), (5, .int (nI (i + 1)))] [] kb nb9 s' := ⟨_, _, rfl, rfl, ih0⟩
    clear ih0
    obtain ⟨k1, n1, hk1, hn1⟩ : ∃ x y, x = kb + 149 ∧ y = nb9 + 894 := ⟨_, _, rfl, rfl⟩
    refine g_wk (k := k1 + 1250) (n := n1 + 10400) (by omega) (by omega) ?_
    refine g_iload (pc := 121) dL_law_121 rfl ?_
    refine g_bipush (pc := 123) (v := 60) dL_law_123 rfl ?_
    refine g_icmp_ge (pc := 125) (tgt := 165) dL_law_125 rfl (fun h125 => absurd h125 (nI_ge hi (by decide))) (fun _ => ?_)
    refine g_aload_n (pc := 128) dL_law_128 rfl trivial ?_
    refine g_aload_n (pc := 129) dL_law_129 rfl trivial ?_
    refine g_aload (pc := 130) dL_law_130 rfl trivial ?_
    refine g_aload_n (pc := 132) dL_law_132 rfl isA_0 ?_
    refine g_bipush (pc := 133) (v := 20) dL_law_133 rfl ?_
    refine g_iload (pc := 135) dL_law_135 rfl ?_
    refine g_iadd (pc := 137) dL_law_137 ?_
    rw [show (20 : Int32) + nI i = nI (20 + i) from nI_add 20 i]
    refine g_invS_r (pc := 138) (As := [_, _]) dL_law_138 rfl (k_at (k := 20 + i) (by omega) (by show (mS Mx).1 < 2147483648; rw [hS]; exact hS9)) (Nat.add_zero _).symm (Nat.add_zero _).symm lk_L_27 rfl (nb rfl) ⟨nb rfl, nb rfl⟩ rfl ?_
    refine g_invS_o (pc := 141) (As := [_, _, _, _]) dL_law_141 rfl (k_act hV (atN_lt _ _)) rfl rfl lk_L_251 rfl (nb rfl) ⟨nb rfl, nb rfl⟩ rfl (fun v1 M1 hq => ?_)
    obtain ⟨rfl, hV1, hS1⟩ := hq
    show Go l _ _ _ _ _ _ _ _ ([.int 1] : List Value) _ _ _
    have hV9 := hV1
    obtain ⟨p, u, d, q, ρ, eo, os, hC, ⟨hAR, hAL⟩, ⟨hD, hO, hd⟩, -, -, -, n9⟩ := hV1
    have hsm := k_isSame (l := l) hC.S hC.2.1 hD n9
    rw [hk1, hn1]
    refine g_if_eq (pc := 144) (tgt := 157) dL_law_144 rfl (fun h144 => absurd h144 ((by decide))) (fun _ => ?_)
    refine g_aload_n (pc := 147) dL_law_147 rfl trivial ?_
    refine g_aload_n (pc := 148) dL_law_148 rfl trivial ?_
    refine g_iconst (pc := 149) (v := 0) dL_law_149 rfl ?_
    refine g_aaload_Desk (pc := 150) dL_law_150 hAR.1 rfl (by decide) (by decide) hAR.2 ?_
    refine g_invS_r (pc := 151) (As := [_, _]) dL_law_151 rfl (hsm) rfl rfl lk_L_225 rfl (nb rfl) ⟨nb rfl, nb rfl⟩ rfl ?_
    refine g_if_ne (pc := 154) (tgt := 159) dL_law_154 rfl (fun _ => ?_) (fun h154 => absurd ((by decide)) h154)
    refine g_iinc (pc := 159) (lv' := [(0, _), (1, _), (2, _), (3, _), (4, _), (5, _)]) dL_law_159 rfl (nI_1 _) (nl rfl) rfl ?_
    refine g_goto (pc := 162) (tgt := 121) dL_law_162 rfl ?_
    exact g_subk (g_wk (by omega) (by omega) (ih M1 ⟨hV9, hS1.trans hS⟩)) ⟨rfl, rfl, rfl, rfl, rfl, rfl, trivial⟩
  · intro Mx ⟨hV, hS⟩
    have hE := law_fe (l := l) (MC := MC) (MS := MS) (b := b) (i := 60) (k0 := (60 - 60) * 1399 + 179) (n0 := (60 - 60) * 11294 + 1074) (by omega) (by omega) hV hQ
    refine g_iload (pc := 121) dL_law_121 rfl ?_
    refine g_bipush (pc := 123) (v := 60) dL_law_123 rfl ?_
    refine g_icmp_ge (pc := 125) (tgt := 165) dL_law_125 rfl (fun _ => ?_) (fun h125 => absurd (nI_le (Nat.le_refl 60) (by decide)) h125)
    exact hE
theorem law_go (hL : L ≤ 260) (hQ : ∀ M, Q (.inl (some (.int 1))) M) : Go l jL_law 2048 84000 MC MS Q 0 [(0, .retAddr 0)] [] 245593 900015 (M00 L xs) := by
  have hk0 : (mK (nK (M00 L xs) (.inr 6)))[0]? = some (.inr 6) := new_at (M00 L xs) (.inr 6)
  obtain ⟨hF, hS⟩ := fq_made L xs
  have c6 := j_X6 (l := l) (M := nK (M00 L xs) (.inr 6)) (m := 0) rfl hk0
  have hL2 : ((L, xs) : Nat × (Nat → Int32)).1 < 2147483648 := Nat.lt_of_le_of_lt hL (by decide)
  refine g_new (pc := 0) (nf := 15) (n := 900000) (k := 245592) (ci := 6) (ty0 := tyX6) dL_law_0 rfl wd_x74 wd_116 wd_95 inW6 tyX6_ok (new_df6 _) rfl rfl ?_
  rw [show (mK (M00 L xs)).length = 0 from rfl]
  refine g_dup (pc := 3) dL_law_3 rfl ?_
  skip
  generalize nK (M00 L xs) (.inr 6) = M0 at *
  generalize X6M M0 0 = Y at *
  refine g_invI_r (pc := 4) (As := []) dL_law_4 rfl (c6) rfl rfl hk0 rfl rfl lk_L_224 rfl (nb rfl) ⟨nb rfl, nb rfl⟩ rfl ?_
  refine g_astore_n (pc := 7) (lv' := [(0, _), (1, _)]) dL_law_7 trivial (nl rfl) rfl ?_
  refine g_wk (pc := 8) (k := 60 * 1399 + 179 + 1 + 149 + 2 + 300 + 1 + 1 + 1 + 1 + 149 + 70 + 1) (n := 60 * 11294 + 1074 + 3 + 894 + 704 + 160000 + 1 + 16 + 4 + 6 + 894 + 600 + 7) (by decide) (by decide) ?_
  exact law_b hF hS (fun M1 h1 => law_d (k := 60 * 1399 + 179 + 1 + 149) (nv := 60 * 11294 + 1074 + 3 + 894) (by decide) (by decide) h1 hL2 (fun M2 b A n h2 => law_e h2 (fun M3 P h3 hS3 => law_f (Nat.le_refl _) (Nat.le_refl _) h3 hS3 hL2 hQ)))
end

