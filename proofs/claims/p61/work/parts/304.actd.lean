/-! an action of the law: products, powers, closures -/
section
variable {l : Launch} {M : Mem} {A P n p d x s t o a b w MC MS : Nat} {is : Bool} {u : Nat → Int64} {ρ : Nat → Nat × Nat} {eo : Option Nat} {os : List OD} {nb : OD} {q : DQ}
theorem act_6 (hZ : AZ M A P n p os.length d u (usO os) ρ eo os nb) (hu : nb.2.2 = u) (hD : DK M d n q u) (hO : OW ρ d n q) (hs : s < 6) (ho : o < 6) (ht : t < 6) : Go l jL_act 12 400 MC MS (QA A P n (mS M)) 825 [(0, .ref 0), (2, .ref P), (4, .ref d), (7, .int (nI s)), (8, .int (nI o)), (9, .int (nI t)), (12, .int (b1 is)), (13, .ref nb.1), (16, .int 1), (17, .ref (q.2.2.2.1 s))] [] 1100 9000 M := by
  have hn := hZ.2.2.2.2.2.2
  have hx := hZ.x
  have hz := hD.z
  have hn32 : n ≤ 32 := by omega
  obtain ⟨bl, h1, h8, hb2, hb3⟩ := hZ.1.bl
  have hbl : mI M d 1 = nI bl := by rw [hD.2.1.2.1, hb3, lN_any]
  obtain ⟨-, hm⟩ := hD.m hZ.1 hs
  obtain ⟨-, hmo⟩ := hD.m hZ.1 ho
  refine g_aload (pc := 825) dL_act_825 rfl trivial ?_
  refine g_iload (pc := 827) dL_act_827 rfl ?_
  refine g_aload (pc := 829) dL_act_829 rfl trivial ?_
  refine g_aload (pc := 831) dL_act_831 rfl trivial ?_
  refine g_aload (pc := 833) dL_act_833 rfl trivial ?_
  refine g_getf (pc := 835) dL_act_835 fk_L_52 hD.1.1 (fv_arr hD.1.2.1) ?_
  refine g_iload (pc := 838) dL_act_838 rfl ?_
  refine g_aaload_Z2 (pc := 840) dL_act_840 hD.2.2.1.1 rfl ho (by omega) (hD.2.2.2 o ho).1.1 ?_
  refine g_iload (pc := 841) dL_act_841 rfl ?_
  refine g_invV_o (pc := 843) (As := [_, _, _]) dL_act_843 rfl (k_product (is := is) hD.1.1 hz hbl h1 h8 hm hmo hn hx) rfl rfl hD.1.1 rfl rfl lk_L_172 rfl (nb rfl) ⟨nb rfl, nb rfl⟩ rfl (fun v1 M1 hq => ?_)
  obtain ⟨m9, b9, K, rfl, w1, w2, w3, ⟨w4, w5⟩, x1, x2, x3, x4, x5, x6⟩ := hq
  rw [tkB_w h1 h8 hn w5] at x6
  have hK := blk_eq h1 w4 w5
  subst hK
  show Go l _ _ _ _ _ _ _ _ ([.ref m9, .int (nI t), .ref d] : List Value) _ _ _
  have g1 : ∀ j, j ≠ 2 → j ≠ 3 → fun_set (fun_set u 2 (lN (mdN n bl (blocks n bl)))) 3 (lN (tkN (Am M s) n bl (blocks n bl))) j = u j := fun j h2 h3 => by rw [fs_ne _ _ h3, fs_ne _ _ h2]
  have hD1 : DK M1 d n q (fun_set (fun_set u 2 (lN (mdN n bl (blocks n bl)))) 3 (lN (tkN (Am M s) n bl (blocks n bl)))) := hD.head hO x1 x2 x3 (by rw [x4, g1 1 (by decide) (by decide), hb3, lN_any]) (by rw [x5, fs_ne _ _ (by decide), fs_self, lN_any]) (by rw [x6, fs_self, lN_any]) (fun t ht => ⟨fun r _ => g1 _ (by omega) (by omega), g1 _ (by omega) (by omega), g1 _ (by omega) (by omega), g1 _ (by omega) (by omega), g1 _ (by omega) (by omega)⟩)
  obtain ⟨g, hg⟩ : ∃ g : Nat → Int32, g = mlF is (Am M s) (Am M o) n := ⟨_, rfl⟩
  have gM : Mt M1 m9 n (fun r => b9 + r) (fB g) := w1.cg (fun r c _ _ => by rw [hg]; exact mlB_w)
  obtain ⟨M2, e1, e2, e3, e4, e5, e6, e7⟩ := st_law (l := l) (g := g) hD hO x1 hD1 gM w2 w3 ht (fun _ _ _ _ => rfl) hn32
  have hZ2 := hZ.xt e4 e6 e5
  have hS2 : mS M2 = mS M := e4.2.2.1
  obtain ⟨M3, c1, c2, c3⟩ := c_product (l := l) (fl := is) hZ2.1 hb3 (by rw [hZ.i e4 e6 (show 3 < 198 by decide)]; exact hb2) h1 h8 hs ho ht
  rw [hZ.am e4 e6 hs, hZ.am e4 e6 ho] at c1 c3
  have hw : onesF g n = nI (cM (fB g) n n) := on_c hn32 (by rw [hg]; exact wf_ml (hZ.1.wf ho)) n (Nat.le_refl n)
  rw [← hg, hw] at c1
  rw [← hg] at c3
  rw [← hS2]
  refine g_invV_r (pc := 846) (As := [_, _]) dL_act_846 rfl (e1) rfl rfl hD1.1.1 rfl rfl lk_L_155 rfl (nb rfl) ⟨nb rfl, nb rfl⟩ rfl ?_
  refine g_aload (pc := 849) dL_act_849 rfl trivial ?_
  refine g_aload (pc := 851) dL_act_851 rfl trivial ?_
  refine g_getf (pc := 853) dL_act_853 fk_L_52 e2.1.1 (fv_arr e2.1.2.1) ?_
  refine g_iload (pc := 856) dL_act_856 rfl ?_
  refine g_aaload_Z2 (pc := 858) dL_act_858 e2.2.2.1.1 rfl ht (by omega) (qM_t e2 ht) ?_
  refine g_invV_r (pc := 859) (As := [_]) dL_act_859 rfl (k_ones e7 hn) rfl rfl e2.1.1 rfl rfl lk_L_159 rfl (nb rfl) ⟨nb rfl, nb rfl⟩ rfl ?_
  refine g_istore (pc := 862) (lv' := [(0, _), (2, _), (4, _), (7, _), (8, _), (9, _), (12, _), (13, _), (16, _), (17, _), (14, _)]) dL_act_862 (nl rfl) rfl ?_
  refine g_aload_n (pc := 864) dL_act_864 rfl trivial ?_
  refine g_iload (pc := 865) dL_act_865 rfl ?_
  refine g_iload (pc := 867) dL_act_867 rfl ?_
  refine g_iload (pc := 869) dL_act_869 rfl ?_
  refine g_iload (pc := 871) dL_act_871 rfl ?_
  refine g_invV_r (pc := 873) (As := [_, _, _, _]) dL_act_873 rfl (c1) rfl rfl (shK hZ2.1.S rfl) rfl rfl lk_L_176 rfl (nb rfl) ⟨nb rfl, nb rfl⟩ rfl ?_
  refine g_istore (pc := 876) (lv' := [(0, _), (2, _), (4, _), (7, _), (8, _), (9, _), (12, _), (13, _), (16, _), (17, _), (14, _), (15, _)]) dL_act_876 (nl rfl) rfl ?_
  refine g_goto (pc := 878) (tgt := 1338) dL_act_878 rfl ?_
  refine g_wk (pc := 1338) (k := 2) (n := 16) (by decide) (by decide) ?_
  exact g_subk (k_fin hZ2 hu e2 e3 c2 c3) ⟨rfl, rfl, rfl, rfl, rfl, rfl, trivial⟩
theorem pwH_5 {is : Bool} {f : Nat → Nat → Bool} {e : Nat} (he : e < 64) : pwH is f n 5 e = pwH is f n 6 e := by
  unfold pwH
  rw [pwG_t 5 6 (e / 2) (by show e / 2 < 32; omega) (by show e / 2 < 64; omega)]
theorem act_8 (hZ : AZ M A P n p os.length d u (usO os) ρ eo os nb) (hu : nb.2.2 = u) (hD : DK M d n q u) (hO : OW ρ d n q) (hx9 : x < 2147483648) (hs : s < 6) (ht : t < 6) : Go l jL_act 12 400 MC MS (QA A P n (mS M)) 881 [(0, .ref 0), (2, .ref P), (4, .ref d), (5, .int (nI x)), (7, .int (nI s)), (9, .int (nI t)), (12, .int (b1 is)), (13, .ref nb.1), (16, .int 1), (17, .ref (q.2.2.2.1 s))] [] 1100 9000 M := by
  have hn := hZ.2.2.2.2.2.2
  have hx := hZ.x
  have hz := hD.z
  have hn32 : n ≤ 32 := by omega
  obtain ⟨bl, h1, h8, hb2, hb3⟩ := hZ.1.bl
  have hbl : mI M d 1 = nI bl := by rw [hD.2.1.2.1, hb3, lN_any]
  obtain ⟨-, hm⟩ := hD.m hZ.1 hs
  refine g_iload (pc := 881) dL_act_881 rfl ?_
  refine g_ldc (pc := 883) dL_act_883 wd_x990 ?_
  refine g_idiv (pc := 885) dL_act_885 (by decide) ?_
  rw [show nI x / 262144 = nI (x / 262144) from nI_div (b := 262144) hx9 (by decide)]
  refine g_bipush (pc := 886) (v := 40) dL_act_886 rfl ?_
  refine g_irem (pc := 888) dL_act_888 (by decide) ?_
  rw [show nI (x / 262144) - nI (x / 262144) / 40 * 40 = nI (x / 262144 % 40) from nI_rem (b := 40) (by omega) (by decide)]
  refine g_istore (pc := 889) (lv' := [(0, _), (2, _), (4, _), (5, _), (7, _), (9, _), (12, _), (13, _), (16, _), (17, _), (18, _)]) dL_act_889 (nl rfl) rfl ?_
  skip
  have he40 : x / 262144 % 40 < 40 := Nat.mod_lt _ (by decide)
  generalize x / 262144 % 40 = e at *
  have he : e < 64 := by omega
  have hp9 : EvO l jX7_power 8 300 130 1170 [.ref d, .ref (q.2.2.2.1 s), .int (nI e), .int (b1 is)] M _ := k_power (is := is) hn h1 h8 6 e M he he hD.1.1 hz hbl hm hx
  refine g_aload (pc := 891) dL_act_891 rfl trivial ?_
  refine g_iload (pc := 893) dL_act_893 rfl ?_
  refine g_aload (pc := 895) dL_act_895 rfl trivial ?_
  refine g_aload (pc := 897) dL_act_897 rfl trivial ?_
  refine g_iload (pc := 899) dL_act_899 rfl ?_
  refine g_iload (pc := 901) dL_act_901 rfl ?_
  refine g_invV_o (pc := 903) (As := [_, _, _]) dL_act_903 rfl (hp9) rfl rfl hD.1.1 rfl rfl lk_L_178 rfl (nb rfl) ⟨nb rfl, nb rfl⟩ rfl (fun v1 M1 hq => ?_)
  obtain ⟨m9, b9, rfl, w1, w2, w3, x1, x2, x3, x4, x5, x6⟩ := hq
  obtain ⟨a1, a2, a3⟩ := pw_w (u := u) (is := is) (bl := bl) (f := Am M s) hn32 he
  show Go l _ _ _ _ _ _ _ _ ([.ref m9, .int (nI t), .ref d] : List Value) _ _ _
  obtain ⟨Z, hZZ⟩ : ∃ Z, Z = pwZ u (Am M s) is n bl e := ⟨_, rfl⟩
  rw [← hZZ] at a1 a2 a3
  have g1 : ∀ j, j ≠ 2 → j ≠ 3 → fun_set (fun_set u 2 Z.2.1) 3 Z.2.2.1 j = u j := fun j h2 h3 => by rw [fs_ne _ _ h3, fs_ne _ _ h2]
  have hnum : mI M1 d 2 = Z.2.1.toInt32 ∧ mI M1 d 3 = Z.2.2.1.toInt32 := by
    by_cases e0 : e = 0
    · obtain ⟨y1, y2⟩ := a3 e0
      rw [x5 e0, y1, y2]
      exact ⟨hD.2.1.2.2.1, hD.2.1.2.2.2⟩
    · obtain ⟨y1, B, y2, y3⟩ := a2 e0
      obtain ⟨K, ⟨w4, w5⟩, z1, z2⟩ := x6 e0
      have hK := blk_eq h1 w4 w5
      subst hK
      rw [y1, y2, z1, z2, lN_any, lN_any, ← tkB_w (f := B) h1 h8 hn w5, show (6 - 1 : Nat) = 5 from rfl, pwH_5 he]
      exact ⟨rfl, congrArg nI (tkB_cg (fun r c hr hc => (y3 r c hr hc).symm) _)⟩
  have hD1 : DK M1 d n q (fun_set (fun_set u 2 Z.2.1) 3 Z.2.2.1) := hD.head hO x1 x2 x3 (by rw [x4, g1 1 (by decide) (by decide), hb3, lN_any]) (by rw [fs_ne _ _ (by decide), fs_self]; exact hnum.1) (by rw [fs_self]; exact hnum.2) (fun t ht => ⟨fun r _ => g1 _ (by omega) (by omega), g1 _ (by omega) (by omega), g1 _ (by omega) (by omega), g1 _ (by omega) (by omega), g1 _ (by omega) (by omega)⟩)
  have gM : Mt M1 m9 n (fun r => b9 + r) (fB Z.1) := w1.cg (fun r c hr hc => (a1 r c hr hc).symm)
  obtain ⟨M2, e1, e2, e3, e4, e5, e6, e7⟩ := st_law (l := l) (g := Z.1) hD hO x1 hD1 gM w2 w3 ht (fun _ _ _ _ => rfl) hn32
  have hZ2 := hZ.xt e4 e6 e5
  have hS2 : mS M2 = mS M := e4.2.2.1
  obtain ⟨M3, c1, c2, c3⟩ := c_power (l := l) (fl := is) (m := e) hZ2.1 (by rw [hZ.i e4 e6 (show 3 < 198 by decide)]; exact hb2) h1 h8 hs ht (by omega)
  rw [hZ.am e4 e6 hs] at c1 c3
  have hwf : wfr n Z.1 := by
    rw [hZZ]
    exact wf_pwL (hZ.1.wf hs) _ _ (fun r hr c hc => by
      show hb (bitI r) c = false
      rw [hb_bitI (by omega), decide_eq_false (by omega)])
  have hw : onesF Z.1 n = nI (cM (fB Z.1) n n) := on_c hn32 hwf n (Nat.le_refl n)
  rw [← hZZ, hw] at c1
  rw [← hZZ] at c3
  rw [← hS2]
  refine g_invV_r (pc := 906) (As := [_, _]) dL_act_906 rfl (e1) rfl rfl hD1.1.1 rfl rfl lk_L_155 rfl (nb rfl) ⟨nb rfl, nb rfl⟩ rfl ?_
  refine g_aload (pc := 909) dL_act_909 rfl trivial ?_
  refine g_aload (pc := 911) dL_act_911 rfl trivial ?_
  refine g_getf (pc := 913) dL_act_913 fk_L_52 e2.1.1 (fv_arr e2.1.2.1) ?_
  refine g_iload (pc := 916) dL_act_916 rfl ?_
  refine g_aaload_Z2 (pc := 918) dL_act_918 e2.2.2.1.1 rfl ht (by omega) (qM_t e2 ht) ?_
  refine g_invV_r (pc := 919) (As := [_]) dL_act_919 rfl (k_ones e7 hn) rfl rfl e2.1.1 rfl rfl lk_L_159 rfl (nb rfl) ⟨nb rfl, nb rfl⟩ rfl ?_
  refine g_istore (pc := 922) (lv' := [(0, _), (2, _), (4, _), (7, _), (9, _), (12, _), (13, _), (16, _), (17, _), (18, _), (14, _)]) dL_act_922 (nl rfl) rfl ?_
  refine g_aload_n (pc := 924) dL_act_924 rfl trivial ?_
  refine g_iload (pc := 925) dL_act_925 rfl ?_
  refine g_iload (pc := 927) dL_act_927 rfl ?_
  refine g_iload (pc := 929) dL_act_929 rfl ?_
  refine g_iload (pc := 931) dL_act_931 rfl ?_
  refine g_invV_r (pc := 933) (As := [_, _, _, _]) dL_act_933 rfl (c1) rfl rfl (shK hZ2.1.S rfl) rfl rfl lk_L_182 rfl (nb rfl) ⟨nb rfl, nb rfl⟩ rfl ?_
  refine g_istore (pc := 936) (lv' := [(0, _), (2, _), (4, _), (7, _), (9, _), (12, _), (13, _), (16, _), (17, _), (18, _), (14, _), (15, _)]) dL_act_936 (nl rfl) rfl ?_
  refine g_goto (pc := 938) (tgt := 1338) dL_act_938 rfl ?_
  refine g_wk (pc := 1338) (k := 2) (n := 16) (by decide) (by decide) ?_
  exact g_subk (k_fin hZ2 hu e2 e3 c2 c3) ⟨rfl, rfl, rfl, rfl, rfl, rfl, trivial⟩
theorem act_10t (hZ : AZ M A P n p os.length d u (usO os) ρ eo os nb) (hu : nb.2.2 = u) (hD : DK M d n q u) (hO : OW ρ d n q) (hs : s < 6) (ht : t < 6) : Go l jL_act 12 400 MC MS (QA A P n (mS M)) 1008 [(0, .ref 0), (2, .ref P), (4, .ref d), (7, .int (nI s)), (9, .int (nI t)), (12, .int 1), (13, .ref nb.1), (16, .int 1), (17, .ref (q.2.2.2.1 s))] [] 1100 9000 M := by
  have hn := hZ.2.2.2.2.2.2
  have hx := hZ.x
  have hz := hD.z
  have hn32 : n ≤ 32 := by omega
  obtain ⟨-, hm⟩ := hD.m hZ.1 hs
  have hwf := hZ.1.wf hs
  refine g_aload (pc := 1008) dL_act_1008 rfl trivial ?_
  refine g_iload (pc := 1010) dL_act_1010 rfl ?_
  refine g_iload (pc := 1012) dL_act_1012 rfl ?_
  refine g_if_eq (pc := 1014) (tgt := 1027) dL_act_1014 rfl (fun h1014 => absurd h1014 ((by decide))) (fun _ => ?_)
  refine g_aload (pc := 1017) dL_act_1017 rfl trivial ?_
  refine g_aload (pc := 1019) dL_act_1019 rfl trivial ?_
  refine g_invV_o (pc := 1021) (As := [_]) dL_act_1021 rfl (k_closure hD.1.1 hz hm hn hx) rfl rfl hD.1.1 rfl rfl lk_L_131 rfl (nb rfl) ⟨nb rfl, nb rfl⟩ rfl (fun v1 M1 hq => ?_)
  obtain ⟨m9, b9, rfl, w1, w2, w3, x1⟩ := hq
  show Go l _ _ _ _ _ _ _ _ ([.ref m9, .int (nI t), .ref d] : List Value) _ _ _
  have x1d : Xt (fun i => i = d) M M1 := x1.up (fun _ _ z => z.elim)
  have hD1 : DK M1 d n q u := hD.xt hO x1 (fun _ _ z => z.elim)
  have gM : Mt M1 m9 n (fun r => b9 + r) (fB (wOut (Am M s) n n)) := w1.cg (fun r c hr _ => clB_w hwf hr)
  obtain ⟨M2, e1, e2, e3, e4, e5, e6, e7⟩ := st_law (l := l) (g := wOut (Am M s) n n) hD hO x1d hD1 gM w2 w3 ht (fun _ _ _ _ => rfl) hn32
  have hZ2 := hZ.xt e4 e6 e5
  have hS2 : mS M2 = mS M := e4.2.2.1
  obtain ⟨M3, c1, c2, c3⟩ := c_close (l := l) hZ2.1 hs ht
  rw [hZ.am e4 e6 hs] at c1 c3
  have hw : onesF (wOut (Am M s) n n) n = nI (cM (fB (wOut (Am M s) n n)) n n) := on_c hn32 (wO_n hwf) n (Nat.le_refl n)
  rw [hw] at c1
  rw [← hS2]
  refine g_goto (pc := 1024) (tgt := 1034) dL_act_1024 rfl ?_
  refine g_invV_r (pc := 1034) (As := [_, _]) dL_act_1034 rfl (e1) rfl rfl hD1.1.1 rfl rfl lk_L_155 rfl (nb rfl) ⟨nb rfl, nb rfl⟩ rfl ?_
  refine g_aload (pc := 1037) dL_act_1037 rfl trivial ?_
  refine g_aload (pc := 1039) dL_act_1039 rfl trivial ?_
  refine g_getf (pc := 1041) dL_act_1041 fk_L_52 e2.1.1 (fv_arr e2.1.2.1) ?_
  refine g_iload (pc := 1044) dL_act_1044 rfl ?_
  refine g_aaload_Z2 (pc := 1046) dL_act_1046 e2.2.2.1.1 rfl ht (by omega) (qM_t e2 ht) ?_
  refine g_invV_r (pc := 1047) (As := [_]) dL_act_1047 rfl (k_ones e7 hn) rfl rfl e2.1.1 rfl rfl lk_L_159 rfl (nb rfl) ⟨nb rfl, nb rfl⟩ rfl ?_
  refine g_istore (pc := 1050) (lv' := [(0, _), (2, _), (4, _), (7, _), (9, _), (12, _), (13, _), (16, _), (17, _), (14, _)]) dL_act_1050 (nl rfl) rfl ?_
  refine g_iload (pc := 1052) dL_act_1052 rfl ?_
  refine g_if_eq (pc := 1054) (tgt := 1068) dL_act_1054 rfl (fun h1054 => absurd h1054 ((by decide))) (fun _ => ?_)
  refine g_aload_n (pc := 1057) dL_act_1057 rfl trivial ?_
  refine g_iload (pc := 1058) dL_act_1058 rfl ?_
  refine g_iload (pc := 1060) dL_act_1060 rfl ?_
  refine g_invV_r (pc := 1062) (As := [_, _]) dL_act_1062 rfl (c1) rfl rfl (shK hZ2.1.S rfl) rfl rfl lk_L_193 rfl (nb rfl) ⟨nb rfl, nb rfl⟩ rfl ?_
  refine g_goto (pc := 1065) (tgt := 1076) dL_act_1065 rfl ?_
  refine g_istore (pc := 1076) (lv' := [(0, _), (2, _), (4, _), (7, _), (9, _), (12, _), (13, _), (16, _), (17, _), (14, _), (15, _)]) dL_act_1076 (nl rfl) rfl ?_
  refine g_goto (pc := 1078) (tgt := 1338) dL_act_1078 rfl ?_
  refine g_wk (pc := 1338) (k := 2) (n := 16) (by decide) (by decide) ?_
  exact g_subk (k_fin hZ2 hu e2 e3 c2 c3) ⟨rfl, rfl, rfl, rfl, rfl, rfl, trivial⟩
theorem act_10f (hZ : AZ M A P n p os.length d u (usO os) ρ eo os nb) (hu : nb.2.2 = u) (hD : DK M d n q u) (hO : OW ρ d n q) (hs : s < 6) (ht : t < 6) : Go l jL_act 12 400 MC MS (QA A P n (mS M)) 1008 [(0, .ref 0), (2, .ref P), (4, .ref d), (7, .int (nI s)), (9, .int (nI t)), (12, .int 0), (13, .ref nb.1), (16, .int 1), (17, .ref (q.2.2.2.1 s))] [] 1100 9000 M := by
  have hn := hZ.2.2.2.2.2.2
  have hx := hZ.x
  have hz := hD.z
  have hn32 : n ≤ 32 := by omega
  obtain ⟨-, hm⟩ := hD.m hZ.1 hs
  have hwf := hZ.1.wf hs
  refine g_aload (pc := 1008) dL_act_1008 rfl trivial ?_
  refine g_iload (pc := 1010) dL_act_1010 rfl ?_
  refine g_iload (pc := 1012) dL_act_1012 rfl ?_
  refine g_if_eq (pc := 1014) (tgt := 1027) dL_act_1014 rfl (fun _ => ?_) (fun h1014 => absurd (rfl) h1014)
  refine g_aload (pc := 1027) dL_act_1027 rfl trivial ?_
  refine g_aload (pc := 1029) dL_act_1029 rfl trivial ?_
  refine g_invV_o (pc := 1031) (As := [_]) dL_act_1031 rfl (k_reduced hD.1.1 hz hm hn hx) rfl rfl hD.1.1 rfl rfl lk_L_190 rfl (nb rfl) ⟨nb rfl, nb rfl⟩ rfl (fun v1 M1 hq => ?_)
  obtain ⟨m9, b9, rfl, w1, w2, w3, x1⟩ := hq
  show Go l _ _ _ _ _ _ _ _ ([.ref m9, .int (nI t), .ref d] : List Value) _ _ _
  have x1d : Xt (fun i => i = d) M M1 := x1.up (fun _ _ z => z.elim)
  have hD1 : DK M1 d n q u := hD.xt hO x1 (fun _ _ z => z.elim)
  have gM : Mt M1 m9 n (fun r => b9 + r) (fB (rcF (Am M s) n (n * n))) := w1.cg (fun r c hr hc => rd_w hwf hn32 n (Nat.le_refl n) r c hr hc)
  obtain ⟨M2, e1, e2, e3, e4, e5, e6, e7⟩ := st_law (l := l) (g := rcF (Am M s) n (n * n)) hD hO x1d hD1 gM w2 w3 ht (fun _ _ _ _ => rfl) hn32
  have hZ2 := hZ.xt e4 e6 e5
  have hS2 : mS M2 = mS M := e4.2.2.1
  obtain ⟨M3, c1, c2, c3⟩ := c_reduce (l := l) hZ2.1 hs ht
  rw [hZ.am e4 e6 hs] at c1 c3
  have hw : onesF (rcF (Am M s) n (n * n)) n = nI (cM (fB (rcF (Am M s) n (n * n))) n n) := on_c hn32 (rcf_wf hwf hn32 _ (Nat.le_refl _)) n (Nat.le_refl n)
  rw [hw] at c1
  rw [← hS2]
  refine g_invV_r (pc := 1034) (As := [_, _]) dL_act_1034 rfl (e1) rfl rfl hD1.1.1 rfl rfl lk_L_155 rfl (nb rfl) ⟨nb rfl, nb rfl⟩ rfl ?_
  refine g_aload (pc := 1037) dL_act_1037 rfl trivial ?_
  refine g_aload (pc := 1039) dL_act_1039 rfl trivial ?_
  refine g_getf (pc := 1041) dL_act_1041 fk_L_52 e2.1.1 (fv_arr e2.1.2.1) ?_
  refine g_iload (pc := 1044) dL_act_1044 rfl ?_
  refine g_aaload_Z2 (pc := 1046) dL_act_1046 e2.2.2.1.1 rfl ht (by omega) (qM_t e2 ht) ?_
  refine g_invV_r (pc := 1047) (As := [_]) dL_act_1047 rfl (k_ones e7 hn) rfl rfl e2.1.1 rfl rfl lk_L_159 rfl (nb rfl) ⟨nb rfl, nb rfl⟩ rfl ?_
  refine g_istore (pc := 1050) (lv' := [(0, _), (2, _), (4, _), (7, _), (9, _), (12, _), (13, _), (16, _), (17, _), (14, _)]) dL_act_1050 (nl rfl) rfl ?_
  refine g_iload (pc := 1052) dL_act_1052 rfl ?_
  refine g_if_eq (pc := 1054) (tgt := 1068) dL_act_1054 rfl (fun _ => ?_) (fun h1054 => absurd (rfl) h1054)
  refine g_aload_n (pc := 1068) dL_act_1068 rfl trivial ?_
  refine g_iload (pc := 1069) dL_act_1069 rfl ?_
  refine g_iload (pc := 1071) dL_act_1071 rfl ?_
  refine g_invV_r (pc := 1073) (As := [_, _]) dL_act_1073 rfl (c1) rfl rfl (shK hZ2.1.S rfl) rfl rfl lk_L_196 rfl (nb rfl) ⟨nb rfl, nb rfl⟩ rfl ?_
  refine g_istore (pc := 1076) (lv' := [(0, _), (2, _), (4, _), (7, _), (9, _), (12, _), (13, _), (16, _), (17, _), (14, _), (15, _)]) dL_act_1076 (nl rfl) rfl ?_
  refine g_goto (pc := 1078) (tgt := 1338) dL_act_1078 rfl ?_
  refine g_wk (pc := 1338) (k := 2) (n := 16) (by decide) (by decide) ?_
  exact g_subk (k_fin hZ2 hu e2 e3 c2 c3) ⟨rfl, rfl, rfl, rfl, rfl, rfl, trivial⟩
end

