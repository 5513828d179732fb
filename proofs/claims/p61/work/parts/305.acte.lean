/-! an action of the law: inverses -/
section
variable {l : Launch} {M : Mem} {A P n p d x s t o a b w MC MS : Nat} {is : Bool} {u : Nat → Int64} {ρ : Nat → Nat × Nat} {eo : Option Nat} {os : List OD} {nb : OD} {q : DQ}
theorem act_9 (hZ : AZ M A P n p os.length d u (usO os) ρ eo os nb) (hu : nb.2.2 = u) (hD : DK M d n q u) (hO : OW ρ d n q) (hs : s < 6) (ht : t < 6) : Go l jL_act 12 400 MC MS (QA A P n (mS M)) 941 [(0, .ref 0), (2, .ref P), (4, .ref d), (7, .int (nI s)), (9, .int (nI t)), (13, .ref nb.1), (16, .int 1), (17, .ref (q.2.2.2.1 s))] [] 1100 9000 M := by
  have hn := hZ.2.2.2.2.2.2
  have hx := hZ.x
  have hz := hD.z
  have hn32 : n ≤ 32 := by omega
  obtain ⟨-, hm⟩ := hD.m hZ.1 hs
  refine g_aload (pc := 941) dL_act_941 rfl trivial ?_
  refine g_aload (pc := 943) dL_act_943 rfl trivial ?_
  refine g_invV_o (pc := 945) (As := [_]) dL_act_945 rfl (k_inverse hD.1.1 hz hm hn hx) rfl rfl hD.1.1 rfl rfl lk_L_184 rfl (nb rfl) ⟨nb rfl, nb rfl⟩ rfl (fun v1 M1 hq => ?_)
  obtain ⟨x1, hr⟩ := hq
  have hS1 : mS M1 = mS M := x1.2.2.1
  have hZ1 := hZ.xt x1 (fun _ _ z => z.elim) (fun _ _ => rfl)
  have hD1 : DK M1 d n q u := hD.xt hO x1 (fun _ _ z => z.elim)
  have hA1 := hZ.am x1 (fun _ _ z => z.elim) hs
  rcases hr with ⟨rfl, c, hc, h0⟩ | ⟨hall, m9, b9, rfl, w1, w2, w3, -⟩
  · show Go l _ _ _ _ _ _ _ _ ([.null] : List Value) _ _ _
    rw [← hA1] at h0
    obtain ⟨M3, c1, c2, c3⟩ := c_invert0 (l := l) hZ1.1 hs ht (iv_no hn32 hc h0)
    have hZ3 := hZ1.cf c2 c3
    have hD3 := hD1.cf hO hZ1.2.2.2.2.2.1 hZ1.2.2.2.2.1 c2
    have hS3 : mS M3 = mS M := c2.2.2.2.2.2.1.trans hS1
    rw [← hS3]
    refine g_astoreN (pc := 948) (lv' := [(0, _), (2, _), (4, _), (7, _), (9, _), (13, _), (16, _), (17, _), (18, _)]) dL_act_948 (nl rfl) rfl ?_
    refine g_aloadN (pc := 950) dL_act_950 rfl ?_
    refine g_ifnull_t (pc := 952) (tgt := 959) dL_act_952 rfl  ?_
    refine g_iconst (pc := 959) (v := 0) dL_act_959 rfl ?_
    refine g_istore (pc := 960) (lv' := [(0, _), (2, _), (4, _), (7, _), (9, _), (13, _), (16, _), (17, _), (18, _)]) dL_act_960 (nl rfl) rfl ?_
    refine g_iload (pc := 962) dL_act_962 rfl ?_
    refine g_if_eq (pc := 964) (tgt := 976) dL_act_964 rfl (fun _ => ?_) (fun h964 => absurd (rfl) h964)
    refine g_iload (pc := 976) dL_act_976 rfl ?_
    refine g_if_eq (pc := 978) (tgt := 991) dL_act_978 rfl (fun _ => ?_) (fun h978 => absurd (rfl) h978)
    refine g_bipush (pc := 991) (v := (-3)) dL_act_991 rfl ?_
    refine g_istore (pc := 993) (lv' := [(0, _), (2, _), (4, _), (7, _), (9, _), (13, _), (16, _), (17, _), (18, _), (14, _)]) dL_act_993 (nl rfl) rfl ?_
    refine g_aload_n (pc := 995) dL_act_995 rfl trivial ?_
    refine g_iload (pc := 996) dL_act_996 rfl ?_
    refine g_iload (pc := 998) dL_act_998 rfl ?_
    refine g_invV_r (pc := 1000) (As := [_, _]) dL_act_1000 rfl (c1) rfl rfl (shK hZ1.1.S rfl) rfl rfl lk_L_187 rfl (nb rfl) ⟨nb rfl, nb rfl⟩ rfl ?_
    refine g_istore (pc := 1003) (lv' := [(0, _), (2, _), (4, _), (7, _), (9, _), (13, _), (16, _), (17, _), (18, _), (14, _), (15, _)]) dL_act_1003 (nl rfl) rfl ?_
    refine g_goto (pc := 1005) (tgt := 1338) dL_act_1005 rfl ?_
    refine g_wk (pc := 1338) (k := 2) (n := 16) (by decide) (by decide) ?_
    exact g_subk (k_tail0 hZ3 hD3 hO) ⟨rfl, rfl, rfl, rfl, rfl, trivial⟩
  · show Go l _ _ _ _ _ _ _ _ ([.ref m9] : List Value) _ _ _
    obtain ⟨y1, y2⟩ := iv_yes (M := M) (s := s) hn32 hall
    obtain ⟨g, hg⟩ : ∃ g : Nat → Int32, g = (ivE M s n).2.1 := ⟨_, rfl⟩
    have gM : Mt M1 m9 n (fun r => b9 + r) (fB g) := w1.cg (fun r c hr hc => by rw [hg]; exact y2 r c hr hc)
    have x1d : Xt (fun i => i = d) M M1 := x1.up (fun _ _ z => z.elim)
    obtain ⟨M2, e1, e2, e3, e4, e5, e6, e7⟩ := st_law (l := l) (g := g) hD hO x1d hD1 gM w2 w3 ht (fun _ _ _ _ => rfl) hn32
    have hZ2 := hZ.xt e4 e6 e5
    have hS2 : mS M2 = mS M := e4.2.2.1
    have hE : ivE M2 s n = ivE M s n := ivE_cg hs (fun i hi => hZ.i e4 e6 hi)
    obtain ⟨M3, c1, c2, c3⟩ := c_invert1 (l := l) hZ2.1 hs ht (by rw [hE]; exact y1)
    rw [hE, ← hg] at c1 c3
    have hw : onesF g n = nI (cM (fB g) n n) := on_c hn32 (by rw [hg]; exact ivE_wf hn32) n (Nat.le_refl n)
    rw [hw] at c1
    rw [← hS2]
    refine g_astore (pc := 948) (lv' := [(0, _), (2, _), (4, _), (7, _), (9, _), (13, _), (16, _), (17, _), (18, _)]) dL_act_948 trivial (nl rfl) rfl ?_
    refine g_aload (pc := 950) dL_act_950 rfl trivial ?_
    refine g_ifnull_r (pc := 952) dL_act_952 trivial ?_
    refine g_iconst (pc := 955) (v := 1) dL_act_955 rfl ?_
    refine g_goto (pc := 956) (tgt := 960) dL_act_956 rfl ?_
    refine g_istore (pc := 960) (lv' := [(0, _), (2, _), (4, _), (7, _), (9, _), (13, _), (16, _), (17, _), (18, _)]) dL_act_960 (nl rfl) rfl ?_
    refine g_iload (pc := 962) dL_act_962 rfl ?_
    refine g_if_eq (pc := 964) (tgt := 976) dL_act_964 rfl (fun h964 => absurd h964 ((by decide))) (fun _ => ?_)
    refine g_aload (pc := 967) dL_act_967 rfl trivial ?_
    refine g_iload (pc := 969) dL_act_969 rfl ?_
    refine g_aload (pc := 971) dL_act_971 rfl trivial ?_
    refine g_invV_r (pc := 973) (As := [_, _]) dL_act_973 rfl (e1) rfl rfl hD1.1.1 rfl rfl lk_L_155 rfl (nb rfl) ⟨nb rfl, nb rfl⟩ rfl ?_
    refine g_iload (pc := 976) dL_act_976 rfl ?_
    refine g_if_eq (pc := 978) (tgt := 991) dL_act_978 rfl (fun h978 => absurd h978 ((by decide))) (fun _ => ?_)
    refine g_aload (pc := 981) dL_act_981 rfl trivial ?_
    refine g_aload (pc := 983) dL_act_983 rfl trivial ?_
    refine g_invV_r (pc := 985) (As := [_]) dL_act_985 rfl (k_ones e7 hn) rfl rfl e2.1.1 rfl rfl lk_L_159 rfl (nb rfl) ⟨nb rfl, nb rfl⟩ rfl ?_
    refine g_goto (pc := 988) (tgt := 993) dL_act_988 rfl ?_
    refine g_istore (pc := 993) (lv' := [(0, _), (2, _), (4, _), (7, _), (9, _), (13, _), (16, _), (17, _), (18, _), (14, _)]) dL_act_993 (nl rfl) rfl ?_
    refine g_aload_n (pc := 995) dL_act_995 rfl trivial ?_
    refine g_iload (pc := 996) dL_act_996 rfl ?_
    refine g_iload (pc := 998) dL_act_998 rfl ?_
    refine g_invV_r (pc := 1000) (As := [_, _]) dL_act_1000 rfl (c1) rfl rfl (shK hZ2.1.S rfl) rfl rfl lk_L_187 rfl (nb rfl) ⟨nb rfl, nb rfl⟩ rfl ?_
    refine g_istore (pc := 1003) (lv' := [(0, _), (2, _), (4, _), (7, _), (9, _), (13, _), (16, _), (17, _), (18, _), (14, _), (15, _)]) dL_act_1003 (nl rfl) rfl ?_
    refine g_goto (pc := 1005) (tgt := 1338) dL_act_1005 rfl ?_
    refine g_wk (pc := 1338) (k := 2) (n := 16) (by decide) (by decide) ?_
    exact g_subk (k_fin hZ2 hu e2 e3 c2 c3) ⟨rfl, rfl, rfl, rfl, rfl, rfl, trivial⟩
end

