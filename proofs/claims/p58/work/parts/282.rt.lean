/-! the reference: triangles -/
theorem pcb_trunc {P : Nat → Bool} {n : Nat} : ∀ k, n ≤ k → (∀ i, n ≤ i → P i = false) → pcb P k = pcb P n
  | 0, h, _ => by rw [show n = 0 by omega]
  | k + 1, h, h2 => by
    by_cases e : n = k + 1
    · rw [e]
    · rw [pcb, pcb_trunc k (by omega) h2, h2 k (by omega)]; simp
def tcP (f : Nat → Int32) (a b c : Nat) : Bool := !decide (c = a) && !decide (c = b) && hb (f b) c && hb (f c) a
theorem tc_n {f : Nat → Int32} {n a b : Nat} (hn : n ≤ 32) (ha : a < 32) (hb9 : b < 32) : bcJ (f b &&& (colOf f a n &&& (bitI a ^^^ -1)) &&& (bitI b ^^^ -1)) = nI (pcb (tcP f a b) n) := by
  rw [bcJ_n, pcN_b]
  congr 1
  have h1 : pcb (hb (f b &&& (colOf f a n &&& (bitI a ^^^ -1)) &&& (bitI b ^^^ -1))) 32 = pcb (fun c => decide (c < n) && tcP f a b c) 32 := by
    apply pcb_congr
    intro i hi
    rw [hb_and, hb_and, hb_and, hb_not hi, hb_not hi, hb_bitI ha, hb_bitI hb9, hb_colOf n hn]
    unfold tcP
    cases decide (i = a) <;> cases decide (i = b) <;> cases hb (f b) i <;> cases hb (f i) a <;> cases decide (i < n) <;> rfl
  rw [h1, pcb_trunc 32 hn (fun i hi => by simp; omega)]
  apply pcb_congr
  intro i hi
  simp [hi]
section
variable {l : Launch} {M : Mem} {n : Nat} {A : Nat → Nat → Int32}
theorem n_triangles {s : Nat} (h : Rr M n A) (hs : s < 6) : EvR l jX7_triangles 4 160 0 0 [.ref 198, .int (nI s)] M (.inl (some (.int (trO (A s) n n)))) (thr M 0) := by
  have hn := h.2.2.2.1
  have hS := h.1
  have h' := h.thr (x := 0)
  have htc := fun a b (ha : a < n) (hb9 : b < n) => tc_n (f := A s) (n := n) (a := a) (b := b) hn (by omega) (by omega)
  have hrow := fun k (hk : k < n) => r_rowOf (l := l) h' hs hk
  refine ev_intro rfl (nb rfl) rfl ?_
  refine g_aload_n (pc := 0) dX7_triangles_0 rfl trivial ?_
  refine g_iload_n (pc := 1) dX7_triangles_1 rfl ?_
  refine g_invS_r (pc := 2) (As := [_]) dX7_triangles_2 rfl (r_isSlot_t (in6 hs)) rfl rfl lk_X7_216 rfl (nb rfl) ⟨nb rfl, nb rfl⟩ rfl ?_
  refine g_iconst (pc := 5) (v := 1) dX7_triangles_5 rfl ?_
  refine g_invV_r (pc := 6) (As := [_, _]) dX7_triangles_6 rfl (r_isThrown_0 hS) rfl rfl (shK hS rfl) rfl rfl lk_X7_209 rfl (nb rfl) ⟨nb rfl, nb rfl⟩ rfl ?_
  refine g_if_eq (pc := 9) (tgt := 14) dX7_triangles_9 rfl (fun _ => ?_) (fun h9 => absurd (rfl) h9)
  refine g_iconst (pc := 14) (v := 0) dX7_triangles_14 rfl ?_
  refine g_istore_n (pc := 15) (lv' := [(0, _), (1, _), (2, _)]) dX7_triangles_15 (nl rfl) rfl ?_
  refine g_iconst (pc := 16) (v := 0) dX7_triangles_16 rfl ?_
  refine g_istore_n (pc := 17) (lv' := [(0, _), (1, _), (2, _), (3, _)]) dX7_triangles_17 (nl rfl) rfl ?_
  refine go_loop (pc := 18) n (fun i => [(0, .ref 198), (1, .int (nI s)), (2, .int (trO (A s) n i)), (3, .int (nI i))]) (fun _ => thr M 0) ⟨rfl, rfl, rfl, rfl, trivial⟩ rfl ?_ ?_
  · intro a ha iha
    rw [trO] at iha
    generalize trO (A s) n n = X9 at *
    generalize trO (A s) n a = x0 at *
    refine g_iload_n (pc := 18) dX7_triangles_18 rfl ?_
    refine g_aload_n (pc := 19) dX7_triangles_19 rfl trivial ?_
    refine g_invV_r (pc := 20) (As := []) dX7_triangles_20 rfl (r_size h') rfl rfl (shK hS rfl) rfl rfl lk_X7_71 rfl (nb rfl) ⟨nb rfl, nb rfl⟩ rfl ?_
    refine g_icmp_ge (pc := 23) (tgt := 141) dX7_triangles_23 rfl (fun h23 => absurd h23 (nI_ge ha (by omega))) (fun _ => ?_)
    refine g_iconst (pc := 26) (v := 0) dX7_triangles_26 rfl ?_
    refine g_istore (pc := 27) (lv' := [(0, _), (1, _), (2, _), (3, _), (4, _)]) dX7_triangles_27 (nl rfl) rfl ?_
    refine go_loop (pc := 29) n (fun i => [(0, .ref 198), (1, .int (nI s)), (2, .int (trI (A s) n a x0 i)), (3, .int (nI a)), (4, .int (nI i))]) (fun _ => thr M 0) ⟨rfl, rfl, rfl, rfl, rfl, trivial⟩ rfl ?_ ?_
    · intro b hb9 ihb
      rw [trI, htc a b ha hb9] at ihb
      generalize trI (A s) n a x0 b = x1 at *
      have h129 : ∀ v c, v = x1 ∨ True → Go l jX7_triangles 4 160 0 0 (fun r' M' => r' = .inl (some (.int X9)) ∧ M' = thr M 0) 29 [(0, .ref 198), (1, .int (nI s)), (2, .int v), (3, .int (nI a)), (4, .int (nI (b + 1)))] [] 0 0 (thr M 0) → Go l jX7_triangles 4 160 0 0 (fun r' M' => r' = .inl (some (.int X9)) ∧ M' = thr M 0) 129 [(0, .ref 198), (1, .int (nI s)), (2, .int v), (3, .int (nI a)), (4, .int (nI b)), (5, .int (nI c))] [] 0 0 (thr M 0) := by
        intro v c _ hh
        refine g_iinc (pc := 129) (lv' := [(0, _), (1, _), (2, _), (3, _), (4, _), (5, _)]) dX7_triangles_129 rfl (nI_1 _) (nl rfl) rfl ?_
        refine g_goto (pc := 132) (tgt := 29) dX7_triangles_132 rfl ?_
        exact g_sub (lv' := [(0, _), (1, _), (2, _), (3, _), (4, _)]) ⟨rfl, rfl, rfl, rfl, rfl, trivial⟩ hh
      by_cases hab : a = b
      · rw [if_pos hab] at ihb
        have h9 := h129 x1 0 (Or.inr trivial) ihb
        refine g_iload (pc := 29) dX7_triangles_29 rfl ?_
        refine g_aload_n (pc := 31) dX7_triangles_31 rfl trivial ?_
        refine g_invV_r (pc := 32) (As := []) dX7_triangles_32 rfl (r_size h') rfl rfl (shK hS rfl) rfl rfl lk_X7_71 rfl (nb rfl) ⟨nb rfl, nb rfl⟩ rfl ?_
        refine g_icmp_ge (pc := 35) (tgt := 135) dX7_triangles_35 rfl (fun h35 => absurd h35 (nI_ge hb9 (by omega))) (fun _ => ?_)
        refine g_iconst (pc := 38) (v := 0) dX7_triangles_38 rfl ?_
        refine g_istore (pc := 39) (lv' := [(0, _), (1, _), (2, _), (3, _), (4, _), (5, _)]) dX7_triangles_39 (nl rfl) rfl ?_
        refine g_iload (pc := 41) dX7_triangles_41 rfl ?_
        refine g_aload_n (pc := 43) dX7_triangles_43 rfl trivial ?_
        refine g_invV_r (pc := 44) (As := []) dX7_triangles_44 rfl (r_size h') rfl rfl (shK hS rfl) rfl rfl lk_X7_71 rfl (nb rfl) ⟨nb rfl, nb rfl⟩ rfl ?_
        refine g_icmp_ge (pc := 47) (tgt := 129) dX7_triangles_47 rfl (fun h47 => absurd h47 (nI_ge (show 0 < n by omega) (by omega))) (fun _ => ?_)
        refine g_iload_n (pc := 50) dX7_triangles_50 rfl ?_
        refine g_iload (pc := 51) dX7_triangles_51 rfl ?_
        refine g_icmp_eq (pc := 53) (tgt := 129) dX7_triangles_53 rfl (fun _ => ?_) (fun h53 => absurd ((by rw [hab])) h53)
        exact h9
      · rw [if_neg hab] at ihb
        have hne : ¬ nI a = nI b := fun z => hab ((nI_eq (by omega) (by omega)).mp z)
        cases h4 : hb (A s a) b with
        | false =>
          rw [if_neg (by rw [h4]; decide)] at ihb
          have h9 := h129 x1 0 (Or.inr trivial) ihb
          refine g_iload (pc := 29) dX7_triangles_29 rfl ?_
          refine g_aload_n (pc := 31) dX7_triangles_31 rfl trivial ?_
          refine g_invV_r (pc := 32) (As := []) dX7_triangles_32 rfl (r_size h') rfl rfl (shK hS rfl) rfl rfl lk_X7_71 rfl (nb rfl) ⟨nb rfl, nb rfl⟩ rfl ?_
          refine g_icmp_ge (pc := 35) (tgt := 135) dX7_triangles_35 rfl (fun h35 => absurd h35 (nI_ge hb9 (by omega))) (fun _ => ?_)
          refine g_iconst (pc := 38) (v := 0) dX7_triangles_38 rfl ?_
          refine g_istore (pc := 39) (lv' := [(0, _), (1, _), (2, _), (3, _), (4, _), (5, _)]) dX7_triangles_39 (nl rfl) rfl ?_
          refine g_iload (pc := 41) dX7_triangles_41 rfl ?_
          refine g_aload_n (pc := 43) dX7_triangles_43 rfl trivial ?_
          refine g_invV_r (pc := 44) (As := []) dX7_triangles_44 rfl (r_size h') rfl rfl (shK hS rfl) rfl rfl lk_X7_71 rfl (nb rfl) ⟨nb rfl, nb rfl⟩ rfl ?_
          refine g_icmp_ge (pc := 47) (tgt := 129) dX7_triangles_47 rfl (fun h47 => absurd h47 (nI_ge (show 0 < n by omega) (by omega))) (fun _ => ?_)
          refine g_iload_n (pc := 50) dX7_triangles_50 rfl ?_
          refine g_iload (pc := 51) dX7_triangles_51 rfl ?_
          refine g_icmp_eq (pc := 53) (tgt := 129) dX7_triangles_53 rfl (fun h53 => absurd h53 (hne)) (fun _ => ?_)
          refine g_aload_n (pc := 56) dX7_triangles_56 rfl trivial ?_
          refine g_iload_n (pc := 57) dX7_triangles_57 rfl ?_
          refine g_iload_n (pc := 58) dX7_triangles_58 rfl ?_
          refine g_invV_r (pc := 59) (As := [_, _]) dX7_triangles_59 rfl ((hrow a ha)) rfl rfl (shK hS rfl) rfl rfl lk_X7_227 rfl (nb rfl) ⟨nb rfl, nb rfl⟩ rfl ?_
          refine g_iload (pc := 62) dX7_triangles_62 rfl ?_
          refine g_invS_r (pc := 64) (As := [_, _]) dX7_triangles_64 rfl (r_one (show b < 32 by omega)) rfl rfl lk_X7_231 rfl (nb rfl) ⟨nb rfl, nb rfl⟩ rfl ?_
          rw [h4]
          refine g_iconst (pc := 67) (v := 1) dX7_triangles_67 rfl ?_
          refine g_icmp_ne (pc := 68) (tgt := 129) dX7_triangles_68 rfl (fun _ => ?_) (fun h68 => absurd ((by decide)) h68)
          exact h9
        | true =>
          rw [if_pos h4] at ihb
          refine g_iload (pc := 29) dX7_triangles_29 rfl ?_
          refine g_aload_n (pc := 31) dX7_triangles_31 rfl trivial ?_
          refine g_invV_r (pc := 32) (As := []) dX7_triangles_32 rfl (r_size h') rfl rfl (shK hS rfl) rfl rfl lk_X7_71 rfl (nb rfl) ⟨nb rfl, nb rfl⟩ rfl ?_
          refine g_icmp_ge (pc := 35) (tgt := 135) dX7_triangles_35 rfl (fun h35 => absurd h35 (nI_ge hb9 (by omega))) (fun _ => ?_)
          refine g_iconst (pc := 38) (v := 0) dX7_triangles_38 rfl ?_
          refine g_istore (pc := 39) (lv' := [(0, _), (1, _), (2, _), (3, _), (4, _), (5, _)]) dX7_triangles_39 (nl rfl) rfl ?_
          refine go_loop (pc := 41) n (fun i => [(0, .ref 198), (1, .int (nI s)), (2, .int (x1 + nI (pcb (tcP (A s) a b) i))), (3, .int (nI a)), (4, .int (nI b)), (5, .int (nI i))]) (fun _ => thr M 0) ⟨rfl, rfl, by show some (Value.int x1) = some (.int (x1 + 0)); rw [Int32.add_zero], rfl, rfl, rfl, trivial⟩ rfl ?_ ?_
          · intro c hc ihc
            rw [pcb] at ihc
            generalize pcb (tcP (A s) a b) n = P9 at *
            have hcP : tcP (A s) a b c = (!decide (c = a) && !decide (c = b) && hb (A s b) c && hb (A s c) a) := rfl
            generalize tcP (A s) a b c = w at *
            generalize pcb (tcP (A s) a b) c = P1 at *
            have hadd : ∀ (m : Nat), x1 + nI P1 + nI m = x1 + nI (P1 + m) := fun m => by rw [Int32.add_assoc, nI_add]
            have ha0 := hadd 0
            have ha1 := hadd 1
            by_cases hca : c = a
            · have hw : w = false := by rw [hcP]; simp [hca]
              rw [hw] at ihc
              refine g_iload (pc := 41) dX7_triangles_41 rfl ?_
              refine g_aload_n (pc := 43) dX7_triangles_43 rfl trivial ?_
              refine g_invV_r (pc := 44) (As := []) dX7_triangles_44 rfl (r_size h') rfl rfl (shK hS rfl) rfl rfl lk_X7_71 rfl (nb rfl) ⟨nb rfl, nb rfl⟩ rfl ?_
              refine g_icmp_ge (pc := 47) (tgt := 129) dX7_triangles_47 rfl (fun h47 => absurd h47 (nI_ge hc (by omega))) (fun _ => ?_)
              refine g_iload_n (pc := 50) dX7_triangles_50 rfl ?_
              refine g_iload (pc := 51) dX7_triangles_51 rfl ?_
              refine g_icmp_eq (pc := 53) (tgt := 129) dX7_triangles_53 rfl (fun h53 => absurd h53 (hne)) (fun _ => ?_)
              refine g_aload_n (pc := 56) dX7_triangles_56 rfl trivial ?_
              refine g_iload_n (pc := 57) dX7_triangles_57 rfl ?_
              refine g_iload_n (pc := 58) dX7_triangles_58 rfl ?_
              refine g_invV_r (pc := 59) (As := [_, _]) dX7_triangles_59 rfl ((hrow a ha)) rfl rfl (shK hS rfl) rfl rfl lk_X7_227 rfl (nb rfl) ⟨nb rfl, nb rfl⟩ rfl ?_
              refine g_iload (pc := 62) dX7_triangles_62 rfl ?_
              refine g_invS_r (pc := 64) (As := [_, _]) dX7_triangles_64 rfl (r_one (show b < 32 by omega)) rfl rfl lk_X7_231 rfl (nb rfl) ⟨nb rfl, nb rfl⟩ rfl ?_
              rw [h4]
              refine g_iconst (pc := 67) (v := 1) dX7_triangles_67 rfl ?_
              refine g_icmp_ne (pc := 68) (tgt := 129) dX7_triangles_68 rfl (fun h68 => absurd h68 ((fun z => z rfl))) (fun _ => ?_)
              refine g_iload_n (pc := 71) dX7_triangles_71 rfl ?_
              refine g_iload (pc := 72) dX7_triangles_72 rfl ?_
              refine g_iload_n (pc := 74) dX7_triangles_74 rfl ?_
              refine g_icmp_eq (pc := 75) (tgt := 120) dX7_triangles_75 rfl (fun _ => ?_) (fun h75 => absurd ((by rw [hca])) h75)
              refine g_iconst (pc := 120) (v := 0) dX7_triangles_120 rfl ?_
              refine g_iadd (pc := 121) dX7_triangles_121 ?_
              rw [show (0 : Int32) = nI 0 from rfl, ha0]
              refine g_istore_n (pc := 122) (lv' := [(0, _), (1, _), (2, _), (3, _), (4, _), (5, _)]) dX7_triangles_122 (nl rfl) rfl ?_
              refine g_iinc (pc := 123) (lv' := [(0, _), (1, _), (2, _), (3, _), (4, _), (5, _)]) dX7_triangles_123 rfl (nI_1 _) (nl rfl) rfl ?_
              refine g_goto (pc := 126) (tgt := 41) dX7_triangles_126 rfl ?_
              exact ihc
            · have hca' : ¬ nI c = nI a := fun z => hca ((nI_eq (by omega) (by omega)).mp z)
              by_cases hcb : c = b
              · have hw : w = false := by rw [hcP]; simp [hcb]
                rw [hw] at ihc
                refine g_iload (pc := 41) dX7_triangles_41 rfl ?_
                refine g_aload_n (pc := 43) dX7_triangles_43 rfl trivial ?_
                refine g_invV_r (pc := 44) (As := []) dX7_triangles_44 rfl (r_size h') rfl rfl (shK hS rfl) rfl rfl lk_X7_71 rfl (nb rfl) ⟨nb rfl, nb rfl⟩ rfl ?_
                refine g_icmp_ge (pc := 47) (tgt := 129) dX7_triangles_47 rfl (fun h47 => absurd h47 (nI_ge hc (by omega))) (fun _ => ?_)
                refine g_iload_n (pc := 50) dX7_triangles_50 rfl ?_
                refine g_iload (pc := 51) dX7_triangles_51 rfl ?_
                refine g_icmp_eq (pc := 53) (tgt := 129) dX7_triangles_53 rfl (fun h53 => absurd h53 (hne)) (fun _ => ?_)
                refine g_aload_n (pc := 56) dX7_triangles_56 rfl trivial ?_
                refine g_iload_n (pc := 57) dX7_triangles_57 rfl ?_
                refine g_iload_n (pc := 58) dX7_triangles_58 rfl ?_
                refine g_invV_r (pc := 59) (As := [_, _]) dX7_triangles_59 rfl ((hrow a ha)) rfl rfl (shK hS rfl) rfl rfl lk_X7_227 rfl (nb rfl) ⟨nb rfl, nb rfl⟩ rfl ?_
                refine g_iload (pc := 62) dX7_triangles_62 rfl ?_
                refine g_invS_r (pc := 64) (As := [_, _]) dX7_triangles_64 rfl (r_one (show b < 32 by omega)) rfl rfl lk_X7_231 rfl (nb rfl) ⟨nb rfl, nb rfl⟩ rfl ?_
                rw [h4]
                refine g_iconst (pc := 67) (v := 1) dX7_triangles_67 rfl ?_
                refine g_icmp_ne (pc := 68) (tgt := 129) dX7_triangles_68 rfl (fun h68 => absurd h68 ((fun z => z rfl))) (fun _ => ?_)
                refine g_iload_n (pc := 71) dX7_triangles_71 rfl ?_
                refine g_iload (pc := 72) dX7_triangles_72 rfl ?_
                refine g_iload_n (pc := 74) dX7_triangles_74 rfl ?_
                refine g_icmp_eq (pc := 75) (tgt := 120) dX7_triangles_75 rfl (fun h75 => absurd h75 (hca')) (fun _ => ?_)
                refine g_iload (pc := 78) dX7_triangles_78 rfl ?_
                refine g_iload (pc := 80) dX7_triangles_80 rfl ?_
                refine g_icmp_eq (pc := 82) (tgt := 120) dX7_triangles_82 rfl (fun _ => ?_) (fun h82 => absurd ((by rw [hcb])) h82)
                refine g_iconst (pc := 120) (v := 0) dX7_triangles_120 rfl ?_
                refine g_iadd (pc := 121) dX7_triangles_121 ?_
                rw [show (0 : Int32) = nI 0 from rfl, ha0]
                refine g_istore_n (pc := 122) (lv' := [(0, _), (1, _), (2, _), (3, _), (4, _), (5, _)]) dX7_triangles_122 (nl rfl) rfl ?_
                refine g_iinc (pc := 123) (lv' := [(0, _), (1, _), (2, _), (3, _), (4, _), (5, _)]) dX7_triangles_123 rfl (nI_1 _) (nl rfl) rfl ?_
                refine g_goto (pc := 126) (tgt := 41) dX7_triangles_126 rfl ?_
                exact ihc
              · have hcb' : ¬ nI c = nI b := fun z => hcb ((nI_eq (by omega) (by omega)).mp z)
                cases h5 : hb (A s b) c with
                | false =>
                  have hw : w = false := by rw [hcP, h5]; simp
                  rw [hw] at ihc
                  refine g_iload (pc := 41) dX7_triangles_41 rfl ?_
                  refine g_aload_n (pc := 43) dX7_triangles_43 rfl trivial ?_
                  refine g_invV_r (pc := 44) (As := []) dX7_triangles_44 rfl (r_size h') rfl rfl (shK hS rfl) rfl rfl lk_X7_71 rfl (nb rfl) ⟨nb rfl, nb rfl⟩ rfl ?_
                  refine g_icmp_ge (pc := 47) (tgt := 129) dX7_triangles_47 rfl (fun h47 => absurd h47 (nI_ge hc (by omega))) (fun _ => ?_)
                  refine g_iload_n (pc := 50) dX7_triangles_50 rfl ?_
                  refine g_iload (pc := 51) dX7_triangles_51 rfl ?_
                  refine g_icmp_eq (pc := 53) (tgt := 129) dX7_triangles_53 rfl (fun h53 => absurd h53 (hne)) (fun _ => ?_)
                  refine g_aload_n (pc := 56) dX7_triangles_56 rfl trivial ?_
                  refine g_iload_n (pc := 57) dX7_triangles_57 rfl ?_
                  refine g_iload_n (pc := 58) dX7_triangles_58 rfl ?_
                  refine g_invV_r (pc := 59) (As := [_, _]) dX7_triangles_59 rfl ((hrow a ha)) rfl rfl (shK hS rfl) rfl rfl lk_X7_227 rfl (nb rfl) ⟨nb rfl, nb rfl⟩ rfl ?_
                  refine g_iload (pc := 62) dX7_triangles_62 rfl ?_
                  refine g_invS_r (pc := 64) (As := [_, _]) dX7_triangles_64 rfl (r_one (show b < 32 by omega)) rfl rfl lk_X7_231 rfl (nb rfl) ⟨nb rfl, nb rfl⟩ rfl ?_
                  rw [h4]
                  refine g_iconst (pc := 67) (v := 1) dX7_triangles_67 rfl ?_
                  refine g_icmp_ne (pc := 68) (tgt := 129) dX7_triangles_68 rfl (fun h68 => absurd h68 ((fun z => z rfl))) (fun _ => ?_)
                  refine g_iload_n (pc := 71) dX7_triangles_71 rfl ?_
                  refine g_iload (pc := 72) dX7_triangles_72 rfl ?_
                  refine g_iload_n (pc := 74) dX7_triangles_74 rfl ?_
                  refine g_icmp_eq (pc := 75) (tgt := 120) dX7_triangles_75 rfl (fun h75 => absurd h75 (hca')) (fun _ => ?_)
                  refine g_iload (pc := 78) dX7_triangles_78 rfl ?_
                  refine g_iload (pc := 80) dX7_triangles_80 rfl ?_
                  refine g_icmp_eq (pc := 82) (tgt := 120) dX7_triangles_82 rfl (fun h82 => absurd h82 (hcb')) (fun _ => ?_)
                  refine g_aload_n (pc := 85) dX7_triangles_85 rfl trivial ?_
                  refine g_iload_n (pc := 86) dX7_triangles_86 rfl ?_
                  refine g_iload (pc := 87) dX7_triangles_87 rfl ?_
                  refine g_invV_r (pc := 89) (As := [_, _]) dX7_triangles_89 rfl ((hrow b hb9)) rfl rfl (shK hS rfl) rfl rfl lk_X7_227 rfl (nb rfl) ⟨nb rfl, nb rfl⟩ rfl ?_
                  refine g_iload (pc := 92) dX7_triangles_92 rfl ?_
                  refine g_invS_r (pc := 94) (As := [_, _]) dX7_triangles_94 rfl (r_one (show c < 32 by omega)) rfl rfl lk_X7_231 rfl (nb rfl) ⟨nb rfl, nb rfl⟩ rfl ?_
                  rw [h5]
                  refine g_iconst (pc := 97) (v := 1) dX7_triangles_97 rfl ?_
                  refine g_icmp_ne (pc := 98) (tgt := 120) dX7_triangles_98 rfl (fun _ => ?_) (fun h98 => absurd ((by decide)) h98)
                  refine g_iconst (pc := 120) (v := 0) dX7_triangles_120 rfl ?_
                  refine g_iadd (pc := 121) dX7_triangles_121 ?_
                  rw [show (0 : Int32) = nI 0 from rfl, ha0]
                  refine g_istore_n (pc := 122) (lv' := [(0, _), (1, _), (2, _), (3, _), (4, _), (5, _)]) dX7_triangles_122 (nl rfl) rfl ?_
                  refine g_iinc (pc := 123) (lv' := [(0, _), (1, _), (2, _), (3, _), (4, _), (5, _)]) dX7_triangles_123 rfl (nI_1 _) (nl rfl) rfl ?_
                  refine g_goto (pc := 126) (tgt := 41) dX7_triangles_126 rfl ?_
                  exact ihc
                | true =>
                  cases h6 : hb (A s c) a with
                  | false =>
                    have hw : w = false := by rw [hcP, h6]; simp
                    rw [hw] at ihc
                    refine g_iload (pc := 41) dX7_triangles_41 rfl ?_
                    refine g_aload_n (pc := 43) dX7_triangles_43 rfl trivial ?_
                    refine g_invV_r (pc := 44) (As := []) dX7_triangles_44 rfl (r_size h') rfl rfl (shK hS rfl) rfl rfl lk_X7_71 rfl (nb rfl) ⟨nb rfl, nb rfl⟩ rfl ?_
                    refine g_icmp_ge (pc := 47) (tgt := 129) dX7_triangles_47 rfl (fun h47 => absurd h47 (nI_ge hc (by omega))) (fun _ => ?_)
                    refine g_iload_n (pc := 50) dX7_triangles_50 rfl ?_
                    refine g_iload (pc := 51) dX7_triangles_51 rfl ?_
                    refine g_icmp_eq (pc := 53) (tgt := 129) dX7_triangles_53 rfl (fun h53 => absurd h53 (hne)) (fun _ => ?_)
                    refine g_aload_n (pc := 56) dX7_triangles_56 rfl trivial ?_
                    refine g_iload_n (pc := 57) dX7_triangles_57 rfl ?_
                    refine g_iload_n (pc := 58) dX7_triangles_58 rfl ?_
                    refine g_invV_r (pc := 59) (As := [_, _]) dX7_triangles_59 rfl ((hrow a ha)) rfl rfl (shK hS rfl) rfl rfl lk_X7_227 rfl (nb rfl) ⟨nb rfl, nb rfl⟩ rfl ?_
                    refine g_iload (pc := 62) dX7_triangles_62 rfl ?_
                    refine g_invS_r (pc := 64) (As := [_, _]) dX7_triangles_64 rfl (r_one (show b < 32 by omega)) rfl rfl lk_X7_231 rfl (nb rfl) ⟨nb rfl, nb rfl⟩ rfl ?_
                    rw [h4]
                    refine g_iconst (pc := 67) (v := 1) dX7_triangles_67 rfl ?_
                    refine g_icmp_ne (pc := 68) (tgt := 129) dX7_triangles_68 rfl (fun h68 => absurd h68 ((fun z => z rfl))) (fun _ => ?_)
                    refine g_iload_n (pc := 71) dX7_triangles_71 rfl ?_
                    refine g_iload (pc := 72) dX7_triangles_72 rfl ?_
                    refine g_iload_n (pc := 74) dX7_triangles_74 rfl ?_
                    refine g_icmp_eq (pc := 75) (tgt := 120) dX7_triangles_75 rfl (fun h75 => absurd h75 (hca')) (fun _ => ?_)
                    refine g_iload (pc := 78) dX7_triangles_78 rfl ?_
                    refine g_iload (pc := 80) dX7_triangles_80 rfl ?_
                    refine g_icmp_eq (pc := 82) (tgt := 120) dX7_triangles_82 rfl (fun h82 => absurd h82 (hcb')) (fun _ => ?_)
                    refine g_aload_n (pc := 85) dX7_triangles_85 rfl trivial ?_
                    refine g_iload_n (pc := 86) dX7_triangles_86 rfl ?_
                    refine g_iload (pc := 87) dX7_triangles_87 rfl ?_
                    refine g_invV_r (pc := 89) (As := [_, _]) dX7_triangles_89 rfl ((hrow b hb9)) rfl rfl (shK hS rfl) rfl rfl lk_X7_227 rfl (nb rfl) ⟨nb rfl, nb rfl⟩ rfl ?_
                    refine g_iload (pc := 92) dX7_triangles_92 rfl ?_
                    refine g_invS_r (pc := 94) (As := [_, _]) dX7_triangles_94 rfl (r_one (show c < 32 by omega)) rfl rfl lk_X7_231 rfl (nb rfl) ⟨nb rfl, nb rfl⟩ rfl ?_
                    rw [h5]
                    refine g_iconst (pc := 97) (v := 1) dX7_triangles_97 rfl ?_
                    refine g_icmp_ne (pc := 98) (tgt := 120) dX7_triangles_98 rfl (fun h98 => absurd h98 ((fun z => z rfl))) (fun _ => ?_)
                    refine g_aload_n (pc := 101) dX7_triangles_101 rfl trivial ?_
                    refine g_iload_n (pc := 102) dX7_triangles_102 rfl ?_
                    refine g_iload (pc := 103) dX7_triangles_103 rfl ?_
                    refine g_invV_r (pc := 105) (As := [_, _]) dX7_triangles_105 rfl ((hrow c hc)) rfl rfl (shK hS rfl) rfl rfl lk_X7_227 rfl (nb rfl) ⟨nb rfl, nb rfl⟩ rfl ?_
                    refine g_iload_n (pc := 108) dX7_triangles_108 rfl ?_
                    refine g_invS_r (pc := 109) (As := [_, _]) dX7_triangles_109 rfl (r_one (show a < 32 by omega)) rfl rfl lk_X7_231 rfl (nb rfl) ⟨nb rfl, nb rfl⟩ rfl ?_
                    rw [h6]
                    refine g_iconst (pc := 112) (v := 1) dX7_triangles_112 rfl ?_
                    refine g_icmp_ne (pc := 113) (tgt := 120) dX7_triangles_113 rfl (fun _ => ?_) (fun h113 => absurd ((by decide)) h113)
                    refine g_iconst (pc := 120) (v := 0) dX7_triangles_120 rfl ?_
                    refine g_iadd (pc := 121) dX7_triangles_121 ?_
                    rw [show (0 : Int32) = nI 0 from rfl, ha0]
                    refine g_istore_n (pc := 122) (lv' := [(0, _), (1, _), (2, _), (3, _), (4, _), (5, _)]) dX7_triangles_122 (nl rfl) rfl ?_
                    refine g_iinc (pc := 123) (lv' := [(0, _), (1, _), (2, _), (3, _), (4, _), (5, _)]) dX7_triangles_123 rfl (nI_1 _) (nl rfl) rfl ?_
                    refine g_goto (pc := 126) (tgt := 41) dX7_triangles_126 rfl ?_
                    exact ihc
                  | true =>
                    have hw : w = true := by rw [hcP, h5, h6]; simp [hca, hcb]
                    rw [hw] at ihc
                    refine g_iload (pc := 41) dX7_triangles_41 rfl ?_
                    refine g_aload_n (pc := 43) dX7_triangles_43 rfl trivial ?_
                    refine g_invV_r (pc := 44) (As := []) dX7_triangles_44 rfl (r_size h') rfl rfl (shK hS rfl) rfl rfl lk_X7_71 rfl (nb rfl) ⟨nb rfl, nb rfl⟩ rfl ?_
                    refine g_icmp_ge (pc := 47) (tgt := 129) dX7_triangles_47 rfl (fun h47 => absurd h47 (nI_ge hc (by omega))) (fun _ => ?_)
                    refine g_iload_n (pc := 50) dX7_triangles_50 rfl ?_
                    refine g_iload (pc := 51) dX7_triangles_51 rfl ?_
                    refine g_icmp_eq (pc := 53) (tgt := 129) dX7_triangles_53 rfl (fun h53 => absurd h53 (hne)) (fun _ => ?_)
                    refine g_aload_n (pc := 56) dX7_triangles_56 rfl trivial ?_
                    refine g_iload_n (pc := 57) dX7_triangles_57 rfl ?_
                    refine g_iload_n (pc := 58) dX7_triangles_58 rfl ?_
                    refine g_invV_r (pc := 59) (As := [_, _]) dX7_triangles_59 rfl ((hrow a ha)) rfl rfl (shK hS rfl) rfl rfl lk_X7_227 rfl (nb rfl) ⟨nb rfl, nb rfl⟩ rfl ?_
                    refine g_iload (pc := 62) dX7_triangles_62 rfl ?_
                    refine g_invS_r (pc := 64) (As := [_, _]) dX7_triangles_64 rfl (r_one (show b < 32 by omega)) rfl rfl lk_X7_231 rfl (nb rfl) ⟨nb rfl, nb rfl⟩ rfl ?_
                    rw [h4]
                    refine g_iconst (pc := 67) (v := 1) dX7_triangles_67 rfl ?_
                    refine g_icmp_ne (pc := 68) (tgt := 129) dX7_triangles_68 rfl (fun h68 => absurd h68 ((fun z => z rfl))) (fun _ => ?_)
                    refine g_iload_n (pc := 71) dX7_triangles_71 rfl ?_
                    refine g_iload (pc := 72) dX7_triangles_72 rfl ?_
                    refine g_iload_n (pc := 74) dX7_triangles_74 rfl ?_
                    refine g_icmp_eq (pc := 75) (tgt := 120) dX7_triangles_75 rfl (fun h75 => absurd h75 (hca')) (fun _ => ?_)
                    refine g_iload (pc := 78) dX7_triangles_78 rfl ?_
                    refine g_iload (pc := 80) dX7_triangles_80 rfl ?_
                    refine g_icmp_eq (pc := 82) (tgt := 120) dX7_triangles_82 rfl (fun h82 => absurd h82 (hcb')) (fun _ => ?_)
                    refine g_aload_n (pc := 85) dX7_triangles_85 rfl trivial ?_
                    refine g_iload_n (pc := 86) dX7_triangles_86 rfl ?_
                    refine g_iload (pc := 87) dX7_triangles_87 rfl ?_
                    refine g_invV_r (pc := 89) (As := [_, _]) dX7_triangles_89 rfl ((hrow b hb9)) rfl rfl (shK hS rfl) rfl rfl lk_X7_227 rfl (nb rfl) ⟨nb rfl, nb rfl⟩ rfl ?_
                    refine g_iload (pc := 92) dX7_triangles_92 rfl ?_
                    refine g_invS_r (pc := 94) (As := [_, _]) dX7_triangles_94 rfl (r_one (show c < 32 by omega)) rfl rfl lk_X7_231 rfl (nb rfl) ⟨nb rfl, nb rfl⟩ rfl ?_
                    rw [h5]
                    refine g_iconst (pc := 97) (v := 1) dX7_triangles_97 rfl ?_
                    refine g_icmp_ne (pc := 98) (tgt := 120) dX7_triangles_98 rfl (fun h98 => absurd h98 ((fun z => z rfl))) (fun _ => ?_)
                    refine g_aload_n (pc := 101) dX7_triangles_101 rfl trivial ?_
                    refine g_iload_n (pc := 102) dX7_triangles_102 rfl ?_
                    refine g_iload (pc := 103) dX7_triangles_103 rfl ?_
                    refine g_invV_r (pc := 105) (As := [_, _]) dX7_triangles_105 rfl ((hrow c hc)) rfl rfl (shK hS rfl) rfl rfl lk_X7_227 rfl (nb rfl) ⟨nb rfl, nb rfl⟩ rfl ?_
                    refine g_iload_n (pc := 108) dX7_triangles_108 rfl ?_
                    refine g_invS_r (pc := 109) (As := [_, _]) dX7_triangles_109 rfl (r_one (show a < 32 by omega)) rfl rfl lk_X7_231 rfl (nb rfl) ⟨nb rfl, nb rfl⟩ rfl ?_
                    rw [h6]
                    refine g_iconst (pc := 112) (v := 1) dX7_triangles_112 rfl ?_
                    refine g_icmp_ne (pc := 113) (tgt := 120) dX7_triangles_113 rfl (fun h113 => absurd h113 ((fun z => z rfl))) (fun _ => ?_)
                    refine g_iconst (pc := 116) (v := 1) dX7_triangles_116 rfl ?_
                    refine g_goto (pc := 117) (tgt := 121) dX7_triangles_117 rfl ?_
                    refine g_iadd (pc := 121) dX7_triangles_121 ?_
                    rw [show (1 : Int32) = nI 1 from rfl, ha1]
                    refine g_istore_n (pc := 122) (lv' := [(0, _), (1, _), (2, _), (3, _), (4, _), (5, _)]) dX7_triangles_122 (nl rfl) rfl ?_
                    refine g_iinc (pc := 123) (lv' := [(0, _), (1, _), (2, _), (3, _), (4, _), (5, _)]) dX7_triangles_123 rfl (nI_1 _) (nl rfl) rfl ?_
                    refine g_goto (pc := 126) (tgt := 41) dX7_triangles_126 rfl ?_
                    exact ihc
          · have h9 := h129 _ n (Or.inr trivial) ihb
            refine g_iload (pc := 41) dX7_triangles_41 rfl ?_
            refine g_aload_n (pc := 43) dX7_triangles_43 rfl trivial ?_
            refine g_invV_r (pc := 44) (As := []) dX7_triangles_44 rfl (r_size h') rfl rfl (shK hS rfl) rfl rfl lk_X7_71 rfl (nb rfl) ⟨nb rfl, nb rfl⟩ rfl ?_
            refine g_icmp_ge (pc := 47) (tgt := 129) dX7_triangles_47 rfl (fun _ => ?_) (fun h47 => absurd (nI_le (Nat.le_refl _) (by omega)) h47)
            exact h9
    · refine g_iload (pc := 29) dX7_triangles_29 rfl ?_
      refine g_aload_n (pc := 31) dX7_triangles_31 rfl trivial ?_
      refine g_invV_r (pc := 32) (As := []) dX7_triangles_32 rfl (r_size h') rfl rfl (shK hS rfl) rfl rfl lk_X7_71 rfl (nb rfl) ⟨nb rfl, nb rfl⟩ rfl ?_
      refine g_icmp_ge (pc := 35) (tgt := 135) dX7_triangles_35 rfl (fun _ => ?_) (fun h35 => absurd (nI_le (Nat.le_refl _) (by omega)) h35)
      refine g_iinc (pc := 135) (lv' := [(0, _), (1, _), (2, _), (3, _), (4, _)]) dX7_triangles_135 rfl (nI_1 _) (nl rfl) rfl ?_
      refine g_goto (pc := 138) (tgt := 18) dX7_triangles_138 rfl ?_
      exact g_sub (lv' := [(0, _), (1, _), (2, _), (3, _)]) ⟨rfl, rfl, rfl, rfl, trivial⟩ iha
  · refine g_iload_n (pc := 18) dX7_triangles_18 rfl ?_
    refine g_aload_n (pc := 19) dX7_triangles_19 rfl trivial ?_
    refine g_invV_r (pc := 20) (As := []) dX7_triangles_20 rfl (r_size h') rfl rfl (shK hS rfl) rfl rfl lk_X7_71 rfl (nb rfl) ⟨nb rfl, nb rfl⟩ rfl ?_
    refine g_icmp_ge (pc := 23) (tgt := 141) dX7_triangles_23 rfl (fun _ => ?_) (fun h23 => absurd (nI_le (Nat.le_refl _) (by omega)) h23)
    refine g_iload_n (pc := 141) dX7_triangles_141 rfl ?_
    refine g_ireturn (pc := 142) dX7_triangles_142 rfl rfl ?_
    exact ⟨rfl, rfl⟩
theorem t_triangles {v : Int32} (h : Rr M n A) (hx : ¬ inR v 6) : EvR l jX7_triangles 4 160 0 0 [.ref 198, .int v] M (.inl (some (.int 0))) (thr M 1) := by
  have hS := h.1
  refine ev_intro rfl (nb rfl) rfl ?_
  refine g_aload_n (pc := 0) dX7_triangles_0 rfl trivial ?_
  refine g_iload_n (pc := 1) dX7_triangles_1 rfl ?_
  refine g_invS_r (pc := 2) (As := [_]) dX7_triangles_2 rfl (r_isSlot_f hx) rfl rfl lk_X7_216 rfl (nb rfl) ⟨nb rfl, nb rfl⟩ rfl ?_
  refine g_iconst (pc := 5) (v := 1) dX7_triangles_5 rfl ?_
  refine g_invV_r (pc := 6) (As := [_, _]) dX7_triangles_6 rfl (r_isThrown_1 hS) rfl rfl (shK hS rfl) rfl rfl lk_X7_209 rfl (nb rfl) ⟨nb rfl, nb rfl⟩ rfl ?_
  refine g_if_eq (pc := 9) (tgt := 14) dX7_triangles_9 rfl (fun h9 => absurd h9 ((by decide))) (fun _ => ?_)
  refine g_iconst (pc := 12) (v := 0) dX7_triangles_12 rfl ?_
  refine g_ireturn (pc := 13) dX7_triangles_13 rfl rfl ?_
  exact ⟨rfl, rfl⟩
end

