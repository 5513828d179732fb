/-! the law's load -/
/-- the reader with a text so far -/
def TD (M Mx : Mem) (T : Nat → Nat) (len : Nat) : Prop := Xt (fun i => i = 1 ∨ i = 2) M Mx ∧ mR Mx = mR M ∧ mK Mx = mK M ∧ mI Mx 1 1 = nI len ∧ (∀ j, j ≠ 1 → mI Mx 1 j = mI M 1 j) ∧ ∀ j, j < len → mI Mx 2 j = nI (T j)
section
variable {l : Launch} {M M' Mx : Mem} {s v len m : Nat} {tx : List Int32} {T : Nat → Nat}
theorem TD.S (h : TD M Mx T len) (hS : Shp M) : Shp Mx := by
  unfold Shp at *
  rw [h.2.1, h.2.2.1]
  exact hS
theorem TD.app (h : TD M Mx T len) (hm : m ≤ 8) (hT : ∀ j, j < m → 1 ≤ T (len + j) ∧ T (len + j) < 128) (hl : len + 8 ≤ 600) : apV Mx len (pkL (fun j => T (len + j)) m) = nI (len + m) ∧ TD M (apM Mx len (pkL (fun j => T (len + j)) m)) T (len + m) := by
  obtain ⟨h1, h2, h3, h4, h5, h6⟩ := h
  have hmr := mrN_le (pkL (fun j => T (len + j)) m) 8
  have ha := apL_pk (X := mI Mx 2) hm hT hl 8 (Nat.le_refl 8)
  rw [show 8 - (8 - m) = m by omega] at ha
  unfold apV apM
  rw [if_neg (by omega), if_neg (by omega), ha]
  refine ⟨rfl, ?_, h2, h3, apQ_1 _, fun j hj => ?_, fun j hj => ?_⟩
  · exact (h1.sI (a := 2) (f := fun j => if len ≤ j ∧ j < len + m then nI (T (len + (j - len))) else mI Mx 2 j) (fun _ => Or.inr rfl)).sI (fun _ => Or.inl rfl)
  · show fun_set (mI (sI Mx 2 _) 1) 1 _ j = _
    rw [fs_ne _ _ hj, sI_ne (by decide)]
    exact h5 j hj
  · rw [apQ_2]
    show (if len ≤ j ∧ j < len + m then nI (T (len + (j - len))) else mI Mx 2 j) = _
    by_cases e : len ≤ j
    · rw [if_pos ⟨e, hj⟩, show len + (j - len) = j by omega]
    · rw [if_neg (fun z => e z.1)]
      exact h6 j (by omega)
theorem k_load (hS : Shp M) (h0 : mI M 1 1 = 0) (hst : ST M s v tx) (hv : 198 ≤ v) (hT : ∀ j, j < tx.length → tx.getD j 0 = nI (T j) ∧ 1 ≤ T j ∧ T j < 128) (hl : tx.length ≤ 340) : EvO l jL_load 10 300 0 0 [.ref 0, .ref s] M (fun r M' => ∃ Mx, TD M Mx T tx.length ∧ r = some (.int (if (riR Mx tx.length).2.2.2.2.1 = 0 then nI (riN Mx tx.length) else -100 - (riR Mx tx.length).2.2.2.2.2)) ∧ M' = (if (riR Mx tx.length).2.2.2.2.1 = 0 then pI (replM (riM Mx tx.length) 17) 0 14 0 else riM Mx tx.length)) := by
  have ns : ¬ (s = 1 ∨ s = 2) := fun e => by
    have h8 := hst.1
    rcases e with e | e
    · rw [e, shK (i := 1) hS rfl] at h8
      cases h8
    · rw [e, shK (i := 2) hS rfl] at h8
      cases h8
  have st9 : ∀ {Mx : Mem} {len : Nat}, TD M Mx T len → ST Mx s v tx := fun {Mx len} h => by
    obtain ⟨a1, a2, a3, a4, a5, a6, a7⟩ := hst
    exact ⟨h.1.k a1, by rw [h.2.1]; exact a2, by rw [h.1.I (k_lt a1) ns]; exact a3, h.1.k a4, fun j hj => by rw [h.1.I (k_lt a4) (by omega)]; exact a5 j hj, a6, a7⟩
  refine ev_intro rfl (nb rfl) rfl ?_
  refine g_iconst (pc := 0) (v := 0) dL_load_0 rfl ?_
  refine g_istore_n (pc := 1) (lv' := [(0, _), (1, _), (2, _)]) dL_load_1 (nl rfl) rfl ?_
  refine g_iconst (pc := 2) (v := 0) dL_load_2 rfl ?_
  refine g_istore_n (pc := 3) (lv' := [(0, _), (1, _), (2, _), (3, _)]) dL_load_3 (nl rfl) rfl ?_
  refine go_whileS (pc := 4) (tx.length + 8) (fun c (_ : Mem) => [(0, .ref 0), (1, .ref s), (2, .int (nI (min (8 * c) tx.length))), (3, .int (nI (8 * c)))]) (fun z => z) (fun c Mx => 8 * c < tx.length + 8 ∧ TD M Mx T (min (8 * c) tx.length)) M ⟨rfl, rfl, ?_, rfl, trivial⟩ rfl ⟨by omega, ?_⟩ (fun c Mx h => by omega) ?_
  · show some (Value.int 0) = some (Value.int (nI (min (8 * 0) tx.length)))
    rw [Nat.mul_zero, Nat.zero_min]
    rfl
  · rw [Nat.mul_zero, Nat.zero_min]
    exact ⟨Xt.rf _ M, rfl, rfl, h0, fun _ _ => rfl, fun j hj => absurd hj (Nat.not_lt_zero j)⟩
  · rintro c Mx ⟨hc, hD⟩ ih
    have hst1 := st9 hD
    have hS1 := hD.S hS
    rcases Nat.lt_or_ge (8 * c) tx.length with hlt | hge
    · rw [Nat.min_eq_left (Nat.le_of_lt hlt)] at hD
      have hmn : min (8 * (c + 1)) tx.length = 8 * c + min 8 (tx.length - 8 * c) := by omega
      have ha := hD.app (m := min 8 (tx.length - 8 * c)) (Nat.min_le_left _ _) (fun j hj => ⟨(hT _ (by omega)).2.1, (hT _ (by omega)).2.2⟩) (by omega)
      generalize hw : min 8 (tx.length - 8 * c) = w at *
      refine g_iload_n (pc := 4) dL_load_4 rfl ?_
      refine g_aload_n (pc := 5) dL_load_5 rfl trivial ?_
      refine g_invV_r (pc := 6) (As := []) dL_load_6 rfl (k_length hst1) rfl rfl hst1.1 rfl rfl lk_L_8 rfl (nb rfl) ⟨nb rfl, nb rfl⟩ rfl ?_
      refine g_icmp_ge (pc := 9) (tgt := 79) dL_load_9 rfl (fun h9 => absurd h9 (nI_ge hlt (by omega))) (fun _ => ?_)
      refine g_lconst (pc := 12) (v := 0) dL_load_12 rfl ?_
      refine g_lstore (pc := 13) (lv' := [(0, _), (1, _), (2, _), (3, _), (4, _)]) dL_load_13 (nl rfl) rfl ?_
      refine g_iload_n (pc := 15) dL_load_15 rfl ?_
      refine g_istore (pc := 16) (lv' := [(0, _), (1, _), (2, _), (3, _), (4, _), (6, _)]) dL_load_16 (nl rfl) rfl ?_
      refine go_loop (pc := 18) w (fun j => [(0, .ref 0), (1, .ref s), (2, .int (nI (8 * c + j))), (3, .int (nI (8 * c))), (4, .long (pkL (fun j => T (8 * c + j)) j)), (6, .int (nI (8 * c + j)))]) (fun _ => Mx) ⟨rfl, rfl, ?_, rfl, rfl, rfl, trivial⟩ rfl ?_ ?_
      · show some (Value.int (nI (min (8 * c) tx.length))) = some (Value.int (nI (8 * c + 0)))
        rw [Nat.min_eq_left (Nat.le_of_lt hlt)]
        rfl
      · intro j hj ih2
        refine g_iload (pc := 18) dL_load_18 rfl ?_
        refine g_iload_n (pc := 20) dL_load_20 rfl ?_
        refine g_bipush (pc := 21) (v := 8) dL_load_21 rfl ?_
        refine g_iadd (pc := 23) dL_load_23 ?_
        rw [show nI (8 * c) + 8 = nI (8 * c + 8) from nI_add _ 8]
        refine g_icmp_ge (pc := 24) (tgt := 60) dL_load_24 rfl (fun h24 => absurd h24 (nI_ge (show 8 * c + j < 8 * c + 8 by omega) (by omega))) (fun _ => ?_)
        refine g_iload (pc := 27) dL_load_27 rfl ?_
        refine g_aload_n (pc := 29) dL_load_29 rfl trivial ?_
        refine g_invV_r (pc := 30) (As := []) dL_load_30 rfl (k_length hst1) rfl rfl hst1.1 rfl rfl lk_L_8 rfl (nb rfl) ⟨nb rfl, nb rfl⟩ rfl ?_
        refine g_icmp_ge (pc := 33) (tgt := 60) dL_load_33 rfl (fun h33 => absurd h33 (nI_ge (show 8 * c + j < tx.length by omega) (by omega))) (fun _ => ?_)
        refine g_lload (pc := 36) dL_load_36 rfl ?_
        refine g_bipush (pc := 38) (v := 8) dL_load_38 rfl ?_
        refine g_lshl (pc := 40) dL_load_40 rfl ?_
        refine g_aload_n (pc := 41) dL_load_41 rfl trivial ?_
        refine g_iload (pc := 42) dL_load_42 rfl ?_
        refine g_invV_r (pc := 44) (As := [_]) dL_load_44 rfl (k_charAt hst1 (show 8 * c + j < tx.length by omega)) rfl rfl hst1.1 rfl rfl lk_L_14 rfl (nb rfl) ⟨nb rfl, nb rfl⟩ rfl ?_
        rw [(hT (8 * c + j) (by omega)).1]
        refine g_i2l (pc := 47) dL_load_47 rfl ?_
        refine g_lor (pc := 48) dL_load_48 ?_
        refine g_lstore (pc := 49) (lv' := [(0, _), (1, _), (2, _), (3, _), (4, _), (6, _)]) dL_load_49 (nl rfl) rfl ?_
        refine g_iinc (pc := 51) (lv' := [(0, _), (1, _), (2, _), (3, _), (4, _), (6, _)]) dL_load_51 rfl (nI_1 _) (nl rfl) rfl ?_
        refine g_iinc (pc := 54) (lv' := [(0, _), (1, _), (2, _), (3, _), (4, _), (6, _)]) dL_load_54 rfl (nI_1 _) (nl rfl) rfl ?_
        refine g_goto (pc := 57) (tgt := 18) dL_load_57 rfl ?_
        exact g_subk ih2 ⟨rfl, rfl, rfl, rfl, rfl, rfl, trivial⟩
      · have hend : Go l jL_load 10 300 0 0 (fun r M' => ∃ v, r = .inl v ∧ ∃ Mx, TD M Mx T tx.length ∧ v = some (.int (if (riR Mx tx.length).2.2.2.2.1 = 0 then nI (riN Mx tx.length) else -100 - (riR Mx tx.length).2.2.2.2.2)) ∧ M' = (if (riR Mx tx.length).2.2.2.2.1 = 0 then pI (replM (riM Mx tx.length) 17) 0 14 0 else riM Mx tx.length)) 60 [(0, .ref 0), (1, .ref s), (2, .int (nI (8 * c + w))), (3, .int (nI (8 * c))), (4, .long (pkL (fun j => T (8 * c + j)) w)), (6, .int (nI (8 * c + w)))] [] 0 0 Mx := by
          refine g_aload_n (pc := 60) dL_load_60 rfl trivial ?_
          refine g_lload (pc := 61) dL_load_61 rfl ?_
          refine g_invV_r (pc := 63) (As := [_]) dL_load_63 rfl (q_append hS1 hD.2.2.2.1 (by omega)) rfl rfl (shK hS1 rfl) rfl rfl lk_L_18 rfl (nb rfl) ⟨nb rfl, nb rfl⟩ rfl ?_
          rw [ha.1]
          refine g_iload_n (pc := 66) dL_load_66 rfl ?_
          refine g_icmp_eq (pc := 67) (tgt := 73) dL_load_67 rfl (fun _ => ?_) (fun h67 => absurd (rfl) h67)
          refine g_iinc (pc := 73) (lv' := [(0, _), (1, _), (2, _), (3, _), (4, _), (6, _)]) dL_load_73 rfl (nI_add (8 * c) 8) (nl rfl) rfl ?_
          refine g_goto (pc := 76) (tgt := 4) dL_load_76 rfl ?_
          refine g_subk (pc := 4) (ih _ ⟨by omega, by rw [hmn]; exact ha.2⟩) ⟨rfl, rfl, ?_, ?_, trivial⟩
          · show some (Value.int (nI (8 * c + w))) = some (Value.int (nI (min (8 * (c + 1)) tx.length)))
            rw [hmn]
          · show some (Value.int (nI (8 * c + 8))) = some (Value.int (nI (8 * (c + 1))))
            rfl
        rcases Nat.lt_or_ge w 8 with h8 | h8
        · refine g_iload (pc := 18) dL_load_18 rfl ?_
          refine g_iload_n (pc := 20) dL_load_20 rfl ?_
          refine g_bipush (pc := 21) (v := 8) dL_load_21 rfl ?_
          refine g_iadd (pc := 23) dL_load_23 ?_
          rw [show nI (8 * c) + 8 = nI (8 * c + 8) from nI_add _ 8]
          refine g_icmp_ge (pc := 24) (tgt := 60) dL_load_24 rfl (fun h24 => absurd h24 (nI_ge (show 8 * c + w < 8 * c + 8 by omega) (by omega))) (fun _ => ?_)
          refine g_iload (pc := 27) dL_load_27 rfl ?_
          refine g_aload_n (pc := 29) dL_load_29 rfl trivial ?_
          refine g_invV_r (pc := 30) (As := []) dL_load_30 rfl (k_length hst1) rfl rfl hst1.1 rfl rfl lk_L_8 rfl (nb rfl) ⟨nb rfl, nb rfl⟩ rfl ?_
          refine g_icmp_ge (pc := 33) (tgt := 60) dL_load_33 rfl (fun _ => ?_) (fun h33 => absurd (nI_le (show tx.length ≤ 8 * c + w by omega) (by omega)) h33)
          exact hend
        · refine g_iload (pc := 18) dL_load_18 rfl ?_
          refine g_iload_n (pc := 20) dL_load_20 rfl ?_
          refine g_bipush (pc := 21) (v := 8) dL_load_21 rfl ?_
          refine g_iadd (pc := 23) dL_load_23 ?_
          rw [show nI (8 * c) + 8 = nI (8 * c + 8) from nI_add _ 8]
          refine g_icmp_ge (pc := 24) (tgt := 60) dL_load_24 rfl (fun _ => ?_) (fun h24 => absurd (nI_le (show 8 * c + 8 ≤ 8 * c + w by omega) (by omega)) h24)
          exact hend
    · rw [Nat.min_eq_right hge] at hD
      refine g_iload_n (pc := 4) dL_load_4 rfl ?_
      refine g_aload_n (pc := 5) dL_load_5 rfl trivial ?_
      refine g_invV_r (pc := 6) (As := []) dL_load_6 rfl (k_length hst1) rfl rfl hst1.1 rfl rfl lk_L_8 rfl (nb rfl) ⟨nb rfl, nb rfl⟩ rfl ?_
      refine g_icmp_ge (pc := 9) (tgt := 79) dL_load_9 rfl (fun _ => ?_) (fun h9 => absurd (nI_le hge (by omega)) h9)
      refine g_aload_n (pc := 79) dL_load_79 rfl trivial ?_
      refine g_invV_r (pc := 80) (As := []) dL_load_80 rfl (u_load hS1 hD.2.2.2.1 (by omega)) rfl rfl (shK hS1 rfl) rfl rfl lk_L_24 rfl (nb rfl) ⟨nb rfl, nb rfl⟩ rfl ?_
      refine g_ireturn (pc := 83) dL_load_83 rfl rfl ?_
      exact ⟨_, rfl, Mx, hD, rfl, rfl⟩
end

