/-! the reference: order, triangles -/
theorem hb_jrF {f : Nat → Int32} {x : Int32} {c : Nat} : ∀ k, hb (jrF f x k) c = true ↔ ∃ i, i < k ∧ hb x i = true ∧ hb (f i) c = true
  | 0 => by rw [jrF, hb_0]; simp
  | k + 1 => by
    rw [jrF]
    by_cases h : hb x k = true
    · rw [if_pos h, hb_or, Bool.or_eq_true, hb_jrF k]
      constructor
      · rintro (⟨i, h1, h2, h3⟩ | h2)
        · exact ⟨i, by omega, h2, h3⟩
        · exact ⟨k, by omega, h, h2⟩
      · rintro ⟨i, h1, h2, h3⟩
        by_cases e : i = k
        · right; rw [← e]; exact h3
        · left; exact ⟨i, by omega, h2, h3⟩
    · rw [if_neg h, hb_jrF k]
      constructor
      · rintro ⟨i, h1, h2, h3⟩; exact ⟨i, by omega, h2, h3⟩
      · rintro ⟨i, h1, h2, h3⟩
        by_cases e : i = k
        · rw [e] at h2; exact absurd h2 h
        · exact ⟨i, by omega, h2, h3⟩
/-- the nodes that no edge enters -/
def frZ (f : Nat → Int32) (n : Nat) (x : Int32) : Int32 := x &&& (jrF f x n ^^^ -1)
theorem hb_frZ {f : Nat → Int32} {n c : Nat} {x : Int32} (hc : c < 32) : hb (frZ f n x) c = true ↔ hb x c = true ∧ ∀ i, i < n → ¬ (hb x i = true ∧ hb (f i) c = true) := by
  unfold frZ
  rw [hb_and, hb_not hc, Bool.and_eq_true]
  refine and_congr Iff.rfl ?_
  rw [Bool.not_eq_true', ← Bool.not_eq_true, hb_jrF]
  constructor
  · intro h i hi z; exact h ⟨i, hi, z⟩
  · rintro h ⟨i, hi, z⟩; exact h i hi z
def frV (f : Nat → Int32) (n : Nat) (x : Int32) : Int32 := if frZ f n x = 0 then -1 else nI (lowN (frZ f n x))
theorem hb_ne0 {x : Int32} {t : Nat} (h : hb x t = true) : x ≠ 0 := fun e => by rw [e, hb_0] at h; cases h
section
variable {l : Launch} {M : Mem} {n : Nat} {A : Nat → Nat → Int32}
theorem r_free {s : Nat} {x : Int32} (h : Rr M n A) (hs : s < 6) (hx : ∀ i, n ≤ i → hb x i = false) : EvR l jX7_free 1 30 0 0 [.ref 198, .int (nI s), .long (uL x)] M (.inl (some (.int (frV (A s) n x)))) M := by
  have hn := h.2.2.2.1
  have h0 := h.2.2.1
  have hS := h.1
  have hZ := fun c (hc : c < 32) => hb_frZ (f := A s) (n := n) (x := x) hc
  refine ev_intro rfl (nb rfl) rfl ?_
  refine g_iconst (pc := 0) (v := 0) dX7_free_0 rfl ?_
  refine g_istore (pc := 1) (lv' := [(0, _), (1, _), (2, _), (4, _)]) dX7_free_1 (nl rfl) rfl ?_
  refine go_while (pc := 3) (σ := Nat) (fun q => q ≤ n ∧ ∀ j, j < q → hb (frZ (A s) n x) j = false) (fun q => n - q) (fun q => [(0, .ref 198), (1, .int (nI s)), (2, .long (uL x)), (4, .int (nI q))]) (fun _ => M) 0 ⟨rfl, rfl, rfl, rfl, trivial⟩ rfl ⟨by omega, fun j hj => by omega⟩ ?_
  rintro q ⟨h1, h3⟩ ih
  by_cases hq : q < n
  · have hZq := hZ q (by omega)
    have hnext : hb (frZ (A s) n x) q = false → Go l jX7_free 1 30 0 0 (fun r' M' => r' = .inl (some (.int (frV (A s) n x))) ∧ M' = M) 91 [(0, .ref 198), (1, .int (nI s)), (2, .long (uL x)), (4, .int (nI q))] [] 0 0 M := by
      intro hz
      have := ih (q + 1) ⟨hq, fun j hj => (by omega : j < q ∨ j = q).elim (h3 j) (fun e => e ▸ hz)⟩ (by omega)
      refine g_iinc (pc := 91) (lv' := [(0, _), (1, _), (2, _), (4, _)]) dX7_free_91 rfl (nI_1 _) (nl rfl) rfl ?_
      refine g_goto (pc := 94) (tgt := 3) dX7_free_94 rfl ?_
      exact this
    have hno : hb (frZ (A s) n x) q = false → ∀ z, z ≤ n → Go l jX7_free 1 30 0 0 (fun r' M' => r' = .inl (some (.int (frV (A s) n x))) ∧ M' = M) 32 [(0, .ref 198), (1, .int (nI s)), (2, .long (uL x)), (4, .int (nI q)), (5, .int 0), (6, .int (nI z))] [] 0 0 M := by
      intro hz z hz9
      have h91 := hnext hz
      by_cases hzn : z < n
      · refine g_iload (pc := 32) dX7_free_32 rfl ?_
        refine g_aload_n (pc := 34) dX7_free_34 rfl trivial ?_
        refine g_invV_r (pc := 35) (As := []) dX7_free_35 rfl (r_size h) rfl rfl (shK hS rfl) rfl rfl lk_X7_71 rfl (nb rfl) ⟨nb rfl, nb rfl⟩ rfl ?_
        refine g_icmp_ge (pc := 38) (tgt := 83) dX7_free_38 rfl (fun h38 => absurd h38 (nI_ge hzn (by omega))) (fun _ => ?_)
        refine g_iload (pc := 41) dX7_free_41 rfl ?_
        refine g_if_eq (pc := 43) (tgt := 83) dX7_free_43 rfl (fun _ => ?_) (fun h43 => absurd (rfl) h43)
        refine g_iload (pc := 83) dX7_free_83 rfl ?_
        refine g_if_eq (pc := 85) (tgt := 91) dX7_free_85 rfl (fun _ => ?_) (fun h85 => absurd (rfl) h85)
        exact g_sub (lv' := [(0, _), (1, _), (2, _), (4, _)]) ⟨rfl, rfl, rfl, rfl, trivial⟩ h91
      · have : z = n := by omega
        subst this
        refine g_iload (pc := 32) dX7_free_32 rfl ?_
        refine g_aload_n (pc := 34) dX7_free_34 rfl trivial ?_
        refine g_invV_r (pc := 35) (As := []) dX7_free_35 rfl (r_size h) rfl rfl (shK hS rfl) rfl rfl lk_X7_71 rfl (nb rfl) ⟨nb rfl, nb rfl⟩ rfl ?_
        refine g_icmp_ge (pc := 38) (tgt := 83) dX7_free_38 rfl (fun _ => ?_) (fun h38 => absurd (nI_le (Nat.le_refl _) (by omega)) h38)
        refine g_iload (pc := 83) dX7_free_83 rfl ?_
        refine g_if_eq (pc := 85) (tgt := 91) dX7_free_85 rfl (fun _ => ?_) (fun h85 => absurd (rfl) h85)
        exact g_sub (lv' := [(0, _), (1, _), (2, _), (4, _)]) ⟨rfl, rfl, rfl, rfl, trivial⟩ h91
    cases h4 : hb x q with
    | false =>
      have hz : hb (frZ (A s) n x) q = false := by
        cases h5 : hb (frZ (A s) n x) q with
        | false => rfl
        | true => have := (hZq.mp h5).1; rw [h4] at this; cases this
      have h9 := hno hz 0 (by omega)
      refine g_iload (pc := 3) dX7_free_3 rfl ?_
      refine g_aload_n (pc := 5) dX7_free_5 rfl trivial ?_
      refine g_invV_r (pc := 6) (As := []) dX7_free_6 rfl (r_size h) rfl rfl (shK hS rfl) rfl rfl lk_X7_71 rfl (nb rfl) ⟨nb rfl, nb rfl⟩ rfl ?_
      refine g_icmp_ge (pc := 9) (tgt := 97) dX7_free_9 rfl (fun h9 => absurd h9 (nI_ge hq (by omega))) (fun _ => ?_)
      refine g_lload_n (pc := 12) dX7_free_12 rfl ?_
      refine g_iload (pc := 13) dX7_free_13 rfl ?_
      refine g_invS_r (pc := 15) (As := [_, _]) dX7_free_15 rfl (r_one (show q < 32 by omega)) rfl rfl lk_X7_231 rfl (nb rfl) ⟨nb rfl, nb rfl⟩ rfl ?_
      rw [h4]
      refine g_iconst (pc := 18) (v := 1) dX7_free_18 rfl ?_
      refine g_icmp_ne (pc := 19) (tgt := 26) dX7_free_19 rfl (fun _ => ?_) (fun h19 => absurd ((by decide)) h19)
      refine g_iconst (pc := 26) (v := 0) dX7_free_26 rfl ?_
      refine g_istore (pc := 27) (lv' := [(0, _), (1, _), (2, _), (4, _), (5, _)]) dX7_free_27 (nl rfl) rfl ?_
      refine g_iconst (pc := 29) (v := 0) dX7_free_29 rfl ?_
      refine g_istore (pc := 30) (lv' := [(0, _), (1, _), (2, _), (4, _), (5, _), (6, _)]) dX7_free_30 (nl rfl) rfl ?_
      exact h9
    | true =>
      refine g_iload (pc := 3) dX7_free_3 rfl ?_
      refine g_aload_n (pc := 5) dX7_free_5 rfl trivial ?_
      refine g_invV_r (pc := 6) (As := []) dX7_free_6 rfl (r_size h) rfl rfl (shK hS rfl) rfl rfl lk_X7_71 rfl (nb rfl) ⟨nb rfl, nb rfl⟩ rfl ?_
      refine g_icmp_ge (pc := 9) (tgt := 97) dX7_free_9 rfl (fun h9 => absurd h9 (nI_ge hq (by omega))) (fun _ => ?_)
      refine g_lload_n (pc := 12) dX7_free_12 rfl ?_
      refine g_iload (pc := 13) dX7_free_13 rfl ?_
      refine g_invS_r (pc := 15) (As := [_, _]) dX7_free_15 rfl (r_one (show q < 32 by omega)) rfl rfl lk_X7_231 rfl (nb rfl) ⟨nb rfl, nb rfl⟩ rfl ?_
      rw [h4]
      refine g_iconst (pc := 18) (v := 1) dX7_free_18 rfl ?_
      refine g_icmp_ne (pc := 19) (tgt := 26) dX7_free_19 rfl (fun h19 => absurd h19 ((fun z => z rfl))) (fun _ => ?_)
      refine g_iconst (pc := 22) (v := 1) dX7_free_22 rfl ?_
      refine g_goto (pc := 23) (tgt := 27) dX7_free_23 rfl ?_
      refine g_istore (pc := 27) (lv' := [(0, _), (1, _), (2, _), (4, _), (5, _)]) dX7_free_27 (nl rfl) rfl ?_
      refine g_iconst (pc := 29) (v := 0) dX7_free_29 rfl ?_
      refine g_istore (pc := 30) (lv' := [(0, _), (1, _), (2, _), (4, _), (5, _), (6, _)]) dX7_free_30 (nl rfl) rfl ?_
      refine go_while (pc := 32) (σ := Nat) (fun z => z ≤ n ∧ ∀ i, i < z → ¬ (hb x i = true ∧ hb (A s i) q = true)) (fun z => n - z) (fun z => [(0, .ref 198), (1, .int (nI s)), (2, .long (uL x)), (4, .int (nI q)), (5, .int 1), (6, .int (nI z))]) (fun _ => M) 0 ⟨rfl, rfl, rfl, rfl, rfl, rfl, trivial⟩ rfl ⟨by omega, fun j hj => by omega⟩ ?_
      rintro z ⟨k1, k3⟩ ih2
      by_cases hz : z < n
      · cases h5 : hb x z with
        | false =>
          refine g_iload (pc := 32) dX7_free_32 rfl ?_
          refine g_aload_n (pc := 34) dX7_free_34 rfl trivial ?_
          refine g_invV_r (pc := 35) (As := []) dX7_free_35 rfl (r_size h) rfl rfl (shK hS rfl) rfl rfl lk_X7_71 rfl (nb rfl) ⟨nb rfl, nb rfl⟩ rfl ?_
          refine g_icmp_ge (pc := 38) (tgt := 83) dX7_free_38 rfl (fun h38 => absurd h38 (nI_ge hz (by omega))) (fun _ => ?_)
          refine g_iload (pc := 41) dX7_free_41 rfl ?_
          refine g_if_eq (pc := 43) (tgt := 83) dX7_free_43 rfl (fun h43 => absurd h43 ((by decide))) (fun _ => ?_)
          refine g_lload_n (pc := 46) dX7_free_46 rfl ?_
          refine g_iload (pc := 47) dX7_free_47 rfl ?_
          refine g_invS_r (pc := 49) (As := [_, _]) dX7_free_49 rfl (r_one (show z < 32 by omega)) rfl rfl lk_X7_231 rfl (nb rfl) ⟨nb rfl, nb rfl⟩ rfl ?_
          rw [h5]
          refine g_if_eq (pc := 52) (tgt := 70) dX7_free_52 rfl (fun _ => ?_) (fun h52 => absurd (rfl) h52)
          refine g_iconst (pc := 70) (v := 1) dX7_free_70 rfl ?_
          refine g_goto (pc := 71) (tgt := 75) dX7_free_71 rfl ?_
          refine g_istore (pc := 75) (lv' := [(0, _), (1, _), (2, _), (4, _), (5, _), (6, _)]) dX7_free_75 (nl rfl) rfl ?_
          refine g_iinc (pc := 77) (lv' := [(0, _), (1, _), (2, _), (4, _), (5, _), (6, _)]) dX7_free_77 rfl (nI_1 _) (nl rfl) rfl ?_
          refine g_goto (pc := 80) (tgt := 32) dX7_free_80 rfl ?_
          exact ih2 (z + 1) ⟨hz, fun j hj => (by omega : j < z ∨ j = z).elim (k3 j) (fun e y => by rw [e, h5] at y; cases y.1)⟩ (by omega)
        | true =>
          cases h6 : hb (A s z) q with
          | false =>
            refine g_iload (pc := 32) dX7_free_32 rfl ?_
            refine g_aload_n (pc := 34) dX7_free_34 rfl trivial ?_
            refine g_invV_r (pc := 35) (As := []) dX7_free_35 rfl (r_size h) rfl rfl (shK hS rfl) rfl rfl lk_X7_71 rfl (nb rfl) ⟨nb rfl, nb rfl⟩ rfl ?_
            refine g_icmp_ge (pc := 38) (tgt := 83) dX7_free_38 rfl (fun h38 => absurd h38 (nI_ge hz (by omega))) (fun _ => ?_)
            refine g_iload (pc := 41) dX7_free_41 rfl ?_
            refine g_if_eq (pc := 43) (tgt := 83) dX7_free_43 rfl (fun h43 => absurd h43 ((by decide))) (fun _ => ?_)
            refine g_lload_n (pc := 46) dX7_free_46 rfl ?_
            refine g_iload (pc := 47) dX7_free_47 rfl ?_
            refine g_invS_r (pc := 49) (As := [_, _]) dX7_free_49 rfl (r_one (show z < 32 by omega)) rfl rfl lk_X7_231 rfl (nb rfl) ⟨nb rfl, nb rfl⟩ rfl ?_
            rw [h5]
            refine g_if_eq (pc := 52) (tgt := 70) dX7_free_52 rfl (fun h52 => absurd h52 ((by decide))) (fun _ => ?_)
            refine g_aload_n (pc := 55) dX7_free_55 rfl trivial ?_
            refine g_iload_n (pc := 56) dX7_free_56 rfl ?_
            refine g_iload (pc := 57) dX7_free_57 rfl ?_
            refine g_invV_r (pc := 59) (As := [_, _]) dX7_free_59 rfl (r_rowOf h hs hz) rfl rfl (shK hS rfl) rfl rfl lk_X7_227 rfl (nb rfl) ⟨nb rfl, nb rfl⟩ rfl ?_
            refine g_iload (pc := 62) dX7_free_62 rfl ?_
            refine g_invS_r (pc := 64) (As := [_, _]) dX7_free_64 rfl (r_one (show q < 32 by omega)) rfl rfl lk_X7_231 rfl (nb rfl) ⟨nb rfl, nb rfl⟩ rfl ?_
            rw [h6]
            refine g_if_ne (pc := 67) (tgt := 74) dX7_free_67 rfl (fun h67 => absurd h67 ((fun y => y rfl))) (fun _ => ?_)
            refine g_iconst (pc := 70) (v := 1) dX7_free_70 rfl ?_
            refine g_goto (pc := 71) (tgt := 75) dX7_free_71 rfl ?_
            refine g_istore (pc := 75) (lv' := [(0, _), (1, _), (2, _), (4, _), (5, _), (6, _)]) dX7_free_75 (nl rfl) rfl ?_
            refine g_iinc (pc := 77) (lv' := [(0, _), (1, _), (2, _), (4, _), (5, _), (6, _)]) dX7_free_77 rfl (nI_1 _) (nl rfl) rfl ?_
            refine g_goto (pc := 80) (tgt := 32) dX7_free_80 rfl ?_
            exact ih2 (z + 1) ⟨hz, fun j hj => (by omega : j < z ∨ j = z).elim (k3 j) (fun e y => by rw [e, h6] at y; cases y.2)⟩ (by omega)
          | true =>
            have hz2 : hb (frZ (A s) n x) q = false := by
              cases h7 : hb (frZ (A s) n x) q with
              | false => rfl
              | true => exact absurd ⟨h5, h6⟩ ((hZq.mp h7).2 z hz)
            have h9 := hno hz2 (z + 1) hz
            refine g_iload (pc := 32) dX7_free_32 rfl ?_
            refine g_aload_n (pc := 34) dX7_free_34 rfl trivial ?_
            refine g_invV_r (pc := 35) (As := []) dX7_free_35 rfl (r_size h) rfl rfl (shK hS rfl) rfl rfl lk_X7_71 rfl (nb rfl) ⟨nb rfl, nb rfl⟩ rfl ?_
            refine g_icmp_ge (pc := 38) (tgt := 83) dX7_free_38 rfl (fun h38 => absurd h38 (nI_ge hz (by omega))) (fun _ => ?_)
            refine g_iload (pc := 41) dX7_free_41 rfl ?_
            refine g_if_eq (pc := 43) (tgt := 83) dX7_free_43 rfl (fun h43 => absurd h43 ((by decide))) (fun _ => ?_)
            refine g_lload_n (pc := 46) dX7_free_46 rfl ?_
            refine g_iload (pc := 47) dX7_free_47 rfl ?_
            refine g_invS_r (pc := 49) (As := [_, _]) dX7_free_49 rfl (r_one (show z < 32 by omega)) rfl rfl lk_X7_231 rfl (nb rfl) ⟨nb rfl, nb rfl⟩ rfl ?_
            rw [h5]
            refine g_if_eq (pc := 52) (tgt := 70) dX7_free_52 rfl (fun h52 => absurd h52 ((by decide))) (fun _ => ?_)
            refine g_aload_n (pc := 55) dX7_free_55 rfl trivial ?_
            refine g_iload_n (pc := 56) dX7_free_56 rfl ?_
            refine g_iload (pc := 57) dX7_free_57 rfl ?_
            refine g_invV_r (pc := 59) (As := [_, _]) dX7_free_59 rfl (r_rowOf h hs hz) rfl rfl (shK hS rfl) rfl rfl lk_X7_227 rfl (nb rfl) ⟨nb rfl, nb rfl⟩ rfl ?_
            refine g_iload (pc := 62) dX7_free_62 rfl ?_
            refine g_invS_r (pc := 64) (As := [_, _]) dX7_free_64 rfl (r_one (show q < 32 by omega)) rfl rfl lk_X7_231 rfl (nb rfl) ⟨nb rfl, nb rfl⟩ rfl ?_
            rw [h6]
            refine g_if_ne (pc := 67) (tgt := 74) dX7_free_67 rfl (fun _ => ?_) (fun h67 => absurd ((by decide)) h67)
            refine g_iconst (pc := 74) (v := 0) dX7_free_74 rfl ?_
            refine g_istore (pc := 75) (lv' := [(0, _), (1, _), (2, _), (4, _), (5, _), (6, _)]) dX7_free_75 (nl rfl) rfl ?_
            refine g_iinc (pc := 77) (lv' := [(0, _), (1, _), (2, _), (4, _), (5, _), (6, _)]) dX7_free_77 rfl (nI_1 _) (nl rfl) rfl ?_
            refine g_goto (pc := 80) (tgt := 32) dX7_free_80 rfl ?_
            exact h9
      · have hz' : z = n := by omega
        subst hz'
        have hq9 : hb (frZ (A s) z x) q = true := hZq.mpr ⟨h4, k3⟩
        have e9 : frV (A s) z x = nI q := by
          unfold frV
          rw [if_neg (hb_ne0 hq9), lowN_at (by omega) hq9 h3]
        refine g_iload (pc := 32) dX7_free_32 rfl ?_
        refine g_aload_n (pc := 34) dX7_free_34 rfl trivial ?_
        refine g_invV_r (pc := 35) (As := []) dX7_free_35 rfl (r_size h) rfl rfl (shK hS rfl) rfl rfl lk_X7_71 rfl (nb rfl) ⟨nb rfl, nb rfl⟩ rfl ?_
        refine g_icmp_ge (pc := 38) (tgt := 83) dX7_free_38 rfl (fun _ => ?_) (fun h38 => absurd (nI_le (Nat.le_refl _) (by omega)) h38)
        refine g_iload (pc := 83) dX7_free_83 rfl ?_
        refine g_if_eq (pc := 85) (tgt := 91) dX7_free_85 rfl (fun h85 => absurd h85 ((by decide))) (fun _ => ?_)
        refine g_iload (pc := 88) dX7_free_88 rfl ?_
        refine g_ireturn (pc := 90) dX7_free_90 rfl rfl ?_
        exact ⟨by rw [e9], rfl⟩
  · have hq' : q = n := by omega
    subst hq'
    have e9 : frV (A s) q x = -1 := by
      unfold frV
      rw [if_pos]
      refine hb_ext fun i hi => ?_
      rw [hb_0]
      by_cases hiq : i < q
      · exact h3 i hiq
      · cases h5 : hb (frZ (A s) q x) i with
        | false => rfl
        | true => have := ((hZ i hi).mp h5).1; rw [hx i (by omega)] at this; cases this
    refine g_iload (pc := 3) dX7_free_3 rfl ?_
    refine g_aload_n (pc := 5) dX7_free_5 rfl trivial ?_
    refine g_invV_r (pc := 6) (As := []) dX7_free_6 rfl (r_size h) rfl rfl (shK hS rfl) rfl rfl lk_X7_71 rfl (nb rfl) ⟨nb rfl, nb rfl⟩ rfl ?_
    refine g_icmp_ge (pc := 9) (tgt := 97) dX7_free_9 rfl (fun _ => ?_) (fun h9 => absurd (nI_le (Nat.le_refl _) (by omega)) h9)
    refine g_iconst (pc := 97) (v := (-1)) dX7_free_97 rfl ?_
    refine g_ireturn (pc := 98) dX7_free_98 rfl rfl ?_
    exact ⟨by rw [e9], rfl⟩
theorem orF_s {f : Nat → Int32} {x y : Int32} {d p : Nat} : orF f n x (d + 1) p y = if frZ f n y = 0 then -1 else if nI p = x then nI (lowN (frZ f n y)) else orF f n x d (p + 1) (y &&& (bitI (lowN (frZ f n y)) ^^^ -1)) := rfl
theorem orF_neg {f : Nat → Int32} {x : Int32} (hx : x < 0) : ∀ (d p : Nat) (y : Int32), p + d < 2147483648 → orF f n x d p y = -1
  | 0, _, _, _ => rfl
  | d + 1, p, y, h => by
    rw [orF]
    by_cases h1 : y &&& (jrF f y n ^^^ -1) = 0
    · rw [if_pos h1]
    · rw [if_neg h1, if_neg (fun q => nI_pos (n := p) (by omega) (by rw [q]; exact hx))]
      exact orF_neg hx d (p + 1) _ (by omega)
theorem clr_eq {y : Int32} {t : Nat} (ht : t < 32) (h : hb y t = true) : y &&& (bitI t ^^^ -1) = y ^^^ bitI t := hb_ext fun i hi => by
  rw [hb_and, hb_not hi, hb_xor, hb_bitI ht]
  by_cases e : i = t
  · subst e; rw [h]; simp
  · simp [e]
theorem clr_pc {y : Int32} {t : Nat} (ht : t < 32) (h : hb y t = true) : pcN (y ^^^ bitI t) + 1 = pcN y := by
  have h6 := pcb_clear (hb y) t h 32
  rw [if_pos ht] at h6
  rw [pcN_b, pcN_b, ← h6]
  congr 1
  apply pcb_congr
  intro i hi
  rw [hb_xor, hb_bitI ht]
  by_cases e : i = t
  · subst e; rw [h]; simp
  · simp [e]
theorem pcN_0 {y : Int32} (h : pcN y = 0) : y = 0 := hb_ext fun i hi => by
  rw [hb_0]
  exact pcb_0 32 (by rw [← pcN_b]; exact h) i hi
theorem pcN_low : ∀ n, n ≤ 32 → pcN (lowM n) = n := by decide +kernel
theorem n_order {s : Nat} {x : Int32} (h : Rr M n A) (hs : s < 6) : EvR l jX7_order 4 160 0 0 [.ref 198, .int (nI s), .int x] M (.inl (some (.int (orF (A s) n x n 0 (lowM n))))) (thr M 0) := by
  have hn := h.2.2.2.1
  have hS := h.1
  have h' := h.thr (x := 0)
  have hlow : ∀ i, n ≤ i → hb (lowM n) i = false := fun i hi => by rw [hb_lowM hn]; simp; omega
  by_cases hx : x < 0
  · rw [orF_neg hx n 0 _ (by omega)]
    refine ev_intro rfl (nb rfl) rfl ?_
    refine g_aload_n (pc := 0) dX7_order_0 rfl trivial ?_
    refine g_iload_n (pc := 1) dX7_order_1 rfl ?_
    refine g_invS_r (pc := 2) (As := [_]) dX7_order_2 rfl (r_isSlot_t (in6 hs)) rfl rfl lk_X7_216 rfl (nb rfl) ⟨nb rfl, nb rfl⟩ rfl ?_
    refine g_iconst (pc := 5) (v := 1) dX7_order_5 rfl ?_
    refine g_invV_r (pc := 6) (As := [_, _]) dX7_order_6 rfl (r_isThrown_0 hS) rfl rfl (shK hS rfl) rfl rfl lk_X7_209 rfl (nb rfl) ⟨nb rfl, nb rfl⟩ rfl ?_
    refine g_if_eq (pc := 9) (tgt := 14) dX7_order_9 rfl (fun _ => ?_) (fun h9 => absurd (rfl) h9)
    refine g_aload_n (pc := 14) dX7_order_14 rfl trivial ?_
    refine g_invV_r (pc := 15) (As := []) dX7_order_15 rfl (r_all h') rfl rfl (shK hS rfl) rfl rfl lk_X7_245 rfl (nb rfl) ⟨nb rfl, nb rfl⟩ rfl ?_
    refine g_lstore_n (pc := 18) (lv' := [(0, _), (1, _), (2, _), (3, _)]) dX7_order_18 (nl rfl) rfl ?_
    refine g_iconst (pc := 19) (v := (-1)) dX7_order_19 rfl ?_
    refine g_istore (pc := 20) (lv' := [(0, _), (1, _), (2, _), (3, _), (5, _)]) dX7_order_20 (nl rfl) rfl ?_
    refine g_iconst (pc := 22) (v := 0) dX7_order_22 rfl ?_
    refine g_istore (pc := 23) (lv' := [(0, _), (1, _), (2, _), (3, _), (5, _), (6, _)]) dX7_order_23 (nl rfl) rfl ?_
    refine g_iload (pc := 25) dX7_order_25 rfl ?_
    refine g_iload_n (pc := 27) dX7_order_27 rfl ?_
    refine g_icmp_gt (pc := 28) (tgt := 60) dX7_order_28 rfl (fun _ => ?_) (fun h28 => absurd (hx) h28)
    refine g_iload (pc := 60) dX7_order_60 rfl ?_
    refine g_ireturn (pc := 62) dX7_order_62 rfl rfl ?_
    exact ⟨rfl, rfl⟩
  · obtain ⟨i, hi, rfl⟩ := nI_of hx
    obtain ⟨S, hS9⟩ : ∃ S, S = orF (A s) n (nI i) n 0 (lowM n) := ⟨_, rfl⟩
    rw [← hS9]
    have q0 := r_all (l := l) h'
    have hp0 : pcN (lowM n) + 0 = n := (Nat.add_zero _).trans (pcN_low n hn)
    generalize lowM n = y0 at *
    refine ev_intro rfl (nb rfl) rfl ?_
    refine g_aload_n (pc := 0) dX7_order_0 rfl trivial ?_
    refine g_iload_n (pc := 1) dX7_order_1 rfl ?_
    refine g_invS_r (pc := 2) (As := [_]) dX7_order_2 rfl (r_isSlot_t (in6 hs)) rfl rfl lk_X7_216 rfl (nb rfl) ⟨nb rfl, nb rfl⟩ rfl ?_
    refine g_iconst (pc := 5) (v := 1) dX7_order_5 rfl ?_
    refine g_invV_r (pc := 6) (As := [_, _]) dX7_order_6 rfl (r_isThrown_0 hS) rfl rfl (shK hS rfl) rfl rfl lk_X7_209 rfl (nb rfl) ⟨nb rfl, nb rfl⟩ rfl ?_
    refine g_if_eq (pc := 9) (tgt := 14) dX7_order_9 rfl (fun _ => ?_) (fun h9 => absurd (rfl) h9)
    refine g_aload_n (pc := 14) dX7_order_14 rfl trivial ?_
    refine g_invV_r (pc := 15) (As := []) dX7_order_15 rfl (q0) rfl rfl (shK h'.1 rfl) rfl rfl lk_X7_245 rfl (nb rfl) ⟨nb rfl, nb rfl⟩ rfl ?_
    refine g_lstore_n (pc := 18) (lv' := [(0, _), (1, _), (2, _), (3, _)]) dX7_order_18 (nl rfl) rfl ?_
    refine g_iconst (pc := 19) (v := (-1)) dX7_order_19 rfl ?_
    refine g_istore (pc := 20) (lv' := [(0, _), (1, _), (2, _), (3, _), (5, _)]) dX7_order_20 (nl rfl) rfl ?_
    refine g_iconst (pc := 22) (v := 0) dX7_order_22 rfl ?_
    refine g_istore (pc := 23) (lv' := [(0, _), (1, _), (2, _), (3, _), (5, _), (6, _)]) dX7_order_23 (nl rfl) rfl ?_
    refine go_while (pc := 25) (σ := Nat × Int32 × Int32) (fun q => q.1 ≤ n ∧ q.1 ≤ i ∧ (∀ j, n ≤ j → hb q.2.1 j = false) ∧ pcN q.2.1 + q.1 = n ∧ orF (A s) n (nI i) (n - q.1) q.1 q.2.1 = S) (fun q => n - q.1) (fun q => [(0, .ref 198), (1, .int (nI s)), (2, .int (nI i)), (3, .long (uL q.2.1)), (5, .int q.2.2), (6, .int (nI q.1))]) (fun _ => thr M 0) (0, y0, -1) ⟨rfl, rfl, rfl, rfl, rfl, rfl, trivial⟩ rfl ⟨by simp only; omega, by simp only; omega, hlow, hp0, hS9.symm⟩ ?_
    rintro ⟨p, y, w⟩ ⟨h1, h2, h3, h4, h5⟩ ih
    simp only at h1 h2 h3 h4 h5 ih
    have q1 := r_free (l := l) (M := thr M 0) (x := y) h' hs h3
    by_cases hz : frZ (A s) n y = 0
    · have e1 : frV (A s) n y = -1 := by unfold frV; rw [if_pos hz]
      have e2 : S = -1 := by
        rw [← h5]
        cases hd : n - p with
        | zero => rfl
        | succ d => rw [orF_s, if_pos hz]
      rw [e1] at q1
      rw [e2]
      refine g_iload (pc := 25) dX7_order_25 rfl ?_
      refine g_iload_n (pc := 27) dX7_order_27 rfl ?_
      refine g_icmp_gt (pc := 28) (tgt := 60) dX7_order_28 rfl (fun h28 => absurd h28 (nI_ngt h2 (by omega))) (fun _ => ?_)
      refine g_aload_n (pc := 31) dX7_order_31 rfl trivial ?_
      refine g_iload_n (pc := 32) dX7_order_32 rfl ?_
      refine g_lload_n (pc := 33) dX7_order_33 rfl ?_
      refine g_invV_r (pc := 34) (As := [_, _]) dX7_order_34 rfl (q1) rfl rfl (shK h'.1 rfl) rfl rfl lk_X7_280 rfl (nb rfl) ⟨nb rfl, nb rfl⟩ rfl ?_
      refine g_istore (pc := 37) (lv' := [(0, _), (1, _), (2, _), (3, _), (5, _), (6, _)]) dX7_order_37 (nl rfl) rfl ?_
      refine g_iload (pc := 39) dX7_order_39 rfl ?_
      refine g_iconst (pc := 41) (v := (-1)) dX7_order_41 rfl ?_
      refine g_icmp_ne (pc := 42) (tgt := 47) dX7_order_42 rfl (fun h42 => absurd h42 ((fun z => z rfl))) (fun _ => ?_)
      refine g_iconst (pc := 45) (v := (-1)) dX7_order_45 rfl ?_
      refine g_ireturn (pc := 46) dX7_order_46 rfl rfl ?_
      exact ⟨rfl, rfl⟩
    · have e1 : frV (A s) n y = nI (lowN (frZ (A s) n y)) := by unfold frV; rw [if_neg hz]
      obtain ⟨t1, t2⟩ := low_ex hz
      have ht := lowN_lt (frZ (A s) n y)
      have hty : hb y (lowN (frZ (A s) n y)) = true := ((hb_frZ ht).mp t1).1
      have hpn : p < n := by
        apply Classical.byContradiction
        intro hp
        have : pcN y = 0 := by omega
        rw [pcN_0 this, hb_0] at hty
        cases hty
      obtain ⟨d, hd⟩ : ∃ d, n - p = d + 1 := ⟨n - p - 1, by omega⟩
      have hd' : n - (p + 1) = d := by omega
      rw [hd, orF_s, if_neg hz] at h5
      rw [e1] at q1
      have hy2 := clr_eq ht hty
      have hy3 := clr_pc ht hty
      have hy4 : ∀ j, n ≤ j → hb (y ^^^ bitI (lowN (frZ (A s) n y))) j = false := fun j hj => by rw [← hy2, hb_and, h3 j hj]; rfl
      have h5 : (if nI p = nI i then nI (lowN (frZ (A s) n y)) else orF (A s) n (nI i) d (p + 1) (y &&& (bitI (lowN (frZ (A s) n y)) ^^^ -1))) = S := h5
      rw [hy2] at h5
      generalize lowN (frZ (A s) n y) = t at *
      by_cases hpi : p = i
      · subst hpi
        rw [if_pos rfl] at h5
        rw [← h5]
        have h9 : Go l jX7_order 4 160 0 0 (fun r' M' => r' = .inl (some (.int (nI t))) ∧ M' = thr M 0) 25 [(0, .ref 198), (1, .int (nI s)), (2, .int (nI p)), (3, .long (uL (y ^^^ bitI t))), (5, .int (nI t)), (6, .int (nI (p + 1)))] [] 0 0 (thr M 0) := by
          refine g_iload (pc := 25) dX7_order_25 rfl ?_
          refine g_iload_n (pc := 27) dX7_order_27 rfl ?_
          refine g_icmp_gt (pc := 28) (tgt := 60) dX7_order_28 rfl (fun _ => ?_) (fun h28 => absurd (nI_gt (Nat.lt_succ_self p) (by omega)) h28)
          refine g_iload (pc := 60) dX7_order_60 rfl ?_
          refine g_ireturn (pc := 62) dX7_order_62 rfl rfl ?_
          exact ⟨rfl, rfl⟩
        refine g_iload (pc := 25) dX7_order_25 rfl ?_
        refine g_iload_n (pc := 27) dX7_order_27 rfl ?_
        refine g_icmp_gt (pc := 28) (tgt := 60) dX7_order_28 rfl (fun h28 => absurd h28 (nI_ngt h2 (by omega))) (fun _ => ?_)
        refine g_aload_n (pc := 31) dX7_order_31 rfl trivial ?_
        refine g_iload_n (pc := 32) dX7_order_32 rfl ?_
        refine g_lload_n (pc := 33) dX7_order_33 rfl ?_
        refine g_invV_r (pc := 34) (As := [_, _]) dX7_order_34 rfl (q1) rfl rfl (shK h'.1 rfl) rfl rfl lk_X7_280 rfl (nb rfl) ⟨nb rfl, nb rfl⟩ rfl ?_
        refine g_istore (pc := 37) (lv' := [(0, _), (1, _), (2, _), (3, _), (5, _), (6, _)]) dX7_order_37 (nl rfl) rfl ?_
        refine g_iload (pc := 39) dX7_order_39 rfl ?_
        refine g_iconst (pc := 41) (v := (-1)) dX7_order_41 rfl ?_
        refine g_icmp_ne (pc := 42) (tgt := 47) dX7_order_42 rfl (fun _ => ?_) (fun h42 => absurd (nI_m1' (by omega)) h42)
        refine g_lload_n (pc := 47) dX7_order_47 rfl ?_
        refine g_lconst (pc := 48) (v := 1) dX7_order_48 rfl ?_
        refine g_iload (pc := 49) dX7_order_49 rfl ?_
        refine g_lshl (pc := 51) dX7_order_51 rfl ?_
        refine g_lxor (pc := 52) dX7_order_52 ?_
        rw [sh_bit t ht, uL_xor]
        refine g_lstore_n (pc := 53) (lv' := [(0, _), (1, _), (2, _), (3, _), (5, _), (6, _)]) dX7_order_53 (nl rfl) rfl ?_
        refine g_iinc (pc := 54) (lv' := [(0, _), (1, _), (2, _), (3, _), (5, _), (6, _)]) dX7_order_54 rfl (nI_1 _) (nl rfl) rfl ?_
        refine g_goto (pc := 57) (tgt := 25) dX7_order_57 rfl ?_
        exact h9
      · rw [if_neg (fun z => hpi ((nI_eq (by omega) hi).mp z))] at h5
        refine g_iload (pc := 25) dX7_order_25 rfl ?_
        refine g_iload_n (pc := 27) dX7_order_27 rfl ?_
        refine g_icmp_gt (pc := 28) (tgt := 60) dX7_order_28 rfl (fun h28 => absurd h28 (nI_ngt h2 (by omega))) (fun _ => ?_)
        refine g_aload_n (pc := 31) dX7_order_31 rfl trivial ?_
        refine g_iload_n (pc := 32) dX7_order_32 rfl ?_
        refine g_lload_n (pc := 33) dX7_order_33 rfl ?_
        refine g_invV_r (pc := 34) (As := [_, _]) dX7_order_34 rfl (q1) rfl rfl (shK h'.1 rfl) rfl rfl lk_X7_280 rfl (nb rfl) ⟨nb rfl, nb rfl⟩ rfl ?_
        refine g_istore (pc := 37) (lv' := [(0, _), (1, _), (2, _), (3, _), (5, _), (6, _)]) dX7_order_37 (nl rfl) rfl ?_
        refine g_iload (pc := 39) dX7_order_39 rfl ?_
        refine g_iconst (pc := 41) (v := (-1)) dX7_order_41 rfl ?_
        refine g_icmp_ne (pc := 42) (tgt := 47) dX7_order_42 rfl (fun _ => ?_) (fun h42 => absurd (nI_m1' (by omega)) h42)
        refine g_lload_n (pc := 47) dX7_order_47 rfl ?_
        refine g_lconst (pc := 48) (v := 1) dX7_order_48 rfl ?_
        refine g_iload (pc := 49) dX7_order_49 rfl ?_
        refine g_lshl (pc := 51) dX7_order_51 rfl ?_
        refine g_lxor (pc := 52) dX7_order_52 ?_
        rw [sh_bit t ht, uL_xor]
        refine g_lstore_n (pc := 53) (lv' := [(0, _), (1, _), (2, _), (3, _), (5, _), (6, _)]) dX7_order_53 (nl rfl) rfl ?_
        refine g_iinc (pc := 54) (lv' := [(0, _), (1, _), (2, _), (3, _), (5, _), (6, _)]) dX7_order_54 rfl (nI_1 _) (nl rfl) rfl ?_
        refine g_goto (pc := 57) (tgt := 25) dX7_order_57 rfl ?_
        exact ih (p + 1, y ^^^ bitI t, nI t) ⟨hpn, by simp only; omega, hy4, by simp only; omega, by simp only; rw [hd']; exact h5⟩ (by simp only; omega)
theorem t_order {v x : Int32} (h : Rr M n A) (hx : ¬ inR v 6) : EvR l jX7_order 4 160 0 0 [.ref 198, .int v, .int x] M (.inl (some (.int 0))) (thr M 1) := by
  have hS := h.1
  refine ev_intro rfl (nb rfl) rfl ?_
  refine g_aload_n (pc := 0) dX7_order_0 rfl trivial ?_
  refine g_iload_n (pc := 1) dX7_order_1 rfl ?_
  refine g_invS_r (pc := 2) (As := [_]) dX7_order_2 rfl (r_isSlot_f hx) rfl rfl lk_X7_216 rfl (nb rfl) ⟨nb rfl, nb rfl⟩ rfl ?_
  refine g_iconst (pc := 5) (v := 1) dX7_order_5 rfl ?_
  refine g_invV_r (pc := 6) (As := [_, _]) dX7_order_6 rfl (r_isThrown_1 hS) rfl rfl (shK hS rfl) rfl rfl lk_X7_209 rfl (nb rfl) ⟨nb rfl, nb rfl⟩ rfl ?_
  refine g_if_eq (pc := 9) (tgt := 14) dX7_order_9 rfl (fun h9 => absurd h9 ((by decide))) (fun _ => ?_)
  refine g_iconst (pc := 12) (v := 0) dX7_order_12 rfl ?_
  refine g_ireturn (pc := 13) dX7_order_13 rfl rfl ?_
  exact ⟨rfl, rfl⟩
end

