/-! ways: the reference's measures -/
def exB (P : Nat → Bool) : Nat → Bool
  | 0 => false
  | k + 1 => exB P k || P k
theorem exB_iff (P : Nat → Bool) : ∀ k, exB P k = true ↔ ∃ i, i < k ∧ P i = true
  | 0 => by simp [exB]
  | k + 1 => by
    rw [exB, Bool.or_eq_true, exB_iff P k]
    constructor
    · rintro (⟨i, h1, h2⟩ | h)
      · exact ⟨i, by omega, h2⟩
      · exact ⟨k, by omega, h⟩
    · rintro ⟨i, h1, h2⟩
      by_cases h : i = k
      · right; rw [← h]; exact h2
      · left; exact ⟨i, by omega, h2⟩
/-- is there a way of just so many edges from a node to t -/
def wkB (f : Nat → Int32) (n t : Nat) : Nat → Nat → Bool
  | 0, k => decide (k = t)
  | m + 1, k => exB (fun i => hb (f k) i && wkB f n t m i) n
theorem wkB_s {f : Nat → Int32} {n t m k : Nat} : wkB f n t (m + 1) k = true ↔ ∃ i, i < n ∧ hb (f k) i = true ∧ wkB f n t m i = true := by
  rw [wkB, exB_iff]
  simp only [Bool.and_eq_true]
/-- the first number below m that has P -/
def fstI (P : Nat → Bool) : Nat → Int32
  | 0 => -1
  | m + 1 => if fstI P m = -1 then (if P m = true then nI m else -1) else fstI P m
theorem nI_m1' {k : Nat} (h : k < 2147483648) : nI k ≠ -1 := fun q => nI_pos (n := k) h (by rw [q]; decide)
theorem fstI_none {P : Nat → Bool} : ∀ m, m < 2147483648 → (fstI P m = -1 ↔ ∀ i, i < m → P i = false)
  | 0, _ => ⟨fun _ i hi => by omega, fun _ => rfl⟩
  | m + 1, hm => by
    have ih := fstI_none (P := P) m (by omega)
    rw [fstI]
    by_cases h : fstI P m = -1
    · rw [if_pos h]
      have h2 := ih.mp h
      cases h3 : P m with
      | true => rw [if_pos rfl]; exact ⟨fun q => absurd q (nI_m1' (by omega)), fun q => by have := q m (by omega); rw [h3] at this; cases this⟩
      | false => rw [if_neg (by decide)]; exact ⟨fun _ i hi => (by omega : i < m ∨ i = m).elim (h2 i) (fun e => e ▸ h3), fun _ => rfl⟩
    · rw [if_neg h]
      exact ⟨fun q => absurd q h, fun q => absurd (ih.mpr (fun i hi => q i (by omega))) h⟩
theorem fstI_at {P : Nat → Bool} {e : Nat} : ∀ m, m < 2147483648 → e < 2147483648 → (fstI P m = nI e ↔ e < m ∧ P e = true ∧ ∀ i, i < e → P i = false)
  | 0, _, he => ⟨fun q => absurd q.symm (nI_m1' he), fun q => by omega⟩
  | m + 1, hm, he => by
    have ih := fstI_at (P := P) (e := e) m (by omega) he
    have h0 := fstI_none (P := P) m (by omega)
    rw [fstI]
    by_cases h : fstI P m = -1
    · rw [if_pos h]
      have h2 := h0.mp h
      cases h3 : P m with
      | true =>
        rw [if_pos rfl, nI_eq (by omega) (by omega)]
        constructor
        · intro q; subst q; exact ⟨by omega, h3, h2⟩
        · rintro ⟨a, b, c⟩
          apply Classical.byContradiction
          intro hne
          have := h2 e (by omega)
          rw [b] at this; cases this
      | false =>
        rw [if_neg (by decide)]
        constructor
        · intro q; exact absurd q.symm (nI_m1' he)
        · rintro ⟨a, b, c⟩
          by_cases hme : e = m
          · rw [hme, h3] at b; cases b
          · have := h2 e (by omega); rw [b] at this; cases this
    · rw [if_neg h, ih]
      constructor
      · rintro ⟨a, b, c⟩; exact ⟨by omega, b, c⟩
      · rintro ⟨a, b, c⟩
        refine ⟨?_, b, c⟩
        apply Classical.byContradiction
        intro hme
        exact h (h0.mpr (fun i hi => c i (by omega)))
theorem fstI_cases (P : Nat → Bool) (m : Nat) (hm : m < 2147483648) : fstI P m = -1 ∨ ∃ e, e < m ∧ fstI P m = nI e := by
  by_cases h : fstI P m = -1
  · exact Or.inl h
  · right
    have h1 : ∃ i, i < m ∧ P i = true := by
      apply Classical.byContradiction
      intro h2
      refine h ((fstI_none m hm).mpr fun i hi => ?_)
      cases h3 : P i with
      | false => rfl
      | true => exact absurd ⟨i, hi, h3⟩ h2
    have key : ∀ d i, i ≤ d → P i = true → ∃ e, e ≤ i ∧ P e = true ∧ ∀ j, j < e → P j = false := by
      intro d
      induction d with
      | zero => intro i h1 h2; exact ⟨i, Nat.le_refl _, h2, fun j hj => by omega⟩
      | succ d ih =>
        intro i h1 h2
        by_cases h3 : ∃ j, j < i ∧ P j = true
        · obtain ⟨j, a, b⟩ := h3
          obtain ⟨e, c1, c2⟩ := ih j (by omega) b
          exact ⟨e, by omega, c2⟩
        · refine ⟨i, Nat.le_refl _, h2, fun j hj => ?_⟩
          cases h4 : P j with
          | false => rfl
          | true => exact absurd ⟨j, hj, h4⟩ h3
    obtain ⟨i, hi, hp⟩ := h1
    obtain ⟨e, c1, c2, c3⟩ := key i i (Nat.le_refl _) hp
    exact ⟨e, by omega, (fstI_at m hm (by omega)).mpr ⟨by omega, c2, c3⟩⟩
/-- how far a node is from t, below d -/
def farF (f : Nat → Int32) (n t d k : Nat) : Int32 := fstI (fun m => wkB f n t m k) d
theorem far_hit {f : Nat → Int32} {n t d k : Nat} (hd : d < 2147483647) (hk : farF f n t (d + 1) k = -1) : (∃ j, j < n ∧ hb (f k) j = true ∧ farF f n t (d + 1) j = nI d) ↔ wkB f n t (d + 1) k = true := by
  have h0 := (fstI_none (P := fun m => wkB f n t m k) (d + 1) (by omega)).mp hk
  rw [wkB_s]
  constructor
  · rintro ⟨j, a, b, c⟩
    exact ⟨j, a, b, ((fstI_at _ (by omega) (by omega)).mp c).2.1⟩
  · rintro ⟨j, a, b, c⟩
    refine ⟨j, a, b, (fstI_at _ (by omega) (by omega)).mpr ⟨by omega, c, fun i hi => ?_⟩⟩
    cases h3 : wkB f n t i j with
    | false => rfl
    | true =>
      have : wkB f n t (i + 1) k = false := h0 (i + 1) (by omega)
      rw [wkB_s.mpr ⟨j, a, b, h3⟩] at this
      cases this
theorem far_same {f : Nat → Int32} {n t d j : Nat} (hd : d < 2147483646) : farF f n t (d + 2) j = nI d ↔ farF f n t (d + 1) j = nI d := by
  unfold farF
  rw [fstI_at _ (by omega) (by omega), fstI_at _ (by omega) (by omega)]
  constructor
  · rintro ⟨a, b, c⟩; exact ⟨by omega, b, c⟩
  · rintro ⟨a, b, c⟩; exact ⟨by omega, b, c⟩
theorem wr_at {g x : Nat → Int32} {k : Nat} (h : wr g x k k = x k) : wr g x k = wr g x (k + 1) := by
  rw [← wr_s, ← h, fs_same]
section
variable {l : Launch} {M : Mem} {n : Nat} {A : Nat → Nat → Int32}
def farM (M : Mem) (f : Nat → Int32) (n t : Nat) : Mem := sI M 208 (wr (mI M 208) (farF f n t n) n)
theorem Rr.sI {i : Nat} {g : Nat → Int32} (h : Rr M n A) : Rr (sI M i g) n A := h
theorem r_measures {s t : Nat} (h : Rr M n A) (hs : s < 6) (ht : t < n) : EvR l jX7_measures 1 30 0 0 [.ref 198, .int (nI s), .int (nI t)] M (.inl none) (farM M (A s) n t) := by
  have hn := h.2.2.2.1
  have hS := h.1
  have hrow := fun (M' : Mem) (h' : Rr M' n A) k (hk : k < n) => r_rowOf (l := l) h' hs hk
  unfold farM
  obtain ⟨f, hf⟩ : ∃ f, f = A s := ⟨_, rfl⟩
  have hrow : ∀ (M' : Mem) (h' : Rr M' n A) k (hk : k < n), EvR l jX7_rowOf 0 0 0 0 [.ref 198, .int (nI s), .int (nI k)] M' (.inl (some (.long (uL (f k))))) M' := fun M' h' k hk => by rw [hf]; exact hrow M' h' k hk
  rw [← hf]
  obtain ⟨g, hg⟩ : ∃ g, g = mI M 208 := ⟨_, rfl⟩
  rw [← hg]
  refine ev_intro rfl (nb rfl) rfl ?_
  refine g_iconst (pc := 0) (v := 0) dX7_measures_0 rfl ?_
  refine g_istore_n (pc := 1) (lv' := [(0, _), (1, _), (2, _), (3, _)]) dX7_measures_1 (nl rfl) rfl ?_
  refine go_loop (pc := 2) n (fun i => [(0, .ref 198), (1, .int (nI s)), (2, .int (nI t)), (3, .int (nI i))]) (fun i => sI M 208 (wr g (farF f n t 1) i)) ⟨rfl, rfl, rfl, rfl, trivial⟩ (sI_eq (by rw [wr_0, hg])) ?_ ?_
  · intro i hi ih
    have h' : Rr (sI M 208 (wr g (farF f n t 1) i)) n A := h
    have e1 : farF f n t 1 i = if i = t then 0 else -1 := by
      show (if (-1 : Int32) = -1 then (if decide (i = t) = true then nI 0 else -1) else -1) = _
      rw [if_pos rfl]
      by_cases q : i = t
      · rw [if_pos (by simp [q]), if_pos q]; rfl
      · rw [if_neg (by simp [q]), if_neg q]
    by_cases q : i = t
    · rw [if_pos q] at e1
      refine g_iload_n (pc := 2) dX7_measures_2 rfl ?_
      refine g_aload_n (pc := 3) dX7_measures_3 rfl trivial ?_
      refine g_invV_r (pc := 4) (As := []) dX7_measures_4 rfl (r_size h') rfl rfl (shK hS rfl) rfl rfl lk_X7_71 rfl (nb rfl) ⟨nb rfl, nb rfl⟩ rfl ?_
      refine g_icmp_ge (pc := 7) (tgt := 32) dX7_measures_7 rfl (fun h7 => absurd h7 (nI_ge hi (by omega))) (fun _ => ?_)
      refine g_aload_n (pc := 10) dX7_measures_10 rfl trivial ?_
      refine g_getf (pc := 11) dX7_measures_11 fk_X7_43 (shK hS rfl) (fv_arr (shR hS rfl)) ?_
      refine g_iload_n (pc := 14) dX7_measures_14 rfl ?_
      refine g_iload_n (pc := 15) dX7_measures_15 rfl ?_
      refine g_iload_n (pc := 16) dX7_measures_16 rfl ?_
      refine g_icmp_ne (pc := 17) (tgt := 24) dX7_measures_17 rfl (fun h17 => absurd h17 ((fun z => z (by rw [q])))) (fun _ => ?_)
      refine g_iconst (pc := 20) (v := 0) dX7_measures_20 rfl ?_
      refine g_goto (pc := 21) (tgt := 25) dX7_measures_21 rfl ?_
      refine g_iastore (pc := 25) dX7_measures_25 (shK hS rfl) rfl (by omega) (nl rfl) ?_
      refine g_iinc (pc := 26) (lv' := [(0, _), (1, _), (2, _), (3, _)]) dX7_measures_26 rfl (nI_1 _) (nl rfl) rfl ?_
      refine g_goto (pc := 29) (tgt := 2) dX7_measures_29 rfl ?_
      exact go_cast (sI_st (by rw [← e1]; exact wr_s _ _ i)) ih
    · rw [if_neg q] at e1
      refine g_iload_n (pc := 2) dX7_measures_2 rfl ?_
      refine g_aload_n (pc := 3) dX7_measures_3 rfl trivial ?_
      refine g_invV_r (pc := 4) (As := []) dX7_measures_4 rfl (r_size h') rfl rfl (shK hS rfl) rfl rfl lk_X7_71 rfl (nb rfl) ⟨nb rfl, nb rfl⟩ rfl ?_
      refine g_icmp_ge (pc := 7) (tgt := 32) dX7_measures_7 rfl (fun h7 => absurd h7 (nI_ge hi (by omega))) (fun _ => ?_)
      refine g_aload_n (pc := 10) dX7_measures_10 rfl trivial ?_
      refine g_getf (pc := 11) dX7_measures_11 fk_X7_43 (shK hS rfl) (fv_arr (shR hS rfl)) ?_
      refine g_iload_n (pc := 14) dX7_measures_14 rfl ?_
      refine g_iload_n (pc := 15) dX7_measures_15 rfl ?_
      refine g_iload_n (pc := 16) dX7_measures_16 rfl ?_
      refine g_icmp_ne (pc := 17) (tgt := 24) dX7_measures_17 rfl (fun _ => ?_) (fun h17 => absurd ((fun z => q ((nI_eq (by omega) (by omega)).mp z))) h17)
      refine g_iconst (pc := 24) (v := (-1)) dX7_measures_24 rfl ?_
      refine g_iastore (pc := 25) dX7_measures_25 (shK hS rfl) rfl (by omega) (nl rfl) ?_
      refine g_iinc (pc := 26) (lv' := [(0, _), (1, _), (2, _), (3, _)]) dX7_measures_26 rfl (nI_1 _) (nl rfl) rfl ?_
      refine g_goto (pc := 29) (tgt := 2) dX7_measures_29 rfl ?_
      exact go_cast (sI_st (by rw [← e1]; exact wr_s _ _ i)) ih
  · have h' : Rr (sI M 208 (wr g (farF f n t 1) n)) n A := h
    refine g_iload_n (pc := 2) dX7_measures_2 rfl ?_
    refine g_aload_n (pc := 3) dX7_measures_3 rfl trivial ?_
    refine g_invV_r (pc := 4) (As := []) dX7_measures_4 rfl (r_size h') rfl rfl (shK hS rfl) rfl rfl lk_X7_71 rfl (nb rfl) ⟨nb rfl, nb rfl⟩ rfl ?_
    refine g_icmp_ge (pc := 7) (tgt := 32) dX7_measures_7 rfl (fun _ => ?_) (fun h7 => absurd (nI_le (Nat.le_refl _) (by omega)) h7)
    refine g_iconst (pc := 32) (v := 1) dX7_measures_32 rfl ?_
    refine g_istore_n (pc := 33) (lv' := [(0, _), (1, _), (2, _), (3, _)]) dX7_measures_33 (nl rfl) rfl ?_
    refine go_loop (pc := 34) (n - 1) (fun i => [(0, .ref 198), (1, .int (nI s)), (2, .int (nI t)), (3, .int (nI (i + 1)))]) (fun i => sI M 208 (wr g (farF f n t (i + 1)) n)) ⟨rfl, rfl, rfl, rfl, trivial⟩ rfl ?_ ?_
    · intro d hd ihd
      have h' : Rr (sI M 208 (wr g (farF f n t (d + 1)) n)) n A := h
      have hhit := fun k => far_hit (f := f) (n := n) (t := t) (d := d) (k := k) (by omega)
      have hsame := fun j => far_same (f := f) (n := n) (t := t) (d := d) (j := j) (by omega)
      have hnew : ∀ k, farF f n t (d + 1 + 1) k = if farF f n t (d + 1) k = -1 then (if wkB f n t (d + 1) k = true then nI (d + 1) else -1) else farF f n t (d + 1) k := fun k => rfl
      rw [← wr_wr g (farF f n t (d + 1)) (farF f n t (d + 1 + 1)) n] at ihd
      generalize farF f n t (d + 1) = P at *
      generalize farF f n t (d + 1 + 1) = Q at *
      generalize wkB f n t (d + 1) = W at *
      have e0 : wr g P n = wr (wr g P n) Q 0 := (wr_0 _ _).symm
      have eP : ∀ k, k < n → wr g P n k = P k := fun k hk => wr_lt hk
      generalize wr g P n = G at *
      refine g_iload_n (pc := 34) dX7_measures_34 rfl ?_
      refine g_aload_n (pc := 35) dX7_measures_35 rfl trivial ?_
      refine g_invV_r (pc := 36) (As := []) dX7_measures_36 rfl (r_size h') rfl rfl (shK hS rfl) rfl rfl lk_X7_71 rfl (nb rfl) ⟨nb rfl, nb rfl⟩ rfl ?_
      refine g_icmp_ge (pc := 39) (tgt := 136) dX7_measures_39 rfl (fun h39 => absurd h39 (nI_ge (show d + 1 < n by omega) (by omega))) (fun _ => ?_)
      refine g_iconst (pc := 42) (v := 0) dX7_measures_42 rfl ?_
      refine g_istore (pc := 43) (lv' := [(0, _), (1, _), (2, _), (3, _), (4, _)]) dX7_measures_43 (nl rfl) rfl ?_
      refine go_loop (pc := 45) n (fun i => [(0, .ref 198), (1, .int (nI s)), (2, .int (nI t)), (3, .int (nI (d + 1))), (4, .int (nI i))]) (fun i => sI M 208 (wr G Q i)) ⟨rfl, rfl, rfl, rfl, rfl, trivial⟩ (by rw [← e0]) ?_ ?_
      · intro k hk ihk
        have h1 : Rr (sI M 208 (wr G Q k)) n A := h
        have h2 : Rr (sI M 208 (wr G Q (k + 1))) n A := h
        have a1 := sI_self M 208 (wr G Q k)
        have a2 := sI_self M 208 (wr G Q (k + 1))
        have ek : wr G Q k k = P k := (wr_ge (Nat.le_refl _)).trans (eP k hk)
        have ek2 : wr G Q (k + 1) k = Q k := wr_lt (by omega)
        have ihk' : Go l jX7_measures 1 30 0 0 (fun r' M' => r' = .inl none ∧ M' = sI M 208 (wr g (farF f n t n) n)) 45 [(0, .ref 198), (1, .int (nI s)), (2, .int (nI t)), (3, .int (nI (d + 1))), (4, .int (nI (k + 1)))] [] 0 0 (sI M 208 (wr G Q (k + 1))) := ihk
        have h124 : ∀ j, Go l jX7_measures 1 30 0 0 (fun r' M' => r' = .inl none ∧ M' = sI M 208 (wr g (farF f n t n) n)) 124 [(0, .ref 198), (1, .int (nI s)), (2, .int (nI t)), (3, .int (nI (d + 1))), (4, .int (nI k)), (5, .int (nI j))] [] 0 0 (sI M 208 (wr G Q (k + 1))) := by
          intro j
          refine g_iinc (pc := 124) (lv' := [(0, _), (1, _), (2, _), (3, _), (4, _), (5, _)]) dX7_measures_124 rfl (nI_1 _) (nl rfl) rfl ?_
          refine g_goto (pc := 127) (tgt := 45) dX7_measures_127 rfl ?_
          exact g_sub (lv' := [(0, _), (1, _), (2, _), (3, _), (4, _)]) ⟨rfl, rfl, rfl, rfl, rfl, trivial⟩ ihk'
        have hdone : Q k ≠ -1 → ∀ j, j ≤ n → Go l jX7_measures 1 30 0 0 (fun r' M' => r' = .inl none ∧ M' = sI M 208 (wr g (farF f n t n) n)) 57 [(0, .ref 198), (1, .int (nI s)), (2, .int (nI t)), (3, .int (nI (d + 1))), (4, .int (nI k)), (5, .int (nI j))] [] 0 0 (sI M 208 (wr G Q (k + 1))) := by
          intro hq j hj
          by_cases hjn : j < n
          · refine g_iload (pc := 57) dX7_measures_57 rfl ?_
            refine g_aload_n (pc := 59) dX7_measures_59 rfl trivial ?_
            refine g_invV_r (pc := 60) (As := []) dX7_measures_60 rfl (r_size h2) rfl rfl (shK hS rfl) rfl rfl lk_X7_71 rfl (nb rfl) ⟨nb rfl, nb rfl⟩ rfl ?_
            refine g_icmp_ge (pc := 63) (tgt := 124) dX7_measures_63 rfl (fun h63 => absurd h63 (nI_ge hjn (by omega))) (fun _ => ?_)
            refine g_aload_n (pc := 66) dX7_measures_66 rfl trivial ?_
            refine g_getf (pc := 67) dX7_measures_67 fk_X7_43 (shK hS rfl) (fv_arr (shR hS rfl)) ?_
            refine g_iload (pc := 70) dX7_measures_70 rfl ?_
            refine g_iaload (pc := 72) dX7_measures_72 (shK hS rfl) rfl (by omega) (nl rfl) ?_
            rw [a2, ek2]
            refine g_iconst (pc := 73) (v := (-1)) dX7_measures_73 rfl ?_
            refine g_icmp_ne (pc := 74) (tgt := 124) dX7_measures_74 rfl (fun _ => ?_) (fun h74 => absurd (hq) h74)
            exact h124 j
          · have hj' : j = n := by omega
            subst hj'
            refine g_iload (pc := 57) dX7_measures_57 rfl ?_
            refine g_aload_n (pc := 59) dX7_measures_59 rfl trivial ?_
            refine g_invV_r (pc := 60) (As := []) dX7_measures_60 rfl (r_size h2) rfl rfl (shK hS rfl) rfl rfl lk_X7_71 rfl (nb rfl) ⟨nb rfl, nb rfl⟩ rfl ?_
            refine g_icmp_ge (pc := 63) (tgt := 124) dX7_measures_63 rfl (fun _ => ?_) (fun h63 => absurd (nI_le (Nat.le_refl _) (by omega)) h63)
            exact h124 j
        have hqk := hnew k
        by_cases hp : P k = -1
        · rw [if_pos hp] at hqk
          have hh := hhit k hp
          refine g_iload (pc := 45) dX7_measures_45 rfl ?_
          refine g_aload_n (pc := 47) dX7_measures_47 rfl trivial ?_
          refine g_invV_r (pc := 48) (As := []) dX7_measures_48 rfl (r_size h1) rfl rfl (shK hS rfl) rfl rfl lk_X7_71 rfl (nb rfl) ⟨nb rfl, nb rfl⟩ rfl ?_
          refine g_icmp_ge (pc := 51) (tgt := 130) dX7_measures_51 rfl (fun h51 => absurd h51 (nI_ge hk (by omega))) (fun _ => ?_)
          refine g_iconst (pc := 54) (v := 0) dX7_measures_54 rfl ?_
          refine g_istore (pc := 55) (lv' := [(0, _), (1, _), (2, _), (3, _), (4, _), (5, _)]) dX7_measures_55 (nl rfl) rfl ?_
          refine go_while (pc := 57) (σ := Nat) (fun q => q ≤ n ∧ ∀ j, j < q → ¬ (hb (f k) j = true ∧ P j = nI d)) (fun q => n - q) (fun q => [(0, .ref 198), (1, .int (nI s)), (2, .int (nI t)), (3, .int (nI (d + 1))), (4, .int (nI k)), (5, .int (nI q))]) (fun q => sI M 208 (wr G Q k)) 0 ⟨rfl, rfl, rfl, rfl, rfl, rfl, trivial⟩ rfl ⟨by omega, fun j hj => by omega⟩ ?_
          rintro q ⟨c1, c3⟩ ih
          by_cases hq : q < n
          · have efar : wr G Q k q = nI d ↔ P q = nI d := by
              by_cases hqk2 : q < k
              · rw [wr_lt hqk2]; exact hsame q
              · rw [wr_ge (by omega), eP q hq]
            cases h4 : hb (f k) q with
            | false =>
              refine g_iload (pc := 57) dX7_measures_57 rfl ?_
              refine g_aload_n (pc := 59) dX7_measures_59 rfl trivial ?_
              refine g_invV_r (pc := 60) (As := []) dX7_measures_60 rfl (r_size h1) rfl rfl (shK hS rfl) rfl rfl lk_X7_71 rfl (nb rfl) ⟨nb rfl, nb rfl⟩ rfl ?_
              refine g_icmp_ge (pc := 63) (tgt := 124) dX7_measures_63 rfl (fun h63 => absurd h63 (nI_ge hq (by omega))) (fun _ => ?_)
              refine g_aload_n (pc := 66) dX7_measures_66 rfl trivial ?_
              refine g_getf (pc := 67) dX7_measures_67 fk_X7_43 (shK hS rfl) (fv_arr (shR hS rfl)) ?_
              refine g_iload (pc := 70) dX7_measures_70 rfl ?_
              refine g_iaload (pc := 72) dX7_measures_72 (shK hS rfl) rfl (by omega) (nl rfl) ?_
              rw [a1, ek, hp]
              refine g_iconst (pc := 73) (v := (-1)) dX7_measures_73 rfl ?_
              refine g_icmp_ne (pc := 74) (tgt := 124) dX7_measures_74 rfl (fun h74 => absurd h74 ((fun z => z rfl))) (fun _ => ?_)
              refine g_aload_n (pc := 77) dX7_measures_77 rfl trivial ?_
              refine g_getf (pc := 78) dX7_measures_78 fk_X7_43 (shK hS rfl) (fv_arr (shR hS rfl)) ?_
              refine g_iload (pc := 81) dX7_measures_81 rfl ?_
              refine g_aload_n (pc := 83) dX7_measures_83 rfl trivial ?_
              refine g_iload_n (pc := 84) dX7_measures_84 rfl ?_
              refine g_iload (pc := 85) dX7_measures_85 rfl ?_
              refine g_invV_r (pc := 87) (As := [_, _]) dX7_measures_87 rfl (hrow _ h1 k hk) rfl rfl (shK hS rfl) rfl rfl lk_X7_227 rfl (nb rfl) ⟨nb rfl, nb rfl⟩ rfl ?_
              refine g_iload (pc := 90) dX7_measures_90 rfl ?_
              refine g_invS_r (pc := 92) (As := [_, _]) dX7_measures_92 rfl (r_one (show q < 32 by omega)) rfl rfl lk_X7_231 rfl (nb rfl) ⟨nb rfl, nb rfl⟩ rfl ?_
              rw [h4]
              refine g_iconst (pc := 95) (v := 1) dX7_measures_95 rfl ?_
              refine g_icmp_ne (pc := 96) (tgt := 116) dX7_measures_96 rfl (fun _ => ?_) (fun h96 => absurd ((by decide)) h96)
              refine g_iconst (pc := 116) (v := (-1)) dX7_measures_116 rfl ?_
              refine g_iastore (pc := 117) dX7_measures_117 (shK hS rfl) rfl (by omega) (nl rfl) ?_
              refine g_iinc (pc := 118) (lv' := [(0, _), (1, _), (2, _), (3, _), (4, _), (5, _)]) dX7_measures_118 rfl (nI_1 _) (nl rfl) rfl ?_
              refine g_goto (pc := 121) (tgt := 57) dX7_measures_121 rfl ?_
              exact go_cast (sI_st (by rw [← hp, ← ek, fs_same])) (ih (q + 1) ⟨hq, fun j hj => (by omega : j < q ∨ j = q).elim (c3 j) (fun e z => by rw [e, h4] at z; cases z.1)⟩ (by omega))
            | true =>
              by_cases h5 : P q = nI d
              · have hw : W k = true := hh.mp ⟨q, hq, h4, h5⟩
                rw [if_pos hw] at hqk
                have h9 := hdone (by rw [hqk]; exact nI_m1' (by omega)) (q + 1) hq
                refine g_iload (pc := 57) dX7_measures_57 rfl ?_
                refine g_aload_n (pc := 59) dX7_measures_59 rfl trivial ?_
                refine g_invV_r (pc := 60) (As := []) dX7_measures_60 rfl (r_size h1) rfl rfl (shK hS rfl) rfl rfl lk_X7_71 rfl (nb rfl) ⟨nb rfl, nb rfl⟩ rfl ?_
                refine g_icmp_ge (pc := 63) (tgt := 124) dX7_measures_63 rfl (fun h63 => absurd h63 (nI_ge hq (by omega))) (fun _ => ?_)
                refine g_aload_n (pc := 66) dX7_measures_66 rfl trivial ?_
                refine g_getf (pc := 67) dX7_measures_67 fk_X7_43 (shK hS rfl) (fv_arr (shR hS rfl)) ?_
                refine g_iload (pc := 70) dX7_measures_70 rfl ?_
                refine g_iaload (pc := 72) dX7_measures_72 (shK hS rfl) rfl (by omega) (nl rfl) ?_
                rw [a1, ek, hp]
                refine g_iconst (pc := 73) (v := (-1)) dX7_measures_73 rfl ?_
                refine g_icmp_ne (pc := 74) (tgt := 124) dX7_measures_74 rfl (fun h74 => absurd h74 ((fun z => z rfl))) (fun _ => ?_)
                refine g_aload_n (pc := 77) dX7_measures_77 rfl trivial ?_
                refine g_getf (pc := 78) dX7_measures_78 fk_X7_43 (shK hS rfl) (fv_arr (shR hS rfl)) ?_
                refine g_iload (pc := 81) dX7_measures_81 rfl ?_
                refine g_aload_n (pc := 83) dX7_measures_83 rfl trivial ?_
                refine g_iload_n (pc := 84) dX7_measures_84 rfl ?_
                refine g_iload (pc := 85) dX7_measures_85 rfl ?_
                refine g_invV_r (pc := 87) (As := [_, _]) dX7_measures_87 rfl (hrow _ h1 k hk) rfl rfl (shK hS rfl) rfl rfl lk_X7_227 rfl (nb rfl) ⟨nb rfl, nb rfl⟩ rfl ?_
                refine g_iload (pc := 90) dX7_measures_90 rfl ?_
                refine g_invS_r (pc := 92) (As := [_, _]) dX7_measures_92 rfl (r_one (show q < 32 by omega)) rfl rfl lk_X7_231 rfl (nb rfl) ⟨nb rfl, nb rfl⟩ rfl ?_
                rw [h4]
                refine g_iconst (pc := 95) (v := 1) dX7_measures_95 rfl ?_
                refine g_icmp_ne (pc := 96) (tgt := 116) dX7_measures_96 rfl (fun h96 => absurd h96 ((fun z => z rfl))) (fun _ => ?_)
                refine g_aload_n (pc := 99) dX7_measures_99 rfl trivial ?_
                refine g_getf (pc := 100) dX7_measures_100 fk_X7_43 (shK hS rfl) (fv_arr (shR hS rfl)) ?_
                refine g_iload (pc := 103) dX7_measures_103 rfl ?_
                refine g_iaload (pc := 105) dX7_measures_105 (shK hS rfl) rfl (by omega) (nl rfl) ?_
                rw [a1]
                refine g_iload_n (pc := 106) dX7_measures_106 rfl ?_
                refine g_iconst (pc := 107) (v := 1) dX7_measures_107 rfl ?_
                refine g_isub (pc := 108) dX7_measures_108 ?_
                rw [nI_m1 (by omega), Nat.add_sub_cancel]
                refine g_icmp_ne (pc := 109) (tgt := 116) dX7_measures_109 rfl (fun h109 => absurd h109 ((fun z => z (efar.mpr h5)))) (fun _ => ?_)
                refine g_iload_n (pc := 112) dX7_measures_112 rfl ?_
                refine g_goto (pc := 113) (tgt := 117) dX7_measures_113 rfl ?_
                refine g_iastore (pc := 117) dX7_measures_117 (shK hS rfl) rfl (by omega) (nl rfl) ?_
                refine g_iinc (pc := 118) (lv' := [(0, _), (1, _), (2, _), (3, _), (4, _), (5, _)]) dX7_measures_118 rfl (nI_1 _) (nl rfl) rfl ?_
                refine g_goto (pc := 121) (tgt := 57) dX7_measures_121 rfl ?_
                exact go_cast (sI_st (by rw [← hqk, wr_s])) h9
              · refine g_iload (pc := 57) dX7_measures_57 rfl ?_
                refine g_aload_n (pc := 59) dX7_measures_59 rfl trivial ?_
                refine g_invV_r (pc := 60) (As := []) dX7_measures_60 rfl (r_size h1) rfl rfl (shK hS rfl) rfl rfl lk_X7_71 rfl (nb rfl) ⟨nb rfl, nb rfl⟩ rfl ?_
                refine g_icmp_ge (pc := 63) (tgt := 124) dX7_measures_63 rfl (fun h63 => absurd h63 (nI_ge hq (by omega))) (fun _ => ?_)
                refine g_aload_n (pc := 66) dX7_measures_66 rfl trivial ?_
                refine g_getf (pc := 67) dX7_measures_67 fk_X7_43 (shK hS rfl) (fv_arr (shR hS rfl)) ?_
                refine g_iload (pc := 70) dX7_measures_70 rfl ?_
                refine g_iaload (pc := 72) dX7_measures_72 (shK hS rfl) rfl (by omega) (nl rfl) ?_
                rw [a1, ek, hp]
                refine g_iconst (pc := 73) (v := (-1)) dX7_measures_73 rfl ?_
                refine g_icmp_ne (pc := 74) (tgt := 124) dX7_measures_74 rfl (fun h74 => absurd h74 ((fun z => z rfl))) (fun _ => ?_)
                refine g_aload_n (pc := 77) dX7_measures_77 rfl trivial ?_
                refine g_getf (pc := 78) dX7_measures_78 fk_X7_43 (shK hS rfl) (fv_arr (shR hS rfl)) ?_
                refine g_iload (pc := 81) dX7_measures_81 rfl ?_
                refine g_aload_n (pc := 83) dX7_measures_83 rfl trivial ?_
                refine g_iload_n (pc := 84) dX7_measures_84 rfl ?_
                refine g_iload (pc := 85) dX7_measures_85 rfl ?_
                refine g_invV_r (pc := 87) (As := [_, _]) dX7_measures_87 rfl (hrow _ h1 k hk) rfl rfl (shK hS rfl) rfl rfl lk_X7_227 rfl (nb rfl) ⟨nb rfl, nb rfl⟩ rfl ?_
                refine g_iload (pc := 90) dX7_measures_90 rfl ?_
                refine g_invS_r (pc := 92) (As := [_, _]) dX7_measures_92 rfl (r_one (show q < 32 by omega)) rfl rfl lk_X7_231 rfl (nb rfl) ⟨nb rfl, nb rfl⟩ rfl ?_
                rw [h4]
                refine g_iconst (pc := 95) (v := 1) dX7_measures_95 rfl ?_
                refine g_icmp_ne (pc := 96) (tgt := 116) dX7_measures_96 rfl (fun h96 => absurd h96 ((fun z => z rfl))) (fun _ => ?_)
                refine g_aload_n (pc := 99) dX7_measures_99 rfl trivial ?_
                refine g_getf (pc := 100) dX7_measures_100 fk_X7_43 (shK hS rfl) (fv_arr (shR hS rfl)) ?_
                refine g_iload (pc := 103) dX7_measures_103 rfl ?_
                refine g_iaload (pc := 105) dX7_measures_105 (shK hS rfl) rfl (by omega) (nl rfl) ?_
                rw [a1]
                refine g_iload_n (pc := 106) dX7_measures_106 rfl ?_
                refine g_iconst (pc := 107) (v := 1) dX7_measures_107 rfl ?_
                refine g_isub (pc := 108) dX7_measures_108 ?_
                rw [nI_m1 (by omega), Nat.add_sub_cancel]
                refine g_icmp_ne (pc := 109) (tgt := 116) dX7_measures_109 rfl (fun _ => ?_) (fun h109 => absurd ((fun z => h5 (efar.mp z))) h109)
                refine g_iconst (pc := 116) (v := (-1)) dX7_measures_116 rfl ?_
                refine g_iastore (pc := 117) dX7_measures_117 (shK hS rfl) rfl (by omega) (nl rfl) ?_
                refine g_iinc (pc := 118) (lv' := [(0, _), (1, _), (2, _), (3, _), (4, _), (5, _)]) dX7_measures_118 rfl (nI_1 _) (nl rfl) rfl ?_
                refine g_goto (pc := 121) (tgt := 57) dX7_measures_121 rfl ?_
                exact go_cast (sI_st (by rw [← hp, ← ek, fs_same])) (ih (q + 1) ⟨hq, fun j hj => (by omega : j < q ∨ j = q).elim (c3 j) (fun e z => by rw [e] at z; exact h5 z.2)⟩ (by omega))
          · have hq' : q = n := by omega
            subst hq'
            have hw : ¬ W k = true := fun z => by
              obtain ⟨j, b1, b2, b3⟩ := hh.mpr z
              exact c3 j b1 ⟨b2, b3⟩
            rw [if_neg hw] at hqk
            have e9 : wr G Q k = wr G Q (k + 1) := wr_at (by rw [ek, hp, hqk])
            have h9 := h124 q
            rw [← e9] at h9
            refine g_iload (pc := 57) dX7_measures_57 rfl ?_
            refine g_aload_n (pc := 59) dX7_measures_59 rfl trivial ?_
            refine g_invV_r (pc := 60) (As := []) dX7_measures_60 rfl (r_size h1) rfl rfl (shK hS rfl) rfl rfl lk_X7_71 rfl (nb rfl) ⟨nb rfl, nb rfl⟩ rfl ?_
            refine g_icmp_ge (pc := 63) (tgt := 124) dX7_measures_63 rfl (fun _ => ?_) (fun h63 => absurd (nI_le (Nat.le_refl _) (by omega)) h63)
            exact h9
        · rw [if_neg hp] at hqk
          have e9 : wr G Q k = wr G Q (k + 1) := wr_at (by rw [ek, hqk])
          have h9 := hdone (by rw [hqk]; exact hp) 0 (by omega)
          rw [← e9] at h9
          refine g_iload (pc := 45) dX7_measures_45 rfl ?_
          refine g_aload_n (pc := 47) dX7_measures_47 rfl trivial ?_
          refine g_invV_r (pc := 48) (As := []) dX7_measures_48 rfl (r_size h1) rfl rfl (shK hS rfl) rfl rfl lk_X7_71 rfl (nb rfl) ⟨nb rfl, nb rfl⟩ rfl ?_
          refine g_icmp_ge (pc := 51) (tgt := 130) dX7_measures_51 rfl (fun h51 => absurd h51 (nI_ge hk (by omega))) (fun _ => ?_)
          refine g_iconst (pc := 54) (v := 0) dX7_measures_54 rfl ?_
          refine g_istore (pc := 55) (lv' := [(0, _), (1, _), (2, _), (3, _), (4, _), (5, _)]) dX7_measures_55 (nl rfl) rfl ?_
          exact h9
      · have h1 : Rr (sI M 208 (wr G Q n)) n A := h
        refine g_iload (pc := 45) dX7_measures_45 rfl ?_
        refine g_aload_n (pc := 47) dX7_measures_47 rfl trivial ?_
        refine g_invV_r (pc := 48) (As := []) dX7_measures_48 rfl (r_size h1) rfl rfl (shK hS rfl) rfl rfl lk_X7_71 rfl (nb rfl) ⟨nb rfl, nb rfl⟩ rfl ?_
        refine g_icmp_ge (pc := 51) (tgt := 130) dX7_measures_51 rfl (fun _ => ?_) (fun h51 => absurd (nI_le (Nat.le_refl _) (by omega)) h51)
        refine g_iinc (pc := 130) (lv' := [(0, _), (1, _), (2, _), (3, _), (4, _)]) dX7_measures_130 rfl (nI_1 _) (nl rfl) rfl ?_
        refine g_goto (pc := 133) (tgt := 34) dX7_measures_133 rfl ?_
        exact g_sub (lv' := [(0, _), (1, _), (2, _), (3, _)]) ⟨rfl, rfl, rfl, rfl, trivial⟩ ihd
    · have h0 := h.2.2.1
      have h' : Rr (sI M 208 (wr g (farF f n t (n - 1 + 1)) n)) n A := h
      have e9 : n - 1 + 1 = n := by omega
      rw [e9] at h' ⊢
      refine g_iload_n (pc := 34) dX7_measures_34 rfl ?_
      refine g_aload_n (pc := 35) dX7_measures_35 rfl trivial ?_
      refine g_invV_r (pc := 36) (As := []) dX7_measures_36 rfl (r_size h') rfl rfl (shK hS rfl) rfl rfl lk_X7_71 rfl (nb rfl) ⟨nb rfl, nb rfl⟩ rfl ?_
      refine g_icmp_ge (pc := 39) (tgt := 136) dX7_measures_39 rfl (fun _ => ?_) (fun h39 => absurd (nI_le (Nat.le_refl _) (by omega)) h39)
      refine g_return (pc := 136) dX7_measures_136 rfl ?_
      exact ⟨rfl, rfl⟩
end

