/-! sums and products over the field of two elements; elimination -/
def xs (f : Nat → Bool) : Nat → Bool
  | 0 => false
  | k + 1 => Bool.xor (xs f k) (f k)
theorem xs_cg {f g : Nat → Bool} : ∀ {n : Nat}, (∀ i, i < n → f i = g i) → xs f n = xs g n
  | 0, _ => rfl
  | n + 1, h => by
    show Bool.xor (xs f n) (f n) = Bool.xor (xs g n) (g n)
    rw [xs_cg (fun i hi => h i (by omega)), h n (by omega)]
theorem xs_x {f g : Nat → Bool} : ∀ n, xs (fun i => Bool.xor (f i) (g i)) n = Bool.xor (xs f n) (xs g n)
  | 0 => rfl
  | n + 1 => by
    show Bool.xor (xs (fun i => Bool.xor (f i) (g i)) n) (Bool.xor (f n) (g n)) = Bool.xor (Bool.xor (xs f n) (f n)) (Bool.xor (xs g n) (g n))
    rw [xs_x n]
    cases xs f n <;> cases xs g n <;> cases f n <;> cases g n <;> rfl
theorem xs_f : ∀ n, xs (fun _ => false) n = false
  | 0 => rfl
  | n + 1 => by
    show Bool.xor (xs (fun _ => false) n) false = false
    rw [xs_f n]
    rfl
theorem xs_a (b : Bool) {f : Nat → Bool} (n : Nat) : xs (fun i => b && f i) n = (b && xs f n) := by
  cases b
  · exact xs_f n
  · show xs (fun i => true && f i) n = xs f n
    exact xs_cg (fun i _ => rfl)
theorem xs_b (b : Bool) {f : Nat → Bool} (n : Nat) : xs (fun i => f i && b) n = (xs f n && b) := by
  rw [Bool.and_comm, ← xs_a b n]
  exact xs_cg (fun i _ => Bool.and_comm _ _)
/-- one summand -/
theorem xs_1 {f : Nat → Bool} {a : Nat} : ∀ n, xs (fun i => decide (i = a) && f i) n = (decide (a < n) && f a)
  | 0 => by
    rw [decide_eq_false (Nat.not_lt_zero a)]
    rfl
  | n + 1 => by
    show Bool.xor (xs (fun i => decide (i = a) && f i) n) (decide (n = a) && f n) = _
    rw [xs_1 n]
    by_cases e : n = a
    · subst e
      rw [decide_eq_false (Nat.lt_irrefl n), decide_eq_true (rfl : n = n), decide_eq_true (Nat.lt_succ_self n)]
      cases f n <;> rfl
    · rw [decide_eq_false e]
      by_cases h : a < n
      · rw [decide_eq_true h, decide_eq_true (show a < n + 1 by omega)]
        cases f a <;> rfl
      · rw [decide_eq_false h, decide_eq_false (show ¬ a < n + 1 by omega)]
        rfl
theorem xs_sw {F : Nat → Nat → Bool} (m : Nat) : ∀ n, xs (fun i => xs (fun j => F i j) m) n = xs (fun j => xs (fun i => F i j) n) m
  | 0 => (xs_f m).symm
  | n + 1 => by
    show Bool.xor (xs (fun i => xs (fun j => F i j) m) n) (xs (fun j => F n j) m) = xs (fun j => Bool.xor (xs (fun i => F i j) n) (F n j)) m
    rw [xs_sw m n, xs_x]
abbrev BM : Type := Nat → Nat → Bool
def mp (n : Nat) (A B : BM) : BM := fun r c => xs (fun k => A r k && B k c) n
def isI (n : Nat) (A : BM) : Prop := ∀ r c, r < n → c < n → A r c = decide (r = c)
theorem mp_as {n : Nat} {A B C : BM} (r c : Nat) : mp n (mp n A B) C r c = mp n A (mp n B C) r c := by
  unfold mp
  have e1 : ∀ k, (xs (fun j => A r j && B j k) n && C k c) = xs (fun j => (A r j && B j k) && C k c) n := fun k => (xs_b _ n).symm
  have e2 : ∀ j, (A r j && xs (fun k => B j k && C k c) n) = xs (fun k => A r j && (B j k && C k c)) n := fun j => (xs_a _ n).symm
  refine (xs_cg (fun k _ => e1 k)).trans ?_
  refine Eq.trans ?_ (xs_cg (fun j _ => e2 j)).symm
  refine (xs_sw (F := fun k j => (A r j && B j k) && C k c) n n).trans ?_
  exact xs_cg (fun j _ => xs_cg (fun k _ => Bool.and_assoc _ _ _))
theorem mp_1 {n : Nat} {A I : BM} (hI : isI n I) {r : Nat} (c : Nat) (hr : r < n) : mp n I A r c = A r c := by
  unfold mp
  refine (xs_cg (g := fun k => decide (k = r) && A k c) (fun k hk => ?_)).trans ?_
  · rw [hI r k hr hk]
    congr 1
    exact decide_eq_decide.mpr eq_comm
  · rw [xs_1, decide_eq_true hr]
    rfl
theorem mp_2 {n : Nat} {A I : BM} (hI : isI n I) (r : Nat) {c : Nat} (hc : c < n) : mp n A I r c = A r c := by
  unfold mp
  refine (xs_cg (g := fun k => decide (k = c) && A r k) (fun k hk => ?_)).trans ?_
  · rw [hI k c hk hc, Bool.and_comm]
  · rw [xs_1, decide_eq_true hc]
    rfl
theorem mp_cg {n : Nat} {A A' B B' : BM} {r c : Nat} (hA : ∀ k, k < n → A r k = A' r k) (hB : ∀ k, k < n → B k c = B' k c) : mp n A B r c = mp n A' B' r c := xs_cg (fun k hk => by rw [hA k hk, hB k hk])
def Bm (g : Nat → Int32) : BM := fun r c => hb (g r) c
/-- row operations: left is right times f, and right has an inverse -/
def EO (n : Nat) (f L R : Nat → Int32) : Prop := (∀ r c, r < n → c < n → hb (L r) c = mp n (Bm R) (Bm f) r c) ∧ ∃ Q : BM, isI n (mp n Q (Bm R)) ∧ isI n (mp n (Bm R) Q)
theorem bx4 : ∀ x p y z q w : Bool, (Bool.xor x (p && y) && Bool.xor z (q && w)) = Bool.xor (Bool.xor (x && z) (p && (y && z))) (Bool.xor (q && (x && w)) (p && (q && (y && w)))) := by decide
theorem bx3 : ∀ x p y z : Bool, (Bool.xor x (p && y) && z) = Bool.xor (x && z) (p && (y && z)) := by decide
theorem bm_set {R : Nat → Int32} {i t r k : Nat} : Bm (fun_set R i (R i ^^^ R t)) r k = Bool.xor (Bm R r k) (decide (r = i) && Bm R t k) := by
  unfold Bm fun_set
  by_cases e : r = i
  · rw [if_pos e, decide_eq_true e, hb_xor, e]
    rfl
  · rw [if_neg e, decide_eq_false e]
    show hb (R r) k = Bool.xor (hb (R r) k) false
    rw [Bool.xor_false]
theorem mp_l {n : Nat} {A B : BM} {d : Nat → Bool} {t : Nat} (r c : Nat) : mp n (fun r k => Bool.xor (A r k) (d r && A t k)) B r c = Bool.xor (mp n A B r c) (d r && mp n A B t c) := by
  unfold mp
  refine (xs_cg (fun k _ => bx3 (A r k) (d r) (A t k) (B k c))).trans ?_
  rw [xs_x, xs_a]
theorem eo_add {n i t : Nat} {f L R : Nat → Int32} (h : EO n f L R) (hi : i < n) (ht : t < n) (hne : i ≠ t) : EO n f (fun_set L i (L i ^^^ L t)) (fun_set R i (R i ^^^ R t)) := by
  obtain ⟨h1, Q, h2, h3⟩ := h
  have eR : Bm (fun_set R i (R i ^^^ R t)) = fun r k => Bool.xor (Bm R r k) ((fun r => decide (r = i)) r && Bm R t k) := funext fun r => funext fun k => bm_set
  refine ⟨fun r c hr hc => ?_, fun r x => Bool.xor (Q r x) (decide (x = t) && Q r i), fun r c hr hc => ?_, fun r c hr hc => ?_⟩
  · have e : hb (fun_set L i (L i ^^^ L t) r) c = Bool.xor (hb (L r) c) (decide (r = i) && hb (L t) c) := bm_set (R := L)
    rw [e, eR, mp_l (d := fun r => decide (r = i)), h1 r c hr hc, h1 t c ht hc]
  · rw [eR, ← h2 r c hr hc]
    unfold mp
    refine (xs_cg (fun k _ => bx4 (Q r k) (decide (k = t)) (Q r i) (Bm R k c) (decide (k = i)) (Bm R t c))).trans ?_
    rw [xs_x, xs_x, xs_x, xs_1 (f := fun k => Q r i && Bm R k c), xs_1 (f := fun k => Q r k && Bm R t c), xs_1 (f := fun k => decide (k = i) && (Q r i && Bm R t c)), decide_eq_true hi, decide_eq_true ht, decide_eq_false (Ne.symm hne)]
    cases xs (fun k => Q r k && Bm R k c) n <;> cases Q r i <;> cases Bm R t c <;> rfl
  · have e1 : mp n (Bm (fun_set R i (R i ^^^ R t))) (fun r x => Bool.xor (Q r x) (decide (x = t) && Q r i)) r c = Bool.xor (Bool.xor (mp n (Bm R) Q r c) (decide (r = i) && mp n (Bm R) Q t c)) (Bool.xor (decide (c = t) && mp n (Bm R) Q r i) (decide (r = i) && (decide (c = t) && mp n (Bm R) Q t i))) := by
      rw [eR]
      unfold mp
      refine (xs_cg (fun k _ => bx4 (Bm R r k) (decide (r = i)) (Bm R t k) (Q k c) (decide (c = t)) (Q k i))).trans ?_
      rw [xs_x, xs_x, xs_x, xs_a, xs_a, xs_a, xs_a]
    rw [e1, h3 r c hr hc, h3 t c ht hc, h3 r i hr hi, h3 t i ht hi, decide_eq_false (Ne.symm hne)]
    have e2 : decide (t = c) = decide (c = t) := decide_eq_decide.mpr eq_comm
    rw [e2]
    cases decide (r = c) <;> cases decide (r = i) <;> cases decide (c = t) <;> rfl
def sgm (a b i : Nat) : Nat := if i = b then a else if i = a then b else i
theorem xs_sg {g : Nat → Bool} {a b n : Nat} (ha : a < n) (hb9 : b < n) : xs (fun k => g (sgm a b k)) n = xs g n := by
  by_cases e : a = b
  · subst e
    refine xs_cg (fun k _ => ?_)
    unfold sgm
    by_cases q : k = a
    · rw [if_pos q, q]
    · rw [if_neg q, if_neg q]
  · have e1 : ∀ k, g (sgm a b k) = Bool.xor (g k) (Bool.xor (decide (k = a) && (Bool.xor (g a) (g b))) (decide (k = b) && (Bool.xor (g a) (g b)))) := fun k => by
      unfold sgm
      by_cases q : k = b
      · rw [if_pos q, decide_eq_true q, decide_eq_false (fun h => e (h.symm.trans q)), q]
        cases g a <;> cases g b <;> rfl
      · rw [if_neg q, decide_eq_false q]
        by_cases q2 : k = a
        · rw [if_pos q2, decide_eq_true q2, q2]
          cases g a <;> cases g b <;> rfl
        · rw [if_neg q2, decide_eq_false q2]
          cases g k <;> rfl
    refine (xs_cg (fun k _ => e1 k)).trans ?_
    rw [xs_x, xs_x, xs_1 (f := fun _ => Bool.xor (g a) (g b)), xs_1 (f := fun _ => Bool.xor (g a) (g b)), decide_eq_true ha, decide_eq_true hb9]
    cases xs g n <;> cases g a <;> cases g b <;> rfl
theorem sg_lt {a b i n : Nat} (ha : a < n) (hb9 : b < n) (hi : i < n) : sgm a b i < n := by
  unfold sgm
  split
  · exact ha
  · split
    · exact hb9
    · exact hi
theorem sg_inj {a b i j : Nat} : sgm a b i = sgm a b j ↔ i = j := by
  unfold sgm
  constructor
  · intro h
    split at h <;> split at h <;> (try split at h) <;> (try split at h) <;> omega
  · intro h
    rw [h]
theorem bm_swp {R : Nat → Int32} {a b : Nat} : Bm (swp R a b) = fun r k => Bm R (sgm a b r) k := funext fun r => funext fun k => by
  unfold Bm sgm
  rw [swp_at]
  by_cases q : r = b
  · rw [if_pos q, if_pos q]
  · rw [if_neg q, if_neg q]
    by_cases q2 : r = a
    · rw [if_pos q2, if_pos q2]
    · rw [if_neg q2, if_neg q2]
theorem eo_swp {n a b : Nat} {f L R : Nat → Int32} (h : EO n f L R) (ha : a < n) (hb9 : b < n) : EO n f (swp L a b) (swp R a b) := by
  obtain ⟨h1, Q, h2, h3⟩ := h
  refine ⟨fun r c hr hc => ?_, fun r x => Q r (sgm a b x), fun r c hr hc => ?_, fun r c hr hc => ?_⟩
  · have e : hb (swp L a b r) c = hb (L (sgm a b r)) c := congrFun (congrFun (bm_swp (R := L) (a := a) (b := b)) r) c
    rw [e, bm_swp, h1 _ c (sg_lt ha hb9 hr) hc]
    rfl
  · rw [bm_swp, ← h2 r c hr hc]
    unfold mp
    exact xs_sg (g := fun k => Q r k && Bm R k c) ha hb9
  · rw [bm_swp]
    have e := h3 _ _ (sg_lt ha hb9 hr) (sg_lt ha hb9 hc)
    rw [decide_eq_decide.mpr sg_inj] at e
    exact e
theorem eo_cl {n t c : Nat} {f L R : Nat → Int32} (h : EO n f L R) (ht : t < n) : ∀ k, k ≤ n → EO n f (clG t c L R k).1 (clG t c L R k).2
  | 0, _ => h
  | k + 1, hk => by
    have ih := eo_cl (c := c) h ht k (by omega)
    unfold clG
    generalize clG t c L R k = p at ih ⊢
    split
    · rename_i q
      exact eo_add ih (by omega) ht q.1
    · exact ih
theorem rnt_no {f : Nat → Int32} {c : Nat} : ∀ d r, rnt f c d r = none → ∀ i, r ≤ i → i < r + d → hb (f i) c = false
  | 0, r, _, i, h1, h2 => by omega
  | d + 1, r, h, i, h1, h2 => by
    unfold rnt at h
    split at h
    · cases h
    · rename_i q
      by_cases e : i = r
      · rw [e]
        exact Bool.eq_false_iff.mpr q
      · exact rnt_no d (r + 1) h i (by omega) (by omega)
theorem rnt_yes {f : Nat → Int32} {c : Nat} : ∀ d r v, rnt f c d r = some v → hb (f v) c = true
  | 0, r, v, h => by cases h
  | d + 1, r, v, h => by
    unfold rnt at h
    split at h
    · rename_i q
      cases h
      exact q
    · exact rnt_yes d (r + 1) v h
/-- elimination, behind j columns -/
def EI (n : Nat) (f : Nat → Int32) (s : ES) (j : Nat) : Prop := s.2.2.2 ≤ j ∧ s.2.2.2 ≤ n ∧ EO n f s.1 s.2.1 ∧ (∀ r, s.2.2.2 ≤ r → r < n → ∀ c, c < j → hb (s.1 r) c = false) ∧ (s.2.2.2 = j → ∀ i, i < j → ∀ r, r < n → hb (s.1 r) i = decide (r = i))
theorem ei_step {n j : Nat} {f : Nat → Int32} {s : ES} (h : EI n f s j) (hj : j < n) : EI n f (elStep n j s) (j + 1) := by
  obtain ⟨h1, h2, h3, h4, h5⟩ := h
  unfold elStep
  cases q : rnt s.1 j (n - s.2.2.2) s.2.2.2 with
  | none =>
    refine ⟨(by omega : s.2.2.2 ≤ j + 1), h2, h3, fun r hr hn c hc => ?_, fun e => absurd (show s.2.2.2 = j + 1 from e) (by omega)⟩
    by_cases e : c = j
    · rw [e]
      exact rnt_no _ _ q r hr (by omega)
    · exact h4 r hr hn c (by omega)
  | some v =>
    obtain ⟨r1, r2⟩ := rntR_lt _ _ _ q
    have ry := rnt_yes _ _ _ q
    have hv : v < n := by omega
    have hc9 : s.2.2.2 < n := by omega
    obtain ⟨L, R, P, k⟩ := s
    dsimp only at *
    have g3 := eo_swp h3 hv hc9
    have sk : ∀ c, hb (swp L v k k) c = hb (L v) c := fun c => by rw [swp_at, if_pos rfl]
    have lo : ∀ r, k ≤ r → r < n → ∀ c, c < j → hb (swp L v k r) c = false := fun r hr hn c hc => by
      rw [swp_at]
      split
      · exact h4 v (by omega) hv c hc
      · split
        · exact h4 k (Nat.le_refl k) hc9 c hc
        · exact h4 r hr hn c hc
    have at9 : ∀ r c, r < n → hb ((clG k j (swp L v k) (swp R v k) n).1 r) c = Bool.xor (hb (swp L v k r) c) ((decide (r ≠ k) && hb (swp L v k r) j) && hb (L v) c) := fun r c hr => by
      rw [(clGR_ok n r).1]
      by_cases e : r ≠ k ∧ hb (swp L v k r) j = true
      · rw [if_pos ⟨hr, e⟩, hb_xor, sk, decide_eq_true e.1, e.2]
        rfl
      · rw [if_neg (fun q9 => e q9.2)]
        have e2 : (decide (r ≠ k) && hb (swp L v k r) j) = false := by
          rw [Bool.eq_false_iff]
          intro q9
          rw [Bool.and_eq_true, decide_eq_true_eq] at q9
          exact e q9
        rw [e2]
        show _ = Bool.xor _ false
        rw [Bool.xor_false]
    refine ⟨(by omega : k + 1 ≤ j + 1), (by omega : k + 1 ≤ n), eo_cl g3 hc9 n (Nat.le_refl n), fun r hr hn c hc => ?_, fun e i hi r hn => ?_⟩
    · have hr2 : k + 1 ≤ r := hr
      show hb ((clG k j (swp L v k) (swp R v k) n).1 r) c = false
      rw [at9 r c hn]
      by_cases e : c = j
      · rw [e, ry, decide_eq_true (by omega)]
        cases hb (swp L v k r) j <;> rfl
      · rw [lo r (by omega) hn c (by omega), h4 v (by omega) hv c (by omega), Bool.and_false]
        rfl
    · have ek : k = j := by
        have : k + 1 = j + 1 := e
        omega
      show hb ((clG k j (swp L v k) (swp R v k) n).1 r) i = decide (r = i)
      rw [at9 r i hn]
      by_cases e9 : i = j
      · rw [e9, ry]
        by_cases e8 : r = k
        · rw [decide_eq_false (fun q9 : r ≠ k => q9 e8), decide_eq_true (show r = j by omega), e8, sk, ry]
          rfl
        · rw [decide_eq_true e8, decide_eq_false (show ¬ r = j by omega)]
          cases hb (swp L v k r) j <;> rfl
      · rw [h4 v (by omega) hv i (by omega), Bool.and_false, Bool.xor_false]
        by_cases e8 : k ≤ r
        · rw [lo r e8 hn i (by omega), decide_eq_false (by omega)]
        · rw [swp_at, if_neg (by omega), if_neg (by omega)]
          exact h5 ek i (by omega) r hn
theorem ei_all {n : Nat} {f : Nat → Int32} {s : ES} (h : EI n f s 0) : ∀ k, k ≤ n → EI n f (elIt n s k) k
  | 0, _ => h
  | k + 1, hk => ei_step (ei_all h k (by omega)) (by omega)
theorem ei_0 {n : Nat} {f L R P : Nat → Int32} (hn : n ≤ 32) (hL : ∀ r, r < n → L r = f r) (hR : ∀ r, r < n → R r = bitI r) : EI n f (L, R, P, 0) 0 := by
  have hI : isI n (Bm R) := fun r c hr hc => by
    unfold Bm
    rw [hR r hr, hb_bitI (by omega)]
    exact decide_eq_decide.mpr eq_comm
  refine ⟨Nat.le_refl 0, Nat.zero_le n, ⟨fun r c hr hc => ?_, fun r c => decide (r = c), ?_, ?_⟩, fun _ _ _ c hc => absurd hc (Nat.not_lt_zero c), fun _ i hi => absurd hi (Nat.not_lt_zero i)⟩
  · show hb (L r) c = mp n (Bm R) (Bm f) r c
    rw [mp_1 hI c hr, hL r hr]
    rfl
  · intro r c hr hc
    show mp n _ (Bm R) r c = _
    rw [mp_2 hI r hc]
  · intro r c hr hc
    show mp n (Bm R) _ r c = _
    rw [mp_1 hI c hr]
/-- all columns have pivots: right is the inverse, from both sides -/
theorem ei_inv {n : Nat} {f : Nat → Int32} {s : ES} (h : EI n f s n) (hk : s.2.2.2 = n) : isI n (mp n (Bm s.2.1) (Bm f)) ∧ isI n (mp n (Bm f) (Bm s.2.1)) := by
  obtain ⟨-, -, ⟨h1, Q, h2, h3⟩, -, h5⟩ := h
  have a1 : isI n (mp n (Bm s.2.1) (Bm f)) := fun r c hr hc => by
    rw [← h1 r c hr hc]
    exact h5 hk c hc r hr
  refine ⟨a1, fun r c hr hc => ?_⟩
  have e : ∀ k, k < n → Bm f r k = Q r k := fun k hk9 => by
    have b1 := mp_as (n := n) (A := Q) (B := Bm s.2.1) (C := Bm f) r k
    rw [mp_1 h2 k hr, mp_2 a1 r hk9] at b1
    exact b1
  rw [mp_cg e (fun _ _ => rfl)]
  exact h2 r c hr hc
/-- a column has none: no matrix stands behind f that makes the unit -/
theorem ei_no {n : Nat} {f : Nat → Int32} {s : ES} (h : EI n f s n) (hk : s.2.2.2 < n) (X : BM) (hX : isI n (mp n (Bm f) X)) : False := by
  obtain ⟨-, -, ⟨h1, Q, h2, h3⟩, h4, -⟩ := h
  have e0 : ∀ k, k < n → mp n (Bm s.2.1) (Bm f) s.2.2.2 k = false := fun k hk9 => by
    rw [← h1 _ k hk hk9]
    exact h4 _ (Nat.le_refl _) hk k hk9
  have e1 : ∀ k, k < n → Bm s.2.1 s.2.2.2 k = false := fun k hk9 => by
    have b1 := mp_as (n := n) (A := Bm s.2.1) (B := Bm f) (C := X) s.2.2.2 k
    rw [mp_2 hX _ hk9] at b1
    rw [← b1]
    show xs (fun j => mp n (Bm s.2.1) (Bm f) s.2.2.2 j && X j k) n = false
    refine (xs_cg (g := fun _ => false) (fun j hj => ?_)).trans (xs_f n)
    rw [e0 j hj]
    rfl
  have e2 := h3 s.2.2.2 s.2.2.2 hk hk
  rw [decide_eq_true rfl] at e2
  have e3 : mp n (Bm s.2.1) Q s.2.2.2 s.2.2.2 = false := by
    show xs (fun j => Bm s.2.1 s.2.2.2 j && Q j s.2.2.2) n = false
    refine (xs_cg (g := fun _ => false) (fun j hj => ?_)).trans (xs_f n)
    rw [e1 j hj]
    rfl
  rw [e3] at e2
  cases e2
