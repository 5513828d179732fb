/-! the law's tables of truths beside the class's rows -/
section
variable {n : Nat} {f g : Nat → Int32} {x y : Int32}
theorem cR_p (h : Nat → Bool) : ∀ k, cR h k = pcb h k
  | 0 => rfl
  | k + 1 => by
    rw [cR, pcb, cR_p h k]
    cases h k <;> rfl
theorem cR_cg {h h' : Nat → Bool} : ∀ k, (∀ i, i < k → h i = h' i) → cR h k = cR h' k
  | 0, _ => rfl
  | k + 1, e => by rw [cR, cR, cR_cg k (fun i hi => e i (by omega)), e k (by omega)]
theorem cM_cg {h h' : Nat → Nat → Bool} : ∀ k, (∀ r c, r < k → c < n → h r c = h' r c) → cM h n k = cM h' n k
  | 0, _ => rfl
  | k + 1, e => by rw [cM, cM, cM_cg k (fun r c hr hc => e r c (by omega) hc), cR_cg n (fun c hc => e k c (by omega) hc)]
theorem bc_c (hn : n ≤ 32) (hx : ∀ c, n ≤ c → hb x c = false) : bcJ x = nI (cR (hb x) n) := by
  rw [bcJ_n, pcN_b, pcb_trunc 32 hn hx, cR_p]
theorem on_c (hn : n ≤ 32) (hf : wfr n f) : ∀ k, k ≤ n → onesF f k = nI (cM (fB f) n k)
  | 0, _ => rfl
  | k + 1, hk => by
    rw [onesF, on_c hn hf k (by omega), bc_c hn (hf k (by omega))]
    exact nI_add _ _
theorem df_c (hn : n ≤ 32) (hf : wfr n f) (hg : wfr n g) : ∀ k, k ≤ n → dfF f g k = nI (dM (fB f) (fB g) n k)
  | 0, _ => rfl
  | k + 1, hk => by
    rw [dfF, df_c hn hf hg k (by omega), bc_c hn (fun c hc => by rw [hb_xor, hf k (by omega) c hc, hg k (by omega) c hc]; rfl), show hb (f k ^^^ g k) = fun c => Bool.xor (hb (f k) c) (hb (g k) c) from funext fun c => hb_xor _ _ c]
    exact nI_add _ _
theorem clB_w {a b : Nat} (hw : wfr n f) (ha : a < n) : clB (fB f) n a b = hb (wOut f n n a) b := Bool.eq_iff_iff.mpr (clB_t.trans (wO_ok hw ha).symm)
theorem clB_cg {p q : Nat → Nat → Bool} (h : ∀ r c, r < n → c < n → p r c = q r c) : clB p n = clB q n := by
  funext a b
  refine Bool.eq_iff_iff.mpr (clB_t.trans (Iff.trans ?_ clB_t.symm))
  exact ⟨fun z T h1 h2 => z T (fun x y hx hy e => h1 x y hx hy (by rw [← h x y hx hy]; exact e)) h2, fun z T h1 h2 => z T (fun x y hx hy e => h1 x y hx hy (by rw [h x y hx hy]; exact e)) h2⟩
theorem dM_cl (hf : wfr n f) (hg : wfr n g) : dM (clB (fB f) n) (clB (fB g) n) n n = dM (fB (wOut f n n)) (fB (wOut g n n)) n n := cM_cg n (fun r c hr _ => by rw [clB_w hf hr, clB_w hg hr])
theorem pr_c {a : Nat} (hw : wfr n f) : prR (wOut f n n) a n = nI (cR (fun k => decide (k = a) || clB (fB f) n k a) n) := by
  rw [prR_n, cR_p]
  exact congrArg nI (pcb_congr n (fun i hi => by rw [clB_w hw hi]))
theorem cR_0 {h : Nat → Bool} : ∀ k, cR h k = 0 ↔ ∀ c, c < k → h c = false
  | 0 => ⟨fun _ c hc => absurd hc (Nat.not_lt_zero c), fun _ => rfl⟩
  | k + 1 => by
    have ih := cR_0 (h := h) k
    have e : cR h (k + 1) = cR h k + (match h k with | true => 1 | false => 0) := rfl
    rw [e]
    cases q : h k
    · show cR h k + 0 = 0 ↔ _
      refine ⟨fun z c hc => ?_, fun z => ?_⟩
      · rcases Nat.lt_succ_iff_lt_or_eq.mp hc with y | y
        · exact ih.mp (by omega) c y
        · rw [y]
          exact q
      · exact ih.mpr (fun c hc => z c (by omega))
    · show cR h k + 1 = 0 ↔ _
      refine ⟨fun z => absurd z (Nat.succ_ne_zero _), fun z => ?_⟩
      have := z k (Nat.lt_succ_self k)
      rw [q] at this
      cases this
theorem cM_0 {h : Nat → Nat → Bool} : ∀ k, cM h n k = 0 ↔ ∀ r c, r < k → c < n → h r c = false
  | 0 => ⟨fun _ r _ hr => absurd hr (Nat.not_lt_zero r), fun _ => rfl⟩
  | k + 1 => by
    have ih := cM_0 (h := h) k
    have i2 := cR_0 (h := h k) n
    have e : cM h n (k + 1) = cM h n k + cR (h k) n := rfl
    rw [e]
    refine ⟨fun z r c hr hc => ?_, fun z => ?_⟩
    · rcases Nat.lt_succ_iff_lt_or_eq.mp hr with y | y
      · exact ih.mp (by omega) r c y hc
      · rw [y]
        exact i2.mp (by omega) c hc
    · rw [ih.mpr (fun r c hr hc => z r c (by omega) hc), i2.mpr (fun c hc => z k c (by omega) hc)]
/-! edges not needed -/
theorem rcf_wf (hf : wfr n f) (hn : n ≤ 32) : ∀ k, k ≤ n * n → wfr n (rcF f n k)
  | 0, _ => hf
  | k + 1, hk => by
    have ih := rcf_wf hf hn k (by omega)
    have h0 : 0 < n := by
      rcases Nat.eq_zero_or_pos n with e | e
      · rw [e] at hk
        omega
      · exact e
    unfold rcF
    split
    · exact tn_wf ih (Nat.div_lt_of_lt_mul (by omega)) (Nat.mod_lt _ h0) hn
    · exact ih
theorem rd_s {i j : Nat} {L : Nat → Nat → Bool} (hf : wfr n f) (hg : wfr n g) (hn : n ≤ 32) (hi : i < n) (hj : j < n) (hL : ∀ r c, r < n → c < n → L r c = hb (g r) c) : ∀ r c, r < n → c < n → rdE (clB (fB f) n) L n i j r c = hb ((if rcB f n i j g = true then tnF g i j else g) r) c := by
  intro r c hr hc
  have hT := tn_wf hg hi hj hn
  have hLij := hL i j hi hj
  cases q : hb (g i) j
  · have e1 : rcB f n i j g = false := by
      unfold rcB
      rw [q]
      rfl
    rw [e1, if_neg (by decide)]
    unfold rdE
    rw [if_neg (fun z => by rw [hLij, q] at z; cases z.2.2)]
    exact hL r c hr hc
  · have e1 : rcB f n i j g = eqB (wOut (tnF g i j) n n) (wOut f n n) n := by
      unfold rcB
      rw [q]
      rfl
    have e2 : clB (fun r' c' => if r' = i ∧ c' = j then false else L r' c') n = clB (fB (tnF g i j)) n := clB_cg (fun r' c' hr' hc' => by
      show (if r' = i ∧ c' = j then false else L r' c') = hb (tnF g i j r') c'
      rw [hb_tn (by omega), hL r' c' hr' hc']
      by_cases e : r' = i
      · by_cases e3 : c' = j
        · rw [if_pos ⟨e, e3⟩, if_pos e, e3, q, decide_eq_true rfl]
          rfl
        · rw [if_neg (fun z => e3 z.2), if_pos e, decide_eq_false e3, Bool.xor_false, e]
      · rw [if_neg (fun z => e z.1), if_neg e])
    have e4 : (∀ k, k < n → wOut (tnF g i j) n n k = wOut f n n k) ↔ dM (clB (fB (tnF g i j)) n) (clB (fB f) n) n n = 0 := by
      rw [dM_cl hT hf]
      unfold dM
      rw [cM_0]
      refine ⟨fun z r c hr hc => ?_, fun z k hk => row_eq (wO_n hT) (wO_n hf) hk (fun b hb9 => ?_)⟩
      · show Bool.xor (hb (wOut (tnF g i j) n n r) c) (hb (wOut f n n r) c) = false
        rw [z r hr, Bool.xor_self]
      · have z9 : Bool.xor (hb (wOut (tnF g i j) n n k) b) (hb (wOut f n n k) b) = false := z k b hk hb9
        revert z9
        cases hb (wOut (tnF g i j) n n k) b <;> cases hb (wOut f n n k) b <;> decide
    rw [e1]
    have e5 := eqB_ok (f := wOut (tnF g i j) n n) (g := wOut f n n) n
    by_cases z : eqB (wOut (tnF g i j) n n) (wOut f n n) n = true
    · have d0 := e4.mp (e5.mp z)
      rw [if_pos z, hb_tn (by omega)]
      unfold rdE
      rw [e2, d0]
      by_cases e : r = i
      · by_cases e3 : c = j
        · rw [if_pos ⟨e, e3, by rw [hLij, q]⟩, if_pos e, e3, q, decide_eq_false (Nat.lt_irrefl 0), decide_eq_true rfl]
          rfl
        · rw [if_neg (fun y => e3 y.2.1), if_pos e, decide_eq_false e3, Bool.xor_false, hL r c hr hc, e]
      · rw [if_neg (fun y => e y.1), if_neg e, hL r c hr hc]
    · have d1 : 0 < dM (clB (fB (tnF g i j)) n) (clB (fB f) n) n n := Nat.pos_of_ne_zero (fun y => z (e5.mpr (e4.mpr y)))
      rw [if_neg z]
      unfold rdE
      rw [e2]
      by_cases e : r = i ∧ c = j
      · rw [if_pos ⟨e.1, e.2, by rw [hLij, q]⟩, decide_eq_true d1, e.1, e.2, q]
      · rw [if_neg (fun y => e ⟨y.1, y.2.1⟩), hL r c hr hc]
theorem rd_r {i : Nat} {L : Nat → Nat → Bool} (hf : wfr n f) (hn : n ≤ 32) (hi : i < n) (hL : ∀ r c, r < n → c < n → L r c = hb (rcF f n (i * n) r) c) : ∀ j, j ≤ n → ∀ r c, r < n → c < n → rdR (clB (fB f) n) L n i j r c = hb (rcF f n (i * n + j) r) c
  | 0, _ => hL
  | j + 1, hj => by
    have ih := rd_r hf hn hi hL j (by omega)
    have hk : i * n + j < n * n := by
      have h9 : (i + 1) * n ≤ n * n := Nat.mul_le_mul_right n hi
      rw [Nat.succ_mul] at h9
      omega
    have e1 : (i * n + j) / n = i := by rw [Nat.mul_comm, Nat.mul_add_div (by omega), Nat.div_eq_of_lt (by omega), Nat.add_zero]
    have e2 : (i * n + j) % n = j := by rw [Nat.mul_comm, Nat.mul_add_mod, Nat.mod_eq_of_lt (by omega)]
    have e3 : rcF f n (i * n + (j + 1)) = if rcB f n i j (rcF f n (i * n + j)) = true then tnF (rcF f n (i * n + j)) i j else rcF f n (i * n + j) := by
      show (if rcB f n ((i * n + j) / n) ((i * n + j) % n) (rcF f n (i * n + j)) = true then tnF (rcF f n (i * n + j)) ((i * n + j) / n) ((i * n + j) % n) else rcF f n (i * n + j)) = _
      rw [e1, e2]
    rw [e3]
    exact rd_s hf (rcf_wf hf hn _ (by omega)) hn hi (by omega) ih
theorem rd_w (hf : wfr n f) (hn : n ≤ 32) : ∀ i, i ≤ n → ∀ r c, r < n → c < n → rdB (clB (fB f) n) (fB f) n i r c = hb (rcF f n (i * n) r) c
  | 0, _ => fun r c _ _ => by
    rw [Nat.zero_mul]
    rfl
  | i + 1, hi => by
    rw [Nat.succ_mul]
    exact rd_r hf hn (by omega) (rd_w hf hn i (by omega)) n (Nat.le_refl n)
/-! products -/
theorem ml_b {is : Bool} {c : Nat} : ∀ k, hb (mlI is g x k) c = (match is with | true => decide (cR (fun j => hb x j && hb (g j) c) k % 2 = 1) | false => decide (0 < cR (fun j => hb x j && hb (g j) c) k))
  | 0 => by cases is <;> exact hb_0 c
  | k + 1 => by
    have ih := ml_b (is := is) (c := c) k
    have e1 : hb (if hb x k = true then g k else 0) c = (hb x k && hb (g k) c) := by
      cases hb x k
      · rw [if_neg (by decide)]
        exact hb_0 c
      · rw [if_pos rfl]
        rfl
    have e2 : cR (fun j => hb x j && hb (g j) c) (k + 1) = cR (fun j => hb x j && hb (g j) c) k + (match (hb x k && hb (g k) c) with | true => 1 | false => 0) := rfl
    rw [e2]
    generalize cR (fun j => hb x j && hb (g j) c) k = w at *
    rw [mlI]
    cases is
    · have ih2 : hb (mlI false g x k) c = decide (0 < w) := ih
      show hb (jn 0 (mlI false g x k) _) c = decide (0 < _)
      unfold jn
      rw [if_pos rfl, hb_or, ih2, e1]
      cases (hb x k && hb (g k) c)
      · show (decide (0 < w) || false) = decide (0 < w + 0)
        rw [Bool.or_false]
        rfl
      · show (decide (0 < w) || true) = decide (0 < w + 1)
        rw [Bool.or_true, decide_eq_true (Nat.succ_pos w)]
    · have ih2 : hb (mlI true g x k) c = decide (w % 2 = 1) := ih
      show hb (jn 1 (mlI true g x k) _) c = decide (_ % 2 = 1)
      unfold jn
      rw [if_neg (by decide), hb_xor, ih2, e1]
      cases (hb x k && hb (g k) c)
      · show Bool.xor (decide (w % 2 = 1)) false = decide ((w + 0) % 2 = 1)
        rw [Bool.xor_false]
        rfl
      · show Bool.xor (decide (w % 2 = 1)) true = decide ((w + 1) % 2 = 1)
        by_cases z : w % 2 = 1
        · rw [decide_eq_true z, decide_eq_false (by omega)]
          rfl
        · rw [decide_eq_false z, decide_eq_true (by omega)]
          rfl
theorem mlB_w {is : Bool} {r c : Nat} : mlB is (fB f) (fB g) n r c = hb (mlF is f g n r) c := by
  rw [show mlF is f g n r = mlI is g (f r) n from rfl, ml_b]
  cases is <;> rfl
theorem mlB_cg {is : Bool} {p p' q q' : Nat → Nat → Bool} (hp : ∀ r c, r < n → c < n → p r c = p' r c) (hq : ∀ r c, r < n → c < n → q r c = q' r c) {r c : Nat} (hr : r < n) (hc : c < n) : mlB is p q n r c = mlB is p' q' n r c := by
  have e : cR (fun k => p r k && q k c) n = cR (fun k => p' r k && q' k c) n := cR_cg n (fun k hk => by rw [hp r k hr hk, hq k c hk hc])
  unfold mlB
  cases is
  · show decide (0 < cR (fun k => p r k && q k c) n) = decide (0 < cR (fun k => p' r k && q' k c) n)
    rw [e]
  · show decide (cR (fun k => p r k && q k c) n % 2 = 1) = decide (cR (fun k => p' r k && q' k c) n % 2 = 1)
    rw [e]
theorem any_t {h : Nat → Bool} {a : Nat} : ∀ w, anyB h a w = false ↔ ∀ j, j < w → h (a + j) = false
  | 0 => ⟨fun _ j hj => absurd hj (Nat.not_lt_zero j), fun _ => rfl⟩
  | w + 1 => by
    have ih := any_t (h := h) (a := a) w
    rw [anyB, Bool.or_eq_false_iff, ih]
    refine ⟨fun z j hj => ?_, fun z => ⟨fun j hj => z j (by omega), z w (Nat.lt_succ_self w)⟩⟩
    rcases Nat.lt_succ_iff_lt_or_eq.mp hj with y | y
    · exact z.1 j y
    · rw [y]
      exact z.2
theorem set_0 {a w : Nat} (ha : a < 32) (hw : w ≤ 32) : setI x a w = 0 ↔ anyB (hb x) a w = false := by
  rw [any_t]
  refine ⟨fun z j hj => ?_, fun z => hb_ext (fun i _ => ?_)⟩
  · have e := hb_setI (x := x) (st := a) (c := w) ha hw j
    rw [z, hb_0, decide_eq_true hj, Bool.and_true] at e
    exact e.symm
  · rw [hb_setI ha hw, hb_0]
    by_cases e : i < w
    · rw [z i e]
      rfl
    · rw [decide_eq_false e, Bool.and_false]
theorem tk_w {a w t : Nat} (ha : a < 32) (hw : w ≤ 32) : ∀ i, tkR (fB f) a w t i = tkI f a w t i
  | 0 => rfl
  | i + 1 => by
    have e := set_0 (x := f i) ha hw
    rw [tkR, tkI, tk_w ha hw i]
    show tkI f a w t i + (match anyB (hb (f i)) a w with | true => 1 | false => 0) = _
    cases q : anyB (hb (f i)) a w
    · rw [if_pos (e.mpr q)]
      rfl
    · rw [if_neg (fun z => by rw [e.mp z] at q; cases q)]
theorem tkN_w {bl : Nat} (h8 : bl ≤ 8) : ∀ K, (∀ j, j < K → j * bl < 32) → tkB (fB f) n bl K = tkN f n bl K
  | 0, _ => rfl
  | k + 1, h => by
    have hw : min bl (n - k * bl) ≤ 32 := Nat.le_trans (Nat.min_le_left _ _) (by omega)
    rw [tkB, tkN, tkN_w h8 k (fun j hj => h j (by omega)), tk_w (h k (by omega)) hw]
theorem any_cg {h h' : Nat → Bool} {a : Nat} : ∀ w, (∀ j, j < w → h (a + j) = h' (a + j)) → anyB h a w = anyB h' a w
  | 0, _ => rfl
  | w + 1, e => by rw [anyB, anyB, any_cg w (fun j hj => e j (by omega)), e w (by omega)]
theorem tkR_cg {p q : Nat → Nat → Bool} {a w t t' : Nat} (ht : t = t') : ∀ i, (∀ r, r < i → ∀ j, j < w → p r (a + j) = q r (a + j)) → tkR p a w t i = tkR q a w t' i
  | 0, _ => ht
  | i + 1, e => by rw [tkR, tkR, tkR_cg ht i (fun r hr => e r (by omega)), any_cg w (e i (by omega))]
theorem tkB_cg {p q : Nat → Nat → Bool} {bl : Nat} (h : ∀ r c, r < n → c < n → p r c = q r c) : ∀ K, tkB p n bl K = tkB q n bl K
  | 0 => rfl
  | k + 1 => by
    rw [tkB, tkB]
    refine tkR_cg (tkB_cg h k) n (fun r hr j hj => h r _ hr ?_)
    have := Nat.min_le_right bl (n - k * bl)
    omega
theorem blk_eq {bl K : Nat} (h1 : 1 ≤ bl) (ha : n ≤ K * bl) (hb9 : ∀ j, j < K → j * bl < n) : K = blocks n bl := by
  have h2 : n ≤ blocks n bl * bl := by
    unfold blocks
    have h3 := Nat.div_add_mod (n + bl - 1) bl
    have h4 := Nat.mod_lt (n + bl - 1) (show bl > 0 from h1)
    rw [Nat.mul_comm] at h3
    omega
  rcases Nat.lt_trichotomy K (blocks n bl) with e | e | e
  · have := blocks_lt h1 e
    omega
  · exact e
  · have := hb9 _ e
    omega
theorem tkB_w {bl K : Nat} (h1 : 1 ≤ bl) (h8 : bl ≤ 8) (hn : n ≤ 9) (hb9 : ∀ j, j < K → j * bl < n) : tkB (fB f) n bl K = tkN f n bl K := tkN_w h8 K (fun j hj => by have := hb9 j hj; omega)
end
