/-! laws of both sides -/
abbrev Am (M : Mem) : Nat → Nat → Int32 := fun s r => mI M (6 + 2 * s) r
theorem wIn_id {g : Nat → Int32} {m : Nat} : ∀ {i : Nat}, (∀ x, x < i → hb (g x) m = true → g x ||| g m = g x) → wIn g m i = g
  | 0, _ => rfl
  | i + 1, h => by
    unfold wIn
    rw [wIn_id (fun x hx => h x (by omega))]
    split
    · rename_i h9
      rw [h i (by omega) h9]
      funext k
      unfold fun_set
      split
      · rename_i e
        rw [e]
      · rfl
    · rfl
theorem wO_id {g : Nat → Int32} {n : Nat} (h : ∀ x m, x < n → m < n → hb (g x) m = true → g x ||| g m = g x) : ∀ {k : Nat}, k ≤ n → wOut g n k = g
  | 0, _ => rfl
  | k + 1, hk => by
    unfold wOut
    rw [wO_id h (k := k) (by omega), wIn_id (fun x hx => h x k hx (by omega))]
theorem sv_cg {s s' : ES} : ∀ {d r : Nat}, (∀ i, r ≤ i → i < r + d → s.2.1 i = s'.2.1 i) → solvB s d r = solvB s' d r
  | 0, _, _ => rfl
  | d + 1, r, h => by
    unfold solvB
    rw [h r (Nat.le_refl r) (by omega), sv_cg (fun i h1 h2 => h i (by omega) (by omega))]
theorem on_cg {f g : Nat → Int32} : ∀ {n : Nat}, (∀ r, r < n → f r = g r) → onesF f n = onesF g n
  | 0, _ => rfl
  | n + 1, h => by
    unfold onesF
    rw [on_cg (fun r hr => h r (by omega)), h n (by omega)]
theorem stV_eq {R : Mem} {r t n : Nat} (ht : t < 6) : stV R r t n = onesF (mI R r) n := by
  unfold stV storeM
  rw [noteM_ne (by omega) (by omega), sI_self]
  exact on_cg (fun i hi => wr_lt hi)
theorem mk_V {R : Mem} {f : Nat → Int32} {t n : Nat} (ht : t < 6) : stV (mkM R f n) 195 t n = onesF f n := by
  rw [stV_eq ht]
  unfold mkM
  rw [sI_self]
  exact on_cg (fun i hi => wr_lt hi)
def cnt (K : Nat → Bool) : Nat → Nat
  | 0 => 0
  | k + 1 => cnt K k + (K k).toNat
theorem kc_ok {M : Mem} {K : Nat → Bool} : ∀ k, (∀ s, s < k → mI M (5 + 2 * s) 1 = b1 (K s)) → keptC M k = cnt K k
  | 0, _ => by rw [keptC.eq_1]; rfl
  | k + 1, h => by
    rw [keptC.eq_2, kc_ok k (fun s hs => h s (by omega)), h k (by omega)]
    show (if b1 (K k) = 0 then cnt K k else cnt K k + 1) = cnt K k + (K k).toNat
    cases K k
    · exact if_pos rfl
    · exact if_neg (by decide)
theorem km_ok {u : Nat → Int64} {K : Nat → Bool} : ∀ k, (∀ s, s < k → u (4 + s) = b1L (K s)) → kmI u k = nI (cnt K k)
  | 0, _ => rfl
  | k + 1, h => by
    show kmI u k + (u (4 + k)).toInt32 = nI (cnt K k + (K k).toNat)
    rw [km_ok k (fun s hs => h s (by omega)), h k (by omega)]
    cases K k
    · exact Int32.add_zero _
    · exact nI_o1 _

theorem thr_I {M : Mem} {x : Int32} {i : Nat} (hi : i ≠ 198) : mI (thr M x) i = mI M i := by
  unfold thr
  exact sI_ne hi
theorem k01_b (b : Bool) : k01 (b1 b) := by
  cases b
  · exact Or.inl rfl
  · exact Or.inr rfl
theorem pI_at9 (M : Mem) (i k : Nat) (x : Int32) : mI (pI M i k x) i k = x := by
  show fun_set (mI M) i (fun_set (mI M i) k x) i k = x
  unfold fun_set
  rw [if_pos rfl, if_pos rfl]
theorem pr_V {R : Mem} {a b t n bl : Nat} {fl : Bool} (ha : a < 6) (hb9 : b < 6) (ht : t < 6) (h0 : mI R 188 0 = 0) (hb1 : 1 ≤ bl) (hb8 : bl ≤ 8) (hn : n ≤ 32) : stV (prM R a b n bl (b1 fl)) 195 t n = onesF (mlF fl (mI R (6 + 2 * a)) (mI R (6 + 2 * b)) n) n := by
  rw [stV_eq ht]
  refine on_cg (fun r hr => ?_)
  have e5 : mI (begMem R (b1 fl)) 187 5 = b1 fl := by
    unfold begMem
    exact pI_at9 _ _ _ _
  obtain ⟨-, h2, -, -⟩ := mul_all (fl := fl) (a := mI R (6 + 2 * a)) (b := mI R (6 + 2 * b)) (g := mI R 195) h0 hb1 hb8 hn
  rw [← h2 r hr]
  unfold prM workM
  rw [show ∀ X : Mem, mI (pI (pI X 3 3 (mI X 187 6)) 3 4 (mI X 187 7)) 195 = mI X 195 from fun X => by rw [sI_ne (by decide), sI_ne (by decide)]]
  unfold mulMem
  rw [sI_ne (by decide), sI_self]
  unfold mulEnd
  rw [e5, begMem_ne (by omega), begMem_ne (by omega), begMem_ne (by decide), begMem_ne (by decide)]
theorem rs_C {M : Mem} {s : RS} : mI (rsMem M s) (rsP s) = rsC s := by
  obtain ⟨F, tb, p, o, m1, m2⟩ := s
  cases F
  · show mI (sI (sI (sI (sI M 188 tb) 189 p) 190 o) 187 (fun_set (fun_set (mI M 187) 6 m1) 7 m2)) 189 = p
    rw [sI_ne (by decide), sI_ne (by decide), sI_self]
  · show mI (sI (sI (sI (sI M 188 tb) 189 p) 190 o) 187 (fun_set (fun_set (mI M 187) 6 m1) 7 m2)) 190 = o
    rw [sI_ne (by decide), sI_self]
theorem pw_V {R M1 : Mem} {s t n bl m : Nat} {fl : Bool} {g : Nat → Int32} (hs : s < 6) (ht : t < 6) (h0 : mI R 188 0 = 0) (hb1 : 1 ≤ bl) (hb8 : bl ≤ 8) (hn : n ≤ 32) (hm : m ≤ 1000000) (hg : ∀ r, r < n → mI R (6 + 2 * s) r = g r) : stV (pwM R s n bl (b1 fl) (nI m)) (rsP (pwE R s n bl (b1 fl) (nI m))) t n = onesF (pqE M1 g fl n bl (nI m)).1 n := by
  rw [stV_eq ht]
  have e5 : mI (begMem R (b1 fl)) 187 5 = b1 fl := by
    unfold begMem
    exact pI_at9 _ _ _ _
  have h1 := pwR_all (fl := fl) (bl := bl) (base := mI R (6 + 2 * s)) (s0 := rs0 (begMem R (b1 fl)) n) (q0 := pwS M1) hm ⟨by
    show mI (begMem R (b1 fl)) 188 0 = 0
    rw [begMem_ne (by decide)]
    exact h0, fun r hr => wr_lt hr, fun h9 => h9.elim⟩ hb1 hb8 hn hg
  have e6 : pwE R s n bl (b1 fl) (nI m) = rsIt (b1 fl) n bl (mI R (6 + 2 * s)) (nI m) (rs0 (begMem R (b1 fl)) n) 20 := by
    unfold pwE raiseEnd
    rw [e5, begMem_ne (by omega)]
  rw [← e6] at h1
  refine on_cg (fun r hr => ?_)
  rw [show (pqE M1 g fl n bl (nI m)).1 r = (pwL g fl n bl (nI m) (hiB (nI m) 21) (pwS M1)).1 r from rfl, ← h1.2.1 r hr, ← rs_C (M := begMem R (b1 fl))]
  have hp := (rs_ids (pwE R s n bl (b1 fl) (nI m))).1
  unfold pwM
  generalize pwE R s n bl (b1 fl) (nI m) = e at *
  have hp3 : rsP e ≠ 3 := by omega
  split
  · unfold workM
    rw [show ∀ X : Mem, mI (pI (pI X 3 3 (mI X 187 6)) 3 4 (mI X 187 7)) (rsP e) = mI X (rsP e) from fun X => by rw [sI_ne hp3, sI_ne hp3]]
  · rfl
theorem kp_b {R : Mem} {s s' n : Nat} {b : Bool} (h0 : mI R (5 + 2 * s') 1 = 0) : mI (mxAnew (pI R (5 + 2 * s) 1 (b1 b)) (5 + 2 * s) (nI n)) (5 + 2 * s') 1 = b1 (if s' = s then b else false) := by
  by_cases e : s' = s
  · subst e
    rw [if_pos rfl]
    have h1 : ∀ (X : Mem) (m : Nat) (x : Int32), mI (mxAnew X m x) m 1 = mI X m 1 := by
      intro X m x
      unfold mxAnew
      split
      · rfl
      · unfold mxLook
        split
        · show fun_set (mI X) m (fun_set (mI X m) 4 _) m 1 = _
          unfold fun_set
          rw [if_pos rfl, if_neg (by decide)]
        · simp [fun_set, mI, sI]
    rw [h1]
    show fun_set (mI R) (5 + 2 * s') (fun_set (mI R (5 + 2 * s')) 1 (b1 b)) (5 + 2 * s') 1 = _
    unfold fun_set
    rw [if_pos rfl, if_pos rfl]
  · rw [if_neg e, mxAnew_ne (by omega), sI_ne (by omega), h0]
    rfl
theorem pL_o9 {M : Mem} {i k j : Nat} {x : Int64} (h : j ≠ k) : mL (pL M i k x) i j = mL M i j := by
  show fun_set (mL M) i (fun_set (mL M i) k x) i j = mL M i j
  unfold fun_set
  rw [if_pos rfl, if_neg h]
theorem kr_b {X : Mem} {s s' : Nat} {b : Bool} {x : Int32} (hs : s < 6) (hs' : s' < 6) (h0 : mL X 199 (4 + s') = 0) : mL (anM (kpS X s b) s x) 199 (4 + s') = b1L (if s' = s then b else false) := by
  have h1 : ∀ (Y : Mem), mL (anM Y s x) 199 (4 + s') = mL Y 199 (4 + s') := by
    intro Y
    unfold anM
    show fun_set (mL (lkM Y s x)) 199 (fun_set (mL (lkM Y s x) 199) (22 + s) _) 199 (4 + s') = _
    unfold fun_set
    rw [if_pos rfl, if_neg (by omega)]
    unfold lkM
    split
    · rw [pL_o9 (by omega), pL_o9 (by omega)]
    · rfl
  rw [h1]
  unfold kpS
  show fun_set (mL X) 199 (fun_set (mL X 199) (4 + s) (b1L b)) 199 (4 + s') = _
  unfold fun_set
  rw [if_pos rfl]
  by_cases e : s' = s
  · subst e
    rw [if_pos rfl, if_pos rfl]
  · rw [if_neg (by omega), if_neg e, h0]
    rfl
theorem ap_n {len : Nat} {T : Nat → Int32} {x : Int64} : ∀ k, len + mrB x k ≤ 600 → (apL len T x k).1 = len + mrB x k
  | 0, _ => rfl
  | k + 1, h => by
    unfold apL
    unfold mrB at h ⊢
    by_cases e : bI x k = 0
    · rw [if_pos e] at h ⊢
      rw [if_pos e]
      exact ap_n k h
    · rw [if_neg e] at h ⊢
      rw [if_neg e, if_pos (by rw [ap_n k (by omega)]; omega)]
      show (apL len T x k).1 + 1 = _
      rw [ap_n k (by omega)]
      omega
theorem ap_V (M : Mem) {len : Nat} {x : Int64} : apV M len x = agV len x := by
  unfold apV agV
  rw [mrB_n]
  split
  · rfl
  · rw [ap_n 8 (by omega)]
