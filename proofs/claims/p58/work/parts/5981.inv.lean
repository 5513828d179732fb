/-! a change of both sides, answer and invariant -/
section
variable {E : Prop} {l : Launch} {M M0 M' M1 M2 K N X : Mem} {n p c : Nat} {J J7 : Jm} {F L mc ms F7 : Nat} {As As7 : List Value}
theorem uI {v v' : Int32} (hS : Shp M') (h1 : EvR l J F L mc ms As M (.inl (some (.int 0))) (pL M' 212 0 v.toInt64)) (h2 : EvR l J7 F7 160 0 0 As7 (pL M' 212 0 v.toInt64) (.inl (some (.int v'))) M2) (he : E → v' = v) (hr : Rf (pL M' 212 0 v.toInt64) M2) (ht : t6 M2) (hP : Inv M2) : SmI E l J J7 F L mc ms F7 As As7 M Inv :=
  ⟨0, v', _, _, h1, h2, hS, hr.S hS, ht, fun e _ => by rw [hr.L (by decide), i1_at, he e], hP⟩
theorem iv_c5 (h : IV M n p c) (hc : Cf M M') (v : Int64) : mI (pL M' 212 0 v) 198 5 = nI c := by
  show mI M' 198 5 = nI c
  rw [hc.I (Nat.le_refl 198)]
  exact h.2.2.1.2.2.2.2.1
theorem uStoreV (h : IV M0 n p c) {r t : Nat} {f : Nat → Int32} {w w' : Int32} (G : Mem → Mem) (ht : t < 6) (hX : Cu (remM M0 p c) X) (hs : ∀ N, mL N 199 = mL M0 199 → SR X 3 (mL (G N) 199) n) (hC : IC X n) (h188 : mI X 188 0 = 0) (hg : ∀ i, i < n → mI X r i = f i) (hf : wfr n f) (h1 : Shp (storeM X r t n) → EvR l J F L mc ms As M (.inl (some (.int 0))) (pL (storeM X r t n) 212 0 w.toInt64)) (h2 : ∀ v : Int64, Rr (pL (storeM X r t n) 212 0 v) n (Am M0) → mI (pL (storeM X r t n) 212 0 v) 198 5 = nI c → mL (pL (storeM X r t n) 212 0 v) 199 = mL M0 199 → EvR l J7 F7 160 0 0 As7 (pL (storeM X r t n) 212 0 v) (.inl (some (.int w'))) (lsM (G (pL (storeM X r t n) 212 0 v)) t n f)) (hG : ∀ N, Ru (k0M N c) (G N)) (h6 : ∀ N, t6 (G N)) (he : E → w' = w) : SmI E l J J7 F L mc ms F7 As As7 M Inv := by
  have hp : p < 8 := h.2.2.1.2.1
  have hc9 : Cf M0 (storeM X r t n) := (cf_remM hp).tr (cu_storeM ht hX).1
  have e9 : ∀ v : Int64, mL (pL (storeM X r t n) 212 0 v) 199 = mL M0 199 := fun v => by rw [sL_ne9 (by decide), hc9.L]
  exact uI (hc9.S h.S) (h1 (hc9.S h.S)) (h2 _ (iv_A h hc9) (iv_c5 h hc9 _) (e9 _)) he (rf_lsM ((rf_k0M (Rf.rf _)).tr (hG _).1)) (t6_lsM (h6 _)) ⟨n, _, _, iv_store h ht hX (hs _ (e9 _)) hC h188 hg hf (hG _)⟩
theorem uStore (h : IV M0 n p c) {r t : Nat} {f : Nat → Int32} (G : Mem → Mem) (ht : t < 6) (hX : Cu (remM M0 p c) X) (hs : ∀ N, mL N 199 = mL M0 199 → SR X 3 (mL (G N) 199) n) (hC : IC X n) (h188 : mI X 188 0 = 0) (hg : ∀ i, i < n → mI X r i = f i) (hf : wfr n f) (h1 : Shp (storeM X r t n) → EvR l J F L mc ms As M (.inl (some (.int 0))) (pL (storeM X r t n) 212 0 (stV X r t n).toInt64)) (h2 : ∀ v : Int64, Rr (pL (storeM X r t n) 212 0 v) n (Am M0) → mI (pL (storeM X r t n) 212 0 v) 198 5 = nI c → mL (pL (storeM X r t n) 212 0 v) 199 = mL M0 199 → EvR l J7 F7 160 0 0 As7 (pL (storeM X r t n) 212 0 v) (.inl (some (.int (onesF f n)))) (lsM (G (pL (storeM X r t n) 212 0 v)) t n f)) (hG : ∀ N, Ru (k0M N c) (G N)) (h6 : ∀ N, t6 (G N)) : SmI E l J J7 F L mc ms F7 As As7 M Inv := by
  refine uStoreV h G ht hX hs hC h188 hg hf h1 h2 hG h6 (fun _ => ?_)
  rw [stV_eq ht]
  exact on_cg (fun i hi => (hg i hi).symm)
/-- the memory in which the past is kept: its present state -/
theorem rem_m {i : Nat} (h0 : i ≠ 0) (h : i < 32 ∨ 144 ≤ i) (hp : p < 8) : mI (remM M p c) i = mI M i := rem_i h0 (by omega)
theorem sr_X (h : IV M n p c) (hX : ∀ i, 3 ≤ i → i < 17 → mI X i = mI (remM M p c) i) {u : Nat → Int64} (hu : u = mL M 199) : SR X 3 u n := by
  subst hu
  exact SR_cg h.2.1 (fun i h1 h2 => by rw [hX i h1 (by omega), rem_m (by omega) (by omega) h.2.2.1.2.1]) (fun _ _ => rfl)
theorem ic_X (h : IV M n p c) (hX : ∀ i, 4 ≤ i → i < 187 → mI X i = mI (remM M p c) i) : IC X n := fun t ht h1 r hr => by
  have hp : p < 8 := h.2.2.1.2.1
  rw [hX _ (by omega) (by omega), rem_m (by omega) (by omega) hp] at h1
  rw [hX _ (by omega) (by omega), hX _ (by omega) (by omega), rem_m (by omega) (by omega) hp, rem_m (by omega) (by omega) hp]
  exact h.2.2.2.2.1 t ht h1 r hr
theorem X188 (h : IV M n p c) (hX : mI X 188 = mI (remM M p c) 188) : mI X 188 0 = 0 := by
  rw [hX, rem_m (by decide) (by decide) h.2.2.1.2.1]
  exact h.2.2.2.2.2.2.1
theorem rqG {x : Nat} {f : Nat → Int32} (hi : x = 205 ∨ x = 206 ∨ x = 207) (N : Mem) : Rq (k0M N c) (hdM (k0M N c) x n f) := rq_hdM hi (Rq.rf _)
theorem G199 (h : Rq (k0M N c) K) (hN : mL N 199 = mL M 199) : mL K 199 = mL M 199 := by rw [h.2.1.1, k0_L (by decide), hN]
theorem G199' (h : Rq (k0M N c) K) : mL K 199 = mL N 199 := by rw [h.2.1.1, k0_L (by decide)]
theorem uMkV (h : IV M n p c) {t : Nat} {g f : Nat → Int32} {w w' : Int32} (ht : t < 6) (hg : ∀ i, i < n → g i = f i) (hf : wfr n f) (h1 : Shp (storeM (mkM (remM M p c) g n) 195 t n) → EvR l J F L mc ms As M (.inl (some (.int 0))) (pL (storeM (mkM (remM M p c) g n) 195 t n) 212 0 w.toInt64)) (h2 : ∀ v : Int64, Rr (pL (storeM (mkM (remM M p c) g n) 195 t n) 212 0 v) n (Am M) → mI (pL (storeM (mkM (remM M p c) g n) 195 t n) 212 0 v) 198 5 = nI c → mL (pL (storeM (mkM (remM M p c) g n) 195 t n) 212 0 v) 199 = mL M 199 → EvR l J7 F7 160 0 0 As7 (pL (storeM (mkM (remM M p c) g n) 195 t n) 212 0 v) (.inl (some (.int w'))) (lsM (hdM (k0M (pL (storeM (mkM (remM M p c) g n) 195 t n) 212 0 v) c) 205 n f) t n f)) (he : E → w' = w) : SmI E l J J7 F L mc ms F7 As As7 M Inv := by
  have hne : ∀ i, i ≠ 195 → mI (mkM (remM M p c) g n) i = mI (remM M p c) i := fun i hi => mk_ne hi
  refine uStoreV h (fun N => hdM (k0M N c) 205 n f) ht ?_ (fun N hN => sr_X h (fun i a b => hne i (by omega)) (G199 (rqG (Or.inl rfl) N) hN)) (ic_X h (fun i a b => hne i (by omega))) (X188 h (hne 188 (by decide))) (fun i hi => ?_) hf h1 h2 (fun N => (rqG (Or.inl rfl) N).ru) (fun N => t6_hdM t6_k0M) he
  · unfold mkM
    exact cu_sI (by decide) (Cu.rf _)
  · unfold mkM
    rw [sI_self, wr_lt hi]
    exact hg i hi
theorem uMk (h : IV M n p c) {t : Nat} {g f : Nat → Int32} (ht : t < 6) (hg : ∀ i, i < n → g i = f i) (hf : wfr n f) (h1 : Shp (storeM (mkM (remM M p c) g n) 195 t n) → EvR l J F L mc ms As M (.inl (some (.int 0))) (pL (storeM (mkM (remM M p c) g n) 195 t n) 212 0 (stV (mkM (remM M p c) g n) 195 t n).toInt64)) (h2 : ∀ v : Int64, Rr (pL (storeM (mkM (remM M p c) g n) 195 t n) 212 0 v) n (Am M) → mI (pL (storeM (mkM (remM M p c) g n) 195 t n) 212 0 v) 198 5 = nI c → mL (pL (storeM (mkM (remM M p c) g n) 195 t n) 212 0 v) 199 = mL M 199 → EvR l J7 F7 160 0 0 As7 (pL (storeM (mkM (remM M p c) g n) 195 t n) 212 0 v) (.inl (some (.int (onesF f n)))) (lsM (hdM (k0M (pL (storeM (mkM (remM M p c) g n) 195 t n) 212 0 v) c) 205 n f) t n f)) : SmI E l J J7 F L mc ms F7 As As7 M Inv := by
  refine uMkV h ht hg hf h1 h2 (fun _ => ?_)
  rw [stV_eq ht]
  unfold mkM
  rw [sI_self]
  exact on_cg (fun i hi => by rw [wr_lt hi, hg i hi])
/-- rows of bits below n -/
theorem wf_col {f : Nat → Int32} (hn : n ≤ 32) : wfr n (fun k => colOf f k n) := fun r _ c hc => by
  show hb (colOf f r n) c = false
  rw [hb_colOf n hn, decide_eq_false (by omega)]
  rfl
theorem wf_comb {f g : Nat → Int32} {how : Nat} (hf : wfr n f) (hg : wfr n g) : wfr n (fun k => comb (f k) (g k) how) := fun r hr c hc => by
  have a := hf r hr c hc
  have b := hg r hr c hc
  show hb (comb (f r) (g r) how) c = false
  unfold comb
  split
  · rw [hb_and, a]
    rfl
  · rw [hb_or, a, b]
    rfl
  · rw [hb_xor, a, b]
    rfl
  · rw [hb_and, a]
    rfl
theorem hb_exch {x : Int32} {a b i : Nat} (ha : a < n) (hb9 : b < n) (hn : n ≤ 32) (hi : n ≤ i) : hb (exch x a b) i = hb x i := by
  unfold exch
  split
  · rfl
  · rw [hb_xor, hb_xor, hb_bitI (by omega), hb_bitI (by omega), decide_eq_false (by omega), decide_eq_false (by omega), Bool.xor_false, Bool.xor_false]
theorem wf_ex {f : Nat → Int32} {a b : Nat} (hf : wfr n f) (ha : a < n) (hb9 : b < n) (hn : n ≤ 32) : wfr n (exF f a b) := fun r hr c hc => by
  unfold exF
  rw [hb_exch ha hb9 hn hc]
  refine hf _ ?_ c hc
  unfold srcN
  split
  · exact hb9
  · split
    · exact ha
    · exact hr
theorem wO_n {f : Nat → Int32} (hf : wfr n f) : wfr n (wOut f n n) := wO_wf hf n (Nat.le_refl n)
end
