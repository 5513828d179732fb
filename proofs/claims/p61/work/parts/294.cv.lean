/-! the class's side of a run of actions -/
abbrev Am (M : Mem) : Nat → Nat → Int32 := fun s r => mI M (6 + 2 * s) r
/-- the past with a state more -/
def usP (us : Nat → Nat → Int64) (c : Nat) (u : Nat → Int64) : Nat → Nat → Int64 := fun i => if i + 1 = cyC c then u else if c = 8 then us (i + 1) else us i
def CV (M : Mem) (n p c : Nat) (u : Nat → Int64) (us : Nat → Nat → Int64) : Prop := Shp M ∧ SR M 3 u n ∧ (mI M 0 4 = nI p ∧ p < 8 ∧ mI M 0 5 = nI c ∧ c ≤ 8 ∧ ∀ i, i < c → SR M (32 + 14 * ((p + 8 - c + i) % 8)) (us i) n) ∧ IC M n ∧ mI M 188 0 = 0
/-- a call that both sides remember -/
def CA (l : Launch) (J : Jm) (F L mc ms : Nat) (As : List Value) (M : Mem) (n p c : Nat) (u u' : Nat → Int64) (us : Nat → Nat → Int64) (w : Int32) : Prop := ∃ M', EvR l J F L mc ms As M (.inl (some (.int w))) M' ∧ Cf M M' ∧ CV M' n (cyP p) (cyC c) u' (usP us c u)
section
variable {l : Launch} {M M1 M' X : Mem} {n p c : Nat} {u u1 u' : Nat → Int64} {us : Nat → Nat → Int64}
theorem Cq.cu (h : Cq X M1) : Cu X M1 := ⟨h.1, fun i hi => h.2 i (by omega)⟩
theorem CV.S (h : CV M n p c u us) : Shp M := h.1
theorem CV.z (h : CV M n p c u us) : mI M 3 1 = nI n := h.2.1.1.2.2.1
theorem CV.n1 (h : CV M n p c u us) : 1 ≤ n := h.2.1.1.1
theorem CV.n32 (h : CV M n p c u us) : n ≤ 32 := h.2.1.1.2.1
theorem CV.p8 (h : CV M n p c u us) : p < 8 := h.2.2.1.2.1
theorem CV.c8 (h : CV M n p c u us) : c ≤ 8 := h.2.2.1.2.2.2.1
theorem CV.D (h : CV M n p c u us) : Dk M n p c := ⟨h.1, h.z, h.n32, h.2.2.1.1, h.p8, h.2.2.1.2.2.1, h.c8, SR_keep h.2.1⟩
theorem CV.wf (h : CV M n p c u us) {s : Nat} (hs : s < 6) : wfr n (mI M (6 + 2 * s)) := by
  have h9 := (h.2.1.2.2.2.2 s hs).2.2.2.2.2
  rw [show 3 + 3 + 2 * s = 6 + 2 * s by omega] at h9
  exact h9
theorem rem_tu (h : SR M 3 u n) : SR (remM M p c) (32 + 14 * p) u n := by
  have h1 : SR (stTake M (32 + 14 * p) 3) (32 + 14 * p) u n := SR_take (Or.inr (by omega)) h
  unfold remM
  generalize stTake M (32 + 14 * p) 3 = X at *
  exact SR_cg h1 (fun i h1 h2 => by rw [sI_ne (by omega), sI_ne (by omega)]) (fun _ _ => rfl)
theorem cyP_m (hp : p < 8) : cyP p = (p + 1) % 8 := by
  unfold cyP
  split
  · rename_i h9
    rw [h9]
  · omega
theorem cyC_b (hc : c ≤ 8) : 1 ≤ cyC c ∧ cyC c ≤ 8 := by
  unfold cyC
  split <;> omega
theorem ring_uu (h : CV M n p c u us) {i : Nat} (hi : i < cyC c) : SR (remM M p c) (32 + 14 * ((cyP p + 8 - cyC c + i) % 8)) (usP us c u i) n := by
  have hp := h.p8
  have hc := h.c8
  have hn := cyP_m hp
  have hb9 := cyC_b hc
  have p6 := h.2.2.1.2.2.2.2
  by_cases e : i + 1 = cyC c
  · have e2 : (cyP p + 8 - cyC c + i) % 8 = p := by omega
    rw [e2]
    unfold usP
    rw [if_pos e]
    exact rem_tu h.2.1
  · have key : ∃ k, k < c ∧ (cyP p + 8 - cyC c + i) % 8 = (p + 8 - c + k) % 8 ∧ (p + 8 - c + k) % 8 ≠ p ∧ usP us c u i = us k := by
      by_cases q : c = 8
      · subst q
        have h8 : cyC 8 = 8 := rfl
        refine ⟨i + 1, by omega, by omega, by omega, ?_⟩
        unfold usP
        rw [if_neg e, if_pos rfl]
      · have e4 : cyC c = c + 1 := if_neg q
        refine ⟨i, by omega, by omega, by omega, ?_⟩
        unfold usP
        rw [if_neg e, if_neg q]
    obtain ⟨k, k1, k2, k3, k4⟩ := key
    rw [k2, k4]
    have hm : (p + 8 - c + k) % 8 < 8 := Nat.mod_lt _ (by decide)
    have h6 := p6 k k1
    generalize (p + 8 - c + k) % 8 = t at *
    exact SR_cg h6 (fun j h1 h2 => rem_i (by omega) (by omega)) (fun _ _ => rfl)
/-- a change that is remembered -/
theorem cv_u (h : CV M n p c u us) (hC : Cu (remM M p c) M1) (hs : SR M1 3 u' n) (hc : IC M1 n) (h188 : mI M1 188 0 = 0) : CV M1 n (cyP p) (cyC c) u' (usP us c u) := by
  have hp := h.p8
  have hc8 := h.c8
  have hcm : Cf M M1 := (cf_remM hp).tr hC.1
  refine ⟨hcm.S h.S, hs, ⟨?_, ?_, ?_, (cyC_b hc8).2, fun i hi => ?_⟩, hc, h188⟩
  · rw [hC.2 0 (Or.inl (by decide)), rem_0, if_neg (by decide), if_pos rfl]
  · unfold cyP
    split <;> omega
  · rw [hC.2 0 (Or.inl (by decide)), rem_0, if_pos rfl]
  · have hm : (cyP p + 8 - cyC c + i) % 8 < 8 := Nat.mod_lt _ (by decide)
    exact SR_cg (ring_uu h hi) (fun j h1 h2 => hC.2 j (Or.inr (by omega))) (fun _ _ => rfl)
theorem sr_Xu (h : CV M n p c u us) (hX : ∀ i, 3 ≤ i → i < 17 → mI X i = mI (remM M p c) i) : SR X 3 u n :=
  SR_cg h.2.1 (fun i h1 h2 => by rw [hX i h1 (by omega), rem_m (by omega) (by omega) h.p8]) (fun _ _ => rfl)
theorem ic_Xu (h : CV M n p c u us) (hX : ∀ i, 4 ≤ i → i < 187 → mI X i = mI (remM M p c) i) : IC X n := fun t ht h1 r hr => by
  have hp := h.p8
  rw [hX _ (by omega) (by omega), rem_m (by omega) (by omega) hp] at h1
  rw [hX _ (by omega) (by omega), hX _ (by omega) (by omega), rem_m (by omega) (by omega) hp, rem_m (by omega) (by omega) hp]
  exact h.2.2.2.1 t ht h1 r hr
theorem X188u (h : CV M n p c u us) (hX : mI X 188 = mI (remM M p c) 188) : mI X 188 0 = 0 := by
  rw [hX, rem_m (by decide) (by decide) h.p8]
  exact h.2.2.2.2
theorem cv_store (h : CV M n p c u us) {r t : Nat} {f : Nat → Int32} (ht : t < 6) (hX : Cu (remM M p c) X) (hs : SR X 3 u1 n) (hC : IC X n) (h188 : mI X 188 0 = 0) (hg : ∀ i, i < n → mI X r i = f i) (hf : wfr n f) : Cf M (storeM X r t n) ∧ CV (storeM X r t n) n (cyP p) (cyC c) (anU (lyF u1 t f n) t (nI n)) (usP us c u) ∧ stV X r t n = onesF f n :=
  ⟨(cf_remM h.p8).tr (cu_storeM ht hX).1, cv_u h (cu_storeM ht hX) (SR_store ht hs hg hf) (ic_store ht hC) (store_188 ht h188), by rw [stV_eq ht]; exact on_cg (fun i hi => hg i hi)⟩
theorem cv_mk (h : CV M n p c u us) {t : Nat} {g : Nat → Int32} (ht : t < 6) (hf : wfr n g) : Cf M (storeM (mkM (remM M p c) g n) 195 t n) ∧ CV (storeM (mkM (remM M p c) g n) 195 t n) n (cyP p) (cyC c) (anU (lyF u t g n) t (nI n)) (usP us c u) ∧ stV (mkM (remM M p c) g n) 195 t n = onesF g n := by
  have hne : ∀ i, i ≠ 195 → mI (mkM (remM M p c) g n) i = mI (remM M p c) i := fun i hi => mk_ne hi
  refine cv_store h ht ?_ (sr_Xu h (fun i a b => hne i (by omega))) (ic_Xu h (fun i a b => hne i (by omega))) (X188u h (hne 188 (by decide))) (fun i hi => ?_) hf
  · unfold mkM
    exact cu_sI (by decide) (Cu.rf _)
  · unfold mkM
    rw [sI_self, wr_lt hi]
theorem c_copy (h : CV M n p c u us) {s t : Nat} (hs : s < 6) (ht : t < 6) : CA l jX6_copy 7 140 2 12 [.ref 0, .int (nI s), .int (nI t)] M n p c u (anU (lyF u t (Am M s) n) t (nI n)) us (onesF (Am M s) n) := by
  obtain ⟨a1, a2, a3⟩ := cv_store (X := remM M p c) (r := 6 + 2 * s) (f := Am M s) h ht (Cu.rf _) (sr_Xu h (fun _ _ _ => rfl)) (ic_Xu h (fun _ _ _ => rfl)) (X188u h rfl) (fun i hi => by rw [rem_m (by omega) (by omega) h.p8]) (h.wf hs)
  have hu := u_copy (l := l) h.D hs ht
  rw [a3] at hu
  exact ⟨_, hu, a1, a2⟩
theorem c_transpose (h : CV M n p c u us) {s t : Nat} (hs : s < 6) (ht : t < 6) : CA l jX6_transpose 7 140 2 12 [.ref 0, .int (nI s), .int (nI t)] M n p c u (anU (lyF u t (fun k => colOf (Am M s) k n) n) t (nI n)) us (onesF (fun k => colOf (Am M s) k n) n) := by
  obtain ⟨a1, a2, a3⟩ := cv_mk (g := fun k => colOf (Am M s) k n) h ht (wf_col h.n32)
  have hu := u_transpose (l := l) h.D hs ht
  exact ⟨_, by rw [← a3]; exact hu, a1, a2⟩
theorem c_combine (h : CV M n p c u us) {a b t w : Nat} (ha : a < 6) (hb9 : b < 6) (ht : t < 6) (hw : w < 4) : CA l jX6_combine 7 140 4 24 [.ref 0, .int (nI a), .int (nI b), .int (nI t), .int (nI w)] M n p c u (anU (lyF u t (fun k => comb (Am M a k) (Am M b k) w) n) t (nI n)) us (onesF (fun k => comb (Am M a k) (Am M b k) w) n) := by
  obtain ⟨a1, a2, a3⟩ := cv_mk (g := fun k => comb (Am M a k) (Am M b k) w) h ht (wf_comb (h.wf ha) (h.wf hb9))
  have hu := u_combine (l := l) h.D ha hb9 ht hw
  exact ⟨_, by rw [← a3]; exact hu, a1, a2⟩
theorem c_exchange (h : CV M n p c u us) {t a b : Nat} (ht : t < 6) (ha : a < n) (hb9 : b < n) : CA l jX6_exchange 9 160 3 18 [.ref 0, .int (nI t), .int (nI a), .int (nI b)] M n p c u (anU (lyF u t (exF (Am M t) a b) n) t (nI n)) us (exC (Am M t) a b n) := by
  obtain ⟨a1, a2, -⟩ := cv_mk (g := exF (Am M t) a b) h ht (wf_ex (h.wf ht) ha hb9 h.n32)
  exact ⟨_, u_exchange (l := l) h.D ht ha hb9, a1, a2⟩
theorem clRu (h : CV M n p c u us) {s : Nat} (hs : s < 6) : (∀ r, r < n → mI (clOf (remM M p c) s n) (175 + 2 * s + 1) r = wOut (Am M s) n n r) ∧ IC (clOf (remM M p c) s n) n ∧ Cu (remM M p c) (clOf (remM M p c) s n) := by
  have hp := h.p8
  have hR := ic_Xu h (X := remM M p c) (fun _ _ _ => rfl)
  have e6 : ∀ t, t < 6 → mI (remM M p c) (6 + 2 * t) = mI M (6 + 2 * t) := fun t ht => rem_m (by omega) (by omega) hp
  have hcu : Cu (remM M p c) (clOf (remM M p c) s n) := (cq_clOf hs).cu
  have e7 : Am M s = mI (remM M p c) (6 + 2 * s) := (e6 s hs).symm
  rw [e7]
  generalize remM M p c = R at *
  have k1 : ∀ r, r < n → mI (clOf R s n) (175 + 2 * s + 1) r = wOut (mI R (6 + 2 * s)) n n r := fun r hr => by
    rw [show 175 + 2 * s + 1 = 176 + 2 * s by omega]
    by_cases h0 : mI R (175 + 2 * s) 1 = 0
    · rw [cl_self hs h0]
      exact wO_cg (fun i hi => wr_lt hi) n (Nat.le_refl n) r hr
    · unfold clOf
      rw [if_neg h0]
      exact hR s hs h0 r hr
  refine ⟨k1, fun t ht h1 r hr => ?_, hcu⟩
  rw [cl_ne (i := 6 + 2 * t) (by omega) (by omega)]
  by_cases e : t = s
  · subst e
    rw [show 176 + 2 * t = 175 + 2 * t + 1 by omega]
    exact k1 r hr
  · rw [cl_ne (by omega) (by omega)]
    rw [cl_ne (by omega) (by omega)] at h1
    exact hR t ht h1 r hr
theorem c_close (h : CV M n p c u us) {s t : Nat} (hs : s < 6) (ht : t < 6) : CA l jX6_close 7 140 2 12 [.ref 0, .int (nI s), .int (nI t)] M n p c u (anU (lyF u t (wOut (Am M s) n n) n) t (nI n)) us (onesF (wOut (Am M s) n n) n) := by
  obtain ⟨k1, k2, k3⟩ := clRu h hs
  obtain ⟨a1, a2, a3⟩ := cv_store (f := wOut (Am M s) n n) h ht k3 (sr_Xu h (fun i a b => cl_ne (by omega) (by omega))) k2 (X188u h (cl_ne (by omega) (by omega))) k1 (wO_n (h.wf hs))
  have hu := u_close (l := l) h.D hs ht
  rw [a3] at hu
  exact ⟨_, hu, a1, a2⟩
theorem c_reduce (h : CV M n p c u us) {s t : Nat} (hs : s < 6) (ht : t < 6) : CA l jX6_reduce 7 140 2 12 [.ref 0, .int (nI s), .int (nI t)] M n p c u (anU (lyF u t (rcF (Am M s) n (n * n)) n) t (nI n)) us (onesF (rcF (Am M s) n (n * n)) n) := by
  have hn := h.n32
  have hne : ∀ i, i ≠ 195 → mI (rdX (remM M p c) s n) i = mI (remM M p c) i := fun i hi => sI_ne hi
  have e6 : mI (remM M p c) (6 + 2 * s) = mI M (6 + 2 * s) := rem_m (by omega) (by omega) h.p8
  have hq := rd_ok (g := wr (mI (remM M p c) 195) (mI (remM M p c) (6 + 2 * s)) n) (h.wf hs) (fun i hi => by rw [wr_lt hi, e6]) hn n (Nat.le_refl n)
  have hcu : Cu (remM M p c) (rdX (remM M p c) s n) := by
    unfold rdX
    exact cu_sI (by decide) (Cu.rf _)
  have hg : ∀ i, i < n → mI (rdX (remM M p c) s n) 195 i = rcF (Am M s) n (n * n) i := fun i hi => by
    unfold rdX
    rw [sI_self]
    exact hq.1 i hi
  obtain ⟨a1, a2, a3⟩ := cv_store (f := rcF (Am M s) n (n * n)) h ht hcu (sr_Xu h (fun i a b => hne i (by omega))) (ic_Xu h (fun i a b => hne i (by omega))) (X188u h (hne 188 (by decide))) hg hq.2.1
  have hu := u_reduce (l := l) h.D hs ht
  rw [a3] at hu
  exact ⟨_, hu, a1, a2⟩
theorem c_product (h : CV M n p c u us) {a b t bl : Nat} {fl : Bool} (hu1 : u 1 = lN bl) (hm : mI M 3 2 = nI bl) (hb1 : 1 ≤ bl) (hb8 : bl ≤ 8) (ha : a < 6) (hb9 : b < 6) (ht : t < 6) : CA l jX6_product 7 140 3 18 [.ref 0, .int (nI a), .int (nI b), .int (nI t), .int (b1 fl)] M n p c u (anU (lyF (fun_set (fun_set u 2 (lN (mdN n bl (blocks n bl)))) 3 (lN (tkN (Am M a) n bl (blocks n bl)))) t (mlF fl (Am M a) (Am M b) n) n) t (nI n)) us (onesF (mlF fl (Am M a) (Am M b) n) n) := by
  have hn := h.n32
  have hp := h.p8
  have ea : mI (remM M p c) (6 + 2 * a) = mI M (6 + 2 * a) := rem_m (by omega) (by omega) hp
  have eb : mI (remM M p c) (6 + 2 * b) = mI M (6 + 2 * b) := rem_m (by omega) (by omega) hp
  obtain ⟨q1, q2, q3, q4, q5, q6⟩ := pr_X (fl := fl) ha hb9 (X188u h (X := remM M p c) rfl) hb1 hb8 hn
  rw [ea] at q3
  rw [ea, eb] at q6
  have hu := u_product (l := l) (f := b1 fl) h.D hm hb1 hb8 ha hb9 ht (by cases fl <;> first | exact Or.inl rfl | exact Or.inr rfl)
  have hcu : Cu (remM M p c) (prM (remM M p c) a b n bl (b1 fl)) := ⟨cf_prM, fun i hi => q5 i (by omega) (by omega) (by omega) (by omega)⟩
  generalize prM (remM M p c) a b n bl (b1 fl) = X at *
  obtain ⟨a1, a2, a3⟩ := cv_store (f := mlF fl (Am M a) (Am M b) n) h ht hcu (SR_ct (sr_Xu h (X := remM M p c) (fun _ _ _ => rfl)) q2 q3 (q4 1 (by decide) (by decide)) (q4 2 (by decide) (by decide)) (fun i a9 b9 => q5 i (by omega) (by omega) (by omega) (by omega))) (ic_Xu h (fun i a9 b9 => q5 i (by omega) (by omega) (by omega) (by omega))) q1 q6 (wf_ml (h.wf hb9))
  rw [a3] at hu
  exact ⟨_, hu, a1, a2⟩
/-- a power with its counts, beside the state's numbers -/
def pwZ (u : Nat → Int64) (g : Nat → Int32) (fl : Bool) (n bl m : Nat) : PW := pwL g fl n bl (nI m) (hiB (nI m) 21) (bitI, u 2, u 3, fun _ => 0)
theorem c_power (h : CV M n p c u us) {s t bl m : Nat} {fl : Bool} (hm2 : mI M 3 2 = nI bl) (hb1 : 1 ≤ bl) (hb8 : bl ≤ 8) (hs : s < 6) (ht : t < 6) (hm : m ≤ 1000000) : CA l jX6_power 7 140 4 24 [.ref 0, .int (nI s), .int (nI m), .int (nI t), .int (b1 fl)] M n p c u (anU (lyF (fun_set (fun_set u 2 (pwZ u (Am M s) fl n bl m).2.1) 3 (pwZ u (Am M s) fl n bl m).2.2.1) t (pwZ u (Am M s) fl n bl m).1 n) t (nI n)) us (onesF (pwZ u (Am M s) fl n bl m).1 n) := by
  have hn := h.n32
  have hp := h.p8
  have e6 : mI (remM M p c) (6 + 2 * s) = mI M (6 + 2 * s) := rem_m (by omega) (by omega) hp
  have hK : mL (sL (sL M 207 (fun _ => 0)) 199 u) 199 = u := sL_self _ _ _
  have hK7 : mL (sL (sL M 207 (fun _ => 0)) 199 u) 207 = fun _ => 0 := by rw [sL_ne (by decide)]; exact sL_self _ _ _
  obtain ⟨q1, q2, q3, q4, q5⟩ := pw_X (K := sL (sL M 207 (fun _ => 0)) 199 u) (fl := fl) (g := Am M s) hs (X188u h (X := remM M p c) rfl) hb1 hb8 hn hm (fun r hr => by rw [e6]) (sr_Xu h (X := remM M p c) (fun _ _ _ => rfl)) hK
  have hpq : pqE (sL (sL M 207 (fun _ => 0)) 199 u) (Am M s) fl n bl (nI m) = pwZ u (Am M s) fl n bl m := by
    unfold pqE pwS pwZ
    rw [hK, hK7]
  rw [hpq] at q3 q4
  have hu := u_power (l := l) (f := b1 fl) (x := nI m) h.D hm2 hb1 hb8 hs ht (by cases fl <;> first | exact Or.inl rfl | exact Or.inr rfl) (nI_pos (by omega)) (nI_le hm (by decide))
  have hw : wfr n (pwZ u (Am M s) fl n bl m).1 := wf_pwL (h.wf hs) _ _ (fun r hr c hc => by
    show hb (bitI r) c = false
    rw [hb_bitI (by omega), decide_eq_false (by omega)])
  generalize pwM (remM M p c) s n bl (b1 fl) (nI m) = X at *
  obtain ⟨a1, a2, a3⟩ := cv_store (f := (pwZ u (Am M s) fl n bl m).1) h ht q5 q4 (ic_Xu h (fun i a b => q2 i a b)) q1 q3 hw
  rw [a3] at hu
  exact ⟨_, hu, a1, a2⟩
theorem c_setRow (h : CV M n p c u us) {s r : Nat} {x : Int64} (hs : s < 6) (hr : r < n) : CA l jX6_setRow 8 150 2 12 [.ref 0, .int (nI s), .int (nI r), .long x] M n p c u (anU (fun_set u (28 + 32 * s + r) (uL (x.toInt32 &&& lowM n))) s (nI n)) us (bcJ ((x.toInt32 &&& lowM n) ^^^ Am M s r)) := by
  have hn := h.n32
  have hp := h.p8
  have e6 : mI (remM M p c) (6 + 2 * s) = mI M (6 + 2 * s) := rem_m (by omega) (by omega) hp
  have hu := u_setRow (l := l) (x := x) h.D hs hr
  have hcu : Cu (remM M p c) (swM M s r n p c x) := by
    unfold swM
    exact cu_noteM hs (cu_sI (by omega) (Cu.rf _))
  have hcf : Cf M (swM M s r n p c x) := (cf_remM hp).tr hcu.1
  refine ⟨_, hu, hcf, cv_u h hcu ?_ ?_ ?_⟩
  · unfold swM noteM
    rw [← e6]
    exact SR_an hs (SR_175 (by omega) (SR_set hs hr hn (sr_Xu h (fun _ _ _ => rfl)) (low_z hn)))
  · unfold swM
    exact ic_row hs (ic_Xu h (fun _ _ _ => rfl))
  · unfold swM
    rw [noteM_ne (by omega) (by omega), sI_ne (by omega)]
    exact X188u h rfl
theorem c_keep (h : CV M n p c u us) {s : Nat} {b : Bool} (hs : s < 6) : ∃ M', EvR l jX6_keep 7 140 1 6 [.ref 0, .int (nI s), .int (b1 b)] M (.inl (some (.int (nI (keptC M' 6))))) M' ∧ Cf M M' ∧ CV M' n (cyP p) (cyC c) (anU (fun_set u (4 + s) (b1L b)) s (nI n)) (usP us c u) := by
  have hp := h.p8
  have hu := u_keep (l := l) (f := b1 b) h.D hs (by cases b <;> first | exact Or.inl rfl | exact Or.inr rfl)
  have hcu : Cu (remM M p c) (kpM M s n p c (b1 b)) := by
    unfold kpM
    exact cu_mxAnew hs (cu_pI (by omega) (Cu.rf _))
  refine ⟨_, hu, (cf_remM hp).tr hcu.1, cv_u h hcu ?_ ?_ ?_⟩
  · exact SR_an (x := nI n) hs (SR_kp (b := b) hs (sr_Xu h (X := remM M p c) (fun _ _ _ => rfl)))
  · unfold kpM
    have hIC := ic_Xu h (X := remM M p c) (fun _ _ _ => rfl)
    exact ic_an hs (fun t ht h1 r hr => by
      rw [sI_ne (by omega)] at h1
      rw [sI_ne (by omega), sI_ne (by omega)]
      exact hIC t ht h1 r hr)
  · unfold kpM
    rw [mxAnew_ne (by omega), sI_ne (by omega)]
    exact X188u h rfl
theorem c_setBlock (h : CV M n p c u us) {m : Nat} (h1 : 1 ≤ m) (h8 : m ≤ 8) : CA l jX6_setBlock 7 140 1 6 [.ref 0, .int (nI m)] M n p c u (fun_set u 1 (lN m)) us (mI M 3 2) := by
  have hp := h.p8
  have hu := u_setBlock (l := l) (v := nI m) h.D (nI_ngt (a := 1) h1 (by omega)) (nI_le h8 (by decide))
  have hcu : Cu (remM M p c) (pI (remM M p c) 3 2 (nI m)) := cu_pI (by decide) (Cu.rf _)
  refine ⟨_, hu, (cf_remM hp).tr hcu.1, cv_u h hcu (SR_blb h1 h8 (sr_Xu h (fun _ _ _ => rfl))) ?_ ?_⟩
  · have hIC := ic_Xu h (X := remM M p c) (fun _ _ _ => rfl)
    exact ic_cg hIC (fun i a b => sI_ne (by omega)) (fun i a b => sI_ne (by omega))
  · rw [sI_ne (by decide)]
    exact X188u h rfl
end
