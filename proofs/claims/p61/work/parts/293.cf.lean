section
variable {l : Launch} {M : Mem} {n bl c : Nat} {A : Nat → Nat → Int32}
def pwS (M : Mem) : PW := (bitI, mL M 199 2, mL M 199 3, mL M 207)
def pqE (M : Mem) (f0 : Nat → Int32) (fl : Bool) (n bl : Nat) (x : Int32) : PW := pwL f0 fl n bl x (hiB x 21) (pwS M)
end
section
variable {M M1 M2 : Mem}
theorem cf_sI {i : Nat} {f : Nat → Int32} (hi : i < 198) (h : Cf M M1) : Cf M (sI M1 i f) := h.tr ⟨rfl, rfl, rfl, rfl, rfl, rfl, fun j hj => sI_ne (by omega)⟩
theorem cf_pI {i j : Nat} {x : Int32} (hi : i < 198) (h : Cf M M1) : Cf M (pI M1 i j x) := cf_sI hi h
theorem cf_mxLook {m : Nat} {x : Int32} (hi : m < 198) : Cf M (mxLook M m x) := by
  unfold mxLook
  split
  · exact Cf.rf M
  · exact cf_pI hi (cf_pI hi (Cf.rf M))
theorem cf_mxAnew {m : Nat} {x : Int32} (hi : m < 198) : Cf M (mxAnew M m x) := by
  unfold mxAnew
  split
  · exact Cf.rf M
  · exact cf_pI hi (cf_mxLook hi)
theorem cf_mxTake {m o : Nat} (hi : m + 1 < 198) : Cf M (mxTake M m o) := by
  have h1 : m < 198 := by omega
  unfold mxTake
  exact cf_pI h1 (cf_pI h1 (cf_pI h1 (cf_pI h1 (cf_sI hi (Cf.rf M)))))
theorem cf_mxEmpty {m : Nat} (hi : m + 1 < 198) : Cf M (mxEmpty M m) := by
  have h1 : m < 198 := by omega
  unfold mxEmpty
  exact cf_pI h1 (cf_pI h1 (cf_pI h1 (cf_pI h1 (cf_sI hi (Cf.rf M)))))
theorem cf_stTakeL {b o : Nat} (hb9 : b ≤ 184) : ∀ k, k ≤ 6 → Cf M (stTakeL M b o k)
  | 0, _ => by rw [stTakeL.eq_1]; exact Cf.rf M
  | k + 1, h => by rw [stTakeL.eq_2]; exact (cf_stTakeL hb9 k (by omega)).tr (cf_mxTake (by omega))
theorem cf_stTake {b o : Nat} (hb9 : b ≤ 184) : Cf M (stTake M b o) := by
  have h1 : b < 198 := by omega
  have h := cf_stTakeL (M := M) (o := o) hb9 6 (Nat.le_refl _)
  unfold stTake
  generalize stTakeL M b o 6 = M6 at h ⊢
  exact cf_pI h1 (cf_pI h1 (cf_pI h1 (cf_pI h1 h)))
theorem cf_stEmptyL {b : Nat} (hb9 : b ≤ 184) : ∀ k, k ≤ 6 → Cf M (stEmptyL M b k)
  | 0, _ => by rw [stEmptyL.eq_1]; exact Cf.rf M
  | k + 1, h => by rw [stEmptyL.eq_2]; exact (cf_stEmptyL hb9 k (by omega)).tr (cf_mxEmpty (by omega))
theorem cf_stEmpty {b : Nat} {x : Int32} (hb9 : b ≤ 184) : Cf M (stEmpty M b x) := by
  have h1 : b < 198 := by omega
  have h := cf_stEmptyL (M := M) hb9 6 (Nat.le_refl _)
  unfold stEmpty
  generalize stEmptyL M b 6 = M6 at h ⊢
  exact cf_pI h1 (cf_pI h1 (cf_pI h1 (cf_pI h1 h)))
theorem cf_dropC : ∀ k, k ≤ 6 → Cf M (dropC M k)
  | 0, _ => by rw [dropC.eq_1]; exact Cf.rf M
  | k + 1, h => by rw [dropC.eq_2]; exact cf_pI (by omega) (cf_dropC k (by omega))
theorem cf_replM {o : Nat} : Cf M (replM M o) := by
  have h : Cf M (pI (stTake M 3 o) 0 5 0) := cf_pI (by decide) (cf_stTake (by decide))
  unfold replM
  generalize pI (stTake M 3 o) 0 5 0 = M5 at h ⊢
  exact h.tr (cf_dropC 6 (Nat.le_refl _))
theorem cf_remM {p c : Nat} (hp : p < 8) : Cf M (remM M p c) := by
  have h : Cf M (stTake M (32 + 14 * p) 3) := cf_stTake (by omega)
  unfold remM
  generalize stTake M (32 + 14 * p) 3 = M5 at h ⊢
  exact cf_pI (by decide) (cf_pI (by decide) h)
theorem cf_clMake {c r n : Nat} (hc : c + 1 < 198) : Cf M (clMake M c r n) := by
  unfold clMake
  exact cf_pI (by omega) (cf_sI hc (Cf.rf M))
theorem cf_clOf {s n : Nat} (hs : s < 6) : Cf M (clOf M s n) := by
  unfold clOf
  split
  · exact cf_clMake (by omega)
  · exact Cf.rf M
theorem cf_noteM {s : Nat} {x : Int32} (hs : s < 6) : Cf M (noteM M s x) := by
  unfold noteM
  have h : Cf M (pI M (175 + 2 * s) 1 0) := cf_pI (by omega) (Cf.rf M)
  generalize pI M (175 + 2 * s) 1 0 = M5 at h ⊢
  exact h.tr (cf_mxAnew (by omega))
theorem cf_storeM {r t n : Nat} (ht : t < 6) : Cf M (storeM M r t n) := by
  unfold storeM
  have h : Cf M (sI M (6 + 2 * t) (wr (mI M (6 + 2 * t)) (mI M r) n)) := cf_sI (by omega) (Cf.rf M)
  generalize sI M (6 + 2 * t) (wr (mI M (6 + 2 * t)) (mI M r) n) = M5 at h ⊢
  exact h.tr (cf_noteM ht)
theorem cf_workM : Cf M (workM M) := by
  unfold workM
  exact cf_pI (by decide) (cf_pI (by decide) (Cf.rf M))
theorem cf_mkM {f : Nat → Int32} {n : Nat} : Cf M (mkM M f n) := by
  unfold mkM
  exact cf_sI (by decide) (Cf.rf M)
theorem cf_elMem {s : ES} : Cf M (elMem M s) := by
  unfold elMem
  exact cf_sI (by decide) (cf_sI (by decide) (cf_sI (by decide) (cf_sI (by decide) (Cf.rf M))))
theorem cf_swM {s r n p c : Nat} {x : Int64} (hp : p < 8) (hs : s < 6) : Cf M (swM M s r n p c x) := by
  unfold swM
  have h : Cf M (sI (remM M p c) (6 + 2 * s) (fun_set (mI M (6 + 2 * s)) r (x.toInt32 &&& lowM n))) := cf_sI (by omega) (cf_remM hp)
  generalize sI (remM M p c) (6 + 2 * s) (fun_set (mI M (6 + 2 * s)) r (x.toInt32 &&& lowM n)) = M5 at h ⊢
  exact h.tr (cf_noteM hs)
theorem cf_kpM {s n p c : Nat} {f : Int32} (hp : p < 8) (hs : s < 6) : Cf M (kpM M s n p c f) := by
  unfold kpM
  have h : Cf M (pI (remM M p c) (5 + 2 * s) 1 f) := cf_pI (by omega) (cf_remM hp)
  generalize pI (remM M p c) (5 + 2 * s) 1 f = M5 at h ⊢
  exact h.tr (cf_mxAnew (by omega))
theorem cf_rdX {s n : Nat} : Cf M (rdX M s n) := by
  unfold rdX
  exact cf_sI (by decide) (Cf.rf M)
theorem cf_begMem {f : Int32} : Cf M (begMem M f) := by
  unfold begMem
  exact cf_pI (by decide) (cf_pI (by decide) (cf_pI (by decide) (Cf.rf M)))
theorem cf_mulMem {ri : Nat} {s : PS} (hr : ri < 198) : Cf M (mulMem M ri s) := by
  unfold mulMem
  exact cf_sI (by decide) (cf_sI hr (cf_sI (by decide) (Cf.rf M)))
theorem cf_rsMem {s : RS} : Cf M (rsMem M s) := by
  unfold rsMem
  exact cf_sI (by decide) (cf_sI (by decide) (cf_sI (by decide) (cf_sI (by decide) (Cf.rf M))))
theorem cf_prM {a b n bl : Nat} {f : Int32} : Cf M (prM M a b n bl f) := by
  unfold prM
  have h : Cf M (begMem M f) := cf_begMem
  generalize begMem M f = M5 at h ⊢
  exact (h.tr (cf_mulMem (by decide))).tr cf_workM
theorem cf_pwM {s n bl : Nat} {f x : Int32} : Cf M (pwM M s n bl f x) := by
  unfold pwM
  generalize pwE M s n bl f x = q
  have h : Cf M (rsMem (begMem M f) q) := cf_begMem.tr cf_rsMem
  generalize rsMem (begMem M f) q = M5 at h ⊢
  split
  · exact h.tr cf_workM
  · exact h
theorem cf_ptF {s r k n : Nat} (hs : s < 6) : Cf M (ptF M s r k n) := by
  unfold ptF
  exact cf_sI (by omega) ((cf_clOf hs).tr (cf_mxLook (by omega)))
theorem cf_ptM {s r k n : Nat} {f : Int32} (hs : s < 6) : Cf M (ptM M s r k n f) := by
  unfold ptM
  split
  · exact cf_mxLook (by omega)
  · split
    · exact cf_sI (by omega) (cf_ptF hs)
    · exact cf_sI (by omega) (cf_ptF hs)
theorem cf_unM {p c : Nat} : Cf M (unM M p c) := by
  unfold unM
  have h : Cf M (stTake (pI (pI M 0 5 (nI (c - 1))) 0 4 (nI (unP p))) 3 (32 + 14 * unP p)) := (cf_pI (by decide) (cf_pI (by decide) (Cf.rf M))).tr (cf_stTake (by decide))
  generalize stTake (pI (pI M 0 5 (nI (c - 1))) 0 4 (nI (unP p))) 3 (32 + 14 * unP p) = M5 at h ⊢
  exact h.tr (cf_dropC 6 (Nat.le_refl _))
theorem cf_apM {len : Nat} {x : Int64} : Cf M (apM M len x) := by
  unfold apM
  split
  · exact Cf.rf M
  · unfold apQ
    exact cf_pI (by decide) (cf_sI (by decide) (Cf.rf M))
theorem cf_rdM {s : RP} : Cf M (rdM M s) := by
  unfold rdM
  exact cf_sI (by decide) (Cf.rf M)
theorem cf_rsR {len n : Nat} {s : RP} : Cf M (rsR M len n s).1 := by
  have h5 := tn5 (mI M 2) len (twd (mI M 2) len s)
  unfold rsR
  split
  · unfold edM; exact cf_sI (by omega) (Cf.rf M)
  · split
    · unfold rrM; exact cf_sI (by omega) (Cf.rf M)
    · split
      · unfold rfM; exact cf_sI (by omega) (Cf.rf M)
      · split
        · unfold rkM; exact cf_pI (by omega) (Cf.rf M)
        · split
          · exact cf_pI (by decide) (Cf.rf M)
          · exact Cf.rf M
theorem cf_rsL {len n : Nat} : ∀ (d : Nat) (M : Mem) (s : RP), Cf M (rsL len n d M s).1
  | 0, M, s => by rw [rsL.eq_1]; exact Cf.rf M
  | d + 1, M, s => by
    rw [rsL.eq_2]
    split
    · split
      · exact cf_rsR.tr (cf_rsL d _ _)
      · exact cf_rsL d _ _
    · exact Cf.rf M
theorem cf_anL {x : Int32} : ∀ k, k ≤ 6 → Cf M (anL M x k)
  | 0, _ => by rw [anL.eq_1]; exact Cf.rf M
  | k + 1, h => by rw [anL.eq_2]; exact (cf_anL k (by omega)).tr (cf_mxAnew (by omega))
theorem cf_riR {len : Nat} : Cf M (riR M len).1 := by
  unfold riR
  exact (cf_stEmpty (by decide)).tr (cf_rsL _ _ _)
theorem cf_riM {len : Nat} : Cf M (riM M len) := by
  unfold riM
  have h : Cf M (anL (riR M len).1 (nI (riN M len)) 6) := cf_riR.tr (cf_anL 6 (Nat.le_refl _))
  generalize anL (riR M len).1 (nI (riN M len)) 6 = M5 at h ⊢
  exact cf_pI (by decide) (h.tr cf_rdM)
end
theorem on_cg {f g : Nat → Int32} : ∀ {n : Nat}, (∀ r, r < n → f r = g r) → onesF f n = onesF g n
  | 0, _ => rfl
  | n + 1, h => by
    unfold onesF
    rw [on_cg (fun r hr => h r (by omega)), h n (by omega)]
theorem stV_eq {R : Mem} {r t n : Nat} (ht : t < 6) : stV R r t n = onesF (mI R r) n := by
  unfold stV storeM
  rw [noteM_ne (by omega) (by omega), sI_self]
  exact on_cg (fun i hi => wr_lt hi)
def cnt (K : Nat → Bool) : Nat → Nat
  | 0 => 0
  | k + 1 => cnt K k + (K k).toNat
theorem kc_ok {M : Mem} {K : Nat → Bool} : ∀ k, (∀ s, s < k → mI M (5 + 2 * s) 1 = b1 (K s)) → keptC M k = cnt K k
  | 0, _ => by rw [keptC.eq_1]; rfl
  | k + 1, h => by
    rw [keptC.eq_2, kc_ok k (fun s hs => h s (by omega)), h k (by omega)]
    show (if b1 (K k) = 0 then cnt K k else cnt K k + 1) = cnt K k + (K k).toNat
    cases K k
    · exact if_pos rfl
    · exact if_neg (by decide)
theorem rs_C {M : Mem} {s : RS} : mI (rsMem M s) (rsP s) = rsC s := by
  obtain ⟨F, tb, p, o, m1, m2⟩ := s
  cases F
  · show mI (sI (sI (sI (sI M 188 tb) 189 p) 190 o) 187 (fun_set (fun_set (mI M 187) 6 m1) 7 m2)) 189 = p
    rw [sI_ne (by decide), sI_ne (by decide), sI_self]
  · show mI (sI (sI (sI (sI M 188 tb) 189 p) 190 o) 187 (fun_set (fun_set (mI M 187) 6 m1) 7 m2)) 190 = o
    rw [sI_ne (by decide), sI_self]
def IC (M : Mem) (n : Nat) : Prop := ∀ s, s < 6 → mI M (175 + 2 * s) 1 ≠ 0 → ∀ r, r < n → mI M (176 + 2 * s) r = wOut (mI M (6 + 2 * s)) n n r
def Cq (M M' : Mem) : Prop := Cf M M' ∧ ∀ i, i < 175 → mI M' i = mI M i
section
variable {M M1 M' M2 : Mem} {n p c : Nat}
theorem Cq.rf (M : Mem) : Cq M M := ⟨Cf.rf M, fun _ _ => rfl⟩
theorem Cq.tr (h : Cq M M1) (g : Cq M1 M2) : Cq M M2 := ⟨h.1.tr g.1, fun i hi => (g.2 i hi).trans (h.2 i hi)⟩
end
section
variable {E : Prop} {l : Launch} {M M' M2 : Mem} {n p c : Nat} {J J7 : Jm} {F L mc ms F7 : Nat} {As As7 : List Value}
theorem cq_clOf {s : Nat} (hs : s < 6) : Cq M (clOf M s n) := ⟨cf_clOf hs, fun i hi => clOf_ne (Or.inl hi) hs⟩
theorem cl_self {s : Nat} (hs : s < 6) (h0 : mI M (175 + 2 * s) 1 = 0) : mI (clOf M s n) (176 + 2 * s) = wOut (wr (mI M (176 + 2 * s)) (mI M (6 + 2 * s)) n) n n := by
  unfold clOf
  rw [if_pos h0]
  unfold clMake
  show mI (sI (sI M (175 + 2 * s + 1) _) (175 + 2 * s) _) (176 + 2 * s) = _
  rw [sI_ne (by omega), show 176 + 2 * s = 175 + 2 * s + 1 by omega, sI_self]
theorem cl_ne {s i : Nat} (h1 : i ≠ 175 + 2 * s) (h2 : i ≠ 176 + 2 * s) : mI (clOf M s n) i = mI M i := by
  unfold clOf
  split
  · exact clMake_ne h1 (by omega)
  · rfl
end
abbrev cyP (p : Nat) : Nat := if p = 7 then 0 else p + 1
abbrev cyC (c : Nat) : Nat := if c = 8 then 8 else c + 1
def Cu (R M1 : Mem) : Prop := Cf R M1 ∧ ∀ i, i < 3 ∨ (17 ≤ i ∧ i < 175) → mI M1 i = mI R i
section
variable {M M1 M2 K N X : Mem} {n p c : Nat}
theorem rem_0 {j : Nat} : mI (remM M p c) 0 j = if j = 5 then nI (cyC c) else if j = 4 then nI (cyP p) else mI M 0 j := by
  have h0 : mI (stTake M (32 + 14 * p) 3) 0 = mI M 0 := stTake_ne (Or.inl (by omega))
  unfold remM
  generalize stTake M (32 + 14 * p) 3 = X at *
  rw [pI_at, pI_at, h0]
  by_cases e : j = 5
  · rw [if_pos ⟨rfl, e⟩, if_pos e]
  · rw [if_neg (fun h => e h.2), if_neg e]
    by_cases e2 : j = 4
    · rw [if_pos ⟨rfl, e2⟩, if_pos e2]
    · rw [if_neg (fun h => e2 h.2), if_neg e2]
theorem rem_i {i : Nat} (h0 : i ≠ 0) (h : i < 32 + 14 * p ∨ 46 + 14 * p ≤ i) : mI (remM M p c) i = mI M i := by
  have h1 : mI (stTake M (32 + 14 * p) 3) i = mI M i := stTake_ne (by omega)
  unfold remM
  generalize stTake M (32 + 14 * p) 3 = X at *
  rw [sI_ne h0, sI_ne h0, h1]
theorem Cu.tr (h : Cu X M1) (g : Cu M1 M2) : Cu X M2 := ⟨h.1.tr g.1, fun i hi => (g.2 i hi).trans (h.2 i hi)⟩
theorem Cu.rf (X : Mem) : Cu X X := ⟨Cf.rf X, fun _ _ => rfl⟩
theorem cu_sI {i : Nat} {f : Nat → Int32} (hi : (3 ≤ i ∧ i < 17) ∨ (175 ≤ i ∧ i < 198)) (h : Cu X M1) : Cu X (sI M1 i f) := h.tr ⟨cf_sI (by omega) (Cf.rf _), fun j hj => sI_ne (by omega)⟩
theorem cu_pI {i j : Nat} {x : Int32} (hi : (3 ≤ i ∧ i < 17) ∨ (175 ≤ i ∧ i < 198)) (h : Cu X M1) : Cu X (pI M1 i j x) := cu_sI hi h
theorem cu_mxLook {s : Nat} {x : Int32} (hs : s < 6) (h : Cu X M1) : Cu X (mxLook M1 (5 + 2 * s) x) := by
  unfold mxLook
  split
  · exact h
  · exact cu_pI (by omega) (cu_pI (by omega) h)
theorem cu_mxAnew {s : Nat} {x : Int32} (hs : s < 6) (h : Cu X M1) : Cu X (mxAnew M1 (5 + 2 * s) x) := by
  unfold mxAnew
  split
  · exact h
  · exact cu_pI (by omega) (cu_mxLook hs h)
theorem cu_noteM {s : Nat} {x : Int32} (hs : s < 6) (h : Cu X M1) : Cu X (noteM M1 s x) := by
  unfold noteM
  exact cu_mxAnew hs (cu_pI (by omega) h)
theorem cu_storeM {r t k : Nat} (ht : t < 6) (h : Cu X M1) : Cu X (storeM M1 r t k) := by
  unfold storeM
  exact cu_noteM ht (cu_sI (by omega) h)
/-- a change that lays rows into a slot -/
theorem ic_an {s : Nat} {x : Int32} (hs : s < 6) (h : IC M n) : IC (mxAnew M (5 + 2 * s) x) n := fun t ht h1 r hr => by
  rw [mxAnew_ne (by omega)] at h1
  rw [mxAnew_ne (by omega), mxAnew_ne (by omega)]
  exact h t ht h1 r hr
theorem ic_lk {s : Nat} {x : Int32} (hs : s < 6) (h : IC M n) : IC (mxLook M (5 + 2 * s) x) n := fun t ht h1 r hr => by
  rw [mxLook_ne (by omega)] at h1
  rw [mxLook_ne (by omega), mxLook_ne (by omega)]
  exact h t ht h1 r hr
theorem ic_row {t : Nat} {g : Nat → Int32} {x : Int32} (ht9 : t < 6) (h : IC M n) : IC (noteM (sI M (6 + 2 * t) g) t x) n := by
  unfold noteM
  refine ic_an ht9 (fun s hs h1 r hr => ?_)
  by_cases e : s = t
  · subst e
    rw [pI_at, if_pos ⟨rfl, rfl⟩] at h1
    exact absurd rfl h1
  · rw [sI_ne (by omega), sI_ne (by omega)] at h1
    rw [sI_ne (by omega), sI_ne (by omega), sI_ne (by omega), sI_ne (by omega)]
    exact h s hs h1 r hr
theorem store_188 {r t k : Nat} (ht : t < 6) (h : mI M 188 0 = 0) : mI (storeM M r t k) 188 0 = 0 := by
  unfold storeM
  rw [noteM_ne (by omega) (by omega), sI_ne (by omega)]
  exact h
theorem ic_store {r t k : Nat} (ht : t < 6) (h : IC M n) : IC (storeM M r t k) n := by
  unfold storeM
  exact ic_row ht h
end
section
variable {E : Prop} {l : Launch} {M M0 M' M1 M2 K N X : Mem} {n p c : Nat} {J J7 : Jm} {F L mc ms F7 : Nat} {As As7 : List Value}
/-- the memory in which the past is kept: its present state -/
theorem rem_m {i : Nat} (h0 : i ≠ 0) (h : i < 32 ∨ 144 ≤ i) (hp : p < 8) : mI (remM M p c) i = mI M i := rem_i h0 (by omega)
end
section
variable {M N K Y T R : Mem} {n p c : Nat}
theorem SR_ct {X : Mem} {u : Nat → Int64} {a b : Nat} (h : SR M 3 u n) (h3 : mI X 3 3 = nI a) (h4 : mI X 3 4 = nI b) (h1 : mI X 3 1 = mI M 3 1) (h2 : mI X 3 2 = mI M 3 2) (hi : ∀ i, 4 ≤ i → i < 17 → mI X i = mI M i) : SR X 3 (fun_set (fun_set u 2 (lN a)) 3 (lN b)) n := by
  obtain ⟨⟨a1, a2, a3, a4⟩, ⟨bl, b1', b2, b3, b4⟩, -, -, hS⟩ := h
  have g : ∀ j, j ≠ 2 → j ≠ 3 → fun_set (fun_set u 2 (lN a)) 3 (lN b) j = u j := fun j h2 h3 => by rw [fsu_at, if_neg h3, fsu_at, if_neg h2]
  refine ⟨⟨a1, a2, by rw [h1]; exact a3, by rw [g 0 (by decide) (by decide)]; exact a4⟩, ⟨bl, b1', b2, by rw [h2]; exact b3, by rw [g 1 (by decide) (by decide)]; exact b4⟩, ⟨a, h3, by rw [fsu_at, if_neg (by decide), fsu_at, if_pos rfl]⟩, ⟨b, h4, by rw [fsu_at, if_pos rfl]⟩, fun s hs => ?_⟩
  exact SS_cg (hS s hs) (fun j _ _ => by rw [hi _ (by omega) (by omega)]) (fun r _ => by rw [hi _ (by omega) (by omega)]) ⟨g _ (by omega) (by omega), g _ (by omega) (by omega), g _ (by omega) (by omega), g _ (by omega) (by omega)⟩ (fun r _ => g _ (by omega) (by omega))
theorem wk_3 {j : Nat} : mI (workM Y) 3 j = if j = 4 then mI Y 187 7 else if j = 3 then mI Y 187 6 else mI Y 3 j := by
  unfold workM
  rw [pI_at, pI_at]
  by_cases e : j = 4
  · rw [if_pos ⟨rfl, e⟩, if_pos e]
  · rw [if_neg (fun h => e h.2), if_neg e]
    by_cases e2 : j = 3
    · rw [if_pos ⟨rfl, e2⟩, if_pos e2]
    · rw [if_neg (fun h => e2 h.2), if_neg e2]
theorem wk_ne {i : Nat} (h : i ≠ 3) : mI (workM Y) i = mI Y i := by
  unfold workM
  rw [sI_ne h, sI_ne h]
theorem bg_5 {f : Int32} : mI (begMem R f) 187 5 = f := by
  unfold begMem
  exact pI_at9 _ _ _ _
theorem pr_X {a b bl : Nat} {fl : Bool} (ha : a < 6) (hb9 : b < 6) (h0 : mI R 188 0 = 0) (hb1 : 1 ≤ bl) (hb8 : bl ≤ 8) (hn : n ≤ 32) : mI (prM R a b n bl (b1 fl)) 188 0 = 0 ∧ mI (prM R a b n bl (b1 fl)) 3 3 = nI (mdN n bl (blocks n bl)) ∧ mI (prM R a b n bl (b1 fl)) 3 4 = nI (tkN (mI R (6 + 2 * a)) n bl (blocks n bl)) ∧ (∀ j, j ≠ 3 → j ≠ 4 → mI (prM R a b n bl (b1 fl)) 3 j = mI R 3 j) ∧ (∀ i, i ≠ 3 → i ≠ 187 → i ≠ 188 → i ≠ 195 → mI (prM R a b n bl (b1 fl)) i = mI R i) ∧ ∀ r, r < n → mI (prM R a b n bl (b1 fl)) 195 r = mlF fl (mI R (6 + 2 * a)) (mI R (6 + 2 * b)) n r := by
  obtain ⟨m1, m2, m3, m4⟩ := mul_all (fl := fl) (a := mI R (6 + 2 * a)) (b := mI R (6 + 2 * b)) (tb := mI R 188) (g := mI R 195) h0 hb1 hb8 hn
  have eE : mulEnd (begMem R (b1 fl)) n bl (6 + 2 * a) (6 + 2 * b) 195 = mulIt (b1 fl) n bl (mI R (6 + 2 * a)) (mI R (6 + 2 * b)) (mI R 188) (mI R 195) (blocks n bl) := by
    unfold mulEnd
    rw [bg_5, begMem_ne (by omega), begMem_ne (by omega), begMem_ne (by decide), begMem_ne (by decide)]
  unfold prM
  rw [eE]
  generalize mulIt (b1 fl) n bl (mI R (6 + 2 * a)) (mI R (6 + 2 * b)) (mI R 188) (mI R 195) (blocks n bl) = e at *
  have hB : ∀ i, i ≠ 187 → mI (begMem R (b1 fl)) i = mI R i := fun i hi => begMem_ne hi
  generalize begMem R (b1 fl) = B at *
  have q188 : mI (mulMem B 195 e) 188 = e.1 := by
    unfold mulMem
    rw [sI_ne (by decide), sI_ne (by decide), sI_self]
  have q195 : mI (mulMem B 195 e) 195 = e.2.1 := by
    unfold mulMem
    rw [sI_ne (by decide), sI_self]
  have q6 : mI (mulMem B 195 e) 187 6 = e.2.2.1 := by
    unfold mulMem
    rw [sI_self, fs_ne _ _ (by decide), fs_self]
  have q7 : mI (mulMem B 195 e) 187 7 = e.2.2.2 := by
    unfold mulMem
    rw [sI_self, fs_self]
  have qn : ∀ i, i ≠ 187 → i ≠ 188 → i ≠ 195 → mI (mulMem B 195 e) i = mI R i := fun i h1 h2 h3 => by rw [mulMem_ne h1 h2 h3, hB i h1]
  refine ⟨by rw [wk_ne (by decide), q188]; exact m1, by rw [wk_3, if_neg (by decide), if_pos rfl, q6]; exact m3, by rw [wk_3, if_pos rfl, q7]; exact m4, fun j h1 h2 => by rw [wk_3, if_neg h2, if_neg h1, qn 3 (by decide) (by decide) (by decide)], fun i h1 h2 h3 h4 => by rw [wk_ne h1, qn i h2 h3 h4], fun r hr => by rw [wk_ne (by decide), q195]; exact m2 r hr⟩
theorem rsM_at {s : RS} : mI (rsMem Y s) 188 = s.2.1 ∧ mI (rsMem Y s) 187 6 = s.2.2.2.2.1 ∧ mI (rsMem Y s) 187 7 = s.2.2.2.2.2 := by
  unfold rsMem
  refine ⟨by rw [sI_ne (by decide), sI_ne (by decide), sI_ne (by decide), sI_self], by rw [sI_self, fs_ne _ _ (by decide), fs_self], by rw [sI_self, fs_self]⟩
theorem pw_X {s bl m : Nat} {fl : Bool} {g : Nat → Int32} (hs : s < 6) (h0 : mI R 188 0 = 0) (hb1 : 1 ≤ bl) (hb8 : bl ≤ 8) (hn : n ≤ 32) (hm : m ≤ 1000000) (hg : ∀ r, r < n → mI R (6 + 2 * s) r = g r) {u : Nat → Int64} (h : SR R 3 u n) (hu : mL K 199 = u) : mI (pwM R s n bl (b1 fl) (nI m)) 188 0 = 0 ∧ (∀ i, 4 ≤ i → i < 187 → mI (pwM R s n bl (b1 fl) (nI m)) i = mI R i) ∧ (∀ r, r < n → mI (pwM R s n bl (b1 fl) (nI m)) (rsP (pwE R s n bl (b1 fl) (nI m))) r = (pqE K g fl n bl (nI m)).1 r) ∧ SR (pwM R s n bl (b1 fl) (nI m)) 3 (fun_set (fun_set u 2 (pqE K g fl n bl (nI m)).2.1) 3 (pqE K g fl n bl (nI m)).2.2.1) n ∧ Cu R (pwM R s n bl (b1 fl) (nI m)) := by
  have h1 := pwR_all (fl := fl) (bl := bl) (base := mI R (6 + 2 * s)) (s0 := rs0 (begMem R (b1 fl)) n) (q0 := pwS K) hm ⟨by
    show mI (begMem R (b1 fl)) 188 0 = 0
    rw [begMem_ne (by decide)]
    exact h0, fun r hr => wr_lt hr, fun h9 => h9.elim⟩ hb1 hb8 hn hg
  have e6 : pwE R s n bl (b1 fl) (nI m) = rsIt (b1 fl) n bl (mI R (6 + 2 * s)) (nI m) (rs0 (begMem R (b1 fl)) n) 20 := by
    unfold pwE raiseEnd
    rw [bg_5, begMem_ne (by omega)]
  rw [← e6] at h1
  have hq0 : m = 0 → pqE K g fl n bl (nI m) = pwS K := by
    intro e
    subst e
    rfl
  have eq9 : pwL g fl n bl (nI m) (hiB (nI m) 21) (pwS K) = pqE K g fl n bl (nI m) := rfl
  rw [eq9] at h1
  have hC : Cu R (pwM R s n bl (b1 fl) (nI m)) := ⟨cf_pwM, fun i hi => by
    unfold pwM
    generalize pwE R s n bl (b1 fl) (nI m) = e
    split
    · rw [wk_ne (by omega), rsMem_ne (by omega), begMem_ne (by omega)]
    · rw [rsMem_ne (by omega), begMem_ne (by omega)]⟩
  have hp := (rs_ids (pwE R s n bl (b1 fl) (nI m))).1
  have hpos : 0 < nI m ↔ 0 < m := nI_ltI (a := 0) (b := m) (by omega) (by omega)
  refine ⟨?_, ?_, ?_, ?_, hC⟩
  · have g1 := h1.1
    unfold pwM
    generalize pwE R s n bl (b1 fl) (nI m) = e at *
    split
    · rw [wk_ne (by decide), rsM_at.1]
      exact g1
    · rw [rsM_at.1]
      exact g1
  · intro i a b
    unfold pwM
    generalize pwE R s n bl (b1 fl) (nI m) = e at *
    split
    · rw [wk_ne (by omega), rsMem_ne (by omega), begMem_ne (by omega)]
    · rw [rsMem_ne (by omega), begMem_ne (by omega)]
  · intro r hr
    have g1 := h1.2.1 r hr
    rw [← rs_C (M := begMem R (b1 fl))] at g1
    unfold pwM
    generalize pwE R s n bl (b1 fl) (nI m) = e at *
    split
    · rw [wk_ne (by omega)]
      exact g1
    · exact g1
  · by_cases e0 : 0 < m
    · obtain ⟨a, b, g1, g2, g3, g4⟩ := h1.2.2 e0
      rw [g3, g4]
      refine SR_ct h ?_ ?_ ?_ ?_ (fun i a9 b9 => ?_) <;> unfold pwM <;> rw [if_pos (hpos.mpr e0)] <;> generalize pwE R s n bl (b1 fl) (nI m) = e at *
      · rw [wk_3, if_neg (by decide), if_pos rfl, rsM_at.2.1]
        exact g1
      · rw [wk_3, if_pos rfl, rsM_at.2.2]
        exact g2
      · rw [wk_3, if_neg (by decide), if_neg (by decide), rsMem_ne (by decide), begMem_ne (by decide)]
      · rw [wk_3, if_neg (by decide), if_neg (by decide), rsMem_ne (by decide), begMem_ne (by decide)]
      · rw [wk_ne (by omega), rsMem_ne (by omega), begMem_ne (by omega)]
    · have em : m = 0 := by omega
      rw [hq0 em]
      have e2 : (pwS K).2.1 = u 2 := by rw [← hu]; rfl
      have e3 : (pwS K).2.2.1 = u 3 := by rw [← hu]; rfl
      rw [e2, e3]
      refine SR_cg h (fun i a b => ?_) (fun j _ => ?_)
      · unfold pwM
        rw [if_neg (fun q => e0 (hpos.mp q))]
        generalize pwE R s n bl (b1 fl) (nI m) = e at *
        rw [rsMem_ne (by omega), begMem_ne (by omega)]
      · rw [fsu_at, fsu_at]
        split
        · rename_i q
          rw [q]
        · split
          · rename_i q
            rw [q]
          · rfl
end
section
variable {l : Launch} {M : Mem} {n p c : Nat}
theorem SR_set {X : Mem} {u : Nat → Int64} {s r : Nat} {y : Int32} (hs : s < 6) (hr : r < n) (hn : n ≤ 32) (h : SR X 3 u n) (hy : ∀ c, n ≤ c → hb y c = false) : SR (sI X (6 + 2 * s) (fun_set (mI X (6 + 2 * s)) r y)) 3 (fun_set u (28 + 32 * s + r) (uL y)) n := by
  obtain ⟨-, -, -, -, c6, c7⟩ := h.2.2.2.2 s hs
  rw [show 3 + 3 + 2 * s = 6 + 2 * s by omega] at c6 c7
  have hw : wfr n (fun_set (mI X (6 + 2 * s)) r y) := fun x hx c hc => by
    unfold fun_set
    split
    · exact hy c hc
    · exact c7 x hx c hc
  refine SR_cg (SR_row hs h (fun _ _ => rfl) hw) (fun _ _ _ => rfl) (fun i hi => ?_)
  rw [fsu_at, ly_at]
  by_cases e : 28 + 32 * s ≤ i ∧ i < 28 + 32 * s + n
  · rw [if_pos e]
    by_cases e2 : i = 28 + 32 * s + r
    · rw [if_pos e2, e2, show 28 + 32 * s + r - (28 + 32 * s) = r by omega, fs_self]
    · rw [if_neg e2, fs_ne _ _ (by omega)]
      have := c6 (i - (28 + 32 * s)) (by omega)
      rw [show 28 + 32 * s + (i - (28 + 32 * s)) = i by omega] at this
      exact this
  · rw [if_neg e, if_neg (by omega)]
theorem low_z {x : Int64} (hn : n ≤ 32) : ∀ c, n ≤ c → hb (x.toInt32 &&& lowM n) c = false := fun c hc => by
  rw [hb_and, hb_lowM hn, decide_eq_false (by omega), Bool.and_false]
end
section
variable {l : Launch} {M : Mem} {n p c : Nat}
theorem SR_kp {X : Mem} {u : Nat → Int64} {s : Nat} {b : Bool} (hs : s < 6) (h : SR X 3 u n) : SR (pI X (5 + 2 * s) 1 (b1 b)) 3 (fun_set u (4 + s) (b1L b)) n := by
  obtain ⟨⟨a1, a2, a3, a4⟩, ⟨bl, b1', b2, b3, b4⟩, ⟨y, y1, y2⟩, ⟨z, z1, z2⟩, hS⟩ := h
  have e : ∀ i, i ≠ 5 + 2 * s → mI (pI X (5 + 2 * s) 1 (b1 b)) i = mI X i := fun i hi => sI_ne hi
  have g : ∀ j, j ≠ 4 + s → fun_set u (4 + s) (b1L b) j = u j := fun j hj => fs_ne _ _ hj
  refine ⟨⟨a1, a2, by rw [e 3 (by omega)]; exact a3, by rw [g 0 (by omega)]; exact a4⟩, ⟨bl, b1', b2, by rw [e 3 (by omega)]; exact b3, by rw [g 1 (by omega)]; exact b4⟩, ⟨y, by rw [e 3 (by omega)]; exact y1, by rw [g 2 (by omega)]; exact y2⟩, ⟨z, by rw [e 3 (by omega)]; exact z1, by rw [g 3 (by omega)]; exact z2⟩, fun t ht => ?_⟩
  by_cases q : t = s
  · subst q
    obtain ⟨-, c3, c4, c5, c6, c7⟩ := hS t ht
    rw [show 3 + 2 + 2 * t = 5 + 2 * t by omega] at c3 c4 c5
    unfold SS
    rw [show 3 + 2 + 2 * t = 5 + 2 * t by omega]
    refine ⟨⟨b, by rw [pI_at, if_pos ⟨rfl, rfl⟩], by rw [fs_self]⟩, ?_, ?_, ?_, fun r hr => ?_, fun r hr c hc => ?_⟩
    · rw [pI_at, if_neg (by omega), g _ (by omega)]
      exact c3
    · rw [pI_at, if_neg (by omega), g _ (by omega)]
      exact c4
    · rw [pI_at, if_neg (by omega), g _ (by omega)]
      exact c5
    · rw [g _ (by omega), e _ (by omega)]
      exact c6 r hr
    · rw [e _ (by omega)]
      exact c7 r hr c hc
  · exact SS_cg (hS t ht) (fun j _ _ => by rw [e _ (by omega)]) (fun r _ => by rw [e _ (by omega)]) ⟨g _ (by omega), g _ (by omega), g _ (by omega), g _ (by omega)⟩ (fun r _ => g _ (by omega))
end
section
variable {l : Launch} {M : Mem} {n p c : Nat}
theorem ic_cg {M2 : Mem} (h : IC M n) (e : ∀ i, 6 ≤ i → i < 17 → mI M2 i = mI M i) (e2 : ∀ i, 175 ≤ i → i < 187 → mI M2 i = mI M i) : IC M2 n := fun s hs h1 r hr => by
  rw [e2 _ (by omega) (by omega)] at h1
  rw [e2 _ (by omega) (by omega), e _ (by omega) (by omega)]
  exact h s hs h1 r hr
end
section
variable {l : Launch} {M : Mem} {n p c : Nat}
theorem dr_at {X : Mem} : ∀ k, k ≤ 6 → ∀ s, s < k → mI (dropC X k) (175 + 2 * s) 1 = 0
  | 0, _, s, hs => absurd hs (Nat.not_lt_zero _)
  | k + 1, hk, s, hs => by
    rw [dropC, pI_at]
    by_cases e : s = k
    · rw [if_pos ⟨by omega, rfl⟩]
    · rw [if_neg (by omega)]
      exact dr_at k (by omega) s (by omega)
theorem ic_drop {X : Mem} : IC (dropC X 6) n := fun s hs h1 => absurd (dr_at 6 (Nat.le_refl 6) s hs) h1
theorem SR_drop {X : Mem} {u : Nat → Int64} (h : SR X 3 u n) : SR (dropC X 6) 3 u n := SR_cg h (fun i a b => dropC_ne (Or.inl (by omega)) 6 (Nat.le_refl 6)) (fun _ _ => rfl)
theorem rp_at {o : Nat} (hd : 17 ≤ o) : (∀ i, i ≠ 0 → (i < 3 ∨ (17 ≤ i ∧ i < 175) ∨ 187 ≤ i) → mI (replM M o) i = mI M i) ∧ (∀ j, mI (replM M o) 0 j = if j = 5 then 0 else mI M 0 j) ∧ (∀ u n', SR M o u n' → SR (replM M o) 3 u n') ∧ ∀ n', IC (replM M o) n' := by
  have h1 : ∀ i, (i < 3 ∨ 17 ≤ i) → mI (stTake M 3 o) i = mI M i := fun i hi => stTake_ne hi
  have h2 : ∀ u n', SR M o u n' → SR (stTake M 3 o) 3 u n' := fun u n' h => SR_take (Or.inl hd) h
  unfold replM
  generalize stTake M 3 o = X at *
  refine ⟨fun i h0 hi => ?_, fun j => ?_, fun u n' h => ?_, fun n' => ic_drop⟩
  · rw [dropC_ne (by omega) 6 (Nat.le_refl 6), sI_ne h0, h1 i (by omega)]
  · rw [dropC_ne (by omega) 6 (Nat.le_refl 6), pI_at, h1 0 (by omega)]
    by_cases e : j = 5
    · rw [if_pos ⟨rfl, e⟩, if_pos e]
    · rw [if_neg (fun h => e h.2), if_neg e]
  · exact SR_drop (SR_cg (h2 u n' h) (fun i a b => sI_ne (by omega)) (fun _ _ => rfl))
theorem un_at {cc : Nat} : (∀ i, i ≠ 0 → (i < 3 ∨ (17 ≤ i ∧ i < 175) ∨ 187 ≤ i) → mI (unM M p cc) i = mI M i) ∧ (∀ j, mI (unM M p cc) 0 j = if j = 4 then nI (unP p) else if j = 5 then nI (cc - 1) else mI M 0 j) ∧ (∀ u n', SR M (32 + 14 * unP p) u n' → SR (unM M p cc) 3 u n') ∧ ∀ n', IC (unM M p cc) n' := by
  have q0 : ∀ j, mI (pI (pI M 0 5 (nI (cc - 1))) 0 4 (nI (unP p))) 0 j = if j = 4 then nI (unP p) else if j = 5 then nI (cc - 1) else mI M 0 j := fun j => by
    rw [pI_at, pI_at]
    by_cases e : j = 4
    · rw [if_pos ⟨rfl, e⟩, if_pos e]
    · rw [if_neg (fun h => e h.2), if_neg e]
      by_cases e2 : j = 5
      · rw [if_pos ⟨rfl, e2⟩, if_pos e2]
      · rw [if_neg (fun h => e2 h.2), if_neg e2]
  have qn : ∀ i, i ≠ 0 → mI (pI (pI M 0 5 (nI (cc - 1))) 0 4 (nI (unP p))) i = mI M i := fun i hi => by rw [sI_ne hi, sI_ne hi]
  unfold unM
  generalize pI (pI M 0 5 (nI (cc - 1))) 0 4 (nI (unP p)) = Q at *
  have h1 : ∀ i, (i < 3 ∨ 17 ≤ i) → mI (stTake Q 3 (32 + 14 * unP p)) i = mI Q i := fun i hi => stTake_ne hi
  have h2 : ∀ u n', SR M (32 + 14 * unP p) u n' → SR (stTake Q 3 (32 + 14 * unP p)) 3 u n' := fun u n' h => SR_take (Or.inl (by omega)) (SR_cg h (fun i a b => qn i (by omega)) (fun _ _ => rfl))
  generalize stTake Q 3 (32 + 14 * unP p) = X at *
  refine ⟨fun i h0 hi => ?_, fun j => ?_, fun u n' h => SR_drop (h2 u n' h), fun n' => ic_drop⟩
  · rw [dropC_ne (by omega) 6 (Nat.le_refl 6), h1 i (by omega), qn i h0]
  · rw [dropC_ne (by omega) 6 (Nat.le_refl 6), h1 0 (by omega), q0]
end
section
variable {l : Launch} {M N R Y : Mem} {n p c len : Nat} {T : Nat → Int32} {r : RP}
theorem riM_o (hS : Shp M) {i : Nat} (h1 : i ≠ 1) (h : i < 17 ∨ 31 ≤ i) : mI (riM M len) i = mI M i := by
  have h2 := (riR_ok (len := len) hS).1.2 i h
  unfold riM
  rw [sI_ne h1, rd_ne h1, anL_ne (by omega) 6 (Nat.le_refl 6), h2]
theorem riM_1 : mI (riM M len) 1 1 = 0 := by
  unfold riM
  exact pI_at9 _ _ _ _
theorem riM_4 : mI (riM M len) 1 4 = (riR M len).2.2.2.1 := by
  unfold riM
  rw [pI_k (by decide)]
  exact rd_4
end
