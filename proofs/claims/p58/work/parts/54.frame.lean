/-! what the class's calls leave as it was -/
def Cf (M M' : Mem) : Prop := mK M' = mK M ∧ mX M' = mX M ∧ mL M' = mL M ∧ mR M' = mR M ∧ mD M' = mD M ∧ mS M' = mS M ∧ ∀ i, 198 ≤ i → mI M' i = mI M i
section
variable {M M1 M2 : Mem}
theorem Cf.rf (M : Mem) : Cf M M := ⟨rfl, rfl, rfl, rfl, rfl, rfl, fun _ _ => rfl⟩
theorem Cf.tr (h : Cf M M1) (g : Cf M1 M2) : Cf M M2 := ⟨g.1.trans h.1, g.2.1.trans h.2.1, g.2.2.1.trans h.2.2.1, g.2.2.2.1.trans h.2.2.2.1, g.2.2.2.2.1.trans h.2.2.2.2.1, g.2.2.2.2.2.1.trans h.2.2.2.2.2.1, fun i hi => (g.2.2.2.2.2.2 i hi).trans (h.2.2.2.2.2.2 i hi)⟩
theorem Cf.S (h : Cf M M1) (hS : Shp M) : Shp M1 := ⟨h.1.trans hS.1, h.2.1.trans hS.2.1, fun i j r q => by rw [h.2.2.2.1]; exact hS.2.2 i j r q⟩
theorem Cf.L (h : Cf M M1) : mL M1 = mL M := h.2.2.1
theorem Cf.I (h : Cf M M1) {i : Nat} (hi : 198 ≤ i) : mI M1 i = mI M i := h.2.2.2.2.2.2 i hi
theorem cf_sI {i : Nat} {f : Nat → Int32} (hi : i < 198) (h : Cf M M1) : Cf M (sI M1 i f) := h.tr ⟨rfl, rfl, rfl, rfl, rfl, rfl, fun j hj => sI_ne (by omega)⟩
theorem cf_pI {i j : Nat} {x : Int32} (hi : i < 198) (h : Cf M M1) : Cf M (pI M1 i j x) := cf_sI hi h
theorem cf_mxLook {m : Nat} {x : Int32} (hi : m < 198) : Cf M (mxLook M m x) := by
  unfold mxLook
  split
  · exact Cf.rf M
  · exact cf_pI hi (cf_pI hi (Cf.rf M))
theorem cf_mxAnew {m : Nat} {x : Int32} (hi : m < 198) : Cf M (mxAnew M m x) := by
  unfold mxAnew
  split
  · exact Cf.rf M
  · exact cf_pI hi (cf_mxLook hi)
theorem cf_mxTake {m o : Nat} (hi : m + 1 < 198) : Cf M (mxTake M m o) := by
  have h1 : m < 198 := by omega
  unfold mxTake
  exact cf_pI h1 (cf_pI h1 (cf_pI h1 (cf_pI h1 (cf_sI hi (Cf.rf M)))))
theorem cf_mxEmpty {m : Nat} (hi : m + 1 < 198) : Cf M (mxEmpty M m) := by
  have h1 : m < 198 := by omega
  unfold mxEmpty
  exact cf_pI h1 (cf_pI h1 (cf_pI h1 (cf_pI h1 (cf_sI hi (Cf.rf M)))))
theorem cf_stTakeL {b o : Nat} (hb9 : b ≤ 184) : ∀ k, k ≤ 6 → Cf M (stTakeL M b o k)
  | 0, _ => by rw [stTakeL.eq_1]; exact Cf.rf M
  | k + 1, h => by rw [stTakeL.eq_2]; exact (cf_stTakeL hb9 k (by omega)).tr (cf_mxTake (by omega))
theorem cf_stTake {b o : Nat} (hb9 : b ≤ 184) : Cf M (stTake M b o) := by
  have h1 : b < 198 := by omega
  have h := cf_stTakeL (M := M) (o := o) hb9 6 (Nat.le_refl _)
  unfold stTake
  generalize stTakeL M b o 6 = M6 at h ⊢
  exact cf_pI h1 (cf_pI h1 (cf_pI h1 (cf_pI h1 h)))
theorem cf_stEmptyL {b : Nat} (hb9 : b ≤ 184) : ∀ k, k ≤ 6 → Cf M (stEmptyL M b k)
  | 0, _ => by rw [stEmptyL.eq_1]; exact Cf.rf M
  | k + 1, h => by rw [stEmptyL.eq_2]; exact (cf_stEmptyL hb9 k (by omega)).tr (cf_mxEmpty (by omega))
theorem cf_stEmpty {b : Nat} {x : Int32} (hb9 : b ≤ 184) : Cf M (stEmpty M b x) := by
  have h1 : b < 198 := by omega
  have h := cf_stEmptyL (M := M) hb9 6 (Nat.le_refl _)
  unfold stEmpty
  generalize stEmptyL M b 6 = M6 at h ⊢
  exact cf_pI h1 (cf_pI h1 (cf_pI h1 (cf_pI h1 h)))
theorem cf_dropC : ∀ k, k ≤ 6 → Cf M (dropC M k)
  | 0, _ => by rw [dropC.eq_1]; exact Cf.rf M
  | k + 1, h => by rw [dropC.eq_2]; exact cf_pI (by omega) (cf_dropC k (by omega))
theorem cf_replM {o : Nat} : Cf M (replM M o) := by
  have h : Cf M (pI (stTake M 3 o) 0 5 0) := cf_pI (by decide) (cf_stTake (by decide))
  unfold replM
  generalize pI (stTake M 3 o) 0 5 0 = M5 at h ⊢
  exact h.tr (cf_dropC 6 (Nat.le_refl _))
theorem cf_remM {p c : Nat} (hp : p < 8) : Cf M (remM M p c) := by
  have h : Cf M (stTake M (32 + 14 * p) 3) := cf_stTake (by omega)
  unfold remM
  generalize stTake M (32 + 14 * p) 3 = M5 at h ⊢
  exact cf_pI (by decide) (cf_pI (by decide) h)
theorem cf_clMake {c r n : Nat} (hc : c + 1 < 198) : Cf M (clMake M c r n) := by
  unfold clMake
  exact cf_pI (by omega) (cf_sI hc (Cf.rf M))
theorem cf_clOf {s n : Nat} (hs : s < 6) : Cf M (clOf M s n) := by
  unfold clOf
  split
  · exact cf_clMake (by omega)
  · exact Cf.rf M
theorem cf_noteM {s : Nat} {x : Int32} (hs : s < 6) : Cf M (noteM M s x) := by
  unfold noteM
  have h : Cf M (pI M (175 + 2 * s) 1 0) := cf_pI (by omega) (Cf.rf M)
  generalize pI M (175 + 2 * s) 1 0 = M5 at h ⊢
  exact h.tr (cf_mxAnew (by omega))
theorem cf_storeM {r t n : Nat} (ht : t < 6) : Cf M (storeM M r t n) := by
  unfold storeM
  have h : Cf M (sI M (6 + 2 * t) (wr (mI M (6 + 2 * t)) (mI M r) n)) := cf_sI (by omega) (Cf.rf M)
  generalize sI M (6 + 2 * t) (wr (mI M (6 + 2 * t)) (mI M r) n) = M5 at h ⊢
  exact h.tr (cf_noteM ht)
theorem cf_workM : Cf M (workM M) := by
  unfold workM
  exact cf_pI (by decide) (cf_pI (by decide) (Cf.rf M))
theorem cf_lwMem {s a b n : Nat} : Cf M (lwMem M s a b n) := by
  unfold lwMem
  exact cf_sI (by decide) (Cf.rf M)
theorem cf_mkM {f : Nat → Int32} {n : Nat} : Cf M (mkM M f n) := by
  unfold mkM
  exact cf_sI (by decide) (Cf.rf M)
theorem cf_elMem {s : ES} : Cf M (elMem M s) := by
  unfold elMem
  exact cf_sI (by decide) (cf_sI (by decide) (cf_sI (by decide) (cf_sI (by decide) (Cf.rf M))))
theorem cf_loM {s a b n : Nat} (hs : s < 6) : Cf M (loM M s a b n) := by
  unfold loM
  have h : Cf M (lwMem M s a b n) := cf_lwMem
  generalize lwMem M s a b n = M5 at h ⊢
  exact h.tr (cf_clOf hs)
theorem cf_wkM {s n a k : Nat} (hs : s < 6) : Cf M (wkM M s n a k) := by
  unfold wkM
  split
  · exact cf_loM hs
  · exact Cf.rf M
theorem cf_wkI {s n a : Nat} (hs : s < 6) (q : Mem × Int32 × Int32) (h : Cf M q.1) : ∀ k, Cf M (wkI s n a q k).1
  | 0 => h
  | k + 1 => (cf_wkI hs q h k).tr (cf_wkM hs)
theorem cf_wkO {s n : Nat} (hs : s < 6) : ∀ k, Cf M (wkO M s n k).1
  | 0 => Cf.rf M
  | k + 1 => cf_wkI hs _ (cf_wkO hs k) n
theorem cf_swM {s r n p c : Nat} {x : Int64} (hp : p < 8) (hs : s < 6) : Cf M (swM M s r n p c x) := by
  unfold swM
  have h : Cf M (sI (remM M p c) (6 + 2 * s) (fun_set (mI M (6 + 2 * s)) r (x.toInt32 &&& lowM n))) := cf_sI (by omega) (cf_remM hp)
  generalize sI (remM M p c) (6 + 2 * s) (fun_set (mI M (6 + 2 * s)) r (x.toInt32 &&& lowM n)) = M5 at h ⊢
  exact h.tr (cf_noteM hs)
theorem cf_kpM {s n p c : Nat} {f : Int32} (hp : p < 8) (hs : s < 6) : Cf M (kpM M s n p c f) := by
  unfold kpM
  have h : Cf M (pI (remM M p c) (5 + 2 * s) 1 f) := cf_pI (by omega) (cf_remM hp)
  generalize pI (remM M p c) (5 + 2 * s) 1 f = M5 at h ⊢
  exact h.tr (cf_mxAnew (by omega))
theorem cf_svM {q : Nat} (hq : q < 2) : Cf M (svM M q) := by
  unfold svM
  exact cf_pI (by decide) (cf_stTake (by omega))
theorem cf_woM {x : Int32} {n k : Nat} : Cf M (woM M x n k) := by
  unfold woM
  exact cf_sI (by decide) (cf_pI (by decide) (Cf.rf M))
theorem cf_rdX {s n : Nat} : Cf M (rdX M s n) := by
  unfold rdX
  exact cf_sI (by decide) (Cf.rf M)
theorem cf_begMem {f : Int32} : Cf M (begMem M f) := by
  unfold begMem
  exact cf_pI (by decide) (cf_pI (by decide) (cf_pI (by decide) (Cf.rf M)))
theorem cf_mulMem {ri : Nat} {s : PS} (hr : ri < 198) : Cf M (mulMem M ri s) := by
  unfold mulMem
  exact cf_sI (by decide) (cf_sI hr (cf_sI (by decide) (Cf.rf M)))
theorem cf_rsMem {s : RS} : Cf M (rsMem M s) := by
  unfold rsMem
  exact cf_sI (by decide) (cf_sI (by decide) (cf_sI (by decide) (cf_sI (by decide) (Cf.rf M))))
theorem cf_prM {a b n bl : Nat} {f : Int32} : Cf M (prM M a b n bl f) := by
  unfold prM
  have h : Cf M (begMem M f) := cf_begMem
  generalize begMem M f = M5 at h ⊢
  exact (h.tr (cf_mulMem (by decide))).tr cf_workM
theorem cf_pwM {s n bl : Nat} {f x : Int32} : Cf M (pwM M s n bl f x) := by
  unfold pwM
  generalize pwE M s n bl f x = q
  have h : Cf M (rsMem (begMem M f) q) := cf_begMem.tr cf_rsMem
  generalize rsMem (begMem M f) q = M5 at h ⊢
  split
  · exact h.tr cf_workM
  · exact h
theorem cf_ptF {s r k n : Nat} (hs : s < 6) : Cf M (ptF M s r k n) := by
  unfold ptF
  exact cf_sI (by omega) ((cf_clOf hs).tr (cf_mxLook (by omega)))
theorem cf_ptM {s r k n : Nat} {f : Int32} (hs : s < 6) : Cf M (ptM M s r k n f) := by
  unfold ptM
  split
  · exact cf_mxLook (by omega)
  · split
    · exact cf_sI (by omega) (cf_ptF hs)
    · exact cf_sI (by omega) (cf_ptF hs)
theorem cf_unM {p c : Nat} : Cf M (unM M p c) := by
  unfold unM
  have h : Cf M (stTake (pI (pI M 0 5 (nI (c - 1))) 0 4 (nI (unP p))) 3 (32 + 14 * unP p)) := (cf_pI (by decide) (cf_pI (by decide) (Cf.rf M))).tr (cf_stTake (by decide))
  generalize stTake (pI (pI M 0 5 (nI (c - 1))) 0 4 (nI (unP p))) 3 (32 + 14 * unP p) = M5 at h ⊢
  exact h.tr (cf_dropC 6 (Nat.le_refl _))
theorem cf_spM {s b n k : Nat} : Cf M (spM M s b n k) := by
  unfold spM
  exact cf_sI (by decide) (Cf.rf M)
theorem cf_apM {len : Nat} {x : Int64} : Cf M (apM M len x) := by
  unfold apM
  split
  · exact Cf.rf M
  · unfold apQ
    exact cf_pI (by decide) (cf_sI (by decide) (Cf.rf M))
theorem cf_rdM {s : RP} : Cf M (rdM M s) := by
  unfold rdM
  exact cf_sI (by decide) (Cf.rf M)
theorem cf_rsR {len n : Nat} {s : RP} : Cf M (rsR M len n s).1 := by
  have h5 := tn5 (mI M 2) len (twd (mI M 2) len s)
  unfold rsR
  split
  · unfold edM; exact cf_sI (by omega) (Cf.rf M)
  · split
    · unfold rrM; exact cf_sI (by omega) (Cf.rf M)
    · split
      · unfold rfM; exact cf_sI (by omega) (Cf.rf M)
      · split
        · unfold rkM; exact cf_pI (by omega) (Cf.rf M)
        · split
          · exact cf_pI (by decide) (Cf.rf M)
          · exact Cf.rf M
theorem cf_rsL {len n : Nat} : ∀ (d : Nat) (M : Mem) (s : RP), Cf M (rsL len n d M s).1
  | 0, M, s => by rw [rsL.eq_1]; exact Cf.rf M
  | d + 1, M, s => by
    rw [rsL.eq_2]
    split
    · split
      · exact cf_rsR.tr (cf_rsL d _ _)
      · exact cf_rsL d _ _
    · exact Cf.rf M
theorem cf_anL {x : Int32} : ∀ k, k ≤ 6 → Cf M (anL M x k)
  | 0, _ => by rw [anL.eq_1]; exact Cf.rf M
  | k + 1, h => by rw [anL.eq_2]; exact (cf_anL k (by omega)).tr (cf_mxAnew (by omega))
theorem cf_riR {len : Nat} : Cf M (riR M len).1 := by
  unfold riR
  exact (cf_stEmpty (by decide)).tr (cf_rsL _ _ _)
theorem cf_riM {len : Nat} : Cf M (riM M len) := by
  unfold riM
  have h : Cf M (anL (riR M len).1 (nI (riN M len)) 6) := cf_riR.tr (cf_anL 6 (Nat.le_refl _))
  generalize anL (riR M len).1 (nI (riN M len)) 6 = M5 at h ⊢
  exact cf_pI (by decide) (h.tr cf_rdM)
end
