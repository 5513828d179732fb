/-! what the reference's calls leave as it was -/
def Rf (M M' : Mem) : Prop := mK M' = mK M ∧ mX M' = mX M ∧ mR M' = mR M ∧ mD M' = mD M ∧ mS M' = mS M ∧ (∀ i, i < 198 → mI M' i = mI M i) ∧ ∀ i, 212 ≤ i → mL M' i = mL M i
section
variable {M M1 M2 : Mem}
theorem Rf.rf (M : Mem) : Rf M M := ⟨rfl, rfl, rfl, rfl, rfl, fun _ _ => rfl, fun _ _ => rfl⟩
theorem Rf.tr (h : Rf M M1) (g : Rf M1 M2) : Rf M M2 := ⟨g.1.trans h.1, g.2.1.trans h.2.1, g.2.2.1.trans h.2.2.1, g.2.2.2.1.trans h.2.2.2.1, g.2.2.2.2.1.trans h.2.2.2.2.1, fun i hi => (g.2.2.2.2.2.1 i hi).trans (h.2.2.2.2.2.1 i hi), fun i hi => (g.2.2.2.2.2.2 i hi).trans (h.2.2.2.2.2.2 i hi)⟩
theorem Rf.S (h : Rf M M1) (hS : Shp M) : Shp M1 := ⟨h.1.trans hS.1, h.2.1.trans hS.2.1, fun i j r q => by rw [h.2.2.1]; exact hS.2.2 i j r q⟩
theorem Rf.I (h : Rf M M1) {i : Nat} (hi : i < 198) : mI M1 i = mI M i := h.2.2.2.2.2.1 i hi
theorem Rf.L (h : Rf M M1) {i : Nat} (hi : 212 ≤ i) : mL M1 i = mL M i := h.2.2.2.2.2.2 i hi
theorem Rf.D (h : Rf M M1) : mD M1 = mD M := h.2.2.2.1
theorem sL_ne9 {i j : Nat} {f : Nat → Int64} (h : j ≠ i) : mL (sL M i f) j = mL M j := fs_ne _ _ h
theorem rf_sI {i : Nat} {f : Nat → Int32} (hi : 198 ≤ i) (h : Rf M M1) : Rf M (sI M1 i f) := h.tr ⟨rfl, rfl, rfl, rfl, rfl, fun j hj => sI_ne (by omega), fun _ _ => rfl⟩
theorem rf_pI {i j : Nat} {x : Int32} (hi : 198 ≤ i) (h : Rf M M1) : Rf M (pI M1 i j x) := rf_sI hi h
theorem rf_sL {i : Nat} {f : Nat → Int64} (hi : i < 212) (h : Rf M M1) : Rf M (sL M1 i f) := h.tr ⟨rfl, rfl, rfl, rfl, rfl, fun _ _ => rfl, fun j hj => sL_ne9 (by omega)⟩
theorem rf_pL {i j : Nat} {x : Int64} (hi : i < 212) (h : Rf M M1) : Rf M (pL M1 i j x) := rf_sL hi h
theorem rf_thr {x : Int32} (h : Rf M M1) : Rf M (thr M1 x) := by
  unfold thr
  exact rf_pI (by decide) h
theorem rf_hdM {x n : Nat} {f : Nat → Int32} (hx : x < 212) (h : Rf M M1) : Rf M (hdM M1 x n f) := by
  unfold hdM
  exact rf_sL hx h
theorem rf_farM {f : Nat → Int32} {n t : Nat} (h : Rf M M1) : Rf M (farM M1 f n t) := by
  unfold farM
  exact rf_sI (by decide) h
theorem rf_gfM {f : Nat → Int32} {n : Nat} (h : Rf M M1) : ∀ k, Rf M (gfM M1 f n k)
  | 0 => h
  | k + 1 => rf_farM h
theorem rf_rbM {n : Nat} {s : ES} (h : Rf M M1) : Rf M (rbM M1 n s) := by
  unfold rbM
  exact rf_sI (by decide) (rf_sI (by decide) (rf_sL (by decide) (rf_sL (by decide) h)))
theorem rf_kepM {c : Nat} (h : Rf M M1) : Rf M (kepM M1 c) := by
  unfold kepM
  exact rf_pI (by decide) (rf_sL (by decide) h)
theorem rf_lkM {s : Nat} {x : Int32} (h : Rf M M1) : Rf M (lkM M1 s x) := by
  unfold lkM
  split
  · exact rf_pL (by decide) (rf_pL (by decide) h)
  · exact h
theorem rf_anM {s : Nat} {x : Int32} (h : Rf M M1) : Rf M (anM M1 s x) := by
  unfold anM
  exact rf_pL (by decide) (rf_lkM h)
theorem rf_lyM {t n : Nat} {f : Nat → Int32} (h : Rf M M1) : Rf M (lyM M1 t n f) := by
  unfold lyM
  exact rf_sL (by decide) h
theorem rf_lsM {t n : Nat} {f : Nat → Int32} (h : Rf M M1) : Rf M (lsM M1 t n f) := by
  unfold lsM
  exact rf_anM (rf_lyM h)
theorem rf_k0M {c : Nat} (h : Rf M M1) : Rf M (k0M M1 c) := by
  unfold k0M
  exact rf_kepM (rf_thr h)
theorem rf_srM {s r : Nat} {v : Int32} (h : Rf M M1) : Rf M (srM M1 s r v) := by
  unfold srM
  exact rf_pL (by decide) h
theorem rf_kpS {s : Nat} {b : Bool} (h : Rf M M1) : Rf M (kpS M1 s b) := by
  unfold kpS
  exact rf_pL (by decide) h
theorem rf_und {c : Nat} (h : Rf M M1) : Rf M (und M1 c) := by
  unfold und
  exact rf_sL (by decide) (rf_pI (by decide) (rf_thr h))
theorem rf_agE {len : Nat} {x : Int64} (h : Rf M M1) : Rf M (agE M1 len x) := by
  unfold agE
  split
  · exact rf_thr h
  · unfold agM
    exact rf_pI (by decide) (rf_sI (by decide) (rf_thr h))
theorem rf_wrtM {n : Nat} {x : Int32} (h : Rf M M1) : Rf M (wrtM M1 n x) := by
  unfold wrtM
  exact rf_sI (by decide) (rf_pI (by decide) (rf_thr h))
theorem rf_saM {q : Nat} (h : Rf M M1) : Rf M (saM M1 q) := by
  unfold saM
  exact rf_pI (by decide) (rf_sL (by decide) (rf_thr h))
theorem rf_reM {q : Nat} (h : Rf M M1) : Rf M (reM M1 q) := by
  unfold reM
  exact rf_pI (by decide) (rf_sL (by decide) (rf_thr h))
theorem rf_rpM1 {n s r : Nat} {f : Nat → Int32} {c : Nat} (h : Rf M M1) : Rf M (rpM1 M1 n s r f c) := by
  unfold rpM1
  exact rf_lkM (rf_hdM (by decide) (rf_hdM (by decide) (rf_k0M h)))
theorem rf_rpM {n s r q : Nat} {f : Nat → Int32} {c : Nat} (h : Rf M M1) : Rf M (rpM M1 n s r q f c) := by
  unfold rpM
  exact rf_hdM (by decide) (rf_srM (rf_rpM1 h))
theorem rf_ctM {a b : Nat} (h : Rf M M1) : Rf M (ctM M1 a b) := by
  unfold ctM
  exact rf_pL (by decide) (rf_pL (by decide) h)
theorem rf_muM {fl : Bool} {f g : Nat → Int32} {n bl : Nat} (h : Rf M M1) : Rf M (muM M1 fl f g n bl) := by
  unfold muM
  exact rf_hdM (by decide) (rf_ctM h)
theorem rf_pdM {n bl t : Nat} {fl : Bool} {f g : Nat → Int32} {c : Nat} (h : Rf M M1) : Rf M (pdM M1 n bl t fl f g c) := by
  unfold pdM
  exact rf_lsM (rf_muM (rf_hdM (by decide) (rf_hdM (by decide) (rf_k0M h))))
theorem rf_pqM {n : Nat} {s : PW} (h : Rf M M1) : Rf M (pqM M1 n s) := by
  unfold pqM
  exact rf_hdM (by decide) (rf_sL (by decide) (rf_pL (by decide) (rf_pL (by decide) h)))
theorem rf_pwZ {n bl t : Nat} {fl : Bool} {f0 : Nat → Int32} {x : Int32} {c : Nat} (h : Rf M M1) : Rf M (pwZ M1 n bl t fl f0 x c) := by
  unfold pwZ
  exact rf_lsM (rf_pqM (rf_hdM (by decide) (rf_k0M h)))
theorem rf_inM {n t : Nat} {f : Nat → Int32} {c : Nat} (h : Rf M M1) : Rf M (inM M1 n t f c) := by
  unfold inM
  exact rf_lsM (rf_kepM (rf_rbM (rf_thr h)))
theorem rf_rcM {n : Nat} {f : Nat → Int32} {k : Nat} (h : Rf M M1) : Rf M (rcM M1 n f k) := by
  unfold rcM
  exact rf_sL (by decide) (rf_hdM (by decide) (rf_hdM (by decide) h))
theorem rf_psM {s : RP} (h : Rf M M1) : Rf M (psM M1 s) := by
  unfold psM
  exact rf_sI (by decide) h
theorem rf_anK {x : Int32} (h : Rf M M1) : ∀ k, Rf M (anK M1 x k)
  | 0 => by rw [anK.eq_1]; exact h
  | k + 1 => by rw [anK.eq_2]; exact rf_anM (rf_anK h k)
theorem rf_lrM {T : Nat → Int32} {len : Nat} (h : Rf M M1) : Rf M (lrM M1 T len) := by
  unfold lrM
  exact rf_psM (rf_sL (by decide) (rf_thr h))
theorem rf_lrD {T : Nat → Int32} {len : Nat} {r : RP} (h : Rf M M1) : Rf M (lrD M1 T len r) := by
  unfold lrD
  exact rf_pI (by decide) (rf_pI (by decide) (rf_pI (by decide) (rf_lrM h)))
theorem rf_lrC {T : Nat → Int32} {len : Nat} {r : RP} (h : Rf M M1) : Rf M (lrC M1 T len r) := by
  unfold lrC
  exact rf_pI (by decide) (rf_sL (by decide) (rf_lrD h))
theorem rf_ldE {T : Nat → Int32} {len : Nat} {r : RP} (h : Rf M M1) : Rf M (ldE M1 T len r) := by
  unfold ldE
  split
  · exact rf_anK (rf_lrC h) 6
  · exact rf_lrD h
end
