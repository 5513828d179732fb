/-! calls that change, from the invariant to the invariant (5981) -/
section
variable {l : Launch} {M : Mem} {n p c : Nat}
theorem rq_rcM {K N : Mem} {f : Nat → Int32} {k : Nat} (h : Rq K N) : Rq K (rcM N n f k) := by
  unfold rcM
  exact rq_sL (Or.inr (Or.inl rfl)) (rq_hdM (Or.inl rfl) (rq_hdM (Or.inr (Or.inr rfl)) h))
theorem sm_reduce (h : IV M n p c) (x1 : Int32) (x2 : Int32) : SmI True l jL_reduce jX7_reduce 8 163 2 12 4 [.ref 0, .int x1, .int x2, .ref 212] [.ref 198, .int x1, .int x2] M Inv := by
  have hS := h.S
  have hz := h.z
  have hn := h.n32
  have hn1 := h.n1
  have hc8 := h.2.2.1.2.2.2.1
  by_cases hr : inR x1 6 ∧ inR x2 6
  · obtain ⟨s, hs, rfl⟩ := inR_of hr.1 (by decide)
    obtain ⟨t, ht, rfl⟩ := inR_of hr.2 (by decide)
    have hne : ∀ i, i ≠ 195 → mI (rdX (remM M p c) s n) i = mI (remM M p c) i := fun i hi => sI_ne hi
    have e6 : mI (remM M p c) (6 + 2 * s) = mI M (6 + 2 * s) := rem_m (by omega) (by omega) h.2.2.1.2.1
    have hq := rd_ok (g := wr (mI (remM M p c) 195) (mI (remM M p c) (6 + 2 * s)) n) (h.wf hs) (fun i hi => by rw [wr_lt hi, e6]) hn n (Nat.le_refl n)
    have hcu : Cu (remM M p c) (rdX (remM M p c) s n) := by
      unfold rdX
      exact cu_sI (by decide) (Cu.rf _)
    have hg : ∀ i, i < n → mI (rdX (remM M p c) s n) 195 i = rcF (Am M s) n (n * n) i := fun i hi => by
      unfold rdX
      rw [sI_self]
      exact hq.1 i hi
    exact uStore h (fun N => rcM (k0M N c) n (Am M s) (n * n)) ht hcu (fun N hN => sr_X h (fun i a b => hne i (by omega)) (G199 (rq_rcM (Rq.rf _)) hN)) (ic_X h (fun i a b => hne i (by omega))) (X188 h (hne 188 (by decide))) hg hq.2.1 (fun hS9 => w_reduce (u_reduce h.D hs ht) (shK hS rfl) (shK hS9 rfl)) (fun v a b _ => n_reduce a b hc8 hs ht) (fun N => (rq_rcM (Rq.rf _)).ru) (fun N => t6_rcM t6_k0M)
  · exact xI h (by decide) (wx_reduce (x_reduce hS hr) (shK hS rfl)) (t_reduce h.R hr)

end
