/-! what the new arrays of arrays hold -/
section
variable {l : Launch}
theorem mk2_Z {a b : Nat} (ha : a < 100000) (hb9 : b < 100000) (e : Env) (s : State) (G : Gl) (vm₁ : Vm) (hC : Ctx l G s) (hal : s.vm.Alike vm₁) (hl : e.platform.arrayLengthLimit = 2147483645) (hh : e.platform.maxHeapBytes = 536870912) : MkS e G vm₁ (gA G (.array .boolean)) [nI a, nI b] (os2 .boolean a b) := by
  obtain ⟨k, comp, hk, hkind⟩ := leaf_moved hal ((hC.2.1.2 3 _ rfl).1)
  obtain ⟨kA, hkA, hkindA⟩ := ax_moved hal hC.1.2.2.2.2.2.1
  exact mk_step (mk_leaf hk hkind hb9 hl hh (by decide) (by decide) rfl) (os1_v okT_Z b) (os1_C _ _) (os1_N _ _) hkA hkindA ha (fun x hx => by rw [List.mem_singleton.mp hx]; exact nI_pos (by omega)) hl hh
theorem mk2_I {a b : Nat} (ha : a < 100000) (hb9 : b < 100000) (e : Env) (s : State) (G : Gl) (vm₁ : Vm) (hC : Ctx l G s) (hal : s.vm.Alike vm₁) (hl : e.platform.arrayLengthLimit = 2147483645) (hh : e.platform.maxHeapBytes = 536870912) : MkS e G vm₁ (gA G (.array .int)) [nI a, nI b] (os2 .int a b) := by
  obtain ⟨k, comp, hk, hkind⟩ := leaf_moved hal ((hC.2.1.2 0 _ rfl).1)
  obtain ⟨kA, hkA, hkindA⟩ := ax_moved hal hC.1.2.2.2.2.2.2.2.1
  exact mk_step (mk_leaf hk hkind hb9 hl hh (by decide) (by decide) rfl) (os1_v okT_I b) (os1_C _ _) (os1_N _ _) hkA hkindA ha (fun x hx => by rw [List.mem_singleton.mp hx]; exact nI_pos (by omega)) hl hh
theorem mk3_Z {a b c : Nat} (ha : a < 100000) (hb9 : b < 100000) (hc9 : c < 100000) (e : Env) (s : State) (G : Gl) (vm₁ : Vm) (hC : Ctx l G s) (hal : s.vm.Alike vm₁) (hl : e.platform.arrayLengthLimit = 2147483645) (hh : e.platform.maxHeapBytes = 536870912) : MkS e G vm₁ (gA G (.array (.array .boolean))) [nI a, nI b, nI c] (os3 .boolean a b c) := by
  obtain ⟨kA, hkA, hkindA⟩ := ax_moved hal hC.1.2.2.2.2.2.2.1
  exact mk_step (mk2_Z hb9 hc9 e s G vm₁ hC hal hl hh) (os2_v okT_Z b c) (os2_C _ _ _) (os2_N _ _ _) hkA hkindA ha (fun x hx => by
    rcases List.mem_cons.mp hx with h | h
    · rw [h]
      exact nI_pos (by omega)
    · rw [List.mem_singleton.mp h]
      exact nI_pos (by omega)) hl hh
end
section
variable {M : Mem} {t : FieldType} {a b c : Nat}
/-- one level: outer array at h, the inner ones behind it -/
def B2 (t : FieldType) (a b h : Nat) (M : Mem) : Prop := (mK M)[h]? = some (.inl (.array t, a)) ∧ ∀ r, r < a → mR M h r = some (h + 1 + r) ∧ (mK M)[h + 1 + r]? = some (.inl (t, b)) ∧ mI M (h + 1 + r) = fun _ => 0
theorem B2.xt {M M' : Mem} {W : Nat → Prop} {h : Nat} (hB : B2 t a b h M) (hx : Xt W M M') (hW : ∀ i, h ≤ i → i < h + 1 + a → ¬ W i) : B2 t a b h M' := by
  refine ⟨hx.k hB.1, fun r hr => ?_⟩
  obtain ⟨h1, h2, h3⟩ := hB.2 r hr
  exact ⟨by rw [hx.R (k_lt hB.1) (hW h (Nat.le_refl _) (by omega))]; exact h1, hx.k h2, by rw [hx.I (k_lt h2) (hW _ (by omega) (by omega))]; exact h3⟩
theorem opsM_xt : ∀ (os : List Op9) (M : Mem) (W : Nat → Prop), (∀ x, .inr x ∈ os → W x.1) → Xt W M (opsM M os)
  | [], M, W, _ => Xt.rf W M
  | .inl x :: os, M, W, h => ((Xt.rf W M).nK _).tr' (opsM_xt os _ W (fun y hy => h y (List.mem_cons_of_mem _ hy))) (fun _ _ h => h)
  | .inr (a, i, r) :: os, M, W, h => ((Xt.rf W M).sR (fun _ => h (a, i, r) List.mem_cons_self)).tr' (opsM_xt os _ W (fun y hy => h y (List.mem_cons_of_mem _ hy))) (fun _ _ h => h)
theorem os2_xt (M : Mem) (t : FieldType) (a b : Nat) : Xn M (opsM M (os2 t a b (mK M).length)) := by
  refine (opsM_xt _ M (fun i => i = (mK M).length) ?_).tr' (Xt.rf (fun _ => False) _) (fun _ _ h => h.elim) |>.up (fun i hi h => absurd h (Nat.ne_of_lt hi))
  intro x hx
  rcases List.mem_cons.mp hx with h | h
  · cases h
  · clear hx
    generalize a = j at h
    induction j with
    | zero => cases h
    | succ j ih =>
      rcases List.mem_append.mp h with h | h
      · exact ih h
      · rcases List.mem_append.mp h with h | h
        · rcases List.mem_cons.mp h with h | h
          · cases h
          · cases h
        · rw [Sum.inr.inj (List.mem_singleton.mp h)]
theorem os2_B (M : Mem) (t : FieldType) (a b : Nat) : B2 t a b (mK M).length (opsM M (os2 t a b (mK M).length)) := by
  have key : ∀ i, i ≤ a → (mK (opsM (nK M (.inl (.array t, a))) (mkR (os1 t b) 1 (mK M).length i))).length = (mK M).length + 1 + i ∧ (mK (opsM (nK M (.inl (.array t, a))) (mkR (os1 t b) 1 (mK M).length i)))[(mK M).length]? = some (.inl (.array t, a)) ∧ ∀ r, r < i → mR (opsM (nK M (.inl (.array t, a))) (mkR (os1 t b) 1 (mK M).length i)) (mK M).length r = some ((mK M).length + 1 + r) ∧ (mK (opsM (nK M (.inl (.array t, a))) (mkR (os1 t b) 1 (mK M).length i)))[(mK M).length + 1 + r]? = some (.inl (t, b)) ∧ mI (opsM (nK M (.inl (.array t, a))) (mkR (os1 t b) 1 (mK M).length i)) ((mK M).length + 1 + r) = fun _ => 0 := by
    intro i
    induction i with
    | zero => intro _; exact ⟨(new_l M _).trans rfl, new_at M _, fun r hr => absurd hr (Nat.not_lt_zero r)⟩
    | succ i ih =>
      intro hi
      obtain ⟨h1, h2, h3⟩ := ih (by omega)
      have e9 : opsM (nK M (.inl (.array t, a))) (mkR (os1 t b) 1 (mK M).length (i + 1)) = sR (nK (opsM (nK M (.inl (.array t, a))) (mkR (os1 t b) 1 (mK M).length i)) (.inl (t, b))) (mK M).length (fun_set (mR (nK (opsM (nK M (.inl (.array t, a))) (mkR (os1 t b) 1 (mK M).length i)) (.inl (t, b))) (mK M).length) i (some ((mK M).length + 1 + i * 1))) := by
        show opsM _ (mkR (os1 t b) 1 (mK M).length i ++ _) = _
        rw [opsM_app]
        rfl
      rw [e9, Nat.mul_one]
      generalize opsM (nK M (.inl (.array t, a))) (mkR (os1 t b) 1 (mK M).length i) = Mi at *
      have hL : (mK M).length < (mK Mi).length := by omega
      refine ⟨(new_l Mi _).trans (by omega), new_o Mi h2, fun r hr => ?_⟩
      by_cases e : r = i
      · subst e
        refine ⟨?_, ?_, ?_⟩
        · rw [sR_self, fs_self]
        · rw [← h1]
          exact new_at Mi _
        · rw [← h1]
          exact new_I Mi (.inl (t, b))
      · obtain ⟨a1, a2, a3⟩ := h3 r (by omega)
        refine ⟨?_, new_o Mi a2, ?_⟩
        · rw [sR_self, fs_ne _ _ e, new_Rne Mi _ hL]
          exact a1
        · rw [mI_sR, new_Ine Mi _ (k_lt a2)]
          exact a3
  obtain ⟨-, h2, h3⟩ := key a (Nat.le_refl _)
  exact ⟨h2, h3⟩
theorem os2_len (M : Mem) (t : FieldType) (a b : Nat) : (mK (opsM M (os2 t a b (mK M).length))).length = (mK M).length + (a + 1) := by rw [opsM_len, os2_C]
/-- two levels -/
def B3 (t : FieldType) (a b c h : Nat) (M : Mem) : Prop := (mK M)[h]? = some (.inl (.array (.array t), a)) ∧ ∀ s, s < a → mR M h s = some (h + 1 + s * (b + 1)) ∧ B2 t b c (h + 1 + s * (b + 1)) M
theorem os3_B (M : Mem) (t : FieldType) (a b c : Nat) : B3 t a b c (mK M).length (opsM M (os3 t a b c (mK M).length)) ∧ Xn M (opsM M (os3 t a b c (mK M).length)) := by
  have key : ∀ i, i ≤ a → (mK (opsM (nK M (.inl (.array (.array t), a))) (mkR (os2 t b c) (b + 1) (mK M).length i))).length = (mK M).length + 1 + i * (b + 1) ∧ (mK (opsM (nK M (.inl (.array (.array t), a))) (mkR (os2 t b c) (b + 1) (mK M).length i)))[(mK M).length]? = some (.inl (.array (.array t), a)) ∧ (∀ s, s < i → mR (opsM (nK M (.inl (.array (.array t), a))) (mkR (os2 t b c) (b + 1) (mK M).length i)) (mK M).length s = some ((mK M).length + 1 + s * (b + 1)) ∧ B2 t b c ((mK M).length + 1 + s * (b + 1)) (opsM (nK M (.inl (.array (.array t), a))) (mkR (os2 t b c) (b + 1) (mK M).length i))) ∧ Xn M (opsM (nK M (.inl (.array (.array t), a))) (mkR (os2 t b c) (b + 1) (mK M).length i)) := by
    intro i
    induction i with
    | zero => intro _; exact ⟨(new_l M _).trans (by rw [Nat.zero_mul]), new_at M _, fun r hr => absurd hr (Nat.not_lt_zero r), (Xt.rf _ M).nK _⟩
    | succ i ih =>
      intro hi
      obtain ⟨h1, h2, h3, h4⟩ := ih (by omega)
      have e9 : opsM (nK M (.inl (.array (.array t), a))) (mkR (os2 t b c) (b + 1) (mK M).length (i + 1)) = sR (opsM (opsM (nK M (.inl (.array (.array t), a))) (mkR (os2 t b c) (b + 1) (mK M).length i)) (os2 t b c ((mK M).length + 1 + i * (b + 1)))) (mK M).length (fun_set (mR (opsM (opsM (nK M (.inl (.array (.array t), a))) (mkR (os2 t b c) (b + 1) (mK M).length i)) (os2 t b c ((mK M).length + 1 + i * (b + 1)))) (mK M).length) i (some ((mK M).length + 1 + i * (b + 1)))) := by
        show opsM _ (mkR (os2 t b c) (b + 1) (mK M).length i ++ _) = _
        rw [opsM_app, opsM_app]
        rfl
      rw [e9]
      generalize opsM (nK M (.inl (.array (.array t), a))) (mkR (os2 t b c) (b + 1) (mK M).length i) = Mi at *
      have hx := os2_xt Mi t b c
      have hB := os2_B Mi t b c
      have hl := os2_len Mi t b c
      rw [h1] at hx hB hl
      generalize opsM Mi (os2 t b c ((mK M).length + 1 + i * (b + 1))) = Mj at *
      have hL : (mK M).length < (mK Mi).length := by rw [h1]; omega
      have hs1 : Xt (fun j => j = (mK M).length) Mj (sR Mj (mK M).length (fun_set (mR Mj (mK M).length) i (some ((mK M).length + 1 + i * (b + 1))))) := (Xt.rf _ Mj).sR (fun _ => rfl)
      refine ⟨hl.trans (by rw [Nat.succ_mul]; omega), hs1.k (hx.k h2), fun s hs => ?_, (h4.tr' hx (fun _ _ h => h)).tr' hs1 (fun j hj e => absurd e (Nat.ne_of_lt hj))⟩
      · by_cases e : s = i
        · subst e
          refine ⟨?_, hB.xt hs1 (fun j h5 _ h6 => by omega)⟩
          rw [sR_self, fs_self]
        · obtain ⟨a1, a2⟩ := h3 s (by omega)
          refine ⟨?_, (a2.xt hx (fun _ _ _ h => h)).xt hs1 (fun j h5 _ h6 => by omega)⟩
          rw [sR_self, fs_ne _ _ e, hx.R hL id]
          exact a1
  obtain ⟨-, h2, h3, h4⟩ := key a (Nat.le_refl _)
  exact ⟨⟨h2, h3⟩, h4⟩
end
