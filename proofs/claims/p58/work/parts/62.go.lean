/-! from a new desk, call by call -/
section
variable {l : Launch} {Q : Res → Mem → Prop} {M : Mem} {S : Nat × (Nat → Int32)} {L : Nat} {xs : Nat → Int32}
theorem fr_v (h : Frs M) {i j : Nat} {v : Int32} (hd : lkI FI i j = v) : mI M i j = v := by
  rw [h.2.1]
  exact hd
theorem fK_ok : ∀ q, q < 2 → ∀ s, s < 6 → FI.all (fun z => !Nat.beq z.1 (145 + 14 * q + 2 + 2 * s)) = true := by decide +kernel
theorem frs_IV (h : Frs M) : IV M 8 0 0 := by
  have hL : mL M 199 = bgF (fun _ => 0) 8 := fq_L (fq_0 h (Cf.rf M))
  have z : ∀ i, 2 ≤ i → mL M 199 i = 0 := fun i hi => by
    rw [hL]
    exact bg_ge hi
  refine ⟨h.1, ⟨⟨by decide, by decide, f_z h, by rw [hL]; decide +kernel⟩, ⟨4, by decide, by decide, f_bl h, by rw [hL]; decide +kernel⟩, ⟨0, fr_v h (by decide +kernel), z 2 (by decide)⟩, ⟨0, fr_v h (by decide +kernel), z 3 (by decide)⟩, fun s hs => ?_⟩, ⟨fr_v h (by decide +kernel), by decide, fr_v h (by decide +kernel), by decide, fr_v h (by decide +kernel), fun i hi => absurd hi (Nat.not_lt_zero i)⟩, fun q hq => ?_, fun s hs h1 => ?_, ⟨⟨0, by decide, fr_v h (by decide +kernel), fr_v h (by decide +kernel), fun i hi => absurd hi (Nat.not_lt_zero i)⟩, ?_, ?_⟩, fr_v h (by decide +kernel), fq_bs (fq_0 h (Cf.rf M)), ⟨0, by decide, fr_v h (by decide +kernel)⟩, 0, by decide, fr_v h (by decide +kernel)⟩
  · unfold SS
    rw [show 3 + 2 + 2 * s = 5 + 2 * s by omega, show 3 + 3 + 2 * s = 6 + 2 * s by omega, f_mx h hs, f_rows h hs, z _ (by omega), z _ (by omega), z _ (by omega), z _ (by omega)]
    refine ⟨⟨false, rfl, rfl⟩, rfl, rfl, rfl, fun r _ => ?_, fun r _ c _ => hb_0 c⟩
    rw [z _ (by omega)]
    exact uL_0.symm
  · refine ⟨fun s hs => ?_, Or.inl ⟨?_, ?_⟩⟩
    · rw [f_0 h (fK_ok q hq s hs)]
      exact Or.inl rfl
    · rw [f_0 h (i := 173) (by decide +kernel)]
    · rw [f_0 h (i := 203) (by decide +kernel)]
  · rw [f_cl0 h hs] at h1
    exact absurd rfl h1
  · rw [fr_v h (i := 198) (j := 14) (v := 0) (by decide +kernel), fr_v h (i := 1) (j := 5) (v := 0) (by decide +kernel)]
  · rw [fr_v h (i := 198) (j := 15) (v := -1) (by decide +kernel), fr_v h (i := 1) (j := 5) (v := 0) (by decide +kernel), if_pos rfl]
theorem law_loop (hL : S.1 < 1073741824) (hQ : ∀ M, Q (.inl (some (.int 1))) M) : ∀ (d o : Nat) (M : Mem), Inv M → Shp M → mS M = S → o + 5 * (d + 1) < 1073741824 → S.1 < o + 5 * (d + 1) → Go l jL_law 14 538 601024 7293034 Q 28 (AL o) [] (4 * d) (24 * d) M
  | 0, o, M, _, _, hs, ho, h => law_out hs hL (by omega) (by omega) (hQ _)
  | d + 1, o, M, hI, hSh, hs, ho, h => by
    by_cases h5 : o + 5 ≤ S.1
    · refine law_in hs hL (by omega) h5 ?_
      exact law_step (k := 4 * d) (n := 24 * d) hI hSh hs h5 (by omega) (fun M2 h1 hI2 h2 => law_nx (law_loop hL hQ d (o + 5) M2 hI2 h1 h2 (by omega) (by omega))) (law_nx (law_loop hL hQ d (o + 5) M hI hSh hs (by omega) (by omega)))
    · exact law_out hs hL (by omega) (by omega) (hQ _)
theorem law_go (hL : L ≤ 2560) (hQ : ∀ M, Q (.inl (some (.int 1))) M) : Go l jL_law 14 538 601024 7293034 Q 0 [(0, .retAddr 0)] [] 601024 7293034 (M00 L xs) := by
  refine law_made fun M hF hS => ?_
  have hL2 : ((L, xs) : Nat × (Nat → Int32)).1 ≤ 2560 := hL
  generalize ((L, xs) : Nat × (Nat → Int32)) = S at *
  refine g_less (k' := 4 * 512) (n' := 24 * 512) (Nat.le_of_ble_eq_true rfl) (Nat.le_of_ble_eq_true rfl) ?_
  exact law_loop (S := S) (by omega) hQ 512 0 M ⟨8, 0, 0, frs_IV hF⟩ hF.1 hS (by omega) (by omega)
end
