/-! the law's body: the script read, calls after which the script is as it was -/
section
variable {l : Launch} {J : Jm} {F L MC MS : Nat} {Q : Res → Mem → Prop} {pc : Nat} {lv : List (Nat × Value)} {st : List Value} {k n : Nat} {M : Mem}
theorem isA_0 : isA (.retAddr 0) := by
  show (0 : Nat) ≠ 1
  decide
theorem nI_o1 (o : Nat) : nI o + 1 = nI (o + 1) := (Int32.ofNat_add o 1).symm
theorem nI_o2 (o : Nat) : nI o + 2 = nI (o + 2) := (Int32.ofNat_add o 2).symm
theorem nI_o3 (o : Nat) : nI o + 3 = nI (o + 3) := (Int32.ofNat_add o 3).symm
theorem nI_o4 (o : Nat) : nI o + 4 = nI (o + 4) := (Int32.ofNat_add o 4).symm
theorem nI_o5 (o : Nat) : nI o + 5 = nI (o + 5) := (Int32.ofNat_add o 5).symm
theorem g_scriptLoadS {S : Nat × (Nat → Int32)} {i : Int32} {j : Nat} (hd : decode J.2.1 pc = .ok (.iaload, 1)) (hi : i = nI j) (e : mS M = S) (hj : j < S.1) (hL : S.1 < 2147483648) (kk : Go l J F L MC MS Q (pc + 1) lv (.int (S.2 j) :: st) k n M) : Go l J F L MC MS Q pc lv (.int i :: .retAddr 0 :: st) k n M := by
  subst e
  exact g_scriptLoad hd hi hj hL kk
theorem g_scriptLenS {S : Nat × (Nat → Int32)} (hd : decode J.2.1 pc = .ok (.arraylength, 1)) (e : mS M = S) (kk : Go l J F L MC MS Q (pc + 1) lv (.int (nI S.1) :: st) k n M) : Go l J F L MC MS Q pc lv (.retAddr 0 :: st) k n M := by
  subst e
  exact g_scriptLen hd kk
theorem ev_mS {J : Jm} {F L mc ms : Nat} {As : List Value} {Q : Res → Mem → Prop} (h : Ev l J F L mc ms As M Q) : Ev l J F L mc ms As M (fun r M' => Q r M' ∧ mS M' = mS M) := by
  intro G p e ha hc hk s m args below h1 h2 h3 h4
  obtain ⟨t, o, a1, a2, a3, a4⟩ := h G p e ha hc hk s m args below h1 h2 h3 h4
  have hR : Rel G M s.heap := h3.2.2
  refine ⟨t, o, a1, a2, a3, ?_⟩
  rcases a4 with ⟨⟨⟨v, M', b1, b2, b3⟩, b4⟩, b5⟩ | ⟨q, b1, E, ce, L9, ⟨⟨M', c1, c2⟩, c3⟩, c4⟩
  · exact Or.inl ⟨⟨⟨v, M', b1, ⟨b2, b3.2.2.2.trans hR.2.2.2.symm⟩, b3⟩, b4⟩, b5⟩
  · exact Or.inr ⟨q, b1, E, ce, L9, ⟨⟨M', ⟨c1, c2.2.2.2.trans hR.2.2.2.symm⟩, c2⟩, c3⟩, c4⟩
theorem g_invV_s {ix nA F' L' mc' ms' : Nat} {J' : Jm} {As rest : List Value} {id ci : Nat} {q0 : vw_C} {k0 n0 : Nat} {v : Option Value} {M' : Mem} (hd : decode J.2.1 pc = .ok (.invokevirtual ix, 3)) (hst : st = As.reverse ++ .ref id :: rest) (hE : EvR l J' F' L' mc' ms' (.ref id :: As) M (.inl v) M') (hk9 : k0 = k + mc') (hn9 : n0 = n + ms') (hk : (mK M)[id]? = some (.inr ci)) (hc0 : vwCl[ci]? = some q0) (hq0 : q0.1 = J'.1.cls) (hlk : LkV J.1.cls ix J' nA) (hn : As.length = nA) (hcat : (rest.map fun v => v.category).sum ≤ 8) (hF : F' + 1 ≤ F ∧ 8 + (J'.2.2.1 + 11) + L' ≤ L) (hh : J.2.2.2.2 = []) (kk : mS M' = mS M → Go l J F L MC MS Q (pc + 3) lv (v.toList ++ rest) k n M') : Go l J F L MC MS Q pc lv st k0 n0 M := by
  subst hk9; subst hn9
  exact g_invV hd hlk hn hcat hF (ev_mS hE) hst hk hc0 hq0 hh (fun v1 M1 h => by obtain ⟨⟨h1, h2⟩, h3⟩ := h; cases h1; subst h2; exact kk h3) (fun E M1 h => by cases h.1.1)
theorem g_invSX_s {ix nA F' L' mc' ms' : Nat} {J' : Jm} {As rest : List Value} {k0 n0 : Nat} {v : Option Value} {M' : Mem} (hd : decode J.2.1 pc = .ok (.invokestatic ix, 3)) (hst : st = As.reverse ++ rest) (hE : EvR l J' F' L' mc' ms' As M (.inl v) M') (hk9 : k0 = k + mc') (hn9 : n0 = n + ms') (hlk : LkSX J.1.cls ix J' nA) (hn : As.length = nA) (hcat : (rest.map fun v => v.category).sum ≤ 8) (hF : F' + 1 ≤ F ∧ 8 + (J'.2.2.1 + 11) + L' ≤ L) (hh : J.2.2.2.2 = []) (kk : mS M' = mS M → Go l J F L MC MS Q (pc + 3) lv (v.toList ++ rest) k n M') : Go l J F L MC MS Q pc lv st k0 n0 M := by
  subst hk9; subst hn9
  exact g_invSX hd hlk hn hcat hF (ev_mS hE) hst hh (fun v1 M1 h => by obtain ⟨⟨h1, h2⟩, h3⟩ := h; cases h1; subst h2; exact kk h3) (fun E M1 h => by cases h.1.1)
theorem lgc_self {x y : Int64} (h : x = y) : lg_cmp x y = 0 := by subst h; unfold lg_cmp; simp
abbrev AL (o : Nat) : List (Nat × Value) := [(0, .retAddr 0), (1, .ref 0), (2, .ref 198), (3, .ref 212), (4, .ref 213), (5, .int (nI o))]
/-- a long out of two ints, as the law makes it -/
abbrev l2 (x y : Int32) : Int64 := x.toInt64 <<< (32 : Int64) ||| y.toInt64 &&& 4294967295
end
