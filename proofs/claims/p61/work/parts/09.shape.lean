/-! loops, calls whose end is known, the shape of the memory -/
section
variable {l : Launch} {J : Jm} {F L MC MS : Nat} {Q : Res → Mem → Prop} {pc : Nat} {lv : List (Nat × Value)} {st : List Value} {k n : Nat} {M : Mem}
/-- a loop that counts: A i, MM i at its head before round i -/
theorem go_loop (N : Nat) (A : Nat → List (Nat × Value)) (MM : Nat → Mem) (hA : lvSub lv (A 0)) (hM : M = MM 0)
    (hs : ∀ i, i < N → Go l J F L MC MS Q pc (A (i + 1)) [] k n (MM (i + 1)) → Go l J F L MC MS Q pc (A i) [] k n (MM i)) (hx : Go l J F L MC MS Q pc (A N) [] k n (MM N)) : Go l J F L MC MS Q pc lv [] k n M := by
  refine g_sub hA ?_
  rw [hM]
  have key : ∀ d i, i + d = N → Go l J F L MC MS Q pc (A i) [] k n (MM i) := by
    intro d
    induction d with
    | zero => intro i hi; rw [Nat.add_zero] at hi; rw [hi]; exact hx
    | succ d ih => intro i hi; exact hs i (by omega) (ih (i + 1) (by omega))
  exact key N 0 (Nat.zero_add N)
/-- a loop with a measure -/
theorem go_while {σ : Type} (I : σ → Prop) (μ : σ → Nat) (A : σ → List (Nat × Value)) (MM : σ → Mem) (s0 : σ) (hA : lvSub lv (A s0)) (hM : M = MM s0) (h0 : I s0)
    (hs : ∀ s, I s → (∀ s', I s' → μ s' < μ s → Go l J F L MC MS Q pc (A s') [] k n (MM s')) → Go l J F L MC MS Q pc (A s) [] k n (MM s)) : Go l J F L MC MS Q pc lv [] k n M := by
  refine g_sub hA ?_
  rw [hM]
  have key : ∀ d s, I s → μ s ≤ d → Go l J F L MC MS Q pc (A s) [] k n (MM s) := by
    intro d
    induction d with
    | zero => intro s h1 h2; exact hs s h1 (fun s' _ h4 => absurd h4 (by omega))
    | succ d ih => intro s h1 h2; exact hs s h1 (fun s' h3 h4 => ih s' h3 (by omega))
  exact key (μ s0) s0 h0 (Nat.le_refl _)
/-- a call's end is known -/
def EvR (l : Launch) (J : Jm) (F L mc ms : Nat) (As : List Value) (M : Mem) (r : Res) (M' : Mem) : Prop := Ev l J F L mc ms As M (fun r' M9 => r' = r ∧ M9 = M')
theorem ev_mono {J : Jm} {F L mc ms : Nat} {As : List Value} {Q Q' : Res → Mem → Prop} (h : Ev l J F L mc ms As M Q) (hq : ∀ r M', Q r M' → Q' r M') : Ev l J F L mc ms As M Q' := by
  intro G p e ha hc hk s m args below h1 h2 h3 h4
  obtain ⟨t, o, a1, a2, a3, a4⟩ := h G p e ha hc hk s m args below h1 h2 h3 h4
  refine ⟨t, o, a1, a2, a3, ?_⟩
  rcases a4 with ⟨⟨⟨v, M', b1, b2, b3⟩, b4⟩, b5⟩ | ⟨q, b1, E, ce, L9, ⟨⟨M', c1, c2⟩, c3⟩, c4⟩
  · exact Or.inl ⟨⟨⟨v, M', b1, hq _ _ b2, b3⟩, b4⟩, b5⟩
  · exact Or.inr ⟨q, b1, E, ce, L9, ⟨⟨M', hq _ _ c1, c2⟩, c3⟩, c4⟩
theorem g_invV_r {ix nA F' L' mc' ms' : Nat} {J' : Jm} {As rest : List Value} {id ci : Nat} {q0 : vw_C} {k0 n0 : Nat} {v : Option Value} {M' : Mem} (hd : decode J.2.1 pc = .ok (.invokevirtual ix, 3)) (hst : st = As.reverse ++ .ref id :: rest) (hE : EvR l J' F' L' mc' ms' (.ref id :: As) M (.inl v) M') (hk9 : k0 = k + mc') (hn9 : n0 = n + ms') (hk : (mK M)[id]? = some (.inr ci)) (hc0 : vwCl[ci]? = some q0) (hq0 : q0.1 = J'.1.cls) (hlk : LkV J.1.cls ix J' nA) (hn : As.length = nA) (hcat : (rest.map fun v => v.category).sum ≤ 8) (hF : F' + 1 ≤ F ∧ 8 + (J'.2.2.1 + 11) + L' ≤ L) (hh : J.2.2.2.2 = []) (kk : Go l J F L MC MS Q (pc + 3) lv (v.toList ++ rest) k n M') : Go l J F L MC MS Q pc lv st k0 n0 M := by
  subst hk9; subst hn9
  exact g_invV hd hlk hn hcat hF hE hst hk hc0 hq0 hh (fun v1 M1 h => by obtain ⟨h1, h2⟩ := h; cases h1; subst h2; exact kk) (fun E M1 h => by cases h.1)
theorem g_invV_x {ix nA F' L' mc' ms' : Nat} {J' : Jm} {As rest : List Value} {id ci : Nat} {q0 : vw_C} {k0 n0 : Nat} {E : String} {M' : Mem} (hd : decode J.2.1 pc = .ok (.invokevirtual ix, 3)) (hst : st = As.reverse ++ .ref id :: rest) (hE : EvR l J' F' L' mc' ms' (.ref id :: As) M (.inr E) M') (hk9 : k0 = k + mc') (hn9 : n0 = n + ms') (hk : (mK M)[id]? = some (.inr ci)) (hc0 : vwCl[ci]? = some q0) (hq0 : q0.1 = J'.1.cls) (hlk : LkV J.1.cls ix J' nA) (hn : As.length = nA) (hcat : (rest.map fun v => v.category).sum ≤ 8) (hF : F' + 1 ≤ F ∧ 8 + (J'.2.2.1 + 11) + L' ≤ L) (hh : J.2.2.2.2 = []) (kk : Q (.inr E) M') : Go l J F L MC MS Q pc lv st k0 n0 M := by
  subst hk9; subst hn9
  exact g_invV hd hlk hn hcat hF hE hst hk hc0 hq0 hh (fun v1 M1 h => by cases h.1) (fun E1 M1 h => by obtain ⟨h1, h2⟩ := h; cases h1; subst h2; exact kk)
theorem g_invS_r {ix nA F' L' mc' ms' : Nat} {J' : Jm} {As rest : List Value} {k0 n0 : Nat} {v : Option Value} {M' : Mem} (hd : decode J.2.1 pc = .ok (.invokestatic ix, 3)) (hst : st = As.reverse ++ rest) (hE : EvR l J' F' L' mc' ms' As M (.inl v) M') (hk9 : k0 = k + mc') (hn9 : n0 = n + ms') (hlk : LkS J.1.cls ix J' nA) (hn : As.length = nA) (hcat : (rest.map fun v => v.category).sum ≤ 8) (hF : F' + 1 ≤ F ∧ 8 + (J'.2.2.1 + 11) + L' ≤ L) (hh : J.2.2.2.2 = []) (kk : Go l J F L MC MS Q (pc + 3) lv (v.toList ++ rest) k n M') : Go l J F L MC MS Q pc lv st k0 n0 M := by
  subst hk9; subst hn9
  exact g_invS hd hlk hn hcat hF hE hst hh (fun v1 M1 h => by obtain ⟨h1, h2⟩ := h; cases h1; subst h2; exact kk) (fun E M1 h => by cases h.1)
theorem g_invS_x {ix nA F' L' mc' ms' : Nat} {J' : Jm} {As rest : List Value} {k0 n0 : Nat} {E : String} {M' : Mem} (hd : decode J.2.1 pc = .ok (.invokestatic ix, 3)) (hst : st = As.reverse ++ rest) (hE : EvR l J' F' L' mc' ms' As M (.inr E) M') (hk9 : k0 = k + mc') (hn9 : n0 = n + ms') (hlk : LkS J.1.cls ix J' nA) (hn : As.length = nA) (hcat : (rest.map fun v => v.category).sum ≤ 8) (hF : F' + 1 ≤ F ∧ 8 + (J'.2.2.1 + 11) + L' ≤ L) (hh : J.2.2.2.2 = []) (kk : Q (.inr E) M') : Go l J F L MC MS Q pc lv st k0 n0 M := by
  subst hk9; subst hn9
  exact g_invS hd hlk hn hcat hF hE hst hh (fun v1 M1 h => by cases h.1) (fun E1 M1 h => by obtain ⟨h1, h2⟩ := h; cases h1; subst h2; exact kk)
theorem g_invSN_r {ix nA F' L' mc' ms' : Nat} {J' : Jm} {As rest : List Value} {k0 n0 : Nat} {v : Option Value} {M' : Mem} (hd : decode J.2.1 pc = .ok (.invokestatic ix, 3)) (hst : st = As.reverse ++ rest) (hE : EvR l J' F' L' mc' ms' As M (.inl v) M') (hk9 : k0 = k + mc') (hn9 : n0 = n + ms') (hlk : LkSN J.1.cls ix J' nA) (hn : As.length = nA) (hcat : (rest.map fun v => v.category).sum ≤ 8) (hF : F' + 1 ≤ F ∧ 8 + (J'.2.2.1 + 11) + L' ≤ L) (hh : J.2.2.2.2 = []) (kk : Go l J F L MC MS Q (pc + 3) lv (v.toList ++ rest) k n M') : Go l J F L MC MS Q pc lv st k0 n0 M := by
  subst hk9; subst hn9
  exact g_invSN hd hlk hn hcat hF hE hst hh (fun v1 M1 h => by obtain ⟨h1, h2⟩ := h; cases h1; subst h2; exact kk) (fun E M1 h => by cases h.1)
theorem g_invSN_x {ix nA F' L' mc' ms' : Nat} {J' : Jm} {As rest : List Value} {k0 n0 : Nat} {E : String} {M' : Mem} (hd : decode J.2.1 pc = .ok (.invokestatic ix, 3)) (hst : st = As.reverse ++ rest) (hE : EvR l J' F' L' mc' ms' As M (.inr E) M') (hk9 : k0 = k + mc') (hn9 : n0 = n + ms') (hlk : LkSN J.1.cls ix J' nA) (hn : As.length = nA) (hcat : (rest.map fun v => v.category).sum ≤ 8) (hF : F' + 1 ≤ F ∧ 8 + (J'.2.2.1 + 11) + L' ≤ L) (hh : J.2.2.2.2 = []) (kk : Q (.inr E) M') : Go l J F L MC MS Q pc lv st k0 n0 M := by
  subst hk9; subst hn9
  exact g_invSN hd hlk hn hcat hF hE hst hh (fun v1 M1 h => by cases h.1) (fun E1 M1 h => by obtain ⟨h1, h2⟩ := h; cases h1; subst h2; exact kk)
theorem g_invI_r {ix nA F' L' mc' ms' : Nat} {J' : Jm} {As rest : List Value} {id ci : Nat} {q0 : vw_C} {k0 n0 : Nat} {v : Option Value} {M' : Mem} (hd : decode J.2.1 pc = .ok (.invokespecial ix, 3)) (hst : st = As.reverse ++ .ref id :: rest) (hE : EvR l J' F' L' mc' ms' (.ref id :: As) M (.inl v) M') (hk9 : k0 = k + mc') (hn9 : n0 = n + ms') (hk : (mK M)[id]? = some (.inr ci)) (hc0 : vwCl[ci]? = some q0) (hq0 : q0.1 = J'.1.cls) (hlk : LkI J.1.cls ix J' nA) (hn : As.length = nA) (hcat : (rest.map fun v => v.category).sum ≤ 8) (hF : F' + 1 ≤ F ∧ 8 + (J'.2.2.1 + 11) + L' ≤ L) (hh : J.2.2.2.2 = []) (kk : Go l J F L MC MS Q (pc + 3) lv (v.toList ++ rest) k n M') : Go l J F L MC MS Q pc lv st k0 n0 M := by
  subst hk9; subst hn9
  exact g_invI hd hlk hn hcat hF hE hst hk hc0 hq0 hh (fun v1 M1 h => by obtain ⟨h1, h2⟩ := h; cases h1; subst h2; exact kk) (fun E M1 h => by cases h.1)
theorem g_invI_x {ix nA F' L' mc' ms' : Nat} {J' : Jm} {As rest : List Value} {id ci : Nat} {q0 : vw_C} {k0 n0 : Nat} {E : String} {M' : Mem} (hd : decode J.2.1 pc = .ok (.invokespecial ix, 3)) (hst : st = As.reverse ++ .ref id :: rest) (hE : EvR l J' F' L' mc' ms' (.ref id :: As) M (.inr E) M') (hk9 : k0 = k + mc') (hn9 : n0 = n + ms') (hk : (mK M)[id]? = some (.inr ci)) (hc0 : vwCl[ci]? = some q0) (hq0 : q0.1 = J'.1.cls) (hlk : LkI J.1.cls ix J' nA) (hn : As.length = nA) (hcat : (rest.map fun v => v.category).sum ≤ 8) (hF : F' + 1 ≤ F ∧ 8 + (J'.2.2.1 + 11) + L' ≤ L) (hh : J.2.2.2.2 = []) (kk : Q (.inr E) M') : Go l J F L MC MS Q pc lv st k0 n0 M := by
  subst hk9; subst hn9
  exact g_invI hd hlk hn hcat hF hE hst hk hc0 hq0 hh (fun v1 M1 h => by cases h.1) (fun E1 M1 h => by obtain ⟨h1, h2⟩ := h; cases h1; subst h2; exact kk)
/-- LAYOUT: of the class's object (0 .. 197); what the law makes stands behind it -/
abbrev kI (n : Nat) : Knd := .inl (.int, n)
abbrev kL (n : Nat) : Knd := .inl (.long, n)
abbrev kSt : String := "BitDesk$State"
abbrev kMx : String := "BitDesk$Matrix"
abbrev kCl : String := "BitDesk$Closure"
def laySt : List Knd := [.inr 5, .inl (.object kMx, 6), .inr 2, kI 32, .inr 2, kI 32, .inr 2, kI 32, .inr 2, kI 32, .inr 2, kI 32, .inr 2, kI 32]
def layC : List Knd := [.inr 6, .inr 4, kI 600] ++ laySt ++ laySt ++ [.inl (.object kSt, 8)] ++ laySt ++ laySt ++ laySt ++ laySt ++ laySt ++ laySt ++ laySt ++ laySt ++ [.inl (.object kSt, 2)] ++ laySt ++ laySt ++ [.inl (.boolean, 2), .inl (.object kCl, 6), .inr 0, kI 32, .inr 0, kI 32, .inr 0, kI 32, .inr 0, kI 32, .inr 0, kI 32, .inr 0, kI 32, .inr 3, kI 256, kI 32, kI 32, .inr 1, kI 32, kI 32, kI 32, kI 32, kI 32, kI 32]
def LAY : List Knd := layC
/-- references: state b: its slots' array b + 1, slot s at b + 2 + 2 s, its rows behind it -/
def refSt (b i j : Nat) : Option Nat := if i = b then (if j = 0 then some (b + 1) else none) else if i = b + 1 then (if j < 6 then some (b + 2 + 2 * j) else none) else if b + 2 ≤ i ∧ i < b + 14 ∧ j = 0 ∧ (i - b) % 2 = 0 then some (i + 1) else none
def ref0 (j : Nat) : Option Nat := [some 1, some 3, some 17, some 31, none, none, some 144, some 173, some 174, some 187, some 191, some 195, some 196, some 197, none].getD j none
def REFT (i j : Nat) : Option Nat :=
  if i = 0 then ref0 j else if i = 1 then (if j = 0 then some 2 else none) else if i < 17 then refSt 3 i j else if i < 31 then refSt 17 i j
  else if i = 31 then (if j < 8 then some (32 + 14 * j) else none) else if i < 144 then refSt (32 + 14 * ((i - 32) / 14)) i j
  else if i = 144 then (if j < 2 then some (145 + 14 * j) else none) else if i < 159 then refSt 145 i j else if i < 173 then refSt 159 i j
  else if i = 174 then (if j < 6 then some (175 + 2 * j) else none) else if i < 175 then none else if i < 187 then (if j = 0 ∧ i % 2 = 1 then some (i + 1) else none)
  else if i = 187 then (if j < 3 then some (188 + j) else none) else if i = 191 then (if j < 3 then some (192 + j) else none) else none
def Shp (M : Mem) : Prop := (∃ rest, mK M = LAY ++ rest) ∧ True ∧ ∀ i j r, REFT i j = some r → mR M i j = some r
theorem shK {M : Mem} {i : Nat} {x : Knd} (h : Shp M) (e : LAY[i]? = some x) : (mK M)[i]? = some x := by
  obtain ⟨rest, hr⟩ := h.1
  rw [hr, List.getElem?_append_left (List.getElem?_eq_some_iff.mp e).1]
  exact e
theorem shR {M : Mem} {i j r : Nat} (h : Shp M) (e : REFT i j = some r) : mR M i j = some r := h.2.2 i j r e
theorem fv_obj {M : Mem} {i j r : Nat} {C : String} (h : mR M i j = some r) : ∀ G : Gl, fval G M i j (.object C) = cv G (.ref r) := fun G => by simp only [fval, h, cv, va_rf, rfo_s]
theorem fv_arr {M : Mem} {i j r : Nat} {t : FieldType} (h : mR M i j = some r) : ∀ G : Gl, fval G M i j (.array t) = cv G (.ref r) := fun G => by simp only [fval, h, cv, va_rf, rfo_s]
theorem new_df {M : Mem} {ci N : Nat} {ty0 : Nat → FieldType} (h : ∀ a, a < N → (ftyA ci)[a]? = some (ty0 a) ∧ ty0 a ≠ .float) : ∀ a, a < N → ∀ G : Gl, defaultValue (ty0 a) = vp_V (fvs G (nK M (.inr ci)) (mK M).length 0 (ftyA ci)) a := by
  intro a ha G
  have h1 := fvs_get G (nK M (.inr ci)) (mK M).length (ftyA ci) 0 a (ty0 a) (h a ha).1
  have h2 := (h a ha).2
  unfold vp_V
  rw [List.getD_eq_getElem?_getD, h1, Nat.zero_add]
  cases hty : ty0 a <;> first | exact absurd hty h2 | (simp [fval, nK, mI, mL, mR, mD, fs_self, rfo_0, va_rf] <;> rfl)
theorem new_df0 (M : Mem) : ∀ a, a < 2 → ∀ G : Gl, defaultValue (tyX0 a) = vp_V (fvs G (nK M (.inr 0)) (mK M).length 0 (ftyA 0)) a := new_df (by decide +kernel)
theorem new_df1 (M : Mem) : ∀ a, a < 4 → ∀ G : Gl, defaultValue (tyX1 a) = vp_V (fvs G (nK M (.inr 1)) (mK M).length 0 (ftyA 1)) a := new_df (by decide +kernel)
theorem new_df2 (M : Mem) : ∀ a, a < 5 → ∀ G : Gl, defaultValue (tyX2 a) = vp_V (fvs G (nK M (.inr 2)) (mK M).length 0 (ftyA 2)) a := new_df (by decide +kernel)
theorem new_df3 (M : Mem) : ∀ a, a < 8 → ∀ G : Gl, defaultValue (tyX3 a) = vp_V (fvs G (nK M (.inr 3)) (mK M).length 0 (ftyA 3)) a := new_df (by decide +kernel)
theorem new_df4 (M : Mem) : ∀ a, a < 7 → ∀ G : Gl, defaultValue (tyX4 a) = vp_V (fvs G (nK M (.inr 4)) (mK M).length 0 (ftyA 4)) a := new_df (by decide +kernel)
theorem new_df5 (M : Mem) : ∀ a, a < 5 → ∀ G : Gl, defaultValue (tyX5 a) = vp_V (fvs G (nK M (.inr 5)) (mK M).length 0 (ftyA 5)) a := new_df (by decide +kernel)
theorem new_df6 (M : Mem) : ∀ a, a < 15 → ∀ G : Gl, defaultValue (tyX6 a) = vp_V (fvs G (nK M (.inr 6)) (mK M).length 0 (ftyA 6)) a := new_df (by decide +kernel)
theorem new_df7 (M : Mem) : ∀ a, a < 7 → ∀ G : Gl, defaultValue (tyX7 a) = vp_V (fvs G (nK M (.inr 7)) (mK M).length 0 (ftyA 7)) a := new_df (by decide +kernel)
theorem new_df8 (M : Mem) : ∀ a, a < 4 → ∀ G : Gl, defaultValue (tyJ0 a) = vp_V (fvs G (nK M (.inr 8)) (mK M).length 0 (ftyA 8)) a := new_df (by decide +kernel)
theorem new_df9 (M : Mem) : ∀ a, a < 4 → ∀ G : Gl, defaultValue (tyJ4 a) = vp_V (fvs G (nK M (.inr 9)) (mK M).length 0 (ftyA 9)) a := new_df (by decide +kernel)
theorem new_df10 (M : Mem) : ∀ a, a < 3 → ∀ G : Gl, defaultValue (tyJx4a65c a) = vp_V (fvs G (nK M (.inr 10)) (mK M).length 0 (ftyA 10)) a := new_df (by decide +kernel)
theorem nl {a b : Nat} (h : Nat.blt a b = true) : a < b := Nat.le_of_ble_eq_true h
theorem nb {a b : Nat} (h : Nat.ble a b = true) : a ≤ b := Nat.le_of_ble_eq_true h
end
