/-! contracts that name what comes back -/
/-- the method returns, and P knows what -/
def EvO (l : Launch) (J : Jm) (F L mc ms : Nat) (As : List Value) (M : Mem) (P : Option Value → Mem → Prop) : Prop := Ev l J F L mc ms As M (fun r M' => ∃ v, r = .inl v ∧ P v M')
section
variable {l : Launch} {J : Jm} {F L MC MS : Nat} {Q : Res → Mem → Prop} {pc : Nat} {lv : List (Nat × Value)} {st : List Value} {k n : Nat} {M : Mem}
theorem EvR.o {mc ms : Nat} {As : List Value} {v : Option Value} {M' : Mem} (h : EvR l J F L mc ms As M (.inl v) M') : EvO l J F L mc ms As M (fun v9 M9 => v9 = v ∧ M9 = M') := ev_mono h (fun r M9 h9 => ⟨v, h9.1, rfl, h9.2⟩)
theorem EvO.mono {mc ms : Nat} {As : List Value} {P P' : Option Value → Mem → Prop} (h : EvO l J F L mc ms As M P) (hp : ∀ v M', P v M' → P' v M') : EvO l J F L mc ms As M P' := ev_mono h (fun r M9 h9 => by
  obtain ⟨v, h1, h2⟩ := h9
  exact ⟨v, h1, hp v M9 h2⟩)
theorem g_invV_o {ix nA F' L' mc' ms' : Nat} {J' : Jm} {As rest : List Value} {k0 n0 : Nat} {P : Option Value → Mem → Prop} {id : Nat} {ci : Nat} {q0 : vw_C} (hd : decode J.2.1 pc = .ok (.invokevirtual ix, 3)) (hst : st = As.reverse ++ .ref id :: rest) (hE : EvO l J' F' L' mc' ms' (.ref id :: As) M P) (hk9 : k0 = k + mc') (hn9 : n0 = n + ms') (hk : (mK M)[id]? = some (.inr ci)) (hc0 : vwCl[ci]? = some q0) (hq0 : q0.1 = J'.1.cls) (hlk : LkV J.1.cls ix J' nA) (hn : As.length = nA) (hcat : (rest.map fun v => v.category).sum ≤ 8) (hF : F' + 1 ≤ F ∧ 8 + (J'.2.2.1 + 11) + L' ≤ L) (hh : J.2.2.2.2 = [])
    (kk : ∀ v M', P v M' → Go l J F L MC MS Q (pc + 3) lv (v.toList ++ rest) k n M') : Go l J F L MC MS Q pc lv st k0 n0 M := by
  subst hk9; subst hn9
  exact g_invV hd hlk hn hcat hF hE hst hk hc0 hq0 hh (fun v1 M1 h => by obtain ⟨v, h1, h2⟩ := h; cases h1; exact kk _ _ h2) (fun E M1 h => by obtain ⟨v, h1, -⟩ := h; cases h1)
theorem g_invP_o {ix nA F' L' mc' ms' : Nat} {J' : Jm} {As rest : List Value} {k0 n0 : Nat} {P : Option Value → Mem → Prop} {C : String} {id : Nat} {ci : Nat} {q0 : vw_C} (hd : decode J.2.1 pc = .ok (.invokevirtual ix, 3)) (hst : st = As.reverse ++ .ref id :: rest) (hE : EvO l J' F' L' mc' ms' (.ref id :: As) M P) (hk9 : k0 = k + mc') (hn9 : n0 = n + ms') (hk : (mK M)[id]? = some (.inr ci)) (hc0 : vwCl[ci]? = some q0) (hq0 : q0.1 = C) (hlk : LkP J.1.cls ix J' nA C) (hn : As.length = nA) (hcat : (rest.map fun v => v.category).sum ≤ 8) (hF : F' + 1 ≤ F ∧ 8 + (J'.2.2.1 + 11) + L' ≤ L) (hh : J.2.2.2.2 = [])
    (kk : ∀ v M', P v M' → Go l J F L MC MS Q (pc + 3) lv (v.toList ++ rest) k n M') : Go l J F L MC MS Q pc lv st k0 n0 M := by
  subst hk9; subst hn9
  exact g_invP hd hlk hn hcat hF hE hst hk hc0 hq0 hh (fun v1 M1 h => by obtain ⟨v, h1, h2⟩ := h; cases h1; exact kk _ _ h2) (fun E M1 h => by obtain ⟨v, h1, -⟩ := h; cases h1)
theorem g_invU_o {ix nA F' L' mc' ms' : Nat} {J' : Jm} {As rest : List Value} {k0 n0 : Nat} {P : Option Value → Mem → Prop} {C : String} {xn : MethodName} {id : Nat} {ci : Nat} {q0 : vw_C} (hd : decode J.2.1 pc = .ok (.invokevirtual ix, 3)) (hst : st = As.reverse ++ .ref id :: rest) (hE : EvO l J' F' L' mc' ms' (.ref id :: As) M P) (hk9 : k0 = k + mc') (hn9 : n0 = n + ms') (hk : (mK M)[id]? = some (.inr ci)) (hc0 : vwCl[ci]? = some q0) (hq0 : q0.1 = C) (hlk : LkU J.1.cls ix xn J' nA C) (hn : As.length = nA) (hcat : (rest.map fun v => v.category).sum ≤ 8) (hF : F' + 1 ≤ F ∧ 8 + (J'.2.2.1 + 11) + L' ≤ L) (hh : J.2.2.2.2 = [])
    (kk : ∀ v M', P v M' → Go l J F L MC MS Q (pc + 3) lv (v.toList ++ rest) k n M') : Go l J F L MC MS Q pc lv st k0 n0 M := by
  subst hk9; subst hn9
  exact g_invU hd hlk hn hcat hF hE hst hk hc0 hq0 hh (fun v1 M1 h => by obtain ⟨v, h1, h2⟩ := h; cases h1; exact kk _ _ h2) (fun E M1 h => by obtain ⟨v, h1, -⟩ := h; cases h1)
theorem g_invSU_o {ix nA F' L' mc' ms' : Nat} {J' : Jm} {As rest : List Value} {k0 n0 : Nat} {P : Option Value → Mem → Prop} {C : String} {id : Nat} {ci : Nat} {q0 : vw_C} (hd : decode J.2.1 pc = .ok (.invokespecial ix, 3)) (hst : st = As.reverse ++ .ref id :: rest) (hE : EvO l J' F' L' mc' ms' (.ref id :: As) M P) (hk9 : k0 = k + mc') (hn9 : n0 = n + ms') (hk : (mK M)[id]? = some (.inr ci)) (hc0 : vwCl[ci]? = some q0) (hq0 : q0.1 = C) (hlk : LkSU J.1.cls ix J' nA) (hn : As.length = nA) (hcat : (rest.map fun v => v.category).sum ≤ 8) (hF : F' + 1 ≤ F ∧ 8 + (J'.2.2.1 + 11) + L' ≤ L) (hh : J.2.2.2.2 = [])
    (kk : ∀ v M', P v M' → Go l J F L MC MS Q (pc + 3) lv (v.toList ++ rest) k n M') : Go l J F L MC MS Q pc lv st k0 n0 M := by
  subst hk9; subst hn9
  exact g_invSU hd hlk hn hcat hF hE hst hk hc0 hq0 hh (fun v1 M1 h => by obtain ⟨v, h1, h2⟩ := h; cases h1; exact kk _ _ h2) (fun E M1 h => by obtain ⟨v, h1, -⟩ := h; cases h1)
theorem g_invI_o {ix nA F' L' mc' ms' : Nat} {J' : Jm} {As rest : List Value} {k0 n0 : Nat} {P : Option Value → Mem → Prop} {id : Nat} {ci : Nat} {q0 : vw_C} (hd : decode J.2.1 pc = .ok (.invokespecial ix, 3)) (hst : st = As.reverse ++ .ref id :: rest) (hE : EvO l J' F' L' mc' ms' (.ref id :: As) M P) (hk9 : k0 = k + mc') (hn9 : n0 = n + ms') (hk : (mK M)[id]? = some (.inr ci)) (hc0 : vwCl[ci]? = some q0) (hq0 : q0.1 = J'.1.cls) (hlk : LkI J.1.cls ix J' nA) (hn : As.length = nA) (hcat : (rest.map fun v => v.category).sum ≤ 8) (hF : F' + 1 ≤ F ∧ 8 + (J'.2.2.1 + 11) + L' ≤ L) (hh : J.2.2.2.2 = [])
    (kk : ∀ v M', P v M' → Go l J F L MC MS Q (pc + 3) lv (v.toList ++ rest) k n M') : Go l J F L MC MS Q pc lv st k0 n0 M := by
  subst hk9; subst hn9
  exact g_invI hd hlk hn hcat hF hE hst hk hc0 hq0 hh (fun v1 M1 h => by obtain ⟨v, h1, h2⟩ := h; cases h1; exact kk _ _ h2) (fun E M1 h => by obtain ⟨v, h1, -⟩ := h; cases h1)
theorem g_invIx_o {ix nA F' L' mc' ms' : Nat} {J' : Jm} {As rest : List Value} {k0 n0 : Nat} {P : Option Value → Mem → Prop} {id : Nat} (hd : decode J.2.1 pc = .ok (.invokespecial ix, 3)) (hst : st = As.reverse ++ .ref id :: rest) (hE : EvO l J' F' L' mc' ms' (.ref id :: As) M P) (hk9 : k0 = k + mc') (hn9 : n0 = n + ms') (hlk : LkI J.1.cls ix J' nA) (hn : As.length = nA) (hcat : (rest.map fun v => v.category).sum ≤ 8) (hF : F' + 1 ≤ F ∧ 8 + (J'.2.2.1 + 11) + L' ≤ L) (hh : J.2.2.2.2 = [])
    (kk : ∀ v M', P v M' → Go l J F L MC MS Q (pc + 3) lv (v.toList ++ rest) k n M') : Go l J F L MC MS Q pc lv st k0 n0 M := by
  subst hk9; subst hn9
  exact g_invIx hd hlk hn hcat hF hE hst hh (fun v1 M1 h => by obtain ⟨v, h1, h2⟩ := h; cases h1; exact kk _ _ h2) (fun E M1 h => by obtain ⟨v, h1, -⟩ := h; cases h1)
theorem g_invS_o {ix nA F' L' mc' ms' : Nat} {J' : Jm} {As rest : List Value} {k0 n0 : Nat} {P : Option Value → Mem → Prop} (hd : decode J.2.1 pc = .ok (.invokestatic ix, 3)) (hst : st = As.reverse ++ rest) (hE : EvO l J' F' L' mc' ms' As M P) (hk9 : k0 = k + mc') (hn9 : n0 = n + ms') (hlk : LkS J.1.cls ix J' nA) (hn : As.length = nA) (hcat : (rest.map fun v => v.category).sum ≤ 8) (hF : F' + 1 ≤ F ∧ 8 + (J'.2.2.1 + 11) + L' ≤ L) (hh : J.2.2.2.2 = [])
    (kk : ∀ v M', P v M' → Go l J F L MC MS Q (pc + 3) lv (v.toList ++ rest) k n M') : Go l J F L MC MS Q pc lv st k0 n0 M := by
  subst hk9; subst hn9
  exact g_invS hd hlk hn hcat hF hE hst hh (fun v1 M1 h => by obtain ⟨v, h1, h2⟩ := h; cases h1; exact kk _ _ h2) (fun E M1 h => by obtain ⟨v, h1, -⟩ := h; cases h1)
theorem g_invSN_o {ix nA F' L' mc' ms' : Nat} {J' : Jm} {As rest : List Value} {k0 n0 : Nat} {P : Option Value → Mem → Prop} (hd : decode J.2.1 pc = .ok (.invokestatic ix, 3)) (hst : st = As.reverse ++ rest) (hE : EvO l J' F' L' mc' ms' As M P) (hk9 : k0 = k + mc') (hn9 : n0 = n + ms') (hlk : LkSN J.1.cls ix J' nA) (hn : As.length = nA) (hcat : (rest.map fun v => v.category).sum ≤ 8) (hF : F' + 1 ≤ F ∧ 8 + (J'.2.2.1 + 11) + L' ≤ L) (hh : J.2.2.2.2 = [])
    (kk : ∀ v M', P v M' → Go l J F L MC MS Q (pc + 3) lv (v.toList ++ rest) k n M') : Go l J F L MC MS Q pc lv st k0 n0 M := by
  subst hk9; subst hn9
  exact g_invSN hd hlk hn hcat hF hE hst hh (fun v1 M1 h => by obtain ⟨v, h1, h2⟩ := h; cases h1; exact kk _ _ h2) (fun E M1 h => by obtain ⟨v, h1, -⟩ := h; cases h1)
theorem g_invP_r {ix nA F' L' mc' ms' : Nat} {J' : Jm} {As rest : List Value} {k0 n0 : Nat} {v : Option Value} {M' : Mem} {C : String} {id : Nat} {ci : Nat} {q0 : vw_C} (hd : decode J.2.1 pc = .ok (.invokevirtual ix, 3)) (hst : st = As.reverse ++ .ref id :: rest) (hE : EvR l J' F' L' mc' ms' (.ref id :: As) M (.inl v) M') (hk9 : k0 = k + mc') (hn9 : n0 = n + ms') (hk : (mK M)[id]? = some (.inr ci)) (hc0 : vwCl[ci]? = some q0) (hq0 : q0.1 = C) (hlk : LkP J.1.cls ix J' nA C) (hn : As.length = nA) (hcat : (rest.map fun v => v.category).sum ≤ 8) (hF : F' + 1 ≤ F ∧ 8 + (J'.2.2.1 + 11) + L' ≤ L) (hh : J.2.2.2.2 = [])
    (kk : Go l J F L MC MS Q (pc + 3) lv (v.toList ++ rest) k n M') : Go l J F L MC MS Q pc lv st k0 n0 M := by
  subst hk9; subst hn9
  exact g_invP hd hlk hn hcat hF hE hst hk hc0 hq0 hh (fun v1 M1 h => by obtain ⟨h1, h2⟩ := h; cases h1; subst h2; exact kk) (fun E M1 h => by cases h.1)
theorem g_invU_r {ix nA F' L' mc' ms' : Nat} {J' : Jm} {As rest : List Value} {k0 n0 : Nat} {v : Option Value} {M' : Mem} {C : String} {xn : MethodName} {id : Nat} {ci : Nat} {q0 : vw_C} (hd : decode J.2.1 pc = .ok (.invokevirtual ix, 3)) (hst : st = As.reverse ++ .ref id :: rest) (hE : EvR l J' F' L' mc' ms' (.ref id :: As) M (.inl v) M') (hk9 : k0 = k + mc') (hn9 : n0 = n + ms') (hk : (mK M)[id]? = some (.inr ci)) (hc0 : vwCl[ci]? = some q0) (hq0 : q0.1 = C) (hlk : LkU J.1.cls ix xn J' nA C) (hn : As.length = nA) (hcat : (rest.map fun v => v.category).sum ≤ 8) (hF : F' + 1 ≤ F ∧ 8 + (J'.2.2.1 + 11) + L' ≤ L) (hh : J.2.2.2.2 = [])
    (kk : Go l J F L MC MS Q (pc + 3) lv (v.toList ++ rest) k n M') : Go l J F L MC MS Q pc lv st k0 n0 M := by
  subst hk9; subst hn9
  exact g_invU hd hlk hn hcat hF hE hst hk hc0 hq0 hh (fun v1 M1 h => by obtain ⟨h1, h2⟩ := h; cases h1; subst h2; exact kk) (fun E M1 h => by cases h.1)
theorem g_invSU_r {ix nA F' L' mc' ms' : Nat} {J' : Jm} {As rest : List Value} {k0 n0 : Nat} {v : Option Value} {M' : Mem} {C : String} {id : Nat} {ci : Nat} {q0 : vw_C} (hd : decode J.2.1 pc = .ok (.invokespecial ix, 3)) (hst : st = As.reverse ++ .ref id :: rest) (hE : EvR l J' F' L' mc' ms' (.ref id :: As) M (.inl v) M') (hk9 : k0 = k + mc') (hn9 : n0 = n + ms') (hk : (mK M)[id]? = some (.inr ci)) (hc0 : vwCl[ci]? = some q0) (hq0 : q0.1 = C) (hlk : LkSU J.1.cls ix J' nA) (hn : As.length = nA) (hcat : (rest.map fun v => v.category).sum ≤ 8) (hF : F' + 1 ≤ F ∧ 8 + (J'.2.2.1 + 11) + L' ≤ L) (hh : J.2.2.2.2 = [])
    (kk : Go l J F L MC MS Q (pc + 3) lv (v.toList ++ rest) k n M') : Go l J F L MC MS Q pc lv st k0 n0 M := by
  subst hk9; subst hn9
  exact g_invSU hd hlk hn hcat hF hE hst hk hc0 hq0 hh (fun v1 M1 h => by obtain ⟨h1, h2⟩ := h; cases h1; subst h2; exact kk) (fun E M1 h => by cases h.1)
theorem g_invIx_r {ix nA F' L' mc' ms' : Nat} {J' : Jm} {As rest : List Value} {k0 n0 : Nat} {v : Option Value} {M' : Mem} {id : Nat} (hd : decode J.2.1 pc = .ok (.invokespecial ix, 3)) (hst : st = As.reverse ++ .ref id :: rest) (hE : EvR l J' F' L' mc' ms' (.ref id :: As) M (.inl v) M') (hk9 : k0 = k + mc') (hn9 : n0 = n + ms') (hlk : LkI J.1.cls ix J' nA) (hn : As.length = nA) (hcat : (rest.map fun v => v.category).sum ≤ 8) (hF : F' + 1 ≤ F ∧ 8 + (J'.2.2.1 + 11) + L' ≤ L) (hh : J.2.2.2.2 = [])
    (kk : Go l J F L MC MS Q (pc + 3) lv (v.toList ++ rest) k n M') : Go l J F L MC MS Q pc lv st k0 n0 M := by
  subst hk9; subst hn9
  exact g_invIx hd hlk hn hcat hF hE hst hh (fun v1 M1 h => by obtain ⟨h1, h2⟩ := h; cases h1; subst h2; exact kk) (fun E M1 h => by cases h.1)
/-- putting an int into a final field -/
theorem g_putIf {ix ci j id : Nat} {ty : FieldType} {x : Int32} (hd : decode J.2.1 pc = .ok (.putfield ix, 3)) (hf : FP J.1.cls ix ci j ty true) (hfin : J.1.name = "<init>" ∧ ∃ q, vwCl[ci]? = some q ∧ q.1 = J.1.cls) (hk : (mK M)[id]? = some (.inr ci)) (hn : narrow ty (.int x) = .int x ∧ fits ty (.int x) = true) (hty : ∀ (G : Gl) (M : Mem) (i a : Nat), fval G M i a ty = .int (mI M i a))
    (kk : Go l J F L MC MS Q (pc + 3) lv st k n (sI M id (fun_set (mI M id) j x))) : Go l J F L MC MS Q pc lv (.int x :: .ref id :: st) k n M := by
  refine g_putf (v := .int x) (M' := sI M id (fun_set (mI M id) j x)) hd hf (fun _ => hfin) hk (fun G => hn) rfl rfl rfl (fun G => ?_) (fun G a t ha => ?_) (fun G i y hi _ => ent_sI y hi) kk
  · rw [hty]
    show Value.int (fun_set (mI M) id _ id j) = .int x
    rw [fs_self, fs_self]
  · cases t <;> simp only [fval, mI, sI, fs_self, fs_ne _ _ ha]
end
