/-! a description out of statements: its text, what it comes to, what the class's reader makes of it -/
abbrev ST9 : Type := Nat × Nat × Nat × Nat × (Nat → Bool)
def gW (g : Nat → Bool) : Nat → List Int32
  | 0 => []
  | k + 1 => gW g k ++ [chB (g k)]
def sW (n : Nat) (t : ST9) : List Int32 := match t.1 with
  | 0 => edW t.2.1 t.2.2.1 t.2.2.2.1
  | 1 => roW t.2.1 t.2.2.1 ++ gW t.2.2.2.2 n
  | 2 => fiW t.2.1 ++ strW (4 + t.2.2.1)
  | 3 => kpW t.2.1
  | _ => blW t.2.1
def sU (n : Nat) (t : ST9) (u : Nat → Int64) : Nat → Int64 := match t.1 with
  | 0 => fun_set u (28 + 32 * t.2.1 + t.2.2.1) (u (28 + 32 * t.2.1 + t.2.2.1) ||| uL (bitI t.2.2.2.1))
  | 1 => fun_set u (28 + 32 * t.2.1 + t.2.2.1) (uL (rwB t.2.2.2.2 n))
  | 2 => lyF u t.2.1 (kdR t.2.2.1 n) n
  | 3 => fun_set u (4 + t.2.1) (b1L true)
  | _ => fun_set u 1 (lN t.2.1)
def sOk (n : Nat) (t : ST9) (u : Nat → Int64) : Prop := match t.1 with
  | 0 => t.2.1 < 6 ∧ t.2.2.1 < n ∧ t.2.2.2.1 < n
  | 1 => t.2.1 < 6 ∧ t.2.2.1 < n
  | 2 => t.2.1 < 6 ∧ t.2.2.1 < 4
  | 3 => t.2.1 < 6 ∧ u (4 + t.2.1) = b1L false
  | _ => 1 ≤ t.2.1 ∧ t.2.1 ≤ 8
def sT (n : Nat) : List ST9 → List Int32
  | [] => []
  | t :: ts => sW n t ++ sT n ts
def sF (n : Nat) (u : Nat → Int64) : List ST9 → (Nat → Int64)
  | [] => u
  | t :: ts => sF n (sU n t u) ts
def sC (n : Nat) (u : Nat → Int64) : List ST9 → Prop
  | [] => True
  | t :: ts => sOk n t u ∧ sC n (sU n t u) ts
/-- a character of a text -/
def chr9 (x : Int32) : Prop := ∃ k, 1 ≤ k ∧ k < 128 ∧ x = nI k
section
variable {T : Nat → Int32} {len p n : Nat} {u : Nat → Int64} {z : Mem × RP} {t : ST9}
theorem sT_app : ∀ (ts : List ST9), sT n (ts ++ [t]) = sT n ts ++ sW n t
  | [] => by
    show sW n t ++ [] = [] ++ sW n t
    rw [List.append_nil, List.nil_append]
  | a :: ts => by
    show sW n a ++ sT n (ts ++ [t]) = sW n a ++ sT n ts ++ sW n t
    rw [sT_app ts, List.append_assoc]
theorem sF_app : ∀ (ts : List ST9) (u : Nat → Int64), sF n u (ts ++ [t]) = sU n t (sF n u ts)
  | [], _ => rfl
  | a :: ts, u => sF_app ts (sU n a u)
theorem sC_app : ∀ (ts : List ST9) (u : Nat → Int64), sC n u ts → sOk n t (sF n u ts) → sC n u (ts ++ [t])
  | [], _, _, h => ⟨h, trivial⟩
  | a :: ts, u, h1, h => ⟨h1.1, sC_app ts (sU n a u) h1.2 h⟩
theorem gW_len (g : Nat → Bool) : ∀ k, (gW g k).length = k
  | 0 => rfl
  | k + 1 => by
    rw [gW, List.length_append, gW_len g k]
    rfl
theorem gW_at (g : Nat → Bool) : ∀ k i, i < k → (gW g k).getD i 0 = chB (g i)
  | 0, i, hi => absurd hi (Nat.not_lt_zero i)
  | k + 1, i, hi => by
    have hl := gW_len g k
    rw [gW, List.getD_eq_getElem?_getD]
    by_cases e : i < k
    · rw [List.getElem?_append_left (by omega), ← List.getD_eq_getElem?_getD]
      exact gW_at g k i e
    · have e2 : i = k := by omega
      rw [List.getElem?_append_right (by omega), hl, e2, Nat.sub_self]
      rfl
theorem rw_b (g : Nat → Bool) : ∀ k, k ≤ 32 → ∀ i, hb (rwB g k) i = (decide (i < k) && g i)
  | 0, _, i => by
    rw [decide_eq_false (Nat.not_lt_zero i)]
    exact hb_0 i
  | k + 1, hk, i => by
    have ih := rw_b g k (by omega) i
    unfold rwB
    by_cases e : i = k
    · subst e
      rw [decide_eq_true (Nat.lt_succ_self i), Bool.true_and]
      rw [decide_eq_false (Nat.lt_irrefl i), Bool.false_and] at ih
      cases q : g i
      · rw [if_neg (by decide)]
        exact ih
      · rw [if_pos rfl, hb_or, ih, hb_bitI (by omega), decide_eq_true rfl]
        rfl
    · have e2 : decide (i < k + 1) = decide (i < k) := decide_eq_decide.mpr (by omega)
      rw [e2]
      split
      · rw [hb_or, ih, hb_bitI (by omega), decide_eq_false e, Bool.or_false]
      · exact ih
theorem kd_wf {kind : Nat} (hn : n ≤ 9) : wfr n (kdR kind n) := fun r hr c hc => by
  unfold kdR
  split
  · rw [hb_bitI (by omega), decide_eq_false (by omega)]
  · split
    · rw [hb_lowM (by omega), decide_eq_false (by omega)]
    · split
      · split
        · rw [hb_bitI (by omega), decide_eq_false (by omega)]
        · have h1 : hb 1 c = hb (bitI 0) c := rfl
          rw [h1, hb_bitI (by omega), decide_eq_false (by omega)]
      · rw [hb_lowM (by omega), decide_eq_false (by omega)]
/-- a statement's length and first character -/
theorem sW_pos (n : Nat) (t : ST9) : 7 ≤ (sW n t).length := by
  unfold sW
  split
  · show 7 ≤ 12
    decide
  · rw [List.length_append]
    exact Nat.le_trans (by decide : 7 ≤ 9) (Nat.le_add_right _ _)
  · rw [List.length_append]
    exact Nat.le_trans (by decide : 7 ≤ 9) (Nat.le_add_right _ _)
  · exact Nat.le_refl 7
  · show 7 ≤ 8
    decide
theorem sW_0 (n : Nat) (t : ST9) : (sW n t).getD 0 0 = 59 ∨ (sW n t).getD 0 0 = 32 := by
  unfold sW
  split
  · exact Or.inl rfl
  · exact Or.inl rfl
  · exact Or.inr rfl
  · exact Or.inl rfl
  · exact Or.inl rfl
theorem stE_ok : ∀ x : Int32, x = 59 ∨ x = 32 → isDi x = false ∧ isLo x = false := by
  rintro x (e | e) <;> subst e <;> exact ⟨by decide, by decide⟩
/-- one statement read -/
theorem st_one (hT : mI z.1 2 = T) (hs : z.2.1 = p) (he : z.2.2.2.2.1 = 0) (h : sg T p (sW n t)) (hok : sOk n t u) (hR : SR z.1 17 u n) (hn : n ≤ 9) (hp : p + (sW n t).length ≤ len) (h9 : p + (sW n t).length < len → isDi (T (p + (sW n t).length)) = false ∧ isLo (T (p + (sW n t).length)) = false) : ∃ z1, StO T len n z z1 ∧ SR z1.1 17 (sU n t u) n ∧ z1.2.1 = p + (sW n t).length ∧ z1.2.2.2.2.1 = 0 ∧ mI z1.1 2 = T := by
  obtain ⟨k, x, r, c, g⟩ := t
  have h20 : ∀ {f : Nat → Int32}, x < 6 → mI (sI z.1 (20 + 2 * x) f) 2 = T := fun {f} hx => by rw [sI_ne (by omega)]; exact hT
  rcases k with _ | _ | _ | _ | k
  · have h1 : sg T p (edW x r c) := h
    have hok1 : x < 6 ∧ r < n ∧ c < n := hok
    have hp1 : p + 12 ≤ len := hp
    have h91 : p + 12 < len → isDi (T (p + 12)) = false ∧ isLo (T (p + 12)) = false := h9
    obtain ⟨hx, hr, hc⟩ := hok1
    obtain ⟨a1, a2, a3⟩ := st_edge (len := len) hT hs he h1 hx hr hc hn hp1 (fun y => (h91 y).1)
    exact ⟨_, ⟨he, a1, a2, a3⟩, ed_D hx hr hc (by omega) hR, rfl, he, h20 hx⟩
  · have hl : (roW x r ++ gW g n).length = 9 + n := by rw [List.length_append, gW_len]; rfl
    have h1 : sg T p (roW x r ++ gW g n) := h
    have hok1 : x < 6 ∧ r < n := hok
    have hp1 : p + (roW x r ++ gW g n).length ≤ len := hp
    have h91 : p + (roW x r ++ gW g n).length < len → isDi (T (p + (roW x r ++ gW g n).length)) = false ∧ isLo (T (p + (roW x r ++ gW g n).length)) = false := h9
    rw [hl] at hp1 h91
    obtain ⟨hx, hr⟩ := hok1
    obtain ⟨s1, s2⟩ := sg_app.mp h1
    rw [show (roW x r).length = 9 from rfl] at s2
    obtain ⟨a1, a2, a3⟩ := st_row (len := len) (g := g) hT hs he s1 (fun i hi => by
      have q := s2 i (by rw [gW_len]; exact hi)
      rw [gW_at g n i hi] at q
      exact q) hx hr hn (by omega) (fun y => by
      rw [show p + 9 + n = p + (9 + n) by omega]
      exact (h91 (by omega)).1)
    have hR2 := SR_setb (y := rwB g n) hx hr (by omega) hR (fun c9 hc9 => by rw [rw_b g n (by omega), decide_eq_false (by omega)]; rfl)
    rw [show 17 + 3 + 2 * x = 20 + 2 * x by omega] at hR2
    refine ⟨_, ⟨he, a1, a2, a3⟩, hR2, ?_, he, h20 hx⟩
    show p + 9 + n = p + (roW x r ++ gW g n).length
    rw [hl]
    omega
  · have hl : (fiW x ++ strW (4 + r)).length = 9 + (strW (4 + r)).length := by rw [List.length_append]; rfl
    have hok1 : x < 6 ∧ r < 4 := hok
    obtain ⟨hx, hr⟩ := hok1
    have h1 : sg T p (fiW x ++ strW (4 + r)) := h
    obtain ⟨s1, s2⟩ := sg_app.mp h1
    rw [show (fiW x).length = 9 from rfl] at s2
    have h0 : p + (fiW x ++ strW (4 + r)).length < len → isDi (T (p + (fiW x ++ strW (4 + r)).length)) = false ∧ isLo (T (p + (fiW x ++ strW (4 + r)).length)) = false := h9
    have hp1 : p + (fiW x ++ strW (4 + r)).length ≤ len := hp
    rw [hl] at h0 hp1
    obtain ⟨a1, a2, a3⟩ := st_fill (len := len) (n := n) hT hs he s1 s2 hx hr (by omega) (fun y => by
      rw [show p + 9 + (strW (4 + r)).length = p + (9 + (strW (4 + r)).length) by omega]
      exact (h0 (by omega)).2)
    have hR2 := SR_rowb (g := wr (mI z.1 (20 + 2 * x)) (kdR r n) n) hx hR (fun i hi => wr_lt hi) (kd_wf (kind := r) hn)
    rw [show 17 + 3 + 2 * x = 20 + 2 * x by omega] at hR2
    refine ⟨_, ⟨he, a1, a2, a3⟩, hR2, ?_, he, h20 hx⟩
    show p + 9 + (strW (4 + r)).length = p + (fiW x ++ strW (4 + r)).length
    rw [hl]
    omega
  · have hok1 : x < 6 ∧ u (4 + x) = b1L false := hok
    obtain ⟨hx, hr⟩ := hok1
    have h1 : sg T p (kpW x) := h
    have hp1 : p + 7 ≤ len := hp
    have h91 : p + 7 < len → isDi (T (p + 7)) = false ∧ isLo (T (p + 7)) = false := h9
    have hk : mI z.1 (19 + 2 * x) 1 = 0 := by
      obtain ⟨⟨k9, k1, k2⟩, -⟩ := hR.2.2.2.2 x hx
      rw [hr] at k2
      have := b1L_inj k2
      subst this
      rw [show 19 + 2 * x = 17 + 2 + 2 * x by omega, k1]
      rfl
    obtain ⟨a1, a2, a3⟩ := st_keep (len := len) (n := n) hT hs he h1 hx hk hp1 (fun y => (h91 y).1)
    have hR2 := SR_kpb (k := true) hx hR
    rw [show 17 + 2 + 2 * x = 19 + 2 * x by omega] at hR2
    refine ⟨_, ⟨he, a1, a2, a3⟩, hR2, rfl, he, ?_⟩
    show mI (pI z.1 (19 + 2 * x) 1 1) 2 = T
    rw [sI_ne (by omega)]
    exact hT
  · have hok1 : 1 ≤ x ∧ x ≤ 8 := hok
    have h1 : sg T p (blW x) := h
    have hp1 : p + 8 ≤ len := hp
    have h91 : p + 8 < len → isDi (T (p + 8)) = false ∧ isLo (T (p + 8)) = false := h9
    obtain ⟨a1, a2, a3⟩ := st_block (len := len) (n := n) hT hs he h1 hok1.1 hok1.2 hp1 (fun y => (h91 y).1)
    refine ⟨_, ⟨he, a1, a2, a3⟩, SR_blb hok1.1 hok1.2 hR, rfl, he, ?_⟩
    show mI (pI z.1 17 2 (nI x)) 2 = T
    rw [sI_ne (by decide)]
    exact hT
/-- all statements read -/
theorem st_run (hn : n ≤ 9) : ∀ (ts : List ST9) (z : Mem × RP) (u : Nat → Int64) (p d : Nat), ts.length < d → mI z.1 2 = T → z.2.1 = p → z.2.2.2.2.1 = 0 → sg T p (sT n ts) → sC n u ts → SR z.1 17 u n → p + (sT n ts).length = len → ∃ Z, rsL len n d z.1 z.2 = Z ∧ SR Z.1 17 (sF n u ts) n ∧ Z.2.2.2.2.1 = 0
  | [], z, u, p, 0, h, _, _, _, _, _, _, _ => absurd h (Nat.not_lt_zero _)
  | [], z, u, p, d + 1, _, hT, hp, he, _, _, hR, hl => ⟨z, rsL_e hT (by rw [hp]; exact hl), hR, he⟩
  | t :: ts, z, u, p, 0, h, _, _, _, _, _, _, _ => absurd h (Nat.not_lt_zero _)
  | t :: ts, z, u, p, d + 1, h, hT, hp, he, hg, hC, hR, hl => by
    obtain ⟨g1, g2⟩ := sg_app.mp hg
    have hl2 : p + ((sW n t).length + (sT n ts).length) = len := by
      rw [← List.length_append]
      exact hl
    have h9 : p + (sW n t).length < len → isDi (T (p + (sW n t).length)) = false ∧ isLo (T (p + (sW n t).length)) = false := fun hlt => by
      cases ts with
      | nil =>
        have h0 : (sT n []).length = 0 := rfl
        omega
      | cons t2 ts2 =>
        obtain ⟨g3, -⟩ := sg_app.mp g2
        have g4 := g3 0 (Nat.lt_of_lt_of_le (by decide) (sW_pos n t2))
        rw [Nat.add_zero] at g4
        rw [g4]
        exact stE_ok _ (sW_0 n t2)
    obtain ⟨z1, a1, a2, a3, a4, a5⟩ := st_one hT hp he g1 hC.1 hR hn (by omega) h9
    obtain ⟨Z, b1', b2, b3⟩ := st_run hn ts z1 (sU n t u) (p + (sW n t).length) d (Nat.lt_of_succ_lt_succ h) a5 a3 a4 g2 hC.2 a2 (by omega)
    exact ⟨Z, by rw [rsL_s hT a1]; exact b1', b2, b3⟩
theorem sT_len : ∀ (ts : List ST9), 7 * ts.length ≤ (sT n ts).length
  | [] => Nat.le_refl 0
  | t :: ts => by
    have h1 := sW_pos n t
    have h2 := sT_len ts
    show 7 * (ts.length + 1) ≤ (sW n t ++ sT n ts).length
    rw [List.length_append]
    omega
/-- the whole description, read by the class -/
theorem st_all {M : Mem} {ts : List ST9} (hn1 : 1 ≤ n) (hn : n ≤ 9) (hT : mI M 2 = T) (h : sg T 0 (szW n ++ sT n ts)) (hC : sC n (bgF (fun _ => 0) n) ts) (hl : (szW n ++ sT n ts).length = len) : riN M len = n ∧ (riR M len).2.2.2.2.1 = 0 ∧ SR (riR M len).1 17 (sF n (bgF (fun _ => 0) n) ts) n := by
  obtain ⟨g1, g2⟩ := sg_app.mp h
  have h6 : (szW n).length = 6 := rfl
  rw [h6, Nat.zero_add] at g2
  have hl2 : 6 + (sT n ts).length = len := by
    rw [← hl, List.length_append]
    rfl
  have h9 : 6 < len → isDi (T 6) = false := fun hlt => by
    cases ts with
    | nil =>
      have h0 : (sT n []).length = 0 := rfl
      omega
    | cons t2 ts2 =>
      obtain ⟨g3, -⟩ := sg_app.mp g2
      have g4 := g3 0 (Nat.lt_of_lt_of_le (by decide) (sW_pos n t2))
      rw [Nat.add_zero] at g4
      rw [g4]
      exact (stE_ok _ (sW_0 n t2)).1
  obtain ⟨s1, s2⟩ := st_size (len := len) (a1 := mI M 1 3) hn1 hn g1 (by omega) h9
  have hN : riN M len = n := by
    unfold riN rzN
    rw [hT, s2, nI_clamp (by omega)]
  refine ⟨hN, ?_⟩
  unfold riR
  rw [hN, hT, s1]
  have hts := sT_len (n := n) ts
  have hE : mI (stEmpty M 17 (nI n)) 2 = T := by
    have h0 : mI (stEmptyL M 17 6) 2 = mI M 2 := stEmptyL_ne 6 (Nat.le_refl 6) (Or.inl (by decide))
    unfold stEmpty
    rw [sI_ne (by decide), sI_ne (by decide), sI_ne (by decide), sI_ne (by decide), h0]
    exact hT
  obtain ⟨Z, b1', b2, b3⟩ := st_run (T := T) (len := len) hn ts (stEmpty M 17 (nI n), (6, nI 5, 0, 0, 0)) (bgF (fun _ => 0) n) 6 len (by omega) hE rfl rfl g2 hC (SR_emp hn1 (by omega)) hl2
  have b4 : rsL len n len (stEmpty M 17 (nI n)) (6, nI 5, 0, 0, 0) = Z := b1'
  rw [b4]
  exact ⟨b3, b2⟩
/-- its characters -/
theorem ch_l {w : List Int32} (h : ∀ x ∈ w, chr9 x) {w' : List Int32} (h' : ∀ x ∈ w', chr9 x) : ∀ x ∈ w ++ w', chr9 x := fun x hx => (List.mem_append.mp hx).elim (h x) (h' x)
theorem ch_d {k : Nat} (hk : k < 10) : chr9 (nI (48 + k)) := ⟨48 + k, by omega, by omega, rfl⟩
end
