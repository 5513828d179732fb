/-! the reference: symmetry, closures -/
section
variable {l : Launch} {M : Mem} {n : Nat} {A : Nat → Nat → Int32}
def syP (f : Nat → Int32) (n : Nat) : Prop := ∀ r, r < n → ∀ c, c < r → hb (f r) c = hb (f c) r
theorem b1_inj {a b : Bool} : b1 a = b1 b ↔ a = b := by cases a <;> cases b <;> decide
theorem n_isSymmetric {s : Nat} {b : Bool} (h : Rr M n A) (hs : s < 6) (hb9 : b = true ↔ syP (A s) n) : EvR l jX7_isSymmetric 4 160 0 0 [.ref 198, .int (nI s)] M (.inl (some (.int (b1 b)))) (thr M 0) := by
  have hn := h.2.2.2.1
  have hS := h.1
  have h' := h.thr (x := 0)
  refine ev_intro rfl (nb rfl) rfl ?_
  refine g_aload_n (pc := 0) dX7_isSymmetric_0 rfl trivial ?_
  refine g_iload_n (pc := 1) dX7_isSymmetric_1 rfl ?_
  refine g_invS_r (pc := 2) (As := [_]) dX7_isSymmetric_2 rfl (r_isSlot_t (in6 hs)) rfl rfl lk_X7_216 rfl (nb rfl) ⟨nb rfl, nb rfl⟩ rfl ?_
  refine g_iconst (pc := 5) (v := 1) dX7_isSymmetric_5 rfl ?_
  refine g_invV_r (pc := 6) (As := [_, _]) dX7_isSymmetric_6 rfl (r_isThrown_0 hS) rfl rfl (shK hS rfl) rfl rfl lk_X7_209 rfl (nb rfl) ⟨nb rfl, nb rfl⟩ rfl ?_
  refine g_if_eq (pc := 9) (tgt := 14) dX7_isSymmetric_9 rfl (fun _ => ?_) (fun h9 => absurd (rfl) h9)
  refine g_iconst (pc := 14) (v := 0) dX7_isSymmetric_14 rfl ?_
  refine g_istore_n (pc := 15) (lv' := [(0, _), (1, _), (2, _)]) dX7_isSymmetric_15 (nl rfl) rfl ?_
  refine go_while (pc := 16) (σ := Nat) (fun q => q ≤ n ∧ ∀ r, r < q → ∀ c, c < r → hb (A s r) c = hb (A s c) r) (fun q => n - q) (fun q => [(0, .ref 198), (1, .int (nI s)), (2, .int (nI q))]) (fun _ => thr M 0) 0 ⟨rfl, rfl, rfl, trivial⟩ rfl ⟨by omega, fun r hr => by omega⟩ ?_
  rintro q ⟨h1, h3⟩ ih
  by_cases hq : q < n
  · refine g_iload_n (pc := 16) dX7_isSymmetric_16 rfl ?_
    refine g_aload_n (pc := 17) dX7_isSymmetric_17 rfl trivial ?_
    refine g_invV_r (pc := 18) (As := []) dX7_isSymmetric_18 rfl (r_size h') rfl rfl (shK hS rfl) rfl rfl lk_X7_71 rfl (nb rfl) ⟨nb rfl, nb rfl⟩ rfl ?_
    refine g_icmp_ge (pc := 21) (tgt := 68) dX7_isSymmetric_21 rfl (fun h21 => absurd h21 (nI_ge hq (by omega))) (fun _ => ?_)
    refine g_iconst (pc := 24) (v := 0) dX7_isSymmetric_24 rfl ?_
    refine g_istore_n (pc := 25) (lv' := [(0, _), (1, _), (2, _), (3, _)]) dX7_isSymmetric_25 (nl rfl) rfl ?_
    refine go_while (pc := 26) (σ := Nat) (fun z => z ≤ q ∧ ∀ c, c < z → hb (A s q) c = hb (A s c) q) (fun z => q - z) (fun z => [(0, .ref 198), (1, .int (nI s)), (2, .int (nI q)), (3, .int (nI z))]) (fun _ => thr M 0) 0 ⟨rfl, rfl, rfl, rfl, trivial⟩ rfl ⟨by omega, fun r hr => by omega⟩ ?_
    rintro z ⟨k1, k3⟩ ih2
    by_cases hz : z < q
    · by_cases he : hb (A s q) z = hb (A s z) q
      · refine g_iload_n (pc := 26) dX7_isSymmetric_26 rfl ?_
        refine g_iload_n (pc := 27) dX7_isSymmetric_27 rfl ?_
        refine g_icmp_ge (pc := 28) (tgt := 62) dX7_isSymmetric_28 rfl (fun h28 => absurd h28 (nI_ge hz (by omega))) (fun _ => ?_)
        refine g_aload_n (pc := 31) dX7_isSymmetric_31 rfl trivial ?_
        refine g_iload_n (pc := 32) dX7_isSymmetric_32 rfl ?_
        refine g_iload_n (pc := 33) dX7_isSymmetric_33 rfl ?_
        refine g_invV_r (pc := 34) (As := [_, _]) dX7_isSymmetric_34 rfl (r_rowOf h' hs hq) rfl rfl (shK hS rfl) rfl rfl lk_X7_227 rfl (nb rfl) ⟨nb rfl, nb rfl⟩ rfl ?_
        refine g_iload_n (pc := 37) dX7_isSymmetric_37 rfl ?_
        refine g_invS_r (pc := 38) (As := [_, _]) dX7_isSymmetric_38 rfl (r_one (show z < 32 by omega)) rfl rfl lk_X7_231 rfl (nb rfl) ⟨nb rfl, nb rfl⟩ rfl ?_
        refine g_aload_n (pc := 41) dX7_isSymmetric_41 rfl trivial ?_
        refine g_iload_n (pc := 42) dX7_isSymmetric_42 rfl ?_
        refine g_iload_n (pc := 43) dX7_isSymmetric_43 rfl ?_
        refine g_invV_r (pc := 44) (As := [_, _]) dX7_isSymmetric_44 rfl (r_rowOf h' hs (show z < n by omega)) rfl rfl (shK hS rfl) rfl rfl lk_X7_227 rfl (nb rfl) ⟨nb rfl, nb rfl⟩ rfl ?_
        refine g_iload_n (pc := 47) dX7_isSymmetric_47 rfl ?_
        refine g_invS_r (pc := 48) (As := [_, _]) dX7_isSymmetric_48 rfl (r_one (show q < 32 by omega)) rfl rfl lk_X7_231 rfl (nb rfl) ⟨nb rfl, nb rfl⟩ rfl ?_
        refine g_icmp_eq (pc := 51) (tgt := 56) dX7_isSymmetric_51 rfl (fun _ => ?_) (fun h51 => absurd ((by rw [he])) h51)
        refine g_iinc (pc := 56) (lv' := [(0, _), (1, _), (2, _), (3, _)]) dX7_isSymmetric_56 rfl (nI_1 _) (nl rfl) rfl ?_
        refine g_goto (pc := 59) (tgt := 26) dX7_isSymmetric_59 rfl ?_
        exact ih2 (z + 1) ⟨hz, fun c hc => (by omega : c < z ∨ c = z).elim (k3 c) (fun e => e ▸ he)⟩ (by omega)
      · have hf : b = false := by
          cases b with
          | false => rfl
          | true => exact absurd (hb9.mp rfl q hq z hz) he
        subst hf
        refine g_iload_n (pc := 26) dX7_isSymmetric_26 rfl ?_
        refine g_iload_n (pc := 27) dX7_isSymmetric_27 rfl ?_
        refine g_icmp_ge (pc := 28) (tgt := 62) dX7_isSymmetric_28 rfl (fun h28 => absurd h28 (nI_ge hz (by omega))) (fun _ => ?_)
        refine g_aload_n (pc := 31) dX7_isSymmetric_31 rfl trivial ?_
        refine g_iload_n (pc := 32) dX7_isSymmetric_32 rfl ?_
        refine g_iload_n (pc := 33) dX7_isSymmetric_33 rfl ?_
        refine g_invV_r (pc := 34) (As := [_, _]) dX7_isSymmetric_34 rfl (r_rowOf h' hs hq) rfl rfl (shK hS rfl) rfl rfl lk_X7_227 rfl (nb rfl) ⟨nb rfl, nb rfl⟩ rfl ?_
        refine g_iload_n (pc := 37) dX7_isSymmetric_37 rfl ?_
        refine g_invS_r (pc := 38) (As := [_, _]) dX7_isSymmetric_38 rfl (r_one (show z < 32 by omega)) rfl rfl lk_X7_231 rfl (nb rfl) ⟨nb rfl, nb rfl⟩ rfl ?_
        refine g_aload_n (pc := 41) dX7_isSymmetric_41 rfl trivial ?_
        refine g_iload_n (pc := 42) dX7_isSymmetric_42 rfl ?_
        refine g_iload_n (pc := 43) dX7_isSymmetric_43 rfl ?_
        refine g_invV_r (pc := 44) (As := [_, _]) dX7_isSymmetric_44 rfl (r_rowOf h' hs (show z < n by omega)) rfl rfl (shK hS rfl) rfl rfl lk_X7_227 rfl (nb rfl) ⟨nb rfl, nb rfl⟩ rfl ?_
        refine g_iload_n (pc := 47) dX7_isSymmetric_47 rfl ?_
        refine g_invS_r (pc := 48) (As := [_, _]) dX7_isSymmetric_48 rfl (r_one (show q < 32 by omega)) rfl rfl lk_X7_231 rfl (nb rfl) ⟨nb rfl, nb rfl⟩ rfl ?_
        refine g_icmp_eq (pc := 51) (tgt := 56) dX7_isSymmetric_51 rfl (fun h51 => absurd h51 ((fun e => he (b1_inj.mp e)))) (fun _ => ?_)
        refine g_iconst (pc := 54) (v := 0) dX7_isSymmetric_54 rfl ?_
        refine g_ireturn (pc := 55) dX7_isSymmetric_55 rfl rfl ?_
        exact ⟨rfl, rfl⟩
    · have hz' : z = q := by omega
      subst hz'
      refine g_iload_n (pc := 26) dX7_isSymmetric_26 rfl ?_
      refine g_iload_n (pc := 27) dX7_isSymmetric_27 rfl ?_
      refine g_icmp_ge (pc := 28) (tgt := 62) dX7_isSymmetric_28 rfl (fun _ => ?_) (fun h28 => absurd (nI_le (Nat.le_refl _) (by omega)) h28)
      refine g_iinc (pc := 62) (lv' := [(0, _), (1, _), (2, _), (3, _)]) dX7_isSymmetric_62 rfl (nI_1 _) (nl rfl) rfl ?_
      refine g_goto (pc := 65) (tgt := 16) dX7_isSymmetric_65 rfl ?_
      exact g_sub (lv' := [(0, _), (1, _), (2, _)]) ⟨rfl, rfl, rfl, trivial⟩ (ih (z + 1) ⟨hq, fun r hr => (by omega : r < z ∨ r = z).elim (h3 r) (fun e => e ▸ k3)⟩ (by omega))
  · have hq' : q = n := by omega
    subst hq'
    have ht : b = true := hb9.mpr h3
    subst ht
    refine g_iload_n (pc := 16) dX7_isSymmetric_16 rfl ?_
    refine g_aload_n (pc := 17) dX7_isSymmetric_17 rfl trivial ?_
    refine g_invV_r (pc := 18) (As := []) dX7_isSymmetric_18 rfl (r_size h') rfl rfl (shK hS rfl) rfl rfl lk_X7_71 rfl (nb rfl) ⟨nb rfl, nb rfl⟩ rfl ?_
    refine g_icmp_ge (pc := 21) (tgt := 68) dX7_isSymmetric_21 rfl (fun _ => ?_) (fun h21 => absurd (nI_le (Nat.le_refl _) (by omega)) h21)
    refine g_iconst (pc := 68) (v := 1) dX7_isSymmetric_68 rfl ?_
    refine g_ireturn (pc := 69) dX7_isSymmetric_69 rfl rfl ?_
    exact ⟨rfl, rfl⟩
theorem t_isSymmetric {v : Int32} (h : Rr M n A) (hx : ¬ inR v 6) : EvR l jX7_isSymmetric 4 160 0 0 [.ref 198, .int v] M (.inl (some (.int 0))) (thr M 1) := by
  have hS := h.1
  refine ev_intro rfl (nb rfl) rfl ?_
  refine g_aload_n (pc := 0) dX7_isSymmetric_0 rfl trivial ?_
  refine g_iload_n (pc := 1) dX7_isSymmetric_1 rfl ?_
  refine g_invS_r (pc := 2) (As := [_]) dX7_isSymmetric_2 rfl (r_isSlot_f hx) rfl rfl lk_X7_216 rfl (nb rfl) ⟨nb rfl, nb rfl⟩ rfl ?_
  refine g_iconst (pc := 5) (v := 1) dX7_isSymmetric_5 rfl ?_
  refine g_invV_r (pc := 6) (As := [_, _]) dX7_isSymmetric_6 rfl (r_isThrown_1 hS) rfl rfl (shK hS rfl) rfl rfl lk_X7_209 rfl (nb rfl) ⟨nb rfl, nb rfl⟩ rfl ?_
  refine g_if_eq (pc := 9) (tgt := 14) dX7_isSymmetric_9 rfl (fun h9 => absurd h9 ((by decide))) (fun _ => ?_)
  refine g_iconst (pc := 12) (v := 0) dX7_isSymmetric_12 rfl ?_
  refine g_ireturn (pc := 13) dX7_isSymmetric_13 rfl rfl ?_
  exact ⟨rfl, rfl⟩
/-- rows of ints as longs -/
def uR (f : Nat → Int32) : Nat → Int64 := fun i => uL (f i)
theorem Rr.sL {x : Nat} {g : Nat → Int64} (h : Rr M n A) (hx : x ≠ 199) : Rr (sL M x g) n A := ⟨h.1, by rw [sL_ne (Ne.symm hx)]; exact h.2.1, h.2.2.1, h.2.2.2.1, fun s r hs hr => by rw [sL_ne (Ne.symm hx)]; exact h.2.2.2.2 s r hs hr⟩
theorem wr_wr {α : Type} (f x y : Nat → α) (i : Nat) : wr (wr f x i) y i = wr f y i := by funext k; simp only [wr]; split <;> rfl
theorem wr_set {g : Nat → Int64} {F : Nat → Int32} {i : Nat} {v : Int32} (hi : i < n) : fun_set (wr g (uR F) n) i (uL v) = wr g (uR (fun_set F i v)) n := by
  funext k
  simp only [fun_set, wr, uR]
  by_cases h : k = i
  · subst h; simp [hi]
  · simp [h]
/-- one of the arrays at hand -/
def isH (x : Nat) : Prop := x = 205 ∨ x = 206 ∨ x = 207
theorem isH.ne {x : Nat} (h : isH x) : x ≠ 199 := by rcases h with rfl | rfl | rfl <;> decide
theorem isH.k {x : Nat} (h : isH x) : LAY[x]? = some (kL 32) := by rcases h with rfl | rfl | rfl <;> rfl
/-- array x holds rows -/
def hdM (M : Mem) (x n : Nat) (f : Nat → Int32) : Mem := sL M x (wr (mL M x) (uR f) n)
theorem hdM_2 {x : Nat} {f g : Nat → Int32} : hdM (hdM M x n f) x n g = hdM M x n g := by unfold hdM; rw [sL_self, sL_2, wr_wr]
theorem hdM_at {x i : Nat} {f : Nat → Int32} (hi : i < n) : mL (hdM M x n f) x i = uL (f i) := by unfold hdM; rw [sL_self, wr_lt hi]; rfl
theorem hdM_ne {x y : Nat} {f : Nat → Int32} (h : y ≠ x) : mL (hdM M x n f) y = mL M y := by unfold hdM; rw [sL_ne h]
theorem hdM_st {x i : Nat} {f : Nat → Int32} {v : Int32} (hi : i < n) : pL (hdM M x n f) x i (uL v) = hdM M x n (fun_set f i v) := by
  unfold hdM
  exact sL_st (wr_set hi)
theorem hdM_eq {x : Nat} {f : Nat → Int32} (h : ∀ i, i < n → mL M x i = uL (f i)) : M = hdM M x n f := by
  unfold hdM
  refine sL_eq ?_
  funext k
  simp only [wr, uR]
  split
  · rw [h k (by assumption)]
  · rfl
theorem Rr.hd {x : Nat} {f : Nat → Int32} (h : Rr M n A) (hx : isH x) : Rr (hdM M x n f) n A := h.sL hx.ne
theorem r_takes {s x : Nat} (h : Rr M n A) (hs : s < 6) (hx : isH x) : EvR l jX7_takes 1 30 0 0 [.ref 198, .int (nI s), .ref x] M (.inl none) (hdM M x n (A s)) := by
  have hn := h.2.2.2.1
  have hS := h.1
  refine ev_intro rfl (nb rfl) rfl ?_
  refine g_iconst (pc := 0) (v := 0) dX7_takes_0 rfl ?_
  refine g_istore_n (pc := 1) (lv' := [(0, _), (1, _), (2, _), (3, _)]) dX7_takes_1 (nl rfl) rfl ?_
  refine go_loop (pc := 2) n (fun i => [(0, .ref 198), (1, .int (nI s)), (2, .ref x), (3, .int (nI i))]) (fun i => sL M x (wr (mL M x) (uR (A s)) i)) ⟨rfl, rfl, rfl, rfl, trivial⟩ (sL_eq (wr_0 _ _)) ?_ ?_
  · intro i hi ih
    have h' := h.sL (g := wr (mL M x) (uR (A s)) i) hx.ne
    refine g_iload_n (pc := 2) dX7_takes_2 rfl ?_
    refine g_aload_n (pc := 3) dX7_takes_3 rfl trivial ?_
    refine g_invV_r (pc := 4) (As := []) dX7_takes_4 rfl (r_size h') rfl rfl (shK hS rfl) rfl rfl lk_X7_71 rfl (nb rfl) ⟨nb rfl, nb rfl⟩ rfl ?_
    refine g_icmp_ge (pc := 7) (tgt := 25) dX7_takes_7 rfl (fun h7 => absurd h7 (nI_ge hi (by omega))) (fun _ => ?_)
    refine g_aload_n (pc := 10) dX7_takes_10 rfl trivial ?_
    refine g_iload_n (pc := 11) dX7_takes_11 rfl ?_
    refine g_aload_n (pc := 12) dX7_takes_12 rfl trivial ?_
    refine g_iload_n (pc := 13) dX7_takes_13 rfl ?_
    refine g_iload_n (pc := 14) dX7_takes_14 rfl ?_
    refine g_invV_r (pc := 15) (As := [_, _]) dX7_takes_15 rfl (r_rowOf h' hs hi) rfl rfl (shK hS rfl) rfl rfl lk_X7_227 rfl (nb rfl) ⟨nb rfl, nb rfl⟩ rfl ?_
    refine g_lastore (pc := 18) dX7_takes_18 (shK hS hx.k) rfl (by omega) (nl rfl) ?_
    refine g_iinc (pc := 19) (lv' := [(0, _), (1, _), (2, _), (3, _)]) dX7_takes_19 rfl (nI_1 _) (nl rfl) rfl ?_
    refine g_goto (pc := 22) (tgt := 2) dX7_takes_22 rfl ?_
    exact go_cast (sL_st (wr_s _ (uR (A s)) i)) ih
  · have h' := h.sL (g := wr (mL M x) (uR (A s)) n) hx.ne
    refine g_iload_n (pc := 2) dX7_takes_2 rfl ?_
    refine g_aload_n (pc := 3) dX7_takes_3 rfl trivial ?_
    refine g_invV_r (pc := 4) (As := []) dX7_takes_4 rfl (r_size h') rfl rfl (shK hS rfl) rfl rfl lk_X7_71 rfl (nb rfl) ⟨nb rfl, nb rfl⟩ rfl ?_
    refine g_icmp_ge (pc := 7) (tgt := 25) dX7_takes_7 rfl (fun _ => ?_) (fun h7 => absurd (nI_le (Nat.le_refl _) (by omega)) h7)
    refine g_return (pc := 25) dX7_takes_25 rfl ?_
    exact ⟨rfl, rfl⟩
theorem fs_or0 (F : Nat → Int32) (i : Nat) : fun_set F i (F i ||| 0) = F := by
  have : F i ||| 0 = F i := hb_ext fun j _ => by rw [hb_or, hb_0, Bool.or_false]
  rw [this, fs_same]
theorem r_closes {x : Nat} {f : Nat → Int32} (h : Rr M n A) (hx : isH x) (hf : ∀ i, i < n → mL M x i = uL (f i)) : EvR l jX7_closes 1 30 0 0 [.ref 198, .ref x] M (.inl none) (hdM M x n (wOut f n n)) := by
  have hn := h.2.2.2.1
  have hS := h.1
  refine ev_intro rfl (nb rfl) rfl ?_
  refine g_iconst (pc := 0) (v := 0) dX7_closes_0 rfl ?_
  refine g_istore_n (pc := 1) (lv' := [(0, _), (1, _), (2, _)]) dX7_closes_1 (nl rfl) rfl ?_
  refine go_loop (pc := 2) n (fun m => [(0, .ref 198), (1, .ref x), (2, .int (nI m))]) (fun m => hdM M x n (wOut f n m)) ⟨rfl, rfl, rfl, trivial⟩ (hdM_eq hf) ?_ ?_
  · intro m hm ihm
    rw [wOut] at ihm
    generalize wOut f n m = g0 at ihm ⊢
    have h0 : Rr (hdM M x n g0) n A := h.hd hx
    refine g_iload_n (pc := 2) dX7_closes_2 rfl ?_
    refine g_aload_n (pc := 3) dX7_closes_3 rfl trivial ?_
    refine g_invV_r (pc := 4) (As := []) dX7_closes_4 rfl (r_size h0) rfl rfl (shK hS rfl) rfl rfl lk_X7_71 rfl (nb rfl) ⟨nb rfl, nb rfl⟩ rfl ?_
    refine g_icmp_ge (pc := 7) (tgt := 56) dX7_closes_7 rfl (fun h7 => absurd h7 (nI_ge hm (by omega))) (fun _ => ?_)
    refine g_iconst (pc := 10) (v := 0) dX7_closes_10 rfl ?_
    refine g_istore_n (pc := 11) (lv' := [(0, _), (1, _), (2, _), (3, _)]) dX7_closes_11 (nl rfl) rfl ?_
    refine go_loop (pc := 12) n (fun i => [(0, .ref 198), (1, .ref x), (2, .int (nI m)), (3, .int (nI i))]) (fun i => hdM M x n (wIn g0 m i)) ⟨rfl, rfl, rfl, rfl, trivial⟩ rfl ?_ ?_
    · intro i hi ih
      rw [wIn] at ih
      have h1 : Rr (hdM M x n (wIn g0 m i)) n A := h.hd hx
      have e1 := hdM_at (M := M) (x := x) (f := wIn g0 m i) hi
      have e2 := hdM_at (M := M) (x := x) (f := wIn g0 m i) hm
      have est := fun v => hdM_st (M := M) (x := x) (f := wIn g0 m i) (v := v) hi
      generalize wIn g0 m i = F at *
      cases hb9 : hb (F i) m with
      | true =>
        rw [hb9, if_pos rfl] at ih
        refine g_iload_n (pc := 12) dX7_closes_12 rfl ?_
        refine g_aload_n (pc := 13) dX7_closes_13 rfl trivial ?_
        refine g_invV_r (pc := 14) (As := []) dX7_closes_14 rfl (r_size h1) rfl rfl (shK hS rfl) rfl rfl lk_X7_71 rfl (nb rfl) ⟨nb rfl, nb rfl⟩ rfl ?_
        refine g_icmp_ge (pc := 17) (tgt := 50) dX7_closes_17 rfl (fun h17 => absurd h17 (nI_ge hi (by omega))) (fun _ => ?_)
        refine g_aload_n (pc := 20) dX7_closes_20 rfl trivial ?_
        refine g_iload_n (pc := 21) dX7_closes_21 rfl ?_
        refine g_dup2_11 (pc := 22) dX7_closes_22 rfl rfl ?_
        refine g_laload (pc := 23) dX7_closes_23 (shK h1.1 hx.k) rfl (by omega) (nl rfl) ?_
        rw [e1]
        refine g_aload_n (pc := 24) dX7_closes_24 rfl trivial ?_
        refine g_iload_n (pc := 25) dX7_closes_25 rfl ?_
        refine g_laload (pc := 26) dX7_closes_26 (shK h1.1 hx.k) rfl (by omega) (nl rfl) ?_
        rw [e1]
        refine g_iload_n (pc := 27) dX7_closes_27 rfl ?_
        refine g_invS_r (pc := 28) (As := [_, _]) dX7_closes_28 rfl (r_one (by omega)) rfl rfl lk_X7_231 rfl (nb rfl) ⟨nb rfl, nb rfl⟩ rfl ?_
        rw [hb9]
        refine g_iconst (pc := 31) (v := 1) dX7_closes_31 rfl ?_
        refine g_icmp_ne (pc := 32) (tgt := 41) dX7_closes_32 rfl (fun h32 => absurd h32 ((fun q => q rfl))) (fun _ => ?_)
        refine g_aload_n (pc := 35) dX7_closes_35 rfl trivial ?_
        refine g_iload_n (pc := 36) dX7_closes_36 rfl ?_
        refine g_laload (pc := 37) dX7_closes_37 (shK h1.1 hx.k) rfl (by omega) (nl rfl) ?_
        rw [e2]
        refine g_goto (pc := 38) (tgt := 42) dX7_closes_38 rfl ?_
        refine g_lor (pc := 42) dX7_closes_42 ?_
        rw [uL_or]
        refine g_lastore (pc := 43) dX7_closes_43 (shK h1.1 hx.k) rfl (by omega) (nl rfl) ?_
        refine go_cast (est _) ?_
        refine g_iinc (pc := 44) (lv' := [(0, _), (1, _), (2, _), (3, _)]) dX7_closes_44 rfl (nI_1 _) (nl rfl) rfl ?_
        refine g_goto (pc := 47) (tgt := 12) dX7_closes_47 rfl ?_
        exact ih
      | false =>
        rw [hb9, if_neg (by decide)] at ih
        refine g_iload_n (pc := 12) dX7_closes_12 rfl ?_
        refine g_aload_n (pc := 13) dX7_closes_13 rfl trivial ?_
        refine g_invV_r (pc := 14) (As := []) dX7_closes_14 rfl (r_size h1) rfl rfl (shK hS rfl) rfl rfl lk_X7_71 rfl (nb rfl) ⟨nb rfl, nb rfl⟩ rfl ?_
        refine g_icmp_ge (pc := 17) (tgt := 50) dX7_closes_17 rfl (fun h17 => absurd h17 (nI_ge hi (by omega))) (fun _ => ?_)
        refine g_aload_n (pc := 20) dX7_closes_20 rfl trivial ?_
        refine g_iload_n (pc := 21) dX7_closes_21 rfl ?_
        refine g_dup2_11 (pc := 22) dX7_closes_22 rfl rfl ?_
        refine g_laload (pc := 23) dX7_closes_23 (shK h1.1 hx.k) rfl (by omega) (nl rfl) ?_
        rw [e1]
        refine g_aload_n (pc := 24) dX7_closes_24 rfl trivial ?_
        refine g_iload_n (pc := 25) dX7_closes_25 rfl ?_
        refine g_laload (pc := 26) dX7_closes_26 (shK h1.1 hx.k) rfl (by omega) (nl rfl) ?_
        rw [e1]
        refine g_iload_n (pc := 27) dX7_closes_27 rfl ?_
        refine g_invS_r (pc := 28) (As := [_, _]) dX7_closes_28 rfl (r_one (by omega)) rfl rfl lk_X7_231 rfl (nb rfl) ⟨nb rfl, nb rfl⟩ rfl ?_
        rw [hb9]
        refine g_iconst (pc := 31) (v := 1) dX7_closes_31 rfl ?_
        refine g_icmp_ne (pc := 32) (tgt := 41) dX7_closes_32 rfl (fun _ => ?_) (fun h32 => absurd ((by decide)) h32)
        refine g_lconst (pc := 41) (v := 0) dX7_closes_41 rfl ?_
        refine g_lor (pc := 42) dX7_closes_42 ?_
        rw [← uL_0, uL_or]
        refine g_lastore (pc := 43) dX7_closes_43 (shK h1.1 hx.k) rfl (by omega) (nl rfl) ?_
        refine go_cast (est _) ?_
        rw [fs_or0]
        refine g_iinc (pc := 44) (lv' := [(0, _), (1, _), (2, _), (3, _)]) dX7_closes_44 rfl (nI_1 _) (nl rfl) rfl ?_
        refine g_goto (pc := 47) (tgt := 12) dX7_closes_47 rfl ?_
        exact ih
    · have h1 : Rr (hdM M x n (wIn g0 m n)) n A := h.hd hx
      refine g_iload_n (pc := 12) dX7_closes_12 rfl ?_
      refine g_aload_n (pc := 13) dX7_closes_13 rfl trivial ?_
      refine g_invV_r (pc := 14) (As := []) dX7_closes_14 rfl (r_size h1) rfl rfl (shK hS rfl) rfl rfl lk_X7_71 rfl (nb rfl) ⟨nb rfl, nb rfl⟩ rfl ?_
      refine g_icmp_ge (pc := 17) (tgt := 50) dX7_closes_17 rfl (fun _ => ?_) (fun h17 => absurd (nI_le (Nat.le_refl _) (by omega)) h17)
      refine g_iinc (pc := 50) (lv' := [(0, _), (1, _), (2, _), (3, _)]) dX7_closes_50 rfl (nI_1 _) (nl rfl) rfl ?_
      refine g_goto (pc := 53) (tgt := 2) dX7_closes_53 rfl ?_
      exact g_sub (lv' := [(0, _), (1, _), (2, _)]) ⟨rfl, rfl, rfl, trivial⟩ ihm
  · have h0 : Rr (hdM M x n (wOut f n n)) n A := h.hd hx
    refine g_iload_n (pc := 2) dX7_closes_2 rfl ?_
    refine g_aload_n (pc := 3) dX7_closes_3 rfl trivial ?_
    refine g_invV_r (pc := 4) (As := []) dX7_closes_4 rfl (r_size h0) rfl rfl (shK hS rfl) rfl rfl lk_X7_71 rfl (nb rfl) ⟨nb rfl, nb rfl⟩ rfl ?_
    refine g_icmp_ge (pc := 7) (tgt := 56) dX7_closes_7 rfl (fun _ => ?_) (fun h7 => absurd (nI_le (Nat.le_refl _) (by omega)) h7)
    refine g_return (pc := 56) dX7_closes_56 rfl ?_
    exact ⟨rfl, rfl⟩
theorem r_closure {s : Nat} (h : Rr M n A) (hs : s < 6) : EvR l jX7_closure 2 60 0 0 [.ref 198, .int (nI s)] M (.inl none) (hdM M 205 n (wOut (A s) n n)) := by
  have hS := h.1
  have h1 : Rr (hdM M 205 n (A s)) n A := h.hd (Or.inl rfl)
  rw [← hdM_2 (f := A s)]
  refine ev_intro rfl (nb rfl) rfl ?_
  refine g_aload_n (pc := 0) dX7_closure_0 rfl trivial ?_
  refine g_iload_n (pc := 1) dX7_closure_1 rfl ?_
  refine g_aload_n (pc := 2) dX7_closure_2 rfl trivial ?_
  refine g_getf (pc := 3) dX7_closure_3 fk_X7_34 (shK hS rfl) (fv_arr (shR hS rfl)) ?_
  refine g_invV_r (pc := 6) (As := [_, _]) dX7_closure_6 rfl (r_takes h hs (Or.inl rfl)) rfl rfl (shK hS rfl) rfl rfl lk_X7_252 rfl (nb rfl) ⟨nb rfl, nb rfl⟩ rfl ?_
  refine g_aload_n (pc := 9) dX7_closure_9 rfl trivial ?_
  refine g_aload_n (pc := 10) dX7_closure_10 rfl trivial ?_
  refine g_getf (pc := 11) dX7_closure_11 fk_X7_34 (shK h1.1 rfl) (fv_arr (shR h1.1 rfl)) ?_
  refine g_invV_r (pc := 14) (As := [_]) dX7_closure_14 rfl (r_closes h1 (Or.inl rfl) (fun i hi => hdM_at hi)) rfl rfl (shK h1.1 rfl) rfl rfl lk_X7_256 rfl (nb rfl) ⟨nb rfl, nb rfl⟩ rfl ?_
  refine g_return (pc := 17) dX7_closure_17 rfl ?_
  exact ⟨rfl, rfl⟩
theorem r_sumOf {x : Nat} {f : Nat → Int32} (h : Rr M n A) (hx : isH x) (hf : ∀ i, i < n → mL M x i = uL (f i)) : EvR l jX7_sumOf 1 30 0 0 [.ref 198, .ref x] M (.inl (some (.int (onesF f n)))) M := by
  have hn := h.2.2.2.1
  have hS := h.1
  refine ev_intro rfl (nb rfl) rfl ?_
  refine g_iconst (pc := 0) (v := 0) dX7_sumOf_0 rfl ?_
  refine g_istore_n (pc := 1) (lv' := [(0, _), (1, _), (2, _)]) dX7_sumOf_1 (nl rfl) rfl ?_
  refine g_iconst (pc := 2) (v := 0) dX7_sumOf_2 rfl ?_
  refine g_istore_n (pc := 3) (lv' := [(0, _), (1, _), (2, _), (3, _)]) dX7_sumOf_3 (nl rfl) rfl ?_
  refine go_loop (pc := 4) n (fun i => [(0, .ref 198), (1, .ref x), (2, .int (onesF f i)), (3, .int (nI i))]) (fun _ => M) ⟨rfl, rfl, rfl, rfl, trivial⟩ rfl ?_ ?_
  · intro i hi ih
    refine g_iload_n (pc := 4) dX7_sumOf_4 rfl ?_
    refine g_aload_n (pc := 5) dX7_sumOf_5 rfl trivial ?_
    refine g_invV_r (pc := 6) (As := []) dX7_sumOf_6 rfl (r_size h) rfl rfl (shK hS rfl) rfl rfl lk_X7_71 rfl (nb rfl) ⟨nb rfl, nb rfl⟩ rfl ?_
    refine g_icmp_ge (pc := 9) (tgt := 27) dX7_sumOf_9 rfl (fun h9 => absurd h9 (nI_ge hi (by omega))) (fun _ => ?_)
    refine g_iload_n (pc := 12) dX7_sumOf_12 rfl ?_
    refine g_aload_n (pc := 13) dX7_sumOf_13 rfl trivial ?_
    refine g_iload_n (pc := 14) dX7_sumOf_14 rfl ?_
    refine g_laload (pc := 15) dX7_sumOf_15 (shK hS hx.k) rfl (by omega) (nl rfl) ?_
    rw [hf i hi]
    refine g_invS_r (pc := 16) (As := [_]) dX7_sumOf_16 rfl (r_bitsOf) rfl rfl lk_X7_234 rfl (nb rfl) ⟨nb rfl, nb rfl⟩ rfl ?_
    refine g_iadd (pc := 19) dX7_sumOf_19 ?_
    refine g_istore_n (pc := 20) (lv' := [(0, _), (1, _), (2, _), (3, _)]) dX7_sumOf_20 (nl rfl) rfl ?_
    refine g_iinc (pc := 21) (lv' := [(0, _), (1, _), (2, _), (3, _)]) dX7_sumOf_21 rfl (nI_1 _) (nl rfl) rfl ?_
    refine g_goto (pc := 24) (tgt := 4) dX7_sumOf_24 rfl ?_
    exact ih
  · refine g_iload_n (pc := 4) dX7_sumOf_4 rfl ?_
    refine g_aload_n (pc := 5) dX7_sumOf_5 rfl trivial ?_
    refine g_invV_r (pc := 6) (As := []) dX7_sumOf_6 rfl (r_size h) rfl rfl (shK hS rfl) rfl rfl lk_X7_71 rfl (nb rfl) ⟨nb rfl, nb rfl⟩ rfl ?_
    refine g_icmp_ge (pc := 9) (tgt := 27) dX7_sumOf_9 rfl (fun _ => ?_) (fun h9 => absurd (nI_le (Nat.le_refl _) (by omega)) h9)
    refine g_iload_n (pc := 27) dX7_sumOf_27 rfl ?_
    refine g_ireturn (pc := 28) dX7_sumOf_28 rfl rfl ?_
    exact ⟨rfl, rfl⟩
end

