/-! what both answer of matrices of zeros -/
theorem z_sm : smF Z1 8 8 0 = true := by decide +kernel
theorem z_cn : ∀ c, c < 8 → bcJ (colOf Z1 c 8) = cnF Z1 c 8 := by decide +kernel
theorem z_ds : ∀ a, a < 8 → ∀ b, b < 8 → dsV Z1 a b 8 = (if a = b then 0 else -1) ∧ farF Z1 8 b 8 a = (if a = b then 0 else -1) := by decide +kernel
theorem z_ar : ∀ a, a < 8 → feF Z1 a 8 8 1 0 = -1 ∧ arF Z1 8 a 8 = -1 := by decide +kernel
theorem z_gi : giV Z1 8 8 = -1 ∧ grF Z1 8 8 = -1 := by decide +kernel
theorem z_gn : ∀ a, a < 8 → ∀ b, b < 8 → gainW Z1 (nodesTo Z1 a 8) b 8 = 1 := by decide +kernel
theorem wIn_id {g : Nat → Int32} {m : Nat} : ∀ {i : Nat}, (∀ x, x < i → hb (g x) m = true → g x ||| g m = g x) → wIn g m i = g
  | 0, _ => rfl
  | i + 1, h => by
    unfold wIn
    rw [wIn_id (fun x hx => h x (by omega))]
    split
    · rename_i h9
      rw [h i (by omega) h9]
      funext k
      unfold fun_set
      split
      · rename_i e
        rw [e]
      · rfl
    · rfl
theorem wO_id {g : Nat → Int32} {n : Nat} (h : ∀ x m, x < n → m < n → hb (g x) m = true → g x ||| g m = g x) : ∀ {k : Nat}, k ≤ n → wOut g n k = g
  | 0, _ => rfl
  | k + 1, hk => by
    unfold wOut
    rw [wO_id h (k := k) (by omega), wIn_id (fun x hx => h x k hx (by omega))]
theorem z_e1 : ∀ a, a < 8 → ∀ b, b < 8 → ∀ x, x < 8 → ∀ m, m < 8 → hb (tnF Z1 a b x) m = true → tnF Z1 a b x ||| tnF Z1 a b m = tnF Z1 a b x := by decide +kernel
theorem z_tn {a b : Nat} (ha : a < 8) (hb9 : b < 8) : wOut (tnF Z1 a b) 8 8 = tnF Z1 a b := wO_id (fun x m hx hm => z_e1 a ha b hb9 x hx m hm) (Nat.le_refl 8)
theorem z_pT0 : ∀ a, a < 8 → ∀ b, b < 8 → onesF (tnF Z1 a b) 8 = 1 ∧ dfF (tnF Z1 a b) Z1 8 = 1 := by decide +kernel
theorem z_pT {a b : Nat} (ha : a < 8) (hb9 : b < 8) : pTv Z1 8 a b = 1 := by
  unfold pTv
  rw [z_tn ha hb9, (z_pT0 a ha b hb9).1]
theorem z_pO : pOv Z1 8 = 0 := by
  unfold pOv
  rw [wO_z]
  decide +kernel
theorem z_bG {a k : Nat} (ha : a < 8) (hk : k < 8) : beG Z1 Z1 8 a k = 1 := by
  unfold beG
  rw [hb_0, if_neg (by decide), z_gn a ha k hk]
theorem z_bI1 {a : Nat} (ha : a < 8) {q : Int32 × Int32} (hq : q.2 = 1) : ∀ k, k ≤ 8 → beI Z1 Z1 8 a q k = q
  | 0, _ => rfl
  | k + 1, h => by
    unfold beI
    rw [z_bI1 ha hq k (by omega), z_bG ha (by omega), hq, if_pos (by decide)]
theorem z_bI0 : ∀ k, k < 8 → beI Z1 Z1 8 0 (-1, -1) (k + 1) = (0, 1)
  | 0, _ => by
    unfold beI
    rw [z_bG (by decide) (by decide)]
    show (if (1 : Int32) ≤ -1 then ((-1 : Int32), (-1 : Int32)) else (32 * nI 0 + nI 0, 1)) = (0, 1)
    rw [if_neg (by decide)]
    decide
  | k + 1, h => by
    rw [beI, z_bI0 k (by omega), z_bG (by decide) h]
    exact if_pos (by decide)
theorem z_bO : ∀ k, k < 8 → beO Z1 Z1 8 (k + 1) = (0, 1)
  | 0, _ => z_bI0 7 (by decide)
  | k + 1, h => by
    rw [beO, z_bO k (by omega)]
    exact z_bI1 (by omega) rfl 8 (Nat.le_refl 8)
theorem z_mV {k : Nat} (h1 : k / 32 < 8) (h2 : k % 32 < 8) : mtV Z1 8 k = 1 := by
  unfold mtV
  rw [z_pT h1 h2, z_pO]
  decide
theorem z_mC (k : Nat) : mtC Z1 8 false k = decide (k % 32 < 8) := by
  unfold mtC
  rw [hb_0]
  simp
theorem z_mS : ∀ k, k < 256 → mtS Z1 8 false (k + 1) = (0, 1)
  | 0, _ => by
    unfold mtS
    rw [z_mC, if_pos (by decide), z_mV (by decide) (by decide)]
    show (if (-1 : Int32) < 1 then nI 0 else -1, if (-1 : Int32) < 1 then (1 : Int32) else -1) = (0, 1)
    rw [if_pos (by decide), if_pos (by decide)]
    rfl
  | k + 1, h => by
    rw [mtS, z_mC, z_mS k (by omega)]
    split
    · rename_i h9
      have h2 : (k + 1) % 32 < 8 := of_decide_eq_true h9
      rw [z_mV (by omega) h2]
      show (if (1 : Int32) < 1 then nI (k + 1) else 0, if (1 : Int32) < 1 then (1 : Int32) else 1) = (0, 1)
      rw [if_neg (by decide), if_neg (by decide)]
    · rfl
theorem z_mT : ∀ k, mtS Z1 8 true k = (-1, -1)
  | 0 => rfl
  | k + 1 => by
    rw [mtS, z_mT k]
    have h : mtC Z1 8 true k = false := by
      unfold mtC
      rw [hb_0]
      simp
    rw [h]
    rfl
theorem z_wI {M : Mem} {s n a : Nat} (h : mI M (6 + 2 * s) = Z1) : ∀ k, wkI s n a (M, -1, -1) k = (M, -1, -1)
  | 0 => rfl
  | k + 1 => by
    unfold wkI
    rw [z_wI h k]
    have h1 : wkM M s n a k = M := by
      unfold wkM
      rw [h, hb_0, if_neg (by decide)]
    have h2 : wkL M s n a k = -1 := by
      unfold wkL
      rw [h, hb_0, if_neg (by decide)]
    show (wkM M s n a k, if wkL M s n a k ≤ -1 then ((-1 : Int32), (-1 : Int32)) else (32 * nI a + nI k, wkL M s n a k)) = _
    rw [h1, h2, if_pos (by decide)]
theorem z_wO {M : Mem} {s n : Nat} (h : mI M (6 + 2 * s) = Z1) : ∀ k, wkO M s n k = (M, -1, -1)
  | 0 => rfl
  | k + 1 => by
    unfold wkO
    rw [z_wO h k, z_wI h]
theorem z_rn {c : Nat} : ∀ d r, rnt Z1 c d r = none
  | 0, _ => rfl
  | d + 1, r => by
    unfold rnt
    rw [hb_0, if_neg (by decide), z_rn d]
theorem z_el {n : Nat} {rt p : Nat → Int32} {q : Nat} : ∀ k, elIt n (Z1, rt, p, q) k = (Z1, rt, p, q)
  | 0 => rfl
  | k + 1 => by
    unfold elIt
    rw [z_el k]
    unfold elStep
    show (match rnt Z1 k (n - q) q with
      | none => _
      | some r => _) = _
    rw [z_rn]
theorem sv_cg {s s' : ES} : ∀ {d r : Nat}, (∀ i, r ≤ i → i < r + d → s.2.1 i = s'.2.1 i) → solvB s d r = solvB s' d r
  | 0, _, _ => rfl
  | d + 1, r, h => by
    unfold solvB
    rw [h r (Nat.le_refl r) (by omega), sv_cg (fun i h1 h2 => h i (by omega) (by omega))]
theorem on_cg {f g : Nat → Int32} : ∀ {n : Nat}, (∀ r, r < n → f r = g r) → onesF f n = onesF g n
  | 0, _ => rfl
  | n + 1, h => by
    unfold onesF
    rw [on_cg (fun r hr => h r (by omega)), h n (by omega)]
theorem stV_eq {R : Mem} {r t n : Nat} (ht : t < 6) : stV R r t n = onesF (mI R r) n := by
  unfold stV storeM
  rw [noteM_ne (by omega) (by omega), sI_self]
  exact on_cg (fun i hi => wr_lt hi)
theorem mk_V {R : Mem} {f : Nat → Int32} {t n : Nat} (ht : t < 6) : stV (mkM R f n) 195 t n = onesF f n := by
  rw [stV_eq ht]
  unfold mkM
  rw [sI_self]
  exact on_cg (fun i hi => wr_lt hi)
theorem z_dn {a n : Nat} : ∀ k, dnF Z1 a n k = Z1
  | 0 => rfl
  | k + 1 => by
    unfold dnF
    rw [z_dn k, hb_0, if_neg (by decide)]
theorem z_rd {n : Nat} : ∀ k, rdG Z1 n k = Z1
  | 0 => rfl
  | k + 1 => by
    unfold rdG
    rw [z_rd k, z_dn]
theorem z_rc {n : Nat} : ∀ k, rcF Z1 n k = Z1
  | 0 => rfl
  | k + 1 => by
    unfold rcF
    rw [z_rc k]
    have h : rcB Z1 n (k / n) (k % n) Z1 = false := by
      unfold rcB
      rw [hb_0]
      rfl
    rw [h]
    rfl
def cnt (K : Nat → Bool) : Nat → Nat
  | 0 => 0
  | k + 1 => cnt K k + (K k).toNat
theorem kc_ok {M : Mem} {K : Nat → Bool} : ∀ k, (∀ s, s < k → mI M (5 + 2 * s) 1 = b1 (K s)) → keptC M k = cnt K k
  | 0, _ => by rw [keptC.eq_1]; rfl
  | k + 1, h => by
    rw [keptC.eq_2, kc_ok k (fun s hs => h s (by omega)), h k (by omega)]
    show (if b1 (K k) = 0 then cnt K k else cnt K k + 1) = cnt K k + (K k).toNat
    cases K k
    · exact if_pos rfl
    · exact if_neg (by decide)
theorem km_ok {u : Nat → Int64} {K : Nat → Bool} : ∀ k, (∀ s, s < k → u (4 + s) = b1L (K s)) → kmI u k = nI (cnt K k)
  | 0, _ => rfl
  | k + 1, h => by
    show kmI u k + (u (4 + k)).toInt32 = nI (cnt K k + (K k).toNat)
    rw [km_ok k (fun s hs => h s (by omega)), h k (by omega)]
    cases K k
    · exact Int32.add_zero _
    · exact nI_o1 _
