section
variable {l : Launch} {M : Mem} {n p c : Nat}
theorem begMem_S {f : Int32} (hS : Shp M) : Shp (begMem M f) := hS
theorem begMem_3 {f : Int32} : mI (begMem M f) 187 3 = mI M 3 1 := by
  unfold begMem
  rw [pI_k (by decide), pI_k (by decide), pI_self]
theorem begMem_4 {f : Int32} : mI (begMem M f) 187 4 = mI M 3 2 := by
  unfold begMem
  rw [pI_k (by decide), pI_self]
theorem begMem_ne {f : Int32} {i : Nat} (h : i ≠ 187) : mI (begMem M f) i = mI M i := by
  unfold begMem
  rw [pI_i h, pI_i h, pI_i h]
theorem mulMem_S {ri : Nat} {s : PS} (hS : Shp M) : Shp (mulMem M ri s) := hS
theorem mulMem_ne {ri i : Nat} {s : PS} (h : i ≠ 187) (h1 : i ≠ 188) (h2 : i ≠ ri) : mI (mulMem M ri s) i = mI M i := by
  unfold mulMem
  rw [sI_ne h, sI_ne h2, sI_ne h1]
theorem workM_S (hS : Shp M) : Shp (workM M) := hS
theorem workM_1 : mI (workM M) 3 1 = mI M 3 1 := by unfold workM; rw [pI_k (by decide), pI_k (by decide)]
def prM (R : Mem) (a b n bl : Nat) (f : Int32) : Mem := workM (mulMem (begMem R f) 195 (mulEnd (begMem R f) n bl (6 + 2 * a) (6 + 2 * b) 195))
theorem u_product {a b t bl : Nat} {f : Int32} (hD : Dk M n p c) (hbl : mI M 3 2 = nI bl) (hb1 : 1 ≤ bl) (hb8 : bl ≤ 8) (ha : a < 6) (hb9 : b < 6) (ht : t < 6) (hf : k01 f) : EvR l jX6_product 7 140 3 18 [.ref 0, .int (nI a), .int (nI b), .int (nI t), .int f] M (.inl (some (.int (stV (prM (remM M p c) a b n bl f) 195 t n)))) (storeM (prM (remM M p c) a b n bl f) 195 t n) := by
  have hn := hD.2.2.1
  have hS1 := remM_S hD.1 p c
  have hz1 := d_z hD
  have hl1 : mI (remM M p c) 3 2 = nI bl := by rw [remM_ne hD.2.2.2.2.1 (by decide) (by decide)]; exact hbl
  have q1 := d_remember (l := l) hD
  unfold stV prM
  generalize remM M p c = R at *
  have q2 := s_begin (l := l) hS1 hf
  have hS2 := begMem_S (f := f) hS1
  have hz2 : mI (begMem R f) 187 3 = nI n := begMem_3.trans hz1
  have hl2 : mI (begMem R f) 187 4 = nI bl := begMem_4.trans hl1
  have hz3 : mI (begMem R f) 3 1 = nI n := (congrFun (begMem_ne (by decide)) 1).trans hz1
  generalize begMem R f = B at *
  have q3 := s_multiply (l := l) (ra := 6 + 2 * a) (rb := 6 + 2 * b) (ri := 195) hS2 hz2 hl2 hn hb1 hb8 (shK hS2 (rows_lay ha)) (shK hS2 (rows_lay hb9)) (shK hS2 rfl) (by omega) (by omega) (by omega) (by omega) (by decide) (by decide) (by omega) (by omega)
  generalize mulEnd B n bl (6 + 2 * a) (6 + 2 * b) 195 = e at *
  have hS3 := mulMem_S (ri := 195) (s := e) hS2
  have hz4 : mI (mulMem B 195 e) 3 1 = nI n := (congrFun (mulMem_ne (by decide) (by decide) (by decide)) 1).trans hz3
  generalize mulMem B 195 e = P at *
  have q4 := s_noteWork (l := l) hS3
  have hS4 := workM_S hS3
  have hz5 : mI (workM P) 3 1 = nI n := workM_1.trans hz4
  generalize workM P = W at *
  have q5 := s_store (l := l) (r := 195) (n := n) hS4 ht hz5 hn (shK hS4 rfl)
  refine ev_intro rfl (nb rfl) rfl ?_
  refine g_aload_n (pc := 0) dX6_product_0 rfl trivial ?_
  refine g_iload_n (pc := 1) dX6_product_1 rfl ?_
  refine g_invV_r (pc := 2) (As := [_]) dX6_product_2 rfl (s_needSlot (in6 ha)) rfl rfl (shK hD.1 rfl) rfl rfl lk_X6_141 rfl (nb rfl) ⟨nb rfl, nb rfl⟩ rfl ?_
  refine g_aload_n (pc := 5) dX6_product_5 rfl trivial ?_
  refine g_iload_n (pc := 6) dX6_product_6 rfl ?_
  refine g_invV_r (pc := 7) (As := [_]) dX6_product_7 rfl (s_needSlot (in6 hb9)) rfl rfl (shK hD.1 rfl) rfl rfl lk_X6_141 rfl (nb rfl) ⟨nb rfl, nb rfl⟩ rfl ?_
  refine g_aload_n (pc := 10) dX6_product_10 rfl trivial ?_
  refine g_iload_n (pc := 11) dX6_product_11 rfl ?_
  refine g_invV_r (pc := 12) (As := [_]) dX6_product_12 rfl (s_needSlot (in6 ht)) rfl rfl (shK hD.1 rfl) rfl rfl lk_X6_141 rfl (nb rfl) ⟨nb rfl, nb rfl⟩ rfl ?_
  refine g_aload_n (pc := 15) dX6_product_15 rfl trivial ?_
  refine g_invV_r (pc := 16) (As := []) dX6_product_16 rfl (q1) rfl rfl (shK hD.1 rfl) rfl rfl lk_X6_222 rfl (nb rfl) ⟨nb rfl, nb rfl⟩ rfl ?_
  refine g_aload_n (pc := 19) dX6_product_19 rfl trivial ?_
  refine g_getf (pc := 20) dX6_product_20 fk_X6_47 (shK hS1 rfl) (fv_obj (shR hS1 rfl)) ?_
  refine g_aload_n (pc := 23) dX6_product_23 rfl trivial ?_
  refine g_getf (pc := 24) dX6_product_24 fk_X6_19 (shK hS1 rfl) (fv_obj (shR hS1 rfl)) ?_
  refine g_iload (pc := 27) dX6_product_27 rfl ?_
  refine g_invV_r (pc := 29) (As := [_, _]) dX6_product_29 rfl (q2) rfl rfl (shK hS1 rfl) rfl rfl lk_X6_253 rfl (nb rfl) ⟨nb rfl, nb rfl⟩ rfl ?_
  refine g_aload_n (pc := 32) dX6_product_32 rfl trivial ?_
  refine g_getf (pc := 33) dX6_product_33 fk_X6_47 (shK hS2 rfl) (fv_obj (shR hS2 rfl)) ?_
  refine g_aload_n (pc := 36) dX6_product_36 rfl trivial ?_
  refine g_iload_n (pc := 37) dX6_product_37 rfl ?_
  refine g_invV_r (pc := 38) (As := [_]) dX6_product_38 rfl (s_rowsOf hS2 ha) rfl rfl (shK hS2 rfl) rfl rfl lk_X6_112 rfl (nb rfl) ⟨nb rfl, nb rfl⟩ rfl ?_
  refine g_aload_n (pc := 41) dX6_product_41 rfl trivial ?_
  refine g_iload_n (pc := 42) dX6_product_42 rfl ?_
  refine g_invV_r (pc := 43) (As := [_]) dX6_product_43 rfl (s_rowsOf hS2 hb9) rfl rfl (shK hS2 rfl) rfl rfl lk_X6_112 rfl (nb rfl) ⟨nb rfl, nb rfl⟩ rfl ?_
  refine g_aload_n (pc := 46) dX6_product_46 rfl trivial ?_
  refine g_getf (pc := 47) dX6_product_47 fk_X6_58 (shK hS2 rfl) (fv_arr (shR hS2 rfl)) ?_
  refine g_invV_r (pc := 50) (As := [_, _, _]) dX6_product_50 rfl (q3) rfl rfl (shK hS2 rfl) rfl rfl lk_X6_257 rfl (nb rfl) ⟨nb rfl, nb rfl⟩ rfl ?_
  refine g_aload_n (pc := 53) dX6_product_53 rfl trivial ?_
  refine g_invV_r (pc := 54) (As := []) dX6_product_54 rfl (q4) rfl rfl (shK hS3 rfl) rfl rfl lk_X6_261 rfl (nb rfl) ⟨nb rfl, nb rfl⟩ rfl ?_
  refine g_aload_n (pc := 57) dX6_product_57 rfl trivial ?_
  refine g_aload_n (pc := 58) dX6_product_58 rfl trivial ?_
  refine g_getf (pc := 59) dX6_product_59 fk_X6_58 (shK hS4 rfl) (fv_arr (shR hS4 rfl)) ?_
  refine g_iload_n (pc := 62) dX6_product_62 rfl ?_
  refine g_invV_r (pc := 63) (As := [_, _]) dX6_product_63 rfl (q5) rfl rfl (shK hS4 rfl) rfl rfl lk_X6_247 rfl (nb rfl) ⟨nb rfl, nb rfl⟩ rfl ?_
  refine g_ireturn (pc := 66) dX6_product_66 rfl rfl ?_
  exact ⟨rfl, rfl⟩
theorem rsMem_S {s : RS} (hS : Shp M) : Shp (rsMem M s) := hS
theorem rsMem_ne {i : Nat} {s : RS} (h : i < 187 ∨ 190 < i) : mI (rsMem M s) i = mI M i := by
  unfold rsMem
  rw [sI_ne (by omega), sI_ne (by omega), sI_ne (by omega), sI_ne (by omega)]
def pwE (R : Mem) (s n bl : Nat) (f x : Int32) : RS := raiseEnd (begMem R f) n bl (6 + 2 * s) x
def pwM (R : Mem) (s n bl : Nat) (f x : Int32) : Mem := if 0 < x then workM (rsMem (begMem R f) (pwE R s n bl f x)) else rsMem (begMem R f) (pwE R s n bl f x)
theorem u_power {s t bl : Nat} {f x : Int32} (hD : Dk M n p c) (hbl : mI M 3 2 = nI bl) (hb1 : 1 ≤ bl) (hb8 : bl ≤ 8) (hs : s < 6) (ht : t < 6) (hf : k01 f) (h0 : ¬ x < 0) (h1 : x ≤ 1000000) : EvR l jX6_power 7 140 4 24 [.ref 0, .int (nI s), .int x, .int (nI t), .int f] M (.inl (some (.int (stV (pwM (remM M p c) s n bl f x) (rsP (pwE (remM M p c) s n bl f x)) t n)))) (storeM (pwM (remM M p c) s n bl f x) (rsP (pwE (remM M p c) s n bl f x)) t n) := by
  have hn := hD.2.2.1
  have hS1 := remM_S hD.1 p c
  have hz1 := d_z hD
  have hl1 : mI (remM M p c) 3 2 = nI bl := by rw [remM_ne hD.2.2.2.2.1 (by decide) (by decide)]; exact hbl
  have q1 := d_remember (l := l) hD
  unfold stV pwM pwE
  generalize remM M p c = R at *
  have q2 := s_begin (l := l) hS1 hf
  have hS2 := begMem_S (f := f) hS1
  have hz2 : mI (begMem R f) 187 3 = nI n := begMem_3.trans hz1
  have hl2 : mI (begMem R f) 187 4 = nI bl := begMem_4.trans hl1
  have hz3 : mI (begMem R f) 3 1 = nI n := (congrFun (begMem_ne (by decide)) 1).trans hz1
  generalize begMem R f = B at *
  have q3 := s_raise (l := l) (rb := 6 + 2 * s) (x := x) hS2 hz2 hl2 hn hb1 hb8 (shK hS2 (rows_lay hs)) (by omega) (by omega) (by omega) (by omega)
  generalize raiseEnd B n bl (6 + 2 * s) x = e at *
  have hS3 := rsMem_S (s := e) hS2
  have hz4 : mI (rsMem B e) 3 1 = nI n := (congrFun (rsMem_ne (by decide)) 1).trans hz3
  have hr := (rs_ids e).1
  generalize rsMem B e = P at *
  generalize rsP e = r at *
  have q4 := s_noteWork (l := l) hS3
  have hS4 := workM_S hS3
  have hz5 : mI (workM P) 3 1 = nI n := workM_1.trans hz4
  have hkr : ∀ {Z : Mem}, Shp Z → (mK Z)[r]? = some (kI 32) := fun {Z} hZ => by
    rcases hr with rfl | rfl
    · exact shK hZ rfl
    · exact shK hZ rfl
  have q5 := s_store (l := l) (r := r) (n := n) hS4 ht hz5 hn (hkr hS4)
  have q6 := s_store (l := l) (r := r) (n := n) hS3 ht hz4 hn (hkr hS3)
  generalize workM P = W at *
  refine ev_intro rfl (nb rfl) rfl ?_
  refine g_aload_n (pc := 0) dX6_power_0 rfl trivial ?_
  refine g_iload_n (pc := 1) dX6_power_1 rfl ?_
  refine g_invV_r (pc := 2) (As := [_]) dX6_power_2 rfl (s_needSlot (in6 hs)) rfl rfl (shK hD.1 rfl) rfl rfl lk_X6_141 rfl (nb rfl) ⟨nb rfl, nb rfl⟩ rfl ?_
  refine g_aload_n (pc := 5) dX6_power_5 rfl trivial ?_
  refine g_iload_n (pc := 6) dX6_power_6 rfl ?_
  refine g_invV_r (pc := 7) (As := [_]) dX6_power_7 rfl (s_needSlot (in6 ht)) rfl rfl (shK hD.1 rfl) rfl rfl lk_X6_141 rfl (nb rfl) ⟨nb rfl, nb rfl⟩ rfl ?_
  refine g_aload_n (pc := 10) dX6_power_10 rfl trivial ?_
  refine g_iload_n (pc := 11) dX6_power_11 rfl ?_
  refine g_iconst (pc := 12) (v := 0) dX6_power_12 rfl ?_
  refine g_ldcw (pc := 13) dX6_power_13 wd_1110 ?_
  refine g_invV_r (pc := 16) (As := [_, _, _]) dX6_power_16 rfl (s_needRange h0 h1) rfl rfl (shK hD.1 rfl) rfl rfl lk_X6_95 rfl (nb rfl) ⟨nb rfl, nb rfl⟩ rfl ?_
  refine g_aload_n (pc := 19) dX6_power_19 rfl trivial ?_
  refine g_invV_r (pc := 20) (As := []) dX6_power_20 rfl (q1) rfl rfl (shK hD.1 rfl) rfl rfl lk_X6_222 rfl (nb rfl) ⟨nb rfl, nb rfl⟩ rfl ?_
  refine g_aload_n (pc := 23) dX6_power_23 rfl trivial ?_
  refine g_getf (pc := 24) dX6_power_24 fk_X6_47 (shK hS1 rfl) (fv_obj (shR hS1 rfl)) ?_
  refine g_aload_n (pc := 27) dX6_power_27 rfl trivial ?_
  refine g_getf (pc := 28) dX6_power_28 fk_X6_19 (shK hS1 rfl) (fv_obj (shR hS1 rfl)) ?_
  refine g_iload (pc := 31) dX6_power_31 rfl ?_
  refine g_invV_r (pc := 33) (As := [_, _]) dX6_power_33 rfl (q2) rfl rfl (shK hS1 rfl) rfl rfl lk_X6_253 rfl (nb rfl) ⟨nb rfl, nb rfl⟩ rfl ?_
  refine g_aload_n (pc := 36) dX6_power_36 rfl trivial ?_
  refine g_getf (pc := 37) dX6_power_37 fk_X6_47 (shK hS2 rfl) (fv_obj (shR hS2 rfl)) ?_
  refine g_aload_n (pc := 40) dX6_power_40 rfl trivial ?_
  refine g_iload_n (pc := 41) dX6_power_41 rfl ?_
  refine g_invV_r (pc := 42) (As := [_]) dX6_power_42 rfl (s_rowsOf hS2 hs) rfl rfl (shK hS2 rfl) rfl rfl lk_X6_112 rfl (nb rfl) ⟨nb rfl, nb rfl⟩ rfl ?_
  refine g_iload_n (pc := 45) dX6_power_45 rfl ?_
  refine g_invV_r (pc := 46) (As := [_, _]) dX6_power_46 rfl (q3) rfl rfl (shK hS2 rfl) rfl rfl lk_X6_265 rfl (nb rfl) ⟨nb rfl, nb rfl⟩ rfl ?_
  refine g_astore (pc := 49) (lv' := [(0, _), (1, _), (2, _), (3, _), (4, _), (5, _)]) dX6_power_49 trivial (nl rfl) rfl ?_
  refine g_iload_n (pc := 51) dX6_power_51 rfl ?_
  refine g_if_le (pc := 52) (tgt := 59) dX6_power_52 rfl (fun h52 => ?_) (fun h52 => ?_)
  · rw [if_neg (Int32.not_lt.mpr h52)]
    refine g_aload_n (pc := 59) dX6_power_59 rfl trivial ?_
    refine g_aload (pc := 60) dX6_power_60 rfl trivial ?_
    refine g_iload_n (pc := 62) dX6_power_62 rfl ?_
    refine g_invV_r (pc := 63) (As := [_, _]) dX6_power_63 rfl (q6) rfl rfl (shK hS3 rfl) rfl rfl lk_X6_247 rfl (nb rfl) ⟨nb rfl, nb rfl⟩ rfl ?_
    refine g_ireturn (pc := 66) dX6_power_66 rfl rfl ?_
    exact ⟨rfl, rfl⟩
  · rw [if_pos (Int32.not_le.mp h52)]
    refine g_aload_n (pc := 55) dX6_power_55 rfl trivial ?_
    refine g_invV_r (pc := 56) (As := []) dX6_power_56 rfl (q4) rfl rfl (shK hS3 rfl) rfl rfl lk_X6_261 rfl (nb rfl) ⟨nb rfl, nb rfl⟩ rfl ?_
    refine g_aload_n (pc := 59) dX6_power_59 rfl trivial ?_
    refine g_aload (pc := 60) dX6_power_60 rfl trivial ?_
    refine g_iload_n (pc := 62) dX6_power_62 rfl ?_
    refine g_invV_r (pc := 63) (As := [_, _]) dX6_power_63 rfl (q5) rfl rfl (shK hS4 rfl) rfl rfl lk_X6_247 rfl (nb rfl) ⟨nb rfl, nb rfl⟩ rfl ?_
    refine g_ireturn (pc := 66) dX6_power_66 rfl rfl ?_
    exact ⟨rfl, rfl⟩
end
