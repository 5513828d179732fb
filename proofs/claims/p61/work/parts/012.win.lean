/-! decoding by bytes -/
theorem u1_eq (c : ByteArray) (p : Nat) : (Jvm.ClassFile.Reader.u1 : Jvm.ClassFile.Decoder Nat) c p = match c.data.toList[p]? with
    | some b => .ok (b.toNat, p + 1)
    | none => .error (.truncated p) := by
  by_cases h : p < c.size
  · have e : c.data.toList[p]? = some c[p] := by
      rw [Array.getElem?_toList]
      exact Array.getElem?_eq_getElem h
    rw [e]
    show (dite (p < c.size) (fun h => _) (fun _ => _) : Jvm.ClassFile.Decoder Nat) c p = _
    rw [dif_pos h]
    rfl
  · have e : c.data.toList[p]? = none := by
      rw [Array.getElem?_toList]
      exact Array.getElem?_eq_none (Nat.not_lt.mp h)
    rw [e]
    show (dite (p < c.size) (fun h => _) (fun _ => _) : Jvm.ClassFile.Decoder Nat) c p = _
    rw [dif_neg h]
    rfl
/-- these bytes stand there -/
def Pc9 (c : ByteArray) (pc : Nat) (w : List UInt8) : Prop := ((c.data.toList.drop pc).take w.length) = w
theorem drp9 {L c r : List UInt8} {a : Nat} (b : Nat) (h : L.drop a = c ++ r) (hl : c.length = b) : L.drop (a + b) = r := by rw [← List.drop_drop, h, List.drop_left' hl]
theorem pc9 {c : ByteArray} {T l : List UInt8} {k j : Nat} (hD : c.data.toList.drop k = T) (h : (T.drop j).take l.length = l) : Pc9 c (k + j) l := by unfold Pc9; rw [← List.drop_drop, hD, h]
section
variable {c : ByteArray} {pc p : Nat}
theorem pc_at {l : List UInt8} {b : UInt8} (h : Pc9 c pc l) (i : Nat) (h2 : l[i]? = some b) : c.data.toList[pc + i]? = some b := by
  have h4 := h
  unfold Pc9 at h4
  rw [← h4, List.getElem?_take, List.getElem?_drop] at h2
  split at h2
  · exact h2
  · cases h2
theorem o_start {op n len : Nat} {b : UInt8} {ins : Jvm.ClassFile.Instr} {f : Nat → Jvm.ClassFile.Decoder Jvm.ClassFile.Instr} (hf : Jvm.ClassFile.Decoder.instr pc = (Jvm.ClassFile.Reader.u1 >>= f)) (h : c.data.toList[pc]? = some b) (e : b.toNat = op) (hr : f op c (pc + 1) = .ok (ins, n)) (hn : n = pc + len) : decode c pc = .ok (ins, len) := by
  have h1 : (Jvm.ClassFile.Decoder.instr pc) c pc = .ok (ins, n) := by
    rw [hf]
    show Except.bind ((Jvm.ClassFile.Reader.u1 : Jvm.ClassFile.Decoder Nat) c pc) _ = _
    rw [u1_eq, h]
    show f b.toNat c (pc + 1) = _
    rw [e]
    exact hr
  unfold decode
  show Except.bind ((Jvm.ClassFile.Decoder.instr pc) c pc) _ = _
  rw [h1, hn]
  show Except.ok (ins, pc + len - pc) = _
  rw [Nat.add_sub_cancel_left]
theorem by_1 {a : UInt8} (ha : c.data.toList[p]? = some a) : (Jvm.ClassFile.Reader.u1 : Jvm.ClassFile.Decoder Nat) c p = .ok (a.toNat, p + 1) := by rw [u1_eq, ha]
theorem by_2 {a b : UInt8} (ha : c.data.toList[p]? = some a) (hb9 : c.data.toList[p + 1]? = some b) : (Jvm.ClassFile.Reader.u2 : Jvm.ClassFile.Decoder Nat) c p = .ok (a.toNat * 256 + b.toNat, p + 2) := by
  show Except.bind ((Jvm.ClassFile.Reader.u1 : Jvm.ClassFile.Decoder Nat) c p) _ = _
  rw [by_1 ha]
  show Except.bind ((Jvm.ClassFile.Reader.u1 : Jvm.ClassFile.Decoder Nat) c (p + 1)) _ = _
  rw [by_1 hb9]
  rfl
theorem k_u1 {g : Nat → Jvm.ClassFile.Instr} {a : UInt8} {v : Nat} (ha : c.data.toList[p]? = some a) (e : a.toNat = v) : (Jvm.ClassFile.Reader.u1 >>= fun x => pure (g x) : Jvm.ClassFile.Decoder Jvm.ClassFile.Instr) c p = .ok (g v, p + 1) := by
  show Except.bind ((Jvm.ClassFile.Reader.u1 : Jvm.ClassFile.Decoder Nat) c p) _ = _
  rw [by_1 ha, e]
  rfl
theorem k_u2 {g : Nat → Jvm.ClassFile.Instr} {a b : UInt8} {v : Nat} (ha : c.data.toList[p]? = some a) (hb9 : c.data.toList[p + 1]? = some b) (e : a.toNat * 256 + b.toNat = v) : (Jvm.ClassFile.Reader.u2 >>= fun x => pure (g x) : Jvm.ClassFile.Decoder Jvm.ClassFile.Instr) c p = .ok (g v, p + 2) := by
  show Except.bind ((Jvm.ClassFile.Reader.u2 : Jvm.ClassFile.Decoder Nat) c p) _ = _
  rw [by_2 ha hb9, e]
  rfl
theorem by_s1 {a : UInt8} (ha : c.data.toList[p]? = some a) : (Jvm.ClassFile.Reader.s1 : Jvm.ClassFile.Decoder Int) c p = .ok (Jvm.ClassFile.Reader.signed 8 a.toNat, p + 1) := by
  show Except.map _ ((Jvm.ClassFile.Reader.u1 : Jvm.ClassFile.Decoder Nat) c p) = _
  rw [by_1 ha]
  rfl
theorem by_s2 {a b : UInt8} (ha : c.data.toList[p]? = some a) (hb9 : c.data.toList[p + 1]? = some b) : (Jvm.ClassFile.Reader.s2 : Jvm.ClassFile.Decoder Int) c p = .ok (Jvm.ClassFile.Reader.signed 16 (a.toNat * 256 + b.toNat), p + 2) := by
  show Except.map _ ((Jvm.ClassFile.Reader.u2 : Jvm.ClassFile.Decoder Nat) c p) = _
  rw [by_2 ha hb9]
  rfl
theorem k_s1 {g : Int → Jvm.ClassFile.Instr} {a : UInt8} {v : Int} (ha : c.data.toList[p]? = some a) (e : Jvm.ClassFile.Reader.signed 8 a.toNat = v) : (Jvm.ClassFile.Reader.s1 >>= fun x => pure (g x) : Jvm.ClassFile.Decoder Jvm.ClassFile.Instr) c p = .ok (g v, p + 1) := by
  show Except.bind ((Jvm.ClassFile.Reader.s1 : Jvm.ClassFile.Decoder Int) c p) _ = _
  rw [by_s1 ha, e]
  rfl
theorem k_s2 {g : Int → Jvm.ClassFile.Instr} {a b : UInt8} {v : Int} (ha : c.data.toList[p]? = some a) (hb9 : c.data.toList[p + 1]? = some b) (e : Jvm.ClassFile.Reader.signed 16 (a.toNat * 256 + b.toNat) = v) : (Jvm.ClassFile.Reader.s2 >>= fun x => pure (g x) : Jvm.ClassFile.Decoder Jvm.ClassFile.Instr) c p = .ok (g v, p + 2) := by
  show Except.bind ((Jvm.ClassFile.Reader.s2 : Jvm.ClassFile.Decoder Int) c p) _ = _
  rw [by_s2 ha hb9, e]
  rfl
theorem k_us {g : Nat → Int → Jvm.ClassFile.Instr} {a b : UInt8} {v : Nat} {w : Int} (ha : c.data.toList[p]? = some a) (hb9 : c.data.toList[p + 1]? = some b) (e : a.toNat = v) (e2 : Jvm.ClassFile.Reader.signed 8 b.toNat = w) : (Jvm.ClassFile.Reader.u1 >>= fun x => Jvm.ClassFile.Reader.s1 >>= fun y => pure (g x y) : Jvm.ClassFile.Decoder Jvm.ClassFile.Instr) c p = .ok (g v w, p + 2) := by
  show Except.bind ((Jvm.ClassFile.Reader.u1 : Jvm.ClassFile.Decoder Nat) c p) _ = _
  rw [by_1 ha, e]
  show Except.bind ((Jvm.ClassFile.Reader.s1 : Jvm.ClassFile.Decoder Int) c (p + 1)) _ = _
  rw [by_s1 hb9, e2]
  rfl
theorem op_42 (h : Pc9 c pc [42]) : decode c pc = .ok (.aload_n 0, 1) := o_start (op := 42) (f := _) rfl (pc_at h 0 rfl) rfl rfl rfl
theorem dw_0 (h : Pc9 c pc [42]) : decode c pc = .ok (.aload_n 0, 1) := op_42 h
theorem op_183 {a b : UInt8} {v : Nat} (h : Pc9 c pc [183, a, b]) (e : a.toNat * 256 + b.toNat = v) : decode c pc = .ok (.invokespecial v, 3) := o_start (op := 183) (f := _) rfl (pc_at h 0 rfl) rfl (k_u2 (g := fun x => .invokespecial x) (pc_at h 1 rfl) (pc_at h 2 rfl) e) rfl
theorem dw_1 (h : Pc9 c pc [183, 0, 3]) : decode c pc = .ok (.invokespecial 3, 3) := op_183 h rfl
theorem op_16 {a : UInt8} {v : Int} (h : Pc9 c pc [16, a]) (e : Jvm.ClassFile.Reader.signed 8 (a.toNat) = v) : decode c pc = .ok (.bipush v, 2) := o_start (op := 16) (f := _) rfl (pc_at h 0 rfl) rfl (k_s1 (g := fun x => .bipush x) (pc_at h 1 rfl) e) rfl
theorem dw_2 (h : Pc9 c pc [16, 32]) : decode c pc = .ok (.bipush 32, 2) := op_16 h (by decide +kernel)
theorem op_181 {a b : UInt8} {v : Nat} (h : Pc9 c pc [181, a, b]) (e : a.toNat * 256 + b.toNat = v) : decode c pc = .ok (.putfield v, 3) := o_start (op := 181) (f := _) rfl (pc_at h 0 rfl) rfl (k_u2 (g := fun x => .putfield x) (pc_at h 1 rfl) (pc_at h 2 rfl) e) rfl
theorem dw_3 (h : Pc9 c pc [181, 0, 9]) : decode c pc = .ok (.putfield 9, 3) := op_181 h rfl
theorem op_177 (h : Pc9 c pc [177]) : decode c pc = .ok (.return_, 1) := o_start (op := 177) (f := _) rfl (pc_at h 0 rfl) rfl rfl rfl
theorem dw_4 (h : Pc9 c pc [177]) : decode c pc = .ok (.return_, 1) := op_177 h
theorem op_43 (h : Pc9 c pc [43]) : decode c pc = .ok (.aload_n 1, 1) := o_start (op := 43) (f := _) rfl (pc_at h 0 rfl) rfl rfl rfl
theorem dw_5 (h : Pc9 c pc [43]) : decode c pc = .ok (.aload_n 1, 1) := op_43 h
theorem op_3 (h : Pc9 c pc [3]) : decode c pc = .ok (.iconst 0, 1) := o_start (op := 3) (f := _) rfl (pc_at h 0 rfl) rfl rfl rfl
theorem dw_6 (h : Pc9 c pc [3]) : decode c pc = .ok (.iconst 0, 1) := op_3 h
theorem op_180 {a b : UInt8} {v : Nat} (h : Pc9 c pc [180, a, b]) (e : a.toNat * 256 + b.toNat = v) : decode c pc = .ok (.getfield v, 3) := o_start (op := 180) (f := _) rfl (pc_at h 0 rfl) rfl (k_u2 (g := fun x => .getfield x) (pc_at h 1 rfl) (pc_at h 2 rfl) e) rfl
theorem dw_7 (h : Pc9 c pc [180, 0, 9]) : decode c pc = .ok (.getfield 9, 3) := op_180 h rfl
theorem op_28 (h : Pc9 c pc [28]) : decode c pc = .ok (.iload_n 2, 1) := o_start (op := 28) (f := _) rfl (pc_at h 0 rfl) rfl rfl rfl
theorem dw_8 (h : Pc9 c pc [28]) : decode c pc = .ok (.iload_n 2, 1) := op_28 h
theorem op_184 {a b : UInt8} {v : Nat} (h : Pc9 c pc [184, a, b]) (e : a.toNat * 256 + b.toNat = v) : decode c pc = .ok (.invokestatic v, 3) := o_start (op := 184) (f := _) rfl (pc_at h 0 rfl) rfl (k_u2 (g := fun x => .invokestatic x) (pc_at h 1 rfl) (pc_at h 2 rfl) e) rfl
theorem dw_9 (h : Pc9 c pc [184, 0, 15]) : decode c pc = .ok (.invokestatic 15, 3) := op_184 h rfl
theorem op_62 (h : Pc9 c pc [62]) : decode c pc = .ok (.istore_n 3, 1) := o_start (op := 62) (f := _) rfl (pc_at h 0 rfl) rfl rfl rfl
theorem dw_10 (h : Pc9 c pc [62]) : decode c pc = .ok (.istore_n 3, 1) := op_62 h
theorem op_29 (h : Pc9 c pc [29]) : decode c pc = .ok (.iload_n 3, 1) := o_start (op := 29) (f := _) rfl (pc_at h 0 rfl) rfl rfl rfl
theorem dw_11 (h : Pc9 c pc [29]) : decode c pc = .ok (.iload_n 3, 1) := op_29 h
theorem op_162 {a b : UInt8} {v : Int} (h : Pc9 c pc [162, a, b]) (e : Jvm.ClassFile.Reader.signed 16 (a.toNat * 256 + b.toNat) = v) : decode c pc = .ok (.if_icmp .ge v, 3) := o_start (op := 162) (f := _) rfl (pc_at h 0 rfl) rfl (k_s2 (g := fun x => .if_icmp .ge x) (pc_at h 1 rfl) (pc_at h 2 rfl) e) rfl
theorem dw_12 (h : Pc9 c pc [162, 0, 54]) : decode c pc = .ok (.if_icmp .ge 54, 3) := op_162 h (by decide +kernel)
theorem op_54 {a : UInt8} {v : Nat} (h : Pc9 c pc [54, a]) (e : a.toNat = v) : decode c pc = .ok (.istore v, 2) := o_start (op := 54) (f := _) rfl (pc_at h 0 rfl) rfl (k_u1 (g := fun x => .istore x) (pc_at h 1 rfl) e) rfl
theorem dw_13 (h : Pc9 c pc [54, 4]) : decode c pc = .ok (.istore 4, 2) := op_54 h rfl
theorem op_21 {a : UInt8} {v : Nat} (h : Pc9 c pc [21, a]) (e : a.toNat = v) : decode c pc = .ok (.iload v, 2) := o_start (op := 21) (f := _) rfl (pc_at h 0 rfl) rfl (k_u1 (g := fun x => .iload x) (pc_at h 1 rfl) e) rfl
theorem dw_14 (h : Pc9 c pc [21, 4]) : decode c pc = .ok (.iload 4, 2) := op_21 h rfl
theorem dw_15 (h : Pc9 c pc [162, 0, 39]) : decode c pc = .ok (.if_icmp .ge 39, 3) := op_162 h (by decide +kernel)
theorem op_46 (h : Pc9 c pc [46]) : decode c pc = .ok (.iaload, 1) := o_start (op := 46) (f := _) rfl (pc_at h 0 rfl) rfl rfl rfl
theorem dw_16 (h : Pc9 c pc [46]) : decode c pc = .ok (.iaload, 1) := op_46 h
theorem dw_17 (h : Pc9 c pc [184, 0, 21]) : decode c pc = .ok (.invokestatic 21, 3) := op_184 h rfl
theorem op_153 {a b : UInt8} {v : Int} (h : Pc9 c pc [153, a, b]) (e : Jvm.ClassFile.Reader.signed 16 (a.toNat * 256 + b.toNat) = v) : decode c pc = .ok (.ifCond .eq v, 3) := o_start (op := 153) (f := _) rfl (pc_at h 0 rfl) rfl (k_s2 (g := fun x => .ifCond .eq x) (pc_at h 1 rfl) (pc_at h 2 rfl) e) rfl
theorem dw_18 (h : Pc9 c pc [153, 0, 19]) : decode c pc = .ok (.ifCond .eq 19, 3) := op_153 h (by decide +kernel)
theorem op_92 (h : Pc9 c pc [92]) : decode c pc = .ok (.dup2, 1) := o_start (op := 92) (f := _) rfl (pc_at h 0 rfl) rfl rfl rfl
theorem dw_19 (h : Pc9 c pc [92]) : decode c pc = .ok (.dup2, 1) := op_92 h
theorem op_128 (h : Pc9 c pc [128]) : decode c pc = .ok (.ior, 1) := o_start (op := 128) (f := _) rfl (pc_at h 0 rfl) rfl rfl rfl
theorem dw_20 (h : Pc9 c pc [128]) : decode c pc = .ok (.ior, 1) := op_128 h
theorem op_79 (h : Pc9 c pc [79]) : decode c pc = .ok (.iastore, 1) := o_start (op := 79) (f := _) rfl (pc_at h 0 rfl) rfl rfl rfl
theorem dw_21 (h : Pc9 c pc [79]) : decode c pc = .ok (.iastore, 1) := op_79 h
theorem op_132 {a b : UInt8} {v : Nat} {w : Int} (h : Pc9 c pc [132, a, b]) (e : a.toNat = v) (e2 : Jvm.ClassFile.Reader.signed 8 b.toNat = w) : decode c pc = .ok (.iinc v w, 3) := o_start (op := 132) (f := _) rfl (pc_at h 0 rfl) rfl (k_us (g := fun x y => .iinc x y) (pc_at h 1 rfl) (pc_at h 2 rfl) e e2) rfl
theorem dw_22 (h : Pc9 c pc [132, 4, 1]) : decode c pc = .ok (.iinc 4 1, 3) := op_132 h rfl (by decide +kernel)
theorem op_167 {a b : UInt8} {v : Int} (h : Pc9 c pc [167, a, b]) (e : Jvm.ClassFile.Reader.signed 16 (a.toNat * 256 + b.toNat) = v) : decode c pc = .ok (.goto v, 3) := o_start (op := 167) (f := _) rfl (pc_at h 0 rfl) rfl (k_s2 (g := fun x => .goto x) (pc_at h 1 rfl) (pc_at h 2 rfl) e) rfl
theorem dw_23 (h : Pc9 c pc [167, 255, 217]) : decode c pc = .ok (.goto (-39), 3) := op_167 h (by decide +kernel)
theorem dw_24 (h : Pc9 c pc [132, 3, 1]) : decode c pc = .ok (.iinc 3 1, 3) := op_132 h rfl (by decide +kernel)
theorem dw_25 (h : Pc9 c pc [167, 255, 203]) : decode c pc = .ok (.goto (-53), 3) := op_167 h (by decide +kernel)
theorem op_4 (h : Pc9 c pc [4]) : decode c pc = .ok (.iconst 1, 1) := o_start (op := 4) (f := _) rfl (pc_at h 0 rfl) rfl rfl rfl
theorem dw_26 (h : Pc9 c pc [4]) : decode c pc = .ok (.iconst 1, 1) := op_4 h
theorem dw_27 (h : Pc9 c pc [181, 0, 25]) : decode c pc = .ok (.putfield 25, 3) := op_181 h rfl
theorem op_27 (h : Pc9 c pc [27]) : decode c pc = .ok (.iload_n 1, 1) := o_start (op := 27) (f := _) rfl (pc_at h 0 rfl) rfl rfl rfl
theorem dw_28 (h : Pc9 c pc [27]) : decode c pc = .ok (.iload_n 1, 1) := op_27 h
theorem dw_29 (h : Pc9 c pc [184, 0, 29]) : decode c pc = .ok (.invokestatic 29, 3) := op_184 h rfl
theorem op_120 (h : Pc9 c pc [120]) : decode c pc = .ok (.ishl, 1) := o_start (op := 120) (f := _) rfl (pc_at h 0 rfl) rfl rfl rfl
theorem dw_30 (h : Pc9 c pc [120]) : decode c pc = .ok (.ishl, 1) := op_120 h
theorem op_172 (h : Pc9 c pc [172]) : decode c pc = .ok (.ireturn, 1) := o_start (op := 172) (f := _) rfl (pc_at h 0 rfl) rfl rfl rfl
theorem dw_31 (h : Pc9 c pc [172]) : decode c pc = .ok (.ireturn, 1) := op_172 h
theorem dw_32 (h : Pc9 c pc [54, 5]) : decode c pc = .ok (.istore 5, 2) := op_54 h rfl
theorem dw_33 (h : Pc9 c pc [54, 6]) : decode c pc = .ok (.istore 6, 2) := op_54 h rfl
theorem dw_34 (h : Pc9 c pc [21, 6]) : decode c pc = .ok (.iload 6, 2) := op_21 h rfl
theorem dw_35 (h : Pc9 c pc [162, 0, 38]) : decode c pc = .ok (.if_icmp .ge 38, 3) := op_162 h (by decide +kernel)
theorem dw_36 (h : Pc9 c pc [153, 0, 23]) : decode c pc = .ok (.ifCond .eq 23, 3) := op_153 h (by decide +kernel)
theorem dw_37 (h : Pc9 c pc [21, 5]) : decode c pc = .ok (.iload 5, 2) := op_21 h rfl
theorem op_2 (h : Pc9 c pc [2]) : decode c pc = .ok (.iconst (-1), 1) := o_start (op := 2) (f := _) rfl (pc_at h 0 rfl) rfl rfl rfl
theorem dw_38 (h : Pc9 c pc [2]) : decode c pc = .ok (.iconst (-1), 1) := op_2 h
theorem op_130 (h : Pc9 c pc [130]) : decode c pc = .ok (.ixor, 1) := o_start (op := 130) (f := _) rfl (pc_at h 0 rfl) rfl rfl rfl
theorem dw_39 (h : Pc9 c pc [130]) : decode c pc = .ok (.ixor, 1) := op_130 h
theorem op_126 (h : Pc9 c pc [126]) : decode c pc = .ok (.iand, 1) := o_start (op := 126) (f := _) rfl (pc_at h 0 rfl) rfl rfl rfl
theorem dw_40 (h : Pc9 c pc [126]) : decode c pc = .ok (.iand, 1) := op_126 h
theorem dw_41 (h : Pc9 c pc [184, 0, 37]) : decode c pc = .ok (.invokestatic 37, 3) := op_184 h rfl
theorem op_96 (h : Pc9 c pc [96]) : decode c pc = .ok (.iadd, 1) := o_start (op := 96) (f := _) rfl (pc_at h 0 rfl) rfl rfl rfl
theorem dw_42 (h : Pc9 c pc [96]) : decode c pc = .ok (.iadd, 1) := op_96 h
theorem dw_43 (h : Pc9 c pc [132, 6, 1]) : decode c pc = .ok (.iinc 6 1, 3) := op_132 h rfl (by decide +kernel)
theorem dw_44 (h : Pc9 c pc [167, 255, 218]) : decode c pc = .ok (.goto (-38), 3) := op_167 h (by decide +kernel)
theorem op_182 {a b : UInt8} {v : Nat} (h : Pc9 c pc [182, a, b]) (e : a.toNat * 256 + b.toNat = v) : decode c pc = .ok (.invokevirtual v, 3) := o_start (op := 182) (f := _) rfl (pc_at h 0 rfl) rfl (k_u2 (g := fun x => .invokevirtual x) (pc_at h 1 rfl) (pc_at h 2 rfl) e) rfl
theorem dw_45 (h : Pc9 c pc [182, 0, 42]) : decode c pc = .ok (.invokevirtual 42, 3) := op_182 h rfl
theorem dw_46 (h : Pc9 c pc [162, 0, 30]) : decode c pc = .ok (.if_icmp .ge 30, 3) := op_162 h (by decide +kernel)
theorem dw_47 (h : Pc9 c pc [153, 0, 15]) : decode c pc = .ok (.ifCond .eq 15, 3) := op_153 h (by decide +kernel)
theorem dw_48 (h : Pc9 c pc [167, 255, 226]) : decode c pc = .ok (.goto (-30), 3) := op_167 h (by decide +kernel)
theorem dw_49 (h : Pc9 c pc [162, 0, 56]) : decode c pc = .ok (.if_icmp .ge 56, 3) := op_162 h (by decide +kernel)
theorem dw_50 (h : Pc9 c pc [153, 0, 41]) : decode c pc = .ok (.ifCond .eq 41, 3) := op_153 h (by decide +kernel)
theorem op_44 (h : Pc9 c pc [44]) : decode c pc = .ok (.aload_n 2, 1) := o_start (op := 44) (f := _) rfl (pc_at h 0 rfl) rfl rfl rfl
theorem dw_51 (h : Pc9 c pc [44]) : decode c pc = .ok (.aload_n 2, 1) := op_44 h
theorem dw_52 (h : Pc9 c pc [184, 0, 46]) : decode c pc = .ok (.invokestatic 46, 3) := op_184 h rfl
theorem dw_53 (h : Pc9 c pc [132, 5, 1]) : decode c pc = .ok (.iinc 5 1, 3) := op_132 h rfl (by decide +kernel)
theorem dw_54 (h : Pc9 c pc [167, 255, 200]) : decode c pc = .ok (.goto (-56), 3) := op_167 h (by decide +kernel)
theorem dw_55 (h : Pc9 c pc [181, 0, 15]) : decode c pc = .ok (.putfield 15, 3) := op_181 h rfl
theorem dw_56 (h : Pc9 c pc [181, 0, 18]) : decode c pc = .ok (.putfield 18, 3) := op_181 h rfl
theorem dw_57 (h : Pc9 c pc [162, 0, 18]) : decode c pc = .ok (.if_icmp .ge 18, 3) := op_162 h (by decide +kernel)
theorem dw_58 (h : Pc9 c pc [180, 0, 15]) : decode c pc = .ok (.getfield 15, 3) := op_180 h rfl
theorem dw_59 (h : Pc9 c pc [167, 255, 239]) : decode c pc = .ok (.goto (-17), 3) := op_167 h (by decide +kernel)
theorem dw_60 (h : Pc9 c pc [182, 0, 21]) : decode c pc = .ok (.invokevirtual 21, 3) := op_182 h rfl
theorem dw_61 (h : Pc9 c pc [162, 0, 63]) : decode c pc = .ok (.if_icmp .ge 63, 3) := op_162 h (by decide +kernel)
theorem dw_62 (h : Pc9 c pc [182, 0, 35]) : decode c pc = .ok (.invokevirtual 35, 3) := op_182 h rfl
theorem op_159 {a b : UInt8} {v : Int} (h : Pc9 c pc [159, a, b]) (e : Jvm.ClassFile.Reader.signed 16 (a.toNat * 256 + b.toNat) = v) : decode c pc = .ok (.if_icmp .eq v, 3) := o_start (op := 159) (f := _) rfl (pc_at h 0 rfl) rfl (k_s2 (g := fun x => .if_icmp .eq x) (pc_at h 1 rfl) (pc_at h 2 rfl) e) rfl
theorem dw_63 (h : Pc9 c pc [159, 0, 43]) : decode c pc = .ok (.if_icmp .eq 43, 3) := op_159 h (by decide +kernel)
theorem dw_64 (h : Pc9 c pc [180, 0, 25]) : decode c pc = .ok (.getfield 25, 3) := op_180 h rfl
theorem dw_65 (h : Pc9 c pc [182, 0, 39]) : decode c pc = .ok (.invokevirtual 39, 3) := op_182 h rfl
theorem dw_66 (h : Pc9 c pc [182, 0, 43]) : decode c pc = .ok (.invokevirtual 43, 3) := op_182 h rfl
theorem dw_67 (h : Pc9 c pc [180, 0, 18]) : decode c pc = .ok (.getfield 18, 3) := op_180 h rfl
theorem op_89 (h : Pc9 c pc [89]) : decode c pc = .ok (.dup, 1) := o_start (op := 89) (f := _) rfl (pc_at h 0 rfl) rfl rfl rfl
theorem dw_68 (h : Pc9 c pc [89]) : decode c pc = .ok (.dup, 1) := op_89 h
theorem dw_69 (h : Pc9 c pc [167, 255, 194]) : decode c pc = .ok (.goto (-62), 3) := op_167 h (by decide +kernel)
theorem dw_70 (h : Pc9 c pc [162, 0, 24]) : decode c pc = .ok (.if_icmp .ge 24, 3) := op_162 h (by decide +kernel)
theorem dw_71 (h : Pc9 c pc [184, 0, 47]) : decode c pc = .ok (.invokestatic 47, 3) := op_184 h rfl
theorem dw_72 (h : Pc9 c pc [153, 0, 5]) : decode c pc = .ok (.ifCond .eq 5, 3) := op_153 h (by decide +kernel)
theorem dw_73 (h : Pc9 c pc [167, 255, 233]) : decode c pc = .ok (.goto (-23), 3) := op_167 h (by decide +kernel)
theorem dw_74 (h : Pc9 c pc [162, 0, 61]) : decode c pc = .ok (.if_icmp .ge 61, 3) := op_162 h (by decide +kernel)
theorem dw_75 (h : Pc9 c pc [159, 0, 49]) : decode c pc = .ok (.if_icmp .eq 49, 3) := op_159 h (by decide +kernel)
theorem dw_76 (h : Pc9 c pc [153, 0, 35]) : decode c pc = .ok (.ifCond .eq 35, 3) := op_153 h (by decide +kernel)
theorem dw_77 (h : Pc9 c pc [167, 255, 195]) : decode c pc = .ok (.goto (-61), 3) := op_167 h (by decide +kernel)
theorem op_60 (h : Pc9 c pc [60]) : decode c pc = .ok (.istore_n 1, 1) := o_start (op := 60) (f := _) rfl (pc_at h 0 rfl) rfl rfl rfl
theorem dw_78 (h : Pc9 c pc [60]) : decode c pc = .ok (.istore_n 1, 1) := op_60 h
theorem dw_79 (h : Pc9 c pc [162, 0, 16]) : decode c pc = .ok (.if_icmp .ge 16, 3) := op_162 h (by decide +kernel)
theorem dw_80 (h : Pc9 c pc [132, 1, 1]) : decode c pc = .ok (.iinc 1 1, 3) := op_132 h rfl (by decide +kernel)
theorem dw_81 (h : Pc9 c pc [167, 255, 240]) : decode c pc = .ok (.goto (-16), 3) := op_167 h (by decide +kernel)
theorem dw_82 (h : Pc9 c pc [181, 0, 19]) : decode c pc = .ok (.putfield 19, 3) := op_181 h rfl
theorem dw_83 (h : Pc9 c pc [181, 0, 23]) : decode c pc = .ok (.putfield 23, 3) := op_181 h rfl
theorem dw_84 (h : Pc9 c pc [181, 0, 26]) : decode c pc = .ok (.putfield 26, 3) := op_181 h rfl
theorem dw_85 (h : Pc9 c pc [180, 0, 19]) : decode c pc = .ok (.getfield 19, 3) := op_180 h rfl
theorem dw_86 (h : Pc9 c pc [180, 0, 23]) : decode c pc = .ok (.getfield 23, 3) := op_180 h rfl
theorem dw_87 (h : Pc9 c pc [180, 0, 26]) : decode c pc = .ok (.getfield 26, 3) := op_180 h rfl
theorem dw_88 (h : Pc9 c pc [153, 0, 18]) : decode c pc = .ok (.ifCond .eq 18, 3) := op_153 h (by decide +kernel)
theorem op_17 {a b : UInt8} {v : Int} (h : Pc9 c pc [17, a, b]) (e : Jvm.ClassFile.Reader.signed 16 (a.toNat * 256 + b.toNat) = v) : decode c pc = .ok (.sipush v, 3) := o_start (op := 17) (f := _) rfl (pc_at h 0 rfl) rfl (k_s2 (g := fun x => .sipush x) (pc_at h 1 rfl) (pc_at h 2 rfl) e) rfl
theorem dw_89 (h : Pc9 c pc [17, 1, 0]) : decode c pc = .ok (.sipush 256, 3) := op_17 h (by decide +kernel)
theorem dw_90 (h : Pc9 c pc [180, 0, 21]) : decode c pc = .ok (.getfield 21, 3) := op_180 h rfl
theorem dw_91 (h : Pc9 c pc [181, 0, 27]) : decode c pc = .ok (.putfield 27, 3) := op_181 h rfl
theorem dw_92 (h : Pc9 c pc [180, 0, 28]) : decode c pc = .ok (.getfield 28, 3) := op_180 h rfl
theorem dw_93 (h : Pc9 c pc [181, 0, 31]) : decode c pc = .ok (.putfield 31, 3) := op_181 h rfl
theorem dw_94 (h : Pc9 c pc [181, 0, 32]) : decode c pc = .ok (.putfield 32, 3) := op_181 h rfl
theorem dw_95 (h : Pc9 c pc [181, 0, 36]) : decode c pc = .ok (.putfield 36, 3) := op_181 h rfl
theorem dw_96 (h : Pc9 c pc [181, 0, 39]) : decode c pc = .ok (.putfield 39, 3) := op_181 h rfl
theorem dw_97 (h : Pc9 c pc [180, 0, 27]) : decode c pc = .ok (.getfield 27, 3) := op_180 h rfl
theorem dw_98 (h : Pc9 c pc [162, 0, 14]) : decode c pc = .ok (.if_icmp .ge 14, 3) := op_162 h (by decide +kernel)
theorem op_45 (h : Pc9 c pc [45]) : decode c pc = .ok (.aload_n 3, 1) := o_start (op := 45) (f := _) rfl (pc_at h 0 rfl) rfl rfl rfl
theorem dw_99 (h : Pc9 c pc [45]) : decode c pc = .ok (.aload_n 3, 1) := op_45 h
theorem dw_100 (h : Pc9 c pc [162, 0, 50]) : decode c pc = .ok (.if_icmp .ge 50, 3) := op_162 h (by decide +kernel)
theorem dw_101 (h : Pc9 c pc [180, 0, 31]) : decode c pc = .ok (.getfield 31, 3) := op_180 h rfl
theorem op_100 (h : Pc9 c pc [100]) : decode c pc = .ok (.isub, 1) := o_start (op := 100) (f := _) rfl (pc_at h 0 rfl) rfl rfl rfl
theorem dw_102 (h : Pc9 c pc [100]) : decode c pc = .ok (.isub, 1) := op_100 h
theorem dw_103 (h : Pc9 c pc [184, 0, 42]) : decode c pc = .ok (.invokestatic 42, 3) := op_184 h rfl
theorem dw_104 (h : Pc9 c pc [182, 0, 48]) : decode c pc = .ok (.invokevirtual 48, 3) := op_182 h rfl
theorem dw_105 (h : Pc9 c pc [182, 0, 52]) : decode c pc = .ok (.invokevirtual 52, 3) := op_182 h rfl
theorem op_78 (h : Pc9 c pc [78]) : decode c pc = .ok (.astore_n 3, 1) := o_start (op := 78) (f := _) rfl (pc_at h 0 rfl) rfl rfl rfl
theorem dw_106 (h : Pc9 c pc [78]) : decode c pc = .ok (.astore_n 3, 1) := op_78 h
theorem op_58 {a : UInt8} {v : Nat} (h : Pc9 c pc [58, a]) (e : a.toNat = v) : decode c pc = .ok (.astore v, 2) := o_start (op := 58) (f := _) rfl (pc_at h 0 rfl) rfl (k_u1 (g := fun x => .astore x) (pc_at h 1 rfl) e) rfl
theorem dw_107 (h : Pc9 c pc [58, 4]) : decode c pc = .ok (.astore 4, 2) := op_58 h rfl
theorem dw_108 (h : Pc9 c pc [162, 0, 17]) : decode c pc = .ok (.if_icmp .ge 17, 3) := op_162 h (by decide +kernel)
theorem dw_109 (h : Pc9 c pc [167, 255, 236]) : decode c pc = .ok (.goto (-20), 3) := op_167 h (by decide +kernel)
theorem dw_110 (h : Pc9 c pc [16, 19]) : decode c pc = .ok (.bipush 19, 2) := op_16 h (by decide +kernel)
theorem op_155 {a b : UInt8} {v : Int} (h : Pc9 c pc [155, a, b]) (e : Jvm.ClassFile.Reader.signed 16 (a.toNat * 256 + b.toNat) = v) : decode c pc = .ok (.ifCond .lt v, 3) := o_start (op := 155) (f := _) rfl (pc_at h 0 rfl) rfl (k_s2 (g := fun x => .ifCond .lt x) (pc_at h 1 rfl) (pc_at h 2 rfl) e) rfl
theorem dw_111 (h : Pc9 c pc [155, 0, 61]) : decode c pc = .ok (.ifCond .lt 61, 3) := op_155 h (by decide +kernel)
theorem op_122 (h : Pc9 c pc [122]) : decode c pc = .ok (.ishr, 1) := o_start (op := 122) (f := _) rfl (pc_at h 0 rfl) rfl rfl rfl
theorem dw_112 (h : Pc9 c pc [122]) : decode c pc = .ok (.ishr, 1) := op_122 h
theorem dw_113 (h : Pc9 c pc [153, 0, 21]) : decode c pc = .ok (.ifCond .eq 21, 3) := op_153 h (by decide +kernel)
theorem op_25 {a : UInt8} {v : Nat} (h : Pc9 c pc [25, a]) (e : a.toNat = v) : decode c pc = .ok (.aload v, 2) := o_start (op := 25) (f := _) rfl (pc_at h 0 rfl) rfl (k_u1 (g := fun x => .aload x) (pc_at h 1 rfl) e) rfl
theorem dw_114 (h : Pc9 c pc [25, 4]) : decode c pc = .ok (.aload 4, 2) := op_25 h rfl
theorem dw_115 (h : Pc9 c pc [182, 0, 56]) : decode c pc = .ok (.invokevirtual 56, 3) := op_182 h rfl
theorem dw_116 (h : Pc9 c pc [58, 6]) : decode c pc = .ok (.astore 6, 2) := op_58 h rfl
theorem dw_117 (h : Pc9 c pc [25, 6]) : decode c pc = .ok (.aload 6, 2) := op_25 h rfl
theorem dw_118 (h : Pc9 c pc [184, 0, 60]) : decode c pc = .ok (.invokestatic 60, 3) := op_184 h rfl
theorem dw_119 (h : Pc9 c pc [132, 5, 255]) : decode c pc = .ok (.iinc 5 (-1), 3) := op_132 h rfl (by decide +kernel)
theorem dw_120 (h : Pc9 c pc [167, 255, 196]) : decode c pc = .ok (.goto (-60), 3) := op_167 h (by decide +kernel)
theorem op_176 (h : Pc9 c pc [176]) : decode c pc = .ok (.areturn, 1) := o_start (op := 176) (f := _) rfl (pc_at h 0 rfl) rfl rfl rfl
theorem dw_121 (h : Pc9 c pc [176]) : decode c pc = .ok (.areturn, 1) := op_176 h
theorem dw_122 (h : Pc9 c pc [162, 0, 58]) : decode c pc = .ok (.if_icmp .ge 58, 3) := op_162 h (by decide +kernel)
theorem dw_123 (h : Pc9 c pc [162, 0, 36]) : decode c pc = .ok (.if_icmp .ge 36, 3) := op_162 h (by decide +kernel)
theorem dw_124 (h : Pc9 c pc [182, 0, 64]) : decode c pc = .ok (.invokevirtual 64, 3) := op_182 h rfl
theorem dw_125 (h : Pc9 c pc [167, 255, 219]) : decode c pc = .ok (.goto (-37), 3) := op_167 h (by decide +kernel)
theorem dw_126 (h : Pc9 c pc [167, 255, 198]) : decode c pc = .ok (.goto (-58), 3) := op_167 h (by decide +kernel)
theorem dw_127 (h : Pc9 c pc [180, 0, 36]) : decode c pc = .ok (.getfield 36, 3) := op_180 h rfl
theorem dw_128 (h : Pc9 c pc [162, 0, 57]) : decode c pc = .ok (.if_icmp .ge 57, 3) := op_162 h (by decide +kernel)
theorem op_124 (h : Pc9 c pc [124]) : decode c pc = .ok (.iushr, 1) := o_start (op := 124) (f := _) rfl (pc_at h 0 rfl) rfl rfl rfl
theorem dw_129 (h : Pc9 c pc [124]) : decode c pc = .ok (.iushr, 1) := op_124 h
theorem dw_130 (h : Pc9 c pc [184, 0, 67]) : decode c pc = .ok (.invokestatic 67, 3) := op_184 h rfl
theorem dw_131 (h : Pc9 c pc [153, 0, 32]) : decode c pc = .ok (.ifCond .eq 32, 3) := op_153 h (by decide +kernel)
theorem dw_132 (h : Pc9 c pc [180, 0, 39]) : decode c pc = .ok (.getfield 39, 3) := op_180 h rfl
theorem dw_133 (h : Pc9 c pc [180, 0, 32]) : decode c pc = .ok (.getfield 32, 3) := op_180 h rfl
theorem dw_134 (h : Pc9 c pc [153, 0, 9]) : decode c pc = .ok (.ifCond .eq 9, 3) := op_153 h (by decide +kernel)
theorem dw_135 (h : Pc9 c pc [167, 0, 6]) : decode c pc = .ok (.goto 6, 3) := op_167 h (by decide +kernel)
theorem dw_136 (h : Pc9 c pc [17, 2, 88]) : decode c pc = .ok (.sipush 600, 3) := op_17 h (by decide +kernel)
theorem dw_137 (h : Pc9 c pc [16, 56]) : decode c pc = .ok (.bipush 56, 2) := op_16 h (by decide +kernel)
theorem dw_138 (h : Pc9 c pc [155, 0, 25]) : decode c pc = .ok (.ifCond .lt 25, 3) := op_155 h (by decide +kernel)
theorem op_31 (h : Pc9 c pc [31]) : decode c pc = .ok (.lload_n 1, 1) := o_start (op := 31) (f := _) rfl (pc_at h 0 rfl) rfl rfl rfl
theorem dw_139 (h : Pc9 c pc [31]) : decode c pc = .ok (.lload_n 1, 1) := op_31 h
theorem op_125 (h : Pc9 c pc [125]) : decode c pc = .ok (.lushr, 1) := o_start (op := 125) (f := _) rfl (pc_at h 0 rfl) rfl rfl rfl
theorem dw_140 (h : Pc9 c pc [125]) : decode c pc = .ok (.lushr, 1) := op_125 h
theorem op_20 {a b : UInt8} {v : Nat} (h : Pc9 c pc [20, a, b]) (e : a.toNat * 256 + b.toNat = v) : decode c pc = .ok (.ldc2_w v, 3) := o_start (op := 20) (f := _) rfl (pc_at h 0 rfl) rfl (k_u2 (g := fun x => .ldc2_w x) (pc_at h 1 rfl) (pc_at h 2 rfl) e) rfl
theorem dw_141 (h : Pc9 c pc [20, 0, 15]) : decode c pc = .ok (.ldc2_w 15, 3) := op_20 h rfl
theorem op_127 (h : Pc9 c pc [127]) : decode c pc = .ok (.land, 1) := o_start (op := 127) (f := _) rfl (pc_at h 0 rfl) rfl rfl rfl
theorem dw_142 (h : Pc9 c pc [127]) : decode c pc = .ok (.land, 1) := op_127 h
theorem op_9 (h : Pc9 c pc [9]) : decode c pc = .ok (.lconst 0, 1) := o_start (op := 9) (f := _) rfl (pc_at h 0 rfl) rfl rfl rfl
theorem dw_143 (h : Pc9 c pc [9]) : decode c pc = .ok (.lconst 0, 1) := op_9 h
theorem op_148 (h : Pc9 c pc [148]) : decode c pc = .ok (.lcmp, 1) := o_start (op := 148) (f := _) rfl (pc_at h 0 rfl) rfl rfl rfl
theorem dw_144 (h : Pc9 c pc [148]) : decode c pc = .ok (.lcmp, 1) := op_148 h
theorem dw_145 (h : Pc9 c pc [153, 0, 6]) : decode c pc = .ok (.ifCond .eq 6, 3) := op_153 h (by decide +kernel)
theorem dw_146 (h : Pc9 c pc [132, 4, 248]) : decode c pc = .ok (.iinc 4 (-8), 3) := op_132 h rfl (by decide +kernel)
theorem dw_147 (h : Pc9 c pc [167, 255, 232]) : decode c pc = .ok (.goto (-24), 3) := op_167 h (by decide +kernel)
theorem dw_148 (h : Pc9 c pc [180, 0, 17]) : decode c pc = .ok (.getfield 17, 3) := op_180 h rfl
theorem op_164 {a b : UInt8} {v : Int} (h : Pc9 c pc [164, a, b]) (e : Jvm.ClassFile.Reader.signed 16 (a.toNat * 256 + b.toNat) = v) : decode c pc = .ok (.if_icmp .le v, 3) := o_start (op := 164) (f := _) rfl (pc_at h 0 rfl) rfl (k_s2 (g := fun x => .if_icmp .le x) (pc_at h 1 rfl) (pc_at h 2 rfl) e) rfl
theorem dw_149 (h : Pc9 c pc [164, 0, 6]) : decode c pc = .ok (.if_icmp .le 6, 3) := op_164 h (by decide +kernel)
theorem dw_150 (h : Pc9 c pc [16, 254]) : decode c pc = .ok (.bipush (-2), 2) := op_16 h (by decide +kernel)
theorem dw_151 (h : Pc9 c pc [155, 0, 56]) : decode c pc = .ok (.ifCond .lt 56, 3) := op_155 h (by decide +kernel)
theorem op_136 (h : Pc9 c pc [136]) : decode c pc = .ok (.l2i, 1) := o_start (op := 136) (f := _) rfl (pc_at h 0 rfl) rfl rfl rfl
theorem dw_152 (h : Pc9 c pc [136]) : decode c pc = .ok (.l2i, 1) := op_136 h
theorem dw_153 (h : Pc9 c pc [153, 0, 34]) : decode c pc = .ok (.ifCond .eq 34, 3) := op_153 h (by decide +kernel)
theorem dw_154 (h : Pc9 c pc [181, 0, 17]) : decode c pc = .ok (.putfield 17, 3) := op_181 h rfl
theorem dw_155 (h : Pc9 c pc [167, 255, 201]) : decode c pc = .ok (.goto (-55), 3) := op_167 h (by decide +kernel)
theorem dw_156 (h : Pc9 c pc [181, 0, 21]) : decode c pc = .ok (.putfield 21, 3) := op_181 h rfl
theorem dw_157 (h : Pc9 c pc [181, 0, 24]) : decode c pc = .ok (.putfield 24, 3) := op_181 h rfl
theorem dw_158 (h : Pc9 c pc [181, 0, 30]) : decode c pc = .ok (.putfield 30, 3) := op_181 h rfl
theorem dw_159 (h : Pc9 c pc [182, 0, 33]) : decode c pc = .ok (.invokevirtual 33, 3) := op_182 h rfl
theorem op_61 (h : Pc9 c pc [61]) : decode c pc = .ok (.istore_n 2, 1) := o_start (op := 61) (f := _) rfl (pc_at h 0 rfl) rfl rfl rfl
theorem dw_160 (h : Pc9 c pc [61]) : decode c pc = .ok (.istore_n 2, 1) := op_61 h
theorem dw_161 (h : Pc9 c pc [162, 0, 32]) : decode c pc = .ok (.if_icmp .ge 32, 3) := op_162 h (by decide +kernel)
theorem dw_162 (h : Pc9 c pc [182, 0, 37]) : decode c pc = .ok (.invokevirtual 37, 3) := op_182 h rfl
theorem dw_163 (h : Pc9 c pc [153, 0, 25]) : decode c pc = .ok (.ifCond .eq 25, 3) := op_153 h (by decide +kernel)
theorem dw_164 (h : Pc9 c pc [182, 0, 41]) : decode c pc = .ok (.invokevirtual 41, 3) := op_182 h rfl
theorem op_154 {a b : UInt8} {v : Int} (h : Pc9 c pc [154, a, b]) (e : Jvm.ClassFile.Reader.signed 16 (a.toNat * 256 + b.toNat) = v) : decode c pc = .ok (.ifCond .ne v, 3) := o_start (op := 154) (f := _) rfl (pc_at h 0 rfl) rfl (k_s2 (g := fun x => .ifCond .ne x) (pc_at h 1 rfl) (pc_at h 2 rfl) e) rfl
theorem dw_165 (h : Pc9 c pc [154, 0, 8]) : decode c pc = .ok (.ifCond .ne 8, 3) := op_154 h (by decide +kernel)
theorem dw_166 (h : Pc9 c pc [182, 0, 44]) : decode c pc = .ok (.invokevirtual 44, 3) := op_182 h rfl
theorem dw_167 (h : Pc9 c pc [132, 2, 1]) : decode c pc = .ok (.iinc 2 1, 3) := op_132 h rfl (by decide +kernel)
theorem dw_168 (h : Pc9 c pc [167, 255, 222]) : decode c pc = .ok (.goto (-34), 3) := op_167 h (by decide +kernel)
theorem dw_169 (h : Pc9 c pc [16, 6]) : decode c pc = .ok (.bipush 6, 2) := op_16 h (by decide +kernel)
theorem dw_170 (h : Pc9 c pc [162, 0, 22]) : decode c pc = .ok (.if_icmp .ge 22, 3) := op_162 h (by decide +kernel)
theorem dw_171 (h : Pc9 c pc [180, 0, 47]) : decode c pc = .ok (.getfield 47, 3) := op_180 h rfl
theorem op_50 (h : Pc9 c pc [50]) : decode c pc = .ok (.aaload, 1) := o_start (op := 50) (f := _) rfl (pc_at h 0 rfl) rfl rfl rfl
theorem dw_172 (h : Pc9 c pc [50]) : decode c pc = .ok (.aaload, 1) := op_50 h
theorem dw_173 (h : Pc9 c pc [180, 0, 53]) : decode c pc = .ok (.getfield 53, 3) := op_180 h rfl
theorem dw_174 (h : Pc9 c pc [167, 255, 234]) : decode c pc = .ok (.goto (-22), 3) := op_167 h (by decide +kernel)
theorem dw_175 (h : Pc9 c pc [182, 0, 62]) : decode c pc = .ok (.invokevirtual 62, 3) := op_182 h rfl
theorem op_18 {a : UInt8} {v : Nat} (h : Pc9 c pc [18, a]) (e : a.toNat = v) : decode c pc = .ok (.ldc v, 2) := o_start (op := 18) (f := _) rfl (pc_at h 0 rfl) rfl (k_u1 (g := fun x => .ldc x) (pc_at h 1 rfl) e) rfl
theorem dw_176 (h : Pc9 c pc [18, 65]) : decode c pc = .ok (.ldc 65, 2) := op_18 h rfl
theorem dw_177 (h : Pc9 c pc [182, 0, 66]) : decode c pc = .ok (.invokevirtual 66, 3) := op_182 h rfl
theorem dw_178 (h : Pc9 c pc [154, 0, 12]) : decode c pc = .ok (.ifCond .ne 12, 3) := op_154 h (by decide +kernel)
theorem dw_179 (h : Pc9 c pc [180, 0, 70]) : decode c pc = .ok (.getfield 70, 3) := op_180 h rfl
theorem dw_180 (h : Pc9 c pc [182, 0, 73]) : decode c pc = .ok (.invokevirtual 73, 3) := op_182 h rfl
theorem dw_181 (h : Pc9 c pc [182, 0, 77]) : decode c pc = .ok (.invokevirtual 77, 3) := op_182 h rfl
theorem dw_182 (h : Pc9 c pc [182, 0, 81]) : decode c pc = .ok (.invokevirtual 81, 3) := op_182 h rfl
theorem dw_183 (h : Pc9 c pc [18, 84]) : decode c pc = .ok (.ldc 84, 2) := op_18 h rfl
theorem dw_184 (h : Pc9 c pc [153, 0, 11]) : decode c pc = .ok (.ifCond .eq 11, 3) := op_153 h (by decide +kernel)
theorem dw_185 (h : Pc9 c pc [182, 0, 86]) : decode c pc = .ok (.invokevirtual 86, 3) := op_182 h rfl
theorem dw_186 (h : Pc9 c pc [167, 0, 86]) : decode c pc = .ok (.goto 86, 3) := op_167 h (by decide +kernel)
theorem dw_187 (h : Pc9 c pc [18, 89]) : decode c pc = .ok (.ldc 89, 2) := op_18 h rfl
theorem dw_188 (h : Pc9 c pc [182, 0, 91]) : decode c pc = .ok (.invokevirtual 91, 3) := op_182 h rfl
theorem dw_189 (h : Pc9 c pc [167, 0, 69]) : decode c pc = .ok (.goto 69, 3) := op_167 h (by decide +kernel)
theorem dw_190 (h : Pc9 c pc [18, 94]) : decode c pc = .ok (.ldc 94, 2) := op_18 h rfl
theorem dw_191 (h : Pc9 c pc [182, 0, 96]) : decode c pc = .ok (.invokevirtual 96, 3) := op_182 h rfl
theorem dw_192 (h : Pc9 c pc [167, 0, 52]) : decode c pc = .ok (.goto 52, 3) := op_167 h (by decide +kernel)
theorem dw_193 (h : Pc9 c pc [18, 99]) : decode c pc = .ok (.ldc 99, 2) := op_18 h rfl
theorem dw_194 (h : Pc9 c pc [182, 0, 101]) : decode c pc = .ok (.invokevirtual 101, 3) := op_182 h rfl
theorem dw_195 (h : Pc9 c pc [167, 0, 35]) : decode c pc = .ok (.goto 35, 3) := op_167 h (by decide +kernel)
theorem dw_196 (h : Pc9 c pc [18, 104]) : decode c pc = .ok (.ldc 104, 2) := op_18 h rfl
theorem dw_197 (h : Pc9 c pc [153, 0, 17]) : decode c pc = .ok (.ifCond .eq 17, 3) := op_153 h (by decide +kernel)
theorem dw_198 (h : Pc9 c pc [16, 8]) : decode c pc = .ok (.bipush 8, 2) := op_16 h (by decide +kernel)
theorem dw_199 (h : Pc9 c pc [181, 0, 106]) : decode c pc = .ok (.putfield 106, 3) := op_181 h rfl
theorem dw_200 (h : Pc9 c pc [167, 0, 12]) : decode c pc = .ok (.goto 12, 3) := op_167 h (by decide +kernel)
theorem op_8 (h : Pc9 c pc [8]) : decode c pc = .ok (.iconst 5, 1) := o_start (op := 8) (f := _) rfl (pc_at h 0 rfl) rfl rfl rfl
theorem dw_201 (h : Pc9 c pc [8]) : decode c pc = .ok (.iconst 5, 1) := op_8 h
theorem dw_202 (h : Pc9 c pc [180, 0, 108]) : decode c pc = .ok (.getfield 108, 3) := op_180 h rfl
theorem dw_203 (h : Pc9 c pc [182, 0, 111]) : decode c pc = .ok (.invokevirtual 111, 3) := op_182 h rfl
theorem dw_204 (h : Pc9 c pc [180, 0, 115]) : decode c pc = .ok (.getfield 115, 3) := op_180 h rfl
theorem dw_205 (h : Pc9 c pc [153, 0, 12]) : decode c pc = .ok (.ifCond .eq 12, 3) := op_153 h (by decide +kernel)
theorem op_6 (h : Pc9 c pc [6]) : decode c pc = .ok (.iconst 3, 1) := o_start (op := 6) (f := _) rfl (pc_at h 0 rfl) rfl rfl rfl
theorem dw_206 (h : Pc9 c pc [6]) : decode c pc = .ok (.iconst 3, 1) := op_6 h
theorem dw_207 (h : Pc9 c pc [181, 0, 115]) : decode c pc = .ok (.putfield 115, 3) := op_181 h rfl
theorem dw_208 (h : Pc9 c pc [162, 0, 29]) : decode c pc = .ok (.if_icmp .ge 29, 3) := op_162 h (by decide +kernel)
theorem dw_209 (h : Pc9 c pc [182, 0, 119]) : decode c pc = .ok (.invokevirtual 119, 3) := op_182 h rfl
theorem dw_210 (h : Pc9 c pc [167, 255, 225]) : decode c pc = .ok (.goto (-31), 3) := op_167 h (by decide +kernel)
theorem dw_211 (h : Pc9 c pc [18, 122]) : decode c pc = .ok (.ldc 122, 2) := op_18 h rfl
theorem dw_212 (h : Pc9 c pc [153, 0, 7]) : decode c pc = .ok (.ifCond .eq 7, 3) := op_153 h (by decide +kernel)
theorem dw_213 (h : Pc9 c pc [18, 124]) : decode c pc = .ok (.ldc 124, 2) := op_18 h rfl
theorem dw_214 (h : Pc9 c pc [153, 0, 8]) : decode c pc = .ok (.ifCond .eq 8, 3) := op_153 h (by decide +kernel)
theorem dw_215 (h : Pc9 c pc [184, 0, 126]) : decode c pc = .ok (.invokestatic 126, 3) := op_184 h rfl
theorem dw_216 (h : Pc9 c pc [18, 129]) : decode c pc = .ok (.ldc 129, 2) := op_18 h rfl
theorem dw_217 (h : Pc9 c pc [153, 0, 20]) : decode c pc = .ok (.ifCond .eq 20, 3) := op_153 h (by decide +kernel)
theorem dw_218 (h : Pc9 c pc [162, 0, 11]) : decode c pc = .ok (.if_icmp .ge 11, 3) := op_162 h (by decide +kernel)
theorem dw_219 (h : Pc9 c pc [167, 0, 4]) : decode c pc = .ok (.goto 4, 3) := op_167 h (by decide +kernel)
theorem dw_220 (h : Pc9 c pc [18, 131]) : decode c pc = .ok (.ldc 131, 2) := op_18 h rfl
theorem dw_221 (h : Pc9 c pc [182, 0, 133]) : decode c pc = .ok (.invokevirtual 133, 3) := op_182 h rfl
theorem dw_222 (h : Pc9 c pc [154, 0, 18]) : decode c pc = .ok (.ifCond .ne 18, 3) := op_154 h (by decide +kernel)
theorem dw_223 (h : Pc9 c pc [162, 0, 7]) : decode c pc = .ok (.if_icmp .ge 7, 3) := op_162 h (by decide +kernel)
theorem dw_224 (h : Pc9 c pc [162, 0, 40]) : decode c pc = .ok (.if_icmp .ge 40, 3) := op_162 h (by decide +kernel)
theorem dw_225 (h : Pc9 c pc [16, 59]) : decode c pc = .ok (.bipush 59, 2) := op_16 h (by decide +kernel)
theorem op_160 {a b : UInt8} {v : Int} (h : Pc9 c pc [160, a, b]) (e : Jvm.ClassFile.Reader.signed 16 (a.toNat * 256 + b.toNat) = v) : decode c pc = .ok (.if_icmp .ne v, 3) := o_start (op := 160) (f := _) rfl (pc_at h 0 rfl) rfl (k_s2 (g := fun x => .if_icmp .ne x) (pc_at h 1 rfl) (pc_at h 2 rfl) e) rfl
theorem dw_226 (h : Pc9 c pc [160, 0, 26]) : decode c pc = .ok (.if_icmp .ne 26, 3) := op_160 h (by decide +kernel)
theorem dw_227 (h : Pc9 c pc [180, 0, 24]) : decode c pc = .ok (.getfield 24, 3) := op_180 h rfl
theorem dw_228 (h : Pc9 c pc [181, 0, 70]) : decode c pc = .ok (.putfield 70, 3) := op_181 h rfl
theorem dw_229 (h : Pc9 c pc [162, 0, 44]) : decode c pc = .ok (.if_icmp .ge 44, 3) := op_162 h (by decide +kernel)
theorem dw_230 (h : Pc9 c pc [16, 97]) : decode c pc = .ok (.bipush 97, 2) := op_16 h (by decide +kernel)
theorem op_161 {a b : UInt8} {v : Int} (h : Pc9 c pc [161, a, b]) (e : Jvm.ClassFile.Reader.signed 16 (a.toNat * 256 + b.toNat) = v) : decode c pc = .ok (.if_icmp .lt v, 3) := o_start (op := 161) (f := _) rfl (pc_at h 0 rfl) rfl (k_s2 (g := fun x => .if_icmp .lt x) (pc_at h 1 rfl) (pc_at h 2 rfl) e) rfl
theorem dw_231 (h : Pc9 c pc [161, 0, 30]) : decode c pc = .ok (.if_icmp .lt 30, 3) := op_161 h (by decide +kernel)
theorem dw_232 (h : Pc9 c pc [16, 122]) : decode c pc = .ok (.bipush 122, 2) := op_16 h (by decide +kernel)
theorem op_163 {a b : UInt8} {v : Int} (h : Pc9 c pc [163, a, b]) (e : Jvm.ClassFile.Reader.signed 16 (a.toNat * 256 + b.toNat) = v) : decode c pc = .ok (.if_icmp .gt v, 3) := o_start (op := 163) (f := _) rfl (pc_at h 0 rfl) rfl (k_s2 (g := fun x => .if_icmp .gt x) (pc_at h 1 rfl) (pc_at h 2 rfl) e) rfl
theorem dw_233 (h : Pc9 c pc [163, 0, 16]) : decode c pc = .ok (.if_icmp .gt 16, 3) := op_163 h (by decide +kernel)
theorem dw_234 (h : Pc9 c pc [167, 255, 207]) : decode c pc = .ok (.goto (-49), 3) := op_167 h (by decide +kernel)
theorem dw_235 (h : Pc9 c pc [16, 48]) : decode c pc = .ok (.bipush 48, 2) := op_16 h (by decide +kernel)
theorem dw_236 (h : Pc9 c pc [16, 57]) : decode c pc = .ok (.bipush 57, 2) := op_16 h (by decide +kernel)
theorem dw_237 (h : Pc9 c pc [160, 0, 12]) : decode c pc = .ok (.if_icmp .ne 12, 3) := op_160 h (by decide +kernel)
theorem dw_238 (h : Pc9 c pc [182, 0, 136]) : decode c pc = .ok (.invokevirtual 136, 3) := op_182 h rfl
theorem dw_239 (h : Pc9 c pc [162, 0, 31]) : decode c pc = .ok (.if_icmp .ge 31, 3) := op_162 h (by decide +kernel)
theorem dw_240 (h : Pc9 c pc [16, 10]) : decode c pc = .ok (.bipush 10, 2) := op_16 h (by decide +kernel)
theorem op_104 (h : Pc9 c pc [104]) : decode c pc = .ok (.imul, 1) := o_start (op := 104) (f := _) rfl (pc_at h 0 rfl) rfl rfl rfl
theorem dw_241 (h : Pc9 c pc [104]) : decode c pc = .ok (.imul, 1) := op_104 h
theorem dw_242 (h : Pc9 c pc [17, 3, 232]) : decode c pc = .ok (.sipush 1000, 3) := op_17 h (by decide +kernel)
theorem dw_243 (h : Pc9 c pc [184, 0, 139]) : decode c pc = .ok (.invokestatic 139, 3) := op_184 h rfl
theorem dw_244 (h : Pc9 c pc [161, 0, 8]) : decode c pc = .ok (.if_icmp .lt 8, 3) := op_161 h (by decide +kernel)
theorem dw_245 (h : Pc9 c pc [164, 0, 12]) : decode c pc = .ok (.if_icmp .le 12, 3) := op_164 h (by decide +kernel)
theorem op_5 (h : Pc9 c pc [5]) : decode c pc = .ok (.iconst 2, 1) := o_start (op := 5) (f := _) rfl (pc_at h 0 rfl) rfl rfl rfl
theorem dw_246 (h : Pc9 c pc [5]) : decode c pc = .ok (.iconst 2, 1) := op_5 h
theorem dw_247 (h : Pc9 c pc [154, 0, 7]) : decode c pc = .ok (.ifCond .ne 7, 3) := op_154 h (by decide +kernel)
theorem dw_248 (h : Pc9 c pc [159, 0, 14]) : decode c pc = .ok (.if_icmp .eq 14, 3) := op_159 h (by decide +kernel)
theorem dw_249 (h : Pc9 c pc [16, 49]) : decode c pc = .ok (.bipush 49, 2) := op_16 h (by decide +kernel)
theorem dw_250 (h : Pc9 c pc [164, 0, 15]) : decode c pc = .ok (.if_icmp .le 15, 3) := op_164 h (by decide +kernel)
theorem dw_251 (h : Pc9 c pc [167, 0, 16]) : decode c pc = .ok (.goto 16, 3) := op_167 h (by decide +kernel)
theorem dw_252 (h : Pc9 c pc [160, 0, 9]) : decode c pc = .ok (.if_icmp .ne 9, 3) := op_160 h (by decide +kernel)
theorem dw_253 (h : Pc9 c pc [160, 0, 16]) : decode c pc = .ok (.if_icmp .ne 16, 3) := op_160 h (by decide +kernel)
theorem dw_254 (h : Pc9 c pc [167, 255, 221]) : decode c pc = .ok (.goto (-35), 3) := op_167 h (by decide +kernel)
theorem dw_255 (h : Pc9 c pc [182, 0, 144]) : decode c pc = .ok (.invokevirtual 144, 3) := op_182 h rfl
theorem dw_256 (h : Pc9 c pc [159, 0, 5]) : decode c pc = .ok (.if_icmp .eq 5, 3) := op_159 h (by decide +kernel)
theorem dw_257 (h : Pc9 c pc [182, 0, 149]) : decode c pc = .ok (.invokevirtual 149, 3) := op_182 h rfl
theorem dw_258 (h : Pc9 c pc [167, 255, 224]) : decode c pc = .ok (.goto (-32), 3) := op_167 h (by decide +kernel)
theorem dw_259 (h : Pc9 c pc [154, 0, 13]) : decode c pc = .ok (.ifCond .ne 13, 3) := op_154 h (by decide +kernel)
theorem op_189 {a b : UInt8} {v : Nat} (h : Pc9 c pc [189, a, b]) (e : a.toNat * 256 + b.toNat = v) : decode c pc = .ok (.anewarray v, 3) := o_start (op := 189) (f := _) rfl (pc_at h 0 rfl) rfl (k_u2 (g := fun x => .anewarray x) (pc_at h 1 rfl) (pc_at h 2 rfl) e) rfl
theorem dw_260 (h : Pc9 c pc [189, 0, 9]) : decode c pc = .ok (.anewarray 9, 3) := op_189 h rfl
theorem dw_261 (h : Pc9 c pc [181, 0, 11]) : decode c pc = .ok (.putfield 11, 3) := op_181 h rfl
theorem dw_262 (h : Pc9 c pc [180, 0, 11]) : decode c pc = .ok (.getfield 11, 3) := op_180 h rfl
theorem op_187 {a b : UInt8} {v : Nat} (h : Pc9 c pc [187, a, b]) (e : a.toNat * 256 + b.toNat = v) : decode c pc = .ok (.new v, 3) := o_start (op := 187) (f := _) rfl (pc_at h 0 rfl) rfl (k_u2 (g := fun x => .new x) (pc_at h 1 rfl) (pc_at h 2 rfl) e) rfl
theorem dw_263 (h : Pc9 c pc [187, 0, 9]) : decode c pc = .ok (.new 9, 3) := op_187 h rfl
theorem dw_264 (h : Pc9 c pc [183, 0, 17]) : decode c pc = .ok (.invokespecial 17, 3) := op_183 h rfl
theorem op_83 (h : Pc9 c pc [83]) : decode c pc = .ok (.aastore, 1) := o_start (op := 83) (f := _) rfl (pc_at h 0 rfl) rfl rfl rfl
theorem dw_265 (h : Pc9 c pc [83]) : decode c pc = .ok (.aastore, 1) := op_83 h
theorem op_7 (h : Pc9 c pc [7]) : decode c pc = .ok (.iconst 4, 1) := o_start (op := 7) (f := _) rfl (pc_at h 0 rfl) rfl rfl rfl
theorem dw_266 (h : Pc9 c pc [7]) : decode c pc = .ok (.iconst 4, 1) := op_7 h
theorem dw_267 (h : Pc9 c pc [181, 0, 22]) : decode c pc = .ok (.putfield 22, 3) := op_181 h rfl
theorem dw_268 (h : Pc9 c pc [182, 0, 25]) : decode c pc = .ok (.invokevirtual 25, 3) := op_182 h rfl
theorem dw_269 (h : Pc9 c pc [167, 255, 238]) : decode c pc = .ok (.goto (-18), 3) := op_167 h (by decide +kernel)
theorem dw_270 (h : Pc9 c pc [181, 0, 28]) : decode c pc = .ok (.putfield 28, 3) := op_181 h rfl
theorem dw_271 (h : Pc9 c pc [182, 0, 34]) : decode c pc = .ok (.invokevirtual 34, 3) := op_182 h rfl
theorem dw_272 (h : Pc9 c pc [180, 0, 22]) : decode c pc = .ok (.getfield 22, 3) := op_180 h rfl
theorem dw_273 (h : Pc9 c pc [183, 0, 1]) : decode c pc = .ok (.invokespecial 1, 3) := op_183 h rfl
theorem dw_274 (h : Pc9 c pc [187, 0, 7]) : decode c pc = .ok (.new 7, 3) := op_187 h rfl
theorem dw_275 (h : Pc9 c pc [183, 0, 9]) : decode c pc = .ok (.invokespecial 9, 3) := op_183 h rfl
theorem dw_276 (h : Pc9 c pc [181, 0, 10]) : decode c pc = .ok (.putfield 10, 3) := op_181 h rfl
theorem dw_277 (h : Pc9 c pc [187, 0, 16]) : decode c pc = .ok (.new 16, 3) := op_187 h rfl
theorem dw_278 (h : Pc9 c pc [183, 0, 18]) : decode c pc = .ok (.invokespecial 18, 3) := op_183 h rfl
theorem dw_279 (h : Pc9 c pc [189, 0, 16]) : decode c pc = .ok (.anewarray 16, 3) := op_189 h rfl
theorem dw_280 (h : Pc9 c pc [180, 0, 30]) : decode c pc = .ok (.getfield 30, 3) := op_180 h rfl
theorem dw_281 (h : Pc9 c pc [167, 255, 235]) : decode c pc = .ok (.goto (-21), 3) := op_167 h (by decide +kernel)
theorem dw_282 (h : Pc9 c pc [181, 0, 33]) : decode c pc = .ok (.putfield 33, 3) := op_181 h rfl
theorem dw_283 (h : Pc9 c pc [189, 0, 37]) : decode c pc = .ok (.anewarray 37, 3) := op_189 h rfl
theorem dw_284 (h : Pc9 c pc [187, 0, 37]) : decode c pc = .ok (.new 37, 3) := op_187 h rfl
theorem dw_285 (h : Pc9 c pc [183, 0, 43]) : decode c pc = .ok (.invokespecial 43, 3) := op_183 h rfl
theorem dw_286 (h : Pc9 c pc [187, 0, 44]) : decode c pc = .ok (.new 44, 3) := op_187 h rfl
theorem dw_287 (h : Pc9 c pc [183, 0, 46]) : decode c pc = .ok (.invokespecial 46, 3) := op_183 h rfl
theorem dw_288 (h : Pc9 c pc [181, 0, 47]) : decode c pc = .ok (.putfield 47, 3) := op_181 h rfl
theorem dw_289 (h : Pc9 c pc [187, 0, 51]) : decode c pc = .ok (.new 51, 3) := op_187 h rfl
theorem dw_290 (h : Pc9 c pc [183, 0, 53]) : decode c pc = .ok (.invokespecial 53, 3) := op_183 h rfl
theorem dw_291 (h : Pc9 c pc [181, 0, 54]) : decode c pc = .ok (.putfield 54, 3) := op_181 h rfl
theorem dw_292 (h : Pc9 c pc [181, 0, 58]) : decode c pc = .ok (.putfield 58, 3) := op_181 h rfl
theorem dw_293 (h : Pc9 c pc [181, 0, 62]) : decode c pc = .ok (.putfield 62, 3) := op_181 h rfl
theorem dw_294 (h : Pc9 c pc [181, 0, 65]) : decode c pc = .ok (.putfield 65, 3) := op_181 h rfl
theorem dw_295 (h : Pc9 c pc [180, 0, 10]) : decode c pc = .ok (.getfield 10, 3) := op_180 h rfl
theorem dw_296 (h : Pc9 c pc [182, 0, 68]) : decode c pc = .ok (.invokevirtual 68, 3) := op_182 h rfl
theorem dw_297 (h : Pc9 c pc [182, 0, 72]) : decode c pc = .ok (.invokevirtual 72, 3) := op_182 h rfl
theorem dw_298 (h : Pc9 c pc [180, 0, 76]) : decode c pc = .ok (.getfield 76, 3) := op_180 h rfl
theorem dw_299 (h : Pc9 c pc [153, 0, 14]) : decode c pc = .ok (.ifCond .eq 14, 3) := op_153 h (by decide +kernel)
theorem dw_300 (h : Pc9 c pc [16, 156]) : decode c pc = .ok (.bipush (-100), 2) := op_16 h (by decide +kernel)
theorem dw_301 (h : Pc9 c pc [180, 0, 80]) : decode c pc = .ok (.getfield 80, 3) := op_180 h rfl
theorem dw_302 (h : Pc9 c pc [182, 0, 83]) : decode c pc = .ok (.invokevirtual 83, 3) := op_182 h rfl
theorem dw_303 (h : Pc9 c pc [181, 0, 86]) : decode c pc = .ok (.putfield 86, 3) := op_181 h rfl
theorem dw_304 (h : Pc9 c pc [180, 0, 89]) : decode c pc = .ok (.getfield 89, 3) := op_180 h rfl
theorem dw_305 (h : Pc9 c pc [167, 0, 10]) : decode c pc = .ok (.goto 10, 3) := op_167 h (by decide +kernel)
theorem dw_306 (h : Pc9 c pc [180, 0, 92]) : decode c pc = .ok (.getfield 92, 3) := op_180 h rfl
theorem dw_307 (h : Pc9 c pc [182, 0, 95]) : decode c pc = .ok (.invokevirtual 95, 3) := op_182 h rfl
theorem dw_308 (h : Pc9 c pc [180, 0, 99]) : decode c pc = .ok (.getfield 99, 3) := op_180 h rfl
theorem dw_309 (h : Pc9 c pc [182, 0, 102]) : decode c pc = .ok (.invokevirtual 102, 3) := op_182 h rfl
theorem dw_310 (h : Pc9 c pc [180, 0, 106]) : decode c pc = .ok (.getfield 106, 3) := op_180 h rfl
theorem dw_311 (h : Pc9 c pc [182, 0, 109]) : decode c pc = .ok (.invokevirtual 109, 3) := op_182 h rfl
theorem dw_312 (h : Pc9 c pc [182, 0, 112]) : decode c pc = .ok (.invokevirtual 112, 3) := op_182 h rfl
theorem dw_313 (h : Pc9 c pc [184, 0, 116]) : decode c pc = .ok (.invokestatic 116, 3) := op_184 h rfl
theorem dw_314 (h : Pc9 c pc [182, 0, 120]) : decode c pc = .ok (.invokevirtual 120, 3) := op_182 h rfl
theorem dw_315 (h : Pc9 c pc [184, 0, 124]) : decode c pc = .ok (.invokestatic 124, 3) := op_184 h rfl
theorem op_173 (h : Pc9 c pc [173]) : decode c pc = .ok (.lreturn, 1) := o_start (op := 173) (f := _) rfl (pc_at h 0 rfl) rfl rfl rfl
theorem dw_316 (h : Pc9 c pc [173]) : decode c pc = .ok (.lreturn, 1) := op_173 h
theorem dw_317 (h : Pc9 c pc [184, 0, 128]) : decode c pc = .ok (.invokestatic 128, 3) := op_184 h rfl
theorem dw_318 (h : Pc9 c pc [184, 0, 132]) : decode c pc = .ok (.invokestatic 132, 3) := op_184 h rfl
theorem dw_319 (h : Pc9 c pc [182, 0, 222]) : decode c pc = .ok (.invokevirtual 222, 3) := op_182 h rfl
theorem dw_320 (h : Pc9 c pc [180, 0, 225]) : decode c pc = .ok (.getfield 225, 3) := op_180 h rfl
theorem dw_321 (h : Pc9 c pc [58, 5]) : decode c pc = .ok (.astore 5, 2) := op_58 h rfl
theorem dw_322 (h : Pc9 c pc [25, 5]) : decode c pc = .ok (.aload 5, 2) := op_25 h rfl
theorem dw_323 (h : Pc9 c pc [180, 0, 229]) : decode c pc = .ok (.getfield 229, 3) := op_180 h rfl
theorem dw_324 (h : Pc9 c pc [160, 0, 11]) : decode c pc = .ok (.if_icmp .ne 11, 3) := op_160 h (by decide +kernel)
theorem dw_325 (h : Pc9 c pc [182, 0, 234]) : decode c pc = .ok (.invokevirtual 234, 3) := op_182 h rfl
theorem dw_326 (h : Pc9 c pc [182, 0, 162]) : decode c pc = .ok (.invokevirtual 162, 3) := op_182 h rfl
theorem dw_327 (h : Pc9 c pc [182, 0, 192]) : decode c pc = .ok (.invokevirtual 192, 3) := op_182 h rfl
theorem dw_328 (h : Pc9 c pc [54, 7]) : decode c pc = .ok (.istore 7, 2) := op_54 h rfl
theorem dw_329 (h : Pc9 c pc [21, 7]) : decode c pc = .ok (.iload 7, 2) := op_21 h rfl
theorem dw_330 (h : Pc9 c pc [182, 0, 237]) : decode c pc = .ok (.invokevirtual 237, 3) := op_182 h rfl
theorem dw_331 (h : Pc9 c pc [167, 0, 22]) : decode c pc = .ok (.goto 22, 3) := op_167 h (by decide +kernel)
theorem dw_332 (h : Pc9 c pc [182, 0, 240]) : decode c pc = .ok (.invokevirtual 240, 3) := op_182 h rfl
theorem op_33 (h : Pc9 c pc [33]) : decode c pc = .ok (.lload_n 3, 1) := o_start (op := 33) (f := _) rfl (pc_at h 0 rfl) rfl rfl rfl
theorem dw_333 (h : Pc9 c pc [33]) : decode c pc = .ok (.lload_n 3, 1) := op_33 h
theorem dw_334 (h : Pc9 c pc [182, 0, 244]) : decode c pc = .ok (.invokevirtual 244, 3) := op_182 h rfl
theorem dw_335 (h : Pc9 c pc [182, 0, 141]) : decode c pc = .ok (.invokevirtual 141, 3) := op_182 h rfl
theorem dw_336 (h : Pc9 c pc [182, 0, 247]) : decode c pc = .ok (.invokevirtual 247, 3) := op_182 h rfl
theorem dw_337 (h : Pc9 c pc [180, 0, 58]) : decode c pc = .ok (.getfield 58, 3) := op_180 h rfl
theorem dw_338 (h : Pc9 c pc [184, 0, 149]) : decode c pc = .ok (.invokestatic 149, 3) := op_184 h rfl
theorem dw_339 (h : Pc9 c pc [167, 255, 220]) : decode c pc = .ok (.goto (-36), 3) := op_167 h (by decide +kernel)
theorem dw_340 (h : Pc9 c pc [162, 0, 37]) : decode c pc = .ok (.if_icmp .ge 37, 3) := op_162 h (by decide +kernel)
theorem dw_341 (h : Pc9 c pc [184, 0, 250]) : decode c pc = .ok (.invokestatic 250, 3) := op_184 h rfl
theorem dw_342 (h : Pc9 c pc [167, 255, 213]) : decode c pc = .ok (.goto (-43), 3) := op_167 h (by decide +kernel)
theorem dw_343 (h : Pc9 c pc [182, 0, 253]) : decode c pc = .ok (.invokevirtual 253, 3) := op_182 h rfl
theorem dw_344 (h : Pc9 c pc [182, 1, 1]) : decode c pc = .ok (.invokevirtual 257, 3) := op_182 h rfl
theorem dw_345 (h : Pc9 c pc [182, 1, 5]) : decode c pc = .ok (.invokevirtual 261, 3) := op_182 h rfl
theorem op_19 {a b : UInt8} {v : Nat} (h : Pc9 c pc [19, a, b]) (e : a.toNat * 256 + b.toNat = v) : decode c pc = .ok (.ldc_w v, 3) := o_start (op := 19) (f := _) rfl (pc_at h 0 rfl) rfl (k_u2 (g := fun x => .ldc_w x) (pc_at h 1 rfl) (pc_at h 2 rfl) e) rfl
theorem dw_346 (h : Pc9 c pc [19, 1, 8]) : decode c pc = .ok (.ldc_w 264, 3) := op_19 h rfl
theorem dw_347 (h : Pc9 c pc [182, 1, 9]) : decode c pc = .ok (.invokevirtual 265, 3) := op_182 h rfl
theorem op_158 {a b : UInt8} {v : Int} (h : Pc9 c pc [158, a, b]) (e : Jvm.ClassFile.Reader.signed 16 (a.toNat * 256 + b.toNat) = v) : decode c pc = .ok (.ifCond .le v, 3) := o_start (op := 158) (f := _) rfl (pc_at h 0 rfl) rfl (k_s2 (g := fun x => .ifCond .le x) (pc_at h 1 rfl) (pc_at h 2 rfl) e) rfl
theorem dw_348 (h : Pc9 c pc [158, 0, 7]) : decode c pc = .ok (.ifCond .le 7, 3) := op_158 h (by decide +kernel)
theorem dw_349 (h : Pc9 c pc [180, 0, 54]) : decode c pc = .ok (.getfield 54, 3) := op_180 h rfl
theorem dw_350 (h : Pc9 c pc [182, 1, 13]) : decode c pc = .ok (.invokevirtual 269, 3) := op_182 h rfl
theorem dw_351 (h : Pc9 c pc [180, 0, 207]) : decode c pc = .ok (.getfield 207, 3) := op_180 h rfl
theorem dw_352 (h : Pc9 c pc [162, 0, 6]) : decode c pc = .ok (.if_icmp .ge 6, 3) := op_162 h (by decide +kernel)
theorem dw_353 (h : Pc9 c pc [16, 253]) : decode c pc = .ok (.bipush (-3), 2) := op_16 h (by decide +kernel)
theorem dw_354 (h : Pc9 c pc [180, 1, 17]) : decode c pc = .ok (.getfield 273, 3) := op_180 h rfl
theorem dw_355 (h : Pc9 c pc [180, 0, 166]) : decode c pc = .ok (.getfield 166, 3) := op_180 h rfl
theorem dw_356 (h : Pc9 c pc [184, 1, 20]) : decode c pc = .ok (.invokestatic 276, 3) := op_184 h rfl
theorem dw_357 (h : Pc9 c pc [182, 1, 26]) : decode c pc = .ok (.invokevirtual 282, 3) := op_182 h rfl
theorem dw_358 (h : Pc9 c pc [162, 0, 71]) : decode c pc = .ok (.if_icmp .ge 71, 3) := op_162 h (by decide +kernel)
theorem dw_359 (h : Pc9 c pc [160, 0, 7]) : decode c pc = .ok (.if_icmp .ne 7, 3) := op_160 h (by decide +kernel)
theorem dw_360 (h : Pc9 c pc [167, 0, 15]) : decode c pc = .ok (.goto 15, 3) := op_167 h (by decide +kernel)
theorem dw_361 (h : Pc9 c pc [167, 0, 5]) : decode c pc = .ok (.goto 5, 3) := op_167 h (by decide +kernel)
theorem dw_362 (h : Pc9 c pc [184, 1, 29]) : decode c pc = .ok (.invokestatic 285, 3) := op_184 h rfl
theorem dw_363 (h : Pc9 c pc [167, 255, 179]) : decode c pc = .ok (.goto (-77), 3) := op_167 h (by decide +kernel)
theorem op_87 (h : Pc9 c pc [87]) : decode c pc = .ok (.pop, 1) := o_start (op := 87) (f := _) rfl (pc_at h 0 rfl) rfl rfl rfl
theorem dw_364 (h : Pc9 c pc [87]) : decode c pc = .ok (.pop, 1) := op_87 h
theorem dw_365 (h : Pc9 c pc [181, 1, 32]) : decode c pc = .ok (.putfield 288, 3) := op_181 h rfl
theorem dw_366 (h : Pc9 c pc [182, 1, 36]) : decode c pc = .ok (.invokevirtual 292, 3) := op_182 h rfl
theorem dw_367 (h : Pc9 c pc [181, 0, 99]) : decode c pc = .ok (.putfield 99, 3) := op_181 h rfl
theorem dw_368 (h : Pc9 c pc [180, 1, 32]) : decode c pc = .ok (.getfield 288, 3) := op_180 h rfl
theorem dw_369 (h : Pc9 c pc [154, 0, 5]) : decode c pc = .ok (.ifCond .ne 5, 3) := op_154 h (by decide +kernel)
theorem dw_370 (h : Pc9 c pc [180, 1, 39]) : decode c pc = .ok (.getfield 295, 3) := op_180 h rfl
theorem dw_371 (h : Pc9 c pc [180, 1, 42]) : decode c pc = .ok (.getfield 298, 3) := op_180 h rfl
theorem dw_372 (h : Pc9 c pc [180, 1, 45]) : decode c pc = .ok (.getfield 301, 3) := op_180 h rfl
theorem dw_373 (h : Pc9 c pc [180, 1, 48]) : decode c pc = .ok (.getfield 304, 3) := op_180 h rfl
theorem dw_374 (h : Pc9 c pc [180, 1, 51]) : decode c pc = .ok (.getfield 307, 3) := op_180 h rfl
theorem dw_375 (h : Pc9 c pc [180, 1, 54]) : decode c pc = .ok (.getfield 310, 3) := op_180 h rfl
theorem dw_376 (h : Pc9 c pc [16, 7]) : decode c pc = .ok (.bipush 7, 2) := op_16 h (by decide +kernel)
theorem dw_377 (h : Pc9 c pc [167, 0, 9]) : decode c pc = .ok (.goto 9, 3) := op_167 h (by decide +kernel)
theorem dw_378 (h : Pc9 c pc [181, 1, 54]) : decode c pc = .ok (.putfield 310, 3) := op_181 h rfl
theorem dw_379 (h : Pc9 c pc [182, 1, 57]) : decode c pc = .ok (.invokevirtual 313, 3) := op_182 h rfl
theorem dw_380 (h : Pc9 c pc [182, 1, 60]) : decode c pc = .ok (.invokevirtual 316, 3) := op_182 h rfl
theorem dw_381 (h : Pc9 c pc [180, 0, 33]) : decode c pc = .ok (.getfield 33, 3) := op_180 h rfl
theorem op_51 (h : Pc9 c pc [51]) : decode c pc = .ok (.baload, 1) := o_start (op := 51) (f := _) rfl (pc_at h 0 rfl) rfl rfl rfl
theorem dw_382 (h : Pc9 c pc [51]) : decode c pc = .ok (.baload, 1) := op_51 h
theorem dw_383 (h : Pc9 c pc [155, 0, 9]) : decode c pc = .ok (.ifCond .lt 9, 3) := op_155 h (by decide +kernel)
theorem dw_384 (h : Pc9 c pc [161, 0, 14]) : decode c pc = .ok (.if_icmp .lt 14, 3) := op_161 h (by decide +kernel)
theorem dw_385 (h : Pc9 c pc [187, 1, 63]) : decode c pc = .ok (.new 319, 3) := op_187 h rfl
theorem dw_386 (h : Pc9 c pc [19, 1, 65]) : decode c pc = .ok (.ldc_w 321, 3) := op_19 h rfl
theorem dw_387 (h : Pc9 c pc [183, 1, 67]) : decode c pc = .ok (.invokespecial 323, 3) := op_183 h rfl
theorem op_191 (h : Pc9 c pc [191]) : decode c pc = .ok (.athrow, 1) := o_start (op := 191) (f := _) rfl (pc_at h 0 rfl) rfl rfl rfl
theorem dw_388 (h : Pc9 c pc [191]) : decode c pc = .ok (.athrow, 1) := op_191 h
theorem dw_389 (h : Pc9 c pc [155, 0, 14]) : decode c pc = .ok (.ifCond .lt 14, 3) := op_155 h (by decide +kernel)
theorem dw_390 (h : Pc9 c pc [19, 1, 70]) : decode c pc = .ok (.ldc_w 326, 3) := op_19 h rfl
theorem dw_391 (h : Pc9 c pc [182, 1, 72]) : decode c pc = .ok (.invokevirtual 328, 3) := op_182 h rfl
theorem dw_392 (h : Pc9 c pc [164, 0, 14]) : decode c pc = .ok (.if_icmp .le 14, 3) := op_164 h (by decide +kernel)
theorem dw_393 (h : Pc9 c pc [187, 1, 75]) : decode c pc = .ok (.new 331, 3) := op_187 h rfl
theorem dw_394 (h : Pc9 c pc [19, 1, 77]) : decode c pc = .ok (.ldc_w 333, 3) := op_19 h rfl
theorem dw_395 (h : Pc9 c pc [183, 1, 79]) : decode c pc = .ok (.invokespecial 335, 3) := op_183 h rfl
theorem dw_396 (h : Pc9 c pc [162, 0, 27]) : decode c pc = .ok (.if_icmp .ge 27, 3) := op_162 h (by decide +kernel)
theorem dw_397 (h : Pc9 c pc [167, 255, 229]) : decode c pc = .ok (.goto (-27), 3) := op_167 h (by decide +kernel)
theorem dw_398 (h : Pc9 c pc [184, 1, 80]) : decode c pc = .ok (.invokestatic 336, 3) := op_184 h rfl
theorem dw_399 (h : Pc9 c pc [162, 0, 19]) : decode c pc = .ok (.if_icmp .ge 19, 3) := op_162 h (by decide +kernel)
theorem dw_400 (h : Pc9 c pc [181, 1, 85]) : decode c pc = .ok (.putfield 341, 3) := op_181 h rfl
theorem dw_401 (h : Pc9 c pc [167, 255, 237]) : decode c pc = .ok (.goto (-19), 3) := op_167 h (by decide +kernel)
theorem op_77 (h : Pc9 c pc [77]) : decode c pc = .ok (.astore_n 2, 1) := o_start (op := 77) (f := _) rfl (pc_at h 0 rfl) rfl rfl rfl
theorem dw_402 (h : Pc9 c pc [77]) : decode c pc = .ok (.astore_n 2, 1) := op_77 h
theorem dw_403 (h : Pc9 c pc [180, 1, 85]) : decode c pc = .ok (.getfield 341, 3) := op_180 h rfl
theorem dw_404 (h : Pc9 c pc [154, 0, 19]) : decode c pc = .ok (.ifCond .ne 19, 3) := op_154 h (by decide +kernel)
theorem dw_405 (h : Pc9 c pc [182, 1, 88]) : decode c pc = .ok (.invokevirtual 344, 3) := op_182 h rfl
theorem dw_406 (h : Pc9 c pc [184, 0, 145]) : decode c pc = .ok (.invokestatic 145, 3) := op_184 h rfl
theorem dw_407 (h : Pc9 c pc [180, 1, 91]) : decode c pc = .ok (.getfield 347, 3) := op_180 h rfl
theorem dw_408 (h : Pc9 c pc [181, 1, 48]) : decode c pc = .ok (.putfield 304, 3) := op_181 h rfl
theorem dw_409 (h : Pc9 c pc [180, 1, 92]) : decode c pc = .ok (.getfield 348, 3) := op_180 h rfl
theorem dw_410 (h : Pc9 c pc [181, 1, 51]) : decode c pc = .ok (.putfield 307, 3) := op_181 h rfl
theorem dw_411 (h : Pc9 c pc [153, 0, 38]) : decode c pc = .ok (.ifCond .eq 38, 3) := op_153 h (by decide +kernel)
theorem dw_412 (h : Pc9 c pc [184, 1, 97]) : decode c pc = .ok (.invokestatic 353, 3) := op_184 h rfl
theorem dw_413 (h : Pc9 c pc [167, 255, 193]) : decode c pc = .ok (.goto (-63), 3) := op_167 h (by decide +kernel)
theorem op_26 (h : Pc9 c pc [26]) : decode c pc = .ok (.iload_n 0, 1) := o_start (op := 26) (f := _) rfl (pc_at h 0 rfl) rfl rfl rfl
theorem dw_414 (h : Pc9 c pc [26]) : decode c pc = .ok (.iload_n 0, 1) := op_26 h
theorem op_133 (h : Pc9 c pc [133]) : decode c pc = .ok (.i2l, 1) := o_start (op := 133) (f := _) rfl (pc_at h 0 rfl) rfl rfl rfl
theorem dw_415 (h : Pc9 c pc [133]) : decode c pc = .ok (.i2l, 1) := op_133 h
theorem dw_416 (h : Pc9 c pc [20, 1, 100]) : decode c pc = .ok (.ldc2_w 356, 3) := op_20 h rfl
theorem op_116 (h : Pc9 c pc [116]) : decode c pc = .ok (.ineg, 1) := o_start (op := 116) (f := _) rfl (pc_at h 0 rfl) rfl rfl rfl
theorem dw_417 (h : Pc9 c pc [116]) : decode c pc = .ok (.ineg, 1) := op_116 h
theorem dw_418 (h : Pc9 c pc [16, 31]) : decode c pc = .ok (.bipush 31, 2) := op_16 h (by decide +kernel)
theorem dw_419 (h : Pc9 c pc [162, 0, 23]) : decode c pc = .ok (.if_icmp .ge 23, 3) := op_162 h (by decide +kernel)
theorem dw_420 (h : Pc9 c pc [162, 0, 42]) : decode c pc = .ok (.if_icmp .ge 42, 3) := op_162 h (by decide +kernel)
theorem dw_421 (h : Pc9 c pc [159, 0, 36]) : decode c pc = .ok (.if_icmp .eq 36, 3) := op_159 h (by decide +kernel)
theorem dw_422 (h : Pc9 c pc [184, 0, 186]) : decode c pc = .ok (.invokestatic 186, 3) := op_184 h rfl
theorem dw_423 (h : Pc9 c pc [167, 255, 214]) : decode c pc = .ok (.goto (-42), 3) := op_167 h (by decide +kernel)
theorem dw_424 (h : Pc9 c pc [181, 0, 7]) : decode c pc = .ok (.putfield 7, 3) := op_181 h rfl
theorem dw_425 (h : Pc9 c pc [181, 0, 13]) : decode c pc = .ok (.putfield 13, 3) := op_181 h rfl
theorem dw_426 (h : Pc9 c pc [187, 0, 8]) : decode c pc = .ok (.new 8, 3) := op_187 h rfl
theorem dw_427 (h : Pc9 c pc [183, 0, 30]) : decode c pc = .ok (.invokespecial 30, 3) := op_183 h rfl
theorem op_76 (h : Pc9 c pc [76]) : decode c pc = .ok (.astore_n 1, 1) := o_start (op := 76) (f := _) rfl (pc_at h 0 rfl) rfl rfl rfl
theorem dw_428 (h : Pc9 c pc [76]) : decode c pc = .ok (.astore_n 1, 1) := op_76 h
theorem dw_429 (h : Pc9 c pc [180, 0, 7]) : decode c pc = .ok (.getfield 7, 3) := op_180 h rfl
theorem dw_430 (h : Pc9 c pc [162, 0, 77]) : decode c pc = .ok (.if_icmp .ge 77, 3) := op_162 h (by decide +kernel)
theorem op_192 {a b : UInt8} {v : Nat} (h : Pc9 c pc [192, a, b]) (e : a.toNat * 256 + b.toNat = v) : decode c pc = .ok (.checkcast v, 3) := o_start (op := 192) (f := _) rfl (pc_at h 0 rfl) rfl (k_u2 (g := fun x => .checkcast x) (pc_at h 1 rfl) (pc_at h 2 rfl) e) rfl
theorem dw_431 (h : Pc9 c pc [192, 0, 40]) : decode c pc = .ok (.checkcast 40, 3) := op_192 h rfl
theorem dw_432 (h : Pc9 c pc [167, 255, 223]) : decode c pc = .ok (.goto (-33), 3) := op_167 h (by decide +kernel)
theorem dw_433 (h : Pc9 c pc [180, 0, 13]) : decode c pc = .ok (.getfield 13, 3) := op_180 h rfl
theorem op_84 (h : Pc9 c pc [84]) : decode c pc = .ok (.bastore, 1) := o_start (op := 84) (f := _) rfl (pc_at h 0 rfl) rfl rfl rfl
theorem dw_434 (h : Pc9 c pc [84]) : decode c pc = .ok (.bastore, 1) := op_84 h
theorem dw_435 (h : Pc9 c pc [192, 0, 45]) : decode c pc = .ok (.checkcast 45, 3) := op_192 h rfl
theorem dw_436 (h : Pc9 c pc [154, 0, 4]) : decode c pc = .ok (.ifCond .ne 4, 3) := op_154 h (by decide +kernel)
theorem dw_437 (h : Pc9 c pc [182, 0, 47]) : decode c pc = .ok (.invokevirtual 47, 3) := op_182 h rfl
theorem dw_438 (h : Pc9 c pc [182, 0, 51]) : decode c pc = .ok (.invokevirtual 51, 3) := op_182 h rfl
theorem dw_439 (h : Pc9 c pc [162, 0, 136]) : decode c pc = .ok (.if_icmp .ge 136, 3) := op_162 h (by decide +kernel)
theorem dw_440 (h : Pc9 c pc [154, 0, 6]) : decode c pc = .ok (.ifCond .ne 6, 3) := op_154 h (by decide +kernel)
theorem dw_441 (h : Pc9 c pc [167, 0, 20]) : decode c pc = .ok (.goto 20, 3) := op_167 h (by decide +kernel)
theorem dw_442 (h : Pc9 c pc [162, 0, 69]) : decode c pc = .ok (.if_icmp .ge 69, 3) := op_162 h (by decide +kernel)
theorem dw_443 (h : Pc9 c pc [162, 0, 51]) : decode c pc = .ok (.if_icmp .ge 51, 3) := op_162 h (by decide +kernel)
theorem dw_444 (h : Pc9 c pc [153, 0, 33]) : decode c pc = .ok (.ifCond .eq 33, 3) := op_153 h (by decide +kernel)
theorem dw_445 (h : Pc9 c pc [132, 7, 1]) : decode c pc = .ok (.iinc 7 1, 3) := op_132 h rfl (by decide +kernel)
theorem dw_446 (h : Pc9 c pc [167, 255, 202]) : decode c pc = .ok (.goto (-54), 3) := op_167 h (by decide +kernel)
theorem dw_447 (h : Pc9 c pc [167, 255, 186]) : decode c pc = .ok (.goto (-70), 3) := op_167 h (by decide +kernel)
theorem dw_448 (h : Pc9 c pc [167, 255, 117]) : decode c pc = .ok (.goto (-139), 3) := op_167 h (by decide +kernel)
theorem op_190 (h : Pc9 c pc [190]) : decode c pc = .ok (.arraylength, 1) := o_start (op := 190) (f := _) rfl (pc_at h 0 rfl) rfl rfl rfl
theorem dw_449 (h : Pc9 c pc [190]) : decode c pc = .ok (.arraylength, 1) := op_190 h
theorem dw_450 (h : Pc9 c pc [162, 0, 60]) : decode c pc = .ok (.if_icmp .ge 60, 3) := op_162 h (by decide +kernel)
theorem dw_451 (h : Pc9 c pc [58, 7]) : decode c pc = .ok (.astore 7, 2) := op_58 h rfl
theorem dw_452 (h : Pc9 c pc [25, 7]) : decode c pc = .ok (.aload 7, 2) := op_25 h rfl
theorem dw_453 (h : Pc9 c pc [54, 8]) : decode c pc = .ok (.istore 8, 2) := op_54 h rfl
theorem dw_454 (h : Pc9 c pc [54, 9]) : decode c pc = .ok (.istore 9, 2) := op_54 h rfl
theorem dw_455 (h : Pc9 c pc [21, 9]) : decode c pc = .ok (.iload 9, 2) := op_21 h rfl
theorem dw_456 (h : Pc9 c pc [21, 8]) : decode c pc = .ok (.iload 8, 2) := op_21 h rfl
theorem dw_457 (h : Pc9 c pc [54, 10]) : decode c pc = .ok (.istore 10, 2) := op_54 h rfl
theorem dw_458 (h : Pc9 c pc [21, 10]) : decode c pc = .ok (.iload 10, 2) := op_21 h rfl
theorem dw_459 (h : Pc9 c pc [132, 9, 1]) : decode c pc = .ok (.iinc 9 1, 3) := op_132 h rfl (by decide +kernel)
theorem dw_460 (h : Pc9 c pc [162, 0, 52]) : decode c pc = .ok (.if_icmp .ge 52, 3) := op_162 h (by decide +kernel)
theorem dw_461 (h : Pc9 c pc [162, 0, 34]) : decode c pc = .ok (.if_icmp .ge 34, 3) := op_162 h (by decide +kernel)
theorem dw_462 (h : Pc9 c pc [159, 0, 7]) : decode c pc = .ok (.if_icmp .eq 7, 3) := op_159 h (by decide +kernel)
theorem op_66 (h : Pc9 c pc [66]) : decode c pc = .ok (.lstore_n 3, 1) := o_start (op := 66) (f := _) rfl (pc_at h 0 rfl) rfl rfl rfl
theorem dw_463 (h : Pc9 c pc [66]) : decode c pc = .ok (.lstore_n 3, 1) := op_66 h
theorem dw_464 (h : Pc9 c pc [153, 0, 10]) : decode c pc = .ok (.ifCond .eq 10, 3) := op_153 h (by decide +kernel)
theorem op_10 (h : Pc9 c pc [10]) : decode c pc = .ok (.lconst 1, 1) := o_start (op := 10) (f := _) rfl (pc_at h 0 rfl) rfl rfl rfl
theorem dw_465 (h : Pc9 c pc [10]) : decode c pc = .ok (.lconst 1, 1) := op_10 h
theorem op_121 (h : Pc9 c pc [121]) : decode c pc = .ok (.lshl, 1) := o_start (op := 121) (f := _) rfl (pc_at h 0 rfl) rfl rfl rfl
theorem dw_466 (h : Pc9 c pc [121]) : decode c pc = .ok (.lshl, 1) := op_121 h
theorem op_97 (h : Pc9 c pc [97]) : decode c pc = .ok (.ladd, 1) := o_start (op := 97) (f := _) rfl (pc_at h 0 rfl) rfl rfl rfl
theorem dw_467 (h : Pc9 c pc [97]) : decode c pc = .ok (.ladd, 1) := op_97 h
theorem dw_468 (h : Pc9 c pc [162, 0, 15]) : decode c pc = .ok (.if_icmp .ge 15, 3) := op_162 h (by decide +kernel)
theorem dw_469 (h : Pc9 c pc [162, 0, 118]) : decode c pc = .ok (.if_icmp .ge 118, 3) := op_162 h (by decide +kernel)
theorem dw_470 (h : Pc9 c pc [162, 0, 21]) : decode c pc = .ok (.if_icmp .ge 21, 3) := op_162 h (by decide +kernel)
theorem dw_471 (h : Pc9 c pc [132, 8, 1]) : decode c pc = .ok (.iinc 8 1, 3) := op_132 h rfl (by decide +kernel)
theorem dw_472 (h : Pc9 c pc [167, 255, 135]) : decode c pc = .ok (.goto (-121), 3) := op_167 h (by decide +kernel)
theorem dw_473 (h : Pc9 c pc [162, 0, 116]) : decode c pc = .ok (.if_icmp .ge 116, 3) := op_162 h (by decide +kernel)
theorem dw_474 (h : Pc9 c pc [162, 0, 98]) : decode c pc = .ok (.if_icmp .ge 98, 3) := op_162 h (by decide +kernel)
theorem op_112 (h : Pc9 c pc [112]) : decode c pc = .ok (.irem, 1) := o_start (op := 112) (f := _) rfl (pc_at h 0 rfl) rfl rfl rfl
theorem dw_475 (h : Pc9 c pc [112]) : decode c pc = .ok (.irem, 1) := op_112 h
theorem dw_476 (h : Pc9 c pc [167, 0, 17]) : decode c pc = .ok (.goto 17, 3) := op_167 h (by decide +kernel)
theorem dw_477 (h : Pc9 c pc [167, 0, 13]) : decode c pc = .ok (.goto 13, 3) := op_167 h (by decide +kernel)
theorem dw_478 (h : Pc9 c pc [167, 255, 155]) : decode c pc = .ok (.goto (-101), 3) := op_167 h (by decide +kernel)
theorem dw_479 (h : Pc9 c pc [167, 255, 137]) : decode c pc = .ok (.goto (-119), 3) := op_167 h (by decide +kernel)
theorem op_108 (h : Pc9 c pc [108]) : decode c pc = .ok (.idiv, 1) := o_start (op := 108) (f := _) rfl (pc_at h 0 rfl) rfl rfl rfl
theorem dw_480 (h : Pc9 c pc [108]) : decode c pc = .ok (.idiv, 1) := op_108 h
theorem dw_481 (h : Pc9 c pc [182, 0, 69]) : decode c pc = .ok (.invokevirtual 69, 3) := op_182 h rfl
theorem dw_482 (h : Pc9 c pc [160, 0, 14]) : decode c pc = .ok (.if_icmp .ne 14, 3) := op_160 h (by decide +kernel)
theorem dw_483 (h : Pc9 c pc [162, 0, 152]) : decode c pc = .ok (.if_icmp .ge 152, 3) := op_162 h (by decide +kernel)
theorem op_55 {a : UInt8} {v : Nat} (h : Pc9 c pc [55, a]) (e : a.toNat = v) : decode c pc = .ok (.lstore v, 2) := o_start (op := 55) (f := _) rfl (pc_at h 0 rfl) rfl (k_u1 (g := fun x => .lstore x) (pc_at h 1 rfl) e) rfl
theorem dw_484 (h : Pc9 c pc [55, 7]) : decode c pc = .ok (.lstore 7, 2) := op_55 h rfl
theorem op_22 {a : UInt8} {v : Nat} (h : Pc9 c pc [22, a]) (e : a.toNat = v) : decode c pc = .ok (.lload v, 2) := o_start (op := 22) (f := _) rfl (pc_at h 0 rfl) rfl (k_u1 (g := fun x => .lload x) (pc_at h 1 rfl) e) rfl
theorem dw_485 (h : Pc9 c pc [22, 7]) : decode c pc = .ok (.lload 7, 2) := op_22 h rfl
theorem op_129 (h : Pc9 c pc [129]) : decode c pc = .ok (.lor, 1) := o_start (op := 129) (f := _) rfl (pc_at h 0 rfl) rfl rfl rfl
theorem dw_486 (h : Pc9 c pc [129]) : decode c pc = .ok (.lor, 1) := op_129 h
theorem dw_487 (h : Pc9 c pc [55, 9]) : decode c pc = .ok (.lstore 9, 2) := op_55 h rfl
theorem dw_488 (h : Pc9 c pc [54, 11]) : decode c pc = .ok (.istore 11, 2) := op_54 h rfl
theorem dw_489 (h : Pc9 c pc [21, 11]) : decode c pc = .ok (.iload 11, 2) := op_21 h rfl
theorem op_123 (h : Pc9 c pc [123]) : decode c pc = .ok (.lshr, 1) := o_start (op := 123) (f := _) rfl (pc_at h 0 rfl) rfl rfl rfl
theorem dw_490 (h : Pc9 c pc [123]) : decode c pc = .ok (.lshr, 1) := op_123 h
theorem dw_491 (h : Pc9 c pc [153, 0, 36]) : decode c pc = .ok (.ifCond .eq 36, 3) := op_153 h (by decide +kernel)
theorem op_47 (h : Pc9 c pc [47]) : decode c pc = .ok (.laload, 1) := o_start (op := 47) (f := _) rfl (pc_at h 0 rfl) rfl rfl rfl
theorem dw_492 (h : Pc9 c pc [47]) : decode c pc = .ok (.laload, 1) := op_47 h
theorem dw_493 (h : Pc9 c pc [167, 0, 23]) : decode c pc = .ok (.goto 23, 3) := op_167 h (by decide +kernel)
theorem op_131 (h : Pc9 c pc [131]) : decode c pc = .ok (.lxor, 1) := o_start (op := 131) (f := _) rfl (pc_at h 0 rfl) rfl rfl rfl
theorem dw_494 (h : Pc9 c pc [131]) : decode c pc = .ok (.lxor, 1) := op_131 h
theorem dw_495 (h : Pc9 c pc [22, 9]) : decode c pc = .ok (.lload 9, 2) := op_22 h rfl
theorem dw_496 (h : Pc9 c pc [132, 11, 1]) : decode c pc = .ok (.iinc 11 1, 3) := op_132 h rfl (by decide +kernel)
theorem dw_497 (h : Pc9 c pc [167, 255, 199]) : decode c pc = .ok (.goto (-57), 3) := op_167 h (by decide +kernel)
theorem dw_498 (h : Pc9 c pc [184, 0, 77]) : decode c pc = .ok (.invokestatic 77, 3) := op_184 h rfl
theorem op_80 (h : Pc9 c pc [80]) : decode c pc = .ok (.lastore, 1) := o_start (op := 80) (f := _) rfl (pc_at h 0 rfl) rfl rfl rfl
theorem dw_499 (h : Pc9 c pc [80]) : decode c pc = .ok (.lastore, 1) := op_80 h
theorem dw_500 (h : Pc9 c pc [167, 255, 101]) : decode c pc = .ok (.goto (-155), 3) := op_167 h (by decide +kernel)
theorem op_32 (h : Pc9 c pc [32]) : decode c pc = .ok (.lload_n 2, 1) := o_start (op := 32) (f := _) rfl (pc_at h 0 rfl) rfl rfl rfl
theorem dw_501 (h : Pc9 c pc [32]) : decode c pc = .ok (.lload_n 2, 1) := op_32 h
theorem op_101 (h : Pc9 c pc [101]) : decode c pc = .ok (.lsub, 1) := o_start (op := 101) (f := _) rfl (pc_at h 0 rfl) rfl rfl rfl
theorem dw_502 (h : Pc9 c pc [101]) : decode c pc = .ok (.lsub, 1) := op_101 h
theorem dw_503 (h : Pc9 c pc [55, 6]) : decode c pc = .ok (.lstore 6, 2) := op_55 h rfl
theorem dw_504 (h : Pc9 c pc [55, 8]) : decode c pc = .ok (.lstore 8, 2) := op_55 h rfl
theorem dw_505 (h : Pc9 c pc [22, 6]) : decode c pc = .ok (.lload 6, 2) := op_22 h rfl
theorem dw_506 (h : Pc9 c pc [22, 8]) : decode c pc = .ok (.lload 8, 2) := op_22 h rfl
theorem dw_507 (h : Pc9 c pc [132, 10, 1]) : decode c pc = .ok (.iinc 10 1, 3) := op_132 h rfl (by decide +kernel)
theorem dw_508 (h : Pc9 c pc [20, 0, 83]) : decode c pc = .ok (.ldc2_w 83, 3) := op_20 h rfl
theorem dw_509 (h : Pc9 c pc [182, 0, 85]) : decode c pc = .ok (.invokevirtual 85, 3) := op_182 h rfl
theorem dw_510 (h : Pc9 c pc [55, 4]) : decode c pc = .ok (.lstore 4, 2) := op_55 h rfl
theorem dw_511 (h : Pc9 c pc [22, 4]) : decode c pc = .ok (.lload 4, 2) := op_22 h rfl
theorem op_156 {a b : UInt8} {v : Int} (h : Pc9 c pc [156, a, b]) (e : Jvm.ClassFile.Reader.signed 16 (a.toNat * 256 + b.toNat) = v) : decode c pc = .ok (.ifCond .ge v, 3) := o_start (op := 156) (f := _) rfl (pc_at h 0 rfl) rfl (k_s2 (g := fun x => .ifCond .ge x) (pc_at h 1 rfl) (pc_at h 2 rfl) e) rfl
theorem dw_512 (h : Pc9 c pc [156, 0, 5]) : decode c pc = .ok (.ifCond .ge 5, 3) := op_156 h (by decide +kernel)
theorem op_1 (h : Pc9 c pc [1]) : decode c pc = .ok (.aconst_null, 1) := o_start (op := 1) (f := _) rfl (pc_at h 0 rfl) rfl rfl rfl
theorem dw_513 (h : Pc9 c pc [1]) : decode c pc = .ok (.aconst_null, 1) := op_1 h
theorem dw_514 (h : Pc9 c pc [167, 255, 185]) : decode c pc = .ok (.goto (-71), 3) := op_167 h (by decide +kernel)
theorem dw_515 (h : Pc9 c pc [182, 0, 89]) : decode c pc = .ok (.invokevirtual 89, 3) := op_182 h rfl
theorem dw_516 (h : Pc9 c pc [162, 0, 73]) : decode c pc = .ok (.if_icmp .ge 73, 3) := op_162 h (by decide +kernel)
theorem dw_517 (h : Pc9 c pc [162, 0, 55]) : decode c pc = .ok (.if_icmp .ge 55, 3) := op_162 h (by decide +kernel)
theorem dw_518 (h : Pc9 c pc [167, 0, 36]) : decode c pc = .ok (.goto 36, 3) := op_167 h (by decide +kernel)
theorem dw_519 (h : Pc9 c pc [182, 0, 93]) : decode c pc = .ok (.invokevirtual 93, 3) := op_182 h rfl
theorem dw_520 (h : Pc9 c pc [167, 255, 180]) : decode c pc = .ok (.goto (-76), 3) := op_167 h (by decide +kernel)
theorem op_178 {a b : UInt8} {v : Nat} (h : Pc9 c pc [178, a, b]) (e : a.toNat * 256 + b.toNat = v) : decode c pc = .ok (.getstatic v, 3) := o_start (op := 178) (f := _) rfl (pc_at h 0 rfl) rfl (k_u2 (g := fun x => .getstatic x) (pc_at h 1 rfl) (pc_at h 2 rfl) e) rfl
theorem dw_521 (h : Pc9 c pc [178, 0, 18]) : decode c pc = .ok (.getstatic 18, 3) := op_178 h rfl
theorem dw_522 (h : Pc9 c pc [184, 0, 26]) : decode c pc = .ok (.invokestatic 26, 3) := op_184 h rfl
theorem dw_523 (h : Pc9 c pc [180, 0, 79]) : decode c pc = .ok (.getfield 79, 3) := op_180 h rfl
theorem dw_524 (h : Pc9 c pc [158, 0, 24]) : decode c pc = .ok (.ifCond .le 24, 3) := op_158 h (by decide +kernel)
theorem dw_525 (h : Pc9 c pc [182, 0, 104]) : decode c pc = .ok (.invokevirtual 104, 3) := op_182 h rfl
theorem dw_526 (h : Pc9 c pc [184, 0, 108]) : decode c pc = .ok (.invokestatic 108, 3) := op_184 h rfl
theorem dw_527 (h : Pc9 c pc [184, 0, 114]) : decode c pc = .ok (.invokestatic 114, 3) := op_184 h rfl
theorem dw_528 (h : Pc9 c pc [18, 39]) : decode c pc = .ok (.ldc 39, 2) := op_18 h rfl
theorem dw_529 (h : Pc9 c pc [160, 0, 13]) : decode c pc = .ok (.if_icmp .ne 13, 3) := op_160 h (by decide +kernel)
theorem dw_530 (h : Pc9 c pc [187, 0, 120]) : decode c pc = .ok (.new 120, 3) := op_187 h rfl
theorem dw_531 (h : Pc9 c pc [183, 0, 124]) : decode c pc = .ok (.invokespecial 124, 3) := op_183 h rfl
theorem op_199 {a b : UInt8} {v : Int} (h : Pc9 c pc [199, a, b]) (e : Jvm.ClassFile.Reader.signed 16 (a.toNat * 256 + b.toNat) = v) : decode c pc = .ok (.ifnonnull v, 3) := o_start (op := 199) (f := _) rfl (pc_at h 0 rfl) rfl (k_s2 (g := fun x => .ifnonnull x) (pc_at h 1 rfl) (pc_at h 2 rfl) e) rfl
theorem dw_532 (h : Pc9 c pc [199, 0, 8]) : decode c pc = .ok (.ifnonnull 8, 3) := op_199 h (by decide +kernel)
theorem dw_533 (h : Pc9 c pc [182, 0, 204]) : decode c pc = .ok (.invokevirtual 204, 3) := op_182 h rfl
theorem dw_534 (h : Pc9 c pc [182, 0, 32]) : decode c pc = .ok (.invokevirtual 32, 3) := op_182 h rfl
theorem dw_535 (h : Pc9 c pc [182, 0, 100]) : decode c pc = .ok (.invokevirtual 100, 3) := op_182 h rfl
theorem dw_536 (h : Pc9 c pc [182, 0, 208]) : decode c pc = .ok (.invokevirtual 208, 3) := op_182 h rfl
theorem dw_537 (h : Pc9 c pc [181, 0, 79]) : decode c pc = .ok (.putfield 79, 3) := op_181 h rfl
theorem dw_538 (h : Pc9 c pc [153, 0, 31]) : decode c pc = .ok (.ifCond .eq 31, 3) := op_153 h (by decide +kernel)
theorem dw_539 (h : Pc9 c pc [184, 0, 191]) : decode c pc = .ok (.invokestatic 191, 3) := op_184 h rfl
theorem dw_540 (h : Pc9 c pc [153, 0, 24]) : decode c pc = .ok (.ifCond .eq 24, 3) := op_153 h (by decide +kernel)
theorem op_90 (h : Pc9 c pc [90]) : decode c pc = .ok (.dup_x1, 1) := o_start (op := 90) (f := _) rfl (pc_at h 0 rfl) rfl rfl rfl
theorem dw_541 (h : Pc9 c pc [90]) : decode c pc = .ok (.dup_x1, 1) := op_90 h
theorem op_145 (h : Pc9 c pc [145]) : decode c pc = .ok (.i2b, 1) := o_start (op := 145) (f := _) rfl (pc_at h 0 rfl) rfl rfl rfl
theorem dw_542 (h : Pc9 c pc [145]) : decode c pc = .ok (.i2b, 1) := op_145 h
theorem dw_543 (h : Pc9 c pc [167, 0, 33]) : decode c pc = .ok (.goto 33, 3) := op_167 h (by decide +kernel)
theorem dw_544 (h : Pc9 c pc [182, 0, 195]) : decode c pc = .ok (.invokevirtual 195, 3) := op_182 h rfl
theorem dw_545 (h : Pc9 c pc [184, 0, 197]) : decode c pc = .ok (.invokestatic 197, 3) := op_184 h rfl
theorem dw_546 (h : Pc9 c pc [184, 0, 245]) : decode c pc = .ok (.invokestatic 245, 3) := op_184 h rfl
theorem dw_547 (h : Pc9 c pc [153, 0, 16]) : decode c pc = .ok (.ifCond .eq 16, 3) := op_153 h (by decide +kernel)
theorem dw_548 (h : Pc9 c pc [184, 0, 248]) : decode c pc = .ok (.invokestatic 248, 3) := op_184 h rfl
theorem dw_549 (h : Pc9 c pc [167, 0, 14]) : decode c pc = .ok (.goto 14, 3) := op_167 h (by decide +kernel)
theorem dw_550 (h : Pc9 c pc [184, 0, 251]) : decode c pc = .ok (.invokestatic 251, 3) := op_184 h rfl
theorem dw_551 (h : Pc9 c pc [182, 0, 40]) : decode c pc = .ok (.invokevirtual 40, 3) := op_182 h rfl
theorem dw_552 (h : Pc9 c pc [182, 1, 141]) : decode c pc = .ok (.invokevirtual 397, 3) := op_182 h rfl
theorem dw_553 (h : Pc9 c pc [182, 1, 143]) : decode c pc = .ok (.invokevirtual 399, 3) := op_182 h rfl
theorem dw_554 (h : Pc9 c pc [156, 0, 7]) : decode c pc = .ok (.ifCond .ge 7, 3) := op_156 h (by decide +kernel)
theorem op_59 (h : Pc9 c pc [59]) : decode c pc = .ok (.istore_n 0, 1) := o_start (op := 59) (f := _) rfl (pc_at h 0 rfl) rfl rfl rfl
theorem dw_555 (h : Pc9 c pc [59]) : decode c pc = .ok (.istore_n 0, 1) := op_59 h
theorem dw_556 (h : Pc9 c pc [163, 0, 47]) : decode c pc = .ok (.if_icmp .gt 47, 3) := op_163 h (by decide +kernel)
theorem dw_557 (h : Pc9 c pc [16, 100]) : decode c pc = .ok (.bipush 100, 2) := op_16 h (by decide +kernel)
theorem dw_558 (h : Pc9 c pc [178, 0, 83]) : decode c pc = .ok (.getstatic 83, 3) := op_178 h rfl
theorem dw_559 (h : Pc9 c pc [178, 0, 87]) : decode c pc = .ok (.getstatic 87, 3) := op_178 h rfl
theorem dw_560 (h : Pc9 c pc [167, 255, 209]) : decode c pc = .ok (.goto (-47), 3) := op_167 h (by decide +kernel)
theorem dw_561 (h : Pc9 c pc [16, 247]) : decode c pc = .ok (.bipush (-9), 2) := op_16 h (by decide +kernel)
theorem dw_562 (h : Pc9 c pc [16, 45]) : decode c pc = .ok (.bipush 45, 2) := op_16 h (by decide +kernel)
theorem dw_563 (h : Pc9 c pc [155, 0, 8]) : decode c pc = .ok (.ifCond .lt 8, 3) := op_155 h (by decide +kernel)
theorem dw_564 (h : Pc9 c pc [16, 246]) : decode c pc = .ok (.bipush (-10), 2) := op_16 h (by decide +kernel)
theorem dw_565 (h : Pc9 c pc [164, 0, 7]) : decode c pc = .ok (.if_icmp .le 7, 3) := op_164 h (by decide +kernel)
theorem op_157 {a b : UInt8} {v : Int} (h : Pc9 c pc [157, a, b]) (e : Jvm.ClassFile.Reader.signed 16 (a.toNat * 256 + b.toNat) = v) : decode c pc = .ok (.ifCond .gt v, 3) := o_start (op := 157) (f := _) rfl (pc_at h 0 rfl) rfl (k_s2 (g := fun x => .ifCond .gt x) (pc_at h 1 rfl) (pc_at h 2 rfl) e) rfl
theorem dw_566 (h : Pc9 c pc [157, 0, 8]) : decode c pc = .ok (.ifCond .gt 8, 3) := op_157 h (by decide +kernel)
theorem dw_567 (h : Pc9 c pc [164, 0, 11]) : decode c pc = .ok (.if_icmp .le 11, 3) := op_164 h (by decide +kernel)
theorem dw_568 (h : Pc9 c pc [132, 1, 16]) : decode c pc = .ok (.iinc 1 16, 3) := op_132 h rfl (by decide +kernel)
theorem dw_569 (h : Pc9 c pc [16, 16]) : decode c pc = .ok (.bipush 16, 2) := op_16 h (by decide +kernel)
theorem dw_570 (h : Pc9 c pc [132, 1, 8]) : decode c pc = .ok (.iinc 1 8, 3) := op_132 h rfl (by decide +kernel)
theorem dw_571 (h : Pc9 c pc [164, 0, 10]) : decode c pc = .ok (.if_icmp .le 10, 3) := op_164 h (by decide +kernel)
theorem dw_572 (h : Pc9 c pc [132, 1, 4]) : decode c pc = .ok (.iinc 1 4, 3) := op_132 h rfl (by decide +kernel)
theorem dw_573 (h : Pc9 c pc [132, 1, 2]) : decode c pc = .ok (.iinc 1 2, 3) := op_132 h rfl (by decide +kernel)
theorem dw_574 (h : Pc9 c pc [19, 1, 9]) : decode c pc = .ok (.ldc_w 265, 3) := op_19 h rfl
theorem dw_575 (h : Pc9 c pc [19, 1, 10]) : decode c pc = .ok (.ldc_w 266, 3) := op_19 h rfl
theorem dw_576 (h : Pc9 c pc [19, 1, 11]) : decode c pc = .ok (.ldc_w 267, 3) := op_19 h rfl
theorem dw_577 (h : Pc9 c pc [16, 63]) : decode c pc = .ok (.bipush 63, 2) := op_16 h (by decide +kernel)
theorem op_30 (h : Pc9 c pc [30]) : decode c pc = .ok (.lload_n 0, 1) := o_start (op := 30) (f := _) rfl (pc_at h 0 rfl) rfl rfl rfl
theorem dw_578 (h : Pc9 c pc [30]) : decode c pc = .ok (.lload_n 0, 1) := op_30 h
theorem dw_579 (h : Pc9 c pc [154, 0, 17]) : decode c pc = .ok (.ifCond .ne 17, 3) := op_154 h (by decide +kernel)
theorem dw_580 (h : Pc9 c pc [184, 1, 55]) : decode c pc = .ok (.invokestatic 311, 3) := op_184 h rfl
theorem dw_581 (h : Pc9 c pc [167, 0, 7]) : decode c pc = .ok (.goto 7, 3) := op_167 h (by decide +kernel)
theorem dw_582 (h : Pc9 c pc [161, 0, 7]) : decode c pc = .ok (.if_icmp .lt 7, 3) := op_161 h (by decide +kernel)
theorem dw_583 (h : Pc9 c pc [163, 0, 7]) : decode c pc = .ok (.if_icmp .gt 7, 3) := op_163 h (by decide +kernel)
theorem dw_584 (h : Pc9 c pc [183, 1, 233]) : decode c pc = .ok (.invokespecial 489, 3) := op_183 h rfl
theorem dw_585 (h : Pc9 c pc [182, 1, 79]) : decode c pc = .ok (.invokevirtual 335, 3) := op_182 h rfl
theorem dw_586 (h : Pc9 c pc [182, 1, 236]) : decode c pc = .ok (.invokevirtual 492, 3) := op_182 h rfl
theorem dw_587 (h : Pc9 c pc [184, 1, 239]) : decode c pc = .ok (.invokestatic 495, 3) := op_184 h rfl
theorem dw_588 (h : Pc9 c pc [184, 1, 242]) : decode c pc = .ok (.invokestatic 498, 3) := op_184 h rfl
theorem dw_589 (h : Pc9 c pc [160, 0, 23]) : decode c pc = .ok (.if_icmp .ne 23, 3) := op_160 h (by decide +kernel)
theorem dw_590 (h : Pc9 c pc [184, 0, 212]) : decode c pc = .ok (.invokestatic 212, 3) := op_184 h rfl
theorem dw_591 (h : Pc9 c pc [167, 0, 18]) : decode c pc = .ok (.goto 18, 3) := op_167 h (by decide +kernel)
theorem dw_592 (h : Pc9 c pc [184, 0, 106]) : decode c pc = .ok (.invokestatic 106, 3) := op_184 h rfl
theorem dw_593 (h : Pc9 c pc [182, 2, 40]) : decode c pc = .ok (.invokevirtual 552, 3) := op_182 h rfl
theorem dw_594 (h : Pc9 c pc [182, 2, 37]) : decode c pc = .ok (.invokevirtual 549, 3) := op_182 h rfl
theorem dw_595 (h : Pc9 c pc [182, 4, 23]) : decode c pc = .ok (.invokevirtual 1047, 3) := op_182 h rfl
theorem dw_596 (h : Pc9 c pc [153, 0, 22]) : decode c pc = .ok (.ifCond .eq 22, 3) := op_153 h (by decide +kernel)
theorem dw_597 (h : Pc9 c pc [184, 0, 54]) : decode c pc = .ok (.invokestatic 54, 3) := op_184 h rfl
theorem dw_598 (h : Pc9 c pc [167, 0, 59]) : decode c pc = .ok (.goto 59, 3) := op_167 h (by decide +kernel)
theorem dw_599 (h : Pc9 c pc [178, 0, 38]) : decode c pc = .ok (.getstatic 38, 3) := op_178 h rfl
theorem dw_600 (h : Pc9 c pc [180, 4, 24]) : decode c pc = .ok (.getfield 1048, 3) := op_180 h rfl
theorem dw_601 (h : Pc9 c pc [153, 0, 28]) : decode c pc = .ok (.ifCond .eq 28, 3) := op_153 h (by decide +kernel)
theorem dw_602 (h : Pc9 c pc [184, 4, 27]) : decode c pc = .ok (.invokestatic 1051, 3) := op_184 h rfl
theorem dw_603 (h : Pc9 c pc [178, 4, 29]) : decode c pc = .ok (.getstatic 1053, 3) := op_178 h rfl
theorem dw_604 (h : Pc9 c pc [184, 4, 35]) : decode c pc = .ok (.invokestatic 1059, 3) := op_184 h rfl
theorem dw_605 (h : Pc9 c pc [183, 0, 29]) : decode c pc = .ok (.invokespecial 29, 3) := op_183 h rfl
theorem dw_606 (h : Pc9 c pc [183, 0, 50]) : decode c pc = .ok (.invokespecial 50, 3) := op_183 h rfl
theorem dw_607 (h : Pc9 c pc [187, 0, 18]) : decode c pc = .ok (.new 18, 3) := op_187 h rfl
theorem dw_608 (h : Pc9 c pc [183, 0, 137]) : decode c pc = .ok (.invokespecial 137, 3) := op_183 h rfl
theorem dw_609 (h : Pc9 c pc [183, 1, 87]) : decode c pc = .ok (.invokespecial 343, 3) := op_183 h rfl
theorem dw_610 (h : Pc9 c pc [184, 0, 9]) : decode c pc = .ok (.invokestatic 9, 3) := op_184 h rfl
theorem dw_611 (h : Pc9 c pc [17, 0, 255]) : decode c pc = .ok (.sipush 255, 3) := op_17 h (by decide +kernel)
theorem op_146 (h : Pc9 c pc [146]) : decode c pc = .ok (.i2c, 1) := o_start (op := 146) (f := _) rfl (pc_at h 0 rfl) rfl rfl rfl
theorem dw_612 (h : Pc9 c pc [146]) : decode c pc = .ok (.i2c, 1) := op_146 h
theorem dw_613 (h : Pc9 c pc [178, 0, 39]) : decode c pc = .ok (.getstatic 39, 3) := op_178 h rfl
theorem dw_614 (h : Pc9 c pc [157, 0, 13]) : decode c pc = .ok (.ifCond .gt 13, 3) := op_157 h (by decide +kernel)
theorem op_165 {a b : UInt8} {v : Int} (h : Pc9 c pc [165, a, b]) (e : Jvm.ClassFile.Reader.signed 16 (a.toNat * 256 + b.toNat) = v) : decode c pc = .ok (.if_acmp .eq v, 3) := o_start (op := 165) (f := _) rfl (pc_at h 0 rfl) rfl (k_s2 (g := fun x => .if_acmp .eq x) (pc_at h 1 rfl) (pc_at h 2 rfl) e) rfl
theorem dw_615 (h : Pc9 c pc [165, 0, 28]) : decode c pc = .ok (.if_acmp .eq 28, 3) := op_165 h (by decide +kernel)
theorem dw_616 (h : Pc9 c pc [184, 0, 73]) : decode c pc = .ok (.invokestatic 73, 3) := op_184 h rfl
theorem dw_617 (h : Pc9 c pc [184, 0, 66]) : decode c pc = .ok (.invokestatic 66, 3) := op_184 h rfl
theorem dw_618 (h : Pc9 c pc [184, 0, 79]) : decode c pc = .ok (.invokestatic 79, 3) := op_184 h rfl
theorem dw_619 (h : Pc9 c pc [189, 0, 7]) : decode c pc = .ok (.anewarray 7, 3) := op_189 h rfl
theorem dw_620 (h : Pc9 c pc [180, 0, 48]) : decode c pc = .ok (.getfield 48, 3) := op_180 h rfl
theorem dw_621 (h : Pc9 c pc [160, 0, 8]) : decode c pc = .ok (.if_icmp .ne 8, 3) := op_160 h (by decide +kernel)
theorem dw_622 (h : Pc9 c pc [182, 0, 129]) : decode c pc = .ok (.invokevirtual 129, 3) := op_182 h rfl
theorem dw_623 (h : Pc9 c pc [181, 0, 48]) : decode c pc = .ok (.putfield 48, 3) := op_181 h rfl
theorem dw_624 (h : Pc9 c pc [180, 0, 63]) : decode c pc = .ok (.getfield 63, 3) := op_180 h rfl
theorem dw_625 (h : Pc9 c pc [181, 0, 63]) : decode c pc = .ok (.putfield 63, 3) := op_181 h rfl
theorem dw_626 (h : Pc9 c pc [182, 0, 131]) : decode c pc = .ok (.invokevirtual 131, 3) := op_182 h rfl
theorem dw_627 (h : Pc9 c pc [184, 0, 118]) : decode c pc = .ok (.invokestatic 118, 3) := op_184 h rfl
theorem dw_628 (h : Pc9 c pc [184, 0, 112]) : decode c pc = .ok (.invokestatic 112, 3) := op_184 h rfl
theorem dw_629 (h : Pc9 c pc [182, 1, 54]) : decode c pc = .ok (.invokevirtual 310, 3) := op_182 h rfl
theorem dw_630 (h : Pc9 c pc [192, 1, 55]) : decode c pc = .ok (.checkcast 311, 3) := op_192 h rfl
theorem dw_631 (h : Pc9 c pc [184, 1, 48]) : decode c pc = .ok (.invokestatic 304, 3) := op_184 h rfl
theorem dw_632 (h : Pc9 c pc [184, 0, 150]) : decode c pc = .ok (.invokestatic 150, 3) := op_184 h rfl
theorem dw_633 (h : Pc9 c pc [162, 0, 35]) : decode c pc = .ok (.if_icmp .ge 35, 3) := op_162 h (by decide +kernel)
theorem dw_634 (h : Pc9 c pc [187, 0, 43]) : decode c pc = .ok (.new 43, 3) := op_187 h rfl
theorem dw_635 (h : Pc9 c pc [187, 0, 45]) : decode c pc = .ok (.new 45, 3) := op_187 h rfl
theorem dw_636 (h : Pc9 c pc [183, 0, 47]) : decode c pc = .ok (.invokespecial 47, 3) := op_183 h rfl
theorem dw_637 (h : Pc9 c pc [182, 0, 54]) : decode c pc = .ok (.invokevirtual 54, 3) := op_182 h rfl
theorem dw_638 (h : Pc9 c pc [19, 1, 81]) : decode c pc = .ok (.ldc_w 337, 3) := op_19 h rfl
theorem dw_639 (h : Pc9 c pc [182, 0, 50]) : decode c pc = .ok (.invokevirtual 50, 3) := op_182 h rfl
theorem dw_640 (h : Pc9 c pc [182, 0, 61]) : decode c pc = .ok (.invokevirtual 61, 3) := op_182 h rfl
theorem dw_641 (h : Pc9 c pc [183, 0, 65]) : decode c pc = .ok (.invokespecial 65, 3) := op_183 h rfl
theorem dw_642 (h : Pc9 c pc [154, 0, 9]) : decode c pc = .ok (.ifCond .ne 9, 3) := op_154 h (by decide +kernel)
theorem dw_643 (h : Pc9 c pc [159, 0, 10]) : decode c pc = .ok (.if_icmp .eq 10, 3) := op_159 h (by decide +kernel)
theorem dw_644 (h : Pc9 c pc [184, 1, 83]) : decode c pc = .ok (.invokestatic 339, 3) := op_184 h rfl
theorem dw_645 (h : Pc9 c pc [184, 1, 87]) : decode c pc = .ok (.invokestatic 343, 3) := op_184 h rfl
theorem dw_646 (h : Pc9 c pc [184, 0, 105]) : decode c pc = .ok (.invokestatic 105, 3) := op_184 h rfl
theorem dw_647 (h : Pc9 c pc [184, 0, 194]) : decode c pc = .ok (.invokestatic 194, 3) := op_184 h rfl
theorem dw_648 (h : Pc9 c pc [18, 200]) : decode c pc = .ok (.ldc 200, 2) := op_18 h rfl
theorem dw_649 (h : Pc9 c pc [163, 0, 5]) : decode c pc = .ok (.if_icmp .gt 5, 3) := op_163 h (by decide +kernel)
theorem dw_650 (h : Pc9 c pc [184, 0, 201]) : decode c pc = .ok (.invokestatic 201, 3) := op_184 h rfl
theorem dw_651 (h : Pc9 c pc [161, 0, 10]) : decode c pc = .ok (.if_icmp .lt 10, 3) := op_161 h (by decide +kernel)
theorem dw_652 (h : Pc9 c pc [184, 0, 95]) : decode c pc = .ok (.invokestatic 95, 3) := op_184 h rfl
theorem dw_653 (h : Pc9 c pc [164, 0, 19]) : decode c pc = .ok (.if_icmp .le 19, 3) := op_164 h (by decide +kernel)
theorem dw_654 (h : Pc9 c pc [18, 7]) : decode c pc = .ok (.ldc 7, 2) := op_18 h rfl
theorem dw_655 (h : Pc9 c pc [167, 0, 11]) : decode c pc = .ok (.goto 11, 3) := op_167 h (by decide +kernel)
theorem dw_656 (h : Pc9 c pc [17, 30, 239]) : decode c pc = .ok (.sipush 7919, 3) := op_17 h (by decide +kernel)
theorem dw_657 (h : Pc9 c pc [182, 0, 8]) : decode c pc = .ok (.invokevirtual 8, 3) := op_182 h rfl
theorem dw_658 (h : Pc9 c pc [162, 0, 70]) : decode c pc = .ok (.if_icmp .ge 70, 3) := op_162 h (by decide +kernel)
theorem dw_659 (h : Pc9 c pc [182, 0, 14]) : decode c pc = .ok (.invokevirtual 14, 3) := op_182 h rfl
theorem dw_660 (h : Pc9 c pc [182, 0, 18]) : decode c pc = .ok (.invokevirtual 18, 3) := op_182 h rfl
theorem dw_661 (h : Pc9 c pc [159, 0, 6]) : decode c pc = .ok (.if_icmp .eq 6, 3) := op_159 h (by decide +kernel)
theorem dw_662 (h : Pc9 c pc [16, 157]) : decode c pc = .ok (.bipush (-99), 2) := op_16 h (by decide +kernel)
theorem dw_663 (h : Pc9 c pc [132, 3, 8]) : decode c pc = .ok (.iinc 3 8, 3) := op_132 h rfl (by decide +kernel)
theorem dw_664 (h : Pc9 c pc [167, 255, 184]) : decode c pc = .ok (.goto (-72), 3) := op_167 h (by decide +kernel)
theorem dw_665 (h : Pc9 c pc [182, 0, 24]) : decode c pc = .ok (.invokevirtual 24, 3) := op_182 h rfl
theorem dw_666 (h : Pc9 c pc [184, 0, 27]) : decode c pc = .ok (.invokestatic 27, 3) := op_184 h rfl
theorem dw_667 (h : Pc9 c pc [187, 0, 33]) : decode c pc = .ok (.new 33, 3) := op_187 h rfl
theorem dw_668 (h : Pc9 c pc [16, 9]) : decode c pc = .ok (.bipush 9, 2) := op_16 h (by decide +kernel)
theorem dw_669 (h : Pc9 c pc [183, 0, 35]) : decode c pc = .ok (.invokespecial 35, 3) := op_183 h rfl
theorem dw_670 (h : Pc9 c pc [18, 38]) : decode c pc = .ok (.ldc 38, 2) := op_18 h rfl
theorem dw_671 (h : Pc9 c pc [180, 0, 45]) : decode c pc = .ok (.getfield 45, 3) := op_180 h rfl
theorem dw_672 (h : Pc9 c pc [182, 0, 49]) : decode c pc = .ok (.invokevirtual 49, 3) := op_182 h rfl
theorem dw_673 (h : Pc9 c pc [16, 14]) : decode c pc = .ok (.bipush 14, 2) := op_16 h (by decide +kernel)
theorem dw_674 (h : Pc9 c pc [162, 1, 165]) : decode c pc = .ok (.if_icmp .ge 421, 3) := op_162 h (by decide +kernel)
theorem dw_675 (h : Pc9 c pc [180, 0, 52]) : decode c pc = .ok (.getfield 52, 3) := op_180 h rfl
theorem dw_676 (h : Pc9 c pc [58, 8]) : decode c pc = .ok (.astore 8, 2) := op_58 h rfl
theorem dw_677 (h : Pc9 c pc [25, 8]) : decode c pc = .ok (.aload 8, 2) := op_25 h rfl
theorem dw_678 (h : Pc9 c pc [18, 56]) : decode c pc = .ok (.ldc 56, 2) := op_18 h rfl
theorem dw_679 (h : Pc9 c pc [182, 0, 58]) : decode c pc = .ok (.invokevirtual 58, 3) := op_182 h rfl
theorem dw_680 (h : Pc9 c pc [167, 1, 27]) : decode c pc = .ok (.goto 283, 3) := op_167 h (by decide +kernel)
theorem dw_681 (h : Pc9 c pc [18, 61]) : decode c pc = .ok (.ldc 61, 2) := op_18 h rfl
theorem dw_682 (h : Pc9 c pc [17, 4, 0]) : decode c pc = .ok (.sipush 1024, 3) := op_17 h (by decide +kernel)
theorem dw_683 (h : Pc9 c pc [167, 0, 185]) : decode c pc = .ok (.goto 185, 3) := op_167 h (by decide +kernel)
theorem dw_684 (h : Pc9 c pc [18, 63]) : decode c pc = .ok (.ldc 63, 2) := op_18 h rfl
theorem dw_685 (h : Pc9 c pc [158, 0, 6]) : decode c pc = .ok (.ifCond .le 6, 3) := op_158 h (by decide +kernel)
theorem dw_686 (h : Pc9 c pc [167, 0, 172]) : decode c pc = .ok (.goto 172, 3) := op_167 h (by decide +kernel)
theorem dw_687 (h : Pc9 c pc [18, 64]) : decode c pc = .ok (.ldc 64, 2) := op_18 h rfl
theorem dw_688 (h : Pc9 c pc [18, 66]) : decode c pc = .ok (.ldc 66, 2) := op_18 h rfl
theorem dw_689 (h : Pc9 c pc [18, 68]) : decode c pc = .ok (.ldc 68, 2) := op_18 h rfl
theorem dw_690 (h : Pc9 c pc [18, 70]) : decode c pc = .ok (.ldc 70, 2) := op_18 h rfl
theorem dw_691 (h : Pc9 c pc [58, 10]) : decode c pc = .ok (.astore 10, 2) := op_58 h rfl
theorem dw_692 (h : Pc9 c pc [54, 12]) : decode c pc = .ok (.istore 12, 2) := op_54 h rfl
theorem dw_693 (h : Pc9 c pc [21, 12]) : decode c pc = .ok (.iload 12, 2) := op_21 h rfl
theorem dw_694 (h : Pc9 c pc [54, 13]) : decode c pc = .ok (.istore 13, 2) := op_54 h rfl
theorem dw_695 (h : Pc9 c pc [21, 13]) : decode c pc = .ok (.iload 13, 2) := op_21 h rfl
theorem dw_696 (h : Pc9 c pc [162, 0, 79]) : decode c pc = .ok (.if_icmp .ge 79, 3) := op_162 h (by decide +kernel)
theorem dw_697 (h : Pc9 c pc [167, 0, 49]) : decode c pc = .ok (.goto 49, 3) := op_167 h (by decide +kernel)
theorem dw_698 (h : Pc9 c pc [167, 0, 45]) : decode c pc = .ok (.goto 45, 3) := op_167 h (by decide +kernel)
theorem dw_699 (h : Pc9 c pc [159, 0, 34]) : decode c pc = .ok (.if_icmp .eq 34, 3) := op_159 h (by decide +kernel)
theorem dw_700 (h : Pc9 c pc [160, 0, 21]) : decode c pc = .ok (.if_icmp .ne 21, 3) := op_160 h (by decide +kernel)
theorem dw_701 (h : Pc9 c pc [160, 0, 17]) : decode c pc = .ok (.if_icmp .ne 17, 3) := op_160 h (by decide +kernel)
theorem dw_702 (h : Pc9 c pc [132, 13, 1]) : decode c pc = .ok (.iinc 13 1, 3) := op_132 h rfl (by decide +kernel)
theorem dw_703 (h : Pc9 c pc [167, 255, 173]) : decode c pc = .ok (.goto (-83), 3) := op_167 h (by decide +kernel)
theorem dw_704 (h : Pc9 c pc [132, 12, 1]) : decode c pc = .ok (.iinc 12 1, 3) := op_132 h rfl (by decide +kernel)
theorem dw_705 (h : Pc9 c pc [167, 255, 154]) : decode c pc = .ok (.goto (-102), 3) := op_167 h (by decide +kernel)
theorem dw_706 (h : Pc9 c pc [18, 72]) : decode c pc = .ok (.ldc 72, 2) := op_18 h rfl
theorem dw_707 (h : Pc9 c pc [25, 10]) : decode c pc = .ok (.aload 10, 2) := op_25 h rfl
theorem dw_708 (h : Pc9 c pc [167, 254, 90]) : decode c pc = .ok (.goto (-422), 3) := op_167 h (by decide +kernel)
theorem dw_709 (h : Pc9 c pc [162, 0, 45]) : decode c pc = .ok (.if_icmp .ge 45, 3) := op_162 h (by decide +kernel)
theorem dw_710 (h : Pc9 c pc [167, 0, 24]) : decode c pc = .ok (.goto 24, 3) := op_167 h (by decide +kernel)
theorem dw_711 (h : Pc9 c pc [180, 0, 74]) : decode c pc = .ok (.getfield 74, 3) := op_180 h rfl
theorem dw_712 (h : Pc9 c pc [18, 78]) : decode c pc = .ok (.ldc 78, 2) := op_18 h rfl
theorem dw_713 (h : Pc9 c pc [167, 255, 210]) : decode c pc = .ok (.goto (-46), 3) := op_167 h (by decide +kernel)
theorem dw_714 (h : Pc9 c pc [154, 0, 33]) : decode c pc = .ok (.ifCond .ne 33, 3) := op_154 h (by decide +kernel)
theorem dw_715 (h : Pc9 c pc [17, 8, 0]) : decode c pc = .ok (.sipush 2048, 3) := op_17 h (by decide +kernel)
theorem dw_716 (h : Pc9 c pc [181, 0, 80]) : decode c pc = .ok (.putfield 80, 3) := op_181 h rfl
theorem dw_717 (h : Pc9 c pc [18, 83]) : decode c pc = .ok (.ldc 83, 2) := op_18 h rfl
theorem dw_718 (h : Pc9 c pc [162, 0, 43]) : decode c pc = .ok (.if_icmp .ge 43, 3) := op_162 h (by decide +kernel)
theorem dw_719 (h : Pc9 c pc [182, 0, 88]) : decode c pc = .ok (.invokevirtual 88, 3) := op_182 h rfl
theorem dw_720 (h : Pc9 c pc [180, 0, 91]) : decode c pc = .ok (.getfield 91, 3) := op_180 h rfl
theorem dw_721 (h : Pc9 c pc [182, 0, 99]) : decode c pc = .ok (.invokevirtual 99, 3) := op_182 h rfl
theorem dw_722 (h : Pc9 c pc [167, 255, 138]) : decode c pc = .ok (.goto (-118), 3) := op_167 h (by decide +kernel)
theorem dw_723 (h : Pc9 c pc [160, 0, 52]) : decode c pc = .ok (.if_icmp .ne 52, 3) := op_160 h (by decide +kernel)
theorem dw_724 (h : Pc9 c pc [160, 0, 40]) : decode c pc = .ok (.if_icmp .ne 40, 3) := op_160 h (by decide +kernel)
theorem dw_725 (h : Pc9 c pc [160, 0, 31]) : decode c pc = .ok (.if_icmp .ne 31, 3) := op_160 h (by decide +kernel)
theorem dw_726 (h : Pc9 c pc [182, 0, 106]) : decode c pc = .ok (.invokevirtual 106, 3) := op_182 h rfl
theorem dw_727 (h : Pc9 c pc [180, 0, 109]) : decode c pc = .ok (.getfield 109, 3) := op_180 h rfl
theorem dw_728 (h : Pc9 c pc [160, 0, 19]) : decode c pc = .ok (.if_icmp .ne 19, 3) := op_160 h (by decide +kernel)
theorem dw_729 (h : Pc9 c pc [180, 0, 112]) : decode c pc = .ok (.getfield 112, 3) := op_180 h rfl
theorem dw_730 (h : Pc9 c pc [16, 15]) : decode c pc = .ok (.bipush 15, 2) := op_16 h (by decide +kernel)
theorem dw_731 (h : Pc9 c pc [16, 64]) : decode c pc = .ok (.bipush 64, 2) := op_16 h (by decide +kernel)
theorem dw_732 (h : Pc9 c pc [17, 2, 0]) : decode c pc = .ok (.sipush 512, 3) := op_17 h (by decide +kernel)
theorem dw_733 (h : Pc9 c pc [17, 32, 0]) : decode c pc = .ok (.sipush 8192, 3) := op_17 h (by decide +kernel)
theorem dw_734 (h : Pc9 c pc [18, 115]) : decode c pc = .ok (.ldc 115, 2) := op_18 h rfl
theorem dw_735 (h : Pc9 c pc [160, 0, 43]) : decode c pc = .ok (.if_icmp .ne 43, 3) := op_160 h (by decide +kernel)
theorem dw_736 (h : Pc9 c pc [182, 0, 116]) : decode c pc = .ok (.invokevirtual 116, 3) := op_182 h rfl
theorem dw_737 (h : Pc9 c pc [155, 0, 15]) : decode c pc = .ok (.ifCond .lt 15, 3) := op_155 h (by decide +kernel)
theorem dw_738 (h : Pc9 c pc [192, 0, 33]) : decode c pc = .ok (.checkcast 33, 3) := op_192 h rfl
theorem dw_739 (h : Pc9 c pc [182, 0, 124]) : decode c pc = .ok (.invokevirtual 124, 3) := op_182 h rfl
theorem dw_740 (h : Pc9 c pc [182, 0, 127]) : decode c pc = .ok (.invokevirtual 127, 3) := op_182 h rfl
theorem dw_741 (h : Pc9 c pc [58, 13]) : decode c pc = .ok (.astore 13, 2) := op_58 h rfl
theorem dw_742 (h : Pc9 c pc [54, 16]) : decode c pc = .ok (.istore 16, 2) := op_54 h rfl
theorem dw_743 (h : Pc9 c pc [58, 17]) : decode c pc = .ok (.astore 17, 2) := op_58 h rfl
theorem dw_744 (h : Pc9 c pc [25, 17]) : decode c pc = .ok (.aload 17, 2) := op_25 h rfl
theorem dw_745 (h : Pc9 c pc [58, 18]) : decode c pc = .ok (.astore 18, 2) := op_58 h rfl
theorem dw_746 (h : Pc9 c pc [54, 19]) : decode c pc = .ok (.istore 19, 2) := op_54 h rfl
theorem dw_747 (h : Pc9 c pc [54, 20]) : decode c pc = .ok (.istore 20, 2) := op_54 h rfl
theorem dw_748 (h : Pc9 c pc [21, 20]) : decode c pc = .ok (.iload 20, 2) := op_21 h rfl
theorem dw_749 (h : Pc9 c pc [21, 19]) : decode c pc = .ok (.iload 19, 2) := op_21 h rfl
theorem dw_750 (h : Pc9 c pc [25, 18]) : decode c pc = .ok (.aload 18, 2) := op_25 h rfl
theorem dw_751 (h : Pc9 c pc [132, 20, 1]) : decode c pc = .ok (.iinc 20 1, 3) := op_132 h rfl (by decide +kernel)
theorem dw_752 (h : Pc9 c pc [167, 255, 215]) : decode c pc = .ok (.goto (-41), 3) := op_167 h (by decide +kernel)
theorem dw_753 (h : Pc9 c pc [182, 0, 135]) : decode c pc = .ok (.invokevirtual 135, 3) := op_182 h rfl
theorem dw_754 (h : Pc9 c pc [182, 0, 139]) : decode c pc = .ok (.invokevirtual 139, 3) := op_182 h rfl
theorem dw_755 (h : Pc9 c pc [54, 14]) : decode c pc = .ok (.istore 14, 2) := op_54 h rfl
theorem dw_756 (h : Pc9 c pc [182, 0, 143]) : decode c pc = .ok (.invokevirtual 143, 3) := op_182 h rfl
theorem dw_757 (h : Pc9 c pc [54, 15]) : decode c pc = .ok (.istore 15, 2) := op_54 h rfl
theorem dw_758 (h : Pc9 c pc [167, 3, 221]) : decode c pc = .ok (.goto 989, 3) := op_167 h (by decide +kernel)
theorem dw_759 (h : Pc9 c pc [17, 3, 209]) : decode c pc = .ok (.sipush 977, 3) := op_17 h (by decide +kernel)
theorem dw_760 (h : Pc9 c pc [55, 18]) : decode c pc = .ok (.lstore 18, 2) := op_55 h rfl
theorem dw_761 (h : Pc9 c pc [22, 18]) : decode c pc = .ok (.lload 18, 2) := op_22 h rfl
theorem dw_762 (h : Pc9 c pc [54, 21]) : decode c pc = .ok (.istore 21, 2) := op_54 h rfl
theorem dw_763 (h : Pc9 c pc [21, 14]) : decode c pc = .ok (.iload 14, 2) := op_21 h rfl
theorem dw_764 (h : Pc9 c pc [21, 21]) : decode c pc = .ok (.iload 21, 2) := op_21 h rfl
theorem dw_765 (h : Pc9 c pc [167, 255, 191]) : decode c pc = .ok (.goto (-65), 3) := op_167 h (by decide +kernel)
theorem dw_766 (h : Pc9 c pc [182, 0, 147]) : decode c pc = .ok (.invokevirtual 147, 3) := op_182 h rfl
theorem dw_767 (h : Pc9 c pc [167, 3, 110]) : decode c pc = .ok (.goto 878, 3) := op_167 h (by decide +kernel)
theorem dw_768 (h : Pc9 c pc [182, 0, 151]) : decode c pc = .ok (.invokevirtual 151, 3) := op_182 h rfl
theorem dw_769 (h : Pc9 c pc [162, 0, 41]) : decode c pc = .ok (.if_icmp .ge 41, 3) := op_162 h (by decide +kernel)
theorem dw_770 (h : Pc9 c pc [167, 255, 211]) : decode c pc = .ok (.goto (-45), 3) := op_167 h (by decide +kernel)
theorem dw_771 (h : Pc9 c pc [132, 19, 1]) : decode c pc = .ok (.iinc 19 1, 3) := op_132 h rfl (by decide +kernel)
theorem dw_772 (h : Pc9 c pc [167, 255, 192]) : decode c pc = .ok (.goto (-64), 3) := op_167 h (by decide +kernel)
theorem dw_773 (h : Pc9 c pc [182, 0, 155]) : decode c pc = .ok (.invokevirtual 155, 3) := op_182 h rfl
theorem dw_774 (h : Pc9 c pc [182, 0, 159]) : decode c pc = .ok (.invokevirtual 159, 3) := op_182 h rfl
theorem dw_775 (h : Pc9 c pc [182, 0, 164]) : decode c pc = .ok (.invokevirtual 164, 3) := op_182 h rfl
theorem dw_776 (h : Pc9 c pc [167, 2, 242]) : decode c pc = .ok (.goto 754, 3) := op_167 h (by decide +kernel)
theorem dw_777 (h : Pc9 c pc [18, 167]) : decode c pc = .ok (.ldc 167, 2) := op_18 h rfl
theorem dw_778 (h : Pc9 c pc [58, 20]) : decode c pc = .ok (.astore 20, 2) := op_58 h rfl
theorem dw_779 (h : Pc9 c pc [162, 0, 167]) : decode c pc = .ok (.if_icmp .ge 167, 3) := op_162 h (by decide +kernel)
theorem dw_780 (h : Pc9 c pc [54, 22]) : decode c pc = .ok (.istore 22, 2) := op_54 h rfl
theorem dw_781 (h : Pc9 c pc [21, 22]) : decode c pc = .ok (.iload 22, 2) := op_21 h rfl
theorem dw_782 (h : Pc9 c pc [162, 0, 148]) : decode c pc = .ok (.if_icmp .ge 148, 3) := op_162 h (by decide +kernel)
theorem dw_783 (h : Pc9 c pc [25, 20]) : decode c pc = .ok (.aload 20, 2) := op_25 h rfl
theorem dw_784 (h : Pc9 c pc [167, 0, 103]) : decode c pc = .ok (.goto 103, 3) := op_167 h (by decide +kernel)
theorem dw_785 (h : Pc9 c pc [167, 0, 99]) : decode c pc = .ok (.goto 99, 3) := op_167 h (by decide +kernel)
theorem dw_786 (h : Pc9 c pc [160, 0, 33]) : decode c pc = .ok (.if_icmp .ne 33, 3) := op_160 h (by decide +kernel)
theorem dw_787 (h : Pc9 c pc [154, 0, 14]) : decode c pc = .ok (.ifCond .ne 14, 3) := op_154 h (by decide +kernel)
theorem dw_788 (h : Pc9 c pc [167, 0, 67]) : decode c pc = .ok (.goto 67, 3) := op_167 h (by decide +kernel)
theorem dw_789 (h : Pc9 c pc [167, 0, 63]) : decode c pc = .ok (.goto 63, 3) := op_167 h (by decide +kernel)
theorem dw_790 (h : Pc9 c pc [160, 0, 30]) : decode c pc = .ok (.if_icmp .ne 30, 3) := op_160 h (by decide +kernel)
theorem dw_791 (h : Pc9 c pc [167, 0, 34]) : decode c pc = .ok (.goto 34, 3) := op_167 h (by decide +kernel)
theorem dw_792 (h : Pc9 c pc [167, 0, 30]) : decode c pc = .ok (.goto 30, 3) := op_167 h (by decide +kernel)
theorem dw_793 (h : Pc9 c pc [132, 22, 1]) : decode c pc = .ok (.iinc 22 1, 3) := op_132 h rfl (by decide +kernel)
theorem dw_794 (h : Pc9 c pc [167, 255, 104]) : decode c pc = .ok (.goto (-152), 3) := op_167 h (by decide +kernel)
theorem dw_795 (h : Pc9 c pc [132, 21, 1]) : decode c pc = .ok (.iinc 21 1, 3) := op_132 h rfl (by decide +kernel)
theorem dw_796 (h : Pc9 c pc [167, 255, 85]) : decode c pc = .ok (.goto (-171), 3) := op_167 h (by decide +kernel)
theorem dw_797 (h : Pc9 c pc [182, 0, 168]) : decode c pc = .ok (.invokevirtual 168, 3) := op_182 h rfl
theorem dw_798 (h : Pc9 c pc [167, 2, 4]) : decode c pc = .ok (.goto 516, 3) := op_167 h (by decide +kernel)
theorem dw_799 (h : Pc9 c pc [182, 0, 172]) : decode c pc = .ok (.invokevirtual 172, 3) := op_182 h rfl
theorem dw_800 (h : Pc9 c pc [182, 0, 176]) : decode c pc = .ok (.invokevirtual 176, 3) := op_182 h rfl
theorem dw_801 (h : Pc9 c pc [167, 1, 204]) : decode c pc = .ok (.goto 460, 3) := op_167 h (by decide +kernel)
theorem dw_802 (h : Pc9 c pc [16, 40]) : decode c pc = .ok (.bipush 40, 2) := op_16 h (by decide +kernel)
theorem dw_803 (h : Pc9 c pc [54, 18]) : decode c pc = .ok (.istore 18, 2) := op_54 h rfl
theorem dw_804 (h : Pc9 c pc [21, 18]) : decode c pc = .ok (.iload 18, 2) := op_21 h rfl
theorem dw_805 (h : Pc9 c pc [182, 0, 178]) : decode c pc = .ok (.invokevirtual 178, 3) := op_182 h rfl
theorem dw_806 (h : Pc9 c pc [182, 0, 182]) : decode c pc = .ok (.invokevirtual 182, 3) := op_182 h rfl
theorem dw_807 (h : Pc9 c pc [167, 1, 144]) : decode c pc = .ok (.goto 400, 3) := op_167 h (by decide +kernel)
theorem dw_808 (h : Pc9 c pc [182, 0, 184]) : decode c pc = .ok (.invokevirtual 184, 3) := op_182 h rfl
theorem op_198 {a b : UInt8} {v : Int} (h : Pc9 c pc [198, a, b]) (e : Jvm.ClassFile.Reader.signed 16 (a.toNat * 256 + b.toNat) = v) : decode c pc = .ok (.ifnull v, 3) := o_start (op := 198) (f := _) rfl (pc_at h 0 rfl) rfl (k_s2 (g := fun x => .ifnull x) (pc_at h 1 rfl) (pc_at h 2 rfl) e) rfl
theorem dw_809 (h : Pc9 c pc [198, 0, 7]) : decode c pc = .ok (.ifnull 7, 3) := op_198 h (by decide +kernel)
theorem dw_810 (h : Pc9 c pc [21, 16]) : decode c pc = .ok (.iload 16, 2) := op_21 h rfl
theorem dw_811 (h : Pc9 c pc [153, 0, 13]) : decode c pc = .ok (.ifCond .eq 13, 3) := op_153 h (by decide +kernel)
theorem dw_812 (h : Pc9 c pc [182, 0, 187]) : decode c pc = .ok (.invokevirtual 187, 3) := op_182 h rfl
theorem dw_813 (h : Pc9 c pc [167, 1, 77]) : decode c pc = .ok (.goto 333, 3) := op_167 h (by decide +kernel)
theorem dw_814 (h : Pc9 c pc [182, 0, 190]) : decode c pc = .ok (.invokevirtual 190, 3) := op_182 h rfl
theorem dw_815 (h : Pc9 c pc [182, 0, 193]) : decode c pc = .ok (.invokevirtual 193, 3) := op_182 h rfl
theorem dw_816 (h : Pc9 c pc [182, 0, 196]) : decode c pc = .ok (.invokevirtual 196, 3) := op_182 h rfl
theorem dw_817 (h : Pc9 c pc [167, 1, 4]) : decode c pc = .ok (.goto 260, 3) := op_167 h (by decide +kernel)
theorem dw_818 (h : Pc9 c pc [162, 0, 92]) : decode c pc = .ok (.if_icmp .ge 92, 3) := op_162 h (by decide +kernel)
theorem dw_819 (h : Pc9 c pc [167, 255, 160]) : decode c pc = .ok (.goto (-96), 3) := op_167 h (by decide +kernel)
theorem dw_820 (h : Pc9 c pc [182, 0, 199]) : decode c pc = .ok (.invokevirtual 199, 3) := op_182 h rfl
theorem dw_821 (h : Pc9 c pc [167, 0, 116]) : decode c pc = .ok (.goto 116, 3) := op_167 h (by decide +kernel)
theorem dw_822 (h : Pc9 c pc [182, 0, 203]) : decode c pc = .ok (.invokevirtual 203, 3) := op_182 h rfl
theorem dw_823 (h : Pc9 c pc [182, 0, 207]) : decode c pc = .ok (.invokevirtual 207, 3) := op_182 h rfl
theorem dw_824 (h : Pc9 c pc [25, 13]) : decode c pc = .ok (.aload 13, 2) := op_25 h rfl
theorem dw_825 (h : Pc9 c pc [182, 0, 210]) : decode c pc = .ok (.invokevirtual 210, 3) := op_182 h rfl
theorem dw_826 (h : Pc9 c pc [164, 0, 13]) : decode c pc = .ok (.if_icmp .le 13, 3) := op_164 h (by decide +kernel)
theorem dw_827 (h : Pc9 c pc [21, 15]) : decode c pc = .ok (.iload 15, 2) := op_21 h rfl
theorem dw_828 (h : Pc9 c pc [182, 0, 214]) : decode c pc = .ok (.invokevirtual 214, 3) := op_182 h rfl
theorem dw_829 (h : Pc9 c pc [167, 0, 21]) : decode c pc = .ok (.goto 21, 3) := op_167 h (by decide +kernel)
theorem dw_830 (h : Pc9 c pc [182, 0, 221]) : decode c pc = .ok (.invokevirtual 221, 3) := op_182 h rfl
theorem dw_831 (h : Pc9 c pc [187, 0, 19]) : decode c pc = .ok (.new 19, 3) := op_187 h rfl
theorem dw_832 (h : Pc9 c pc [183, 0, 224]) : decode c pc = .ok (.invokespecial 224, 3) := op_183 h rfl
theorem dw_833 (h : Pc9 c pc [184, 0, 225]) : decode c pc = .ok (.invokestatic 225, 3) := op_184 h rfl
theorem dw_834 (h : Pc9 c pc [182, 0, 229]) : decode c pc = .ok (.invokevirtual 229, 3) := op_182 h rfl
theorem dw_835 (h : Pc9 c pc [187, 0, 41]) : decode c pc = .ok (.new 41, 3) := op_187 h rfl
theorem dw_836 (h : Pc9 c pc [183, 0, 232]) : decode c pc = .ok (.invokespecial 232, 3) := op_183 h rfl
theorem dw_837 (h : Pc9 c pc [189, 0, 33]) : decode c pc = .ok (.anewarray 33, 3) := op_189 h rfl
theorem dw_838 (h : Pc9 c pc [184, 0, 233]) : decode c pc = .ok (.invokestatic 233, 3) := op_184 h rfl
theorem dw_839 (h : Pc9 c pc [184, 0, 241]) : decode c pc = .ok (.invokestatic 241, 3) := op_184 h rfl
theorem dw_840 (h : Pc9 c pc [160, 0, 28]) : decode c pc = .ok (.if_icmp .ne 28, 3) := op_160 h (by decide +kernel)
theorem dw_841 (h : Pc9 c pc [154, 0, 21]) : decode c pc = .ok (.ifCond .ne 21, 3) := op_154 h (by decide +kernel)
theorem dw_842 (h : Pc9 c pc [187, 0, 117]) : decode c pc = .ok (.new 117, 3) := op_187 h rfl
theorem dw_843 (h : Pc9 c pc [183, 0, 250]) : decode c pc = .ok (.invokespecial 250, 3) := op_183 h rfl
theorem dw_844 (h : Pc9 c pc [16, 60]) : decode c pc = .ok (.bipush 60, 2) := op_16 h (by decide +kernel)
theorem dw_845 (h : Pc9 c pc [16, 20]) : decode c pc = .ok (.bipush 20, 2) := op_16 h (by decide +kernel)
theorem dw_846 (h : Pc9 c pc [184, 0, 255]) : decode c pc = .ok (.invokestatic 255, 3) := op_184 h rfl
theorem dw_847 (h : Pc9 c pc [153, 0, 60]) : decode c pc = .ok (.ifCond .eq 60, 3) := op_153 h (by decide +kernel)
theorem dw_848 (h : Pc9 c pc [153, 0, 49]) : decode c pc = .ok (.ifCond .eq 49, 3) := op_153 h (by decide +kernel)
theorem dw_849 (h : Pc9 c pc [153, 0, 39]) : decode c pc = .ok (.ifCond .eq 39, 3) := op_153 h (by decide +kernel)
theorem dw_850 (h : Pc9 c pc [184, 1, 3]) : decode c pc = .ok (.invokestatic 259, 3) := op_184 h rfl
theorem dw_851 (h : Pc9 c pc [153, 0, 27]) : decode c pc = .ok (.ifCond .eq 27, 3) := op_153 h (by decide +kernel)
theorem dw_852 (h : Pc9 c pc [19, 1, 7]) : decode c pc = .ok (.ldc_w 263, 3) := op_19 h rfl
theorem dw_853 (h : Pc9 c pc [184, 1, 8]) : decode c pc = .ok (.invokestatic 264, 3) := op_184 h rfl
theorem dw_854 (h : Pc9 c pc [153, 0, 42]) : decode c pc = .ok (.ifCond .eq 42, 3) := op_153 h (by decide +kernel)
end
