/-! decoding through a window of the code -/
def wOk (i : Jvm.ClassFile.Instr) : Bool := match i with
  | .tableswitch .. => false
  | .lookupswitch .. => false
  | .newarray .. => false
  | .multianewarray .. => false
  | .invokeinterface .. => false
  | .invokedynamic .. => false
  | _ => true
theorem u1_eq (c : ByteArray) (p : Nat) : (Jvm.ClassFile.Reader.u1 : Jvm.ClassFile.Decoder Nat) c p = match c.data.toList[p]? with
    | some b => .ok (b.toNat, p + 1)
    | none => .error (.truncated p) := by
  by_cases h : p < c.size
  · have e : c.data.toList[p]? = some c[p] := by
      rw [Array.getElem?_toList]
      exact Array.getElem?_eq_getElem h
    rw [e]
    show (dite (p < c.size) (fun h => _) (fun _ => _) : Jvm.ClassFile.Decoder Nat) c p = _
    rw [dif_pos h]
    rfl
  · have e : c.data.toList[p]? = none := by
      rw [Array.getElem?_toList]
      exact Array.getElem?_eq_none (Nat.not_lt.mp h)
    rw [e]
    show (dite (p < c.size) (fun h => _) (fun _ => _) : Jvm.ClassFile.Decoder Nat) c p = _
    rw [dif_neg h]
    rfl
/-- what is read through a window is read in the code -/
def Wn (c : ByteArray) (pc : Nat) (w : ByteArray) {α : Type} (P : α → Bool) (r r' : Jvm.ClassFile.Decoder α) : Prop := ∀ (i : Nat) (a : α) (j : Nat), r w i = .ok (a, j) → P a = true → r' c (pc + i) = .ok (a, pc + j)
section
variable {c w : ByteArray} {pc : Nat} {α β : Type}
theorem wn_pure {P : α → Bool} (a : α) : Wn c pc w P (pure a) (pure a) := fun i b j h _ => by
  have h2 : (Except.ok (a, i) : Except Jvm.ClassFile.DecodeError (α × Nat)) = .ok (b, j) := h
  cases h2
  rfl
theorem wn_throw {P : α → Bool} (e : Jvm.ClassFile.DecodeError) (r' : Jvm.ClassFile.Decoder α) : Wn c pc w P (throw e) r' := fun i b j h _ => by
  have h2 : (Except.error e : Except Jvm.ClassFile.DecodeError (α × Nat)) = .ok (b, j) := h
  cases h2
theorem wn_bind {P : α → Bool} {r r' : Jvm.ClassFile.Decoder β} {f f' : β → Jvm.ClassFile.Decoder α} (h1 : Wn c pc w (fun _ => true) r r') (h2 : ∀ b, Wn c pc w P (f b) (f' b)) : Wn c pc w P (r >>= f) (r' >>= f') := fun i a j h hP => by
  have h3 : (match r w i with
    | .ok (b, k) => f b w k
    | .error e => .error e) = .ok (a, j) := by
    rw [← h]
    show _ = Except.bind (r w i) _
    cases r w i <;> rfl
  cases h4 : r w i with
  | error e => rw [h4] at h3; cases h3
  | ok q =>
    obtain ⟨b, k⟩ := q
    rw [h4] at h3
    show Except.bind (r' c (pc + i)) _ = _
    rw [h1 i b k h4 rfl]
    exact h2 b k a j h3 hP
theorem wn_map {P : α → Bool} {r r' : Jvm.ClassFile.Decoder β} {f : β → α} (h1 : Wn c pc w (fun _ => true) r r') : Wn c pc w P (f <$> r) (f <$> r') := fun i a j h hP => by
  have h3 : (match r w i with
    | .ok (b, k) => Except.ok (f b, k)
    | .error e => .error e) = .ok (a, j) := by
    rw [← h]
    show _ = Except.map _ (r w i)
    cases r w i <;> rfl
  cases h4 : r w i with
  | error e => rw [h4] at h3; cases h3
  | ok q =>
    obtain ⟨b, k⟩ := q
    rw [h4] at h3
    cases h3
    show Except.map _ (r' c (pc + i)) = _
    rw [h1 i b _ h4 rfl]
    rfl
/-- the window is a piece of the code -/
def Pc9 (c : ByteArray) (pc : Nat) (w : List UInt8) : Prop := ((c.data.toList.drop pc).take w.length) = w
theorem wn_u1 {l : List UInt8} (h : Pc9 c pc l) {P : Nat → Bool} : Wn c pc ⟨l.toArray⟩ P Jvm.ClassFile.Reader.u1 Jvm.ClassFile.Reader.u1 := fun i a j h1 _ => by
  rw [u1_eq] at h1 ⊢
  have e : (⟨l.toArray⟩ : ByteArray).data.toList = l := rfl
  rw [e] at h1
  cases h2 : l[i]? with
  | none => rw [h2] at h1; cases h1
  | some b =>
    rw [h2] at h1
    cases h1
    have h3 : c.data.toList[pc + i]? = some b := by
      have h4 := h
      unfold Pc9 at h4
      rw [← h4, List.getElem?_take, List.getElem?_drop] at h2
      split at h2
      · exact h2
      · cases h2
    rw [h3]
    rfl
theorem wn_u2 {l : List UInt8} (h : Pc9 c pc l) {P : Nat → Bool} : Wn c pc ⟨l.toArray⟩ P Jvm.ClassFile.Reader.u2 Jvm.ClassFile.Reader.u2 := wn_bind (wn_u1 h) fun _ => wn_bind (wn_u1 h) fun _ => wn_pure _
theorem wn_u4 {l : List UInt8} (h : Pc9 c pc l) {P : Nat → Bool} : Wn c pc ⟨l.toArray⟩ P Jvm.ClassFile.Reader.u4 Jvm.ClassFile.Reader.u4 := wn_bind (wn_u2 h) fun _ => wn_bind (wn_u2 h) fun _ => wn_pure _
theorem wn_s1 {l : List UInt8} (h : Pc9 c pc l) {P : Int → Bool} : Wn c pc ⟨l.toArray⟩ P Jvm.ClassFile.Reader.s1 Jvm.ClassFile.Reader.s1 := wn_map (wn_u1 h)
theorem wn_s2 {l : List UInt8} (h : Pc9 c pc l) {P : Int → Bool} : Wn c pc ⟨l.toArray⟩ P Jvm.ClassFile.Reader.s2 Jvm.ClassFile.Reader.s2 := wn_map (wn_u2 h)
theorem wn_s4 {l : List UInt8} (h : Pc9 c pc l) {P : Int → Bool} : Wn c pc ⟨l.toArray⟩ P Jvm.ClassFile.Reader.s4 Jvm.ClassFile.Reader.s4 := wn_map (wn_u4 h)
/-- what must come of a read -/
def Rs9 (w : ByteArray) (P : α → Bool) (r : Jvm.ClassFile.Decoder α) : Prop := ∀ (i : Nat) (a : α) (j : Nat), r w i = .ok (a, j) → P a = true
theorem rs_pure {P : α → Bool} {a : α} (h : P a = true) : Rs9 w P (pure a) := fun i b j q => by
  have h2 : (Except.ok (a, i) : Except Jvm.ClassFile.DecodeError (α × Nat)) = .ok (b, j) := q
  cases h2
  exact h
theorem rs_bind {P : α → Bool} {r : Jvm.ClassFile.Decoder β} {f : β → Jvm.ClassFile.Decoder α} (h2 : ∀ b, Rs9 w P (f b)) : Rs9 w P (r >>= f) := fun i a j h => by
  have h3 : (match r w i with
    | .ok (b, k) => f b w k
    | .error e => .error e) = .ok (a, j) := by
    rw [← h]
    show _ = Except.bind (r w i) _
    cases r w i <;> rfl
  cases h4 : r w i with
  | error e => rw [h4] at h3; cases h3
  | ok q =>
    obtain ⟨b, k⟩ := q
    rw [h4] at h3
    exact h2 b k a j h3
theorem wn_none {P : α → Bool} {r r' : Jvm.ClassFile.Decoder α} (h : Rs9 w (fun a => !P a) r) : Wn c pc w P r r' := fun i a j q hP => by
  have h2 : (!P a) = true := h i a j q
  rw [hP] at h2
  cases h2
theorem rs_throw {P : α → Bool} (e : Jvm.ClassFile.DecodeError) : Rs9 w P (throw e) := fun i b j h => by
  have h2 : (Except.error e : Except Jvm.ClassFile.DecodeError (α × Nat)) = .ok (b, j) := h
  cases h2
theorem rs_tab {p : Nat} : Rs9 w (fun a => !wOk a) (Jvm.ClassFile.Decoder.tableswitch p) := by
  unfold Jvm.ClassFile.Decoder.tableswitch
  repeat (first | exact rs_pure rfl | exact rs_throw _ | refine rs_bind fun _ => ?_ | split)
theorem rs_lok {p : Nat} : Rs9 w (fun a => !wOk a) (Jvm.ClassFile.Decoder.lookupswitch p) := by
  unfold Jvm.ClassFile.Decoder.lookupswitch
  repeat (first | exact rs_pure rfl | exact rs_throw _ | refine rs_bind fun _ => ?_ | split)
theorem rs_na {p : Nat} : Rs9 w (fun a => !wOk a) (Jvm.ClassFile.Decoder.newarray p) := by
  unfold Jvm.ClassFile.Decoder.newarray
  repeat (first | exact rs_pure rfl | exact rs_throw _ | refine rs_bind fun _ => ?_ | split)
theorem rs_ma {p : Nat} : Rs9 w (fun a => !wOk a) (Jvm.ClassFile.Decoder.multianewarray p) := by
  unfold Jvm.ClassFile.Decoder.multianewarray
  repeat (first | exact rs_pure rfl | exact rs_throw _ | refine rs_bind fun _ => ?_ | split)
theorem rs_ii {p : Nat} : Rs9 w (fun a => !wOk a) (Jvm.ClassFile.Decoder.invokeinterface p) := by
  unfold Jvm.ClassFile.Decoder.invokeinterface
  repeat (first | exact rs_pure rfl | exact rs_throw _ | refine rs_bind fun _ => ?_ | split)
theorem rs_id {p : Nat} : Rs9 w (fun a => !wOk a) (Jvm.ClassFile.Decoder.invokedynamic p) := by
  unfold Jvm.ClassFile.Decoder.invokedynamic
  repeat (first | exact rs_pure rfl | exact rs_throw _ | refine rs_bind fun _ => ?_ | split)
theorem wn_wide {l : List UInt8} (h : Pc9 c pc l) {p q : Nat} : Wn c pc ⟨l.toArray⟩ wOk (Jvm.ClassFile.Decoder.wide p) (Jvm.ClassFile.Decoder.wide q) := by
  unfold Jvm.ClassFile.Decoder.wide
  refine wn_bind (wn_u1 h) fun op => ?_
  split
  all_goals first
    | exact wn_throw _ _
    | exact wn_bind (wn_u2 h) fun _ => wn_pure _
    | exact wn_bind (wn_u2 h) fun _ => wn_bind (wn_s2 h) fun _ => wn_pure _
set_option maxRecDepth 100000 in
set_option maxHeartbeats 4000000 in
theorem wn_ins {l : List UInt8} (h : Pc9 c pc l) : Wn c pc ⟨l.toArray⟩ wOk (Jvm.ClassFile.Decoder.instr 0) (Jvm.ClassFile.Decoder.instr pc) := by
  unfold Jvm.ClassFile.Decoder.instr
  refine wn_bind (wn_u1 h) fun op => ?_
  split
  all_goals first
    | exact wn_pure _
    | exact wn_throw _ _
    | exact wn_bind (wn_u1 h) fun _ => wn_pure _
    | exact wn_bind (wn_u2 h) fun _ => wn_pure _
    | exact wn_bind (wn_s1 h) fun _ => wn_pure _
    | exact wn_bind (wn_s2 h) fun _ => wn_pure _
    | exact wn_bind (wn_s4 h) fun _ => wn_pure _
    | exact wn_bind (wn_u1 h) fun _ => wn_bind (wn_s1 h) fun _ => wn_pure _
    | exact wn_none rs_tab
    | exact wn_none rs_lok
    | exact wn_none rs_na
    | exact wn_none rs_ma
    | exact wn_none rs_ii
    | exact wn_none rs_id
    | exact wn_wide h
/-- decoded through a window -/
theorem dec_w {ins : Jvm.ClassFile.Instr} {len : Nat} (l : List UInt8) (h : Pc9 c pc l) (h1 : decode ⟨l.toArray⟩ 0 = .ok (ins, len)) (h2 : wOk ins = true) : decode c pc = .ok (ins, len) := by
  unfold decode at h1 ⊢
  have h3 : (match (Jvm.ClassFile.Decoder.instr 0) ⟨l.toArray⟩ 0 with
    | .ok (a, k) => Except.ok (a, k - 0)
    | .error e => .error e) = .ok (ins, len) := by
    rw [← h1]
    show _ = Except.bind ((Jvm.ClassFile.Decoder.instr 0) ⟨l.toArray⟩ 0) _
    cases (Jvm.ClassFile.Decoder.instr 0) ⟨l.toArray⟩ 0 <;> rfl
  cases h4 : (Jvm.ClassFile.Decoder.instr 0) ⟨l.toArray⟩ 0 with
  | error e => rw [h4] at h3; cases h3
  | ok q =>
    obtain ⟨a, k⟩ := q
    rw [h4] at h3
    cases h3
    show Except.bind ((Jvm.ClassFile.Decoder.instr pc) c pc) _ = _
    have h5 := wn_ins h 0 _ k h4 h2
    rw [Nat.add_zero] at h5
    rw [h5]
    show Except.ok (_, pc + k - pc) = Except.ok (_, k - 0)
    rw [Nat.add_sub_cancel_left, Nat.sub_zero]
end
