/-! ONE STEP of the pure machine: instructions that neither branch nor call nor make nor return. a, b: the class and the field of a getfield or putfield; the list of Bools: what must hold. -/
abbrev px_R : Type := List Bool × px_L × List Value × px_W
abbrev px_S : Type := px_L → List Value → px_W → Option px_R
def px_vb (i : Int32) (n : Nat) : Bool := !(decide (i < 0) || decide (n ≤ i.toNatClampNeg))
theorem px_vb_in {i : Int32} {n : Nat} (h : px_vb i n = true) : vp_in i n := by
  simp only [px_vb, Bool.not_eq_true', Bool.or_eq_false_iff, decide_eq_false_iff_not] at h
  intro hc
  exact hc.elim h.1 h.2
theorem px_vb_of {i : Int32} {n : Nat} (h : vp_in i n) : px_vb i n = true := by
  simp only [px_vb, Bool.not_eq_true', Bool.or_eq_false_iff, decide_eq_false_iff_not]
  exact ⟨fun hc => h (Or.inl hc), fun hc => h (Or.inr hc)⟩
def px_push (v : Value) : px_S := fun pl st W => some ([], pl, v :: st, W)
def px_ild (i : Nat) : px_S := fun pl st W => match pl[i]? with
  | some (some (.int x)) => some ([], pl, .int x :: st, W)
  | _ => none
def px_lld (i : Nat) : px_S := fun pl st W => match pl[i]? with
  | some (some (.long x)) => some ([], pl, .long x :: st, W)
  | _ => none
def px_ald (i : Nat) : px_S := fun pl st W => match pl[i]? with
  | some (some (.ref x)) => some ([], pl, .ref x :: st, W)
  | _ => none
def px_ist (i : Nat) : px_S := fun pl st W => match st with
  | .int x :: r => some ([], px_s1 pl i (.int x), r, W)
  | _ => none
def px_ast (i : Nat) : px_S := fun pl st W => match st with
  | .ref x :: r => some ([], px_s1 pl i (.ref x), r, W)
  | _ => none
def px_lst (i : Nat) : px_S := fun pl st W => match st with
  | .long x :: r => some ([], px_s2 pl i (.long x), r, W)
  | _ => none
def px_iinc (i : Nat) (n : Int) : px_S := fun pl st W => match pl[i]? with
  | some (some (.int x)) => some ([], px_s1 pl i (.int (x + Int32.ofInt n)), st, W)
  | _ => none
def px_i2 (f : Int32 → Int32 → Int32) : px_S := fun pl st W => match st with
  | .int y :: .int x :: r => some ([], pl, .int (f x y) :: r, W)
  | _ => none
def px_i2n (f : Int32 → Int32 → Int32) : px_S := fun pl st W => match st with
  | .int y :: .int x :: r => some ([!(y == 0)], pl, .int (f x y) :: r, W)
  | _ => none
def px_i1 (f : Int32 → Int32) : px_S := fun pl st W => match st with
  | .int x :: r => some ([], pl, .int (f x) :: r, W)
  | _ => none
def px_l2 (f : Int64 → Int64 → Int64) : px_S := fun pl st W => match st with
  | .long y :: .long x :: r => some ([], pl, .long (f x y) :: r, W)
  | _ => none
def px_lsh : px_S := fun pl st W => match st with
  | .int y :: .long x :: r => some ([], pl, .long (x <<< (y.toInt64 &&& 63)) :: r, W)
  | _ => none
def px_lcm : px_S := fun pl st W => match st with
  | .long y :: .long x :: r => some ([], pl, .int (lg_cmp x y) :: r, W)
  | _ => none
def px_il : px_S := fun pl st W => match st with
  | .int x :: r => some ([], pl, .long x.toInt64 :: r, W)
  | _ => none
def px_li : px_S := fun pl st W => match st with
  | .long x :: r => some ([], pl, .int x.toInt32 :: r, W)
  | _ => none
def px_dup : px_S := fun pl st W => match st with
  | .int x :: r => some ([], pl, .int x :: .int x :: r, W)
  | .ref x :: r => some ([], pl, .ref x :: .ref x :: r, W)
  | _ => none
def px_dup2 : px_S := fun pl st W => match st with
  | .int x :: .ref y :: r => some ([], pl, .int x :: .ref y :: .int x :: .ref y :: r, W)
  | .int x :: .int y :: r => some ([], pl, .int x :: .int y :: .int x :: .int y :: r, W)
  | _ => none
def px_get (ci k : Nat) : px_S := fun pl st W => match st with
  | .ref q :: r => match W[q]? with
    | some (.inr (cj, fs)) => match fs[k]? with
      | some v => if cj = ci then some ([], pl, v :: r, W) else none
      | none => none
    | _ => none
  | _ => none
/-- may a field of this kind (an int, a long, a reference; null: a boolean) hold this value? -/
def px_zc : Value → Value → Option (List Bool)
  | .int _, .int _ => some []
  | .long _, .long _ => some []
  | .ref _, .ref _ => some []
  | .null, .int x => some [x == 0 || x == 1]
  | _, _ => none
def px_put (ci k : Nat) (tag : Value) : px_S := fun pl st W => match st with
  | v :: .ref q :: r => match W[q]? with
    | some (.inr (cj, fs)) => match px_zc tag v with
      | some bs => if cj = ci then (if k < fs.length then some (bs, pl, r, W.set q (.inr (ci, fs.set k v))) else none) else none
      | none => none
    | _ => none
  | _ => none
def px_iald : px_S := fun pl st W => match st with
  | .int i :: .ref q :: r => match W[q]? with
    | some (.inl (.int, n, .inl f)) => some ([px_vb i n], pl, .int (f i.toNatClampNeg) :: r, W)
    | _ => none
  | _ => none
def px_bald : px_S := fun pl st W => match st with
  | .int i :: .ref q :: r => match W[q]? with
    | some (.inl (.byte, n, .inl f)) => some ([px_vb i n], pl, .int (f i.toNatClampNeg) :: r, W)
    | some (.inl (.boolean, n, .inl f)) => some ([px_vb i n], pl, .int (f i.toNatClampNeg) :: r, W)
    | _ => none
  | _ => none
def px_lald : px_S := fun pl st W => match st with
  | .int i :: .ref q :: r => match W[q]? with
    | some (.inl (.long, n, .inr (.inl f))) => some ([px_vb i n], pl, .long (f i.toNatClampNeg) :: r, W)
    | _ => none
  | _ => none
def px_iast : px_S := fun pl st W => match st with
  | .int x :: .int i :: .ref q :: r => match W[q]? with
    | some (.inl (.int, n, .inl f)) => some ([px_vb i n], pl, r, W.set q (.inl (.int, n, .inl (upd f i.toNatClampNeg x))))
    | _ => none
  | _ => none
def px_bast : px_S := fun pl st W => match st with
  | .int x :: .int i :: .ref q :: r => match W[q]? with
    | some (.inl (.byte, n, .inl f)) => some ([px_vb i n], pl, r, W.set q (.inl (.byte, n, .inl (upd f i.toNatClampNeg (vp_nar .byte x)))))
    | some (.inl (.boolean, n, .inl f)) => some ([px_vb i n], pl, r, W.set q (.inl (.boolean, n, .inl (upd f i.toNatClampNeg (vp_nar .boolean x)))))
    | _ => none
  | _ => none
def px_last : px_S := fun pl st W => match st with
  | .long x :: .int i :: .ref q :: r => match W[q]? with
    | some (.inl (.long, n, .inr (.inl f))) => some ([px_vb i n], pl, r, W.set q (.inl (.long, n, .inr (.inl (vp_updL f i.toNatClampNeg x)))))
    | _ => none
  | _ => none
def px_alen : px_S := fun pl st W => match st with
  | .ref q :: r => match W[q]? with
    | some (.inl (.int, n, _)) => some ([], pl, .int (Int32.ofNat n) :: r, W)
    | _ => none
  | _ => none
def px1 (a b : Nat) (v : Value) : Instr → px_S
  | .iconst n => px_push (.int (Int32.ofInt n))
  | .bipush n => px_push (.int (Int8.ofInt n).toInt32)
  | .sipush n => px_push (.int (Int16.ofInt n).toInt32)
  | .lconst n => px_push (.long (Int64.ofNat (n : Nat)))
  | .ldc _ => px_push v
  | .ldc_w _ => px_push v
  | .ldc2_w _ => px_push v
  | .iload i => px_ild i
  | .iload_n i => px_ild (i : Nat)
  | .lload i => px_lld i
  | .lload_n i => px_lld (i : Nat)
  | .aload i => px_ald i
  | .aload_n i => px_ald (i : Nat)
  | .istore i => px_ist i
  | .istore_n i => px_ist (i : Nat)
  | .astore i => px_ast i
  | .astore_n i => px_ast (i : Nat)
  | .lstore i => px_lst i
  | .lstore_n i => px_lst (i : Nat)
  | .iinc i n => px_iinc i n
  | .iadd => px_i2 (fun x y => x + y)
  | .isub => px_i2 (fun x y => x - y)
  | .imul => px_i2 (fun x y => x * y)
  | .iand => px_i2 (fun x y => x &&& y)
  | .ior => px_i2 (fun x y => x ||| y)
  | .ixor => px_i2 (fun x y => x ^^^ y)
  | .ishl => px_i2 (fun x y => x <<< (y &&& 31))
  | .ishr => px_i2 (fun x y => x >>> (y &&& 31))
  | .iushr => px_i2 (fun x y => (x.toUInt32 >>> (y.toUInt32 &&& Int32.toUInt32 31)).toInt32)
  | .idiv => px_i2n (fun x y => x / y)
  | .irem => px_i2n (fun x y => x - x / y * y)
  | .ineg => px_i1 (fun x => -x)
  | .i2b => px_i1 (fun x => x.toInt8.toInt32)
  | .i2c => px_i1 (fun x => (x.toUInt32 % 65536).toInt32)
  | .i2l => px_il
  | .l2i => px_li
  | .ladd => px_l2 (fun x y => x + y)
  | .lmul => px_l2 (fun x y => x * y)
  | .lor => px_l2 (fun x y => x ||| y)
  | .lshl => px_lsh
  | .lcmp => px_lcm
  | .dup => px_dup
  | .dup2 => px_dup2
  | .getfield _ => px_get a b
  | .putfield _ => px_put a b v
  | .iaload => px_iald
  | .baload => px_bald
  | .laload => px_lald
  | .iastore => px_iast
  | .bastore => px_bast
  | .lastore => px_last
  | .arraylength => px_alen
  | _ => fun _ _ _ => none
def px_len : Instr → Nat
  | .bipush _ => 2
  | .sipush _ => 3
  | .ldc _ => 2
  | .ldc_w _ => 3
  | .ldc2_w _ => 3
  | .iload _ => 2
  | .lload _ => 2
  | .aload _ => 2
  | .istore _ => 2
  | .astore _ => 2
  | .lstore _ => 2
  | .iinc _ _ => 3
  | .getfield _ => 3
  | .putfield _ => 3
  | _ => 1
/-! fields: which class and field an index of a class' pool names -/
def px_fw (own : String) (idx a b : Nat) : Prop := ∃ (C : String) (T : u_T) (N : Nat), vwCl[a]? = some (C, T, N) ∧ b < N ∧ (∀ w ∈ u_ws C T N, w ∈ px_tbl) ∧ Cond.fieldLink own idx (T b).1 (T b).2.1 (T b).2.2.1 ∈ px_tbl
def px_tg : Value → FieldType → Prop
  | .int _, ty => ty = .int
  | .long _, ty => ty = .long
  | .ref _, ty => ty.isReference = true
  | .null, ty => ty = .boolean
  | _, _ => False
def px_pw (own : String) (idx a b : Nat) (tag : Value) : Prop := ∃ (C : String) (T : u_T) (N : Nat) (ty0 : Nat → FieldType), vwCl[a]? = some (C, T, N) ∧ b < N ∧ (∀ w ∈ u_ws C T N, w ∈ px_tbl) ∧ Cond.fieldLink own idx (T b).1 (T b).2.1 (T b).2.2.1 ∈ px_tbl ∧ (∀ k, k < N → parseFieldDescriptor (T k).2.2.1 = some (ty0 k)) ∧ (∀ a, a < N → ∀ b, b < N → a ≠ b → (T a).2.1 ≠ (T b).2.1) ∧ (T b).2.2.2 = false ∧ px_tg tag (ty0 b)
def px_ok (own : String) (a b : Nat) (v : Value) : Instr → Prop
  | .getfield i => px_fw own i a b
  | .putfield i => px_pw own i a b v
  | .ldc i => ∃ x, v = .int x ∧ Cond.constant own i x ∈ px_tbl
  | .ldc_w i => ∃ x, v = .int x ∧ Cond.constant own i x ∈ px_tbl
  | .ldc2_w i => ∃ x, v = .long x ∧ Cond.constantLong own i x ∈ px_tbl
  | _ => True
theorem px_zc_ok {tag v : Value} {ty : FieldType} {bs : List Bool} (h : px_zc tag v = some bs) (hb : bs.all id = true) (ht : px_tg tag ty) : narrow ty v = v ∧ fits ty v = true := by
  unfold px_zc at h
  split at h
  · cases (show ty = .int from ht); exact ⟨rfl, rfl⟩
  · cases (show ty = .long from ht); exact ⟨rfl, rfl⟩
  · have ht : ty.isReference = true := ht
    cases ty <;> first | exact ⟨rfl, rfl⟩ | cases ht
  · rename_i x
    cases (show ty = .boolean from ht)
    cases h
    simp only [List.all_cons, List.all_nil, Bool.and_true, id_eq, Bool.or_eq_true, beq_iff_eq] at hb
    rcases hb with rfl | rfl <;> exact ⟨by decide, by decide⟩
  · cases h
