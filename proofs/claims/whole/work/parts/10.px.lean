/-! THE PURE MACHINE. A world is a list of cells; a reference is a place in that list. -/
def px_tbl : List Cond := lw_tbl.filter goodWord
theorem px_tbl_good : ∀ w ∈ px_tbl, (w.onTables && w.keeps) = true ∨ ∃ ty, w = .arrayClass ty := fun w h => good_of_word (List.mem_filter.mp h).2
theorem px_tbl_hts {args : Array Value} {s : State} (h : ∀ w ∈ lw_tbl, w.before args s = true) : ∀ w ∈ px_tbl, w.before args s = true := fun w hw => h w (List.mem_filter.mp hw).1
def px_tr (ad : Nat → Nat) : Value → Value
  | .ref k => .ref (ad k)
  | .int x => .int x
  | .long x => .long x
  | .null => .null
  | .float x => .float x
  | .double x => .double x
  | .retAddr x => .retAddr x
theorem px_tr_cat (ad : Nat → Nat) (v : Value) : (px_tr ad v).category = v.category := by cases v <;> rfl
abbrev px_E : Type := (FieldType × vp_A) ⊕ (Nat × List Value)
abbrev px_W : Type := List px_E
abbrev px_L : Type := List (Option Value)
abbrev px_M : Type := MethodName × ByteArray × Nat × Option FieldType
def px_e (cA : FieldType → ClassId) (ad : Nat → Nat) : px_E → va_E
  | .inl x => .inl (cA x.1, x.2)
  | .inr o => .inr (o.1, o.2.map (px_tr ad))
def px_w (cA : FieldType → ClassId) (ad : Nat → Nat) (W : px_W) : va_W := W.mapIdx (fun k c => (ad k, px_e cA ad c))
theorem px_w_at {cA : FieldType → ClassId} {ad : Nat → Nat} {W : px_W} {k : Nat} {c : px_E} (h : W[k]? = some c) : (px_w cA ad W)[k]? = some (ad k, px_e cA ad c) := by
  simp [px_w, List.getElem?_mapIdx, h]
theorem px_w_of {cA : FieldType → ClassId} {ad : Nat → Nat} {W : px_W} {k : Nat} {q : Nat × va_E} (h : (px_w cA ad W)[k]? = some q) : ∃ c, W[k]? = some c ∧ q = (ad k, px_e cA ad c) := by
  simp only [px_w, List.getElem?_mapIdx, Option.map_eq_some_iff] at h
  obtain ⟨c, h1, h2⟩ := h
  exact ⟨c, h1, h2.symm⟩
theorem px_w_set {cA : FieldType → ClassId} {ad : Nat → Nat} {W : px_W} {k : Nat} {c : px_E} : (px_w cA ad W).set k (ad k, px_e cA ad c) = px_w cA ad (W.set k c) := by
  apply List.ext_getElem?
  intro j
  simp only [px_w, List.getElem?_set, List.getElem?_mapIdx, List.length_mapIdx]
  by_cases hj : k = j
  · subst hj
    by_cases hl : k < W.length <;> simp [hl]
  · simp [hj]
def px_tys (cA : FieldType → ClassId) : List (ClassId × FieldType) := [(cA .int, .int), (cA .byte, .byte), (cA .boolean, .boolean), (cA .long, .long)]
def px_room (d mc ms : Nat) : Room := { frames := d, cells := mc, slots := ms, locals := 60 * d }
/-! locals -/
def px_lr (ad : Nat → Nat) (n : Nat) (pl : px_L) (ls : Array Slot) : Prop := lv_has ls n [] ∧ ∀ (i : Nat) (v : Value), pl[i]? = some (some v) → ls[i]? = some (.val (px_tr ad v))
def px_kill (pl : px_L) : Nat → px_L
  | 0 => pl
  | k + 1 => match pl[k]? with
    | some (some (.long _)) => pl.set k none
    | some (some (.double _)) => pl.set k none
    | _ => pl
def px_s1 (pl : px_L) (i : Nat) (v : Value) : px_L := (px_kill pl i).set i (some v)
def px_s2 (pl : px_L) (i : Nat) (v : Value) : px_L := ((px_kill pl i).set i (some v)).set (i + 1) none
def px_as (ad : Nat → Nat) (pl : px_L) : List (Nat × Value) := (List.range pl.length).filterMap (fun i => (pl.getD i none).map (fun v => (i, px_tr ad v)))
theorem px_as_mem {ad : Nat → Nat} {pl : px_L} {i : Nat} {w : Value} : (i, w) ∈ px_as ad pl ↔ ∃ v, pl[i]? = some (some v) ∧ w = px_tr ad v := by
  simp only [px_as, List.mem_filterMap, List.mem_range, Option.map_eq_some_iff, Prod.mk.injEq]
  constructor
  · rintro ⟨j, hj, v, h1, h2, h3⟩
    subst h2
    refine ⟨v, ?_, h3.symm⟩
    rw [List.getD_eq_getElem?_getD, List.getElem?_eq_getElem hj] at h1
    simp only [Option.getD_some] at h1
    rw [List.getElem?_eq_getElem hj, h1]
  · rintro ⟨v, h1, h2⟩
    obtain ⟨hj, h3⟩ := List.getElem?_eq_some_iff.mp h1
    refine ⟨i, hj, v, ?_, rfl, h2.symm⟩
    rw [List.getD_eq_getElem?_getD, h1]
    rfl
theorem px_lr_has {ad : Nat → Nat} {n : Nat} {pl : px_L} {ls : Array Slot} (h : px_lr ad n pl ls) : lv_has ls n (px_as ad pl) := by
  refine ⟨h.1.1, h.1.2.1, fun q hq => ?_⟩
  obtain ⟨i, w⟩ := q
  obtain ⟨v, h1, h2⟩ := px_as_mem.mp hq
  subst h2
  exact h.2 i v h1
theorem px_kill_at {pl : px_L} {i j : Nat} {w : Value} (hj : j ≠ i) (h : (px_kill pl i)[j]? = some (some w)) : pl[j]? = some (some w) ∧ ¬ (j + 1 = i ∧ w.category = 2) := by
  cases i with
  | zero => exact ⟨h, by omega⟩
  | succ k =>
    simp only [px_kill] at h
    by_cases hk : k = j
    · subst hk
      split at h
      · rename_i x hx
        obtain ⟨hlt, -⟩ := List.getElem?_eq_some_iff.mp hx
        simp [List.getElem?_set, hlt] at h
      · rename_i x hx
        obtain ⟨hlt, -⟩ := List.getElem?_eq_some_iff.mp hx
        simp [List.getElem?_set, hlt] at h
      · rename_i h1 h2
        refine ⟨h, fun hc => ?_⟩
        cases w with
        | long x => exact h1 x h
        | double x => exact h2 x h
        | _ => simp [Value.category] at hc
    · refine ⟨?_, by omega⟩
      split at h
      · simpa [List.getElem?_set, hk] using h
      · simpa [List.getElem?_set, hk] using h
      · exact h
theorem px_lr_s1 {ad : Nat → Nat} {n : Nat} {pl : px_L} {ls' : Array Slot} {i : Nat} {v : Value} (h : lv_has ls' n ((i, px_tr ad v) :: (px_as ad pl).filter (fun q => !(q.1 == i) && !(q.1 + 1 == i && q.2.category == 2)))) : px_lr ad n (px_s1 pl i v) ls' := by
  refine ⟨⟨h.1, h.2.1, fun q hq => by cases hq⟩, fun j w hw => ?_⟩
  refine h.2.2 (j, px_tr ad w) ?_
  by_cases hj : j = i
  · subst hj
    unfold px_s1 at hw
    rw [List.getElem?_set] at hw
    simp only [if_true] at hw
    split at hw
    · cases hw; exact List.mem_cons_self
    · cases hw
  · unfold px_s1 at hw
    rw [List.getElem?_set, if_neg (fun e => hj e.symm)] at hw
    obtain ⟨h1, h2⟩ := px_kill_at hj hw
    refine List.mem_cons_of_mem _ (List.mem_filter.mpr ⟨px_as_mem.mpr ⟨w, h1, rfl⟩, ?_⟩)
    simp only [px_tr_cat]
    simp only [Bool.and_eq_true, Bool.not_eq_true', beq_eq_false_iff_ne, ne_eq, Bool.and_eq_false_imp, beq_iff_eq]
    exact ⟨hj, fun e c => h2 ⟨e, c⟩⟩
theorem px_lr_s2 {ad : Nat → Nat} {n : Nat} {pl : px_L} {ls' : Array Slot} {i : Nat} {v : Value} (h : lv_has ls' n ((i, px_tr ad v) :: (px_as ad pl).filter (fun q => !(q.1 == i) && (!(q.1 == i + 1) && !(q.1 + 1 == i && q.2.category == 2))))) : px_lr ad n (px_s2 pl i v) ls' := by
  refine ⟨⟨h.1, h.2.1, fun q hq => by cases hq⟩, fun j w hw => ?_⟩
  refine h.2.2 (j, px_tr ad w) ?_
  unfold px_s2 at hw
  have hj1 : j ≠ i + 1 := by
    intro e
    subst e
    rw [List.getElem?_set] at hw
    simp only [if_true] at hw
    split at hw <;> cases hw
  rw [List.getElem?_set, if_neg (fun e => hj1 e.symm)] at hw
  by_cases hj : j = i
  · subst hj
    rw [List.getElem?_set] at hw
    simp only [if_true] at hw
    split at hw
    · cases hw; exact List.mem_cons_self
    · cases hw
  · rw [List.getElem?_set, if_neg (fun e => hj e.symm)] at hw
    obtain ⟨h1, h2⟩ := px_kill_at hj hw
    refine List.mem_cons_of_mem _ (List.mem_filter.mpr ⟨px_as_mem.mpr ⟨w, h1, rfl⟩, ?_⟩)
    simp only [px_tr_cat]
    simp only [Bool.and_eq_true, Bool.not_eq_true', beq_eq_false_iff_ne, ne_eq, Bool.and_eq_false_imp, beq_iff_eq]
    exact ⟨hj, hj1, fun e c => h2 ⟨e, c⟩⟩
