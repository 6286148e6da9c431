/-! a stretch of instructions at once; a method's table of instructions: (pc, length, instruction, class, field, constant) -/
abbrev px_I : Type := Nat × Nat × Instr × Nat × Nat × Value
def px_run : List px_I → px_S
  | [], pl, st, W0 => some ([], pl, st, W0)
  | e :: r, pl, st, W0 => match px1 e.2.2.2.1 e.2.2.2.2.1 e.2.2.2.2.2 e.2.2.1 pl st W0 with
    | some q => match px_run r q.2.1 q.2.2.1 q.2.2.2 with
      | some z => some (q.1 ++ z.1, z.2)
      | none => none
    | none => none
/-- the entries follow each other, from pc to the end -/
def px_chain : List px_I → Nat → Nat → Bool
  | [], a, b => a == b
  | e :: r, a, b => e.1 == a && (px_len e.2.2.1 == e.2.1 && px_chain r (a + e.2.1) b)
/-- fields: (index, class, field, kind): kind 0 is final, 1 int, 2 long, 3 a reference, 4 boolean -/
abbrev px_FT : Type := List (Nat × Nat × Nat × Nat)
def px_kd : Nat → Value
  | 1 => .int 0
  | 2 => .long 0
  | 3 => .ref 0
  | _ => .null
def px_FTok (own : String) (F : px_FT) : Prop := ∀ e ∈ F, px_fw own e.1 e.2.1 e.2.2.1 ∧ (e.2.2.2 ≠ 0 → px_pw own e.1 e.2.1 e.2.2.1 (px_kd e.2.2.2))
def px_ckI (F : px_FT) (n : Nat) (e : px_I) : Bool := px_lin n e.2.2.1 && (match e.2.2.1 with
  | .getfield i => F.any (fun z => z.1 == i && (z.2.1 == e.2.2.2.1 && z.2.2.1 == e.2.2.2.2.1))
  | .putfield i => F.any (fun z => z.1 == i && (z.2.1 == e.2.2.2.1 && (z.2.2.1 == e.2.2.2.2.1 && (!(z.2.2.2 == 0) && decide (px_kd z.2.2.2 = e.2.2.2.2.2)))))
  | .ldc _ => false
  | .ldc_w _ => false
  | .ldc2_w _ => false
  | _ => true)
def px_tabD (M : px_M) (T : List px_I) : Prop := ∀ e ∈ T, decode M.2.1 e.1 = .ok (e.2.2.1, e.2.1)
def px_tab (M : px_M) (T : List px_I) : Prop := ∀ e ∈ T, decode M.2.1 e.1 = .ok (e.2.2.1, e.2.1) ∧ px_lin M.2.2.1 e.2.2.1 = true ∧ px_ok M.1.cls e.2.2.2.1 e.2.2.2.2.1 e.2.2.2.2.2 e.2.2.1
theorem px_tab_of {M : px_M} {F : px_FT} {T : List px_I} (hF : px_FTok M.1.cls F) (hc : T.all (fun e => px_ckI F M.2.2.1 e) = true) (hd : T.all (fun e => decide (decode M.2.1 e.1 = .ok (e.2.2.1, e.2.1))) = true) : px_tab M T := by
  intro e he
  have h1 := List.all_eq_true.mp hc e he
  have h2 := of_decide_eq_true (List.all_eq_true.mp hd e he)
  obtain ⟨pc, len, ins, a, b, v⟩ := e
  simp only [px_ckI, Bool.and_eq_true] at h1
  refine ⟨h2, h1.1, ?_⟩
  have h3 := h1.2
  cases ins <;> first | trivial | (simp at h3; done) | skip
  case getfield i =>
    obtain ⟨z, hz, h4⟩ := List.any_eq_true.mp h3
    simp only [Bool.and_eq_true, beq_iff_eq] at h4
    obtain ⟨h5, h6, h7⟩ := h4
    have := (hF z hz).1
    rw [h5, h6, h7] at this
    exact this
  case putfield i =>
    obtain ⟨z, hz, h4⟩ := List.any_eq_true.mp h3
    simp only [Bool.and_eq_true, beq_iff_eq, Bool.not_eq_true', beq_eq_false_iff_ne, decide_eq_true_eq] at h4
    obtain ⟨h5, h6, h7, h8, h9⟩ := h4
    have := (hF z hz).2 h8
    rw [h5, h6, h7, h9] at this
    exact this
theorem px_tab_app {M : px_M} {T1 T2 : List px_I} (h1 : px_tab M T1) (h2 : px_tab M T2) : px_tab M (T1 ++ T2) := fun e he => (List.mem_append.mp he).elim (h1 e) (h2 e)
theorem XG.blks {M : px_M} {G : px_G} {nc ns : Nat} : ∀ (T : List px_I) (pc pc' : Nat) (pl : px_L) (st : List Value) (W0 : px_W) (q : px_R), px_tab M T → px_chain T pc pc' = true → px_run T pl st W0 = some q → q.1.all id = true → XG M G nc ns pc' q.2.1 q.2.2.1 q.2.2.2 → XG M G nc ns pc pl st W0 := by
  intro T
  induction T with
  | nil =>
    intro pc pc' pl st W0 q _ hc hr _ k
    cases hr
    have : pc = pc' := by simpa [px_chain] using hc
    subst this
    exact k
  | cons e r ih =>
    intro pc pc' pl st W0 q hT hc hr hb k
    simp only [px_chain, Bool.and_eq_true, beq_iff_eq] at hc
    obtain ⟨h1, h2, h3⟩ := hc
    simp only [px_run] at hr
    split at hr
    · rename_i q1 hq1
      split at hr
      · rename_i z hz
        cases hr
        rw [List.all_append, Bool.and_eq_true] at hb
        obtain ⟨t1, t2, t3⟩ := hT e List.mem_cons_self
        subst h1
        rw [← h2] at t1
        refine XG.step t1 t2 t3 hq1 hb.1 ?_
        rw [h2]
        exact ih _ _ _ _ _ z (fun e he => hT e (List.mem_cons_of_mem _ he)) h3 hz hb.2 k
      · cases hr
    · cases hr
/-- n instructions from the k-th of the table on -/
theorem XG.blk {M : px_M} {G : px_G} {nc ns : Nat} {T : List px_I} (hT : px_tab M T) (k n : Nat) {pc pc' : Nat} {pl pl' : px_L} {st st' : List Value} {W0 W1 : px_W} {bs : List Bool} (hc : px_chain ((T.drop k).take n) pc pc' = true) (hr : px_run ((T.drop k).take n) pl st W0 = some (bs, pl', st', W1)) (hb : bs.all id = true) (hk : XG M G nc ns pc' pl' st' W1) : XG M G nc ns pc pl st W0 :=
  XG.blks _ pc pc' pl st W0 _ (fun e he => hT e (List.mem_of_mem_drop (List.mem_of_mem_take he))) hc hr hb hk
theorem px_tab_at {M : px_M} {T : List px_I} (hT : px_tab M T) (k : Nat) {e : px_I} (h : T[k]? = some e) : decode M.2.1 e.1 = .ok (e.2.2.1, e.2.1) := (hT e (List.mem_of_getElem? h)).1
theorem px_mem {w : Cond} (i : Nat) (h : lw_tbl[i]? = some w) (hg : goodWord w = true) : w ∈ px_tbl := List.mem_filter.mpr ⟨List.mem_of_getElem? h, hg⟩
theorem px_memS {w : Cond} (i : Nat) (h : (k2_sels lw_privs)[i]? = some w) (hg : goodWord w = true) : w ∈ px_tbl := List.mem_filter.mpr ⟨List.mem_append_left _ (List.mem_of_getElem? h), hg⟩
theorem px_mem1 {w : Cond} (i : Nat) (h : tables_1_1[i]? = some w) (hg : goodWord w = true) : w ∈ px_tbl := List.mem_filter.mpr ⟨List.mem_append_right _ (show w ∈ tables_1_1 ++ (tables_1_2 ++ (tables_1_3 ++ (tables_1_4 ++ (tables_1_5 ++ (tables_1_6 ++ (tables_1_7 ++ tables_1_8)))))) from List.mem_append_left _ (List.mem_of_getElem? h)), hg⟩
theorem px_mem2 {w : Cond} (i : Nat) (h : tables_1_2[i]? = some w) (hg : goodWord w = true) : w ∈ px_tbl := List.mem_filter.mpr ⟨List.mem_append_right _ (show w ∈ tables_1_1 ++ (tables_1_2 ++ (tables_1_3 ++ (tables_1_4 ++ (tables_1_5 ++ (tables_1_6 ++ (tables_1_7 ++ tables_1_8)))))) from List.mem_append_right _ (List.mem_append_left _ (List.mem_of_getElem? h))), hg⟩
theorem px_mem3 {w : Cond} (i : Nat) (h : tables_1_3[i]? = some w) (hg : goodWord w = true) : w ∈ px_tbl := List.mem_filter.mpr ⟨List.mem_append_right _ (show w ∈ tables_1_1 ++ (tables_1_2 ++ (tables_1_3 ++ (tables_1_4 ++ (tables_1_5 ++ (tables_1_6 ++ (tables_1_7 ++ tables_1_8)))))) from List.mem_append_right _ (List.mem_append_right _ (List.mem_append_left _ (List.mem_of_getElem? h)))), hg⟩
theorem px_mem4 {w : Cond} (i : Nat) (h : tables_1_4[i]? = some w) (hg : goodWord w = true) : w ∈ px_tbl := List.mem_filter.mpr ⟨List.mem_append_right _ (show w ∈ tables_1_1 ++ (tables_1_2 ++ (tables_1_3 ++ (tables_1_4 ++ (tables_1_5 ++ (tables_1_6 ++ (tables_1_7 ++ tables_1_8)))))) from List.mem_append_right _ (List.mem_append_right _ (List.mem_append_right _ (List.mem_append_left _ (List.mem_of_getElem? h))))), hg⟩
theorem px_mem5 {w : Cond} (i : Nat) (h : tables_1_5[i]? = some w) (hg : goodWord w = true) : w ∈ px_tbl := List.mem_filter.mpr ⟨List.mem_append_right _ (show w ∈ tables_1_1 ++ (tables_1_2 ++ (tables_1_3 ++ (tables_1_4 ++ (tables_1_5 ++ (tables_1_6 ++ (tables_1_7 ++ tables_1_8)))))) from List.mem_append_right _ (List.mem_append_right _ (List.mem_append_right _ (List.mem_append_right _ (List.mem_append_left _ (List.mem_of_getElem? h)))))), hg⟩
theorem px_mem6 {w : Cond} (i : Nat) (h : tables_1_6[i]? = some w) (hg : goodWord w = true) : w ∈ px_tbl := List.mem_filter.mpr ⟨List.mem_append_right _ (show w ∈ tables_1_1 ++ (tables_1_2 ++ (tables_1_3 ++ (tables_1_4 ++ (tables_1_5 ++ (tables_1_6 ++ (tables_1_7 ++ tables_1_8)))))) from List.mem_append_right _ (List.mem_append_right _ (List.mem_append_right _ (List.mem_append_right _ (List.mem_append_right _ (List.mem_append_left _ (List.mem_of_getElem? h))))))), hg⟩
theorem px_mem7 {w : Cond} (i : Nat) (h : tables_1_7[i]? = some w) (hg : goodWord w = true) : w ∈ px_tbl := List.mem_filter.mpr ⟨List.mem_append_right _ (show w ∈ tables_1_1 ++ (tables_1_2 ++ (tables_1_3 ++ (tables_1_4 ++ (tables_1_5 ++ (tables_1_6 ++ (tables_1_7 ++ tables_1_8)))))) from List.mem_append_right _ (List.mem_append_right _ (List.mem_append_right _ (List.mem_append_right _ (List.mem_append_right _ (List.mem_append_right _ (List.mem_append_left _ (List.mem_of_getElem? h)))))))), hg⟩
theorem px_mem8 {w : Cond} (i : Nat) (h : tables_1_8[i]? = some w) (hg : goodWord w = true) : w ∈ px_tbl := List.mem_filter.mpr ⟨List.mem_append_right _ (show w ∈ tables_1_1 ++ (tables_1_2 ++ (tables_1_3 ++ (tables_1_4 ++ (tables_1_5 ++ (tables_1_6 ++ (tables_1_7 ++ tables_1_8)))))) from List.mem_append_right _ (List.mem_append_right _ (List.mem_append_right _ (List.mem_append_right _ (List.mem_append_right _ (List.mem_append_right _ (List.mem_append_right _ (List.mem_of_getElem? h)))))))), hg⟩
theorem px_wsin {C : String} {T : u_T} {N : Nat} (ix : List Nat) (h : ((List.range N).all fun k => decide (lw_tbl[ix.getD k 0]? = some (u_lay C T k)) && goodWord (u_lay C T k)) = true) : ∀ w ∈ u_ws C T N, w ∈ px_tbl := by
  intro w hw
  obtain ⟨k, hk, rfl⟩ := List.mem_map.mp hw
  have h1 := List.all_eq_true.mp h k hk
  rw [Bool.and_eq_true] at h1
  exact px_mem _ (of_decide_eq_true h1.1) h1.2
