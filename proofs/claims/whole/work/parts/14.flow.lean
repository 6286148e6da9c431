/-! branches, jumps, switches, ends -/
def px_br : Instr → List Value → Option (Prop × Int × List Value)
  | .ifCond .eq o, .int x :: r => some (x = 0, o, r)
  | .ifCond .ne o, .int x :: r => some (¬ x = 0, o, r)
  | .ifCond .lt o, .int x :: r => some (x < 0, o, r)
  | .ifCond .ge o, .int x :: r => some (0 ≤ x, o, r)
  | .ifCond .gt o, .int x :: r => some (0 < x, o, r)
  | .ifCond .le o, .int x :: r => some (x ≤ 0, o, r)
  | .if_icmp .eq o, .int y :: .int x :: r => some (x = y, o, r)
  | .if_icmp .ne o, .int y :: .int x :: r => some (¬ x = y, o, r)
  | .if_icmp .lt o, .int y :: .int x :: r => some (x < y, o, r)
  | .if_icmp .ge o, .int y :: .int x :: r => some (y ≤ x, o, r)
  | .if_icmp .gt o, .int y :: .int x :: r => some (y < x, o, r)
  | .if_icmp .le o, .int y :: .int x :: r => some (x ≤ y, o, r)
  | _, _ => none
section FLOW
variable {M : px_M} {G : px_G} {d pc nc ns : Nat} {post : Option Value → px_W → Prop} {pl : px_L} {st : List Value} {W0 : px_W}
set_option maxHeartbeats 4000000 in
theorem XG.br {ins : Instr} (hd : decode M.2.1 pc = .ok (ins, 3)) {P : Prop} {o : Int} {r : List Value} {tgt : Nat} (h : px_br ins st = some (P, o, r)) (ht : (pc : Int) + o = (tgt : Int)) (k1 : P → XG M G nc ns tgt pl r W0) (k2 : ¬ P → XG M G nc ns (pc + 3) pl r W0) : XG M G nc ns pc pl st W0 := by
  intro p l e s m args below meth c D cA ad0 ad A n0 hC hXt hn H locs ls hP hD hS hl
  obtain ⟨hx, hcode, hml, hown, hts, hr, hlk, hmn, hK, hE⟩ := id hC
  have j1 := fun h => k1 h p l e s m args below meth c D cA ad0 ad A n0 hC hXt hn H locs ls hP hD hS hl
  have j2 := fun h => k2 h p l e s m args below meth c D cA ad0 ad A n0 hC hXt hn H locs ls hP hD hS hl
  clear k1 k2
  unfold px_br at h
  split at h
  · cases h; exact lv_if_eq hx hcode hd ht j1 j2
  · cases h; exact lv_if_ne hx hcode hd ht j1 (fun e => j2 (fun z => z e))
  · cases h; exact lv_if_lt hx hcode hd ht j1 j2
  · cases h; exact lv_if_ge hx hcode hd ht j1 j2
  · cases h; exact lv_if_gt hx hcode hd ht j1 j2
  · cases h; exact lv_if_le hx hcode hd ht j1 j2
  · cases h; exact lv_icmp_eq hx hcode hd ht j1 j2
  · cases h; exact lv_icmp_ne hx hcode hd ht j1 (fun e => j2 (fun z => z e))
  · cases h; exact lv_icmp_lt hx hcode hd ht j1 j2
  · cases h; exact lv_icmp_ge hx hcode hd ht j1 j2
  · cases h; exact lv_icmp_gt hx hcode hd ht j1 j2
  · cases h; exact lv_icmp_le hx hcode hd ht j1 j2
  · cases h
theorem XG.goto {o : Int} {tgt : Nat} (hd : decode M.2.1 pc = .ok (.goto o, 3)) (ht : (pc : Int) + o = (tgt : Int)) (k : XG M G nc ns tgt pl st W0) : XG M G nc ns pc pl st W0 := by
  intro p l e s m args below meth c D cA ad0 ad A n0 hC hXt hn H locs ls hP hD hS hl
  obtain ⟨hx, hcode, hml, hown, hts, hr, hlk, hmn, hK, hE⟩ := id hC
  exact lv_goto hx hcode hd ht (k p l e s m args below meth c D cA ad0 ad A n0 hC hXt hn H locs ls hP hD hS hl)
theorem XG.tsw {dflt lo hi : Int} {offs : Array Int} {len : Nat} {x : Int32} (hd : decode M.2.1 pc = .ok (.tableswitch dflt lo hi offs, len)) {td : Nat} (htd : (pc : Int) + dflt = (td : Int)) {tg : List Nat} (htg : offs.toList.map (fun o => (pc : Int) + o) = tg.map (fun t : Nat => (t : Int))) (hsz : hi - lo + 1 = (tg.length : Int))
    (k1 : (x.toInt < lo ∨ hi < x.toInt) → XG M G nc ns td pl st W0) (k2 : ∀ (j t : Nat), tg[j]? = some t → x.toInt = lo + j → XG M G nc ns t pl st W0) : XG M G nc ns pc pl (.int x :: st) W0 := by
  intro p l e s m args below meth c D cA ad0 ad A n0 hC hXt hn H locs ls hP hD hS hl
  obtain ⟨hx, hcode, hml, hown, hts, hr, hlk, hmn, hK, hE⟩ := id hC
  by_cases h1 : x.toInt < lo
  · exact lv_tableOut hx hcode hd (Or.inl h1) htd (k1 (Or.inl h1) p l e s m args below meth c D cA ad0 ad A n0 hC hXt hn H locs ls hP hD hS hl)
  · by_cases h2 : hi < x.toInt
    · exact lv_tableOut hx hcode hd (Or.inr h2) htd (k1 (Or.inr h2) p l e s m args below meth c D cA ad0 ad A n0 hC hXt hn H locs ls hP hD hS hl)
    · obtain ⟨j, hj⟩ : ∃ j : Nat, j = (x.toInt - lo).toNat := ⟨_, rfl⟩
      have hjl : j < tg.length := by omega
      have hl1 : offs.toList.length = tg.length := by have := congrArg List.length htg; simpa using this
      have e1 : offs[j]? = some (offs.toList[j]'(by omega)) := by rw [← Array.getElem?_toList]; exact List.getElem?_eq_getElem _
      have e2 : (pc : Int) + (offs.toList[j]'(by omega)) = (tg[j] : Int) := by
        have h3 := congrArg (fun z => z[j]?) htg
        simp only [List.getElem?_map] at h3
        rw [List.getElem?_eq_getElem (by omega), List.getElem?_eq_getElem hjl] at h3
        simpa using h3
      exact lv_tableIn hx hcode hd h1 h2 (by rw [← hj]; exact e1) e2 (k2 j _ (List.getElem?_eq_getElem hjl) (by omega) p l e s m args below meth c D cA ad0 ad A n0 hC hXt hn H locs ls hP hD hS hl)
theorem XG.lsw {dflt : Int} {ps : Array (Int × Int)} {len : Nat} {x : Int32} (hd : decode M.2.1 pc = .ok (.lookupswitch dflt ps, len)) (hp : (ps.toList.zip (ps.toList.drop 1)).all (fun (a, next) => a.1 < next.1) = true)
    (k : ∀ (o : Int) (t : Nat), Op.lookupswitch.offset ps.toList dflt x.toInt = o → (pc : Int) + o = (t : Int) → XG M G nc ns t pl st W0) (hk : ∃ (t : Nat), (pc : Int) + Op.lookupswitch.offset ps.toList dflt x.toInt = (t : Int)) : XG M G nc ns pc pl (.int x :: st) W0 := by
  intro p l e s m args below meth c D cA ad0 ad A n0 hC hXt hn H locs ls hP hD hS hl
  obtain ⟨hx, hcode, hml, hown, hts, hr, hlk, hmn, hK, hE⟩ := id hC
  obtain ⟨t, ht⟩ := hk
  exact lv_lookup hx hcode hd hp rfl ht (k _ t rfl ht p l e s m args below meth c D cA ad0 ad A n0 hC hXt hn H locs ls hP hD hS hl)
theorem XS.iret {x : Int32} (hd : decode M.2.1 pc = .ok (.ireturn, 1)) {ty : FieldType} (hr9 : M.2.2.2 = some ty) (hn9 : narrow ty (.int x) = .int x) (hp : post (some (.int x)) W0) : XS M d post pc pl [.int x] W0 := by
  intro p l e s m args below meth c D cA ad0 ad A n0 hC hXt hn H locs ls hP hD hS hl
  obtain ⟨rfl, rfl⟩ : ad = ad0 ∧ W0.length = n0 := hn
  obtain ⟨hx, hcode, hml, hown, hts, hr, hlk, hmn, hK, hE⟩ := id hC
  exact W.zret hx hcode (hr.trans hr9) hn9 (fun t ht hW => ⟨some (.int x), W0, hp, rfl, rfl, by rw [ht]; exact hP, hS.F ht⟩) hS.2.2 hd hlk
theorem XS.lret {x : Int64} (hd : decode M.2.1 pc = .ok (.lreturn, 1)) (hr9 : M.2.2.2 = some .long) (hp : post (some (.long x)) W0) : XS M d post pc pl [.long x] W0 := by
  intro p l e s m args below meth c D cA ad0 ad A n0 hC hXt hn H locs ls hP hD hS hl
  obtain ⟨rfl, rfl⟩ : ad = ad0 ∧ W0.length = n0 := hn
  obtain ⟨hx, hcode, hml, hown, hts, hr, hlk, hmn, hK, hE⟩ := id hC
  exact W.lret hx hcode (hr.trans hr9) (fun t ht hW => ⟨some (.long x), W0, hp, rfl, rfl, by rw [ht]; exact hP, hS.F ht⟩) hS.2.2 hd hlk
theorem XS.vret (hd : decode M.2.1 pc = .ok (.return_, 1)) (hr9 : M.2.2.2 = none) (hp : post none W0) : XS M d post pc pl [] W0 := by
  intro p l e s m args below meth c D cA ad0 ad A n0 hC hXt hn H locs ls hP hD hS hl
  obtain ⟨rfl, rfl⟩ : ad = ad0 ∧ W0.length = n0 := hn
  obtain ⟨hx, hcode, hml, hown, hts, hr, hlk, hmn, hK, hE⟩ := id hC
  exact W.vret hx hcode (hr.trans hr9) (fun t ht hW => ⟨none, W0, hp, rfl, rfl, by rw [ht]; exact hP, hS.F ht⟩) hS.2.2 hd hlk
end FLOW
/-! a contract: what a method does to a world -/
def px_ws (M : px_M) : List Cond := .code M.1 M.2.1 M.2.2.1 M.2.2.2 :: px_tbl
def Con (M : px_M) (d : Nat) (av : List Value) (W0 : px_W) (post : Option Value → px_W → Prop) : Prop :=
  ∀ (l : Launch) (D : va_G) (cA : FieldType → ClassId) (ad : Nat → Nat) (sz : Nat), Met l M.1 (px_ws M) (px_room d 0 0)
    (fun v U => v = (av.map (px_tr ad)).toArray ∧ U.heap.size = sz ∧ va_P D vwCl (px_w cA ad W0) U.heap ∧ va_K D vwCl (px_tys cA) U ∧ va_D (fun _ => True) (px_w cA ad W0) ∧ px_E0 ad (va_A (px_w cA ad W0) sz) U)
    (px_Q D cA ad W0.length (va_A (px_w cA ad W0) sz) post) 0 0 (va_A (px_w cA ad W0) sz)
def px_en : List Value → px_L
  | [] => []
  | .long x :: r => some (.long x) :: none :: px_en r
  | .double x :: r => some (.double x) :: none :: px_en r
  | v :: r => some v :: px_en r
theorem px_en_at (ad : Nat → Nat) : ∀ (av : List Value) (o i : Nat) (v : Value), (px_en av)[i]? = some (some v) → (o + i, px_tr ad v) ∈ lv_args o (av.map (px_tr ad)) := by
  intro av
  induction av with
  | nil => intro o i v h; cases h
  | cons x r ih =>
    intro o i v h
    have one : ∀ (w : Value), w.category = 1 → (px_en (w :: r) = some w :: px_en r) → x = w → (o + i, px_tr ad v) ∈ lv_args o ((x :: r).map (px_tr ad)) := by
      intro w hw e1 e2
      subst e2
      rw [e1] at h
      show _ ∈ (o, px_tr ad x) :: lv_args (if (px_tr ad x).category = 2 then o + 2 else o + 1) (r.map (px_tr ad))
      rw [px_tr_cat, hw, if_neg (by decide)]
      cases i with
      | zero => cases h; exact List.mem_cons_self
      | succ j =>
        have h2 := ih (o + 1) j v h
        rw [show o + 1 + j = o + (j + 1) by omega] at h2
        exact List.mem_cons_of_mem _ h2
    have two : ∀ (w : Value), w.category = 2 → (px_en (w :: r) = some w :: none :: px_en r) → x = w → (o + i, px_tr ad v) ∈ lv_args o ((x :: r).map (px_tr ad)) := by
      intro w hw e1 e2
      subst e2
      rw [e1] at h
      show _ ∈ (o, px_tr ad x) :: lv_args (if (px_tr ad x).category = 2 then o + 2 else o + 1) (r.map (px_tr ad))
      rw [px_tr_cat, hw, if_pos rfl]
      match i, h with
      | 0, h => cases h; exact List.mem_cons_self
      | 1, h => cases h
      | j + 2, h =>
        have h2 := ih (o + 2) j v h
        rw [show o + 2 + j = o + (j + 2) by omega] at h2
        exact List.mem_cons_of_mem _ h2
    cases x with
    | long y => exact two _ rfl rfl rfl
    | double y => exact two _ rfl rfl rfl
    | int y => exact one _ rfl rfl rfl
    | float y => exact one _ rfl rfl rfl
    | null => exact one _ rfl rfl rfl
    | ref y => exact one _ rfl rfl rfl
    | retAddr y => exact one _ rfl rfl rfl
theorem px_lg_len (ad : Nat → Nat) (av : List Value) : (lg_sl (av.map (px_tr ad))).length = (px_en av).length := by
  induction av with
  | nil => rfl
  | cons x r ih => cases x <;> simp [lg_sl, px_en, px_tr, Value.category] at ih ⊢ <;> omega
/-- the locals at a method's start: its arguments, then nothing -/
def px_in (av : List Value) (n : Nat) : px_L := px_en av ++ List.replicate (n - (px_en av).length) none
theorem Con.of {M : px_M} {d : Nat} {av : List Value} {W0 : px_W} {post : Option Value → px_W → Prop} (hy : plainName M.1.cls = true) (hfit : (px_en av).length ≤ M.2.2.1) (h : XS M d post 0 (px_in av M.2.2.1) [] W0) : Con M d av W0 post := by
  intro l D cA ad sz
  refine Met.ofW (cc := M.2.1) (maxL := M.2.2.1) (ret := M.2.2.2) hy rfl ?_
  intro p e s m args below meth c s₁ B hml hv
  obtain ⟨rfl, hsz, hP, hK, hD0, hE⟩ := hv
  have hts := atoms_spec (ws := px_ws M) B.pre
  have hown : s.vm.findClass M.1.cls = some m.cls := findClass_of_methodNamed B.named
  subst hsz
  have hD := hD0.self (sz := s.heap.size)
  have hl := lv_entry (av.map (px_tr ad)) (n := M.2.2.1) (by rw [px_lg_len]; exact hfit)
  rw [lg_entry_eq]
  refine h p l e s m _ below meth c D cA ad ad (va_A (px_w cA ad W0) s.heap.size) W0.length ⟨B.exec, B.bytes, hml, hown, fun w hw => hts w (List.mem_cons_of_mem _ hw), B.returns, B.notSynchronized, (name_of_methodNamed B.named B.method).1, hK, hE, fun q h => Or.inr h⟩ trivial ⟨rfl, rfl⟩ s.heap [] _ hP hD va_S.rf ⟨⟨hl.1, hl.2.1, fun q hq => by cases hq⟩, fun i v hi => ?_⟩
  have hi2 : (px_en av)[i]? = some (some v) := by
    unfold px_in at hi
    by_cases hlt : i < (px_en av).length
    · rwa [List.getElem?_append_left hlt] at hi
    · rw [List.getElem?_append_right (by omega), List.getElem?_replicate] at hi
      split at hi <;> cases hi
  have h2 := px_en_at ad av 0 i v hi2
  rw [Nat.zero_add] at h2
  exact hl.2.2 _ h2
