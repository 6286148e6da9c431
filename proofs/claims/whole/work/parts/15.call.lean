/-! calls: a callee's contract speaks of a world of its own; ro tells where its places lie in the caller's -/
def px_er (f : Nat → Nat) : px_E → px_E
  | .inl x => .inl x
  | .inr o => .inr (o.1, o.2.map (px_tr f))
def px_f (ro : List Nat) : Nat → Nat := fun k => if k < 1000 then ro.getD k 0 else k
theorem px_f_at {ro : List Nat} {k j : Nat} (h : ro[k]? = some j) (hk : k < 1000) : px_f ro k = j := by
  unfold px_f; rw [if_pos hk, List.getD_eq_getElem?_getD, h]; rfl
theorem px_f_up (ro : List Nat) {k : Nat} (h : 1000 ≤ k) : px_f ro k = k := by
  unfold px_f; rw [if_neg (by omega)]
def px_pt (f : Nat → Nat) : List Nat → px_W → px_W → px_W
  | k :: ro, c :: w, W0 => px_pt f ro w (W0.set k (px_er f c))
  | [], _, W0 => W0
  | _ :: _, [], W0 => W0
theorem px_tr_tr (ad f : Nat → Nat) (v : Value) : px_tr ad (px_tr f v) = px_tr (fun k => ad (f k)) v := by cases v <;> rfl
theorem px_e_er (cA : FieldType → ClassId) (ad f : Nat → Nat) (c : px_E) : px_e cA ad (px_er f c) = px_e cA (fun k => ad (f k)) c := by
  cases c with
  | inl x => rfl
  | inr o =>
    show Sum.inr (o.1, (o.2.map (px_tr f)).map (px_tr ad)) = Sum.inr (o.1, o.2.map (px_tr fun k => ad (f k)))
    rw [List.map_map]
    congr 2
    apply List.map_congr_left
    intro v _
    exact px_tr_tr ad f v
theorem px_pt_len (f : Nat → Nat) : ∀ (ro : List Nat) (w W0 : px_W), (px_pt f ro w W0).length = W0.length := by
  intro ro
  induction ro with
  | nil => intro w W0; rfl
  | cons k ro ih =>
    intro w W0
    cases w with
    | nil => rfl
    | cons c w => show (px_pt f ro w (W0.set k (px_er f c))).length = _; rw [ih, List.length_set]
theorem px_pt_out (f : Nat → Nat) : ∀ (ro : List Nat) (w W0 : px_W) (j : Nat), j ∉ ro → (px_pt f ro w W0)[j]? = W0[j]? := by
  intro ro
  induction ro with
  | nil => intro w W0 j _; rfl
  | cons k ro ih =>
    intro w W0 j hj
    cases w with
    | nil => rfl
    | cons c w =>
      show (px_pt f ro w (W0.set k (px_er f c)))[j]? = _
      rw [ih w _ j (fun h => hj (List.mem_cons_of_mem _ h)), List.getElem?_set, if_neg (fun e => hj (by rw [e]; exact List.mem_cons_self))]
theorem px_pt_in (f : Nat → Nat) : ∀ (ro : List Nat) (w W0 : px_W) (i j : Nat) (c : px_E), ro.Nodup → ro[i]? = some j → w[i]? = some c → j < W0.length → (px_pt f ro w W0)[j]? = some (px_er f c) := by
  intro ro
  induction ro with
  | nil => intro w W0 i j c _ h; cases h
  | cons k ro ih =>
    intro w W0 i j c hn h1 h2 hj
    cases w with
    | nil => cases h2
    | cons x w =>
      obtain ⟨hk, hn⟩ := List.nodup_cons.mp hn
      show (px_pt f ro w (W0.set k (px_er f x)))[j]? = _
      cases i with
      | zero =>
        cases h1; cases h2
        rw [px_pt_out f ro w _ k hk, List.getElem?_set, if_pos rfl, if_pos hj]
      | succ i => exact ih w _ i j c hn h1 h2 (by rw [List.length_set]; exact hj)
theorem px_D_len {A : Nat → Prop} {cA : FieldType → ClassId} {ad : Nat → Nat} {W0 W1 : px_W} (hlen : W1.length = W0.length) (h : va_D A (px_w cA ad W0)) : va_D A (px_w cA ad W1) := by
  have at' : ∀ (k : Nat) (q : Nat × va_E), (px_w cA ad W1)[k]? = some q → ∃ q', (px_w cA ad W0)[k]? = some q' ∧ q'.1 = q.1 := by
    intro k q hq
    obtain ⟨c, h1, rfl⟩ := px_w_of hq
    have hk : k < W0.length := by rw [← hlen]; exact (List.getElem?_eq_some_iff.mp h1).1
    exact ⟨_, px_w_at (List.getElem?_eq_getElem hk), rfl⟩
  refine ⟨fun i j p q hp hq e => ?_, fun k q hq => ?_⟩
  · obtain ⟨p', h1, e1⟩ := at' i p hp
    obtain ⟨q', h2, e2⟩ := at' j q hq
    exact h.1 i j p' q' h1 h2 (by rw [e1, e2, e])
  · obtain ⟨q', h1, e1⟩ := at' k q hq
    rw [← e1]
    exact h.2 k q' h1
section CALL
variable {M N : px_M} {G : px_G} {d d1 pc idx nc ns : Nat} {post post1 : Option Value → px_W → Prop} {pl : px_L} {st rest : List Value} {W0 W1 : px_W} {ro : List Nat}
/-- the callee's cells among the caller's -/
def px_sub (ro : List Nat) (W0 W1 : px_W) : Prop := ro.map (fun i => W0[i]?) = W1.map (fun c => some (px_er (px_f ro) c)) ∧ ro.Nodup ∧ ro.length ≤ 1000
theorem px_sub_at (h : px_sub ro W0 W1) {k : Nat} {c : px_E} (hk : W1[k]? = some c) : ∃ j, ro[k]? = some j ∧ px_f ro k = j ∧ W0[j]? = some (px_er (px_f ro) c) := by
  have h1 : (ro.map (fun i => W0[i]?))[k]? = some (some (px_er (px_f ro) c)) := by rw [h.1, List.getElem?_map, hk]; rfl
  rw [List.getElem?_map] at h1
  cases hr : ro[k]? with
  | none => rw [hr] at h1; cases h1
  | some j =>
    rw [hr] at h1
    exact ⟨j, rfl, px_f_at hr (Nat.lt_of_lt_of_le (List.getElem?_eq_some_iff.mp hr).1 h.2.2), Option.some.inj h1⟩
theorem px_sub_len (h : px_sub ro W0 W1) : ro.length = W1.length := by have := congrArg List.length h.1; simpa using this
theorem px_sub_w {cA : FieldType → ClassId} {ad : Nat → Nat} (h : px_sub ro W0 W1) {k : Nat} {q : Nat × va_E} (hk : (px_w cA (fun k => ad (px_f ro k)) W1)[k]? = some q) : ∃ j, ro[k]? = some j ∧ q.1 = ad j ∧ (px_w cA ad W0)[j]? = some q := by
  obtain ⟨c, h1, rfl⟩ := px_w_of hk
  obtain ⟨j, h2, h3, h4⟩ := px_sub_at h h1
  refine ⟨j, h2, by rw [← h3], ?_⟩
  rw [px_w_at h4, px_e_er, ← h3]
theorem px_call_P {D : va_G} {cA : FieldType → ClassId} {ad : Nat → Nat} {H : Heap} (h : px_sub ro W0 W1) (hP : va_P D vwCl (px_w cA ad W0) H) : va_P D vwCl (px_w cA (fun k => ad (px_f ro k)) W1) H := by
  intro k q hk
  obtain ⟨j, -, -, h1⟩ := px_sub_w h hk
  exact hP j q h1
theorem px_call_D {A : Nat → Prop} {cA : FieldType → ClassId} {ad : Nat → Nat} (h : px_sub ro W0 W1) (hD : va_D A (px_w cA ad W0)) : va_D A (px_w cA (fun k => ad (px_f ro k)) W1) := by
  refine ⟨fun i j p q hp hq e => ?_, fun k q hk => ?_⟩
  · obtain ⟨i1, h1, -, h2⟩ := px_sub_w h hp
    obtain ⟨j1, h3, -, h4⟩ := px_sub_w h hq
    have e1 := hD.1 i1 j1 p q h2 h4 e
    subst e1
    exact (List.getElem?_inj (List.getElem?_eq_some_iff.mp h1).1 h.2.1).mp (h1.trans h3.symm)
  · obtain ⟨j, -, -, h1⟩ := px_sub_w h hk
    exact hD.2 j q h1
theorem px_call_A {A : Nat → Prop} {cA : FieldType → ClassId} {ad : Nat → Nat} {H H0 : Heap} {locs : List Loc} (h : px_sub ro W0 W1) (hD : va_D A (px_w cA ad W0)) (hS : va_S A H0 H locs) (hA : ∀ q, H0.size ≤ q → A q) : ∀ q, va_A (px_w cA (fun k => ad (px_f ro k)) W1) H.size q → A q := by
  intro q hq
  rcases hq with ⟨k, e, hk⟩ | hq
  · exact (px_call_D h hD).2 k (q, e) hk
  · exact hA q (Nat.le_trans hS.1 hq)
theorem px_E0_to {ad : Nat → Nat} {A B : Nat → Prop} {s U : State} {H : Heap} {locs : List Loc} (ro : List Nat) (h : px_E0 ad A s) (hS : va_S A s.heap H locs) (hB : ∀ q, B q → A q) (hU : U.heap = H) (hW : s.WarmedH U.vm) : px_E0 (fun k => ad (px_f ro k)) B U := by
  refine ⟨?_, ?_, ?_, px_Nst.warm hW h.2.2.2⟩
  · rw [hU]
    exact px_SZ.ad (fun k hk => congrArg ad (px_f_up ro hk)) (((h.1.kept hS.2.1).moved hW.alike).narrow hB)
  · show vk_R RX3 33 px_str0 (ad (px_f ro 1001)) U
    rw [px_f_up ro (by omega)]
    exact vk_R.warm hW h.2.1
  · show vk_R RX3 109 px_str1 (ad (px_f ro 1002)) U
    rw [px_f_up ro (by omega)]
    exact vk_R.warm hW h.2.2.1
/-- what the callee's contract asks of its start -/
abbrev px_Pc (D : va_G) (cA : FieldType → ClassId) (ad : Nat → Nat) (sz : Nat) (av : List Value) (W0 : px_W) : Array Value → State → Prop := fun v U => v = (av.map (px_tr ad)).toArray ∧ U.heap.size = sz ∧ va_P D vwCl (px_w cA ad W0) U.heap ∧ va_K D vwCl (px_tys cA) U ∧ va_D (fun _ => True) (px_w cA ad W0) ∧ px_E0 ad (va_A (px_w cA ad W0) sz) U
theorem px_blind {D : va_G} {cA : FieldType → ClassId} {ad : Nat → Nat} {sz : Nat} {av : List Value} {W0 : px_W} : FrameBlind (px_Pc D cA ad sz av W0) := by
  intro a U g mk h
  obtain ⟨h1, h2, h3, h4, h5, h6, h7, h8, h9⟩ := h
  exact ⟨h1, h2, h3, va_K.moved (u := U) (U := U.calling g mk a) (Vm.Alike.refl U.vm) h4, h5, px_SZ.moved (u := U) (U := U.calling g mk a) (Vm.Alike.refl U.vm) h6, vk_R.same rfl h7, vk_R.same rfl h8, px_Nst.same (u := U) (U := U.calling g mk a) rfl h9⟩
theorem px_pre {p : Program} {s : State} {m : MethodId} {args : Array Value} {meth : Method} {c : Code} {D : va_G} {cA : FieldType → ClassId} {ad : Nat → Nat} {A : Nat → Prop} {H : Heap} {locs : List Loc} {av1 : List Value} (hC : px_C M p s m args meth c D cA A ad) (h : px_sub ro W0 W1) (hP : va_P D vwCl (px_w cA ad W0) H) (hD : va_D A (px_w cA ad W0)) (hS : va_S A s.heap H locs) :
    ∀ U : State, U.heap = H → s.WarmedH U.vm → px_Pc D cA (fun k => ad (px_f ro k)) H.size av1 W1 (av1.map (px_tr fun k => ad (px_f ro k))).toArray U := by
  obtain ⟨hx, hcode, hml, hown, hts, hr, hlk, hmn, hK, hE, hA⟩ := hC
  intro U hU hW
  exact ⟨rfl, by rw [hU], by rw [hU]; exact px_call_P h hP, va_K.moved hW.alike hK, (px_call_D h hD).weaken (fun _ _ _ _ => trivial), px_E0_to ro hE hS (px_call_A h hD hS hA) hU hW⟩
/-- behind a call -/
theorem px_after {p : Program} {l : Launch} {e : Env} {s : State} {m : MethodId} {args : Array Value} {below : List Frame} {meth : Method} {c : Code} {D : va_G} {cA : FieldType → ClassId} {ad0 ad : Nat → Nat} {A : Nat → Prop} {n0 : Nat} {H : Heap} {locs : List Loc} {ls : Array Slot} {a1 : Array Value} {st0 : List Value}
    (hC : px_C M p s m args meth c D cA A ad) (hXt : G.2.1 s A ad) (hn : G.2.2.1 ad0 ad n0 W0.length) (hP : va_P D vwCl (px_w cA ad W0) H) (hD : va_D A (px_w cA ad W0)) (hS : va_S A s.heap H locs) (hl : px_lr ad M.2.2.1 pl ls) (h : px_sub ro W0 W1)
    (hr : va_Run p l e G.1 s m args below meth c H locs nc ns 0 0 (F0 m pc ls st0) (rest.map (px_tr ad)) (px_Q D cA (fun k => ad (px_f ro k)) W1.length (va_A (px_w cA (fun k => ad (px_f ro k)) W1) H.size) post1 a1) (va_A (px_w cA (fun k => ad (px_f ro k)) W1) H.size))
    (k : ∀ (r : Option Value) (W1' : px_W), post1 r W1' → W1'.length = W1.length → XG M G nc ns (pc + 3) pl ((r.map (px_tr (px_f ro))).toList ++ rest) (px_pt (px_f ro) ro W1' W0)) :
    W p l e G.1 s m args below meth c H locs nc ns (G.2.2.2 below args s D cA ad0 n0 A) (F0 m pc ls st0) := by
  intro T hT X
  obtain ⟨v, st₀, t, T', L, h0, X', hL, e1, e2, ⟨r, W1', hp, hlen1, hv, hP1, hF⟩, stp⟩ := hr T hT X
  have hA := px_call_A h hD hS hC.2.2.2.2.2.2.2.2.2.2
  have hlen2 : (px_pt (px_f ro) ro W1' W0).length = W0.length := px_pt_len _ _ _ _
  have hP2 : va_P D vwCl (px_w cA ad (px_pt (px_f ro) ro W1' W0)) T'.heap := by
    intro j q hq
    obtain ⟨c2, h1, rfl⟩ := px_w_of hq
    have hj : j < W0.length := by rw [← hlen2]; exact (List.getElem?_eq_some_iff.mp h1).1
    by_cases hm : j ∈ ro
    · obtain ⟨i, hi⟩ := List.getElem?_of_mem hm
      have hi1 : i < W1'.length := by rw [hlen1, ← px_sub_len h]; exact (List.getElem?_eq_some_iff.mp hi).1
      have h2 := px_pt_in (px_f ro) ro W1' W0 i j _ h.2.1 hi (List.getElem?_eq_getElem hi1) hj
      rw [h2] at h1
      cases h1
      have h3 := hP1 i _ (px_w_at (List.getElem?_eq_getElem hi1))
      have e3 : px_f ro i = j := px_f_at hi (Nat.lt_of_lt_of_le (List.getElem?_eq_some_iff.mp hi).1 h.2.2)
      rw [px_e_er]
      rw [e1]
      rw [show ad j = ad (px_f ro i) by rw [e3]]
      exact h3
    · rw [px_pt_out _ _ _ _ _ hm] at h1
      have h2 := hP j _ (px_w_at h1)
      refine h2.kept ?_
      rw [e1, hF.2 (ad j) (by rw [h0]; exact h2.lt) ?_, h0]
      intro hc
      rcases hc with ⟨k, e', hk⟩ | hc
      · obtain ⟨j', h3, -, h4⟩ := px_sub_w h hk
        have e4 := hD.1 j j' _ _ (px_w_at h1) h4 rfl
        subst e4
        exact hm (List.mem_of_getElem? h3)
      · exact absurd h2.lt (Nat.not_lt.mpr hc)
  have hS2 : va_S A s.heap T'.heap (locs ++ L) := by
    refine ⟨Nat.le_trans hS.1 (by rw [e1, ← h0]; exact hF.1), fun q h1 h2 => ?_, fun q hq => ?_⟩
    · rw [e1, hF.2 q (by rw [h0]; exact Nat.lt_of_lt_of_le h1 hS.1) (fun z => h2 (hA q z)), h0]
      exact hS.2.1 q h1 h2
    · rcases List.mem_append.mp hq with h | h
      · exact hS.2.2 q h
      · exact hA _ (hL q h)
  obtain ⟨t2, a2, b2⟩ := k r W1' hp hlen1 p l e s m args below meth c D cA ad0 ad A n0 hC hXt (by rw [hlen2]; exact hn) T'.heap (locs ++ L) ls hP2 (px_D_len hlen2 hD) hS2 hl T' rfl X'
  refine ⟨t2, stp t2 ?_, b2⟩
  have e5 : v.toList ++ rest.map (px_tr ad) = ((r.map (px_tr (px_f ro))).toList ++ rest).map (px_tr ad) := by
    cases hv
    rw [List.map_append]
    congr 1
    cases r with
    | none => rfl
    | some x => show [px_tr _ x] = [px_tr ad (px_tr (px_f ro) x)]; rw [px_tr_tr]
  show Steps _ _ _ (T'.setTop (F0 m (pc + 3) ls (v.toList ++ rest.map (px_tr ad)))) t2
  rw [e5]
  exact a2
/-- the words of a call of an instance method: the link, the method's own -/
def px_kV (own : String) (idx : Nat) (N : px_M) (n ci : Nat) : Prop := Cond.methodLink own idx N.1 ∈ px_tbl ∧ Cond.instanceMethod N.1 ∈ px_tbl ∧ Cond.selects N.1.cls N.1 N.1 ∈ px_tbl ∧ Cond.initialized N.1.cls ∈ px_tbl ∧ Cond.code N.1 N.2.1 N.2.2.1 N.2.2.2 ∈ px_tbl ∧ N.2.2.1 ≤ 41 ∧ (∃ (T : u_T) (k : Nat), vwCl[ci]? = some (N.1.cls, T, k)) ∧ N.1.cls ≠ "java/lang/invoke/MethodHandle" ∧ N.1.cls ≠ "java/lang/invoke/VarHandle" ∧ (parseMethodDescriptor N.1.desc).map (fun d => d.parameters.length) = some n
def px_kS (own : String) (idx : Nat) (N : px_M) (n : Nat) : Prop := Cond.methodLink own idx N.1 ∈ px_tbl ∧ Cond.static N.1 ∈ px_tbl ∧ Cond.initialized N.1.cls ∈ px_tbl ∧ Cond.code N.1 N.2.1 N.2.2.1 N.2.2.2 ∈ px_tbl ∧ N.2.2.1 ≤ 41 ∧ N.1.cls ≠ "java/lang/invoke/MethodHandle" ∧ N.1.cls ≠ "java/lang/invoke/VarHandle" ∧ (parseMethodDescriptor N.1.desc).map (fun d => d.parameters.length) = some n
def px_kN (own host : String) (idx : Nat) (N : px_M) (n : Nat) : Prop := Cond.methodLinkNest own idx N.1 host ∈ px_nst ∧ Cond.static N.1 ∈ px_tbl ∧ Cond.initialized N.1.cls ∈ px_tbl ∧ Cond.code N.1 N.2.1 N.2.2.1 N.2.2.2 ∈ px_tbl ∧ N.2.2.1 ≤ 41 ∧ N.1.cls ≠ "java/lang/invoke/MethodHandle" ∧ N.1.cls ≠ "java/lang/invoke/VarHandle" ∧ (parseMethodDescriptor N.1.desc).map (fun d => d.parameters.length) = some n
theorem px_goodws (h : Cond.code N.1 N.2.1 N.2.2.1 N.2.2.2 ∈ px_tbl) : GoodIn px_tbl (px_ws N) := by
  intro w hw
  rcases List.mem_cons.mp hw with rfl | hw
  · exact ⟨h, px_tbl_good _ h⟩
  · exact ⟨hw, px_tbl_good w hw⟩
/-- the callee's room lies in what is left -/
def px_fit (d1 : Nat) (R : Room) (nc ns : Nat) : Prop := d1 + 1 ≤ R.frames ∧ 60 * d1 + 60 ≤ R.locals ∧ nc ≤ R.cells ∧ ns ≤ R.slots
theorem px_roomR {R : Room} (hd1 : px_fit d1 R nc ns) (hm : N.2.2.1 ≤ 41) : (px_room d1 0 0).frames + 1 ≤ R.frames ∧ 8 + (N.2.2.1 + 11) + (px_room d1 0 0).locals ≤ R.locals := by
  refine ⟨hd1.1, ?_⟩
  show 8 + (N.2.2.1 + 11) + 60 * d1 ≤ R.locals
  have := hd1.2.1
  omega
theorem px_fitS {d : Nat} {post : Option Value → px_W → Prop} (h : d1 + 1 ≤ d) : px_fit d1 (px_gS d post).1 0 0 := ⟨h, by show 60 * d1 + 60 ≤ 60 * d; omega, Nat.le_refl _, Nat.le_refl _⟩
theorem XG.callV {b1 ci n : Nat} {As : List Value} {fs : List Value} (hd : decode M.2.1 pc = .ok (.invokevirtual idx, 3)) (hk : px_kV M.1.cls idx N n ci) (hN : Con N d1 (.ref b1 :: As) W1 post1) (hd1 : px_fit d1 G.1 nc ns) (hn : As.length = n) (h : px_sub ro W0 W1) (hb : W1[b1]? = some (.inr (ci, fs))) (hst : st = (As.map (px_tr (px_f ro))).reverse ++ .ref (px_f ro b1) :: rest) (hrm : (rest.map fun v => v.category).sum ≤ 8)
    (k : ∀ (r : Option Value) (W1' : px_W), post1 r W1' → W1'.length = W1.length → XG M G nc ns (pc + 3) pl ((r.map (px_tr (px_f ro))).toList ++ rest) (px_pt (px_f ro) ro W1' W0)) : XG M G nc ns pc pl st W0 := by
  intro p l e s m args below meth c D cA ad0 ad A n0 hC hXt hn0 H locs ls hP hD hS hl
  obtain ⟨hx, hcode, hml, hown, hts, hr, hlk, hmn, hK, hE, hA⟩ := id hC
  obtain ⟨k1, k2, k3, k4, k5, k6, ⟨T9, k9, k7⟩, k8⟩ := hk
  refine px_after hC hXt hn0 hP hD hS hl h (a1 := ((Value.ref b1 :: As).map (px_tr fun k => ad (px_f ro k))).toArray) ?_ k
  have hst2 : st.map (px_tr ad) = (As.map (px_tr fun k => ad (px_f ro k))).reverse ++ .ref (ad (px_f ro b1)) :: rest.map (px_tr ad) := by
    rw [hst, List.map_append, List.map_reverse, List.map_map]
    congr 2
    apply List.map_congr_left
    intro v _
    exact px_tr_tr ad (px_f ro) v
  refine va_runV (As := As.map (px_tr fun k => ad (px_f ro k))) (b := ad (px_f ro b1)) (C := N.1.cls) (n := n) (bytes := N.2.1) (maxL := N.2.2.1) (ret := N.2.2.2) (Ts := px_tbl) ⟨hx, hcode, hml, hown, hts⟩ (hN l D cA (fun k => ad (px_f ro k)) H.size) ⟨callB_of n hts (px_goodws k5) rfl rfl rfl (hts _ k4) (hts _ k1) k8 (px_roomR hd1 k6), hts _ k2, hts _ k3⟩ ⟨px_blind, va_recv hK (px_call_P h hP) k7 (px_hdo hb), px_pre (av1 := .ref b1 :: As) hC h hP hD hS⟩ rfl (by rw [List.length_map]; exact hn) hl.1.1 hst2 ?_ hd ⟨hd1.2.2.1, hd1.2.2.2⟩
  refine lv_room ?_
  rw [List.map_map, show ((fun v => Value.category v) ∘ px_tr ad) = (fun v => v.category) from funext fun v => px_tr_cat ad v]
  exact hrm
theorem XG.callS {n : Nat} {As : List Value} (hd : decode M.2.1 pc = .ok (.invokestatic idx, 3)) (hk : px_kS M.1.cls idx N n) (hN : Con N d1 As W1 post1) (hd1 : px_fit d1 G.1 nc ns) (hn : As.length = n) (h : px_sub ro W0 W1) (hst : st = (As.map (px_tr (px_f ro))).reverse ++ rest) (hrm : (rest.map fun v => v.category).sum ≤ 8)
    (k : ∀ (r : Option Value) (W1' : px_W), post1 r W1' → W1'.length = W1.length → XG M G nc ns (pc + 3) pl ((r.map (px_tr (px_f ro))).toList ++ rest) (px_pt (px_f ro) ro W1' W0)) : XG M G nc ns pc pl st W0 := by
  intro p l e s m args below meth c D cA ad0 ad A n0 hC hXt hn0 H locs ls hP hD hS hl
  obtain ⟨hx, hcode, hml, hown, hts, hr, hlk, hmn, hK, hE, hA⟩ := id hC
  obtain ⟨k1, k2, k4, k5, k6, k8⟩ := hk
  refine px_after hC hXt hn0 hP hD hS hl h (a1 := (As.map (px_tr fun k => ad (px_f ro k))).toArray) ?_ k
  have hst2 : st.map (px_tr ad) = (As.map (px_tr fun k => ad (px_f ro k))).reverse ++ rest.map (px_tr ad) := by
    rw [hst, List.map_append, List.map_reverse, List.map_map]
    congr 2
    apply List.map_congr_left
    intro v _
    exact px_tr_tr ad (px_f ro) v
  refine va_runS (As := As.map (px_tr fun k => ad (px_f ro k))) (n := n) (bytes := N.2.1) (maxL := N.2.2.1) (ret := N.2.2.2) (Ts := px_tbl) ⟨hx, hcode, hml, hown, hts⟩ (hN l D cA (fun k => ad (px_f ro k)) H.size) ⟨callB_of n hts (px_goodws k5) rfl rfl rfl (hts _ k4) (hts _ k1) k8 (px_roomR hd1 k6), hts _ k2⟩ ⟨px_blind, px_pre (av1 := As) hC h hP hD hS⟩ rfl (by rw [List.length_map]; exact hn) hl.1.1 hst2 ?_ hd ⟨hd1.2.2.1, hd1.2.2.2⟩
  refine lv_room ?_
  rw [List.map_map, show ((fun v => Value.category v) ∘ px_tr ad) = (fun v => v.category) from funext fun v => px_tr_cat ad v]
  exact hrm
theorem XG.callN {n : Nat} {host : String} {As : List Value} (hd : decode M.2.1 pc = .ok (.invokestatic idx, 3)) (hk : px_kN M.1.cls host idx N n) (hN : Con N d1 As W1 post1) (hd1 : px_fit d1 G.1 nc ns) (hn : As.length = n) (h : px_sub ro W0 W1) (hst : st = (As.map (px_tr (px_f ro))).reverse ++ rest) (hrm : (rest.map fun v => v.category).sum ≤ 8)
    (k : ∀ (r : Option Value) (W1' : px_W), post1 r W1' → W1'.length = W1.length → XG M G nc ns (pc + 3) pl ((r.map (px_tr (px_f ro))).toList ++ rest) (px_pt (px_f ro) ro W1' W0)) : XG M G nc ns pc pl st W0 := by
  intro p l e s m args below meth c D cA ad0 ad A n0 hC hXt hn0 H locs ls hP hD hS hl
  obtain ⟨hx, hcode, hml, hown, hts, hr, hlk, hmn, hK, hE, hA⟩ := id hC
  obtain ⟨k1, k2, k4, k5, k6, k8⟩ := hk
  refine px_after hC hXt hn0 hP hD hS hl h (a1 := (As.map (px_tr fun k => ad (px_f ro k))).toArray) ?_ k
  have hst2 : st.map (px_tr ad) = (As.map (px_tr fun k => ad (px_f ro k))).reverse ++ rest.map (px_tr ad) := by
    rw [hst, List.map_append, List.map_reverse, List.map_map]
    congr 2
    apply List.map_congr_left
    intro v _
    exact px_tr_tr ad (px_f ro) v
  refine va_runSN (As := As.map (px_tr fun k => ad (px_f ro k))) (n := n) (bytes := N.2.1) (maxL := N.2.2.1) (ret := N.2.2.2) (Ts := px_tbl) ⟨hx, hcode, hml, hown, hts⟩ (hN l D cA (fun k => ad (px_f ro k)) H.size) ⟨va_cnB n hts (px_goodws k5) rfl rfl rfl (hE.2.2.2 _ k1) (hts _ k4) k8 (px_roomR hd1 k6), hts _ k2, trivial⟩ ⟨px_blind, px_pre (av1 := As) hC h hP hD hS⟩ rfl (by rw [List.length_map]; exact hn) hl.1.1 hst2 ?_ hd ⟨hd1.2.2.1, hd1.2.2.2⟩
  refine lv_room ?_
  rw [List.map_map, show ((fun v => Value.category v) ∘ px_tr ad) = (fun v => v.category) from funext fun v => px_tr_cat ad v]
  exact hrm
end CALL
