/-! contracts of constructors: cells are made -/
def px_QA (D : va_G) (cA : FieldType → ClassId) (ad : Nat → Nat) (n0 : Nat) (A : Nat → Prop) (post : Option Value → px_W → Prop) : Array Value → State → Outcome → State → Prop := fun _ st o t =>
  ∃ (r : Option Value) (W' : px_W) (ad' : Nat → Nat), post r W' ∧ px_agr n0 ad ad' ∧ n0 ≤ W'.length ∧ o = .returned (r.map (px_tr ad')) ∧ va_P D vwCl (px_w cA ad' W') t.heap ∧ va_D A (px_w cA ad' W') ∧ va_F A st t
def px_gA (d mc ms : Nat) (post : Option Value → px_W → Prop) : px_G := (px_room d mc ms, fun _ _ _ => True, fun ad0 ad n0 n => px_agr n0 ad0 ad ∧ n0 ≤ n ∧ n ≤ 1000, fun below args s D cA ad n0 A => MQ below (px_QA D cA ad n0 A post) args s mc ms A)
theorem px_agr_tr {n n0 : Nat} {a b c : Nat → Nat} (h1 : px_agr n0 a b) (h2 : px_agr n b c) (h : n0 ≤ n) : px_agr n0 a c := fun k hk => (h2 k (hk.elim (fun x => Or.inl (by omega)) Or.inr)).trans (h1 k hk)
theorem px_gA_ok {d mc ms : Nat} {post : Option Value → px_W → Prop} : px_gok (px_gA d mc ms post) := ⟨fun _ _ _ _ _ _ h => h, fun _ _ _ _ _ _ h h2 h3 h4 => ⟨px_agr_tr h.1 h2 h.2.1, Nat.le_trans h.2.1 h3, h4⟩⟩
def ConA (M : px_M) (d mc ms : Nat) (av : List Value) (W0 : px_W) (post : Option Value → px_W → Prop) : Prop :=
  ∀ (l : Launch) (D : va_G) (cA : FieldType → ClassId) (ad : Nat → Nat) (sz : Nat), Met l M.1 (px_ws M) (px_room d mc ms) (px_Pc D cA ad sz av W0) (px_QA D cA ad W0.length (va_A (px_w cA ad W0) sz) post) mc ms (va_A (px_w cA ad W0) sz)
theorem ConA.of {M : px_M} {d mc ms : Nat} {av : List Value} {W0 : px_W} {post : Option Value → px_W → Prop} (hy : plainName M.1.cls = true) (hfit : (px_en av).length ≤ M.2.2.1) (hW : W0.length ≤ 1000) (h : XG M (px_gA d mc ms post) 0 0 0 (px_in av M.2.2.1) [] W0) : ConA M d mc ms av W0 post := by
  intro l D cA ad sz
  refine Met.ofW (cc := M.2.1) (maxL := M.2.2.1) (ret := M.2.2.2) hy rfl ?_
  intro p e s m args below meth c s₁ B hml hv
  obtain ⟨rfl, hsz, hP, hK, hD0, hE⟩ := hv
  have hts := atoms_spec (ws := px_ws M) B.pre
  have hown : s.vm.findClass M.1.cls = some m.cls := findClass_of_methodNamed B.named
  subst hsz
  have hD := hD0.self (sz := s.heap.size)
  have hl := lv_entry (av.map (px_tr ad)) (n := M.2.2.1) (by rw [px_lg_len]; exact hfit)
  rw [lg_entry_eq]
  refine h p l e s m _ below meth c D cA ad ad (va_A (px_w cA ad W0) s.heap.size) W0.length ⟨B.exec, B.bytes, hml, hown, fun w hw => hts w (List.mem_cons_of_mem _ hw), B.returns, B.notSynchronized, (name_of_methodNamed B.named B.method).1, hK, hE, fun q h => Or.inr h⟩ trivial ⟨fun _ _ => rfl, Nat.le_refl _, hW⟩ s.heap [] _ hP hD va_S.rf ⟨⟨hl.1, hl.2.1, fun q hq => by cases hq⟩, fun i v hi => ?_⟩
  have hi2 : (px_en av)[i]? = some (some v) := by
    unfold px_in at hi
    by_cases hlt : i < (px_en av).length
    · rwa [List.getElem?_append_left hlt] at hi
    · rw [List.getElem?_append_right (by omega), List.getElem?_replicate] at hi
      split at hi <;> cases hi
  have h2 := px_en_at ad av 0 i v hi2
  rw [Nat.zero_add] at h2
  exact hl.2.2 _ h2
theorem XG.vretA {M : px_M} {d mc ms nc ns pc : Nat} {post : Option Value → px_W → Prop} {pl : px_L} {W0 : px_W} (hd : decode M.2.1 pc = .ok (.return_, 1)) (hr9 : M.2.2.2 = none) (h1 : nc ≤ mc) (h2 : ns ≤ ms) (hp : post none W0) : XG M (px_gA d mc ms post) nc ns pc pl [] W0 := by
  intro p l e s m args below meth c D cA ad0 ad A n0 hC hXt hn H locs ls hP hD hS hl
  obtain ⟨hx, hcode, hml, hown, hts, hr, hlk, hmn, hK, hE⟩ := id hC
  obtain ⟨g1, g2, g3⟩ : px_agr n0 ad0 ad ∧ n0 ≤ W0.length ∧ W0.length ≤ 1000 := hn
  refine W.widen (k := mc) (n := ms) h1 h2 ?_
  exact W.vret hx hcode (hr.trans hr9) (fun t ht hW => ⟨none, W0, ad, hp, g1, g2, rfl, by rw [ht]; exact hP, hD, hS.F ht⟩) hS.2.2 hd hlk
def px_ro2 (ro : List Nat) (n0 n1 n2 : Nat) : List Nat := ro ++ (List.range (n2 - n1)).map (fun i => n0 + i)
def px_ptA (ro : List Nat) (W1 W1' W0 : px_W) : px_W := px_pt (px_f (px_ro2 ro W0.length W1.length W1'.length)) ro W1' W0 ++ (W1'.drop W1.length).map (px_er (px_f (px_ro2 ro W0.length W1.length W1'.length)))
def px_kI (own : String) (idx : Nat) (N : px_M) (n : Nat) : Prop := (Cond.methodLink own idx N.1 ∈ px_tbl ∨ ∃ host, Cond.methodLinkNest own idx N.1 host ∈ px_nst) ∧ Cond.instanceMethod N.1 ∈ px_tbl ∧ Cond.initialized N.1.cls ∈ px_tbl ∧ Cond.code N.1 N.2.1 N.2.2.1 N.2.2.2 ∈ px_tbl ∧ N.2.2.1 ≤ 41 ∧ N.2.2.2 = none ∧ N.1.name = "<init>" ∧ N.1.cls ≠ "java/lang/invoke/MethodHandle" ∧ N.1.cls ≠ "java/lang/invoke/VarHandle" ∧ (parseMethodDescriptor N.1.desc).map (fun d => d.parameters.length) = some n
theorem px_e_tr {cA : FieldType → ClassId} {ad2 ad1 f : Nat → Nat} {n : Nat} (h : ∀ k, k < n ∨ 1000 ≤ k → ad2 (f k) = ad1 k) {c : px_E} (hc : px_nrE n c = true) : px_e cA ad2 (px_er f c) = px_e cA ad1 c := by
  rw [px_e_er]
  cases c with
  | inl x => rfl
  | inr o =>
    show Sum.inr (o.1, o.2.map (px_tr fun k => ad2 (f k))) = Sum.inr (o.1, o.2.map (px_tr ad1))
    congr 2
    apply List.map_congr_left
    intro v hv
    have h1 := List.all_eq_true.mp hc v hv
    cases v with
    | ref k => show Value.ref (ad2 (f k)) = Value.ref (ad1 k); rw [h k (by simpa [px_nr] using h1)]
    | _ => rfl
section CTOR
variable {M N : px_M} {G : px_G} {d1 pc idx nc ns mc ms : Nat} {post1 : Option Value → px_W → Prop} {pl : px_L} {st rest : List Value} {W0 W1 : px_W} {ro : List Nat}
set_option maxHeartbeats 1000000 in
theorem XG.callI {b1 n : Nat} {As : List Value} (hg : px_gok G) (hd : decode M.2.1 pc = .ok (.invokespecial idx, 3)) (hk : px_kI M.1.cls idx N n) (hN : ConA N d1 mc ms (.ref b1 :: As) W1 post1) (hf1 : d1 + 1 ≤ G.1.frames) (hf2 : 60 * d1 + 60 ≤ G.1.locals) (hf3 : nc + mc ≤ G.1.cells) (hf4 : ns + ms ≤ G.1.slots) (hn : As.length = n) (h : px_sub ro W0 W1) (hst : st = (As.map (px_tr (px_f ro))).reverse ++ .ref (px_f ro b1) :: rest) (hrm : (rest.map fun v => v.category).sum ≤ 8)
    (hw : px_wf W0 = true) (hrn : rest.all (px_nr W0.length) = true) (hpl : px_nrL W0.length pl = true) (hp1 : ∀ r W', post1 r W' → r = none ∧ px_wf W' = true ∧ W0.length + (W'.length - W1.length) ≤ 1000)
    (k : ∀ W1', post1 none W1' → W1.length ≤ W1'.length → XG M G (nc + mc) (ns + ms) (pc + 3) pl rest (px_ptA ro W1 W1' W0)) : XG M G nc ns pc pl st W0 := by
  intro p l e s m args below meth c D cA ad0 ad A n0 hC hXt hn0 H locs ls hP hD hS hl
  obtain ⟨hx, hcode, hml, hown, hts, hr, hlk, hmn, hK, hE, hA9⟩ := id hC
  obtain ⟨k1, k2, k4, k5, k6, k7, k9, k8⟩ := hk
  have hst2 : st.map (px_tr ad) = (As.map (px_tr fun k => ad (px_f ro k))).reverse ++ .ref (ad (px_f ro b1)) :: rest.map (px_tr ad) := by
    rw [hst, List.map_append, List.map_reverse, List.map_map]
    congr 2
    apply List.map_congr_left
    intro v _
    exact px_tr_tr ad (px_f ro) v
  have hrm2 : ((rest.map (px_tr ad)).map fun v => v.category).sum ≤ 8 := by
    rw [List.map_map, show ((fun v => Value.category v) ∘ px_tr ad) = (fun v => v.category) from funext fun v => px_tr_cat ad v]
    exact hrm
  have hR : (px_room d1 mc ms).frames + 1 ≤ G.1.frames ∧ 8 + (N.2.2.1 + 11) + (px_room d1 mc ms).locals ≤ G.1.locals := by
    refine ⟨hf1, ?_⟩
    show 8 + (N.2.2.1 + 11) + 60 * d1 ≤ G.1.locals
    omega
  have hrun : va_Run p l e G.1 s m args below meth c H locs nc ns mc ms (F0 m pc ls (st.map (px_tr ad))) (rest.map (px_tr ad)) (px_QA D cA (fun k => ad (px_f ro k)) W1.length (va_A (px_w cA (fun k => ad (px_f ro k)) W1) H.size) post1 ((Value.ref b1 :: As).map (px_tr fun k => ad (px_f ro k))).toArray) (va_A (px_w cA (fun k => ad (px_f ro k)) W1) H.size) := by
    have hws : px_ws N = Cond.code N.1 N.2.1 N.2.2.1 none :: px_tbl := by unfold px_ws; rw [k7]
    rcases k1 with k1 | ⟨host, k1⟩
    · exact va_runI (As := As.map (px_tr fun k => ad (px_f ro k))) (b := ad (px_f ro b1)) (n := n) (bytes := N.2.1) (maxL := N.2.2.1) (Ts := px_tbl) ⟨hx, hcode, hml, hown, hts⟩ (hN l D cA (fun k => ad (px_f ro k)) H.size) (cwI n hts (px_goodws k5) hws rfl rfl (hts _ k4) (hts _ k1) (hts _ k2) k9 k8 hR) ⟨px_blind, px_pre (av1 := .ref b1 :: As) hC h hP hD hS⟩ rfl (by rw [List.length_map]; exact hn) hl.1.1 hst2 (lv_room hrm2) hd ⟨hf3, hf4⟩
    · exact va_runIN (As := As.map (px_tr fun k => ad (px_f ro k))) (b := ad (px_f ro b1)) (n := n) (bytes := N.2.1) (maxL := N.2.2.1) (Ts := px_tbl) ⟨hx, hcode, hml, hown, hts⟩ (hN l D cA (fun k => ad (px_f ro k)) H.size) ⟨va_cnB n hts (px_goodws k5) hws rfl rfl (hE.2.2.2 _ k1) (hts _ k4) k8 hR, k9, hts _ k2⟩ ⟨px_blind, px_pre (av1 := .ref b1 :: As) hC h hP hD hS⟩ rfl (by rw [List.length_map]; exact hn) hl.1.1 hst2 (lv_room hrm2) hd ⟨hf3, hf4⟩
  intro T hT X
  obtain ⟨v, st₀, t, T', L, h0, X', hL, e1, e2, ⟨r, W1', ad1, hp, hag, hlen1, hv, hP1, hD1, hF⟩, stp⟩ := hrun T hT X
  obtain ⟨rfl, hwf1, h1000⟩ := hp1 r W1' hp
  cases hv
  have hA := px_call_A h hD hS hA9
  have hrl := px_sub_len h
  have hro0 : ∀ (i j : Nat), ro[i]? = some j → j < W0.length := by
    intro i j hi
    have hi1 : i < W1.length := by rw [← hrl]; exact (List.getElem?_eq_some_iff.mp hi).1
    obtain ⟨j', g1, -, g3⟩ := px_sub_at h (List.getElem?_eq_getElem hi1)
    rw [hi] at g1
    cases g1
    exact (List.getElem?_eq_some_iff.mp g3).1
  have hlt1 : W1'.length ≤ 1000 := by
    by_cases hz : W1.length ≤ W0.length
    · omega
    · have : ro.length ≤ W0.length := by
        have h9 := List.Nodup.length_le_of_subset h.2.1 (l₂ := List.range W0.length) (fun j hj => by
          obtain ⟨i, hi⟩ := List.getElem?_of_mem hj
          exact List.mem_range.mpr (hro0 i j hi))
        simpa using h9
      omega
  generalize hro2 : px_ro2 ro W0.length W1.length W1'.length = ro2 at k
  have f2a : ∀ i j, ro[i]? = some j → px_f ro2 i = j := by
    intro i j hi
    have hil := (List.getElem?_eq_some_iff.mp hi).1
    refine px_f_at ?_ (by omega)
    rw [← hro2]
    unfold px_ro2
    rw [List.getElem?_append_left hil]
    exact hi
  have f2b : ∀ i, W1.length ≤ i → i < W1'.length → px_f ro2 i = W0.length + (i - W1.length) := by
    intro i h1 h2
    refine px_f_at ?_ (by omega)
    rw [← hro2]
    unfold px_ro2
    rw [List.getElem?_append_right (by omega), hrl, List.getElem?_map, List.getElem?_range (by omega)]
    rfl
  obtain ⟨ad2, had2⟩ : ∃ ad2 : Nat → Nat, ad2 = fun j => if j < W0.length ∨ 1000 ≤ j then ad j else ad1 (W1.length + (j - W0.length)) := ⟨_, rfl⟩
  have hag2 : px_agr W0.length ad ad2 := fun j hj => by rw [had2]; exact if_pos hj
  have hnew : ∀ i, W1.length ≤ i → i < W1'.length → ad2 (W0.length + (i - W1.length)) = ad1 i := by
    intro i h1 h2
    rw [had2]
    show (if _ then _ else _) = _
    rw [if_neg (by omega)]
    congr 1
    omega
  have key : ∀ i, i < W1'.length ∨ 1000 ≤ i → ad2 (px_f ro2 i) = ad1 i := by
    intro i hi
    by_cases hi0 : i < W1.length
    · obtain ⟨j, g1, g2, g3⟩ := px_sub_at h (List.getElem?_eq_getElem hi0)
      rw [f2a i j g1, hag2 j (Or.inl (hro0 i j g1)), hag i (Or.inl hi0), ← g2]
    · by_cases hi1 : i < W1'.length
      · rw [f2b i (by omega) hi1, hnew i (by omega) hi1]
      · have hi2 : 1000 ≤ i := hi.elim (fun x => absurd x hi1) id
        rw [px_f_up ro2 hi2, hag2 i (Or.inr hi2), hag i (Or.inr hi2)]
        show ad i = ad (px_f ro i)
        rw [px_f_up ro hi2]
  have hlen2 : (px_pt (px_f ro2) ro W1' W0).length = W0.length := px_pt_len _ _ _ _
  have hW2 : px_ptA ro W1 W1' W0 = px_pt (px_f ro2) ro W1' W0 ++ (W1'.drop W1.length).map (px_er (px_f ro2)) := by unfold px_ptA; rw [hro2]
  have hW2len : (px_ptA ro W1 W1' W0).length = W0.length + (W1'.length - W1.length) := by rw [hW2, List.length_append, hlen2, List.length_map, List.length_drop]
  -- a cell of the new world: old and untouched, or the callee's
  have cells : ∀ j c2, (px_ptA ro W1 W1' W0)[j]? = some c2 → (j ∉ ro ∧ j < W0.length ∧ W0[j]? = some c2 ∧ ad2 j = ad j ∧ px_e cA ad2 c2 = px_e cA ad c2) ∨ ∃ i c1, W1'[i]? = some c1 ∧ ad2 j = ad1 i ∧ px_e cA ad2 c2 = px_e cA ad1 c1 ∧ px_f ro2 i = j := by
    intro j c2 hj
    rw [hW2] at hj
    by_cases hj0 : j < W0.length
    · rw [List.getElem?_append_left (by rw [hlen2]; exact hj0)] at hj
      by_cases hm : j ∈ ro
      · obtain ⟨i, hi⟩ := List.getElem?_of_mem hm
        have hi1 : i < W1'.length := by have := (List.getElem?_eq_some_iff.mp hi).1; omega
        have h2 := px_pt_in (px_f ro2) ro W1' W0 i j _ h.2.1 hi (List.getElem?_eq_getElem hi1) hj0
        rw [h2] at hj
        cases hj
        refine Or.inr ⟨i, _, List.getElem?_eq_getElem hi1, ?_, px_e_tr key (List.all_eq_true.mp hwf1 _ (List.getElem_mem hi1)), f2a i j hi⟩
        rw [← f2a i j hi]
        exact key i (Or.inl hi1)
      · rw [px_pt_out _ _ _ _ _ hm] at hj
        exact Or.inl ⟨hm, hj0, hj, hag2 j (Or.inl hj0), px_e_agr hag2 (List.all_eq_true.mp hw _ (List.mem_of_getElem? hj))⟩
    · rw [List.getElem?_append_right (by rw [hlen2]; omega), hlen2, List.getElem?_map, List.getElem?_drop] at hj
      cases hc1 : W1'[W1.length + (j - W0.length)]? with
      | none => rw [hc1] at hj; cases hj
      | some c1 =>
        rw [hc1] at hj
        cases hj
        have hi1 := (List.getElem?_eq_some_iff.mp hc1).1
        have ef := f2b (W1.length + (j - W0.length)) (by omega) hi1
        have ej : W0.length + (W1.length + (j - W0.length) - W1.length) = j := by omega
        rw [ej] at ef
        refine Or.inr ⟨_, c1, hc1, ?_, px_e_tr key (List.all_eq_true.mp hwf1 _ (List.mem_of_getElem? hc1)), ef⟩
        have e9 := key _ (Or.inl hi1)
        rw [ef] at e9
        exact e9
  have hnotA : ∀ j c2, j ∉ ro → W0[j]? = some c2 → ¬ va_A (px_w cA (fun k => ad (px_f ro k)) W1) H.size (ad j) := by
    intro j c2 hm h1 hc
    rcases hc with ⟨k, e', hk⟩ | hc
    · obtain ⟨j', h3, -, h4⟩ := px_sub_w h hk
      have e4 := hD.1 j j' _ _ (px_w_at h1) h4 rfl
      subst e4
      exact hm (List.mem_of_getElem? h3)
    · exact absurd (hP j _ (px_w_at h1)).lt (Nat.not_lt.mpr hc)
  have hP2 : va_P D vwCl (px_w cA ad2 (px_ptA ro W1 W1' W0)) T'.heap := by
    intro j q hq
    obtain ⟨c2, h1, rfl⟩ := px_w_of hq
    rcases cells j c2 h1 with ⟨hm, hj0, g1, g2, g3⟩ | ⟨i, c1, g1, g2, g3, -⟩
    · rw [g2, g3]
      have h2 := hP j _ (px_w_at g1)
      refine h2.kept ?_
      rw [e1, hF.2 (ad j) (by rw [h0]; exact h2.lt) (hnotA j c2 hm g1), h0]
    · rw [g2, g3, e1]
      exact hP1 i _ (px_w_at g1)
  have hD2 : va_D A (px_w cA ad2 (px_ptA ro W1 W1' W0)) := by
    refine ⟨fun i j x y hx9 hy9 e9 => ?_, fun j q hq => ?_⟩
    · obtain ⟨c2, h1, rfl⟩ := px_w_of hx9
      obtain ⟨c3, h2, rfl⟩ := px_w_of hy9
      have e9 : ad2 i = ad2 j := e9
      rcases cells i c2 h1 with ⟨hm, hj0, g1, g2, g3⟩ | ⟨i1, c1, g1, g2, g3, g4⟩
      · rcases cells j c3 h2 with ⟨hm', hj0', g1', g2', g3'⟩ | ⟨i1', c1', g1', g2', g3', g4'⟩
        · exact hD.1 i j _ _ (px_w_at g1) (px_w_at g1') (show ad i = ad j by rw [← g2, ← g2', e9])
        · exact absurd (by rw [show ad i = ad1 i1' by rw [← g2, ← g2', e9]]; exact hD1.2 i1' _ (px_w_at g1')) (hnotA i c2 hm g1)
      · rcases cells j c3 h2 with ⟨hm', hj0', g1', g2', g3'⟩ | ⟨i1', c1', g1', g2', g3', g4'⟩
        · exact absurd (by rw [show ad j = ad1 i1 by rw [← g2, ← g2', e9]]; exact hD1.2 i1 _ (px_w_at g1)) (hnotA j c3 hm' g1')
        · have e10 := hD1.1 i1 i1' _ _ (px_w_at g1) (px_w_at g1') (show ad1 i1 = ad1 i1' by rw [← g2, ← g2', e9])
          rw [← g4, ← g4', e10]
    · obtain ⟨c2, h1, rfl⟩ := px_w_of hq
      rcases cells j c2 h1 with ⟨hm, hj0, g1, g2, g3⟩ | ⟨i, c1, g1, g2, g3, -⟩
      · show A (ad2 j); rw [g2]; exact hD.2 j _ (px_w_at g1)
      · show A (ad2 j); rw [g2]; exact hA _ (hD1.2 i _ (px_w_at g1))
  have hS2 : va_S A s.heap T'.heap (locs ++ L) := by
    refine ⟨Nat.le_trans hS.1 (by rw [e1, ← h0]; exact hF.1), fun q h1 h2 => ?_, fun q hq => ?_⟩
    · rw [e1, hF.2 q (by rw [h0]; exact Nat.lt_of_lt_of_le h1 hS.1) (fun z => h2 (hA q z)), h0]
      exact hS.2.1 q h1 h2
    · rcases List.mem_append.mp hq with h | h
      · exact hS.2.2 q h
      · exact hA _ (hL q h)
  obtain ⟨t2, a2, b2⟩ := k W1' hp hlen1 p l e s m args below meth c D cA ad0 ad2 A n0 ⟨hx, hcode, hml, hown, hts, hr, hlk, hmn, hK, px_E0_agr hag2 hE, hA9⟩ (hg.1 _ _ _ _ _ hag2 hXt) (by rw [hW2len]; exact hg.2 _ _ _ _ _ _ hn0 hag2 (by omega) h1000) T'.heap (locs ++ L) ls hP2 hD2 hS2 (px_lr_agr hag2 hpl hl) T' rfl X'
  refine ⟨t2, stp t2 ?_, b2⟩
  rw [px_st_agr hag2 hrn] at a2
  exact a2
end CTOR
