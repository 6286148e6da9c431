/-! calls within one world: no places change -/
section CALL0
variable {M N : px_M} {G : px_G} {d1 pc idx nc ns : Nat} {post1 : Option Value → px_W → Prop} {pl : px_L} {st rest : List Value} {W0 : px_W}
theorem px_pre0 {p : Program} {s : State} {m : MethodId} {args : Array Value} {meth : Method} {c : Code} {D : va_G} {cA : FieldType → ClassId} {ad : Nat → Nat} {A : Nat → Prop} {H : Heap} {locs : List Loc} {av1 : List Value} (hC : px_C M p s m args meth c D cA A ad) (hP : va_P D vwCl (px_w cA ad W0) H) (hD : va_D A (px_w cA ad W0)) (hS : va_S A s.heap H locs) :
    ∀ U : State, U.heap = H → s.WarmedH U.vm → px_Pc D cA ad H.size av1 W0 (av1.map (px_tr ad)).toArray U := by
  obtain ⟨hx, hcode, hml, hown, hts, hr, hlk, hmn, hK, hE, hA⟩ := hC
  intro U hU hW
  have hB : ∀ q, va_A (px_w cA ad W0) H.size q → A q := by
    intro q hq
    rcases hq with ⟨k, e, hk⟩ | hq
    · exact hD.2 k (q, e) hk
    · exact hA q (Nat.le_trans hS.1 hq)
  refine ⟨rfl, by rw [hU], by rw [hU]; exact hP, va_K.moved hW.alike hK, hD.weaken (fun _ _ _ _ => trivial), ?_, vk_R.warm hW hE.2.1, vk_R.warm hW hE.2.2.1, px_Nst.warm hW hE.2.2.2⟩
  rw [hU]
  exact ((hE.1.kept hS.2.1).moved hW.alike).narrow hB
theorem px_after0 {p : Program} {l : Launch} {e : Env} {s : State} {m : MethodId} {args : Array Value} {below : List Frame} {meth : Method} {c : Code} {D : va_G} {cA : FieldType → ClassId} {ad0 ad : Nat → Nat} {A : Nat → Prop} {n0 : Nat} {H : Heap} {locs : List Loc} {ls : Array Slot} {a1 : Array Value} {st0 : List Value}
    (hC : px_C M p s m args meth c D cA A ad) (hXt : G.2.1 s A ad) (hn : G.2.2.1 ad0 ad n0 W0.length) (hP : va_P D vwCl (px_w cA ad W0) H) (hD : va_D A (px_w cA ad W0)) (hS : va_S A s.heap H locs) (hl : px_lr ad M.2.2.1 pl ls)
    (hr : va_Run p l e G.1 s m args below meth c H locs nc ns 0 0 (F0 m pc ls st0) (rest.map (px_tr ad)) (px_Q D cA ad W0.length (va_A (px_w cA ad W0) H.size) post1 a1) (va_A (px_w cA ad W0) H.size))
    (k : ∀ (r : Option Value) (W1' : px_W), post1 r W1' → W1'.length = W0.length → XG M G nc ns (pc + 3) pl (r.toList ++ rest) W1') :
    W p l e G.1 s m args below meth c H locs nc ns (G.2.2.2 below args s D cA ad0 n0 A) (F0 m pc ls st0) := by
  intro T hT X
  obtain ⟨v, st₀, t, T', L, h0, X', hL, e1, e2, ⟨r, W1', hp, hlen1, hv, hP1, hF⟩, stp⟩ := hr T hT X
  have hA : ∀ q, va_A (px_w cA ad W0) H.size q → A q := by
    intro q hq
    rcases hq with ⟨k, e, hk⟩ | hq
    · exact hD.2 k (q, e) hk
    · exact hC.2.2.2.2.2.2.2.2.2.2 q (Nat.le_trans hS.1 hq)
  have hS2 : va_S A s.heap T'.heap (locs ++ L) := by
    refine ⟨Nat.le_trans hS.1 (by rw [e1, ← h0]; exact hF.1), fun q h1 h2 => ?_, fun q hq => ?_⟩
    · rw [e1, hF.2 q (by rw [h0]; exact Nat.lt_of_lt_of_le h1 hS.1) (fun z => h2 (hA q z)), h0]
      exact hS.2.1 q h1 h2
    · rcases List.mem_append.mp hq with h | h
      · exact hS.2.2 q h
      · exact hA _ (hL q h)
  obtain ⟨t2, a2, b2⟩ := k r W1' hp hlen1 p l e s m args below meth c D cA ad0 ad A n0 hC hXt (by rw [hlen1]; exact hn) T'.heap (locs ++ L) ls (by rw [e1]; exact hP1) (px_D_len hlen1 hD) hS2 hl T' rfl X'
  refine ⟨t2, stp t2 ?_, b2⟩
  have e5 : v.toList ++ rest.map (px_tr ad) = (r.toList ++ rest).map (px_tr ad) := by
    cases hv
    rw [List.map_append]
    congr 1
    cases r <;> rfl
  show Steps _ _ _ (T'.setTop (F0 m (pc + 3) ls (v.toList ++ rest.map (px_tr ad)))) t2
  rw [e5]
  exact a2
theorem XG.callV0 {b1 ci n : Nat} {As : List Value} {fs : List Value} (hd : decode M.2.1 pc = .ok (.invokevirtual idx, 3)) (hk : px_kV M.1.cls idx N n ci) (hN : Con N d1 (.ref b1 :: As) W0 post1) (hd1 : px_fit d1 G.1 nc ns) (hn : As.length = n) (hb : W0[b1]? = some (.inr (ci, fs))) (hst : st = As.reverse ++ .ref b1 :: rest) (hrm : (rest.map fun v => v.category).sum ≤ 8)
    (k : ∀ (r : Option Value) (W1' : px_W), post1 r W1' → W1'.length = W0.length → XG M G nc ns (pc + 3) pl (r.toList ++ rest) W1') : XG M G nc ns pc pl st W0 := by
  intro p l e s m args below meth c D cA ad0 ad A n0 hC hXt hn0 H locs ls hP hD hS hl
  obtain ⟨hx, hcode, hml, hown, hts, hr, hlk, hmn, hK, hE, hA⟩ := id hC
  obtain ⟨k1, k2, k3, k4, k5, k6, ⟨T9, k9, k7⟩, k8⟩ := hk
  refine px_after0 hC hXt hn0 hP hD hS hl (a1 := ((Value.ref b1 :: As).map (px_tr ad)).toArray) ?_ k
  have hst2 : st.map (px_tr ad) = (As.map (px_tr ad)).reverse ++ .ref (ad b1) :: rest.map (px_tr ad) := by
    rw [hst, List.map_append, List.map_reverse]; rfl
  refine va_runV (As := As.map (px_tr ad)) (b := ad b1) (C := N.1.cls) (n := n) (bytes := N.2.1) (maxL := N.2.2.1) (ret := N.2.2.2) (Ts := px_tbl) ⟨hx, hcode, hml, hown, hts⟩ (hN l D cA ad H.size) ⟨callB_of n hts (px_goodws k5) rfl rfl rfl (hts _ k4) (hts _ k1) k8 (px_roomR hd1 k6), hts _ k2, hts _ k3⟩ ⟨px_blind, va_recv hK hP k7 (px_hdo hb), px_pre0 (av1 := .ref b1 :: As) hC hP hD hS⟩ rfl (by rw [List.length_map]; exact hn) hl.1.1 hst2 ?_ hd ⟨hd1.2.2.1, hd1.2.2.2⟩
  refine lv_room ?_
  rw [List.map_map, show ((fun v => Value.category v) ∘ px_tr ad) = (fun v => v.category) from funext fun v => px_tr_cat ad v]
  exact hrm
theorem XG.callS0 {n : Nat} {As : List Value} (hd : decode M.2.1 pc = .ok (.invokestatic idx, 3)) (hk : px_kS M.1.cls idx N n) (hN : Con N d1 As W0 post1) (hd1 : px_fit d1 G.1 nc ns) (hn : As.length = n) (hst : st = As.reverse ++ rest) (hrm : (rest.map fun v => v.category).sum ≤ 8)
    (k : ∀ (r : Option Value) (W1' : px_W), post1 r W1' → W1'.length = W0.length → XG M G nc ns (pc + 3) pl (r.toList ++ rest) W1') : XG M G nc ns pc pl st W0 := by
  intro p l e s m args below meth c D cA ad0 ad A n0 hC hXt hn0 H locs ls hP hD hS hl
  obtain ⟨hx, hcode, hml, hown, hts, hr, hlk, hmn, hK, hE, hA⟩ := id hC
  obtain ⟨k1, k2, k4, k5, k6, k8⟩ := hk
  refine px_after0 hC hXt hn0 hP hD hS hl (a1 := (As.map (px_tr ad)).toArray) ?_ k
  have hst2 : st.map (px_tr ad) = (As.map (px_tr ad)).reverse ++ rest.map (px_tr ad) := by
    rw [hst, List.map_append, List.map_reverse]
  refine va_runS (As := As.map (px_tr ad)) (n := n) (bytes := N.2.1) (maxL := N.2.2.1) (ret := N.2.2.2) (Ts := px_tbl) ⟨hx, hcode, hml, hown, hts⟩ (hN l D cA ad H.size) ⟨callB_of n hts (px_goodws k5) rfl rfl rfl (hts _ k4) (hts _ k1) k8 (px_roomR hd1 k6), hts _ k2⟩ ⟨px_blind, px_pre0 (av1 := As) hC hP hD hS⟩ rfl (by rw [List.length_map]; exact hn) hl.1.1 hst2 ?_ hd ⟨hd1.2.2.1, hd1.2.2.2⟩
  refine lv_room ?_
  rw [List.map_map, show ((fun v => Value.category v) ∘ px_tr ad) = (fun v => v.category) from funext fun v => px_tr_cat ad v]
  exact hrm
/-- a static method that touches no cell: its world is empty -/
theorem px_sub_nil : px_sub [] W0 [] := ⟨rfl, List.nodup_nil, Nat.zero_le _⟩
theorem XG.callSp {n : Nat} {As : List Value} {r : Option Value} (hd : decode M.2.1 pc = .ok (.invokestatic idx, 3)) (hk : px_kS M.1.cls idx N n) (hN : Con N d1 As [] (fun r' _ => r' = r)) (hd1 : px_fit d1 G.1 nc ns) (hn : As.length = n) (hnr : As.map (px_tr (px_f [])) = As) (hrr : r.map (px_tr (px_f [])) = r) (hst : st = As.reverse ++ rest) (hrm : (rest.map fun v => v.category).sum ≤ 8)
    (k : XG M G nc ns (pc + 3) pl (r.toList ++ rest) W0) : XG M G nc ns pc pl st W0 :=
  XG.callS hd hk hN hd1 hn px_sub_nil (by rw [hnr]; exact hst) hrm (fun r' W1' h1 h2 => by subst h1; rw [hrr]; exact k)
theorem XG.callNp {n : Nat} {host : String} {As : List Value} {r : Option Value} (hd : decode M.2.1 pc = .ok (.invokestatic idx, 3)) (hk : px_kN M.1.cls host idx N n) (hN : Con N d1 As [] (fun r' _ => r' = r)) (hd1 : px_fit d1 G.1 nc ns) (hn : As.length = n) (hnr : As.map (px_tr (px_f [])) = As) (hrr : r.map (px_tr (px_f [])) = r) (hst : st = As.reverse ++ rest) (hrm : (rest.map fun v => v.category).sum ≤ 8)
    (k : XG M G nc ns (pc + 3) pl (r.toList ++ rest) W0) : XG M G nc ns pc pl st W0 :=
  XG.callN hd hk hN hd1 hn px_sub_nil (by rw [hnr]; exact hst) hrm (fun r' W1' h1 h2 => by subst h1; rw [hrr]; exact k)
/-- System.arraycopy of ints between two cells -/
def px_kC (own : String) (idx : Nat) : Prop := Cond.methodLink own idx arraycopyName ∈ px_tbl ∧ Cond.native arraycopyName ∈ px_tbl ∧ Cond.static arraycopyName ∈ px_tbl ∧ Cond.initialized "java/lang/System" ∈ px_tbl
theorem XG.copyi {q0 q1 n0 n1 : Nat} {f g : Nat → Int32} {sp dp n : Int32} (hd : decode M.2.1 pc = .ok (.invokestatic idx, 3)) (hk : px_kC M.1.cls idx) (h0 : W0[q0]? = some (.inl (.int, n0, .inl f))) (h1 : W0[q1]? = some (.inl (.int, n1, .inl g))) (g1 : ¬ sp < 0) (g2 : ¬ dp < 0) (g3 : ¬ n < 0) (g4 : sp.toNatClampNeg + n.toNatClampNeg ≤ n0) (g5 : dp.toNatClampNeg + n.toNatClampNeg ≤ n1) (hfr : 1 ≤ G.1.frames) (hlo : 60 ≤ G.1.locals) (hrm : (rest.map fun v => v.category).sum ≤ 8)
    (k : XG M G nc ns (pc + 3) pl rest (W0.set q1 (.inl (.int, n1, .inl (va_cpy f g sp.toNatClampNeg dp.toNatClampNeg n.toNatClampNeg))))) : XG M G nc ns pc pl (.int n :: .int dp :: .ref q1 :: .int sp :: .ref q0 :: rest) W0 := by
  intro p l e s m args below meth c D cA ad0 ad A n9 hC hXt hn0 H locs ls hP hD hS hl
  obtain ⟨hx, hcode, hml, hown, hts, hr, hlk, hmn, hK, hE, hA⟩ := id hC
  obtain ⟨k1, k2, k3, k4⟩ := hk
  have hrm2 : ((rest.map (px_tr ad)).map fun v => v.category).sum ≤ 8 := by
    rw [List.map_map, show ((fun v => Value.category v) ∘ px_tr ad) = (fun v => v.category) from funext fun v => px_tr_cat ad v]
    exact hrm
  have hlo9 : ((rest.map (px_tr ad)).map fun v => v.category).sum + (nativeFrameWords "java/lang/System" "arraycopy" 5 + 11) ≤ G.1.locals := by
    have e9 : nativeFrameWords "java/lang/System" "arraycopy" 5 + 11 ≤ 50 := by decide
    omega
  refine va_copyi hx hcode (hml.trans hl.1.1.symm) hown (hts _ k1) (hts _ k2) (hts _ k3) (hts _ k4) hK hP hD hS q0 q1 0 0 (px_hds h0) (px_hds h1) (px_t0 cA) (px_t0 cA) rfl g1 g2 g3 g4 g5 (fun _ _ => rfl) hfr hlo9 hd (fun H1 locs1 q1 q2 q3 => ?_)
  exact k p l e s m args below meth c D cA ad0 ad A n9 hC hXt (by rw [List.length_set]; exact hn0) H1 locs1 ls (by rw [← px_w_set]; exact q1) (by rw [← px_w_set]; exact q2) q3 hl
end CALL0
