/-! making cells: a new cell lies behind the others; the places' addresses grow -/
def px_nr (n : Nat) : Value → Bool
  | .ref k => decide (k < n) || decide (1000 ≤ k)
  | _ => true
def px_nrE (n : Nat) : px_E → Bool
  | .inl _ => true
  | .inr o => o.2.all (px_nr n)
def px_nrL (n : Nat) (pl : px_L) : Bool := pl.all (fun o => match o with | some v => px_nr n v | none => true)
/-- every reference of this world is one of its places, or none of a cell -/
def px_wf (W0 : px_W) : Bool := W0.all (px_nrE W0.length)
def px_agr (n : Nat) (ad ad' : Nat → Nat) : Prop := ∀ k, k < n ∨ 1000 ≤ k → ad' k = ad k
theorem px_tr_agr {n : Nat} {ad ad' : Nat → Nat} (h : px_agr n ad ad') {v : Value} (hv : px_nr n v = true) : px_tr ad' v = px_tr ad v := by
  cases v with
  | ref k =>
    show Value.ref (ad' k) = Value.ref (ad k)
    rw [h k (by simpa [px_nr] using hv)]
  | _ => rfl
theorem px_e_agr {n : Nat} {cA : FieldType → ClassId} {ad ad' : Nat → Nat} (h : px_agr n ad ad') {c : px_E} (hc : px_nrE n c = true) : px_e cA ad' c = px_e cA ad c := by
  cases c with
  | inl x => rfl
  | inr o =>
    show Sum.inr (o.1, o.2.map (px_tr ad')) = Sum.inr (o.1, o.2.map (px_tr ad))
    congr 2
    apply List.map_congr_left
    intro v hv
    exact px_tr_agr h (List.all_eq_true.mp hc v hv)
theorem px_st_agr {n : Nat} {ad ad' : Nat → Nat} (h : px_agr n ad ad') {st : List Value} (hc : st.all (px_nr n) = true) : st.map (px_tr ad') = st.map (px_tr ad) := by
  apply List.map_congr_left
  intro v hv
  exact px_tr_agr h (List.all_eq_true.mp hc v hv)
theorem px_lr_agr {n N : Nat} {ad ad' : Nat → Nat} (h : px_agr n ad ad') {pl : px_L} {ls : Array Slot} (hc : px_nrL n pl = true) (hl : px_lr ad N pl ls) : px_lr ad' N pl ls := by
  refine ⟨hl.1, fun i v hi => ?_⟩
  have h1 := List.all_eq_true.mp hc (some v) (List.mem_of_getElem? hi)
  rw [px_tr_agr h h1]
  exact hl.2 i v hi
theorem px_w_agr {cA : FieldType → ClassId} {ad ad' : Nat → Nat} {W0 : px_W} (h : px_agr W0.length ad ad') (hc : px_wf W0 = true) : px_w cA ad' W0 = px_w cA ad W0 := by
  apply List.ext_getElem?
  intro j
  simp only [px_w, List.getElem?_mapIdx]
  cases hj : W0[j]? with
  | none => rfl
  | some c =>
    have h1 := (List.getElem?_eq_some_iff.mp hj).1
    have h2 := List.all_eq_true.mp hc c (List.mem_of_getElem? hj)
    show some (ad' j, px_e cA ad' c) = some (ad j, px_e cA ad c)
    rw [h j (Or.inl h1), px_e_agr h h2]
def px_adN (ad : Nat → Nat) (n q : Nat) : Nat → Nat := fun k => if k = n then q else ad k
theorem px_adN_agr {ad : Nat → Nat} {n q : Nat} (hn : n < 1000) : px_agr n ad (px_adN ad n q) := by
  intro k hk
  unfold px_adN
  rw [if_neg (by omega)]
theorem px_w_new {cA : FieldType → ClassId} {ad : Nat → Nat} {W0 : px_W} {q : Nat} {c : px_E} (hn : W0.length < 1000) (hw : px_wf W0 = true) (hc : px_nrE W0.length c = true) : px_w cA (px_adN ad W0.length q) (W0 ++ [c]) = px_w cA ad W0 ++ [(q, px_e cA ad c)] := by
  have h1 := px_w_agr (cA := cA) (px_adN_agr (ad := ad) (q := q) hn) hw
  have h2 : px_w cA (px_adN ad W0.length q) (W0 ++ [c]) = px_w cA (px_adN ad W0.length q) W0 ++ [(px_adN ad W0.length q W0.length, px_e cA (px_adN ad W0.length q) c)] := by
    simp only [px_w, List.mapIdx_append, List.mapIdx_cons, List.mapIdx_nil, Nat.zero_add]
  rw [h2, h1, px_e_agr (px_adN_agr hn) hc]
  congr 3
  unfold px_adN
  rw [if_pos rfl]
theorem px_E0_agr {n : Nat} {ad ad' : Nat → Nat} {A : Nat → Prop} {U : State} (h : px_agr n ad ad') (hE : px_E0 ad A U) : px_E0 ad' A U := by
  have e1 : ∀ i, ad' (1001 + i) = ad (1001 + i) := fun i => h _ (Or.inr (by omega))
  refine ⟨?_, ?_, ?_, hE.2.2.2⟩
  · exact px_SZ.ad (fun k hk => h k (Or.inr hk)) hE.1
  · rw [show ad' 1001 = ad 1001 from e1 0]; exact hE.2.1
  · rw [show ad' 1002 = ad 1002 from e1 1]; exact hE.2.2.1
/-- a goal that allows new cells -/
def px_gok (G : px_G) : Prop := (∀ s A ad ad' n, px_agr n ad ad' → G.2.1 s A ad → G.2.1 s A ad') ∧ ∀ ad0 ad ad' n0 n n', G.2.2.1 ad0 ad n0 n → px_agr n ad ad' → n ≤ n' → n' ≤ 1000 → G.2.2.1 ad0 ad' n0 n'
section ALLOC
variable {M N : px_M} {G : px_G} {d1 pc idx nc ns : Nat} {pl : px_L} {st : List Value} {W0 : px_W}
def px_kO (own : String) (idx ci : Nat) (k : Nat) (fs : List Value) : Prop := ∃ (C : String) (T : u_T) (ty : Nat → FieldType), vwCl[ci]? = some (C, T, k) ∧ (∀ w ∈ u_ws C T k, w ∈ px_tbl) ∧ (∀ j, j < k → parseFieldDescriptor (T j).2.2.1 = some (ty j)) ∧ Cond.classLink own idx C ∈ px_tbl ∧ Cond.instantiable C k ∈ px_tbl ∧ Cond.initialized C ∈ px_tbl ∧ (∀ j, j < k → defaultValue (ty j) = vp_V fs j) ∧ fs.all (px_nr 0) = true ∧ fs.map (px_tr (fun _ => 0)) = fs
theorem px_tr_const {fs : List Value} (h : fs.all (px_nr 0) = true) (h2 : fs.map (px_tr (fun _ => 0)) = fs) (h3 : ∀ v ∈ fs, ∀ k, v ≠ .ref k) (ad : Nat → Nat) : fs.map (px_tr ad) = fs := by
  conv => rhs; rw [← List.map_id fs]
  apply List.map_congr_left
  intro v hv
  cases v with
  | ref k => exact absurd rfl (h3 _ hv k)
  | _ => rfl
theorem XG.new {ci k : Nat} {fs : List Value} (hg : px_gok G) (hd : decode M.2.1 pc = .ok (.new idx, 3)) (hk : px_kO M.1.cls idx ci k fs) (h3 : ∀ v ∈ fs, ∀ k, v ≠ .ref k) (hn : W0.length < 1000) (hw : px_wf W0 = true) (hst : st.all (px_nr W0.length) = true) (hpl : px_nrL W0.length pl = true) (hc : nc + 1 ≤ G.1.cells) (hs : ns + k ≤ G.1.slots)
    (kk : XG M G (nc + 1) (ns + k) (pc + 3) pl (.ref W0.length :: st) (W0 ++ [.inr (ci, fs)])) : XG M G nc ns pc pl st W0 := by
  intro p l e s m args below meth c D cA ad0 ad A n0 hC hXt hn0 H locs ls hP hD hS hl
  obtain ⟨hx, hcode, hml, hown, hts, hr, hlk, hmn, hK, hE, hA⟩ := id hC
  obtain ⟨C, T, ty, g1, g2, g3, g4, g5, g6, g7, g8, g9⟩ := hk
  refine va_new hx hcode hts g2 ty g3 hown (hts _ g4) (hts _ g5) (hts _ g6) hK hP hD hS hA g1 g7 hc hs hd (fun q H1 hP1 hD1 hS1 => ?_)
  have ag := px_adN_agr (ad := ad) (q := q) hn
  have e1 : px_w cA (px_adN ad W0.length q) (W0 ++ [.inr (ci, fs)]) = px_w cA ad W0 ++ [(q, .inr (ci, fs))] := by
    rw [px_w_new hn hw (by
      show fs.all (px_nr W0.length) = true
      refine List.all_eq_true.mpr (fun v hv => ?_)
      cases v with
      | ref k => exact absurd rfl (h3 _ hv k)
      | _ => rfl)]
    show _ ++ [(q, Sum.inr (ci, fs.map (px_tr ad)))] = _
    rw [px_tr_const g8 g9 h3]
  have hlen : (W0 ++ [Sum.inr (ci, fs)] : px_W).length = W0.length + 1 := by simp
  have k2 := kk p l e s m args below meth c D cA ad0 (px_adN ad W0.length q) A n0 ⟨hx, hcode, hml, hown, hts, hr, hlk, hmn, hK, px_E0_agr ag hE, hA⟩ (hg.1 _ _ _ _ _ ag hXt) (by rw [hlen]; exact hg.2 _ _ _ _ _ _ hn0 ag (by omega) (by omega)) H1 locs ls (by rw [e1]; exact hP1) (by rw [e1]; exact hD1) hS1 (px_lr_agr ag hpl hl)
  have e2 : (Value.ref W0.length :: st).map (px_tr (px_adN ad W0.length q)) = .ref q :: st.map (px_tr ad) := by
    rw [List.map_cons, px_st_agr ag hst]
    congr 1
    show Value.ref (px_adN ad W0.length q W0.length) = _
    unfold px_adN
    rw [if_pos rfl]
  rw [e2] at k2
  exact k2
/-- the cell of a new array -/
def px_arr : ArrayType → Nat → Option px_E
  | .int, n => some (.inl (.int, n, .inl (fun _ => 0)))
  | .byte, n => some (.inl (.byte, n, .inl (fun _ => 0)))
  | .boolean, n => some (.inl (.boolean, n, .inl (fun _ => 0)))
  | .long, n => some (.inl (.long, n, .inr (.inl (fun _ => 0))))
  | _, _ => none
theorem XG.newa {at' : ArrayType} {n : Int32} {k : Nat} {ce : px_E} (hg : px_gok G) (hd : decode M.2.1 pc = .ok (.newarray at', 2)) (hw9 : Cond.arrayClass (newarray.typeOf at') ∈ px_tbl) (hce : px_arr at' k = some ce) (hn1 : ¬ n < 0) (hn2 : n.toNatClampNeg = k) (hk : k ≤ 100000) (hn : W0.length < 1000) (hw : px_wf W0 = true) (hst : st.all (px_nr W0.length) = true) (hpl : px_nrL W0.length pl = true) (hc : nc + 1 ≤ G.1.cells) (hs : ns + k ≤ G.1.slots)
    (kk : XG M G (nc + 1) (ns + k) (pc + 2) pl (.ref W0.length :: st) (W0 ++ [ce])) : XG M G nc ns pc pl (.int n :: st) W0 := by
  intro p l e s m args below meth c D cA ad0 ad A n0 hC hXt hn0 H locs ls hP hD hS hl
  obtain ⟨hx, hcode, hml, hown, hts, hr, hlk, hmn, hK, hE, hA⟩ := id hC
  have core : ∀ (ty : FieldType) (a0 : vp_A) (t0 : Nat), newarray.typeOf at' = ty → ce = .inl (ty, a0) → (px_tys cA)[t0]? = some (cA ty, ty) → (∀ cB : ClassId, vp_cell cB a0 = arrV cB k (fun _ => defaultValue ty)) → componentBytes ty ≤ 8 → (∀ (u : ClassId), va_RA s u ty → s.vm.findClass ("[" ++ ty.toString) = some u) → W p l e G.1 s m args below meth c H locs nc ns (G.2.2.2 below args s D cA ad0 n0 A) (F0 m pc ls ((Value.int n :: st).map (px_tr ad))) := by
    intro ty a0 t0 hty hce2 ht0 ha hcb hRA
    subst hce2
    refine va_newa hx hcode (hts _ hw9) hty hK hP hD hS hA (a0 := a0) ha hn1 hn2 (Nat.le_trans (Nat.mul_le_mul hk hcb) (by decide)) hc hs hd (fun q cB H1 hK1 hP1 hD1 hS1 => ?_)
    have hcB : cB = cA ty := by
      have h1 := hRA _ (hK1.2 4 (cB, ty) rfl).2
      have h2 := hRA _ (hK.2 t0 _ ht0).2
      exact Option.some.inj (h1.symm.trans h2)
    subst hcB
    have ag := px_adN_agr (ad := ad) (q := q) hn
    have e1 : px_w cA (px_adN ad W0.length q) (W0 ++ [.inl (ty, a0)]) = px_w cA ad W0 ++ [(q, .inl (cA ty, a0))] := px_w_new hn hw rfl
    have hlen : (W0 ++ [Sum.inl (ty, a0)] : px_W).length = W0.length + 1 := by simp
    have k2 := kk p l e s m args below meth c D cA ad0 (px_adN ad W0.length q) A n0 ⟨hx, hcode, hml, hown, hts, hr, hlk, hmn, hK, px_E0_agr ag hE, hA⟩ (hg.1 _ _ _ _ _ ag hXt) (by rw [hlen]; exact hg.2 _ _ _ _ _ _ hn0 ag (by omega) (by omega)) H1 locs ls (by rw [e1]; exact hP1) (by rw [e1]; exact hD1) hS1 (px_lr_agr ag hpl hl)
    have e2 : (Value.ref W0.length :: st).map (px_tr (px_adN ad W0.length q)) = .ref q :: st.map (px_tr ad) := by
      rw [List.map_cons, px_st_agr ag hst]
      congr 1
      show Value.ref (px_adN ad W0.length q W0.length) = _
      unfold px_adN
      rw [if_pos rfl]
    rw [e2] at k2
    exact k2
  cases at' <;> simp only [px_arr] at hce <;> cases hce
  case boolean => exact core .boolean _ 2 rfl rfl rfl (fun cB => rfl) (by decide) (fun u h => h)
  case byte => exact core .byte _ 1 rfl rfl rfl (fun cB => rfl) (by decide) (fun u h => h)
  case int => exact core .int _ 0 rfl rfl rfl (fun cB => rfl) (by decide) (fun u h => h)
  case long => exact core .long _ 3 rfl rfl rfl (fun cB => rfl) (by decide) (fun u h => h)
/-- Object's constructor -/
def px_kI0 (own : String) (idx : Nat) : Prop := Cond.methodLink own idx Lib.objectInit ∈ px_tbl ∧ Cond.instanceMethod Lib.objectInit ∈ px_tbl ∧ Cond.code Lib.objectInit ⟨#[0xb1]⟩ 1 none ∈ px_tbl
theorem XG.obj {b1 : Nat} (hd : decode M.2.1 pc = .ok (.invokespecial idx, 3)) (hk : px_kI0 M.1.cls idx) (hfr : 1 ≤ G.1.frames) (hlo : 60 ≤ G.1.locals) (hrm : (st.map fun v => v.category).sum ≤ 8) (kk : XG M G nc ns (pc + 3) pl st W0) : XG M G nc ns pc pl (.ref b1 :: st) W0 := by
  intro p l e s m args below meth c D cA ad0 ad A n0 hC hXt hn0 H locs ls hP hD hS hl
  obtain ⟨hx, hcode, hml, hown, hts, hr, hlk, hmn, hK, hE, hA⟩ := id hC
  have hrm2 : ((st.map (px_tr ad)).map fun v => v.category).sum ≤ 8 := by
    rw [List.map_map, show ((fun v => Value.category v) ∘ px_tr ad) = (fun v => v.category) from funext fun v => px_tr_cat ad v]
    exact hrm
  refine W.objInit hx hcode hown (hts _ hk.1) (hts _ hk.2.1) (hts _ hk.2.2) rfl (hl.1.1.trans hml.symm) rfl hd hfr ?_ (kk p l e s m args below meth c D cA ad0 ad A n0 hC hXt hn0 H locs ls hP hD hS hl)
  show 2 * 0 + ((st.map (px_tr ad)).map fun v => v.category).sum + 12 ≤ G.1.locals
  omega
/-- a final field, in its class' constructor -/
def px_pwF (own : String) (idx a b : Nat) : Prop := ∃ (C : String) (T : u_T) (N : Nat) (ty0 : Nat → FieldType), vwCl[a]? = some (C, T, N) ∧ b < N ∧ (∀ w ∈ u_ws C T N, w ∈ px_tbl) ∧ Cond.fieldLink own idx (T b).1 (T b).2.1 (T b).2.2.1 ∈ px_tbl ∧ (∀ k, k < N → parseFieldDescriptor (T k).2.2.1 = some (ty0 k)) ∧ (∀ a, a < N → ∀ b, b < N → a ≠ b → (T a).2.1 ≠ (T b).2.1) ∧ (T b).2.2.2 = true ∧ (ty0 b).isReference = true ∧ (T b).1 = own
theorem XG.putF {a b z x : Nat} {fs : List Value} (hd : decode M.2.1 pc = .ok (.putfield idx, 3)) (hk : px_pwF M.1.cls idx a b) (hin : M.1.name = "<init>") (h1 : W0[z]? = some (.inr (a, fs))) (h3 : b < fs.length) (kk : XG M G nc ns (pc + 3) pl st (W0.set z (.inr (a, fs.set b (.ref x))))) : XG M G nc ns pc pl (.ref x :: .ref z :: st) W0 := by
  intro p l e s m args below meth c D cA ad0 ad A n0 hC hXt hn0 H locs ls hP hD hS hl
  obtain ⟨hx, hcode, hml, hown, hts, hr, hlk, hmn, hK, hE, hA⟩ := id hC
  obtain ⟨C, T, N, ty0, g1, g2, g3, g4, g5, g6, g7, g8, g9⟩ := hk
  have n3 : narrow (ty0 b) (.ref (ad x)) = .ref (ad x) ∧ fits (ty0 b) (.ref (ad x)) = true := by
    cases hty : ty0 b <;> rw [hty] at g8 <;> first | exact ⟨rfl, rfl⟩ | cases g8
  refine va_putF hx hcode hts g3 ty0 g5 g6 hown hK hP hD hS z (px_hdo h1) g1 b g2 (hts _ g4) (fun _ h9 => h9) g7 (hmn.trans hin) g9 (g5 b g2) n3.1 n3.2 (by rw [List.length_map]; exact h3) hd (fun H1 locs1 q1 q2 q3 => ?_)
  have e1 : (px_w cA ad W0).set z (ad z, .inr (a, (fs.map (px_tr ad)).set b (.ref (ad x)))) = px_w cA ad (W0.set z (.inr (a, fs.set b (.ref x)))) := by
    rw [← px_w_set]
    show _ = (px_w cA ad W0).set z (ad z, .inr (a, (fs.set b (.ref x)).map (px_tr ad)))
    rw [List.map_set]
    rfl
  exact kk p l e s m args below meth c D cA ad0 ad A n0 hC hXt (by rw [List.length_set]; exact hn0) H1 locs1 ls (by rw [← e1]; exact q1) (by rw [← e1]; exact q2) q3 hl
end ALLOC
