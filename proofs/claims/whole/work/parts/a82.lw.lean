/-! THE LAW: its goal, its script -/
def R_law : String := "SleepBridgeLaw"
def lw_P (b : Addr) (xs : List Int32) (args : Array Value) (s : State) : Prop := args = #[.ref b] ∧ s.IntsAt b xs ∧ xs.length ≤ 3072 ∧ (Jvm.Cond.and given_1 narrow_1).before args s = true
def lw_Q (_ : Array Value) (s : State) (o : Outcome) (t : State) : Prop := o = .returned (some (.int 1)) ∧ Framed s o t [] 600000 7302250
def lw_Z (below : List Frame) (a : Array Value) (s : State) : State → Prop := fun t => ∃ o, t.status = .running ∧ Ended t below o ∧ lw_Q a s o t
/-- the law's own end, with 1 on the stack, nothing written that was there before, its room as the claim has it -/
theorem lw_ret {p : Program} {l : Launch} {e : Env} {s : State} {m : MethodId} {below : List Frame} {meth : Method} {c : Code} {b : Nat} (hx : p.tables.exec = Jvm.exec) (hb : c.code = code) (hr : meth.sig.returnType = ret) (hlocks : meth.locks = false) {pc : Nat} {H : Heap} {ls : Array Slot} (hdg : decode code pc = .ok (.ireturn, 1)) : W p l e room_1 s m #[Value.ref b] below meth c H [] 600000 7302250 (lw_Z below #[Value.ref b] s) (F0 m pc ls [.int 1]) := by
  intro T hT X
  obtain ⟨fs, hret, hrun, hended, hW, hframe⟩ := X.leave (v := some (.int 1)) (hlocks := hlocks) (fun h => by rw [hr] at h; cases h)
  have hmeth' : T.vm.method? m = some meth := X.method'
  refine ⟨T.setFrames fs, ?_, .returned (some (.int 1)), hrun, hended, rfl, ⟨_, rfl⟩, hW, hframe⟩
  jvm_step X.here [X.here.top, hx, hb, hdg, hmeth', hr, ret, narrow_b1]
  (try refine ⟨rfl, ?_⟩); (try refine ⟨rfl, ?_⟩)
  first | (intro acts; rw [hret _ acts rfl rfl rfl]) | rw [hret _ _ rfl rfl rfl]
  exact Steps.refl _
/-- what holds at the law's entry: the machine, the code, the tables' words (any of lw_tbl by 'hts w (by decide +kernel)'), the script of L ints xs at the cell b, what the Statement gives of the start (any of its parts by flat_of_before) -/
def lw_At (p : Program) (s : State) (m : MethodId) (meth : Method) (c : Code) (b L : Nat) (xs : Nat → Int32) : Prop :=
  p.tables.exec = Jvm.exec ∧ c.code = code ∧ meth.sig.returnType = ret ∧ c.maxLocals = 4 ∧ s.vm.findClass R_law = some m.cls ∧ (∀ w ∈ lw_tbl, w.before #[Value.ref b] s = true) ∧ va_X b L xs s s.heap ∧ b < s.heap.size ∧ meth.locks = false ∧ (Jvm.Cond.and given_1 narrow_1).before #[Value.ref b] s = true
theorem lw_retA {p : Program} {l : Launch} {e : Env} {s : State} {m : MethodId} {args : Array Value} {below : List Frame} {meth : Method} {c : Code} (hx : p.tables.exec = Jvm.exec) (hb : c.code = code) (hr : meth.sig.returnType = ret) (hlocks : meth.locks = false) {pc : Nat} {H : Heap} {ls : Array Slot} (hdg : decode code pc = .ok (.ireturn, 1)) : W p l e room_1 s m args below meth c H [] 600000 7302250 (lw_Z below args s) (F0 m pc ls [.int 1]) := by
  intro T hT X
  obtain ⟨fs, hret, hrun, hended, hW, hframe⟩ := X.leave (v := some (.int 1)) (hlocks := hlocks) (fun h => by rw [hr] at h; cases h)
  have hmeth' : T.vm.method? m = some meth := X.method'
  refine ⟨T.setFrames fs, ?_, .returned (some (.int 1)), hrun, hended, rfl, ⟨_, rfl⟩, hW, hframe⟩
  jvm_step X.here [X.here.top, hx, hb, hdg, hmeth', hr, ret, narrow_b1]
  (try refine ⟨rfl, ?_⟩); (try refine ⟨rfl, ?_⟩)
  first | (intro acts; rw [hret _ acts rfl rfl rfl]) | rw [hret _ _ rfl rfl rfl]
  exact Steps.refl _
def px_gL (L : Nat) (xs : Nat → Int32) : px_G := (room_1, fun s A ad => va_T .int (ad 1000) L (fun j => .int (xs j)) A s s.heap ∧ (∀ q, A q → s.heap.size ≤ q), fun _ _ _ n => n ≤ 1000, fun below args s _ _ _ _ _ => lw_Z below args s)
theorem px_gL_ok {L : Nat} {xs : Nat → Int32} : px_gok (px_gL L xs) := ⟨fun s A ad ad' n h h2 => ⟨by rw [h 1000 (Or.inr (Nat.le_refl _))]; exact h2.1, h2.2⟩, fun _ _ _ _ _ _ _ _ _ h4 => h4⟩
section LAW
variable {M : px_M} {L nc ns pc : Nat} {xs : Nat → Int32} {pl : px_L} {st : List Value} {W0 : px_W}
theorem XG.slenL (hd : decode M.2.1 pc = .ok (.arraylength, 1)) (k : XG M (px_gL L xs) nc ns (pc + 1) pl (.int (nI L) :: st) W0) : XG M (px_gL L xs) nc ns pc pl (.ref 1000 :: st) W0 := by
  intro p l e s m args below meth c D cA ad0 ad A n0 hC hXt hn H locs ls hP hD hS hl
  obtain ⟨hx, hcode, hml, hown, hts, hr, hlk, hmn, hK, hE, hA⟩ := id hC
  exact va_tlen hx hcode hXt.1 hS rfl hd (k p l e s m args below meth c D cA ad0 ad A n0 hC hXt hn H locs ls hP hD hS hl)
theorem XG.sldL {j : Nat} (hj : j < L) (hL : L ≤ 3072) (hd : decode M.2.1 pc = .ok (.iaload, 1)) (k : XG M (px_gL L xs) nc ns (pc + 1) pl (.int (xs j) :: st) W0) : XG M (px_gL L xs) nc ns pc pl (.int (nI j) :: .ref 1000 :: st) W0 := by
  intro p l e s m args below meth c D cA ad0 ad A n0 hC hXt hn H locs ls hP hD hS hl
  obtain ⟨hx, hcode, hml, hown, hts, hr, hlk, hmn, hK, hE, hA⟩ := id hC
  exact va_ti hx hcode hXt.1 hS (vp_in_nI hj (by omega)) (v := .int (xs j)) (by rw [nI_clamp (by omega)]) hd (k p l e s m args below meth c D cA ad0 ad A n0 hC hXt hn H locs ls hP hD hS hl)
theorem XG.retL (hd : decode mL_law.2.1 pc = .ok (.ireturn, 1)) (h1 : nc ≤ 600000) (h2 : ns ≤ 7302250) : XG mL_law (px_gL L xs) nc ns pc pl [.int 1] W0 := by
  intro p l e s m args below meth c D cA ad0 ad A n0 hC hXt hn H locs ls hP hD hS hl
  obtain ⟨hx, hcode, hml, hown, hts, hr, hlk, hmn, hK, hE, hA⟩ := id hC
  refine W.widen (k := 600000) (n := 7302250) h1 h2 ?_
  refine va_forget (fun q hq => hXt.2 _ (hS.2.2 q hq)) ?_
  exact lw_retA hx hcode hr hlk hd
end LAW
theorem fitL {L : Nat} {xs : Nat → Int32} : px_fit 100 (px_gL L xs).1 131 22130 := show px_fit 100 room_1 131 22130 from ⟨by decide, by decide, by decide, by decide⟩

def LI (H : Nat) (W0 : px_W) : Prop := ∃ ro1 ro2 S lv v a b bv tv ta tb uv ua ub rv ra rb rt9 se pv pa gv ga ov oa qv qa hv ha nv na yv ya cf cs, px_sub ro1 W0 (sW bv tv ta tb uv ua ub rv ra rb (px_tr (px_f [31, 32, 33, 34, 35, 36, 16, 17, 18, 19, 20, 21, 22, 23, 24, 25, 26, 27, 28, 29, 30, 1, 2, 3, 4, 5, 6, 7, 8, 9, 10, 11, 12, 13, 14, 15]) rt9) se pv pa gv ga ov oa qv qa hv ha nv na yv ya cf cs) ∧ px_sub ro2 W0 (mW v a b) ∧ px_f ro1 0 = 0 ∧ px_f ro2 0 = 82 ∧ (∀ j, j ∈ ro2 → j ∉ ro1) ∧ IV H S lv v a b bv tv ta rv ra rb qv qa nv na cf cs
theorem LI.mono {H H' : Nat} {W0 : px_W} (h : LI H W0) (hh : H ≤ H') : LI H' W0 := by
  obtain ⟨ro1, ro2, S, lv, v, a, b, bv, tv, ta, tb, uv, ua, ub, rv, ra, rb, rt9, se, pv, pa, gv, ga, ov, oa, qv, qa, hv, ha, nv, na, yv, ya, cf, cs, h1, h2, h3, h4, h5, h6⟩ := h
  exact ⟨ro1, ro2, S, lv, v, a, b, bv, tv, ta, tb, uv, ua, ub, rv, ra, rb, rt9, se, pv, pa, gv, ga, ov, oa, qv, qa, hv, ha, nv, na, yv, ya, cf, cs, h1, h2, h3, h4, h5, h6.mono hh⟩
theorem pc3 : ∀ f : Fin 8, pcN f.val 6 = (if f.val.testBit 0 = true then 1 else 0) + (if f.val.testBit 1 = true then 1 else 0) + (if f.val.testBit 2 = true then 1 else 0) := by decide +kernel
theorem hl_pc {h : Nat → Int32} {f : Nat} (hf : f < 8) (h73 : ∀ j, j < 3 → (h j = nI 0 ∧ f.testBit j = false) ∨ (h j = nI 1 ∧ f.testBit j = true)) : hl3 h = nI (pcN f 6) := by
  have e : pcN f 6 = (if f.testBit 0 = true then 1 else 0) + (if f.testBit 1 = true then 1 else 0) + (if f.testBit 2 = true then 1 else 0) := pc3 ⟨f, hf⟩
  unfold hl3
  rw [e]
  rcases h73 0 (by decide) with ⟨a0, b0⟩ | ⟨a0, b0⟩ <;> rcases h73 1 (by decide) with ⟨a1, b1⟩ | ⟨a1, b1⟩ <;> rcases h73 2 (by decide) with ⟨a2, b2⟩ | ⟨a2, b2⟩ <;> rw [a0, a1, a2, b0, b1, b2] <;> decide
theorem bit73 {h : Nat → Int32} {f j : Nat} (hj : j < 3) (h73 : ∀ j, j < 3 → (h j = nI 0 ∧ f.testBit j = false) ∨ (h j = nI 1 ∧ f.testBit j = true)) : f.testBit j = true ↔ ¬ h j = 0 := by
  rcases h73 j hj with ⟨a0, b0⟩ | ⟨a0, b0⟩
  · rw [a0, b0]; exact ⟨fun w => (by cases w), fun w => absurd rfl w⟩
  · rw [a0, b0]; exact ⟨fun _ => (by decide), fun _ => rfl⟩
