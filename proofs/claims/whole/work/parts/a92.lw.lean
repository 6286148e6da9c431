/-! THE LAW, from its entry; the claim -/
set_option maxRecDepth 100000 in
theorem in_0 : Cond.instantiable RX0 4 ∈ px_tbl := px_mem1 34 (by decide +kernel) (by decide +kernel)
set_option maxRecDepth 100000 in
theorem in_1 : Cond.instantiable RX1 9 ∈ px_tbl := px_mem2 58 (by decide +kernel) (by decide +kernel)
set_option maxRecDepth 100000 in
theorem in_2 : Cond.instantiable RX2 15 ∈ px_tbl := px_mem2 52 (by decide +kernel) (by decide +kernel)
set_option maxRecDepth 100000 in
theorem in_3 : Cond.instantiable RX3 13 ∈ px_tbl := px_mem1 175 (by decide +kernel) (by decide +kernel)
set_option maxRecDepth 100000 in
theorem in_4 : Cond.instantiable RX4 2 ∈ px_tbl := px_mem2 36 (by decide +kernel) (by decide +kernel)
set_option maxRecDepth 100000 in
theorem in_5 : Cond.instantiable RX5 8 ∈ px_tbl := px_mem2 190 (by decide +kernel) (by decide +kernel)
set_option maxRecDepth 100000 in
theorem in_6 : Cond.instantiable RX6 1 ∈ px_tbl := px_mem2 125 (by decide +kernel) (by decide +kernel)
set_option maxRecDepth 100000 in
theorem in_7 : Cond.instantiable RX7 18 ∈ px_tbl := px_mem1 28 (by decide +kernel) (by decide +kernel)
set_option maxRecDepth 100000 in
theorem in_8 : Cond.instantiable RX8 13 ∈ px_tbl := px_mem1 20 (by decide +kernel) (by decide +kernel)
set_option maxRecDepth 100000 in
theorem in_9 : Cond.instantiable RX9 75 ∈ px_tbl := px_mem5 138 (by decide +kernel) (by decide +kernel)
def tmS (i : Nat) : Term := if i = 0 then .string RX3 33 else .string RX3 109
theorem fl_ex : ∀ i, i < 2 → Cond.exactly (tmS i) "java/lang/String" ∈ flatC (Jvm.Cond.and given_1 narrow_1) := by decide +kernel
theorem fl_co : ∀ i, i < 2 → Cond.eq (.field (tmS i) "java/lang/String" "coder" "B") (.int 0) ∈ flatC (Jvm.Cond.and given_1 narrow_1) := by decide +kernel
theorem fl_ar : ∀ i, i < 2 → Cond.arrayOf (.field (tmS i) "java/lang/String" "value" "[B") .byte ∈ flatC (Jvm.Cond.and given_1 narrow_1) := by decide +kernel
theorem fl_le : ∀ i, i < 2 → Cond.eq (.length (.field (tmS i) "java/lang/String" "value" "[B")) (.int (Int32.ofNat (px_slen.getD i 0))) ∈ flatC (Jvm.Cond.and given_1 narrow_1) := by decide +kernel
theorem fl_at : ∀ i, i < 2 → ∀ j, j < px_slen.getD i 0 → (flatC (Jvm.Cond.and given_1 narrow_1))[(if i = 0 then 13 else 144) + j]? = some (Cond.eq (.elem (.field (tmS i) "java/lang/String" "value" "[B") (.int (Int32.ofNat j))) (.int ((px_sbyt.getD i []).getD j 0))) := by decide +kernel
theorem fl_el : ∀ i, i < 2 → ∀ j, j < px_slen.getD i 0 → Cond.eq (.elem (.field (tmS i) "java/lang/String" "value" "[B") (.int (Int32.ofNat j))) (.int ((px_sbyt.getD i []).getD j 0)) ∈ flatC (Jvm.Cond.and given_1 narrow_1) := fun i hi j hj => List.mem_of_getElem? (fl_at i hi j hj)
theorem fl_ne : Cond.not (Cond.eq (tmS 0) (tmS 1)) ∈ flatC (Jvm.Cond.and given_1 narrow_1) := by decide +kernel
theorem fl_cs : Cond.eq (.static "java/lang/String" "COMPACT_STRINGS" "Z") (.int 1) ∈ flatC (Jvm.Cond.and given_1 narrow_1) := by decide +kernel
theorem fl_si : Cond.isRef (.static "jdk/internal/util/Preconditions" "SIOOBE_FORMATTER" "Ljava/util/function/BiFunction;") ∈ flatC (Jvm.Cond.and given_1 narrow_1) := by decide +kernel
theorem sl_31 : ∀ i, i < 2 → px_slen.getD i 0 < 2 ^ 31 := fun i hi => Nat.lt_of_lt_of_le (slen_lt hi) (by decide)
theorem nst_tbl : ∀ w ∈ px_nst, w ∈ lw_tbl := by decide +kernel
theorem nst_on : ∀ w ∈ px_nst, w.onTables = true := by decide +kernel
theorem lt_ls : Cond.laysStatic "java/lang/String" "COMPACT_STRINGS" "Z" ∈ lw_tbl := by decide +kernel
theorem lt_lp : Cond.laysStatic "jdk/internal/util/Preconditions" "SIOOBE_FORMATTER" "Ljava/util/function/BiFunction;" ∈ lw_tbl := by decide +kernel
theorem lt_is : Cond.initialized "java/lang/String" ∈ lw_tbl := by decide +kernel
theorem lt_ip : Cond.initialized "jdk/internal/util/Preconditions" ∈ lw_tbl := by decide +kernel
theorem lt_s0 : Cond.stringRef RX3 33 px_str0 ∈ lw_tbl := by decide +kernel
theorem lt_s1 : Cond.stringRef RX3 109 px_str1 ∈ lw_tbl := by decide +kernel
theorem arr_of {s : State} {cA : ClassId} {ty : FieldType} (h : ∃ k comp, s.vm.classes[cA]? = some k ∧ k.kind = .array comp ty) : ArrOfT s cA ty := by
  obtain ⟨k, comp, h1, h2⟩ := h
  exact fun n z => ⟨fun j h => by simp [arrV] at h, k, h1, comp, h2⟩
def adLw (b a5 : Nat) (adK adV : Nat → Nat) : Nat → Nat := fun k => if k = 1000 then b else if k = 1001 then adK 0 else if k = 1002 then adK 1 else if k = 1003 then adV 0 else if k = 1004 then adV 1 else if k = 1005 then a5 else 0
theorem adLw_K (b a5 : Nat) (adK adV : Nat → Nat) {i : Nat} (hi : i < 2) : adLw b a5 adK adV (1001 + i) = adK i := by
  rcases (show i = 0 ∨ i = 1 by omega) with rfl | rfl <;> rfl
theorem adLw_V (b a5 : Nat) (adK adV : Nat → Nat) {i : Nat} (hi : i < 2) : adLw b a5 adK adV (1003 + i) = adV i := by
  rcases (show i = 0 ∨ i = 1 by omega) with rfl | rfl <;> rfl
theorem E0_of {b : Nat} {s : State} (hts : ∀ w ∈ lw_tbl, w.before #[Value.ref b] s = true) (hgv : (Jvm.Cond.and given_1 narrow_1).before #[Value.ref b] s = true) : ∃ ad : Nat → Nat, ad 1000 = b ∧ px_E0 ad (fun q : Nat => s.heap.size ≤ q) s := by
  have hs := flat_of_before _ hgv
  have hA : ∀ a : Nat, a < s.heap.size → ¬ (fun q : Nat => s.heap.size ≤ q) a := fun a h w => absurd h (Nat.not_lt.mpr w)
  obtain ⟨adK, adV, hSS, hev⟩ := vk_Sof (args := #[Value.ref b]) (s := s) (N := 2) (tm := tmS) (len := px_slen) (byt := px_sbyt) (A := fun q : Nat => s.heap.size ≤ q) sl_31 (fun i hi => hs _ (fl_ex i hi)) (fun i hi => hs _ (fl_co i hi)) (fun i hi => hs _ (fl_ar i hi)) (fun i hi => hs _ (fl_le i hi)) (fun i hi j hj => hs _ (fl_el i hi j hj)) (fun i j hi hj hij => by
    rcases (show (i = 0 ∧ j = 1) ∨ (i = 1 ∧ j = 0) by omega) with ⟨rfl, rfl⟩ | ⟨rfl, rfl⟩
    · exact Or.inl (hs _ fl_ne)
    · exact Or.inr (hs _ fl_ne)) hA
  have hZ1 := va_Zof (hts _ lt_ls) (hts _ lt_is) (va_eqt (hs _ fl_cs)) hA
  have hZ2 := va_Zqof (hts _ lt_lp) (hts _ lt_ip) (hs _ fl_si) hA
  obtain ⟨a5, h5⟩ : ∃ a5 : Nat, va_Z "jdk/internal/util/Preconditions" "SIOOBE_FORMATTER" "Ljava/util/function/BiFunction;" .null (fun q : Nat => s.heap.size ≤ q) s s.heap ∨ va_Z "jdk/internal/util/Preconditions" "SIOOBE_FORMATTER" "Ljava/util/function/BiFunction;" (.ref a5) (fun q : Nat => s.heap.size ≤ q) s s.heap := by
    rcases hZ2 with h | ⟨t, h⟩
    · exact ⟨0, Or.inl h⟩
    · exact ⟨t, Or.inr h⟩
  refine ⟨adLw b a5 adK adV, rfl, ⟨⟨⟨fun i hi => ?_, fun i j hi hj e => ?_⟩, hZ1, h5⟩, ?_, ?_, ?_⟩⟩
  · show va_O "java/lang/String" (adLw b a5 adK adV (1001 + i)) _ s s.heap ∧ va_OF "java/lang/String" "coder" "B" (.int 0) (adLw b a5 adK adV (1001 + i)) _ s s.heap ∧ va_OF "java/lang/String" "value" "[B" (.ref (adLw b a5 adK adV (1003 + i))) (adLw b a5 adK adV (1001 + i)) _ s s.heap ∧ va_T .byte (adLw b a5 adK adV (1003 + i)) (px_slen.getD i 0) _ _ s s.heap
    rw [adLw_K b a5 adK adV hi, adLw_V b a5 adK adV hi]
    exact hSS.1 i hi
  · have e : adLw b a5 adK adV (1001 + i) = adLw b a5 adK adV (1001 + j) := e
    rw [adLw_K b a5 adK adV hi, adLw_K b a5 adK adV hj] at e
    exact hSS.2 i j hi hj e
  · exact vk_R.of (A := #[Value.ref b]) (hts _ lt_s0) (hev 0 (by decide))
  · exact vk_R.of (A := #[Value.ref b]) (hts _ lt_s1) (hev 1 (by decide))
  · exact fun w hw => va_Nw.of (nst_on w hw) (hts w (nst_tbl w hw))
theorem K_of {b : Nat} {s : State} (hts : ∀ w ∈ lw_tbl, w.before #[Value.ref b] s = true) : ∃ (D : va_G) (cA : FieldType → ClassId), va_K D vwCl (px_tys cA) s := by
  have htp := px_tbl_hts hts
  obtain ⟨c0, i0, h0⟩ := u_known (C := RX0) (T := TX0) (N := 4) (n := 4) htp wi_0 (htp _ in_0)
  obtain ⟨c1, i1, h1⟩ := u_known (C := RX1) (T := TX1) (N := 9) (n := 9) htp wi_1 (htp _ in_1)
  obtain ⟨c2, i2, h2⟩ := u_known (C := RX2) (T := TX2) (N := 15) (n := 15) htp wi_2 (htp _ in_2)
  obtain ⟨c3, i3, h3⟩ := u_known (C := RX3) (T := TX3) (N := 13) (n := 13) htp wi_3 (htp _ in_3)
  obtain ⟨c4, i4, h4⟩ := u_known (C := RX4) (T := TX4) (N := 2) (n := 2) htp wi_4 (htp _ in_4)
  obtain ⟨c5, i5, h5⟩ := u_known (C := RX5) (T := TX5) (N := 8) (n := 8) htp wi_5 (htp _ in_5)
  obtain ⟨c6, i6, h6⟩ := u_known (C := RX6) (T := TX6) (N := 1) (n := 1) htp wi_6 (htp _ in_6)
  obtain ⟨c7, i7, h7⟩ := u_known (C := RX7) (T := TX7) (N := 18) (n := 18) htp wi_7 (htp _ in_7)
  obtain ⟨c8, i8, h8⟩ := u_known (C := RX8) (T := TX8) (N := 13) (n := 13) htp wi_8 (htp _ in_8)
  obtain ⟨c9, i9, h9⟩ := u_known (C := RX9) (T := TX9) (N := 75) (n := 75) htp wi_9 (htp _ in_9)
  obtain ⟨a1, k1, p1, f1, q1, r1⟩ := Cond.arrayClass_spec (htp _ ka_int)
  obtain ⟨a2, k2, p2, f2, q2, r2⟩ := Cond.arrayClass_spec (htp _ ka_byte)
  obtain ⟨a3, k3, p3, f3, q3, r3⟩ := Cond.arrayClass_spec (htp _ ka_boolean)
  obtain ⟨a4, k4, p4, f4, q4, r4⟩ := Cond.arrayClass_spec (htp _ ka_long)
  refine ⟨(fun k => [c0, c1, c2, c3, c4, c5, c6, c7, c8, c9].getD k c0, fun k => [i0, i1, i2, i3, i4, i5, i6, i7, i8, i9].getD k i0), fun ty => match ty with | .int => a1 | .byte => a2 | .boolean => a3 | .long => a4 | _ => a1, ?_, ?_⟩
  · intro k q hq
    have hk : k < 10 := (List.getElem?_eq_some_iff.mp hq).1
    rcases (show k = 0 ∨ k = 1 ∨ k = 2 ∨ k = 3 ∨ k = 4 ∨ k = 5 ∨ k = 6 ∨ k = 7 ∨ k = 8 ∨ k = 9 by omega) with rfl | rfl | rfl | rfl | rfl | rfl | rfl | rfl | rfl | rfl
    · cases hq; exact h0
    · cases hq; exact h1
    · cases hq; exact h2
    · cases hq; exact h3
    · cases hq; exact h4
    · cases hq; exact h5
    · cases hq; exact h6
    · cases hq; exact h7
    · cases hq; exact h8
    · cases hq; exact h9
  · intro k q hq
    have hk : k < 4 := (List.getElem?_eq_some_iff.mp hq).1
    rcases (show k = 0 ∨ k = 1 ∨ k = 2 ∨ k = 3 by omega) with rfl | rfl | rfl | rfl
    · cases hq; exact ⟨arr_of ⟨k1, p1, q1, r1⟩, f1⟩
    · cases hq; exact ⟨arr_of ⟨k2, p2, q2, r2⟩, f2⟩
    · cases hq; exact ⟨arr_of ⟨k3, p3, q3, r3⟩, f3⟩
    · cases hq; exact ⟨arr_of ⟨k4, p4, q4, r4⟩, f4⟩
theorem whole_start {p : Program} {e : Env} {s : State} {m : MethodId} {below : List Frame} {meth : Method} {c : Code} (l : Launch) {b L : Nat} {xs : Nat → Int32} (hL : L ≤ 3072) (hnm : meth.name = x.name) (C0 : lw_At p s m meth c b L xs) : W p l e room_1 s m #[Value.ref b] below meth c s.heap [] 0 0 (lw_Z below #[Value.ref b] s) (entryFrame m ([Value.ref b] : List Value).toArray 4) := by
  obtain ⟨hx, hb, hr, hml, hown, hts, hX, hbl, hlocks, hgv⟩ := id C0
  obtain ⟨ad, ha, hE⟩ := E0_of hts hgv
  obtain ⟨D, cA, hK⟩ := K_of hts
  obtain ⟨scr, x1, x2, x3, x4, x5⟩ := hX
  have hl := lv_entry ([.ref b]) (n := 4) (Nat.le_of_ble_eq_true rfl)
  rw [lg_entry_eq]
  generalize (lg_sl ([.ref b]) ++ List.replicate (4 - (lg_sl ([.ref b])).length) Slot.unset).toArray = ls at hl ⊢
  have hl : lv_has ls 4 [(0, .ref b)] := hl
  refine lw_init (xs := xs) hL p l e s m #[Value.ref b] below meth c D cA ad ad (fun q : Nat => s.heap.size ≤ q) 0 ⟨hx, hb, hml, hown, px_tbl_hts hts, hr, hlocks, hnm, hK, hE, fun _ h => h⟩ ⟨?_, fun _ h => h⟩ (Nat.zero_le _) s.heap [] ls (fun k q h => by simp [px_w] at h) ⟨fun i j p q h => by simp [px_w] at h, fun k q h => by simp [px_w] at h⟩ va_S.rf ⟨⟨hl.1, hl.2.1, fun q hq => by cases hq⟩, fun i v hi => ?_⟩
  · rw [ha]
    exact ⟨scr, x1, x2, x3, by omega, by rw [x4], x5, Nat.not_le.mpr hbl⟩
  · match i, hi with
    | 0, hi =>
      cases hi
      show ls[0]? = some (.val (.ref (ad 1000)))
      rw [ha]
      exact hl.2.2 _ (List.mem_cons_self ..)
    | 1, hi => cases hi
    | 2, hi => cases hi
    | 3, hi => cases hi
    | i + 4, hi => simp at hi
set_option maxHeartbeats 4000000 in
theorem lw_walk (l : Launch) (b : Addr) (xs : List Int32) : MetFree l x (headSpec (Jvm.Cond.code x code maxLocals ret :: tables_1) room_1) (lw_P b xs) (fun _ _ _ _ _ => True) lw_Q := by
  refine MetFree.of_bodyS (code := code) (maxLocals := maxLocals) (ret := ret) (by decide) ?_ ?_
  · intro args s m h hn
    obtain ⟨meth, c, h1, h2, h3, h4, h5, h6, -, -⟩ := Cond.code_spec hn (atoms_spec (ws := Jvm.Cond.code x code maxLocals ret :: tables_1) h _ List.mem_cons_self)
    exact ⟨meth, c, h1, h2, h3, h4, h5, h6⟩
  · intro p e s m args below meth c s₁ B hml0 hP _
    obtain ⟨rfl, hx, hbd, hgv⟩ := hP
    obtain ⟨scr, harrAt, hlist, hof, hsmall⟩ := hx
    obtain ⟨hcb, hkn, -, -⟩ := State.arrayAt?_spec harrAt
    have hown : s.vm.findClass R_law = some m.cls := findClass_of_methodNamed B.named
    have hts0 : ∀ c ∈ (Jvm.Cond.code x code maxLocals ret :: tables_1), c.before #[Value.ref b] s = true := atoms_spec (ws := Jvm.Cond.code x code maxLocals ret :: tables_1) B.pre
    have hts : ∀ w ∈ lw_tbl, w.before #[Value.ref b] s = true := k2_hts_sels lw_privs (fun w hw => hts0 w (List.mem_cons_of_mem _ hw)) lw_privs_ok
    have hml : c.maxLocals = 4 := B.maxLocals_eq (hts0 _ List.mem_cons_self)
    have X₀ : Stand p l e room_1 s m #[Value.ref b] below meth c s₁ [] 0 0 := Stand.of_body B
    have hh0 : s₁.heap = s.heap := by rw [B.state]; rfl
    have hsz : scr.slots.size = xs.length := by rw [← Array.length_toList, hlist, List.length_map]
    have hval : ∀ j : Nat, j < xs.length → scr.slots[j]? = some (.int (xs.getD j 0)) := fun j hj => by
      rw [← Array.getElem?_toList, hlist]
      simp [hj]
    have hbl : b < s.heap.size := (Array.getElem?_eq_some_iff.mp hcb).1
    have hX : va_X b xs.length (fun j => xs.getD j 0) s s.heap := ⟨scr, hcb, hof, hkn, hsz, hval⟩
    have K : W p l e room_1 s m #[Value.ref b] below meth c s₁.heap [] 0 0 (lw_Z below #[Value.ref b] s) (entryFrame m ([Value.ref b] : List Value).toArray 4) := by
      rw [hh0]
      exact whole_start l hbd (name_of_methodNamed B.named B.method).1 ⟨B.exec, B.bytes, B.returns, hml, hown, hts, hX, hbl, B.notSynchronized, hgv⟩
    obtain ⟨t, a1, o, b1, b2, b3⟩ := K s₁ rfl X₀
    exact ⟨t, o, a1, b1, b2, b3⟩
theorem lw_pre_spec {args : Array Value} {s : State} (h : (Jvm.Cond.and given_1 narrow_1).before args s = true) (hr : rest_1_c.before args s = true) : ∃ (b : Addr) (xs : List Int32), lw_P b xs args s := by
  have hs := flat_of_before _ h
  have hq := flat_of_before _ hr
  have hc : (Cond.count 1).before args s = true := hs _ (by decide +kernel)
  have harr : (Cond.arrayOf (.arg 0) .int).before args s = true := hs _ (by decide +kernel)
  have hle : (Cond.le (.length (.arg 0)) (.int 3072)).before args s = true := hs _ (by decide +kernel)
  have hlen : (Cond.isInt (.length (.arg 0))).before args s = true := hq _ (by decide +kernel)
  have hall : (Cond.all (.arg 0) (.isInt (.elem (.arg 0) (.index 0)))).before args s = true := hq _ (by decide +kernel)
  obtain ⟨b, xs, hb, hx⟩ := State.ints_of_pre rfl harr hlen hall
  have hsm : xs.length < 2 ^ 31 := hx.choose_spec.2.2.2
  have hev : (Term.length (.arg 0)).eval args s none [] s = some (.int xs.length.toInt32) := hx.length_eval hb
  have hv := Cond.le_ints hev (show (Term.int 3072).eval args s none [] s = some (.int 3072) from rfl)
  have hd : xs.length.toInt32 ≤ 3072 := by
    simpa [Cond.before, Cond.holds, hv] using hle
  have hN : xs.length ≤ 3072 := (Int32.ofNat_le_ofNat hsm (by decide)).mp (show Int32.ofNat xs.length ≤ Int32.ofNat 3072 from hd)
  exact ⟨b, xs, Cond.one_arg hc (show args[0]? = some (.ref b) from hb), hx, hN, h⟩
theorem lw_comes (l : Launch) : Comes l x (Jvm.Cond.code x code maxLocals ret :: tables_1) room_1 (fun tb e args s => Calls_1 tb e args s ∧ rest_1 tb e args s ∧ Pre_1 tb e args s)
    (fun _ _ args s o t => lw_Q args s o t) := by
  intro p e ha hc hk s m args below hf hfit hheap happ hpre
  obtain ⟨b, xs, hP⟩ := lw_pre_spec hpre.2.2 hpre.2.1
  obtain ⟨k, o, h1, h2, h3, hQ⟩ := lw_walk l b xs p e ha hc hk s m args below hf ((Spec.applies_iff_loose hf).mp happ).1 hP trivial
  exact ⟨k, o, h1, h2, h3, hQ⟩
theorem lw_frame {s t : State} {o : Outcome} {args : Array Value} (h : Framed s o t [] 600000 7302250) :
    Framed s o t (fieldLocs frame_1_writes args s ++ arrayLocs frame_1_arrays args s ++ staticLocs frame_1_statics s) 600000 7302250 := h
theorem lw_limb (L : Cond) (hL : ∀ (args : Array Value) (s t : State), L.after args s (.returned (some (.int 1))) t = true) :
    ArmFor flags0 classFile x code maxLocals ret World_1 tables_1 room_1 Calls_1 rest_1 Pre_1
      (fun tb e a s o t => postC L tb e a s o t ∧ Framed s o t (fieldLocs frame_1_writes a s ++ arrayLocs frame_1_arrays a s ++ staticLocs frame_1_statics s) 600000 7302250) := by
  intro l _ _ _ p e ha hc hk s m args below hf hfit hheap happ hpre
  obtain ⟨k, o, h1, h2, h3, rfl, hF⟩ := lw_comes l p e ha hc hk s m args below hf hfit hheap happ hpre
  exact ⟨k, _, h1, h2, h3, hL args s _, lw_frame hF⟩
theorem i_vc : Claimed_1_1 ∧ Claimed_1_2 := ⟨lw_limb limb_1_1 (fun args s t => by simp [limb_1_1, Cond.after, Cond.holds, Cond.value]), lw_limb limb_1_2 (fun args s t => Cond.after_iff.mpr (by
  first | (rw [show limb_1_2 = Cond.eq .result (.int 1) from rfl, Cond.eq_ints (x := 1) (y := 1) rfl rfl]; simp; done) | (simp [limb_1_2, Cond.value, Term.eval]; done)))⟩
