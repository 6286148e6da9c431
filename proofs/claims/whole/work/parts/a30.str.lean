/-! STRINGS, by their places: 1001, 1002 the two literals, 1003, 1004 their bytes, 1005 what is thrown by -/
section STR
variable {M N : px_M} {G : px_G} {d1 pc idx nc ns : Nat} {pl : px_L} {st rest : List Value} {W0 : px_W}
theorem XG.ldcS {q : Nat} {tx : String} (hd : decode M.2.1 pc = .ok (.ldc idx, 2)) (hZ : ∀ (ad : Nat → Nat) (A : Nat → Prop) (U : State), px_E0 ad A U → vk_R M.1.cls idx tx (ad q) U) (k : XG M G nc ns (pc + 2) pl (.ref q :: st) W0) : XG M G nc ns pc pl st W0 := by
  intro p l e s m args below meth c D cA ad0 ad A n0 hC hXt hn H locs ls hP hD hS hl
  obtain ⟨hx, hcode, hml, hown, hts, hr, hlk, hmn, hK, hE, hA⟩ := id hC
  exact va_ldcS hx hcode hown (hZ ad A s hE) hd (k p l e s m args below meth c D cA ad0 ad A n0 hC hXt hn H locs ls hP hD hS hl)
theorem XG.sget {q : Nat} {v : Value} {nm ds : String} (hd : decode M.2.1 pc = .ok (.getfield idx, 3)) (hk : Cond.fieldLink M.1.cls idx "java/lang/String" nm ds ∈ px_tbl) (hv : ∀ (ad : Nat → Nat) (A : Nat → Prop) (U : State), px_E0 ad A U → va_OF "java/lang/String" nm ds (px_tr ad v) (ad q) A U U.heap) (k : XG M G nc ns (pc + 3) pl (v :: st) W0) : XG M G nc ns pc pl (.ref q :: st) W0 := by
  intro p l e s m args below meth c D cA ad0 ad A n0 hC hXt hn H locs ls hP hD hS hl
  obtain ⟨hx, hcode, hml, hown, hts, hr, hlk, hmn, hK, hE, hA⟩ := id hC
  exact vk_getf hx hcode (hv ad A s hE) hS hown (hts _ hk) (fun _ h => h) hd (k p l e s m args below meth c D cA ad0 ad A n0 hC hXt hn H locs ls hP hD hS hl)
theorem XG.stic {v : Value} {C nm ds : String} (hd : decode M.2.1 pc = .ok (.getstatic idx, 3)) (hk : Cond.fieldLink M.1.cls idx C nm ds ∈ px_tbl) (hv : ∀ (ad : Nat → Nat) (A : Nat → Prop) (U : State), px_E0 ad A U → va_Z C nm ds (px_tr ad v) A U U.heap) (k : XG M G nc ns (pc + 3) pl (v :: st) W0) : XG M G nc ns pc pl st W0 := by
  intro p l e s m args below meth c D cA ad0 ad A n0 hC hXt hn H locs ls hP hD hS hl
  obtain ⟨hx, hcode, hml, hown, hts, hr, hlk, hmn, hK, hE, hA⟩ := id hC
  exact va_gets hx hcode (hv ad A s hE) hS hown (hts _ hk) (fun _ h => h) hd (k p l e s m args below meth c D cA ad0 ad A n0 hC hXt hn H locs ls hP hD hS hl)
theorem XG.slen {i : Nat} (hi : i < 2) (hd : decode M.2.1 pc = .ok (.arraylength, 1)) (k : XG M G nc ns (pc + 1) pl (.int (nI (px_slen.getD i 0)) :: st) W0) : XG M G nc ns pc pl (.ref (1003 + i) :: st) W0 := by
  intro p l e s m args below meth c D cA ad0 ad A n0 hC hXt hn H locs ls hP hD hS hl
  obtain ⟨hx, hcode, hml, hown, hts, hr, hlk, hmn, hK, hE, hA⟩ := id hC
  exact va_tlen hx hcode (hE.1.1.1 i hi).2.2.2 hS rfl hd (k p l e s m args below meth c D cA ad0 ad A n0 hC hXt hn H locs ls hP hD hS hl)
theorem XG.sbald {i j : Nat} (hi : i < 2) (hj : j < px_slen.getD i 0) (hj2 : j < 2 ^ 31) (hl2 : px_slen.getD i 0 < 2 ^ 31) (hd : decode M.2.1 pc = .ok (.baload, 1)) (k : XG M G nc ns (pc + 1) pl (.int ((px_sbyt.getD i []).getD j 0) :: st) W0) : XG M G nc ns pc pl (.int (nI j) :: .ref (1003 + i) :: st) W0 := by
  intro p l e s m args below meth c D cA ad0 ad A n0 hC hXt hn H locs ls hP hD hS hl
  obtain ⟨hx, hcode, hml, hown, hts, hr, hlk, hmn, hK, hE, hA⟩ := id hC
  exact va_tb hx hcode (hE.1.1.1 i hi).2.2.2 hS (vp_in_nI hj hl2) (v := .int ((px_sbyt.getD i []).getD j 0)) (by rw [nI_clamp hj2]) hd (k p l e s m args below meth c D cA ad0 ad A n0 hC hXt hn H locs ls hP hD hS hl)
def px_kVs (own : String) (idx : Nat) (N : px_M) (n : Nat) : Prop := Cond.methodLink own idx N.1 ∈ px_tbl ∧ Cond.instanceMethod N.1 ∈ px_tbl ∧ Cond.selects N.1.cls N.1 N.1 ∈ px_tbl ∧ Cond.initialized N.1.cls ∈ px_tbl ∧ Cond.code N.1 N.2.1 N.2.2.1 N.2.2.2 ∈ px_tbl ∧ N.2.2.1 ≤ 41 ∧ N.1.cls = "java/lang/String" ∧ (N.1.cls ≠ "java/lang/invoke/MethodHandle" ∧ N.1.cls ≠ "java/lang/invoke/VarHandle" ∧ (parseMethodDescriptor N.1.desc).map (fun d => d.parameters.length) = some n)
theorem XG.callVs {i n : Nat} {As : List Value} {r : Option Value} (hi : i < 2) (hd : decode M.2.1 pc = .ok (.invokevirtual idx, 3)) (hk : px_kVs M.1.cls idx N n) (hN : Con N d1 (.ref (1001 + i) :: As) [] (fun r' _ => r' = r)) (hd1 : px_fit d1 G.1 nc ns) (hn : As.length = n) (hnr : As.map (px_tr (px_f [])) = As) (hrr : r.map (px_tr (px_f [])) = r) (hst : st = As.reverse ++ .ref (1001 + i) :: rest) (hrm : (rest.map fun v => v.category).sum ≤ 8)
    (k : XG M G nc ns (pc + 3) pl (r.toList ++ rest) W0) : XG M G nc ns pc pl st W0 := by
  intro p l e s m args below meth c D cA ad0 ad A n0 hC hXt hn0 H locs ls hP hD hS hl
  obtain ⟨hx, hcode, hml, hown, hts, hr, hlk, hmn, hK, hE, hA⟩ := id hC
  obtain ⟨k1, k2, k3, k4, k5, k6, k7, k8⟩ := hk
  refine px_after (post1 := fun r' _ => r' = r) (rest := rest) hC hXt hn0 hP hD hS hl (ro := []) (W1 := []) px_sub_nil (a1 := ((Value.ref (1001 + i) :: As).map (px_tr fun k => ad (px_f [] k))).toArray) ?_ (fun r' W1' h1 h2 => by subst h1; rw [hrr]; exact k)
  have hf : px_f [] (1001 + i) = 1001 + i := px_f_up [] (by omega)
  have hst2 : st.map (px_tr ad) = (As.map (px_tr fun k => ad (px_f [] k))).reverse ++ .ref (ad (px_f [] (1001 + i))) :: rest.map (px_tr ad) := by
    rw [hst, List.map_append, List.map_reverse, hf]
    congr 2
    conv => lhs; rw [← hnr]
    rw [List.map_map]
    apply List.map_congr_left
    intro v _
    exact px_tr_tr ad (px_f []) v
  have hrv : ∃ cell : Cell, H[ad (px_f [] (1001 + i))]? = some cell ∧ cell.vm.isStatics = false ∧ s.vm.findClass N.1.cls = some cell.cls := by
    rw [hf, k7]; exact vk_recv (i := i) (adK := fun i => ad (1001 + i)) hE.1.1 hi hS
  refine va_runV (As := As.map (px_tr fun k => ad (px_f [] k))) (b := ad (px_f [] (1001 + i))) (C := N.1.cls) (n := n) (bytes := N.2.1) (maxL := N.2.2.1) (ret := N.2.2.2) (Ts := px_tbl) ⟨hx, hcode, hml, hown, hts⟩ (hN l D cA (fun k => ad (px_f [] k)) H.size) ⟨callB_of n hts (px_goodws k5) rfl rfl rfl (hts _ k4) (hts _ k1) k8 (px_roomR hd1 k6), hts _ k2, hts _ k3⟩ ⟨px_blind, hrv, px_pre (av1 := .ref (1001 + i) :: As) hC px_sub_nil hP hD hS⟩ rfl (by rw [List.length_map]; exact hn) hl.1.1 hst2 ?_ hd ⟨hd1.2.2.1, hd1.2.2.2⟩
  refine lv_room ?_
  rw [List.map_map, show ((fun v => Value.category v) ∘ px_tr ad) = (fun v => v.category) from funext fun v => px_tr_cat ad v]
  exact hrm
end STR
theorem sE_coder {i : Nat} (hi : i < 2) : ∀ (ad : Nat → Nat) (A : Nat → Prop) (U : State), px_E0 ad A U → va_OF "java/lang/String" "coder" "B" (px_tr ad (.int 0)) (ad (1001 + i)) A U U.heap := fun _ _ _ h => (h.1.1.1 i hi).2.1
theorem sE_value {i : Nat} (hi : i < 2) : ∀ (ad : Nat → Nat) (A : Nat → Prop) (U : State), px_E0 ad A U → va_OF "java/lang/String" "value" "[B" (px_tr ad (.ref (1003 + i))) (ad (1001 + i)) A U U.heap := fun _ _ _ h => (h.1.1.1 i hi).2.2.1
theorem sE_compact : ∀ (ad : Nat → Nat) (A : Nat → Prop) (U : State), px_E0 ad A U → va_Z "java/lang/String" "COMPACT_STRINGS" "Z" (px_tr ad (.int 1)) A U U.heap := fun _ _ _ h => h.1.2.1
theorem sE_sioobe : ∀ (ad : Nat → Nat) (A : Nat → Prop) (U : State), px_E0 ad A U → va_Z "jdk/internal/util/Preconditions" "SIOOBE_FORMATTER" "Ljava/util/function/BiFunction;" (px_tr ad .null) A U U.heap ∨ va_Z "jdk/internal/util/Preconditions" "SIOOBE_FORMATTER" "Ljava/util/function/BiFunction;" (px_tr ad (.ref 1005)) A U U.heap := fun _ _ _ h => h.1.2.2
theorem px_FTnil {own : String} : px_FTok own [] := fun _ h => absurd h List.not_mem_nil
abbrev mJ0_coder_7d493 : px_M := (yJ0_coder_7d493, cJ0_coder_7d493, 1, (some .byte))
def tJ0_coder_7d493 : List px_I := [(6, 1, .aload_n 0, 0, 0, .null), (13, 1, .iconst 1, 0, 0, .null)]
set_option maxRecDepth 100000 in
theorem tJ0_coder_7d493_ok : px_tab mJ0_coder_7d493 tJ0_coder_7d493 := px_tab_of px_FTnil (by decide +kernel) (by decide +kernel)
theorem pf_coder : plainFor yJ0_coder_7d493 = true := by decide +kernel
set_option maxRecDepth 100000 in
theorem eJ0_coder_7d493_0 : decode mJ0_coder_7d493.2.1 0 = .ok (.getstatic 38, 3) := by decide +kernel
set_option maxRecDepth 100000 in
theorem eJ0_coder_7d493_3 : decode mJ0_coder_7d493.2.1 3 = .ok (.ifCond .eq 10, 3) := by decide +kernel
set_option maxRecDepth 100000 in
theorem eJ0_coder_7d493_7 : decode mJ0_coder_7d493.2.1 7 = .ok (.getfield 15, 3) := by decide +kernel
set_option maxRecDepth 100000 in
theorem eJ0_coder_7d493_10 : decode mJ0_coder_7d493.2.1 10 = .ok (.goto 4, 3) := by decide +kernel
set_option maxRecDepth 100000 in
theorem eJ0_coder_7d493_14 : decode mJ0_coder_7d493.2.1 14 = .ok (.ireturn, 1) := by decide +kernel
set_option maxRecDepth 100000 in
theorem cw_J0_coder_7d493 : Cond.code mJ0_coder_7d493.1 mJ0_coder_7d493.2.1 mJ0_coder_7d493.2.2.1 mJ0_coder_7d493.2.2.2 ∈ px_tbl := px_mem1 188 (by rfl) (by rfl)
abbrev mJ0_isLatin1_aae02 : px_M := (yJ0_isLatin1_aae02, cJ0_isLatin1_aae02, 1, (some .boolean))
def tJ0_isLatin1_aae02 : List px_I := [(6, 1, .aload_n 0, 0, 0, .null), (13, 1, .iconst 1, 0, 0, .null), (17, 1, .iconst 0, 0, 0, .null)]
set_option maxRecDepth 100000 in
theorem tJ0_isLatin1_aae02_ok : px_tab mJ0_isLatin1_aae02 tJ0_isLatin1_aae02 := px_tab_of px_FTnil (by decide +kernel) (by decide +kernel)
theorem pf_isLatin1 : plainFor yJ0_isLatin1_aae02 = true := by decide +kernel
set_option maxRecDepth 100000 in
theorem eJ0_isLatin1_aae02_0 : decode mJ0_isLatin1_aae02.2.1 0 = .ok (.getstatic 38, 3) := by decide +kernel
set_option maxRecDepth 100000 in
theorem eJ0_isLatin1_aae02_3 : decode mJ0_isLatin1_aae02.2.1 3 = .ok (.ifCond .eq 14, 3) := by decide +kernel
set_option maxRecDepth 100000 in
theorem eJ0_isLatin1_aae02_7 : decode mJ0_isLatin1_aae02.2.1 7 = .ok (.getfield 15, 3) := by decide +kernel
set_option maxRecDepth 100000 in
theorem eJ0_isLatin1_aae02_10 : decode mJ0_isLatin1_aae02.2.1 10 = .ok (.ifCond .ne 7, 3) := by decide +kernel
set_option maxRecDepth 100000 in
theorem eJ0_isLatin1_aae02_14 : decode mJ0_isLatin1_aae02.2.1 14 = .ok (.goto 4, 3) := by decide +kernel
set_option maxRecDepth 100000 in
theorem eJ0_isLatin1_aae02_18 : decode mJ0_isLatin1_aae02.2.1 18 = .ok (.ireturn, 1) := by decide +kernel
set_option maxRecDepth 100000 in
theorem cw_J0_isLatin1_aae02 : Cond.code mJ0_isLatin1_aae02.1 mJ0_isLatin1_aae02.2.1 mJ0_isLatin1_aae02.2.2.1 mJ0_isLatin1_aae02.2.2.2 ∈ px_tbl := px_mem1 198 (by rfl) (by rfl)
abbrev mJ0_length_8abf5 : px_M := (yJ0_length_8abf5, cJ0_length_8abf5, 1, (some .int))
def tJ0_length_8abf5 : List px_I := [(0, 1, .aload_n 0, 0, 0, .null), (5, 1, .aload_n 0, 0, 0, .null), (9, 1, .ishr, 0, 0, .null)]
set_option maxRecDepth 100000 in
theorem tJ0_length_8abf5_ok : px_tab mJ0_length_8abf5 tJ0_length_8abf5 := px_tab_of px_FTnil (by decide +kernel) (by decide +kernel)
theorem pf_length : plainFor yJ0_length_8abf5 = true := by decide +kernel
set_option maxRecDepth 100000 in
theorem eJ0_length_8abf5_1 : decode mJ0_length_8abf5.2.1 1 = .ok (.getfield 9, 3) := by decide +kernel
set_option maxRecDepth 100000 in
theorem eJ0_length_8abf5_4 : decode mJ0_length_8abf5.2.1 4 = .ok (.arraylength, 1) := by decide +kernel
set_option maxRecDepth 100000 in
theorem eJ0_length_8abf5_6 : decode mJ0_length_8abf5.2.1 6 = .ok (.invokevirtual 335, 3) := by decide +kernel
set_option maxRecDepth 100000 in
theorem eJ0_length_8abf5_10 : decode mJ0_length_8abf5.2.1 10 = .ok (.ireturn, 1) := by decide +kernel
set_option maxRecDepth 100000 in
theorem cw_J0_length_8abf5 : Cond.code mJ0_length_8abf5.1 mJ0_length_8abf5.2.1 mJ0_length_8abf5.2.2.1 mJ0_length_8abf5.2.2.2 ∈ px_tbl := px_mem1 184 (by rfl) (by rfl)
abbrev mJ0_charAt_5068e : px_M := (yJ0_charAt_5068e, cJ0_charAt_5068e, 2, (some .char))
def tJ0_charAt_5068e : List px_I := [(0, 1, .aload_n 0, 0, 0, .null), (7, 1, .aload_n 0, 0, 0, .null), (11, 1, .iload_n 1, 0, 0, .null), (16, 1, .aload_n 0, 0, 0, .null), (20, 1, .iload_n 1, 0, 0, .null)]
set_option maxRecDepth 100000 in
theorem tJ0_charAt_5068e_ok : px_tab mJ0_charAt_5068e tJ0_charAt_5068e := px_tab_of px_FTnil (by decide +kernel) (by decide +kernel)
theorem pf_charAt : plainFor yJ0_charAt_5068e = true := by decide +kernel
set_option maxRecDepth 100000 in
theorem eJ0_charAt_5068e_1 : decode mJ0_charAt_5068e.2.1 1 = .ok (.invokevirtual 492, 3) := by decide +kernel
set_option maxRecDepth 100000 in
theorem eJ0_charAt_5068e_4 : decode mJ0_charAt_5068e.2.1 4 = .ok (.ifCond .eq 12, 3) := by decide +kernel
set_option maxRecDepth 100000 in
theorem eJ0_charAt_5068e_8 : decode mJ0_charAt_5068e.2.1 8 = .ok (.getfield 9, 3) := by decide +kernel
set_option maxRecDepth 100000 in
theorem eJ0_charAt_5068e_12 : decode mJ0_charAt_5068e.2.1 12 = .ok (.invokestatic 495, 3) := by decide +kernel
set_option maxRecDepth 100000 in
theorem eJ0_charAt_5068e_15 : decode mJ0_charAt_5068e.2.1 15 = .ok (.ireturn, 1) := by decide +kernel
set_option maxRecDepth 100000 in
theorem eJ0_charAt_5068e_17 : decode mJ0_charAt_5068e.2.1 17 = .ok (.getfield 9, 3) := by decide +kernel
set_option maxRecDepth 100000 in
theorem eJ0_charAt_5068e_21 : decode mJ0_charAt_5068e.2.1 21 = .ok (.invokestatic 498, 3) := by decide +kernel
set_option maxRecDepth 100000 in
theorem eJ0_charAt_5068e_24 : decode mJ0_charAt_5068e.2.1 24 = .ok (.ireturn, 1) := by decide +kernel
set_option maxRecDepth 100000 in
theorem cw_J0_charAt_5068e : Cond.code mJ0_charAt_5068e.1 mJ0_charAt_5068e.2.1 mJ0_charAt_5068e.2.2.1 mJ0_charAt_5068e.2.2.2 ∈ px_tbl := px_mem1 194 (by rfl) (by rfl)
abbrev mJ0_indexOf_0f7a4 : px_M := (yJ0_indexOf_0f7a4, cJ0_indexOf_0f7a4, 2, (some .int))
def tJ0_indexOf_0f7a4 : List px_I := [(0, 1, .aload_n 0, 0, 0, .null), (1, 1, .iload_n 1, 0, 0, .null), (2, 1, .iconst 0, 0, 0, .null)]
set_option maxRecDepth 100000 in
theorem tJ0_indexOf_0f7a4_ok : px_tab mJ0_indexOf_0f7a4 tJ0_indexOf_0f7a4 := px_tab_of px_FTnil (by decide +kernel) (by decide +kernel)
theorem pf_ix1 : plainFor yJ0_indexOf_0f7a4 = true := by decide +kernel
set_option maxRecDepth 100000 in
theorem eJ0_indexOf_0f7a4_3 : decode mJ0_indexOf_0f7a4.2.1 3 = .ok (.invokevirtual 633, 3) := by decide +kernel
set_option maxRecDepth 100000 in
theorem eJ0_indexOf_0f7a4_6 : decode mJ0_indexOf_0f7a4.2.1 6 = .ok (.ireturn, 1) := by decide +kernel
set_option maxRecDepth 100000 in
theorem cw_J0_indexOf_0f7a4 : Cond.code mJ0_indexOf_0f7a4.1 mJ0_indexOf_0f7a4.2.1 mJ0_indexOf_0f7a4.2.2.1 mJ0_indexOf_0f7a4.2.2.2 ∈ px_tbl := px_mem3 101 (by rfl) (by rfl)
abbrev mJ0_indexOf_7cf53 : px_M := (yJ0_indexOf_7cf53, cJ0_indexOf_7cf53, 3, (some .int))
def tJ0_indexOf_7cf53 : List px_I := [(0, 1, .aload_n 0, 0, 0, .null), (7, 1, .aload_n 0, 0, 0, .null), (11, 1, .iload_n 1, 0, 0, .null), (12, 1, .iload_n 2, 0, 0, .null), (13, 1, .aload_n 0, 0, 0, .null), (23, 1, .aload_n 0, 0, 0, .null), (27, 1, .iload_n 1, 0, 0, .null), (28, 1, .iload_n 2, 0, 0, .null), (29, 1, .aload_n 0, 0, 0, .null)]
set_option maxRecDepth 100000 in
theorem tJ0_indexOf_7cf53_ok : px_tab mJ0_indexOf_7cf53 tJ0_indexOf_7cf53 := px_tab_of px_FTnil (by decide +kernel) (by decide +kernel)
theorem pf_ix2 : plainFor yJ0_indexOf_7cf53 = true := by decide +kernel
set_option maxRecDepth 100000 in
theorem eJ0_indexOf_7cf53_1 : decode mJ0_indexOf_7cf53.2.1 1 = .ok (.invokevirtual 492, 3) := by decide +kernel
set_option maxRecDepth 100000 in
theorem eJ0_indexOf_7cf53_4 : decode mJ0_indexOf_7cf53.2.1 4 = .ok (.ifCond .eq 19, 3) := by decide +kernel
set_option maxRecDepth 100000 in
theorem eJ0_indexOf_7cf53_8 : decode mJ0_indexOf_7cf53.2.1 8 = .ok (.getfield 9, 3) := by decide +kernel
set_option maxRecDepth 100000 in
theorem eJ0_indexOf_7cf53_14 : decode mJ0_indexOf_7cf53.2.1 14 = .ok (.invokevirtual 505, 3) := by decide +kernel
set_option maxRecDepth 100000 in
theorem eJ0_indexOf_7cf53_17 : decode mJ0_indexOf_7cf53.2.1 17 = .ok (.invokestatic 637, 3) := by decide +kernel
set_option maxRecDepth 100000 in
theorem eJ0_indexOf_7cf53_20 : decode mJ0_indexOf_7cf53.2.1 20 = .ok (.goto 16, 3) := by decide +kernel
set_option maxRecDepth 100000 in
theorem eJ0_indexOf_7cf53_24 : decode mJ0_indexOf_7cf53.2.1 24 = .ok (.getfield 9, 3) := by decide +kernel
set_option maxRecDepth 100000 in
theorem eJ0_indexOf_7cf53_30 : decode mJ0_indexOf_7cf53.2.1 30 = .ok (.invokevirtual 505, 3) := by decide +kernel
set_option maxRecDepth 100000 in
theorem eJ0_indexOf_7cf53_33 : decode mJ0_indexOf_7cf53.2.1 33 = .ok (.invokestatic 640, 3) := by decide +kernel
set_option maxRecDepth 100000 in
theorem eJ0_indexOf_7cf53_36 : decode mJ0_indexOf_7cf53.2.1 36 = .ok (.ireturn, 1) := by decide +kernel
set_option maxRecDepth 100000 in
theorem cw_J0_indexOf_7cf53 : Cond.code mJ0_indexOf_7cf53.1 mJ0_indexOf_7cf53.2.1 mJ0_indexOf_7cf53.2.2.1 mJ0_indexOf_7cf53.2.2.2 ∈ px_tbl := px_mem3 105 (by rfl) (by rfl)
abbrev mJ1_charAt_3b067 : px_M := (yJ1_charAt_3b067, cJ1_charAt_3b067, 2, (some .char))
def tJ1_charAt_3b067 : List px_I := [(0, 1, .iload_n 1, 0, 0, .null), (1, 1, .aload_n 0, 0, 0, .null), (6, 1, .aload_n 0, 0, 0, .null), (7, 1, .iload_n 1, 0, 0, .null), (9, 3, .sipush 255, 0, 0, .null), (12, 1, .iand, 0, 0, .null), (13, 1, .i2c, 0, 0, .null)]
set_option maxRecDepth 100000 in
theorem tJ1_charAt_3b067_ok : px_tab mJ1_charAt_3b067 tJ1_charAt_3b067 := px_tab_of px_FTnil (by decide +kernel) (by decide +kernel)
theorem pf_lcharAt : plainFor yJ1_charAt_3b067 = true := by decide +kernel
set_option maxRecDepth 100000 in
theorem eJ1_charAt_3b067_2 : decode mJ1_charAt_3b067.2.1 2 = .ok (.arraylength, 1) := by decide +kernel
set_option maxRecDepth 100000 in
theorem eJ1_charAt_3b067_3 : decode mJ1_charAt_3b067.2.1 3 = .ok (.invokestatic 9, 3) := by decide +kernel
set_option maxRecDepth 100000 in
theorem eJ1_charAt_3b067_8 : decode mJ1_charAt_3b067.2.1 8 = .ok (.baload, 1) := by decide +kernel
set_option maxRecDepth 100000 in
theorem eJ1_charAt_3b067_14 : decode mJ1_charAt_3b067.2.1 14 = .ok (.ireturn, 1) := by decide +kernel
set_option maxRecDepth 100000 in
theorem cw_J1_charAt_3b067 : Cond.code mJ1_charAt_3b067.1 mJ1_charAt_3b067.2.1 mJ1_charAt_3b067.2.2.1 mJ1_charAt_3b067.2.2.2 ∈ px_tbl := px_mem1 201 (by rfl) (by rfl)
abbrev mJ1_canEncode_9a6ad : px_M := (yJ1_canEncode_9a6ad, cJ1_canEncode_9a6ad, 1, (some .boolean))
def tJ1_canEncode_9a6ad : List px_I := [(0, 1, .iload_n 0, 0, 0, .null), (4, 1, .iload_n 0, 0, 0, .null), (5, 3, .sipush 255, 0, 0, .null), (11, 1, .iconst 1, 0, 0, .null), (15, 1, .iconst 0, 0, 0, .null)]
set_option maxRecDepth 100000 in
theorem tJ1_canEncode_9a6ad_ok : px_tab mJ1_canEncode_9a6ad tJ1_canEncode_9a6ad := px_tab_of px_FTnil (by decide +kernel) (by decide +kernel)
theorem pf_canEnc : plainFor yJ1_canEncode_9a6ad = true := by decide +kernel
set_option maxRecDepth 100000 in
theorem eJ1_canEncode_9a6ad_1 : decode mJ1_canEncode_9a6ad.2.1 1 = .ok (.ifCond .lt 14, 3) := by decide +kernel
set_option maxRecDepth 100000 in
theorem eJ1_canEncode_9a6ad_8 : decode mJ1_canEncode_9a6ad.2.1 8 = .ok (.if_icmp .gt 7, 3) := by decide +kernel
set_option maxRecDepth 100000 in
theorem eJ1_canEncode_9a6ad_12 : decode mJ1_canEncode_9a6ad.2.1 12 = .ok (.goto 4, 3) := by decide +kernel
set_option maxRecDepth 100000 in
theorem eJ1_canEncode_9a6ad_16 : decode mJ1_canEncode_9a6ad.2.1 16 = .ok (.ireturn, 1) := by decide +kernel
set_option maxRecDepth 100000 in
theorem cw_J1_canEncode_9a6ad : Cond.code mJ1_canEncode_9a6ad.1 mJ1_canEncode_9a6ad.2.1 mJ1_canEncode_9a6ad.2.2.1 mJ1_canEncode_9a6ad.2.2.2 ∈ px_tbl := px_mem3 112 (by rfl) (by rfl)
abbrev mJ1_indexOf_4cfef : px_M := (yJ1_indexOf_4cfef, cJ1_indexOf_4cfef, 4, (some .int))
def tJ1_indexOf_4cfef : List px_I := [(0, 1, .iload_n 1, 0, 0, .null), (7, 1, .iconst (-1), 0, 0, .null), (9, 1, .iload_n 2, 0, 0, .null), (10, 1, .iconst 0, 0, 0, .null), (14, 1, .istore_n 2, 0, 0, .null), (15, 1, .iload_n 3, 0, 0, .null), (16, 1, .aload_n 0, 0, 0, .null), (21, 1, .istore_n 3, 0, 0, .null), (22, 1, .iload_n 2, 0, 0, .null), (23, 1, .iload_n 3, 0, 0, .null), (27, 1, .iconst (-1), 0, 0, .null), (29, 1, .aload_n 0, 0, 0, .null), (30, 1, .iload_n 1, 0, 0, .null), (31, 1, .iload_n 2, 0, 0, .null), (32, 1, .iload_n 3, 0, 0, .null)]
set_option maxRecDepth 100000 in
theorem tJ1_indexOf_4cfef_ok : px_tab mJ1_indexOf_4cfef tJ1_indexOf_4cfef := px_tab_of px_FTnil (by decide +kernel) (by decide +kernel)
theorem pf_lix : plainFor yJ1_indexOf_4cfef = true := by decide +kernel
set_option maxRecDepth 100000 in
theorem eJ1_indexOf_4cfef_1 : decode mJ1_indexOf_4cfef.2.1 1 = .ok (.invokestatic 88, 3) := by decide +kernel
set_option maxRecDepth 100000 in
theorem eJ1_indexOf_4cfef_4 : decode mJ1_indexOf_4cfef.2.1 4 = .ok (.ifCond .ne 5, 3) := by decide +kernel
set_option maxRecDepth 100000 in
theorem eJ1_indexOf_4cfef_8 : decode mJ1_indexOf_4cfef.2.1 8 = .ok (.ireturn, 1) := by decide +kernel
set_option maxRecDepth 100000 in
theorem eJ1_indexOf_4cfef_11 : decode mJ1_indexOf_4cfef.2.1 11 = .ok (.invokestatic 92, 3) := by decide +kernel
set_option maxRecDepth 100000 in
theorem eJ1_indexOf_4cfef_17 : decode mJ1_indexOf_4cfef.2.1 17 = .ok (.arraylength, 1) := by decide +kernel
set_option maxRecDepth 100000 in
theorem eJ1_indexOf_4cfef_18 : decode mJ1_indexOf_4cfef.2.1 18 = .ok (.invokestatic 38, 3) := by decide +kernel
set_option maxRecDepth 100000 in
theorem eJ1_indexOf_4cfef_24 : decode mJ1_indexOf_4cfef.2.1 24 = .ok (.if_icmp .lt 5, 3) := by decide +kernel
set_option maxRecDepth 100000 in
theorem eJ1_indexOf_4cfef_28 : decode mJ1_indexOf_4cfef.2.1 28 = .ok (.ireturn, 1) := by decide +kernel
set_option maxRecDepth 100000 in
theorem eJ1_indexOf_4cfef_33 : decode mJ1_indexOf_4cfef.2.1 33 = .ok (.invokestatic 95, 3) := by decide +kernel
set_option maxRecDepth 100000 in
theorem eJ1_indexOf_4cfef_36 : decode mJ1_indexOf_4cfef.2.1 36 = .ok (.ireturn, 1) := by decide +kernel
set_option maxRecDepth 100000 in
theorem cw_J1_indexOf_4cfef : Cond.code mJ1_indexOf_4cfef.1 mJ1_indexOf_4cfef.2.1 mJ1_indexOf_4cfef.2.2.1 mJ1_indexOf_4cfef.2.2.2 ∈ px_tbl := px_mem3 109 (by rfl) (by rfl)
abbrev mJ1_indexOfChar_4cfef : px_M := (yJ1_indexOfChar_4cfef, cJ1_indexOfChar_4cfef, 6, (some .int))
def tJ1_indexOfChar_4cfef : List px_I := [(0, 1, .iload_n 1, 0, 0, .null), (1, 1, .i2b, 0, 0, .null), (2, 2, .istore 4, 0, 0, .null), (4, 1, .iload_n 2, 0, 0, .null), (5, 2, .istore 5, 0, 0, .null), (7, 2, .iload 5, 0, 0, .null), (9, 1, .iload_n 3, 0, 0, .null), (13, 1, .aload_n 0, 0, 0, .null), (14, 2, .iload 5, 0, 0, .null), (17, 2, .iload 4, 0, 0, .null), (22, 2, .iload 5, 0, 0, .null), (25, 3, .iinc 5 1, 0, 0, .null), (31, 1, .iconst (-1), 0, 0, .null)]
set_option maxRecDepth 100000 in
theorem tJ1_indexOfChar_4cfef_ok : px_tab mJ1_indexOfChar_4cfef tJ1_indexOfChar_4cfef := px_tab_of px_FTnil (by decide +kernel) (by decide +kernel)
theorem pf_lixC : plainFor yJ1_indexOfChar_4cfef = true := by decide +kernel
set_option maxRecDepth 100000 in
theorem eJ1_indexOfChar_4cfef_10 : decode mJ1_indexOfChar_4cfef.2.1 10 = .ok (.if_icmp .ge 21, 3) := by decide +kernel
set_option maxRecDepth 100000 in
theorem eJ1_indexOfChar_4cfef_16 : decode mJ1_indexOfChar_4cfef.2.1 16 = .ok (.baload, 1) := by decide +kernel
set_option maxRecDepth 100000 in
theorem eJ1_indexOfChar_4cfef_19 : decode mJ1_indexOfChar_4cfef.2.1 19 = .ok (.if_icmp .ne 6, 3) := by decide +kernel
set_option maxRecDepth 100000 in
theorem eJ1_indexOfChar_4cfef_24 : decode mJ1_indexOfChar_4cfef.2.1 24 = .ok (.ireturn, 1) := by decide +kernel
set_option maxRecDepth 100000 in
theorem eJ1_indexOfChar_4cfef_28 : decode mJ1_indexOfChar_4cfef.2.1 28 = .ok (.goto (-21), 3) := by decide +kernel
set_option maxRecDepth 100000 in
theorem eJ1_indexOfChar_4cfef_32 : decode mJ1_indexOfChar_4cfef.2.1 32 = .ok (.ireturn, 1) := by decide +kernel
set_option maxRecDepth 100000 in
theorem cw_J1_indexOfChar_4cfef : Cond.code mJ1_indexOfChar_4cfef.1 mJ1_indexOfChar_4cfef.2.1 mJ1_indexOfChar_4cfef.2.2.1 mJ1_indexOfChar_4cfef.2.2.2 ∈ px_tbl := px_mem3 119 (by rfl) (by rfl)
abbrev mJ0_checkIndex_df160 : px_M := (yJ0_checkIndex_df160, cJ0_checkIndex_df160, 2, none)
def tJ0_checkIndex_df160 : List px_I := [(0, 1, .iload_n 0, 0, 0, .null), (1, 1, .iload_n 1, 0, 0, .null)]
set_option maxRecDepth 100000 in
theorem tJ0_checkIndex_df160_ok : px_tab mJ0_checkIndex_df160 tJ0_checkIndex_df160 := px_tab_of px_FTnil (by decide +kernel) (by decide +kernel)
theorem pf_chk : plainFor yJ0_checkIndex_df160 = true := by decide +kernel
set_option maxRecDepth 100000 in
theorem eJ0_checkIndex_df160_2 : decode mJ0_checkIndex_df160.2.1 2 = .ok (.getstatic 1053, 3) := by decide +kernel
set_option maxRecDepth 100000 in
theorem eJ0_checkIndex_df160_5 : decode mJ0_checkIndex_df160.2.1 5 = .ok (.invokestatic 1059, 3) := by decide +kernel
set_option maxRecDepth 100000 in
theorem eJ0_checkIndex_df160_8 : decode mJ0_checkIndex_df160.2.1 8 = .ok (.pop, 1) := by decide +kernel
set_option maxRecDepth 100000 in
theorem eJ0_checkIndex_df160_9 : decode mJ0_checkIndex_df160.2.1 9 = .ok (.return_, 1) := by decide +kernel
set_option maxRecDepth 100000 in
theorem cw_J0_checkIndex_df160 : Cond.code mJ0_checkIndex_df160.1 mJ0_checkIndex_df160.2.1 mJ0_checkIndex_df160.2.2.1 mJ0_checkIndex_df160.2.2.2 ∈ px_tbl := px_mem1 204 (by rfl) (by rfl)
abbrev mJ3_checkIndex_8e157 : px_M := (yJ3_checkIndex_8e157, cJ3_checkIndex_8e157, 3, (some .int))
def tJ3_checkIndex_8e157 : List px_I := [(0, 1, .iload_n 0, 0, 0, .null), (4, 1, .iload_n 0, 0, 0, .null), (5, 1, .iload_n 1, 0, 0, .null), (9, 1, .aload_n 2, 0, 0, .null), (10, 1, .iload_n 0, 0, 0, .null), (11, 1, .iload_n 1, 0, 0, .null), (16, 1, .iload_n 0, 0, 0, .null)]
set_option maxRecDepth 100000 in
theorem tJ3_checkIndex_8e157_ok : px_tab mJ3_checkIndex_8e157 tJ3_checkIndex_8e157 := px_tab_of px_FTnil (by decide +kernel) (by decide +kernel)
theorem pf_pchk : plainFor yJ3_checkIndex_8e157 = true := by decide +kernel
set_option maxRecDepth 100000 in
theorem eJ3_checkIndex_8e157_1 : decode mJ3_checkIndex_8e157.2.1 1 = .ok (.ifCond .lt 8, 3) := by decide +kernel
set_option maxRecDepth 100000 in
theorem eJ3_checkIndex_8e157_6 : decode mJ3_checkIndex_8e157.2.1 6 = .ok (.if_icmp .lt 10, 3) := by decide +kernel
set_option maxRecDepth 100000 in
theorem eJ3_checkIndex_8e157_12 : decode mJ3_checkIndex_8e157.2.1 12 = .ok (.invokestatic 95, 3) := by decide +kernel
set_option maxRecDepth 100000 in
theorem eJ3_checkIndex_8e157_17 : decode mJ3_checkIndex_8e157.2.1 17 = .ok (.ireturn, 1) := by decide +kernel
set_option maxRecDepth 100000 in
theorem cw_J3_checkIndex_8e157 : Cond.code mJ3_checkIndex_8e157.1 mJ3_checkIndex_8e157.2.1 mJ3_checkIndex_8e157.2.2.1 mJ3_checkIndex_8e157.2.2.2 ∈ px_tbl := px_mem1 209 (by rfl) (by rfl)
set_option maxRecDepth 100000 in
theorem ks_String_335 : px_kVs "java/lang/String" 335 mJ0_coder_7d493 0 := ⟨px_mem1 185 (by decide +kernel) (by decide +kernel), px_mem1 186 (by decide +kernel) (by decide +kernel), px_mem1 187 (by decide +kernel) (by decide +kernel), px_mem1 5 (by decide +kernel) (by decide +kernel), cw_J0_coder_7d493, by decide, rfl, by decide, by decide, by decide +kernel⟩
set_option maxRecDepth 100000 in
theorem ks_String_492 : px_kVs "java/lang/String" 492 mJ0_isLatin1_aae02 0 := ⟨px_mem1 195 (by decide +kernel) (by decide +kernel), px_mem1 196 (by decide +kernel) (by decide +kernel), px_mem1 197 (by decide +kernel) (by decide +kernel), px_mem1 5 (by decide +kernel) (by decide +kernel), cw_J0_isLatin1_aae02, by decide, rfl, by decide, by decide, by decide +kernel⟩
set_option maxRecDepth 100000 in
theorem ks_String_505 : px_kVs "java/lang/String" 505 mJ0_length_8abf5 0 := ⟨px_mem3 106 (by decide +kernel) (by decide +kernel), px_mem1 182 (by decide +kernel) (by decide +kernel), px_mem1 183 (by decide +kernel) (by decide +kernel), px_mem1 5 (by decide +kernel) (by decide +kernel), cw_J0_length_8abf5, by decide, rfl, by decide, by decide, by decide +kernel⟩
set_option maxRecDepth 100000 in
theorem ks_String_633 : px_kVs "java/lang/String" 633 mJ0_indexOf_7cf53 2 := ⟨px_mem3 102 (by decide +kernel) (by decide +kernel), px_mem3 103 (by decide +kernel) (by decide +kernel), px_mem3 104 (by decide +kernel) (by decide +kernel), px_mem1 5 (by decide +kernel) (by decide +kernel), cw_J0_indexOf_7cf53, by decide, rfl, by decide, by decide, by decide +kernel⟩
set_option maxRecDepth 100000 in
theorem ks_Reader_35 : px_kVs RX3 35 mJ0_length_8abf5 0 := ⟨px_mem1 181 (by decide +kernel) (by decide +kernel), px_mem1 182 (by decide +kernel) (by decide +kernel), px_mem1 183 (by decide +kernel) (by decide +kernel), px_mem1 5 (by decide +kernel) (by decide +kernel), cw_J0_length_8abf5, by decide, rfl, by decide, by decide, by decide +kernel⟩
set_option maxRecDepth 100000 in
theorem ks_Reader_41 : px_kVs RX3 41 mJ0_charAt_5068e 1 := ⟨px_mem1 191 (by decide +kernel) (by decide +kernel), px_mem1 192 (by decide +kernel) (by decide +kernel), px_mem1 193 (by decide +kernel) (by decide +kernel), px_mem1 5 (by decide +kernel) (by decide +kernel), cw_J0_charAt_5068e, by decide, rfl, by decide, by decide, by decide +kernel⟩
set_option maxRecDepth 100000 in
theorem ks_Reader_111 : px_kVs RX3 111 mJ0_indexOf_0f7a4 1 := ⟨px_mem3 98 (by decide +kernel) (by decide +kernel), px_mem3 99 (by decide +kernel) (by decide +kernel), px_mem3 100 (by decide +kernel) (by decide +kernel), px_mem1 5 (by decide +kernel) (by decide +kernel), cw_J0_indexOf_0f7a4, by decide, rfl, by decide, by decide, by decide +kernel⟩
set_option maxRecDepth 100000 in
theorem ks_String_495 : px_kS "java/lang/String" 495 mJ1_charAt_3b067 2 := ⟨px_mem1 199 (by decide +kernel) (by decide +kernel), px_mem1 200 (by decide +kernel) (by decide +kernel), px_mem1 6 (by decide +kernel) (by decide +kernel), cw_J1_charAt_3b067, by decide, by decide, by decide, by decide +kernel⟩
set_option maxRecDepth 100000 in
theorem ks_String_637 : px_kS "java/lang/String" 637 mJ1_indexOf_4cfef 4 := ⟨px_mem3 107 (by decide +kernel) (by decide +kernel), px_mem3 108 (by decide +kernel) (by decide +kernel), px_mem1 6 (by decide +kernel) (by decide +kernel), cw_J1_indexOf_4cfef, by decide, by decide, by decide, by decide +kernel⟩
set_option maxRecDepth 100000 in
theorem ks_StringLatin1_9 : px_kS "java/lang/StringLatin1" 9 mJ0_checkIndex_df160 2 := ⟨px_mem1 202 (by decide +kernel) (by decide +kernel), px_mem1 203 (by decide +kernel) (by decide +kernel), px_mem1 5 (by decide +kernel) (by decide +kernel), cw_J0_checkIndex_df160, by decide, by decide, by decide, by decide +kernel⟩
set_option maxRecDepth 100000 in
theorem ks_StringLatin1_88 : px_kS "java/lang/StringLatin1" 88 mJ1_canEncode_9a6ad 1 := ⟨px_mem3 110 (by decide +kernel) (by decide +kernel), px_mem3 111 (by decide +kernel) (by decide +kernel), px_mem1 6 (by decide +kernel) (by decide +kernel), cw_J1_canEncode_9a6ad, by decide, by decide, by decide, by decide +kernel⟩
set_option maxRecDepth 100000 in
theorem ks_StringLatin1_95 : px_kS "java/lang/StringLatin1" 95 mJ1_indexOfChar_4cfef 4 := ⟨px_mem3 117 (by decide +kernel) (by decide +kernel), px_mem3 118 (by decide +kernel) (by decide +kernel), px_mem1 6 (by decide +kernel) (by decide +kernel), cw_J1_indexOfChar_4cfef, by decide, by decide, by decide, by decide +kernel⟩
set_option maxRecDepth 100000 in
theorem ks_String_1059 : px_kS "java/lang/String" 1059 mJ3_checkIndex_8e157 3 := ⟨px_mem1 207 (by decide +kernel) (by decide +kernel), px_mem1 208 (by decide +kernel) (by decide +kernel), px_mem1 7 (by decide +kernel) (by decide +kernel), cw_J3_checkIndex_8e157, by decide, by decide, by decide, by decide +kernel⟩
set_option maxRecDepth 100000 in
theorem ks_StringLatin1_92 : px_kS "java/lang/StringLatin1" 92 mJ9_max_7cf53 2 := ⟨px_mem3 113 (by decide +kernel) (by decide +kernel), px_mem2 131 (by decide +kernel) (by decide +kernel), px_mem1 13 (by decide +kernel) (by decide +kernel), cw_J9_max_7cf53, by decide, by decide, by decide, by decide +kernel⟩
set_option maxRecDepth 100000 in
theorem ks_StringLatin1_38 : px_kS "java/lang/StringLatin1" 38 mJ9_min_7cf53 2 := ⟨px_mem3 114 (by decide +kernel) (by decide +kernel), px_mem3 115 (by decide +kernel) (by decide +kernel), px_mem1 13 (by decide +kernel) (by decide +kernel), cw_J9_min_7cf53, by decide, by decide, by decide, by decide +kernel⟩
set_option maxRecDepth 100000 in
theorem fs_9 : Cond.fieldLink "java/lang/String" 9 "java/lang/String" "value" "[B" ∈ px_tbl := px_mem8 45 (by decide +kernel) (by decide +kernel)
set_option maxRecDepth 100000 in
theorem fs_15 : Cond.fieldLink "java/lang/String" 15 "java/lang/String" "coder" "B" ∈ px_tbl := px_mem8 46 (by decide +kernel) (by decide +kernel)
set_option maxRecDepth 100000 in
theorem fs_38 : Cond.fieldLink "java/lang/String" 38 "java/lang/String" "COMPACT_STRINGS" "Z" ∈ px_tbl := px_mem1 189 (by decide +kernel) (by decide +kernel)
set_option maxRecDepth 100000 in
theorem fs_1053 : Cond.fieldLink "java/lang/String" 1053 "jdk/internal/util/Preconditions" "SIOOBE_FORMATTER" "Ljava/util/function/BiFunction;" ∈ px_tbl := px_mem1 205 (by decide +kernel) (by decide +kernel)
theorem cs_coder (d i : Nat) (hi : i < 2) : Con mJ0_coder_7d493 d [.ref (1001 + i)] [] (fun r _ => r = some (.int 0)) := by
  refine Con.ofF pf_coder (Nat.le_of_ble_eq_true rfl) ?_
  refine XG.stic eJ0_coder_7d493_0 fs_38 sE_compact ?_
  refine XG.br eJ0_coder_7d493_3 (P := (1 : Int32) = 0) (r := []) rfl (tgt := 13) (by decide) (fun h => absurd h (by decide)) (fun _ => ?_)
  refine XG.blk tJ0_coder_7d493_ok 0 1 (pc' := 7) rfl rfl rfl ?_
  refine XG.sget eJ0_coder_7d493_7 fs_15 (sE_coder hi) ?_
  refine XG.goto eJ0_coder_7d493_10 (tgt := 14) (by decide) ?_
  exact XS.iret eJ0_coder_7d493_14 rfl (by decide) rfl
theorem cs_isLatin1 (d i : Nat) (hi : i < 2) : Con mJ0_isLatin1_aae02 d [.ref (1001 + i)] [] (fun r _ => r = some (.int 1)) := by
  refine Con.ofF pf_isLatin1 (Nat.le_of_ble_eq_true rfl) ?_
  refine XG.stic eJ0_isLatin1_aae02_0 fs_38 sE_compact ?_
  refine XG.br eJ0_isLatin1_aae02_3 (P := (1 : Int32) = 0) (r := []) rfl (tgt := 17) (by decide) (fun h => absurd h (by decide)) (fun _ => ?_)
  refine XG.blk tJ0_isLatin1_aae02_ok 0 1 (pc' := 7) rfl rfl rfl ?_
  refine XG.sget eJ0_isLatin1_aae02_7 fs_15 (sE_coder hi) ?_
  refine XG.br eJ0_isLatin1_aae02_10 (P := ¬ (0 : Int32) = 0) (r := []) rfl (tgt := 17) (by decide) (fun h => absurd rfl h) (fun _ => ?_)
  refine XG.blk tJ0_isLatin1_aae02_ok 1 1 (pc' := 14) rfl rfl rfl ?_
  refine XG.goto eJ0_isLatin1_aae02_14 (tgt := 18) (by decide) ?_
  exact XS.iret eJ0_isLatin1_aae02_18 rfl (by decide) rfl
theorem slen_lt {i : Nat} (hi : i < 2) : px_slen.getD i 0 < 2000 := by
  rcases (show i = 0 ∨ i = 1 by omega) with rfl | rfl <;> decide +kernel
theorem cs_length (d i : Nat) (hi : i < 2) (hd : 1 ≤ d) : Con mJ0_length_8abf5 d [.ref (1001 + i)] [] (fun r _ => r = some (.int (nI (px_slen.getD i 0)))) := by
  have hl := slen_lt hi
  refine Con.ofF pf_length (Nat.le_of_ble_eq_true rfl) ?_
  refine XG.blk tJ0_length_8abf5_ok 0 1 (pc' := 1) rfl rfl rfl ?_
  refine XG.sget eJ0_length_8abf5_1 fs_9 (sE_value hi) ?_
  refine XG.slen hi eJ0_length_8abf5_4 ?_
  refine XG.blk tJ0_length_8abf5_ok 1 1 (pc' := 6) rfl rfl rfl ?_
  refine XG.callVs (r := some (.int 0)) hi eJ0_length_8abf5_6 ks_String_335 (cs_coder (d - 1) i hi) (px_fitS (by omega)) rfl rfl rfl rfl (Nat.le_of_ble_eq_true rfl) ?_
  refine XG.blk tJ0_length_8abf5_ok 2 1 (pc' := 10) (pl' := [some (.ref (1001 + i))]) (st' := [.int (nI (px_slen.getD i 0) >>> ((0 : Int32) &&& 31))]) (W1 := []) (bs := []) rfl rfl rfl ?_
  rw [show nI (px_slen.getD i 0) >>> ((0 : Int32) &&& 31) = nI (px_slen.getD i 0) from by rcases (show i = 0 ∨ i = 1 by omega) with rfl | rfl <;> decide +kernel]
  exact XS.iret eJ0_length_8abf5_10 rfl rfl rfl
theorem cs_canEnc (d n : Nat) (hn : n < 256) : Con mJ1_canEncode_9a6ad d [.int (nI n)] [] (fun r _ => r = some (.int 1)) := by
  refine Con.ofF pf_canEnc (Nat.le_of_ble_eq_true rfl) ?_
  refine XG.blk tJ1_canEncode_9a6ad_ok 0 1 (pc' := 1) rfl rfl rfl ?_
  refine XG.br eJ1_canEncode_9a6ad_1 (P := nI n < 0) (r := []) rfl (tgt := 15) (by decide) (fun h => absurd h (nI_nn (by omega))) (fun _ => ?_)
  refine XG.blk tJ1_canEncode_9a6ad_ok 1 2 (pc' := 8) (pl' := [some (.int (nI n))]) (st' := [.int (nI 255), .int (nI n)]) (W1 := []) (bs := []) rfl rfl rfl ?_
  refine XG.br eJ1_canEncode_9a6ad_8 (P := nI 255 < nI n) (r := []) rfl (tgt := 15) (by decide) (fun h => absurd ((nI_ltI (by omega) (by omega)).mp h) (by omega)) (fun _ => ?_)
  refine XG.blk tJ1_canEncode_9a6ad_ok 3 1 (pc' := 12) rfl rfl rfl ?_
  refine XG.goto eJ1_canEncode_9a6ad_12 (tgt := 16) (by decide) ?_
  exact XS.iret eJ1_canEncode_9a6ad_16 rfl (by decide) rfl
/-- the first place from k on that holds c -/
def sIx (c : Int32) : List Int32 → Nat → Int32
  | [], _ => -1
  | b :: l, k => if b = c then nI k else sIx c l (k + 1)
theorem cs_lixC (d i n : Nat) (hi : i < 2) : Con mJ1_indexOfChar_4cfef d [.ref (1003 + i), .int (nI n), .int (nI 0), .int (nI (px_slen.getD i 0))] [] (fun r _ => r = some (.int (sIx (nI n).toInt8.toInt32 (px_sbyt.getD i []) 0))) := by
  have hl := slen_lt hi
  have hlen : px_slen.getD i 0 = (px_sbyt.getD i []).length := by rcases (show i = 0 ∨ i = 1 by omega) with rfl | rfl <;> decide +kernel
  refine Con.ofF pf_lixC (Nat.le_of_ble_eq_true rfl) ?_
  refine XG.blk tJ1_indexOfChar_4cfef_ok 0 5 (pc' := 7) (pl' := [some (.ref (1003 + i)), some (.int (nI n)), some (.int (nI 0)), some (.int (nI (px_slen.getD i 0))), some (.int (nI n).toInt8.toInt32), some (.int (nI 0))]) (st' := []) (W1 := []) (bs := []) rfl rfl rfl ?_
  have key : ∀ (l : List Int32) (k : Nat), (px_sbyt.getD i []).drop k = l → k ≤ px_slen.getD i 0 → sIx (nI n).toInt8.toInt32 l k = sIx (nI n).toInt8.toInt32 (px_sbyt.getD i []) 0 → XG mJ1_indexOfChar_4cfef (px_gS d (fun r _ => r = some (.int (sIx (nI n).toInt8.toInt32 (px_sbyt.getD i []) 0)))) 0 0 7 [some (.ref (1003 + i)), some (.int (nI n)), some (.int (nI 0)), some (.int (nI (px_slen.getD i 0))), some (.int (nI n).toInt8.toInt32), some (.int (nI k))] [] [] := by
    intro l
    induction l with
    | nil =>
      intro k hk hk2 e
      have hk3 : px_slen.getD i 0 ≤ k := by rw [hlen]; exact List.drop_eq_nil_iff.mp hk
      refine XG.blk tJ1_indexOfChar_4cfef_ok 5 2 (pc' := 10) (pl' := [some (.ref (1003 + i)), some (.int (nI n)), some (.int (nI 0)), some (.int (nI (px_slen.getD i 0))), some (.int (nI n).toInt8.toInt32), some (.int (nI k))]) (st' := [.int (nI (px_slen.getD i 0)), .int (nI k)]) (W1 := []) (bs := []) rfl rfl rfl ?_
      refine XG.br eJ1_indexOfChar_4cfef_10 (P := nI (px_slen.getD i 0) ≤ nI k) (r := []) rfl (tgt := 31) (by decide) (fun _ => ?_) (fun h => absurd ((nI_leI (by omega) (by omega)).mpr hk3) h)
      refine XG.blk tJ1_indexOfChar_4cfef_ok 12 1 (pc' := 32) rfl rfl rfl ?_
      exact XS.iret eJ1_indexOfChar_4cfef_32 rfl rfl (congrArg (fun z => some (Value.int z)) e)
    | cons b l ih =>
      intro k hk hk2 e
      have hk3 : k < px_slen.getD i 0 := by
        rw [hlen]
        by_cases z : k < (px_sbyt.getD i []).length
        · exact z
        · rw [List.drop_eq_nil_iff.mpr (by omega)] at hk; cases hk
      have hb : (px_sbyt.getD i []).getD k 0 = b := by
        have h1 := congrArg (fun z => z[0]?) hk
        simp only [List.getElem?_drop, Nat.add_zero, List.getElem?_cons_zero] at h1
        rw [List.getD_eq_getElem?_getD, h1]; rfl
      have hdr : (px_sbyt.getD i []).drop (k + 1) = l := by rw [← List.drop_drop, hk]; rfl
      have e2 : sIx (nI n).toInt8.toInt32 (b :: l) k = if b = (nI n).toInt8.toInt32 then nI k else sIx (nI n).toInt8.toInt32 l (k + 1) := rfl
      refine XG.blk tJ1_indexOfChar_4cfef_ok 5 2 (pc' := 10) (pl' := [some (.ref (1003 + i)), some (.int (nI n)), some (.int (nI 0)), some (.int (nI (px_slen.getD i 0))), some (.int (nI n).toInt8.toInt32), some (.int (nI k))]) (st' := [.int (nI (px_slen.getD i 0)), .int (nI k)]) (W1 := []) (bs := []) rfl rfl rfl ?_
      refine XG.br eJ1_indexOfChar_4cfef_10 (P := nI (px_slen.getD i 0) ≤ nI k) (r := []) rfl (tgt := 31) (by decide) (fun h => absurd ((nI_leI (by omega) (by omega)).mp h) (by omega)) (fun _ => ?_)
      refine XG.blk tJ1_indexOfChar_4cfef_ok 7 2 (pc' := 16) (pl' := [some (.ref (1003 + i)), some (.int (nI n)), some (.int (nI 0)), some (.int (nI (px_slen.getD i 0))), some (.int (nI n).toInt8.toInt32), some (.int (nI k))]) (st' := [.int (nI k), .ref (1003 + i)]) (W1 := []) (bs := []) rfl rfl rfl ?_
      refine XG.sbald hi hk3 (by omega) (by omega) eJ1_indexOfChar_4cfef_16 ?_
      rw [hb]
      refine XG.blk tJ1_indexOfChar_4cfef_ok 9 1 (pc' := 19) (pl' := [some (.ref (1003 + i)), some (.int (nI n)), some (.int (nI 0)), some (.int (nI (px_slen.getD i 0))), some (.int (nI n).toInt8.toInt32), some (.int (nI k))]) (st' := [.int (nI n).toInt8.toInt32, .int b]) (W1 := []) (bs := []) rfl rfl rfl ?_
      refine XG.br eJ1_indexOfChar_4cfef_19 (P := ¬ b = (nI n).toInt8.toInt32) (r := []) rfl (tgt := 25) (by decide) (fun h => ?_) (fun h => ?_)
      · refine XG.blk tJ1_indexOfChar_4cfef_ok 11 1 (pc' := 28) (pl' := [some (.ref (1003 + i)), some (.int (nI n)), some (.int (nI 0)), some (.int (nI (px_slen.getD i 0))), some (.int (nI n).toInt8.toInt32), some (.int (nI k + nI 1))]) (st' := []) (W1 := []) (bs := []) rfl rfl rfl ?_
        refine XG.goto eJ1_indexOfChar_4cfef_28 (tgt := 7) (by decide) ?_
        rw [nI_add]
        exact ih (k + 1) hdr (by omega) (by rw [← e, e2, if_neg h])
      · refine XG.blk tJ1_indexOfChar_4cfef_ok 10 1 (pc' := 24) (pl' := [some (.ref (1003 + i)), some (.int (nI n)), some (.int (nI 0)), some (.int (nI (px_slen.getD i 0))), some (.int (nI n).toInt8.toInt32), some (.int (nI k))]) (st' := [.int (nI k)]) (W1 := []) (bs := []) rfl rfl rfl ?_
        exact XS.iret eJ1_indexOfChar_4cfef_24 rfl rfl (by rw [← e, e2, if_pos (Decidable.not_not.mp h)])
  exact key _ 0 rfl (Nat.zero_le _) rfl
theorem cs_lix (d i n : Nat) (hi : i < 2) (hn : n < 256) (hp : 0 < px_slen.getD i 0) (hd : 1 ≤ d) : Con mJ1_indexOf_4cfef d [.ref (1003 + i), .int (nI n), .int (nI 0), .int (nI (px_slen.getD i 0))] [] (fun r _ => r = some (.int (sIx (nI n).toInt8.toInt32 (px_sbyt.getD i []) 0))) := by
  have hl := slen_lt hi
  refine Con.ofF pf_lix (Nat.le_of_ble_eq_true rfl) ?_
  refine XG.blk tJ1_indexOf_4cfef_ok 0 1 (pc' := 1) rfl rfl rfl ?_
  refine XG.callSp (r := some (.int 1)) eJ1_indexOf_4cfef_1 ks_StringLatin1_88 (cs_canEnc (d - 1) n hn) (px_fitS (by omega)) rfl rfl rfl rfl (Nat.le_of_ble_eq_true rfl) ?_
  refine XG.br eJ1_indexOf_4cfef_4 (P := ¬ (1 : Int32) = 0) (r := []) rfl (tgt := 9) (by decide) (fun _ => ?_) (fun h => absurd (show ¬ (1 : Int32) = 0 by decide) h)
  refine XG.blk tJ1_indexOf_4cfef_ok 2 2 (pc' := 11) (pl' := [some (.ref (1003 + i)), some (.int (nI n)), some (.int (nI 0)), some (.int (nI (px_slen.getD i 0)))]) (st' := [.int (nI 0), .int (nI 0)]) (W1 := []) (bs := []) rfl rfl rfl ?_
  refine XG.callSp (r := some (.int (mxF (nI 0) (nI 0)))) eJ1_indexOf_4cfef_11 ks_StringLatin1_92 (con_max (d - 1) _ _) (px_fitS (by omega)) rfl rfl rfl rfl (Nat.le_of_ble_eq_true rfl) ?_
  rw [show mxF (nI 0) (nI 0) = nI 0 from by decide]
  refine XG.blk tJ1_indexOf_4cfef_ok 4 3 (pc' := 17) (pl' := [some (.ref (1003 + i)), some (.int (nI n)), some (.int (nI 0)), some (.int (nI (px_slen.getD i 0)))]) (st' := [.ref (1003 + i), .int (nI (px_slen.getD i 0))]) (W1 := []) (bs := []) rfl rfl rfl ?_
  refine XG.slen hi eJ1_indexOf_4cfef_17 ?_
  refine XG.callSp (r := some (.int (mnF (nI (px_slen.getD i 0)) (nI (px_slen.getD i 0))))) eJ1_indexOf_4cfef_18 ks_StringLatin1_38 (con_min (d - 1) _ _) (px_fitS (by omega)) rfl rfl rfl rfl (Nat.le_of_ble_eq_true rfl) ?_
  rw [show mnF (nI (px_slen.getD i 0)) (nI (px_slen.getD i 0)) = nI (px_slen.getD i 0) from if_neg Int32.lt_irrefl]
  refine XG.blk tJ1_indexOf_4cfef_ok 7 3 (pc' := 24) (pl' := [some (.ref (1003 + i)), some (.int (nI n)), some (.int (nI 0)), some (.int (nI (px_slen.getD i 0)))]) (st' := [.int (nI (px_slen.getD i 0)), .int (nI 0)]) (W1 := []) (bs := []) rfl rfl rfl ?_
  refine XG.br eJ1_indexOf_4cfef_24 (P := nI 0 < nI (px_slen.getD i 0)) (r := []) rfl (tgt := 29) (by decide) (fun _ => ?_) (fun h => absurd ((nI_ltI (by omega) (by omega)).mpr hp) h)
  refine XG.blk tJ1_indexOf_4cfef_ok 11 4 (pc' := 33) (pl' := [some (.ref (1003 + i)), some (.int (nI n)), some (.int (nI 0)), some (.int (nI (px_slen.getD i 0)))]) (st' := [.int (nI (px_slen.getD i 0)), .int (nI 0), .int (nI n), .ref (1003 + i)]) (W1 := []) (bs := []) rfl rfl rfl ?_
  refine XG.callSp (r := some (.int (sIx (nI n).toInt8.toInt32 (px_sbyt.getD i []) 0))) eJ1_indexOf_4cfef_33 ks_StringLatin1_95 (cs_lixC (d - 1) i n hi) (px_fitS (by omega)) rfl (by show [Value.ref (px_f [] (1003 + i)), _, _, _] = _; rw [px_f_up [] (by omega)]; rfl) rfl rfl (Nat.le_of_ble_eq_true rfl) ?_
  exact XS.iret eJ1_indexOf_4cfef_36 rfl rfl rfl
theorem cs_ix2 (d i n : Nat) (hi : i < 2) (hn : n < 256) (hp : 0 < px_slen.getD i 0) (hd : 2 ≤ d) : Con mJ0_indexOf_7cf53 d [.ref (1001 + i), .int (nI n), .int (nI 0)] [] (fun r _ => r = some (.int (sIx (nI n).toInt8.toInt32 (px_sbyt.getD i []) 0))) := by
  refine Con.ofF pf_ix2 (Nat.le_of_ble_eq_true rfl) ?_
  refine XG.blk tJ0_indexOf_7cf53_ok 0 1 (pc' := 1) rfl rfl rfl ?_
  refine XG.callVs (r := some (.int 1)) hi eJ0_indexOf_7cf53_1 ks_String_492 (cs_isLatin1 (d - 1) i hi) (px_fitS (by omega)) rfl rfl rfl rfl (Nat.le_of_ble_eq_true rfl) ?_
  refine XG.br eJ0_indexOf_7cf53_4 (P := (1 : Int32) = 0) (r := []) rfl (tgt := 23) (by decide) (fun h => absurd h (by decide)) (fun _ => ?_)
  refine XG.blk tJ0_indexOf_7cf53_ok 1 1 (pc' := 8) rfl rfl rfl ?_
  refine XG.sget eJ0_indexOf_7cf53_8 fs_9 (sE_value hi) ?_
  refine XG.blk tJ0_indexOf_7cf53_ok 2 3 (pc' := 14) (pl' := [some (.ref (1001 + i)), some (.int (nI n)), some (.int (nI 0))]) (st' := [.ref (1001 + i), .int (nI 0), .int (nI n), .ref (1003 + i)]) (W1 := []) (bs := []) rfl rfl rfl ?_
  refine XG.callVs (r := some (.int (nI (px_slen.getD i 0)))) hi eJ0_indexOf_7cf53_14 ks_String_505 (cs_length (d - 1) i hi (by omega)) (px_fitS (by omega)) rfl rfl rfl rfl (Nat.le_of_ble_eq_true rfl) ?_
  refine XG.callSp (r := some (.int (sIx (nI n).toInt8.toInt32 (px_sbyt.getD i []) 0))) eJ0_indexOf_7cf53_17 ks_String_637 (cs_lix (d - 1) i n hi hn hp (by omega)) (px_fitS (by omega)) rfl (by show [Value.ref (px_f [] (1003 + i)), _, _, _] = _; rw [px_f_up [] (by omega)]; rfl) rfl rfl (Nat.le_of_ble_eq_true rfl) ?_
  refine XG.goto eJ0_indexOf_7cf53_20 (tgt := 36) (by decide) ?_
  exact XS.iret eJ0_indexOf_7cf53_36 rfl rfl rfl
theorem cs_ix1 (d i n : Nat) (hi : i < 2) (hn : n < 256) (hp : 0 < px_slen.getD i 0) (hd : 3 ≤ d) : Con mJ0_indexOf_0f7a4 d [.ref (1001 + i), .int (nI n)] [] (fun r _ => r = some (.int (sIx (nI n).toInt8.toInt32 (px_sbyt.getD i []) 0))) := by
  refine Con.ofF pf_ix1 (Nat.le_of_ble_eq_true rfl) ?_
  refine XG.blk tJ0_indexOf_0f7a4_ok 0 3 (pc' := 3) (pl' := [some (.ref (1001 + i)), some (.int (nI n))]) (st' := [.int (nI 0), .int (nI n), .ref (1001 + i)]) (W1 := []) (bs := []) rfl rfl rfl ?_
  refine XG.callVs (r := some (.int (sIx (nI n).toInt8.toInt32 (px_sbyt.getD i []) 0))) hi eJ0_indexOf_0f7a4_3 ks_String_633 (cs_ix2 (d - 1) i n hi hn hp (by omega)) (px_fitS (by omega)) rfl rfl rfl rfl (Nat.le_of_ble_eq_true rfl) ?_
  exact XS.iret eJ0_indexOf_0f7a4_6 rfl rfl rfl
