/-! the reference: names -/
theorem mstS_inr {K : TKS} {k : Nat} {s s1 : PT} (h : mstS K k s = .inr s1) : K.1 s.1 = k ∧ s.1 ≠ 400 ∧ s1 = (s.1 + 1, s.2) := by
  unfold mstS mstN at h
  by_cases h1 : K.1 s.1 = k
  · rw [if_pos h1] at h
    unfold advN at h
    by_cases h2 : s.1 = 400
    · rw [if_pos h2] at h; cases h
    · rw [if_neg h2] at h; cases h; exact ⟨h1, h2, rfl⟩
  · rw [if_neg h1] at h; cases h
theorem bdm_inr {K : TKS} {k : Nat} {r : PE ⊕ PT} {s1 : PT} (h : bd r (mstS K k) = .inr s1) : ∃ s, r = .inr s ∧ K.1 s.1 = k ∧ s.1 ≠ 400 ∧ s1 = (s.1 + 1, s.2) := by
  cases r with
  | inl e => cases h
  | inr s => exact ⟨s, rfl, mstS_inr h⟩
def NmR (nl : NmL) (v : Nat → Int32) (a : Nat → Nat → Int32) (b : Nat → Nat → Int64) : Prop := v 20 = nI nl.length ∧ nl.length ≤ 11 ∧ ∀ i e, nl[i]? = some e → vNm e.1 ∧ b 21 i = lN (enc 27 e.1) ∧ a 22 i = (match e.2 with | some j => nI j | none => -1) ∧ ∀ j, e.2 = some j → j < 6
def nmW (nl : NmL) (x : List Nat) (w : Option PE) (p i : Nat) : Option PE := if hasNm (nl.take i) x = true then noteS w 3 p else w
theorem note2 (w : Option PE) (k p : Nat) : noteS (noteS w k p) k p = noteS w k p := by cases w <;> rfl
theorem hasNm_s {nl : NmL} {x : List Nat} {i : Nat} {e : List Nat × Option Nat} (h : nl[i]? = some e) : hasNm (nl.take (i + 1)) x = (hasNm (nl.take i) x || decide (e.1 = x)) := by
  unfold hasNm
  rw [List.take_add_one, h, List.any_append]
  simp
theorem nmW_s {nl : NmL} {x : List Nat} {w : Option PE} {p i : Nat} {e : List Nat × Option Nat} (h : nl[i]? = some e) : nmW nl x w p (i + 1) = if e.1 = x then noteS (nmW nl x w p i) 3 p else nmW nl x w p i := by
  unfold nmW
  rw [hasNm_s h]
  by_cases h1 : hasNm (nl.take i) x = true
  · rw [h1, if_pos rfl, if_pos (by simp), note2]; split <;> rfl
  · have h2 : hasNm (nl.take i) x = false := by simpa using h1
    rw [h2, Bool.false_or, if_neg (show ¬ (false = true) by decide)]
    by_cases h3 : e.1 = x
    · rw [if_pos h3, if_pos (by simpa using h3)]
    · rw [if_neg h3, if_neg (by simpa using h3)]
theorem nmW_le {nl : NmL} {x : List Nat} {w : Option PE} {p i : Nat} (h : ∀ y, w = some y → y.2 < p) : ∀ y, nmW nl x w p i = some y → y.2 < p ∨ (y.2 = p ∧ y.1 ≤ 3) := by
  intro y hy
  unfold nmW at hy
  split at hy
  · cases w with
    | none => cases hy; exact Or.inr ⟨rfl, Nat.le_refl 3⟩
    | some z => cases hy; exact Or.inl (h _ rfl)
  · exact Or.inl (h y hy)
theorem nmW_0 (nl : NmL) (x : List Nat) (w : Option PE) (p : Nat) : nmW nl x w p 0 = w := rfl
theorem nmW_n (nl : NmL) (x : List Nat) (w : Option PE) (p : Nat) : nmW nl x w p nl.length = if hasNm nl x = true then noteS w 3 p else w := by unfold nmW; rw [List.take_length]
theorem bd_nm {K : TKS} {k : Nat} {r : PE ⊕ PT} {e : PE} (f : PT → PT → PE ⊕ PT) (h : bd r (mstS K k) = .inl e) : bd r (fun s => bd (mstS K k s) (f s)) = .inl e := by
  cases r with
  | inl e' => exact h
  | inr s => have h : mstS K k s = .inl e := h; show bd (mstS K k s) _ = _; rw [h]; rfl
theorem wrg13 {v : Nat → Int32} {p k : Int32} : wrgV v p k 13 = v 13 := wrgV_chg 13 (by decide)
set_option maxHeartbeats 400000 in
theorem con_named (d : Nat) (v : Nat → Int32) (a : Nat → Nat → Int32) (b : Nat → Nat → Int64) (K : TKS) (hT : Tok K a b) (r : PE ⊕ PT) (h : PVr K r v) (nl : NmL) (hN : NmR nl v a b) (hd : 3 ≤ d) : Con mX9_named d [.ref 0] (mW v a b) (fun q W' => ∃ v', W' = mW v' a b ∧ chg [11, 13, 14, 15, 16] v v' ∧ PVr K (bd r (nameS K nl)) v' ∧ q = some (.int (v 11))) := by
  obtain ⟨t, ht, h11⟩ := h.t
  have hN2 := hN.2.1
  refine Con.of (by decide) (Nat.le_of_ble_eq_true rfl) ?_
  have q1 : (v 11) = (nI t) := h11
  refine XG.blk tX9_named_ok 0 5 (pc' := 7) (pl' := [some (.ref 0), some (.int (v 11)), none]) (st' := [(.int (nI 1)), (.ref 0)]) (W1 := (mW v a b)) (bs := []) rfl rfl rfl ?_
  simp only [q1]
  refine XG.callV0 eX9_named_7 kl_X9_277 (con_must (d - 1) v a b K hT r h 1 (by omega) (by omega) (by omega)) (px_fitS (by omega)) rfl rfl rfl (Nat.le_of_ble_eq_true rfl) (fun r9 W9 hp9 hl9 => ?_)
  obtain ⟨v1, rfl, hc1, hP1, rfl⟩ := hp9
  refine XG.blk tX9_named_ok 6 2 (pc' := 12) (pl' := [some (.ref 0), some (.int (nI t)), some (.int (nI 0))]) (st' := []) (W1 := (mW v1 a b)) (bs := []) rfl rfl rfl ?_
  have h20 : v1 20 = nI nl.length := (hc1 20 (by decide)).trans hN.1
  cases hr1 : bd r (mstS K 1) with
  | inl e =>
    rw [hr1] at hP1
    have hx13 : ¬ v1 13 = 0 := by rw [hP1.2.1]; exact nI_nz (by have := hP1.1; omega) (by have := hP1.1; omega)
    have q2 : (v1 20) = (nI nl.length) := h20
    refine XG.blk tX9_named_ok 8 3 (pc' := 17) (pl' := [some (.ref 0), some (.int (nI t)), some (.int (nI 0))]) (st' := [(.int (v1 20)), (.int (nI 0))]) (W1 := (mW v1 a b)) (bs := []) rfl rfl rfl ?_
    simp only [q2]
    refine XG.br eX9_named_17 (P := (nI nl.length) ≤ (nI 0)) (r := []) rfl (tgt := 55) (by decide) (fun h17 => ?_) (fun h17 => ?_)
    · skip
      have g17 : nl.length ≤ 0 := (nI_leI (a := nl.length) (b := 0) (by omega) (by omega)).mp h17
      refine XG.blk tX9_named_ok 31 1 (pc' := 56) (pl' := [some (.ref 0), some (.int (nI t)), some (.int (nI 0))]) (st' := [(.int (nI t))]) (W1 := (mW v1 a b)) (bs := []) rfl rfl rfl ?_
      refine XS.iret eX9_named_56 rfl rfl ?_
      exact ⟨v1, rfl, hc1.mono (by decide), by unfold nameS; rw [bd_nm _ hr1]; exact hP1, by first | rfl | rw [h11]⟩
    · skip
      have g17 : ¬ nl.length ≤ 0 := (fun z => h17 ((nI_leI (a := nl.length) (b := 0) (by omega) (by omega)).mpr z))
      refine XG.blk tX9_named_ok 12 2 (pc' := 24) (pl' := [some (.ref 0), some (.int (nI t)), some (.int (nI 0))]) (st' := [(.int (v1 13))]) (W1 := (mW v1 a b)) (bs := []) rfl rfl rfl ?_
      refine XG.br eX9_named_24 (P := ¬ (v1 13) = 0) (r := []) rfl (tgt := 55) (by decide) (fun h24 => ?_) (fun h24 => ?_)
      · skip
        refine XG.blk tX9_named_ok 31 1 (pc' := 56) (pl' := [some (.ref 0), some (.int (nI t)), some (.int (nI 0))]) (st' := [(.int (nI t))]) (W1 := (mW v1 a b)) (bs := []) rfl rfl rfl ?_
        refine XS.iret eX9_named_56 rfl rfl ?_
        exact ⟨v1, rfl, hc1.mono (by decide), by unfold nameS; rw [bd_nm _ hr1]; exact hP1, by first | rfl | rw [h11]⟩
      · exfalso
        have h24 := Decidable.not_not.mp h24
        first | exact absurd h24 hx13 | exact hx13 h24 | exact h24 (hPi.2.2.1)
  | inr s1 =>
    rw [hr1] at hP1
    obtain ⟨s, rfl, hk1, h400, rfl⟩ := bdm_inr hr1
    obtain rfl : s.1 = t := (nI_eq (by have := h.1; omega) (by omega)).mp (h.2.1.symm.trans h11)
    have hK := hT s.1 h.1 h.2.2.2.1
    have hKn := hT (s.1 + 1) hP1.1 hP1.2.2.2.1
    have hlt := hK.2.2.2.2.2.2.2 (by omega)
    refine px_for nl.length (fun i => ∀ (vi : Nat → Int32) (hci : chg [15, 16] v1 vi) (hPi : PVr K (.inr (s.1 + 1, (nmW nl (K.2.2.2 s.1) s.2 (K.2.1 s.1) i))) vi), XG mX9_named _ 0 0 12 [some (.ref 0), some (.int (nI s.1)), some (.int (nI i))] [] (mW vi a b)) ?_ ?_ 0 (Nat.zero_le _) v1 chg.rf hP1
    · intro vi hci hPi
      have h20i : vi 20 = nI nl.length := (hci 20 (by decide)).trans h20
      have q3 : (vi 20) = (nI nl.length) := h20i
      refine XG.blk tX9_named_ok 8 3 (pc' := 17) (pl' := [some (.ref 0), some (.int (nI s.1)), some (.int (nI nl.length))]) (st' := [(.int (vi 20)), (.int (nI nl.length))]) (W1 := (mW vi a b)) (bs := []) rfl rfl rfl ?_
      simp only [q3]
      refine XG.br eX9_named_17 (P := (nI nl.length) ≤ (nI nl.length)) (r := []) rfl (tgt := 55) (by decide) (fun h17 => ?_) (fun h17 => ?_)
      · skip
        have g17 : nl.length ≤ nl.length := (nI_leI (a := nl.length) (b := nl.length) (by omega) (by omega)).mp h17
        refine XG.blk tX9_named_ok 31 1 (pc' := 56) (pl' := [some (.ref 0), some (.int (nI s.1)), some (.int (nI nl.length))]) (st' := [(.int (nI s.1))]) (W1 := (mW vi a b)) (bs := []) rfl rfl rfl ?_
        refine XS.iret eX9_named_56 rfl rfl ?_
        refine ⟨vi, rfl, (hc1.mono (by decide)).tr (hci.mono (by decide)), ?_, by first | rfl | rw [h11]⟩
        show PVr K (bd (mstS K 1 s) _) vi
        rw [show mstS K 1 s = .inr (s.1 + 1, s.2) from hr1]
        rw [nmW_n] at hPi
        exact hPi
      · exfalso
        have g17 : ¬ nl.length ≤ nl.length := (fun z => h17 ((nI_leI (a := nl.length) (b := nl.length) (by omega) (by omega)).mpr z))
        omega
    · intro i hi ihi vi hci hPi
      have h20i : vi 20 = nI nl.length := (hci 20 (by decide)).trans h20
      obtain ⟨e, he⟩ : ∃ e, nl[i]? = some e := ⟨nl[i], List.getElem?_eq_getElem hi⟩
      have hE := hN.2.2 i e he
      have h8 := hK.2.2.2.1 hk1
      have q4 : (vi 20) = (nI nl.length) := h20i
      refine XG.blk tX9_named_ok 8 3 (pc' := 17) (pl' := [some (.ref 0), some (.int (nI s.1)), some (.int (nI i))]) (st' := [(.int (vi 20)), (.int (nI i))]) (W1 := (mW vi a b)) (bs := []) rfl rfl rfl ?_
      simp only [q4]
      refine XG.br eX9_named_17 (P := (nI nl.length) ≤ (nI i)) (r := []) rfl (tgt := 55) (by decide) (fun h17 => ?_) (fun h17 => ?_)
      · exfalso
        have g17 : nl.length ≤ i := (nI_leI (a := nl.length) (b := i) (by omega) (by omega)).mp h17
        omega
      · skip
        have g17 : ¬ nl.length ≤ i := (fun z => h17 ((nI_leI (a := nl.length) (b := i) (by omega) (by omega)).mpr z))
        refine XG.blk tX9_named_ok 12 2 (pc' := 24) (pl' := [some (.ref 0), some (.int (nI s.1)), some (.int (nI i))]) (st' := [(.int (vi 13))]) (W1 := (mW vi a b)) (bs := []) rfl rfl rfl ?_
        refine XG.br eX9_named_24 (P := ¬ (vi 13) = 0) (r := []) rfl (tgt := 55) (by decide) (fun h24 => ?_) (fun h24 => ?_)
        · exfalso
          first | exact absurd h24 hx13 | exact hx13 h24 | exact h24 (hPi.2.2.1)
        · skip
          have h24 := Decidable.not_not.mp h24
          have q5 : (nI i).toNatClampNeg = i := nI_clamp (by omega)
          have q6 : (nI s.1).toNatClampNeg = s.1 := nI_clamp (by omega)
          refine XG.blk tX9_named_ok 15 9 (pc' := 40) (pl' := [some (.ref 0), some (.int (nI s.1)), some (.int (nI i))]) (st' := [(.int (lg_cmp ((b 21) (nI i).toNatClampNeg) ((b 8) (nI s.1).toNatClampNeg)))]) (W1 := (mW vi a b)) (bs := [px_vb (nI i) 11, px_vb (nI s.1) 403]) rfl rfl (by (try simp only [q5, q6]); exact (px_all (px_vbN (by omega) (by decide)) (px_all (px_vbN (by omega) (by decide)) rfl))) ?_
          simp only [q5, q6]
          refine XG.br eX9_named_40 (P := ¬ (lg_cmp ((b 21) i) ((b 8) s.1)) = 0) (r := []) rfl (tgt := 49) (by decide) (fun h40 => ?_) (fun h40 => ?_)
          · skip
            have q7 : ((nI i) + (nI 1)) = (nI (i + 1)) := px_eadd rfl rfl
            refine XG.blk tX9_named_ok 29 1 (pc' := 52) (pl' := [some (.ref 0), some (.int (nI s.1)), some (.int ((nI i) + (nI 1)))]) (st' := []) (W1 := (mW vi a b)) (bs := []) rfl rfl rfl ?_
            simp only [q7]
            refine XG.goto eX9_named_52 (tgt := 12) (by decide) ?_
            refine ihi vi hci ?_
            rw [nmW_s he, if_neg (fun z => h40 (cmp_eq.mpr (by rw [hE.2.1, h8.1, z])))]
            exact hPi
          · skip
            have h40 := Decidable.not_not.mp h40
            refine XG.blk tX9_named_ok 25 3 (pc' := 46) (pl' := [some (.ref 0), some (.int (nI s.1)), some (.int (nI i))]) (st' := [(.int (nI s.1)), (.int (nI 3)), (.ref 0)]) (W1 := (mW vi a b)) (bs := []) rfl rfl rfl ?_
            refine XG.callV0 eX9_named_46 kl_X9_263 (con_wrong (d - 1) vi a b s.1 (by omega) (nI 3)) (px_fitS (by omega)) rfl rfl rfl (Nat.le_of_ble_eq_true rfl) (fun r9 W9 hp9 hl9 => ?_)
            obtain ⟨rfl, rfl⟩ := hp9
            have q8 : ((nI i) + (nI 1)) = (nI (i + 1)) := px_eadd rfl rfl
            refine XG.blk tX9_named_ok 29 1 (pc' := 52) (pl' := [some (.ref 0), some (.int (nI s.1)), some (.int ((nI i) + (nI 1)))]) (st' := []) (W1 := (mW (wrgV vi (a 6 s.1) (nI 3)) a b)) (bs := []) rfl rfl rfl ?_
            simp only [q8]
            refine XG.goto eX9_named_52 (tgt := 12) (by decide) ?_
            refine ihi _ (hci.tr wrgV_chg) ?_
            have hq : e.1 = K.2.2.2 s.1 := (hE.1.eq h8.2).mp (by rw [← hE.2.1, ← h8.1]; exact cmp_eq.mp h40)
            rw [nmW_s he, if_pos hq, hK.2.1]
            exact hPi.note hlt hKn.2.2.2.2.2.1 (by decide) (nmW_le (fun y hy => PVr.w (t := s.1) (w := s.2) h y hy))
