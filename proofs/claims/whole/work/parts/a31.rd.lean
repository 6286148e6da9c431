/-! THE CLASS: the tape is cut -/
def dW (rv : Nat → Int32) (ra : Nat → Nat → Int32) (rb : Nat → Nat → Int64) (rt : Value) (X : px_W) : px_W := .inr (3, [.int (rv 0), .int (rv 1), .ref 1, .ref 2, .ref 3, .ref 4, .ref 5, .int (rv 7), .int (rv 8), .int (rv 9), .int (rv 10), .int (rv 11), rt]) :: .inl (.byte, 2000, .inl (ra 2)) :: .inl (.long, 22, .inr (.inl (rb 3))) :: .inl (.int, 402, .inl (ra 4)) :: .inl (.int, 402, .inl (ra 5)) :: .inl (.long, 402, .inr (.inl (rb 6))) :: X
/-- a byte, as it lies on the tape -/
def byI (b : Nat) : Int32 := if b < 128 then nI b else nI b - nI 256
theorem by_ltr {b : Nat} (h : b < 256) : (¬ byI b < nI 97 ∧ ¬ nI 122 < byI b) ↔ ltr b := (show ∀ b : Fin 256, (¬ byI b.val < nI 97 ∧ ¬ nI 122 < byI b.val) ↔ (97 ≤ b.val ∧ b.val ≤ 122) by decide +kernel) ⟨b, h⟩
theorem by_dgt {b : Nat} (h : b < 256) : (¬ byI b < nI 48 ∧ ¬ nI 57 < byI b) ↔ dgt b := (show ∀ b : Fin 256, (¬ byI b.val < nI 48 ∧ ¬ nI 57 < byI b.val) ↔ (48 ≤ b.val ∧ b.val ≤ 57) by decide +kernel) ⟨b, h⟩
theorem by_eq {b c : Nat} (h : b < 256) (hc : c < 128) : byI b = nI c ↔ b = c := (show ∀ b : Fin 256, ∀ c : Fin 128, byI b.val = nI c.val ↔ b.val = c.val by decide +kernel) ⟨b, h⟩ ⟨c, hc⟩
def tpR (B : Nat → Nat) (n : Nat) (f : Nat → Int32) : Prop := ∀ j, j < n → f j = byI (B j) ∧ B j < 256
theorem skp_yes {B : Nat → Nat} {n i : Nat} (hi : i < n) (h : blk (B i)) : skp B n i = skp B n (i + 1) := runE_mid (p := skpP B n) (n := n) (fun _ h => (of_decide_eq_true h).1) (decide_eq_true ⟨hi, h⟩)
theorem skp_no {B : Nat → Nat} {n i : Nat} (h : ¬ (i < n ∧ blk (B i))) : skp B n i = i := runE_no (fun z => h (of_decide_eq_true z))
theorem wEnd_yes {B : Nat → Nat} {n i : Nat} (hi : i < n) (h : ltr (B i)) : wEnd B n i = wEnd B n (i + 1) := runE_mid (p := wEndP B n) (n := n) (fun _ h => (of_decide_eq_true h).1) (decide_eq_true ⟨hi, h⟩)
theorem wEnd_no {B : Nat → Nat} {n i : Nat} (h : ¬ (i < n ∧ ltr (B i))) : wEnd B n i = i := runE_no (fun z => h (of_decide_eq_true z))
theorem dEnd_yes {B : Nat → Nat} {n i : Nat} (hi : i < n) (h : dgt (B i)) : dEnd B n i = dEnd B n (i + 1) := runE_mid (p := dEndP B n) (n := n) (fun _ h => (of_decide_eq_true h).1) (decide_eq_true ⟨hi, h⟩)
theorem dEnd_no {B : Nat → Nat} {n i : Nat} (h : ¬ (i < n ∧ dgt (B i))) : dEnd B n i = i := runE_no (fun z => h (of_decide_eq_true z))
set_option maxHeartbeats 1000000 in
theorem cc_isLetter (d : Nat) (rv : Nat → Int32) (ra : Nat → Nat → Int32) (rb : Nat → Nat → Int64) (rt : Value) (X : px_W) (B : Nat → Nat) (n : Nat) (hn : n ≤ 2000) (h0 : rv 0 = nI n) (hB : tpR B n (ra 2)) (i : Nat) (hi : i ≤ 2000) : Con mX3_isLetter d [.ref 0, .int (nI i)] (dW rv ra rb rt X) (fun r W' => W' = dW rv ra rb rt X ∧ r = some (.int (if i < n ∧ ltr (B i) then 1 else 0))) := by
  refine Con.of (by decide) (Nat.le_of_ble_eq_true rfl) ?_
  have q1 : (rv 0) = (nI n) := h0
  refine XG.blk tX3_isLetter_ok 0 3 (pc' := 5) (pl' := [some (.ref 0), some (.int (nI i))]) (st' := [(.int (rv 0)), (.int (nI i))]) (W1 := (dW rv ra rb rt X)) (bs := []) rfl rfl rfl ?_
  simp only [q1]
  refine XG.br eX3_isLetter_5 (P := (nI n) ≤ (nI i)) (r := []) rfl (tgt := 34) (by decide) (fun h5 => ?_) (fun h5 => ?_)
  · skip
    have g5 : n ≤ i := (nI_leI (a := n) (b := i) (by omega) (by omega)).mp h5
    refine XG.blk tX3_isLetter_ok 18 1 (pc' := 35) (pl' := [some (.ref 0), some (.int (nI i))]) (st' := [(.int (nI 0))]) (W1 := (dW rv ra rb rt X)) (bs := []) rfl rfl rfl ?_
    refine XS.iret eX3_isLetter_35 rfl (by decide) ?_
    refine ⟨rfl, ?_⟩
    rw [if_neg (fun z => by omega)]; rfl
  · skip
    have g5 : ¬ n ≤ i := (fun z => h5 ((nI_leI (a := n) (b := i) (by omega) (by omega)).mpr z))
    have q2 : (nI i).toNatClampNeg = i := nI_clamp (by omega)
    have q3 : ((ra 2) i) = (byI (B i)) := (hB i (by omega)).1
    refine XG.blk tX3_isLetter_ok 4 5 (pc' := 16) (pl' := [some (.ref 0), some (.int (nI i))]) (st' := [(.int (nI 97)), (.int ((ra 2) (nI i).toNatClampNeg))]) (W1 := (dW rv ra rb rt X)) (bs := [px_vb (nI i) 2000]) rfl rfl (by (try simp only [q2, q3]); exact (px_all (px_vbN (by omega) (by decide)) rfl)) ?_
    simp only [q2, q3]
    refine XG.br eX3_isLetter_16 (P := (byI (B i)) < (nI 97)) (r := []) rfl (tgt := 34) (by decide) (fun h16 => ?_) (fun h16 => ?_)
    · skip
      refine XG.blk tX3_isLetter_ok 18 1 (pc' := 35) (pl' := [some (.ref 0), some (.int (nI i))]) (st' := [(.int (nI 0))]) (W1 := (dW rv ra rb rt X)) (bs := []) rfl rfl rfl ?_
      refine XS.iret eX3_isLetter_35 rfl (by decide) ?_
      refine ⟨rfl, ?_⟩
      rw [if_neg (fun z => ((by_ltr (hB i (by omega)).2).mpr z.2).1 h16)]; rfl
    · skip
      have q4 : (nI i).toNatClampNeg = i := nI_clamp (by omega)
      have q5 : ((ra 2) i) = (byI (B i)) := (hB i (by omega)).1
      refine XG.blk tX3_isLetter_ok 10 5 (pc' := 27) (pl' := [some (.ref 0), some (.int (nI i))]) (st' := [(.int (nI 122)), (.int ((ra 2) (nI i).toNatClampNeg))]) (W1 := (dW rv ra rb rt X)) (bs := [px_vb (nI i) 2000]) rfl rfl (by (try simp only [q4, q5]); exact (px_all (px_vbN (by omega) (by decide)) rfl)) ?_
      simp only [q4, q5]
      refine XG.br eX3_isLetter_27 (P := (nI 122) < (byI (B i))) (r := []) rfl (tgt := 34) (by decide) (fun h27 => ?_) (fun h27 => ?_)
      · skip
        refine XG.blk tX3_isLetter_ok 18 1 (pc' := 35) (pl' := [some (.ref 0), some (.int (nI i))]) (st' := [(.int (nI 0))]) (W1 := (dW rv ra rb rt X)) (bs := []) rfl rfl rfl ?_
        refine XS.iret eX3_isLetter_35 rfl (by decide) ?_
        refine ⟨rfl, ?_⟩
        rw [if_neg (fun z => ((by_ltr (hB i (by omega)).2).mpr z.2).2 h27)]; rfl
      · skip
        refine XG.blk tX3_isLetter_ok 16 1 (pc' := 31) (pl' := [some (.ref 0), some (.int (nI i))]) (st' := [(.int (nI 1))]) (W1 := (dW rv ra rb rt X)) (bs := []) rfl rfl rfl ?_
        refine XG.goto eX3_isLetter_31 (tgt := 35) (by decide) ?_
        refine XS.iret eX3_isLetter_35 rfl (by decide) ?_
        refine ⟨rfl, ?_⟩
        rw [if_pos ⟨by omega, (by_ltr (hB i (by omega)).2).mp ⟨h16, h27⟩⟩]; rfl
set_option maxHeartbeats 1000000 in
theorem cc_isDigit (d : Nat) (rv : Nat → Int32) (ra : Nat → Nat → Int32) (rb : Nat → Nat → Int64) (rt : Value) (X : px_W) (B : Nat → Nat) (n : Nat) (hn : n ≤ 2000) (h0 : rv 0 = nI n) (hB : tpR B n (ra 2)) (i : Nat) (hi : i ≤ 2000) : Con mX3_isDigit d [.ref 0, .int (nI i)] (dW rv ra rb rt X) (fun r W' => W' = dW rv ra rb rt X ∧ r = some (.int (if i < n ∧ dgt (B i) then 1 else 0))) := by
  refine Con.of (by decide) (Nat.le_of_ble_eq_true rfl) ?_
  have q1 : (rv 0) = (nI n) := h0
  refine XG.blk tX3_isDigit_ok 0 3 (pc' := 5) (pl' := [some (.ref 0), some (.int (nI i))]) (st' := [(.int (rv 0)), (.int (nI i))]) (W1 := (dW rv ra rb rt X)) (bs := []) rfl rfl rfl ?_
  simp only [q1]
  refine XG.br eX3_isDigit_5 (P := (nI n) ≤ (nI i)) (r := []) rfl (tgt := 34) (by decide) (fun h5 => ?_) (fun h5 => ?_)
  · skip
    have g5 : n ≤ i := (nI_leI (a := n) (b := i) (by omega) (by omega)).mp h5
    refine XG.blk tX3_isDigit_ok 18 1 (pc' := 35) (pl' := [some (.ref 0), some (.int (nI i))]) (st' := [(.int (nI 0))]) (W1 := (dW rv ra rb rt X)) (bs := []) rfl rfl rfl ?_
    refine XS.iret eX3_isDigit_35 rfl (by decide) ?_
    refine ⟨rfl, ?_⟩
    rw [if_neg (fun z => by omega)]; rfl
  · skip
    have g5 : ¬ n ≤ i := (fun z => h5 ((nI_leI (a := n) (b := i) (by omega) (by omega)).mpr z))
    have q2 : (nI i).toNatClampNeg = i := nI_clamp (by omega)
    have q3 : ((ra 2) i) = (byI (B i)) := (hB i (by omega)).1
    refine XG.blk tX3_isDigit_ok 4 5 (pc' := 16) (pl' := [some (.ref 0), some (.int (nI i))]) (st' := [(.int (nI 48)), (.int ((ra 2) (nI i).toNatClampNeg))]) (W1 := (dW rv ra rb rt X)) (bs := [px_vb (nI i) 2000]) rfl rfl (by (try simp only [q2, q3]); exact (px_all (px_vbN (by omega) (by decide)) rfl)) ?_
    simp only [q2, q3]
    refine XG.br eX3_isDigit_16 (P := (byI (B i)) < (nI 48)) (r := []) rfl (tgt := 34) (by decide) (fun h16 => ?_) (fun h16 => ?_)
    · skip
      refine XG.blk tX3_isDigit_ok 18 1 (pc' := 35) (pl' := [some (.ref 0), some (.int (nI i))]) (st' := [(.int (nI 0))]) (W1 := (dW rv ra rb rt X)) (bs := []) rfl rfl rfl ?_
      refine XS.iret eX3_isDigit_35 rfl (by decide) ?_
      refine ⟨rfl, ?_⟩
      rw [if_neg (fun z => ((by_dgt (hB i (by omega)).2).mpr z.2).1 h16)]; rfl
    · skip
      have q4 : (nI i).toNatClampNeg = i := nI_clamp (by omega)
      have q5 : ((ra 2) i) = (byI (B i)) := (hB i (by omega)).1
      refine XG.blk tX3_isDigit_ok 10 5 (pc' := 27) (pl' := [some (.ref 0), some (.int (nI i))]) (st' := [(.int (nI 57)), (.int ((ra 2) (nI i).toNatClampNeg))]) (W1 := (dW rv ra rb rt X)) (bs := [px_vb (nI i) 2000]) rfl rfl (by (try simp only [q4, q5]); exact (px_all (px_vbN (by omega) (by decide)) rfl)) ?_
      simp only [q4, q5]
      refine XG.br eX3_isDigit_27 (P := (nI 57) < (byI (B i))) (r := []) rfl (tgt := 34) (by decide) (fun h27 => ?_) (fun h27 => ?_)
      · skip
        refine XG.blk tX3_isDigit_ok 18 1 (pc' := 35) (pl' := [some (.ref 0), some (.int (nI i))]) (st' := [(.int (nI 0))]) (W1 := (dW rv ra rb rt X)) (bs := []) rfl rfl rfl ?_
        refine XS.iret eX3_isDigit_35 rfl (by decide) ?_
        refine ⟨rfl, ?_⟩
        rw [if_neg (fun z => ((by_dgt (hB i (by omega)).2).mpr z.2).2 h27)]; rfl
      · skip
        refine XG.blk tX3_isDigit_ok 16 1 (pc' := 31) (pl' := [some (.ref 0), some (.int (nI i))]) (st' := [(.int (nI 1))]) (W1 := (dW rv ra rb rt X)) (bs := []) rfl rfl rfl ?_
        refine XG.goto eX3_isDigit_31 (tgt := 35) (by decide) ?_
        refine XS.iret eX3_isDigit_35 rfl (by decide) ?_
        refine ⟨rfl, ?_⟩
        rw [if_pos ⟨by omega, (by_dgt (hB i (by omega)).2).mp ⟨h16, h27⟩⟩]; rfl
set_option maxHeartbeats 1000000 in
theorem cc_behindBlanks (d : Nat) (rv : Nat → Int32) (ra : Nat → Nat → Int32) (rb : Nat → Nat → Int64) (rt : Value) (X : px_W) (B : Nat → Nat) (n : Nat) (hn : n ≤ 2000) (h0 : rv 0 = nI n) (hB : tpR B n (ra 2)) (i : Nat) (hi : i ≤ n) : Con mX3_behindBlanks d [.ref 0, .int (nI i)] (dW rv ra rb rt X) (fun r W' => W' = dW rv ra rb rt X ∧ r = some (.int (nI (skp B n i)))) := by
  refine Con.of (by decide) (Nat.le_of_ble_eq_true rfl) ?_
  refine XG.blk tX3_behindBlanks_ok 0 2 (pc' := 2) (pl' := [some (.ref 0), some (.int (nI i)), some (.int (nI i))]) (st' := []) (W1 := (dW rv ra rb rt X)) (bs := []) rfl rfl rfl ?_
  refine px_for (n - i) (fun k => ∀ (he : skp B n (i + k) = skp B n i), XG mX3_behindBlanks _ 0 0 2 [some (.ref 0), some (.int (nI i)), some (.int (nI (i + k)))] [] (dW rv ra rb rt X)) ?_ ?_ 0 (Nat.zero_le _) rfl
  · intro he
    have q1 : (rv 0) = (nI n) := h0
    refine XG.blk tX3_behindBlanks_ok 2 3 (pc' := 7) (pl' := [some (.ref 0), some (.int (nI i)), some (.int (nI (i + (n - i))))]) (st' := [(.int (rv 0)), (.int (nI (i + (n - i))))]) (W1 := (dW rv ra rb rt X)) (bs := []) rfl rfl rfl ?_
    simp only [q1]
    refine XG.br eX3_behindBlanks_7 (P := (nI n) ≤ (nI (i + (n - i)))) (r := []) rfl (tgt := 60) (by decide) (fun h7 => ?_) (fun h7 => ?_)
    · skip
      have g7 : n ≤ (i + (n - i)) := (nI_leI (a := n) (b := (i + (n - i))) (by omega) (by omega)).mp h7
      refine XG.blk tX3_behindBlanks_ok 32 1 (pc' := 61) (pl' := [some (.ref 0), some (.int (nI i)), some (.int (nI (i + (n - i))))]) (st' := [(.int (nI (i + (n - i))))]) (W1 := (dW rv ra rb rt X)) (bs := []) rfl rfl rfl ?_
      refine XS.iret eX3_behindBlanks_61 rfl rfl ?_
      refine ⟨rfl, ?_⟩
      rw [← he, skp_no (by omega)]
    · exfalso
      have g7 : ¬ n ≤ (i + (n - i)) := (fun z => h7 ((nI_leI (a := n) (b := (i + (n - i))) (by omega) (by omega)).mpr z))
      omega
  · intro k hk ihk he
    have q2 : (rv 0) = (nI n) := h0
    refine XG.blk tX3_behindBlanks_ok 2 3 (pc' := 7) (pl' := [some (.ref 0), some (.int (nI i)), some (.int (nI (i + k)))]) (st' := [(.int (rv 0)), (.int (nI (i + k)))]) (W1 := (dW rv ra rb rt X)) (bs := []) rfl rfl rfl ?_
    simp only [q2]
    refine XG.br eX3_behindBlanks_7 (P := (nI n) ≤ (nI (i + k))) (r := []) rfl (tgt := 60) (by decide) (fun h7 => ?_) (fun h7 => ?_)
    · exfalso
      have g7 : n ≤ (i + k) := (nI_leI (a := n) (b := (i + k)) (by omega) (by omega)).mp h7
      omega
    · skip
      have g7 : ¬ n ≤ (i + k) := (fun z => h7 ((nI_leI (a := n) (b := (i + k)) (by omega) (by omega)).mpr z))
      have q3 : (nI (i + k)).toNatClampNeg = (i + k) := nI_clamp (by omega)
      have q4 : ((ra 2) (i + k)) = (byI (B (i + k))) := (hB (i + k) (by omega)).1
      refine XG.blk tX3_behindBlanks_ok 6 5 (pc' := 18) (pl' := [some (.ref 0), some (.int (nI i)), some (.int (nI (i + k)))]) (st' := [(.int (nI 32)), (.int ((ra 2) (nI (i + k)).toNatClampNeg))]) (W1 := (dW rv ra rb rt X)) (bs := [px_vb (nI (i + k)) 2000]) rfl rfl (by (try simp only [q3, q4]); exact (px_all (px_vbN (by omega) (by decide)) rfl)) ?_
      simp only [q3, q4]
      refine XG.br eX3_behindBlanks_18 (P := (byI (B (i + k))) = (nI 32)) (r := []) rfl (tgt := 54) (by decide) (fun h18 => ?_) (fun h18 => ?_)
      · skip
        have q5 : ((nI (i + k)) + (nI 1)) = (nI ((i + k) + 1)) := px_eadd rfl rfl
        refine XG.blk tX3_behindBlanks_ok 30 1 (pc' := 57) (pl' := [some (.ref 0), some (.int (nI i)), some (.int ((nI (i + k)) + (nI 1)))]) (st' := []) (W1 := (dW rv ra rb rt X)) (bs := []) rfl rfl rfl ?_
        simp only [q5]
        refine XG.goto eX3_behindBlanks_57 (tgt := 2) (by decide) ?_
        have hb : blk (B (i + k)) := by have := (by_eq (hB (i + k) (by omega)).2 (by decide)).mp h18; unfold blk; omega
        exact ihk (by rw [← he, skp_yes (by omega) hb, Nat.add_assoc])
      · skip
        have q6 : (nI (i + k)).toNatClampNeg = (i + k) := nI_clamp (by omega)
        have q7 : ((ra 2) (i + k)) = (byI (B (i + k))) := (hB (i + k) (by omega)).1
        refine XG.blk tX3_behindBlanks_ok 12 5 (pc' := 29) (pl' := [some (.ref 0), some (.int (nI i)), some (.int (nI (i + k)))]) (st' := [(.int (nI 9)), (.int ((ra 2) (nI (i + k)).toNatClampNeg))]) (W1 := (dW rv ra rb rt X)) (bs := [px_vb (nI (i + k)) 2000]) rfl rfl (by (try simp only [q6, q7]); exact (px_all (px_vbN (by omega) (by decide)) rfl)) ?_
        simp only [q6, q7]
        refine XG.br eX3_behindBlanks_29 (P := (byI (B (i + k))) = (nI 9)) (r := []) rfl (tgt := 54) (by decide) (fun h29 => ?_) (fun h29 => ?_)
        · skip
          have q8 : ((nI (i + k)) + (nI 1)) = (nI ((i + k) + 1)) := px_eadd rfl rfl
          refine XG.blk tX3_behindBlanks_ok 30 1 (pc' := 57) (pl' := [some (.ref 0), some (.int (nI i)), some (.int ((nI (i + k)) + (nI 1)))]) (st' := []) (W1 := (dW rv ra rb rt X)) (bs := []) rfl rfl rfl ?_
          simp only [q8]
          refine XG.goto eX3_behindBlanks_57 (tgt := 2) (by decide) ?_
          have hb : blk (B (i + k)) := by have := (by_eq (hB (i + k) (by omega)).2 (by decide)).mp h29; unfold blk; omega
          exact ihk (by rw [← he, skp_yes (by omega) hb, Nat.add_assoc])
        · skip
          have q9 : (nI (i + k)).toNatClampNeg = (i + k) := nI_clamp (by omega)
          have q10 : ((ra 2) (i + k)) = (byI (B (i + k))) := (hB (i + k) (by omega)).1
          refine XG.blk tX3_behindBlanks_ok 18 5 (pc' := 40) (pl' := [some (.ref 0), some (.int (nI i)), some (.int (nI (i + k)))]) (st' := [(.int (nI 10)), (.int ((ra 2) (nI (i + k)).toNatClampNeg))]) (W1 := (dW rv ra rb rt X)) (bs := [px_vb (nI (i + k)) 2000]) rfl rfl (by (try simp only [q9, q10]); exact (px_all (px_vbN (by omega) (by decide)) rfl)) ?_
          simp only [q9, q10]
          refine XG.br eX3_behindBlanks_40 (P := (byI (B (i + k))) = (nI 10)) (r := []) rfl (tgt := 54) (by decide) (fun h40 => ?_) (fun h40 => ?_)
          · skip
            have q11 : ((nI (i + k)) + (nI 1)) = (nI ((i + k) + 1)) := px_eadd rfl rfl
            refine XG.blk tX3_behindBlanks_ok 30 1 (pc' := 57) (pl' := [some (.ref 0), some (.int (nI i)), some (.int ((nI (i + k)) + (nI 1)))]) (st' := []) (W1 := (dW rv ra rb rt X)) (bs := []) rfl rfl rfl ?_
            simp only [q11]
            refine XG.goto eX3_behindBlanks_57 (tgt := 2) (by decide) ?_
            have hb : blk (B (i + k)) := by have := (by_eq (hB (i + k) (by omega)).2 (by decide)).mp h40; unfold blk; omega
            exact ihk (by rw [← he, skp_yes (by omega) hb, Nat.add_assoc])
          · skip
            have q12 : (nI (i + k)).toNatClampNeg = (i + k) := nI_clamp (by omega)
            have q13 : ((ra 2) (i + k)) = (byI (B (i + k))) := (hB (i + k) (by omega)).1
            refine XG.blk tX3_behindBlanks_ok 24 5 (pc' := 51) (pl' := [some (.ref 0), some (.int (nI i)), some (.int (nI (i + k)))]) (st' := [(.int (nI 13)), (.int ((ra 2) (nI (i + k)).toNatClampNeg))]) (W1 := (dW rv ra rb rt X)) (bs := [px_vb (nI (i + k)) 2000]) rfl rfl (by (try simp only [q12, q13]); exact (px_all (px_vbN (by omega) (by decide)) rfl)) ?_
            simp only [q12, q13]
            refine XG.br eX3_behindBlanks_51 (P := ¬ (byI (B (i + k))) = (nI 13)) (r := []) rfl (tgt := 60) (by decide) (fun h51 => ?_) (fun h51 => ?_)
            · skip
              refine XG.blk tX3_behindBlanks_ok 32 1 (pc' := 61) (pl' := [some (.ref 0), some (.int (nI i)), some (.int (nI (i + k)))]) (st' := [(.int (nI (i + k)))]) (W1 := (dW rv ra rb rt X)) (bs := []) rfl rfl rfl ?_
              refine XS.iret eX3_behindBlanks_61 rfl rfl ?_
              refine ⟨rfl, ?_⟩
              rw [← he, skp_no (fun z => by
                have e9 := by_eq (c := 9) (hB (i + k) z.1).2 (by decide)
                have e10 := by_eq (c := 10) (hB (i + k) z.1).2 (by decide)
                have e13 := by_eq (c := 13) (hB (i + k) z.1).2 (by decide)
                have e32 := by_eq (c := 32) (hB (i + k) z.1).2 (by decide)
                rcases z.2 with w | w | w | w
                · exact h29 (e9.mpr w)
                · exact h40 (e10.mpr w)
                · exact h51 (e13.mpr w)
                · exact h18 (e32.mpr w))]
            · skip
              have h51 := Decidable.not_not.mp h51
              have q14 : ((nI (i + k)) + (nI 1)) = (nI ((i + k) + 1)) := px_eadd rfl rfl
              refine XG.blk tX3_behindBlanks_ok 30 1 (pc' := 57) (pl' := [some (.ref 0), some (.int (nI i)), some (.int ((nI (i + k)) + (nI 1)))]) (st' := []) (W1 := (dW rv ra rb rt X)) (bs := []) rfl rfl rfl ?_
              simp only [q14]
              refine XG.goto eX3_behindBlanks_57 (tgt := 2) (by decide) ?_
              have hb : blk (B (i + k)) := by have := (by_eq (hB (i + k) (by omega)).2 (by decide)).mp h51; unfold blk; omega
              exact ihk (by rw [← he, skp_yes (by omega) hb, Nat.add_assoc])
theorem lN_or {e l : Nat} (he : e < 2 ^ 40) (hl : l < 32) : (lN e <<< ((nI 5).toInt64 &&& 63)) ||| (nI l).toInt64 = lN (32 * e + l) := by
  have h1 : (nI l).toInt64 = lN l := by
    apply Int64.toInt_inj.mp
    rw [Int32.toInt_toInt64, nI_toInt (by omega)]
    show (l : Int) = (Int64.ofNat l).toInt
    rw [Int64.toInt_ofNat_of_lt (by omega)]
  rw [h1]
  apply Int64.toBitVec_inj.mp
  rw [Int64.toBitVec_or, Int64.toBitVec_shiftLeft]
  rw [show ((nI 5).toInt64 &&& 63) = 5 from by decide]
  show (BitVec.ofNat 64 e <<< ((5 : Int64).toBitVec.smod 64)) ||| BitVec.ofNat 64 l = BitVec.ofNat 64 (32 * e + l)
  rw [show ((5 : Int64).toBitVec.smod 64) = 5#64 from by decide]
  apply BitVec.eq_of_toNat_eq
  rw [BitVec.toNat_or, BitVec.toNat_ofNat, BitVec.toNat_ofNat]
  rw [show BitVec.ofNat 64 e <<< 5#64 = BitVec.ofNat 64 e <<< 5 from rfl, BitVec.toNat_shiftLeft, BitVec.toNat_ofNat]
  rw [Nat.mod_eq_of_lt (show e < 2 ^ 64 by omega), Nat.mod_eq_of_lt (show l < 2 ^ 64 by omega), Nat.mod_eq_of_lt (show 32 * e + l < 2 ^ 64 by omega)]
  have h2 : e <<< 5 = 32 * e := by rw [Nat.shiftLeft_eq]; omega
  rw [h2, Nat.mod_eq_of_lt (show 32 * e < 2 ^ 64 by omega), ← h2, ← Nat.shiftLeft_add_eq_or_of_lt (show l < 2 ^ 5 by omega), h2]
theorem vNm.lt32 {l : List Nat} (h : vNm l) : enc 32 l < 2 ^ 40 := by
  unfold enc
  have h1 := enR_lt 32 8 (by decide) l.reverse (fun x hx => ⟨(h.2 x (List.mem_reverse.mp hx)).1, by have := (h.2 x (List.mem_reverse.mp hx)).2; omega⟩) (by rw [List.length_reverse]; exact h.1)
  exact h1
theorem vNm.inj32 {l m : List Nat} (h : vNm l) (h2 : vNm m) (e : enc 32 l = enc 32 m) : l = m := by
  unfold enc at e
  have := enR_inj 32 l.reverse m.reverse (fun x hx => ⟨(h.2 x (List.mem_reverse.mp hx)).1, by have := (h.2 x (List.mem_reverse.mp hx)).2; omega⟩) (fun x hx => ⟨(h2.2 x (List.mem_reverse.mp hx)).1, by have := (h2.2 x (List.mem_reverse.mp hx)).2; omega⟩) e
  exact List.reverse_inj.mp this
theorem vNm.eq32 {l m : List Nat} (h : vNm l) (h2 : vNm m) : lN (enc 32 l) = lN (enc 32 m) ↔ l = m := ⟨fun e => h.inj32 h2 (lN_inj h.lt32 h2.lt32 e), fun e => by rw [e]⟩
/-- the letters so far, as a long -/
def nm64 (B : Nat → Nat) (i : Nat) : Nat → Int64
  | 0 => lN 0
  | k + 1 => (nm64 B i k <<< ((nI 5).toInt64 &&& 63)) ||| (byI (B (i + k)) - nI 97 + nI 1).toInt64
theorem letsV {B : Nat → Nat} {i k : Nat} (h : ∀ j, i ≤ j → j < i + k → ltr (B j)) (hk : k ≤ 8) : vNm (lets B i k) := by
  refine ⟨by unfold lets; rw [List.length_map, List.length_range]; exact hk, fun x hx => ?_⟩
  unfold lets at hx
  obtain ⟨j, hj, rfl⟩ := List.mem_map.mp hx
  have := h (i + j) (by omega) (by have := List.mem_range.mp hj; omega)
  omega
theorem by_let {b : Nat} (h : ltr b) : byI b - nI 97 + nI 1 = nI (b - 96) := (show ∀ b : Fin 123, 97 ≤ b.val → byI b.val - nI 97 + nI 1 = nI (b.val - 96) by decide +kernel) ⟨b, by omega⟩ h.1
theorem nm64_eq {B : Nat → Nat} {i : Nat} : ∀ k, (∀ j, i ≤ j → j < i + k → ltr (B j)) → k ≤ 8 → nm64 B i k = lN (enc 32 (lets B i k)) := by
  intro k
  induction k with
  | zero => intro _ _; rfl
  | succ k ih =>
    intro h hk
    have hl := h (i + k) (by omega) (by omega)
    show (nm64 B i k <<< _) ||| _ = _
    rw [ih (fun j h1 h2 => h j h1 (by omega)) (by omega), by_let hl, lN_or (letsV (fun j h1 h2 => h j h1 (by omega)) (by omega)).lt32 (by omega), lets_s, enc_s]
/-- the class' number of a token's kind -/
def ck (k : Nat) : Nat := if k = 0 then 0 else if k = 1 then 2 else if k = 2 then 3 else if k = 3 then 1 else if k = 4 then 59 else if k = 5 then 61 else if k = 6 then 40 else if k = 7 then 41 else if k = 8 then 43 else if k = 9 then 45 else if k = 10 then 42 else if k = 13 then 60 else if k = 15 then 47 else if 20 ≤ k then k + 108 else 1
theorem kw_lt (l : List Nat) : ∀ q, kwF l q = 1 ∨ (20 ≤ kwF l q ∧ kwF l q < 20 + q) := by
  intro q
  induction q with
  | zero => exact Or.inl rfl
  | succ q ih =>
    unfold kwF
    split
    · exact Or.inr ⟨by omega, by omega⟩
    · rcases ih with h | h
      · exact Or.inl h
      · exact Or.inr ⟨h.1, by omega⟩
theorem wds_v9 : ∀ q, q < 22 → vNm (wds.getD q []) := by
  intro q hq
  have : ∀ q : Fin 22, (wds.getD q.val []).length ≤ 8 ∧ ∀ x ∈ wds.getD q.val [], 1 ≤ x ∧ x < 27 := by decide +kernel
  exact this ⟨q, hq⟩
theorem cc_withLetter (d : Nat) (x : Int64) (y : Int32) : Con mX3_withLetter d [.long x, .int y] [] (fun r _ => r = some (.long ((x <<< ((nI 5).toInt64 &&& 63)) ||| (y - nI 97 + nI 1).toInt64))) := by
  refine Con.of (by decide) (Nat.le_of_ble_eq_true rfl) ?_
  refine XG.blk tX3_withLetter_ok 0 10 (pc' := 11) (pl' := [some (.long x), none, some (.int y)]) (st' := [(.long ((x <<< (((nI 5)).toInt64 &&& 63)) ||| (((y - (nI 97)) + (nI 1))).toInt64))]) (W1 := []) (bs := []) rfl rfl rfl ?_
  refine XS.lret eX3_withLetter_11 rfl ?_
  rfl
set_option maxHeartbeats 1000000 in
theorem sw_tail (d : Nat) (rv : Nat → Int32) (ra : Nat → Nat → Int32) (rb : Nat → Nat → Int64) (rt : Value) (X : px_W) (B : Nat → Nat) (n : Nat) (hn : n ≤ 2000) (h0 : rv 0 = nI n) (hB : tpR B n (ra 2)) (hWd : ∀ q, q < 22 → rb 3 q = lN (enc 32 (wds.getD q []))) (z : Nat) (h7 : rv 7 = nI z) (hz : z < 402) (i : Nat) (hi : i < n) (hl : ltr (B i)) : XG mX3_scanWord (px_gS d (fun r W' => ∃ g : Int64, W' = dW rv (va_up ra 4 (upd (ra 4) z (nI (ck (tkA B n i).1)))) (va_up rb 6 (vp_updL (rb 6) z g)) rt X ∧ ((tkA B n i).1 = 1 → g = lN (enc 32 (tkA B n i).2.2.1) ∧ vNm (tkA B n i).2.2.1) ∧ r = some (.int (nI (tkA B n i).2.2.2)))) 0 0 41 [some (.ref 0), some (.int (nI i)), some (.long (nm64 B i ((wEnd B n i) - i))), none, some (.int (nI (wEnd B n i))), none] [] (dW rv ra rb rt X) := by
  have hE := wEnd_gt hi hl
  have hEs := wEnd_spec B n i
  have hT := tkA_w (n := n) hl
  have hlt : ∀ j, i ≤ j → j < i + ((wEnd B n i) - i) → ltr (B j) := fun j h1 h2 => (hEs.2.1 j h1 (by omega)).2
  have q1 : (rv 7) = (nI z) := h7
  have q2 : (nI z).toNatClampNeg = z := nI_clamp (by omega)
  have q3 : ((nI (wEnd B n i)) - (nI i)) = (nI ((wEnd B n i) - i)) := px_esub rfl rfl (by omega)
  refine XG.blk tX3_scanWord_ok 21 14 (pc' := 65) (pl' := [some (.ref 0), some (.int (nI i)), some (.long (nm64 B i ((wEnd B n i) - i))), none, some (.int (nI (wEnd B n i))), none]) (st' := [(.int (nI 8)), (.int ((nI (wEnd B n i)) - (nI i))), (.int (rv 7)), (.ref 3)]) (W1 := (dW rv ra (va_up rb 6 (vp_updL (rb 6) (rv 7).toNatClampNeg (nm64 B i ((wEnd B n i) - i)))) rt X)) (bs := [px_vb (rv 7) 402]) rfl rfl (by (try simp only [q1, q2, q3]); exact (px_all (px_vbN (by omega) (by decide)) rfl)) ?_
  simp only [q1, q2, q3]
  refine XG.br eX3_scanWord_65 (P := (nI ((wEnd B n i) - i)) ≤ (nI 8)) (r := [(.int (nI z)), (.ref 3)]) rfl (tgt := 72) (by decide) (fun h65 => ?_) (fun h65 => ?_)
  · skip
    have g65 : ((wEnd B n i) - i) ≤ 8 := (nI_leI (a := ((wEnd B n i) - i)) (b := 8) (by omega) (by omega)).mp h65
    have q4 : (nI z).toNatClampNeg = z := nI_clamp (by omega)
    refine XG.blk tX3_scanWord_ok 38 4 (pc' := 77) (pl' := [some (.ref 0), some (.int (nI i)), some (.long (nm64 B i ((wEnd B n i) - i))), none, some (.int (nI (wEnd B n i))), some (.int (nI 0))]) (st' := []) (W1 := (dW rv (va_up ra 4 (upd (ra 4) (nI z).toNatClampNeg (nI 2))) (va_up rb 6 (vp_updL (rb 6) z (nm64 B i ((wEnd B n i) - i)))) rt X)) (bs := [px_vb (nI z) 402]) rfl rfl (by (try simp only [q4]); exact (px_all (px_vbN (by omega) (by decide)) rfl)) ?_
    simp only [q4]
    have hv := letsV hlt (by omega)
    have hnm := nm64_eq _ hlt (by omega)
    refine px_for 22 (fun q => XG mX3_scanWord _ 0 0 77 [some (.ref 0), some (.int (nI i)), some (.long (nm64 B i ((wEnd B n i) - i))), none, some (.int (nI (wEnd B n i))), some (.int (nI q))] [] (dW rv (va_up ra 4 (upd (ra 4) z (nI (ck (kwF (lets B i ((wEnd B n i) - i)) q))))) (va_up rb 6 (vp_updL (rb 6) z (nm64 B i ((wEnd B n i) - i)))) rt X)) ?_ ?_ 0 (Nat.zero_le _)
    · skip
      refine XG.blk tX3_scanWord_ok 42 2 (pc' := 81) (pl' := [some (.ref 0), some (.int (nI i)), some (.long (nm64 B i ((wEnd B n i) - i))), none, some (.int (nI (wEnd B n i))), some (.int (nI 22))]) (st' := [(.int (nI 22)), (.int (nI 22))]) (W1 := (dW rv (va_up ra 4 (upd (ra 4) z (nI (ck (kwF (lets B i ((wEnd B n i) - i)) 22))))) (va_up rb 6 (vp_updL (rb 6) z (nm64 B i ((wEnd B n i) - i)))) rt X)) (bs := []) rfl rfl rfl ?_
      refine XG.br eX3_scanWord_81 (P := (nI 22) ≤ (nI 22)) (r := []) rfl (tgt := 126) (by decide) (fun h81 => ?_) (fun h81 => ?_)
      · skip
        have g81 : 22 ≤ 22 := (nI_leI (a := 22) (b := 22) (by omega) (by omega)).mp h81
        refine XG.blk tX3_scanWord_ok 67 1 (pc' := 128) (pl' := [some (.ref 0), some (.int (nI i)), some (.long (nm64 B i ((wEnd B n i) - i))), none, some (.int (nI (wEnd B n i))), some (.int (nI 22))]) (st' := [(.int (nI (wEnd B n i)))]) (W1 := (dW rv (va_up ra 4 (upd (ra 4) z (nI (ck (kwF (lets B i ((wEnd B n i) - i)) 22))))) (va_up rb 6 (vp_updL (rb 6) z (nm64 B i ((wEnd B n i) - i)))) rt X)) (bs := []) rfl rfl rfl ?_
        refine XS.iret eX3_scanWord_128 rfl rfl ?_
        rw [if_pos (by omega)] at hT
        rw [hT]
        exact ⟨_, rfl, fun _ => ⟨hnm, hv⟩, rfl⟩
      · exfalso
        have g81 : ¬ 22 ≤ 22 := (fun z => h81 ((nI_leI (a := 22) (b := 22) (by omega) (by omega)).mpr z))
        omega
    · intro q hq ihq
      refine XG.blk tX3_scanWord_ok 42 2 (pc' := 81) (pl' := [some (.ref 0), some (.int (nI i)), some (.long (nm64 B i ((wEnd B n i) - i))), none, some (.int (nI (wEnd B n i))), some (.int (nI q))]) (st' := [(.int (nI 22)), (.int (nI q))]) (W1 := (dW rv (va_up ra 4 (upd (ra 4) z (nI (ck (kwF (lets B i ((wEnd B n i) - i)) q))))) (va_up rb 6 (vp_updL (rb 6) z (nm64 B i ((wEnd B n i) - i)))) rt X)) (bs := []) rfl rfl rfl ?_
      refine XG.br eX3_scanWord_81 (P := (nI 22) ≤ (nI q)) (r := []) rfl (tgt := 126) (by decide) (fun h81 => ?_) (fun h81 => ?_)
      · exfalso
        have g81 : 22 ≤ q := (nI_leI (a := 22) (b := q) (by omega) (by omega)).mp h81
        omega
      · skip
        have g81 : ¬ 22 ≤ q := (fun z => h81 ((nI_leI (a := 22) (b := q) (by omega) (by omega)).mpr z))
        have q5 : ((nI (wEnd B n i)) - (nI i)) = (nI ((wEnd B n i) - i)) := px_esub rfl rfl (by omega)
        refine XG.blk tX3_scanWord_ok 45 4 (pc' := 90) (pl' := [some (.ref 0), some (.int (nI i)), some (.long (nm64 B i ((wEnd B n i) - i))), none, some (.int (nI (wEnd B n i))), some (.int (nI q))]) (st' := [(.int (nI 8)), (.int ((nI (wEnd B n i)) - (nI i)))]) (W1 := (dW rv (va_up ra 4 (upd (ra 4) z (nI (ck (kwF (lets B i ((wEnd B n i) - i)) q))))) (va_up rb 6 (vp_updL (rb 6) z (nm64 B i ((wEnd B n i) - i)))) rt X)) (bs := []) rfl rfl rfl ?_
        simp only [q5]
        refine XG.br eX3_scanWord_90 (P := (nI 8) < (nI ((wEnd B n i) - i))) (r := []) rfl (tgt := 126) (by decide) (fun h90 => ?_) (fun h90 => ?_)
        · exfalso
          have g90 : 8 < ((wEnd B n i) - i) := (nI_ltI (a := 8) (b := ((wEnd B n i) - i)) (by omega) (by omega)).mp h90
          omega
        · skip
          have g90 : ¬ 8 < ((wEnd B n i) - i) := (fun z => h90 ((nI_ltI (a := 8) (b := ((wEnd B n i) - i)) (by omega) (by omega)).mpr z))
          have q6 : (nI q).toNatClampNeg = q := nI_clamp (by omega)
          refine XG.blk tX3_scanWord_ok 50 6 (pc' := 102) (pl' := [some (.ref 0), some (.int (nI i)), some (.long (nm64 B i ((wEnd B n i) - i))), none, some (.int (nI (wEnd B n i))), some (.int (nI q))]) (st' := [(.int (lg_cmp ((rb 3) (nI q).toNatClampNeg) (nm64 B i ((wEnd B n i) - i))))]) (W1 := (dW rv (va_up ra 4 (upd (ra 4) z (nI (ck (kwF (lets B i ((wEnd B n i) - i)) q))))) (va_up rb 6 (vp_updL (rb 6) z (nm64 B i ((wEnd B n i) - i)))) rt X)) (bs := [px_vb (nI q) 22]) rfl rfl (by (try simp only [q6]); exact (px_all (px_vbN (by omega) (by decide)) rfl)) ?_
          simp only [q6]
          refine XG.br eX3_scanWord_102 (P := ¬ (lg_cmp ((rb 3) q) (nm64 B i ((wEnd B n i) - i))) = 0) (r := []) rfl (tgt := 120) (by decide) (fun h102 => ?_) (fun h102 => ?_)
          · skip
            have q7 : ((nI q) + (nI 1)) = (nI (q + 1)) := px_eadd rfl rfl
            refine XG.blk tX3_scanWord_ok 65 1 (pc' := 123) (pl' := [some (.ref 0), some (.int (nI i)), some (.long (nm64 B i ((wEnd B n i) - i))), none, some (.int (nI (wEnd B n i))), some (.int ((nI q) + (nI 1)))]) (st' := []) (W1 := (dW rv (va_up ra 4 (upd (ra 4) z (nI (ck (kwF (lets B i ((wEnd B n i) - i)) q))))) (va_up rb 6 (vp_updL (rb 6) z (nm64 B i ((wEnd B n i) - i)))) rt X)) (bs := []) rfl rfl rfl ?_
            simp only [q7]
            refine XG.goto eX3_scanWord_123 (tgt := 77) (by decide) ?_
            rw [show (kwF (lets B i ((wEnd B n i) - i)) (q + 1)) = (kwF (lets B i ((wEnd B n i) - i)) q) from if_neg (fun w => h102 (cmp_eq.mpr (by rw [hWd q (by omega), hnm, w])))] at ihq
            exact ihq
          · skip
            have h102 := Decidable.not_not.mp h102
            have q8 : (rv 7) = (nI z) := h7
            have q9 : ((nI 128) + (nI q)) = (nI (128 + q)) := px_eadd rfl rfl
            have q10 : (nI z).toNatClampNeg = z := nI_clamp (by omega)
            have q11 : ((nI q) + (nI 1)) = (nI (q + 1)) := px_eadd rfl rfl
            refine XG.blk tX3_scanWord_ok 57 9 (pc' := 123) (pl' := [some (.ref 0), some (.int (nI i)), some (.long (nm64 B i ((wEnd B n i) - i))), none, some (.int (nI (wEnd B n i))), some (.int ((nI q) + (nI 1)))]) (st' := []) (W1 := (dW rv (va_up ra 4 (upd (upd (ra 4) z (nI (ck (kwF (lets B i ((wEnd B n i) - i)) q)))) (rv 7).toNatClampNeg ((nI 128) + (nI q)))) (va_up rb 6 (vp_updL (rb 6) z (nm64 B i ((wEnd B n i) - i)))) rt X)) (bs := [px_vb (rv 7) 402]) rfl rfl (by (try simp only [q8, q9, q10, q11]); exact (px_all (px_vbN (by omega) (by decide)) rfl)) ?_
            simp only [q8, q9, q10, q11]
            refine XG.goto eX3_scanWord_123 (tgt := 77) (by decide) ?_
            have hw := ((wds_v9 q (by omega)).eq32 hv).mp (by rw [← hWd q (by omega), ← hnm]; exact cmp_eq.mp h102)
            rw [show (kwF (lets B i ((wEnd B n i) - i)) (q + 1)) = 20 + q from if_pos hw, show ck (20 + q) = 128 + q by unfold ck; simp only [show ¬ (20 + q = 0) by omega, show ¬ (20 + q = 1) by omega, show ¬ (20 + q = 2) by omega, show ¬ (20 + q = 3) by omega, show ¬ (20 + q = 4) by omega, show ¬ (20 + q = 5) by omega, show ¬ (20 + q = 6) by omega, show ¬ (20 + q = 7) by omega, show ¬ (20 + q = 8) by omega, show ¬ (20 + q = 9) by omega, show ¬ (20 + q = 10) by omega, show ¬ (20 + q = 13) by omega, show ¬ (20 + q = 15) by omega, show 20 ≤ 20 + q by omega, if_true, if_false]; omega] at ihq
            rw [upd_upd]
            exact ihq
  · skip
    have g65 : ¬ ((wEnd B n i) - i) ≤ 8 := (fun z => h65 ((nI_leI (a := ((wEnd B n i) - i)) (b := 8) (by omega) (by omega)).mpr z))
    refine XG.blk tX3_scanWord_ok 36 1 (pc' := 69) (pl' := [some (.ref 0), some (.int (nI i)), some (.long (nm64 B i ((wEnd B n i) - i))), none, some (.int (nI (wEnd B n i))), none]) (st' := [(.int (nI 1)), (.int (nI z)), (.ref 3)]) (W1 := (dW rv ra (va_up rb 6 (vp_updL (rb 6) z (nm64 B i ((wEnd B n i) - i)))) rt X)) (bs := []) rfl rfl rfl ?_
    refine XG.goto eX3_scanWord_69 (tgt := 73) (by decide) ?_
    have q12 : (nI z).toNatClampNeg = z := nI_clamp (by omega)
    refine XG.blk tX3_scanWord_ok 39 3 (pc' := 77) (pl' := [some (.ref 0), some (.int (nI i)), some (.long (nm64 B i ((wEnd B n i) - i))), none, some (.int (nI (wEnd B n i))), some (.int (nI 0))]) (st' := []) (W1 := (dW rv (va_up ra 4 (upd (ra 4) (nI z).toNatClampNeg (nI 1))) (va_up rb 6 (vp_updL (rb 6) z (nm64 B i ((wEnd B n i) - i)))) rt X)) (bs := [px_vb (nI z) 402]) rfl rfl (by (try simp only [q12]); exact (px_all (px_vbN (by omega) (by decide)) rfl)) ?_
    simp only [q12]
    refine XG.blk tX3_scanWord_ok 42 2 (pc' := 81) (pl' := [some (.ref 0), some (.int (nI i)), some (.long (nm64 B i ((wEnd B n i) - i))), none, some (.int (nI (wEnd B n i))), some (.int (nI 0))]) (st' := [(.int (nI 22)), (.int (nI 0))]) (W1 := (dW rv (va_up ra 4 (upd (ra 4) z (nI 1))) (va_up rb 6 (vp_updL (rb 6) z (nm64 B i ((wEnd B n i) - i)))) rt X)) (bs := []) rfl rfl rfl ?_
    refine XG.br eX3_scanWord_81 (P := (nI 22) ≤ (nI 0)) (r := []) rfl (tgt := 126) (by decide) (fun h81 => ?_) (fun h81 => ?_)
    · exfalso
      have g81 : 22 ≤ 0 := (nI_leI (a := 22) (b := 0) (by omega) (by omega)).mp h81
      omega
    · skip
      have g81 : ¬ 22 ≤ 0 := (fun z => h81 ((nI_leI (a := 22) (b := 0) (by omega) (by omega)).mpr z))
      have q13 : ((nI (wEnd B n i)) - (nI i)) = (nI ((wEnd B n i) - i)) := px_esub rfl rfl (by omega)
      refine XG.blk tX3_scanWord_ok 45 4 (pc' := 90) (pl' := [some (.ref 0), some (.int (nI i)), some (.long (nm64 B i ((wEnd B n i) - i))), none, some (.int (nI (wEnd B n i))), some (.int (nI 0))]) (st' := [(.int (nI 8)), (.int ((nI (wEnd B n i)) - (nI i)))]) (W1 := (dW rv (va_up ra 4 (upd (ra 4) z (nI 1))) (va_up rb 6 (vp_updL (rb 6) z (nm64 B i ((wEnd B n i) - i)))) rt X)) (bs := []) rfl rfl rfl ?_
      simp only [q13]
      refine XG.br eX3_scanWord_90 (P := (nI 8) < (nI ((wEnd B n i) - i))) (r := []) rfl (tgt := 126) (by decide) (fun h90 => ?_) (fun h90 => ?_)
      · skip
        have g90 : 8 < ((wEnd B n i) - i) := (nI_ltI (a := 8) (b := ((wEnd B n i) - i)) (by omega) (by omega)).mp h90
        refine XG.blk tX3_scanWord_ok 67 1 (pc' := 128) (pl' := [some (.ref 0), some (.int (nI i)), some (.long (nm64 B i ((wEnd B n i) - i))), none, some (.int (nI (wEnd B n i))), some (.int (nI 0))]) (st' := [(.int (nI (wEnd B n i)))]) (W1 := (dW rv (va_up ra 4 (upd (ra 4) z (nI 1))) (va_up rb 6 (vp_updL (rb 6) z (nm64 B i ((wEnd B n i) - i)))) rt X)) (bs := []) rfl rfl rfl ?_
        refine XS.iret eX3_scanWord_128 rfl rfl ?_
        rw [if_neg (by omega)] at hT
        rw [hT]
        exact ⟨_, rfl, fun w => absurd (show (3 : Nat) = 1 from w) (by decide), rfl⟩
      · exfalso
        have g90 : ¬ 8 < ((wEnd B n i) - i) := (fun z => h90 ((nI_ltI (a := 8) (b := ((wEnd B n i) - i)) (by omega) (by omega)).mpr z))
        omega
set_option maxHeartbeats 1000000 in
theorem cc_scanWord (d : Nat) (rv : Nat → Int32) (ra : Nat → Nat → Int32) (rb : Nat → Nat → Int64) (rt : Value) (X : px_W) (B : Nat → Nat) (n : Nat) (hn : n ≤ 2000) (h0 : rv 0 = nI n) (hB : tpR B n (ra 2)) (hWd : ∀ q, q < 22 → rb 3 q = lN (enc 32 (wds.getD q []))) (z : Nat) (h7 : rv 7 = nI z) (hz : z < 402) (i : Nat) (hi : i < n) (hl : ltr (B i)) (hd : 1 ≤ d) : Con mX3_scanWord d [.ref 0, .int (nI i)] (dW rv ra rb rt X) (fun r W' => ∃ g : Int64, W' = dW rv (va_up ra 4 (upd (ra 4) z (nI (ck (tkA B n i).1)))) (va_up rb 6 (vp_updL (rb 6) z g)) rt X ∧ ((tkA B n i).1 = 1 → g = lN (enc 32 (tkA B n i).2.2.1) ∧ vNm (tkA B n i).2.2.1) ∧ r = some (.int (nI (tkA B n i).2.2.2))) := by
  have hE := wEnd_gt hi hl
  have hEs := wEnd_spec B n i
  have hT := tkA_w (n := n) hl
  refine Con.of (by decide) (Nat.le_of_ble_eq_true rfl) ?_
  refine XG.blk tX3_scanWord_ok 0 4 (pc' := 5) (pl' := [some (.ref 0), some (.int (nI i)), some (.long (lN 0)), none, some (.int (nI i)), none]) (st' := []) (W1 := (dW rv ra rb rt X)) (bs := []) rfl rfl rfl ?_
  refine px_for (n - i) (fun k => ∀ (he : wEnd B n (i + k) = wEnd B n i), XG mX3_scanWord _ 0 0 5 [some (.ref 0), some (.int (nI i)), some (.long (nm64 B i k)), none, some (.int (nI (i + k))), none] [] (dW rv ra rb rt X)) ?_ ?_ 0 (Nat.zero_le _) rfl
  · intro he
    have q1 : (rv 0) = (nI n) := h0
    refine XG.blk tX3_scanWord_ok 4 3 (pc' := 11) (pl' := [some (.ref 0), some (.int (nI i)), some (.long (nm64 B i (n - i))), none, some (.int (nI (i + (n - i)))), none]) (st' := [(.int (rv 0)), (.int (nI (i + (n - i))))]) (W1 := (dW rv ra rb rt X)) (bs := []) rfl rfl rfl ?_
    simp only [q1]
    refine XG.br eX3_scanWord_11 (P := (nI n) ≤ (nI (i + (n - i)))) (r := []) rfl (tgt := 41) (by decide) (fun h11 => ?_) (fun h11 => ?_)
    · skip
      have g11 : n ≤ (i + (n - i)) := (nI_leI (a := n) (b := (i + (n - i))) (by omega) (by omega)).mp h11
      have hk : i + (n - i) = (wEnd B n i) := by rw [← he]; exact (wEnd_no (by omega)).symm
      rw [hk, show (n - i) = (wEnd B n i) - i by omega]
      exact sw_tail d rv ra rb rt X B n hn h0 hB hWd z h7 hz i hi hl
    · exfalso
      have g11 : ¬ n ≤ (i + (n - i)) := (fun z => h11 ((nI_leI (a := n) (b := (i + (n - i))) (by omega) (by omega)).mpr z))
      omega
  · intro k hk ihk he
    have q2 : (rv 0) = (nI n) := h0
    refine XG.blk tX3_scanWord_ok 4 3 (pc' := 11) (pl' := [some (.ref 0), some (.int (nI i)), some (.long (nm64 B i k)), none, some (.int (nI (i + k))), none]) (st' := [(.int (rv 0)), (.int (nI (i + k)))]) (W1 := (dW rv ra rb rt X)) (bs := []) rfl rfl rfl ?_
    simp only [q2]
    refine XG.br eX3_scanWord_11 (P := (nI n) ≤ (nI (i + k))) (r := []) rfl (tgt := 41) (by decide) (fun h11 => ?_) (fun h11 => ?_)
    · exfalso
      have g11 : n ≤ (i + k) := (nI_leI (a := n) (b := (i + k)) (by omega) (by omega)).mp h11
      omega
    · skip
      have g11 : ¬ n ≤ (i + k) := (fun z => h11 ((nI_leI (a := n) (b := (i + k)) (by omega) (by omega)).mpr z))
      refine XG.blk tX3_scanWord_ok 8 2 (pc' := 17) (pl' := [some (.ref 0), some (.int (nI i)), some (.long (nm64 B i k)), none, some (.int (nI (i + k))), none]) (st' := [(.int (nI (i + k))), (.ref 0)]) (W1 := (dW rv ra rb rt X)) (bs := []) rfl rfl rfl ?_
      refine XG.callV0 eX3_scanWord_17 kl_X3_96 (cc_isLetter (d - 1) rv ra rb rt X B n hn h0 hB (i + k) (by omega)) (px_fitS (by omega)) rfl rfl rfl (Nat.le_of_ble_eq_true rfl) (fun r9 W9 hp9 hl9 => ?_)
      obtain ⟨rfl, rfl⟩ := hp9
      refine XG.br eX3_scanWord_20 (P := (if (i + k) < n ∧ ltr (B (i + k)) then 1 else 0) = 0) (r := []) rfl (tgt := 41) (by decide) (fun h20 => ?_) (fun h20 => ?_)
      · skip
        have hk : i + k = (wEnd B n i) := by rw [← he]; exact (wEnd_no (one_ne.mp h20)).symm
        rw [hk, show k = (wEnd B n i) - i by omega]
        exact sw_tail d rv ra rb rt X B n hn h0 hB hWd z h7 hz i hi hl
      · skip
        have q3 : (nI (i + k)).toNatClampNeg = (i + k) := nI_clamp (by omega)
        have q4 : ((ra 2) (i + k)) = (byI (B (i + k))) := (hB (i + k) (by omega)).1
        refine XG.blk tX3_scanWord_ok 12 5 (pc' := 31) (pl' := [some (.ref 0), some (.int (nI i)), some (.long (nm64 B i k)), none, some (.int (nI (i + k))), none]) (st' := [(.int ((ra 2) (nI (i + k)).toNatClampNeg)), (.long (nm64 B i k))]) (W1 := (dW rv ra rb rt X)) (bs := [px_vb (nI (i + k)) 2000]) rfl rfl (by (try simp only [q3, q4]); exact (px_all (px_vbN (by omega) (by decide)) rfl)) ?_
        simp only [q3, q4]
        refine XG.callSp (r := some (.long (nm64 B i (k + 1)))) eX3_scanWord_31 kl_X3_45 (cc_withLetter (d - 1) (nm64 B i k) (byI (B (i + k)))) (px_fitS (by omega)) rfl rfl rfl rfl (Nat.le_of_ble_eq_true rfl) ?_
        have q5 : ((nI (i + k)) + (nI 1)) = (nI ((i + k) + 1)) := px_eadd rfl rfl
        refine XG.blk tX3_scanWord_ok 18 2 (pc' := 38) (pl' := [some (.ref 0), some (.int (nI i)), some (.long (nm64 B i (k + 1))), none, some (.int ((nI (i + k)) + (nI 1))), none]) (st' := []) (W1 := (dW rv ra rb rt X)) (bs := []) rfl rfl rfl ?_
        simp only [q5]
        refine XG.goto eX3_scanWord_38 (tgt := 5) (by decide) ?_
        have hb := (Decidable.not_not.mp (fun w => h20 (one_ne.mpr w)))
        exact ihk (by rw [← he, wEnd_yes hb.1 hb.2, Nat.add_assoc])
/-- the number so far -/
def nu32 (B : Nat → Nat) (i : Nat) : Nat → Int32
  | 0 => nI 0
  | k + 1 => nu32 B i k * nI 10 + byI (B (i + k)) - nI 48
theorem valsLt {B : Nat → Nat} {i : Nat} : ∀ k, (∀ j, i ≤ j → j < i + k → dgt (B j)) → vals B i k < 10 ^ k := by
  intro k
  induction k with
  | zero => intro _; exact Nat.one_pos
  | succ k ih =>
    intro h
    have h1 := ih (fun j h1 h2 => h j h1 (by omega))
    have h2 := h (i + k) (by omega) (by omega)
    show 10 * vals B i k + B (i + k) - 48 < 10 ^ (k + 1)
    rw [Nat.pow_succ]
    omega
theorem nu32_eq {B : Nat → Nat} {i : Nat} : ∀ k, (∀ j, i ≤ j → j < i + k → dgt (B j)) → k ≤ 4 → nu32 B i k = nI (vals B i k) := by
  intro k
  induction k with
  | zero => intro _ _; rfl
  | succ k ih =>
    intro h hk
    have h2 := h (i + k) (by omega) (by omega)
    have h3 := valsLt k (fun j h1 h2 => h j h1 (by omega))
    have h4 : 10 ^ k ≤ 10 ^ 4 := Nat.pow_le_pow_right (by decide) (by omega)
    show nu32 B i k * nI 10 + byI (B (i + k)) - nI 48 = nI (10 * vals B i k + B (i + k) - 48)
    rw [ih (fun j h1 h2 => h j h1 (by omega)) (by omega), show byI (B (i + k)) = nI (B (i + k)) from if_pos (by omega), px_esub (px_eadd (px_emul rfl rfl) rfl) rfl (by omega)]
    congr 1
    omega
set_option maxHeartbeats 1000000 in
theorem cc_scanInt (d : Nat) (rv : Nat → Int32) (ra : Nat → Nat → Int32) (rb : Nat → Nat → Int64) (rt : Value) (X : px_W) (B : Nat → Nat) (n : Nat) (hn : n ≤ 2000) (h0 : rv 0 = nI n) (hB : tpR B n (ra 2)) (z : Nat) (h7 : rv 7 = nI z) (hz : z < 402) (i : Nat) (hi : i < n) (hl : dgt (B i)) (hd : 1 ≤ d) : Con mX3_scanInt d [.ref 0, .int (nI i)] (dW rv ra rb rt X) (fun r W' => ∃ g : Int64, W' = dW rv (va_up ra 4 (upd (ra 4) z (nI (ck (tkA B n i).1)))) (va_up rb 6 (vp_updL (rb 6) z g)) rt X ∧ ((tkA B n i).1 = 2 → g = (nI (tkA B n i).2.1).toInt64) ∧ r = some (.int (nI (tkA B n i).2.2.2))) := by
  have hE := dEnd_gt hi hl
  have hEs := dEnd_spec B n i
  have hT := tkA_d (n := n) hl
  have hlt : ∀ j, i ≤ j → j < i + ((dEnd B n i) - i) → dgt (B j) := fun j h1 h2 => (hEs.2.1 j h1 (by omega)).2
  refine Con.of (by decide) (Nat.le_of_ble_eq_true rfl) ?_
  refine XG.blk tX3_scanInt_ok 0 4 (pc' := 4) (pl' := [some (.ref 0), some (.int (nI i)), some (.int (nI 0)), some (.int (nI i))]) (st' := []) (W1 := (dW rv ra rb rt X)) (bs := []) rfl rfl rfl ?_
  refine px_for (n - i) (fun k => ∀ (he : dEnd B n (i + k) = dEnd B n i), XG mX3_scanInt _ 0 0 4 [some (.ref 0), some (.int (nI i)), some (.int (nu32 B i k)), some (.int (nI (i + k)))] [] (dW rv ra rb rt X)) ?_ ?_ 0 (Nat.zero_le _) rfl
  · intro he
    have q1 : (rv 0) = (nI n) := h0
    refine XG.blk tX3_scanInt_ok 4 3 (pc' := 9) (pl' := [some (.ref 0), some (.int (nI i)), some (.int (nu32 B i (n - i))), some (.int (nI (i + (n - i))))]) (st' := [(.int (rv 0)), (.int (nI (i + (n - i))))]) (W1 := (dW rv ra rb rt X)) (bs := []) rfl rfl rfl ?_
    simp only [q1]
    refine XG.br eX3_scanInt_9 (P := (nI n) ≤ (nI (i + (n - i)))) (r := []) rfl (tgt := 41) (by decide) (fun h9 => ?_) (fun h9 => ?_)
    · skip
      have g9 : n ≤ (i + (n - i)) := (nI_leI (a := n) (b := (i + (n - i))) (by omega) (by omega)).mp h9
      have hk : i + (n - i) = (dEnd B n i) := by rw [← he]; exact (dEnd_no (by omega)).symm
      rw [hk, show (n - i) = (dEnd B n i) - i by omega]
      have q2 : (rv 7) = (nI z) := h7
      have q3 : (nI z).toNatClampNeg = z := nI_clamp (by omega)
      have q4 : ((nI (dEnd B n i)) - (nI i)) = (nI ((dEnd B n i) - i)) := px_esub rfl rfl (by omega)
      refine XG.blk tX3_scanInt_ok 25 15 (pc' := 64) (pl' := [some (.ref 0), some (.int (nI i)), some (.int (nu32 B i ((dEnd B n i) - i))), some (.int (nI (dEnd B n i)))]) (st' := [(.int (nI 4)), (.int ((nI (dEnd B n i)) - (nI i))), (.int (rv 7)), (.ref 3)]) (W1 := (dW rv ra (va_up rb 6 (vp_updL (rb 6) (rv 7).toNatClampNeg ((nu32 B i ((dEnd B n i) - i))).toInt64)) rt X)) (bs := [px_vb (rv 7) 402]) rfl rfl (by (try simp only [q2, q3, q4]); exact (px_all (px_vbN (by omega) (by decide)) rfl)) ?_
      simp only [q2, q3, q4]
      refine XG.br eX3_scanInt_64 (P := (nI ((dEnd B n i) - i)) ≤ (nI 4)) (r := [(.int (nI z)), (.ref 3)]) rfl (tgt := 71) (by decide) (fun h64 => ?_) (fun h64 => ?_)
      · skip
        have g64 : ((dEnd B n i) - i) ≤ 4 := (nI_leI (a := ((dEnd B n i) - i)) (b := 4) (by omega) (by omega)).mp h64
        have q5 : (nI z).toNatClampNeg = z := nI_clamp (by omega)
        refine XG.blk tX3_scanInt_ok 43 3 (pc' := 74) (pl' := [some (.ref 0), some (.int (nI i)), some (.int (nu32 B i ((dEnd B n i) - i))), some (.int (nI (dEnd B n i)))]) (st' := [(.int (nI (dEnd B n i)))]) (W1 := (dW rv (va_up ra 4 (upd (ra 4) (nI z).toNatClampNeg (nI 3))) (va_up rb 6 (vp_updL (rb 6) z ((nu32 B i ((dEnd B n i) - i))).toInt64)) rt X)) (bs := [px_vb (nI z) 402]) rfl rfl (by (try simp only [q5]); exact (px_all (px_vbN (by omega) (by decide)) rfl)) ?_
        simp only [q5]
        refine XS.iret eX3_scanInt_74 rfl rfl ?_
        rw [if_pos (by omega)] at hT
        rw [hT]
        exact ⟨_, rfl, fun _ => by rw [nu32_eq _ hlt (by omega)], rfl⟩
      · skip
        have g64 : ¬ ((dEnd B n i) - i) ≤ 4 := (fun z => h64 ((nI_leI (a := ((dEnd B n i) - i)) (b := 4) (by omega) (by omega)).mpr z))
        refine XG.blk tX3_scanInt_ok 41 1 (pc' := 68) (pl' := [some (.ref 0), some (.int (nI i)), some (.int (nu32 B i ((dEnd B n i) - i))), some (.int (nI (dEnd B n i)))]) (st' := [(.int (nI 1)), (.int (nI z)), (.ref 3)]) (W1 := (dW rv ra (va_up rb 6 (vp_updL (rb 6) z ((nu32 B i ((dEnd B n i) - i))).toInt64)) rt X)) (bs := []) rfl rfl rfl ?_
        refine XG.goto eX3_scanInt_68 (tgt := 72) (by decide) ?_
        have q6 : (nI z).toNatClampNeg = z := nI_clamp (by omega)
        refine XG.blk tX3_scanInt_ok 44 2 (pc' := 74) (pl' := [some (.ref 0), some (.int (nI i)), some (.int (nu32 B i ((dEnd B n i) - i))), some (.int (nI (dEnd B n i)))]) (st' := [(.int (nI (dEnd B n i)))]) (W1 := (dW rv (va_up ra 4 (upd (ra 4) (nI z).toNatClampNeg (nI 1))) (va_up rb 6 (vp_updL (rb 6) z ((nu32 B i ((dEnd B n i) - i))).toInt64)) rt X)) (bs := [px_vb (nI z) 402]) rfl rfl (by (try simp only [q6]); exact (px_all (px_vbN (by omega) (by decide)) rfl)) ?_
        simp only [q6]
        refine XS.iret eX3_scanInt_74 rfl rfl ?_
        rw [if_neg (by omega)] at hT
        rw [hT]
        exact ⟨_, rfl, fun w => absurd (show (3 : Nat) = 2 from w) (by decide), rfl⟩
    · exfalso
      have g9 : ¬ n ≤ (i + (n - i)) := (fun z => h9 ((nI_leI (a := n) (b := (i + (n - i))) (by omega) (by omega)).mpr z))
      omega
  · intro k hk ihk he
    have q7 : (rv 0) = (nI n) := h0
    refine XG.blk tX3_scanInt_ok 4 3 (pc' := 9) (pl' := [some (.ref 0), some (.int (nI i)), some (.int (nu32 B i k)), some (.int (nI (i + k)))]) (st' := [(.int (rv 0)), (.int (nI (i + k)))]) (W1 := (dW rv ra rb rt X)) (bs := []) rfl rfl rfl ?_
    simp only [q7]
    refine XG.br eX3_scanInt_9 (P := (nI n) ≤ (nI (i + k))) (r := []) rfl (tgt := 41) (by decide) (fun h9 => ?_) (fun h9 => ?_)
    · exfalso
      have g9 : n ≤ (i + k) := (nI_leI (a := n) (b := (i + k)) (by omega) (by omega)).mp h9
      omega
    · skip
      have g9 : ¬ n ≤ (i + k) := (fun z => h9 ((nI_leI (a := n) (b := (i + k)) (by omega) (by omega)).mpr z))
      refine XG.blk tX3_scanInt_ok 8 2 (pc' := 14) (pl' := [some (.ref 0), some (.int (nI i)), some (.int (nu32 B i k)), some (.int (nI (i + k)))]) (st' := [(.int (nI (i + k))), (.ref 0)]) (W1 := (dW rv ra rb rt X)) (bs := []) rfl rfl rfl ?_
      refine XG.callV0 eX3_scanInt_14 kl_X3_103 (cc_isDigit (d - 1) rv ra rb rt X B n hn h0 hB (i + k) (by omega)) (px_fitS (by omega)) rfl rfl rfl (Nat.le_of_ble_eq_true rfl) (fun r9 W9 hp9 hl9 => ?_)
      obtain ⟨rfl, rfl⟩ := hp9
      refine XG.br eX3_scanInt_17 (P := (if (i + k) < n ∧ dgt (B (i + k)) then 1 else 0) = 0) (r := []) rfl (tgt := 41) (by decide) (fun h17 => ?_) (fun h17 => ?_)
      · skip
        have hk : i + k = (dEnd B n i) := by rw [← he]; exact (dEnd_no (one_ne.mp h17)).symm
        rw [hk, show k = (dEnd B n i) - i by omega]
        have q8 : (rv 7) = (nI z) := h7
        have q9 : (nI z).toNatClampNeg = z := nI_clamp (by omega)
        have q10 : ((nI (dEnd B n i)) - (nI i)) = (nI ((dEnd B n i) - i)) := px_esub rfl rfl (by omega)
        refine XG.blk tX3_scanInt_ok 25 15 (pc' := 64) (pl' := [some (.ref 0), some (.int (nI i)), some (.int (nu32 B i ((dEnd B n i) - i))), some (.int (nI (dEnd B n i)))]) (st' := [(.int (nI 4)), (.int ((nI (dEnd B n i)) - (nI i))), (.int (rv 7)), (.ref 3)]) (W1 := (dW rv ra (va_up rb 6 (vp_updL (rb 6) (rv 7).toNatClampNeg ((nu32 B i ((dEnd B n i) - i))).toInt64)) rt X)) (bs := [px_vb (rv 7) 402]) rfl rfl (by (try simp only [q8, q9, q10]); exact (px_all (px_vbN (by omega) (by decide)) rfl)) ?_
        simp only [q8, q9, q10]
        refine XG.br eX3_scanInt_64 (P := (nI ((dEnd B n i) - i)) ≤ (nI 4)) (r := [(.int (nI z)), (.ref 3)]) rfl (tgt := 71) (by decide) (fun h64 => ?_) (fun h64 => ?_)
        · skip
          have g64 : ((dEnd B n i) - i) ≤ 4 := (nI_leI (a := ((dEnd B n i) - i)) (b := 4) (by omega) (by omega)).mp h64
          have q11 : (nI z).toNatClampNeg = z := nI_clamp (by omega)
          refine XG.blk tX3_scanInt_ok 43 3 (pc' := 74) (pl' := [some (.ref 0), some (.int (nI i)), some (.int (nu32 B i ((dEnd B n i) - i))), some (.int (nI (dEnd B n i)))]) (st' := [(.int (nI (dEnd B n i)))]) (W1 := (dW rv (va_up ra 4 (upd (ra 4) (nI z).toNatClampNeg (nI 3))) (va_up rb 6 (vp_updL (rb 6) z ((nu32 B i ((dEnd B n i) - i))).toInt64)) rt X)) (bs := [px_vb (nI z) 402]) rfl rfl (by (try simp only [q11]); exact (px_all (px_vbN (by omega) (by decide)) rfl)) ?_
          simp only [q11]
          refine XS.iret eX3_scanInt_74 rfl rfl ?_
          rw [if_pos (by omega)] at hT
          rw [hT]
          exact ⟨_, rfl, fun _ => by rw [nu32_eq _ hlt (by omega)], rfl⟩
        · skip
          have g64 : ¬ ((dEnd B n i) - i) ≤ 4 := (fun z => h64 ((nI_leI (a := ((dEnd B n i) - i)) (b := 4) (by omega) (by omega)).mpr z))
          refine XG.blk tX3_scanInt_ok 41 1 (pc' := 68) (pl' := [some (.ref 0), some (.int (nI i)), some (.int (nu32 B i ((dEnd B n i) - i))), some (.int (nI (dEnd B n i)))]) (st' := [(.int (nI 1)), (.int (nI z)), (.ref 3)]) (W1 := (dW rv ra (va_up rb 6 (vp_updL (rb 6) z ((nu32 B i ((dEnd B n i) - i))).toInt64)) rt X)) (bs := []) rfl rfl rfl ?_
          refine XG.goto eX3_scanInt_68 (tgt := 72) (by decide) ?_
          have q12 : (nI z).toNatClampNeg = z := nI_clamp (by omega)
          refine XG.blk tX3_scanInt_ok 44 2 (pc' := 74) (pl' := [some (.ref 0), some (.int (nI i)), some (.int (nu32 B i ((dEnd B n i) - i))), some (.int (nI (dEnd B n i)))]) (st' := [(.int (nI (dEnd B n i)))]) (W1 := (dW rv (va_up ra 4 (upd (ra 4) (nI z).toNatClampNeg (nI 1))) (va_up rb 6 (vp_updL (rb 6) z ((nu32 B i ((dEnd B n i) - i))).toInt64)) rt X)) (bs := [px_vb (nI z) 402]) rfl rfl (by (try simp only [q12]); exact (px_all (px_vbN (by omega) (by decide)) rfl)) ?_
          simp only [q12]
          refine XS.iret eX3_scanInt_74 rfl rfl ?_
          rw [if_neg (by omega)] at hT
          rw [hT]
          exact ⟨_, rfl, fun w => absurd (show (3 : Nat) = 2 from w) (by decide), rfl⟩
      · skip
        have q13 : (nI (i + k)).toNatClampNeg = (i + k) := nI_clamp (by omega)
        have q14 : ((ra 2) (i + k)) = (byI (B (i + k))) := (hB (i + k) (by omega)).1
        have q15 : ((nI (i + k)) + (nI 1)) = (nI ((i + k) + 1)) := px_eadd rfl rfl
        refine XG.blk tX3_scanInt_ok 12 12 (pc' := 38) (pl' := [some (.ref 0), some (.int (nI i)), some (.int ((((nu32 B i k) * (nI 10)) + ((ra 2) (nI (i + k)).toNatClampNeg)) - (nI 48))), some (.int ((nI (i + k)) + (nI 1)))]) (st' := []) (W1 := (dW rv ra rb rt X)) (bs := [px_vb (nI (i + k)) 2000]) rfl rfl (by (try simp only [q13, q14, q15]); exact (px_all (px_vbN (by omega) (by decide)) rfl)) ?_
        simp only [q13, q14, q15]
        refine XG.goto eX3_scanInt_38 (tgt := 4) (by decide) ?_
        have hb := (Decidable.not_not.mp (fun w => h17 (one_ne.mpr w)))
        exact ihk (by rw [← he, dEnd_yes hb.1 hb.2, Nat.add_assoc])
