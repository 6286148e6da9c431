/-! THE CLASS: tokens -/
def vk (k : Nat) : Prop := k ≤ 10 ∨ k = 13 ∨ k = 15 ∨ (20 ≤ k ∧ k ≤ 41)
theorem ck_all : ∀ j k : Fin 42, (j.val ≤ 10 ∨ j.val = 13 ∨ j.val = 15 ∨ 20 ≤ j.val) → (k.val ≤ 10 ∨ k.val = 13 ∨ k.val = 15 ∨ 20 ≤ k.val) → ck j.val = ck k.val → j.val = k.val := by decide +kernel
theorem ck_inj {j k : Nat} (hj : vk j) (hk : vk k) : ck j = ck k ↔ j = k := by
  have h1 : j < 42 := by unfold vk at hj; omega
  have h2 : k < 42 := by unfold vk at hk; omega
  refine ⟨fun h => ck_all ⟨j, h1⟩ ⟨k, h2⟩ ?_ ?_ h, fun h => by rw [h]⟩
  · show j ≤ 10 ∨ j = 13 ∨ j = 15 ∨ 20 ≤ j; unfold vk at hj; omega
  · show k ≤ 10 ∨ k = 13 ∨ k = 15 ∨ 20 ≤ k; unfold vk at hk; omega
theorem ck_lt {k : Nat} (h : vk k) : ck k < 256 := by
  have h1 : k < 42 := by unfold vk at h; omega
  exact (show ∀ k : Fin 42, ck k.val < 256 by decide +kernel) ⟨k, h1⟩
theorem sg_v (x : Nat) : vk (sgnK x) ∧ 3 ≤ sgnK x := by
  unfold sgnK
  repeat' split
  all_goals exact ⟨by unfold vk; omega, by omega⟩
theorem tk_v {B : Nat → Nat} {n i : Nat} : vk (tkA B n i).1 ∧ (tkA B n i).1 ≠ 0 := by
  unfold tkA
  split
  · split
    · have := kw_lt (lets B i (wEnd B n i - i)) 22
      show vk (kwF (lets B i (wEnd B n i - i)) 22) ∧ kwF (lets B i (wEnd B n i - i)) 22 ≠ 0
      unfold vk
      omega
    · exact ⟨by unfold vk; show (3 : Nat) ≤ 10 ∨ _; omega, show (3 : Nat) ≠ 0 by decide⟩
  · split
    · split
      · exact ⟨by unfold vk; show (2 : Nat) ≤ 10 ∨ _; omega, show (2 : Nat) ≠ 0 by decide⟩
      · exact ⟨by unfold vk; show (3 : Nat) ≤ 10 ∨ _; omega, show (3 : Nat) ≠ 0 by decide⟩
    · have := sg_v (B i)
      exact ⟨this.1, by show sgnK (B i) ≠ 0; omega⟩
def CTk (K : TKS) (ra : Nat → Nat → Int32) (rb : Nat → Nat → Int64) : Prop := ∀ t, t ≤ 400 → okT K t → ra 4 t = nI (ck (K.1 t)) ∧ ra 5 t = nI (K.2.1 t) ∧ (K.1 t = 1 → rb 6 t = lN (enc 32 (K.2.2.2 t)) ∧ vNm (K.2.2.2 t)) ∧ (K.1 t = 2 → rb 6 t = (nI (K.2.2.1 t)).toInt64) ∧ vk (K.1 t) ∧ K.2.1 t ≤ 2000 ∧ K.2.2.1 t < 10000
theorem sg_ix : ∀ b : Fin 128, 0 < b.val → ¬ (97 ≤ b.val ∧ b.val ≤ 122) → ¬ (48 ≤ b.val ∧ b.val ≤ 57) → (sIx (nI b.val).toInt8.toInt32 (px_sbyt.getD 1 []) 0 < 0 → ck (sgnK b.val) = 1) ∧ (¬ sIx (nI b.val).toInt8.toInt32 (px_sbyt.getD 1 []) 0 < 0 → ck (sgnK b.val) = b.val) := by decide +kernel
theorem by_le0 {b : Nat} (h : b < 256) : byI b ≤ 0 ↔ (b = 0 ∨ 128 ≤ b) := (show ∀ b : Fin 256, byI b.val ≤ 0 ↔ (b.val = 0 ∨ 128 ≤ b.val) by decide +kernel) ⟨b, h⟩
theorem sg_hi {b : Nat} (h : b < 256) (h2 : b = 0 ∨ 128 ≤ b) : ck (sgnK b) = 1 := (show ∀ b : Fin 256, (b.val = 0 ∨ 128 ≤ b.val) → ck (sgnK b.val) = 1 by decide +kernel) ⟨b, h⟩ h2
theorem by_chr {b : Nat} (h : b < 128) : ((byI b).toUInt32 % 65536).toInt32 = nI b := (show ∀ b : Fin 128, ((byI b.val).toUInt32 % 65536).toInt32 = nI b.val by decide +kernel) ⟨b, h⟩
theorem updL_ne {f : Nat → Int64} {k j : Nat} {x : Int64} (h : j ≠ k) : vp_updL f k x j = f j := if_neg h
theorem updL_eq {f : Nat → Int64} {k : Nat} {x : Int64} : vp_updL f k x k = x := if_pos rfl
theorem tk_w2 {B : Nat → Nat} {n i : Nat} (hl : ltr (B i)) : ¬ (tkA B n i).1 = 2 := by
  rw [tkA_w hl]
  split
  · have := kw_lt (lets B i (wEnd B n i - i)) 22
    show ¬ kwF _ 22 = 2
    omega
  · exact show ¬ (3 : Nat) = 2 by decide
theorem tk_d1 {B : Nat → Nat} {n i : Nat} (hl : dgt (B i)) : ¬ (tkA B n i).1 = 1 := by
  rw [tkA_d hl]
  split
  · exact show ¬ (2 : Nat) = 1 by decide
  · exact show ¬ (3 : Nat) = 1 by decide
set_option maxHeartbeats 1000000 in
theorem cc_scanToken (d : Nat) (rv : Nat → Int32) (ra : Nat → Nat → Int32) (rb : Nat → Nat → Int64) (rt : Value) (X : px_W) (B : Nat → Nat) (n : Nat) (hn : n ≤ 2000) (h0 : rv 0 = nI n) (hB : tpR B n (ra 2)) (hWd : ∀ q, q < 22 → rb 3 q = lN (enc 32 (wds.getD q []))) (z : Nat) (h7 : rv 7 = nI z) (hz : z < 402) (i : Nat) (hi : i < n) (hd : 4 ≤ d) : Con mX3_scanToken d [.ref 0, .int (nI i)] (dW rv ra rb rt X) (fun r W' => ∃ g6 : Nat → Int64, W' = dW rv (va_up ra 4 (upd (ra 4) z (nI (ck (tkA B n i).1)))) (va_up rb 6 g6) rt X ∧ (∀ j, j ≠ z → g6 j = rb 6 j) ∧ ((tkA B n i).1 = 1 → g6 z = lN (enc 32 (tkA B n i).2.2.1) ∧ vNm (tkA B n i).2.2.1) ∧ ((tkA B n i).1 = 2 → g6 z = (nI (tkA B n i).2.1).toInt64) ∧ r = some (.int (nI (tkA B n i).2.2.2))) := by
  have hBi := (hB i hi).2
  refine Con.of (by decide) (Nat.le_of_ble_eq_true rfl) ?_
  refine XG.blk tX3_scanToken_ok 0 2 (pc' := 2) (pl' := [some (.ref 0), some (.int (nI i))]) (st' := [(.int (nI i)), (.ref 0)]) (W1 := (dW rv ra rb rt X)) (bs := []) rfl rfl rfl ?_
  refine XG.callV0 eX3_scanToken_2 kl_X3_96 (cc_isLetter (d - 1) rv ra rb rt X B n hn h0 hB i (by omega)) (px_fitS (by omega)) rfl rfl rfl (Nat.le_of_ble_eq_true rfl) (fun r9 W9 hp9 hl9 => ?_)
  obtain ⟨rfl, rfl⟩ := hp9
  refine XG.br eX3_scanToken_5 (P := (if i < n ∧ ltr (B i) then 1 else 0) = 0) (r := []) rfl (tgt := 14) (by decide) (fun h5 => ?_) (fun h5 => ?_)
  · skip
    refine XG.blk tX3_scanToken_ok 8 2 (pc' := 16) (pl' := [some (.ref 0), some (.int (nI i))]) (st' := [(.int (nI i)), (.ref 0)]) (W1 := (dW rv ra rb rt X)) (bs := []) rfl rfl rfl ?_
    refine XG.callV0 eX3_scanToken_16 kl_X3_103 (cc_isDigit (d - 1) rv ra rb rt X B n hn h0 hB i (by omega)) (px_fitS (by omega)) rfl rfl rfl (Nat.le_of_ble_eq_true rfl) (fun r9 W9 hp9 hl9 => ?_)
    obtain ⟨rfl, rfl⟩ := hp9
    refine XG.br eX3_scanToken_19 (P := (if i < n ∧ dgt (B i) then 1 else 0) = 0) (r := []) rfl (tgt := 28) (by decide) (fun h19 => ?_) (fun h19 => ?_)
    · skip
      have hl1 : ¬ ltr (B i) := fun w => one_ne.mp h5 ⟨hi, w⟩
      have hl2 : ¬ dgt (B i) := fun w => one_ne.mp h19 ⟨hi, w⟩
      have hT := tkA_s (n := n) hl1 hl2
      have q1 : (rv 7) = (nI z) := h7
      have q2 : (nI i).toNatClampNeg = i := nI_clamp (by omega)
      have q3 : ((ra 2) i) = (byI (B i)) := (hB i hi).1
      refine XG.blk tX3_scanToken_ok 16 8 (pc' := 42) (pl' := [some (.ref 0), some (.int (nI i))]) (st' := [(.int ((ra 2) (nI i).toNatClampNeg)), (.int (rv 7)), (.ref 3)]) (W1 := (dW rv ra rb rt X)) (bs := [px_vb (nI i) 2000]) rfl rfl (by (try simp only [q1, q2, q3]); exact (px_all (px_vbN (by omega) (by decide)) rfl)) ?_
      simp only [q1, q2, q3]
      refine XG.br eX3_scanToken_42 (P := (byI (B i)) ≤ 0) (r := [(.int (nI z)), (.ref 3)]) rfl (tgt := 69) (by decide) (fun h42 => ?_) (fun h42 => ?_)
      · skip
        have q4 : (nI z).toNatClampNeg = z := nI_clamp (by omega)
        have q5 : ((nI i) + (nI 1)) = (nI (i + 1)) := px_eadd rfl rfl
        refine XG.blk tX3_scanToken_ok 37 5 (pc' := 74) (pl' := [some (.ref 0), some (.int (nI i))]) (st' := [(.int ((nI i) + (nI 1)))]) (W1 := (dW rv (va_up ra 4 (upd (ra 4) (nI z).toNatClampNeg (nI 1))) rb rt X)) (bs := [px_vb (nI z) 402]) rfl rfl (by (try simp only [q4, q5]); exact (px_all (px_vbN (by omega) (by decide)) rfl)) ?_
        simp only [q4, q5]
        refine XS.iret eX3_scanToken_74 rfl rfl ?_
        refine ⟨rb 6, ?_, fun j _ => rfl, fun w => absurd w ?_, fun w => absurd w ?_, ?_⟩
        · rw [hT, show ck (sgnK (B i), 0, ([] : List Nat), i + 1).1 = 1 from sg_hi hBi ((by_le0 hBi).mp h42), va_up_id]
        · rw [hT]; show ¬ sgnK (B i) = 1; have := (sg_v (B i)).2; omega
        · rw [hT]; show ¬ sgnK (B i) = 2; have := (sg_v (B i)).2; omega
        · rw [hT]
      · skip
        have hpos : 0 < B i ∧ B i < 128 := by have := mt (by_le0 hBi).mpr h42; omega
        have hix := sg_ix ⟨B i, hpos.2⟩ hpos.1 hl1 hl2
        have hch := by_chr hpos.2
        refine XG.ldcS (q := 1002) eX3_scanToken_45 (fun _ _ _ h => h.2.2.1) ?_
        have q6 : (nI i).toNatClampNeg = i := nI_clamp (by omega)
        have q7 : ((ra 2) i) = (byI (B i)) := (hB i hi).1
        have q8 : (((byI (B i))).toUInt32 % 65536).toInt32 = (nI (B i)) := hch
        refine XG.blk tX3_scanToken_ok 25 5 (pc' := 54) (pl' := [some (.ref 0), some (.int (nI i))]) (st' := [(.int ((((ra 2) (nI i).toNatClampNeg)).toUInt32 % 65536).toInt32), (.ref 1002), (.int (nI z)), (.ref 3)]) (W1 := (dW rv ra rb rt X)) (bs := [px_vb (nI i) 2000]) rfl rfl (by (try simp only [q6, q7, q8]); exact (px_all (px_vbN (by omega) (by decide)) rfl)) ?_
        simp only [q6, q7, q8]
        refine XG.callVs (i := 1) (r := some (.int (sIx (nI (B i)).toInt8.toInt32 (px_sbyt.getD 1 []) 0))) (by decide) eX3_scanToken_54 ks_Reader_111 (cs_ix1 (d - 1) 1 (B i) (by decide) (by omega) (by decide) (by omega)) (px_fitS (by omega)) rfl rfl rfl rfl (Nat.le_of_ble_eq_true rfl) ?_
        refine XG.br eX3_scanToken_57 (P := (sIx (nI (B i)).toInt8.toInt32 (px_sbyt.getD 1 []) 0) < 0) (r := [(.int (nI z)), (.ref 3)]) rfl (tgt := 69) (by decide) (fun h57 => ?_) (fun h57 => ?_)
        · skip
          have q9 : (nI z).toNatClampNeg = z := nI_clamp (by omega)
          have q10 : ((nI i) + (nI 1)) = (nI (i + 1)) := px_eadd rfl rfl
          refine XG.blk tX3_scanToken_ok 37 5 (pc' := 74) (pl' := [some (.ref 0), some (.int (nI i))]) (st' := [(.int ((nI i) + (nI 1)))]) (W1 := (dW rv (va_up ra 4 (upd (ra 4) (nI z).toNatClampNeg (nI 1))) rb rt X)) (bs := [px_vb (nI z) 402]) rfl rfl (by (try simp only [q9, q10]); exact (px_all (px_vbN (by omega) (by decide)) rfl)) ?_
          simp only [q9, q10]
          refine XS.iret eX3_scanToken_74 rfl rfl ?_
          refine ⟨rb 6, ?_, fun j _ => rfl, fun w => absurd w ?_, fun w => absurd w ?_, ?_⟩
          · rw [hT, show ck (sgnK (B i), 0, ([] : List Nat), i + 1).1 = 1 from hix.1 h57, va_up_id]
          · rw [hT]; show ¬ sgnK (B i) = 1; have := (sg_v (B i)).2; omega
          · rw [hT]; show ¬ sgnK (B i) = 2; have := (sg_v (B i)).2; omega
          · rw [hT]
        · skip
          have q11 : (nI i).toNatClampNeg = i := nI_clamp (by omega)
          have q12 : ((ra 2) i) = (byI (B i)) := (hB i hi).1
          refine XG.blk tX3_scanToken_ok 32 4 (pc' := 66) (pl' := [some (.ref 0), some (.int (nI i))]) (st' := [(.int ((ra 2) (nI i).toNatClampNeg)), (.int (nI z)), (.ref 3)]) (W1 := (dW rv ra rb rt X)) (bs := [px_vb (nI i) 2000]) rfl rfl (by (try simp only [q11, q12]); exact (px_all (px_vbN (by omega) (by decide)) rfl)) ?_
          simp only [q11, q12]
          refine XG.goto eX3_scanToken_66 (tgt := 70) (by decide) ?_
          have q13 : (nI z).toNatClampNeg = z := nI_clamp (by omega)
          have q14 : ((nI i) + (nI 1)) = (nI (i + 1)) := px_eadd rfl rfl
          refine XG.blk tX3_scanToken_ok 38 4 (pc' := 74) (pl' := [some (.ref 0), some (.int (nI i))]) (st' := [(.int ((nI i) + (nI 1)))]) (W1 := (dW rv (va_up ra 4 (upd (ra 4) (nI z).toNatClampNeg (byI (B i)))) rb rt X)) (bs := [px_vb (nI z) 402]) rfl rfl (by (try simp only [q13, q14]); exact (px_all (px_vbN (by omega) (by decide)) rfl)) ?_
          simp only [q13, q14]
          refine XS.iret eX3_scanToken_74 rfl rfl ?_
          refine ⟨rb 6, ?_, fun j _ => rfl, fun w => absurd w ?_, fun w => absurd w ?_, ?_⟩
          · rw [hT, show ck (sgnK (B i), 0, ([] : List Nat), i + 1).1 = B i from hix.2 h57, va_up_id]; rw [show byI (B i) = nI (B i) from if_pos hpos.2]
          · rw [hT]; show ¬ sgnK (B i) = 1; have := (sg_v (B i)).2; omega
          · rw [hT]; show ¬ sgnK (B i) = 2; have := (sg_v (B i)).2; omega
          · rw [hT]
    · skip
      have hl := (Decidable.not_not.mp (fun w => h19 (one_ne.mpr w))).2
      refine XG.blk tX3_scanToken_ok 12 2 (pc' := 24) (pl' := [some (.ref 0), some (.int (nI i))]) (st' := [(.int (nI i)), (.ref 0)]) (W1 := (dW rv ra rb rt X)) (bs := []) rfl rfl rfl ?_
      refine XG.callV0 eX3_scanToken_24 kl_X3_106 (cc_scanInt (d - 1) rv ra rb rt X B n hn h0 hB z h7 hz i hi hl (by omega)) (px_fitS (by omega)) rfl rfl rfl (Nat.le_of_ble_eq_true rfl) (fun r9 W9 hp9 hl9 => ?_)
      obtain ⟨g9, rfl, hg9, rfl⟩ := hp9
      show XG _ _ _ _ _ _ [(.int (nI (tkA B n i).2.2.2))] (dW rv (va_up ra 4 (upd (ra 4) z (nI (ck (tkA B n i).1)))) (va_up rb 6 (vp_updL (rb 6) z g9)) rt X)
      refine XS.iret eX3_scanToken_27 rfl rfl ?_
      exact ⟨_, rfl, fun j hj => updL_ne hj, fun w => absurd w (tk_d1 hl), fun w => by rw [updL_eq]; exact hg9 w, rfl⟩
  · skip
    have hl := (Decidable.not_not.mp (fun w => h5 (one_ne.mpr w))).2
    refine XG.blk tX3_scanToken_ok 4 2 (pc' := 10) (pl' := [some (.ref 0), some (.int (nI i))]) (st' := [(.int (nI i)), (.ref 0)]) (W1 := (dW rv ra rb rt X)) (bs := []) rfl rfl rfl ?_
    refine XG.callV0 eX3_scanToken_10 kl_X3_100 (cc_scanWord (d - 1) rv ra rb rt X B n hn h0 hB hWd z h7 hz i hi hl (by omega)) (px_fitS (by omega)) rfl rfl rfl (Nat.le_of_ble_eq_true rfl) (fun r9 W9 hp9 hl9 => ?_)
    obtain ⟨g9, rfl, hg9, rfl⟩ := hp9
    show XG _ _ _ _ _ _ [(.int (nI (tkA B n i).2.2.2))] (dW rv (va_up ra 4 (upd (ra 4) z (nI (ck (tkA B n i).1)))) (va_up rb 6 (vp_updL (rb 6) z g9)) rt X)
    refine XS.iret eX3_scanToken_13 rfl rfl ?_
    exact ⟨_, rfl, fun j hj => updL_ne hj, fun w => by rw [updL_eq]; exact hg9 w, fun w => absurd w (tk_w2 hl), rfl⟩
def CTp (B : Nat → Nat) (n k : Nat) (ra : Nat → Nat → Int32) (rb : Nat → Nat → Int64) : Prop := ∀ t, t < k → posK B n t < n ∧ ra 4 t = nI (ck (tkA B n (posK B n t)).1) ∧ ra 5 t = nI (posK B n t) ∧ ((tkA B n (posK B n t)).1 = 1 → rb 6 t = lN (enc 32 (tkA B n (posK B n t)).2.2.1) ∧ vNm (tkA B n (posK B n t)).2.2.1) ∧ ((tkA B n (posK B n t)).1 = 2 → rb 6 t = (nI (tkA B n (posK B n t)).2.1).toInt64)
theorem CTp.end {B : Nat → Nat} {n k : Nat} {ra : Nat → Nat → Int32} {rb : Nat → Nat → Int64} (hn : n ≤ 2000) (h : CTp B n k ra rb) (he : n ≤ posK B n k ∨ k = 401) (hk : k ≤ 401) : CTk (lexK B n) (va_up (va_up ra 4 (upd (ra 4) k (nI 0))) 5 (upd (ra 5) k (nI n))) rb := by
  have hpl := pos_le B n
  intro t ht hok
  have hv := (lex_sm B n) t
  rcases Nat.lt_trichotomy t k with hlt | heq | hgt
  · obtain ⟨h1, h2, h3, h4, h5⟩ := h t hlt
    have e1 : (lexK B n).1 t = (tkA B n (posK B n t)).1 := if_pos h1
    have e3 : (lexK B n).2.2.1 t = (tkA B n (posK B n t)).2.1 := if_pos h1
    refine ⟨?_, ?_, ?_, ?_, ?_, Nat.le_trans (hpl t) hn, hv⟩
    · show upd (ra 4) k (nI 0) t = _; rw [upd_ne (by omega), h2, e1]
    · show upd (ra 5) k (nI n) t = _; rw [upd_ne (by omega), h3]; rfl
    · rw [e1]; exact h4
    · rw [e1, e3]; exact h5
    · rw [e1]; exact tk_v.1
  · subst heq
    have hp : posK B n t = n := by have := hpl t; omega
    have e1 : (lexK B n).1 t = 0 := if_neg (by omega)
    refine ⟨?_, ?_, fun w => absurd (e1.symm.trans w) (by decide), fun w => absurd (e1.symm.trans w) (by decide), ?_, Nat.le_trans (hpl t) hn, hv⟩
    · show upd (ra 4) t (nI 0) t = _; rw [upd_eq, e1]; rfl
    · show upd (ra 5) t (nI n) t = _; rw [upd_eq]; show _ = nI (posK B n t); rw [hp]
    · rw [e1]; unfold vk; omega
  · exfalso
    refine hok k hgt ?_
    exact if_neg (by omega)
set_option maxHeartbeats 1000000 in
theorem cc_scanTape (d : Nat) (rv : Nat → Int32) (ra : Nat → Nat → Int32) (rb : Nat → Nat → Int64) (rt : Value) (X : px_W) (B : Nat → Nat) (n : Nat) (hn : n ≤ 2000) (h0 : rv 0 = nI n) (hB : tpR B n (ra 2)) (hWd : ∀ q, q < 22 → rb 3 q = lN (enc 32 (wds.getD q []))) (hd : 5 ≤ d) : Con mX3_scanTape d [.ref 0] (dW rv ra rb rt X) (fun r W' => ∃ z ra' rb', W' = dW (va_up rv 7 z) ra' rb' rt X ∧ ra' 2 = ra 2 ∧ rb' 3 = rb 3 ∧ CTk (lexK B n) ra' rb' ∧ r = none) := by
  refine Con.of (by decide) (Nat.le_of_ble_eq_true rfl) ?_
  refine XG.blk tX3_scanTape_ok 0 5 (pc' := 7) (pl' := [some (.ref 0), none]) (st' := [(.int (nI 0)), (.ref 0)]) (W1 := (dW (va_up rv 7 (nI 0)) ra rb rt X)) (bs := []) rfl rfl rfl ?_
  refine XG.callV0 eX3_scanTape_7 kl_X3_89 (cc_behindBlanks (d - 1) (va_up rv 7 (nI 0)) ra rb rt X B n hn h0 hB 0 (Nat.zero_le _)) (px_fitS (by omega)) rfl rfl rfl (Nat.le_of_ble_eq_true rfl) (fun r9 W9 hp9 hl9 => ?_)
  obtain ⟨rfl, rfl⟩ := hp9
  refine XG.blk tX3_scanTape_ok 6 1 (pc' := 11) (pl' := [some (.ref 0), some (.int (nI (skp B n 0)))]) (st' := []) (W1 := (dW (va_up rv 7 (nI 0)) ra rb rt X)) (bs := []) rfl rfl rfl ?_
  refine px_for 401 (fun k => ∀ (ra9 : Nat → Nat → Int32) (rb9 : Nat → Nat → Int64) (hT9 : ra9 2 = ra 2) (hW9 : rb9 3 = rb 3) (hC9 : CTp B n k ra9 rb9), XG mX3_scanTape _ 0 0 11 [some (.ref 0), some (.int (nI (posK B n k)))] [] (dW (va_up rv 7 (nI k)) ra9 rb9 rt X)) ?_ ?_ 0 (Nat.zero_le _) ra rb rfl rfl (fun t ht => absurd ht (Nat.not_lt_zero _))
  · intro ra9 rb9 hT9 hW9 hC9
    have hpl := pos_le B n 401
    have q1 : (rv 0) = (nI n) := h0
    refine XG.blk tX3_scanTape_ok 7 3 (pc' := 16) (pl' := [some (.ref 0), some (.int (nI (posK B n 401)))]) (st' := [(.int (rv 0)), (.int (nI (posK B n 401)))]) (W1 := (dW (va_up rv 7 (nI 401)) ra9 rb9 rt X)) (bs := []) rfl rfl rfl ?_
    simp only [q1]
    refine XG.br eX3_scanTape_16 (P := (nI n) ≤ (nI (posK B n 401))) (r := []) rfl (tgt := 62) (by decide) (fun h16 => ?_) (fun h16 => ?_)
    · skip
      have g16 : n ≤ (posK B n 401) := (nI_leI (a := n) (b := (posK B n 401)) (by omega) (by omega)).mp h16
      have q2 : (nI 401).toNatClampNeg = 401 := nI_clamp (by omega)
      have q3 : (rv 0) = (nI n) := h0
      refine XG.blk tX3_scanTape_ok 34 13 (pc' := 85) (pl' := [some (.ref 0), some (.int (nI (posK B n 401)))]) (st' := []) (W1 := (dW (va_up rv 7 (nI 401)) (va_up (va_up ra9 4 (upd (ra9 4) (nI 401).toNatClampNeg (nI 0))) 5 (upd (ra9 5) (nI 401).toNatClampNeg (rv 0))) rb9 rt X)) (bs := [px_vb (nI 401) 402, px_vb (nI 401) 402]) rfl rfl (by (try simp only [q2, q3]); exact (px_all (px_vbN (by omega) (by decide)) (px_all (px_vbN (by omega) (by decide)) rfl))) ?_
      simp only [q2, q3]
      refine XS.vret eX3_scanTape_85 rfl ?_
      refine ⟨_, _, _, rfl, hT9, hW9, ?_, rfl⟩
      exact hC9.end hn (Or.inl (by omega)) (by omega)
    · skip
      have g16 : ¬ n ≤ (posK B n 401) := (fun z => h16 ((nI_leI (a := n) (b := (posK B n 401)) (by omega) (by omega)).mpr z))
      refine XG.blk tX3_scanTape_ok 11 3 (pc' := 26) (pl' := [some (.ref 0), some (.int (nI (posK B n 401)))]) (st' := [(.int (nI 400)), (.int (nI 401))]) (W1 := (dW (va_up rv 7 (nI 401)) ra9 rb9 rt X)) (bs := []) rfl rfl rfl ?_
      refine XG.br eX3_scanTape_26 (P := (nI 400) < (nI 401)) (r := []) rfl (tgt := 62) (by decide) (fun h26 => ?_) (fun h26 => ?_)
      · skip
        have g26 : 400 < 401 := (nI_ltI (a := 400) (b := 401) (by omega) (by omega)).mp h26
        have q4 : (nI 401).toNatClampNeg = 401 := nI_clamp (by omega)
        have q5 : (rv 0) = (nI n) := h0
        refine XG.blk tX3_scanTape_ok 34 13 (pc' := 85) (pl' := [some (.ref 0), some (.int (nI (posK B n 401)))]) (st' := []) (W1 := (dW (va_up rv 7 (nI 401)) (va_up (va_up ra9 4 (upd (ra9 4) (nI 401).toNatClampNeg (nI 0))) 5 (upd (ra9 5) (nI 401).toNatClampNeg (rv 0))) rb9 rt X)) (bs := [px_vb (nI 401) 402, px_vb (nI 401) 402]) rfl rfl (by (try simp only [q4, q5]); exact (px_all (px_vbN (by omega) (by decide)) (px_all (px_vbN (by omega) (by decide)) rfl))) ?_
        simp only [q4, q5]
        refine XS.vret eX3_scanTape_85 rfl ?_
        refine ⟨_, _, _, rfl, hT9, hW9, ?_, rfl⟩
        exact hC9.end hn (Or.inr rfl) (by omega)
      · exfalso
        have g26 : ¬ 400 < 401 := (fun z => h26 ((nI_ltI (a := 400) (b := 401) (by omega) (by omega)).mpr z))
        omega
  · intro k hk ihk ra9 rb9 hT9 hW9 hC9
    have hpl := pos_le B n k
    have q6 : (rv 0) = (nI n) := h0
    refine XG.blk tX3_scanTape_ok 7 3 (pc' := 16) (pl' := [some (.ref 0), some (.int (nI (posK B n k)))]) (st' := [(.int (rv 0)), (.int (nI (posK B n k)))]) (W1 := (dW (va_up rv 7 (nI k)) ra9 rb9 rt X)) (bs := []) rfl rfl rfl ?_
    simp only [q6]
    refine XG.br eX3_scanTape_16 (P := (nI n) ≤ (nI (posK B n k))) (r := []) rfl (tgt := 62) (by decide) (fun h16 => ?_) (fun h16 => ?_)
    · skip
      have g16 : n ≤ (posK B n k) := (nI_leI (a := n) (b := (posK B n k)) (by omega) (by omega)).mp h16
      have q7 : (nI k).toNatClampNeg = k := nI_clamp (by omega)
      have q8 : (rv 0) = (nI n) := h0
      refine XG.blk tX3_scanTape_ok 34 13 (pc' := 85) (pl' := [some (.ref 0), some (.int (nI (posK B n k)))]) (st' := []) (W1 := (dW (va_up rv 7 (nI k)) (va_up (va_up ra9 4 (upd (ra9 4) (nI k).toNatClampNeg (nI 0))) 5 (upd (ra9 5) (nI k).toNatClampNeg (rv 0))) rb9 rt X)) (bs := [px_vb (nI k) 402, px_vb (nI k) 402]) rfl rfl (by (try simp only [q7, q8]); exact (px_all (px_vbN (by omega) (by decide)) (px_all (px_vbN (by omega) (by decide)) rfl))) ?_
      simp only [q7, q8]
      refine XS.vret eX3_scanTape_85 rfl ?_
      refine ⟨_, _, _, rfl, hT9, hW9, ?_, rfl⟩
      exact hC9.end hn (Or.inl (by omega)) (by omega)
    · skip
      have g16 : ¬ n ≤ (posK B n k) := (fun z => h16 ((nI_leI (a := n) (b := (posK B n k)) (by omega) (by omega)).mpr z))
      refine XG.blk tX3_scanTape_ok 11 3 (pc' := 26) (pl' := [some (.ref 0), some (.int (nI (posK B n k)))]) (st' := [(.int (nI 400)), (.int (nI k))]) (W1 := (dW (va_up rv 7 (nI k)) ra9 rb9 rt X)) (bs := []) rfl rfl rfl ?_
      refine XG.br eX3_scanTape_26 (P := (nI 400) < (nI k)) (r := []) rfl (tgt := 62) (by decide) (fun h26 => ?_) (fun h26 => ?_)
      · exfalso
        have g26 : 400 < k := (nI_ltI (a := 400) (b := k) (by omega) (by omega)).mp h26
        omega
      · skip
        have g26 : ¬ 400 < k := (fun z => h26 ((nI_ltI (a := 400) (b := k) (by omega) (by omega)).mpr z))
        have hlt : posK B n k < n := by omega
        have q9 : (nI k).toNatClampNeg = k := nI_clamp (by omega)
        refine XG.blk tX3_scanTape_ok 15 9 (pc' := 42) (pl' := [some (.ref 0), some (.int (nI (posK B n k)))]) (st' := [(.int (nI (posK B n k))), (.ref 0), (.ref 0)]) (W1 := (dW (va_up rv 7 (nI k)) (va_up ra9 5 (upd (ra9 5) (nI k).toNatClampNeg (nI (posK B n k)))) rb9 rt X)) (bs := [px_vb (nI k) 402]) rfl rfl (by (try simp only [q9]); exact (px_all (px_vbN (by omega) (by decide)) rfl)) ?_
        simp only [q9]
        refine XG.callV0 eX3_scanTape_42 kl_X3_93 (cc_scanToken (d - 1) (va_up rv 7 (nI k)) (va_up ra9 5 (upd (ra9 5) k (nI (posK B n k)))) rb9 rt X B n hn h0 (by rw [show (va_up ra9 5 (upd (ra9 5) k (nI (posK B n k)))) 2 = ra 2 from hT9]; exact hB) (by rw [show rb9 3 = rb 3 from hW9]; exact hWd) k rfl (by omega) (posK B n k) hlt (by omega)) (px_fitS (by omega)) rfl rfl rfl (Nat.le_of_ble_eq_true rfl) (fun r9 W9 hp9 hl9 => ?_)
        obtain ⟨g9, rfl, hg1, hg2, hg3, rfl⟩ := hp9
        show XG _ _ _ _ _ _ [(.int (nI (tkA B n (posK B n k)).2.2.2)), (.ref 0)] (dW (va_up rv 7 (nI k)) (va_up (va_up ra9 5 (upd (ra9 5) k (nI (posK B n k)))) 4 (upd (ra9 4) k (nI (ck (tkA B n (posK B n k)).1)))) (va_up rb9 6 g9) rt X)
        refine XG.callV0 eX3_scanTape_45 kl_X3_89 (cc_behindBlanks (d - 1) (va_up rv 7 (nI k)) (va_up (va_up ra9 5 (upd (ra9 5) k (nI (posK B n k)))) 4 (upd (ra9 4) k (nI (ck (tkA B n (posK B n k)).1)))) (va_up rb9 6 g9) rt X B n hn h0 (by rw [show (va_up (va_up ra9 5 (upd (ra9 5) k (nI (posK B n k)))) 4 (upd (ra9 4) k (nI (ck (tkA B n (posK B n k)).1)))) 2 = ra 2 from hT9]; exact hB) (tkA B n (posK B n k)).2.2.2 (tkA_end hlt).2) (px_fitS (by omega)) rfl rfl rfl (Nat.le_of_ble_eq_true rfl) (fun r9 W9 hp9 hl9 => ?_)
        obtain ⟨rfl, rfl⟩ := hp9
        have q10 : ((nI k) + (nI 1)) = (nI (k + 1)) := px_eadd rfl rfl
        refine XG.blk tX3_scanTape_ok 26 7 (pc' := 59) (pl' := [some (.ref 0), some (.int (nI (skp B n (tkA B n (posK B n k)).2.2.2)))]) (st' := []) (W1 := (dW (va_up rv 7 ((nI k) + (nI 1))) (va_up (va_up ra9 5 (upd (ra9 5) k (nI (posK B n k)))) 4 (upd (ra9 4) k (nI (ck (tkA B n (posK B n k)).1)))) (va_up rb9 6 g9) rt X)) (bs := []) rfl rfl rfl ?_
        simp only [q10]
        refine XG.goto eX3_scanTape_59 (tgt := 11) (by decide) ?_
        rw [show skp B n (tkA B n (posK B n k)).2.2.2 = posK B n (k + 1) from (if_pos hlt).symm]
        refine ihk _ _ hT9 hW9 (fun t ht => ?_)
        rcases (show t < k ∨ t = k by omega) with h | h
        · obtain ⟨p1, p2, p3, p4, p5⟩ := hC9 t h
          refine ⟨p1, ?_, ?_, fun w => ?_, fun w => ?_⟩
          · show upd (ra9 4) k _ t = _; rw [upd_ne (by omega)]; exact p2
          · show upd (ra9 5) k _ t = _; rw [upd_ne (by omega)]; exact p3
          · show g9 t = _ ∧ _; rw [hg1 t (by omega)]; exact p4 w
          · show g9 t = _; rw [hg1 t (by omega)]; exact p5 w
        · subst h
          exact ⟨hlt, upd_eq, upd_eq, hg2, hg3⟩
