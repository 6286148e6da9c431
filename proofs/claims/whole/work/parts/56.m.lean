/-! the reference: the rows of sleepers by which the weakest span bears most -/
theorem p5_le {k : Nat} (h : k ≤ 12) : 0 < 5 ^ k ∧ 5 ^ k < 2 ^ 31 := ⟨Nat.pow_pos (by decide), Nat.lt_of_le_of_lt (Nat.pow_le_pow_right (by decide) h) (by decide)⟩
theorem nz5 {k : Nat} (h : k ≤ 12) : (!(nI (5 ^ k) == 0)) = true := by
  have h1 := p5_le h
  rw [Bool.not_eq_true', beq_eq_false_iff_ne]
  intro e
  have h2 := (nI_eq (a := 5 ^ k) (b := 0) h1.2 (by decide)).mp e
  omega
def dig (w k : Nat) : Nat := w / 5 ^ k % 5
theorem dig_lt (w k : Nat) : dig w k < 5 := Nat.mod_lt _ (by decide)
theorem dig_eq {w k : Nat} (hw : w < 2 ^ 31) (hk : k ≤ 12) : nI w / nI (5 ^ k) - nI w / nI (5 ^ k) / nI 5 * nI 5 = nI (dig w k) := by
  have h1 := p5_le hk
  rw [pk_div hw h1.1 h1.2, pk_rem (Nat.lt_of_le_of_lt (Nat.div_le_self _ _) hw) (by decide) (by decide)]
  rfl
abbrev okW (sl sp w : Nat) : Prop := ∀ i, i < sl → dig w (sl - 1 - i) < sp
def lyF (r : Nat → Int32) (n sl w : Nat) : Nat → Int32 := fun j => if 12 ≤ j ∧ j < 12 + n then nI (dig w (sl - 1 - (j - 12))) else r j
theorem lyF_0 (r : Nat → Int32) (sl w : Nat) : lyF r 0 sl w = r := by funext j; unfold lyF; rw [if_neg (by omega)]
theorem lyF_s (r : Nat → Int32) (n sl w : Nat) : upd (lyF r n sl w) (12 + n) (nI (dig w (sl - 1 - n))) = lyF r (n + 1) sl w := by
  funext j; simp only [lyF, upd]
  by_cases e : j = 12 + n
  · subst e; rw [if_pos rfl, if_pos (by omega), show 12 + n - 12 = n by omega]
  · rw [if_neg e]
    by_cases h2 : 12 ≤ j ∧ j < 12 + n
    · rw [if_pos h2, if_pos (show 12 ≤ j ∧ j < 12 + (n + 1) by omega)]
    · rw [if_neg h2, if_neg (show ¬ (12 ≤ j ∧ j < 12 + (n + 1)) by omega)]
def LO (r0 : Nat → Int32) (n : Nat) (r : Nat → Int32) : Prop := ∀ j, ¬ (12 ≤ j ∧ j < 12 + n) → r j = r0 j
theorem LO.rf {r0 : Nat → Int32} {n : Nat} : LO r0 n r0 := fun _ _ => rfl
theorem lyF_LO {r0 r : Nat → Int32} {m n sl w : Nat} (h : LO r0 n r) (hm : m ≤ n) : LO r0 n (lyF r m sl w) := fun j hj => by
  unfold lyF; rw [if_neg (by omega)]; exact h j hj
theorem lyF_eq {r0 r : Nat → Int32} {n : Nat} (h : LO r0 n r) (sl w : Nat) : lyF r n sl w = lyF r0 n sl w := by
  funext j; unfold lyF
  by_cases h2 : 12 ≤ j ∧ j < 12 + n
  · rw [if_pos h2, if_pos h2]
  · rw [if_neg h2, if_neg h2, h j h2]
theorem vb_lt {x n : Nat} (hx : x < 5) (hn : n ≤ 5) (h : px_vb (nI x) n = true) : x < n := by
  rw [px_vb_iff, nI_toInt (by omega)] at h; omega
set_option maxHeartbeats 400000 in
theorem con_lieSo (d : Nat) (v0 v9 : Nat → Int32) (a0 a9 : Nat → Nat → Int32) (b : Nat → Nat → Int64) (r w : Nat → Int32) (hK9 : K v0 a0 r w v9 a9) (lv sp sl cr : Nat) (I0 : MI v0 a0 lv sp sl cr) (y : Nat) (hy : y < 2 ^ 31) (r0 : Nat → Int32) (hLO : LO r0 sl r) (hd : 3 ≤ d) : Con mX9_lieSo d [.ref 0, .int (nI y)] (mW v9 a9 b) (fun q W' => ∃ v' a' r', W' = mW v' a' b ∧ K v0 a0 r' w v' a' ∧ LO r0 sl r' ∧ (okW sl sp y → r' = lyF r0 sl sl y) ∧ q = some (.int (if okW sl sp y then 1 else 0))) := by
  obtain ⟨hlv0, hlv2, hsp, hsp1, hsp2, hsl, hsl2, hcr, hcr2⟩ := id I0
  have hlv9 := (hK9.MI I0).1
  refine Con.of (by decide) (Nat.le_of_ble_eq_true rfl) ?_
  refine XG.blk tX9_lieSo_ok 0 2 (pc' := 2) (pl' := [some (.ref 0), some (.int (nI y)), some (.int (nI 0))]) (st' := []) (W1 := (mW v9 a9 b)) (bs := []) rfl rfl rfl ?_
  refine px_for sl (fun i => ∀ (v9 : Nat → Int32) (a9 : Nat → Nat → Int32) (hK9 : K v0 a0 (lyF r i sl y) w v9 a9) (hok : ∀ i9, i9 < i → dig y (sl - 1 - i9) < sp), XG mX9_lieSo _ 0 0 2 [some (.ref 0), some (.int (nI y)), some (.int (nI i))] [] (mW v9 a9 b)) ?_ ?_ 0 (Nat.zero_le _) v9 a9 (by rw [lyF_0]; exact hK9) (fun i9 h9 => absurd h9 (Nat.not_lt_zero _))
  · intro v9 a9 hK9 hok
    have hlv9 := (hK9.MI I0).1
    have q1 : (v9 18) = (nI lv) := hlv9
    have q2 : (a9 24) = (a0 24) := hK9.2.1 24 (by decide)
    have q3 : (nI lv).toNatClampNeg = lv := nI_clamp (by omega)
    have q4 : ((a0 24) lv) = (nI sl) := hsl
    refine XG.blk tX9_lieSo_ok 2 6 (pc' := 12) (pl' := [some (.ref 0), some (.int (nI y)), some (.int (nI sl))]) (st' := [(.int ((a9 24) (v9 18).toNatClampNeg)), (.int (nI sl))]) (W1 := (mW v9 a9 b)) (bs := [px_vb (v9 18) 2]) rfl rfl (by (try simp only [q1, q2, q3, q4]); exact (px_all (px_vbN (by omega) (by decide)) rfl)) ?_
    simp only [q1, q2, q3, q4]
    refine XG.br eX9_lieSo_12 (P := (nI sl) ≤ (nI sl)) (r := []) rfl (tgt := 68) (by decide) (fun h12 => ?_) (fun h12 => ?_)
    · skip
      have g12 : sl ≤ sl := (nI_leI (a := sl) (b := sl) (by omega) (by omega)).mp h12
      refine XG.blk tX9_lieSo_ok 42 1 (pc' := 69) (pl' := [some (.ref 0), some (.int (nI y)), some (.int (nI sl))]) (st' := [(.int (nI 1))]) (W1 := (mW v9 a9 b)) (bs := []) rfl rfl rfl ?_
      refine XS.iret eX9_lieSo_69 rfl (by decide) ?_
      exact ⟨_, _, _, rfl, hK9, lyF_LO hLO (Nat.le_refl _), fun _ => lyF_eq hLO sl y, by rw [if_pos hok]; rfl⟩
    · exfalso
      have g12 : ¬ sl ≤ sl := (fun z => h12 ((nI_leI (a := sl) (b := sl) (by omega) (by omega)).mpr z))
      omega
  · intro i hi ihi v9 a9 hK9 hok
    have hlv9 := (hK9.MI I0).1
    have q5 : (v9 18) = (nI lv) := hlv9
    have q6 : (a9 24) = (a0 24) := hK9.2.1 24 (by decide)
    have q7 : (nI lv).toNatClampNeg = lv := nI_clamp (by omega)
    have q8 : ((a0 24) lv) = (nI sl) := hsl
    refine XG.blk tX9_lieSo_ok 2 6 (pc' := 12) (pl' := [some (.ref 0), some (.int (nI y)), some (.int (nI i))]) (st' := [(.int ((a9 24) (v9 18).toNatClampNeg)), (.int (nI i))]) (W1 := (mW v9 a9 b)) (bs := [px_vb (v9 18) 2]) rfl rfl (by (try simp only [q5, q6, q7, q8]); exact (px_all (px_vbN (by omega) (by decide)) rfl)) ?_
    simp only [q5, q6, q7, q8]
    refine XG.br eX9_lieSo_12 (P := (nI sl) ≤ (nI i)) (r := []) rfl (tgt := 68) (by decide) (fun h12 => ?_) (fun h12 => ?_)
    · exfalso
      have g12 : sl ≤ i := (nI_leI (a := sl) (b := i) (by omega) (by omega)).mp h12
      omega
    · skip
      have g12 : ¬ sl ≤ i := (fun z => h12 ((nI_leI (a := sl) (b := i) (by omega) (by omega)).mpr z))
      have q9 : ((nI 12) + (nI i)) = (nI (12 + i)) := px_eadd rfl rfl
      have q10 : (v9 18) = (nI lv) := hlv9
      have q11 : (a9 24) = (a0 24) := hK9.2.1 24 (by decide)
      have q12 : (nI lv).toNatClampNeg = lv := nI_clamp (by omega)
      have q13 : ((a0 24) lv) = (nI sl) := hsl
      have q14 : ((nI sl) - (nI 1)) = (nI (sl - 1)) := px_esub rfl rfl (by omega)
      have q15 : ((nI (sl - 1)) - (nI i)) = (nI ((sl - 1) - i)) := px_esub rfl rfl (by omega)
      refine XG.blk tX9_lieSo_ok 9 15 (pc' := 37) (pl' := [some (.ref 0), some (.int (nI y)), some (.int (nI i))]) (st' := [(.int ((((a9 24) (v9 18).toNatClampNeg) - (nI 1)) - (nI i))), (.int (nI y)), (.int ((nI 12) + (nI i))), (.ref 38)]) (W1 := (mW v9 a9 b)) (bs := [px_vb (v9 18) 2]) rfl rfl (by (try simp only [q9, q10, q11, q12, q13, q14, q15]); exact (px_all (px_vbN (by omega) (by decide)) rfl)) ?_
      simp only [q9, q10, q11, q12, q13, q14, q15]
      refine XG.callSp (r := some (.int (nI (5 ^ ((sl - 1) - i))))) eX9_lieSo_37 kl_X9_430 (con_fives (d - 1) ((sl - 1) - i) (by omega)) (px_fitS (by omega)) rfl rfl rfl rfl (Nat.le_of_ble_eq_true rfl) ?_
      have q16 : (((nI y) / (nI (5 ^ ((sl - 1) - i)))) - ((nI y) / (nI (5 ^ ((sl - 1) - i)))) / (nI 5) * (nI 5)) = (nI (dig y ((sl - 1) - i))) := dig_eq hy (by omega)
      have q17 : (a9 55) = (lyF r i sl y) := hK9.2.2.1
      have q18 : (nI (12 + i)).toNatClampNeg = (12 + i) := nI_clamp (by omega)
      have q19 : ((nI 12) + (nI i)) = (nI (12 + i)) := px_eadd rfl rfl
      have q20 : ((upd (lyF r i sl y) (12 + i) (nI (dig y ((sl - 1) - i)))) (12 + i)) = (nI (dig y ((sl - 1) - i))) := pk_us
      refine XG.blk tX9_lieSo_ok 25 11 (pc' := 54) (pl' := [some (.ref 0), some (.int (nI y)), some (.int (nI i))]) (st' := [(.int ((upd (a9 55) (nI (12 + i)).toNatClampNeg (((nI y) / (nI (5 ^ ((sl - 1) - i)))) - ((nI y) / (nI (5 ^ ((sl - 1) - i)))) / (nI 5) * (nI 5))) ((nI 12) + (nI i)).toNatClampNeg)), (.ref 0)]) (W1 := (mW v9 (va_up a9 55 (upd (a9 55) (nI (12 + i)).toNatClampNeg (((nI y) / (nI (5 ^ ((sl - 1) - i)))) - ((nI y) / (nI (5 ^ ((sl - 1) - i)))) / (nI 5) * (nI 5)))) b)) (bs := [!((nI (5 ^ ((sl - 1) - i))) == 0), !((nI 5) == 0), px_vb (nI (12 + i)) 32, px_vb ((nI 12) + (nI i)) 32]) rfl rfl (by (try simp only [q16, q17, q18, q19, q20]); exact (px_all ((nz5 (by omega))) (px_all (rfl) (px_all (px_vbN (by omega) (by decide)) (px_all (px_vbN (by omega) (by decide)) rfl))))) ?_
      simp only [q16, q17, q18, q19, q20]
      refine XG.callV0 eX9_lieSo_54 kl_X9_406 (con_isSpan (d - 1) v9 (va_up a9 55 (upd (lyF r i sl y) (12 + i) (nI (dig y ((sl - 1) - i))))) b (nI (dig y ((sl - 1) - i))) lv sp sl cr (K.MI (K.row hK9 (upd (lyF r i sl y) (12 + i) (nI (dig y ((sl - 1) - i))))) I0) (by omega)) (px_fitS (by omega)) rfl rfl rfl (Nat.le_of_ble_eq_true rfl) (fun r9 W9 hp9 hl9 => ?_)
      obtain ⟨rfl, rfl⟩ := hp9
      refine XG.br eX9_lieSo_57 (P := ¬ (if px_vb (nI (dig y ((sl - 1) - i))) sp = true then 1 else 0) = 0) (r := []) rfl (tgt := 62) (by decide) (fun h57 => ?_) (fun h57 => ?_)
      · skip
        have q21 : ((nI i) + (nI 1)) = (nI (i + 1)) := px_eadd rfl rfl
        refine XG.blk tX9_lieSo_ok 40 1 (pc' := 65) (pl' := [some (.ref 0), some (.int (nI y)), some (.int ((nI i) + (nI 1)))]) (st' := []) (W1 := (mW v9 (va_up a9 55 (upd (lyF r i sl y) (12 + i) (nI (dig y ((sl - 1) - i))))) b)) (bs := []) rfl rfl rfl ?_
        simp only [q21]
        refine XG.goto eX9_lieSo_65 (tgt := 2) (by decide) ?_
        have hd9 : dig y (sl - 1 - i) < sp := vb_lt (dig_lt _ _) (by omega) (Decidable.not_not.mp (fun z => h57 (one_ne.mpr z)))
        rw [← lyF_s] at ihi
        exact ihi _ _ (K.row hK9 (upd (lyF r i sl y) (12 + i) (nI (dig y ((sl - 1) - i))))) (fun i9 h9 => by rcases (show i9 < i ∨ i9 = i by omega) with h | h; exact hok i9 h; subst h; exact hd9)
      · skip
        have h57 := Decidable.not_not.mp h57
        refine XG.blk tX9_lieSo_ok 38 1 (pc' := 61) (pl' := [some (.ref 0), some (.int (nI y)), some (.int (nI i))]) (st' := [(.int (nI 0))]) (W1 := (mW v9 (va_up a9 55 (upd (lyF r i sl y) (12 + i) (nI (dig y ((sl - 1) - i))))) b)) (bs := []) rfl rfl rfl ?_
        refine XS.iret eX9_lieSo_61 rfl (by decide) ?_
        rw [lyF_s]
        exact ⟨_, _, _, rfl, by rw [← lyF_s]; exact (K.row hK9 (upd (lyF r i sl y) (12 + i) (nI (dig y ((sl - 1) - i))))), lyF_LO hLO (by omega), fun hc => absurd (px_vbN (hc i hi) (by omega)) (one_ne.mp h57), by rw [if_neg (fun hc => (one_ne.mp h57) (px_vbN (hc i hi) (by omega)))]; rfl⟩
