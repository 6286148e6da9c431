/-! the reference: order; no order brings less than nothing -/
def up31 (B : Nat) (f : (Nat → Int32) → (Nat → Int32)) : Prop := ∀ r, ∃ k, k ≤ B ∧ f r 31 = r 31 + nI k
theorem i32_0 (x : Int32) : x + nI 0 = x := Int32.add_zero x
theorem itN_up {f : Nat → (Nat → Int32) → (Nat → Int32)} {B : Nat} : ∀ n, (∀ i, i < n → up31 B (f i)) → up31 (n * B) (fun r => itN f r n) := by
  intro n
  induction n with
  | zero => intro _ r; exact ⟨0, Nat.zero_le _, (i32_0 _).symm⟩
  | succ n ih =>
    intro h r
    obtain ⟨k1, h1, e1⟩ := ih (fun i hi => h i (by omega)) r
    obtain ⟨k2, h2, e2⟩ := h n (by omega) (itN f r n)
    refine ⟨k1 + k2, by rw [Nat.succ_mul]; omega, ?_⟩
    show f n (itN f r n) 31 = _
    rw [e2, show itN f r n 31 = r 31 + nI k1 from e1, Int32.add_assoc, nI_add]
theorem up31.mono {B B' : Nat} {f : (Nat → Int32) → (Nat → Int32)} (h : up31 B f) (hb : B ≤ B') : up31 B' f := fun r => by
  obtain ⟨k, h1, h2⟩ := h r
  exact ⟨k, by omega, h2⟩
theorem cross_31 {a0 : Nat → Nat → Int32} {lv sp sl cr c : Nat} {y : Int32} (hc : c < 5) (ht : ∃ t, t ≤ 99 ∧ a0 34 (5 * lv + c) = nI t) : up31 99 (crossF a0 lv sp sl cr c y) := by
  intro r
  obtain ⟨t, h1, h2⟩ := ht
  unfold crossF
  split
  · refine ⟨t, h1, ?_⟩
    unfold overF
    rw [pk_us, pk_un (by omega), pk_un (by omega), h2]
  · split
    · exact ⟨0, by omega, (i32_0 _).symm⟩
    · exact ⟨0, by omega, by rw [pk_un (by omega)]; exact (i32_0 _).symm⟩
theorem hour_31 {v0 : Nat → Int32} {a0 : Nat → Nat → Int32} {lv sp sl cr : Nat} (hsp : sp ≤ 5) (hsl : sl ≤ 6) (hcr : cr ≤ 5) (ht : ∀ c, c < cr → ∃ t, t ≤ 99 ∧ a0 34 (5 * lv + c) = nI t) : up31 2970 (hourF v0 a0 lv sp sl cr) := by
  intro r
  have h1 : up31 2970 (fun r0 => itN (outF a0 lv sp sl cr r) r0 (sp + 1)) := by
    refine (itN_up (B := 495) (sp + 1) (fun i _ => ?_)).mono (by omega)
    refine (itN_up (B := 99) cr (fun c hc => ?_)).mono (by omega)
    intro r1
    simp only [moveF]
    split
    · exact cross_31 (by omega) (ht c hc) r1
    · exact ⟨0, by omega, (i32_0 _).symm⟩
  obtain ⟨k, h2, h3⟩ := h1 (itN (brkF a0 lv sl cr) (sleepF v0 a0 lv sl cr r) sp)
  refine ⟨k, h2, ?_⟩
  unfold hourF
  rw [show itN (outF a0 lv sp sl cr r) (itN (brkF a0 lv sl cr) (sleepF v0 a0 lv sl cr r) sp) (sp + 1) 31 = itN (brkF a0 lv sl cr) (sleepF v0 a0 lv sl cr r) sp 31 + nI k from h3]
  congr 1
  rw [itN_keep sp _ (fun p _ r => ?_)]
  · unfold sleepF
    rw [pk_un (by decide), pk_un (by decide), itN_keep sl r (fun x hx r => ?_)]
    simp only [s2F]
    split
    · exact pk_un (by omega)
    · rw [pk_un (by omega), pk_un (by omega)]
  · simp only [brkF]
    split
    · exact itN_keep cr _ (fun c hc r => by simp only [fallF]; split <;> first | rfl | exact pk_un (by omega))
    · rfl
theorem tb_nn (v : Nat → Int32) (a : Nat → Nat → Int32) (lv sp sl cr hm : Nat) (hc : Nat → Nat) (y : Nat) (hsp : sp ≤ 5) (hsl : sl ≤ 6) (hcr : cr ≤ 5) (ht : ∀ c, c < cr → ∃ t, t ≤ 99 ∧ a 34 (5 * lv + c) = nI t) (hok : okO hm y) (hhc : ∀ i, i < hm → hc i < cr) : ∃ k, k ≤ 59400 ∧ tbV v a lv sp sl cr hm hc y = nI k := by
  have h1 : up31 59400 (fun r => itN (tbF (vQ v a lv (nI 1)) (aQ a) lv sp sl cr hm hc y) r 20) := by
    refine itN_up (B := 2970) 20 (fun k _ => ?_)
    intro r
    obtain ⟨t, h2, h3⟩ := hour_31 (v0 := vQ v a lv (nI 1)) (a0 := aQ a) hsp hsl hcr ht (if k < hm then upd r (18 + hc (dig y (hm - 1 - k))) (-3) else r)
    refine ⟨t, h2, ?_⟩
    simp only [tbF]
    rw [h3]
    congr 1
    split
    · have h4 := hhc _ (hok k (by assumption)).1
      exact pk_un (by omega)
    · rfl
  obtain ⟨k, h2, h3⟩ := h1 (a 54)
  refine ⟨k, h2, ?_⟩
  unfold tbV tbR
  rw [show itN (tbF (vQ v a lv (nI 1)) (aQ a) lv sp sl cr hm hc y) (a 54) 20 31 = a 54 31 + nI k from h3, Int32.add_comm]
  exact Int32.add_sub_cancel _ _
theorem idO (hm : Nat) (h : hm ≤ 5) : ∃ y, y < 5 ^ hm ∧ okO hm y := by
  rcases (show hm = 0 ∨ hm = 1 ∨ hm = 2 ∨ hm = 3 ∨ hm = 4 ∨ hm = 5 by omega) with rfl | rfl | rfl | rfl | rfl | rfl
  · exact ⟨0, by decide, by decide⟩
  · exact ⟨0, by decide, by decide⟩
  · exact ⟨1, by decide, by decide⟩
  · exact ⟨7, by decide, by decide⟩
  · exact ⟨38, by decide, by decide⟩
  · exact ⟨194, by decide, by decide⟩
theorem or_ex (x : Int32) (v : Nat → Int32) (a : Nat → Nat → Int32) (lv sp sl cr : Nat) (L : List Nat) (hsp : sp ≤ 5) (hsl : sl ≤ 6) (hcr : cr ≤ 5) (ht : ∀ c, c < cr → ∃ t, t ≤ 99 ∧ a 34 (5 * lv + c) = nI t) (hL : L.length ≤ 5) (hLc : ∀ j, j < L.length → L.getD j 0 < cr) : ∃ w, w < 5 ^ L.length ∧ okO L.length w ∧ orR x v a lv sp sl cr L = (tbV v a lv sp sl cr L.length (fun i => L.getD i 0) w, nI w) ∧ (∀ y, y < 5 ^ L.length → okO L.length y → tbV v a lv sp sl cr L.length (fun i => L.getD i 0) y ≤ tbV v a lv sp sl cr L.length (fun i => L.getD i 0) w) ∧ ∀ y, y < w → okO L.length y → tbV v a lv sp sl cr L.length (fun i => L.getD i 0) y < tbV v a lv sp sl cr L.length (fun i => L.getD i 0) w := by
  have hP : ∀ y, okO L.length y → orP v a lv sp sl cr L y = true := by
    intro y hy
    obtain ⟨k, h1, h2⟩ := tb_nn v a lv sp sl cr L.length (fun i => L.getD i 0) y hsp hsl hcr ht hy hLc
    exact decide_eq_true ⟨hy, by rw [h2]; exact nI_nn (by omega)⟩
  rcases bf_ex (orP v a lv sp sl cr L) (fun y => tbV v a lv sp sl cr L.length (fun i => L.getD i 0) y) x (5 ^ L.length) (p5_le (by omega)).2 with ⟨h1, -⟩ | ⟨w, hw, hp, h2, h3, h4⟩
  · obtain ⟨y, hy, hoy⟩ := idO L.length hL
    exact absurd (hP y hoy) (by rw [h1 y hy]; decide)
  · exact ⟨w, hw, (of_decide_eq_true hp).1, h2, fun y hy ho => h3 y hy (hP y ho), fun y hy ho => h4 y hy (hP y ho)⟩
set_option maxHeartbeats 400000 in
theorem con_order (d : Nat) (v : Nat → Int32) (a : Nat → Nat → Int32) (b : Nat → Nat → Int64) (lv sp sl cr : Nat) (I : MI v a lv sp sl cr) (hwf : wf3 a lv) (htl : ∀ c, c < cr → ∃ t, t ≤ 99 ∧ a 34 (5 * lv + c) = nI t) (p : Int32) (hd : 11 ≤ d) : Con mX9_order d [.ref 0, .int p] (mW v a b) (fun r W' => ∃ v' a', W' = mW v' a' b ∧ Qs v v' a a' ∧ r = some (.int (qOrder (v 67) v a lv sp sl cr p))) := by
  obtain ⟨hlv, hlv2, hsp, hsp1, hsp2, hsl, hsl2, hcr, hcr2⟩ := id I
  refine Con.of (by decide) (Nat.le_of_ble_eq_true rfl) ?_
  obtain ⟨L, eL⟩ : ∃ z, z = hmL (a 54) cr := ⟨_, rfl⟩
  have hL5 : L.length ≤ 5 := by have h := hmL_len (a 54) cr; rw [← eL] at h; omega
  have hLc : ∀ j, j < L.length → L.getD j 0 < cr := by rw [eL]; exact fun j hj => hmL_lt hj
  have hp5 := p5_le (k := L.length) (by omega)
  obtain ⟨w9, hw9, ok9w, eR9, -, -⟩ := or_ex (v 67) v a lv sp sl cr L hsp2 hsl2 hcr2 htl hL5 hLc
  by_cases hok : okI L.length p
  · by_cases hp1 : p = -1
    · subst hp1
      have eA : qOrder (v 67) v a lv sp sl cr (-1) = (itN (orF v a lv sp sl cr L) (v 67, -1) (5 ^ L.length)).1 := by unfold qOrder; rw [← eL, if_pos hok, if_pos rfl]; rfl
      simp only [eA]
      refine XG.blk tX9_order_ok 0 5 (pc' := 7) (pl' := [some (.ref 0), some (.int (-1)), some (.int (nI 0)), none]) (st' := []) (W1 := (mW (va_up v 66 (nI 0)) a b)) (bs := []) rfl rfl rfl ?_
      refine px_for cr (fun i => ∀ (v9 : Nat → Int32) (a9 : Nat → Nat → Int32) (hQ9 : Qs v v9 a a9) (h66 : v9 66 = nI (hmL (a 54) i).length) (h65 : atL (hmL (a 54) i) (a9 65)) (h67 : v9 67 = v 67), XG mX9_order _ 0 0 7 [some (.ref 0), some (.int (-1)), some (.int (nI i)), none] [] (mW v9 a9 b)) ?_ ?_ 0 (Nat.zero_le _) _ _ (⟨chg.up (by decide), chg.rf⟩) rfl (fun j hj => absurd hj (Nat.not_lt_zero _)) rfl
      · intro v9 a9 hQ9 h66 h65 h67
        have I9 := hQ9.MI I
        obtain ⟨hlv9, -, hsp9, -, -, hsl9, -, hcr9, -⟩ := id I9
        rw [← eL] at h66 h65
        have q1 : (v9 18) = (nI lv) := hlv9
        have q2 : (nI lv).toNatClampNeg = lv := nI_clamp (by omega)
        have q3 : ((a9 31) lv) = (nI cr) := hcr9
        refine XG.blk tX9_order_ok 5 6 (pc' := 17) (pl' := [some (.ref 0), some (.int (-1)), some (.int (nI cr)), none]) (st' := [(.int ((a9 31) (v9 18).toNatClampNeg)), (.int (nI cr))]) (W1 := (mW v9 a9 b)) (bs := [px_vb (v9 18) 2]) rfl rfl (by (try simp only [q1, q2, q3]); exact (px_all (px_vbN (by omega) (by decide)) rfl)) ?_
        simp only [q1, q2, q3]
        refine XG.br eX9_order_17 (P := (nI cr) ≤ (nI cr)) (r := []) rfl (tgt := 63) (by decide) (fun h17 => ?_) (fun h17 => ?_)
        · skip
          have g17 : cr ≤ cr := (nI_leI (a := cr) (b := cr) (by omega) (by omega)).mp h17
          have q4 : (v9 66) = (nI L.length) := h66
          refine XG.blk tX9_order_ok 35 6 (pc' := 71) (pl' := [some (.ref 0), some (.int (-1)), some (.int (nI cr)), none]) (st' := [(.int ((v9 66) - (nI 1))), (.int (-1)), (.int (-1))]) (W1 := (mW v9 a9 b)) (bs := []) rfl rfl rfl ?_
          simp only [q4]
          refine XG.callSp (r := some (.int (if (-1) ≤ (-1) ∧ (-1) ≤ ((nI L.length) - (nI 1)) then 1 else 0))) eX9_order_71 kl_X9_331 (con_in (d - 1) (-1) (-1) ((nI L.length) - (nI 1))) (px_fitS (by omega)) rfl rfl rfl rfl (Nat.le_of_ble_eq_true rfl) ?_
          refine XG.br eX9_order_74 (P := ¬ (if (-1) ≤ (-1) ∧ (-1) ≤ ((nI L.length) - (nI 1)) then 1 else 0) = 0) (r := []) rfl (tgt := 79) (by decide) (fun h74 => ?_) (fun h74 => ?_)
          · skip
            refine XG.blk tX9_order_ok 45 5 (pc' := 86) (pl' := [some (.ref 0), some (.int (-1)), some (.int (nI 0)), none]) (st' := []) (W1 := (mW (va_up v9 68 (-1)) a9 b)) (bs := []) rfl rfl rfl ?_
            refine px_for (5 ^ L.length) (fun j => ∀ (v9 : Nat → Int32) (a9 : Nat → Nat → Int32) (hQ9 : Qs v v9 a a9) (h66 : v9 66 = nI L.length) (h65 : atL L (a9 65)) (h67 : v9 67 = (itN (orF v a lv sp sl cr L) (v 67, -1) j).1) (h68 : v9 68 = (itN (orF v a lv sp sl cr L) (v 67, -1) j).2), XG mX9_order _ 0 0 86 [some (.ref 0), some (.int (-1)), some (.int (nI j)), none] [] (mW v9 a9 b)) ?_ ?_ 0 (Nat.zero_le _) (va_up v9 68 (-1)) a9 (⟨hQ9.1.tr (chg.up (by decide)), hQ9.2⟩) h66 h65 h67 rfl
            · intro v9 a9 hQ9 h66 h65 h67 h68
              have I9 := hQ9.MI I
              obtain ⟨hlv9, -, hsp9, -, -, hsl9, -, hcr9, -⟩ := id I9
              have q5 : (v9 66) = (nI L.length) := h66
              refine XG.blk tX9_order_ok 50 3 (pc' := 91) (pl' := [some (.ref 0), some (.int (-1)), some (.int (nI (5 ^ L.length))), none]) (st' := [(.int (v9 66)), (.int (nI (5 ^ L.length)))]) (W1 := (mW v9 a9 b)) (bs := []) rfl rfl rfl ?_
              simp only [q5]
              refine XG.callSp (r := some (.int (nI (5 ^ L.length)))) eX9_order_91 kl_X9_430 (con_fives (d - 1) L.length (by omega)) (px_fitS (by omega)) rfl rfl rfl rfl (Nat.le_of_ble_eq_true rfl) ?_
              refine XG.br eX9_order_94 (P := (nI (5 ^ L.length)) ≤ (nI (5 ^ L.length))) (r := []) rfl (tgt := 153) (by decide) (fun h94 => ?_) (fun h94 => ?_)
              · skip
                have g94 : (5 ^ L.length) ≤ (5 ^ L.length) := (nI_leI (a := (5 ^ L.length)) (b := (5 ^ L.length)) (by omega) (by omega)).mp h94
                refine XG.blk tX9_order_ok 83 2 (pc' := 155) (pl' := [some (.ref 0), some (.int (-1)), some (.int (nI (5 ^ L.length))), none]) (st' := [(.int (-1)), (.int (-1))]) (W1 := (mW v9 a9 b)) (bs := []) rfl rfl rfl ?_
                refine XG.br eX9_order_155 (P := ¬ (-1) = (-1)) (r := []) rfl (tgt := 165) (by decide) (fun h155 => ?_) (fun h155 => ?_)
                · exfalso
                  first | exact h116 (by decide) | exact (one_ne.mp h74) hok | exact hp1 h155 | exact h155 rfl | exact hp1 (Decidable.not_not.mp h155)
                · skip
                  have h155 := Decidable.not_not.mp h155
                  have q6 : (v9 67) = (itN (orF v a lv sp sl cr L) (v 67, -1) (5 ^ L.length)).1 := h67
                  refine XG.blk tX9_order_ok 86 2 (pc' := 162) (pl' := [some (.ref 0), some (.int (-1)), some (.int (nI (5 ^ L.length))), none]) (st' := [(.int (v9 67))]) (W1 := (mW v9 a9 b)) (bs := []) rfl rfl rfl ?_
                  simp only [q6]
                  refine XG.goto eX9_order_162 (tgt := 188) (by decide) ?_
                  refine XS.iret eX9_order_188 rfl rfl ?_
                  exact ⟨_, _, rfl, hQ9, rfl⟩
              · exfalso
                have g94 : ¬ (5 ^ L.length) ≤ (5 ^ L.length) := (fun z => h94 ((nI_leI (a := (5 ^ L.length)) (b := (5 ^ L.length)) (by omega) (by omega)).mpr z))
                omega
            · intro j hj ihj v9 a9 hQ9 h66 h65 h67 h68
              have I9 := hQ9.MI I
              obtain ⟨hlv9, -, hsp9, -, -, hsl9, -, hcr9, -⟩ := id I9
              have q7 : (v9 66) = (nI L.length) := h66
              refine XG.blk tX9_order_ok 50 3 (pc' := 91) (pl' := [some (.ref 0), some (.int (-1)), some (.int (nI j)), none]) (st' := [(.int (v9 66)), (.int (nI j))]) (W1 := (mW v9 a9 b)) (bs := []) rfl rfl rfl ?_
              simp only [q7]
              refine XG.callSp (r := some (.int (nI (5 ^ L.length)))) eX9_order_91 kl_X9_430 (con_fives (d - 1) L.length (by omega)) (px_fitS (by omega)) rfl rfl rfl rfl (Nat.le_of_ble_eq_true rfl) ?_
              refine XG.br eX9_order_94 (P := (nI (5 ^ L.length)) ≤ (nI j)) (r := []) rfl (tgt := 153) (by decide) (fun h94 => ?_) (fun h94 => ?_)
              · exfalso
                have g94 : (5 ^ L.length) ≤ j := (nI_leI (a := (5 ^ L.length)) (b := j) (by omega) (by omega)).mp h94
                omega
              · skip
                have g94 : ¬ (5 ^ L.length) ≤ j := (fun z => h94 ((nI_leI (a := (5 ^ L.length)) (b := j) (by omega) (by omega)).mpr z))
                refine XG.blk tX9_order_ok 55 2 (pc' := 99) (pl' := [some (.ref 0), some (.int (-1)), some (.int (nI j)), none]) (st' := [(.int (nI j)), (.ref 0)]) (W1 := (mW v9 a9 b)) (bs := []) rfl rfl rfl ?_
                refine XG.callV0 eX9_order_99 kl_X9_451 (con_isOrder (d - 1) v9 a9 b L.length j h66 hL5 (by omega) (by omega)) (px_fitS (by omega)) rfl rfl rfl (Nat.le_of_ble_eq_true rfl) (fun r9 W9 hp9 hl9 => ?_)
                obtain ⟨rfl, rfl⟩ := hp9
                refine XG.br eX9_order_102 (P := (if okO L.length j then 1 else 0) = 0) (r := []) rfl (tgt := 113) (by decide) (fun h102 => ?_) (fun h102 => ?_)
                · skip
                  refine XG.blk tX9_order_ok 63 3 (pc' := 116) (pl' := [some (.ref 0), some (.int (-1)), some (.int (nI j)), some (.int (-1))]) (st' := [(.int (-1))]) (W1 := (mW v9 a9 b)) (bs := []) rfl rfl rfl ?_
                  refine XG.br eX9_order_116 (P := (-1) < 0) (r := []) rfl (tgt := 147) (by decide) (fun h116 => ?_) (fun h116 => ?_)
                  · skip
                    have q8 : ((nI j) + (nI 1)) = (nI (j + 1)) := px_eadd rfl rfl
                    refine XG.blk tX9_order_ok 81 1 (pc' := 150) (pl' := [some (.ref 0), some (.int (-1)), some (.int ((nI j) + (nI 1))), some (.int (-1))]) (st' := []) (W1 := (mW v9 a9 b)) (bs := []) rfl rfl rfl ?_
                    simp only [q8]
                    refine XG.goto eX9_order_150 (tgt := 86) (by decide) ?_
                    rw [show (itN (orF v a lv sp sl cr L) (v 67, -1) (j + 1)) = (itN (orF v a lv sp sl cr L) (v 67, -1) j) from if_neg (fun hc => (one_ne.mp h102) (of_decide_eq_true hc.1).1)] at ihj
                    refine XG.weak (pl' := [some (.ref 0), some (.int (-1)), some (.int (nI (j + 1))), none]) ⟨rfl, rfl, rfl, trivial⟩ ?_
                    exact ihj v9 a9 hQ9 h66 h65 h67 h68
                  · exfalso
                    first | exact h116 (by decide) | exact (one_ne.mp h74) hok | exact hp1 h155 | exact h155 rfl | exact hp1 (Decidable.not_not.mp h155)
                · skip
                  have ok9 : okO L.length j := Decidable.not_not.mp (fun z => h102 (one_ne.mpr z))
                  refine XG.blk tX9_order_ok 59 2 (pc' := 107) (pl' := [some (.ref 0), some (.int (-1)), some (.int (nI j)), none]) (st' := [(.int (nI j)), (.ref 0)]) (W1 := (mW v9 a9 b)) (bs := []) rfl rfl rfl ?_
                  refine XG.callV0 eX9_order_107 kl_X9_454 (con_tbQ (d - 1) v v9 a a9 b hQ9 lv sp sl cr I hwf L j h66 hL5 (by omega) h65 hLc ok9 (by omega)) (px_fitS (by omega)) rfl rfl rfl (Nat.le_of_ble_eq_true rfl) (fun r9 W9 hp9 hl9 => ?_)
                  obtain ⟨v21, a21, rfl, hQ21, hv21, e65_21, rfl⟩ := hp9
                  refine XG.goto eX9_order_110 (tgt := 114) (by decide) ?_
                  refine XG.blk tX9_order_ok 64 2 (pc' := 116) (pl' := [some (.ref 0), some (.int (-1)), some (.int (nI j)), some (.int (tbV v a lv sp sl cr L.length (fun i => L.getD i 0) j))]) (st' := [(.int (tbV v a lv sp sl cr L.length (fun i => L.getD i 0) j))]) (W1 := (mW v21 a21 b)) (bs := []) rfl rfl rfl ?_
                  refine XG.br eX9_order_116 (P := (tbV v a lv sp sl cr L.length (fun i => L.getD i 0) j) < 0) (r := []) rfl (tgt := 147) (by decide) (fun h116 => ?_) (fun h116 => ?_)
                  · skip
                    have q9 : ((nI j) + (nI 1)) = (nI (j + 1)) := px_eadd rfl rfl
                    refine XG.blk tX9_order_ok 81 1 (pc' := 150) (pl' := [some (.ref 0), some (.int (-1)), some (.int ((nI j) + (nI 1))), some (.int (tbV v a lv sp sl cr L.length (fun i => L.getD i 0) j))]) (st' := []) (W1 := (mW v21 a21 b)) (bs := []) rfl rfl rfl ?_
                    simp only [q9]
                    refine XG.goto eX9_order_150 (tgt := 86) (by decide) ?_
                    rw [show (itN (orF v a lv sp sl cr L) (v 67, -1) (j + 1)) = (itN (orF v a lv sp sl cr L) (v 67, -1) j) from if_neg (fun hc => (of_decide_eq_true hc.1).2 h116)] at ihj
                    refine XG.weak (pl' := [some (.ref 0), some (.int (-1)), some (.int (nI (j + 1))), none]) ⟨rfl, rfl, rfl, trivial⟩ ?_
                    exact ihj v21 a21 hQ21 ((hv21 66 (by decide)).trans h66) (by rw [e65_21]; exact h65) ((hv21 67 (by decide)).trans h67) ((hv21 68 (by decide)).trans h68)
                  · skip
                    have q10 : (v21 68) = (itN (orF v a lv sp sl cr L) (v 67, -1) j).2 := (hv21 68 (by decide)).trans h68
                    refine XG.blk tX9_order_ok 67 2 (pc' := 123) (pl' := [some (.ref 0), some (.int (-1)), some (.int (nI j)), some (.int (tbV v a lv sp sl cr L.length (fun i => L.getD i 0) j))]) (st' := [(.int (v21 68))]) (W1 := (mW v21 a21 b)) (bs := []) rfl rfl rfl ?_
                    simp only [q10]
                    refine XG.br eX9_order_123 (P := (itN (orF v a lv sp sl cr L) (v 67, -1) j).2 < 0) (r := []) rfl (tgt := 137) (by decide) (fun h123 => ?_) (fun h123 => ?_)
                    · skip
                      have q11 : ((nI j) + (nI 1)) = (nI (j + 1)) := px_eadd rfl rfl
                      refine XG.blk tX9_order_ok 75 7 (pc' := 150) (pl' := [some (.ref 0), some (.int (-1)), some (.int ((nI j) + (nI 1))), some (.int (tbV v a lv sp sl cr L.length (fun i => L.getD i 0) j))]) (st' := []) (W1 := (mW (va_up (va_up v21 67 (tbV v a lv sp sl cr L.length (fun i => L.getD i 0) j)) 68 (nI j)) a21 b)) (bs := []) rfl rfl rfl ?_
                      simp only [q11]
                      refine XG.goto eX9_order_150 (tgt := 86) (by decide) ?_
                      rw [show (itN (orF v a lv sp sl cr L) (v 67, -1) (j + 1)) = ((tbV v a lv sp sl cr L.length (fun i => L.getD i 0) j), nI j) from if_pos ⟨decide_eq_true ⟨ok9, h116⟩, Or.inl h123⟩] at ihj
                      refine XG.weak (pl' := [some (.ref 0), some (.int (-1)), some (.int (nI (j + 1))), none]) ⟨rfl, rfl, rfl, trivial⟩ ?_
                      exact ihj (va_up (va_up v21 67 (tbV v a lv sp sl cr L.length (fun i => L.getD i 0) j)) 68 (nI j)) a21 ⟨(hQ21.1.tr (chg.up (by decide))).tr (chg.up (by decide)), hQ21.2⟩ ((hv21 66 (by decide)).trans h66) (by rw [e65_21]; exact h65) rfl rfl
                    · skip
                      have q12 : (v21 67) = (itN (orF v a lv sp sl cr L) (v 67, -1) j).1 := (hv21 67 (by decide)).trans h67
                      refine XG.blk tX9_order_ok 70 3 (pc' := 131) (pl' := [some (.ref 0), some (.int (-1)), some (.int (nI j)), some (.int (tbV v a lv sp sl cr L.length (fun i => L.getD i 0) j))]) (st' := [(.int (v21 67)), (.int (tbV v a lv sp sl cr L.length (fun i => L.getD i 0) j))]) (W1 := (mW v21 a21 b)) (bs := []) rfl rfl rfl ?_
                      simp only [q12]
                      refine XG.br eX9_order_131 (P := (itN (orF v a lv sp sl cr L) (v 67, -1) j).1 < (tbV v a lv sp sl cr L.length (fun i => L.getD i 0) j)) (r := []) rfl (tgt := 137) (by decide) (fun h131 => ?_) (fun h131 => ?_)
                      · skip
                        have q13 : ((nI j) + (nI 1)) = (nI (j + 1)) := px_eadd rfl rfl
                        refine XG.blk tX9_order_ok 75 7 (pc' := 150) (pl' := [some (.ref 0), some (.int (-1)), some (.int ((nI j) + (nI 1))), some (.int (tbV v a lv sp sl cr L.length (fun i => L.getD i 0) j))]) (st' := []) (W1 := (mW (va_up (va_up v21 67 (tbV v a lv sp sl cr L.length (fun i => L.getD i 0) j)) 68 (nI j)) a21 b)) (bs := []) rfl rfl rfl ?_
                        simp only [q13]
                        refine XG.goto eX9_order_150 (tgt := 86) (by decide) ?_
                        rw [show (itN (orF v a lv sp sl cr L) (v 67, -1) (j + 1)) = ((tbV v a lv sp sl cr L.length (fun i => L.getD i 0) j), nI j) from if_pos ⟨decide_eq_true ⟨ok9, h116⟩, Or.inr h131⟩] at ihj
                        refine XG.weak (pl' := [some (.ref 0), some (.int (-1)), some (.int (nI (j + 1))), none]) ⟨rfl, rfl, rfl, trivial⟩ ?_
                        exact ihj (va_up (va_up v21 67 (tbV v a lv sp sl cr L.length (fun i => L.getD i 0) j)) 68 (nI j)) a21 ⟨(hQ21.1.tr (chg.up (by decide))).tr (chg.up (by decide)), hQ21.2⟩ ((hv21 66 (by decide)).trans h66) (by rw [e65_21]; exact h65) rfl rfl
                      · skip
                        refine XG.goto eX9_order_134 (tgt := 147) (by decide) ?_
                        have q14 : ((nI j) + (nI 1)) = (nI (j + 1)) := px_eadd rfl rfl
                        refine XG.blk tX9_order_ok 81 1 (pc' := 150) (pl' := [some (.ref 0), some (.int (-1)), some (.int ((nI j) + (nI 1))), some (.int (tbV v a lv sp sl cr L.length (fun i => L.getD i 0) j))]) (st' := []) (W1 := (mW v21 a21 b)) (bs := []) rfl rfl rfl ?_
                        simp only [q14]
                        refine XG.goto eX9_order_150 (tgt := 86) (by decide) ?_
                        rw [show (itN (orF v a lv sp sl cr L) (v 67, -1) (j + 1)) = (itN (orF v a lv sp sl cr L) (v 67, -1) j) from if_neg (fun hc => hc.2.elim h123 h131)] at ihj
                        refine XG.weak (pl' := [some (.ref 0), some (.int (-1)), some (.int (nI (j + 1))), none]) ⟨rfl, rfl, rfl, trivial⟩ ?_
                        exact ihj v21 a21 hQ21 ((hv21 66 (by decide)).trans h66) (by rw [e65_21]; exact h65) ((hv21 67 (by decide)).trans h67) ((hv21 68 (by decide)).trans h68)
          · exfalso
            have h74 := Decidable.not_not.mp h74
            first | exact h116 (by decide) | exact (one_ne.mp h74) hok | exact hp1 h155 | exact h155 rfl | exact hp1 (Decidable.not_not.mp h155)
        · exfalso
          have g17 : ¬ cr ≤ cr := (fun z => h17 ((nI_leI (a := cr) (b := cr) (by omega) (by omega)).mpr z))
          omega
      · intro i hi ihi v9 a9 hQ9 h66 h65 h67
        have I9 := hQ9.MI I
        obtain ⟨hlv9, -, hsp9, -, -, hsl9, -, hcr9, -⟩ := id I9
        have hli := hmL_len (a 54) i
        have q15 : (v9 18) = (nI lv) := hlv9
        have q16 : (nI lv).toNatClampNeg = lv := nI_clamp (by omega)
        have q17 : ((a9 31) lv) = (nI cr) := hcr9
        refine XG.blk tX9_order_ok 5 6 (pc' := 17) (pl' := [some (.ref 0), some (.int (-1)), some (.int (nI i)), none]) (st' := [(.int ((a9 31) (v9 18).toNatClampNeg)), (.int (nI i))]) (W1 := (mW v9 a9 b)) (bs := [px_vb (v9 18) 2]) rfl rfl (by (try simp only [q15, q16, q17]); exact (px_all (px_vbN (by omega) (by decide)) rfl)) ?_
        simp only [q15, q16, q17]
        refine XG.br eX9_order_17 (P := (nI cr) ≤ (nI i)) (r := []) rfl (tgt := 63) (by decide) (fun h17 => ?_) (fun h17 => ?_)
        · exfalso
          have g17 : cr ≤ i := (nI_leI (a := cr) (b := i) (by omega) (by omega)).mp h17
          omega
        · skip
          have g17 : ¬ cr ≤ i := (fun z => h17 ((nI_leI (a := cr) (b := i) (by omega) (by omega)).mpr z))
          have q18 : ((nI 18) + (nI i)) = (nI (18 + i)) := px_eadd rfl rfl
          have q19 : (a9 54) = (a 54) := hQ9.2 54 (by decide)
          have q20 : (nI (18 + i)).toNatClampNeg = (18 + i) := nI_clamp (by omega)
          refine XG.blk tX9_order_ok 12 7 (pc' := 31) (pl' := [some (.ref 0), some (.int (-1)), some (.int (nI i)), none]) (st' := [(.int (-2)), (.int ((a9 54) ((nI 18) + (nI i)).toNatClampNeg))]) (W1 := (mW v9 a9 b)) (bs := [px_vb ((nI 18) + (nI i)) 32]) rfl rfl (by (try simp only [q18, q19, q20]); exact (px_all (px_vbN (by omega) (by decide)) rfl)) ?_
          simp only [q18, q19, q20]
          refine XG.br eX9_order_31 (P := ((a 54) (18 + i)) = (-2)) (r := []) rfl (tgt := 37) (by decide) (fun h31 => ?_) (fun h31 => ?_)
          · skip
            have q21 : (v9 66) = (nI ((hmL (a 54) i).length)) := h66
            have q22 : (nI ((hmL (a 54) i).length)).toNatClampNeg = ((hmL (a 54) i).length) := nI_clamp (by omega)
            have q23 : ((nI ((hmL (a 54) i).length)) + (nI 1)) = (nI (((hmL (a 54) i).length) + 1)) := px_eadd rfl rfl
            have q24 : ((nI i) + (nI 1)) = (nI (i + 1)) := px_eadd rfl rfl
            refine XG.blk tX9_order_ok 21 13 (pc' := 60) (pl' := [some (.ref 0), some (.int (-1)), some (.int ((nI i) + (nI 1))), none]) (st' := []) (W1 := (mW (va_up v9 66 ((v9 66) + (nI 1))) (va_up a9 65 (upd (a9 65) (v9 66).toNatClampNeg (nI i))) b)) (bs := [px_vb (v9 66) 5]) rfl rfl (by (try simp only [q21, q22, q23, q24]); exact (px_all (px_vbN (by omega) (by decide)) rfl)) ?_
            simp only [q21, q22, q23, q24]
            refine XG.goto eX9_order_60 (tgt := 7) (by decide) ?_
            have eS : (hmL (a 54) (i + 1)) = (hmL (a 54) i) ++ [i] := (hmL_s _ _).trans (if_pos h31)
            rw [eS] at ihi
            exact ihi (va_up v9 66 (nI (((hmL (a 54) i).length) + 1))) (va_up a9 65 (upd (a9 65) ((hmL (a 54) i).length) (nI i))) ⟨hQ9.1.tr (chg.up (by decide)), hQ9.2.tr (chg.up (by decide))⟩ (by rw [List.length_append]; rfl) (atL_s h65 i) h67
          · skip
            refine XG.goto eX9_order_34 (tgt := 57) (by decide) ?_
            have q25 : ((nI i) + (nI 1)) = (nI (i + 1)) := px_eadd rfl rfl
            refine XG.blk tX9_order_ok 33 1 (pc' := 60) (pl' := [some (.ref 0), some (.int (-1)), some (.int ((nI i) + (nI 1))), none]) (st' := []) (W1 := (mW v9 a9 b)) (bs := []) rfl rfl rfl ?_
            simp only [q25]
            refine XG.goto eX9_order_60 (tgt := 7) (by decide) ?_
            have eS : (hmL (a 54) (i + 1)) = (hmL (a 54) i) := (hmL_s _ _).trans (if_neg h31)
            rw [eS] at ihi
            exact ihi v9 a9 hQ9 h66 h65 h67
    · obtain ⟨x, hx, rfl⟩ := px_vb_ex (okI_vb hL5 hok hp1) (by omega)
      have hdg := (ok9w x hx).1
      have hdl := dig_lt w9 (L.length - 1 - x)
      have eA : qOrder (v 67) v a lv sp sl cr (nI x) = nI (L.getD (dig w9 (L.length - 1 - x)) 0) := by unfold qOrder; rw [← eL, if_pos hok, if_neg hp1, nI_clamp (by omega), eR9, nI_clamp (by omega)]
      simp only [eA]
      refine XG.blk tX9_order_ok 0 5 (pc' := 7) (pl' := [some (.ref 0), some (.int (nI x)), some (.int (nI 0)), none]) (st' := []) (W1 := (mW (va_up v 66 (nI 0)) a b)) (bs := []) rfl rfl rfl ?_
      refine px_for cr (fun i => ∀ (v9 : Nat → Int32) (a9 : Nat → Nat → Int32) (hQ9 : Qs v v9 a a9) (h66 : v9 66 = nI (hmL (a 54) i).length) (h65 : atL (hmL (a 54) i) (a9 65)) (h67 : v9 67 = v 67), XG mX9_order _ 0 0 7 [some (.ref 0), some (.int (nI x)), some (.int (nI i)), none] [] (mW v9 a9 b)) ?_ ?_ 0 (Nat.zero_le _) _ _ (⟨chg.up (by decide), chg.rf⟩) rfl (fun j hj => absurd hj (Nat.not_lt_zero _)) rfl
      · intro v9 a9 hQ9 h66 h65 h67
        have I9 := hQ9.MI I
        obtain ⟨hlv9, -, hsp9, -, -, hsl9, -, hcr9, -⟩ := id I9
        rw [← eL] at h66 h65
        have q1 : (v9 18) = (nI lv) := hlv9
        have q2 : (nI lv).toNatClampNeg = lv := nI_clamp (by omega)
        have q3 : ((a9 31) lv) = (nI cr) := hcr9
        refine XG.blk tX9_order_ok 5 6 (pc' := 17) (pl' := [some (.ref 0), some (.int (nI x)), some (.int (nI cr)), none]) (st' := [(.int ((a9 31) (v9 18).toNatClampNeg)), (.int (nI cr))]) (W1 := (mW v9 a9 b)) (bs := [px_vb (v9 18) 2]) rfl rfl (by (try simp only [q1, q2, q3]); exact (px_all (px_vbN (by omega) (by decide)) rfl)) ?_
        simp only [q1, q2, q3]
        refine XG.br eX9_order_17 (P := (nI cr) ≤ (nI cr)) (r := []) rfl (tgt := 63) (by decide) (fun h17 => ?_) (fun h17 => ?_)
        · skip
          have g17 : cr ≤ cr := (nI_leI (a := cr) (b := cr) (by omega) (by omega)).mp h17
          have q4 : (v9 66) = (nI L.length) := h66
          refine XG.blk tX9_order_ok 35 6 (pc' := 71) (pl' := [some (.ref 0), some (.int (nI x)), some (.int (nI cr)), none]) (st' := [(.int ((v9 66) - (nI 1))), (.int (-1)), (.int (nI x))]) (W1 := (mW v9 a9 b)) (bs := []) rfl rfl rfl ?_
          simp only [q4]
          refine XG.callSp (r := some (.int (if (-1) ≤ (nI x) ∧ (nI x) ≤ ((nI L.length) - (nI 1)) then 1 else 0))) eX9_order_71 kl_X9_331 (con_in (d - 1) (nI x) (-1) ((nI L.length) - (nI 1))) (px_fitS (by omega)) rfl rfl rfl rfl (Nat.le_of_ble_eq_true rfl) ?_
          refine XG.br eX9_order_74 (P := ¬ (if (-1) ≤ (nI x) ∧ (nI x) ≤ ((nI L.length) - (nI 1)) then 1 else 0) = 0) (r := []) rfl (tgt := 79) (by decide) (fun h74 => ?_) (fun h74 => ?_)
          · skip
            refine XG.blk tX9_order_ok 45 5 (pc' := 86) (pl' := [some (.ref 0), some (.int (nI x)), some (.int (nI 0)), none]) (st' := []) (W1 := (mW (va_up v9 68 (-1)) a9 b)) (bs := []) rfl rfl rfl ?_
            refine px_for (5 ^ L.length) (fun j => ∀ (v9 : Nat → Int32) (a9 : Nat → Nat → Int32) (hQ9 : Qs v v9 a a9) (h66 : v9 66 = nI L.length) (h65 : atL L (a9 65)) (h67 : v9 67 = (itN (orF v a lv sp sl cr L) (v 67, -1) j).1) (h68 : v9 68 = (itN (orF v a lv sp sl cr L) (v 67, -1) j).2), XG mX9_order _ 0 0 86 [some (.ref 0), some (.int (nI x)), some (.int (nI j)), none] [] (mW v9 a9 b)) ?_ ?_ 0 (Nat.zero_le _) (va_up v9 68 (-1)) a9 (⟨hQ9.1.tr (chg.up (by decide)), hQ9.2⟩) h66 h65 h67 rfl
            · intro v9 a9 hQ9 h66 h65 h67 h68
              have I9 := hQ9.MI I
              obtain ⟨hlv9, -, hsp9, -, -, hsl9, -, hcr9, -⟩ := id I9
              have q5 : (v9 66) = (nI L.length) := h66
              refine XG.blk tX9_order_ok 50 3 (pc' := 91) (pl' := [some (.ref 0), some (.int (nI x)), some (.int (nI (5 ^ L.length))), none]) (st' := [(.int (v9 66)), (.int (nI (5 ^ L.length)))]) (W1 := (mW v9 a9 b)) (bs := []) rfl rfl rfl ?_
              simp only [q5]
              refine XG.callSp (r := some (.int (nI (5 ^ L.length)))) eX9_order_91 kl_X9_430 (con_fives (d - 1) L.length (by omega)) (px_fitS (by omega)) rfl rfl rfl rfl (Nat.le_of_ble_eq_true rfl) ?_
              refine XG.br eX9_order_94 (P := (nI (5 ^ L.length)) ≤ (nI (5 ^ L.length))) (r := []) rfl (tgt := 153) (by decide) (fun h94 => ?_) (fun h94 => ?_)
              · skip
                have g94 : (5 ^ L.length) ≤ (5 ^ L.length) := (nI_leI (a := (5 ^ L.length)) (b := (5 ^ L.length)) (by omega) (by omega)).mp h94
                refine XG.blk tX9_order_ok 83 2 (pc' := 155) (pl' := [some (.ref 0), some (.int (nI x)), some (.int (nI (5 ^ L.length))), none]) (st' := [(.int (-1)), (.int (nI x))]) (W1 := (mW v9 a9 b)) (bs := []) rfl rfl rfl ?_
                refine XG.br eX9_order_155 (P := ¬ (nI x) = (-1)) (r := []) rfl (tgt := 165) (by decide) (fun h155 => ?_) (fun h155 => ?_)
                · skip
                  have q6 : (v9 68) = (nI w9) := h68.trans (congrArg Prod.snd eR9)
                  have q7 : (v9 66) = (nI L.length) := h66
                  have q8 : ((nI L.length) - (nI 1)) = (nI (L.length - 1)) := px_esub rfl rfl (by omega)
                  have q9 : ((nI (L.length - 1)) - (nI x)) = (nI ((L.length - 1) - x)) := px_esub rfl rfl (by omega)
                  refine XG.blk tX9_order_ok 89 10 (pc' := 181) (pl' := [some (.ref 0), some (.int (nI x)), some (.int (nI (5 ^ L.length))), none]) (st' := [(.int (((v9 66) - (nI 1)) - (nI x))), (.int (v9 68)), (.ref 43)]) (W1 := (mW v9 a9 b)) (bs := []) rfl rfl rfl ?_
                  simp only [q6, q7, q8, q9]
                  refine XG.callSp (r := some (.int (nI (5 ^ ((L.length - 1) - x))))) eX9_order_181 kl_X9_430 (con_fives (d - 1) ((L.length - 1) - x) (by omega)) (px_fitS (by omega)) rfl rfl rfl rfl (Nat.le_of_ble_eq_true rfl) ?_
                  have q10 : (((nI w9) / (nI (5 ^ ((L.length - 1) - x)))) - ((nI w9) / (nI (5 ^ ((L.length - 1) - x)))) / (nI 5) * (nI 5)) = (nI (dig w9 ((L.length - 1) - x))) := dig_eq (by omega) (by omega)
                  have q11 : (nI (dig w9 ((L.length - 1) - x))).toNatClampNeg = (dig w9 ((L.length - 1) - x)) := nI_clamp (by omega)
                  have q12 : ((a9 65) (dig w9 ((L.length - 1) - x))) = (nI (L.getD (dig w9 ((L.length - 1) - x)) 0)) := h65 _ hdg
                  refine XG.blk tX9_order_ok 100 4 (pc' := 188) (pl' := [some (.ref 0), some (.int (nI x)), some (.int (nI (5 ^ L.length))), none]) (st' := [(.int ((a9 65) (((nI w9) / (nI (5 ^ ((L.length - 1) - x)))) - ((nI w9) / (nI (5 ^ ((L.length - 1) - x)))) / (nI 5) * (nI 5)).toNatClampNeg))]) (W1 := (mW v9 a9 b)) (bs := [!((nI (5 ^ ((L.length - 1) - x))) == 0), !((nI 5) == 0), px_vb (((nI w9) / (nI (5 ^ ((L.length - 1) - x)))) - ((nI w9) / (nI (5 ^ ((L.length - 1) - x)))) / (nI 5) * (nI 5)) 5]) rfl rfl (by (try simp only [q10, q11, q12]); exact (px_all ((nz5 (by omega))) (px_all (rfl) (px_all (px_vbN (by omega) (by decide)) rfl)))) ?_
                  simp only [q10, q11, q12]
                  refine XS.iret eX9_order_188 rfl rfl ?_
                  exact ⟨_, _, rfl, hQ9, rfl⟩
                · exfalso
                  have h155 := Decidable.not_not.mp h155
                  first | exact h116 (by decide) | exact (one_ne.mp h74) hok | exact hp1 h155 | exact h155 rfl | exact hp1 (Decidable.not_not.mp h155)
              · exfalso
                have g94 : ¬ (5 ^ L.length) ≤ (5 ^ L.length) := (fun z => h94 ((nI_leI (a := (5 ^ L.length)) (b := (5 ^ L.length)) (by omega) (by omega)).mpr z))
                omega
            · intro j hj ihj v9 a9 hQ9 h66 h65 h67 h68
              have I9 := hQ9.MI I
              obtain ⟨hlv9, -, hsp9, -, -, hsl9, -, hcr9, -⟩ := id I9
              have q13 : (v9 66) = (nI L.length) := h66
              refine XG.blk tX9_order_ok 50 3 (pc' := 91) (pl' := [some (.ref 0), some (.int (nI x)), some (.int (nI j)), none]) (st' := [(.int (v9 66)), (.int (nI j))]) (W1 := (mW v9 a9 b)) (bs := []) rfl rfl rfl ?_
              simp only [q13]
              refine XG.callSp (r := some (.int (nI (5 ^ L.length)))) eX9_order_91 kl_X9_430 (con_fives (d - 1) L.length (by omega)) (px_fitS (by omega)) rfl rfl rfl rfl (Nat.le_of_ble_eq_true rfl) ?_
              refine XG.br eX9_order_94 (P := (nI (5 ^ L.length)) ≤ (nI j)) (r := []) rfl (tgt := 153) (by decide) (fun h94 => ?_) (fun h94 => ?_)
              · exfalso
                have g94 : (5 ^ L.length) ≤ j := (nI_leI (a := (5 ^ L.length)) (b := j) (by omega) (by omega)).mp h94
                omega
              · skip
                have g94 : ¬ (5 ^ L.length) ≤ j := (fun z => h94 ((nI_leI (a := (5 ^ L.length)) (b := j) (by omega) (by omega)).mpr z))
                refine XG.blk tX9_order_ok 55 2 (pc' := 99) (pl' := [some (.ref 0), some (.int (nI x)), some (.int (nI j)), none]) (st' := [(.int (nI j)), (.ref 0)]) (W1 := (mW v9 a9 b)) (bs := []) rfl rfl rfl ?_
                refine XG.callV0 eX9_order_99 kl_X9_451 (con_isOrder (d - 1) v9 a9 b L.length j h66 hL5 (by omega) (by omega)) (px_fitS (by omega)) rfl rfl rfl (Nat.le_of_ble_eq_true rfl) (fun r9 W9 hp9 hl9 => ?_)
                obtain ⟨rfl, rfl⟩ := hp9
                refine XG.br eX9_order_102 (P := (if okO L.length j then 1 else 0) = 0) (r := []) rfl (tgt := 113) (by decide) (fun h102 => ?_) (fun h102 => ?_)
                · skip
                  refine XG.blk tX9_order_ok 63 3 (pc' := 116) (pl' := [some (.ref 0), some (.int (nI x)), some (.int (nI j)), some (.int (-1))]) (st' := [(.int (-1))]) (W1 := (mW v9 a9 b)) (bs := []) rfl rfl rfl ?_
                  refine XG.br eX9_order_116 (P := (-1) < 0) (r := []) rfl (tgt := 147) (by decide) (fun h116 => ?_) (fun h116 => ?_)
                  · skip
                    have q14 : ((nI j) + (nI 1)) = (nI (j + 1)) := px_eadd rfl rfl
                    refine XG.blk tX9_order_ok 81 1 (pc' := 150) (pl' := [some (.ref 0), some (.int (nI x)), some (.int ((nI j) + (nI 1))), some (.int (-1))]) (st' := []) (W1 := (mW v9 a9 b)) (bs := []) rfl rfl rfl ?_
                    simp only [q14]
                    refine XG.goto eX9_order_150 (tgt := 86) (by decide) ?_
                    rw [show (itN (orF v a lv sp sl cr L) (v 67, -1) (j + 1)) = (itN (orF v a lv sp sl cr L) (v 67, -1) j) from if_neg (fun hc => (one_ne.mp h102) (of_decide_eq_true hc.1).1)] at ihj
                    refine XG.weak (pl' := [some (.ref 0), some (.int (nI x)), some (.int (nI (j + 1))), none]) ⟨rfl, rfl, rfl, trivial⟩ ?_
                    exact ihj v9 a9 hQ9 h66 h65 h67 h68
                  · exfalso
                    first | exact h116 (by decide) | exact (one_ne.mp h74) hok | exact hp1 h155 | exact h155 rfl | exact hp1 (Decidable.not_not.mp h155)
                · skip
                  have ok9 : okO L.length j := Decidable.not_not.mp (fun z => h102 (one_ne.mpr z))
                  refine XG.blk tX9_order_ok 59 2 (pc' := 107) (pl' := [some (.ref 0), some (.int (nI x)), some (.int (nI j)), none]) (st' := [(.int (nI j)), (.ref 0)]) (W1 := (mW v9 a9 b)) (bs := []) rfl rfl rfl ?_
                  refine XG.callV0 eX9_order_107 kl_X9_454 (con_tbQ (d - 1) v v9 a a9 b hQ9 lv sp sl cr I hwf L j h66 hL5 (by omega) h65 hLc ok9 (by omega)) (px_fitS (by omega)) rfl rfl rfl (Nat.le_of_ble_eq_true rfl) (fun r9 W9 hp9 hl9 => ?_)
                  obtain ⟨v21, a21, rfl, hQ21, hv21, e65_21, rfl⟩ := hp9
                  refine XG.goto eX9_order_110 (tgt := 114) (by decide) ?_
                  refine XG.blk tX9_order_ok 64 2 (pc' := 116) (pl' := [some (.ref 0), some (.int (nI x)), some (.int (nI j)), some (.int (tbV v a lv sp sl cr L.length (fun i => L.getD i 0) j))]) (st' := [(.int (tbV v a lv sp sl cr L.length (fun i => L.getD i 0) j))]) (W1 := (mW v21 a21 b)) (bs := []) rfl rfl rfl ?_
                  refine XG.br eX9_order_116 (P := (tbV v a lv sp sl cr L.length (fun i => L.getD i 0) j) < 0) (r := []) rfl (tgt := 147) (by decide) (fun h116 => ?_) (fun h116 => ?_)
                  · skip
                    have q15 : ((nI j) + (nI 1)) = (nI (j + 1)) := px_eadd rfl rfl
                    refine XG.blk tX9_order_ok 81 1 (pc' := 150) (pl' := [some (.ref 0), some (.int (nI x)), some (.int ((nI j) + (nI 1))), some (.int (tbV v a lv sp sl cr L.length (fun i => L.getD i 0) j))]) (st' := []) (W1 := (mW v21 a21 b)) (bs := []) rfl rfl rfl ?_
                    simp only [q15]
                    refine XG.goto eX9_order_150 (tgt := 86) (by decide) ?_
                    rw [show (itN (orF v a lv sp sl cr L) (v 67, -1) (j + 1)) = (itN (orF v a lv sp sl cr L) (v 67, -1) j) from if_neg (fun hc => (of_decide_eq_true hc.1).2 h116)] at ihj
                    refine XG.weak (pl' := [some (.ref 0), some (.int (nI x)), some (.int (nI (j + 1))), none]) ⟨rfl, rfl, rfl, trivial⟩ ?_
                    exact ihj v21 a21 hQ21 ((hv21 66 (by decide)).trans h66) (by rw [e65_21]; exact h65) ((hv21 67 (by decide)).trans h67) ((hv21 68 (by decide)).trans h68)
                  · skip
                    have q16 : (v21 68) = (itN (orF v a lv sp sl cr L) (v 67, -1) j).2 := (hv21 68 (by decide)).trans h68
                    refine XG.blk tX9_order_ok 67 2 (pc' := 123) (pl' := [some (.ref 0), some (.int (nI x)), some (.int (nI j)), some (.int (tbV v a lv sp sl cr L.length (fun i => L.getD i 0) j))]) (st' := [(.int (v21 68))]) (W1 := (mW v21 a21 b)) (bs := []) rfl rfl rfl ?_
                    simp only [q16]
                    refine XG.br eX9_order_123 (P := (itN (orF v a lv sp sl cr L) (v 67, -1) j).2 < 0) (r := []) rfl (tgt := 137) (by decide) (fun h123 => ?_) (fun h123 => ?_)
                    · skip
                      have q17 : ((nI j) + (nI 1)) = (nI (j + 1)) := px_eadd rfl rfl
                      refine XG.blk tX9_order_ok 75 7 (pc' := 150) (pl' := [some (.ref 0), some (.int (nI x)), some (.int ((nI j) + (nI 1))), some (.int (tbV v a lv sp sl cr L.length (fun i => L.getD i 0) j))]) (st' := []) (W1 := (mW (va_up (va_up v21 67 (tbV v a lv sp sl cr L.length (fun i => L.getD i 0) j)) 68 (nI j)) a21 b)) (bs := []) rfl rfl rfl ?_
                      simp only [q17]
                      refine XG.goto eX9_order_150 (tgt := 86) (by decide) ?_
                      rw [show (itN (orF v a lv sp sl cr L) (v 67, -1) (j + 1)) = ((tbV v a lv sp sl cr L.length (fun i => L.getD i 0) j), nI j) from if_pos ⟨decide_eq_true ⟨ok9, h116⟩, Or.inl h123⟩] at ihj
                      refine XG.weak (pl' := [some (.ref 0), some (.int (nI x)), some (.int (nI (j + 1))), none]) ⟨rfl, rfl, rfl, trivial⟩ ?_
                      exact ihj (va_up (va_up v21 67 (tbV v a lv sp sl cr L.length (fun i => L.getD i 0) j)) 68 (nI j)) a21 ⟨(hQ21.1.tr (chg.up (by decide))).tr (chg.up (by decide)), hQ21.2⟩ ((hv21 66 (by decide)).trans h66) (by rw [e65_21]; exact h65) rfl rfl
                    · skip
                      have q18 : (v21 67) = (itN (orF v a lv sp sl cr L) (v 67, -1) j).1 := (hv21 67 (by decide)).trans h67
                      refine XG.blk tX9_order_ok 70 3 (pc' := 131) (pl' := [some (.ref 0), some (.int (nI x)), some (.int (nI j)), some (.int (tbV v a lv sp sl cr L.length (fun i => L.getD i 0) j))]) (st' := [(.int (v21 67)), (.int (tbV v a lv sp sl cr L.length (fun i => L.getD i 0) j))]) (W1 := (mW v21 a21 b)) (bs := []) rfl rfl rfl ?_
                      simp only [q18]
                      refine XG.br eX9_order_131 (P := (itN (orF v a lv sp sl cr L) (v 67, -1) j).1 < (tbV v a lv sp sl cr L.length (fun i => L.getD i 0) j)) (r := []) rfl (tgt := 137) (by decide) (fun h131 => ?_) (fun h131 => ?_)
                      · skip
                        have q19 : ((nI j) + (nI 1)) = (nI (j + 1)) := px_eadd rfl rfl
                        refine XG.blk tX9_order_ok 75 7 (pc' := 150) (pl' := [some (.ref 0), some (.int (nI x)), some (.int ((nI j) + (nI 1))), some (.int (tbV v a lv sp sl cr L.length (fun i => L.getD i 0) j))]) (st' := []) (W1 := (mW (va_up (va_up v21 67 (tbV v a lv sp sl cr L.length (fun i => L.getD i 0) j)) 68 (nI j)) a21 b)) (bs := []) rfl rfl rfl ?_
                        simp only [q19]
                        refine XG.goto eX9_order_150 (tgt := 86) (by decide) ?_
                        rw [show (itN (orF v a lv sp sl cr L) (v 67, -1) (j + 1)) = ((tbV v a lv sp sl cr L.length (fun i => L.getD i 0) j), nI j) from if_pos ⟨decide_eq_true ⟨ok9, h116⟩, Or.inr h131⟩] at ihj
                        refine XG.weak (pl' := [some (.ref 0), some (.int (nI x)), some (.int (nI (j + 1))), none]) ⟨rfl, rfl, rfl, trivial⟩ ?_
                        exact ihj (va_up (va_up v21 67 (tbV v a lv sp sl cr L.length (fun i => L.getD i 0) j)) 68 (nI j)) a21 ⟨(hQ21.1.tr (chg.up (by decide))).tr (chg.up (by decide)), hQ21.2⟩ ((hv21 66 (by decide)).trans h66) (by rw [e65_21]; exact h65) rfl rfl
                      · skip
                        refine XG.goto eX9_order_134 (tgt := 147) (by decide) ?_
                        have q20 : ((nI j) + (nI 1)) = (nI (j + 1)) := px_eadd rfl rfl
                        refine XG.blk tX9_order_ok 81 1 (pc' := 150) (pl' := [some (.ref 0), some (.int (nI x)), some (.int ((nI j) + (nI 1))), some (.int (tbV v a lv sp sl cr L.length (fun i => L.getD i 0) j))]) (st' := []) (W1 := (mW v21 a21 b)) (bs := []) rfl rfl rfl ?_
                        simp only [q20]
                        refine XG.goto eX9_order_150 (tgt := 86) (by decide) ?_
                        rw [show (itN (orF v a lv sp sl cr L) (v 67, -1) (j + 1)) = (itN (orF v a lv sp sl cr L) (v 67, -1) j) from if_neg (fun hc => hc.2.elim h123 h131)] at ihj
                        refine XG.weak (pl' := [some (.ref 0), some (.int (nI x)), some (.int (nI (j + 1))), none]) ⟨rfl, rfl, rfl, trivial⟩ ?_
                        exact ihj v21 a21 hQ21 ((hv21 66 (by decide)).trans h66) (by rw [e65_21]; exact h65) ((hv21 67 (by decide)).trans h67) ((hv21 68 (by decide)).trans h68)
          · exfalso
            have h74 := Decidable.not_not.mp h74
            first | exact h116 (by decide) | exact (one_ne.mp h74) hok | exact hp1 h155 | exact h155 rfl | exact hp1 (Decidable.not_not.mp h155)
        · exfalso
          have g17 : ¬ cr ≤ cr := (fun z => h17 ((nI_leI (a := cr) (b := cr) (by omega) (by omega)).mpr z))
          omega
      · intro i hi ihi v9 a9 hQ9 h66 h65 h67
        have I9 := hQ9.MI I
        obtain ⟨hlv9, -, hsp9, -, -, hsl9, -, hcr9, -⟩ := id I9
        have hli := hmL_len (a 54) i
        have q21 : (v9 18) = (nI lv) := hlv9
        have q22 : (nI lv).toNatClampNeg = lv := nI_clamp (by omega)
        have q23 : ((a9 31) lv) = (nI cr) := hcr9
        refine XG.blk tX9_order_ok 5 6 (pc' := 17) (pl' := [some (.ref 0), some (.int (nI x)), some (.int (nI i)), none]) (st' := [(.int ((a9 31) (v9 18).toNatClampNeg)), (.int (nI i))]) (W1 := (mW v9 a9 b)) (bs := [px_vb (v9 18) 2]) rfl rfl (by (try simp only [q21, q22, q23]); exact (px_all (px_vbN (by omega) (by decide)) rfl)) ?_
        simp only [q21, q22, q23]
        refine XG.br eX9_order_17 (P := (nI cr) ≤ (nI i)) (r := []) rfl (tgt := 63) (by decide) (fun h17 => ?_) (fun h17 => ?_)
        · exfalso
          have g17 : cr ≤ i := (nI_leI (a := cr) (b := i) (by omega) (by omega)).mp h17
          omega
        · skip
          have g17 : ¬ cr ≤ i := (fun z => h17 ((nI_leI (a := cr) (b := i) (by omega) (by omega)).mpr z))
          have q24 : ((nI 18) + (nI i)) = (nI (18 + i)) := px_eadd rfl rfl
          have q25 : (a9 54) = (a 54) := hQ9.2 54 (by decide)
          have q26 : (nI (18 + i)).toNatClampNeg = (18 + i) := nI_clamp (by omega)
          refine XG.blk tX9_order_ok 12 7 (pc' := 31) (pl' := [some (.ref 0), some (.int (nI x)), some (.int (nI i)), none]) (st' := [(.int (-2)), (.int ((a9 54) ((nI 18) + (nI i)).toNatClampNeg))]) (W1 := (mW v9 a9 b)) (bs := [px_vb ((nI 18) + (nI i)) 32]) rfl rfl (by (try simp only [q24, q25, q26]); exact (px_all (px_vbN (by omega) (by decide)) rfl)) ?_
          simp only [q24, q25, q26]
          refine XG.br eX9_order_31 (P := ((a 54) (18 + i)) = (-2)) (r := []) rfl (tgt := 37) (by decide) (fun h31 => ?_) (fun h31 => ?_)
          · skip
            have q27 : (v9 66) = (nI ((hmL (a 54) i).length)) := h66
            have q28 : (nI ((hmL (a 54) i).length)).toNatClampNeg = ((hmL (a 54) i).length) := nI_clamp (by omega)
            have q29 : ((nI ((hmL (a 54) i).length)) + (nI 1)) = (nI (((hmL (a 54) i).length) + 1)) := px_eadd rfl rfl
            have q30 : ((nI i) + (nI 1)) = (nI (i + 1)) := px_eadd rfl rfl
            refine XG.blk tX9_order_ok 21 13 (pc' := 60) (pl' := [some (.ref 0), some (.int (nI x)), some (.int ((nI i) + (nI 1))), none]) (st' := []) (W1 := (mW (va_up v9 66 ((v9 66) + (nI 1))) (va_up a9 65 (upd (a9 65) (v9 66).toNatClampNeg (nI i))) b)) (bs := [px_vb (v9 66) 5]) rfl rfl (by (try simp only [q27, q28, q29, q30]); exact (px_all (px_vbN (by omega) (by decide)) rfl)) ?_
            simp only [q27, q28, q29, q30]
            refine XG.goto eX9_order_60 (tgt := 7) (by decide) ?_
            have eS : (hmL (a 54) (i + 1)) = (hmL (a 54) i) ++ [i] := (hmL_s _ _).trans (if_pos h31)
            rw [eS] at ihi
            exact ihi (va_up v9 66 (nI (((hmL (a 54) i).length) + 1))) (va_up a9 65 (upd (a9 65) ((hmL (a 54) i).length) (nI i))) ⟨hQ9.1.tr (chg.up (by decide)), hQ9.2.tr (chg.up (by decide))⟩ (by rw [List.length_append]; rfl) (atL_s h65 i) h67
          · skip
            refine XG.goto eX9_order_34 (tgt := 57) (by decide) ?_
            have q31 : ((nI i) + (nI 1)) = (nI (i + 1)) := px_eadd rfl rfl
            refine XG.blk tX9_order_ok 33 1 (pc' := 60) (pl' := [some (.ref 0), some (.int (nI x)), some (.int ((nI i) + (nI 1))), none]) (st' := []) (W1 := (mW v9 a9 b)) (bs := []) rfl rfl rfl ?_
            simp only [q31]
            refine XG.goto eX9_order_60 (tgt := 7) (by decide) ?_
            have eS : (hmL (a 54) (i + 1)) = (hmL (a 54) i) := (hmL_s _ _).trans (if_neg h31)
            rw [eS] at ihi
            exact ihi v9 a9 hQ9 h66 h65 h67
  · have eA : qOrder (v 67) v a lv sp sl cr p = -1 := by unfold qOrder; rw [← eL, if_neg hok]
    simp only [eA]
    refine XG.blk tX9_order_ok 0 5 (pc' := 7) (pl' := [some (.ref 0), some (.int p), some (.int (nI 0)), none]) (st' := []) (W1 := (mW (va_up v 66 (nI 0)) a b)) (bs := []) rfl rfl rfl ?_
    refine px_for cr (fun i => ∀ (v9 : Nat → Int32) (a9 : Nat → Nat → Int32) (hQ9 : Qs v v9 a a9) (h66 : v9 66 = nI (hmL (a 54) i).length) (h65 : atL (hmL (a 54) i) (a9 65)) (h67 : v9 67 = v 67), XG mX9_order _ 0 0 7 [some (.ref 0), some (.int p), some (.int (nI i)), none] [] (mW v9 a9 b)) ?_ ?_ 0 (Nat.zero_le _) _ _ (⟨chg.up (by decide), chg.rf⟩) rfl (fun j hj => absurd hj (Nat.not_lt_zero _)) rfl
    · intro v9 a9 hQ9 h66 h65 h67
      have I9 := hQ9.MI I
      obtain ⟨hlv9, -, hsp9, -, -, hsl9, -, hcr9, -⟩ := id I9
      rw [← eL] at h66 h65
      have q1 : (v9 18) = (nI lv) := hlv9
      have q2 : (nI lv).toNatClampNeg = lv := nI_clamp (by omega)
      have q3 : ((a9 31) lv) = (nI cr) := hcr9
      refine XG.blk tX9_order_ok 5 6 (pc' := 17) (pl' := [some (.ref 0), some (.int p), some (.int (nI cr)), none]) (st' := [(.int ((a9 31) (v9 18).toNatClampNeg)), (.int (nI cr))]) (W1 := (mW v9 a9 b)) (bs := [px_vb (v9 18) 2]) rfl rfl (by (try simp only [q1, q2, q3]); exact (px_all (px_vbN (by omega) (by decide)) rfl)) ?_
      simp only [q1, q2, q3]
      refine XG.br eX9_order_17 (P := (nI cr) ≤ (nI cr)) (r := []) rfl (tgt := 63) (by decide) (fun h17 => ?_) (fun h17 => ?_)
      · skip
        have g17 : cr ≤ cr := (nI_leI (a := cr) (b := cr) (by omega) (by omega)).mp h17
        have q4 : (v9 66) = (nI L.length) := h66
        refine XG.blk tX9_order_ok 35 6 (pc' := 71) (pl' := [some (.ref 0), some (.int p), some (.int (nI cr)), none]) (st' := [(.int ((v9 66) - (nI 1))), (.int (-1)), (.int p)]) (W1 := (mW v9 a9 b)) (bs := []) rfl rfl rfl ?_
        simp only [q4]
        refine XG.callSp (r := some (.int (if (-1) ≤ p ∧ p ≤ ((nI L.length) - (nI 1)) then 1 else 0))) eX9_order_71 kl_X9_331 (con_in (d - 1) p (-1) ((nI L.length) - (nI 1))) (px_fitS (by omega)) rfl rfl rfl rfl (Nat.le_of_ble_eq_true rfl) ?_
        refine XG.br eX9_order_74 (P := ¬ (if (-1) ≤ p ∧ p ≤ ((nI L.length) - (nI 1)) then 1 else 0) = 0) (r := []) rfl (tgt := 79) (by decide) (fun h74 => ?_) (fun h74 => ?_)
        · exfalso
          exact absurd (Decidable.not_not.mp (fun z => h74 (one_ne.mpr z))) hok
        · skip
          have h74 := Decidable.not_not.mp h74
          refine XG.blk tX9_order_ok 43 1 (pc' := 78) (pl' := [some (.ref 0), some (.int p), some (.int (nI cr)), none]) (st' := [(.int (-1))]) (W1 := (mW v9 a9 b)) (bs := []) rfl rfl rfl ?_
          refine XS.iret eX9_order_78 rfl rfl ?_
          exact ⟨_, _, rfl, hQ9, rfl⟩
      · exfalso
        have g17 : ¬ cr ≤ cr := (fun z => h17 ((nI_leI (a := cr) (b := cr) (by omega) (by omega)).mpr z))
        omega
    · intro i hi ihi v9 a9 hQ9 h66 h65 h67
      have I9 := hQ9.MI I
      obtain ⟨hlv9, -, hsp9, -, -, hsl9, -, hcr9, -⟩ := id I9
      have hli := hmL_len (a 54) i
      have q5 : (v9 18) = (nI lv) := hlv9
      have q6 : (nI lv).toNatClampNeg = lv := nI_clamp (by omega)
      have q7 : ((a9 31) lv) = (nI cr) := hcr9
      refine XG.blk tX9_order_ok 5 6 (pc' := 17) (pl' := [some (.ref 0), some (.int p), some (.int (nI i)), none]) (st' := [(.int ((a9 31) (v9 18).toNatClampNeg)), (.int (nI i))]) (W1 := (mW v9 a9 b)) (bs := [px_vb (v9 18) 2]) rfl rfl (by (try simp only [q5, q6, q7]); exact (px_all (px_vbN (by omega) (by decide)) rfl)) ?_
      simp only [q5, q6, q7]
      refine XG.br eX9_order_17 (P := (nI cr) ≤ (nI i)) (r := []) rfl (tgt := 63) (by decide) (fun h17 => ?_) (fun h17 => ?_)
      · exfalso
        have g17 : cr ≤ i := (nI_leI (a := cr) (b := i) (by omega) (by omega)).mp h17
        omega
      · skip
        have g17 : ¬ cr ≤ i := (fun z => h17 ((nI_leI (a := cr) (b := i) (by omega) (by omega)).mpr z))
        have q8 : ((nI 18) + (nI i)) = (nI (18 + i)) := px_eadd rfl rfl
        have q9 : (a9 54) = (a 54) := hQ9.2 54 (by decide)
        have q10 : (nI (18 + i)).toNatClampNeg = (18 + i) := nI_clamp (by omega)
        refine XG.blk tX9_order_ok 12 7 (pc' := 31) (pl' := [some (.ref 0), some (.int p), some (.int (nI i)), none]) (st' := [(.int (-2)), (.int ((a9 54) ((nI 18) + (nI i)).toNatClampNeg))]) (W1 := (mW v9 a9 b)) (bs := [px_vb ((nI 18) + (nI i)) 32]) rfl rfl (by (try simp only [q8, q9, q10]); exact (px_all (px_vbN (by omega) (by decide)) rfl)) ?_
        simp only [q8, q9, q10]
        refine XG.br eX9_order_31 (P := ((a 54) (18 + i)) = (-2)) (r := []) rfl (tgt := 37) (by decide) (fun h31 => ?_) (fun h31 => ?_)
        · skip
          have q11 : (v9 66) = (nI ((hmL (a 54) i).length)) := h66
          have q12 : (nI ((hmL (a 54) i).length)).toNatClampNeg = ((hmL (a 54) i).length) := nI_clamp (by omega)
          have q13 : ((nI ((hmL (a 54) i).length)) + (nI 1)) = (nI (((hmL (a 54) i).length) + 1)) := px_eadd rfl rfl
          have q14 : ((nI i) + (nI 1)) = (nI (i + 1)) := px_eadd rfl rfl
          refine XG.blk tX9_order_ok 21 13 (pc' := 60) (pl' := [some (.ref 0), some (.int p), some (.int ((nI i) + (nI 1))), none]) (st' := []) (W1 := (mW (va_up v9 66 ((v9 66) + (nI 1))) (va_up a9 65 (upd (a9 65) (v9 66).toNatClampNeg (nI i))) b)) (bs := [px_vb (v9 66) 5]) rfl rfl (by (try simp only [q11, q12, q13, q14]); exact (px_all (px_vbN (by omega) (by decide)) rfl)) ?_
          simp only [q11, q12, q13, q14]
          refine XG.goto eX9_order_60 (tgt := 7) (by decide) ?_
          have eS : (hmL (a 54) (i + 1)) = (hmL (a 54) i) ++ [i] := (hmL_s _ _).trans (if_pos h31)
          rw [eS] at ihi
          exact ihi (va_up v9 66 (nI (((hmL (a 54) i).length) + 1))) (va_up a9 65 (upd (a9 65) ((hmL (a 54) i).length) (nI i))) ⟨hQ9.1.tr (chg.up (by decide)), hQ9.2.tr (chg.up (by decide))⟩ (by rw [List.length_append]; rfl) (atL_s h65 i) h67
        · skip
          refine XG.goto eX9_order_34 (tgt := 57) (by decide) ?_
          have q15 : ((nI i) + (nI 1)) = (nI (i + 1)) := px_eadd rfl rfl
          refine XG.blk tX9_order_ok 33 1 (pc' := 60) (pl' := [some (.ref 0), some (.int p), some (.int ((nI i) + (nI 1))), none]) (st' := []) (W1 := (mW v9 a9 b)) (bs := []) rfl rfl rfl ?_
          simp only [q15]
          refine XG.goto eX9_order_60 (tgt := 7) (by decide) ?_
          have eS : (hmL (a 54) (i + 1)) = (hmL (a 54) i) := (hmL_s _ _).trans (if_neg h31)
          rw [eS] at ihi
          exact ihi v9 a9 hQ9 h66 h65 h67
