/-! the reference: what is told of a sleeper, what a span bears. J: nothing has changed but what the law's reckoning uses up -/
theorem tmF_vars (cd ci : Nat → Int32) {u w : Nat → Int32} (huw : ∀ j, j < 9 → u j = w j) : ∀ (n c top : Nat) (p : Nat → Int32), wfC cd ci n c top → tmF cd ci u n c p top = tmF cd ci w n c p top := by
  intro n
  induction n with
  | zero => intro c top p _; rfl
  | succ n ih =>
    intro c top p hw
    simp only [wfC] at hw
    simp only [tmF]
    rcases hw with ⟨hc, -, hw⟩ | ⟨hc, -, ⟨j, hj, hcj⟩, hw⟩ | ⟨h2, -, hc, hw⟩
    · rw [if_pos hc, if_pos hc]; exact ih _ _ _ hw
    · rw [if_neg (by rw [hc]; exact nI_ne (by decide) (by decide) (by decide)), if_pos hc, if_neg (by rw [hc]; exact nI_ne (by decide) (by decide) (by decide)), if_pos hc, hcj, nI_clamp (by omega), huw j hj]; exact ih _ _ _ hw
    · have hne : ¬ cd c = nI 0 ∧ ¬ cd c = nI 1 := by
        rcases hc with hc | hc | hc | hc <;> rw [hc] <;> exact ⟨nI_ne (by decide) (by decide) (by decide), nI_ne (by decide) (by decide) (by decide)⟩
      rw [if_neg hne.1, if_neg hne.2, if_neg hne.1, if_neg hne.2]
      by_cases hz : cd c = nI 5 ∧ p (top - 1) = 0
      · rw [if_pos hz, if_pos hz]
      · rw [if_neg hz, if_neg hz]; exact ih _ _ _ hw
theorem tm0_vars {cd ci u w : Nat → Int32} (huw : ∀ j, j < 9 → u j = w j) {c n : Nat} (hw : wfC cd ci n c 0) : tm0 cd ci u c n = tm0 cd ci w c n := tmF_vars cd ci huw n c 0 _ hw
theorem lwF_vars {a : Nat → Nat → Int32} {u w : Nat → Int32} (huw : ∀ j, j < 9 → u j = w j) : ∀ (m f : Nat), (∀ br, f ≤ br → br < f + m → wfB a br) → lwF a u m f = lwF a w m f := by
  intro m
  induction m with
  | zero => intro f _; rfl
  | succ m ih =>
    intro f hB
    obtain ⟨t2, n3, h44, h45, h840, w3, ht⟩ := hB f (Nat.le_refl f) (by omega)
    have i3 : ixN (nI t2) = t2 := nI_clamp (by omega)
    have i4 : ixN (nI (t2 + n3)) = t2 + n3 := nI_clamp (by omega)
    have s3 := tm0_vars huw w3
    simp only [lwF]
    rw [h44, h45, i3, i4, show t2 + n3 - t2 = n3 by omega, s3]
    rcases ht with ht | ⟨ht, t0, n1, n2, h42, h43, rfl, w1, w2⟩
    · rw [if_pos ht, if_pos ht]
    · have i1 : ixN (nI t0) = t0 := nI_clamp (by omega)
      have i2 : ixN (nI (t0 + n1)) = t0 + n1 := nI_clamp (by omega)
      rw [if_neg ht, if_neg ht, h42, h43, i1, i2, show t0 + n1 - t0 = n1 by omega, show t0 + n1 + n2 - (t0 + n1) = n2 by omega, tm0_vars huw w1, tm0_vars huw w2, ih (f + 1) (fun br h1 h2 => hB br (by omega) (by omega))]
/-- a law lies well; what it tells -/
def wfL (a : Nat → Nat → Int32) (at' : Nat) : Prop := ∃ f m, a 38 at' = nI f ∧ a 39 at' = nI (f + m) ∧ f + m ≤ 260 ∧ ∀ br, f ≤ br → br < f + m → wfB a br
def lawF (a : Nat → Nat → Int32) (at' : Nat) (vars : Nat → Int32) (plain : Int32) : Int32 := if a 38 at' < a 39 at' then lwF a vars (ixN (a 39 at') - ixN (a 38 at')) (ixN (a 38 at')) else plain
def lawS : List Nat := [38, 39, 41, 42, 43, 44, 45, 47, 48]
theorem lwF_chg {a a' : Nat → Nat → Int32} (h : ∀ k ∈ lawS, a' k = a k) (vars : Nat → Int32) : ∀ m f, lwF a' vars m f = lwF a vars m f := by
  intro m
  induction m with
  | zero => intro f; rfl
  | succ m ih =>
    intro f
    simp only [lwF]
    rw [h 41 (by decide), h 42 (by decide), h 43 (by decide), h 44 (by decide), h 45 (by decide), h 47 (by decide), h 48 (by decide), ih]
theorem lawF_chg {a a' : Nat → Nat → Int32} (h : ∀ k ∈ lawS, a' k = a k) (at' : Nat) (vars : Nat → Int32) (plain : Int32) : lawF a' at' vars plain = lawF a at' vars plain := by
  unfold lawF
  rw [h 38 (by decide), h 39 (by decide), lwF_chg h]
theorem wfL_chg {a a' : Nat → Nat → Int32} (h : ∀ k ∈ lawS, a' k = a k) {at' : Nat} (hw : wfL a at') : wfL a' at' := by
  unfold wfL wfB at hw ⊢
  rw [h 38 (by decide), h 39 (by decide), h 41 (by decide), h 42 (by decide), h 43 (by decide), h 44 (by decide), h 45 (by decide), h 47 (by decide), h 48 (by decide)]
  exact hw
theorem con_lawT (d : Nat) (v : Nat → Int32) (a : Nat → Nat → Int32) (b : Nat → Nat → Int64) (at' : Nat) (hat : at' < 6) (hw : wfL a at') (hlt : a 38 at' < a 39 at') (vars : Nat → Int32) (hv : ∀ j, j < 9 → a 51 j = vars j) (plain : Int32) (hd : 1 ≤ d) : Con mX9_lawTells d [.ref 0, .int (nI at')] (mW v a b) (fun r W' => ∃ v' pile, W' = mW v' (va_up a 52 pile) b ∧ chg [53] v v' ∧ r = some (.int (lawF a at' vars plain))) := by
  obtain ⟨f, m, hf, hl, hm, hB⟩ := hw
  have h1 := con_lawTells d v a b at' f m hat hf hl hm hB hd
  rw [lwF_vars hv m f hB] at h1
  have e : lawF a at' vars plain = lwF a vars m f := by
    unfold lawF
    rw [if_pos hlt, hf, hl, show ixN (nI f) = f from nI_clamp (by omega), show ixN (nI (f + m)) = f + m from nI_clamp (by omega), show f + m - f = m by omega]
  rw [e]
  exact h1
def J (v0 v : Nat → Int32) (a0 a : Nat → Nat → Int32) : Prop := chg [53] v0 v ∧ chg [51, 52] a0 a
theorem J.MI {v0 v : Nat → Int32} {a0 a : Nat → Nat → Int32} {lv sp sl cr : Nat} (h : J v0 v a0 a) (I : MI v0 a0 lv sp sl cr) : MI v a lv sp sl cr := I.chg (h.1 18 (by decide)) (h.2 23 (by decide)) (h.2 24 (by decide)) (h.2 31 (by decide))
theorem J.law {v0 v : Nat → Int32} {a0 a : Nat → Nat → Int32} (h : J v0 v a0 a) : ∀ k ∈ lawS, a k = a0 k := fun k hk => h.2 k (fun z => by revert z; revert k; decide)
/-- what is told of sleeper x by law k: plain where there is none; held -/
def askV (a : Nat → Nat → Int32) (lv sl cr k x : Nat) (plain lo hi : Int32) : Int32 := heldF (lawF a (3 * lv + k) (lookF (a 55) (a 35 lv) (a 26) (a 27) (a 32) (a 33) lv sl cr x (fun _ => 0)) plain) lo hi
theorem lookF_old {row : Nat → Int32} {dawn : Int32} {weight wage load noise : Nat → Int32} {lv sl cr k : Nat} {old old' : Nat → Int32} : ∀ j, j < 9 → lookF row dawn weight wage load noise lv sl cr k old j = lookF row dawn weight wage load noise lv sl cr k old' j := by
  intro j hj
  simp only [lookF, upd]
  rcases (show j = 0 ∨ j = 1 ∨ j = 2 ∨ j = 3 ∨ j = 4 ∨ j = 5 ∨ j = 6 ∨ j = 7 ∨ j = 8 by omega) with rfl | rfl | rfl | rfl | rfl | rfl | rfl | rfl | rfl <;> rfl
set_option maxHeartbeats 400000 in
theorem con_asks (d : Nat) (v0 v : Nat → Int32) (a0 a : Nat → Nat → Int32) (b : Nat → Nat → Int64) (hJ : J v0 v a0 a) (lv sp sl cr : Nat) (I0 : MI v0 a0 lv sp sl cr) (k x : Nat) (plain lo hi : Int32) (hk : k < 3) (hx : x < sl) (hw : wfL a0 (3 * lv + k)) (hd : 3 ≤ d) : Con mX9_asks d [.ref 0, .int (nI k), .int (nI x), .int plain, .int lo, .int hi] (mW v a b) (fun r W' => ∃ v' a', W' = mW v' a' b ∧ J v0 v' a0 a' ∧ r = some (.int (askV a0 lv sl cr k x plain lo hi))) := by
  have I := hJ.MI I0
  obtain ⟨hlv, hlv2, hsp, hsp1, hsp2, hsl, hsl2, hcr, hcr2⟩ := id I
  have hL9 : ∀ k ∈ lawS, (va_up a 51 (lookF (a 55) (a 35 lv) (a 26) (a 27) (a 32) (a 33) lv sl cr x (a 51))) k = a0 k := fun k hk => (chg.up (S := [51]) (by decide) k (by revert k; decide)).trans (hJ.law k hk)
  have e55 := hJ.2 55 (by decide)
  have e35 := hJ.2 35 (by decide)
  have e26 := hJ.2 26 (by decide)
  have e27 := hJ.2 27 (by decide)
  have e32 := hJ.2 32 (by decide)
  have e33 := hJ.2 33 (by decide)
  refine Con.of (by decide) (Nat.le_of_ble_eq_true rfl) ?_
  refine XG.blk tX9_asks_ok 0 2 (pc' := 2) (pl' := [some (.ref 0), some (.int (nI k)), some (.int (nI x)), some (.int plain), some (.int lo), some (.int hi), none, none]) (st' := [(.int (nI x)), (.ref 0)]) (W1 := (mW v a b)) (bs := []) rfl rfl rfl ?_
  refine XG.callV0 eX9_asks_2 kl_X9_357 (con_looks (d - 1) v a b x _ _ _ _ I hx (by omega)) (px_fitS (by omega)) rfl rfl rfl (Nat.le_of_ble_eq_true rfl) (fun r9 W9 hp9 hl9 => ?_)
  obtain ⟨rfl, rfl⟩ := hp9
  have q1 : (v 18) = (nI lv) := hlv
  have q2 : ((nI 3) * (nI lv)) = (nI (3 * lv)) := px_emul rfl rfl
  have q3 : ((nI (3 * lv)) + (nI k)) = (nI ((3 * lv) + k)) := px_eadd rfl rfl
  have q4 : (nI ((3 * lv) + k)).toNatClampNeg = ((3 * lv) + k) := nI_clamp (by omega)
  refine XG.blk tX9_asks_ok 3 17 (pc' := 32) (pl' := [some (.ref 0), some (.int (nI k)), some (.int (nI x)), some (.int plain), some (.int lo), some (.int hi), some (.int (((nI 3) * (v 18)) + (nI k))), some (.int plain)]) (st' := [(.int ((a 39) (((nI 3) * (v 18)) + (nI k)).toNatClampNeg)), (.int ((a 38) (((nI 3) * (v 18)) + (nI k)).toNatClampNeg))]) (W1 := (mW v (va_up a 51 (lookF (a 55) (a 35 lv) (a 26) (a 27) (a 32) (a 33) lv sl cr x (a 51))) b)) (bs := [px_vb (((nI 3) * (v 18)) + (nI k)) 6, px_vb (((nI 3) * (v 18)) + (nI k)) 6]) rfl rfl (by (try simp only [q1, q2, q3, q4]); exact (px_all (px_vbN (by omega) (by decide)) (px_all (px_vbN (by omega) (by decide)) rfl))) ?_
  simp only [q1, q2, q3, q4]
  refine XG.br eX9_asks_32 (P := ((a 39) ((3 * lv) + k)) ≤ ((a 38) ((3 * lv) + k))) (r := []) rfl (tgt := 43) (by decide) (fun h32 => ?_) (fun h32 => ?_)
  · skip
    refine XG.blk tX9_asks_ok 25 3 (pc' := 49) (pl' := [some (.ref 0), some (.int (nI k)), some (.int (nI x)), some (.int plain), some (.int lo), some (.int hi), some (.int (nI ((3 * lv) + k))), some (.int plain)]) (st' := [(.int hi), (.int lo), (.int plain)]) (W1 := (mW v (va_up a 51 (lookF (a 55) (a 35 lv) (a 26) (a 27) (a 32) (a 33) lv sl cr x (a 51))) b)) (bs := []) rfl rfl rfl ?_
    refine XG.callSp (r := some (.int (heldF plain lo hi))) eX9_asks_49 kl_X9_363 (con_held (d - 1) plain lo hi) (px_fitS (by omega)) rfl rfl rfl rfl (Nat.le_of_ble_eq_true rfl) ?_
    refine XS.iret eX9_asks_52 rfl rfl ?_
    refine ⟨_, _, rfl, ⟨hJ.1, hJ.2.tr (chg.up (by decide))⟩, ?_⟩
    unfold askV lawF
    rw [if_neg (fun z => absurd z (Int32.not_lt.mpr (by rw [← hL9 38 (by decide), ← hL9 39 (by decide)]; exact h32)))]
  · skip
    refine XG.blk tX9_asks_ok 21 2 (pc' := 38) (pl' := [some (.ref 0), some (.int (nI k)), some (.int (nI x)), some (.int plain), some (.int lo), some (.int hi), some (.int (nI ((3 * lv) + k))), some (.int plain)]) (st' := [(.int (nI ((3 * lv) + k))), (.ref 0)]) (W1 := (mW v (va_up a 51 (lookF (a 55) (a 35 lv) (a 26) (a 27) (a 32) (a 33) lv sl cr x (a 51))) b)) (bs := []) rfl rfl rfl ?_
    refine XG.callV0 eX9_asks_38 kl_X9_360 (con_lawT (d - 1) v (va_up a 51 (lookF (a 55) (a 35 lv) (a 26) (a 27) (a 32) (a 33) lv sl cr x (a 51))) b ((3 * lv) + k) (by omega) (wfL_chg (a := a0) hL9 hw) (Int32.not_le.mp h32) (lookF (a 55) (a 35 lv) (a 26) (a 27) (a 32) (a 33) lv sl cr x (fun _ => 0)) lookF_old plain (by omega)) (px_fitS (by omega)) rfl rfl rfl (Nat.le_of_ble_eq_true rfl) (fun r9 W9 hp9 hl9 => ?_)
    obtain ⟨v9, pile9, rfl, hv9, rfl⟩ := hp9
    refine XG.blk tX9_asks_ok 24 4 (pc' := 49) (pl' := [some (.ref 0), some (.int (nI k)), some (.int (nI x)), some (.int plain), some (.int lo), some (.int hi), some (.int (nI ((3 * lv) + k))), some (.int (lawF (va_up a 51 (lookF (a 55) (a 35 lv) (a 26) (a 27) (a 32) (a 33) lv sl cr x (a 51))) ((3 * lv) + k) (lookF (a 55) (a 35 lv) (a 26) (a 27) (a 32) (a 33) lv sl cr x (fun _ => 0)) plain))]) (st' := [(.int hi), (.int lo), (.int (lawF (va_up a 51 (lookF (a 55) (a 35 lv) (a 26) (a 27) (a 32) (a 33) lv sl cr x (a 51))) ((3 * lv) + k) (lookF (a 55) (a 35 lv) (a 26) (a 27) (a 32) (a 33) lv sl cr x (fun _ => 0)) plain))]) (W1 := (mW v9 (va_up (va_up a 51 (lookF (a 55) (a 35 lv) (a 26) (a 27) (a 32) (a 33) lv sl cr x (a 51))) 52 pile9) b)) (bs := []) rfl rfl rfl ?_
    refine XG.callSp (r := some (.int (heldF (lawF (va_up a 51 (lookF (a 55) (a 35 lv) (a 26) (a 27) (a 32) (a 33) lv sl cr x (a 51))) ((3 * lv) + k) (lookF (a 55) (a 35 lv) (a 26) (a 27) (a 32) (a 33) lv sl cr x (fun _ => 0)) plain) lo hi))) eX9_asks_49 kl_X9_363 (con_held (d - 1) (lawF (va_up a 51 (lookF (a 55) (a 35 lv) (a 26) (a 27) (a 32) (a 33) lv sl cr x (a 51))) ((3 * lv) + k) (lookF (a 55) (a 35 lv) (a 26) (a 27) (a 32) (a 33) lv sl cr x (fun _ => 0)) plain) lo hi) (px_fitS (by omega)) rfl rfl rfl rfl (Nat.le_of_ble_eq_true rfl) ?_
    refine XS.iret eX9_asks_52 rfl rfl ?_
    exact ⟨_, _, rfl, ⟨hJ.1.tr hv9, hJ.2.tr ((chg.up (by decide)).tr (chg.up (by decide)))⟩, by unfold askV; rw [lawF_chg hL9, e55, e35, e26, e27, e32, e33]⟩
