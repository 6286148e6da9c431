/-! beyond an array's length nothing is to be known -/
theorem vp_cell_ext {cA : ClassId} {n : Nat} {f g : Nat → Int32} (h : ∀ j, j < n → f j = g j) : vp_cell cA (n, .inl f) = vp_cell cA (n, .inl g) := by
  show arrV cA n (fun j => .int (f j)) = arrV cA n (fun j => .int (g j))
  unfold arrV
  congr 1
  apply Array.ext
  · simp
  · intro i h1 h2
    simp at h1
    simp [h i h1]
theorem XG.ext1 {M : px_M} {G : px_G} {nc ns pc : Nat} {pl : px_L} {st : List Value} {W0 : px_W} (q : Nat) {ty : FieldType} {n : Nat} {f g : Nat → Int32} (hq : W0[q]? = some (.inl (ty, n, .inl f))) (hfg : ∀ j, j < n → f j = g j) (k : XG M G nc ns pc pl st (W0.set q (.inl (ty, n, .inl g)))) : XG M G nc ns pc pl st W0 := by
  intro p l e s m args below meth c D cA ad0 ad A n0 hC hXt hn H locs ls hP hD hS hl
  have hlen : (W0.set q (.inl (ty, n, .inl g))).length = W0.length := List.length_set
  refine k p l e s m args below meth c D cA ad0 ad A n0 hC hXt (by rw [hlen]; exact hn) H locs ls ?_ (px_D_len hlen hD) hS hl
  intro i x hx
  obtain ⟨ce, h1, rfl⟩ := px_w_of hx
  by_cases e1 : q = i
  · subst e1
    have hlt := (List.getElem?_eq_some_iff.mp hq).1
    rw [List.getElem?_set, if_pos rfl, if_pos hlt] at h1
    cases h1
    have h2 := hP q _ (px_w_at hq)
    show H[ad q]? = some (vp_cell (cA ty) (n, .inl g))
    rw [← vp_cell_ext hfg]
    exact h2
  · rw [List.getElem?_set, if_neg e1] at h1
    exact hP i _ (px_w_at h1)
set_option maxHeartbeats 400000 in
theorem con_copies' (d : Nat) (v : Nat → Int32) (a : Nat → Nat → Int32) (b : Nat → Nat → Int64) (lv sp sl cr : Nat) (I : MI v a lv sp sl cr) : Con mX9_copies d [.ref 0] (mW v a b) (fun r W' => W' = mW (va_up (va_up v 56 (a 37 lv)) 57 0) (va_up a 55 (a 54)) b ∧ r = none) := by
  obtain ⟨hlv, hlv2, hsp, hsp1, hsp2, hsl, hsl2, hcr, hcr2⟩ := id I
  refine Con.of (by decide) (Nat.le_of_ble_eq_true rfl) ?_
  refine XG.blk tX9_copies_ok 0 2 (pc' := 2) (pl' := [some (.ref 0), some (.int (nI 0))]) (st' := []) (W1 := (mW v a b)) (bs := []) rfl rfl rfl ?_
  rw [show mW v a b = mW v (va_up a 55 (cpF (a 54) (a 55) 0)) b by rw [cpF_0, va_up_id]]
  refine px_for 32 (fun i => XG mX9_copies _ 0 0 2 [some (.ref 0), some (.int (nI i))] [] (mW v (va_up a 55 (cpF (a 54) (a 55) i)) b)) ?_ ?_ 0 (by omega)
  · skip
    refine XG.blk tX9_copies_ok 2 2 (pc' := 5) (pl' := [some (.ref 0), some (.int (nI 32))]) (st' := [(.int (nI 32)), (.int (nI 32))]) (W1 := (mW v (va_up a 55 (cpF (a 54) (a 55) 32)) b)) (bs := []) rfl rfl rfl ?_
    refine XG.br eX9_copies_5 (P := (nI 32) ≤ (nI 32)) (r := []) rfl (tgt := 26) (by decide) (fun h5 => ?_) (fun h5 => ?_)
    · skip
      have g5 : 32 ≤ 32 := (nI_leI (a := 32) (b := 32) (by omega) (by omega)).mp h5
      have q1 : (v 18) = (nI lv) := hlv
      have q2 : (nI lv).toNatClampNeg = lv := nI_clamp (by omega)
      refine XG.blk tX9_copies_ok 15 10 (pc' := 44) (pl' := [some (.ref 0), some (.int (nI 32))]) (st' := []) (W1 := (mW (va_up (va_up v 56 ((a 37) (v 18).toNatClampNeg)) 57 (nI 0)) (va_up a 55 (cpF (a 54) (a 55) 32)) b)) (bs := [px_vb (v 18) 2, ((nI 0) == 0 || (nI 0) == 1)]) rfl rfl (by (try simp only [q1, q2]); exact (px_all (px_vbN (by omega) (by decide)) (px_all (rfl) rfl))) ?_
      simp only [q1, q2]
      refine XG.ext1 38 rfl (g := a 54) (fun j hj => if_pos hj) ?_
      refine XS.vret eX9_copies_44 rfl ?_
      exact ⟨rfl, rfl⟩
    · exfalso
      have g5 : ¬ 32 ≤ 32 := (fun z => h5 ((nI_leI (a := 32) (b := 32) (by omega) (by omega)).mpr z))
      omega
  · intro i hi ihi
    refine XG.blk tX9_copies_ok 2 2 (pc' := 5) (pl' := [some (.ref 0), some (.int (nI i))]) (st' := [(.int (nI 32)), (.int (nI i))]) (W1 := (mW v (va_up a 55 (cpF (a 54) (a 55) i)) b)) (bs := []) rfl rfl rfl ?_
    refine XG.br eX9_copies_5 (P := (nI 32) ≤ (nI i)) (r := []) rfl (tgt := 26) (by decide) (fun h5 => ?_) (fun h5 => ?_)
    · exfalso
      have g5 : 32 ≤ i := (nI_leI (a := 32) (b := i) (by omega) (by omega)).mp h5
      omega
    · skip
      have g5 : ¬ 32 ≤ i := (fun z => h5 ((nI_leI (a := 32) (b := i) (by omega) (by omega)).mpr z))
      have q3 : (nI i).toNatClampNeg = i := nI_clamp (by omega)
      have q4 : ((nI i) + (nI 1)) = (nI (i + 1)) := px_eadd rfl rfl
      refine XG.blk tX9_copies_ok 5 9 (pc' := 23) (pl' := [some (.ref 0), some (.int ((nI i) + (nI 1)))]) (st' := []) (W1 := (mW v (va_up a 55 (upd (cpF (a 54) (a 55) i) (nI i).toNatClampNeg ((a 54) (nI i).toNatClampNeg))) b)) (bs := [px_vb (nI i) 32, px_vb (nI i) 32]) rfl rfl (by (try simp only [q3, q4]); exact (px_all (px_vbN (by omega) (by decide)) (px_all (px_vbN (by omega) (by decide)) rfl))) ?_
      simp only [q3, q4]
      refine XG.goto eX9_copies_23 (tgt := 2) (by decide) ?_
      rw [cpF_s]; exact ihi
set_option maxHeartbeats 400000 in
theorem con_keepsRow' (d : Nat) (v : Nat → Int32) (a : Nat → Nat → Int32) (b : Nat → Nat → Int64) : Con mX9_keepsRow d [.ref 0] (mW v a b) (fun r W' => W' = mW v (va_up a 54 (a 55)) b ∧ r = none) := by
  refine Con.of (by decide) (Nat.le_of_ble_eq_true rfl) ?_
  refine XG.blk tX9_keepsRow_ok 0 2 (pc' := 2) (pl' := [some (.ref 0), some (.int (nI 0))]) (st' := []) (W1 := (mW v a b)) (bs := []) rfl rfl rfl ?_
  rw [show mW v a b = mW v (va_up a 54 (cpF (a 55) (a 54) 0)) b by rw [cpF_0, va_up_id]]
  refine px_for 32 (fun i => XG mX9_keepsRow _ 0 0 2 [some (.ref 0), some (.int (nI i))] [] (mW v (va_up a 54 (cpF (a 55) (a 54) i)) b)) ?_ ?_ 0 (by omega)
  · skip
    refine XG.blk tX9_keepsRow_ok 2 2 (pc' := 5) (pl' := [some (.ref 0), some (.int (nI 32))]) (st' := [(.int (nI 32)), (.int (nI 32))]) (W1 := (mW v (va_up a 54 (cpF (a 55) (a 54) 32)) b)) (bs := []) rfl rfl rfl ?_
    refine XG.br eX9_keepsRow_5 (P := (nI 32) ≤ (nI 32)) (r := []) rfl (tgt := 26) (by decide) (fun h5 => ?_) (fun h5 => ?_)
    · skip
      have g5 : 32 ≤ 32 := (nI_leI (a := 32) (b := 32) (by omega) (by omega)).mp h5
      refine XG.ext1 37 rfl (g := a 55) (fun j hj => if_pos hj) ?_
      refine XS.vret eX9_keepsRow_26 rfl ?_
      exact ⟨rfl, rfl⟩
    · exfalso
      have g5 : ¬ 32 ≤ 32 := (fun z => h5 ((nI_leI (a := 32) (b := 32) (by omega) (by omega)).mpr z))
      omega
  · intro i hi ihi
    refine XG.blk tX9_keepsRow_ok 2 2 (pc' := 5) (pl' := [some (.ref 0), some (.int (nI i))]) (st' := [(.int (nI 32)), (.int (nI i))]) (W1 := (mW v (va_up a 54 (cpF (a 55) (a 54) i)) b)) (bs := []) rfl rfl rfl ?_
    refine XG.br eX9_keepsRow_5 (P := (nI 32) ≤ (nI i)) (r := []) rfl (tgt := 26) (by decide) (fun h5 => ?_) (fun h5 => ?_)
    · exfalso
      have g5 : 32 ≤ i := (nI_leI (a := 32) (b := i) (by omega) (by omega)).mp h5
      omega
    · skip
      have g5 : ¬ 32 ≤ i := (fun z => h5 ((nI_leI (a := 32) (b := i) (by omega) (by omega)).mpr z))
      have q1 : (nI i).toNatClampNeg = i := nI_clamp (by omega)
      have q2 : ((nI i) + (nI 1)) = (nI (i + 1)) := px_eadd rfl rfl
      refine XG.blk tX9_keepsRow_ok 5 9 (pc' := 23) (pl' := [some (.ref 0), some (.int ((nI i) + (nI 1)))]) (st' := []) (W1 := (mW v (va_up a 54 (upd (cpF (a 55) (a 54) i) (nI i).toNatClampNeg ((a 55) (nI i).toNatClampNeg))) b)) (bs := [px_vb (nI i) 32, px_vb (nI i) 32]) rfl rfl (by (try simp only [q1, q2]); exact (px_all (px_vbN (by omega) (by decide)) (px_all (px_vbN (by omega) (by decide)) rfl))) ?_
      simp only [q1, q2]
      refine XG.goto eX9_keepsRow_23 (tgt := 2) (by decide) ?_
      rw [cpF_s]; exact ihi
def hoursF (v0 : Nat → Int32) (a0 : Nat → Nat → Int32) (lv sp sl cr : Nat) : Nat → (Nat → Int32) → (Nat → Int32) := fun _ r => hourF v0 a0 lv sp sl cr r
set_option maxHeartbeats 400000 in
theorem con_goes (d : Nat) (v0 v9 : Nat → Int32) (a0 a9 : Nat → Nat → Int32) (b : Nat → Nat → Int64) (r w : Nat → Int32) (hK9 : K v0 a0 r w v9 a9) (lv sp sl cr : Nat) (I0 : MI v0 a0 lv sp sl cr) (hw3 : wf3 a0 lv) (n : Nat) (hn : n < 2000) (hd : 8 ≤ d) : Con mX9_goes d [.ref 0, .int (nI n)] (mW v9 a9 b) (fun q W' => ∃ v' a' w', W' = mW v' a' b ∧ K v0 a0 (itN (hoursF v0 a0 lv sp sl cr) r n) w' v' a' ∧ q = none) := by
  obtain ⟨hlv0, hlv2, hsp, hsp1, hsp2, hsl, hsl2, hcr, hcr2⟩ := id I0
  have hlv9 := (hK9.MI I0).1
  refine Con.of (by decide) (Nat.le_of_ble_eq_true rfl) ?_
  refine XG.blk tX9_goes_ok 0 2 (pc' := 2) (pl' := [some (.ref 0), some (.int (nI n)), some (.int (nI 0))]) (st' := []) (W1 := (mW v9 a9 b)) (bs := []) rfl rfl rfl ?_
  refine px_for n (fun i => ∀ (w : Nat → Int32) (v9 : Nat → Int32) (a9 : Nat → Nat → Int32) (hK9 : K v0 a0 (itN (hoursF v0 a0 lv sp sl cr) r i) w v9 a9), XG mX9_goes _ 0 0 2 [some (.ref 0), some (.int (nI n)), some (.int (nI i))] [] (mW v9 a9 b)) ?_ ?_ 0 (by omega) _ v9 a9 hK9
  · intro w v9 a9 hK9
    have hlv9 := (hK9.MI I0).1
    refine XG.blk tX9_goes_ok 2 2 (pc' := 4) (pl' := [some (.ref 0), some (.int (nI n)), some (.int (nI n))]) (st' := [(.int (nI n)), (.int (nI n))]) (W1 := (mW v9 a9 b)) (bs := []) rfl rfl rfl ?_
    refine XG.br eX9_goes_4 (P := (nI n) ≤ (nI n)) (r := []) rfl (tgt := 17) (by decide) (fun h4 => ?_) (fun h4 => ?_)
    · skip
      have g4 : n ≤ n := (nI_leI (a := n) (b := n) (by omega) (by omega)).mp h4
      refine XS.vret eX9_goes_17 rfl ?_
      exact ⟨_, _, _, rfl, hK9, rfl⟩
    · exfalso
      have g4 : ¬ n ≤ n := (fun z => h4 ((nI_leI (a := n) (b := n) (by omega) (by omega)).mpr z))
      omega
  · intro i hi ihi w v9 a9 hK9
    have hlv9 := (hK9.MI I0).1
    refine XG.blk tX9_goes_ok 2 2 (pc' := 4) (pl' := [some (.ref 0), some (.int (nI n)), some (.int (nI i))]) (st' := [(.int (nI n)), (.int (nI i))]) (W1 := (mW v9 a9 b)) (bs := []) rfl rfl rfl ?_
    refine XG.br eX9_goes_4 (P := (nI n) ≤ (nI i)) (r := []) rfl (tgt := 17) (by decide) (fun h4 => ?_) (fun h4 => ?_)
    · exfalso
      have g4 : n ≤ i := (nI_leI (a := n) (b := i) (by omega) (by omega)).mp h4
      omega
    · skip
      have g4 : ¬ n ≤ i := (fun z => h4 ((nI_leI (a := n) (b := i) (by omega) (by omega)).mpr z))
      refine XG.blk tX9_goes_ok 5 1 (pc' := 8) (pl' := [some (.ref 0), some (.int (nI n)), some (.int (nI i))]) (st' := [(.ref 0)]) (W1 := (mW v9 a9 b)) (bs := []) rfl rfl rfl ?_
      refine XG.callV0 eX9_goes_8 kl_X9_394 (con_hourGoes (d - 1) v0 v9 a0 a9 b (itN (hoursF v0 a0 lv sp sl cr) r i) _ hK9 lv sp sl cr I0 hw3 (by omega)) (px_fitS (by omega)) rfl rfl rfl (Nat.le_of_ble_eq_true rfl) (fun r9 W9 hp9 hl9 => ?_)
      obtain ⟨v21, a21, w21, rfl, hK21, rfl⟩ := hp9
      have hlv21 := (hK21.MI I0).1
      have q1 : ((nI i) + (nI 1)) = (nI (i + 1)) := px_eadd rfl rfl
      refine XG.blk tX9_goes_ok 7 1 (pc' := 14) (pl' := [some (.ref 0), some (.int (nI n)), some (.int ((nI i) + (nI 1)))]) (st' := []) (W1 := (mW v21 a21 b)) (bs := []) rfl rfl rfl ?_
      simp only [q1]
      refine XG.goto eX9_goes_14 (tgt := 2) (by decide) ?_
      exact ihi _ v21 a21 hK21
