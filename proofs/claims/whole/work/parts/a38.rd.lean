/-! THE CLASS: expressions of a law -/
def vX (tv : Nat → Int32) (ta : Nat → Nat → Int32) (tb : Nat → Nat → Int64) (z : Nat) (st bg : Nat → Int32) : px_W := xW (va_up tv 20 (nI z)) (va_up (va_up ta 20 st) 21 bg) tb
theorem pt_vg (rv : Nat → Int32) (ra : Nat → Nat → Int32) (rb : Nat → Nat → Int64) (tv : Nat → Int32) (ta : Nat → Nat → Int32) (tb : Nat → Nat → Int64) (bg : Nat → Int32) (z : Nat) (st : Nat → Int32) (z' : Nat) (st' bg' : Nat → Int32) : px_pt (px_f [17, 18, 19, 20]) [17, 18, 19, 20] (gW (nI z') st' bg' (ta 22)) (dW rv ra rb (.ref 6) (vX tv ta tb z st bg)) = dW rv ra rb (.ref 6) (vX tv ta tb z' st' bg') := by
  unfold vX
  rw [pt_eg]
  have e1 : va_up (va_up tv 20 (nI z)) 20 (nI z') = va_up tv 20 (nI z') := by
    funext k; unfold va_up; by_cases h20 : k = 20 <;> simp [h20]
  have e2 : va_up (va_up (va_up (va_up (va_up ta 20 st) 21 bg) 20 st') 21 bg') 22 (ta 22) = va_up (va_up ta 20 st') 21 bg' := by
    funext k; unfold va_up
    by_cases h22 : k = 22
    · subst h22; rfl
    · by_cases h21 : k = 21
      · simp [h21]
      · by_cases h20 : k = 20 <;> simp [h22, h21, h20]
  rw [e1, e2]
def lfE (E : Nat → PE ⊕ (Nat × Cde)) (s : PT) : PE ⊕ (PT × Cde) := bd (E s.1) (fun x => .inr ((x.1, s.2), x.2))
def prj (r : PE ⊕ (PT × Cde)) : PE ⊕ PT := bd r (fun q => .inr q.1)
def EQc (K : TKS) (a z0 : Nat) (st0 : Nat → Int32) (r : PE ⊕ (PT × Cde)) (rv : Nat → Int32) (z : Nat) (st : Nat → Int32) : Prop := z0 ≤ z ∧ z ≤ 404 ∧ PVc K (prj r) rv ∧ ∀ q, r = .inr q → z = z0 + q.2.length ∧ (∀ i, i < z0 → st i = st0 i) ∧ sgC st z0 q.2 ∧ z + a ≤ q.1.1 + 2
def cEx (K : TKS) (M : px_M) (E : Nat → PE ⊕ (Nat × Cde)) (b d : Nat) : Prop := ∀ (rv : Nat → Int32) (ra : Nat → Nat → Int32) (rb : Nat → Nat → Int64) (tv : Nat → Int32) (ta : Nat → Nat → Int32) (tb : Nat → Nat → Int64) (bg : Nat → Int32) (_ : CTk K ra rb) (r : PE ⊕ PT) (_ : PVc K r rv) (a z : Nat) (st : Nat → Int32) (_ : z ≤ 404) (_ : ∀ s, r = .inr s → z + a ≤ s.1 + 2), Con M d [.ref 0, .int (nI b)] (dW rv ra rb (.ref 6) (vX tv ta tb z st bg)) (fun q W' => ∃ rv' z' st', W' = dW rv' ra rb (.ref 6) (vX tv ta tb z' st' bg) ∧ chg [1, 8, 9] rv rv' ∧ EQc K a z st (bd r (lfE E)) rv' z' st' ∧ q = none)
theorem sgC_cg {st st' : Nat → Int32} {p : Nat} {c : Cde} (h : sgC st p c) (e : ∀ i, i < p + c.length → st' i = st i) : sgC st' p c := by
  intro i x hx
  rw [e (p + i) (by have := (List.getElem?_eq_some_iff.mp hx).1; omega)]
  exact h i x hx
theorem sgC_mk {st : Nat → Int32} {p : Nat} {c c2 : Cde} (h : sgC st p c) (h2 : sgC st (p + c.length) c2) : sgC st p (c ++ c2) := by
  intro i x hx
  by_cases hi : i < c.length
  · rw [List.getElem?_append_left hi] at hx
    exact h i x hx
  · rw [List.getElem?_append_right (by omega)] at hx
    have := h2 _ x hx
    rw [show p + c.length + (i - c.length) = p + i by omega] at this
    exact this
theorem sgC_1 {st : Nat → Int32} {p w v : Nat} (h : st p = nI (8 * v + w)) : sgC st p [(w, v)] := by
  intro i x hx
  cases i with
  | zero => obtain rfl := Option.some.inj hx; exact h
  | succ i => simp at hx
theorem EQc.one {K : TKS} {a z k : Nat} {st : Nat → Int32} {s : PT} {rv1 : Nat → Int32} (hs : s.1 ≤ 400) (hz : z + a ≤ s.1 + 2) (hP1 : PVc K (mstS K k s) rv1) {w v : Nat} {x : Int32} (hx : ∀ s1, mstS K k s = .inr s1 → x = nI (8 * v + w)) : EQc K a z st (bd (mstS K k s) (fun s1 => .inr (s1, [(w, v)]))) rv1 (adZ z) (adS st z x) := by
  have h : z < 404 := by omega
  rw [adZ_lt h, adS_lt h]
  refine ⟨by omega, by omega, ?_, fun q hq => ?_⟩
  · have e : prj (bd (mstS K k s) (fun s1 => .inr (s1, [(w, v)]))) = mstS K k s := by
      cases mstS K k s <;> rfl
    rw [e]; exact hP1
  · obtain ⟨s1, e1, e2⟩ := bd_inrE hq
    obtain rfl := Sum.inr.inj e2
    refine ⟨rfl, fun i hi => upd_ne (by omega), sgC_1 (by rw [upd_eq]; exact hx s1 e1), ?_⟩
    have := (mstS_inr e1).2.2
    rw [this]
    show z + 1 + a ≤ s.1 + 1 + 2
    omega
theorem un_sub {K : TKS} {f : Nat → PE ⊕ (Nat × Cde)} {s : PT} (hk : K.1 s.1 = 6) : lfE (unS K (some f)) s = bd (bd (bd (.inr s) (mstS K 6)) (lfE f)) (fun q => bd (mstS K 7 q.1) (fun s3 => .inr (s3, q.2))) := by
  rw [bd_mst hk]
  unfold lfE unS advS mstS
  rw [if_pos hk]
  cases advN s.1 with
  | inl e => rfl
  | inr t1 =>
    show bd (bd (f t1) _) _ = bd (bd (f t1) _) _
    cases f t1 with
    | inl e => rfl
    | inr x =>
      show bd (bd (mstN K 7 x.1) _) _ = bd (bd (mstN K 7 x.1) _) _
      cases mstN K 7 x.1 <;> rfl
theorem un_var {K : TKS} {sub : Option (Nat → PE ⊕ (Nat × Cde))} {s : PT} (hk : 33 ≤ K.1 s.1 ∧ K.1 s.1 ≤ 41) : lfE (unS K sub) s = bd (mstS K (K.1 s.1) s) (fun s1 => .inr (s1, [(1, K.1 s.1 - 33)])) := by
  rw [mst_adv rfl]
  unfold lfE unS advS
  rw [if_neg (by omega), if_neg (by omega), if_pos hk]
  cases advN s.1 <;> rfl
theorem un_num {K : TKS} {sub : Option (Nat → PE ⊕ (Nat × Cde))} {s : PT} (h6 : ¬ K.1 s.1 = 6) (hk : ¬ (33 ≤ K.1 s.1 ∧ K.1 s.1 ≤ 41)) : lfE (unS K sub) s = bd (mstS K 2 s) (fun s1 => .inr (s1, [(0, K.2.2.1 s.1)])) := by
  unfold lfE unS mstS mstN
  rw [if_neg h6]
  by_cases h2 : K.1 s.1 = 2
  · rw [if_pos h2, if_pos h2]
    cases advN s.1 <;> rfl
  · rw [if_neg h2, if_neg h2, if_neg hk]; rfl
theorem prj_mst (R : PE ⊕ (PT × Cde)) (K : TKS) (k : Nat) : prj (bd R (fun q => bd (mstS K k q.1) (fun s3 => .inr (s3, q.2)))) = bd (prj R) (mstS K k) := by
  cases R with
  | inl e => rfl
  | inr q =>
    show prj (bd (mstS K k q.1) _) = mstS K k q.1
    cases mstS K k q.1 <;> rfl
theorem EQc.tk {K : TKS} {a z k z1 : Nat} {st st1 rv1 rv2 : Nat → Int32} {R : PE ⊕ (PT × Cde)} (h : EQc K a z st R rv1 z1 st1) (hP : PVc K (bd (prj R) (mstS K k)) rv2) : EQc K a z st (bd R (fun q => bd (mstS K k q.1) (fun s3 => .inr (s3, q.2)))) rv2 z1 st1 := by
  refine ⟨h.1, h.2.1, by rw [prj_mst]; exact hP, fun q hq => ?_⟩
  obtain ⟨q0, e0, e1⟩ := bd_inrE hq
  obtain ⟨s3, e2, e3⟩ := bd_inrE e1
  obtain rfl := Sum.inr.inj e3
  have g := h.2.2.2 q0 e0
  refine ⟨g.1, g.2.1, g.2.2.1, ?_⟩
  have := (mstS_inr e2).2.2
  rw [this]
  have := g.2.2.2
  show z1 + a ≤ q0.1.1 + 1 + 2
  omega
theorem ck_var {k : Nat} (h : vk k) : (141 ≤ ck k ∧ ck k ≤ 149 ↔ 33 ≤ k ∧ k ≤ 41) ∧ (33 ≤ k → ck k - 141 = k - 33) := by
  have : ∀ k : Fin 42, (141 ≤ ck k.val ∧ ck k.val ≤ 149 ↔ 33 ≤ k.val ∧ k.val ≤ 41) ∧ (33 ≤ k.val → ck k.val - 141 = k.val - 33) := by decide +kernel
  exact this ⟨k, by unfold vk at h; omega⟩
theorem ck_6 {k : Nat} (h : vk k) : ck k = 40 ↔ k = 6 := ck_inj (k := 6) h (by unfold vk; omega)
set_option maxHeartbeats 1000000 in
theorem un_F (d : Nat) (rv : Nat → Int32) (ra : Nat → Nat → Int32) (rb : Nat → Nat → Int64) (tv : Nat → Int32) (ta : Nat → Nat → Int32) (tb : Nat → Nat → Int64) (bg : Nat → Int32) (K : TKS) (hT : CTk K ra rb) (a z : Nat) (st : Nat → Int32) (hz : z ≤ 404) (b : Nat) (hb : b ≤ 6) (e : PE) (hP : PVc K (.inl e) rv) : Con mX3_parseUnit d [.ref 0, .int (nI b)] (dW rv ra rb (.ref 6) (vX tv ta tb z st bg)) (fun q W' => ∃ rv' z' st', W' = dW rv' ra rb (.ref 6) (vX tv ta tb z' st' bg) ∧ chg [1, 8, 9] rv rv' ∧ EQc K a z st (.inl e) rv' z' st' ∧ q = none) := by
  obtain ⟨t, ht, h8⟩ := hP.t
  refine Con.of (by decide) (Nat.le_of_ble_eq_true rfl) ?_
  have q1 : (rv 8) = (nI t) := h8
  have q2 : (nI t).toNatClampNeg = t := nI_clamp (by omega)
  refine XG.blk tX3_parseUnit_ok 0 8 (pc' := 14) (pl' := [some (.ref 0), some (.int (nI b)), some (.int ((ra 4) (rv 8).toNatClampNeg))]) (st' := [(.int (rv 9))]) (W1 := (dW rv ra rb (.ref 6) (vX tv ta tb z st bg))) (bs := [px_vb (rv 8) 402]) rfl rfl (by (try simp only [q1, q2]); exact (px_all (px_vbN (by omega) (by decide)) rfl)) ?_
  simp only [q1, q2]
  refine XG.br eX3_parseUnit_14 (P := (rv 9) = 0) (r := []) rfl (tgt := 18) (by decide) (fun h14 => ?_) (fun h14 => ?_)
  · exfalso
    exact hP.no h14
  · skip
    refine XS.vret eX3_parseUnit_17 rfl ?_
    exact ⟨_, _, _, rfl, chg.rf, ⟨Nat.le_refl _, hz, hP, fun q h => by cases h⟩, rfl⟩
set_option maxHeartbeats 1000000 in
theorem un_A (d : Nat) (rv : Nat → Int32) (ra : Nat → Nat → Int32) (rb : Nat → Nat → Int64) (tv : Nat → Int32) (ta : Nat → Nat → Int32) (tb : Nat → Nat → Int64) (bg : Nat → Int32) (K : TKS) (hT : CTk K ra rb) (a z : Nat) (st : Nat → Int32) (hz : z ≤ 404) (b : Nat) (hb : b ≤ 6) (s : PT) (hP : PVc K (.inr s) rv) (hz2 : z + a ≤ s.1 + 2)  (h6 : K.1 s.1 = 6) (hb6 : b = 6) (hd : 1 ≤ d) : Con mX3_parseUnit d [.ref 0, .int (nI b)] (dW rv ra rb (.ref 6) (vX tv ta tb z st bg)) (fun q W' => ∃ rv' z' st', W' = dW rv' ra rb (.ref 6) (vX tv ta tb z' st' bg) ∧ chg [1, 8, 9] rv rv' ∧ EQc K a z st (lfE (unS K none) s) rv' z' st' ∧ q = none) := by
  have hK := hT s.1 hP.1 hP.2.2.2.1
  have hv := hK.2.2.2.2.1
  have hck := ck_lt hv
  have hs4 := hP.1
  have h40 := ck_6 hv
  have hvr := ck_var hv
  have h41 := h40.mpr h6
  refine Con.of (by decide) (Nat.le_of_ble_eq_true rfl) ?_
  have q1 : (rv 8) = (nI s.1) := hP.2.1
  have q2 : (nI s.1).toNatClampNeg = s.1 := nI_clamp (by omega)
  have q3 : ((ra 4) s.1) = (nI (ck (K.1 s.1))) := hK.1
  have q4 : (rv 9) = (nI 0) := hP.2.2.1
  refine XG.blk tX3_parseUnit_ok 0 8 (pc' := 14) (pl' := [some (.ref 0), some (.int (nI b)), some (.int ((ra 4) (rv 8).toNatClampNeg))]) (st' := [(.int (rv 9))]) (W1 := (dW rv ra rb (.ref 6) (vX tv ta tb z st bg))) (bs := [px_vb (rv 8) 402]) rfl rfl (by (try simp only [q1, q2, q3, q4]); exact (px_all (px_vbN (by omega) (by decide)) rfl)) ?_
  simp only [q1, q2, q3, q4]
  refine XG.br eX3_parseUnit_14 (P := (nI 0) = 0) (r := []) rfl (tgt := 18) (by decide) (fun h14 => ?_) (fun h14 => ?_)
  · skip
    have g14 : 0 = 0 := (nI_eq (a := 0) (b := 0) (by omega) (by omega)).mp h14
    refine XG.blk tX3_parseUnit_ok 10 2 (pc' := 21) (pl' := [some (.ref 0), some (.int (nI b)), some (.int (nI (ck (K.1 s.1))))]) (st' := [(.int (nI 40)), (.int (nI (ck (K.1 s.1))))]) (W1 := (dW rv ra rb (.ref 6) (vX tv ta tb z st bg))) (bs := []) rfl rfl rfl ?_
    refine XG.br eX3_parseUnit_21 (P := ¬ (nI (ck (K.1 s.1))) = (nI 40)) (r := []) rfl (tgt := 38) (by decide) (fun h21 => ?_) (fun h21 => ?_)
    · exfalso
      have g21 : ¬ (ck (K.1 s.1)) = 40 := (fun z_9 => h21 ((nI_eq (a := (ck (K.1 s.1))) (b := 40) (by omega) (by omega)).mpr z_9))
      omega
    · skip
      have h21 := Decidable.not_not.mp h21
      have g21 : (ck (K.1 s.1)) = 40 := (nI_eq (a := (ck (K.1 s.1))) (b := 40) (by omega) (by omega)).mp h21
      refine XG.blk tX3_parseUnit_ok 13 2 (pc' := 27) (pl' := [some (.ref 0), some (.int (nI b)), some (.int (nI (ck (K.1 s.1))))]) (st' := [(.int (nI 6)), (.int (nI b))]) (W1 := (dW rv ra rb (.ref 6) (vX tv ta tb z st bg))) (bs := []) rfl rfl rfl ?_
      refine XG.br eX3_parseUnit_27 (P := (nI b) < (nI 6)) (r := []) rfl (tgt := 38) (by decide) (fun h27 => ?_) (fun h27 => ?_)
      · exfalso
        have g27 : b < 6 := (nI_ltI (a := b) (b := 6) (by omega) (by omega)).mp h27
        omega
      · skip
        have g27 : ¬ b < 6 := (fun z_9 => h27 ((nI_ltI (a := b) (b := 6) (by omega) (by omega)).mpr z_9))
        refine XG.blk tX3_parseUnit_ok 16 2 (pc' := 32) (pl' := [some (.ref 0), some (.int (nI b)), some (.int (nI (ck (K.1 s.1))))]) (st' := [(.int (nI 2)), (.ref 0)]) (W1 := (dW rv ra rb (.ref 6) (vX tv ta tb z st bg))) (bs := []) rfl rfl rfl ?_
        refine XG.callV0 eX3_parseUnit_32 kl_X3_149 (cc_fail (d - 1) rv ra rb (.ref 6) (vX tv ta tb z st bg) K hT (.inr s) hP 2 (by decide)) (px_fitS (by omega)) rfl rfl rfl (Nat.le_of_ble_eq_true rfl) (fun r9 W9 hp9 hl9 => ?_)
        obtain ⟨rv1, rfl, hc1, hP1, rfl⟩ := hp9
        show XG _ _ _ _ _ _ [] (dW rv1 ra rb (.ref 6) (vX tv ta tb z st bg))
        refine XG.goto eX3_parseUnit_35 (tgt := 130) (by decide) ?_
        refine XS.vret eX3_parseUnit_130 rfl ?_
        have e : lfE (unS K none) s = .inl (2, s.1) := by
          unfold lfE unS; rw [if_pos h6]; rfl
        rw [e]
        exact ⟨_, _, _, rfl, hc1.mono (by decide), ⟨Nat.le_refl _, hz, hP1, fun q h => by cases h⟩, rfl⟩
  · exfalso
    have g14 : ¬ 0 = 0 := (fun z_9 => h14 ((nI_eq (a := 0) (b := 0) (by omega) (by omega)).mpr z_9))
    omega
set_option maxHeartbeats 1000000 in
theorem un_B (d : Nat) (rv : Nat → Int32) (ra : Nat → Nat → Int32) (rb : Nat → Nat → Int64) (tv : Nat → Int32) (ta : Nat → Nat → Int32) (tb : Nat → Nat → Int64) (bg : Nat → Int32) (K : TKS) (hT : CTk K ra rb) (a z : Nat) (st : Nat → Int32) (hz : z ≤ 404) (b : Nat) (hb : b ≤ 6) (s : PT) (hP : PVc K (.inr s) rv) (hz2 : z + a ≤ s.1 + 2)  (f : Nat → PE ⊕ (Nat × Cde)) (h6 : K.1 s.1 = 6) (hb6 : b < 6) (hf : cEx K mX3_parseSum f (b + 1) (d - 1)) (hd : 1 ≤ d) : Con mX3_parseUnit d [.ref 0, .int (nI b)] (dW rv ra rb (.ref 6) (vX tv ta tb z st bg)) (fun q W' => ∃ rv' z' st', W' = dW rv' ra rb (.ref 6) (vX tv ta tb z' st' bg) ∧ chg [1, 8, 9] rv rv' ∧ EQc K a z st (lfE (unS K (some f)) s) rv' z' st' ∧ q = none) := by
  have hK := hT s.1 hP.1 hP.2.2.2.1
  have hv := hK.2.2.2.2.1
  have hck := ck_lt hv
  have hs4 := hP.1
  have h40 := ck_6 hv
  have hvr := ck_var hv
  have h41 := h40.mpr h6
  refine Con.of (by decide) (Nat.le_of_ble_eq_true rfl) ?_
  have q1 : (rv 8) = (nI s.1) := hP.2.1
  have q2 : (nI s.1).toNatClampNeg = s.1 := nI_clamp (by omega)
  have q3 : ((ra 4) s.1) = (nI (ck (K.1 s.1))) := hK.1
  have q4 : (rv 9) = (nI 0) := hP.2.2.1
  refine XG.blk tX3_parseUnit_ok 0 8 (pc' := 14) (pl' := [some (.ref 0), some (.int (nI b)), some (.int ((ra 4) (rv 8).toNatClampNeg))]) (st' := [(.int (rv 9))]) (W1 := (dW rv ra rb (.ref 6) (vX tv ta tb z st bg))) (bs := [px_vb (rv 8) 402]) rfl rfl (by (try simp only [q1, q2, q3, q4]); exact (px_all (px_vbN (by omega) (by decide)) rfl)) ?_
  simp only [q1, q2, q3, q4]
  refine XG.br eX3_parseUnit_14 (P := (nI 0) = 0) (r := []) rfl (tgt := 18) (by decide) (fun h14 => ?_) (fun h14 => ?_)
  · skip
    have g14 : 0 = 0 := (nI_eq (a := 0) (b := 0) (by omega) (by omega)).mp h14
    refine XG.blk tX3_parseUnit_ok 10 2 (pc' := 21) (pl' := [some (.ref 0), some (.int (nI b)), some (.int (nI (ck (K.1 s.1))))]) (st' := [(.int (nI 40)), (.int (nI (ck (K.1 s.1))))]) (W1 := (dW rv ra rb (.ref 6) (vX tv ta tb z st bg))) (bs := []) rfl rfl rfl ?_
    refine XG.br eX3_parseUnit_21 (P := ¬ (nI (ck (K.1 s.1))) = (nI 40)) (r := []) rfl (tgt := 38) (by decide) (fun h21 => ?_) (fun h21 => ?_)
    · exfalso
      have g21 : ¬ (ck (K.1 s.1)) = 40 := (fun z_9 => h21 ((nI_eq (a := (ck (K.1 s.1))) (b := 40) (by omega) (by omega)).mpr z_9))
      omega
    · skip
      have h21 := Decidable.not_not.mp h21
      have g21 : (ck (K.1 s.1)) = 40 := (nI_eq (a := (ck (K.1 s.1))) (b := 40) (by omega) (by omega)).mp h21
      refine XG.blk tX3_parseUnit_ok 13 2 (pc' := 27) (pl' := [some (.ref 0), some (.int (nI b)), some (.int (nI (ck (K.1 s.1))))]) (st' := [(.int (nI 6)), (.int (nI b))]) (W1 := (dW rv ra rb (.ref 6) (vX tv ta tb z st bg))) (bs := []) rfl rfl rfl ?_
      refine XG.br eX3_parseUnit_27 (P := (nI b) < (nI 6)) (r := []) rfl (tgt := 38) (by decide) (fun h27 => ?_) (fun h27 => ?_)
      · skip
        have g27 : b < 6 := (nI_ltI (a := b) (b := 6) (by omega) (by omega)).mp h27
        refine XG.blk tX3_parseUnit_ok 20 2 (pc' := 41) (pl' := [some (.ref 0), some (.int (nI b)), some (.int (nI (ck (K.1 s.1))))]) (st' := [(.int (nI 40)), (.int (nI (ck (K.1 s.1))))]) (W1 := (dW rv ra rb (.ref 6) (vX tv ta tb z st bg))) (bs := []) rfl rfl rfl ?_
        refine XG.br eX3_parseUnit_41 (P := ¬ (nI (ck (K.1 s.1))) = (nI 40)) (r := []) rfl (tgt := 66) (by decide) (fun h41 => ?_) (fun h41 => ?_)
        · exfalso
          have g41 : ¬ (ck (K.1 s.1)) = 40 := (fun z_9 => h41 ((nI_eq (a := (ck (K.1 s.1))) (b := 40) (by omega) (by omega)).mpr z_9))
          omega
        · skip
          have h41 := Decidable.not_not.mp h41
          have g41 : (ck (K.1 s.1)) = 40 := (nI_eq (a := (ck (K.1 s.1))) (b := 40) (by omega) (by omega)).mp h41
          refine XG.blk tX3_parseUnit_ok 23 2 (pc' := 47) (pl' := [some (.ref 0), some (.int (nI b)), some (.int (nI (ck (K.1 s.1))))]) (st' := [(.int (nI 40)), (.ref 0)]) (W1 := (dW rv ra rb (.ref 6) (vX tv ta tb z st bg))) (bs := []) rfl rfl rfl ?_
          refine XG.callV0 eX3_parseUnit_47 kl_X3_130 (cc_take (d - 1) rv ra rb (.ref 6) (vX tv ta tb z st bg) K hT (.inr s) hP 6 (by unfold vk; omega) (by decide)) (px_fitS (by omega)) rfl rfl rfl (Nat.le_of_ble_eq_true rfl) (fun r9 W9 hp9 hl9 => ?_)
          obtain ⟨rv1, rfl, hc1, hP1, rfl⟩ := hp9
          show XG _ _ _ _ _ _ [] (dW rv1 ra rb (.ref 6) (vX tv ta tb z st bg))
          have q5 : ((nI b) + (nI 1)) = (nI (b + 1)) := px_eadd rfl rfl
          refine XG.blk tX3_parseUnit_ok 26 4 (pc' := 54) (pl' := [some (.ref 0), some (.int (nI b)), some (.int (nI (ck (K.1 s.1))))]) (st' := [(.int ((nI b) + (nI 1))), (.ref 0)]) (W1 := (dW rv1 ra rb (.ref 6) (vX tv ta tb z st bg))) (bs := []) rfl rfl rfl ?_
          simp only [q5]
          refine XG.callV0 eX3_parseUnit_54 kl_X3_221 (hf rv1 ra rb tv ta tb bg hT (bd (.inr s) (mstS K 6)) hP1 a z st hz (fun s1 h1 => by rw [bd_mst h6] at h1; rw [adv_s h1]; show z + a ≤ s.1 + 1 + 2; omega)) (px_fitS (by omega)) rfl rfl rfl (Nat.le_of_ble_eq_true rfl) (fun r9 W9 hp9 hl9 => ?_)
          obtain ⟨rv2, z2, st2, rfl, hc2, hE2, rfl⟩ := hp9
          show XG _ _ _ _ _ _ [] (dW rv2 ra rb (.ref 6) (vX tv ta tb z2 st2 bg))
          refine XG.blk tX3_parseUnit_ok 31 2 (pc' := 60) (pl' := [some (.ref 0), some (.int (nI b)), some (.int (nI (ck (K.1 s.1))))]) (st' := [(.int (nI 41)), (.ref 0)]) (W1 := (dW rv2 ra rb (.ref 6) (vX tv ta tb z2 st2 bg))) (bs := []) rfl rfl rfl ?_
          refine XG.callV0 eX3_parseUnit_60 kl_X3_130 (cc_take (d - 1) rv2 ra rb (.ref 6) (vX tv ta tb z2 st2 bg) K hT (prj (bd (bd (.inr s) (mstS K 6)) (lfE f))) hE2.2.2.1 7 (by unfold vk; omega) (by decide)) (px_fitS (by omega)) rfl rfl rfl (Nat.le_of_ble_eq_true rfl) (fun r9 W9 hp9 hl9 => ?_)
          obtain ⟨rv3, rfl, hc3, hP3, rfl⟩ := hp9
          show XG _ _ _ _ _ _ [] (dW rv3 ra rb (.ref 6) (vX tv ta tb z2 st2 bg))
          refine XG.goto eX3_parseUnit_63 (tgt := 130) (by decide) ?_
          refine XS.vret eX3_parseUnit_130 rfl ?_
          rw [un_sub h6]
          exact ⟨_, _, _, rfl, hc1.tr (hc2.tr hc3), hE2.tk hP3, rfl⟩
      · exfalso
        have g27 : ¬ b < 6 := (fun z_9 => h27 ((nI_ltI (a := b) (b := 6) (by omega) (by omega)).mpr z_9))
        omega
  · exfalso
    have g14 : ¬ 0 = 0 := (fun z_9 => h14 ((nI_eq (a := 0) (b := 0) (by omega) (by omega)).mpr z_9))
    omega
set_option maxHeartbeats 1000000 in
theorem un_C (d : Nat) (rv : Nat → Int32) (ra : Nat → Nat → Int32) (rb : Nat → Nat → Int64) (tv : Nat → Int32) (ta : Nat → Nat → Int32) (tb : Nat → Nat → Int64) (bg : Nat → Int32) (K : TKS) (hT : CTk K ra rb) (a z : Nat) (st : Nat → Int32) (hz : z ≤ 404) (b : Nat) (hb : b ≤ 6) (s : PT) (hP : PVc K (.inr s) rv) (hz2 : z + a ≤ s.1 + 2) (sub : Option (Nat → PE ⊕ (Nat × Cde))) (hk : 33 ≤ K.1 s.1 ∧ K.1 s.1 ≤ 41) (hd : 1 ≤ d) : Con mX3_parseUnit d [.ref 0, .int (nI b)] (dW rv ra rb (.ref 6) (vX tv ta tb z st bg)) (fun q W' => ∃ rv' z' st', W' = dW rv' ra rb (.ref 6) (vX tv ta tb z' st' bg) ∧ chg [1, 8, 9] rv rv' ∧ EQc K a z st (lfE (unS K sub) s) rv' z' st' ∧ q = none) := by
  have hK := hT s.1 hP.1 hP.2.2.2.1
  have hv := hK.2.2.2.2.1
  have hck := ck_lt hv
  have hs4 := hP.1
  have h40 := ck_6 hv
  have hvr := ck_var hv
  have h141 := hvr.1.mpr hk
  refine Con.of (by decide) (Nat.le_of_ble_eq_true rfl) ?_
  have q1 : (rv 8) = (nI s.1) := hP.2.1
  have q2 : (nI s.1).toNatClampNeg = s.1 := nI_clamp (by omega)
  have q3 : ((ra 4) s.1) = (nI (ck (K.1 s.1))) := hK.1
  have q4 : (rv 9) = (nI 0) := hP.2.2.1
  refine XG.blk tX3_parseUnit_ok 0 8 (pc' := 14) (pl' := [some (.ref 0), some (.int (nI b)), some (.int ((ra 4) (rv 8).toNatClampNeg))]) (st' := [(.int (rv 9))]) (W1 := (dW rv ra rb (.ref 6) (vX tv ta tb z st bg))) (bs := [px_vb (rv 8) 402]) rfl rfl (by (try simp only [q1, q2, q3, q4]); exact (px_all (px_vbN (by omega) (by decide)) rfl)) ?_
  simp only [q1, q2, q3, q4]
  refine XG.br eX3_parseUnit_14 (P := (nI 0) = 0) (r := []) rfl (tgt := 18) (by decide) (fun h14 => ?_) (fun h14 => ?_)
  · skip
    have g14 : 0 = 0 := (nI_eq (a := 0) (b := 0) (by omega) (by omega)).mp h14
    refine XG.blk tX3_parseUnit_ok 10 2 (pc' := 21) (pl' := [some (.ref 0), some (.int (nI b)), some (.int (nI (ck (K.1 s.1))))]) (st' := [(.int (nI 40)), (.int (nI (ck (K.1 s.1))))]) (W1 := (dW rv ra rb (.ref 6) (vX tv ta tb z st bg))) (bs := []) rfl rfl rfl ?_
    refine XG.br eX3_parseUnit_21 (P := ¬ (nI (ck (K.1 s.1))) = (nI 40)) (r := []) rfl (tgt := 38) (by decide) (fun h21 => ?_) (fun h21 => ?_)
    · skip
      have g21 : ¬ (ck (K.1 s.1)) = 40 := (fun z_9 => h21 ((nI_eq (a := (ck (K.1 s.1))) (b := 40) (by omega) (by omega)).mpr z_9))
      refine XG.blk tX3_parseUnit_ok 20 2 (pc' := 41) (pl' := [some (.ref 0), some (.int (nI b)), some (.int (nI (ck (K.1 s.1))))]) (st' := [(.int (nI 40)), (.int (nI (ck (K.1 s.1))))]) (W1 := (dW rv ra rb (.ref 6) (vX tv ta tb z st bg))) (bs := []) rfl rfl rfl ?_
      refine XG.br eX3_parseUnit_41 (P := ¬ (nI (ck (K.1 s.1))) = (nI 40)) (r := []) rfl (tgt := 66) (by decide) (fun h41 => ?_) (fun h41 => ?_)
      · skip
        have g41 : ¬ (ck (K.1 s.1)) = 40 := (fun z_9 => h41 ((nI_eq (a := (ck (K.1 s.1))) (b := 40) (by omega) (by omega)).mpr z_9))
        refine XG.blk tX3_parseUnit_ok 35 2 (pc' := 70) (pl' := [some (.ref 0), some (.int (nI b)), some (.int (nI (ck (K.1 s.1))))]) (st' := [(.int (nI 141)), (.int (nI (ck (K.1 s.1))))]) (W1 := (dW rv ra rb (.ref 6) (vX tv ta tb z st bg))) (bs := []) rfl rfl rfl ?_
        refine XG.br eX3_parseUnit_70 (P := (nI (ck (K.1 s.1))) < (nI 141)) (r := []) rfl (tgt := 104) (by decide) (fun h70 => ?_) (fun h70 => ?_)
        · exfalso
          have g70 : (ck (K.1 s.1)) < 141 := (nI_ltI (a := (ck (K.1 s.1))) (b := 141) (by omega) (by omega)).mp h70
          omega
        · skip
          have g70 : ¬ (ck (K.1 s.1)) < 141 := (fun z_9 => h70 ((nI_ltI (a := (ck (K.1 s.1))) (b := 141) (by omega) (by omega)).mpr z_9))
          refine XG.blk tX3_parseUnit_ok 38 2 (pc' := 77) (pl' := [some (.ref 0), some (.int (nI b)), some (.int (nI (ck (K.1 s.1))))]) (st' := [(.int (nI 149)), (.int (nI (ck (K.1 s.1))))]) (W1 := (dW rv ra rb (.ref 6) (vX tv ta tb z st bg))) (bs := []) rfl rfl rfl ?_
          refine XG.br eX3_parseUnit_77 (P := (nI 149) < (nI (ck (K.1 s.1)))) (r := []) rfl (tgt := 104) (by decide) (fun h77 => ?_) (fun h77 => ?_)
          · exfalso
            have g77 : 149 < (ck (K.1 s.1)) := (nI_ltI (a := 149) (b := (ck (K.1 s.1))) (by omega) (by omega)).mp h77
            omega
          · skip
            have g77 : ¬ 149 < (ck (K.1 s.1)) := (fun z_9 => h77 ((nI_ltI (a := 149) (b := (ck (K.1 s.1))) (by omega) (by omega)).mpr z_9))
            refine XG.blk tX3_parseUnit_ok 41 7 (pc' := 93) (pl' := [some (.ref 0), some (.int (nI b)), some (.int (nI (ck (K.1 s.1))))]) (st' := [(.int ((nI (ck (K.1 s.1))) - (nI 141))), (.int (nI 1)), (.ref 17)]) (W1 := (dW rv ra rb (.ref 6) (vX tv ta tb z st bg))) (bs := []) rfl rfl rfl ?_
            refine XG.callV (ro := [17, 18, 19, 20]) (W1 := (gW (nI z) st bg (ta 22))) eX3_parseUnit_93 kl_X3_227 (cc_lawAdd (d - 1) z st bg (ta 22) hz (nI 1) ((nI (ck (K.1 s.1))) - (nI 141))) (px_fitS (by omega)) rfl ⟨rfl, by decide, by decide⟩ rfl rfl (Nat.le_of_ble_eq_true rfl) (fun r9 W9 hp9 hl9 => ?_)
            obtain ⟨rfl, rfl⟩ := hp9
            rw [pt_vg]
            show XG _ _ _ _ _ _ [] (dW rv ra rb (.ref 6) (vX tv ta tb (adZ z) (adS st z (stX (nI 1) ((nI (ck (K.1 s.1))) - (nI 141)))) bg))
            refine XG.blk tX3_parseUnit_ok 49 2 (pc' := 98) (pl' := [some (.ref 0), some (.int (nI b)), some (.int (nI (ck (K.1 s.1))))]) (st' := [(.int (nI (ck (K.1 s.1)))), (.ref 0)]) (W1 := (dW rv ra rb (.ref 6) (vX tv ta tb (adZ z) (adS st z (stX (nI 1) ((nI (ck (K.1 s.1))) - (nI 141)))) bg))) (bs := []) rfl rfl rfl ?_
            refine XG.callV0 eX3_parseUnit_98 kl_X3_130 (cc_take (d - 1) rv ra rb (.ref 6) (vX tv ta tb (adZ z) (adS st z (stX (nI 1) ((nI (ck (K.1 s.1))) - (nI 141)))) bg) K hT (.inr s) hP (K.1 s.1) hv (by omega)) (px_fitS (by omega)) rfl rfl rfl (Nat.le_of_ble_eq_true rfl) (fun r9 W9 hp9 hl9 => ?_)
            obtain ⟨rv1, rfl, hc1, hP1, rfl⟩ := hp9
            show XG _ _ _ _ _ _ [] (dW rv1 ra rb (.ref 6) (vX tv ta tb (adZ z) (adS st z (stX (nI 1) ((nI (ck (K.1 s.1))) - (nI 141)))) bg))
            refine XG.goto eX3_parseUnit_101 (tgt := 130) (by decide) ?_
            refine XS.vret eX3_parseUnit_130 rfl ?_
            rw [un_var hk]
            exact ⟨_, _, _, rfl, hc1, EQc.one hP.1 hz2 hP1 (fun s1 h1 => by rw [show (nI (ck (K.1 s.1)) - nI 141) = nI (ck (K.1 s.1) - 141) from px_esub rfl rfl (by omega), hvr.2 (by omega)]; exact stX_n (by decide) (by omega)), rfl⟩
      · exfalso
        have h41 := Decidable.not_not.mp h41
        have g41 : (ck (K.1 s.1)) = 40 := (nI_eq (a := (ck (K.1 s.1))) (b := 40) (by omega) (by omega)).mp h41
        omega
    · exfalso
      have h21 := Decidable.not_not.mp h21
      have g21 : (ck (K.1 s.1)) = 40 := (nI_eq (a := (ck (K.1 s.1))) (b := 40) (by omega) (by omega)).mp h21
      omega
  · exfalso
    have g14 : ¬ 0 = 0 := (fun z_9 => h14 ((nI_eq (a := 0) (b := 0) (by omega) (by omega)).mpr z_9))
    omega
set_option maxHeartbeats 1000000 in
theorem un_D (d : Nat) (rv : Nat → Int32) (ra : Nat → Nat → Int32) (rb : Nat → Nat → Int64) (tv : Nat → Int32) (ta : Nat → Nat → Int32) (tb : Nat → Nat → Int64) (bg : Nat → Int32) (K : TKS) (hT : CTk K ra rb) (a z : Nat) (st : Nat → Int32) (hz : z ≤ 404) (b : Nat) (hb : b ≤ 6) (s : PT) (hP : PVc K (.inr s) rv) (hz2 : z + a ≤ s.1 + 2) (sub : Option (Nat → PE ⊕ (Nat × Cde))) (h6 : ¬ K.1 s.1 = 6) (hk : ¬ (33 ≤ K.1 s.1 ∧ K.1 s.1 ≤ 41)) (hd : 1 ≤ d) : Con mX3_parseUnit d [.ref 0, .int (nI b)] (dW rv ra rb (.ref 6) (vX tv ta tb z st bg)) (fun q W' => ∃ rv' z' st', W' = dW rv' ra rb (.ref 6) (vX tv ta tb z' st' bg) ∧ chg [1, 8, 9] rv rv' ∧ EQc K a z st (lfE (unS K sub) s) rv' z' st' ∧ q = none) := by
  have hK := hT s.1 hP.1 hP.2.2.2.1
  have hv := hK.2.2.2.2.1
  have hck := ck_lt hv
  have hs4 := hP.1
  have h40 := ck_6 hv
  have hvr := ck_var hv
  have h41 : ¬ ck (K.1 s.1) = 40 := fun w => h6 (h40.mp w)
  have h141 : ¬ (141 ≤ ck (K.1 s.1) ∧ ck (K.1 s.1) ≤ 149) := fun w => hk (hvr.1.mp w)
  have hlt := hK.2.2.2.2.2.2
  refine Con.of (by decide) (Nat.le_of_ble_eq_true rfl) ?_
  have q1 : (rv 8) = (nI s.1) := hP.2.1
  have q2 : (nI s.1).toNatClampNeg = s.1 := nI_clamp (by omega)
  have q3 : ((ra 4) s.1) = (nI (ck (K.1 s.1))) := hK.1
  have q4 : (rv 9) = (nI 0) := hP.2.2.1
  refine XG.blk tX3_parseUnit_ok 0 8 (pc' := 14) (pl' := [some (.ref 0), some (.int (nI b)), some (.int ((ra 4) (rv 8).toNatClampNeg))]) (st' := [(.int (rv 9))]) (W1 := (dW rv ra rb (.ref 6) (vX tv ta tb z st bg))) (bs := [px_vb (rv 8) 402]) rfl rfl (by (try simp only [q1, q2, q3, q4]); exact (px_all (px_vbN (by omega) (by decide)) rfl)) ?_
  simp only [q1, q2, q3, q4]
  refine XG.br eX3_parseUnit_14 (P := (nI 0) = 0) (r := []) rfl (tgt := 18) (by decide) (fun h14 => ?_) (fun h14 => ?_)
  · skip
    have g14 : 0 = 0 := (nI_eq (a := 0) (b := 0) (by omega) (by omega)).mp h14
    refine XG.blk tX3_parseUnit_ok 10 2 (pc' := 21) (pl' := [some (.ref 0), some (.int (nI b)), some (.int (nI (ck (K.1 s.1))))]) (st' := [(.int (nI 40)), (.int (nI (ck (K.1 s.1))))]) (W1 := (dW rv ra rb (.ref 6) (vX tv ta tb z st bg))) (bs := []) rfl rfl rfl ?_
    refine XG.br eX3_parseUnit_21 (P := ¬ (nI (ck (K.1 s.1))) = (nI 40)) (r := []) rfl (tgt := 38) (by decide) (fun h21 => ?_) (fun h21 => ?_)
    · skip
      have g21 : ¬ (ck (K.1 s.1)) = 40 := (fun z_9 => h21 ((nI_eq (a := (ck (K.1 s.1))) (b := 40) (by omega) (by omega)).mpr z_9))
      refine XG.blk tX3_parseUnit_ok 20 2 (pc' := 41) (pl' := [some (.ref 0), some (.int (nI b)), some (.int (nI (ck (K.1 s.1))))]) (st' := [(.int (nI 40)), (.int (nI (ck (K.1 s.1))))]) (W1 := (dW rv ra rb (.ref 6) (vX tv ta tb z st bg))) (bs := []) rfl rfl rfl ?_
      refine XG.br eX3_parseUnit_41 (P := ¬ (nI (ck (K.1 s.1))) = (nI 40)) (r := []) rfl (tgt := 66) (by decide) (fun h41 => ?_) (fun h41 => ?_)
      · skip
        have g41 : ¬ (ck (K.1 s.1)) = 40 := (fun z_9 => h41 ((nI_eq (a := (ck (K.1 s.1))) (b := 40) (by omega) (by omega)).mpr z_9))
        refine XG.blk tX3_parseUnit_ok 35 2 (pc' := 70) (pl' := [some (.ref 0), some (.int (nI b)), some (.int (nI (ck (K.1 s.1))))]) (st' := [(.int (nI 141)), (.int (nI (ck (K.1 s.1))))]) (W1 := (dW rv ra rb (.ref 6) (vX tv ta tb z st bg))) (bs := []) rfl rfl rfl ?_
        refine XG.br eX3_parseUnit_70 (P := (nI (ck (K.1 s.1))) < (nI 141)) (r := []) rfl (tgt := 104) (by decide) (fun h70 => ?_) (fun h70 => ?_)
        · skip
          have g70 : (ck (K.1 s.1)) < 141 := (nI_ltI (a := (ck (K.1 s.1))) (b := 141) (by omega) (by omega)).mp h70
          have q5 : (rv 8) = (nI s.1) := hP.2.1
          have q6 : (nI s.1).toNatClampNeg = s.1 := nI_clamp (by omega)
          refine XG.blk tX3_parseUnit_ok 53 10 (pc' := 122) (pl' := [some (.ref 0), some (.int (nI b)), some (.int (nI (ck (K.1 s.1))))]) (st' := [(.int (((rb 6) (rv 8).toNatClampNeg)).toInt32), (.int (nI 0)), (.ref 17)]) (W1 := (dW rv ra rb (.ref 6) (vX tv ta tb z st bg))) (bs := [px_vb (rv 8) 402]) rfl rfl (by (try simp only [q5, q6]); exact (px_all (px_vbN (by omega) (by decide)) rfl)) ?_
          simp only [q5, q6]
          refine XG.callV (ro := [17, 18, 19, 20]) (W1 := (gW (nI z) st bg (ta 22))) eX3_parseUnit_122 kl_X3_227 (cc_lawAdd (d - 1) z st bg (ta 22) hz (nI 0) (((rb 6) s.1)).toInt32) (px_fitS (by omega)) rfl ⟨rfl, by decide, by decide⟩ rfl rfl (Nat.le_of_ble_eq_true rfl) (fun r9 W9 hp9 hl9 => ?_)
          obtain ⟨rfl, rfl⟩ := hp9
          rw [pt_vg]
          show XG _ _ _ _ _ _ [] (dW rv ra rb (.ref 6) (vX tv ta tb (adZ z) (adS st z (stX (nI 0) (((rb 6) s.1)).toInt32)) bg))
          refine XG.blk tX3_parseUnit_ok 64 2 (pc' := 127) (pl' := [some (.ref 0), some (.int (nI b)), some (.int (nI (ck (K.1 s.1))))]) (st' := [(.int (nI 3)), (.ref 0)]) (W1 := (dW rv ra rb (.ref 6) (vX tv ta tb (adZ z) (adS st z (stX (nI 0) (((rb 6) s.1)).toInt32)) bg))) (bs := []) rfl rfl rfl ?_
          refine XG.callV0 eX3_parseUnit_127 kl_X3_130 (cc_take (d - 1) rv ra rb (.ref 6) (vX tv ta tb (adZ z) (adS st z (stX (nI 0) (((rb 6) s.1)).toInt32)) bg) K hT (.inr s) hP 2 (by unfold vk; omega) (by decide)) (px_fitS (by omega)) rfl rfl rfl (Nat.le_of_ble_eq_true rfl) (fun r9 W9 hp9 hl9 => ?_)
          obtain ⟨rv1, rfl, hc1, hP1, rfl⟩ := hp9
          show XG _ _ _ _ _ _ [] (dW rv1 ra rb (.ref 6) (vX tv ta tb (adZ z) (adS st z (stX (nI 0) (((rb 6) s.1)).toInt32)) bg))
          refine XS.vret eX3_parseUnit_130 rfl ?_
          rw [un_num h6 hk]
          exact ⟨_, _, _, rfl, hc1, EQc.one hP.1 hz2 hP1 (fun s1 h1 => by rw [hK.2.2.2.1 (mstS_inr h1).1, i64_32 hK.2.2.2.2.2.2]; exact stX_n (by decide) (by omega)), rfl⟩
        · skip
          have g70 : ¬ (ck (K.1 s.1)) < 141 := (fun z_9 => h70 ((nI_ltI (a := (ck (K.1 s.1))) (b := 141) (by omega) (by omega)).mpr z_9))
          refine XG.blk tX3_parseUnit_ok 38 2 (pc' := 77) (pl' := [some (.ref 0), some (.int (nI b)), some (.int (nI (ck (K.1 s.1))))]) (st' := [(.int (nI 149)), (.int (nI (ck (K.1 s.1))))]) (W1 := (dW rv ra rb (.ref 6) (vX tv ta tb z st bg))) (bs := []) rfl rfl rfl ?_
          refine XG.br eX3_parseUnit_77 (P := (nI 149) < (nI (ck (K.1 s.1)))) (r := []) rfl (tgt := 104) (by decide) (fun h77 => ?_) (fun h77 => ?_)
          · skip
            have g77 : 149 < (ck (K.1 s.1)) := (nI_ltI (a := 149) (b := (ck (K.1 s.1))) (by omega) (by omega)).mp h77
            have q7 : (rv 8) = (nI s.1) := hP.2.1
            have q8 : (nI s.1).toNatClampNeg = s.1 := nI_clamp (by omega)
            refine XG.blk tX3_parseUnit_ok 53 10 (pc' := 122) (pl' := [some (.ref 0), some (.int (nI b)), some (.int (nI (ck (K.1 s.1))))]) (st' := [(.int (((rb 6) (rv 8).toNatClampNeg)).toInt32), (.int (nI 0)), (.ref 17)]) (W1 := (dW rv ra rb (.ref 6) (vX tv ta tb z st bg))) (bs := [px_vb (rv 8) 402]) rfl rfl (by (try simp only [q7, q8]); exact (px_all (px_vbN (by omega) (by decide)) rfl)) ?_
            simp only [q7, q8]
            refine XG.callV (ro := [17, 18, 19, 20]) (W1 := (gW (nI z) st bg (ta 22))) eX3_parseUnit_122 kl_X3_227 (cc_lawAdd (d - 1) z st bg (ta 22) hz (nI 0) (((rb 6) s.1)).toInt32) (px_fitS (by omega)) rfl ⟨rfl, by decide, by decide⟩ rfl rfl (Nat.le_of_ble_eq_true rfl) (fun r9 W9 hp9 hl9 => ?_)
            obtain ⟨rfl, rfl⟩ := hp9
            rw [pt_vg]
            show XG _ _ _ _ _ _ [] (dW rv ra rb (.ref 6) (vX tv ta tb (adZ z) (adS st z (stX (nI 0) (((rb 6) s.1)).toInt32)) bg))
            refine XG.blk tX3_parseUnit_ok 64 2 (pc' := 127) (pl' := [some (.ref 0), some (.int (nI b)), some (.int (nI (ck (K.1 s.1))))]) (st' := [(.int (nI 3)), (.ref 0)]) (W1 := (dW rv ra rb (.ref 6) (vX tv ta tb (adZ z) (adS st z (stX (nI 0) (((rb 6) s.1)).toInt32)) bg))) (bs := []) rfl rfl rfl ?_
            refine XG.callV0 eX3_parseUnit_127 kl_X3_130 (cc_take (d - 1) rv ra rb (.ref 6) (vX tv ta tb (adZ z) (adS st z (stX (nI 0) (((rb 6) s.1)).toInt32)) bg) K hT (.inr s) hP 2 (by unfold vk; omega) (by decide)) (px_fitS (by omega)) rfl rfl rfl (Nat.le_of_ble_eq_true rfl) (fun r9 W9 hp9 hl9 => ?_)
            obtain ⟨rv1, rfl, hc1, hP1, rfl⟩ := hp9
            show XG _ _ _ _ _ _ [] (dW rv1 ra rb (.ref 6) (vX tv ta tb (adZ z) (adS st z (stX (nI 0) (((rb 6) s.1)).toInt32)) bg))
            refine XS.vret eX3_parseUnit_130 rfl ?_
            rw [un_num h6 hk]
            exact ⟨_, _, _, rfl, hc1, EQc.one hP.1 hz2 hP1 (fun s1 h1 => by rw [hK.2.2.2.1 (mstS_inr h1).1, i64_32 hK.2.2.2.2.2.2]; exact stX_n (by decide) (by omega)), rfl⟩
          · exfalso
            have g77 : ¬ 149 < (ck (K.1 s.1)) := (fun z_9 => h77 ((nI_ltI (a := 149) (b := (ck (K.1 s.1))) (by omega) (by omega)).mpr z_9))
            omega
      · exfalso
        have h41 := Decidable.not_not.mp h41
        have g41 : (ck (K.1 s.1)) = 40 := (nI_eq (a := (ck (K.1 s.1))) (b := 40) (by omega) (by omega)).mp h41
        omega
    · exfalso
      have h21 := Decidable.not_not.mp h21
      have g21 : (ck (K.1 s.1)) = 40 := (nI_eq (a := (ck (K.1 s.1))) (b := 40) (by omega) (by omega)).mp h21
      omega
  · exfalso
    have g14 : ¬ 0 = 0 := (fun z_9 => h14 ((nI_eq (a := 0) (b := 0) (by omega) (by omega)).mpr z_9))
    omega
theorem cc_unit (K : TKS) (sub : Option (Nat → PE ⊕ (Nat × Cde))) (b d : Nat) (hb : b ≤ 6) (hd : 1 ≤ d) (hs0 : sub = none → b = 6) (hs1 : ∀ f, sub = some f → b < 6 ∧ cEx K mX3_parseSum f (b + 1) (d - 1)) : cEx K mX3_parseUnit (unS K sub) b d := by
  intro rv ra rb tv ta tb bg hT r hP a z st hz hz2
  cases r with
  | inl e => exact un_F d rv ra rb tv ta tb bg K hT a z st hz b hb e hP
  | inr s =>
    have hz2 := hz2 s rfl
    by_cases h6 : K.1 s.1 = 6
    · cases sub with
      | none => exact un_A d rv ra rb tv ta tb bg K hT a z st hz b hb s hP hz2 h6 (hs0 rfl) hd
      | some f => exact un_B d rv ra rb tv ta tb bg K hT a z st hz b hb s hP hz2 f h6 (hs1 f rfl).1 (hs1 f rfl).2 hd
    · by_cases hk : 33 ≤ K.1 s.1 ∧ K.1 s.1 ≤ 41
      · exact un_C d rv ra rb tv ta tb bg K hT a z st hz b hb s hP hz2 sub hk hd
      · exact un_D d rv ra rb tv ta tb bg K hT a z st hz b hb s hP hz2 sub h6 hk hd
