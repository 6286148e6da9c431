/-! the reference: expressions -/
def W6 (W : List Nat) : Nat := (W.filter (fun x => decide (x = 6))).length
def loW (W : List Nat) : Prop := W = [] ∨ W.head? = some 6
def wkW (W : List Nat) : Prop := W.head? = some 8 ∨ W.head? = some 9
def wtW : List Nat → Prop
  | [] => True
  | x :: W => wtW W ∧ (x = 6 ∨ ((x = 8 ∨ x = 9) ∧ loW W) ∨ ((x = 10 ∨ x = 15) ∧ (loW W ∨ wkW W)))
theorem W6_6 (W : List Nat) : W6 (6 :: W) = W6 W + 1 := by unfold W6; rw [List.filter_cons, if_pos (by decide)]; rfl
theorem W6_n {x : Nat} (W : List Nat) (h : x ≠ 6) : W6 (x :: W) = W6 W := by unfold W6; rw [List.filter_cons, if_neg (by simpa using h)]
theorem nops_6 (W : List Nat) : nops (6 :: W) = nops W := by unfold nops; rw [List.filter_cons, if_neg (by decide)]
theorem nops_n {x : Nat} (W : List Nat) (h : x ≠ 6) : nops (x :: W) = nops W + 1 := by unfold nops; rw [List.filter_cons, if_pos (by simpa using h)]; rfl
theorem wtW_len : ∀ W, wtW W → W.length ≤ 3 * W6 W + 2 ∧ (wkW W → W.length ≤ 3 * W6 W + 1) ∧ (loW W → W.length ≤ 3 * W6 W) := by
  intro W
  induction W with
  | nil => intro _; exact ⟨Nat.zero_le _, fun _ => Nat.zero_le _, fun _ => Nat.zero_le _⟩
  | cons x W ih =>
    intro h
    obtain ⟨h1, h2⟩ := h
    obtain ⟨i1, i2, i3⟩ := ih h1
    have hl : (x :: W).length = W.length + 1 := rfl
    rcases h2 with rfl | ⟨hx, h2⟩ | ⟨hx, h2⟩
    · rw [hl, W6_6]
      exact ⟨by omega, fun _ => by omega, fun _ => by omega⟩
    · rw [hl, W6_n W (by omega)]
      have := i3 h2
      exact ⟨by omega, fun _ => by omega, fun z => by rcases z with z | z; cases z; cases z; omega⟩
    · rw [hl, W6_n W (by omega)]
      have : W.length ≤ 3 * W6 W + 1 := by
        rcases h2 with h2 | h2
        · have := i3 h2; omega
        · exact i2 h2
      exact ⟨by omega, fun z => by rcases z with z | z <;> cases z <;> omega, fun z => by rcases z with z | z; cases z; cases z; omega⟩
theorem wtW_out (st : Bool) : ∀ W c, wtW W → wtW (outW st W c).1 ∧ W6 (outW st W c).1 = W6 W ∧ (st = false → loW (outW st W c).1) ∧ (loW (outW st W c).1 ∨ wkW (outW st W c).1) ∧ (outW st W c).2.length + nops (outW st W c).1 = c.length + nops W := by
  intro W
  induction W with
  | nil => intro c h; exact ⟨h, rfl, fun _ => Or.inl rfl, Or.inl (Or.inl rfl), rfl⟩
  | cons x W ih =>
    intro c h
    unfold outW
    by_cases h1 : x = 6 ∨ (st = true ∧ (x = 8 ∨ x = 9))
    · rw [if_pos h1]
      refine ⟨h, rfl, fun hs => ?_, ?_, rfl⟩
      · rcases h1 with rfl | h1
        · exact Or.inr rfl
        · rw [hs] at h1; cases h1.1
      · rcases h1 with rfl | ⟨-, rfl | rfl⟩
        · exact Or.inl (Or.inr rfl)
        · exact Or.inr (Or.inl rfl)
        · exact Or.inr (Or.inr rfl)
    · rw [if_neg h1]
      have hx : x ≠ 6 := fun e => h1 (Or.inl e)
      obtain ⟨j1, j2, j3, j4, j5⟩ := ih (c ++ [(opN x, 0)]) h.1
      refine ⟨j1, by rw [j2, W6_n W hx], j3, j4, ?_⟩
      rw [j5, nops_n W hx]
      simp; omega
def au (K : TKS) : Nat → Bool → Nat → List Nat → Nat → Cde → PE ⊕ (Nat × Cde)
  | 0, _, t, _, _, _ => .inl (0, t)
  | n + 1, false, t, W, op, c => if K.1 t = 6 then (if op = 6 then .inl (2, t) else bd (advN t) (fun t1 => au K n false t1 (6 :: W) (op + 1) c))
    else match unK K t with
      | some z => bd (advN t) (fun t1 => au K n true t1 W op (c ++ [z]))
      | none => .inl (1, t)
  | n + 1, true, t, W, op, c => if K.1 t = 7 ∧ op ≠ 0 then bd (advN t) (fun t1 => au K n true t1 (outW false W c).1.tail (op - 1) (outW false W c).2)
    else if K.1 t = 8 ∨ K.1 t = 9 ∨ K.1 t = 10 ∨ K.1 t = 15 then bd (advN t) (fun t1 => au K n false t1 (K.1 t :: (outW (decide (K.1 t = 10 ∨ K.1 t = 15)) W c).1) op (outW (decide (K.1 t = 10 ∨ K.1 t = 15)) W c).2)
    else if op = 0 then .inr (t, (outW false W c).2) else .inl (1, t)
theorem FrX.tok {q0 sd : Nat} {K : TKS} {a a' : Nat → Nat → Int32} {b : Nat → Nat → Int64} (h : FrX q0 sd a a') (hT : Tok K a b) : Tok K a' b := by
  unfold Tok at hT ⊢
  rw [h.1 5 (by decide), h.1 6 (by decide), h.1 7 (by decide)]
  exact hT
theorem PVr.v5 {K : TKS} {r : PE ⊕ PT} {v v' : Nat → Int32} (h : PVr K r v) (e1 : v' 11 = v 11) (e2 : v' 13 = v 13) (e3 : v' 14 = v 14) (e4 : v' 15 = v 15) (e5 : v' 16 = v 16) : PVr K r v' := h.chg (fun k hk => by
  simp only [List.mem_cons, List.not_mem_nil, or_false] at hk
  rcases hk with rfl | rfl | rfl | rfl | rfl
  · exact e1
  · exact e2
  · exact e3
  · exact e4
  · exact e5)
theorem St.push {q0 sd : Nat} {x : Nat} {W : List Nat} {c : Cde} {v v' : Nat → Int32} {a a' : Nat → Nat → Int32} (h : St q0 sd W c v a) (hl : W.length < 60) (hx : sgn x) (hb : q0 + c.length + nops (x :: W) ≤ 420 * sd + 401) (h50 : v' 50 = nI (W.length + 1)) (h46 : v' 46 = v 46) (h47 : a' 47 = a 47) (h48 : a' 48 = a 48) (h49 : a' 49 = upd (a 49) W.length (nI x)) : St q0 sd (x :: W) c v' a' := by
  obtain ⟨h1, h2, h3, h4, h5, h6, h7, h8⟩ := h
  refine ⟨h50, hl, by rw [h46]; exact h3, h4, hb, by rw [h49]; exact stk_push h6, ?_, fun y hy => ?_⟩
  · unfold segR at h7 ⊢; rw [h47, h48]; exact h7
  · rcases List.mem_cons.mp hy with rfl | hy
    · exact hx
    · exact h8 y hy
theorem St.pop {q0 sd : Nat} {W : List Nat} {c : Cde} {v v' : Nat → Int32} {a : Nat → Nat → Int32} (h : St q0 sd (6 :: W) c v a) (h50 : v' 50 = nI W.length) (h46 : v' 46 = v 46) : St q0 sd W c v' a := by
  obtain ⟨h1, h2, h3, h4, h5, h6, h7, h8⟩ := h
  have h2 : W.length + 1 ≤ 60 := h2
  exact ⟨h50, by omega, by rw [h46]; exact h3, h4, by rw [nops_6] at h5; exact h5, (stk_cons h6).2, h7, fun y hy => h8 y (List.mem_cons_of_mem _ hy)⟩
abbrev exV : List Nat := [11, 12, 13, 14, 46, 50]
abbrev exPost (K : TKS) (q0 sd : Nat) (w : Option PE) (R : PE ⊕ (Nat × Cde)) (v0 : Nat → Int32) (a0 : Nat → Nat → Int32) (b : Nat → Nat → Int64) : Option Value → px_W → Prop := fun r W' => ∃ v' a', W' = mW v' a' b ∧ chg exV v0 v' ∧ FrX q0 sd a0 a' ∧ r = none ∧ ((∃ e, R = .inl e ∧ PVr K (.inl e) v') ∨ (∃ x, R = .inr x ∧ PVr K (.inr (x.1, w)) v' ∧ v' 12 = nI 0 ∧ v' 46 = nI (q0 + x.2.length) ∧ segR a' q0 x.2 ∧ q0 + x.2.length ≤ x.1 + 420 * sd))
theorem nops_0 {W : List Nat} (h : wtW W) (h2 : loW W) (h3 : W6 W = 0) : nops W = 0 := by
  rcases h2 with rfl | h2
  · rfl
  · cases W with
    | nil => rfl
    | cons x W => cases h2; rw [W6_6] at h3; omega
theorem chgX {v0 v v' v'' : Nat → Int32} {L : List Nat} (h : chg exV v0 v) (h2 : chg L v' v'') (e : ∀ k, k ∉ exV → v' k = v k := by intro k hk; rfl) (hL : ∀ k ∈ L, k ∈ exV := by decide) : chg exV v0 v'' := fun k hk => (h2 k (fun z => hk (hL k z))).trans ((e k hk).trans (h k hk))
theorem upN {v : Nat → Int32} {j : Nat} {x : Int32} (hj : j ∈ exV) : ∀ k, k ∉ exV → va_up v j x k = v k := fun k hk => if_neg (fun e => hk (by rw [e]; exact hj))
theorem up2N {v : Nat → Int32} {j j' : Nat} {x x' : Int32} (hj : j ∈ exV) (hj' : j' ∈ exV) : ∀ k, k ∉ exV → va_up (va_up v j x) j' x' k = v k := fun k hk => (upN hj' k hk).trans (upN hj k hk)
set_option maxHeartbeats 1000000 in
theorem expr_go (d : Nat) (hd : 3 ≤ d) (b : Nat → Nat → Int64) (K : TKS) (q0 sd : Nat) (hsd : sd < 2) (v0 : Nat → Int32) (a0 : Nat → Nat → Int32) (hT : Tok K a0 b) (w : Option PE) (R : PE ⊕ (Nat × Cde)) : ∀ n, (∀ (t : Nat) (W : List Nat) (op : Nat) (c : Cde) (v : Nat → Int32) (a : Nat → Nat → Int32) (hR : au K n false t W op c = R) (hn : 401 ≤ n + t) (h : PVr K (.inr (t, w)) v) (h12 : v 12 = nI op) (hop : op ≤ 6) (hW6 : W6 W = op) (hok : wtW W) (hS : St q0 sd W c v a) (hb : q0 + c.length + nops W ≤ t + 420 * sd) (hv : chg exV v0 v) (ha : FrX q0 sd a0 a), XG mX9_expression (px_gS d (exPost K q0 sd w R v0 a0 b)) 0 0 23 [some (.ref 0), some (.int (nI 0)), some (.int (nI 1))] [] (mW v a b)) ∧ (∀ (t : Nat) (W : List Nat) (op : Nat) (c : Cde) (v : Nat → Int32) (a : Nat → Nat → Int32) (hR : au K n true t W op c = R) (hn : 401 ≤ n + t) (h : PVr K (.inr (t, w)) v) (h12 : v 12 = nI op) (hop : op ≤ 6) (hW6 : W6 W = op) (hok : wtW W) (hS : St q0 sd W c v a) (hb : q0 + c.length + nops W ≤ t + 420 * sd) (hv : chg exV v0 v) (ha : FrX q0 sd a0 a), XG mX9_expression (px_gS d (exPost K q0 sd w R v0 a0 b)) 0 0 96 [some (.ref 0), some (.int (nI 0)), some (.int (nI 1))] [] (mW v a b)) := by
  have hX23 : ∀ (e : PE) (v : Nat → Int32) (a : Nat → Nat → Int32), R = .inl e → PVr K (.inl e) v → chg exV v0 v → FrX q0 sd a0 a → XG mX9_expression (px_gS d (exPost K q0 sd w R v0 a0 b)) 0 0 23 [some (.ref 0), some (.int (nI 0)), some (.int (nI 1))] [] (mW v a b) := by
    intro e v a hR h hv ha
    have hx13 : ¬ v 13 ≤ 0 := by rw [h.2.1]; exact Int32.not_le.mpr (n1_pos (by have := h.1; omega) (by have := h.1; omega))
    refine XG.blk tX9_expression_ok 13 2 (pc' := 26) (pl' := [some (.ref 0), some (.int (nI 0)), some (.int (nI 1))]) (st' := [(.int (nI 6)), (.ref 0)]) (W1 := (mW v a b)) (bs := []) rfl rfl rfl ?_
    refine XG.callV0 eX9_expression_26 kl_X9_233 (con_isX (d - 1) v a b K _ h (nI 6)) (px_fitS (by omega)) rfl rfl rfl (Nat.le_of_ble_eq_true rfl) (fun r9 W9 hp9 hl9 => ?_)
    obtain ⟨rfl, rfl⟩ := hp9
    refine XG.br eX9_expression_29 (P := (nI 0) = 0) (r := []) rfl (tgt := 84) (by decide) (fun h29 => ?_) (fun h29 => ?_)
    · skip
      have g29 : 0 = 0 := (nI_eq (a := 0) (b := 0) (by omega) (by omega)).mp h29
      refine XG.blk tX9_expression_ok 45 1 (pc' := 85) (pl' := [some (.ref 0), some (.int (nI 0)), some (.int (nI 1))]) (st' := [(.ref 0)]) (W1 := (mW v a b)) (bs := []) rfl rfl rfl ?_
      refine XG.callV0 eX9_expression_85 kl_X9_320 (con_unitX (d - 1) v a b K _ h (by omega)) (px_fitS (by omega)) rfl rfl rfl (Nat.le_of_ble_eq_true rfl) (fun r9 W9 hp9 hl9 => ?_)
      obtain ⟨rfl, rfl⟩ := hp9
      refine XG.blk tX9_expression_ok 47 2 (pc' := 92) (pl' := [some (.ref 0), some (.int (nI 0)), some (.int (nI 1))]) (st' := [(.int (v 13))]) (W1 := (mW v a b)) (bs := []) rfl rfl rfl ?_
      refine XG.br eX9_expression_92 (P := (v 13) ≤ 0) (r := []) rfl (tgt := 96) (by decide) (fun h92 => ?_) (fun h92 => ?_)
      · exfalso
        exact hx13 h92
      · skip
        refine XS.vret eX9_expression_95 rfl ?_
        exact ⟨_, _, rfl, hv, ha, rfl, Or.inl ⟨e, hR, h⟩⟩
    · exfalso
      have g29 : ¬ 0 = 0 := (fun z => h29 ((nI_eq (a := 0) (b := 0) (by omega) (by omega)).mpr z))
      omega
  have hX96 : ∀ (e : PE) (op : Nat) (W : List Nat) (c : Cde) (v : Nat → Int32) (a : Nat → Nat → Int32), R = .inl e → PVr K (.inl e) v → v 12 = nI op → op < 100 → St q0 sd W c v a → chg exV v0 v → FrX q0 sd a0 a → XG mX9_expression (px_gS d (exPost K q0 sd w R v0 a0 b)) 0 0 96 [some (.ref 0), some (.int (nI 0)), some (.int (nI 1))] [] (mW v a b) := by
    intro e op W c v a hR h h12 hop hS hv ha
    have hT9 := ha.tok hT
    refine XG.blk tX9_expression_ok 51 2 (pc' := 99) (pl' := [some (.ref 0), some (.int (nI 0)), some (.int (nI 1))]) (st' := [(.int (nI 7)), (.ref 0)]) (W1 := (mW v a b)) (bs := []) rfl rfl rfl ?_
    refine XG.callV0 eX9_expression_99 kl_X9_233 (con_isX (d - 1) v a b K _ h (nI 7)) (px_fitS (by omega)) rfl rfl rfl (Nat.le_of_ble_eq_true rfl) (fun r9 W9 hp9 hl9 => ?_)
    obtain ⟨rfl, rfl⟩ := hp9
    refine XG.br eX9_expression_102 (P := (nI 0) = 0) (r := []) rfl (tgt := 145) (by decide) (fun h102 => ?_) (fun h102 => ?_)
    · skip
      have g102 : 0 = 0 := (nI_eq (a := 0) (b := 0) (by omega) (by omega)).mp h102
      refine XG.blk tX9_expression_ok 77 2 (pc' := 148) (pl' := [some (.ref 0), some (.int (nI 0)), some (.int (nI 1))]) (st' := [(.int (nI 8)), (.ref 0)]) (W1 := (mW v a b)) (bs := []) rfl rfl rfl ?_
      refine XG.callV0 eX9_expression_148 kl_X9_233 (con_isX (d - 1) v a b K _ h (nI 8)) (px_fitS (by omega)) rfl rfl rfl (Nat.le_of_ble_eq_true rfl) (fun r9 W9 hp9 hl9 => ?_)
      obtain ⟨rfl, rfl⟩ := hp9
      refine XG.br eX9_expression_151 (P := ¬ (nI 0) = 0) (r := []) rfl (tgt := 181) (by decide) (fun h151 => ?_) (fun h151 => ?_)
      · exfalso
        have g151 : ¬ 0 = 0 := (fun z => h151 ((nI_eq (a := 0) (b := 0) (by omega) (by omega)).mpr z))
        omega
      · skip
        have h151 := Decidable.not_not.mp h151
        have g151 : 0 = 0 := (nI_eq (a := 0) (b := 0) (by omega) (by omega)).mp h151
        refine XG.blk tX9_expression_ok 81 2 (pc' := 157) (pl' := [some (.ref 0), some (.int (nI 0)), some (.int (nI 1))]) (st' := [(.int (nI 9)), (.ref 0)]) (W1 := (mW v a b)) (bs := []) rfl rfl rfl ?_
        refine XG.callV0 eX9_expression_157 kl_X9_233 (con_isX (d - 1) v a b K _ h (nI 9)) (px_fitS (by omega)) rfl rfl rfl (Nat.le_of_ble_eq_true rfl) (fun r9 W9 hp9 hl9 => ?_)
        obtain ⟨rfl, rfl⟩ := hp9
        refine XG.br eX9_expression_160 (P := ¬ (nI 0) = 0) (r := []) rfl (tgt := 181) (by decide) (fun h160 => ?_) (fun h160 => ?_)
        · exfalso
          have g160 : ¬ 0 = 0 := (fun z => h160 ((nI_eq (a := 0) (b := 0) (by omega) (by omega)).mpr z))
          omega
        · skip
          have h160 := Decidable.not_not.mp h160
          have g160 : 0 = 0 := (nI_eq (a := 0) (b := 0) (by omega) (by omega)).mp h160
          refine XG.blk tX9_expression_ok 85 2 (pc' := 166) (pl' := [some (.ref 0), some (.int (nI 0)), some (.int (nI 1))]) (st' := [(.int (nI 10)), (.ref 0)]) (W1 := (mW v a b)) (bs := []) rfl rfl rfl ?_
          refine XG.callV0 eX9_expression_166 kl_X9_233 (con_isX (d - 1) v a b K _ h (nI 10)) (px_fitS (by omega)) rfl rfl rfl (Nat.le_of_ble_eq_true rfl) (fun r9 W9 hp9 hl9 => ?_)
          obtain ⟨rfl, rfl⟩ := hp9
          refine XG.br eX9_expression_169 (P := ¬ (nI 0) = 0) (r := []) rfl (tgt := 181) (by decide) (fun h169 => ?_) (fun h169 => ?_)
          · exfalso
            have g169 : ¬ 0 = 0 := (fun z => h169 ((nI_eq (a := 0) (b := 0) (by omega) (by omega)).mpr z))
            omega
          · skip
            have h169 := Decidable.not_not.mp h169
            have g169 : 0 = 0 := (nI_eq (a := 0) (b := 0) (by omega) (by omega)).mp h169
            refine XG.blk tX9_expression_ok 89 2 (pc' := 175) (pl' := [some (.ref 0), some (.int (nI 0)), some (.int (nI 1))]) (st' := [(.int (nI 15)), (.ref 0)]) (W1 := (mW v a b)) (bs := []) rfl rfl rfl ?_
            refine XG.callV0 eX9_expression_175 kl_X9_233 (con_isX (d - 1) v a b K _ h (nI 15)) (px_fitS (by omega)) rfl rfl rfl (Nat.le_of_ble_eq_true rfl) (fun r9 W9 hp9 hl9 => ?_)
            obtain ⟨rfl, rfl⟩ := hp9
            refine XG.br eX9_expression_178 (P := (nI 0) = 0) (r := []) rfl (tgt := 185) (by decide) (fun h178 => ?_) (fun h178 => ?_)
            · skip
              have g178 : 0 = 0 := (nI_eq (a := 0) (b := 0) (by omega) (by omega)).mp h178
              refine XG.blk tX9_expression_ok 95 3 (pc' := 188) (pl' := [some (.ref 0), some (.int (nI 0)), some (.int (nI 0))]) (st' := [(.int (nI 0))]) (W1 := (mW v a b)) (bs := []) rfl rfl rfl ?_
              refine XG.br eX9_expression_188 (P := ¬ (nI 0) = 0) (r := []) rfl (tgt := 210) (by decide) (fun h188 => ?_) (fun h188 => ?_)
              · exfalso
                have g188 : ¬ 0 = 0 := (fun z => h188 ((nI_eq (a := 0) (b := 0) (by omega) (by omega)).mpr z))
                omega
              · skip
                have h188 := Decidable.not_not.mp h188
                have g188 : 0 = 0 := (nI_eq (a := 0) (b := 0) (by omega) (by omega)).mp h188
                have q1 : (v 12) = (nI op) := h12
                refine XG.blk tX9_expression_ok 99 3 (pc' := 196) (pl' := [some (.ref 0), some (.int (nI 0)), some (.int (nI 0))]) (st' := [(.int (nI 0)), (.int (v 12))]) (W1 := (mW v a b)) (bs := []) rfl rfl rfl ?_
                simp only [q1]
                refine XG.br eX9_expression_196 (P := (nI op) ≤ (nI 0)) (r := []) rfl (tgt := 204) (by decide) (fun h196 => ?_) (fun h196 => ?_)
                · skip
                  have g196 : op ≤ 0 := (nI_leI (a := op) (b := 0) (by omega) (by omega)).mp h196
                  refine XG.blk tX9_expression_ok 106 2 (pc' := 206) (pl' := [some (.ref 0), some (.int (nI 0)), some (.int (nI 0))]) (st' := [(.int (nI 0)), (.ref 0)]) (W1 := (mW v a b)) (bs := []) rfl rfl rfl ?_
                  refine XG.callV0 eX9_expression_206 kl_X9_323 (con_comesOut (d - 1) (by omega) v a b q0 sd hsd false W c hS) (px_fitS (by omega)) rfl rfl rfl (Nat.le_of_ble_eq_true rfl) (fun r9 W9 hp9 hl9 => ?_)
                  obtain ⟨v1, a1, rfl, hc1, hf1, hS1, rfl⟩ := hp9
                  have hP1 := PVr.v5 (v' := v1) h (hc1 11 (by decide)) (hc1 13 (by decide)) (hc1 14 (by decide)) (hc1 15 (by decide)) (hc1 16 (by decide))
                  have hT1 := hf1.tok hT9
                  have hk1_12 : v1 12 = nI op := (hc1 12 (by decide)).trans h12
                  have hl1 := hS1.2.1
                  refine XS.vret eX9_expression_209 rfl ?_
                  exact ⟨_, _, rfl, (chgX hv hc1), ha.tr hf1, rfl, Or.inl ⟨e, hR, hP1⟩⟩
                · skip
                  have g196 : ¬ op ≤ 0 := (fun z => h196 ((nI_leI (a := op) (b := 0) (by omega) (by omega)).mpr z))
                  refine XG.blk tX9_expression_ok 103 2 (pc' := 201) (pl' := [some (.ref 0), some (.int (nI 0)), some (.int (nI 0))]) (st' := [(.int (nI 1)), (.ref 0)]) (W1 := (mW v a b)) (bs := []) rfl rfl rfl ?_
                  refine XG.callV0 eX9_expression_201 kl_X9_230 (con_failX (d - 1) v a b K _ h (nI 1)) (px_fitS (by omega)) rfl rfl rfl (Nat.le_of_ble_eq_true rfl) (fun r9 W9 hp9 hl9 => ?_)
                  obtain ⟨rfl, rfl⟩ := hp9
                  refine XG.blk tX9_expression_ok 106 2 (pc' := 206) (pl' := [some (.ref 0), some (.int (nI 0)), some (.int (nI 0))]) (st' := [(.int (nI 0)), (.ref 0)]) (W1 := (mW v a b)) (bs := []) rfl rfl rfl ?_
                  refine XG.callV0 eX9_expression_206 kl_X9_323 (con_comesOut (d - 1) (by omega) v a b q0 sd hsd false W c hS) (px_fitS (by omega)) rfl rfl rfl (Nat.le_of_ble_eq_true rfl) (fun r9 W9 hp9 hl9 => ?_)
                  obtain ⟨v1, a1, rfl, hc1, hf1, hS1, rfl⟩ := hp9
                  have hP1 := PVr.v5 (v' := v1) h (hc1 11 (by decide)) (hc1 13 (by decide)) (hc1 14 (by decide)) (hc1 15 (by decide)) (hc1 16 (by decide))
                  have hT1 := hf1.tok hT9
                  have hk1_12 : v1 12 = nI op := (hc1 12 (by decide)).trans h12
                  have hl1 := hS1.2.1
                  refine XS.vret eX9_expression_209 rfl ?_
                  exact ⟨_, _, rfl, (chgX hv hc1), ha.tr hf1, rfl, Or.inl ⟨e, hR, hP1⟩⟩
            · exfalso
              have g178 : ¬ 0 = 0 := (fun z => h178 ((nI_eq (a := 0) (b := 0) (by omega) (by omega)).mpr z))
              omega
    · exfalso
      have g102 : ¬ 0 = 0 := (fun z => h102 ((nI_eq (a := 0) (b := 0) (by omega) (by omega)).mpr z))
      omega
  intro n
  induction n with
  | zero =>
    refine ⟨fun t W op c v a hR hn h => ?_, fun t W op c v a hR hn h => ?_⟩
    · have := h.1; have : t ≤ 400 := this; omega
    · have := h.1; have : t ≤ 400 := this; omega
  | succ n ih =>
    refine ⟨?_, ?_⟩
    · intro t W op c v a hR hn h h12 hop hW6 hok hS hb hv ha
      have hT9 := ha.tok hT
      have ht : t ≤ 400 := h.1
      have hK := hT9 t h.1 h.2.2.2.1
      have hk100 := hK.2.2.2.2.1
      have h11 : v 11 = nI t := h.2.1
      have hlen := (wtW_len W hok).1
      have h50 := hS.1
      have hx13 : v 13 ≤ 0 := by rw [h.2.2.1]; decide
      have hy13 : v 13 = 0 := h.2.2.1
      unfold au at hR
      by_cases hk6 : K.1 t = 6
      · have hk0 : K.1 t ≠ 0 := by omega
        rw [if_pos hk6] at hR
        by_cases h6 : op = 6
        · rw [if_pos h6] at hR
          refine XG.blk tX9_expression_ok 13 2 (pc' := 26) (pl' := [some (.ref 0), some (.int (nI 0)), some (.int (nI 1))]) (st' := [(.int (nI 6)), (.ref 0)]) (W1 := (mW v a b)) (bs := []) rfl rfl rfl ?_
          refine XG.callV0 eX9_expression_26 kl_X9_233 (con_isT (d - 1) v a b K hT9 _ h 6 hk6) (px_fitS (by omega)) rfl rfl rfl (Nat.le_of_ble_eq_true rfl) (fun r9 W9 hp9 hl9 => ?_)
          obtain ⟨rfl, rfl⟩ := hp9
          refine XG.br eX9_expression_29 (P := (nI 1) = 0) (r := []) rfl (tgt := 84) (by decide) (fun h29 => ?_) (fun h29 => ?_)
          · exfalso
            have g29 : 1 = 0 := (nI_eq (a := 1) (b := 0) (by omega) (by omega)).mp h29
            omega
          · skip
            have g29 : ¬ 1 = 0 := (fun z => h29 ((nI_eq (a := 1) (b := 0) (by omega) (by omega)).mpr z))
            have q1 : (v 12) = (nI op) := h12
            refine XG.blk tX9_expression_ok 17 3 (pc' := 38) (pl' := [some (.ref 0), some (.int (nI 0)), some (.int (nI 1))]) (st' := [(.int (nI 6)), (.int (v 12))]) (W1 := (mW v a b)) (bs := []) rfl rfl rfl ?_
            simp only [q1]
            refine XG.br eX9_expression_38 (P := ¬ (nI op) = (nI 6)) (r := []) rfl (tgt := 46) (by decide) (fun h38 => ?_) (fun h38 => ?_)
            · exfalso
              have g38 : ¬ op = 6 := (fun z => h38 ((nI_eq (a := op) (b := 6) (by omega) (by omega)).mpr z))
              omega
            · skip
              have h38 := Decidable.not_not.mp h38
              have g38 : op = 6 := (nI_eq (a := op) (b := 6) (by omega) (by omega)).mp h38
              refine XG.blk tX9_expression_ok 21 2 (pc' := 43) (pl' := [some (.ref 0), some (.int (nI 0)), some (.int (nI 1))]) (st' := [(.int (nI 2)), (.ref 0)]) (W1 := (mW v a b)) (bs := []) rfl rfl rfl ?_
              refine XG.callV0 eX9_expression_43 kl_X9_230 (con_failS (d - 1) v a b K hT9 _ h 2 (Or.inr rfl)) (px_fitS (by omega)) rfl rfl rfl (Nat.le_of_ble_eq_true rfl) (fun r9 W9 hp9 hl9 => ?_)
              obtain ⟨v1, rfl, hc1, hP1, rfl⟩ := hp9
              have hk1_12 : v1 12 = nI op := (hc1 12 (by decide)).trans h12
              have hk1_46 : v1 46 = nI (q0 + c.length) := (hc1 46 (by decide)).trans hS.2.2.1
              have hk1_50 : v1 50 = nI W.length := (hc1 50 (by decide)).trans h50
              have hS1 := hS.v (hc1 46 (by decide)) (hc1 50 (by decide))
              have q2 : (v1 12) = (nI op) := hk1_12
              have q3 : ((nI op) + (nI 1)) = (nI (op + 1)) := px_eadd rfl rfl
              refine XG.blk tX9_expression_ok 24 7 (pc' := 57) (pl' := [some (.ref 0), some (.int (nI 0)), some (.int (nI 1))]) (st' := [(.ref 0)]) (W1 := (mW (va_up v1 12 ((v1 12) + (nI 1))) a b)) (bs := []) rfl rfl rfl ?_
              simp only [q2, q3]
              have hQ1 := PVr.v5 (v' := (va_up v1 12 (nI (op + 1)))) hP1 rfl rfl rfl rfl rfl
              refine XG.callV0 eX9_expression_57 kl_X9_236 (con_goX (d - 1) (va_up v1 12 (nI (op + 1))) a b K _ hQ1 (by omega)) (px_fitS (by omega)) rfl rfl rfl (Nat.le_of_ble_eq_true rfl) (fun r9 W9 hp9 hl9 => ?_)
              obtain ⟨v2, rfl, hc2, hP2, rfl⟩ := hp9
              have hk2_12 : v2 12 = nI (op + 1) := (hc2 12 (by decide)).trans rfl
              have hk2_46 : v2 46 = nI (q0 + c.length) := (hc2 46 (by decide)).trans hk1_46
              have hk2_50 : v2 50 = nI W.length := (hc2 50 (by decide)).trans hk1_50
              have q4 : (v2 50) = (nI W.length) := hk2_50
              have q5 : (nI W.length).toNatClampNeg = W.length := nI_clamp (by omega)
              have q6 : ((nI W.length) + (nI 1)) = (nI (W.length + 1)) := px_eadd rfl rfl
              refine XG.blk tX9_expression_ok 32 12 (pc' := 81) (pl' := [some (.ref 0), some (.int (nI 0)), some (.int (nI 1))]) (st' := []) (W1 := (mW (va_up v2 50 ((v2 50) + (nI 1))) (va_up a 49 (upd (a 49) (v2 50).toNatClampNeg (nI 6))) b)) (bs := [px_vb (v2 50) 64]) rfl rfl (by (try simp only [q4, q5, q6]); exact (px_all (px_vbN (by omega) (by decide)) rfl)) ?_
              simp only [q4, q5, q6]
              refine XG.goto eX9_expression_81 (tgt := 23) (by decide) ?_
              exact hX23 _ _ _ hR.symm (PVr.v5 (v' := (va_up v2 50 (nI (W.length + 1)))) hP2 rfl rfl rfl rfl rfl) (chgX (chgX (chgX hv hc1 (fun _ _ => rfl)) hc2 (upN (by decide))) (chg.up (S := exV) (by decide)) (fun _ _ => rfl)) (ha.tr (FrX.w _))
        · rw [if_neg h6] at hR
          refine XG.blk tX9_expression_ok 13 2 (pc' := 26) (pl' := [some (.ref 0), some (.int (nI 0)), some (.int (nI 1))]) (st' := [(.int (nI 6)), (.ref 0)]) (W1 := (mW v a b)) (bs := []) rfl rfl rfl ?_
          refine XG.callV0 eX9_expression_26 kl_X9_233 (con_isT (d - 1) v a b K hT9 _ h 6 hk6) (px_fitS (by omega)) rfl rfl rfl (Nat.le_of_ble_eq_true rfl) (fun r9 W9 hp9 hl9 => ?_)
          obtain ⟨rfl, rfl⟩ := hp9
          refine XG.br eX9_expression_29 (P := (nI 1) = 0) (r := []) rfl (tgt := 84) (by decide) (fun h29 => ?_) (fun h29 => ?_)
          · exfalso
            have g29 : 1 = 0 := (nI_eq (a := 1) (b := 0) (by omega) (by omega)).mp h29
            omega
          · skip
            have g29 : ¬ 1 = 0 := (fun z => h29 ((nI_eq (a := 1) (b := 0) (by omega) (by omega)).mpr z))
            have q1 : (v 12) = (nI op) := h12
            refine XG.blk tX9_expression_ok 17 3 (pc' := 38) (pl' := [some (.ref 0), some (.int (nI 0)), some (.int (nI 1))]) (st' := [(.int (nI 6)), (.int (v 12))]) (W1 := (mW v a b)) (bs := []) rfl rfl rfl ?_
            simp only [q1]
            refine XG.br eX9_expression_38 (P := ¬ (nI op) = (nI 6)) (r := []) rfl (tgt := 46) (by decide) (fun h38 => ?_) (fun h38 => ?_)
            · skip
              have g38 : ¬ op = 6 := (fun z => h38 ((nI_eq (a := op) (b := 6) (by omega) (by omega)).mpr z))
              have q2 : (v 12) = (nI op) := h12
              have q3 : ((nI op) + (nI 1)) = (nI (op + 1)) := px_eadd rfl rfl
              refine XG.blk tX9_expression_ok 24 7 (pc' := 57) (pl' := [some (.ref 0), some (.int (nI 0)), some (.int (nI 1))]) (st' := [(.ref 0)]) (W1 := (mW (va_up v 12 ((v 12) + (nI 1))) a b)) (bs := []) rfl rfl rfl ?_
              simp only [q2, q3]
              have hQ1 := PVr.v5 (v' := (va_up v 12 (nI (op + 1)))) h rfl rfl rfl rfl rfl
              refine XG.callV0 eX9_expression_57 kl_X9_236 (con_goS (d - 1) (va_up v 12 (nI (op + 1))) a b K hT9 _ hQ1 hk0 (by omega)) (px_fitS (by omega)) rfl rfl rfl (Nat.le_of_ble_eq_true rfl) (fun r9 W9 hp9 hl9 => ?_)
              obtain ⟨v1, rfl, hc1, hP1, rfl⟩ := hp9
              have hk1_12 : v1 12 = nI (op + 1) := (hc1 12 (by decide)).trans rfl
              have hk1_46 : v1 46 = nI (q0 + c.length) := (hc1 46 (by decide)).trans hS.2.2.1
              have hk1_50 : v1 50 = nI W.length := (hc1 50 (by decide)).trans h50
              have q4 : (v1 50) = (nI W.length) := hk1_50
              have q5 : (nI W.length).toNatClampNeg = W.length := nI_clamp (by omega)
              have q6 : ((nI W.length) + (nI 1)) = (nI (W.length + 1)) := px_eadd rfl rfl
              refine XG.blk tX9_expression_ok 32 12 (pc' := 81) (pl' := [some (.ref 0), some (.int (nI 0)), some (.int (nI 1))]) (st' := []) (W1 := (mW (va_up v1 50 ((v1 50) + (nI 1))) (va_up a 49 (upd (a 49) (v1 50).toNatClampNeg (nI 6))) b)) (bs := [px_vb (v1 50) 64]) rfl rfl (by (try simp only [q4, q5, q6]); exact (px_all (px_vbN (by omega) (by decide)) rfl)) ?_
              simp only [q4, q5, q6]
              refine XG.goto eX9_expression_81 (tgt := 23) (by decide) ?_
              by_cases h400 : t = 400
              · have e9 : advN t = .inl (2, 400) := if_pos h400
                rw [e9] at hR
                have hP9 : PVr K (advS (t, w)) (va_up v1 50 (nI (W.length + 1))) := (PVr.v5 (v' := (va_up v1 50 (nI (W.length + 1)))) hP1 rfl rfl rfl rfl rfl)
                unfold advS at hP9
                rw [show advN (t, w).1 = .inl (2, 400) from e9] at hP9
                exact hX23 _ _ _ hR.symm hP9 (chgX (chgX hv hc1 (upN (by decide))) (chg.up (S := exV) (by decide)) (fun _ _ => rfl)) (ha.tr (FrX.w _))
              · have e9 : advN t = .inr (t + 1) := if_neg h400
                rw [e9] at hR
                have hP9 : PVr K (advS (t, w)) (va_up v1 50 (nI (W.length + 1))) := (PVr.v5 (v' := (va_up v1 50 (nI (W.length + 1)))) hP1 rfl rfl rfl rfl rfl)
                unfold advS at hP9
                rw [show advN (t, w).1 = .inr (t + 1) from e9] at hP9
                exact ih.1 (t + 1) (6 :: W) (op + 1) c _ _ hR (by omega) hP9 (hc1 12 (by decide)) (by omega) (by rw [W6_6, hW6]) ⟨hok, Or.inl rfl⟩ (hS.push (by omega) (Or.inl rfl) (by rw [nops_6]; omega) rfl (hc1 46 (by decide)) rfl rfl rfl) (by rw [nops_6]; omega) (chgX (chgX hv hc1 (upN (by decide))) (chg.up (S := exV) (by decide)) (fun _ _ => rfl)) (ha.tr (FrX.w _))
            · exfalso
              have h38 := Decidable.not_not.mp h38
              have g38 : op = 6 := (nI_eq (a := op) (b := 6) (by omega) (by omega)).mp h38
              omega
      · rw [if_neg hk6] at hR
        refine XG.blk tX9_expression_ok 13 2 (pc' := 26) (pl' := [some (.ref 0), some (.int (nI 0)), some (.int (nI 1))]) (st' := [(.int (nI 6)), (.ref 0)]) (W1 := (mW v a b)) (bs := []) rfl rfl rfl ?_
        refine XG.callV0 eX9_expression_26 kl_X9_233 (con_isF (d - 1) v a b K hT9 _ h 6 hk6 (by decide)) (px_fitS (by omega)) rfl rfl rfl (Nat.le_of_ble_eq_true rfl) (fun r9 W9 hp9 hl9 => ?_)
        obtain ⟨rfl, rfl⟩ := hp9
        refine XG.br eX9_expression_29 (P := (nI 0) = 0) (r := []) rfl (tgt := 84) (by decide) (fun h29 => ?_) (fun h29 => ?_)
        · skip
          have g29 : 0 = 0 := (nI_eq (a := 0) (b := 0) (by omega) (by omega)).mp h29
          refine XG.blk tX9_expression_ok 45 1 (pc' := 85) (pl' := [some (.ref 0), some (.int (nI 0)), some (.int (nI 1))]) (st' := [(.ref 0)]) (W1 := (mW v a b)) (bs := []) rfl rfl rfl ?_
          refine XG.callV0 eX9_expression_85 kl_X9_320 (con_unit (d - 1) v a b K hT9 (t, w) h q0 sd hsd W c hS hb (by omega)) (px_fitS (by omega)) rfl rfl rfl (Nat.le_of_ble_eq_true rfl) (fun r9 W9 hp9 hl9 => ?_)
          obtain ⟨v1, a1, rfl, hc1, hf1, rfl, hu⟩ := hp9
          rcases hu with ⟨z, hz, hP1, hS1⟩ | ⟨hz, hP1⟩
          · rw [hz] at hR
            by_cases h400 : t = 400
            · have e9 : advN t = .inl (2, 400) := if_pos h400
              rw [e9] at hR
              unfold advS at hP1
              rw [show advN (t, w).1 = .inl (2, 400) from e9] at hP1
              have hP1 : PVr K (.inl (2, 400)) v1 := hP1
              have hx131 : ¬ v1 13 ≤ 0 := by rw [hP1.2.1]; exact Int32.not_le.mpr (n1_pos (by decide) (by decide))
              refine XG.blk tX9_expression_ok 47 2 (pc' := 92) (pl' := [some (.ref 0), some (.int (nI 0)), some (.int (nI 1))]) (st' := [(.int (v1 13))]) (W1 := (mW v1 a1 b)) (bs := []) rfl rfl rfl ?_
              refine XG.br eX9_expression_92 (P := (v1 13) ≤ 0) (r := []) rfl (tgt := 96) (by decide) (fun h92 => ?_) (fun h92 => ?_)
              · exfalso
                first | exact hx131 h92 | exact h92 hx131
              · skip
                refine XS.vret eX9_expression_95 rfl ?_
                exact ⟨_, _, rfl, (chgX hv hc1 (fun _ _ => rfl)), ha.tr hf1, rfl, Or.inl ⟨_, hR.symm, hP1⟩⟩
            · have e9 : advN t = .inr (t + 1) := if_neg h400
              rw [e9] at hR
              unfold advS at hP1
              rw [show advN (t, w).1 = .inr (t + 1) from e9] at hP1
              have hP1 : PVr K (.inr (t + 1, w)) v1 := hP1
              have hx131 : v1 13 ≤ 0 := by rw [hP1.2.2.1]; decide
              refine XG.blk tX9_expression_ok 47 2 (pc' := 92) (pl' := [some (.ref 0), some (.int (nI 0)), some (.int (nI 1))]) (st' := [(.int (v1 13))]) (W1 := (mW v1 a1 b)) (bs := []) rfl rfl rfl ?_
              refine XG.br eX9_expression_92 (P := (v1 13) ≤ 0) (r := []) rfl (tgt := 96) (by decide) (fun h92 => ?_) (fun h92 => ?_)
              · skip
                exact ih.2 (t + 1) W op (c ++ [z]) v1 a1 hR (by omega) hP1 ((hc1 12 (by decide)).trans h12) hop hW6 hok hS1 (by simp; omega) (chgX hv hc1 (fun _ _ => rfl)) (ha.tr hf1)
              · exfalso
                first | exact hx131 h92 | exact h92 hx131
          · rw [hz] at hR
            have hx131 : ¬ v1 13 ≤ 0 := by rw [hP1.2.1]; exact Int32.not_le.mpr (n1_pos (k := 1) (by decide) (by decide))
            refine XG.blk tX9_expression_ok 47 2 (pc' := 92) (pl' := [some (.ref 0), some (.int (nI 0)), some (.int (nI 1))]) (st' := [(.int (v1 13))]) (W1 := (mW v1 a1 b)) (bs := []) rfl rfl rfl ?_
            refine XG.br eX9_expression_92 (P := (v1 13) ≤ 0) (r := []) rfl (tgt := 96) (by decide) (fun h92 => ?_) (fun h92 => ?_)
            · exfalso
              first | exact hx131 h92 | exact h92 hx131
            · skip
              refine XS.vret eX9_expression_95 rfl ?_
              exact ⟨_, _, rfl, (chgX hv hc1 (fun _ _ => rfl)), ha.tr hf1, rfl, Or.inl ⟨_, hR.symm, hP1⟩⟩
        · exfalso
          have g29 : ¬ 0 = 0 := (fun z => h29 ((nI_eq (a := 0) (b := 0) (by omega) (by omega)).mpr z))
          omega
    · intro t W op c v a hR hn h h12 hop hW6 hok hS hb hv ha
      have hT9 := ha.tok hT
      have ht : t ≤ 400 := h.1
      have hK := hT9 t h.1 h.2.2.2.1
      have hk100 := hK.2.2.2.2.1
      have h11 : v 11 = nI t := h.2.1
      have hlen := (wtW_len W hok).1
      have h50 := hS.1
      have hx13 : v 13 ≤ 0 := by rw [h.2.2.1]; decide
      have hy13 : v 13 = 0 := h.2.2.1
      unfold au at hR
      have hof := wtW_out false W c hok
      by_cases hk7 : K.1 t = 7 ∧ op ≠ 0
      · have hk0 : K.1 t ≠ 0 := by omega
        rw [if_pos hk7] at hR
        obtain ⟨W2, hW2⟩ : ∃ W2, (outW false W c).1 = 6 :: W2 := by
          rcases hof.2.2.1 rfl with h9 | h9
          · exfalso; have h8 := hof.2.1; rw [h9] at h8; have : W6 [] = 0 := rfl; omega
          · cases hq : (outW false W c).1 with
            | nil => rw [hq] at h9; cases h9
            | cons y Y => rw [hq] at h9; cases h9; exact ⟨Y, rfl⟩
        have hL2 : (outW false W c).1.length = W2.length + 1 := by rw [hW2]; rfl
        refine XG.blk tX9_expression_ok 51 2 (pc' := 99) (pl' := [some (.ref 0), some (.int (nI 0)), some (.int (nI 1))]) (st' := [(.int (nI 7)), (.ref 0)]) (W1 := (mW v a b)) (bs := []) rfl rfl rfl ?_
        refine XG.callV0 eX9_expression_99 kl_X9_233 (con_isT (d - 1) v a b K hT9 _ h 7 hk7.1) (px_fitS (by omega)) rfl rfl rfl (Nat.le_of_ble_eq_true rfl) (fun r9 W9 hp9 hl9 => ?_)
        obtain ⟨rfl, rfl⟩ := hp9
        refine XG.br eX9_expression_102 (P := (nI 1) = 0) (r := []) rfl (tgt := 145) (by decide) (fun h102 => ?_) (fun h102 => ?_)
        · exfalso
          have g102 : 1 = 0 := (nI_eq (a := 1) (b := 0) (by omega) (by omega)).mp h102
          omega
        · skip
          have g102 : ¬ 1 = 0 := (fun z => h102 ((nI_eq (a := 1) (b := 0) (by omega) (by omega)).mpr z))
          have q1 : (v 12) = (nI op) := h12
          refine XG.blk tX9_expression_ok 55 3 (pc' := 110) (pl' := [some (.ref 0), some (.int (nI 0)), some (.int (nI 1))]) (st' := [(.int (nI 0)), (.int (v 12))]) (W1 := (mW v a b)) (bs := []) rfl rfl rfl ?_
          simp only [q1]
          refine XG.br eX9_expression_110 (P := (nI op) ≤ (nI 0)) (r := []) rfl (tgt := 145) (by decide) (fun h110 => ?_) (fun h110 => ?_)
          · exfalso
            have g110 : op ≤ 0 := (nI_leI (a := op) (b := 0) (by omega) (by omega)).mp h110
            omega
          · skip
            have g110 : ¬ op ≤ 0 := (fun z => h110 ((nI_leI (a := op) (b := 0) (by omega) (by omega)).mpr z))
            refine XG.blk tX9_expression_ok 59 2 (pc' := 115) (pl' := [some (.ref 0), some (.int (nI 0)), some (.int (nI 1))]) (st' := [(.int (nI 0)), (.ref 0)]) (W1 := (mW v a b)) (bs := []) rfl rfl rfl ?_
            refine XG.callV0 eX9_expression_115 kl_X9_323 (con_comesOut (d - 1) (by omega) v a b q0 sd hsd false W c hS) (px_fitS (by omega)) rfl rfl rfl (Nat.le_of_ble_eq_true rfl) (fun r9 W9 hp9 hl9 => ?_)
            obtain ⟨v1, a1, rfl, hc1, hf1, hS1, rfl⟩ := hp9
            have hP1 := PVr.v5 (v' := v1) h (hc1 11 (by decide)) (hc1 13 (by decide)) (hc1 14 (by decide)) (hc1 15 (by decide)) (hc1 16 (by decide))
            have hT1 := hf1.tok hT9
            have hk1_12 : v1 12 = nI op := (hc1 12 (by decide)).trans h12
            have hl1 := hS1.2.1
            have q2 : (v1 50) = (nI (outW false W c).1.length) := hS1.1
            have q3 : ((nI (outW false W c).1.length) - (nI 1)) = (nI ((outW false W c).1.length - 1)) := px_esub rfl rfl (by omega)
            have q4 : (v1 12) = (nI op) := hk1_12
            have q5 : ((nI op) - (nI 1)) = (nI (op - 1)) := px_esub rfl rfl (by omega)
            refine XG.blk tX9_expression_ok 62 13 (pc' := 139) (pl' := [some (.ref 0), some (.int (nI 0)), some (.int (nI 1))]) (st' := [(.ref 0)]) (W1 := (mW (va_up (va_up v1 50 ((v1 50) - (nI 1))) 12 ((v1 12) - (nI 1))) a1 b)) (bs := []) rfl rfl rfl ?_
            simp only [q2, q3, q4, q5]
            have hQ1 := PVr.v5 (v' := (va_up (va_up v1 50 (nI ((outW false W c).1.length - 1))) 12 (nI (op - 1)))) hP1 rfl rfl rfl rfl rfl
            refine XG.callV0 eX9_expression_139 kl_X9_236 (con_goS (d - 1) (va_up (va_up v1 50 (nI ((outW false W c).1.length - 1))) 12 (nI (op - 1))) a1 b K hT1 _ hQ1 hk0 (by omega)) (px_fitS (by omega)) rfl rfl rfl (Nat.le_of_ble_eq_true rfl) (fun r9 W9 hp9 hl9 => ?_)
            obtain ⟨v2, rfl, hc2, hP2, rfl⟩ := hp9
            have hk2_12 : v2 12 = nI (op - 1) := (hc2 12 (by decide)).trans rfl
            have hk2_46 : v2 46 = nI (q0 + (outW false W c).2.length) := (hc2 46 (by decide)).trans hS1.2.2.1
            have hk2_50 : v2 50 = nI ((outW false W c).1.length - 1) := (hc2 50 (by decide)).trans rfl
            refine XG.goto eX9_expression_142 (tgt := 96) (by decide) ?_
            by_cases h400 : t = 400
            · have hS9 : St q0 sd W2 (outW false W c).2 v2 a1 := by
                rw [hW2] at hS1
                exact hS1.pop ((hc2 50 (by decide)).trans (by show nI ((outW false W c).1.length - 1) = _; rw [hW2]; rfl)) (hc2 46 (by decide))
              have e9 : advN t = .inl (2, 400) := if_pos h400
              rw [e9] at hR
              have hP9 : PVr K (advS (t, w)) v2 := hP2
              unfold advS at hP9
              rw [show advN (t, w).1 = .inl (2, 400) from e9] at hP9
              exact hX96 _ (op - 1) W2 _ _ _ hR.symm hP9 (hc2 12 (by decide)) (by omega) hS9 (chgX (chgX hv hc1 (fun _ _ => rfl)) hc2 (up2N (by decide) (by decide))) (ha.tr hf1)
            · have hS9 : St q0 sd W2 (outW false W c).2 v2 a1 := by
                rw [hW2] at hS1
                exact hS1.pop ((hc2 50 (by decide)).trans (by show nI ((outW false W c).1.length - 1) = _; rw [hW2]; rfl)) (hc2 46 (by decide))
              have e9 : advN t = .inr (t + 1) := if_neg h400
              rw [e9] at hR
              have hP9 : PVr K (advS (t, w)) v2 := hP2
              unfold advS at hP9
              rw [show advN (t, w).1 = .inr (t + 1) from e9] at hP9
              have hR : au K n true (t + 1) W2 (op - 1) (outW false W c).2 = R := by rw [← hR, hW2]; rfl
              have h61 := hof.2.1
              rw [hW2, W6_6] at h61
              have h62 := hof.1
              rw [hW2] at h62
              have h63 := hof.2.2.2.2
              rw [hW2, nops_6] at h63
              exact ih.2 (t + 1) W2 (op - 1) _ _ _ hR (by omega) hP9 (hc2 12 (by decide)) (by omega) (by omega) h62.1 hS9 (by omega) (chgX (chgX hv hc1 (fun _ _ => rfl)) hc2 (up2N (by decide) (by decide))) (ha.tr hf1)
      · rw [if_neg hk7] at hR
        by_cases hkp : K.1 t = 8 ∨ K.1 t = 9 ∨ K.1 t = 10 ∨ K.1 t = 15
        · have hk0 : K.1 t ≠ 0 := by omega
          rw [if_pos hkp] at hR
          rcases hkp with hkp | hkp | hkp | hkp
          · rw [show decide (K.1 t = 10 ∨ K.1 t = 15) = false by rw [hkp]; decide, hkp] at hR
            have ho9 := wtW_out false W c hok
            have ho5 := ho9.2.2.2.2
            have hlen9 := (wtW_len _ ho9.1).1
            have hW9 := ho9.2.1
            refine XG.blk tX9_expression_ok 51 2 (pc' := 99) (pl' := [some (.ref 0), some (.int (nI 0)), some (.int (nI 1))]) (st' := [(.int (nI 7)), (.ref 0)]) (W1 := (mW v a b)) (bs := []) rfl rfl rfl ?_
            refine XG.callV0 eX9_expression_99 kl_X9_233 (con_isF (d - 1) v a b K hT9 _ h 7 (show ¬ K.1 t = 7 by omega) (by decide)) (px_fitS (by omega)) rfl rfl rfl (Nat.le_of_ble_eq_true rfl) (fun r9 W9 hp9 hl9 => ?_)
            obtain ⟨rfl, rfl⟩ := hp9
            refine XG.br eX9_expression_102 (P := (nI 0) = 0) (r := []) rfl (tgt := 145) (by decide) (fun h102 => ?_) (fun h102 => ?_)
            · skip
              have g102 : 0 = 0 := (nI_eq (a := 0) (b := 0) (by omega) (by omega)).mp h102
              refine XG.blk tX9_expression_ok 77 2 (pc' := 148) (pl' := [some (.ref 0), some (.int (nI 0)), some (.int (nI 1))]) (st' := [(.int (nI 8)), (.ref 0)]) (W1 := (mW v a b)) (bs := []) rfl rfl rfl ?_
              refine XG.callV0 eX9_expression_148 kl_X9_233 (con_isT (d - 1) v a b K hT9 _ h 8 hkp) (px_fitS (by omega)) rfl rfl rfl (Nat.le_of_ble_eq_true rfl) (fun r9 W9 hp9 hl9 => ?_)
              obtain ⟨rfl, rfl⟩ := hp9
              refine XG.br eX9_expression_151 (P := ¬ (nI 1) = 0) (r := []) rfl (tgt := 181) (by decide) (fun h151 => ?_) (fun h151 => ?_)
              · skip
                have g151 : ¬ 1 = 0 := (fun z => h151 ((nI_eq (a := 1) (b := 0) (by omega) (by omega)).mpr z))
                refine XG.blk tX9_expression_ok 93 1 (pc' := 182) (pl' := [some (.ref 0), some (.int (nI 0)), some (.int (nI 1))]) (st' := [(.int (nI 1))]) (W1 := (mW v a b)) (bs := []) rfl rfl rfl ?_
                refine XG.goto eX9_expression_182 (tgt := 186) (by decide) ?_
                refine XG.blk tX9_expression_ok 96 2 (pc' := 188) (pl' := [some (.ref 0), some (.int (nI 0)), some (.int (nI 1))]) (st' := [(.int (nI 1))]) (W1 := (mW v a b)) (bs := []) rfl rfl rfl ?_
                refine XG.br eX9_expression_188 (P := ¬ (nI 1) = 0) (r := []) rfl (tgt := 210) (by decide) (fun h188 => ?_) (fun h188 => ?_)
                · skip
                  have g188 : ¬ 1 = 0 := (fun z => h188 ((nI_eq (a := 1) (b := 0) (by omega) (by omega)).mpr z))
                  refine XG.blk tX9_expression_ok 110 3 (pc' := 214) (pl' := [some (.ref 0), some (.int (nI 0)), some (.int (nI 1))]) (st' := [(.int (nI 10)), (.ref 0), (.ref 0)]) (W1 := (mW v a b)) (bs := []) rfl rfl rfl ?_
                  refine XG.callV0 eX9_expression_214 kl_X9_233 (con_isF (d - 1) v a b K hT9 _ h 10 (show ¬ K.1 t = 10 by omega) (by decide)) (px_fitS (by omega)) rfl rfl rfl (Nat.le_of_ble_eq_true rfl) (fun r9 W9 hp9 hl9 => ?_)
                  obtain ⟨rfl, rfl⟩ := hp9
                  refine XG.br eX9_expression_217 (P := ¬ (nI 0) = 0) (r := [(.ref 0)]) rfl (tgt := 229) (by decide) (fun h217 => ?_) (fun h217 => ?_)
                  · exfalso
                    have g217 : ¬ 0 = 0 := (fun z => h217 ((nI_eq (a := 0) (b := 0) (by omega) (by omega)).mpr z))
                    omega
                  · skip
                    have h217 := Decidable.not_not.mp h217
                    have g217 : 0 = 0 := (nI_eq (a := 0) (b := 0) (by omega) (by omega)).mp h217
                    refine XG.blk tX9_expression_ok 115 2 (pc' := 223) (pl' := [some (.ref 0), some (.int (nI 0)), some (.int (nI 1))]) (st' := [(.int (nI 15)), (.ref 0), (.ref 0)]) (W1 := (mW v a b)) (bs := []) rfl rfl rfl ?_
                    refine XG.callV0 eX9_expression_223 kl_X9_233 (con_isF (d - 1) v a b K hT9 _ h 15 (show ¬ K.1 t = 15 by omega) (by decide)) (px_fitS (by omega)) rfl rfl rfl (Nat.le_of_ble_eq_true rfl) (fun r9 W9 hp9 hl9 => ?_)
                    obtain ⟨rfl, rfl⟩ := hp9
                    refine XG.br eX9_expression_226 (P := (nI 0) = 0) (r := [(.ref 0)]) rfl (tgt := 233) (by decide) (fun h226 => ?_) (fun h226 => ?_)
                    · skip
                      have g226 : 0 = 0 := (nI_eq (a := 0) (b := 0) (by omega) (by omega)).mp h226
                      refine XG.blk tX9_expression_ok 121 1 (pc' := 234) (pl' := [some (.ref 0), some (.int (nI 0)), some (.int (nI 1))]) (st' := [(.int (nI 0)), (.ref 0)]) (W1 := (mW v a b)) (bs := []) rfl rfl rfl ?_
                      refine XG.callV0 eX9_expression_234 kl_X9_323 (con_comesOut (d - 1) (by omega) v a b q0 sd hsd false W c hS) (px_fitS (by omega)) rfl rfl rfl (Nat.le_of_ble_eq_true rfl) (fun r9 W9 hp9 hl9 => ?_)
                      obtain ⟨v1, a1, rfl, hc1, hf1, hS1, rfl⟩ := hp9
                      have hP1 := PVr.v5 (v' := v1) h (hc1 11 (by decide)) (hc1 13 (by decide)) (hc1 14 (by decide)) (hc1 15 (by decide)) (hc1 16 (by decide))
                      have hT1 := hf1.tok hT9
                      have hK15 : a1 5 t = nI 8 := by rw [hf1.1 5 (by decide), hK.1, hkp]
                      have h111 : v1 11 = nI t := (hc1 11 (by decide)).trans h11
                      have hk1_12 : v1 12 = nI op := (hc1 12 (by decide)).trans h12
                      have hl1 := hS1.2.1
                      have q1 : (v1 50) = (nI (outW false W c).1.length) := hS1.1
                      have q2 : (v1 11) = (nI t) := h111
                      have q3 : (nI t).toNatClampNeg = t := nI_clamp (by omega)
                      have q4 : ((a1 5) t) = (nI 8) := hK15
                      have q5 : (nI (outW false W c).1.length).toNatClampNeg = (outW false W c).1.length := nI_clamp (by omega)
                      have q6 : ((nI (outW false W c).1.length) + (nI 1)) = (nI ((outW false W c).1.length + 1)) := px_eadd rfl rfl
                      refine XG.blk tX9_expression_ok 123 17 (pc' := 266) (pl' := [some (.ref 0), some (.int (nI 0)), some (.int (nI 1))]) (st' := [(.ref 0)]) (W1 := (mW (va_up v1 50 ((v1 50) + (nI 1))) (va_up a1 49 (upd (a1 49) (v1 50).toNatClampNeg ((a1 5) (v1 11).toNatClampNeg))) b)) (bs := [px_vb (v1 11) 403, px_vb (v1 50) 64]) rfl rfl (by (try simp only [q1, q2, q3, q4, q5, q6]); exact (px_all (px_vbN (by omega) (by decide)) (px_all (px_vbN (by omega) (by decide)) rfl))) ?_
                      simp only [q1, q2, q3, q4, q5, q6]
                      have hQ1 := PVr.v5 (v' := (va_up v1 50 (nI ((outW false W c).1.length + 1)))) hP1 rfl rfl rfl rfl rfl
                      refine XG.callV0 eX9_expression_266 kl_X9_236 (con_goS (d - 1) (va_up v1 50 (nI ((outW false W c).1.length + 1))) (va_up a1 49 (upd (a1 49) (outW false W c).1.length (nI 8))) b K hT1 _ hQ1 hk0 (by omega)) (px_fitS (by omega)) rfl rfl rfl (Nat.le_of_ble_eq_true rfl) (fun r9 W9 hp9 hl9 => ?_)
                      obtain ⟨v2, rfl, hc2, hP2, rfl⟩ := hp9
                      have hk2_12 : v2 12 = nI op := (hc2 12 (by decide)).trans hk1_12
                      have hk2_46 : v2 46 = nI (q0 + (outW false W c).2.length) := (hc2 46 (by decide)).trans hS1.2.2.1
                      have hk2_50 : v2 50 = nI ((outW false W c).1.length + 1) := (hc2 50 (by decide)).trans rfl
                      refine XG.goto eX9_expression_269 (tgt := 12) (by decide) ?_
                      by_cases h400 : t = 400
                      · have e9 : advN t = .inl (2, 400) := if_pos h400
                        rw [e9] at hR
                        have hP9 : PVr K (advS (t, w)) v2 := hP2
                        unfold advS at hP9
                        rw [show advN (t, w).1 = .inl (2, 400) from e9] at hP9
                        have hP9 : PVr K (.inl (2, 400)) v2 := hP9
                        have hx131 : ¬ v2 13 = 0 := by rw [hP9.2.1]; exact nI_nz (by decide) (by decide)
                        refine XG.blk tX9_expression_ok 8 1 (pc' := 13) (pl' := [some (.ref 0), some (.int (nI 0)), some (.int (nI 1))]) (st' := [(.int (nI 1))]) (W1 := (mW v2 (va_up a1 49 (upd (a1 49) (outW false W c).1.length (nI 8))) b)) (bs := []) rfl rfl rfl ?_
                        refine XG.br eX9_expression_13 (P := (nI 1) = 0) (r := []) rfl (tgt := 272) (by decide) (fun h13 => ?_) (fun h13 => ?_)
                        · exfalso
                          have g13 : 1 = 0 := (nI_eq (a := 1) (b := 0) (by omega) (by omega)).mp h13
                          omega
                        · skip
                          have g13 : ¬ 1 = 0 := (fun z => h13 ((nI_eq (a := 1) (b := 0) (by omega) (by omega)).mpr z))
                          refine XG.blk tX9_expression_ok 10 2 (pc' := 20) (pl' := [some (.ref 0), some (.int (nI 0)), some (.int (nI 1))]) (st' := [(.int (v2 13))]) (W1 := (mW v2 (va_up a1 49 (upd (a1 49) (outW false W c).1.length (nI 8))) b)) (bs := []) rfl rfl rfl ?_
                          refine XG.br eX9_expression_20 (P := ¬ (v2 13) = 0) (r := []) rfl (tgt := 272) (by decide) (fun h20 => ?_) (fun h20 => ?_)
                          · skip
                            refine XS.vret eX9_expression_272 rfl ?_
                            exact ⟨_, _, rfl, (chgX (chgX hv hc1 (fun _ _ => rfl)) hc2 (upN (by decide))), ha.tr (hf1.tr (FrX.w _)), rfl, Or.inl ⟨_, hR.symm, hP9⟩⟩
                          · exfalso
                            have h20 := Decidable.not_not.mp h20
                            first | exact hx131 h20 | exact h20 hx131
                      · have e9 : advN t = .inr (t + 1) := if_neg h400
                        rw [e9] at hR
                        have hP9 : PVr K (advS (t, w)) v2 := hP2
                        unfold advS at hP9
                        rw [show advN (t, w).1 = .inr (t + 1) from e9] at hP9
                        have hP9 : PVr K (.inr (t + 1, w)) v2 := hP9
                        have hx131 : v2 13 = 0 := hP9.2.2.1
                        refine XG.blk tX9_expression_ok 8 1 (pc' := 13) (pl' := [some (.ref 0), some (.int (nI 0)), some (.int (nI 1))]) (st' := [(.int (nI 1))]) (W1 := (mW v2 (va_up a1 49 (upd (a1 49) (outW false W c).1.length (nI 8))) b)) (bs := []) rfl rfl rfl ?_
                        refine XG.br eX9_expression_13 (P := (nI 1) = 0) (r := []) rfl (tgt := 272) (by decide) (fun h13 => ?_) (fun h13 => ?_)
                        · exfalso
                          have g13 : 1 = 0 := (nI_eq (a := 1) (b := 0) (by omega) (by omega)).mp h13
                          omega
                        · skip
                          have g13 : ¬ 1 = 0 := (fun z => h13 ((nI_eq (a := 1) (b := 0) (by omega) (by omega)).mpr z))
                          refine XG.blk tX9_expression_ok 10 2 (pc' := 20) (pl' := [some (.ref 0), some (.int (nI 0)), some (.int (nI 1))]) (st' := [(.int (v2 13))]) (W1 := (mW v2 (va_up a1 49 (upd (a1 49) (outW false W c).1.length (nI 8))) b)) (bs := []) rfl rfl rfl ?_
                          refine XG.br eX9_expression_20 (P := ¬ (v2 13) = 0) (r := []) rfl (tgt := 272) (by decide) (fun h20 => ?_) (fun h20 => ?_)
                          · exfalso
                            first | exact hx131 h20 | exact h20 hx131
                          · skip
                            have h20 := Decidable.not_not.mp h20
                            refine ih.1 (t + 1) (8 :: (outW false W c).1) op (outW false W c).2 _ _ hR (by omega) hP9 ((hc2 12 (by decide)).trans hk1_12) hop (by rw [W6_n _ (by decide), ho9.2.1, hW6]) ⟨ho9.1, ?_⟩ (hS1.push (by omega) (by unfold sgn; omega) (by rw [nops_n _ (by decide)]; omega) (hc2 50 (by decide)) (hc2 46 (by decide)) rfl rfl rfl) (by rw [nops_n _ (by decide)]; omega) (chgX (chgX hv hc1 (fun _ _ => rfl)) hc2 (upN (by decide))) (ha.tr (hf1.tr (FrX.w _)))
                            exact Or.inr (Or.inl ⟨Or.inl rfl, ho9.2.2.1 rfl⟩)
                    · exfalso
                      have g226 : ¬ 0 = 0 := (fun z => h226 ((nI_eq (a := 0) (b := 0) (by omega) (by omega)).mpr z))
                      omega
                · exfalso
                  have h188 := Decidable.not_not.mp h188
                  have g188 : 1 = 0 := (nI_eq (a := 1) (b := 0) (by omega) (by omega)).mp h188
                  omega
              · exfalso
                have h151 := Decidable.not_not.mp h151
                have g151 : 1 = 0 := (nI_eq (a := 1) (b := 0) (by omega) (by omega)).mp h151
                omega
            · exfalso
              have g102 : ¬ 0 = 0 := (fun z => h102 ((nI_eq (a := 0) (b := 0) (by omega) (by omega)).mpr z))
              omega
          · rw [show decide (K.1 t = 10 ∨ K.1 t = 15) = false by rw [hkp]; decide, hkp] at hR
            have ho9 := wtW_out false W c hok
            have ho5 := ho9.2.2.2.2
            have hlen9 := (wtW_len _ ho9.1).1
            have hW9 := ho9.2.1
            refine XG.blk tX9_expression_ok 51 2 (pc' := 99) (pl' := [some (.ref 0), some (.int (nI 0)), some (.int (nI 1))]) (st' := [(.int (nI 7)), (.ref 0)]) (W1 := (mW v a b)) (bs := []) rfl rfl rfl ?_
            refine XG.callV0 eX9_expression_99 kl_X9_233 (con_isF (d - 1) v a b K hT9 _ h 7 (show ¬ K.1 t = 7 by omega) (by decide)) (px_fitS (by omega)) rfl rfl rfl (Nat.le_of_ble_eq_true rfl) (fun r9 W9 hp9 hl9 => ?_)
            obtain ⟨rfl, rfl⟩ := hp9
            refine XG.br eX9_expression_102 (P := (nI 0) = 0) (r := []) rfl (tgt := 145) (by decide) (fun h102 => ?_) (fun h102 => ?_)
            · skip
              have g102 : 0 = 0 := (nI_eq (a := 0) (b := 0) (by omega) (by omega)).mp h102
              refine XG.blk tX9_expression_ok 77 2 (pc' := 148) (pl' := [some (.ref 0), some (.int (nI 0)), some (.int (nI 1))]) (st' := [(.int (nI 8)), (.ref 0)]) (W1 := (mW v a b)) (bs := []) rfl rfl rfl ?_
              refine XG.callV0 eX9_expression_148 kl_X9_233 (con_isF (d - 1) v a b K hT9 _ h 8 (show ¬ K.1 t = 8 by omega) (by decide)) (px_fitS (by omega)) rfl rfl rfl (Nat.le_of_ble_eq_true rfl) (fun r9 W9 hp9 hl9 => ?_)
              obtain ⟨rfl, rfl⟩ := hp9
              refine XG.br eX9_expression_151 (P := ¬ (nI 0) = 0) (r := []) rfl (tgt := 181) (by decide) (fun h151 => ?_) (fun h151 => ?_)
              · exfalso
                have g151 : ¬ 0 = 0 := (fun z => h151 ((nI_eq (a := 0) (b := 0) (by omega) (by omega)).mpr z))
                omega
              · skip
                have h151 := Decidable.not_not.mp h151
                have g151 : 0 = 0 := (nI_eq (a := 0) (b := 0) (by omega) (by omega)).mp h151
                refine XG.blk tX9_expression_ok 81 2 (pc' := 157) (pl' := [some (.ref 0), some (.int (nI 0)), some (.int (nI 1))]) (st' := [(.int (nI 9)), (.ref 0)]) (W1 := (mW v a b)) (bs := []) rfl rfl rfl ?_
                refine XG.callV0 eX9_expression_157 kl_X9_233 (con_isT (d - 1) v a b K hT9 _ h 9 hkp) (px_fitS (by omega)) rfl rfl rfl (Nat.le_of_ble_eq_true rfl) (fun r9 W9 hp9 hl9 => ?_)
                obtain ⟨rfl, rfl⟩ := hp9
                refine XG.br eX9_expression_160 (P := ¬ (nI 1) = 0) (r := []) rfl (tgt := 181) (by decide) (fun h160 => ?_) (fun h160 => ?_)
                · skip
                  have g160 : ¬ 1 = 0 := (fun z => h160 ((nI_eq (a := 1) (b := 0) (by omega) (by omega)).mpr z))
                  refine XG.blk tX9_expression_ok 93 1 (pc' := 182) (pl' := [some (.ref 0), some (.int (nI 0)), some (.int (nI 1))]) (st' := [(.int (nI 1))]) (W1 := (mW v a b)) (bs := []) rfl rfl rfl ?_
                  refine XG.goto eX9_expression_182 (tgt := 186) (by decide) ?_
                  refine XG.blk tX9_expression_ok 96 2 (pc' := 188) (pl' := [some (.ref 0), some (.int (nI 0)), some (.int (nI 1))]) (st' := [(.int (nI 1))]) (W1 := (mW v a b)) (bs := []) rfl rfl rfl ?_
                  refine XG.br eX9_expression_188 (P := ¬ (nI 1) = 0) (r := []) rfl (tgt := 210) (by decide) (fun h188 => ?_) (fun h188 => ?_)
                  · skip
                    have g188 : ¬ 1 = 0 := (fun z => h188 ((nI_eq (a := 1) (b := 0) (by omega) (by omega)).mpr z))
                    refine XG.blk tX9_expression_ok 110 3 (pc' := 214) (pl' := [some (.ref 0), some (.int (nI 0)), some (.int (nI 1))]) (st' := [(.int (nI 10)), (.ref 0), (.ref 0)]) (W1 := (mW v a b)) (bs := []) rfl rfl rfl ?_
                    refine XG.callV0 eX9_expression_214 kl_X9_233 (con_isF (d - 1) v a b K hT9 _ h 10 (show ¬ K.1 t = 10 by omega) (by decide)) (px_fitS (by omega)) rfl rfl rfl (Nat.le_of_ble_eq_true rfl) (fun r9 W9 hp9 hl9 => ?_)
                    obtain ⟨rfl, rfl⟩ := hp9
                    refine XG.br eX9_expression_217 (P := ¬ (nI 0) = 0) (r := [(.ref 0)]) rfl (tgt := 229) (by decide) (fun h217 => ?_) (fun h217 => ?_)
                    · exfalso
                      have g217 : ¬ 0 = 0 := (fun z => h217 ((nI_eq (a := 0) (b := 0) (by omega) (by omega)).mpr z))
                      omega
                    · skip
                      have h217 := Decidable.not_not.mp h217
                      have g217 : 0 = 0 := (nI_eq (a := 0) (b := 0) (by omega) (by omega)).mp h217
                      refine XG.blk tX9_expression_ok 115 2 (pc' := 223) (pl' := [some (.ref 0), some (.int (nI 0)), some (.int (nI 1))]) (st' := [(.int (nI 15)), (.ref 0), (.ref 0)]) (W1 := (mW v a b)) (bs := []) rfl rfl rfl ?_
                      refine XG.callV0 eX9_expression_223 kl_X9_233 (con_isF (d - 1) v a b K hT9 _ h 15 (show ¬ K.1 t = 15 by omega) (by decide)) (px_fitS (by omega)) rfl rfl rfl (Nat.le_of_ble_eq_true rfl) (fun r9 W9 hp9 hl9 => ?_)
                      obtain ⟨rfl, rfl⟩ := hp9
                      refine XG.br eX9_expression_226 (P := (nI 0) = 0) (r := [(.ref 0)]) rfl (tgt := 233) (by decide) (fun h226 => ?_) (fun h226 => ?_)
                      · skip
                        have g226 : 0 = 0 := (nI_eq (a := 0) (b := 0) (by omega) (by omega)).mp h226
                        refine XG.blk tX9_expression_ok 121 1 (pc' := 234) (pl' := [some (.ref 0), some (.int (nI 0)), some (.int (nI 1))]) (st' := [(.int (nI 0)), (.ref 0)]) (W1 := (mW v a b)) (bs := []) rfl rfl rfl ?_
                        refine XG.callV0 eX9_expression_234 kl_X9_323 (con_comesOut (d - 1) (by omega) v a b q0 sd hsd false W c hS) (px_fitS (by omega)) rfl rfl rfl (Nat.le_of_ble_eq_true rfl) (fun r9 W9 hp9 hl9 => ?_)
                        obtain ⟨v1, a1, rfl, hc1, hf1, hS1, rfl⟩ := hp9
                        have hP1 := PVr.v5 (v' := v1) h (hc1 11 (by decide)) (hc1 13 (by decide)) (hc1 14 (by decide)) (hc1 15 (by decide)) (hc1 16 (by decide))
                        have hT1 := hf1.tok hT9
                        have hK15 : a1 5 t = nI 9 := by rw [hf1.1 5 (by decide), hK.1, hkp]
                        have h111 : v1 11 = nI t := (hc1 11 (by decide)).trans h11
                        have hk1_12 : v1 12 = nI op := (hc1 12 (by decide)).trans h12
                        have hl1 := hS1.2.1
                        have q1 : (v1 50) = (nI (outW false W c).1.length) := hS1.1
                        have q2 : (v1 11) = (nI t) := h111
                        have q3 : (nI t).toNatClampNeg = t := nI_clamp (by omega)
                        have q4 : ((a1 5) t) = (nI 9) := hK15
                        have q5 : (nI (outW false W c).1.length).toNatClampNeg = (outW false W c).1.length := nI_clamp (by omega)
                        have q6 : ((nI (outW false W c).1.length) + (nI 1)) = (nI ((outW false W c).1.length + 1)) := px_eadd rfl rfl
                        refine XG.blk tX9_expression_ok 123 17 (pc' := 266) (pl' := [some (.ref 0), some (.int (nI 0)), some (.int (nI 1))]) (st' := [(.ref 0)]) (W1 := (mW (va_up v1 50 ((v1 50) + (nI 1))) (va_up a1 49 (upd (a1 49) (v1 50).toNatClampNeg ((a1 5) (v1 11).toNatClampNeg))) b)) (bs := [px_vb (v1 11) 403, px_vb (v1 50) 64]) rfl rfl (by (try simp only [q1, q2, q3, q4, q5, q6]); exact (px_all (px_vbN (by omega) (by decide)) (px_all (px_vbN (by omega) (by decide)) rfl))) ?_
                        simp only [q1, q2, q3, q4, q5, q6]
                        have hQ1 := PVr.v5 (v' := (va_up v1 50 (nI ((outW false W c).1.length + 1)))) hP1 rfl rfl rfl rfl rfl
                        refine XG.callV0 eX9_expression_266 kl_X9_236 (con_goS (d - 1) (va_up v1 50 (nI ((outW false W c).1.length + 1))) (va_up a1 49 (upd (a1 49) (outW false W c).1.length (nI 9))) b K hT1 _ hQ1 hk0 (by omega)) (px_fitS (by omega)) rfl rfl rfl (Nat.le_of_ble_eq_true rfl) (fun r9 W9 hp9 hl9 => ?_)
                        obtain ⟨v2, rfl, hc2, hP2, rfl⟩ := hp9
                        have hk2_12 : v2 12 = nI op := (hc2 12 (by decide)).trans hk1_12
                        have hk2_46 : v2 46 = nI (q0 + (outW false W c).2.length) := (hc2 46 (by decide)).trans hS1.2.2.1
                        have hk2_50 : v2 50 = nI ((outW false W c).1.length + 1) := (hc2 50 (by decide)).trans rfl
                        refine XG.goto eX9_expression_269 (tgt := 12) (by decide) ?_
                        by_cases h400 : t = 400
                        · have e9 : advN t = .inl (2, 400) := if_pos h400
                          rw [e9] at hR
                          have hP9 : PVr K (advS (t, w)) v2 := hP2
                          unfold advS at hP9
                          rw [show advN (t, w).1 = .inl (2, 400) from e9] at hP9
                          have hP9 : PVr K (.inl (2, 400)) v2 := hP9
                          have hx131 : ¬ v2 13 = 0 := by rw [hP9.2.1]; exact nI_nz (by decide) (by decide)
                          refine XG.blk tX9_expression_ok 8 1 (pc' := 13) (pl' := [some (.ref 0), some (.int (nI 0)), some (.int (nI 1))]) (st' := [(.int (nI 1))]) (W1 := (mW v2 (va_up a1 49 (upd (a1 49) (outW false W c).1.length (nI 9))) b)) (bs := []) rfl rfl rfl ?_
                          refine XG.br eX9_expression_13 (P := (nI 1) = 0) (r := []) rfl (tgt := 272) (by decide) (fun h13 => ?_) (fun h13 => ?_)
                          · exfalso
                            have g13 : 1 = 0 := (nI_eq (a := 1) (b := 0) (by omega) (by omega)).mp h13
                            omega
                          · skip
                            have g13 : ¬ 1 = 0 := (fun z => h13 ((nI_eq (a := 1) (b := 0) (by omega) (by omega)).mpr z))
                            refine XG.blk tX9_expression_ok 10 2 (pc' := 20) (pl' := [some (.ref 0), some (.int (nI 0)), some (.int (nI 1))]) (st' := [(.int (v2 13))]) (W1 := (mW v2 (va_up a1 49 (upd (a1 49) (outW false W c).1.length (nI 9))) b)) (bs := []) rfl rfl rfl ?_
                            refine XG.br eX9_expression_20 (P := ¬ (v2 13) = 0) (r := []) rfl (tgt := 272) (by decide) (fun h20 => ?_) (fun h20 => ?_)
                            · skip
                              refine XS.vret eX9_expression_272 rfl ?_
                              exact ⟨_, _, rfl, (chgX (chgX hv hc1 (fun _ _ => rfl)) hc2 (upN (by decide))), ha.tr (hf1.tr (FrX.w _)), rfl, Or.inl ⟨_, hR.symm, hP9⟩⟩
                            · exfalso
                              have h20 := Decidable.not_not.mp h20
                              first | exact hx131 h20 | exact h20 hx131
                        · have e9 : advN t = .inr (t + 1) := if_neg h400
                          rw [e9] at hR
                          have hP9 : PVr K (advS (t, w)) v2 := hP2
                          unfold advS at hP9
                          rw [show advN (t, w).1 = .inr (t + 1) from e9] at hP9
                          have hP9 : PVr K (.inr (t + 1, w)) v2 := hP9
                          have hx131 : v2 13 = 0 := hP9.2.2.1
                          refine XG.blk tX9_expression_ok 8 1 (pc' := 13) (pl' := [some (.ref 0), some (.int (nI 0)), some (.int (nI 1))]) (st' := [(.int (nI 1))]) (W1 := (mW v2 (va_up a1 49 (upd (a1 49) (outW false W c).1.length (nI 9))) b)) (bs := []) rfl rfl rfl ?_
                          refine XG.br eX9_expression_13 (P := (nI 1) = 0) (r := []) rfl (tgt := 272) (by decide) (fun h13 => ?_) (fun h13 => ?_)
                          · exfalso
                            have g13 : 1 = 0 := (nI_eq (a := 1) (b := 0) (by omega) (by omega)).mp h13
                            omega
                          · skip
                            have g13 : ¬ 1 = 0 := (fun z => h13 ((nI_eq (a := 1) (b := 0) (by omega) (by omega)).mpr z))
                            refine XG.blk tX9_expression_ok 10 2 (pc' := 20) (pl' := [some (.ref 0), some (.int (nI 0)), some (.int (nI 1))]) (st' := [(.int (v2 13))]) (W1 := (mW v2 (va_up a1 49 (upd (a1 49) (outW false W c).1.length (nI 9))) b)) (bs := []) rfl rfl rfl ?_
                            refine XG.br eX9_expression_20 (P := ¬ (v2 13) = 0) (r := []) rfl (tgt := 272) (by decide) (fun h20 => ?_) (fun h20 => ?_)
                            · exfalso
                              first | exact hx131 h20 | exact h20 hx131
                            · skip
                              have h20 := Decidable.not_not.mp h20
                              refine ih.1 (t + 1) (9 :: (outW false W c).1) op (outW false W c).2 _ _ hR (by omega) hP9 ((hc2 12 (by decide)).trans hk1_12) hop (by rw [W6_n _ (by decide), ho9.2.1, hW6]) ⟨ho9.1, ?_⟩ (hS1.push (by omega) (by unfold sgn; omega) (by rw [nops_n _ (by decide)]; omega) (hc2 50 (by decide)) (hc2 46 (by decide)) rfl rfl rfl) (by rw [nops_n _ (by decide)]; omega) (chgX (chgX hv hc1 (fun _ _ => rfl)) hc2 (upN (by decide))) (ha.tr (hf1.tr (FrX.w _)))
                              exact Or.inr (Or.inl ⟨Or.inr rfl, ho9.2.2.1 rfl⟩)
                      · exfalso
                        have g226 : ¬ 0 = 0 := (fun z => h226 ((nI_eq (a := 0) (b := 0) (by omega) (by omega)).mpr z))
                        omega
                  · exfalso
                    have h188 := Decidable.not_not.mp h188
                    have g188 : 1 = 0 := (nI_eq (a := 1) (b := 0) (by omega) (by omega)).mp h188
                    omega
                · exfalso
                  have h160 := Decidable.not_not.mp h160
                  have g160 : 1 = 0 := (nI_eq (a := 1) (b := 0) (by omega) (by omega)).mp h160
                  omega
            · exfalso
              have g102 : ¬ 0 = 0 := (fun z => h102 ((nI_eq (a := 0) (b := 0) (by omega) (by omega)).mpr z))
              omega
          · rw [show decide (K.1 t = 10 ∨ K.1 t = 15) = true by rw [hkp]; decide, hkp] at hR
            have ho9 := wtW_out true W c hok
            have ho5 := ho9.2.2.2.2
            have hlen9 := (wtW_len _ ho9.1).1
            have hW9 := ho9.2.1
            refine XG.blk tX9_expression_ok 51 2 (pc' := 99) (pl' := [some (.ref 0), some (.int (nI 0)), some (.int (nI 1))]) (st' := [(.int (nI 7)), (.ref 0)]) (W1 := (mW v a b)) (bs := []) rfl rfl rfl ?_
            refine XG.callV0 eX9_expression_99 kl_X9_233 (con_isF (d - 1) v a b K hT9 _ h 7 (show ¬ K.1 t = 7 by omega) (by decide)) (px_fitS (by omega)) rfl rfl rfl (Nat.le_of_ble_eq_true rfl) (fun r9 W9 hp9 hl9 => ?_)
            obtain ⟨rfl, rfl⟩ := hp9
            refine XG.br eX9_expression_102 (P := (nI 0) = 0) (r := []) rfl (tgt := 145) (by decide) (fun h102 => ?_) (fun h102 => ?_)
            · skip
              have g102 : 0 = 0 := (nI_eq (a := 0) (b := 0) (by omega) (by omega)).mp h102
              refine XG.blk tX9_expression_ok 77 2 (pc' := 148) (pl' := [some (.ref 0), some (.int (nI 0)), some (.int (nI 1))]) (st' := [(.int (nI 8)), (.ref 0)]) (W1 := (mW v a b)) (bs := []) rfl rfl rfl ?_
              refine XG.callV0 eX9_expression_148 kl_X9_233 (con_isF (d - 1) v a b K hT9 _ h 8 (show ¬ K.1 t = 8 by omega) (by decide)) (px_fitS (by omega)) rfl rfl rfl (Nat.le_of_ble_eq_true rfl) (fun r9 W9 hp9 hl9 => ?_)
              obtain ⟨rfl, rfl⟩ := hp9
              refine XG.br eX9_expression_151 (P := ¬ (nI 0) = 0) (r := []) rfl (tgt := 181) (by decide) (fun h151 => ?_) (fun h151 => ?_)
              · exfalso
                have g151 : ¬ 0 = 0 := (fun z => h151 ((nI_eq (a := 0) (b := 0) (by omega) (by omega)).mpr z))
                omega
              · skip
                have h151 := Decidable.not_not.mp h151
                have g151 : 0 = 0 := (nI_eq (a := 0) (b := 0) (by omega) (by omega)).mp h151
                refine XG.blk tX9_expression_ok 81 2 (pc' := 157) (pl' := [some (.ref 0), some (.int (nI 0)), some (.int (nI 1))]) (st' := [(.int (nI 9)), (.ref 0)]) (W1 := (mW v a b)) (bs := []) rfl rfl rfl ?_
                refine XG.callV0 eX9_expression_157 kl_X9_233 (con_isF (d - 1) v a b K hT9 _ h 9 (show ¬ K.1 t = 9 by omega) (by decide)) (px_fitS (by omega)) rfl rfl rfl (Nat.le_of_ble_eq_true rfl) (fun r9 W9 hp9 hl9 => ?_)
                obtain ⟨rfl, rfl⟩ := hp9
                refine XG.br eX9_expression_160 (P := ¬ (nI 0) = 0) (r := []) rfl (tgt := 181) (by decide) (fun h160 => ?_) (fun h160 => ?_)
                · exfalso
                  have g160 : ¬ 0 = 0 := (fun z => h160 ((nI_eq (a := 0) (b := 0) (by omega) (by omega)).mpr z))
                  omega
                · skip
                  have h160 := Decidable.not_not.mp h160
                  have g160 : 0 = 0 := (nI_eq (a := 0) (b := 0) (by omega) (by omega)).mp h160
                  refine XG.blk tX9_expression_ok 85 2 (pc' := 166) (pl' := [some (.ref 0), some (.int (nI 0)), some (.int (nI 1))]) (st' := [(.int (nI 10)), (.ref 0)]) (W1 := (mW v a b)) (bs := []) rfl rfl rfl ?_
                  refine XG.callV0 eX9_expression_166 kl_X9_233 (con_isT (d - 1) v a b K hT9 _ h 10 hkp) (px_fitS (by omega)) rfl rfl rfl (Nat.le_of_ble_eq_true rfl) (fun r9 W9 hp9 hl9 => ?_)
                  obtain ⟨rfl, rfl⟩ := hp9
                  refine XG.br eX9_expression_169 (P := ¬ (nI 1) = 0) (r := []) rfl (tgt := 181) (by decide) (fun h169 => ?_) (fun h169 => ?_)
                  · skip
                    have g169 : ¬ 1 = 0 := (fun z => h169 ((nI_eq (a := 1) (b := 0) (by omega) (by omega)).mpr z))
                    refine XG.blk tX9_expression_ok 93 1 (pc' := 182) (pl' := [some (.ref 0), some (.int (nI 0)), some (.int (nI 1))]) (st' := [(.int (nI 1))]) (W1 := (mW v a b)) (bs := []) rfl rfl rfl ?_
                    refine XG.goto eX9_expression_182 (tgt := 186) (by decide) ?_
                    refine XG.blk tX9_expression_ok 96 2 (pc' := 188) (pl' := [some (.ref 0), some (.int (nI 0)), some (.int (nI 1))]) (st' := [(.int (nI 1))]) (W1 := (mW v a b)) (bs := []) rfl rfl rfl ?_
                    refine XG.br eX9_expression_188 (P := ¬ (nI 1) = 0) (r := []) rfl (tgt := 210) (by decide) (fun h188 => ?_) (fun h188 => ?_)
                    · skip
                      have g188 : ¬ 1 = 0 := (fun z => h188 ((nI_eq (a := 1) (b := 0) (by omega) (by omega)).mpr z))
                      refine XG.blk tX9_expression_ok 110 3 (pc' := 214) (pl' := [some (.ref 0), some (.int (nI 0)), some (.int (nI 1))]) (st' := [(.int (nI 10)), (.ref 0), (.ref 0)]) (W1 := (mW v a b)) (bs := []) rfl rfl rfl ?_
                      refine XG.callV0 eX9_expression_214 kl_X9_233 (con_isT (d - 1) v a b K hT9 _ h 10 hkp) (px_fitS (by omega)) rfl rfl rfl (Nat.le_of_ble_eq_true rfl) (fun r9 W9 hp9 hl9 => ?_)
                      obtain ⟨rfl, rfl⟩ := hp9
                      refine XG.br eX9_expression_217 (P := ¬ (nI 1) = 0) (r := [(.ref 0)]) rfl (tgt := 229) (by decide) (fun h217 => ?_) (fun h217 => ?_)
                      · skip
                        have g217 : ¬ 1 = 0 := (fun z => h217 ((nI_eq (a := 1) (b := 0) (by omega) (by omega)).mpr z))
                        refine XG.blk tX9_expression_ok 119 1 (pc' := 230) (pl' := [some (.ref 0), some (.int (nI 0)), some (.int (nI 1))]) (st' := [(.int (nI 1)), (.ref 0)]) (W1 := (mW v a b)) (bs := []) rfl rfl rfl ?_
                        refine XG.goto eX9_expression_230 (tgt := 234) (by decide) ?_
                        refine XG.callV0 eX9_expression_234 kl_X9_323 (con_comesOut (d - 1) (by omega) v a b q0 sd hsd true W c hS) (px_fitS (by omega)) rfl rfl rfl (Nat.le_of_ble_eq_true rfl) (fun r9 W9 hp9 hl9 => ?_)
                        obtain ⟨v1, a1, rfl, hc1, hf1, hS1, rfl⟩ := hp9
                        have hP1 := PVr.v5 (v' := v1) h (hc1 11 (by decide)) (hc1 13 (by decide)) (hc1 14 (by decide)) (hc1 15 (by decide)) (hc1 16 (by decide))
                        have hT1 := hf1.tok hT9
                        have hK15 : a1 5 t = nI 10 := by rw [hf1.1 5 (by decide), hK.1, hkp]
                        have h111 : v1 11 = nI t := (hc1 11 (by decide)).trans h11
                        have hk1_12 : v1 12 = nI op := (hc1 12 (by decide)).trans h12
                        have hl1 := hS1.2.1
                        have q1 : (v1 50) = (nI (outW true W c).1.length) := hS1.1
                        have q2 : (v1 11) = (nI t) := h111
                        have q3 : (nI t).toNatClampNeg = t := nI_clamp (by omega)
                        have q4 : ((a1 5) t) = (nI 10) := hK15
                        have q5 : (nI (outW true W c).1.length).toNatClampNeg = (outW true W c).1.length := nI_clamp (by omega)
                        have q6 : ((nI (outW true W c).1.length) + (nI 1)) = (nI ((outW true W c).1.length + 1)) := px_eadd rfl rfl
                        refine XG.blk tX9_expression_ok 123 17 (pc' := 266) (pl' := [some (.ref 0), some (.int (nI 0)), some (.int (nI 1))]) (st' := [(.ref 0)]) (W1 := (mW (va_up v1 50 ((v1 50) + (nI 1))) (va_up a1 49 (upd (a1 49) (v1 50).toNatClampNeg ((a1 5) (v1 11).toNatClampNeg))) b)) (bs := [px_vb (v1 11) 403, px_vb (v1 50) 64]) rfl rfl (by (try simp only [q1, q2, q3, q4, q5, q6]); exact (px_all (px_vbN (by omega) (by decide)) (px_all (px_vbN (by omega) (by decide)) rfl))) ?_
                        simp only [q1, q2, q3, q4, q5, q6]
                        have hQ1 := PVr.v5 (v' := (va_up v1 50 (nI ((outW true W c).1.length + 1)))) hP1 rfl rfl rfl rfl rfl
                        refine XG.callV0 eX9_expression_266 kl_X9_236 (con_goS (d - 1) (va_up v1 50 (nI ((outW true W c).1.length + 1))) (va_up a1 49 (upd (a1 49) (outW true W c).1.length (nI 10))) b K hT1 _ hQ1 hk0 (by omega)) (px_fitS (by omega)) rfl rfl rfl (Nat.le_of_ble_eq_true rfl) (fun r9 W9 hp9 hl9 => ?_)
                        obtain ⟨v2, rfl, hc2, hP2, rfl⟩ := hp9
                        have hk2_12 : v2 12 = nI op := (hc2 12 (by decide)).trans hk1_12
                        have hk2_46 : v2 46 = nI (q0 + (outW true W c).2.length) := (hc2 46 (by decide)).trans hS1.2.2.1
                        have hk2_50 : v2 50 = nI ((outW true W c).1.length + 1) := (hc2 50 (by decide)).trans rfl
                        refine XG.goto eX9_expression_269 (tgt := 12) (by decide) ?_
                        by_cases h400 : t = 400
                        · have e9 : advN t = .inl (2, 400) := if_pos h400
                          rw [e9] at hR
                          have hP9 : PVr K (advS (t, w)) v2 := hP2
                          unfold advS at hP9
                          rw [show advN (t, w).1 = .inl (2, 400) from e9] at hP9
                          have hP9 : PVr K (.inl (2, 400)) v2 := hP9
                          have hx131 : ¬ v2 13 = 0 := by rw [hP9.2.1]; exact nI_nz (by decide) (by decide)
                          refine XG.blk tX9_expression_ok 8 1 (pc' := 13) (pl' := [some (.ref 0), some (.int (nI 0)), some (.int (nI 1))]) (st' := [(.int (nI 1))]) (W1 := (mW v2 (va_up a1 49 (upd (a1 49) (outW true W c).1.length (nI 10))) b)) (bs := []) rfl rfl rfl ?_
                          refine XG.br eX9_expression_13 (P := (nI 1) = 0) (r := []) rfl (tgt := 272) (by decide) (fun h13 => ?_) (fun h13 => ?_)
                          · exfalso
                            have g13 : 1 = 0 := (nI_eq (a := 1) (b := 0) (by omega) (by omega)).mp h13
                            omega
                          · skip
                            have g13 : ¬ 1 = 0 := (fun z => h13 ((nI_eq (a := 1) (b := 0) (by omega) (by omega)).mpr z))
                            refine XG.blk tX9_expression_ok 10 2 (pc' := 20) (pl' := [some (.ref 0), some (.int (nI 0)), some (.int (nI 1))]) (st' := [(.int (v2 13))]) (W1 := (mW v2 (va_up a1 49 (upd (a1 49) (outW true W c).1.length (nI 10))) b)) (bs := []) rfl rfl rfl ?_
                            refine XG.br eX9_expression_20 (P := ¬ (v2 13) = 0) (r := []) rfl (tgt := 272) (by decide) (fun h20 => ?_) (fun h20 => ?_)
                            · skip
                              refine XS.vret eX9_expression_272 rfl ?_
                              exact ⟨_, _, rfl, (chgX (chgX hv hc1 (fun _ _ => rfl)) hc2 (upN (by decide))), ha.tr (hf1.tr (FrX.w _)), rfl, Or.inl ⟨_, hR.symm, hP9⟩⟩
                            · exfalso
                              have h20 := Decidable.not_not.mp h20
                              first | exact hx131 h20 | exact h20 hx131
                        · have e9 : advN t = .inr (t + 1) := if_neg h400
                          rw [e9] at hR
                          have hP9 : PVr K (advS (t, w)) v2 := hP2
                          unfold advS at hP9
                          rw [show advN (t, w).1 = .inr (t + 1) from e9] at hP9
                          have hP9 : PVr K (.inr (t + 1, w)) v2 := hP9
                          have hx131 : v2 13 = 0 := hP9.2.2.1
                          refine XG.blk tX9_expression_ok 8 1 (pc' := 13) (pl' := [some (.ref 0), some (.int (nI 0)), some (.int (nI 1))]) (st' := [(.int (nI 1))]) (W1 := (mW v2 (va_up a1 49 (upd (a1 49) (outW true W c).1.length (nI 10))) b)) (bs := []) rfl rfl rfl ?_
                          refine XG.br eX9_expression_13 (P := (nI 1) = 0) (r := []) rfl (tgt := 272) (by decide) (fun h13 => ?_) (fun h13 => ?_)
                          · exfalso
                            have g13 : 1 = 0 := (nI_eq (a := 1) (b := 0) (by omega) (by omega)).mp h13
                            omega
                          · skip
                            have g13 : ¬ 1 = 0 := (fun z => h13 ((nI_eq (a := 1) (b := 0) (by omega) (by omega)).mpr z))
                            refine XG.blk tX9_expression_ok 10 2 (pc' := 20) (pl' := [some (.ref 0), some (.int (nI 0)), some (.int (nI 1))]) (st' := [(.int (v2 13))]) (W1 := (mW v2 (va_up a1 49 (upd (a1 49) (outW true W c).1.length (nI 10))) b)) (bs := []) rfl rfl rfl ?_
                            refine XG.br eX9_expression_20 (P := ¬ (v2 13) = 0) (r := []) rfl (tgt := 272) (by decide) (fun h20 => ?_) (fun h20 => ?_)
                            · exfalso
                              first | exact hx131 h20 | exact h20 hx131
                            · skip
                              have h20 := Decidable.not_not.mp h20
                              refine ih.1 (t + 1) (10 :: (outW true W c).1) op (outW true W c).2 _ _ hR (by omega) hP9 ((hc2 12 (by decide)).trans hk1_12) hop (by rw [W6_n _ (by decide), ho9.2.1, hW6]) ⟨ho9.1, ?_⟩ (hS1.push (by omega) (by unfold sgn; omega) (by rw [nops_n _ (by decide)]; omega) (hc2 50 (by decide)) (hc2 46 (by decide)) rfl rfl rfl) (by rw [nops_n _ (by decide)]; omega) (chgX (chgX hv hc1 (fun _ _ => rfl)) hc2 (upN (by decide))) (ha.tr (hf1.tr (FrX.w _)))
                              exact Or.inr (Or.inr ⟨Or.inl rfl, ho9.2.2.2.1⟩)
                      · exfalso
                        have h217 := Decidable.not_not.mp h217
                        have g217 : 1 = 0 := (nI_eq (a := 1) (b := 0) (by omega) (by omega)).mp h217
                        omega
                    · exfalso
                      have h188 := Decidable.not_not.mp h188
                      have g188 : 1 = 0 := (nI_eq (a := 1) (b := 0) (by omega) (by omega)).mp h188
                      omega
                  · exfalso
                    have h169 := Decidable.not_not.mp h169
                    have g169 : 1 = 0 := (nI_eq (a := 1) (b := 0) (by omega) (by omega)).mp h169
                    omega
            · exfalso
              have g102 : ¬ 0 = 0 := (fun z => h102 ((nI_eq (a := 0) (b := 0) (by omega) (by omega)).mpr z))
              omega
          · rw [show decide (K.1 t = 10 ∨ K.1 t = 15) = true by rw [hkp]; decide, hkp] at hR
            have ho9 := wtW_out true W c hok
            have ho5 := ho9.2.2.2.2
            have hlen9 := (wtW_len _ ho9.1).1
            have hW9 := ho9.2.1
            refine XG.blk tX9_expression_ok 51 2 (pc' := 99) (pl' := [some (.ref 0), some (.int (nI 0)), some (.int (nI 1))]) (st' := [(.int (nI 7)), (.ref 0)]) (W1 := (mW v a b)) (bs := []) rfl rfl rfl ?_
            refine XG.callV0 eX9_expression_99 kl_X9_233 (con_isF (d - 1) v a b K hT9 _ h 7 (show ¬ K.1 t = 7 by omega) (by decide)) (px_fitS (by omega)) rfl rfl rfl (Nat.le_of_ble_eq_true rfl) (fun r9 W9 hp9 hl9 => ?_)
            obtain ⟨rfl, rfl⟩ := hp9
            refine XG.br eX9_expression_102 (P := (nI 0) = 0) (r := []) rfl (tgt := 145) (by decide) (fun h102 => ?_) (fun h102 => ?_)
            · skip
              have g102 : 0 = 0 := (nI_eq (a := 0) (b := 0) (by omega) (by omega)).mp h102
              refine XG.blk tX9_expression_ok 77 2 (pc' := 148) (pl' := [some (.ref 0), some (.int (nI 0)), some (.int (nI 1))]) (st' := [(.int (nI 8)), (.ref 0)]) (W1 := (mW v a b)) (bs := []) rfl rfl rfl ?_
              refine XG.callV0 eX9_expression_148 kl_X9_233 (con_isF (d - 1) v a b K hT9 _ h 8 (show ¬ K.1 t = 8 by omega) (by decide)) (px_fitS (by omega)) rfl rfl rfl (Nat.le_of_ble_eq_true rfl) (fun r9 W9 hp9 hl9 => ?_)
              obtain ⟨rfl, rfl⟩ := hp9
              refine XG.br eX9_expression_151 (P := ¬ (nI 0) = 0) (r := []) rfl (tgt := 181) (by decide) (fun h151 => ?_) (fun h151 => ?_)
              · exfalso
                have g151 : ¬ 0 = 0 := (fun z => h151 ((nI_eq (a := 0) (b := 0) (by omega) (by omega)).mpr z))
                omega
              · skip
                have h151 := Decidable.not_not.mp h151
                have g151 : 0 = 0 := (nI_eq (a := 0) (b := 0) (by omega) (by omega)).mp h151
                refine XG.blk tX9_expression_ok 81 2 (pc' := 157) (pl' := [some (.ref 0), some (.int (nI 0)), some (.int (nI 1))]) (st' := [(.int (nI 9)), (.ref 0)]) (W1 := (mW v a b)) (bs := []) rfl rfl rfl ?_
                refine XG.callV0 eX9_expression_157 kl_X9_233 (con_isF (d - 1) v a b K hT9 _ h 9 (show ¬ K.1 t = 9 by omega) (by decide)) (px_fitS (by omega)) rfl rfl rfl (Nat.le_of_ble_eq_true rfl) (fun r9 W9 hp9 hl9 => ?_)
                obtain ⟨rfl, rfl⟩ := hp9
                refine XG.br eX9_expression_160 (P := ¬ (nI 0) = 0) (r := []) rfl (tgt := 181) (by decide) (fun h160 => ?_) (fun h160 => ?_)
                · exfalso
                  have g160 : ¬ 0 = 0 := (fun z => h160 ((nI_eq (a := 0) (b := 0) (by omega) (by omega)).mpr z))
                  omega
                · skip
                  have h160 := Decidable.not_not.mp h160
                  have g160 : 0 = 0 := (nI_eq (a := 0) (b := 0) (by omega) (by omega)).mp h160
                  refine XG.blk tX9_expression_ok 85 2 (pc' := 166) (pl' := [some (.ref 0), some (.int (nI 0)), some (.int (nI 1))]) (st' := [(.int (nI 10)), (.ref 0)]) (W1 := (mW v a b)) (bs := []) rfl rfl rfl ?_
                  refine XG.callV0 eX9_expression_166 kl_X9_233 (con_isF (d - 1) v a b K hT9 _ h 10 (show ¬ K.1 t = 10 by omega) (by decide)) (px_fitS (by omega)) rfl rfl rfl (Nat.le_of_ble_eq_true rfl) (fun r9 W9 hp9 hl9 => ?_)
                  obtain ⟨rfl, rfl⟩ := hp9
                  refine XG.br eX9_expression_169 (P := ¬ (nI 0) = 0) (r := []) rfl (tgt := 181) (by decide) (fun h169 => ?_) (fun h169 => ?_)
                  · exfalso
                    have g169 : ¬ 0 = 0 := (fun z => h169 ((nI_eq (a := 0) (b := 0) (by omega) (by omega)).mpr z))
                    omega
                  · skip
                    have h169 := Decidable.not_not.mp h169
                    have g169 : 0 = 0 := (nI_eq (a := 0) (b := 0) (by omega) (by omega)).mp h169
                    refine XG.blk tX9_expression_ok 89 2 (pc' := 175) (pl' := [some (.ref 0), some (.int (nI 0)), some (.int (nI 1))]) (st' := [(.int (nI 15)), (.ref 0)]) (W1 := (mW v a b)) (bs := []) rfl rfl rfl ?_
                    refine XG.callV0 eX9_expression_175 kl_X9_233 (con_isT (d - 1) v a b K hT9 _ h 15 hkp) (px_fitS (by omega)) rfl rfl rfl (Nat.le_of_ble_eq_true rfl) (fun r9 W9 hp9 hl9 => ?_)
                    obtain ⟨rfl, rfl⟩ := hp9
                    refine XG.br eX9_expression_178 (P := (nI 1) = 0) (r := []) rfl (tgt := 185) (by decide) (fun h178 => ?_) (fun h178 => ?_)
                    · exfalso
                      have g178 : 1 = 0 := (nI_eq (a := 1) (b := 0) (by omega) (by omega)).mp h178
                      omega
                    · skip
                      have g178 : ¬ 1 = 0 := (fun z => h178 ((nI_eq (a := 1) (b := 0) (by omega) (by omega)).mpr z))
                      refine XG.blk tX9_expression_ok 93 1 (pc' := 182) (pl' := [some (.ref 0), some (.int (nI 0)), some (.int (nI 1))]) (st' := [(.int (nI 1))]) (W1 := (mW v a b)) (bs := []) rfl rfl rfl ?_
                      refine XG.goto eX9_expression_182 (tgt := 186) (by decide) ?_
                      refine XG.blk tX9_expression_ok 96 2 (pc' := 188) (pl' := [some (.ref 0), some (.int (nI 0)), some (.int (nI 1))]) (st' := [(.int (nI 1))]) (W1 := (mW v a b)) (bs := []) rfl rfl rfl ?_
                      refine XG.br eX9_expression_188 (P := ¬ (nI 1) = 0) (r := []) rfl (tgt := 210) (by decide) (fun h188 => ?_) (fun h188 => ?_)
                      · skip
                        have g188 : ¬ 1 = 0 := (fun z => h188 ((nI_eq (a := 1) (b := 0) (by omega) (by omega)).mpr z))
                        refine XG.blk tX9_expression_ok 110 3 (pc' := 214) (pl' := [some (.ref 0), some (.int (nI 0)), some (.int (nI 1))]) (st' := [(.int (nI 10)), (.ref 0), (.ref 0)]) (W1 := (mW v a b)) (bs := []) rfl rfl rfl ?_
                        refine XG.callV0 eX9_expression_214 kl_X9_233 (con_isF (d - 1) v a b K hT9 _ h 10 (show ¬ K.1 t = 10 by omega) (by decide)) (px_fitS (by omega)) rfl rfl rfl (Nat.le_of_ble_eq_true rfl) (fun r9 W9 hp9 hl9 => ?_)
                        obtain ⟨rfl, rfl⟩ := hp9
                        refine XG.br eX9_expression_217 (P := ¬ (nI 0) = 0) (r := [(.ref 0)]) rfl (tgt := 229) (by decide) (fun h217 => ?_) (fun h217 => ?_)
                        · exfalso
                          have g217 : ¬ 0 = 0 := (fun z => h217 ((nI_eq (a := 0) (b := 0) (by omega) (by omega)).mpr z))
                          omega
                        · skip
                          have h217 := Decidable.not_not.mp h217
                          have g217 : 0 = 0 := (nI_eq (a := 0) (b := 0) (by omega) (by omega)).mp h217
                          refine XG.blk tX9_expression_ok 115 2 (pc' := 223) (pl' := [some (.ref 0), some (.int (nI 0)), some (.int (nI 1))]) (st' := [(.int (nI 15)), (.ref 0), (.ref 0)]) (W1 := (mW v a b)) (bs := []) rfl rfl rfl ?_
                          refine XG.callV0 eX9_expression_223 kl_X9_233 (con_isT (d - 1) v a b K hT9 _ h 15 hkp) (px_fitS (by omega)) rfl rfl rfl (Nat.le_of_ble_eq_true rfl) (fun r9 W9 hp9 hl9 => ?_)
                          obtain ⟨rfl, rfl⟩ := hp9
                          refine XG.br eX9_expression_226 (P := (nI 1) = 0) (r := [(.ref 0)]) rfl (tgt := 233) (by decide) (fun h226 => ?_) (fun h226 => ?_)
                          · exfalso
                            have g226 : 1 = 0 := (nI_eq (a := 1) (b := 0) (by omega) (by omega)).mp h226
                            omega
                          · skip
                            have g226 : ¬ 1 = 0 := (fun z => h226 ((nI_eq (a := 1) (b := 0) (by omega) (by omega)).mpr z))
                            refine XG.blk tX9_expression_ok 119 1 (pc' := 230) (pl' := [some (.ref 0), some (.int (nI 0)), some (.int (nI 1))]) (st' := [(.int (nI 1)), (.ref 0)]) (W1 := (mW v a b)) (bs := []) rfl rfl rfl ?_
                            refine XG.goto eX9_expression_230 (tgt := 234) (by decide) ?_
                            refine XG.callV0 eX9_expression_234 kl_X9_323 (con_comesOut (d - 1) (by omega) v a b q0 sd hsd true W c hS) (px_fitS (by omega)) rfl rfl rfl (Nat.le_of_ble_eq_true rfl) (fun r9 W9 hp9 hl9 => ?_)
                            obtain ⟨v1, a1, rfl, hc1, hf1, hS1, rfl⟩ := hp9
                            have hP1 := PVr.v5 (v' := v1) h (hc1 11 (by decide)) (hc1 13 (by decide)) (hc1 14 (by decide)) (hc1 15 (by decide)) (hc1 16 (by decide))
                            have hT1 := hf1.tok hT9
                            have hK15 : a1 5 t = nI 15 := by rw [hf1.1 5 (by decide), hK.1, hkp]
                            have h111 : v1 11 = nI t := (hc1 11 (by decide)).trans h11
                            have hk1_12 : v1 12 = nI op := (hc1 12 (by decide)).trans h12
                            have hl1 := hS1.2.1
                            have q1 : (v1 50) = (nI (outW true W c).1.length) := hS1.1
                            have q2 : (v1 11) = (nI t) := h111
                            have q3 : (nI t).toNatClampNeg = t := nI_clamp (by omega)
                            have q4 : ((a1 5) t) = (nI 15) := hK15
                            have q5 : (nI (outW true W c).1.length).toNatClampNeg = (outW true W c).1.length := nI_clamp (by omega)
                            have q6 : ((nI (outW true W c).1.length) + (nI 1)) = (nI ((outW true W c).1.length + 1)) := px_eadd rfl rfl
                            refine XG.blk tX9_expression_ok 123 17 (pc' := 266) (pl' := [some (.ref 0), some (.int (nI 0)), some (.int (nI 1))]) (st' := [(.ref 0)]) (W1 := (mW (va_up v1 50 ((v1 50) + (nI 1))) (va_up a1 49 (upd (a1 49) (v1 50).toNatClampNeg ((a1 5) (v1 11).toNatClampNeg))) b)) (bs := [px_vb (v1 11) 403, px_vb (v1 50) 64]) rfl rfl (by (try simp only [q1, q2, q3, q4, q5, q6]); exact (px_all (px_vbN (by omega) (by decide)) (px_all (px_vbN (by omega) (by decide)) rfl))) ?_
                            simp only [q1, q2, q3, q4, q5, q6]
                            have hQ1 := PVr.v5 (v' := (va_up v1 50 (nI ((outW true W c).1.length + 1)))) hP1 rfl rfl rfl rfl rfl
                            refine XG.callV0 eX9_expression_266 kl_X9_236 (con_goS (d - 1) (va_up v1 50 (nI ((outW true W c).1.length + 1))) (va_up a1 49 (upd (a1 49) (outW true W c).1.length (nI 15))) b K hT1 _ hQ1 hk0 (by omega)) (px_fitS (by omega)) rfl rfl rfl (Nat.le_of_ble_eq_true rfl) (fun r9 W9 hp9 hl9 => ?_)
                            obtain ⟨v2, rfl, hc2, hP2, rfl⟩ := hp9
                            have hk2_12 : v2 12 = nI op := (hc2 12 (by decide)).trans hk1_12
                            have hk2_46 : v2 46 = nI (q0 + (outW true W c).2.length) := (hc2 46 (by decide)).trans hS1.2.2.1
                            have hk2_50 : v2 50 = nI ((outW true W c).1.length + 1) := (hc2 50 (by decide)).trans rfl
                            refine XG.goto eX9_expression_269 (tgt := 12) (by decide) ?_
                            by_cases h400 : t = 400
                            · have e9 : advN t = .inl (2, 400) := if_pos h400
                              rw [e9] at hR
                              have hP9 : PVr K (advS (t, w)) v2 := hP2
                              unfold advS at hP9
                              rw [show advN (t, w).1 = .inl (2, 400) from e9] at hP9
                              have hP9 : PVr K (.inl (2, 400)) v2 := hP9
                              have hx131 : ¬ v2 13 = 0 := by rw [hP9.2.1]; exact nI_nz (by decide) (by decide)
                              refine XG.blk tX9_expression_ok 8 1 (pc' := 13) (pl' := [some (.ref 0), some (.int (nI 0)), some (.int (nI 1))]) (st' := [(.int (nI 1))]) (W1 := (mW v2 (va_up a1 49 (upd (a1 49) (outW true W c).1.length (nI 15))) b)) (bs := []) rfl rfl rfl ?_
                              refine XG.br eX9_expression_13 (P := (nI 1) = 0) (r := []) rfl (tgt := 272) (by decide) (fun h13 => ?_) (fun h13 => ?_)
                              · exfalso
                                have g13 : 1 = 0 := (nI_eq (a := 1) (b := 0) (by omega) (by omega)).mp h13
                                omega
                              · skip
                                have g13 : ¬ 1 = 0 := (fun z => h13 ((nI_eq (a := 1) (b := 0) (by omega) (by omega)).mpr z))
                                refine XG.blk tX9_expression_ok 10 2 (pc' := 20) (pl' := [some (.ref 0), some (.int (nI 0)), some (.int (nI 1))]) (st' := [(.int (v2 13))]) (W1 := (mW v2 (va_up a1 49 (upd (a1 49) (outW true W c).1.length (nI 15))) b)) (bs := []) rfl rfl rfl ?_
                                refine XG.br eX9_expression_20 (P := ¬ (v2 13) = 0) (r := []) rfl (tgt := 272) (by decide) (fun h20 => ?_) (fun h20 => ?_)
                                · skip
                                  refine XS.vret eX9_expression_272 rfl ?_
                                  exact ⟨_, _, rfl, (chgX (chgX hv hc1 (fun _ _ => rfl)) hc2 (upN (by decide))), ha.tr (hf1.tr (FrX.w _)), rfl, Or.inl ⟨_, hR.symm, hP9⟩⟩
                                · exfalso
                                  have h20 := Decidable.not_not.mp h20
                                  first | exact hx131 h20 | exact h20 hx131
                            · have e9 : advN t = .inr (t + 1) := if_neg h400
                              rw [e9] at hR
                              have hP9 : PVr K (advS (t, w)) v2 := hP2
                              unfold advS at hP9
                              rw [show advN (t, w).1 = .inr (t + 1) from e9] at hP9
                              have hP9 : PVr K (.inr (t + 1, w)) v2 := hP9
                              have hx131 : v2 13 = 0 := hP9.2.2.1
                              refine XG.blk tX9_expression_ok 8 1 (pc' := 13) (pl' := [some (.ref 0), some (.int (nI 0)), some (.int (nI 1))]) (st' := [(.int (nI 1))]) (W1 := (mW v2 (va_up a1 49 (upd (a1 49) (outW true W c).1.length (nI 15))) b)) (bs := []) rfl rfl rfl ?_
                              refine XG.br eX9_expression_13 (P := (nI 1) = 0) (r := []) rfl (tgt := 272) (by decide) (fun h13 => ?_) (fun h13 => ?_)
                              · exfalso
                                have g13 : 1 = 0 := (nI_eq (a := 1) (b := 0) (by omega) (by omega)).mp h13
                                omega
                              · skip
                                have g13 : ¬ 1 = 0 := (fun z => h13 ((nI_eq (a := 1) (b := 0) (by omega) (by omega)).mpr z))
                                refine XG.blk tX9_expression_ok 10 2 (pc' := 20) (pl' := [some (.ref 0), some (.int (nI 0)), some (.int (nI 1))]) (st' := [(.int (v2 13))]) (W1 := (mW v2 (va_up a1 49 (upd (a1 49) (outW true W c).1.length (nI 15))) b)) (bs := []) rfl rfl rfl ?_
                                refine XG.br eX9_expression_20 (P := ¬ (v2 13) = 0) (r := []) rfl (tgt := 272) (by decide) (fun h20 => ?_) (fun h20 => ?_)
                                · exfalso
                                  first | exact hx131 h20 | exact h20 hx131
                                · skip
                                  have h20 := Decidable.not_not.mp h20
                                  refine ih.1 (t + 1) (15 :: (outW true W c).1) op (outW true W c).2 _ _ hR (by omega) hP9 ((hc2 12 (by decide)).trans hk1_12) hop (by rw [W6_n _ (by decide), ho9.2.1, hW6]) ⟨ho9.1, ?_⟩ (hS1.push (by omega) (by unfold sgn; omega) (by rw [nops_n _ (by decide)]; omega) (hc2 50 (by decide)) (hc2 46 (by decide)) rfl rfl rfl) (by rw [nops_n _ (by decide)]; omega) (chgX (chgX hv hc1 (fun _ _ => rfl)) hc2 (upN (by decide))) (ha.tr (hf1.tr (FrX.w _)))
                                  exact Or.inr (Or.inr ⟨Or.inr rfl, ho9.2.2.2.1⟩)
                      · exfalso
                        have h188 := Decidable.not_not.mp h188
                        have g188 : 1 = 0 := (nI_eq (a := 1) (b := 0) (by omega) (by omega)).mp h188
                        omega
            · exfalso
              have g102 : ¬ 0 = 0 := (fun z => h102 ((nI_eq (a := 0) (b := 0) (by omega) (by omega)).mpr z))
              omega
        · rw [if_neg hkp] at hR
          by_cases h0 : op = 0
          · rw [if_pos h0] at hR
            subst h0
            by_cases hk8 : K.1 t = 7
            · skip
              refine XG.blk tX9_expression_ok 51 2 (pc' := 99) (pl' := [some (.ref 0), some (.int (nI 0)), some (.int (nI 1))]) (st' := [(.int (nI 7)), (.ref 0)]) (W1 := (mW v a b)) (bs := []) rfl rfl rfl ?_
              refine XG.callV0 eX9_expression_99 kl_X9_233 (con_isT (d - 1) v a b K hT9 _ h 7 hk8) (px_fitS (by omega)) rfl rfl rfl (Nat.le_of_ble_eq_true rfl) (fun r9 W9 hp9 hl9 => ?_)
              obtain ⟨rfl, rfl⟩ := hp9
              refine XG.br eX9_expression_102 (P := (nI 1) = 0) (r := []) rfl (tgt := 145) (by decide) (fun h102 => ?_) (fun h102 => ?_)
              · exfalso
                have g102 : 1 = 0 := (nI_eq (a := 1) (b := 0) (by omega) (by omega)).mp h102
                omega
              · skip
                have g102 : ¬ 1 = 0 := (fun z => h102 ((nI_eq (a := 1) (b := 0) (by omega) (by omega)).mpr z))
                have q1 : (v 12) = (nI 0) := h12
                refine XG.blk tX9_expression_ok 55 3 (pc' := 110) (pl' := [some (.ref 0), some (.int (nI 0)), some (.int (nI 1))]) (st' := [(.int (nI 0)), (.int (v 12))]) (W1 := (mW v a b)) (bs := []) rfl rfl rfl ?_
                simp only [q1]
                refine XG.br eX9_expression_110 (P := (nI 0) ≤ (nI 0)) (r := []) rfl (tgt := 145) (by decide) (fun h110 => ?_) (fun h110 => ?_)
                · skip
                  have g110 : 0 ≤ 0 := (nI_leI (a := 0) (b := 0) (by omega) (by omega)).mp h110
                  refine XG.blk tX9_expression_ok 77 2 (pc' := 148) (pl' := [some (.ref 0), some (.int (nI 0)), some (.int (nI 1))]) (st' := [(.int (nI 8)), (.ref 0)]) (W1 := (mW v a b)) (bs := []) rfl rfl rfl ?_
                  refine XG.callV0 eX9_expression_148 kl_X9_233 (con_isF (d - 1) v a b K hT9 _ h 8 (show ¬ K.1 t = 8 by omega) (by decide)) (px_fitS (by omega)) rfl rfl rfl (Nat.le_of_ble_eq_true rfl) (fun r9 W9 hp9 hl9 => ?_)
                  obtain ⟨rfl, rfl⟩ := hp9
                  refine XG.br eX9_expression_151 (P := ¬ (nI 0) = 0) (r := []) rfl (tgt := 181) (by decide) (fun h151 => ?_) (fun h151 => ?_)
                  · exfalso
                    have g151 : ¬ 0 = 0 := (fun z => h151 ((nI_eq (a := 0) (b := 0) (by omega) (by omega)).mpr z))
                    omega
                  · skip
                    have h151 := Decidable.not_not.mp h151
                    have g151 : 0 = 0 := (nI_eq (a := 0) (b := 0) (by omega) (by omega)).mp h151
                    refine XG.blk tX9_expression_ok 81 2 (pc' := 157) (pl' := [some (.ref 0), some (.int (nI 0)), some (.int (nI 1))]) (st' := [(.int (nI 9)), (.ref 0)]) (W1 := (mW v a b)) (bs := []) rfl rfl rfl ?_
                    refine XG.callV0 eX9_expression_157 kl_X9_233 (con_isF (d - 1) v a b K hT9 _ h 9 (show ¬ K.1 t = 9 by omega) (by decide)) (px_fitS (by omega)) rfl rfl rfl (Nat.le_of_ble_eq_true rfl) (fun r9 W9 hp9 hl9 => ?_)
                    obtain ⟨rfl, rfl⟩ := hp9
                    refine XG.br eX9_expression_160 (P := ¬ (nI 0) = 0) (r := []) rfl (tgt := 181) (by decide) (fun h160 => ?_) (fun h160 => ?_)
                    · exfalso
                      have g160 : ¬ 0 = 0 := (fun z => h160 ((nI_eq (a := 0) (b := 0) (by omega) (by omega)).mpr z))
                      omega
                    · skip
                      have h160 := Decidable.not_not.mp h160
                      have g160 : 0 = 0 := (nI_eq (a := 0) (b := 0) (by omega) (by omega)).mp h160
                      refine XG.blk tX9_expression_ok 85 2 (pc' := 166) (pl' := [some (.ref 0), some (.int (nI 0)), some (.int (nI 1))]) (st' := [(.int (nI 10)), (.ref 0)]) (W1 := (mW v a b)) (bs := []) rfl rfl rfl ?_
                      refine XG.callV0 eX9_expression_166 kl_X9_233 (con_isF (d - 1) v a b K hT9 _ h 10 (show ¬ K.1 t = 10 by omega) (by decide)) (px_fitS (by omega)) rfl rfl rfl (Nat.le_of_ble_eq_true rfl) (fun r9 W9 hp9 hl9 => ?_)
                      obtain ⟨rfl, rfl⟩ := hp9
                      refine XG.br eX9_expression_169 (P := ¬ (nI 0) = 0) (r := []) rfl (tgt := 181) (by decide) (fun h169 => ?_) (fun h169 => ?_)
                      · exfalso
                        have g169 : ¬ 0 = 0 := (fun z => h169 ((nI_eq (a := 0) (b := 0) (by omega) (by omega)).mpr z))
                        omega
                      · skip
                        have h169 := Decidable.not_not.mp h169
                        have g169 : 0 = 0 := (nI_eq (a := 0) (b := 0) (by omega) (by omega)).mp h169
                        refine XG.blk tX9_expression_ok 89 2 (pc' := 175) (pl' := [some (.ref 0), some (.int (nI 0)), some (.int (nI 1))]) (st' := [(.int (nI 15)), (.ref 0)]) (W1 := (mW v a b)) (bs := []) rfl rfl rfl ?_
                        refine XG.callV0 eX9_expression_175 kl_X9_233 (con_isF (d - 1) v a b K hT9 _ h 15 (show ¬ K.1 t = 15 by omega) (by decide)) (px_fitS (by omega)) rfl rfl rfl (Nat.le_of_ble_eq_true rfl) (fun r9 W9 hp9 hl9 => ?_)
                        obtain ⟨rfl, rfl⟩ := hp9
                        refine XG.br eX9_expression_178 (P := (nI 0) = 0) (r := []) rfl (tgt := 185) (by decide) (fun h178 => ?_) (fun h178 => ?_)
                        · skip
                          have g178 : 0 = 0 := (nI_eq (a := 0) (b := 0) (by omega) (by omega)).mp h178
                          refine XG.blk tX9_expression_ok 95 3 (pc' := 188) (pl' := [some (.ref 0), some (.int (nI 0)), some (.int (nI 0))]) (st' := [(.int (nI 0))]) (W1 := (mW v a b)) (bs := []) rfl rfl rfl ?_
                          refine XG.br eX9_expression_188 (P := ¬ (nI 0) = 0) (r := []) rfl (tgt := 210) (by decide) (fun h188 => ?_) (fun h188 => ?_)
                          · exfalso
                            have g188 : ¬ 0 = 0 := (fun z => h188 ((nI_eq (a := 0) (b := 0) (by omega) (by omega)).mpr z))
                            omega
                          · skip
                            have h188 := Decidable.not_not.mp h188
                            have g188 : 0 = 0 := (nI_eq (a := 0) (b := 0) (by omega) (by omega)).mp h188
                            have q2 : (v 12) = (nI 0) := h12
                            refine XG.blk tX9_expression_ok 99 3 (pc' := 196) (pl' := [some (.ref 0), some (.int (nI 0)), some (.int (nI 0))]) (st' := [(.int (nI 0)), (.int (v 12))]) (W1 := (mW v a b)) (bs := []) rfl rfl rfl ?_
                            simp only [q2]
                            refine XG.br eX9_expression_196 (P := (nI 0) ≤ (nI 0)) (r := []) rfl (tgt := 204) (by decide) (fun h196 => ?_) (fun h196 => ?_)
                            · skip
                              have g196 : 0 ≤ 0 := (nI_leI (a := 0) (b := 0) (by omega) (by omega)).mp h196
                              refine XG.blk tX9_expression_ok 106 2 (pc' := 206) (pl' := [some (.ref 0), some (.int (nI 0)), some (.int (nI 0))]) (st' := [(.int (nI 0)), (.ref 0)]) (W1 := (mW v a b)) (bs := []) rfl rfl rfl ?_
                              refine XG.callV0 eX9_expression_206 kl_X9_323 (con_comesOut (d - 1) (by omega) v a b q0 sd hsd false W c hS) (px_fitS (by omega)) rfl rfl rfl (Nat.le_of_ble_eq_true rfl) (fun r9 W9 hp9 hl9 => ?_)
                              obtain ⟨v1, a1, rfl, hc1, hf1, hS1, rfl⟩ := hp9
                              have hP1 := PVr.v5 (v' := v1) h (hc1 11 (by decide)) (hc1 13 (by decide)) (hc1 14 (by decide)) (hc1 15 (by decide)) (hc1 16 (by decide))
                              have hT1 := hf1.tok hT9
                              have hk1_12 : v1 12 = nI 0 := (hc1 12 (by decide)).trans h12
                              have hl1 := hS1.2.1
                              refine XS.vret eX9_expression_209 rfl ?_
                              exact ⟨_, _, rfl, (chgX hv hc1 (fun _ _ => rfl)), ha.tr hf1, rfl, Or.inr ⟨_, hR.symm, hP1, hk1_12, hS1.2.2.1, hS1.2.2.2.2.2.2.1, by have := hof.2.2.2.2; have h66 : nops (outW false W c).1 = 0 := nops_0 hof.1 (hof.2.2.1 rfl) (by rw [hof.2.1]; exact hW6); show q0 + (outW false W c).2.length ≤ t + 420 * sd; omega⟩⟩
                            · exfalso
                              have g196 : ¬ 0 ≤ 0 := (fun z => h196 ((nI_leI (a := 0) (b := 0) (by omega) (by omega)).mpr z))
                              omega
                        · exfalso
                          have g178 : ¬ 0 = 0 := (fun z => h178 ((nI_eq (a := 0) (b := 0) (by omega) (by omega)).mpr z))
                          omega
                · exfalso
                  have g110 : ¬ 0 ≤ 0 := (fun z => h110 ((nI_leI (a := 0) (b := 0) (by omega) (by omega)).mpr z))
                  omega
            · skip
              refine XG.blk tX9_expression_ok 51 2 (pc' := 99) (pl' := [some (.ref 0), some (.int (nI 0)), some (.int (nI 1))]) (st' := [(.int (nI 7)), (.ref 0)]) (W1 := (mW v a b)) (bs := []) rfl rfl rfl ?_
              refine XG.callV0 eX9_expression_99 kl_X9_233 (con_isF (d - 1) v a b K hT9 _ h 7 (show ¬ K.1 t = 7 by omega) (by decide)) (px_fitS (by omega)) rfl rfl rfl (Nat.le_of_ble_eq_true rfl) (fun r9 W9 hp9 hl9 => ?_)
              obtain ⟨rfl, rfl⟩ := hp9
              refine XG.br eX9_expression_102 (P := (nI 0) = 0) (r := []) rfl (tgt := 145) (by decide) (fun h102 => ?_) (fun h102 => ?_)
              · skip
                have g102 : 0 = 0 := (nI_eq (a := 0) (b := 0) (by omega) (by omega)).mp h102
                refine XG.blk tX9_expression_ok 77 2 (pc' := 148) (pl' := [some (.ref 0), some (.int (nI 0)), some (.int (nI 1))]) (st' := [(.int (nI 8)), (.ref 0)]) (W1 := (mW v a b)) (bs := []) rfl rfl rfl ?_
                refine XG.callV0 eX9_expression_148 kl_X9_233 (con_isF (d - 1) v a b K hT9 _ h 8 (show ¬ K.1 t = 8 by omega) (by decide)) (px_fitS (by omega)) rfl rfl rfl (Nat.le_of_ble_eq_true rfl) (fun r9 W9 hp9 hl9 => ?_)
                obtain ⟨rfl, rfl⟩ := hp9
                refine XG.br eX9_expression_151 (P := ¬ (nI 0) = 0) (r := []) rfl (tgt := 181) (by decide) (fun h151 => ?_) (fun h151 => ?_)
                · exfalso
                  have g151 : ¬ 0 = 0 := (fun z => h151 ((nI_eq (a := 0) (b := 0) (by omega) (by omega)).mpr z))
                  omega
                · skip
                  have h151 := Decidable.not_not.mp h151
                  have g151 : 0 = 0 := (nI_eq (a := 0) (b := 0) (by omega) (by omega)).mp h151
                  refine XG.blk tX9_expression_ok 81 2 (pc' := 157) (pl' := [some (.ref 0), some (.int (nI 0)), some (.int (nI 1))]) (st' := [(.int (nI 9)), (.ref 0)]) (W1 := (mW v a b)) (bs := []) rfl rfl rfl ?_
                  refine XG.callV0 eX9_expression_157 kl_X9_233 (con_isF (d - 1) v a b K hT9 _ h 9 (show ¬ K.1 t = 9 by omega) (by decide)) (px_fitS (by omega)) rfl rfl rfl (Nat.le_of_ble_eq_true rfl) (fun r9 W9 hp9 hl9 => ?_)
                  obtain ⟨rfl, rfl⟩ := hp9
                  refine XG.br eX9_expression_160 (P := ¬ (nI 0) = 0) (r := []) rfl (tgt := 181) (by decide) (fun h160 => ?_) (fun h160 => ?_)
                  · exfalso
                    have g160 : ¬ 0 = 0 := (fun z => h160 ((nI_eq (a := 0) (b := 0) (by omega) (by omega)).mpr z))
                    omega
                  · skip
                    have h160 := Decidable.not_not.mp h160
                    have g160 : 0 = 0 := (nI_eq (a := 0) (b := 0) (by omega) (by omega)).mp h160
                    refine XG.blk tX9_expression_ok 85 2 (pc' := 166) (pl' := [some (.ref 0), some (.int (nI 0)), some (.int (nI 1))]) (st' := [(.int (nI 10)), (.ref 0)]) (W1 := (mW v a b)) (bs := []) rfl rfl rfl ?_
                    refine XG.callV0 eX9_expression_166 kl_X9_233 (con_isF (d - 1) v a b K hT9 _ h 10 (show ¬ K.1 t = 10 by omega) (by decide)) (px_fitS (by omega)) rfl rfl rfl (Nat.le_of_ble_eq_true rfl) (fun r9 W9 hp9 hl9 => ?_)
                    obtain ⟨rfl, rfl⟩ := hp9
                    refine XG.br eX9_expression_169 (P := ¬ (nI 0) = 0) (r := []) rfl (tgt := 181) (by decide) (fun h169 => ?_) (fun h169 => ?_)
                    · exfalso
                      have g169 : ¬ 0 = 0 := (fun z => h169 ((nI_eq (a := 0) (b := 0) (by omega) (by omega)).mpr z))
                      omega
                    · skip
                      have h169 := Decidable.not_not.mp h169
                      have g169 : 0 = 0 := (nI_eq (a := 0) (b := 0) (by omega) (by omega)).mp h169
                      refine XG.blk tX9_expression_ok 89 2 (pc' := 175) (pl' := [some (.ref 0), some (.int (nI 0)), some (.int (nI 1))]) (st' := [(.int (nI 15)), (.ref 0)]) (W1 := (mW v a b)) (bs := []) rfl rfl rfl ?_
                      refine XG.callV0 eX9_expression_175 kl_X9_233 (con_isF (d - 1) v a b K hT9 _ h 15 (show ¬ K.1 t = 15 by omega) (by decide)) (px_fitS (by omega)) rfl rfl rfl (Nat.le_of_ble_eq_true rfl) (fun r9 W9 hp9 hl9 => ?_)
                      obtain ⟨rfl, rfl⟩ := hp9
                      refine XG.br eX9_expression_178 (P := (nI 0) = 0) (r := []) rfl (tgt := 185) (by decide) (fun h178 => ?_) (fun h178 => ?_)
                      · skip
                        have g178 : 0 = 0 := (nI_eq (a := 0) (b := 0) (by omega) (by omega)).mp h178
                        refine XG.blk tX9_expression_ok 95 3 (pc' := 188) (pl' := [some (.ref 0), some (.int (nI 0)), some (.int (nI 0))]) (st' := [(.int (nI 0))]) (W1 := (mW v a b)) (bs := []) rfl rfl rfl ?_
                        refine XG.br eX9_expression_188 (P := ¬ (nI 0) = 0) (r := []) rfl (tgt := 210) (by decide) (fun h188 => ?_) (fun h188 => ?_)
                        · exfalso
                          have g188 : ¬ 0 = 0 := (fun z => h188 ((nI_eq (a := 0) (b := 0) (by omega) (by omega)).mpr z))
                          omega
                        · skip
                          have h188 := Decidable.not_not.mp h188
                          have g188 : 0 = 0 := (nI_eq (a := 0) (b := 0) (by omega) (by omega)).mp h188
                          have q1 : (v 12) = (nI 0) := h12
                          refine XG.blk tX9_expression_ok 99 3 (pc' := 196) (pl' := [some (.ref 0), some (.int (nI 0)), some (.int (nI 0))]) (st' := [(.int (nI 0)), (.int (v 12))]) (W1 := (mW v a b)) (bs := []) rfl rfl rfl ?_
                          simp only [q1]
                          refine XG.br eX9_expression_196 (P := (nI 0) ≤ (nI 0)) (r := []) rfl (tgt := 204) (by decide) (fun h196 => ?_) (fun h196 => ?_)
                          · skip
                            have g196 : 0 ≤ 0 := (nI_leI (a := 0) (b := 0) (by omega) (by omega)).mp h196
                            refine XG.blk tX9_expression_ok 106 2 (pc' := 206) (pl' := [some (.ref 0), some (.int (nI 0)), some (.int (nI 0))]) (st' := [(.int (nI 0)), (.ref 0)]) (W1 := (mW v a b)) (bs := []) rfl rfl rfl ?_
                            refine XG.callV0 eX9_expression_206 kl_X9_323 (con_comesOut (d - 1) (by omega) v a b q0 sd hsd false W c hS) (px_fitS (by omega)) rfl rfl rfl (Nat.le_of_ble_eq_true rfl) (fun r9 W9 hp9 hl9 => ?_)
                            obtain ⟨v1, a1, rfl, hc1, hf1, hS1, rfl⟩ := hp9
                            have hP1 := PVr.v5 (v' := v1) h (hc1 11 (by decide)) (hc1 13 (by decide)) (hc1 14 (by decide)) (hc1 15 (by decide)) (hc1 16 (by decide))
                            have hT1 := hf1.tok hT9
                            have hk1_12 : v1 12 = nI 0 := (hc1 12 (by decide)).trans h12
                            have hl1 := hS1.2.1
                            refine XS.vret eX9_expression_209 rfl ?_
                            exact ⟨_, _, rfl, (chgX hv hc1 (fun _ _ => rfl)), ha.tr hf1, rfl, Or.inr ⟨_, hR.symm, hP1, hk1_12, hS1.2.2.1, hS1.2.2.2.2.2.2.1, by have := hof.2.2.2.2; have h66 : nops (outW false W c).1 = 0 := nops_0 hof.1 (hof.2.2.1 rfl) (by rw [hof.2.1]; exact hW6); show q0 + (outW false W c).2.length ≤ t + 420 * sd; omega⟩⟩
                          · exfalso
                            have g196 : ¬ 0 ≤ 0 := (fun z => h196 ((nI_leI (a := 0) (b := 0) (by omega) (by omega)).mpr z))
                            omega
                      · exfalso
                        have g178 : ¬ 0 = 0 := (fun z => h178 ((nI_eq (a := 0) (b := 0) (by omega) (by omega)).mpr z))
                        omega
              · exfalso
                have g102 : ¬ 0 = 0 := (fun z => h102 ((nI_eq (a := 0) (b := 0) (by omega) (by omega)).mpr z))
                omega
          · rw [if_neg h0] at hR
            refine XG.blk tX9_expression_ok 51 2 (pc' := 99) (pl' := [some (.ref 0), some (.int (nI 0)), some (.int (nI 1))]) (st' := [(.int (nI 7)), (.ref 0)]) (W1 := (mW v a b)) (bs := []) rfl rfl rfl ?_
            refine XG.callV0 eX9_expression_99 kl_X9_233 (con_isF (d - 1) v a b K hT9 _ h 7 (show ¬ K.1 t = 7 by omega) (by decide)) (px_fitS (by omega)) rfl rfl rfl (Nat.le_of_ble_eq_true rfl) (fun r9 W9 hp9 hl9 => ?_)
            obtain ⟨rfl, rfl⟩ := hp9
            refine XG.br eX9_expression_102 (P := (nI 0) = 0) (r := []) rfl (tgt := 145) (by decide) (fun h102 => ?_) (fun h102 => ?_)
            · skip
              have g102 : 0 = 0 := (nI_eq (a := 0) (b := 0) (by omega) (by omega)).mp h102
              refine XG.blk tX9_expression_ok 77 2 (pc' := 148) (pl' := [some (.ref 0), some (.int (nI 0)), some (.int (nI 1))]) (st' := [(.int (nI 8)), (.ref 0)]) (W1 := (mW v a b)) (bs := []) rfl rfl rfl ?_
              refine XG.callV0 eX9_expression_148 kl_X9_233 (con_isF (d - 1) v a b K hT9 _ h 8 (show ¬ K.1 t = 8 by omega) (by decide)) (px_fitS (by omega)) rfl rfl rfl (Nat.le_of_ble_eq_true rfl) (fun r9 W9 hp9 hl9 => ?_)
              obtain ⟨rfl, rfl⟩ := hp9
              refine XG.br eX9_expression_151 (P := ¬ (nI 0) = 0) (r := []) rfl (tgt := 181) (by decide) (fun h151 => ?_) (fun h151 => ?_)
              · exfalso
                have g151 : ¬ 0 = 0 := (fun z => h151 ((nI_eq (a := 0) (b := 0) (by omega) (by omega)).mpr z))
                omega
              · skip
                have h151 := Decidable.not_not.mp h151
                have g151 : 0 = 0 := (nI_eq (a := 0) (b := 0) (by omega) (by omega)).mp h151
                refine XG.blk tX9_expression_ok 81 2 (pc' := 157) (pl' := [some (.ref 0), some (.int (nI 0)), some (.int (nI 1))]) (st' := [(.int (nI 9)), (.ref 0)]) (W1 := (mW v a b)) (bs := []) rfl rfl rfl ?_
                refine XG.callV0 eX9_expression_157 kl_X9_233 (con_isF (d - 1) v a b K hT9 _ h 9 (show ¬ K.1 t = 9 by omega) (by decide)) (px_fitS (by omega)) rfl rfl rfl (Nat.le_of_ble_eq_true rfl) (fun r9 W9 hp9 hl9 => ?_)
                obtain ⟨rfl, rfl⟩ := hp9
                refine XG.br eX9_expression_160 (P := ¬ (nI 0) = 0) (r := []) rfl (tgt := 181) (by decide) (fun h160 => ?_) (fun h160 => ?_)
                · exfalso
                  have g160 : ¬ 0 = 0 := (fun z => h160 ((nI_eq (a := 0) (b := 0) (by omega) (by omega)).mpr z))
                  omega
                · skip
                  have h160 := Decidable.not_not.mp h160
                  have g160 : 0 = 0 := (nI_eq (a := 0) (b := 0) (by omega) (by omega)).mp h160
                  refine XG.blk tX9_expression_ok 85 2 (pc' := 166) (pl' := [some (.ref 0), some (.int (nI 0)), some (.int (nI 1))]) (st' := [(.int (nI 10)), (.ref 0)]) (W1 := (mW v a b)) (bs := []) rfl rfl rfl ?_
                  refine XG.callV0 eX9_expression_166 kl_X9_233 (con_isF (d - 1) v a b K hT9 _ h 10 (show ¬ K.1 t = 10 by omega) (by decide)) (px_fitS (by omega)) rfl rfl rfl (Nat.le_of_ble_eq_true rfl) (fun r9 W9 hp9 hl9 => ?_)
                  obtain ⟨rfl, rfl⟩ := hp9
                  refine XG.br eX9_expression_169 (P := ¬ (nI 0) = 0) (r := []) rfl (tgt := 181) (by decide) (fun h169 => ?_) (fun h169 => ?_)
                  · exfalso
                    have g169 : ¬ 0 = 0 := (fun z => h169 ((nI_eq (a := 0) (b := 0) (by omega) (by omega)).mpr z))
                    omega
                  · skip
                    have h169 := Decidable.not_not.mp h169
                    have g169 : 0 = 0 := (nI_eq (a := 0) (b := 0) (by omega) (by omega)).mp h169
                    refine XG.blk tX9_expression_ok 89 2 (pc' := 175) (pl' := [some (.ref 0), some (.int (nI 0)), some (.int (nI 1))]) (st' := [(.int (nI 15)), (.ref 0)]) (W1 := (mW v a b)) (bs := []) rfl rfl rfl ?_
                    refine XG.callV0 eX9_expression_175 kl_X9_233 (con_isF (d - 1) v a b K hT9 _ h 15 (show ¬ K.1 t = 15 by omega) (by decide)) (px_fitS (by omega)) rfl rfl rfl (Nat.le_of_ble_eq_true rfl) (fun r9 W9 hp9 hl9 => ?_)
                    obtain ⟨rfl, rfl⟩ := hp9
                    refine XG.br eX9_expression_178 (P := (nI 0) = 0) (r := []) rfl (tgt := 185) (by decide) (fun h178 => ?_) (fun h178 => ?_)
                    · skip
                      have g178 : 0 = 0 := (nI_eq (a := 0) (b := 0) (by omega) (by omega)).mp h178
                      refine XG.blk tX9_expression_ok 95 3 (pc' := 188) (pl' := [some (.ref 0), some (.int (nI 0)), some (.int (nI 0))]) (st' := [(.int (nI 0))]) (W1 := (mW v a b)) (bs := []) rfl rfl rfl ?_
                      refine XG.br eX9_expression_188 (P := ¬ (nI 0) = 0) (r := []) rfl (tgt := 210) (by decide) (fun h188 => ?_) (fun h188 => ?_)
                      · exfalso
                        have g188 : ¬ 0 = 0 := (fun z => h188 ((nI_eq (a := 0) (b := 0) (by omega) (by omega)).mpr z))
                        omega
                      · skip
                        have h188 := Decidable.not_not.mp h188
                        have g188 : 0 = 0 := (nI_eq (a := 0) (b := 0) (by omega) (by omega)).mp h188
                        have q1 : (v 12) = (nI op) := h12
                        refine XG.blk tX9_expression_ok 99 3 (pc' := 196) (pl' := [some (.ref 0), some (.int (nI 0)), some (.int (nI 0))]) (st' := [(.int (nI 0)), (.int (v 12))]) (W1 := (mW v a b)) (bs := []) rfl rfl rfl ?_
                        simp only [q1]
                        refine XG.br eX9_expression_196 (P := (nI op) ≤ (nI 0)) (r := []) rfl (tgt := 204) (by decide) (fun h196 => ?_) (fun h196 => ?_)
                        · exfalso
                          have g196 : op ≤ 0 := (nI_leI (a := op) (b := 0) (by omega) (by omega)).mp h196
                          omega
                        · skip
                          have g196 : ¬ op ≤ 0 := (fun z => h196 ((nI_leI (a := op) (b := 0) (by omega) (by omega)).mpr z))
                          refine XG.blk tX9_expression_ok 103 2 (pc' := 201) (pl' := [some (.ref 0), some (.int (nI 0)), some (.int (nI 0))]) (st' := [(.int (nI 1)), (.ref 0)]) (W1 := (mW v a b)) (bs := []) rfl rfl rfl ?_
                          refine XG.callV0 eX9_expression_201 kl_X9_230 (con_failS (d - 1) v a b K hT9 _ h 1 (Or.inl rfl)) (px_fitS (by omega)) rfl rfl rfl (Nat.le_of_ble_eq_true rfl) (fun r9 W9 hp9 hl9 => ?_)
                          obtain ⟨v1, rfl, hc1, hP1, rfl⟩ := hp9
                          have hk1_12 : v1 12 = nI op := (hc1 12 (by decide)).trans h12
                          have hk1_46 : v1 46 = nI (q0 + c.length) := (hc1 46 (by decide)).trans hS.2.2.1
                          have hk1_50 : v1 50 = nI W.length := (hc1 50 (by decide)).trans h50
                          have hS1 := hS.v (hc1 46 (by decide)) (hc1 50 (by decide))
                          refine XG.blk tX9_expression_ok 106 2 (pc' := 206) (pl' := [some (.ref 0), some (.int (nI 0)), some (.int (nI 0))]) (st' := [(.int (nI 0)), (.ref 0)]) (W1 := (mW v1 a b)) (bs := []) rfl rfl rfl ?_
                          refine XG.callV0 eX9_expression_206 kl_X9_323 (con_comesOut (d - 1) (by omega) v1 a b q0 sd hsd false W c hS1) (px_fitS (by omega)) rfl rfl rfl (Nat.le_of_ble_eq_true rfl) (fun r9 W9 hp9 hl9 => ?_)
                          obtain ⟨v2, a2, rfl, hc2, hf2, hS2, rfl⟩ := hp9
                          have hP2 := PVr.v5 (v' := v2) hP1 (hc2 11 (by decide)) (hc2 13 (by decide)) (hc2 14 (by decide)) (hc2 15 (by decide)) (hc2 16 (by decide))
                          have hT2 := hf2.tok hT9
                          have hk2_12 : v2 12 = nI op := (hc2 12 (by decide)).trans hk1_12
                          have hl2 := hS2.2.1
                          refine XS.vret eX9_expression_209 rfl ?_
                          exact ⟨_, _, rfl, (chgX (chgX hv hc1 (fun _ _ => rfl)) hc2 (fun _ _ => rfl)), ha.tr hf2, rfl, Or.inl ⟨_, hR.symm, hP2⟩⟩
                    · exfalso
                      have g178 : ¬ 0 = 0 := (fun z => h178 ((nI_eq (a := 0) (b := 0) (by omega) (by omega)).mpr z))
                      omega
            · exfalso
              have g102 : ¬ 0 = 0 := (fun z => h102 ((nI_eq (a := 0) (b := 0) (by omega) (by omega)).mpr z))
              omega
