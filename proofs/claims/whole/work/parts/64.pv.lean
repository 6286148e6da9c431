/-! the reference goes through a text: its place, its faults -/
def okT (K : TKS) (t : Nat) : Prop := ∀ i, i < t → K.1 i ≠ 0
theorem okT.s {K : TKS} {t : Nat} (h : okT K t) (h2 : K.1 t ≠ 0) : okT K (t + 1) := by
  intro i hi
  rcases (show i < t ∨ i = t by omega) with h3 | h3
  · exact h i h3
  · rw [h3]; exact h2
def wRep (K : TKS) (t : Nat) (w : Option PE) (v : Nat → Int32) : Prop := match w with
  | none => v 15 = nI 0
  | some x => v 15 = nI x.1 ∧ v 16 = nI x.2 ∧ 3 ≤ x.1 ∧ x.1 ≤ 5 ∧ x.2 < K.2.1 t
def PVr (K : TKS) (r : PE ⊕ PT) (v : Nat → Int32) : Prop := match r with
  | .inl e => (e.1 = 1 ∨ e.1 = 2) ∧ v 13 = nI e.1 ∧ v 14 = nI (K.2.1 e.2) ∧ ∃ t, t ≤ 400 ∧ v 11 = nI t
  | .inr s => s.1 ≤ 400 ∧ v 11 = nI s.1 ∧ v 13 = nI 0 ∧ okT K s.1 ∧ wRep K s.1 s.2 v
/-- letters as a number -/
def enR (q : Nat) : List Nat → Nat
  | [] => 0
  | x :: r => q * enR q r + x
def enc (q : Nat) (l : List Nat) : Nat := enR q l.reverse
theorem enc_s (q : Nat) (l : List Nat) (x : Nat) : enc q (l ++ [x]) = q * enc q l + x := by
  unfold enc; rw [List.reverse_append]; rfl
theorem enR_inj (q : Nat) : ∀ (l m : List Nat), (∀ x ∈ l, 1 ≤ x ∧ x < q) → (∀ x ∈ m, 1 ≤ x ∧ x < q) → enR q l = enR q m → l = m := by
  intro l
  induction l with
  | nil =>
    intro m _ hm h
    cases m with
    | nil => rfl
    | cons y s =>
      have := hm y List.mem_cons_self
      have h : 0 = q * enR q s + y := h
      omega
  | cons x r ih =>
    intro m hl hm h
    have hx := hl x List.mem_cons_self
    cases m with
    | nil =>
      have h : q * enR q r + x = 0 := h
      omega
    | cons y s =>
      have hy := hm y List.mem_cons_self
      have h : q * enR q r + x = q * enR q s + y := h
      have e1 : x = y := by
        have h2 := congrArg (· % q) h
        simp only [Nat.mul_add_mod] at h2
        rw [Nat.mod_eq_of_lt hx.2, Nat.mod_eq_of_lt hy.2] at h2
        exact h2
      subst e1
      have e2 : enR q r = enR q s := by
        have h2 : q * enR q r = q * enR q s := by omega
        exact Nat.eq_of_mul_eq_mul_left (by omega) h2
      rw [ih s (fun z hz => hl z (List.mem_cons_of_mem _ hz)) (fun z hz => hm z (List.mem_cons_of_mem _ hz)) e2]
theorem enR_lt (q n : Nat) (hq : 0 < q) : ∀ (l : List Nat), (∀ x ∈ l, 1 ≤ x ∧ x < q) → l.length ≤ n → enR q l < q ^ n := by
  induction n with
  | zero =>
    intro l _ h
    cases l with
    | nil => exact Nat.one_pos
    | cons x r => simp at h
  | succ n ih =>
    intro l hl h
    cases l with
    | nil =>
      exact Nat.pow_pos hq
    | cons x r =>
      have h1 := ih r (fun z hz => hl z (List.mem_cons_of_mem _ hz)) (by simp at h; omega)
      have h2 := hl x List.mem_cons_self
      show q * enR q r + x < _
      rw [Nat.pow_succ, Nat.mul_comm (q ^ n) q]
      calc q * enR q r + x < q * enR q r + q := by omega
        _ = q * (enR q r + 1) := by rw [Nat.mul_add, Nat.mul_one]
        _ ≤ q * q ^ n := Nat.mul_le_mul_left q h1
def vNm (l : List Nat) : Prop := l.length ≤ 8 ∧ ∀ x ∈ l, 1 ≤ x ∧ x < 27
theorem vNm.lt {l : List Nat} (h : vNm l) : enc 27 l < 2 ^ 40 := by
  have h1 := enR_lt 27 8 (by decide) l.reverse (fun x hx => h.2 x (List.mem_reverse.mp hx)) (by rw [List.length_reverse]; exact h.1)
  unfold enc
  have : 27 ^ 8 < 2 ^ 40 := by decide
  omega
theorem vNm.inj {l m : List Nat} (h : vNm l) (h2 : vNm m) (e : enc 27 l = enc 27 m) : l = m := by
  have h1 := enR_inj 27 l.reverse m.reverse (fun x hx => h.2 x (List.mem_reverse.mp hx)) (fun x hx => h2.2 x (List.mem_reverse.mp hx)) e
  exact List.reverse_inj.mp h1
theorem lN_inj {x y : Nat} (hx : x < 2 ^ 40) (hy : y < 2 ^ 40) (h : lN x = lN y) : x = y := by
  have h2 := congrArg (fun z => z.toBitVec.toNat) h
  have e : ∀ n, n < 2 ^ 40 → (lN n).toBitVec.toNat = n := by
    intro n hn
    show (BitVec.ofNat 64 n).toNat = n
    rw [BitVec.toNat_ofNat]
    exact Nat.mod_eq_of_lt (by omega)
  simp only [e x hx, e y hy] at h2
  exact h2
theorem vNm.eq {l m : List Nat} (h : vNm l) (h2 : vNm m) : lN (enc 27 l) = lN (enc 27 m) ↔ l = m := ⟨fun e => h.inj h2 (lN_inj h.lt h2.lt e), fun e => by rw [e]⟩
theorem cmp_eq {x y : Int64} : lg_cmp x y = 0 ↔ x = y := by
  unfold lg_cmp
  constructor
  · intro h
    by_cases h1 : x > y
    · rw [if_pos h1] at h; exact absurd h (by decide)
    · rw [if_neg h1] at h
      by_cases h2 : x = y
      · exact h2
      · rw [if_neg h2] at h; exact absurd h (by decide)
  · intro h; subst h
    rw [if_neg (fun z => Int64.lt_irrefl z), if_pos rfl]
def Tok (K : TKS) (a : Nat → Nat → Int32) (b : Nat → Nat → Int64) : Prop := ∀ t, t ≤ 400 → okT K t → a 5 t = nI (K.1 t) ∧ a 6 t = nI (K.2.1 t) ∧ a 7 t = nI (K.2.2.1 t) ∧ (K.1 t = 1 → b 8 t = lN (enc 27 (K.2.2.2 t)) ∧ vNm (K.2.2.2 t)) ∧ K.1 t < 100 ∧ K.2.1 t ≤ 2000 ∧ K.2.2.1 t < 10000 ∧ (K.1 t ≠ 0 → K.2.1 t < K.2.1 (t + 1))
theorem PVr.t {K : TKS} {r : PE ⊕ PT} {v : Nat → Int32} (h : PVr K r v) : ∃ t, t ≤ 400 ∧ v 11 = nI t := by
  cases r with
  | inl e => exact h.2.2.2
  | inr s => exact ⟨s.1, h.1, h.2.1⟩
theorem PVr.chg {K : TKS} {r : PE ⊕ PT} {v v' : Nat → Int32} (h : PVr K r v) (e : ∀ k ∈ [11, 13, 14, 15, 16], v' k = v k) : PVr K r v' := by
  have e11 := e 11 (by decide)
  have e13 := e 13 (by decide)
  have e14 := e 14 (by decide)
  have e15 := e 15 (by decide)
  have e16 := e 16 (by decide)
  cases r with
  | inl x => unfold PVr at h ⊢; simp only [e11, e13, e14]; exact h
  | inr s =>
    obtain ⟨h1, h2, h3, h4, h5⟩ := h
    refine ⟨h1, by rw [e11]; exact h2, by rw [e13]; exact h3, h4, ?_⟩
    cases hs : s.2 with
    | none => rw [hs] at h5; show v' 15 = nI 0; rw [e15]; exact h5
    | some x => rw [hs] at h5; show v' 15 = nI x.1 ∧ v' 16 = nI x.2 ∧ _; rw [e15, e16]; exact h5
def failV (v : Nat → Int32) (f : Nat → Int32) (t : Nat) (k : Int32) : Nat → Int32 := if 0 < v 13 then v else va_up (va_up v 13 k) 14 (f t)
def goV (v : Nat → Int32) (f : Nat → Int32) (t : Nat) : Nat → Int32 := if t = 400 then failV v f t (nI 2) else va_up v 11 (nI (t + 1))
def wrgV (v : Nat → Int32) (p k : Int32) : Nat → Int32 := if 0 < v 13 ∨ (¬ v 15 = 0 ∧ (v 16 < p ∨ (p = v 16 ∧ v 15 ≤ k))) then v else va_up (va_up v 15 k) 16 p
theorem n1_pos {k : Nat} (h : 1 ≤ k) (h2 : k < 2 ^ 31) : (0 : Int32) < nI k := by
  rw [Int32.lt_iff_toInt_lt, nI_toInt h2, show (0 : Int32).toInt = 0 from rfl]; omega
theorem nI_nz {k : Nat} (h : 1 ≤ k) (h2 : k < 2 ^ 31) : ¬ nI k = 0 := fun e => by
  have := (nI_eq (a := k) (b := 0) h2 (by decide)).mp e; omega
theorem n0_npos : ¬ (0 : Int32) < nI 0 := by decide
theorem PVr.x {K : TKS} {e : PE} {v f : Nat → Int32} {t : Nat} {k : Int32} (h : PVr K (.inl e) v) : failV v f t k = v := by
  unfold failV
  rw [if_pos (by rw [h.2.1]; exact n1_pos (by have := h.1; omega) (by have := h.1; omega))]
theorem PVr.fail {K : TKS} {s : PT} {v : Nat → Int32} {a : Nat → Nat → Int32} {b : Nat → Nat → Int64} (h : PVr K (.inr s) v) (hT : Tok K a b) {k : Nat} (hk : k = 1 ∨ k = 2) : PVr K (.inl (k, s.1)) (failV v (a 6) s.1 (nI k)) := by
  obtain ⟨h1, h2, h3, h4, h5⟩ := h
  unfold failV
  rw [if_neg (by rw [h3]; exact n0_npos)]
  exact ⟨hk, rfl, (hT s.1 h1 h4).2.1, s.1, h1, h2⟩
theorem wRep.up {K : TKS} {t : Nat} {w : Option PE} {v : Nat → Int32} (h : wRep K t w v) (h2 : K.2.1 t < K.2.1 (t + 1)) {x : Int32} : wRep K (t + 1) w (va_up v 11 x) := by
  cases w with
  | none => exact h
  | some y => exact ⟨h.1, h.2.1, h.2.2.1, h.2.2.2.1, Nat.lt_trans h.2.2.2.2 h2⟩
theorem PVr.go {K : TKS} {s : PT} {v : Nat → Int32} {a : Nat → Nat → Int32} {b : Nat → Nat → Int64} (h : PVr K (.inr s) v) (hT : Tok K a b) (hk : K.1 s.1 ≠ 0) : PVr K (advS s) (goV v (a 6) s.1) := by
  unfold advS advN goV
  by_cases h4 : s.1 = 400
  · rw [if_pos h4, if_pos h4]
    have h9 := PVr.fail h hT (k := 2) (Or.inr rfl)
    rw [h4] at h9 ⊢
    exact h9
  · rw [if_neg h4, if_neg h4]
    obtain ⟨h1, h2, h3, h4', h5⟩ := h
    exact ⟨by show s.1 + 1 ≤ 400; omega, rfl, h3, h4'.s hk, h5.up ((hT s.1 h1 h4').2.2.2.2.2.2.2 hk)⟩
theorem failV_chg {v f : Nat → Int32} {t : Nat} {k : Int32} : chg [11, 13, 14] v (failV v f t k) := by
  unfold failV; split
  · exact chg.rf
  · exact (chg.up (by decide)).tr (chg.up (by decide))
theorem goV_chg {v f : Nat → Int32} {t : Nat} : chg [11, 13, 14] v (goV v f t) := by
  unfold goV; split
  · exact failV_chg
  · exact chg.up (by decide)
theorem wrgV_chg {v : Nat → Int32} {p k : Int32} : chg [15, 16] v (wrgV v p k) := by
  unfold wrgV; split
  · exact chg.rf
  · exact (chg.up (by decide)).tr (chg.up (by decide))
/-- noted only if it is the first -/
theorem wrgV_none {v : Nat → Int32} {p k : Int32} (h13 : v 13 = nI 0) (h15 : v 15 = nI 0) : wrgV v p k = va_up (va_up v 15 k) 16 p := by
  unfold wrgV
  rw [if_neg]
  rintro (h | h)
  · rw [h13] at h; exact n0_npos h
  · exact h.1 h15
theorem wrgV_some {v : Nat → Int32} {p : Nat} {k x1 x2 : Nat} (h15 : v 15 = nI x1) (h16 : v 16 = nI x2) (hx : 3 ≤ x1 ∧ x1 ≤ 5) (hp : p ≤ 2000) (hk : k ≤ 5) (h : x2 < p ∨ (x2 = p ∧ x1 ≤ k)) : wrgV v (nI p) (nI k) = v := by
  unfold wrgV
  rw [if_pos]
  refine Or.inr ⟨?_, ?_⟩
  · rw [h15]; exact nI_nz (by omega) (by omega)
  · rcases h with h | h
    · exact Or.inl (by rw [h16]; exact (nI_ltI (by omega) (by omega)).mpr h)
    · exact Or.inr ⟨by rw [h16, h.1], by rw [h15]; exact (nI_leI (by omega) (by omega)).mpr h.2⟩
theorem wrgV_x {K : TKS} {e : PE} {v : Nat → Int32} {p k : Int32} (h : PVr K (.inl e) v) : wrgV v p k = v := by
  unfold wrgV
  rw [if_pos (Or.inl (by rw [h.2.1]; exact n1_pos (by have := h.1; omega) (by have := h.1; omega)))]
set_option maxHeartbeats 400000 in
theorem con_is (d : Nat) (v : Nat → Int32) (a : Nat → Nat → Int32) (b : Nat → Nat → Int64) (t : Nat) (h11 : v 11 = nI t) (ht : t ≤ 400) (k : Int32) : Con mX9_is d [.ref 0, .int k] (mW v a b) (fun r W' => W' = mW v a b ∧ r = some (.int (if v 13 = 0 ∧ a 5 t = k then 1 else 0))) := by
  refine Con.of (by decide) (Nat.le_of_ble_eq_true rfl) ?_
  refine XG.blk tX9_is_ok 0 2 (pc' := 4) (pl' := [some (.ref 0), some (.int k)]) (st' := [(.int (v 13))]) (W1 := (mW v a b)) (bs := []) rfl rfl rfl ?_
  refine XG.br eX9_is_4 (P := ¬ (v 13) = 0) (r := []) rfl (tgt := 24) (by decide) (fun h4 => ?_) (fun h4 => ?_)
  · skip
    refine XG.blk tX9_is_ok 12 1 (pc' := 25) (pl' := [some (.ref 0), some (.int k)]) (st' := [(.int (nI 0))]) (W1 := (mW v a b)) (bs := []) rfl rfl rfl ?_
    refine XS.iret eX9_is_25 rfl (by decide) ?_
    rw [if_neg (fun hc => h4 hc.1)]; exact ⟨rfl, rfl⟩
  · skip
    have h4 := Decidable.not_not.mp h4
    have q1 : (v 11) = (nI t) := h11
    have q2 : (nI t).toNatClampNeg = t := nI_clamp (by omega)
    refine XG.blk tX9_is_ok 3 6 (pc' := 17) (pl' := [some (.ref 0), some (.int k)]) (st' := [(.int k), (.int ((a 5) (v 11).toNatClampNeg))]) (W1 := (mW v a b)) (bs := [px_vb (v 11) 403]) rfl rfl (by (try simp only [q1, q2]); exact (px_all (px_vbN (by omega) (by decide)) rfl)) ?_
    simp only [q1, q2]
    refine XG.br eX9_is_17 (P := ¬ ((a 5) t) = k) (r := []) rfl (tgt := 24) (by decide) (fun h17 => ?_) (fun h17 => ?_)
    · skip
      refine XG.blk tX9_is_ok 12 1 (pc' := 25) (pl' := [some (.ref 0), some (.int k)]) (st' := [(.int (nI 0))]) (W1 := (mW v a b)) (bs := []) rfl rfl rfl ?_
      refine XS.iret eX9_is_25 rfl (by decide) ?_
      rw [if_neg (fun hc => h17 hc.2)]; exact ⟨rfl, rfl⟩
    · skip
      have h17 := Decidable.not_not.mp h17
      refine XG.blk tX9_is_ok 10 1 (pc' := 21) (pl' := [some (.ref 0), some (.int k)]) (st' := [(.int (nI 1))]) (W1 := (mW v a b)) (bs := []) rfl rfl rfl ?_
      refine XG.goto eX9_is_21 (tgt := 25) (by decide) ?_
      refine XS.iret eX9_is_25 rfl (by decide) ?_
      rw [if_pos ⟨h4, h17⟩]; exact ⟨rfl, rfl⟩
set_option maxHeartbeats 400000 in
theorem con_fail (d : Nat) (v : Nat → Int32) (a : Nat → Nat → Int32) (b : Nat → Nat → Int64) (t : Nat) (h11 : v 11 = nI t) (ht : t ≤ 400) (k : Int32) : Con mX9_fail d [.ref 0, .int k] (mW v a b) (fun r W' => W' = mW (failV v (a 6) t k) a b ∧ r = none) := by
  refine Con.of (by decide) (Nat.le_of_ble_eq_true rfl) ?_
  refine XG.blk tX9_fail_ok 0 2 (pc' := 4) (pl' := [some (.ref 0), some (.int k)]) (st' := [(.int (v 13))]) (W1 := (mW v a b)) (bs := []) rfl rfl rfl ?_
  refine XG.br eX9_fail_4 (P := (v 13) ≤ 0) (r := []) rfl (tgt := 8) (by decide) (fun h4 => ?_) (fun h4 => ?_)
  · skip
    have q1 : (v 11) = (nI t) := h11
    have q2 : (nI t).toNatClampNeg = t := nI_clamp (by omega)
    refine XG.blk tX9_fail_ok 4 10 (pc' := 26) (pl' := [some (.ref 0), some (.int k)]) (st' := []) (W1 := (mW (va_up (va_up v 13 k) 14 ((a 6) (v 11).toNatClampNeg)) a b)) (bs := [px_vb (v 11) 403]) rfl rfl (by (try simp only [q1, q2]); exact (px_all (px_vbN (by omega) (by decide)) rfl)) ?_
    simp only [q1, q2]
    refine XS.vret eX9_fail_26 rfl ?_
    unfold failV; rw [if_neg (Int32.not_lt.mpr h4)]; exact ⟨rfl, rfl⟩
  · skip
    refine XS.vret eX9_fail_7 rfl ?_
    unfold failV; rw [if_pos (Int32.not_le.mp h4)]; exact ⟨rfl, rfl⟩
set_option maxHeartbeats 400000 in
theorem con_goesOn (d : Nat) (v : Nat → Int32) (a : Nat → Nat → Int32) (b : Nat → Nat → Int64) (t : Nat) (h11 : v 11 = nI t) (ht : t ≤ 400) (hd : 1 ≤ d) : Con mX9_goesOn d [.ref 0] (mW v a b) (fun r W' => W' = mW (goV v (a 6) t) a b ∧ r = none) := by
  refine Con.of (by decide) (Nat.le_of_ble_eq_true rfl) ?_
  have q1 : (v 11) = (nI t) := h11
  refine XG.blk tX9_goesOn_ok 0 3 (pc' := 7) (pl' := [some (.ref 0)]) (st' := [(.int (nI 400)), (.int (v 11))]) (W1 := (mW v a b)) (bs := []) rfl rfl rfl ?_
  simp only [q1]
  refine XG.br eX9_goesOn_7 (P := ¬ (nI t) = (nI 400)) (r := []) rfl (tgt := 18) (by decide) (fun h7 => ?_) (fun h7 => ?_)
  · skip
    have g7 : ¬ t = 400 := (fun z => h7 ((nI_eq (a := t) (b := 400) (by omega) (by omega)).mpr z))
    have q2 : (v 11) = (nI t) := h11
    have q3 : ((nI t) + (nI 1)) = (nI (t + 1)) := px_eadd rfl rfl
    refine XG.blk tX9_goesOn_ok 8 6 (pc' := 28) (pl' := [some (.ref 0)]) (st' := []) (W1 := (mW (va_up v 11 ((v 11) + (nI 1))) a b)) (bs := []) rfl rfl rfl ?_
    simp only [q2, q3]
    refine XS.vret eX9_goesOn_28 rfl ?_
    unfold goV; rw [if_neg g7]; exact ⟨rfl, rfl⟩
  · skip
    have h7 := Decidable.not_not.mp h7
    have g7 : t = 400 := (nI_eq (a := t) (b := 400) (by omega) (by omega)).mp h7
    refine XG.blk tX9_goesOn_ok 4 2 (pc' := 12) (pl' := [some (.ref 0)]) (st' := [(.int (nI 2)), (.ref 0)]) (W1 := (mW v a b)) (bs := []) rfl rfl rfl ?_
    refine XG.callV0 eX9_goesOn_12 kl_X9_230 (con_fail (d - 1) v a b t h11 (by omega) (nI 2)) (px_fitS (by omega)) rfl rfl rfl (Nat.le_of_ble_eq_true rfl) (fun r9 W9 hp9 hl9 => ?_)
    obtain ⟨rfl, rfl⟩ := hp9
    refine XG.goto eX9_goesOn_15 (tgt := 28) (by decide) ?_
    refine XS.vret eX9_goesOn_28 rfl ?_
    unfold goV; rw [if_pos g7]; exact ⟨rfl, rfl⟩
set_option maxHeartbeats 400000 in
theorem con_wrong (d : Nat) (v : Nat → Int32) (a : Nat → Nat → Int32) (b : Nat → Nat → Int64) (q : Nat) (hq : q ≤ 402) (k : Int32) : Con mX9_wrong d [.ref 0, .int k, .int (nI q)] (mW v a b) (fun r W' => W' = mW (wrgV v (a 6 q) k) a b ∧ r = none) := by
  refine Con.of (by decide) (Nat.le_of_ble_eq_true rfl) ?_
  have q1 : (nI q).toNatClampNeg = q := nI_clamp (by omega)
  refine XG.blk tX9_wrong_ok 0 7 (pc' := 11) (pl' := [some (.ref 0), some (.int k), some (.int (nI q)), some (.int ((a 6) (nI q).toNatClampNeg))]) (st' := [(.int (v 13))]) (W1 := (mW v a b)) (bs := [px_vb (nI q) 403]) rfl rfl (by (try simp only [q1]); exact (px_all (px_vbN (by omega) (by decide)) rfl)) ?_
  simp only [q1]
  refine XG.br eX9_wrong_11 (P := 0 < (v 13)) (r := []) rfl (tgt := 45) (by decide) (fun h11 => ?_) (fun h11 => ?_)
  · skip
    refine XS.vret eX9_wrong_45 rfl ?_
    unfold wrgV; rw [if_pos (Or.inl h11)]; exact ⟨rfl, rfl⟩
  · skip
    refine XG.blk tX9_wrong_ok 8 2 (pc' := 18) (pl' := [some (.ref 0), some (.int k), some (.int (nI q)), some (.int ((a 6) q))]) (st' := [(.int (v 15))]) (W1 := (mW v a b)) (bs := []) rfl rfl rfl ?_
    refine XG.br eX9_wrong_18 (P := (v 15) = 0) (r := []) rfl (tgt := 46) (by decide) (fun h18 => ?_) (fun h18 => ?_)
    · skip
      refine XG.blk tX9_wrong_ok 24 6 (pc' := 56) (pl' := [some (.ref 0), some (.int k), some (.int (nI q)), some (.int ((a 6) q))]) (st' := []) (W1 := (mW (va_up (va_up v 15 k) 16 ((a 6) q)) a b)) (bs := []) rfl rfl rfl ?_
      refine XS.vret eX9_wrong_56 rfl ?_
      unfold wrgV; rw [if_neg (fun h => h.elim h11 (fun h => h.2.elim (fun h2 => h.1 h18) (fun h2 => h.1 h18)))]; exact ⟨rfl, rfl⟩
    · skip
      refine XG.blk tX9_wrong_ok 11 3 (pc' := 26) (pl' := [some (.ref 0), some (.int k), some (.int (nI q)), some (.int ((a 6) q))]) (st' := [(.int (v 16)), (.int ((a 6) q))]) (W1 := (mW v a b)) (bs := []) rfl rfl rfl ?_
      refine XG.br eX9_wrong_26 (P := (v 16) < ((a 6) q)) (r := []) rfl (tgt := 45) (by decide) (fun h26 => ?_) (fun h26 => ?_)
      · skip
        refine XS.vret eX9_wrong_45 rfl ?_
        unfold wrgV; rw [if_pos (Or.inr ⟨h18, Or.inl h26⟩)]; exact ⟨rfl, rfl⟩
      · skip
        refine XG.blk tX9_wrong_ok 15 3 (pc' := 34) (pl' := [some (.ref 0), some (.int k), some (.int (nI q)), some (.int ((a 6) q))]) (st' := [(.int (v 16)), (.int ((a 6) q))]) (W1 := (mW v a b)) (bs := []) rfl rfl rfl ?_
        refine XG.br eX9_wrong_34 (P := ¬ ((a 6) q) = (v 16)) (r := []) rfl (tgt := 46) (by decide) (fun h34 => ?_) (fun h34 => ?_)
        · skip
          refine XG.blk tX9_wrong_ok 24 6 (pc' := 56) (pl' := [some (.ref 0), some (.int k), some (.int (nI q)), some (.int ((a 6) q))]) (st' := []) (W1 := (mW (va_up (va_up v 15 k) 16 ((a 6) q)) a b)) (bs := []) rfl rfl rfl ?_
          refine XS.vret eX9_wrong_56 rfl ?_
          unfold wrgV; rw [if_neg (fun h => h.elim h11 (fun h => h.2.elim (fun h2 => h26 h2) (fun h2 => h34 h2.1)))]; exact ⟨rfl, rfl⟩
        · skip
          have h34 := Decidable.not_not.mp h34
          refine XG.blk tX9_wrong_ok 19 3 (pc' := 42) (pl' := [some (.ref 0), some (.int k), some (.int (nI q)), some (.int ((a 6) q))]) (st' := [(.int (v 15)), (.int k)]) (W1 := (mW v a b)) (bs := []) rfl rfl rfl ?_
          refine XG.br eX9_wrong_42 (P := k < (v 15)) (r := []) rfl (tgt := 46) (by decide) (fun h42 => ?_) (fun h42 => ?_)
          · skip
            refine XG.blk tX9_wrong_ok 24 6 (pc' := 56) (pl' := [some (.ref 0), some (.int k), some (.int (nI q)), some (.int ((a 6) q))]) (st' := []) (W1 := (mW (va_up (va_up v 15 k) 16 ((a 6) q)) a b)) (bs := []) rfl rfl rfl ?_
            refine XS.vret eX9_wrong_56 rfl ?_
            unfold wrgV; rw [if_neg (fun h => h.elim h11 (fun h => h.2.elim (fun h2 => h26 h2) (fun h2 => absurd h42 (Int32.not_lt.mpr h2.2))))]; exact ⟨rfl, rfl⟩
          · skip
            refine XS.vret eX9_wrong_45 rfl ?_
            unfold wrgV; rw [if_pos (Or.inr ⟨h18, Or.inr ⟨h34, Int32.not_lt.mp h42⟩⟩)]; exact ⟨rfl, rfl⟩
set_option maxHeartbeats 400000 in
theorem con_must (d : Nat) (v : Nat → Int32) (a : Nat → Nat → Int32) (b : Nat → Nat → Int64) (K : TKS) (hT : Tok K a b) (r : PE ⊕ PT) (h : PVr K r v) (k : Nat) (hk : 1 ≤ k) (hk2 : k < 100) (hd : 2 ≤ d) : Con mX9_must d [.ref 0, .int (nI k)] (mW v a b) (fun q W' => ∃ v', W' = mW v' a b ∧ chg [11, 13, 14] v v' ∧ PVr K (bd r (mstS K k)) v' ∧ q = none) := by
  obtain ⟨t, ht, h11⟩ := h.t
  refine Con.of (by decide) (Nat.le_of_ble_eq_true rfl) ?_
  refine XG.blk tX9_must_ok 0 2 (pc' := 2) (pl' := [some (.ref 0), some (.int (nI k))]) (st' := [(.int (nI k)), (.ref 0)]) (W1 := (mW v a b)) (bs := []) rfl rfl rfl ?_
  refine XG.callV0 eX9_must_2 kl_X9_233 (con_is (d - 1) v a b t h11 (by omega) (nI k)) (px_fitS (by omega)) rfl rfl rfl (Nat.le_of_ble_eq_true rfl) (fun r9 W9 hp9 hl9 => ?_)
  obtain ⟨rfl, rfl⟩ := hp9
  refine XG.br eX9_must_5 (P := (if (v 13) = 0 ∧ (a 5) t = (nI k) then 1 else 0) = 0) (r := []) rfl (tgt := 15) (by decide) (fun h5 => ?_) (fun h5 => ?_)
  · skip
    refine XG.blk tX9_must_ok 7 2 (pc' := 17) (pl' := [some (.ref 0), some (.int (nI k))]) (st' := [(.int (nI 1)), (.ref 0)]) (W1 := (mW v a b)) (bs := []) rfl rfl rfl ?_
    refine XG.callV0 eX9_must_17 kl_X9_230 (con_fail (d - 1) v a b t h11 (by omega) (nI 1)) (px_fitS (by omega)) rfl rfl rfl (Nat.le_of_ble_eq_true rfl) (fun r9 W9 hp9 hl9 => ?_)
    obtain ⟨rfl, rfl⟩ := hp9
    refine XS.vret eX9_must_20 rfl ?_
    refine ⟨_, rfl, failV_chg, ?_, rfl⟩
    cases r with
    | inl e => rw [h.x]; exact h
    | inr s =>
      obtain rfl : s.1 = t := (nI_eq (by have := h.1; omega) (by omega)).mp (h.2.1.symm.trans h11)
      show PVr K (mstS K k s) _
      have hK := hT s.1 h.1 h.2.2.2.1
      have hne : ¬ K.1 s.1 = k := fun e => (one_ne.mp h5) ⟨h.2.2.1, by rw [hK.1, e]⟩
      unfold mstS mstN
      rw [if_neg hne]
      exact h.fail hT (Or.inl rfl)
  · skip
    refine XG.blk tX9_must_ok 4 1 (pc' := 9) (pl' := [some (.ref 0), some (.int (nI k))]) (st' := [(.ref 0)]) (W1 := (mW v a b)) (bs := []) rfl rfl rfl ?_
    refine XG.callV0 eX9_must_9 kl_X9_236 (con_goesOn (d - 1) v a b t h11 (by omega) (by omega)) (px_fitS (by omega)) rfl rfl rfl (Nat.le_of_ble_eq_true rfl) (fun r9 W9 hp9 hl9 => ?_)
    obtain ⟨rfl, rfl⟩ := hp9
    refine XG.goto eX9_must_12 (tgt := 20) (by decide) ?_
    refine XS.vret eX9_must_20 rfl ?_
    refine ⟨_, rfl, goV_chg, ?_, rfl⟩
    have h6 := Decidable.not_not.mp (fun z => h5 (one_ne.mpr z))
    cases r with
    | inl e => exact absurd h6.1 (by rw [h.2.1]; exact nI_nz (by have := h.1; omega) (by have := h.1; omega))
    | inr s =>
      obtain rfl : s.1 = t := (nI_eq (by have := h.1; omega) (by omega)).mp (h.2.1.symm.trans h11)
      show PVr K (mstS K k s) _
      have hK := hT s.1 h.1 h.2.2.2.1
      have he : K.1 s.1 = k := (nI_eq (by omega) (by omega)).mp (hK.1.symm.trans h6.2)
      unfold mstS mstN
      rw [if_pos he]
      exact h.go hT (by omega)
