/-! rows: how a night begins -/
theorem nbS_ne {dt r : Nat → Int32} {lv x k : Nat} (h1 : k ≠ x) (h2 : k ≠ 6 + x) : nbS dt lv x r k = r k := by
  unfold nbS; rw [upd_ne h2, upd_ne h1]
section NB
variable {dt r : Nat → Int32} {lv sl : Nat}
theorem nbs_ne (hn : sl ≤ 6) {k : Nat} (hk : 12 ≤ k) : itN (nbS dt lv) r sl k = r k := itN_keep sl r (fun i hi r => nbS_ne (by omega) (by omega))
theorem nb_ne (hn : sl ≤ 6) {k : Nat} (hk : 12 ≤ k) (h1 : k ≠ 28) (h2 : k ≠ 29) : nbF dt lv sl r k = r k := by
  unfold nbF; rw [upd_ne h2, upd_ne h1, nbs_ne hn hk]
theorem nb_28 : nbF dt lv sl r 28 = nI 0 := by unfold nbF; rw [upd_ne (by omega), upd_eq]
theorem nb_29 (hn : sl ≤ 6) : nbF dt lv sl r 29 = r 29 + nI 1 := by unfold nbF; rw [upd_eq, upd_ne (by omega), nbs_ne hn (by omega)]
theorem nb_d (hn : sl ≤ 6) {x : Nat} (hx : x < sl) : nbF dt lv sl r x = dt (6 * lv + x) := by
  unfold nbF
  rw [upd_ne (by omega), upd_ne (by omega), itN_at sl hx r (fun i hi hne r => nbS_ne (by omega) (by omega))]
  unfold nbS
  rw [upd_ne (by omega), upd_eq]
theorem nb_a (hn : sl ≤ 6) {x : Nat} (hx : x < sl) : nbF dt lv sl r (6 + x) = nI 0 := by
  unfold nbF
  rw [upd_ne (by omega), upd_ne (by omega), itN_at sl hx r (fun i hi hne r => nbS_ne (by omega) (by omega))]
  unfold nbS
  rw [upd_eq]
end NB
def nbX (S : SD) (tv : Nat → Int32) : Int32 := if nI 0 < tv 4 then nI (2 ^ S.1 24 - 1) &&& (nI 0 ^^^ (-1)) else nI 0
theorem mkN_true : ∀ n, mkN (fun _ => true) n = 2 ^ n - 1 := by
  intro n
  induction n with
  | zero => rfl
  | succ n ih =>
    show (if true = true then _ else _) = _
    rw [if_pos rfl, ih, Nat.pow_succ]
    have := Nat.pow_pos (n := n) (show 0 < 2 by decide)
    omega
theorem CNt.nb {S : SD} {lv : Nat} {a : Nat → Nat → Int32} {tv : Nat → Int32} {ta : Nat → Nat → Int32} (hX : CX S lv a tv ta) {R : Nat → Int32} {nv : Nat → Int32} {na : Nat → Nat → Int32} (h0 : nv 0 = nI 0) (h1 : nv 1 = R 29 + nI 1) (h2 : nv 2 = R 30) (h3 : nv 3 = R 31) (h4 : nv 4 = nbX S tv) (h5 : ∀ i, i < S.1 24 → na 5 i = ta 8 i ∧ na 6 i = R (12 + i)) (h6 : ∀ c, c < 5 → na 7 c = R (18 + c) ∧ na 8 c = R (23 + c)) : CNt S (nbF (a 25) lv (S.1 24) R) nv na := by
  have hsl := hX.sl.2
  refine ⟨h0.trans nb_28.symm, h1.trans (nb_29 hsl).symm, h2.trans (nb_ne hsl (by decide) (by decide) (by decide)).symm, h3.trans (nb_ne hsl (by decide) (by decide) (by decide)).symm, ?_, ?_, ?_⟩
  · rw [h4]
    unfold nbX
    rw [hX.dw.1]
    by_cases hlt : nI 0 < nI (S.1 35)
    · rw [if_pos hlt, Int32.and_comm, show nI 0 ^^^ (-1) = (-1 : Int32) from by decide, Int32.neg_one_and, ← mkN_true]
      congr 1
      refine mkN_congr _ (fun k hk => ?_)
      unfold slpB slp
      rw [nb_a hsl hk, nb_28]
      exact (decide_eq_true ⟨rfl, hlt⟩).symm
    · rw [if_neg hlt, mkN_0 (P := slpB (nbF (a 25) lv (S.1 24) R) (nI (S.1 35))) _ (fun k hk => by unfold slpB slp; rw [nb_28]; exact decide_eq_false (fun z => hlt z.2))]
  · intro i hi
    exact ⟨(h5 i hi).1.trans ((hX.slo hi).1.trans (nb_d hsl hi).symm), (h5 i hi).2.trans (nb_ne hsl (by omega) (by omega) (by omega)).symm⟩
  · intro c hc
    exact ⟨(h6 c hc).1.trans (nb_ne hsl (by omega) (by omega) (by omega)).symm, (h6 c hc).2.trans (nb_ne hsl (by omega) (by omega) (by omega)).symm⟩
/-! the first night -/
def bg0 (a : Nat → Nat → Int32) (lv sl : Nat) : Nat → Int32 := itN (fun c r => upd r (18 + c) (-2)) (itN (fun x r => upd r (12 + x) (a 28 (6 * lv + x))) (fun _ => nI 0) sl) 5
section BG
variable {a : Nat → Nat → Int32} {lv sl : Nat}
theorem bg0_z (hn : sl ≤ 6) {k : Nat} (hk : 23 ≤ k) : bg0 a lv sl k = nI 0 := by
  unfold bg0
  rw [itN_keep _ _ (fun i hi r => upd_ne (by omega)), itN_keep _ _ (fun i hi r => upd_ne (by omega))]
theorem bg0_l (hn : sl ≤ 6) {x : Nat} (hx : x < sl) : bg0 a lv sl (12 + x) = a 28 (6 * lv + x) := by
  unfold bg0
  rw [itN_keep _ _ (fun i hi r => upd_ne (by omega)), itN_at sl hx _ (fun i hi hne r => upd_ne (by omega)), upd_eq]
theorem bg0_w {c : Nat} (hc : c < 5) : bg0 a lv sl (18 + c) = -2 := by
  unfold bg0
  rw [itN_at 5 hc _ (fun i hi hne r => upd_ne (by omega)), upd_eq]
end BG
def XR (S : SD) (R : Nat → Int32) : Prop := ∀ c, S.1 31 ≤ c → c < 5 → R (18 + c) = -2 ∧ R (23 + c) = 0
theorem bgR_eq (a : Nat → Nat → Int32) (lv sl : Nat) : bgR a lv sl = nbF (a 25) lv sl (bg0 a lv sl) := rfl
theorem GR.bg {S : SD} (hs : shpS S) (a : Nat → Nat → Int32) (lv : Nat) : GR S 0 (bgR a lv (S.1 24)) ∧ XR S (bgR a lv (S.1 24)) := by
  have h6 := hs.1
  have h5 := hs.2.1
  refine ⟨⟨fun c hc => ?_, 0, Nat.le_refl _, ?_⟩, fun c hc hc5 => ⟨?_, ?_⟩⟩
  · rw [bgR_eq, nb_ne h6 (by omega) (by omega) (by omega), bg0_w (by omega)]; exact Or.inr (Or.inl rfl)
  · rw [bgR_eq, nb_28]
  · rw [bgR_eq, nb_ne h6 (by omega) (by omega) (by omega), bg0_w (by omega)]
  · rw [bgR_eq, nb_ne h6 (by omega) (by omega) (by omega), bg0_z h6 (by omega)]; rfl
/-! the next night -/
theorem ni_ne {c k : Nat} {r : Nat → Int32} (h : k ≠ 18 + c) : niF c r k = r k := by
  unfold niF
  split
  · rw [upd_ne h]
  · split
    · rfl
    · rw [upd_ne h]
abbrev niR (a : Nat → Nat → Int32) (lv sl cr : Nat) (R : Nat → Int32) : Nat → Int32 := itN niF (nbF (a 25) lv sl R) cr
theorem ni_5 {r : Nat → Int32} {n : Nat} (h : ∀ c, n ≤ c → c < 5 → r (18 + c) = -2) : ∀ m, n ≤ m → m ≤ 5 → itN niF r m = itN niF r n := by
  intro m
  induction m with
  | zero => intro h1 _; rw [show n = 0 by omega]
  | succ m ih =>
    intro h1 h2
    by_cases e : n = m + 1
    · rw [e]
    · show niF m (itN niF r m) = _
      have hk : itN niF r m (18 + m) = r (18 + m) := itN_keep m r (fun i hi r => ni_ne (by omega))
      rw [← ih (by omega) (by omega)]
      rw [h m (by omega) (by omega)] at hk
      unfold niF
      rw [show itN (fun c r => if r (18 + c) = nI 9 ∨ r (18 + c) = -3 then upd r (18 + c) (-2) else if r (18 + c) < 0 then r else upd r (18 + c) (nI 10)) r m = itN niF r m from rfl, hk, if_neg (by decide), if_pos (by decide)]
theorem ni_at {r : Nat → Int32} {c n : Nat} (hc : c < n) : itN niF r n (18 + c) = niF c (itN niF r c) (18 + c) ∧ itN niF r c (18 + c) = r (18 + c) := ⟨itN_at n hc r (fun i hi hne r => ni_ne (by omega)), itN_keep c r (fun i hi r => ni_ne (by omega))⟩
theorem GR.ni {S : SD} {H : Nat} {R : Nat → Int32} (hs : shpS S) (a : Nat → Nat → Int32) (lv : Nat) (h : GR S H R) (hx : XR S R) : GR S 0 (niR a lv (S.1 24) (S.1 31) R) ∧ XR S (niR a lv (S.1 24) (S.1 31) R) := by
  have h6 := hs.1
  have h5 := hs.2.1
  refine ⟨⟨fun c hc => ?_, 0, Nat.le_refl _, ?_⟩, fun c hc hc5 => ⟨?_, ?_⟩⟩
  · obtain ⟨e1, e2⟩ := ni_at (r := nbF (a 25) lv (S.1 24) R) hc
    unfold niR
    rw [e1]
    generalize itN niF (nbF (a 25) lv (S.1 24) R) c = r2 at e2 ⊢
    rw [nb_ne h6 (by omega) (by omega) (by omega)] at e2
    unfold niF
    split
    · rw [upd_eq]; exact Or.inr (Or.inl rfl)
    · split
      · rename_i h1 h2
        rw [e2] at h1 h2 ⊢
        rcases h.1 c hc with z | z | ⟨q, hq, z⟩ | z | z
        · exact absurd (Or.inr z) h1
        · exact Or.inr (Or.inl z)
        · exact Or.inr (Or.inr (Or.inl ⟨q, hq, z⟩))
        · exact absurd (Or.inl z) h1
        · exact Or.inr (Or.inr (Or.inr (Or.inr z)))
      · rw [upd_eq]; exact Or.inr (Or.inr (Or.inr (Or.inr rfl)))
  · rw [niR, itN_keep (k := 28) _ _ (fun i hi r => ni_ne (by omega)), nb_28]
  · rw [niR, itN_keep _ _ (fun i hi r => ni_ne (by omega)), nb_ne h6 (by omega) (by omega) (by omega)]; exact (hx c hc hc5).1
  · rw [niR, itN_keep _ _ (fun i hi r => ni_ne (by omega)), nb_ne h6 (by omega) (by omega) (by omega)]; exact (hx c hc hc5).2
theorem XR.hours {S : SD} {R : Nat → Int32} (hs : shpS S) (v0 : Nat → Int32) (a : Nat → Nat → Int32) (lv : Nat) (h : XR S R) : ∀ n, XR S (snR v0 a lv (S.1 23) (S.1 24) (S.1 31) R n) := by
  have h6 := hs.1
  have h5 := hs.2.1
  intro n
  induction n with
  | zero => exact h
  | succ n ih =>
    intro c hc hc5
    show hourF v0 a lv (S.1 23) (S.1 24) (S.1 31) (snR v0 a lv (S.1 23) (S.1 24) (S.1 31) R n) (18 + c) = _ ∧ hourF v0 a lv (S.1 23) (S.1 24) (S.1 31) (snR v0 a lv (S.1 23) (S.1 24) (S.1 31) R n) (23 + c) = _
    obtain ⟨i1, i2⟩ := ih c hc hc5
    unfold hourF
    constructor
    · rw [itN_keep _ _ (fun i hi r => by unfold outF; exact moves_ne _ (fun c2 hc2 => ⟨by omega, by omega, by omega⟩)), itN_keep _ _ (fun i hi r => brk_ne (fun c2 hc2 => by omega)), sleep_ne h6 (by omega) (by omega) (by omega)]; exact i1
    · rw [itN_keep _ _ (fun i hi r => by unfold outF; exact moves_ne _ (fun c2 hc2 => ⟨by omega, by omega, by omega⟩)), itN_keep _ _ (fun i hi r => brk_ne (fun c2 hc2 => by omega)), sleep_ne h6 (by omega) (by omega) (by omega)]; exact i2
theorem ov_5 {S : SD} {R : Nat → Int32} (hs : shpS S) (h : XR S R) : ∀ n, S.1 31 ≤ n → n ≤ 5 → ovA R n = ovA R (S.1 31) := by
  intro n
  induction n with
  | zero => intro h1 _; rw [show S.1 31 = 0 by omega]
  | succ n ih =>
    intro h1 h2
    by_cases e : S.1 31 = n + 1
    · rw [e]
    · show ovA R n + R (23 + n) = _
      rw [ih (by omega) (by omega), (h n (by omega) (by omega)).2]
      exact Int32.add_zero _
/-! nights on a shelf -/
def shv (f : Nat → Int32) (i : Nat) : Nat → Int32 := fun k => f (27 * i + k)
def sha (f : Nat → Int32) (i : Nat) : Nat → Nat → Int32 := fun q j => f (27 * i + (if q = 5 then 5 else if q = 6 then 11 else if q = 7 then 17 else 22) + j)
def NEq (nv : Nat → Int32) (na : Nat → Nat → Int32) (nv' : Nat → Int32) (na' : Nat → Nat → Int32) : Prop := (∀ k, k < 5 → nv' k = nv k) ∧ (∀ j, j < 6 → na' 5 j = na 5 j ∧ na' 6 j = na 6 j) ∧ ∀ j, j < 5 → na' 7 j = na 7 j ∧ na' 8 j = na 8 j
theorem CNt.eq {S : SD} {R : Nat → Int32} {nv nv' : Nat → Int32} {na na' : Nat → Nat → Int32} (h : CNt S R nv na) (hs : S.1 24 ≤ 6) (e : NEq nv na nv' na') : CNt S R nv' na' := by
  obtain ⟨h0, h1, h2, h3, h4, h5, h6⟩ := h
  refine ⟨(e.1 0 (by decide)).trans h0, (e.1 1 (by decide)).trans h1, (e.1 2 (by decide)).trans h2, (e.1 3 (by decide)).trans h3, (e.1 4 (by decide)).trans h4, ?_, ?_⟩
  · intro i hi
    exact ⟨(e.2.1 i (by omega)).1.trans (h5 i hi).1, (e.2.1 i (by omega)).2.trans (h5 i hi).2⟩
  · intro c hc
    exact ⟨(e.2.2 c hc).1.trans (h6 c hc).1, (e.2.2 c hc).2.trans (h6 c hc).2⟩
theorem CNt.row {S : SD} {R R' : Nat → Int32} {nv : Nat → Int32} {na : Nat → Nat → Int32} (h : CNt S R nv na) (e : ∀ k, k < 32 → R' k = R k) (hs : S.1 24 ≤ 6) : CNt S R' nv na := by
  obtain ⟨h0, h1, h2, h3, h4, h5, h6⟩ := h
  refine ⟨h0.trans (e 28 (by decide)).symm, h1.trans (e 29 (by decide)).symm, h2.trans (e 30 (by decide)).symm, h3.trans (e 31 (by decide)).symm, ?_, ?_, ?_⟩
  · rw [h4, mkN_congr (P := slpB R' (nI (S.1 35))) (Q := slpB R (nI (S.1 35))) _ (fun k hk => slp_row (e _ (by omega)) (e _ (by omega)))]
  · intro i hi
    exact ⟨(h5 i hi).1.trans (e _ (by omega)).symm, (h5 i hi).2.trans (e _ (by omega)).symm⟩
  · intro c hc
    exact ⟨(h6 c hc).1.trans (e _ (by omega)).symm, (h6 c hc).2.trans (e _ (by omega)).symm⟩
