/-! what is asked: the most that may be left, by the class and by the reference -/
theorem cB_s (P : Nat → Bool) (n : Nat) : cB P (n + 1) = if P n = true then cB P n + 1 else cB P n := rfl
def isM (f : Nat → Nat) (n m : Nat) : Prop := (∀ v, cB (fun j => decide (f j = v)) n ≤ m) ∧ (m = 0 ∨ ∃ v, cB (fun j => decide (f j = v)) n = m)
theorem isM.u {f : Nat → Nat} {n m m' : Nat} (h : isM f n m) (h' : isM f n m') : m = m' := by
  have h1 : m ≤ m' := by
    rcases h.2 with z | ⟨v, z⟩
    · omega
    · rw [← z]; exact h'.1 v
  have h2 : m' ≤ m := by
    rcases h'.2 with z | ⟨v, z⟩
    · omega
    · rw [← z]; exact h.1 v
  omega
theorem isM.map {f : Nat → Nat} {n m : Nat} (h : isM f n m) (g : Nat → Nat) (hg : ∀ i j, i < n → j < n → g (f i) = g (f j) → f i = f j) : isM (fun j => g (f j)) n m := by
  have key : ∀ i, i < n → cB (fun j => decide (g (f j) = g (f i))) n = cB (fun j => decide (f j = f i)) n := fun i hi => cB_congr n (fun j hj => decide_eq_decide.mpr ⟨fun z => hg j i hj hi z, fun z => by rw [z]⟩)
  refine ⟨fun v => ?_, ?_⟩
  · by_cases hx : ∃ i, i < n ∧ g (f i) = v
    · obtain ⟨i, hi, e⟩ := hx
      subst e
      rw [key i hi]; exact h.1 _
    · rw [cB_0.mpr (fun k hk => decide_eq_false (fun z => hx ⟨k, hk, z⟩))]; omega
  · rcases h.2 with z | ⟨v, z⟩
    · exact Or.inl z
    · by_cases hm : m = 0
      · exact Or.inl hm
      · refine Or.inr ?_
        by_cases hx : ∃ i, i < n ∧ f i = v
        · obtain ⟨i, hi, e⟩ := hx
          subst e
          exact ⟨g (f i), by rw [key i hi]; exact z⟩
        · rw [cB_0.mpr (fun k hk => decide_eq_false (fun w => hx ⟨k, hk, w⟩))] at z; omega
theorem isM.le {f : Nat → Nat} {n m : Nat} (h : isM f n m) : m ≤ n := by
  rcases h.2 with z | ⟨v, z⟩
  · omega
  · rw [← z]; exact cB_le _ _
theorem isM.cg {f g : Nat → Nat} {n m : Nat} (h : isM f n m) (e : ∀ j, j < n → g j = f j) : isM g n m := by
  have key : ∀ v, cB (fun j => decide (g j = v)) n = cB (fun j => decide (f j = v)) n := fun v => cB_congr n (fun j hj => by rw [e j hj])
  exact ⟨fun v => by rw [key]; exact h.1 v, h.2.imp id (fun ⟨v, z⟩ => ⟨v, by rw [key]; exact z⟩)⟩
theorem isM.const {f : Nat → Nat} {n m : Nat} (h : isM f n m) (v : Nat) (e : ∀ j, j < n → f j = v) : m = n := by
  have h1 : cB (fun j => decide (f j = v)) n = n := by
    have : ∀ k, (∀ j, j < k → f j = v) → cB (fun j => decide (f j = v)) k = k := by
      intro k
      induction k with
      | zero => intro _; rfl
      | succ k ih => intro hk; rw [cB_s, if_pos (decide_eq_true (hk k (Nat.lt_succ_self _))), ih (fun j hj => hk j (by omega))]
    exact this n e
  have h2 := h.1 v
  have h3 := h.le
  omega
theorem cB_lt {P : Nat → Bool} {k : Nat} (h : P k = false) : ∀ n, k < n → cB P n < n := by
  intro n
  induction n with
  | zero => intro h; omega
  | succ n ih =>
    intro hk
    rw [cB_s]
    by_cases e : k = n
    · subst e
      rw [if_neg (by rw [h]; decide)]
      have := cB_le P k
      omega
    · have := ih (by omega)
      split <;> omega
theorem isM.lt {f : Nat → Nat} {n m i j : Nat} (h : isM f n m) (hi : i < n) (hj : j < n) (hne : f i ≠ f j) : m < n := by
  rcases h.2 with z | ⟨v, z⟩
  · omega
  · rw [← z]
    by_cases e : f i = v
    · exact cB_lt (k := j) (decide_eq_false (fun w => hne (e.trans w.symm))) n hj
    · exact cB_lt (k := i) (decide_eq_false e) n hi
theorem isM.pos {f : Nat → Nat} {n m : Nat} (h : isM f n m) (hn : 0 < n) : 1 ≤ m := by
  have h1 := h.1 (f 0)
  have h2 := cB_pos (P := fun j => decide (f j = f 0)) (x := 0) (decide_eq_true rfl) n hn
  omega
theorem ml_isM {F : Nat → Int32} {f : Nat → Nat} (hF : ∀ j, F j = nI (f j) ∧ f j < 2 ^ 31) : ∀ n, n < 1000 → ∃ m, mlF F n = nI m ∧ isM f n m := by
  intro n
  induction n with
  | zero => intro _; exact ⟨0, rfl, fun v => Nat.le_refl _, Or.inl rfl⟩
  | succ n ih =>
    intro hn
    obtain ⟨m, h1, h2⟩ := ih (by omega)
    have hm := h2.le
    have ha : alk F n (n + 1) = nI (cB (fun j => decide (f j = f n)) (n + 1)) := by
      unfold alk
      rw [it_cB (P := fun j => decide (f j = f n)) (fun i hi s => ?_), nI_add, Nat.zero_add]
      have e : (F i = F n) ↔ f i = f n := by rw [(hF i).1, (hF n).1]; exact nI_eq (hF i).2 (hF n).2
      by_cases z : f i = f n
      · rw [if_pos (e.mpr z), if_pos (decide_eq_true z)]
      · rw [if_neg (fun w => z (e.mp w)), if_neg (by simpa using z)]
    have hc : cB (fun j => decide (f j = f n)) (n + 1) = cB (fun j => decide (f j = f n)) n + 1 := by rw [cB_s, if_pos (decide_eq_true rfl)]
    have hcl := cB_le (fun j => decide (f j = f n)) n
    have hcs : ∀ v, v ≠ f n → cB (fun j => decide (f j = v)) (n + 1) = cB (fun j => decide (f j = v)) n := fun v hv => by rw [cB_s, if_neg (by simpa using fun z => hv z.symm)]
    show ∃ m', mxF (mlF F n) (alk F n (n + 1)) = nI m' ∧ _
    rw [h1, ha, hc]
    unfold mxF
    by_cases hlt : m < cB (fun j => decide (f j = f n)) n + 1
    · rw [if_pos ((nI_ltI (by omega) (by omega)).mpr hlt)]
      refine ⟨_, rfl, fun v => ?_, Or.inr ⟨f n, hc⟩⟩
      by_cases e : v = f n
      · subst e; rw [hc]; exact Nat.le_refl _
      · rw [hcs v e]; have := h2.1 v; omega
    · rw [if_neg (fun z => hlt ((nI_ltI (by omega) (by omega)).mp z))]
      refine ⟨m, rfl, fun v => ?_, ?_⟩
      · by_cases e : v = f n
        · subst e; rw [hc]; omega
        · rw [hcs v e]; exact h2.1 v
      · rcases h2.2 with z | ⟨v, z⟩
        · omega
        · by_cases e : v = f n
          · subst e; omega
          · exact Or.inr ⟨v, by rw [hcs v e]; exact z⟩
/-! the reference's counts -/
theorem akI_at {a : Nat → Nat → Int32} {lv sl cr s p u : Nat} (hu : u < 1000) {f : Nat → Int32} : ∀ m, itN (akI a lv sl cr s) f m (1000 * p + u) = if p < m ∧ hb9 (akB a lv sl cr s p) = u then f (1000 * p + u) + nI 1 else f (1000 * p + u) := by
  intro m
  induction m with
  | zero => rw [if_neg (by omega)]; rfl
  | succ m ih =>
    show akI a lv sl cr s m (itN (akI a lv sl cr s) f m) (1000 * p + u) = _
    unfold akI
    rw [show (itN (fun p f => upd f (1000 * p + hb9 (akB a lv sl cr s p)) (f (1000 * p + hb9 (akB a lv sl cr s p)) + nI 1)) f m) = itN (akI a lv sl cr s) f m from rfl]
    have h9 := (hb9_eq (akB a lv sl cr s m)).1
    by_cases e : p = m ∧ hb9 (akB a lv sl cr s p) = u
    · obtain ⟨rfl, rfl⟩ := e
      rw [upd_eq, ih, if_neg (by omega), if_pos ⟨by omega, rfl⟩]
    · rw [upd_ne (fun z => e (by
        have hp : p = m := by omega
        exact ⟨hp, by rw [hp]; omega⟩)), ih]
      by_cases h : p < m ∧ hb9 (akB a lv sl cr s p) = u
      · rw [if_pos h, if_pos ⟨by omega, h.2⟩]
      · rw [if_neg h, if_neg (fun z => by
          by_cases hpm : p = m
          · exact e ⟨hpm, z.2⟩
          · exact h ⟨by omega, z.2⟩)]
theorem akF_at {a : Nat → Nat → Int32} {lv sp sl cr k p u : Nat} (hp : p < sp) (hp5 : p < 5) (hu : u < 1000) : ∀ n, itN (akF a lv sp sl cr k) (zF (a 72) 5000) n (1000 * p + u) = nI (cB (fun s => mbF (aQ a) lv sl cr (a 54) k (nI s) && decide (hb9 (akB a lv sl cr s p) = u)) n) := by
  intro n
  induction n with
  | zero => show zF (a 72) 5000 (1000 * p + u) = _; unfold zF; rw [if_pos (by omega)]; rfl
  | succ n ih =>
    show akF a lv sp sl cr k n (itN (akF a lv sp sl cr k) (zF (a 72) 5000) n) (1000 * p + u) = _
    rw [cB_s]
    unfold akF
    rw [show (itN (fun s f => if mbF (aQ a) lv sl cr (a 54) k (nI s) = true then itN (akI a lv sl cr s) f sp else f) (zF (a 72) 5000) n) = itN (akF a lv sp sl cr k) (zF (a 72) 5000) n from rfl]
    by_cases hb : mbF (aQ a) lv sl cr (a 54) k (nI n) = true
    · rw [if_pos hb, akI_at hu, ih, hb, Bool.true_and]
      by_cases h : hb9 (akB a lv sl cr n p) = u
      · rw [if_pos ⟨hp, h⟩, if_pos (decide_eq_true h), nI_add]
      · rw [if_neg (fun z => h z.2), if_neg (by simpa using h)]
    · rw [if_neg hb, ih, show mbF (aQ a) lv sl cr (a 54) k (nI n) = false by simpa using hb, Bool.false_and, if_neg (by decide)]
theorem akM_ex {f : Nat → Int32} {p : Nat} {c : Nat → Nat} (hf : ∀ u, u < 1000 → f (1000 * p + u) = nI (c u) ∧ c u < 2 ^ 31) : ∀ n, n ≤ 1000 → ∃ m, m < 2 ^ 31 ∧ akM f p n = nI m ∧ (∀ u, u < n → c u ≤ m) ∧ (m = 0 ∨ ∃ u, u < n ∧ c u = m) := by
  intro n
  induction n with
  | zero => intro _; exact ⟨0, by decide, rfl, fun u hu => absurd hu (Nat.not_lt_zero _), Or.inl rfl⟩
  | succ n ih =>
    intro hn
    obtain ⟨m, h0, h1, h2, h3⟩ := ih (by omega)
    obtain ⟨g1, g2⟩ := hf n (by omega)
    show ∃ m', m' < 2 ^ 31 ∧ (if f (1000 * p + n) ≤ akM f p n then akM f p n else f (1000 * p + n)) = nI m' ∧ _
    rw [h1, g1]
    by_cases hle : c n ≤ m
    · rw [if_pos ((nI_leI g2 h0).mpr hle)]
      refine ⟨m, h0, rfl, fun u hu => ?_, h3.imp id (fun ⟨u, z1, z2⟩ => ⟨u, by omega, z2⟩)⟩
      rcases (show u < n ∨ u = n by omega) with z | z
      · exact h2 u z
      · rw [z]; exact hle
    · rw [if_neg (fun z => hle ((nI_leI g2 h0).mp z))]
      refine ⟨c n, g2, rfl, fun u hu => ?_, Or.inr ⟨n, by omega, rfl⟩⟩
      rcases (show u < n ∨ u = n by omega) with z | z
      · have := h2 u z; omega
      · rw [z]; exact Nat.le_refl _
theorem sw_cB {a : Nat → Nat → Int32} {lv sl cr k : Nat} (g : Nat → Nat) (u : Nat) : ∀ N, cB (fun j => decide (g ((swL a lv sl cr k N).getD j 0) = u)) (swL a lv sl cr k N).length = cB (fun s => mbF (aQ a) lv sl cr (a 54) k (nI s) && decide (g s = u)) N := by
  intro N
  induction N with
  | zero => rfl
  | succ N ih =>
    rw [swL_s, cB_s]
    by_cases hb : mbF (aQ a) lv sl cr (a 54) k (nI N) = true
    · rw [if_pos hb, hb, Bool.true_and, List.length_append, show [N].length = 1 from rfl, cB_s, ← ih]
      have e1 : (swL a lv sl cr k N ++ [N]).getD (swL a lv sl cr k N).length 0 = N := by
        rw [List.getD_eq_getElem?_getD, List.getElem?_append_right (Nat.le_refl _), Nat.sub_self]; rfl
      rw [e1]
      have e2 : cB (fun j => decide (g ((swL a lv sl cr k N ++ [N]).getD j 0) = u)) (swL a lv sl cr k N).length = cB (fun j => decide (g ((swL a lv sl cr k N).getD j 0) = u)) (swL a lv sl cr k N).length := cB_congr _ (fun j hj => by rw [List.getD_eq_getElem?_getD, List.getElem?_append_left hj, ← List.getD_eq_getElem?_getD])
      rw [e2]
    · rw [if_neg hb, show mbF (aQ a) lv sl cr (a 54) k (nI N) = false by simpa using hb, Bool.false_and, if_neg (by decide), ih]
