/-! PARTS of a world, kept -/
theorem sub_ext {ro : List Nat} {W0 W1 : px_W} (hl : ro.length = W1.length) (hn : ro.Nodup) (h1 : ro.length ≤ 1000) (h : ∀ (i j : Nat) (c : px_E), ro[i]? = some j → W1[i]? = some c → W0[j]? = some (px_er (px_f ro) c)) : px_sub ro W0 W1 := by
  refine ⟨?_, hn, h1⟩
  apply List.ext_getElem?
  intro i
  rw [List.getElem?_map, List.getElem?_map]
  by_cases hi : i < ro.length
  · have e1 : ro[i]? = some ro[i] := List.getElem?_eq_getElem hi
    have e2 : W1[i]? = some (W1[i]'(by omega)) := List.getElem?_eq_getElem (by omega)
    rw [e1, e2]
    show some (W0[ro[i]]?) = some (some _)
    rw [h i _ _ e1 e2]
  · rw [List.getElem?_eq_none (by omega), List.getElem?_eq_none (by omega)]
    rfl
theorem sub_lt {ro : List Nat} {W0 W1 : px_W} (h : px_sub ro W0 W1) {i j : Nat} (hi : ro[i]? = some j) : j < W0.length := by
  have hl := px_sub_len h
  have hil := (List.getElem?_eq_some_iff.mp hi).1
  obtain ⟨j', g1, -, g3⟩ := px_sub_at h (List.getElem?_eq_getElem (show i < W1.length by omega))
  rw [hi] at g1
  cases g1
  exact (List.getElem?_eq_some_iff.mp g3).1
/-- behind a call the callee's part is its world -/
theorem sub_pt {ro : List Nat} {W0 W1 W1' : px_W} (h : px_sub ro W0 W1) (hl : W1'.length = W1.length) : px_sub ro (px_pt (px_f ro) ro W1' W0) W1' := by
  refine sub_ext ((px_sub_len h).trans hl.symm) h.2.1 h.2.2 (fun i j c hi hc => ?_)
  exact px_pt_in (px_f ro) ro W1' W0 i j c h.2.1 hi hc (sub_lt h hi)
/-- what is not of the callee's part stays -/
theorem sub_pt2 {ro ro2 : List Nat} {W0 W1 W2 : px_W} (h2 : px_sub ro2 W0 W2) (hd : ∀ j, j ∈ ro2 → j ∉ ro) : px_sub ro2 (px_pt (px_f ro) ro W1 W0) W2 := by
  refine sub_ext (px_sub_len h2) h2.2.1 h2.2.2 (fun i j c hi hc => ?_)
  rw [px_pt_out _ _ _ _ _ (hd j (List.mem_of_getElem? hi))]
  obtain ⟨j', g1, -, g3⟩ := px_sub_at h2 hc
  rw [hi] at g1
  cases g1
  exact g3
theorem sub_app {ro : List Nat} {W0 W1 : px_W} (h : px_sub ro W0 W1) (X : px_W) : px_sub ro (W0 ++ X) W1 := by
  refine sub_ext (px_sub_len h) h.2.1 h.2.2 (fun i j c hi hc => ?_)
  rw [List.getElem?_append_left (sub_lt h hi)]
  obtain ⟨j', g1, -, g3⟩ := px_sub_at h hc
  rw [hi] at g1
  cases g1
  exact g3
theorem er_er (f g : Nat → Nat) (c : px_E) : px_er f (px_er g c) = px_er (fun k => f (g k)) c := by
  cases c with
  | inl x => rfl
  | inr o =>
    show Sum.inr (o.1, (o.2.map (px_tr g)).map (px_tr f)) = Sum.inr (o.1, o.2.map (px_tr fun k => f (g k)))
    rw [List.map_map]
    congr 2
    apply List.map_congr_left
    intro v _
    exact px_tr_tr f g v
theorem er_congr {f g : Nat → Nat} {n : Nat} (h : ∀ k, k < n ∨ 1000 ≤ k → f k = g k) {c : px_E} (hc : px_nrE n c = true) : px_er f c = px_er g c := by
  cases c with
  | inl x => rfl
  | inr o =>
    show Sum.inr (o.1, o.2.map (px_tr f)) = Sum.inr (o.1, o.2.map (px_tr g))
    congr 2
    apply List.map_congr_left
    intro v hv
    have h1 := List.all_eq_true.mp hc v hv
    cases v with
    | ref k => show Value.ref (f k) = Value.ref (g k); rw [h k (by simpa [px_nr] using h1)]
    | _ => rfl
theorem er_id {n : Nat} {f : Nat → Nat} (h : ∀ k, k < n ∨ 1000 ≤ k → f k = k) {c : px_E} (hc : px_nrE n c = true) : px_er f c = c := by
  rw [er_congr (g := fun k => k) h hc]
  cases c with
  | inl x => rfl
  | inr o =>
    show Sum.inr (o.1, o.2.map (px_tr fun k => k)) = Sum.inr o
    rw [show (o.2.map (px_tr fun k => k)) = o.2 from by
      conv => rhs; rw [← List.map_id o.2]
      apply List.map_congr_left
      intro v _
      cases v <;> rfl]
theorem nodup_map9 {f : Nat → Nat} : ∀ {l : List Nat}, (∀ x, x ∈ l → ∀ y, y ∈ l → f x = f y → x = y) → l.Nodup → (l.map f).Nodup := by
  intro l
  induction l with
  | nil => intro _ _; exact List.nodup_nil
  | cons a l ih =>
    intro h hn
    rw [List.nodup_cons] at hn
    rw [List.map_cons, List.nodup_cons]
    refine ⟨fun hm => ?_, ih (fun x hx y hy e => h x (List.mem_cons_of_mem _ hx) y (List.mem_cons_of_mem _ hy) e) hn.2⟩
    obtain ⟨b, hb, e⟩ := List.mem_map.mp hm
    have := h b (List.mem_cons_of_mem _ hb) a (List.mem_cons_self ..) e
    subst this
    exact hn.1 hb
/-- a part of a part -/
theorem sub_sub {ro rp : List Nat} {W0 W1 W2 : px_W} (h : px_sub ro W0 W1) (h2 : px_sub rp W1 W2) (hw : px_wf W2 = true) : px_sub (rp.map (px_f ro)) W0 W2 := by
  have l1 := px_sub_len h
  have l2 := px_sub_len h2
  have hin : ∀ (i j : Nat), rp[i]? = some j → ro[j]? = some (px_f ro j) := by
    intro i j hi
    have hj := sub_lt h2 hi
    have e := List.getElem?_eq_getElem (show j < ro.length by omega)
    rw [e, px_f_at e (Nat.lt_of_lt_of_le (by omega) h.2.2)]
  have hkey : ∀ k, k < W2.length ∨ 1000 ≤ k → px_f ro (px_f rp k) = px_f (rp.map (px_f ro)) k := by
    intro k hk
    by_cases h1000 : 1000 ≤ k
    · rw [px_f_up _ h1000, px_f_up _ h1000, px_f_up _ h1000]
    · have hkl : k < rp.length := by omega
      have e := List.getElem?_eq_getElem hkl
      rw [px_f_at e (by omega)]
      refine (px_f_at ?_ (by omega)).symm
      rw [List.getElem?_map, e]
      rfl
  refine sub_ext (by rw [List.length_map]; exact l2) ?_ (by rw [List.length_map]; exact h2.2.2) (fun i j c hi hc => ?_)
  · refine nodup_map9 (fun x hx y hy e => ?_) h2.2.1
    obtain ⟨i, hi⟩ := List.getElem?_of_mem hx
    obtain ⟨j, hj⟩ := List.getElem?_of_mem hy
    have e1 := hin i x hi
    have e2 := hin j y hj
    rw [e] at e1
    exact (List.getElem?_inj (List.getElem?_eq_some_iff.mp e1).1 h.2.1).mp (e1.trans e2.symm)
  · rw [List.getElem?_map] at hi
    cases hr : rp[i]? with
    | none => rw [hr] at hi; cases hi
    | some j1 =>
      rw [hr] at hi
      have hi : px_f ro j1 = j := Option.some.inj hi
      obtain ⟨j2, g1, -, g3⟩ := px_sub_at h2 hc
      rw [hr] at g1
      cases g1
      obtain ⟨j3, g4, g5, g6⟩ := px_sub_at h g3
      rw [hi] at g5
      subst g5
      rw [g6, er_er]
      congr 1
      exact er_congr hkey (List.all_eq_true.mp hw _ (List.mem_of_getElem? hc))
theorem nrE_mono {n m : Nat} (h : n ≤ m) {c : px_E} (hc : px_nrE n c = true) : px_nrE m c = true := by
  cases c with
  | inl x => rfl
  | inr o =>
    refine List.all_eq_true.mpr (fun v hv => ?_)
    have h1 := List.all_eq_true.mp hc v hv
    cases v with
    | ref k =>
      have h2 : k < n ∨ 1000 ≤ k := by simpa [px_nr] using h1
      show (decide (k < m) || decide (1000 ≤ k)) = true
      rcases h2 with h2 | h2
      · simp [Nat.lt_of_lt_of_le h2 h]
      · simp [h2]
    | _ => rfl
theorem nrE_er {f : Nat → Nat} {n m : Nat} (h : ∀ k, k < n → f k < m) (hu : ∀ k, 1000 ≤ k → f k = k) {c : px_E} (hc : px_nrE n c = true) : px_nrE m (px_er f c) = true := by
  cases c with
  | inl x => rfl
  | inr o =>
    refine List.all_eq_true.mpr (fun v hv => ?_)
    obtain ⟨w, hw, rfl⟩ := List.mem_map.mp hv
    have h1 := List.all_eq_true.mp hc w hw
    cases w with
    | ref k =>
      have h2 : k < n ∨ 1000 ≤ k := by simpa [px_nr] using h1
      show (decide (f k < m) || decide (1000 ≤ f k)) = true
      rcases h2 with h2 | h2
      · simp [h k h2]
      · rw [hu k h2]; simp [h2]
    | _ => rfl
theorem wf_pt {ro : List Nat} {W0 W1 W1' : px_W} (h : px_sub ro W0 W1) (hl : W1'.length = W1.length) (hw : px_wf W0 = true) (hw1 : px_wf W1' = true) : px_wf (px_pt (px_f ro) ro W1' W0) = true := by
  unfold px_wf
  rw [px_pt_len]
  refine List.all_eq_true.mpr (fun c hc => ?_)
  obtain ⟨j, hj⟩ := List.getElem?_of_mem hc
  by_cases hm : j ∈ ro
  · obtain ⟨i, hi⟩ := List.getElem?_of_mem hm
    have hil := (List.getElem?_eq_some_iff.mp hi).1
    have l1 := px_sub_len h
    have e := List.getElem?_eq_getElem (show i < W1'.length by omega)
    rw [px_pt_in (px_f ro) ro W1' W0 i j _ h.2.1 hi e (sub_lt h hi)] at hj
    cases hj
    refine nrE_er (n := W1'.length) (fun k hk => ?_) (fun k hk => px_f_up ro hk) (List.all_eq_true.mp hw1 _ (List.getElem_mem _))
    have e2 := List.getElem?_eq_getElem (show k < ro.length by omega)
    rw [px_f_at e2 (Nat.lt_of_lt_of_le (by omega) h.2.2)]
    exact sub_lt h e2
  · rw [px_pt_out _ _ _ _ _ hm] at hj
    exact List.all_eq_true.mp hw _ (List.mem_of_getElem? hj)
theorem ptA_id (c : px_E) (W1' : px_W) (hl : 1 ≤ W1'.length) (h1000 : W1'.length ≤ 1000) (hw : px_wf W1' = true) : px_ptA [0] [c] W1' [c] = W1' := by
  unfold px_ptA
  have hf : ∀ k, k < W1'.length ∨ 1000 ≤ k → px_f (px_ro2 [0] [c].length [c].length W1'.length) k = k := by
    intro k hk
    by_cases h9 : 1000 ≤ k
    · exact px_f_up _ h9
    · refine px_f_at ?_ (by omega)
      unfold px_ro2
      cases k with
      | zero => rfl
      | succ k =>
        show ((List.range (W1'.length - 1)).map (fun i => 1 + i))[k]? = some (k + 1)
        rw [List.getElem?_map, List.getElem?_range (by omega)]
        show some (1 + k) = some (k + 1)
        rw [Nat.add_comm]
  cases W1' with
  | nil => exact absurd hl (by decide)
  | cons c0 T =>
    show [px_er _ c0] ++ T.map (px_er _) = c0 :: T
    rw [er_id hf (List.all_eq_true.mp hw _ (List.mem_cons_self ..))]
    show c0 :: T.map _ = c0 :: T
    congr 1
    conv => rhs; rw [← List.map_id T]
    apply List.map_congr_left
    intro x hx
    exact er_id hf (List.all_eq_true.mp hw _ (List.mem_cons_of_mem _ hx))
theorem px_pt1 (f : Nat → Nat) (V : px_W) (c c0 : px_E) (T : px_W) : px_pt f [V.length] (c0 :: T) (V ++ [c]) = V ++ [px_er f c0] := by
  show (V ++ [c]).set V.length (px_er f c0) = _
  rw [List.set_append_right _ _ (Nat.le_refl _), Nat.sub_self]
  rfl
/-- a thing made last: its cells stand behind the others -/
theorem sub_made {V : px_W} {c : px_E} {W1' : px_W} (hl : 1 ≤ W1'.length) (hn : V.length + W1'.length ≤ 1000) : px_ptA [V.length] [c] W1' (V ++ [c]) = V ++ W1'.map (px_er (px_f ((List.range W1'.length).map (fun i => V.length + i)))) ∧ px_sub ((List.range W1'.length).map (fun i => V.length + i)) (px_ptA [V.length] [c] W1' (V ++ [c])) W1' := by
  have e : px_ptA [V.length] [c] W1' (V ++ [c]) = V ++ W1'.map (px_er (px_f ((List.range W1'.length).map (fun i => V.length + i)))) := by
    unfold px_ptA
    cases W1' with
    | nil => exact absurd hl (by decide)
    | cons c0 T =>
      have e1 : px_ro2 [V.length] (V ++ [c]).length [c].length (c0 :: T).length = (List.range (T.length + 1)).map (fun i => V.length + i) := by
        unfold px_ro2
        rw [List.range_succ_eq_map, List.map_cons, List.map_map, List.length_append]
        show V.length :: ((List.range (T.length + 1 - 1)).map (fun i => V.length + 1 + i)) = V.length :: _
        rw [Nat.add_sub_cancel]
        congr 1
        apply List.map_congr_left
        intro i _
        show V.length + 1 + i = V.length + (i + 1)
        omega
      rw [e1, px_pt1]
      show (V ++ [px_er _ c0]) ++ T.map _ = V ++ (px_er _ c0 :: T.map _)
      rw [List.append_assoc]
      rfl
  refine ⟨e, ?_⟩
  rw [e]
  refine sub_ext (by rw [List.length_map, List.length_range]) ?_ (by rw [List.length_map, List.length_range]; omega) (fun i j c1 hi hc => ?_)
  · refine nodup_map9 (fun x _ y _ h => by omega) List.nodup_range
  · rw [List.getElem?_map] at hi
    have hil := (List.getElem?_eq_some_iff.mp hc).1
    rw [List.getElem?_range hil] at hi
    have hi : V.length + i = j := Option.some.inj hi
    subst hi
    rw [List.getElem?_append_right (by omega), Nat.add_sub_cancel_left, List.getElem?_map, hc]
    rfl
