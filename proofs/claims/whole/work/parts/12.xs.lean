/-! XS: from this state of the pure machine the method M comes to its end, with post of its answer and its world. -/
def px_str0 : String := "spans sleeper pair crosser holds wakes deepens dawn bonus seed if then else depth weight hour noise which span beside load wage"
def px_str1 : String := ";=+-*/<()"
def px_sbyt : List (List Int32) := [px_str0.toList.map (fun ch => Int32.ofNat ch.toNat), px_str1.toList.map (fun ch => Int32.ofNat ch.toNat)]
def px_slen : List Nat := px_sbyt.map List.length
/-- links to a nest mate's private members -/
def px_nst : List Cond := [.methodLinkNest RX8 53 yX1_init "SleepBridge", .methodLinkNest RX2 20 yX1_init "SleepBridge", .methodLinkNest RX4 98 yX8_within "SleepBridge", .methodLinkNest RX5 26 yX1_init "SleepBridge", .methodLinkNest RX7 45 yX0_init "SleepBridge"]
def px_Nst (U : State) : Prop := ∀ w ∈ px_nst, va_Nw w U
theorem px_Nst.warm {s U : State} (hW : s.WarmedH U.vm) (h : px_Nst s) : px_Nst U := by
  intro w hw
  have h1 := h w hw
  simp only [px_nst, List.mem_cons, List.not_mem_nil, or_false] at hw
  rcases hw with rfl | rfl | rfl | rfl | rfl <;> exact va_Nw.warmM hW h1
theorem px_Nst.same {u U : State} (hv : u.vm = U.vm) (h : px_Nst u) : px_Nst U := by
  intro w hw
  have h1 := h w hw
  simp only [px_nst, List.mem_cons, List.not_mem_nil, or_false] at hw
  rcases hw with rfl | rfl | rfl | rfl | rfl <;> exact va_tabs rfl hv h1
/-- places from 1000 on are no cells of the world: 1000 the law's script, 1001 and 1002 the String constants, 1003 and 1004 their bytes -/
def px_SZ (ad : Nat → Nat) (A : Nat → Prop) (U : State) (H : Heap) : Prop := vk_S 2 px_slen px_sbyt (fun i => ad (1001 + i)) (fun i => ad (1003 + i)) A U H ∧ va_Z "java/lang/String" "COMPACT_STRINGS" "Z" (.int 1) A U H ∧ (va_Z "jdk/internal/util/Preconditions" "SIOOBE_FORMATTER" "Ljava/util/function/BiFunction;" .null A U H ∨ va_Z "jdk/internal/util/Preconditions" "SIOOBE_FORMATTER" "Ljava/util/function/BiFunction;" (.ref (ad 1005)) A U H)
theorem px_SZ.moved {ad : Nat → Nat} {A : Nat → Prop} {u U : State} {H : Heap} (hvm : u.vm.Alike U.vm) (h : px_SZ ad A u H) : px_SZ ad A U H := ⟨vk_S.moved hvm h.1, va_Z.moved hvm h.2.1, h.2.2.imp (va_Z.moved hvm) (va_Z.moved hvm)⟩
theorem px_SZ.kept {ad : Nat → Nat} {A : Nat → Prop} {U : State} {H H1 : Heap} (h : px_SZ ad A U H) (hq : ∀ a : Nat, a < H.size → ¬ A a → H1[a]? = H[a]?) : px_SZ ad A U H1 := ⟨h.1.kept hq, h.2.1.kept hq, h.2.2.imp (fun z => z.kept hq) (fun z => z.kept hq)⟩
theorem px_SZ.narrow {ad : Nat → Nat} {A B : Nat → Prop} {U : State} {H : Heap} (h : px_SZ ad A U H) (hAB : ∀ q, B q → A q) : px_SZ ad B U H := ⟨h.1.narrow hAB, h.2.1.narrow hAB, h.2.2.imp (fun z => z.narrow hAB) (fun z => z.narrow hAB)⟩
theorem px_SZ.ad {ad ad' : Nat → Nat} {A : Nat → Prop} {U : State} {H : Heap} (e : ∀ k, 1000 ≤ k → ad' k = ad k) (h : px_SZ ad A U H) : px_SZ ad' A U H := by
  have e1 : (fun i => ad' (1001 + i)) = fun i => ad (1001 + i) := funext fun i => e _ (by omega)
  have e3 : (fun i => ad' (1003 + i)) = fun i => ad (1003 + i) := funext fun i => e _ (by omega)
  unfold px_SZ
  rw [e1, e3, e 1005 (by omega)]
  exact h
def px_E0 (ad : Nat → Nat) (A : Nat → Prop) (U : State) : Prop := px_SZ ad A U U.heap ∧ vk_R RX3 33 px_str0 (ad 1001) U ∧ vk_R RX3 109 px_str1 (ad 1002) U ∧ px_Nst U
def px_C (M : px_M) (p : Program) (s : State) (m : MethodId) (args : Array Value) (meth : Method) (c : Code) (D : va_G) (cA : FieldType → ClassId) (A : Nat → Prop) (ad : Nat → Nat) : Prop :=
  p.tables.exec = Jvm.exec ∧ c.code = M.2.1 ∧ c.maxLocals = M.2.2.1 ∧ s.vm.findClass M.1.cls = some m.cls ∧ (∀ w ∈ px_tbl, w.before args s = true) ∧ meth.sig.returnType = M.2.2.2 ∧ meth.locks = false ∧ meth.name = M.1.name ∧ va_K D vwCl (px_tys cA) s ∧ px_E0 ad A s ∧ (∀ q, s.heap.size ≤ q → A q)
def px_Q (D : va_G) (cA : FieldType → ClassId) (ad : Nat → Nat) (n0 : Nat) (A : Nat → Prop) (post : Option Value → px_W → Prop) : Array Value → State → Outcome → State → Prop := fun _ st o t =>
  ∃ (r : Option Value) (W' : px_W), post r W' ∧ W'.length = n0 ∧ o = .returned (r.map (px_tr ad)) ∧ va_P D vwCl (px_w cA ad W') t.heap ∧ va_F A st t
/-- a goal: the room; what else is known of the start; how the places' addresses now and at the start agree; the end -/
abbrev px_G : Type := Room × (State → (Nat → Prop) → (Nat → Nat) → Prop) × ((Nat → Nat) → (Nat → Nat) → Nat → Nat → Prop) × (List Frame → Array Value → State → va_G → (FieldType → ClassId) → (Nat → Nat) → Nat → (Nat → Prop) → State → Prop)
def XG (M : px_M) (G : px_G) (nc ns : Nat) (pc : Nat) (pl : px_L) (st : List Value) (W0 : px_W) : Prop :=
  ∀ (p : Program) (l : Launch) (e : Env) (s : State) (m : MethodId) (args : Array Value) (below : List Frame) (meth : Method) (c : Code) (D : va_G) (cA : FieldType → ClassId) (ad0 ad : Nat → Nat) (A : Nat → Prop) (n0 : Nat),
    px_C M p s m args meth c D cA A ad → G.2.1 s A ad → G.2.2.1 ad0 ad n0 W0.length → ∀ (H : Heap) (locs : List Loc) (ls : Array Slot), va_P D vwCl (px_w cA ad W0) H → va_D A (px_w cA ad W0) → va_S A s.heap H locs → px_lr ad M.2.2.1 pl ls →
      W p l e G.1 s m args below meth c H locs nc ns (G.2.2.2 below args s D cA ad0 n0 A) (F0 m pc ls (st.map (px_tr ad)))
def px_gS (d : Nat) (post : Option Value → px_W → Prop) : px_G := (px_room d 0 0, fun _ _ _ => True, fun ad0 ad n0 n => ad = ad0 ∧ n = n0, fun below args s D cA ad n0 A => MQ below (px_Q D cA ad n0 A post) args s 0 0 A)
abbrev XS (M : px_M) (d : Nat) (post : Option Value → px_W → Prop) (pc : Nat) (pl : px_L) (st : List Value) (W0 : px_W) : Prop := XG M (px_gS d post) 0 0 pc pl st W0
section STEP
variable {M : px_M} {d pc : Nat} {post : Option Value → px_W → Prop} {pl pl' : px_L} {st st' : List Value} {W0 W1 : px_W} {a b : Nat} {v : Value} {bs : List Bool}
theorem px_i2_inv {f : Int32 → Int32 → Int32} {q : px_R} (h : px_i2 f pl st W0 = some q) : ∃ x y r, st = .int y :: .int x :: r ∧ q = ([], pl, .int (f x y) :: r, W0) := by
  unfold px_i2 at h
  split at h
  · cases h; exact ⟨_, _, _, rfl, rfl⟩
  · cases h
theorem px_i2n_inv {f : Int32 → Int32 → Int32} {q : px_R} (h : px_i2n f pl st W0 = some q) : ∃ x y r, st = .int y :: .int x :: r ∧ q = ([!(y == 0)], pl, .int (f x y) :: r, W0) := by
  unfold px_i2n at h
  split at h
  · cases h; exact ⟨_, _, _, rfl, rfl⟩
  · cases h
theorem px_i1_inv {f : Int32 → Int32} {q : px_R} (h : px_i1 f pl st W0 = some q) : ∃ x r, st = .int x :: r ∧ q = ([], pl, .int (f x) :: r, W0) := by
  unfold px_i1 at h
  split at h
  · cases h; exact ⟨_, _, rfl, rfl⟩
  · cases h
theorem px_l2_inv {f : Int64 → Int64 → Int64} {q : px_R} (h : px_l2 f pl st W0 = some q) : ∃ x y r, st = .long y :: .long x :: r ∧ q = ([], pl, .long (f x y) :: r, W0) := by
  unfold px_l2 at h
  split at h
  · cases h; exact ⟨_, _, _, rfl, rfl⟩
  · cases h
theorem px_ild_inv {i : Nat} {q : px_R} (h : px_ild i pl st W0 = some q) : ∃ x, pl[i]? = some (some (.int x)) ∧ q = ([], pl, .int x :: st, W0) := by
  unfold px_ild at h
  split at h
  · cases h; exact ⟨_, by assumption, rfl⟩
  · cases h
theorem px_lld_inv {i : Nat} {q : px_R} (h : px_lld i pl st W0 = some q) : ∃ x, pl[i]? = some (some (.long x)) ∧ q = ([], pl, .long x :: st, W0) := by
  unfold px_lld at h
  split at h
  · cases h; exact ⟨_, by assumption, rfl⟩
  · cases h
theorem px_ald_inv {i : Nat} {q : px_R} (h : px_ald i pl st W0 = some q) : ∃ x, pl[i]? = some (some (.ref x)) ∧ q = ([], pl, .ref x :: st, W0) := by
  unfold px_ald at h
  split at h
  · cases h; exact ⟨_, by assumption, rfl⟩
  · cases h
theorem px_ist_inv {i : Nat} {q : px_R} (h : px_ist i pl st W0 = some q) : ∃ x r, st = .int x :: r ∧ q = ([], px_s1 pl i (.int x), r, W0) := by
  unfold px_ist at h
  split at h
  · cases h; exact ⟨_, _, rfl, rfl⟩
  · cases h
theorem px_ast_inv {i : Nat} {q : px_R} (h : px_ast i pl st W0 = some q) : ∃ x r, st = .ref x :: r ∧ q = ([], px_s1 pl i (.ref x), r, W0) := by
  unfold px_ast at h
  split at h
  · cases h; exact ⟨_, _, rfl, rfl⟩
  · cases h
theorem px_lst_inv {i : Nat} {q : px_R} (h : px_lst i pl st W0 = some q) : ∃ x r, st = .long x :: r ∧ q = ([], px_s2 pl i (.long x), r, W0) := by
  unfold px_lst at h
  split at h
  · cases h; exact ⟨_, _, rfl, rfl⟩
  · cases h
theorem px_iinc_inv {i : Nat} {n : Int} {q : px_R} (h : px_iinc i n pl st W0 = some q) : ∃ x, pl[i]? = some (some (.int x)) ∧ q = ([], px_s1 pl i (.int (x + Int32.ofInt n)), st, W0) := by
  unfold px_iinc at h
  split at h
  · cases h; exact ⟨_, by assumption, rfl⟩
  · cases h
theorem px_iald_inv {q : px_R} (h : px_iald pl st W0 = some q) : ∃ i z r n f, st = .int i :: .ref z :: r ∧ W0[z]? = some (.inl (.int, n, .inl f)) ∧ q = ([px_vb i n], pl, .int (f i.toNatClampNeg) :: r, W0) := by
  unfold px_iald at h
  split at h
  · split at h
    · cases h; exact ⟨_, _, _, _, _, rfl, by assumption, rfl⟩
    · cases h
  · cases h
theorem px_bald_inv {q : px_R} (h : px_bald pl st W0 = some q) : ∃ i z r n f ty, st = .int i :: .ref z :: r ∧ (ty = FieldType.byte ∨ ty = FieldType.boolean) ∧ W0[z]? = some (.inl (ty, n, .inl f)) ∧ q = ([px_vb i n], pl, .int (f i.toNatClampNeg) :: r, W0) := by
  unfold px_bald at h
  split at h
  · split at h
    · cases h; exact ⟨_, _, _, _, _, _, rfl, Or.inl rfl, by assumption, rfl⟩
    · cases h; exact ⟨_, _, _, _, _, _, rfl, Or.inr rfl, by assumption, rfl⟩
    · cases h
  · cases h
theorem px_lald_inv {q : px_R} (h : px_lald pl st W0 = some q) : ∃ i z r n f, st = .int i :: .ref z :: r ∧ W0[z]? = some (.inl (.long, n, .inr (.inl f))) ∧ q = ([px_vb i n], pl, .long (f i.toNatClampNeg) :: r, W0) := by
  unfold px_lald at h
  split at h
  · split at h
    · cases h; exact ⟨_, _, _, _, _, rfl, by assumption, rfl⟩
    · cases h
  · cases h
theorem px_iast_inv {q : px_R} (h : px_iast pl st W0 = some q) : ∃ x i z r n f, st = .int x :: .int i :: .ref z :: r ∧ W0[z]? = some (.inl (.int, n, .inl f)) ∧ q = ([px_vb i n], pl, r, W0.set z (.inl (.int, n, .inl (upd f i.toNatClampNeg x)))) := by
  unfold px_iast at h
  split at h
  · split at h
    · cases h; exact ⟨_, _, _, _, _, _, rfl, by assumption, rfl⟩
    · cases h
  · cases h
theorem px_bast_inv {q : px_R} (h : px_bast pl st W0 = some q) : ∃ x i z r n f ty, st = .int x :: .int i :: .ref z :: r ∧ (ty = FieldType.byte ∨ ty = FieldType.boolean) ∧ W0[z]? = some (.inl (ty, n, .inl f)) ∧ q = ([px_vb i n], pl, r, W0.set z (.inl (ty, n, .inl (upd f i.toNatClampNeg (vp_nar ty x))))) := by
  unfold px_bast at h
  split at h
  · split at h
    · cases h; exact ⟨_, _, _, _, _, _, _, rfl, Or.inl rfl, by assumption, rfl⟩
    · cases h; exact ⟨_, _, _, _, _, _, _, rfl, Or.inr rfl, by assumption, rfl⟩
    · cases h
  · cases h
theorem px_last_inv {q : px_R} (h : px_last pl st W0 = some q) : ∃ x i z r n f, st = .long x :: .int i :: .ref z :: r ∧ W0[z]? = some (.inl (.long, n, .inr (.inl f))) ∧ q = ([px_vb i n], pl, r, W0.set z (.inl (.long, n, .inr (.inl (vp_updL f i.toNatClampNeg x))))) := by
  unfold px_last at h
  split at h
  · split at h
    · cases h; exact ⟨_, _, _, _, _, _, rfl, by assumption, rfl⟩
    · cases h
  · cases h
theorem px_get_inv {q : px_R} (h : px_get a b pl st W0 = some q) : ∃ z r fs w, st = .ref z :: r ∧ W0[z]? = some (.inr (a, fs)) ∧ fs[b]? = some w ∧ q = ([], pl, w :: r, W0) := by
  unfold px_get at h
  split at h
  · split at h
    · split at h
      · split at h
        · rename_i hc; subst hc; cases h; exact ⟨_, _, _, _, rfl, by assumption, by assumption, rfl⟩
        · cases h
      · cases h
    · cases h
  · cases h
theorem px_put_inv {q : px_R} (h : px_put a b v pl st W0 = some q) : ∃ w z r fs cs, st = w :: .ref z :: r ∧ W0[z]? = some (.inr (a, fs)) ∧ px_zc v w = some cs ∧ b < fs.length ∧ q = (cs, pl, r, W0.set z (.inr (a, fs.set b w))) := by
  unfold px_put at h
  split at h
  · split at h
    · split at h
      · split at h
        · split at h
          · rename_i hc _; subst hc; cases h; exact ⟨_, _, _, _, _, rfl, by assumption, by assumption, by assumption, rfl⟩
          · cases h
        · cases h
      · cases h
    · cases h
  · cases h
theorem px_alen_inv {q : px_R} (h : px_alen pl st W0 = some q) : ∃ z r n f, st = .ref z :: r ∧ W0[z]? = some (.inl (.int, n, f)) ∧ q = ([], pl, .int (Int32.ofNat n) :: r, W0) := by
  unfold px_alen at h
  split at h
  · split at h
    · cases h; exact ⟨_, _, _, _, rfl, by assumption, rfl⟩
    · cases h
  · cases h
end STEP
