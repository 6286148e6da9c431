/-! the step, as the machine goes it -/
section SOUND
variable {M : px_M} {G : px_G} {d pc nc ns : Nat} {post : Option Value → px_W → Prop} {pl pl' : px_L} {st st' : List Value} {W0 W1 : px_W} {a b : Nat} {v : Value} {bs : List Bool}
theorem px_hds {cA : FieldType → ClassId} {ad : Nat → Nat} {W0 : px_W} {z : Nat} {x : FieldType × vp_A} (h : W0[z]? = some (.inl x)) : (px_w cA ad W0)[z]? = some (ad z, .inl (cA x.1, x.2)) := px_w_at h
theorem px_hdo {cA : FieldType → ClassId} {ad : Nat → Nat} {W0 : px_W} {z : Nat} {o : Nat × List Value} (h : W0[z]? = some (.inr o)) : (px_w cA ad W0)[z]? = some (ad z, .inr (o.1, o.2.map (px_tr ad))) := px_w_at h
theorem px_t0 (cA : FieldType → ClassId) : (px_tys cA)[0]? = some (cA .int, .int) := rfl
theorem px_t1 (cA : FieldType → ClassId) : (px_tys cA)[1]? = some (cA .byte, .byte) := rfl
theorem px_t2 (cA : FieldType → ClassId) : (px_tys cA)[2]? = some (cA .boolean, .boolean) := rfl
theorem px_t3 (cA : FieldType → ClassId) : (px_tys cA)[3]? = some (cA .long, .long) := rfl
theorem px_ltN {ad : Nat → Nat} {n i : Nat} {pl : px_L} {ls : Array Slot} (hl : px_lr ad n pl ls) {w : Value} (h : pl[i]? = some (some w)) : i < n := by
  have h1 := hl.2 i w h
  rw [← hl.1.1]
  exact (Array.getElem?_eq_some_iff.mp h1).1
theorem px_zc_tr {ty : FieldType} {w : Value} (ad : Nat → Nat) (h : narrow ty w = w ∧ fits ty w = true) : narrow ty (px_tr ad w) = px_tr ad w ∧ fits ty (px_tr ad w) = true := by
  cases w with
  | ref x => cases ty <;> first | exact ⟨rfl, rfl⟩ | exact absurd h.2 (by simp [fits])
  | _ => exact h
/-- a place of the locals: in range -/
def px_lin (n : Nat) : Instr → Bool
  | .istore i => decide (i < n)
  | .istore_n i => decide ((i : Nat) < n)
  | .astore i => decide (i < n)
  | .astore_n i => decide ((i : Nat) < n)
  | .lstore i => decide (i + 1 < n)
  | .lstore_n i => decide ((i : Nat) + 1 < n)
  | _ => true
set_option maxHeartbeats 4000000 in
theorem XG.step {ins : Instr} (hd : decode M.2.1 pc = .ok (ins, px_len ins)) (hlin : px_lin M.2.2.1 ins = true) (hf : px_ok M.1.cls a b v ins) {q : px_R} (h : px1 a b v ins pl st W0 = some q) (hb : q.1.all id = true) (k : XG M G nc ns (pc + px_len ins) q.2.1 q.2.2.1 q.2.2.2) : XG M G nc ns pc pl st W0 := by
  intro p l e s m args below meth c D cA ad0 ad A n0 hC hXt hn H locs ls hP hD hS hl
  obtain ⟨hx, hcode, hml, hown, hts, hr, hlk, hmn, hK, hE⟩ := id hC
  have kk : ∀ (W1 : px_W), q.2.2.2 = W1 → W1.length = W0.length → ∀ (H : Heap) (locs : List Loc) (ls : Array Slot), va_P D vwCl (px_w cA ad W1) H → va_D A (px_w cA ad W1) → va_S A s.heap H locs → px_lr ad M.2.2.1 q.2.1 ls →
      W p l e G.1 s m args below meth c H locs nc ns (G.2.2.2 below args s D cA ad0 n0 A) (F0 m (pc + px_len ins) ls (q.2.2.1.map (px_tr ad))) := fun W1 e1 h1 H locs ls h2 h3 h4 h5 => k p l e s m args below meth c D cA ad0 ad A n0 hC hXt (by rw [e1, h1]; exact hn) H locs ls (by rw [e1]; exact h2) (by rw [e1]; exact h3) h4 h5
  clear k
  have hlen : ∀ (z : Nat) (x : px_E), (W0.set z x).length = W0.length := fun z x => List.length_set
  cases ins
  case iconst n => cases h; exact lv_iconst hx hcode hd rfl (kk _ rfl rfl _ _ _ hP hD hS hl)
  case bipush n => cases h; exact lv_bipush hx hcode hd rfl (kk _ rfl rfl _ _ _ hP hD hS hl)
  case sipush n => cases h; exact lv_sipush hx hcode hd rfl (kk _ rfl rfl _ _ _ hP hD hS hl)
  case lconst n => cases h; exact lv_lconst hx hcode hd rfl (kk _ rfl rfl _ _ _ hP hD hS hl)
  case ldc i =>
    obtain ⟨x, rfl, hw⟩ := hf
    cases h
    exact lv_ldc hx hcode hown (hts _ hw) hd (kk _ rfl rfl _ _ _ hP hD hS hl)
  case ldc_w i =>
    obtain ⟨x, rfl, hw⟩ := hf
    cases h
    exact lv_ldcw hx hcode hown (hts _ hw) hd (kk _ rfl rfl _ _ _ hP hD hS hl)
  case ldc2_w i =>
    obtain ⟨x, rfl, hw⟩ := hf
    cases h
    exact lv_ldc2 hx hcode hown (hts _ hw) hd (kk _ rfl rfl _ _ _ hP hD hS hl)
  case iload i =>
    obtain ⟨x, h1, rfl⟩ := px_ild_inv h
    exact lv_iload hx hcode hd (hl.2 _ _ h1) (kk _ rfl rfl _ _ _ hP hD hS hl)
  case iload_n i =>
    obtain ⟨x, h1, rfl⟩ := px_ild_inv h
    exact lv_iload_n hx hcode hd rfl (hl.2 _ _ h1) (kk _ rfl rfl _ _ _ hP hD hS hl)
  case lload i =>
    obtain ⟨x, h1, rfl⟩ := px_lld_inv h
    exact lv_lload hx hcode hd (hl.2 _ _ h1) (kk _ rfl rfl _ _ _ hP hD hS hl)
  case lload_n i =>
    obtain ⟨x, h1, rfl⟩ := px_lld_inv h
    exact lv_lload_n hx hcode hd rfl (hl.2 _ _ h1) (kk _ rfl rfl _ _ _ hP hD hS hl)
  case aload i =>
    obtain ⟨x, h1, rfl⟩ := px_ald_inv h
    exact lv_aload hx hcode hd (hl.2 _ _ h1) (kk _ rfl rfl _ _ _ hP hD hS hl)
  case aload_n i =>
    obtain ⟨x, h1, rfl⟩ := px_ald_inv h
    exact lv_aload_n hx hcode hd rfl (hl.2 _ _ h1) (kk _ rfl rfl _ _ _ hP hD hS hl)
  case istore i =>
    obtain ⟨x, r, rfl, rfl⟩ := px_ist_inv h
    exact lv_istore hx hcode hd (px_lr_has hl) (of_decide_eq_true hlin) rfl (fun ls' h' => kk _ rfl rfl _ _ _ hP hD hS (px_lr_s1 (v := .int x) h'))
  case istore_n i =>
    obtain ⟨x, r, rfl, rfl⟩ := px_ist_inv h
    exact lv_istore_n hx hcode hd rfl (px_lr_has hl) (of_decide_eq_true hlin) rfl (fun ls' h' => kk _ rfl rfl _ _ _ hP hD hS (px_lr_s1 (v := .int x) h'))
  case astore i =>
    obtain ⟨x, r, rfl, rfl⟩ := px_ast_inv h
    exact lv_astore hx hcode hd (px_lr_has hl) (of_decide_eq_true hlin) rfl (fun ls' h' => kk _ rfl rfl _ _ _ hP hD hS (px_lr_s1 (v := .ref x) h'))
  case astore_n i =>
    obtain ⟨x, r, rfl, rfl⟩ := px_ast_inv h
    exact lv_astore_n hx hcode hd rfl (px_lr_has hl) (of_decide_eq_true hlin) rfl (fun ls' h' => kk _ rfl rfl _ _ _ hP hD hS (px_lr_s1 (v := .ref x) h'))
  case lstore i =>
    obtain ⟨x, r, rfl, rfl⟩ := px_lst_inv h
    exact lv_lstore hx hcode hd (px_lr_has hl) (of_decide_eq_true hlin) rfl (fun ls' h' => kk _ rfl rfl _ _ _ hP hD hS (px_lr_s2 (v := .long x) h'))
  case lstore_n i =>
    obtain ⟨x, r, rfl, rfl⟩ := px_lst_inv h
    exact lv_lstore_n hx hcode hd rfl (px_lr_has hl) (of_decide_eq_true hlin) rfl (fun ls' h' => kk _ rfl rfl _ _ _ hP hD hS (px_lr_s2 (v := .long x) h'))
  case iinc i n =>
    obtain ⟨x, h1, rfl⟩ := px_iinc_inv h
    obtain ⟨j, hj⟩ := List.getElem?_of_mem (px_as_mem (ad := ad).mpr ⟨_, h1, rfl⟩)
    exact lv_iinc hx hcode hd (px_lr_has hl) hj rfl (px_ltN hl h1) rfl (fun ls' h' => kk _ rfl rfl _ _ _ hP hD hS (px_lr_s1 (v := .int (x + Int32.ofInt n)) h'))
  case iadd => obtain ⟨x, y, r, rfl, rfl⟩ := px_i2_inv h; exact lv_iadd hx hcode hd (kk _ rfl rfl _ _ _ hP hD hS hl)
  case isub => obtain ⟨x, y, r, rfl, rfl⟩ := px_i2_inv h; exact lv_isub hx hcode hd (kk _ rfl rfl _ _ _ hP hD hS hl)
  case imul => obtain ⟨x, y, r, rfl, rfl⟩ := px_i2_inv h; exact lv_imul hx hcode hd (kk _ rfl rfl _ _ _ hP hD hS hl)
  case iand => obtain ⟨x, y, r, rfl, rfl⟩ := px_i2_inv h; exact lv_iand hx hcode hd (kk _ rfl rfl _ _ _ hP hD hS hl)
  case ior => obtain ⟨x, y, r, rfl, rfl⟩ := px_i2_inv h; exact lv_ior hx hcode hd (kk _ rfl rfl _ _ _ hP hD hS hl)
  case ixor => obtain ⟨x, y, r, rfl, rfl⟩ := px_i2_inv h; exact lv_ixor hx hcode hd (kk _ rfl rfl _ _ _ hP hD hS hl)
  case ishl => obtain ⟨x, y, r, rfl, rfl⟩ := px_i2_inv h; exact lv_ishl hx hcode hd (kk _ rfl rfl _ _ _ hP hD hS hl)
  case ishr => obtain ⟨x, y, r, rfl, rfl⟩ := px_i2_inv h; exact lv_ishr hx hcode hd (kk _ rfl rfl _ _ _ hP hD hS hl)
  case iushr => obtain ⟨x, y, r, rfl, rfl⟩ := px_i2_inv h; exact lv_iushr hx hcode hd rfl (kk _ rfl rfl _ _ _ hP hD hS hl)
  case idiv =>
    obtain ⟨x, y, r, rfl, rfl⟩ := px_i2n_inv h
    exact lv_idiv hx hcode hd (by simpa using hb) (kk _ rfl rfl _ _ _ hP hD hS hl)
  case irem =>
    obtain ⟨x, y, r, rfl, rfl⟩ := px_i2n_inv h
    exact lv_irem hx hcode hd (by simpa using hb) (kk _ rfl rfl _ _ _ hP hD hS hl)
  case ineg => obtain ⟨x, r, rfl, rfl⟩ := px_i1_inv h; exact lv_ineg hx hcode hd (kk _ rfl rfl _ _ _ hP hD hS hl)
  case i2b => obtain ⟨x, r, rfl, rfl⟩ := px_i1_inv h; exact lv_i2b hx hcode hd rfl (kk _ rfl rfl _ _ _ hP hD hS hl)
  case i2c => obtain ⟨x, r, rfl, rfl⟩ := px_i1_inv h; exact lv_i2c hx hcode hd rfl (kk _ rfl rfl _ _ _ hP hD hS hl)
  case i2l =>
    have h : px_il pl st W0 = some q := h
    unfold px_il at h
    split at h
    · cases h; exact lv_i2l hx hcode hd rfl (kk _ rfl rfl _ _ _ hP hD hS hl)
    · cases h
  case l2i =>
    have h : px_li pl st W0 = some q := h
    unfold px_li at h
    split at h
    · cases h; exact lv_l2i hx hcode hd rfl (kk _ rfl rfl _ _ _ hP hD hS hl)
    · cases h
  case ladd => obtain ⟨x, y, r, rfl, rfl⟩ := px_l2_inv h; exact lv_ladd hx hcode hd (kk _ rfl rfl _ _ _ hP hD hS hl)
  case lmul => obtain ⟨x, y, r, rfl, rfl⟩ := px_l2_inv h; exact lv_lmul hx hcode hd (kk _ rfl rfl _ _ _ hP hD hS hl)
  case lor => obtain ⟨x, y, r, rfl, rfl⟩ := px_l2_inv h; exact lv_lor hx hcode hd (kk _ rfl rfl _ _ _ hP hD hS hl)
  case lshl =>
    have h : px_lsh pl st W0 = some q := h
    unfold px_lsh at h
    split at h
    · cases h; exact lv_lshl hx hcode hd rfl (kk _ rfl rfl _ _ _ hP hD hS hl)
    · cases h
  case lcmp =>
    have h : px_lcm pl st W0 = some q := h
    unfold px_lcm at h
    split at h
    · cases h; exact W.lcmp hx hcode hd (kk _ rfl rfl _ _ _ hP hD hS hl)
    · cases h
  case dup =>
    have h : px_dup pl st W0 = some q := h
    unfold px_dup at h
    split at h
    · cases h; exact lv_dup hx hcode hd rfl (kk _ rfl rfl _ _ _ hP hD hS hl)
    · cases h; exact lv_dup hx hcode hd rfl (kk _ rfl rfl _ _ _ hP hD hS hl)
    · cases h
  case dup2 =>
    have h : px_dup2 pl st W0 = some q := h
    unfold px_dup2 at h
    split at h
    · cases h; exact lv_dup2_11 hx hcode hd rfl rfl (kk _ rfl rfl _ _ _ hP hD hS hl)
    · cases h; exact lv_dup2_11 hx hcode hd rfl rfl (kk _ rfl rfl _ _ _ hP hD hS hl)
    · cases h
  case getfield i =>
    obtain ⟨z, r, fs, w, rfl, h1, h2, rfl⟩ := px_get_inv h
    obtain ⟨C, T, N, g1, g2, g3, g4⟩ := hf
    exact va_get hx hcode hts g3 hown hK hP z (px_hdo h1) g1 b g2 (hts _ g4) (fun _ h9 => h9) (v := px_tr ad w) (by rw [List.getElem?_map, h2]; rfl) hd (kk _ rfl rfl _ _ _ hP hD hS hl)
  case putfield i =>
    obtain ⟨w, z, r, fs, cs, rfl, h1, h2, h3, rfl⟩ := px_put_inv h
    obtain ⟨C, T, N, ty0, g1, g2, g3, g4, g5, g6, g7, g8⟩ := hf
    obtain ⟨n1, n2⟩ := px_zc_ok h2 hb g8
    have n3 := px_zc_tr ad ⟨n1, n2⟩
    refine va_put hx hcode hts g3 ty0 g5 g6 hown hK hP hD hS z (px_hdo h1) g1 b g2 (hts _ g4) (fun _ h9 => h9) g7 (g5 b g2) n3.1 n3.2 (by rw [List.length_map]; exact h3) hd (fun H1 locs1 q1 q2 q3 => ?_)
    have e1 : (px_w cA ad W0).set z (ad z, .inr (a, (fs.map (px_tr ad)).set b (px_tr ad w))) = px_w cA ad (W0.set z (.inr (a, fs.set b w))) := by
      rw [← px_w_set]
      show _ = (px_w cA ad W0).set z (ad z, .inr (a, (fs.set b w).map (px_tr ad)))
      rw [List.map_set]
    exact kk _ rfl (hlen _ _) _ _ _ (by rw [← e1]; exact q1) (by rw [← e1]; exact q2) q3 hl
  case iaload =>
    obtain ⟨i, z, r, n, f, rfl, h1, rfl⟩ := px_iald_inv h
    exact va_iald hx hcode hK hP z 0 (px_hds h1) (px_t0 cA) (px_vb_in (by simpa using hb)) hd (kk _ rfl rfl _ _ _ hP hD hS hl)
  case baload =>
    obtain ⟨i, z, r, n, f, ty, rfl, hty, h1, rfl⟩ := px_bald_inv h
    rcases hty with rfl | rfl
    · exact va_bald hx hcode hK hP z 1 (px_hds h1) (px_t1 cA) (px_vb_in (by simpa using hb)) hd (kk _ rfl rfl _ _ _ hP hD hS hl)
    · exact va_zald hx hcode hK hP z 2 (px_hds h1) (px_t2 cA) (px_vb_in (by simpa using hb)) hd (kk _ rfl rfl _ _ _ hP hD hS hl)
  case laload =>
    obtain ⟨i, z, r, n, f, rfl, h1, rfl⟩ := px_lald_inv h
    exact va_lald hx hcode hK hP z 3 (px_hds h1) (px_t3 cA) (px_vb_in (by simpa using hb)) hd (kk _ rfl rfl _ _ _ hP hD hS hl)
  case iastore =>
    obtain ⟨x, i, z, r, n, f, rfl, h1, rfl⟩ := px_iast_inv h
    exact va_iast hx hcode hK hP hD hS z 0 (px_hds h1) (px_t0 cA) (px_vb_in (by simpa using hb)) hd (fun H1 locs1 q1 q2 q3 => kk _ rfl (hlen _ _) _ _ _ (by rw [← px_w_set]; exact q1) (by rw [← px_w_set]; exact q2) q3 hl)
  case bastore =>
    obtain ⟨x, i, z, r, n, f, ty, rfl, hty, h1, rfl⟩ := px_bast_inv h
    rcases hty with rfl | rfl
    · exact va_bast hx hcode hK hP hD hS z 1 (px_hds h1) (px_t1 cA) (px_vb_in (by simpa using hb)) hd (fun H1 locs1 q1 q2 q3 => kk _ rfl (hlen _ _) _ _ _ (by rw [← px_w_set]; exact q1) (by rw [← px_w_set]; exact q2) q3 hl)
    · exact va_zast hx hcode hK hP hD hS z 2 (px_hds h1) (px_t2 cA) (px_vb_in (by simpa using hb)) hd (fun H1 locs1 q1 q2 q3 => kk _ rfl (hlen _ _) _ _ _ (by rw [← px_w_set]; exact q1) (by rw [← px_w_set]; exact q2) q3 hl)
  case lastore =>
    obtain ⟨x, i, z, r, n, f, rfl, h1, rfl⟩ := px_last_inv h
    exact va_last hx hcode hK hP hD hS z 3 (px_hds h1) (px_t3 cA) (px_vb_in (by simpa using hb)) hd (fun H1 locs1 q1 q2 q3 => kk _ rfl (hlen _ _) _ _ _ (by rw [← px_w_set]; exact q1) (by rw [← px_w_set]; exact q2) q3 hl)
  case arraylength =>
    obtain ⟨z, r, n, f, rfl, h1, rfl⟩ := px_alen_inv h
    exact va_alen hx hcode hK hP z 0 (px_hds h1) (px_t0 cA) rfl hd (kk _ rfl rfl _ _ _ hP hD hS hl)
  all_goals (exact absurd h (by intro h'; cases h'))
end SOUND
