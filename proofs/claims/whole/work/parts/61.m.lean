/-! the reference: ask -/
def hb9 (x : Int32) : Nat := (heldF x (nI 0) (nI 999)).toNatClampNeg
theorem hb9_eq (x : Int32) : hb9 x ≤ 999 ∧ heldF x (nI 0) (nI 999) = nI (hb9 x) := by
  have h : nI 0 ≤ heldF x (nI 0) (nI 999) ∧ heldF x (nI 0) (nI 999) ≤ nI 999 := by
    unfold heldF
    split
    · exact ⟨Int32.le_refl _, by decide⟩
    · split
      · exact ⟨by decide, Int32.le_refl _⟩
      · exact ⟨Int32.not_lt.mp (by assumption), Int32.not_lt.mp (by assumption)⟩
  have hv : px_vb (heldF x (nI 0) (nI 999)) 1000 = true := (px_inR (n := 1000) (by decide) (by decide)).mp h
  obtain ⟨k, hk, e⟩ := px_vb_ex hv (by decide)
  unfold hb9
  rw [e, nI_clamp (by omega)]
  exact ⟨by omega, rfl⟩
theorem con_held9 (d : Nat) (x : Int32) : Con mX9_held d [.int x, .int (nI 0), .int (nI 999)] [] (fun r _ => r = some (.int (nI (hb9 x)))) := by
  have h := con_held d x (nI 0) (nI 999)
  rw [(hb9_eq x).2] at h
  exact h
theorem findN_congr {p q : Nat → Bool} : ∀ (n i : Nat), (∀ j, i ≤ j → j < i + n → p j = q j) → findN p n i = findN q n i := by
  intro n
  induction n with
  | zero => intro i _; rfl
  | succ n ih =>
    intro i h
    simp only [findN]
    rw [h i (Nat.le_refl _) (by omega), ih (i + 1) (fun j h1 h2 => h j (by omega) (by omega))]
theorem mbF_Q {v v9 : Nat → Int32} {a a9 : Nat → Nat → Int32} (h : Qs v v9 a a9) (lv sl cr : Nat) (r0 : Nat → Int32) (k : Nat) (s : Int32) : mbF a9 lv sl cr r0 k s = mbF (aQ a) lv sl cr r0 k s := by
  unfold mbF
  rw [findN_congr (q := mbP (aQ a) lv sl cr r0 s) k 0 (fun j _ _ => ?_)]
  unfold mbP bR
  rw [bears_chg (h.relS _), h.2 70 (by decide), h.2 71 (by decide)]
  rfl
theorem con_mbQ (d : Nat) (v v9 : Nat → Int32) (a a9 : Nat → Nat → Int32) (b : Nat → Nat → Int64) (hQ : Qs v v9 a a9) (lv sp sl cr : Nat) (I : MI v a lv sp sl cr) (hwf : wf3 a lv) (hS : SO (a 54) sl (a9 55)) (s : Int32) (k : Nat) (hk : k ≤ 20) (hd : 6 ≤ d) : Con mX9_mayBeAwake d [.ref 0, .int s, .int (nI k)] (mW v9 a9 b) (fun q W' => ∃ v' a', W' = mW v' a' b ∧ Qs v v' a a' ∧ a' 55 = saF (a 54) sl (s ^^^ (-1)) ∧ a' 72 = a9 72 ∧ q = some (.int (if mbF (aQ a) lv sl cr (a 54) k s = true then 1 else 0))) := by
  have h1 := con_mbK d v9 v9 a9 a9 b _ _ K.self lv sp sl cr (hQ.MI I) (hQ.w3 hwf) s k hk (a 54) hS hd
  rw [mbF_Q hQ] at h1
  refine h1.mono (fun r W' hp => ?_)
  obtain ⟨v', a', rfl, hk, rfl⟩ := hp
  exact ⟨v', a', rfl, hQ.tr (Qs.K hk), hk.2.2.1, hk.2.1 72 (by decide), rfl⟩
theorem con_bQ (d : Nat) (v v9 : Nat → Int32) (a a9 : Nat → Nat → Int32) (b : Nat → Nat → Int64) (hQ : Qs v v9 a a9) (R : Nat → Int32) (h55 : a9 55 = R) (lv sp sl cr : Nat) (I : MI v a lv sp sl cr) (hwf : wf3 a lv) (p : Int32) (hd : 5 ≤ d) : Con mX9_bearsNow d [.ref 0, .int p] (mW v9 a9 b) (fun q W' => ∃ v' a', W' = mW v' a' b ∧ Qs v v' a a' ∧ a' 55 = R ∧ a' 72 = a9 72 ∧ q = some (.int (bR (aQ a) lv sl cr R p))) := by
  have hK : K v9 a9 R (a9 60) v9 a9 := ⟨chg.rf, chg.rf, h55, rfl⟩
  have h1 := con_bK d v9 v9 a9 a9 b _ _ hK lv sp sl cr (hQ.MI I) (hQ.w3 hwf) p hd
  rw [show bR a9 lv sl cr R p = bR (aQ a) lv sl cr R p from bears_chg (hQ.relS R) lv sl cr p] at h1
  refine h1.mono (fun r W' hp => ?_)
  obtain ⟨v', a', rfl, hj, rfl⟩ := hp
  exact ⟨v', a', rfl, hQ.tr (Qs.J hj), (hj.2 55 (by decide)).trans h55, hj.2 72 (by decide), rfl⟩
def zF (f : Nat → Int32) (n : Nat) : Nat → Int32 := fun j => if j < n then nI 0 else f j
theorem zF_0 (f : Nat → Int32) : zF f 0 = f := by funext j; unfold zF; rw [if_neg (by omega)]
theorem zF_s (f : Nat → Int32) (n : Nat) : upd (zF f n) n (nI 0) = zF f (n + 1) := by
  funext j; simp only [zF, upd]
  by_cases e : j = n
  · rw [if_pos e, if_pos (by omega)]
  · rw [if_neg e]
    by_cases h : j < n
    · rw [if_pos h, if_pos (by omega)]
    · rw [if_neg h, if_neg (by omega)]
/-- what a span bears if the set s is awake -/
abbrev akB (a : Nat → Nat → Int32) (lv sl cr s p : Nat) : Int32 := bR (aQ a) lv sl cr (saF (a 54) sl (nI s ^^^ (-1))) (nI p)
def akI (a : Nat → Nat → Int32) (lv sl cr s : Nat) : Nat → (Nat → Int32) → (Nat → Int32) := fun p f => upd f (1000 * p + hb9 (akB a lv sl cr s p)) (f (1000 * p + hb9 (akB a lv sl cr s p)) + nI 1)
def akF (a : Nat → Nat → Int32) (lv sp sl cr k : Nat) : Nat → (Nat → Int32) → (Nat → Int32) := fun s f => if mbF (aQ a) lv sl cr (a 54) k (nI s) = true then itN (akI a lv sl cr s) f sp else f
def akM (f : Nat → Int32) (p : Nat) : Nat → Int32 := itN (fun u m => if f (1000 * p + u) ≤ m then m else f (1000 * p + u)) (nI 0)
def akE (f : Nat → Int32) : Nat → Int32 × Int32 → Int32 × Int32 := fun p s => if s.1 < 0 ∨ akM f p 1000 < s.2 then (nI p, akM f p 1000) else s
def akR (f : Nat → Int32) (sp : Nat) : Int32 := ofF (findN (fun p => decide (akM f p 1000 = 0)) sp 0) (fun _ => -2) (itN (akE f) (-2, nI 0) sp).1
def qAsk (a : Nat → Nat → Int32) (lv sp sl cr k : Nat) : Int32 := akR (itN (akF a lv sp sl cr k) (zF (a 72) 5000) (2 ^ sl)) sp
set_option maxHeartbeats 400000 in
theorem con_ask (d : Nat) (v : Nat → Int32) (a : Nat → Nat → Int32) (b : Nat → Nat → Int64) (lv sp sl cr : Nat) (I : MI v a lv sp sl cr) (hwf : wf3 a lv) (tn : Nat) (ht : v 69 = nI tn) (ht2 : tn ≤ 20) (p : Int32) (hd : 9 ≤ d) : Con mX9_ask d [.ref 0, .int p] (mW v a b) (fun r W' => ∃ v' a', W' = mW v' a' b ∧ Qs v v' a a' ∧ r = some (.int (if nI 0 ≤ p ∧ p ≤ nI tn then qAsk a lv sp sl cr p.toNatClampNeg else -1))) := by
  obtain ⟨hlv, hlv2, hsp, hsp1, hsp2, hsl, hsl2, hcr, hcr2⟩ := id I
  refine Con.of (by decide) (Nat.le_of_ble_eq_true rfl) ?_
  by_cases hok : nI 0 ≤ p ∧ p ≤ nI tn
  · simp only [if_pos hok]
    have hv : px_vb p (tn + 1) = true := (px_inR (n := tn + 1) (by omega) (by omega)).mp hok
    obtain ⟨k, hk, rfl⟩ := px_vb_ex hv (by omega)
    rw [nI_clamp (show k < 2 ^ 31 by omega)]
    have hpw := pow_le hsl2
    have q1 : (v 69) = (nI tn) := ht
    refine XG.blk tX9_ask_ok 0 4 (pc' := 6) (pl' := [some (.ref 0), some (.int (nI k)), none, none, none, none, none]) (st' := [(.int (v 69)), (.int (nI 0)), (.int (nI k))]) (W1 := (mW v a b)) (bs := []) rfl rfl rfl ?_
    simp only [q1]
    refine XG.callSp (r := some (.int (if (nI 0) ≤ (nI k) ∧ (nI k) ≤ (nI tn) then 1 else 0))) eX9_ask_6 kl_X9_331 (con_in (d - 1) (nI k) (nI 0) (nI tn)) (px_fitS (by omega)) rfl rfl rfl rfl (Nat.le_of_ble_eq_true rfl) ?_
    refine XG.br eX9_ask_9 (P := ¬ (if (nI 0) ≤ (nI k) ∧ (nI k) ≤ (nI tn) then 1 else 0) = 0) (r := []) rfl (tgt := 14) (by decide) (fun h9 => ?_) (fun h9 => ?_)
    · skip
      refine XG.blk tX9_ask_ok 8 1 (pc' := 15) (pl' := [some (.ref 0), some (.int (nI k)), none, none, none, none, none]) (st' := [(.ref 0)]) (W1 := (mW v a b)) (bs := []) rfl rfl rfl ?_
      refine XG.callV0 eX9_ask_15 kl_X9_400 (con_copQ (d - 1) v a b lv sp sl cr I) (px_fitS (by omega)) rfl rfl rfl (Nat.le_of_ble_eq_true rfl) (fun r9 W9 hp9 hl9 => ?_)
      obtain ⟨rfl, rfl⟩ := hp9
      refine XG.blk tX9_ask_ok 10 2 (pc' := 20) (pl' := [some (.ref 0), some (.int (nI k)), some (.int (nI 0)), none, none, none, none]) (st' := []) (W1 := (mW (vQ v a lv 0) (aQ a) b)) (bs := []) rfl rfl rfl ?_
      rw [show mW (vQ v a lv 0) (aQ a) b = mW (vQ v a lv 0) (va_up (aQ a) 72 (zF (a 72) 0)) b by rw [zF_0]; exact congrArg (fun z => mW (vQ v a lv 0) z b) (va_up_id (aQ a) 72).symm]
      refine px_for 5000 (fun i => XG mX9_ask _ 0 0 20 [some (.ref 0), some (.int (nI k)), some (.int (nI i)), none, none, none, none] [] (mW (vQ v a lv 0) (va_up (aQ a) 72 (zF (a 72) i)) b)) ?_ ?_ 0 (Nat.zero_le _)
      · skip
        refine XG.blk tX9_ask_ok 12 2 (pc' := 24) (pl' := [some (.ref 0), some (.int (nI k)), some (.int (nI 5000)), none, none, none, none]) (st' := [(.int (nI 5000)), (.int (nI 5000))]) (W1 := (mW (vQ v a lv 0) (va_up (aQ a) 72 (zF (a 72) 5000)) b)) (bs := []) rfl rfl rfl ?_
        refine XG.br eX9_ask_24 (P := (nI 5000) ≤ (nI 5000)) (r := []) rfl (tgt := 40) (by decide) (fun h24 => ?_) (fun h24 => ?_)
        · skip
          have g24 : 5000 ≤ 5000 := (nI_leI (a := 5000) (b := 5000) (by omega) (by omega)).mp h24
          refine XG.blk tX9_ask_ok 22 2 (pc' := 42) (pl' := [some (.ref 0), some (.int (nI k)), some (.int (nI 0)), none, none, none, none]) (st' := []) (W1 := (mW (vQ v a lv 0) (va_up (aQ a) 72 (zF (a 72) 5000)) b)) (bs := []) rfl rfl rfl ?_
          refine px_for (2 ^ sl) (fun s => ∀ (v9 : Nat → Int32) (a9 : Nat → Nat → Int32) (hQ9 : Qs v v9 a a9) (hSO : SO (a 54) sl (a9 55)) (h72 : a9 72 = (itN (akF a lv sp sl cr k) (zF (a 72) 5000) s)), XG mX9_ask _ 0 0 42 [some (.ref 0), some (.int (nI k)), some (.int (nI s)), none, none, none, none] [] (mW v9 a9 b)) ?_ ?_ 0 (Nat.zero_le _) _ _ ⟨(Qs.c (v := v) (a := a) (lv := lv) (q := 0) rfl rfl).1, (Qs.c (v := v) (a := a) (lv := lv) (q := 0) rfl rfl).2.tr (chg.up (by decide))⟩ SO.rf rfl
          · intro v9 a9 hQ9 hSO h72
            have I9 := hQ9.MI I
            obtain ⟨hlv9, -, hsp9, -, -, hsl9, -, hcr9, -⟩ := id I9
            obtain ⟨F9, hF9⟩ : ∃ z, z = (itN (akF a lv sp sl cr k) (zF (a 72) 5000) (2 ^ sl)) := ⟨_, rfl⟩
            rw [← hF9] at h72
            obtain ⟨RS, hRS⟩ : ∃ z, z = findN (fun p => decide (akM F9 p 1000 = 0)) sp 0 := ⟨_, rfl⟩
            have eQ : qAsk a lv sp sl cr k = ofF RS (fun _ => -2) (itN (akE F9) (-2, nI 0) sp).1 := by unfold qAsk akR; rw [← hF9, hRS]
            have q2 : (v9 18) = (nI lv) := hlv9
            have q3 : (nI lv).toNatClampNeg = lv := nI_clamp (by omega)
            have q4 : ((a9 24) lv) = (nI sl) := hsl9
            have q5 : ((nI 1) <<< ((nI sl) &&& 31)) = (nI (2 ^ sl)) := sh_pow hsl2
            refine XG.blk tX9_ask_ok 24 8 (pc' := 54) (pl' := [some (.ref 0), some (.int (nI k)), some (.int (nI (2 ^ sl))), none, none, none, none]) (st' := [(.int ((nI 1) <<< (((a9 24) (v9 18).toNatClampNeg) &&& 31))), (.int (nI (2 ^ sl)))]) (W1 := (mW v9 a9 b)) (bs := [px_vb (v9 18) 2]) rfl rfl (by (try simp only [q2, q3, q4, q5]); exact (px_all (px_vbN (by omega) (by decide)) rfl)) ?_
            simp only [q2, q3, q4, q5]
            refine XG.br eX9_ask_54 (P := (nI (2 ^ sl)) ≤ (nI (2 ^ sl))) (r := []) rfl (tgt := 120) (by decide) (fun h54 => ?_) (fun h54 => ?_)
            · skip
              have g54 : (2 ^ sl) ≤ (2 ^ sl) := (nI_leI (a := (2 ^ sl)) (b := (2 ^ sl)) (by omega) (by omega)).mp h54
              refine XG.blk tX9_ask_ok 68 6 (pc' := 128) (pl' := [some (.ref 0), some (.int (nI k)), some (.int (-2)), some (.int (nI 0)), some (.int (nI 0)), none, none]) (st' := []) (W1 := (mW v9 a9 b)) (bs := []) rfl rfl rfl ?_
              refine px_for sp (fun q => ∀ (hr : findN (fun p => decide (akM F9 p 1000 = 0)) (sp - q) q = RS), XG mX9_ask _ 0 0 128 [some (.ref 0), some (.int (nI k)), some (.int (itN (akE F9) (-2, nI 0) q).1), some (.int (itN (akE F9) (-2, nI 0) q).2), some (.int (nI q)), none, none] [] (mW v9 a9 b)) ?_ ?_ 0 (Nat.zero_le _) (by rw [Nat.sub_zero]; exact hRS.symm)
              · intro hr
                rw [Nat.sub_self] at hr
                have q6 : (v9 18) = (nI lv) := hlv9
                have q7 : (nI lv).toNatClampNeg = lv := nI_clamp (by omega)
                have q8 : ((a9 23) lv) = (nI sp) := hsp9
                refine XG.blk tX9_ask_ok 74 6 (pc' := 139) (pl' := [some (.ref 0), some (.int (nI k)), some (.int (itN (akE F9) (-2, nI 0) sp).1), some (.int (itN (akE F9) (-2, nI 0) sp).2), some (.int (nI sp)), none, none]) (st' := [(.int ((a9 23) (v9 18).toNatClampNeg)), (.int (nI sp))]) (W1 := (mW v9 a9 b)) (bs := [px_vb (v9 18) 2]) rfl rfl (by (try simp only [q6, q7, q8]); exact (px_all (px_vbN (by omega) (by decide)) rfl)) ?_
                simp only [q6, q7, q8]
                refine XG.br eX9_ask_139 (P := (nI sp) ≤ (nI sp)) (r := []) rfl (tgt := 230) (by decide) (fun h139 => ?_) (fun h139 => ?_)
                · skip
                  have g139 : sp ≤ sp := (nI_leI (a := sp) (b := sp) (by omega) (by omega)).mp h139
                  refine XG.blk tX9_ask_ok 125 1 (pc' := 231) (pl' := [some (.ref 0), some (.int (nI k)), some (.int (itN (akE F9) (-2, nI 0) sp).1), some (.int (itN (akE F9) (-2, nI 0) sp).2), some (.int (nI sp)), none, none]) (st' := [(.int (itN (akE F9) (-2, nI 0) sp).1)]) (W1 := (mW v9 a9 b)) (bs := []) rfl rfl rfl ?_
                  refine XS.iret eX9_ask_231 rfl rfl ?_
                  exact ⟨_, _, rfl, hQ9, by rw [eQ, ← hr] <;> rfl⟩
                · exfalso
                  have g139 : ¬ sp ≤ sp := (fun z => h139 ((nI_leI (a := sp) (b := sp) (by omega) (by omega)).mpr z))
                  omega
              · intro q hq ihq hr
                rw [show sp - q = (sp - (q + 1)) + 1 by omega] at hr
                simp only [findN] at hr
                have q9 : (v9 18) = (nI lv) := hlv9
                have q10 : (nI lv).toNatClampNeg = lv := nI_clamp (by omega)
                have q11 : ((a9 23) lv) = (nI sp) := hsp9
                refine XG.blk tX9_ask_ok 74 6 (pc' := 139) (pl' := [some (.ref 0), some (.int (nI k)), some (.int (itN (akE F9) (-2, nI 0) q).1), some (.int (itN (akE F9) (-2, nI 0) q).2), some (.int (nI q)), none, none]) (st' := [(.int ((a9 23) (v9 18).toNatClampNeg)), (.int (nI q))]) (W1 := (mW v9 a9 b)) (bs := [px_vb (v9 18) 2]) rfl rfl (by (try simp only [q9, q10, q11]); exact (px_all (px_vbN (by omega) (by decide)) rfl)) ?_
                simp only [q9, q10, q11]
                refine XG.br eX9_ask_139 (P := (nI sp) ≤ (nI q)) (r := []) rfl (tgt := 230) (by decide) (fun h139 => ?_) (fun h139 => ?_)
                · exfalso
                  have g139 : sp ≤ q := (nI_leI (a := sp) (b := q) (by omega) (by omega)).mp h139
                  omega
                · skip
                  have g139 : ¬ sp ≤ q := (fun z => h139 ((nI_leI (a := sp) (b := q) (by omega) (by omega)).mpr z))
                  refine XG.blk tX9_ask_ok 81 4 (pc' := 148) (pl' := [some (.ref 0), some (.int (nI k)), some (.int (itN (akE F9) (-2, nI 0) q).1), some (.int (itN (akE F9) (-2, nI 0) q).2), some (.int (nI q)), some (.int (nI 0)), some (.int (nI 0))]) (st' := []) (W1 := (mW v9 a9 b)) (bs := []) rfl rfl rfl ?_
                  refine px_for 1000 (fun u => XG mX9_ask _ 0 0 148 [some (.ref 0), some (.int (nI k)), some (.int (itN (akE F9) (-2, nI 0) q).1), some (.int (itN (akE F9) (-2, nI 0) q).2), some (.int (nI q)), some (.int (akM F9 q u)), some (.int (nI u))] [] (mW v9 a9 b)) ?_ ?_ 0 (Nat.zero_le _)
                  · skip
                    refine XG.blk tX9_ask_ok 85 2 (pc' := 153) (pl' := [some (.ref 0), some (.int (nI k)), some (.int (itN (akE F9) (-2, nI 0) q).1), some (.int (itN (akE F9) (-2, nI 0) q).2), some (.int (nI q)), some (.int (akM F9 q 1000)), some (.int (nI 1000))]) (st' := [(.int (nI 1000)), (.int (nI 1000))]) (W1 := (mW v9 a9 b)) (bs := []) rfl rfl rfl ?_
                    refine XG.br eX9_ask_153 (P := (nI 1000) ≤ (nI 1000)) (r := []) rfl (tgt := 197) (by decide) (fun h153 => ?_) (fun h153 => ?_)
                    · skip
                      have g153 : 1000 ≤ 1000 := (nI_leI (a := 1000) (b := 1000) (by omega) (by omega)).mp h153
                      refine XG.blk tX9_ask_ok 109 1 (pc' := 199) (pl' := [some (.ref 0), some (.int (nI k)), some (.int (itN (akE F9) (-2, nI 0) q).1), some (.int (itN (akE F9) (-2, nI 0) q).2), some (.int (nI q)), some (.int (akM F9 q 1000)), some (.int (nI 1000))]) (st' := [(.int (akM F9 q 1000))]) (W1 := (mW v9 a9 b)) (bs := []) rfl rfl rfl ?_
                      refine XG.br eX9_ask_199 (P := ¬ (akM F9 q 1000) = 0) (r := []) rfl (tgt := 205) (by decide) (fun h199 => ?_) (fun h199 => ?_)
                      · skip
                        refine XG.blk tX9_ask_ok 113 1 (pc' := 206) (pl' := [some (.ref 0), some (.int (nI k)), some (.int (itN (akE F9) (-2, nI 0) q).1), some (.int (itN (akE F9) (-2, nI 0) q).2), some (.int (nI q)), some (.int (akM F9 q 1000)), some (.int (nI 1000))]) (st' := [(.int (itN (akE F9) (-2, nI 0) q).1)]) (W1 := (mW v9 a9 b)) (bs := []) rfl rfl rfl ?_
                        refine XG.br eX9_ask_206 (P := (itN (akE F9) (-2, nI 0) q).1 < 0) (r := []) rfl (tgt := 218) (by decide) (fun h206 => ?_) (fun h206 => ?_)
                        · skip
                          have q12 : ((nI q) + (nI 1)) = (nI (q + 1)) := px_eadd rfl rfl
                          refine XG.blk tX9_ask_ok 119 5 (pc' := 227) (pl' := [some (.ref 0), some (.int (nI k)), some (.int (nI q)), some (.int (akM F9 q 1000)), some (.int ((nI q) + (nI 1))), some (.int (akM F9 q 1000)), some (.int (nI 1000))]) (st' := []) (W1 := (mW v9 a9 b)) (bs := []) rfl rfl rfl ?_
                          simp only [q12]
                          refine XG.goto eX9_ask_227 (tgt := 128) (by decide) ?_
                          rw [show (itN (akE F9) (-2, nI 0) (q + 1)) = (nI q, (akM F9 q 1000)) from if_pos (Or.inl h206)] at ihq
                          rw [if_neg (show ¬ (fun p => decide (akM F9 p 1000 = 0)) q = true from fun z => h199 (of_decide_eq_true z))] at hr
                          try dsimp only at ihq
                          refine XG.weak (pl' := [some (.ref 0), some (.int (nI k)), some (.int (nI q)), some (.int (akM F9 q 1000)), some (.int (nI (q + 1))), none, none]) ⟨rfl, rfl, rfl, rfl, rfl, trivial⟩ ?_
                          exact ihq hr
                        · skip
                          refine XG.blk tX9_ask_ok 115 2 (pc' := 212) (pl' := [some (.ref 0), some (.int (nI k)), some (.int (itN (akE F9) (-2, nI 0) q).1), some (.int (itN (akE F9) (-2, nI 0) q).2), some (.int (nI q)), some (.int (akM F9 q 1000)), some (.int (nI 1000))]) (st' := [(.int (itN (akE F9) (-2, nI 0) q).2), (.int (akM F9 q 1000))]) (W1 := (mW v9 a9 b)) (bs := []) rfl rfl rfl ?_
                          refine XG.br eX9_ask_212 (P := (akM F9 q 1000) < (itN (akE F9) (-2, nI 0) q).2) (r := []) rfl (tgt := 218) (by decide) (fun h212 => ?_) (fun h212 => ?_)
                          · skip
                            have q13 : ((nI q) + (nI 1)) = (nI (q + 1)) := px_eadd rfl rfl
                            refine XG.blk tX9_ask_ok 119 5 (pc' := 227) (pl' := [some (.ref 0), some (.int (nI k)), some (.int (nI q)), some (.int (akM F9 q 1000)), some (.int ((nI q) + (nI 1))), some (.int (akM F9 q 1000)), some (.int (nI 1000))]) (st' := []) (W1 := (mW v9 a9 b)) (bs := []) rfl rfl rfl ?_
                            simp only [q13]
                            refine XG.goto eX9_ask_227 (tgt := 128) (by decide) ?_
                            rw [show (itN (akE F9) (-2, nI 0) (q + 1)) = (nI q, (akM F9 q 1000)) from if_pos (Or.inr h212)] at ihq
                            rw [if_neg (show ¬ (fun p => decide (akM F9 p 1000 = 0)) q = true from fun z => h199 (of_decide_eq_true z))] at hr
                            try dsimp only at ihq
                            refine XG.weak (pl' := [some (.ref 0), some (.int (nI k)), some (.int (nI q)), some (.int (akM F9 q 1000)), some (.int (nI (q + 1))), none, none]) ⟨rfl, rfl, rfl, rfl, rfl, trivial⟩ ?_
                            exact ihq hr
                          · skip
                            refine XG.goto eX9_ask_215 (tgt := 224) (by decide) ?_
                            have q14 : ((nI q) + (nI 1)) = (nI (q + 1)) := px_eadd rfl rfl
                            refine XG.blk tX9_ask_ok 123 1 (pc' := 227) (pl' := [some (.ref 0), some (.int (nI k)), some (.int (itN (akE F9) (-2, nI 0) q).1), some (.int (itN (akE F9) (-2, nI 0) q).2), some (.int ((nI q) + (nI 1))), some (.int (akM F9 q 1000)), some (.int (nI 1000))]) (st' := []) (W1 := (mW v9 a9 b)) (bs := []) rfl rfl rfl ?_
                            simp only [q14]
                            refine XG.goto eX9_ask_227 (tgt := 128) (by decide) ?_
                            rw [show (itN (akE F9) (-2, nI 0) (q + 1)) = (itN (akE F9) (-2, nI 0) q) from if_neg (fun hc => hc.elim h206 h212)] at ihq
                            rw [if_neg (show ¬ (fun p => decide (akM F9 p 1000 = 0)) q = true from fun z => h199 (of_decide_eq_true z))] at hr
                            try dsimp only at ihq
                            refine XG.weak (pl' := [some (.ref 0), some (.int (nI k)), some (.int (itN (akE F9) (-2, nI 0) q).1), some (.int (itN (akE F9) (-2, nI 0) q).2), some (.int (nI (q + 1))), none, none]) ⟨rfl, rfl, rfl, rfl, rfl, trivial⟩ ?_
                            exact ihq hr
                      · skip
                        have h199 := Decidable.not_not.mp h199
                        refine XG.blk tX9_ask_ok 111 1 (pc' := 204) (pl' := [some (.ref 0), some (.int (nI k)), some (.int (itN (akE F9) (-2, nI 0) q).1), some (.int (itN (akE F9) (-2, nI 0) q).2), some (.int (nI q)), some (.int (akM F9 q 1000)), some (.int (nI 1000))]) (st' := [(.int (-2))]) (W1 := (mW v9 a9 b)) (bs := []) rfl rfl rfl ?_
                        refine XS.iret eX9_ask_204 rfl rfl ?_
                        exact ⟨_, _, rfl, hQ9, by rw [if_pos (show (fun p => decide (akM F9 p 1000 = 0)) q = true from decide_eq_true h199)] at hr; rw [eQ, ← hr] <;> rfl⟩
                    · exfalso
                      have g153 : ¬ 1000 ≤ 1000 := (fun z => h153 ((nI_leI (a := 1000) (b := 1000) (by omega) (by omega)).mpr z))
                      omega
                  · intro u hu ihu
                    refine XG.blk tX9_ask_ok 85 2 (pc' := 153) (pl' := [some (.ref 0), some (.int (nI k)), some (.int (itN (akE F9) (-2, nI 0) q).1), some (.int (itN (akE F9) (-2, nI 0) q).2), some (.int (nI q)), some (.int (akM F9 q u)), some (.int (nI u))]) (st' := [(.int (nI 1000)), (.int (nI u))]) (W1 := (mW v9 a9 b)) (bs := []) rfl rfl rfl ?_
                    refine XG.br eX9_ask_153 (P := (nI 1000) ≤ (nI u)) (r := []) rfl (tgt := 197) (by decide) (fun h153 => ?_) (fun h153 => ?_)
                    · exfalso
                      have g153 : 1000 ≤ u := (nI_leI (a := 1000) (b := u) (by omega) (by omega)).mp h153
                      omega
                    · skip
                      have g153 : ¬ 1000 ≤ u := (fun z => h153 ((nI_leI (a := 1000) (b := u) (by omega) (by omega)).mpr z))
                      have q15 : ((nI 1000) * (nI q)) = (nI (1000 * q)) := px_emul rfl rfl
                      have q16 : ((nI (1000 * q)) + (nI u)) = (nI ((1000 * q) + u)) := px_eadd rfl rfl
                      have q17 : (a9 72) = F9 := h72
                      have q18 : (nI ((1000 * q) + u)).toNatClampNeg = ((1000 * q) + u) := nI_clamp (by omega)
                      refine XG.blk tX9_ask_ok 88 9 (pc' := 172) (pl' := [some (.ref 0), some (.int (nI k)), some (.int (itN (akE F9) (-2, nI 0) q).1), some (.int (itN (akE F9) (-2, nI 0) q).2), some (.int (nI q)), some (.int (akM F9 q u)), some (.int (nI u))]) (st' := [(.int (akM F9 q u)), (.int ((a9 72) (((nI 1000) * (nI q)) + (nI u)).toNatClampNeg))]) (W1 := (mW v9 a9 b)) (bs := [px_vb (((nI 1000) * (nI q)) + (nI u)) 5000]) rfl rfl (by (try simp only [q15, q16, q17, q18]); exact (px_all (px_vbN (by omega) (by decide)) rfl)) ?_
                      simp only [q15, q16, q17, q18]
                      refine XG.br eX9_ask_172 (P := (F9 ((1000 * q) + u)) ≤ (akM F9 q u)) (r := []) rfl (tgt := 191) (by decide) (fun h172 => ?_) (fun h172 => ?_)
                      · skip
                        have q19 : ((nI u) + (nI 1)) = (nI (u + 1)) := px_eadd rfl rfl
                        refine XG.blk tX9_ask_ok 107 1 (pc' := 194) (pl' := [some (.ref 0), some (.int (nI k)), some (.int (itN (akE F9) (-2, nI 0) q).1), some (.int (itN (akE F9) (-2, nI 0) q).2), some (.int (nI q)), some (.int (akM F9 q u)), some (.int ((nI u) + (nI 1)))]) (st' := []) (W1 := (mW v9 a9 b)) (bs := []) rfl rfl rfl ?_
                        simp only [q19]
                        refine XG.goto eX9_ask_194 (tgt := 148) (by decide) ?_
                        rw [show (akM F9 q (u + 1)) = (akM F9 q u) from if_pos h172] at ihu
                        exact ihu
                      · skip
                        have q20 : ((nI 1000) * (nI q)) = (nI (1000 * q)) := px_emul rfl rfl
                        have q21 : ((nI (1000 * q)) + (nI u)) = (nI ((1000 * q) + u)) := px_eadd rfl rfl
                        have q22 : (a9 72) = F9 := h72
                        have q23 : (nI ((1000 * q) + u)).toNatClampNeg = ((1000 * q) + u) := nI_clamp (by omega)
                        have q24 : ((nI u) + (nI 1)) = (nI (u + 1)) := px_eadd rfl rfl
                        refine XG.blk tX9_ask_ok 98 10 (pc' := 194) (pl' := [some (.ref 0), some (.int (nI k)), some (.int (itN (akE F9) (-2, nI 0) q).1), some (.int (itN (akE F9) (-2, nI 0) q).2), some (.int (nI q)), some (.int ((a9 72) (((nI 1000) * (nI q)) + (nI u)).toNatClampNeg)), some (.int ((nI u) + (nI 1)))]) (st' := []) (W1 := (mW v9 a9 b)) (bs := [px_vb (((nI 1000) * (nI q)) + (nI u)) 5000]) rfl rfl (by (try simp only [q20, q21, q22, q23, q24]); exact (px_all (px_vbN (by omega) (by decide)) rfl)) ?_
                        simp only [q20, q21, q22, q23, q24]
                        refine XG.goto eX9_ask_194 (tgt := 148) (by decide) ?_
                        rw [show (akM F9 q (u + 1)) = (F9 (1000 * q + u)) from if_neg h172] at ihu
                        exact ihu
            · exfalso
              have g54 : ¬ (2 ^ sl) ≤ (2 ^ sl) := (fun z => h54 ((nI_leI (a := (2 ^ sl)) (b := (2 ^ sl)) (by omega) (by omega)).mpr z))
              omega
          · intro s hs ihs v9 a9 hQ9 hSO h72
            have I9 := hQ9.MI I
            obtain ⟨hlv9, -, hsp9, -, -, hsl9, -, hcr9, -⟩ := id I9
            have q25 : (v9 18) = (nI lv) := hlv9
            have q26 : (nI lv).toNatClampNeg = lv := nI_clamp (by omega)
            have q27 : ((a9 24) lv) = (nI sl) := hsl9
            have q28 : ((nI 1) <<< ((nI sl) &&& 31)) = (nI (2 ^ sl)) := sh_pow hsl2
            refine XG.blk tX9_ask_ok 24 8 (pc' := 54) (pl' := [some (.ref 0), some (.int (nI k)), some (.int (nI s)), none, none, none, none]) (st' := [(.int ((nI 1) <<< (((a9 24) (v9 18).toNatClampNeg) &&& 31))), (.int (nI s))]) (W1 := (mW v9 a9 b)) (bs := [px_vb (v9 18) 2]) rfl rfl (by (try simp only [q25, q26, q27, q28]); exact (px_all (px_vbN (by omega) (by decide)) rfl)) ?_
            simp only [q25, q26, q27, q28]
            refine XG.br eX9_ask_54 (P := (nI (2 ^ sl)) ≤ (nI s)) (r := []) rfl (tgt := 120) (by decide) (fun h54 => ?_) (fun h54 => ?_)
            · exfalso
              have g54 : (2 ^ sl) ≤ s := (nI_leI (a := (2 ^ sl)) (b := s) (by omega) (by omega)).mp h54
              omega
            · skip
              have g54 : ¬ (2 ^ sl) ≤ s := (fun z => h54 ((nI_leI (a := (2 ^ sl)) (b := s) (by omega) (by omega)).mpr z))
              refine XG.blk tX9_ask_ok 33 3 (pc' := 60) (pl' := [some (.ref 0), some (.int (nI k)), some (.int (nI s)), none, none, none, none]) (st' := [(.int (nI k)), (.int (nI s)), (.ref 0)]) (W1 := (mW v9 a9 b)) (bs := []) rfl rfl rfl ?_
              refine XG.callV0 eX9_ask_60 kl_X9_464 (con_mbQ (d - 1) v v9 a a9 b hQ9 lv sp sl cr I hwf hSO (nI s) k (by omega) (by omega)) (px_fitS (by omega)) rfl rfl rfl (Nat.le_of_ble_eq_true rfl) (fun r9 W9 hp9 hl9 => ?_)
              obtain ⟨v21, a21, rfl, hQ21, h55_21, h72_21, rfl⟩ := hp9
              refine XG.br eX9_ask_63 (P := (if mbF (aQ a) lv sl cr (a 54) k (nI s) = true then 1 else 0) = 0) (r := []) rfl (tgt := 114) (by decide) (fun h63 => ?_) (fun h63 => ?_)
              · skip
                have q29 : ((nI s) + (nI 1)) = (nI (s + 1)) := px_eadd rfl rfl
                refine XG.blk tX9_ask_ok 66 1 (pc' := 117) (pl' := [some (.ref 0), some (.int (nI k)), some (.int ((nI s) + (nI 1))), none, none, none, none]) (st' := []) (W1 := (mW v21 a21 b)) (bs := []) rfl rfl rfl ?_
                simp only [q29]
                refine XG.goto eX9_ask_117 (tgt := 42) (by decide) ?_
                rw [show (itN (akF a lv sp sl cr k) (zF (a 72) 5000) (s + 1)) = (itN (akF a lv sp sl cr k) (zF (a 72) 5000) s) from if_neg (by simpa using one_ne.mp h63)] at ihs
                exact ihs v21 a21 hQ21 (by rw [h55_21]; exact saF_SO) (h72_21.trans h72)
              · skip
                refine XG.blk tX9_ask_ok 38 2 (pc' := 68) (pl' := [some (.ref 0), some (.int (nI k)), some (.int (nI s)), some (.int (nI 0)), none, none, none]) (st' := []) (W1 := (mW v21 a21 b)) (bs := []) rfl rfl rfl ?_
                refine px_for sp (fun q => ∀ (v9 : Nat → Int32) (a9 : Nat → Nat → Int32) (hQ9 : Qs v v9 a a9) (h55 : a9 55 = (saF (a 54) sl (nI s ^^^ (-1)))) (h72 : a9 72 = (itN (akI a lv sl cr s) (itN (akF a lv sp sl cr k) (zF (a 72) 5000) s) q)), XG mX9_ask _ 0 0 68 [some (.ref 0), some (.int (nI k)), some (.int (nI s)), some (.int (nI q)), none, none, none] [] (mW v9 a9 b)) ?_ ?_ 0 (Nat.zero_le _) v21 a21 hQ21 h55_21 (h72_21.trans h72)
                · intro v9 a9 hQ9 h55 h72
                  have I9 := hQ9.MI I
                  obtain ⟨hlv9, -, hsp9, -, -, hsl9, -, hcr9, -⟩ := id I9
                  have q30 : (v9 18) = (nI lv) := hlv9
                  have q31 : (nI lv).toNatClampNeg = lv := nI_clamp (by omega)
                  have q32 : ((a9 23) lv) = (nI sp) := hsp9
                  refine XG.blk tX9_ask_ok 40 6 (pc' := 78) (pl' := [some (.ref 0), some (.int (nI k)), some (.int (nI s)), some (.int (nI sp)), none, none, none]) (st' := [(.int ((a9 23) (v9 18).toNatClampNeg)), (.int (nI sp))]) (W1 := (mW v9 a9 b)) (bs := [px_vb (v9 18) 2]) rfl rfl (by (try simp only [q30, q31, q32]); exact (px_all (px_vbN (by omega) (by decide)) rfl)) ?_
                  simp only [q30, q31, q32]
                  refine XG.br eX9_ask_78 (P := (nI sp) ≤ (nI sp)) (r := []) rfl (tgt := 114) (by decide) (fun h78 => ?_) (fun h78 => ?_)
                  · skip
                    have g78 : sp ≤ sp := (nI_leI (a := sp) (b := sp) (by omega) (by omega)).mp h78
                    have q33 : ((nI s) + (nI 1)) = (nI (s + 1)) := px_eadd rfl rfl
                    refine XG.blk tX9_ask_ok 66 1 (pc' := 117) (pl' := [some (.ref 0), some (.int (nI k)), some (.int ((nI s) + (nI 1))), some (.int (nI sp)), none, none, none]) (st' := []) (W1 := (mW v9 a9 b)) (bs := []) rfl rfl rfl ?_
                    simp only [q33]
                    refine XG.goto eX9_ask_117 (tgt := 42) (by decide) ?_
                    rw [show (itN (akF a lv sp sl cr k) (zF (a 72) 5000) (s + 1)) = (itN (akI a lv sl cr s) (itN (akF a lv sp sl cr k) (zF (a 72) 5000) s) sp) from if_pos (vb2 h63)] at ihs
                    refine XG.weak (pl' := [some (.ref 0), some (.int (nI k)), some (.int (nI (s + 1))), none, none, none, none]) ⟨rfl, rfl, rfl, trivial⟩ ?_
                    exact ihs v9 a9 hQ9 (by rw [h55]; exact saF_SO) h72
                  · exfalso
                    have g78 : ¬ sp ≤ sp := (fun z => h78 ((nI_leI (a := sp) (b := sp) (by omega) (by omega)).mpr z))
                    omega
                · intro q hq ihq v9 a9 hQ9 h55 h72
                  have I9 := hQ9.MI I
                  obtain ⟨hlv9, -, hsp9, -, -, hsl9, -, hcr9, -⟩ := id I9
                  have q34 : (v9 18) = (nI lv) := hlv9
                  have q35 : (nI lv).toNatClampNeg = lv := nI_clamp (by omega)
                  have q36 : ((a9 23) lv) = (nI sp) := hsp9
                  refine XG.blk tX9_ask_ok 40 6 (pc' := 78) (pl' := [some (.ref 0), some (.int (nI k)), some (.int (nI s)), some (.int (nI q)), none, none, none]) (st' := [(.int ((a9 23) (v9 18).toNatClampNeg)), (.int (nI q))]) (W1 := (mW v9 a9 b)) (bs := [px_vb (v9 18) 2]) rfl rfl (by (try simp only [q34, q35, q36]); exact (px_all (px_vbN (by omega) (by decide)) rfl)) ?_
                  simp only [q34, q35, q36]
                  refine XG.br eX9_ask_78 (P := (nI sp) ≤ (nI q)) (r := []) rfl (tgt := 114) (by decide) (fun h78 => ?_) (fun h78 => ?_)
                  · exfalso
                    have g78 : sp ≤ q := (nI_leI (a := sp) (b := q) (by omega) (by omega)).mp h78
                    omega
                  · skip
                    have g78 : ¬ sp ≤ q := (fun z => h78 ((nI_leI (a := sp) (b := q) (by omega) (by omega)).mpr z))
                    have q37 : ((nI 1000) * (nI q)) = (nI (1000 * q)) := px_emul rfl rfl
                    refine XG.blk tX9_ask_ok 47 7 (pc' := 92) (pl' := [some (.ref 0), some (.int (nI k)), some (.int (nI s)), some (.int (nI q)), none, none, none]) (st' := [(.int (nI q)), (.ref 0), (.int ((nI 1000) * (nI q))), (.ref 46)]) (W1 := (mW v9 a9 b)) (bs := []) rfl rfl rfl ?_
                    simp only [q37]
                    refine XG.callV0 eX9_ask_92 kl_X9_379 (con_bQ (d - 1) v v9 a a9 b hQ9 (saF (a 54) sl (nI s ^^^ (-1))) h55 lv sp sl cr I hwf (nI q) (by omega)) (px_fitS (by omega)) rfl rfl rfl (Nat.le_of_ble_eq_true rfl) (fun r9 W9 hp9 hl9 => ?_)
                    obtain ⟨v22, a22, rfl, hQ22, h55_22, h72_22, rfl⟩ := hp9
                    have hb := (hb9_eq (akB a lv sl cr s q)).1
                    refine XG.blk tX9_ask_ok 55 2 (pc' := 99) (pl' := [some (.ref 0), some (.int (nI k)), some (.int (nI s)), some (.int (nI q)), none, none, none]) (st' := [(.int (nI 999)), (.int (nI 0)), (.int (akB a lv sl cr s q)), (.int (nI (1000 * q))), (.ref 46)]) (W1 := (mW v22 a22 b)) (bs := []) rfl rfl rfl ?_
                    refine XG.callSp (r := some (.int (nI (hb9 (akB a lv sl cr s q))))) eX9_ask_99 kl_X9_363 (con_held9 (d - 1) (akB a lv sl cr s q)) (px_fitS (by omega)) rfl rfl rfl rfl (Nat.le_of_ble_eq_true rfl) ?_
                    have q38 : ((nI (1000 * q)) + (nI (hb9 (akB a lv sl cr s q)))) = (nI ((1000 * q) + (hb9 (akB a lv sl cr s q)))) := px_eadd rfl rfl
                    have q39 : (a22 72) = (itN (akI a lv sl cr s) (itN (akF a lv sp sl cr k) (zF (a 72) 5000) s) q) := h72_22.trans h72
                    have q40 : (nI ((1000 * q) + (hb9 (akB a lv sl cr s q)))).toNatClampNeg = ((1000 * q) + (hb9 (akB a lv sl cr s q))) := nI_clamp (by omega)
                    have q41 : ((nI q) + (nI 1)) = (nI (q + 1)) := px_eadd rfl rfl
                    refine XG.blk tX9_ask_ok 58 7 (pc' := 111) (pl' := [some (.ref 0), some (.int (nI k)), some (.int (nI s)), some (.int ((nI q) + (nI 1))), none, none, none]) (st' := []) (W1 := (mW v22 (va_up a22 72 (upd (a22 72) ((nI (1000 * q)) + (nI (hb9 (akB a lv sl cr s q)))).toNatClampNeg (((a22 72) ((nI (1000 * q)) + (nI (hb9 (akB a lv sl cr s q)))).toNatClampNeg) + (nI 1)))) b)) (bs := [px_vb ((nI (1000 * q)) + (nI (hb9 (akB a lv sl cr s q)))) 5000, px_vb ((nI (1000 * q)) + (nI (hb9 (akB a lv sl cr s q)))) 5000]) rfl rfl (by (try simp only [q38, q39, q40, q41]); exact (px_all (px_vbN (by omega) (by decide)) (px_all (px_vbN (by omega) (by decide)) rfl))) ?_
                    simp only [q38, q39, q40, q41]
                    refine XG.goto eX9_ask_111 (tgt := 68) (by decide) ?_
                    exact ihq v22 (va_up a22 72 (upd (itN (akI a lv sl cr s) (itN (akF a lv sp sl cr k) (zF (a 72) 5000) s) q) ((1000 * q) + (hb9 (akB a lv sl cr s q))) (((itN (akI a lv sl cr s) (itN (akF a lv sp sl cr k) (zF (a 72) 5000) s) q) ((1000 * q) + (hb9 (akB a lv sl cr s q)))) + (nI 1)))) ⟨hQ22.1, hQ22.2.tr (chg.up (by decide))⟩ h55_22 rfl
        · exfalso
          have g24 : ¬ 5000 ≤ 5000 := (fun z => h24 ((nI_leI (a := 5000) (b := 5000) (by omega) (by omega)).mpr z))
          omega
      · intro i hi ihi
        refine XG.blk tX9_ask_ok 12 2 (pc' := 24) (pl' := [some (.ref 0), some (.int (nI k)), some (.int (nI i)), none, none, none, none]) (st' := [(.int (nI 5000)), (.int (nI i))]) (W1 := (mW (vQ v a lv 0) (va_up (aQ a) 72 (zF (a 72) i)) b)) (bs := []) rfl rfl rfl ?_
        refine XG.br eX9_ask_24 (P := (nI 5000) ≤ (nI i)) (r := []) rfl (tgt := 40) (by decide) (fun h24 => ?_) (fun h24 => ?_)
        · exfalso
          have g24 : 5000 ≤ i := (nI_leI (a := 5000) (b := i) (by omega) (by omega)).mp h24
          omega
        · skip
          have g24 : ¬ 5000 ≤ i := (fun z => h24 ((nI_leI (a := 5000) (b := i) (by omega) (by omega)).mpr z))
          have q42 : (nI i).toNatClampNeg = i := nI_clamp (by omega)
          have q43 : ((nI i) + (nI 1)) = (nI (i + 1)) := px_eadd rfl rfl
          refine XG.blk tX9_ask_ok 15 6 (pc' := 37) (pl' := [some (.ref 0), some (.int (nI k)), some (.int ((nI i) + (nI 1))), none, none, none, none]) (st' := []) (W1 := (mW (vQ v a lv 0) (va_up (aQ a) 72 (upd (zF (a 72) i) (nI i).toNatClampNeg (nI 0))) b)) (bs := [px_vb (nI i) 5000]) rfl rfl (by (try simp only [q42, q43]); exact (px_all (px_vbN (by omega) (by decide)) rfl)) ?_
          simp only [q42, q43]
          refine XG.goto eX9_ask_37 (tgt := 20) (by decide) ?_
          rw [zF_s]; exact ihi
    · exfalso
      have h9 := Decidable.not_not.mp h9
      exact (one_ne.mp h9) hok
  · simp only [if_neg hok]
    have q1 : (v 69) = (nI tn) := ht
    refine XG.blk tX9_ask_ok 0 4 (pc' := 6) (pl' := [some (.ref 0), some (.int p), none, none, none, none, none]) (st' := [(.int (v 69)), (.int (nI 0)), (.int p)]) (W1 := (mW v a b)) (bs := []) rfl rfl rfl ?_
    simp only [q1]
    refine XG.callSp (r := some (.int (if (nI 0) ≤ p ∧ p ≤ (nI tn) then 1 else 0))) eX9_ask_6 kl_X9_331 (con_in (d - 1) p (nI 0) (nI tn)) (px_fitS (by omega)) rfl rfl rfl rfl (Nat.le_of_ble_eq_true rfl) ?_
    refine XG.br eX9_ask_9 (P := ¬ (if (nI 0) ≤ p ∧ p ≤ (nI tn) then 1 else 0) = 0) (r := []) rfl (tgt := 14) (by decide) (fun h9 => ?_) (fun h9 => ?_)
    · exfalso
      exact absurd (Decidable.not_not.mp (fun z => h9 (one_ne.mpr z))) hok
    · skip
      have h9 := Decidable.not_not.mp h9
      refine XG.blk tX9_ask_ok 6 1 (pc' := 13) (pl' := [some (.ref 0), some (.int p), none, none, none, none, none]) (st' := [(.int (-1))]) (W1 := (mW v a b)) (bs := []) rfl rfl rfl ?_
      refine XS.iret eX9_ask_13 rfl rfl ?_
      exact ⟨_, _, rfl, Qs.rf, rfl⟩
