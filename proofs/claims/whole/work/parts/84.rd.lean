/-! the reference: a plain text -/
def plA : List Nat := [23, 24, 29, 30, 31, 35, 36, 37, 38, 39]
/-- zeros from q on, n of them -/
def zRow (f : Nat → Int32) (q n : Nat) : Nat → Int32 := fun j => if q ≤ j ∧ j < q + n then nI 0 else f j
theorem zRow_0 (f : Nat → Int32) (q : Nat) : zRow f q 0 = f := by funext j; unfold zRow; rw [if_neg (by omega)]
theorem zRow_s (f : Nat → Int32) (q n : Nat) : upd (zRow f q n) (q + n) (nI 0) = zRow f q (n + 1) := by
  funext j; simp only [zRow, upd]
  by_cases h : j = q + n
  · rw [if_pos h, if_pos (by omega)]
  · rw [if_neg h]
    by_cases h2 : q ≤ j ∧ j < q + n
    · rw [if_pos h2, if_pos (by omega)]
    · rw [if_neg h2, if_neg (by omega)]
def plnF (a : Nat → Nat → Int32) (sd : Nat) : Nat → Nat → Int32 := va_up (va_up (va_up (va_up (va_up (va_up (va_up (va_up (va_up (va_up a 23 (upd (a 23) sd (nI 3))) 24 (upd (a 24) sd (nI 0))) 30 (upd (a 30) sd (nI 0))) 31 (upd (a 31) sd (nI 0))) 35 (upd (a 35) sd (nI 12))) 36 (upd (a 36) sd (nI 5))) 37 (upd (a 37) sd (nI 0))) 29 (zRow (a 29) (6 * sd) 6)) 38 (zRow (a 38) (3 * sd) 3)) 39 (zRow (a 39) (3 * sd) 3)
theorem up_same {α : Type} {f : Nat → α} {k : Nat} {x : α} (h : x = f k) : va_up f k x = f := by rw [h]; exact va_up_id f k
set_option maxHeartbeats 400000 in
theorem con_plain (d : Nat) (v : Nat → Int32) (a : Nat → Nat → Int32) (b : Nat → Nat → Int64) (sd : Nat) (hsd : sd < 2) : Con mX9_plain d [.ref 0, .int (nI sd)] (mW v a b) (fun r W' => W' = mW v (plnF a sd) b ∧ r = none) := by
  refine Con.of (by decide) (Nat.le_of_ble_eq_true rfl) ?_
  have q1 : (nI sd).toNatClampNeg = sd := nI_clamp (by omega)
  refine XG.blk tX9_plain_ok 0 37 (pc' := 52) (pl' := [some (.ref 0), some (.int (nI sd)), some (.int (nI 0))]) (st' := []) (W1 := (mW v (va_up (va_up (va_up (va_up (va_up (va_up (va_up a 23 (upd (a 23) (nI sd).toNatClampNeg (nI 3))) 24 (upd (a 24) (nI sd).toNatClampNeg (nI 0))) 30 (upd (a 30) (nI sd).toNatClampNeg (nI 0))) 31 (upd (a 31) (nI sd).toNatClampNeg (nI 0))) 35 (upd (a 35) (nI sd).toNatClampNeg (nI 12))) 36 (upd (a 36) (nI sd).toNatClampNeg (nI 5))) 37 (upd (a 37) (nI sd).toNatClampNeg (nI 0))) b)) (bs := [px_vb (nI sd) 2, px_vb (nI sd) 2, px_vb (nI sd) 2, px_vb (nI sd) 2, px_vb (nI sd) 2, px_vb (nI sd) 2, px_vb (nI sd) 2]) rfl rfl (by (try simp only [q1]); exact (px_all (px_vbN (by omega) (by decide)) (px_all (px_vbN (by omega) (by decide)) (px_all (px_vbN (by omega) (by decide)) (px_all (px_vbN (by omega) (by decide)) (px_all (px_vbN (by omega) (by decide)) (px_all (px_vbN (by omega) (by decide)) (px_all (px_vbN (by omega) (by decide)) rfl)))))))) ?_
  simp only [q1]
  rw [show (mW v (va_up (va_up (va_up (va_up (va_up (va_up (va_up a 23 (upd (a 23) sd (nI 3))) 24 (upd (a 24) sd (nI 0))) 30 (upd (a 30) sd (nI 0))) 31 (upd (a 31) sd (nI 0))) 35 (upd (a 35) sd (nI 12))) 36 (upd (a 36) sd (nI 5))) 37 (upd (a 37) sd (nI 0))) b) = (mW v (va_up (va_up (va_up (va_up (va_up (va_up (va_up (va_up a 23 (upd (a 23) sd (nI 3))) 24 (upd (a 24) sd (nI 0))) 30 (upd (a 30) sd (nI 0))) 31 (upd (a 31) sd (nI 0))) 35 (upd (a 35) sd (nI 12))) 36 (upd (a 36) sd (nI 5))) 37 (upd (a 37) sd (nI 0))) 29 (zRow (a 29) (6 * sd) 0)) b) by rw [zRow_0]; rfl]
  refine px_for 6 (fun i => XG mX9_plain _ 0 0 52 [some (.ref 0), some (.int (nI sd)), some (.int (nI i))] [] (mW v (va_up (va_up (va_up (va_up (va_up (va_up (va_up (va_up a 23 (upd (a 23) sd (nI 3))) 24 (upd (a 24) sd (nI 0))) 30 (upd (a 30) sd (nI 0))) 31 (upd (a 31) sd (nI 0))) 35 (upd (a 35) sd (nI 12))) 36 (upd (a 36) sd (nI 5))) 37 (upd (a 37) sd (nI 0))) 29 (zRow (a 29) (6 * sd) i)) b)) ?_ ?_ 0 (Nat.zero_le _)
  · skip
    refine XG.blk tX9_plain_ok 37 2 (pc' := 55) (pl' := [some (.ref 0), some (.int (nI sd)), some (.int (nI 6))]) (st' := [(.int (nI 6)), (.int (nI 6))]) (W1 := (mW v (va_up (va_up (va_up (va_up (va_up (va_up (va_up (va_up a 23 (upd (a 23) sd (nI 3))) 24 (upd (a 24) sd (nI 0))) 30 (upd (a 30) sd (nI 0))) 31 (upd (a 31) sd (nI 0))) 35 (upd (a 35) sd (nI 12))) 36 (upd (a 36) sd (nI 5))) 37 (upd (a 37) sd (nI 0))) 29 (zRow (a 29) (6 * sd) 6)) b)) (bs := []) rfl rfl rfl ?_
    refine XG.br eX9_plain_55 (P := (nI 6) ≤ (nI 6)) (r := []) rfl (tgt := 76) (by decide) (fun h55 => ?_) (fun h55 => ?_)
    · skip
      have g55 : 6 ≤ 6 := (nI_leI (a := 6) (b := 6) (by omega) (by omega)).mp h55
      refine XG.blk tX9_plain_ok 51 2 (pc' := 78) (pl' := [some (.ref 0), some (.int (nI sd)), some (.int (nI 0))]) (st' := []) (W1 := (mW v (va_up (va_up (va_up (va_up (va_up (va_up (va_up (va_up a 23 (upd (a 23) sd (nI 3))) 24 (upd (a 24) sd (nI 0))) 30 (upd (a 30) sd (nI 0))) 31 (upd (a 31) sd (nI 0))) 35 (upd (a 35) sd (nI 12))) 36 (upd (a 36) sd (nI 5))) 37 (upd (a 37) sd (nI 0))) 29 (zRow (a 29) (6 * sd) 6)) b)) (bs := []) rfl rfl rfl ?_
      rw [show (mW v (va_up (va_up (va_up (va_up (va_up (va_up (va_up (va_up a 23 (upd (a 23) sd (nI 3))) 24 (upd (a 24) sd (nI 0))) 30 (upd (a 30) sd (nI 0))) 31 (upd (a 31) sd (nI 0))) 35 (upd (a 35) sd (nI 12))) 36 (upd (a 36) sd (nI 5))) 37 (upd (a 37) sd (nI 0))) 29 (zRow (a 29) (6 * sd) 6)) b) = (mW v (va_up (va_up (va_up (va_up (va_up (va_up (va_up (va_up (va_up (va_up a 23 (upd (a 23) sd (nI 3))) 24 (upd (a 24) sd (nI 0))) 30 (upd (a 30) sd (nI 0))) 31 (upd (a 31) sd (nI 0))) 35 (upd (a 35) sd (nI 12))) 36 (upd (a 36) sd (nI 5))) 37 (upd (a 37) sd (nI 0))) 29 (zRow (a 29) (6 * sd) 6)) 38 (zRow (a 38) (3 * sd) 0)) 39 (zRow (a 39) (3 * sd) 0)) b) by rw [zRow_0, zRow_0]; rfl]
      refine px_for 3 (fun i => XG mX9_plain _ 0 0 78 [some (.ref 0), some (.int (nI sd)), some (.int (nI i))] [] (mW v (va_up (va_up (va_up (va_up (va_up (va_up (va_up (va_up (va_up (va_up a 23 (upd (a 23) sd (nI 3))) 24 (upd (a 24) sd (nI 0))) 30 (upd (a 30) sd (nI 0))) 31 (upd (a 31) sd (nI 0))) 35 (upd (a 35) sd (nI 12))) 36 (upd (a 36) sd (nI 5))) 37 (upd (a 37) sd (nI 0))) 29 (zRow (a 29) (6 * sd) 6)) 38 (zRow (a 38) (3 * sd) i)) 39 (zRow (a 39) (3 * sd) i)) b)) ?_ ?_ 0 (Nat.zero_le _)
      · skip
        refine XG.blk tX9_plain_ok 53 2 (pc' := 80) (pl' := [some (.ref 0), some (.int (nI sd)), some (.int (nI 3))]) (st' := [(.int (nI 3)), (.int (nI 3))]) (W1 := (mW v (va_up (va_up (va_up (va_up (va_up (va_up (va_up (va_up (va_up (va_up a 23 (upd (a 23) sd (nI 3))) 24 (upd (a 24) sd (nI 0))) 30 (upd (a 30) sd (nI 0))) 31 (upd (a 31) sd (nI 0))) 35 (upd (a 35) sd (nI 12))) 36 (upd (a 36) sd (nI 5))) 37 (upd (a 37) sd (nI 0))) 29 (zRow (a 29) (6 * sd) 6)) 38 (zRow (a 38) (3 * sd) 3)) 39 (zRow (a 39) (3 * sd) 3)) b)) (bs := []) rfl rfl rfl ?_
        refine XG.br eX9_plain_80 (P := (nI 3) ≤ (nI 3)) (r := []) rfl (tgt := 111) (by decide) (fun h80 => ?_) (fun h80 => ?_)
        · skip
          have g80 : 3 ≤ 3 := (nI_leI (a := 3) (b := 3) (by omega) (by omega)).mp h80
          refine XS.vret eX9_plain_111 rfl ?_
          exact ⟨rfl, rfl⟩
        · exfalso
          have g80 : ¬ 3 ≤ 3 := (fun z => h80 ((nI_leI (a := 3) (b := 3) (by omega) (by omega)).mpr z))
          omega
      · intro i hi ihi
        refine XG.blk tX9_plain_ok 53 2 (pc' := 80) (pl' := [some (.ref 0), some (.int (nI sd)), some (.int (nI i))]) (st' := [(.int (nI 3)), (.int (nI i))]) (W1 := (mW v (va_up (va_up (va_up (va_up (va_up (va_up (va_up (va_up (va_up (va_up a 23 (upd (a 23) sd (nI 3))) 24 (upd (a 24) sd (nI 0))) 30 (upd (a 30) sd (nI 0))) 31 (upd (a 31) sd (nI 0))) 35 (upd (a 35) sd (nI 12))) 36 (upd (a 36) sd (nI 5))) 37 (upd (a 37) sd (nI 0))) 29 (zRow (a 29) (6 * sd) 6)) 38 (zRow (a 38) (3 * sd) i)) 39 (zRow (a 39) (3 * sd) i)) b)) (bs := []) rfl rfl rfl ?_
        refine XG.br eX9_plain_80 (P := (nI 3) ≤ (nI i)) (r := []) rfl (tgt := 111) (by decide) (fun h80 => ?_) (fun h80 => ?_)
        · exfalso
          have g80 : 3 ≤ i := (nI_leI (a := 3) (b := i) (by omega) (by omega)).mp h80
          omega
        · skip
          have g80 : ¬ 3 ≤ i := (fun z => h80 ((nI_leI (a := 3) (b := i) (by omega) (by omega)).mpr z))
          have q2 : ((nI 3) * (nI sd)) = (nI (3 * sd)) := px_emul rfl rfl
          have q3 : ((nI (3 * sd)) + (nI i)) = (nI ((3 * sd) + i)) := px_eadd rfl rfl
          have q4 : (nI ((3 * sd) + i)).toNatClampNeg = ((3 * sd) + i) := nI_clamp (by omega)
          have q5 : ((nI i) + (nI 1)) = (nI (i + 1)) := px_eadd rfl rfl
          refine XG.blk tX9_plain_ok 56 19 (pc' := 108) (pl' := [some (.ref 0), some (.int (nI sd)), some (.int ((nI i) + (nI 1)))]) (st' := []) (W1 := (mW v (va_up (va_up (va_up (va_up (va_up (va_up (va_up (va_up (va_up (va_up a 23 (upd (a 23) sd (nI 3))) 24 (upd (a 24) sd (nI 0))) 30 (upd (a 30) sd (nI 0))) 31 (upd (a 31) sd (nI 0))) 35 (upd (a 35) sd (nI 12))) 36 (upd (a 36) sd (nI 5))) 37 (upd (a 37) sd (nI 0))) 29 (zRow (a 29) (6 * sd) 6)) 38 (upd (zRow (a 38) (3 * sd) i) (((nI 3) * (nI sd)) + (nI i)).toNatClampNeg (nI 0))) 39 (upd (zRow (a 39) (3 * sd) i) (((nI 3) * (nI sd)) + (nI i)).toNatClampNeg (nI 0))) b)) (bs := [px_vb (((nI 3) * (nI sd)) + (nI i)) 6, px_vb (((nI 3) * (nI sd)) + (nI i)) 6]) rfl rfl (by (try simp only [q2, q3, q4, q5]); exact (px_all (px_vbN (by omega) (by decide)) (px_all (px_vbN (by omega) (by decide)) rfl))) ?_
          simp only [q2, q3, q4, q5]
          refine XG.goto eX9_plain_108 (tgt := 78) (by decide) ?_
          rw [zRow_s, zRow_s]; exact ihi
    · exfalso
      have g55 : ¬ 6 ≤ 6 := (fun z => h55 ((nI_leI (a := 6) (b := 6) (by omega) (by omega)).mpr z))
      omega
  · intro i hi ihi
    refine XG.blk tX9_plain_ok 37 2 (pc' := 55) (pl' := [some (.ref 0), some (.int (nI sd)), some (.int (nI i))]) (st' := [(.int (nI 6)), (.int (nI i))]) (W1 := (mW v (va_up (va_up (va_up (va_up (va_up (va_up (va_up (va_up a 23 (upd (a 23) sd (nI 3))) 24 (upd (a 24) sd (nI 0))) 30 (upd (a 30) sd (nI 0))) 31 (upd (a 31) sd (nI 0))) 35 (upd (a 35) sd (nI 12))) 36 (upd (a 36) sd (nI 5))) 37 (upd (a 37) sd (nI 0))) 29 (zRow (a 29) (6 * sd) i)) b)) (bs := []) rfl rfl rfl ?_
    refine XG.br eX9_plain_55 (P := (nI 6) ≤ (nI i)) (r := []) rfl (tgt := 76) (by decide) (fun h55 => ?_) (fun h55 => ?_)
    · exfalso
      have g55 : 6 ≤ i := (nI_leI (a := 6) (b := i) (by omega) (by omega)).mp h55
      omega
    · skip
      have g55 : ¬ 6 ≤ i := (fun z => h55 ((nI_leI (a := 6) (b := i) (by omega) (by omega)).mpr z))
      have q6 : ((nI 6) * (nI sd)) = (nI (6 * sd)) := px_emul rfl rfl
      have q7 : ((nI (6 * sd)) + (nI i)) = (nI ((6 * sd) + i)) := px_eadd rfl rfl
      have q8 : (nI ((6 * sd) + i)).toNatClampNeg = ((6 * sd) + i) := nI_clamp (by omega)
      have q9 : ((nI i) + (nI 1)) = (nI (i + 1)) := px_eadd rfl rfl
      refine XG.blk tX9_plain_ok 40 10 (pc' := 73) (pl' := [some (.ref 0), some (.int (nI sd)), some (.int ((nI i) + (nI 1)))]) (st' := []) (W1 := (mW v (va_up (va_up (va_up (va_up (va_up (va_up (va_up (va_up a 23 (upd (a 23) sd (nI 3))) 24 (upd (a 24) sd (nI 0))) 30 (upd (a 30) sd (nI 0))) 31 (upd (a 31) sd (nI 0))) 35 (upd (a 35) sd (nI 12))) 36 (upd (a 36) sd (nI 5))) 37 (upd (a 37) sd (nI 0))) 29 (upd (zRow (a 29) (6 * sd) i) (((nI 6) * (nI sd)) + (nI i)).toNatClampNeg (nI 0))) b)) (bs := [px_vb (((nI 6) * (nI sd)) + (nI i)) 12]) rfl rfl (by (try simp only [q6, q7, q8, q9]); exact (px_all (px_vbN (by omega) (by decide)) rfl)) ?_
      simp only [q6, q7, q8, q9]
      refine XG.goto eX9_plain_73 (tgt := 52) (by decide) ?_
      rw [zRow_s]; exact ihi
theorem pln_chg (a : Nat → Nat → Int32) (sd : Nat) : ∀ k, k ∉ plA → plnF a sd k = a k := by
  intro k hk
  unfold plnF va_up
  have h : ∀ z, z ∈ plA → k ≠ z := fun z hz e => hk (by rw [e]; exact hz)
  rw [if_neg (h 39 (by decide)), if_neg (h 38 (by decide)), if_neg (h 29 (by decide)), if_neg (h 37 (by decide)), if_neg (h 36 (by decide)), if_neg (h 35 (by decide)), if_neg (h 31 (by decide)), if_neg (h 30 (by decide)), if_neg (h 24 (by decide)), if_neg (h 23 (by decide))]
theorem pln_fr (a : Nat → Nat → Int32) (sd : Nat) : ∀ k j, ¬ (strd k * sd ≤ j ∧ j < strd k * sd + strd k) → plnF a sd k j = a k j := by
  intro k j hj
  by_cases hk : k ∈ plA
  · simp only [plA, List.mem_cons, List.not_mem_nil, or_false] at hk
    rcases hk with rfl | rfl | rfl | rfl | rfl | rfl | rfl | rfl | rfl | rfl
    · rw [show strd 23 = 1 by decide] at hj; exact pk_un (by omega)
    · rw [show strd 24 = 1 by decide] at hj; exact pk_un (by omega)
    · rw [show strd 29 = 6 by decide] at hj; exact if_neg (by omega)
    · rw [show strd 30 = 1 by decide] at hj; exact pk_un (by omega)
    · rw [show strd 31 = 1 by decide] at hj; exact pk_un (by omega)
    · rw [show strd 35 = 1 by decide] at hj; exact pk_un (by omega)
    · rw [show strd 36 = 1 by decide] at hj; exact pk_un (by omega)
    · rw [show strd 37 = 1 by decide] at hj; exact pk_un (by omega)
    · rw [show strd 38 = 3 by decide] at hj; exact if_neg (by omega)
    · rw [show strd 39 = 3 by decide] at hj; exact if_neg (by omega)
  · rw [pln_chg a sd k hk]
/-- a plain text is told so far -/
theorem RD_plain {sd t : Nat} {v : Nat → Int32} {a : Nat → Nat → Int32} {b : Nat → Nat → Int64} (h20 : v 20 = nI 0) (h40 : v 40 = nI (130 * sd)) (h46 : v 46 = nI (420 * sd)) (h12 : v 12 = nI 0) : RD plainD sd t v (plnF a sd) b := by
  refine ⟨?_, ⟨by decide, by decide, by decide⟩, fun i hi => absurd hi (Nat.not_lt_zero i), fun i hi => absurd hi (Nat.not_lt_zero i), ⟨⟨h20, Nat.zero_le _, fun i e he => by cases he⟩, rfl, fun e he => by cases he⟩, ?_, ⟨130 * sd, 420 * sd, h40, h46, Nat.le_refl _, by omega, Nat.le_refl _, by omega, ?_⟩, h12⟩
  · intro k hk
    simp only [List.mem_cons, List.not_mem_nil, or_false] at hk
    rcases hk with rfl | rfl | rfl | rfl | rfl | rfl | rfl <;> exact pk_us
  · exact ⟨fun _ => 0, fun x hx => ⟨if_pos (by omega), by show 0 < 64; decide, fun y hy => by rw [Nat.zero_testBit]; rfl⟩⟩
  · intro k hk
    exact ⟨if_pos (by omega), if_pos (by omega)⟩
