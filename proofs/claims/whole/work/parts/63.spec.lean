/-! WHAT A TEXT TELLS: tokens (kind, place, number, letters), and how a text is gone through. Both the reference and the class are held against this. -/
abbrev PE : Type := Nat × Nat
abbrev PT : Type := Nat × Option (Nat × Nat)
abbrev TKS : Type := (Nat → Nat) × (Nat → Nat) × (Nat → Nat) × (Nat → List Nat)
abbrev Cde : Type := List (Nat × Nat)
abbrev LBr : Type := Option (Cde × Cde) × Cde
def bd {α β : Type} (r : PE ⊕ α) (f : α → PE ⊕ β) : PE ⊕ β := match r with
  | .inl e => .inl e
  | .inr x => f x
theorem bd_inl {α β : Type} (e : PE) (f : α → PE ⊕ β) : bd (.inl e) f = .inl e := rfl
theorem bd_inr {α β : Type} (x : α) (f : α → PE ⊕ β) : bd (.inr x) f = f x := rfl
def advN (t : Nat) : PE ⊕ Nat := if t = 400 then .inl (2, 400) else .inr (t + 1)
def mstN (K : TKS) (k t : Nat) : PE ⊕ Nat := if K.1 t = k then advN t else .inl (1, t)
def advS (s : PT) : PE ⊕ PT := bd (advN s.1) (fun t => .inr (t, s.2))
def mstS (K : TKS) (k : Nat) (s : PT) : PE ⊕ PT := bd (mstN K k s.1) (fun t => .inr (t, s.2))
def noteS (w : Option PE) (k p : Nat) : Option PE := match w with
  | none => some (k, p)
  | some x => some x
def bndS (K : TKS) (lo hi : Nat) (s : PT) : PE ⊕ PT := bd (mstS K 2 s) (fun s1 => .inr (s1.1, if lo ≤ K.2.2.1 s.1 ∧ K.2.2.1 s.1 ≤ hi then s1.2 else noteS s1.2 5 (K.2.1 s.1)))
/-! expressions -/
def unS (K : TKS) (sub : Option (Nat → PE ⊕ (Nat × Cde))) (t : Nat) : PE ⊕ (Nat × Cde) :=
  if K.1 t = 6 then match sub with
    | none => .inl (2, t)
    | some f => bd (advN t) (fun t1 => bd (f t1) (fun x => bd (mstN K 7 x.1) (fun t3 => .inr (t3, x.2))))
  else if K.1 t = 2 then bd (advN t) (fun t1 => .inr (t1, [(0, K.2.2.1 t)]))
  else if 33 ≤ K.1 t ∧ K.1 t ≤ 41 then bd (advN t) (fun t1 => .inr (t1, [(1, K.1 t - 33)]))
  else .inl (1, t)
def opP (k : Nat) : Option Nat := if k = 10 then some 4 else if k = 15 then some 5 else none
def opM (k : Nat) : Option Nat := if k = 8 then some 2 else if k = 9 then some 3 else none
def lpS (K : TKS) (P : Nat → PE ⊕ (Nat × Cde)) (op : Nat → Option Nat) : Nat → Nat → Cde → PE ⊕ (Nat × Cde)
  | 0, t, c => .inr (t, c)
  | n + 1, t, c => match op (K.1 t) with
    | none => .inr (t, c)
    | some z => bd (advN t) (fun t1 => bd (P t1) (fun x => lpS K P op n x.1 (c ++ x.2 ++ [(z, 0)])))
def prS (K : TKS) (sub : Option (Nat → PE ⊕ (Nat × Cde))) (t : Nat) : PE ⊕ (Nat × Cde) := bd (unS K sub t) (fun x => lpS K (unS K sub) opP 400 x.1 x.2)
def smS (K : TKS) (sub : Option (Nat → PE ⊕ (Nat × Cde))) (t : Nat) : PE ⊕ (Nat × Cde) := bd (prS K sub t) (fun x => lpS K (prS K sub) opM 400 x.1 x.2)
def exS (K : TKS) : Nat → Nat → PE ⊕ (Nat × Cde)
  | 0 => smS K none
  | n + 1 => smS K (some (exS K n))
def lawS9 (K : TKS) : Nat → Nat → List LBr → PE ⊕ (Nat × List LBr)
  | 0, t, bs => if K.1 t = 30 then .inl (2, t) else bd (exS K 6 t) (fun x => .inr (x.1, bs ++ [(none, x.2)]))
  | n + 1, t, bs => if K.1 t = 30 then bd (advN t) (fun t1 => bd (exS K 6 t1) (fun x => bd (mstN K 13 x.1) (fun t3 => bd (exS K 6 t3) (fun y => bd (mstN K 31 y.1) (fun t5 => bd (exS K 6 t5) (fun z => bd (mstN K 32 z.1) (fun t7 => lawS9 K n t7 (bs ++ [(some (x.2, y.2), z.2)]))))))))
    else bd (exS K 6 t) (fun x => .inr (x.1, bs ++ [(none, x.2)]))
/-! what is told: numbers, rows, names (of a sleeper: which), pairs, laws -/
abbrev NmL : Type := List (List Nat × Option Nat)
abbrev SD : Type := (Nat → Nat) × (Nat → Nat → Nat) × NmL × List (Option (Nat × Nat)) × (Nat → Option (List LBr))
def hasNm (nl : NmL) (x : List Nat) : Bool := nl.any (fun e => decide (e.1 = x))
def fndNm : NmL → List Nat → Option Nat
  | [], _ => none
  | e :: r, x => match e.2 with
    | some i => if e.1 = x then some i else fndNm r x
    | none => fndNm r x
def nameS (K : TKS) (nl : NmL) (s : PT) : PE ⊕ PT := bd (mstS K 1 s) (fun s1 => .inr (s1.1, if hasNm nl (K.2.2.2 s.1) = true then noteS s1.2 3 (K.2.1 s.1) else s1.2))
def knwS (K : TKS) (nl : NmL) (s : PT) : PE ⊕ PT := bd (mstS K 1 s) (fun s1 => .inr (s1.1, if (fndNm nl (K.2.2.2 s.1)).isSome = true then s1.2 else noteS s1.2 4 (K.2.1 s.1)))
def hasPr (pr : List (Option (Nat × Nat))) (x y : Nat) : Bool := pr.any (fun e => decide (e = some (x, y)) || decide (e = some (y, x)))
def prOf (nl : NmL) (x y : List Nat) : Option (Nat × Nat) := match fndNm nl x, fndNm nl y with
  | some i, some j => some (i, j)
  | _, _ => none
def up2 (D : Nat → Nat → Nat) (k i x : Nat) : Nat → Nat → Nat := va_up D k (va_up (D k) i x)
def tNum (K : TKS) (k lo hi : Nat) (q : PT × SD) : PE ⊕ (PT × SD) := bd (bd (bd (advS q.1) (bndS K lo hi)) (mstS K 4)) (fun s3 => .inr (s3, va_up q.2.1 k (K.2.2.1 (q.1.1 + 1)), q.2.2))
def slT (K : TKS) (s : PT) (S : SD) : PE ⊕ (PT × SD) := bd (bd (bd (bd (bd (bd (nameS K S.2.2.1 s) (bndS K 0 99)) (bndS K 0 9)) (bndS K 0 9)) (bndS K 0 4)) (mstS K 4)) (fun s7 =>
    .inr (s7, va_up S.1 24 (S.1 24 + 1), up2 (up2 (up2 (up2 S.2.1 25 (S.1 24) (K.2.2.1 (s.1 + 1))) 26 (S.1 24) (K.2.2.1 (s.1 + 2))) 27 (S.1 24) (K.2.2.1 (s.1 + 3))) 28 (S.1 24) (K.2.2.1 (s.1 + 4)), S.2.2.1 ++ [(K.2.2.2 s.1, some (S.1 24))], S.2.2.2))
def tSlp (K : TKS) (q : PT × SD) : PE ⊕ (PT × SD) := if q.2.1 24 = 6 then .inl (2, q.1.1) else bd (advS q.1) (fun s1 => slT K s1 q.2)
def crT (K : TKS) (s : PT) (S : SD) : PE ⊕ (PT × SD) := bd (bd (bd (bd (bd (nameS K S.2.2.1 s) (bndS K 0 99)) (bndS K 0 9)) (bndS K 0 99)) (mstS K 4)) (fun s6 =>
    .inr (s6, va_up S.1 31 (S.1 31 + 1), up2 (up2 (up2 S.2.1 32 (S.1 31) (K.2.2.1 (s.1 + 1))) 33 (S.1 31) (K.2.2.1 (s.1 + 2))) 34 (S.1 31) (K.2.2.1 (s.1 + 3)), S.2.2.1 ++ [(K.2.2.2 s.1, none)], S.2.2.2))
def tCrs (K : TKS) (q : PT × SD) : PE ⊕ (PT × SD) := if q.2.1 31 = 5 then .inl (2, q.1.1) else bd (advS q.1) (fun s1 => crT K s1 q.2)
def twc (pr : List (Option (Nat × Nat))) (z : Option (Nat × Nat)) : Bool := match z with
  | none => false
  | some e => decide (e.1 = e.2) || hasPr pr e.1 e.2
def twN (K : TKS) (S : SD) (t : Nat) : Option (Nat × Nat) := prOf S.2.2.1 (K.2.2.2 t) (K.2.2.2 (t + 1))
def paT (K : TKS) (s : PT) (S : SD) : PE ⊕ (PT × SD) := bd (bd (bd (bd (.inr s) (knwS K S.2.2.1)) (knwS K S.2.2.1)) (fun s3 => mstS K 4 (s3.1, if twc S.2.2.2.1 (twN K S s.1) = true then noteS s3.2 3 (K.2.1 (s.1 + 1)) else s3.2))) (fun s4 =>
    .inr (s4, va_up S.1 30 (S.1 30 + 1), S.2.1, S.2.2.1, S.2.2.2.1 ++ [twN K S s.1], S.2.2.2.2))
def tPr (K : TKS) (q : PT × SD) : PE ⊕ (PT × SD) := if q.2.1 30 = 6 then .inl (2, q.1.1) else bd (advS q.1) (fun s1 => paT K s1 q.2)
def tLaw (K : TKS) (k : Nat) (q : PT × SD) : PE ⊕ (PT × SD) := bd (advN q.1.1) (fun t1 => bd (mstN K 5 t1) (fun t2 => bd (lawS9 K 4 t2 []) (fun x => bd (mstN K 4 x.1) (fun t4 =>
    .inr ((t4, q.1.2), q.2.1, q.2.2.1, q.2.2.2.1, q.2.2.2.2.1, va_up q.2.2.2.2.2 k (some x.2))))))
def tellS (K : TKS) (q : PT × SD) : PE ⊕ (PT × SD) :=
  if K.1 q.1.1 = 20 then tNum K 23 1 5 q else if K.1 q.1.1 = 21 then tSlp K q else if K.1 q.1.1 = 22 then tPr K q else if K.1 q.1.1 = 23 then tCrs K q
  else if K.1 q.1.1 = 27 then tNum K 35 0 99 q else if K.1 q.1.1 = 28 then tNum K 36 0 99 q else if K.1 q.1.1 = 29 then tNum K 37 0 9999 q
  else if 24 ≤ K.1 q.1.1 ∧ K.1 q.1.1 ≤ 26 then tLaw K (K.1 q.1.1 - 24) q else .inl (1, q.1.1)
def txtS (K : TKS) : Nat → PT × SD → PE ⊕ (PT × SD)
  | 0, q => .inr q
  | n + 1, q => if K.1 q.1.1 = 0 then .inr q else bd (tellS K q) (txtS K n)
def plainD : SD := (fun k => if k = 23 then 3 else if k = 35 then 12 else if k = 36 then 5 else 0, fun _ _ => 0, [], [], fun _ => none)
def outP (q : PT × SD) : Bool := (List.range (q.2.1 24)).any (fun i => decide (q.2.1 23 ≤ q.2.2.1 28 i))
def endS (K : TKS) (q : PT × SD) : PT × SD := ((q.1.1, if outP q = true then noteS q.1.2 5 (K.2.1 q.1.1) else q.1.2), q.2)
/-- the whole: a fault (its number, its byte), or what is told -/
def readS (K : TKS) : PE ⊕ SD := match txtS K 400 ((0, none), plainD) with
  | .inl e => .inl (e.1, K.2.1 e.2)
  | .inr q => match (endS K q).1.2 with
    | some w => .inl w
    | none => .inr (endS K q).2
