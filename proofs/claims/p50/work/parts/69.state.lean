/-! WHAT A RUN KNOWS: worlds (count, houses, draws, the week under way), the one that is kept, the tape, shelves, refusals -/
abbrev RX : Type := Nat × Nat × Nat × (Nat → Bool)
abbrev WS : Type := (Nat → Nat) × RX × WK
abbrev WD : Type := Nat × (Nat → Nat → Nat) × Int32 × Option WS
abbrev SH : Type := Option (Sum (Nat × Nat × (Nat → Int64)) RX)
abbrev SX : Type := WD × Option WD × ((Nat → Nat) × Nat) × (Nat → SH) × (Nat → Int32)
def refX (S : SX) (i : Nat) : SX := (S.1, S.2.1, S.2.2.1, S.2.2.2.1, fun j => if j = i then S.2.2.2.2 i + nI 1 else S.2.2.2.2 j)
def tn (x : Int32) : Nat := x.toInt.toNat
theorem tn_nI {n : Nat} (h : n < 2 ^ 31) : tn (nI n) = n := by unfold tn; rw [nI_toInt h]; rfl
theorem i32_in {x : Int32} {n : Nat} (h : 0 ≤ x.toInt ∧ x.toInt < (n : Int)) : ∃ d, d < n ∧ x = nI d ∧ tn x = d := by
  have h2 := Int32.toInt_lt x
  exact ⟨x.toInt.toNat, by omega, Int32.toInt_inj.mp (by rw [nI_toInt (by omega)]; omega), rfl⟩
/-- a house that is there; its numbers; days, states, shelves -/
abbrev okc (S : SX) (h : Int32) : Prop := 0 ≤ h.toInt ∧ h.toInt < (S.1.1 : Int)
abbrev hX (S : SX) (h : Int32) : Nat → Nat := S.1.2.1 (tn h)
abbrev okl (N : Nat → Nat) (l : Int32) : Prop := 0 ≤ l.toInt ∧ l.toInt ≤ (N 0 : Int)
abbrev okl1 (N : Nat → Nat) (l : Int32) : Prop := 1 ≤ l.toInt ∧ l.toInt ≤ (N 0 : Int)
abbrev okt (N : Nat → Nat) (s : Int32) : Prop := 0 ≤ s.toInt ∧ s.toInt < ((5 ^ N 4 : Nat) : Int)
abbrev oks (s : Int32) : Prop := 0 ≤ s.toInt ∧ s.toInt < 8
abbrev okk (N : Nat → Nat) (k : Int32) : Prop := 0 ≤ k.toInt ∧ k.toInt < (N 4 : Int)
abbrev shX (S : SX) (s : Int32) : SH := S.2.2.2.1 (tn s)
def bad (S : SX) : Int32 × SX := (-2, refX S 0)
def badJ (S : SX) : Int64 × SX := ((-2 : Int32).toInt64, refX S 0)
/-- what a shelf's rule says; refused where there is none -/
def byI (S : SX) (s : Int32) (f : RX → Int32) : Int32 × SX := match shX S s with
  | none => (-4, refX S 2)
  | some (.inl _) => (-3, refX S 1)
  | some (.inr r) => (f r, S)
def byJ (S : SX) (s : Int32) (f : RX → Int64) : Int64 × SX := match shX S s with
  | none => ((-4 : Int32).toInt64, refX S 2)
  | some (.inl _) => ((-3 : Int32).toInt64, refX S 1)
  | some (.inr r) => (f r, S)
def ruR (N : Nat → Nat) (r : RX) : Nat → Nat → Nat := fun d => ruL N r.1 r.2.1 r.2.2.1 r.2.2.2 d
/-- the answers -/
def fOf (S : SX) (s k : Int32) : Int32 × SX := if (0 ≤ s.toInt ∧ s.toInt ≤ 124) ∧ 0 ≤ k.toInt ∧ k.toInt ≤ 2 then (nI (dig (tn s) (tn k)), S) else bad S
def fSpace (S : SX) (h s : Int32) : Int32 × SX := if okc S h ∧ okt (hX S h) s then (nI (sumP (hX S h) (tn s) 0), S) else bad S
def fScale (S : SX) (h l : Int32) : Int64 × SX := if okc S h ∧ okl (hX S h) l then (lN (sclP (hX S h) (tn l)), S) else badJ S
def fCost (S : SX) (h l s : Int32) : Int64 × SX := if okc S h ∧ okl (hX S h) l ∧ okt (hX S h) s then (lN (cst (hX S h) (tn l) (tn s)), S) else badJ S
def fBest (S : SX) (h l s : Int32) : Int32 × SX := if okc S h ∧ okl1 (hX S h) l ∧ okt (hX S h) s then (nI (ldP (hX S h) (tn l) (tn s)), S) else bad S
def fFill (S : SX) (h s : Int32) : Int32 × SX := if okc S h ∧ okt (hX S h) s then (nI (fillP (hX S h) (tn s)), S) else bad S
def fLoad (S : SX) (h l s r : Int32) : Int32 × SX := if okc S h ∧ okl1 (hX S h) l ∧ okt (hX S h) s ∧ oks r then byI S r (fun q => nI (ruR (hX S h) q (tn l) (tn s))) else bad S
def fMean (S : SX) (h l s r : Int32) : Int64 × SX := if okc S h ∧ okl (hX S h) l ∧ okt (hX S h) s ∧ oks r then byJ S r (fun q => lN (rCs (hX S h) q.1 q.2.1 q.2.2.1 q.2.2.2 (tn l) (tn s))) else badJ S
def fLose (S : SX) (h l s r : Int32) : Int64 × SX := if okc S h ∧ okl (hX S h) l ∧ okt (hX S h) s ∧ oks r then byJ S r (fun q => lN (rCs (hX S h) q.1 q.2.1 q.2.2.1 q.2.2.2 (tn l) (tn s)) - lN (cst (hX S h) (tn l) (tn s))) else badJ S
def fWaits (S : SX) (h l s : Int32) : Int64 × SX := if okc S h ∧ okl1 (hX S h) l ∧ okt (hX S h) s then (lN (mixP (hX S h) (boxP (hX S h) (tn l)) (aft (hX S h) (tn l)) (tn s) 0) - lN (cst (hX S h) (tn l) (tn s)), S) else badJ S
def fOnce (S : SX) (h l s : Int32) : Int64 × SX := if okc S h ∧ okl1 (hX S h) l ∧ okt (hX S h) s then (lN (mixP (hX S h) (boxP (hX S h) (tn l)) (aft (hX S h) (tn l)) (tn s) (fillP (hX S h) (tn s))) - lN (cst (hX S h) (tn l) (tn s)), S) else badJ S
def fDear (S : SX) (h l s k : Int32) : Int64 × SX := if okc S h ∧ okl (hX S h) l ∧ okt (hX S h) s ∧ okk (hX S h) k ∧ dig (tn s) (tn k) < 4 then (lN (cst (hX S h) (tn l) (tn s + 5 ^ tn k)) - lN (cst (hX S h) (tn l) (tn s)), S) else badJ S
def fChance (S : SX) (h l s r : Int32) : Int64 × SX := if okc S h ∧ okl (hX S h) l ∧ okt (hX S h) s ∧ oks r then byJ S r (fun q => lN (chP (hX S h) (ruR (hX S h) q) (hX S h 0 - tn l) (tn s))) else badJ S
def fReach (S : SX) (h l r : Int32) : Int32 × SX := if okc S h ∧ okl (hX S h) l ∧ oks r then byI S r (fun q => nI (ctA (chP (hX S h) (ruR (hX S h) q) (hX S h 0 - tn l)) (5 ^ hX S h 4))) else bad S
def fHeld (S : SX) (h k r : Int32) : Int64 × SX := if okc S h ∧ okk (hX S h) k ∧ oks r then byJ S r (fun q => lN (heP (hX S h) (ruR (hX S h) q) (tn k) (hX S h 0))) else badJ S
def fBoxes (S : SX) (h r : Int32) : Int64 × SX := if okc S h ∧ oks r then byJ S r (fun q => lN (boP (hX S h) (ruR (hX S h) q) (hX S h 0))) else badJ S
def fPlain (S : SX) (h : Int32) : Int32 × SX := if okc S h then (nhV (plnP (hX S h)), S) else bad S
def fEvery (S : SX) (h : Int32) : Int32 × SX := if okc S h then (nhV (evyP (hX S h)), S) else bad S
def fPromise (S : SX) (h l : Int32) : Int64 × SX := if okc S h ∧ okl1 (hX S h) l then (lN (prC (hX S h) (tn l) (hX S h 0 + 1 - tn l) 0) - lN (cst (hX S h) (hX S h 0) 0), S) else badJ S
def fShape (S : SX) (h l : Int32) : Int32 × SX := if okc S h ∧ okl1 (hX S h) l then (nhV (barP (hX S h) (tn l)), S) else bad S
def fOdd (S : SX) (h l : Int32) : Int32 × SX := if okc S h ∧ okl1 (hX S h) l then (nhV (oddP (hX S h) (tn l)), S) else bad S
def fJudge (S : SX) (h s r : Int32) : Int32 × SX := if okc S h ∧ okt (hX S h) s ∧ oks r then (match shX S r with
  | none => (-4, refX S 2)
  | some (.inr _) => (-3, refX S 1)
  | some (.inl q) => if q.2.1 < hX S h 4 then bad S else (nI (jdP (hX S h) (tn s) q.2.2), S)) else bad S
def boA (S : SX) (N : Nat → Nat) : Nat → Option Nat × Nat
  | 0 => (none, 0)
  | s + 1 => match S.2.2.2.1 s with
    | some (.inr q) => if (boA S N s).1 = none ∨ rCs N q.1 q.2.1 q.2.2.1 q.2.2.2 (N 0) 0 < (boA S N s).2 then (some s, rCs N q.1 q.2.1 q.2.2.1 q.2.2.2 (N 0) 0) else boA S N s
    | _ => boA S N s
def fBoy (S : SX) (h : Int32) : Int32 × SX := if okc S h then (match (boA S (hX S h) 8).1 with
  | none => (-5, refX S 3)
  | some s => (nI s, S)) else bad S
def fHouseOf (S : SX) (h w : Int32) : Int32 × SX := if okc S h ∧ 0 ≤ w.toInt ∧ w.toInt ≤ 4 then (nI (hX S h (tn w)), S) else bad S
def fSortOf (S : SX) (h k w : Int32) : Int32 × SX := if okc S h ∧ okk (hX S h) k ∧ 0 ≤ w.toInt ∧ w.toInt ≤ 4 then (nI (hX S h (5 + 5 * tn k + tn w)), S) else bad S
def fSays (S : SX) (s k : Int32) : Int32 × SX := if oks s ∧ 0 ≤ k.toInt ∧ k.toInt ≤ 5 then (match shX S s with
  | none => (-4, refX S 2)
  | some (.inl _) => (-3, refX S 1)
  | some (.inr q) => if tn k = 0 ∨ tn k = q.1 ∨ (tn k = 1 ∧ q.1 = 3) then (nI (saysP q.1 q.2.1 q.2.2.1 (tn k)), S) else (-3, refX S 1)) else bad S
def fHolds (S : SX) (s : Int32) : Int32 × SX := if oks s then (match shX S s with
  | none => (-1, S)
  | some (.inl q) => (nI q.1, S)
  | some (.inr q) => (nI (10 + q.1), S)) else (-1, S)
def fElement (S : SX) (s i : Int32) : Int64 × SX := if oks s then (match shX S s with
  | some (.inl q) => if 0 ≤ i.toInt ∧ i.toInt < (q.2.1 : Int) then (q.2.2 (tn i), S) else (lN 0, S)
  | _ => (lN 0, S)) else (lN 0, S)
def fWeek (S : SX) (w : Int32) : Int32 × SX := if 0 ≤ w.toInt ∧ w.toInt ≤ 5 then (match S.1.2.2.2 with
  | none => (-5, refX S 3)
  | some ws => (nI (wnP ws.2.2 (tn w)), S)) else bad S
def usX (S : SX) : Nat → Nat
  | 0 => 0
  | s + 1 => match S.2.2.2.1 s with
    | none => usX S s
    | some _ => usX S s + 1
def fStatus (S : SX) (w : Int32) : Int32 × SX := if w.toInt = 0 then (nI S.1.1, S) else if w.toInt = 1 then (nI S.2.2.1.2, S) else if w.toInt = 2 then (S.1.2.2.1, S) else if w.toInt = 3 then (nI (usX S 8), S) else if 12 ≤ w.toInt ∧ w.toInt ≤ 16 then (S.2.2.2.2 (tn w - 12), S) else (-1, S)
/-- calls that change what is known -/
def putW (S : SX) (W : WD) : SX := (W, S.2)
def putT (S : SX) (t : (Nat → Nat) × Nat) : SX := (S.1, S.2.1, t, S.2.2.2)
def putS (S : SX) (s : Nat) (h : SH) : SX := (S.1, S.2.1, S.2.2.1, (fun j => if j = s then h else S.2.2.2.1 j), S.2.2.2.2)
def addW (W : WD) (N : Nat → Nat) : WD := (W.1 + 1, (fun j => if j = W.1 then N else W.2.1 j), W.2.2)
def altW (W : WD) (h : Nat) (N : Nat → Nat) : WD := (W.1, (fun j => if j = h then N else W.2.1 j), W.2.2)
def uN (x : Int32) : Nat := x.toUInt32.toNat
theorem nI_uN (x : Int32) : nI (uN x) = x := by
  apply Int32.toInt_inj.mp
  unfold nI uN
  simp
  exact (BitVec.toInt_eq_toNat_bmod _).symm
theorem uN_tn {x : Int32} (h : 0 ≤ x.toInt) : uN x = tn x := by
  have h1 := nI_uN x
  have h2 : uN x < 2 ^ 32 := x.toUInt32.toNat_lt
  have h3 : x.toInt = (x.toUInt32.toNat : Int).bmod (2 ^ 32) := BitVec.toInt_eq_toNat_bmod _
  have h4 := Int32.toInt_lt x
  unfold tn uN
  unfold uN at h2
  rw [Int.bmod_def] at h3
  omega
def fRow (S : SX) (s t n : Int32) : Int32 × SX := if oks s ∧ (0 ≤ t.toInt ∧ t.toInt ≤ 4) ∧ 0 ≤ n.toInt ∧ n.toInt ≤ 125 then (1, putS S (tn s) (some (.inl (tn t, tn n, fun _ => lN 0)))) else bad S
def fSet (S : SX) (s i : Int32) (v : Int64) : Int32 × SX := if oks s then (match shX S s with
  | none => (-4, refX S 2)
  | some (.inr _) => (-3, refX S 1)
  | some (.inl q) => if 0 ≤ i.toInt ∧ i.toInt < (q.2.1 : Int) then (1, putS S (tn s) (some (.inl (q.1, q.2.1, fun j => if j = tn i then lowP q.1 v else q.2.2 j)))) else bad S) else bad S
def fCopy (S : SX) (p q i j n : Int32) : Int32 × SX := if oks p ∧ oks q then (match shX S p, shX S q with
  | some (.inr _), _ => (-3, refX S 1)
  | _, some (.inr _) => (-3, refX S 1)
  | none, _ => (-4, refX S 2)
  | _, none => (-4, refX S 2)
  | some (.inl a), some (.inl b) => if a.1 ≠ b.1 then (-3, refX S 1) else if (0 ≤ i.toInt ∧ 0 ≤ n.toInt ∧ i.toInt + n.toInt ≤ (a.2.1 : Int)) ∧ 0 ≤ j.toInt ∧ 0 ≤ n.toInt ∧ j.toInt + n.toInt ≤ (b.2.1 : Int) then (n, putS S (tn q) (some (.inl (b.1, b.2.1, fun z => if tn j ≤ z ∧ z < tn j + tn n then a.2.2 (tn i + (z - tn j)) else b.2.2 z)))) else bad S) else bad S
def fRule (S : SX) (s k a : Int32) : Int32 × SX := if oks s ∧ mayP k a then (if k.toInt = 5 then (match shX S a with
  | none => (-4, refX S 2)
  | some (.inr _) => (-3, refX S 1)
  | some (.inl q) => (1, putS S (tn s) (some (.inr (5, uN a, q.2.1, fun i => decide (q.2.2 i ≠ 0))))) ) else (1, putS S (tn s) (some (.inr (tn k, uN a, 0, noF))))) else bad S
def fFeed (S : SX) (v n : Int32) : Int32 × SX := if 1 ≤ n.toInt ∧ n.toInt ≤ 4 then (if tn n ≤ 160 - S.2.2.1.2 then (nI (S.2.2.1.2 + tn n), putT S (feedB S.2.2.1.1 S.2.2.1.2 v (tn n), S.2.2.1.2 + tn n)) else (-6, refX S 4)) else bad S
def fWipe (S : SX) : Int32 × SX := (nI S.2.2.1.2, putT S (S.2.2.1.1, 0))
def fHouse (S : SX) : Int32 × SX := if S.1.1 = 6 then (-6, refX S 4) else (match rdL S.2.2.1.1 S.2.2.1.2 161 clearP (adv S.2.2.1.1 S.2.2.1.2 0) with
  | (none, M) => (nI S.1.1, putT (putW S (addW S.1 M)) (S.2.2.1.1, 0))
  | (some f, _) => ((-20 : Int32) - nI f, refX (putT S (S.2.2.1.1, 0)) 0))
def fAlter (S : SX) (h w v : Int32) : Int32 × SX := if okc S h ∧ (0 ≤ w.toInt ∧ w.toInt ≤ 2) ∧ mLo1 (1 + tn w) ≤ v.toInt ∧ v.toInt ≤ mHi1 (1 + tn w) then (nI (hX S h (1 + tn w)), putW S (altW S.1 (tn h) (numP (hX S h) (1 + tn w) (tn v)))) else bad S
def fChange (S : SX) (h k w v : Int32) : Int32 × SX := if okc S h ∧ okk (hX S h) k ∧ (0 ≤ w.toInt ∧ w.toInt ≤ 3) ∧ mLo2 (1 + tn w) ≤ v.toInt ∧ v.toInt ≤ mHi2 (1 + tn w) then (nI (hX S h (5 + 5 * tn k + (1 + tn w))), putW S (altW S.1 (tn h) (numP (hX S h) (5 + 5 * tn k + (1 + tn w)) (tn v)))) else bad S
def fJoin (S : SX) (h o : Int32) : Int32 × SX := if okc S h ∧ okc S o ∧ h ≠ o then (if hX S h 0 = hX S o 0 ∧ hX S h 4 + hX S o 4 ≤ 3 then (if S.1.1 = 6 then (-6, refX S 4) else (nI S.1.1, putW S (addW S.1 (addO (hX S h) (hX S o) (hX S o 4))))) else (-5, refX S 3)) else bad S
/-- what it saves that two share a box -/
def svP (N M : Nat → Nat) : Nat := cst N (N 0) 0 * 4 ^ (N 0 * M 4) + cst M (N 0) 0 * 4 ^ (N 0 * N 4) - cst (addO N M (M 4)) (N 0) 0
def fSaved (S : SX) (h o : Int32) : Int64 × SX := if okc S h ∧ okc S o ∧ h ≠ o then (if hX S h 0 = hX S o 0 ∧ hX S h 4 + hX S o 4 ≤ 3 then (lN (svP (hX S h) (hX S o)), S) else ((-5 : Int32).toInt64, refX S 3)) else badJ S
def fSeed (S : SX) (v : Int32) : Int32 × SX := (S.1.2.2.1, putW S (S.1.1, S.1.2.1, v, S.1.2.2.2))
def fBegin (S : SX) (h r : Int32) : Int32 × SX := if okc S h ∧ oks r then (match shX S r with
  | none => (-4, refX S 2)
  | some (.inl _) => (-3, refX S 1)
  | some (.inr q) => (nI (hX S h 0), putW S (S.1.1, S.1.2.1, S.1.2.2.1, some (hX S h, q, (hX S h 0, 0, 0, 0, 0, 0))))) else bad S
def fStep (D : Int32 → Int32) (vl : Int32 → Nat) (S : SX) (n : Int32) : Int32 × SX := if 1 ≤ n.toInt ∧ n.toInt ≤ 6 then (match S.1.2.2.2 with
  | none => (-5, refX S 3)
  | some ws => if ws.2.2.1 = 0 then (-5, refX S 3) else (nI (pdA D vl ws.1 (ruR ws.1 ws.2.1) ws.2.2 S.1.2.2.1 (tn n)).1, putW S (S.1.1, S.1.2.1, (pdA D vl ws.1 (ruR ws.1 ws.2.1) ws.2.2 S.1.2.2.1 (tn n)).2.2, some (ws.1, ws.2.1, (pdA D vl ws.1 (ruR ws.1 ws.2.1) ws.2.2 S.1.2.2.1 (tn n)).2.1)))) else bad S
/-- so many weeks by draws: coins, draws -/
def weP (D : Int32 → Int32) (vl : Int32 → Nat) (N : Nat → Nat) (L : Nat → Nat → Nat) (d : Int32) : Nat → Nat × Int32
  | 0 => (0, d)
  | i + 1 => ((weP D vl N L d i).1 + (pdA D vl N L (N 0, 0, 0, 0, 0, 0) (weP D vl N L d i).2 6).1, (pdA D vl N L (N 0, 0, 0, 0, 0, 0) (weP D vl N L d i).2 6).2.2)
def fWeeks (D : Int32 → Int32) (vl : Int32 → Nat) (S : SX) (h r n : Int32) : Int32 × SX := if okc S h ∧ oks r ∧ 1 ≤ n.toInt ∧ n.toInt ≤ 50 then (match shX S r with
  | none => (-4, refX S 2)
  | some (.inl _) => (-3, refX S 1)
  | some (.inr q) => (nI (weP D vl (hX S h) (ruR (hX S h) q) S.1.2.2.1 (tn n)).1, putW S (S.1.1, S.1.2.1, (weP D vl (hX S h) (ruR (hX S h) q) S.1.2.2.1 (tn n)).2, S.1.2.2.2))) else bad S
def fImage (S : SX) : Int32 × SX := (1, S.1, some S.1, S.2.2)
def fBack (S : SX) : Int32 × SX := match S.2.1 with
  | none => (-5, refX S 3)
  | some W => (1, putW S W)
