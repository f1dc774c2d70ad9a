/-! texts: bytes t, places by number -/
def bt (t : List Int) (i : Nat) : Int := t.getD i (-1)
def skF (t : List Int) : Nat → Nat → Nat
  | 0, i => i
  | n + 1, i => if bt t i = 32 then skF t n (i + 1) else i
def sk (t : List Int) (i : Nat) : Nat := skF t (t.length - i) i
/-- the byte that isn't blank at or behind i; -1 at the end -/
def lk (t : List Int) (i : Nat) : Int := bt t (sk t i)
/-- digits from i on: at most m of them; the value, the place behind; or the FAULT -/
def nmF (t : List Int) (m : Nat) : Nat → Nat → Nat → Int → Nat ⊕ (Nat × Int)
  | 0, i, c, v => if c = 0 then .inl i else .inr (i, v)
  | n + 1, i, c, v => if 48 ≤ bt t i ∧ bt t i ≤ 57 then (if c = m then .inl i else nmF t m n (i + 1) (c + 1) (v * 10 + bt t i - 48)) else (if c = 0 then .inl i else .inr (i, v))
def nm (t : List Int) (m i : Nat) : Nat ⊕ (Nat × Int) := nmF t m (t.length - i) i 0 0
/-! a WISH: its code with each sign behind what it joins; what it is worth, by the letters' numbers -/
abbrev Vl : Type := (Int → Int) → Int
abbrev PR : Type := Nat ⊕ (Nat × List Int × Vl)
def prB (r : PR) (f : Nat → List Int → Vl → PR) : PR := match r with
  | .inl e => .inl e
  | .inr (k, c, v) => f k c v
def prX (t : List Int) (b : Int) (k : Nat) (c : List Int) (v : Vl) : PR := if lk t k = b then .inr (sk t k + 1, c, v) else .inl (sk t k)
def bnd (x : Int) : Int := max (-1000000) (min 1000000 x)
def jn (s l r : Int) : Int :=
  if s = 43 then bnd (l + r) else if s = 45 then bnd (l - r) else if s = 42 then bnd (l * r) else if s = 47 then (if r = 0 then 0 else bnd (l.tdiv r))
  else if s = 61 then (if l = r then 1 else 0) else if s = 60 then (if l < r then 1 else 0) else if s = 62 then (if r < l then 1 else 0) else if s = 38 then iAnd l r else iOr l r
def sw (c : List Int) (s : Int) : List Int := if s = 0 then c else c ++ [-s]
def sv (s : Int) (u v : Vl) : Vl := if s = 0 then v else fun ρ => jn s (u ρ) (v ρ)
def v0 : Vl := fun _ => 0
def app (c : List Int) (r : PR) : PR := prB r (fun k c2 v => .inr (k, c ++ c2, v))
/-- parts joined by the signs J; m: the sign ahead, w: what stands ahead of it -/
def lpF (t : List Int) (J : Int → Bool) (A : Option Vl → Nat → PR) : Nat → Option Vl → Int → Vl → Nat → PR
  | 0, _, _, _, i => .inl i
  | n + 1, f, m, w, i => prB (A f i) (fun k c v => if J (lk t k) = true then app (sw c m) (lpF t J A n none (lk t k) (sv m w v) (sk t k + 1)) else .inr (sk t k, sw c m, sv m w v))
def J1 (x : Int) : Bool := decide (x = 42 ∨ x = 47)
def J2 (x : Int) : Bool := decide (x = 43 ∨ x = 45)
def J3 (x : Int) : Bool := decide (x = 38)
def J4 (x : Int) : Bool := decide (x = 124)
def isLt (x : Int) : Prop := x = 103 ∨ x = 112 ∨ x = 116 ∨ x = 115 ∨ x = 110
def isCm (x : Int) : Prop := x = 61 ∨ x = 60 ∨ x = 62
def atF (t : List Int) (S : Option (Nat → PR)) (i : Nat) : PR :=
  if lk t i = 91 then (match S with
    | none => .inl (sk t i)
    | some S => prB (S (sk t i + 1)) (prX t 93))
  else if lk t i = 103 ∨ lk t i = 112 ∨ lk t i = 116 ∨ lk t i = 115 ∨ lk t i = 110 then .inr (sk t i + 1, [-lk t i], fun ρ => ρ (lk t i))
  else match nm t 4 (sk t i) with
    | .inl e => .inl e
    | .inr (k, v) => .inr (k, [v], fun _ => v)
def tmL (t : List Int) (A : Nat → PR) (i : Nat) : PR := lpF t J1 (fun _ => A) 161 none 0 v0 i
def smL (t : List Int) (T : Nat → PR) (i : Nat) : PR := lpF t J2 (fun _ => T) 161 none 0 v0 i
/-- SUM; e: how much deeper it may go -/
def smP (t : List Int) : Nat → Nat → PR
  | 0 => smL t (tmL t (atF t none))
  | e + 1 => smL t (tmL t (atF t (some (smP t e))))
def atP (t : List Int) : Nat → Nat → PR
  | 0 => atF t none
  | e + 1 => atF t (some (smP t e))
def tmP (t : List Int) (e : Nat) : Nat → PR := tmL t (atP t e)
theorem smP_eq (t : List Int) (e : Nat) : smP t e = smL t (tmP t e) := by cases e <;> rfl
/-- behind the first SUM of a comparison -/
def cmF (t : List Int) (S : Nat → PR) (k : Nat) (c : List Int) (u : Vl) : PR := if lk t k = 61 ∨ lk t k = 60 ∨ lk t k = 62 then prB (S (sk t k + 1)) (fun k2 c2 v2 => .inr (k2, c ++ c2 ++ [-lk t k], fun ρ => jn (lk t k) (u ρ) (v2 ρ))) else .inl (sk t k)
def ntV (v : Vl) : Vl := fun ρ => if v ρ = 0 then 1 else 0
def unF (t : List Int) (S : Nat → PR) (UC : Option ((Nat → PR) × (Nat → PR))) (f : Option Vl) (i : Nat) : PR := match f with
  | some u => cmF t S i [] u
  | none => if lk t i = 33 then (match UC with
      | none => .inl (sk t i)
      | some q => prB (q.1 (sk t i + 1)) (fun k c v => .inr (k, c ++ [-33], ntV v)))
    else if lk t i = 40 then (match UC with
      | none => .inl (sk t i)
      | some q => prB (q.2 (sk t i + 1)) (prX t 41))
    else prB (S i) (cmF t S)
def trL (t : List Int) (U : Option Vl → Nat → PR) (f : Option Vl) (i : Nat) : PR := lpF t J3 U 161 f 0 v0 i
def cdL (t : List Int) (T : Option Vl → Nat → PR) (f : Option Vl) (i : Nat) : PR := lpF t J4 T 161 f 0 v0 i
/-- UNIT; e: how much deeper it may go; f: its first SUM, if it is read -/
def unP (t : List Int) : Nat → Option Vl → Nat → PR
  | 0 => unF t (smP t 0) none
  | e + 1 => unF t (smP t (e + 1)) (some (unP t e none, cdL t (trL t (unP t e)) none))
def trP (t : List Int) (e : Nat) : Option Vl → Nat → PR := trL t (unP t e)
def cdP (t : List Int) (e : Nat) : Option Vl → Nat → PR := cdL t (trP t e)
/-- a CLAUSE: its code, when it holds (not 0), its WORTH -/
abbrev PC : Type := Nat ⊕ (Nat × List Int × Vl × Vl)
/-- behind a CONDITION: ? SUM; z words stand ahead of the CLAUSE -/
def pcT (t : List Int) (z : Nat) (c0 : List Int) (r : PR) : PC := match prB r (prX t 63) with
  | .inl e => .inl e
  | .inr (k, c, b) => match smP t 6 k with
    | .inl e => .inl e
    | .inr (k2, c2, v) => .inr (k2, c0 ++ c ++ [-63, ((z + c0.length + c.length + 2 + c2.length + 1 : Nat) : Int)] ++ c2 ++ [-59], b, v)
def pcl (t : List Int) (z i : Nat) : PC := match prX t 121 i [] v0 with
  | .inl e => .inl e
  | .inr (k0, _, _) => match prX t 58 k0 [] v0 with
    | .inl e => .inl e
    | .inr (k, _, _) =>
      if lk t k = 33 ∨ lk t k = 40 then pcT t z [] (cdP t 6 none k)
      else match smP t 6 k with
        | .inl e => .inl e
        | .inr (k1, c1, v1) => if lk t k1 = 61 ∨ lk t k1 = 60 ∨ lk t k1 = 62 then pcT t z c1 (cdP t 6 (some v1) k1) else .inr (k1, c1 ++ [-59], fun _ => 1, v1)
def pcs (t : List Int) : Nat → Nat → List Int → List (Vl × Vl) → Nat ⊕ (Nat × List Int × List (Vl × Vl))
  | 0, i, _, _ => .inl i
  | n + 1, i, c, l => match pcl t c.length i with
    | .inl e => .inl e
    | .inr (k, c1, b, v) => if lk t k = 59 then pcs t n (sk t k + 1) (c ++ c1) (l ++ [(b, v)]) else if lk t k = -1 then .inr (sk t k, c ++ c1, l ++ [(b, v)]) else .inl (sk t k)
def wRdV (t : List Int) : Nat ⊕ (Nat × List Int × List (Vl × Vl)) := pcs t 161 0 [] []
/-- a WISH: its FAULT, or its code -/
def wRd (t : List Int) : Nat ⊕ (Nat × List Int) := match wRdV t with
  | .inl e => .inl e
  | .inr (k, c, _) => .inr (k, c)
def wCl (t : List Int) : List (Vl × Vl) := match wRdV t with
  | .inl _ => []
  | .inr (_, _, l) => l
def wrF (ρ : Int → Int) : List (Vl × Vl) → Int
  | [] => 0
  | q :: r => if q.1 ρ = 0 then wrF ρ r else q.2 ρ
/-! a GARDEN -/
def grF (t : List Int) : Nat → List Int → Nat → Nat ⊕ (Nat × List Int)
  | 0, _, i => .inl i
  | n + 1, hs, i => match nm t 2 (sk t i) with
    | .inl e => .inl e
    | .inr (k, v) => if lk t k = 44 then (if hs.length + 1 = 24 then .inl (sk t k) else grF t n (hs ++ [v]) (sk t k + 1)) else if 4 ≤ hs.length + 1 ∧ (hs.length + 1) % 2 = 0 then .inr (sk t k, hs ++ [v]) else .inl (sk t k)
def ixF (b : Int) : List Int → Int → Int
  | [], _ => -1
  | x :: l, j => if x = b then j else ixF b l (j + 1)
def upv (f : Int → Int) (j x : Int) : Int → Int := fun i => if i = j then x else f i
def itF (t : List Int) (L : List Int) (lo hi : Int → Int) : Nat → Int → (Int → Int) → Nat → Nat ⊕ (Nat × (Int → Int))
  | 0, _, v, i => .inr (i, v)
  | n + 1, d, v, i => if ixF (lk t i) L 0 = -1 then .inr (sk t i, v) else if iAnd (iShr d (ixF (lk t i) L 0)) 1 ≠ 0 then .inl (sk t i) else match nm t 2 (sk t (sk t i + 1)) with
    | .inl e => .inl e
    | .inr (k, x) => if x < lo (ixF (lk t i) L 0) ∨ hi (ixF (lk t i) L 0) < x then .inl (k - 1) else itF t L lo hi n (iOr d (iShl 1 (ixF (lk t i) L 0))) (upv v (ixF (lk t i) L 0) x) k
def tbL : List Int := [97, 119, 120, 121, 122]
def cdLt : List Int := [116, 110]
def tLo (j : Int) : Int := if j = 0 then 1 else 0
def tHi (j : Int) : Int := if j = 0 then 11 else 99
def cLo (j : Int) : Int := if j = 0 then 1 else 0
def cHi (j : Int) : Int := if j = 0 then 20 else 9
/-- HEIGHTS, the table's items, CARDS that are read -/
abbrev GS : Type := List Int × Option (Int → Int) × List (Int × Int)
def gcF (t : List Int) (q : GS) (i : Nat) : Nat ⊕ (Nat × GS) :=
  if lk t i = 103 ∧ q.1 = [] then (match grF t 24 [] (sk t i + 1) with
    | .inl e => .inl e
    | .inr (k, hs) => .inr (k, hs, q.2))
  else if lk t i = 116 ∧ q.2.1 = none then (match itF t tbL tLo tHi 6 0 (fun j => if j = 0 then 1 else 0) (sk t i + 1) with
    | .inl e => .inl e
    | .inr (k, v) => .inr (k, q.1, some v, q.2.2))
  else if lk t i = 99 ∧ q.2.2.length < 4 then (match itF t cdLt cLo cHi 3 0 (fun _ => 1) (sk t i + 1) with
    | .inl e => .inl e
    | .inr (k, v) => .inr (k, q.1, q.2.1, q.2.2 ++ [(v 0, v 1)]))
  else .inl (sk t i)
def gsF (t : List Int) : Nat → GS → Nat → Nat ⊕ (Nat × GS)
  | 0, _, i => .inl i
  | n + 1, q, i => match gcF t q i with
    | .inl e => .inl e
    | .inr (k, q2) => if lk t k = 59 then gsF t n q2 (sk t k + 1) else .inr (k, q2)
def gIt (q : GS) : Int → Int := match q.2.1 with
  | none => fun j => if j = 0 then 1 else 0
  | some v => v
def gOf (q : GS) : (Int × Int × Int) × (Int → Int) × (Int → Int) × (Int → Int) × (Int → Int) :=
  (((q.1.length : Int), gIt q 0, (q.2.2.length : Int)), (fun i => if 0 ≤ i ∧ i < q.1.length then q.1.getD i.toNat 0 else 0), (fun l => if 0 ≤ l ∧ l < 4 then gIt q (l + 1) else 0),
    (fun s => if 0 ≤ s ∧ s < q.2.2.length then (q.2.2.getD s.toNat (1, 0)).1 else 1), fun s => if 0 ≤ s ∧ s < q.2.2.length then (q.2.2.getD s.toNat (1, 0)).2 else 0)
def gRd (t : List Int) : Nat ⊕ ((Int × Int × Int) × (Int → Int) × (Int → Int) × (Int → Int) × (Int → Int)) := match gsF t 161 ([], none, []) 0 with
  | .inl e => .inl e
  | .inr (k, q) => if lk t k ≠ -1 then .inl (sk t k) else if q.1 = [] ∨ (q.1.length : Int) / 2 ≤ gIt q 0 then .inl t.length else .inr (gOf q)
