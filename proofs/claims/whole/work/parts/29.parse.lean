/-! a WISH's text as code with each sign behind what it joins: bytes t, places by number -/
def bt (t : List Int) (i : Nat) : Int := t.getD i (-1)
def skF (t : List Int) : Nat → Nat → Nat
  | 0, i => i
  | n + 1, i => if bt t i = 32 then skF t n (i + 1) else i
def sk (t : List Int) (i : Nat) : Nat := skF t (t.length - i) i
/-- the byte that isn't blank at or behind i; -1 at the end -/
def lk (t : List Int) (i : Nat) : Int := bt t (sk t i)
/-- digits from i on: at most m of them; the value, the place behind; or the FAULT -/
def nmF (t : List Int) (m : Nat) : Nat → Nat → Nat → Int → Nat ⊕ (Nat × Int)
  | 0, i, c, v => if c = 0 then .inl i else .inr (i, v)
  | n + 1, i, c, v => if 48 ≤ bt t i ∧ bt t i ≤ 57 then (if c = m then .inl i else nmF t m n (i + 1) (c + 1) (v * 10 + bt t i - 48)) else (if c = 0 then .inl i else .inr (i, v))
def nm (t : List Int) (m i : Nat) : Nat ⊕ (Nat × Int) := nmF t m (t.length - i) i 0 0
abbrev PR : Type := Nat ⊕ (Nat × List Int)
def prB (r : PR) (f : Nat → List Int → PR) : PR := match r with
  | .inl e => .inl e
  | .inr (k, c) => f k c
def prX (t : List Int) (b : Int) (k : Nat) (c : List Int) : PR := if lk t k = b then .inr (sk t k + 1, c) else .inl (sk t k)
/-- 0 ATOM; 1 TERM (behind the sign f); 2 SUM (behind the sign f); 3 UNIT (f = 1: its first SUM is read); 4 TRUTH (f likewise), 6 behind a first UNIT; 5 CONDITION (f likewise), 7 behind a first TRUTH; d: how deep -/
def psr (t : List Int) : Nat → Nat → Nat → Int → Nat → PR
  | 0, _, _, _, i => .inl i
  | n + 1, 0, d, _, i =>
    if lk t i = 91 then (if 6 ≤ d then .inl (sk t i) else prB (psr t n 2 (d + 1) 0 (sk t i + 1)) (prX t 93))
    else if lk t i = 103 ∨ lk t i = 112 ∨ lk t i = 116 ∨ lk t i = 115 ∨ lk t i = 110 then .inr (sk t i + 1, [-lk t i])
    else match nm t 4 (sk t i) with
      | .inl e => .inl e
      | .inr (k, v) => .inr (k, [v])
  | n + 1, 1, d, f, i => prB (psr t n 0 d 0 i) (fun k c => if lk t k = 42 ∨ lk t k = 47 then prB (psr t n 1 d (lk t k) (sk t k + 1)) (fun k2 c2 => .inr (k2, c ++ (if f = 0 then [] else [-f]) ++ c2)) else .inr (sk t k, c ++ (if f = 0 then [] else [-f])))
  | n + 1, 2, d, f, i => prB (psr t n 1 d 0 i) (fun k c => if lk t k = 43 ∨ lk t k = 45 then prB (psr t n 2 d (lk t k) (sk t k + 1)) (fun k2 c2 => .inr (k2, c ++ (if f = 0 then [] else [-f]) ++ c2)) else .inr (sk t k, c ++ (if f = 0 then [] else [-f])))
  | n + 1, 3, d, f, i =>
    if f = 0 ∧ lk t i = 33 then (if 6 ≤ d then .inl (sk t i) else prB (psr t n 3 (d + 1) 0 (sk t i + 1)) (fun k c => .inr (k, c ++ [-33])))
    else if f = 0 ∧ lk t i = 40 then (if 6 ≤ d then .inl (sk t i) else prB (psr t n 5 (d + 1) 0 (sk t i + 1)) (prX t 41))
    else prB (if f = 0 then psr t n 2 d 0 i else .inr (i, [])) (fun k c => if lk t k = 61 ∨ lk t k = 60 ∨ lk t k = 62 then prB (psr t n 2 d 0 (sk t k + 1)) (fun k2 c2 => .inr (k2, c ++ c2 ++ [-lk t k])) else .inl (sk t k))
  | n + 1, 4, d, f, i => prB (psr t n 3 d f i) (fun k c => if lk t k = 38 then prB (psr t n 6 d 0 (sk t k + 1)) (fun k2 c2 => .inr (k2, c ++ c2)) else .inr (sk t k, c))
  | n + 1, 5, d, f, i => prB (psr t n 4 d f i) (fun k c => if lk t k = 124 then prB (psr t n 7 d 0 (sk t k + 1)) (fun k2 c2 => .inr (k2, c ++ c2)) else .inr (sk t k, c))
  | n + 1, 6, d, _, i => prB (psr t n 3 d 0 i) (fun k c => if lk t k = 38 then prB (psr t n 6 d 0 (sk t k + 1)) (fun k2 c2 => .inr (k2, c ++ [-38] ++ c2)) else .inr (sk t k, c ++ [-38]))
  | n + 1, _ + 7, d, _, i => prB (psr t n 4 d 0 i) (fun k c => if lk t k = 124 then prB (psr t n 7 d 0 (sk t k + 1)) (fun k2 c2 => .inr (k2, c ++ [-124] ++ c2)) else .inr (sk t k, c ++ [-124]))
def psN : Nat := 2000
/-- behind a CONDITION: ? SUM; z words stand ahead of the CLAUSE -/
def pcT (t : List Int) (z : Nat) (k : Nat) (c : List Int) : PR := prB (prX t 63 k c) (fun k1 c1 => prB (psr t psN 2 0 0 k1) (fun k2 c2 => .inr (k2, c1 ++ [-63, ((z + c1.length + 2 + c2.length + 1 : Nat) : Int)] ++ c2 ++ [-59])))
def pcl (t : List Int) (z i : Nat) : PR := prB (prX t 121 i []) (fun k _ => prB (prX t 58 k []) (fun k _ =>
  if lk t k = 33 ∨ lk t k = 40 then prB (psr t psN 5 0 0 k) (pcT t z)
  else prB (psr t psN 2 0 0 k) (fun k1 c1 => if lk t k1 = 61 ∨ lk t k1 = 60 ∨ lk t k1 = 62 then prB (psr t psN 5 0 1 k1) (fun k2 c2 => pcT t z k2 (c1 ++ c2)) else .inr (k1, c1 ++ [-59]))))
def pcs (t : List Int) : Nat → Nat → List Int → PR
  | 0, i, _ => .inl i
  | n + 1, i, c => prB (pcl t c.length i) (fun k c1 => if lk t k = 59 then pcs t n (sk t k + 1) (c ++ c1) else if lk t k = -1 then .inr (sk t k, c ++ c1) else .inl (sk t k))
/-- a WISH: its FAULT, or its code -/
def wRd (t : List Int) : PR := pcs t 161 0 []
