/-! ===== tell: what a tape says ===== -/
/-- units of trader t from the u-th on: fault, hall, place -/
def tU (b : Int → Int) (n t : Int) : Nat → Int → zS → Int → Int × zS × Int
  | 0, _, S, p => (0, S, p)
  | f + 1, u, S, p =>
    if isD (bt b n p) = false then (0, S, p)
    else if 9999 < nmV b n p then (8 * p + 2, S, nmQ b n p)
    else if ¬ fitP S t u (nmV b n p) then (8 * p + 2, S, nmQ b n p)
    else if 4 ≤ u then (8 * p + 3, S, nmQ b n p)
    else tU b n t f (u + 1) (sAdd S t (nmV b n p)) (sk isB b n (nmQ b n p))
/-- what is read so far: hall, fee told, law told, place; and its fault -/
abbrev zT7 : Type := Int × zS × Int × Int × Int
def nmF (b : Int → Int) (n p m : Int) : Int := if nmQ b n p = nmI b n p then 8 * nmI b n p + 1 else if m < nmV b n p then 8 * nmI b n p + 2 else 0
def tTr (b : Int → Int) (n : Int) (S : zS) (hf hl i p s : Int) : zT7 :=
  if 20 ≤ qn S then (8 * i + 3, S, hf, hl, p)
  else if nmF b n p 3 ≠ 0 then (nmF b n p 3, S, hf, hl, nmQ b n p)
  else ((tU b n (qn S) 5 0 (sCome S s (nmV b n p)) (sk isB b n (nmQ b n p))).1, (tU b n (qn S) 5 0 (sCome S s (nmV b n p)) (sk isB b n (nmQ b n p))).2.1, hf, hl, (tU b n (qn S) 5 0 (sCome S s (nmV b n p)) (sk isB b n (nmQ b n p))).2.2)
def tPf (b : Int → Int) (n : Int) (S : zS) (hf hl i p : Int) : zT7 :=
  if hf ≠ 0 then (8 * i + 3, S, hf, hl, p)
  else (nmF b n p 500, if nmF b n p 500 = 0 then sSc S 1 (nmV b n p) else S, 1, hl, nmQ b n p)
/-- the word at i with no letter behind it -/
def isX (s : Nat) (b : Int → Int) (n i : Int) : Bool := isWd s b n i && !isL (bt b n (i + zl_ s))
def tLw (b : Int → Int) (n : Int) (S : zS) (hf hl i p : Int) : zT7 :=
  if hl ≠ 0 then (8 * i + 3, S, hf, hl, p)
  else if isX 4 b n (sk isB b n p) = true then (0, sSc S 2 0, hf, 1, sk isB b n p + zl_ 4)
  else if isX 5 b n (sk isB b n p) = true then (0, sSc S 2 1, hf, 1, sk isB b n p + zl_ 5)
  else if isX 6 b n (sk isB b n p) = true then (0, sSc S 2 2, hf, 1, sk isB b n p + zl_ 6)
  else if isX 7 b n (sk isB b n p) = true then (0, sSc S 2 3, hf, 1, sk isB b n p + zl_ 7)
  else (8 * sk isB b n p + 1, S, hf, 1, sk isB b n p)
def tPt (b : Int → Int) (n : Int) (S : zS) (hf hl p : Int) : zT7 :=
  if isX 0 b n (sk isB b n p) = true then tTr b n S hf hl (sk isB b n p) (sk isB b n p + zl_ 0) 0
  else if isX 1 b n (sk isB b n p) = true then tTr b n S hf hl (sk isB b n p) (sk isB b n p + zl_ 1) 1
  else if isX 2 b n (sk isB b n p) = true then tPf b n S hf hl (sk isB b n p) (sk isB b n p + zl_ 2)
  else if isX 3 b n (sk isB b n p) = true then tLw b n S hf hl (sk isB b n p) (sk isB b n p + zl_ 3)
  else (8 * sk isB b n p + 1, S, hf, hl, sk isB b n p)

