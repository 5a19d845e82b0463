/-! THE NET AS NUMBERS AND LISTS: what both the class and the model do, told once. The numbers stand where the model keeps them: 0 links, 1 flows, 2 tick; 6 losses so far, 7 blind; a link's at 8 + 40 l, a flow's at 248 + 20 f, a packet's at 368 + 8 p. Rows, wires, those that come back: lists of packets; events, past windows: the latest last. -/
abbrev nT : Type := (Nat → Int) × (Nat → List Nat) × (Nat → List Nat) × List Nat × List (Int × Int × Int × Int) × List (Nat → Int)
def nA (N : nT) (k : Nat) : Int := N.1 k
def nR (N : nT) (l : Nat) : List Nat := N.2.1 l
def nW (N : nT) (l : Nat) : List Nat := N.2.2.1 l
def nK (N : nT) : List Nat := N.2.2.2.1
def nE (N : nT) : List (Int × Int × Int × Int) := N.2.2.2.2.1
def nP (N : nT) : List (Nat → Int) := N.2.2.2.2.2
def uA (N : nT) (k : Nat) (z : Int) : nT := (fun j => if j = k then z else N.1 j, N.2)
def uR (N : nT) (l : Nat) (r : List Nat) : nT := (N.1, fun j => if j = l then r else N.2.1 j, N.2.2)
def uW (N : nT) (l : Nat) (r : List Nat) : nT := (N.1, N.2.1, fun j => if j = l then r else N.2.2.1 j, N.2.2.2)
def uK (N : nT) (r : List Nat) : nT := (N.1, N.2.1, N.2.2.1, r, N.2.2.2.2)
def uE (N : nT) (r : List (Int × Int × Int × Int)) : nT := (N.1, N.2.1, N.2.2.1, N.2.2.2.1, r, N.2.2.2.2.2)
def uP (N : nT) (r : List (Nat → Int)) : nT := (N.1, N.2.1, N.2.2.1, N.2.2.2.1, N.2.2.2.2.1, r)
theorem nA_uA (N : nT) (k j : Nat) (z : Int) : nA (uA N k z) j = if j = k then z else nA N j := rfl
theorem nA_uR (N : nT) (l j : Nat) (r : List Nat) : nA (uR N l r) j = nA N j := rfl
theorem nA_uW (N : nT) (l j : Nat) (r : List Nat) : nA (uW N l r) j = nA N j := rfl
theorem nA_uK (N : nT) (j : Nat) (r : List Nat) : nA (uK N r) j = nA N j := rfl
theorem nA_uE (N : nT) (j : Nat) (r : List (Int × Int × Int × Int)) : nA (uE N r) j = nA N j := rfl
theorem nA_uP (N : nT) (j : Nat) (r : List (Nat → Int)) : nA (uP N r) j = nA N j := rfl
theorem nR_uA (N : nT) (k j : Nat) (z : Int) : nR (uA N k z) j = nR N j := rfl
theorem nR_uR (N : nT) (l j : Nat) (r : List Nat) : nR (uR N l r) j = if j = l then r else nR N j := rfl
theorem nR_uW (N : nT) (l j : Nat) (r : List Nat) : nR (uW N l r) j = nR N j := rfl
theorem nR_uK (N : nT) (j : Nat) (r : List Nat) : nR (uK N r) j = nR N j := rfl
theorem nR_uE (N : nT) (j : Nat) (r : List (Int × Int × Int × Int)) : nR (uE N r) j = nR N j := rfl
theorem nR_uP (N : nT) (j : Nat) (r : List (Nat → Int)) : nR (uP N r) j = nR N j := rfl
theorem nW_uA (N : nT) (k j : Nat) (z : Int) : nW (uA N k z) j = nW N j := rfl
theorem nW_uR (N : nT) (l j : Nat) (r : List Nat) : nW (uR N l r) j = nW N j := rfl
theorem nW_uW (N : nT) (l j : Nat) (r : List Nat) : nW (uW N l r) j = if j = l then r else nW N j := rfl
theorem nW_uK (N : nT) (j : Nat) (r : List Nat) : nW (uK N r) j = nW N j := rfl
theorem nW_uE (N : nT) (j : Nat) (r : List (Int × Int × Int × Int)) : nW (uE N r) j = nW N j := rfl
theorem nW_uP (N : nT) (j : Nat) (r : List (Nat → Int)) : nW (uP N r) j = nW N j := rfl
theorem nK_uA (N : nT) (k : Nat) (z : Int) : nK (uA N k z) = nK N := rfl
theorem nK_uR (N : nT) (l : Nat) (r : List Nat) : nK (uR N l r) = nK N := rfl
theorem nK_uW (N : nT) (l : Nat) (r : List Nat) : nK (uW N l r) = nK N := rfl
theorem nK_uK (N : nT) (r : List Nat) : nK (uK N r) = r := rfl
theorem nK_uE (N : nT) (r : List (Int × Int × Int × Int)) : nK (uE N r) = nK N := rfl
theorem nK_uP (N : nT) (r : List (Nat → Int)) : nK (uP N r) = nK N := rfl
theorem nE_uA (N : nT) (k : Nat) (z : Int) : nE (uA N k z) = nE N := rfl
theorem nE_uR (N : nT) (l : Nat) (r : List Nat) : nE (uR N l r) = nE N := rfl
theorem nE_uW (N : nT) (l : Nat) (r : List Nat) : nE (uW N l r) = nE N := rfl
theorem nE_uK (N : nT) (r : List Nat) : nE (uK N r) = nE N := rfl
theorem nE_uE (N : nT) (r : List (Int × Int × Int × Int)) : nE (uE N r) = r := rfl
theorem nE_uP (N : nT) (r : List (Nat → Int)) : nE (uP N r) = nE N := rfl
theorem nP_uA (N : nT) (k : Nat) (z : Int) : nP (uA N k z) = nP N := rfl
theorem nP_uR (N : nT) (l : Nat) (r : List Nat) : nP (uR N l r) = nP N := rfl
theorem nP_uW (N : nT) (l : Nat) (r : List Nat) : nP (uW N l r) = nP N := rfl
theorem nP_uK (N : nT) (r : List Nat) : nP (uK N r) = nP N := rfl
theorem nP_uE (N : nT) (r : List (Int × Int × Int × Int)) : nP (uE N r) = nP N := rfl
theorem nP_uP (N : nT) (r : List (Nat → Int)) : nP (uP N r) = r := rfl
/-- a happening -/
def evN (N : nT) (kind link flow : Int) : nT := uE N ((if (nE N).length = 24 then (nE N).drop 1 else nE N) ++ [(kind, nA N 2, link, flow)])
def hopN (N : nT) (f i : Nat) : Nat := (nA N ((248 + 20 * f + (12 + i)))).toNat
def backN (N : nT) (f : Nat) : Int := ((List.range (nA N ((248 + 20 * f + 0))).toNat).map fun i => nA N ((8 + 40 * (hopN N f i) + 1))).sum
def flN (N : nT) (p : Nat) : Nat := (nA N ((368 + 8 * p + 0)) - 1).toNat
def hasN (s : Int) (f : Nat) : Bool := decide (s / 2 ^ f % 2 = 1)
/-- a packet comes back -/
def cbN (N : nT) (p : Nat) (lost : Int) : nT := uK (uA (uA N ((368 + 8 * p + 6)) (nA N 2 + backN N (flN N p))) ((368 + 8 * p + 7)) lost) (nK N ++ [p])
def partN (N : nT) (p : Nat) : Int := max 1 (10000 * nA N ((368 + 8 * p + 4)) / nA N ((368 + 8 * p + 3)))
/-- a link doesn't let a flow's packet in -/
def shutN (N : nT) (f l : Nat) : Bool := (hasN (nA N ((8 + 40 * l + 14))) f && decide (nA N ((8 + 40 * l + 15)) ≤ nA N ((8 + 40 * l + (20 + f))))) || decide (nA N ((8 + 40 * l + 2)) ≤ ((nR N l).length : Int))
/-- a packet comes to a link -/
def comeN (N : nT) (p l : Nat) : nT :=
  let f := flN N p
  if shutN N f l then cbN (evN (uA N 6 (nA N 6 + 1)) 0 l f) p 1
  else uA (uA (uA (uA (uA (uR N l (nR N l ++ [p])) ((8 + 40 * l + 6)) (nA N ((8 + 40 * l + 6)) + 1)) ((8 + 40 * l + (20 + f))) (nA N ((8 + 40 * l + (20 + f))) + 1)) ((8 + 40 * l + 18)) (nA N ((8 + 40 * l + 18)) + partN N p)) ((8 + 40 * l + (26 + f))) (nA N ((368 + 8 * p + 3)))) ((8 + 40 * l + (32 + f))) (nA N ((368 + 8 * p + 4)))
/-- a packet is back at its flow -/
def retN (N : nT) (p : Nat) : nT :=
  let f := flN N p
  let v := nA N ((248 + 20 * f + 5))
  let N1 := uA (uA N ((248 + 20 * f + 6)) (nA N ((248 + 20 * f + 6)) - 1)) ((248 + 20 * f + 7)) (nA N 2 - nA N ((368 + 8 * p + 1)))
  if nA N ((368 + 8 * p + 7)) = 1 then
    uA (uA (uA (uA N1 ((248 + 20 * f + 10)) (nA N ((248 + 20 * f + 10)) + 1)) ((248 + 20 * f + 1)) (min 9999 (nA N ((248 + 20 * f + 1)) + 1))) ((248 + 20 * f + 5)) (max 100 (min 4000 (v / 2)))) ((368 + 8 * p + 0)) 0
  else
    let d := if nA N 7 = 1 then 10000 / v else nA N ((368 + 8 * p + 5))
    let N2 := uA N1 ((248 + 20 * f + 9)) (nA N ((248 + 20 * f + 9)) + 1)
    let N3 := if nA N ((248 + 20 * f + 1)) = 0 ∧ nA N ((248 + 20 * f + 6)) - 1 = 0 then evN N2 4 (-1) f else N2
    uA (uA N3 ((248 + 20 * f + 5)) (max 100 (min 4000 (v + (if nA N ((248 + 20 * f + 2)) = 1 ∧ d < 0 then 0 else d))))) ((368 + 8 * p + 0)) 0
def allRetN (N : nT) : nT := uK (((nK N).filter fun p => decide (nA N ((368 + 8 * p + 6)) = nA N 2)).foldl retN N) ((nK N).filter fun p => !decide (nA N ((368 + 8 * p + 6)) = nA N 2))
/-- one of a wire whose tick it is -/
def arrN (N : nT) (p : Nat) : nT :=
  let N1 := uA N ((368 + 8 * p + 2)) (nA N ((368 + 8 * p + 2)) + 1)
  if nA N ((368 + 8 * p + 2)) + 1 = nA N ((248 + 20 * (flN N p) + 0)) then cbN N1 p 0 else comeN N1 p (hopN N (flN N p) (nA N ((368 + 8 * p + 2)) + 1).toNat)
def wireN (N : nT) (l : Nat) : nT := uW (((nW N l).filter fun p => decide (nA N ((368 + 8 * p + 6)) = nA N 2)).foldl arrN N) l ((nW N l).filter fun p => !decide (nA N ((368 + 8 * p + 6)) = nA N 2))
def mayN (N : nT) (f : Nat) : Bool := decide (0 < nA N ((248 + 20 * f + 1))) && decide (100 * (nA N ((248 + 20 * f + 6)) + 1) ≤ nA N ((248 + 20 * f + 5)) * (if nA N ((248 + 20 * f + 2)) = 3 then 2 else 1))
/-- the first place for a packet that is free -/
def freeN (N : nT) : Nat := ((List.range 480).find? fun p => !decide (0 < nA N ((368 + 8 * p + 0)))).getD 480
def sendN (N : nT) (f : Nat) : nT :=
  let p := freeN N
  let N1 := uA (uA (uA N ((248 + 20 * f + 1)) (nA N ((248 + 20 * f + 1)) - 1)) ((248 + 20 * f + 8)) (nA N ((248 + 20 * f + 8)) + 1)) ((248 + 20 * f + 6)) (nA N ((248 + 20 * f + 6)) + 1)
  let N2 := uA (uA (uA (uA (uA (uA (uA N1 ((368 + 8 * p + 0)) (f + 1)) ((368 + 8 * p + 1)) (nA N 2)) ((368 + 8 * p + 2)) 0) ((368 + 8 * p + 3)) (nA N ((248 + 20 * f + 5)))) ((368 + 8 * p + 4)) (nA N ((248 + 20 * f + 7)) * (if nA N ((248 + 20 * f + 2)) = 2 then 3 else 1))) ((368 + 8 * p + 5)) 1000) ((368 + 8 * p + 7)) 0
  comeN (if nA N ((248 + 20 * f + 1)) - 1 = 0 then evN N2 3 (-1) f else N2) p (hopN N f 0)
def sendsN (N : nT) (f : Nat) : nT := if mayN N f then (if mayN (sendN N f) f then sendN (sendN N f) f else sendN N f) else N
def plusN (N : nT) (l : Nat) (g : Int) : Int := g * nA N ((8 + 40 * l + 8)) / nA N ((8 + 40 * l + 10))
def minusN (N : nT) (l : Nat) (g : Int) : Int := g * nA N ((8 + 40 * l + 9)) / nA N ((8 + 40 * l + 11))
def gotN (N : nT) (l p : Nat) : Int := min (nA N ((8 + 40 * l + 10))) (nA N ((8 + 40 * l + 12)) + partN N p)
def tookN (N : nT) (l : Nat) : Int := min (nA N ((8 + 40 * l + 11))) (nA N ((8 + 40 * l + 13)) + 1)
def shareN (N : nT) (l p : Nat) : Int := plusN N l (gotN N l p) - plusN N l (nA N ((8 + 40 * l + 12))) - minusN N l (tookN N l) + minusN N l (nA N ((8 + 40 * l + 13)))
/-- one of a row goes on the wire -/
def leaveN (l : Nat) (N : nT) (p : Nat) : nT :=
  uA (uW (uA (uA (uA (uA N ((368 + 8 * p + 5)) (min (nA N ((368 + 8 * p + 5))) (shareN N l p))) ((8 + 40 * l + 12)) (gotN N l p)) ((8 + 40 * l + 13)) (tookN N l)) ((368 + 8 * p + 6)) (nA N 2 + nA N ((8 + 40 * l + 1)))) l (nW N l ++ [p])) ((8 + 40 * l + 16)) (nA N ((8 + 40 * l + 16)) + 1)
def rowN (N : nT) (l : Nat) : nT :=
  let n := min (nA N ((8 + 40 * l + 0))).toNat (nR N l).length
  let N1 := uR (((nR N l).take n).foldl (leaveN l) N) l ((nR N l).drop n)
  uA N1 ((8 + 40 * l + 7)) (min (nA N ((8 + 40 * l + 7))) (((nR N l).length - n : Nat) : Int))
/-- a flow may be caught, or not any more, as a span ends -/
def isN (N : nT) (l f : Nat) : Bool := decide ((if nA N ((8 + 40 * l + (32 + f))) = 0 then 0 else nA N ((8 + 40 * l + (26 + f))) * nA N ((8 + 40 * l + 3)) / (100 * nA N ((8 + 40 * l + (32 + f))))) * 3 / 2 + 2 < nA N ((8 + 40 * l + (20 + f))))
def catchN (l : Nat) (N : nT) (f : Nat) : nT :=
  let N1 := if isN N l f = hasN (nA N ((8 + 40 * l + 14))) f then N else evN (uA N ((8 + 40 * l + 14)) (if isN N l f then nA N ((8 + 40 * l + 14)) + 2 ^ f else nA N ((8 + 40 * l + 14)) - 2 ^ f)) (if isN N l f then 1 else 2) l f
  uA N1 ((8 + 40 * l + (20 + f))) 0
def cameN (N : nT) (l : Nat) : Int := (((List.range (nA N 1).toNat).filter fun f => decide (0 < nA N ((8 + 40 * l + (20 + f))))).length : Int)
def spanN (N : nT) (l : Nat) : nT :=
  let c := nA N ((8 + 40 * l + 6))
  let t := nA N ((8 + 40 * l + 0)) * nA N ((8 + 40 * l + 3))
  let q := 40 * (t - c) - 23 * nA N ((8 + 40 * l + 7))
  let s := max 0 (10 * c - (if q < 0 then -q else q))
  let N1 := uA (uA (uA (uA (uA (uA N ((8 + 40 * l + 8)) (s + max 0 q)) ((8 + 40 * l + 9)) (s + max 0 (-q))) ((8 + 40 * l + 10)) (max 1 (nA N ((8 + 40 * l + 18))))) ((8 + 40 * l + 11)) (max 1 c)) ((8 + 40 * l + 12)) 0) ((8 + 40 * l + 13)) 0
  let N2 := (List.range (nA N 1).toNat).foldl (catchN l) N1
  uA (uA (uA (uA (uA (uA N2 ((8 + 40 * l + 15)) (max 1 (t / max 1 (cameN N l)))) ((8 + 40 * l + 6)) 0) ((8 + 40 * l + 18)) 0) ((8 + 40 * l + 7)) (nA N ((8 + 40 * l + 2)))) ((8 + 40 * l + 17)) (nA N ((8 + 40 * l + 16)))) ((8 + 40 * l + 16)) 0
def pastN (N : nT) : nT := uP N ((if (nP N).length = 20 then (nP N).drop 1 else nP N) ++ [fun f => nA N ((248 + 20 * f + 5))])
def tickN (N : nT) : nT :=
  let N1 := allRetN (uA N 2 (nA N 2 + 1))
  let N2 := (List.range (nA N 0).toNat).foldl wireN N1
  let N3 := (List.range (nA N 1).toNat).foldl (fun N f => if nA N ((248 + 20 * f + 3)) = 1 then sendsN N f else N) N2
  let N4 := (List.range (nA N 0).toNat).foldl rowN N3
  let N5 := (List.range (nA N 0).toNat).foldl (fun N l => if nA N 2 % nA N ((8 + 40 * l + 3)) = 0 then spanN N l else N) N4
  pastN N5
def ticksN (N : nT) : Nat → nT
  | 0 => N
  | n + 1 => tickN (ticksN N n)
