section
abbrev Pg : Type := Nat → Int32
noncomputable def dSail1 (s : Nat) (A : Pg) : Pg :=
  if A (59 + 8 * s + 5) = 1 ∨ A (59 + 8 * s + 5) = 4 then
    (if A (59 + 8 * s + 6) - 1 = 0 then
      (if A (59 + 8 * s + 5) = 1 then pU (pU A (59 + 8 * s + 6) (A (59 + 8 * s + 6) - 1)) (59 + 8 * s + 5) 2 else pU (pU A (59 + 8 * s + 6) (A (59 + 8 * s + 6) - 1)) (59 + 8 * s + 5) 0)
     else pU A (59 + 8 * s + 6) (A (59 + 8 * s + 6) - 1))
  else A
noncomputable def dSail (A : Pg) : Pg := dSail1 3 (dSail1 2 (dSail1 1 (dSail1 0 A)))
noncomputable def dF (A : Pg) : Nat := if A 64 = 3 then 0 else if A 72 = 3 then 1 else if A 80 = 3 then 2 else if A 88 = 3 then 3 else 4
noncomputable def dFi (A : Pg) : Int32 := if dF A = 4 then -9 else nI (dF A)
noncomputable def dCome1 (s : Nat) (A : Pg) : Pg := pU (pU A (59 + 8 * s + 5) 3) 10 (if 0 < A 17 then 1 else 0)
noncomputable def dCome (A : Pg) : Pg :=
  if dF A = 4 ∧ A 7 ≠ A 4 then (if A 64 = 2 then dCome1 0 A else if A 72 = 2 then dCome1 1 A else if A 80 = 2 then dCome1 2 A else if A 88 = 2 then dCome1 3 A else A) else A
noncomputable def dWav (A : Pg) (d : Int32) : Int32 := A (91 + ix (d - d / A 6 * A 6))
noncomputable def dFree (A : Pg) : Int32 := (A 0 - (if A 10 = 2 then 1 else 0)) - (if 0 < A 13 then 1 else 0) - (if 0 < A 14 then 1 else 0) - (if 0 < A 15 then 1 else 0)
noncomputable def dRestOn (A : Pg) : Pg :=
  if A 13 = 0 then pU A 13 2 else if 1 < A 0 ∧ A 14 = 0 then pU A 14 2 else if 2 < A 0 ∧ A 15 = 0 then pU A 15 2 else A
noncomputable def dNeed (A : Pg) (z : Nat) (u : Int32) : Int32 := u + (u * A (23 + 4 * z + 3) + 99) / 100
noncomputable def dMost (A : Pg) (s z : Nat) (lim : Int32) : Int32 := zmin lim (100 * A (59 + 8 * s + 4) / (100 + A (23 + 4 * z + 3)))
noncomputable def dWay (A : Pg) : Int32 := if A 7 = A 4 then A 4 else A 7 + 1
noncomputable def dHome (A : Pg) (s : Nat) (days : Int32) : Pg :=
  let B := pU A 10 (if A (59 + 8 * s + 5) = 3 then 0 else A 10)
  let C := pU B 11 (if B 10 = 2 then B 11 else 0)
  pU (pU C (59 + 8 * s + 5) 4) (59 + 8 * s + 6) days
noncomputable def dLayU (A : Pg) (s : Nat) : Int32 :=
  let z := ix (A 7)
  let left := A (23 + 4 * z) - A 8
  dMost A s z (if A (59 + 8 * s + 1) < left then A (59 + 8 * s + 1) else left)
noncomputable def dLaid (A : Pg) (s : Nat) (u : Int32) : Pg :=
  let need := dNeed A (ix (A 7)) u
  pU (pU (pU (pU (pU A (59 + 8 * s + 4) (A (59 + 8 * s + 4) - need)) (59 + 8 * s + 7) (A (59 + 8 * s + 7) + u)) 17 (A 17 + u)) 18 (A 18 + (need - u))) 8 (A 8 + u)
noncomputable def dNext (A : Pg) (s : Nat) : Pg :=
  let B := pU (pU A 7 (A 7 + 1)) 8 0
  if B 7 = B 4 then dHome B s (dWay B) else B
noncomputable def dLay (A : Pg) (s : Nat) : Int32 × Pg :=
  if dLayU A s = 0 then (4, dHome A s (dWay A))
  else (0, if (dLaid A s (dLayU A s)) 8 = A (23 + 4 * ix (A 7)) then dNext (dLaid A s (dLayU A s)) s else dLaid A s (dLayU A s))
noncomputable def dWork (A : Pg) (s : Nat) : Int32 × Pg :=
  if A 10 = 2 then (if A 11 - 1 = 0 then (10, pU A 11 (A 11 - 1)) else (0, pU A 11 (A 11 - 1)))
  else if A 10 = 1 then
    (if dFree A = 0 ∨ 3 < dWav A (A 3) then (5, A)
     else (if A 1 - 1 = 0 then (10, pU (pU A 10 2) 11 (A 1 - 1)) else (0, pU (pU A 10 2) 11 (A 1 - 1))))
  else if A 3 < A (23 + 4 * ix (A 7) + 1) then (1, A) else if A (23 + 4 * ix (A 7) + 2) < A 3 then (2, A)
  else if A (59 + 8 * s + 2) < dWav A (A 3) then (3, A) else dLay A s
noncomputable def dSea (A : Pg) : Int32 := (((0 + (if 0 < A 64 then A 62 else 0)) + (if 0 < A 72 then A 70 else 0)) + (if 0 < A 80 then A 78 else 0)) + (if 0 < A 88 then A 86 else 0)
noncomputable def dWait (A : Pg) : Int32 := (((0 + (if A 64 = 2 then A 62 else 0)) + (if A 72 = 2 then A 70 else 0)) + (if A 80 = 2 then A 78 else 0)) + (if A 88 = 2 then A 86 else 0)
noncomputable def dRest1 (t : Nat) (A : Pg) : Pg := pU A (13 + t) (if 0 < A (13 + t) then A (13 + t) - 1 else A (13 + t))
noncomputable def dRest (A : Pg) : Pg := dRest1 2 (dRest1 1 (dRest1 0 A))
def dWts (r : Int32) : Bool := decide (r = 1) || decide (r = 2) || decide (r = 3) || decide (r = 5)
noncomputable def dBook (B : Pg) (f : Nat) (rc : Int32 × Pg) : Pg :=
  let C1 := pU rc.2 9 (if rc.1 = 10 then 0 else rc.1)
  let C2 := pU C1 19 (C1 19 + dSea B)
  pU C2 20 (C2 20 + (dWait B + (if dWts (C2 9) = true then C2 (59 + 8 * f + 3) else 0)))
noncomputable def dEnd (r : Int32) (A : Pg) : Pg :=
  let C := dRest A
  let D := if r = 10 then dRestOn (pU (pU C 10 0) 12 (C 12 + 1)) else C
  pU D 3 (D 3 + 1)
noncomputable def dWk (B : Pg) : Int32 × Pg := if dF B = 4 then (if B 7 = B 4 then 0 else 6, B) else dWork B (dF B)
noncomputable def dDay (A : Pg) : Pg :=
  let B := dCome (dSail A)
  dEnd (dWk B).1 (dBook B (dF B) (dWk B))
noncomputable def dDays : Nat → Pg → Pg
  | 0, A => A
  | n + 1, A => dDays n (dDay A)
end
