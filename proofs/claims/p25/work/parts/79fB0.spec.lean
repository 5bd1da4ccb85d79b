/-! the cluster as a value: tables (1), logs (2.1), records (2.2) -/
abbrev SG : Type := (Nat → Nat → Int32) × (Nat → Nat → Int32) × (Nat → Nat → Nat → Int32)
def sA (σ : SG) (k p : Nat) (x : Int32) : SG := (p2 σ.1 k p x, σ.2.1, σ.2.2)
def sG (σ : SG) (j f : Nat) (x : Int32) : SG := (σ.1, p2 σ.2.1 j f x, σ.2.2)
def sZ (σ : SG) (j o : Nat) (r : Nat → Int32) : SG := (σ.1, σ.2.1, p2 σ.2.2 j o r)
abbrev bt (x : Int32) (n : Nat) : Prop := (x >>> (nI n &&& 31)) &&& 1 = (1 : Int32)
def imn (x y : Int32) : Int32 := if y < x then y else x
def imx (x y : Int32) : Int32 := if x < y then y else x
/-- isReplica(n, p) -/
def sp_ir (t r : Nat → Int32) (n p : Int32) : Int32 := if sp_it t p = 0 then 0 else if sp_in n.toInt64 0 4 = 0 then 0 else if (r p.toNatClampNeg >>> (n &&& 31)) &&& 1 = 1 then 1 else 0
/-- the leader's log -/
def oOw (σ : SG) (p : Nat) : Option Nat := if σ.1 4 p < 0 then none else if sp_iu (σ.1 0 0) (σ.1 4 p) = 0 then none else some (5 * p + (σ.1 4 p).toNatClampNeg)
def oKn (σ : SG) (p n : Nat) : Int32 := if nI n = σ.1 4 p then σ.2.1 (5 * p + n) 2 else σ.2.1 (5 * p + n) 5
def oLs (σ : SG) (p : Nat) : Nat → Int32
  | 0 => 2147483647
  | n + 1 => if bt (σ.1 7 p) n then imn (oLs σ p n) (oKn σ p n) else oLs σ p n
def oRi (σ : SG) (p : Nat) : SG := match oOw σ p with
  | none => σ
  | some j => if oLs σ p 5 = 2147483647 then σ else if σ.2.1 j 3 < oLs σ p 5 then sG σ j 3 (oLs σ p 5) else σ
/-! a log's own -/
def oFr (σ : SG) (j : Nat) (o : Int32) : SG := if o ≤ σ.2.1 j 1 then σ else if σ.2.1 j 2 ≤ o then sG (sG σ j 1 o) j 2 o else sG σ j 1 o
def r8 (x0 x1 x2 x3 x4 x5 x6 x7 : Int32) : Nat → Int32 := fun f => if f = 0 then x0 else if f = 1 then x1 else if f = 2 then x2 else if f = 3 then x3 else if f = 4 then x4 else if f = 5 then x5 else if f = 6 then x6 else x7
def oAd (σ : SG) (j : Nat) (r : Nat → Int32) : SG := sG (sZ σ j (σ.2.1 j 2).toNatClampNeg r) j 2 (σ.2.1 j 2 + 1)
def oTk (σ : SG) (j l : Nat) (o : Int32) : SG := sG (sZ σ j (σ.2.1 j 2).toNatClampNeg (σ.2.2 l o.toNatClampNeg)) j 2 (σ.2.1 j 2 + 1)
/-! searches -/
def fU (P : Nat → Bool) : Nat → Nat → Option Nat
  | 0, _ => none
  | n + 1, o => if P o = true then some o else fU P n (o + 1)
def fD (P : Nat → Bool) (s : Nat) : Nat → Option Nat
  | 0 => none
  | n + 1 => if P (s + n) = true then some (s + n) else fD P s n
def fW (P : Nat → Bool) : Nat → Nat → Nat
  | 0, o => o
  | n + 1, o => if P o = true then fW P n (o + 1) else o
def zb (σ : SG) (j : Nat) : Nat := (σ.2.1 j 1).toNatClampNeg
def ze (σ : SG) (j : Nat) : Nat := (σ.2.1 j 2).toNatClampNeg
/-- the end of a transaction of the record at o: its kind, 0 while there is none -/
def pEn (σ : SG) (j o : Nat) : Nat → Bool := fun q => decide (0 < σ.2.2 j q 1 ∧ σ.2.2 j q 2 = σ.2.2 j o 2 ∧ σ.2.2 j q 3 = σ.2.2 j o 3)
def oEn (σ : SG) (j o : Nat) : Int32 := match fU (pEn σ j o) (ze σ j - (o + 1)) (o + 1) with
  | none => 0
  | some q => σ.2.2 j q 1
def pFo (σ : SG) (j : Nat) : Nat → Bool := fun q => decide (σ.2.2 j q 1 = 0 ∧ σ.2.2 j q 7 = 1 ∧ oEn σ j q = 0)
def oFo (σ : SG) (j : Nat) : Int32 := match fU (pFo σ j) (ze σ j - zb σ j) (zb σ j) with
  | none => σ.2.1 j 2
  | some q => nI q
def pDt (σ : SG) (j : Nat) (k g : Int32) : Nat → Bool := fun q => decide (σ.2.2 j q 1 = 0 ∧ σ.2.2 j q 2 = k ∧ σ.2.2 j q 3 = g)
def pSq (σ : SG) (j : Nat) (k g s : Int32) : Nat → Bool := fun q => decide (σ.2.2 j q 1 = 0 ∧ σ.2.2 j q 2 = k ∧ σ.2.2 j q 3 = g ∧ σ.2.2 j q 4 = s)
def pVi (σ : SG) (j : Nat) (cm : Int32) : Nat → Bool := fun q => decide (σ.2.2 j q 1 = 0 ∧ ¬ (¬ cm = 0 ∧ σ.2.2 j q 7 = 1 ∧ oEn σ j q = 2))
/-! the calls: the state behind, and the answer -/
def oThere (σ : SG) (p : Int32) : Prop := 0 ≤ p.toInt ∧ p.toInt < 4 ∧ ¬ σ.1 2 p.toNatClampNeg = 0
def gAll (σ : SG) (p f : Nat) (x : Int32) : Nat → SG
  | 0 => σ
  | n + 1 => sG (gAll σ p f x n) (5 * p + n) f x
/-- two fields of each of the first n logs of a partition -/
def gTwo (σ : SG) (p f1 f2 : Nat) (x1 x2 : Int32) : Nat → SG
  | 0 => σ
  | n + 1 => sG (sG (gTwo σ p f1 f2 x1 x2 n) (5 * p + n) f1 x1) (5 * p + n) f2 x2
def qCe (σ : SG) (p r l : Int32) : SG × Int32 :=
  if sp_in p.toInt64 0 3 = 0 then (σ, -1) else if ¬ σ.1 2 p.toNatClampNeg = 0 then (σ, -1) else
  if sp_in l.toInt64 1 (sp_bc (r &&& 31)).toInt64 = 0 then (σ, -1) else if (r &&& 31) &&& σ.1 0 0 = 0 then (σ, -2) else
  (gTwo (sA (sA (sA (sA (sA (sA σ 2 p.toNatClampNeg 1) 3 p.toNatClampNeg (r &&& 31)) 6 p.toNatClampNeg l) 5 p.toNatClampNeg 0) 7 p.toNatClampNeg ((r &&& 31) &&& σ.1 0 0)) 4 p.toNatClampNeg (sp_nz ((r &&& 31) &&& σ.1 0 0))) p.toNatClampNeg 6 5 (σ.1 0 1) 0 5, sp_nz ((r &&& 31) &&& σ.1 0 0))
def oMay (σ : SG) (p : Nat) (un : Int32) : Int32 := if σ.1 7 p &&& σ.1 0 0 = 0 then (if un = 0 then σ.1 7 p &&& σ.1 0 0 else σ.1 3 p &&& σ.1 0 0) else σ.1 7 p &&& σ.1 0 0
def oEl (σ : SG) (p : Nat) (n : Int32) : SG := oRi (gTwo (sA (sA (if (σ.1 7 p >>> (n &&& 31)) &&& 1 = 0 then sA σ 7 p (1 <<< (n &&& 31)) else σ) 4 p n) 5 p (σ.1 5 p + 1)) p 5 6 (-1) (σ.1 0 1) 5) p
def qEl (σ : SG) (p un : Int32) : SG × Int32 :=
  if sp_it (σ.1 2) p = 0 then (σ, -1) else if oMay σ p.toNatClampNeg un = 0 then (σ, -2) else (oEl σ p.toNatClampNeg (sp_nz (oMay σ p.toNatClampNeg un)), sp_nz (oMay σ p.toNatClampNeg un))
def qRg (σ : SG) (k : Int32) : SG × Int32 :=
  if sp_in k.toInt64 0 5 = 0 then (σ, -1) else
  (sA (if σ.1 9 k.toNatClampNeg = 1 then sA (sA (sA σ 9 k.toNatClampNeg 2) 11 k.toNatClampNeg (σ.1 8 k.toNatClampNeg)) 12 k.toNatClampNeg 2 else σ) 8 k.toNatClampNeg (σ.1 8 k.toNatClampNeg + 1), 8 * (σ.1 8 k.toNatClampNeg + 1) + k)
/-- what a produce appends, once nothing stands against it -/
def oPr (σ : SG) (p j : Nat) (k g sq ke va : Int32) : SG :=
  oRi (if ¬ k < 0 ∧ σ.1 9 k.toNatClampNeg = 1 then sA (oAd σ j (r8 (σ.1 5 p) 0 k g sq ke va 1)) 10 k.toNatClampNeg (σ.1 10 k.toNatClampNeg ||| (1 <<< (nI p &&& 31))) else oAd σ j (r8 (σ.1 5 p) 0 k g (if k < 0 then -1 else sq) ke va 0)) p
/-- whether the number of a record is the next one -/
def oNx (σ : SG) (j : Nat) (k g sq : Int32) : Prop := match fD (pDt σ j k g) (zb σ j) (ze σ j - zb σ j) with
  | none => sq = 0
  | some q => sq = σ.2.2 j q 4 + 1
/-- what is kept of a record that was seen: its place in the record -/
def oSe (σ : SG) (j o : Nat) : Nat → SG
  | 0 => sA σ 16 0 (σ.2.2 j o 0)
  | n + 1 => sA (oSe σ j o n) 16 (n + 1) (σ.2.2 j o (n + 2))
def oMost (σ : SG) (j : Nat) (cm : Int32) : Int32 := if cm = 0 then σ.2.1 j 3 else imn (σ.2.1 j 3) (oFo σ j)
def qPr (σ : SG) (p h sq ke va al : Int32) : SG × Int32 :=
  if sp_it (σ.1 2) p = 0 then (σ, -1) else if ¬ h = -1 ∧ sp_ih h = 0 then (σ, -1) else
  match oOw σ p.toNatClampNeg with
  | none => (σ, -2)
  | some j =>
    if h = -1 then
      (if ¬ al = 0 ∧ ¬ σ.1 6 p.toNatClampNeg ≤ sp_bc (σ.1 7 p.toNatClampNeg) then (σ, -5) else
       if σ.2.1 j 2 - σ.2.1 j 1 = 60 then (σ, -3) else
       (oPr σ p.toNatClampNeg j (-1) (-1) sq ke va, σ.2.1 j 2))
    else
      (if ¬ σ.1 8 (h - h / 8 * 8).toNatClampNeg = h / 8 ∨ σ.1 9 (h - h / 8 * 8).toNatClampNeg = 2 then (σ, -4) else
       if ¬ al = 0 ∧ ¬ σ.1 6 p.toNatClampNeg ≤ sp_bc (σ.1 7 p.toNatClampNeg) then (σ, -5) else
       match fU (pSq σ j (h - h / 8 * 8) (h / 8) sq) (ze σ j - zb σ j) (zb σ j) with
       | some q => (σ, nI q)
       | none =>
         (match fD (pDt σ j (h - h / 8 * 8) (h / 8)) (zb σ j) (ze σ j - zb σ j) with
          | none => if sq = 0 then (if σ.2.1 j 2 - σ.2.1 j 1 = 60 then (σ, -3) else (oPr σ p.toNatClampNeg j (h - h / 8 * 8) (h / 8) sq ke va, σ.2.1 j 2)) else (σ, -6)
          | some q => if sq = σ.2.2 j q 4 + 1 then (if σ.2.1 j 2 - σ.2.1 j 1 = 60 then (σ, -3) else (oPr σ p.toNatClampNeg j (h - h / 8 * 8) (h / 8) sq ke va, σ.2.1 j 2)) else (σ, -6)))
def aSf (σ : SG) (p o : Int32) : Int32 := if sp_it (σ.1 2) p = 0 then -1 else match oOw σ p.toNatClampNeg with
  | none => -2
  | some j => if σ.2.1 j 3 ≤ o then 0 else 1
/-! follow -/
def pAg (σ : SG) (F l : Nat) : Nat → Bool := fun o => decide (o < ze σ l ∧ σ.2.2 F o 0 = σ.2.2 l o 0)
def oAg (σ : SG) (F l : Nat) : SG := if σ.2.1 l 1 ≤ σ.2.1 F 2 then σ else oFr σ F (σ.2.1 l 1)
/-- where the follower's records cease to be the leader's -/
def oPt (σ : SG) (F l : Nat) : Nat := fW (pAg σ F l) (ze σ F - (imx (σ.2.1 F 1) (σ.2.1 l 1)).toNatClampNeg) (imx (σ.2.1 F 1) (σ.2.1 l 1)).toNatClampNeg
def oCt (σ : SG) (F l : Nat) : SG := if σ.2.1 F 2 ≤ nI (oPt σ F l) then σ else sG σ F 2 (nI (oPt σ F l))
/-- what the follower knows and is known for -/
def oF1 (σ : SG) (F : Nat) : SG := sG (sG σ F 4 (imn (σ.2.1 F 4) (σ.2.1 F 2))) F 5 (σ.2.1 F 2)
def oF2 (σ : SG) (F l : Nat) : SG := if σ.2.1 F 2 = σ.2.1 l 2 then sG σ F 6 (σ.1 0 1) else σ
def oF3 (σ : SG) (F l p : Nat) (n : Int32) : SG := if σ.2.1 F 2 < σ.2.1 l 3 then σ else sA σ 7 p (σ.1 7 p ||| (1 <<< (n &&& 31)))
def oTn (σ : SG) (F l : Nat) : Nat → SG × Int32
  | 0 => (σ, 0)
  | k + 1 => if (oTn σ F l k).1.2.1 l 2 ≤ (oTn σ F l k).1.2.1 F 2 then oTn σ F l k else (oTk (oTn σ F l k).1 F l ((oTn σ F l k).1.2.1 F 2), (oTn σ F l k).2 + 1)
def oF5 (σ : SG) (F l : Nat) : SG := sG (sG (oFr σ F (σ.2.1 l 1)) F 3 (imn ((oFr σ F (σ.2.1 l 1)).2.1 l 3) ((oFr σ F (σ.2.1 l 1)).2.1 F 2))) F 4 (imx ((oFr σ F (σ.2.1 l 1)).2.1 F 1) (imn ((oFr σ F (σ.2.1 l 1)).2.1 F 4) ((oFr σ F (σ.2.1 l 1)).2.1 F 2)))
def oFa (σ : SG) (F l p : Nat) (n : Int32) : SG := oRi (oF3 (oF2 (oF1 (oCt (oAg σ F l) F l) F) F l) F l p n) p
def qFo (σ : SG) (n p : Int32) : SG × Int32 :=
  if sp_ir (σ.1 2) (σ.1 3) n p = 0 then (σ, -1) else if sp_iu (σ.1 0 0) n = 0 then (σ, -1) else if σ.1 4 p.toNatClampNeg = n then (σ, -1) else
  match oOw σ p.toNatClampNeg with
  | none => (σ, -2)
  | some l => (oF5 (oTn (oFa σ (5 * p.toNatClampNeg + n.toNatClampNeg) l p.toNatClampNeg n) (5 * p.toNatClampNeg + n.toNatClampNeg) l 5).1 (5 * p.toNatClampNeg + n.toNatClampNeg) l, (oTn (oFa σ (5 * p.toNatClampNeg + n.toNatClampNeg) l p.toNatClampNeg n) (5 * p.toNatClampNeg + n.toNatClampNeg) l 5).2)
def qBg (σ : SG) (h : Int32) : SG × Int32 := if sp_ih h = 0 then (σ, -1) else if ¬ σ.1 8 (h - h / 8 * 8).toNatClampNeg = h / 8 then (σ, -4) else if ¬ σ.1 9 (h - h / 8 * 8).toNatClampNeg = 0 then (σ, -4) else (sA (sA σ 9 (h - h / 8 * 8).toNatClampNeg 1) 10 (h - h / 8 * 8).toNatClampNeg 0, 0)
def qFi (σ : SG) (h cm : Int32) : SG × Int32 := if sp_ih h = 0 then (σ, -1) else if ¬ σ.1 8 (h - h / 8 * 8).toNatClampNeg = h / 8 then (σ, -4) else if ¬ σ.1 9 (h - h / 8 * 8).toNatClampNeg = 1 then (σ, -4) else
  (sA (sA (sA σ 9 (h - h / 8 * 8).toNatClampNeg 2) 11 (h - h / 8 * 8).toNatClampNeg (σ.1 8 (h - h / 8 * 8).toNatClampNeg)) 12 (h - h / 8 * 8).toNatClampNeg (if cm = 0 then 2 else 1), sp_bc (σ.1 10 (h - h / 8 * 8).toNatClampNeg))
/-- settle: one partition -/
def oS1 (σ : SG) (k p : Nat) : SG := if (σ.1 10 k >>> (nI p &&& 31)) &&& 1 = 0 then σ else match oOw σ p with
  | none => σ
  | some j => if σ.2.1 j 2 - σ.2.1 j 1 < 60 then oRi (sA (oAd σ j (r8 (σ.1 5 p) (σ.1 12 k) (nI k) (σ.1 11 k) (-1) 0 0 0)) 10 k (σ.1 10 k &&& ((1 <<< (nI p &&& 31)) ^^^ (-1)))) p else σ
def oSn (σ : SG) (k : Nat) : Nat → SG
  | 0 => σ
  | p + 1 => oS1 (oSn σ k p) k p
def qSt (σ : SG) (k : Int32) : SG × Int32 := if sp_in k.toInt64 0 5 = 0 then (σ, -1) else if ¬ σ.1 9 k.toNatClampNeg = 2 then (σ, -2) else
  (if (oSn σ k.toNatClampNeg 4).1 10 k.toNatClampNeg = 0 then sA (oSn σ k.toNatClampNeg 4) 9 k.toNatClampNeg 0 else oSn σ k.toNatClampNeg 4, sp_bc ((oSn σ k.toNatClampNeg 4).1 10 k.toNatClampNeg))
def qCo (σ : SG) (p o cm : Int32) : SG × Int32 := if sp_it (σ.1 2) p = 0 then (σ, -1) else match oOw σ p.toNatClampNeg with
  | none => (σ, -2)
  | some j => if sp_in o.toInt64 (σ.2.1 j 1).toInt64 (σ.2.1 j 3).toInt64 = 0 then (σ, -1) else
    match fU (pVi σ j cm) ((oMost σ j cm).toNatClampNeg - o.toNatClampNeg) o.toNatClampNeg with
    | none => (σ, -2)
    | some q => (oSe σ j q 5, nI q)
def aSn (σ : SG) (wh : Int32) : Int32 := if sp_in wh.toInt64 0 5 = 0 then 0 else σ.1 16 wh.toNatClampNeg
def qMb (σ : SG) (g m : Int32) : SG × Int32 := if sp_in g.toInt64 0 3 = 0 then (σ, -1) else if sp_in m.toInt64 0 7 = 0 then (σ, -1) else (sA (sA σ 13 g.toNatClampNeg (σ.1 13 g.toNatClampNeg ^^^ (1 <<< (m &&& 31)))) 14 g.toNatClampNeg (σ.1 14 g.toNatClampNeg + 1), σ.1 14 g.toNatClampNeg + 1)
/-- tick: one node of one partition, one partition -/
def oT1 (s : SG × Int32) (p n : Nat) : SG × Int32 := if (s.1.1 7 p >>> (nI n &&& 31)) &&& 1 = 0 then s else if nI n = s.1.1 4 p then s else if 10 < s.1.1 0 1 - s.1.2.1 (5 * p + n) 6 then (sA s.1 7 p (s.1.1 7 p &&& ((1 <<< (nI n &&& 31)) ^^^ (-1))), s.2 + 1) else s
def oT2 (s : SG × Int32) (p : Nat) : Nat → SG × Int32
  | 0 => s
  | n + 1 => oT1 (oT2 s p n) p n
def oT3 (s : SG × Int32) (p : Nat) : SG × Int32 := if s.1.1 2 p = 0 then s else match oOw s.1 p with
  | none => s
  | some _ => (oRi (oT2 s p 5).1 p, (oT2 s p 5).2)
def oT4 (s : SG × Int32) : Nat → SG × Int32
  | 0 => s
  | p + 1 => oT3 (oT4 s p) p
def qTk (σ : SG) (n : Int32) : SG × Int32 := if sp_in n.toInt64 1 50 = 0 then (σ, -1) else oT4 (sA σ 0 1 (σ.1 0 1 + n), 0) 4
def qFl (σ : SG) (n p : Int32) : SG × Int32 := if sp_ir (σ.1 2) (σ.1 3) n p = 0 then (σ, -1) else if sp_iu (σ.1 0 0) n = 0 then (σ, -1) else
  (sG σ (5 * p.toNatClampNeg + n.toNatClampNeg) 4 (σ.2.1 (5 * p.toNatClampNeg + n.toNatClampNeg) 2), σ.2.1 (5 * p.toNatClampNeg + n.toNatClampNeg) 2 - σ.2.1 (5 * p.toNatClampNeg + n.toNatClampNeg) 4)
/-- crash: what one log keeps, one partition -/
def oC1 (σ : SG) (j : Nat) (kp : Int32) : SG := sG (sG σ j 2 ((if (σ.2.1 j 4).toInt64 + kp.toInt64 < (σ.2.1 j 2).toInt64 then (σ.2.1 j 4).toInt64 + kp.toInt64 else (σ.2.1 j 2).toInt64).toInt32)) j 3 (imn (σ.2.1 j 3) ((if (σ.2.1 j 4).toInt64 + kp.toInt64 < (σ.2.1 j 2).toInt64 then (σ.2.1 j 4).toInt64 + kp.toInt64 else (σ.2.1 j 2).toInt64).toInt32))
def oC2 (σ : SG) (p : Nat) (n : Int32) : SG := if σ.1 4 p = n then sA σ 4 p (-1) else σ
def oC3 (σ : SG) (p : Nat) (n : Int32) : SG := if σ.1 7 p &&& ((1 <<< (n &&& 31)) ^^^ (-1)) = 0 then σ else sA σ 7 p (σ.1 7 p &&& ((1 <<< (n &&& 31)) ^^^ (-1)))
def oC4 (s : SG × Int32) (p : Nat) (n kp : Int32) : SG × Int32 := if s.1.1 2 p = 0 then s else
  ((if (s.1.1 3 p >>> (n &&& 31)) &&& 1 = 1 then oRi (oC3 (oC2 (oC1 s.1 (5 * p + n.toNatClampNeg) kp) p n) p n) p else s.1),
   (if 0 ≤ (if (s.1.1 3 p >>> (n &&& 31)) &&& 1 = 1 then oRi (oC3 (oC2 (oC1 s.1 (5 * p + n.toNatClampNeg) kp) p n) p n) p else s.1).1 4 p then s.2 else s.2 + 1))
def oC5 (s : SG × Int32) (n kp : Int32) : Nat → SG × Int32
  | 0 => s
  | p + 1 => oC4 (oC5 s n kp p) p n kp
def qCr (σ : SG) (n kp : Int32) : SG × Int32 := if sp_iu (σ.1 0 0) n = 0 then (σ, -1) else if kp < 0 then (σ, -1) else oC5 (sA σ 0 0 (σ.1 0 0 &&& ((1 <<< (n &&& 31)) ^^^ (-1))), 0) n kp 4
def oRs (σ : SG) (n : Nat) : Nat → SG
  | 0 => σ
  | p + 1 => sG (oRs σ n p) (5 * p + n) 5 (-1)
def qRs (σ : SG) (n : Int32) : SG × Int32 := if sp_in n.toInt64 0 4 = 0 then (σ, -1) else if ¬ sp_iu (σ.1 0 0) n = 0 then (σ, -1) else (oRs (sA σ 0 0 (σ.1 0 0 ||| (1 <<< (n &&& 31)))) n.toNatClampNeg 4, 0)
def qTr (σ : SG) (p o : Int32) : SG × Int32 := if sp_it (σ.1 2) p = 0 then (σ, -1) else match oOw σ p.toNatClampNeg with
  | none => (σ, -2)
  | some j => if sp_in o.toInt64 (σ.2.1 j 1).toInt64 (σ.2.1 j 3).toInt64 = 0 then (σ, -1) else
    (sG (oFr σ j o) j 4 (imx ((oFr σ j o).2.1 j 4) ((oFr σ j o).2.1 j 1)), (oFr σ j o).2.1 j 2 - (oFr σ j o).2.1 j 1)
def aRe (σ : SG) (n p o wh : Int32) : Int64 := if sp_ir (σ.1 2) (σ.1 3) n p = 0 then 1099511627776 else if sp_in wh.toInt64 0 6 = 0 then 1099511627776 else
  if sp_in o.toInt64 (σ.2.1 (5 * p.toNatClampNeg + n.toNatClampNeg) 1).toInt64 (σ.2.1 (5 * p.toNatClampNeg + n.toNatClampNeg) 2 - 1).toInt64 = 0 then 1099511627776 else
  (σ.2.2 (5 * p.toNatClampNeg + n.toNatClampNeg) o.toNatClampNeg (if wh < 3 then wh else wh + 1).toNatClampNeg).toInt64
def aSt (σ : SG) (p wh : Int32) : Int32 := if sp_it (σ.1 2) p = 0 then -1 else if sp_in wh.toInt64 0 3 = 0 then -1 else
  if wh = 0 then σ.1 4 p.toNatClampNeg else if wh = 1 then σ.1 5 p.toNatClampNeg else if wh = 2 then σ.1 7 p.toNatClampNeg else match oOw σ p.toNatClampNeg with
  | none => -1
  | some j => oFo σ j
def aCn (σ : SG) (wh : Int32) : Int32 := if sp_in wh.toInt64 0 7 = 0 then -1 else if wh = 0 then σ.1 0 1 else if wh = 1 then σ.1 0 0 else σ.1 9 (wh - 2).toNatClampNeg
/-! the model's pool holds a value -/
def MR (w : Nat → Nat) (I J : Nat → Nat → Int32) (σ : SG) : Prop :=
  (I (w 0) 16 = σ.1 0 0 ∧ I (w 0) 17 = σ.1 0 1) ∧
  (∀ k, 2 ≤ k → k ≤ 16 → ∀ p, p < wN k → J (w k) p = σ.1 k p) ∧
  (∀ j, j < 20 → ∀ f, 1 ≤ f → f ≤ 6 → I (w (21 + j)) f = σ.2.1 j f) ∧
  (∀ j, j < 20 → ∀ o f, zb σ j ≤ o → o < ze σ j → f < 8 → J (w (41 + j)) (8 * (o - zb σ j) + f) = σ.2.2 j o f)
section XM
variable {w : Nat → Nat} {L : List Nat} {K N : Nat → Nat} {T : Nat → Nat → Nat} {Q : Nat → Nat → Option Nat} {I J I' J' : Nat → Nat → Int32} {σ : SG} {E : Int}
theorem MR.a (h : MR w I J σ) {k p : Nat} (h1 : 2 ≤ k) (h2 : k ≤ 16) (hp : p < wN k) : J (w k) p = σ.1 k p := h.2.1 k h1 h2 p hp
theorem MR.g (h : MR w I J σ) {j f : Nat} (hj : j < 20) (h1 : 1 ≤ f) (h2 : f ≤ 6) : I (w (21 + j)) f = σ.2.1 j f := h.2.2.1 j hj f h1 h2
theorem MR.z (h : MR w I J σ) {j o f : Nat} (hj : j < 20) (h1 : zb σ j ≤ o) (h2 : o < ze σ j) (hf : f < 8) : J (w (41 + j)) (8 * (o - zb σ j) + f) = σ.2.2 j o f := h.2.2.2 j hj o f h1 h2 hf
theorem MR.wa (h : MR w I J σ) (hM : MS w L K N T Q) {k p : Nat} (h1 : 2 ≤ k) (h2 : k ≤ 16) {x : Int32} : MR w I (va_up J (w k) (upd (J (w k)) p x)) (sA σ k p x) := by
  refine ⟨⟨?_, ?_⟩, fun i hi1 hi2 q hq => ?_, h.2.2.1, fun j hj o f ho1 ho2 hf => ?_⟩
  · show _ = p2 σ.1 k p x 0 0
    rw [p2_na _ _ (by omega)]; exact h.1.1
  · show _ = p2 σ.1 k p x 0 1
    rw [p2_na _ _ (by omega)]; exact h.1.2
  · show _ = p2 σ.1 k p x i q
    by_cases e : i = k
    · subst e
      rw [va_up_self]
      by_cases e2 : q = p
      · subst e2; rw [pk_us, p2_at]
      · rw [p2_ne _ _ (fun z => e2 z.2)]; simp only [upd, if_neg e2]; exact h.2.1 i hi1 hi2 q hq
    · rw [va_up_ne _ _ (hM.ne (by omega) (by omega) e), p2_na _ _ e]; exact h.2.1 i hi1 hi2 q hq
  · rw [va_up_ne _ _ (hM.ne (by omega) (by omega) (by omega))]; exact h.2.2.2 j hj o f ho1 ho2 hf
theorem MR.w0 (h : MR w I J σ) (hM : MS w L K N T Q) {f : Nat} (hf : f = 0 ∨ f = 1) {x : Int32} : MR w (p2 I (w 0) (16 + f) x) J (sA σ 0 f x) := by
  refine ⟨?_, fun i hi1 hi2 q hq => ?_, fun j hj g hg1 hg2 => ?_, h.2.2.2⟩
  · rcases hf with rfl | rfl
    · exact ⟨by show _ = p2 σ.1 0 0 x 0 0; rw [p2_at, p2_at], by show _ = p2 σ.1 0 0 x 0 1; rw [p2_ne _ _ (fun z => absurd z.2 (by decide)), p2_ne _ _ (fun z => absurd z.2 (by decide))]; exact h.1.2⟩
    · exact ⟨by show _ = p2 σ.1 0 1 x 0 0; rw [p2_ne _ _ (fun z => absurd z.2 (by decide)), p2_ne _ _ (fun z => absurd z.2 (by decide))]; exact h.1.1, by show _ = p2 σ.1 0 1 x 0 1; rw [p2_at, p2_at]⟩
  · show _ = p2 σ.1 0 f x i q
    rw [p2_na _ _ (by omega)]; exact h.2.1 i hi1 hi2 q hq
  · rw [p2_na _ _ (hM.ne (by omega) (by omega) (by omega))]; exact h.2.2.1 j hj g hg1 hg2
theorem sG_zb {σ : SG} {j i f : Nat} {x : Int32} (h : ¬ (i = j ∧ f = 1)) : zb (sG σ j f x) i = zb σ i := by
  unfold zb sG
  show (p2 σ.2.1 j f x i 1).toNatClampNeg = _
  rw [p2_ne _ _ (fun z => h ⟨z.1, z.2.symm⟩)]
theorem sG_ze {σ : SG} {j i f : Nat} {x : Int32} (h : ¬ (i = j ∧ f = 2)) : ze (sG σ j f x) i = ze σ i := by
  unfold ze sG
  show (p2 σ.2.1 j f x i 2).toNatClampNeg = _
  rw [p2_ne _ _ (fun z => h ⟨z.1, z.2.symm⟩)]
theorem sG_zbs {σ : SG} {j : Nat} {x : Int32} : zb (sG σ j 1 x) j = x.toNatClampNeg := by
  unfold zb sG
  show (p2 σ.2.1 j 1 x j 1).toNatClampNeg = _
  rw [p2_at]
theorem sG_zes {σ : SG} {j : Nat} {x : Int32} : ze (sG σ j 2 x) j = x.toNatClampNeg := by
  unfold ze sG
  show (p2 σ.2.1 j 2 x j 2).toNatClampNeg = _
  rw [p2_at]
/-- a field that is neither start nor end -/
theorem MR.wg (h : MR w I J σ) (hM : MS w L K N T Q) {j f : Nat} (hj : j < 20) (h1 : ¬ f = 1) (h2 : ¬ f = 2) {x : Int32} : MR w (p2 I (w (21 + j)) f x) J (sG σ j f x) := by
  refine ⟨⟨?_, ?_⟩, h.2.1, fun i hi g hg1 hg2 => ?_, fun i hi o g ho1 ho2 hg => ?_⟩
  · rw [p2_na _ _ (hM.ne (by omega) (by omega) (by omega))]; exact h.1.1
  · rw [p2_na _ _ (hM.ne (by omega) (by omega) (by omega))]; exact h.1.2
  · show _ = p2 σ.2.1 j f x i g
    by_cases e : i = j
    · subst e
      by_cases e2 : g = f
      · subst e2; rw [p2_at, p2_at]
      · rw [p2_ne _ _ (fun z => e2 z.2), p2_ne _ _ (fun z => e2 z.2)]; exact h.2.2.1 i hi g hg1 hg2
    · rw [p2_na _ _ (hM.ne (by omega) (by omega) (by omega)), p2_na _ _ e]; exact h.2.2.1 i hi g hg1 hg2
  · rw [sG_zb (fun z => h1 z.2)] at ho1 ⊢
    rw [sG_ze (fun z => h2 z.2)] at ho2
    exact h.2.2.2 i hi o g ho1 ho2 hg
/-- the end comes down -/
theorem MR.we (h : MR w I J σ) (hM : MS w L K N T Q) {j : Nat} (hj : j < 20) {x : Int32} (hx : x.toNatClampNeg ≤ ze σ j) : MR w (p2 I (w (21 + j)) 2 x) J (sG σ j 2 x) := by
  refine ⟨⟨?_, ?_⟩, h.2.1, fun i hi g hg1 hg2 => ?_, fun i hi o g ho1 ho2 hg => ?_⟩
  · rw [p2_na _ _ (hM.ne (by omega) (by omega) (by omega))]; exact h.1.1
  · rw [p2_na _ _ (hM.ne (by omega) (by omega) (by omega))]; exact h.1.2
  · show _ = p2 σ.2.1 j 2 x i g
    by_cases e : i = j
    · subst e
      by_cases e2 : g = 2
      · subst e2; rw [p2_at, p2_at]
      · rw [p2_ne _ _ (fun z => e2 z.2), p2_ne _ _ (fun z => e2 z.2)]; exact h.2.2.1 i hi g hg1 hg2
    · rw [p2_na _ _ (hM.ne (by omega) (by omega) (by omega)), p2_na _ _ e]; exact h.2.2.1 i hi g hg1 hg2
  · rw [sG_zb (fun z => absurd z.2 (by decide))] at ho1 ⊢
    by_cases e : i = j
    · subst e
      rw [sG_zes] at ho2
      exact h.2.2.2 i hi o g ho1 (by omega) hg
    · rw [sG_ze (fun z => e z.1)] at ho2
      exact h.2.2.2 i hi o g ho1 ho2 hg
/-- a log's start, end and cells change -/
theorem MR.wl (h : MR w I J σ) (hM : MS w L K N T Q) {j : Nat} (hj : j < 20) {σ' : SG} (hI : ∀ q f, ¬ (q = w (21 + j) ∧ (f = 1 ∨ f = 2)) → I' q f = I q f) (hJ : ∀ q, ¬ q = w (41 + j) → J' q = J q) (e1 : I' (w (21 + j)) 1 = σ'.2.1 j 1) (e2 : I' (w (21 + j)) 2 = σ'.2.1 j 2)
    (s1 : σ'.1 = σ.1) (s2 : ∀ i f, ¬ (i = j ∧ (f = 1 ∨ f = 2)) → σ'.2.1 i f = σ.2.1 i f) (s3 : ∀ i o, ¬ i = j → σ'.2.2 i o = σ.2.2 i o) (hz : ∀ o f, zb σ' j ≤ o → o < ze σ' j → f < 8 → J' (w (41 + j)) (8 * (o - zb σ' j) + f) = σ'.2.2 j o f) : MR w I' J' σ' := by
  refine ⟨⟨?_, ?_⟩, fun k hk1 hk2 p hp => ?_, fun i hi f hf1 hf2 => ?_, fun i hi o f ho1 ho2 hf => ?_⟩
  · rw [hI _ _ (fun z => hM.ne (by omega) (by omega) (by omega) z.1), s1]; exact h.1.1
  · rw [hI _ _ (fun z => hM.ne (by omega) (by omega) (by omega) z.1), s1]; exact h.1.2
  · rw [hJ _ (hM.ne (by omega) (by omega) (by omega)), s1]; exact h.2.1 k hk1 hk2 p hp
  · by_cases e : i = j ∧ (f = 1 ∨ f = 2)
    · obtain ⟨rfl, rfl | rfl⟩ := e
      · exact e1
      · exact e2
    · rw [s2 i f e, hI _ _ (fun z => by
        by_cases q : i = j
        · exact e ⟨q, z.2⟩
        · exact hM.ne (by omega) (by omega) (by omega) z.1)]
      exact h.2.2.1 i hi f hf1 hf2
  · by_cases e : i = j
    · subst e; exact hz o f ho1 ho2 hf
    · have b1 : zb σ' i = zb σ i := by unfold zb; rw [s2 i 1 (fun z => e z.1)]
      have b2 : ze σ' i = ze σ i := by unfold ze; rw [s2 i 2 (fun z => e z.1)]
      rw [b1] at ho1 ⊢
      rw [b2] at ho2
      rw [hJ _ (hM.ne (by omega) (by omega) (by omega)), s3 i o e]
      exact h.2.2.2 i hi o f ho1 ho2 hf
theorem MR.ml (h : MR w I J σ) {j : Nat} (hj : j < 20) (hl : LI E (I (w (21 + j)))) : LI E (σ.2.1 j) := by
  unfold LI at hl ⊢
  rw [h.g hj (by decide) (by decide), h.g hj (by decide) (by decide), h.g hj (by decide) (by decide), h.g hj (by decide) (by decide)] at hl
  exact hl
end XM
theorem clN {x : Int32} (h : 0 ≤ x.toInt) : (x.toNatClampNeg : Int) = x.toInt := by
  have e : x.toNatClampNeg = x.toInt.toNat := rfl
  omega
theorem clT (x : Int32) : x.toNatClampNeg = x.toInt.toNat := rfl
theorem xixn {a o f : Int32} (h0 : 0 ≤ a.toInt) (h1 : a.toInt ≤ o.toInt) (h2 : o.toInt < a.toInt + 80) (h3 : vp_in f 8) : (8 * (o - a) + f).toNatClampNeg = 8 * (o.toNatClampNeg - a.toNatClampNeg) + f.toNatClampNeg := by
  obtain ⟨h4, h5⟩ := vp_in_iff.mp h3
  have e1 := xsub (x := o) (y := a) (by omega) (by omega)
  have e2 := xmul8 (x := o - a) (by omega) (by omega)
  have e3 := xadd (x := 8 * (o - a)) (y := f) (by omega) (by omega)
  rw [clT, clT, clT, clT]
  omega
theorem clsucc {y z : Int32} (h0 : 0 ≤ y.toInt) (h : z.toInt = y.toInt + 1) : z.toNatClampNeg = y.toNatClampNeg + 1 := by
  rw [clT, clT]; omega
theorem cl_0 : (0 : Int32).toNatClampNeg = 0 := by decide
theorem cl_1 : (1 : Int32).toNatClampNeg = 1 := by decide
theorem cl_2 : (2 : Int32).toNatClampNeg = 2 := by decide
theorem cl_3 : (3 : Int32).toNatClampNeg = 3 := by decide
theorem cl_4 : (4 : Int32).toNatClampNeg = 4 := by decide
theorem cl_7 : (7 : Int32).toNatClampNeg = 7 := by decide
theorem fU_hit {P : Nat → Bool} {e q : Nat} (h : q < e) (hp : P q = true) : fU P (e - q) q = some q := by
  obtain ⟨n, hn⟩ : ∃ n, e - q = n + 1 := ⟨e - q - 1, by omega⟩
  rw [hn, fU, if_pos hp]
theorem fU_step {P : Nat → Bool} {e q : Nat} (h : q < e) (hp : ¬ P q = true) : fU P (e - q) q = fU P (e - (q + 1)) (q + 1) := by
  obtain ⟨n, hn⟩ : ∃ n, e - q = n + 1 := ⟨e - q - 1, by omega⟩
  rw [hn, fU, if_neg hp]
  congr 1
  omega
theorem fU_end {P : Nat → Bool} {e q : Nat} (h : e ≤ q) : fU P (e - q) q = none := by
  rw [show e - q = 0 by omega, fU]
theorem fD_hit {P : Nat → Bool} {s n : Nat} (hp : P (s + n) = true) : fD P s (n + 1) = some (s + n) := by rw [fD, if_pos hp]
theorem fD_step {P : Nat → Bool} {s n : Nat} (hp : ¬ P (s + n) = true) : fD P s (n + 1) = fD P s n := by rw [fD, if_neg hp]
theorem fW_hit {P : Nat → Bool} {e q : Nat} (h : q < e) (hp : P q = true) : fW P (e - q) q = fW P (e - (q + 1)) (q + 1) := by
  obtain ⟨n, hn⟩ : ∃ n, e - q = n + 1 := ⟨e - q - 1, by omega⟩
  rw [hn, fW, if_pos hp]
  congr 1
  omega
theorem fW_stop {P : Nat → Bool} {e q : Nat} (hp : ¬ P q = true) : fW P (e - q) q = q := by
  cases hn : e - q with
  | zero => rw [fW]
  | succ n => rw [fW, if_neg hp]
theorem fW_end {P : Nat → Bool} {e q : Nat} (h : e ≤ q) : fW P (e - q) q = q := by
  rw [show e - q = 0 by omega, fW]
section XM
variable {w : Nat → Nat} {L : List Nat} {K N : Nat → Nat} {T : Nat → Nat → Nat} {Q : Nat → Nat → Option Nat} {I J I' J' : Nat → Nat → Int32} {σ : SG} {E : Int} {j : Nat}
theorem MR.vb (h : MR w I J σ) (hj : j < 20) : zb σ j = (I (w (21 + j)) 1).toNatClampNeg := by unfold zb; rw [h.g hj (by decide) (by decide)]
theorem MR.ve (h : MR w I J σ) (hj : j < 20) : ze σ j = (I (w (21 + j)) 2).toNatClampNeg := by unfold ze; rw [h.g hj (by decide) (by decide)]
theorem oAd_1 {r : Nat → Int32} : (oAd σ j r).1 = σ.1 := rfl
theorem oAd_g {r : Nat → Int32} {i f : Nat} (h : ¬ (i = j ∧ f = 2)) : (oAd σ j r).2.1 i f = σ.2.1 i f := p2_ne _ _ h
theorem oAd_e {r : Nat → Int32} : (oAd σ j r).2.1 j 2 = σ.2.1 j 2 + 1 := p2_at _ _ _ _
theorem oAd_z {r : Nat → Int32} {i o : Nat} (h : ¬ (i = j ∧ o = (σ.2.1 j 2).toNatClampNeg)) : (oAd σ j r).2.2 i o = σ.2.2 i o := p2_ne _ _ h
theorem oAd_zs {r : Nat → Int32} : (oAd σ j r).2.2 j (σ.2.1 j 2).toNatClampNeg = r := p2_at _ _ _ _
/-- a record is appended -/
theorem MR.ad (h : MR w I J σ) (hM : MS w L K N T Q) (hj : j < 20) (hI : ∀ q f, ¬ (q = w (21 + j) ∧ (f = 1 ∨ f = 2)) → I' q f = I q f) (hJ : ∀ q, ¬ q = w (41 + j) → J' q = J q) (e1 : I' (w (21 + j)) 1 = I (w (21 + j)) 1) (e2 : I' (w (21 + j)) 2 = I (w (21 + j)) 2 + 1) (n0 : 0 ≤ (I (w (21 + j)) 1).toInt) (n1 : (I (w (21 + j)) 1).toInt ≤ (I (w (21 + j)) 2).toInt) (n2 : (I (w (21 + j)) 2).toInt < 2000) {r : Nat → Int32} (hlo : ∀ i, i < 8 * (ze σ j - zb σ j) → J' (w (41 + j)) i = J (w (41 + j)) i) (hhi : ∀ f, f < 8 → J' (w (41 + j)) (8 * (ze σ j - zb σ j) + f) = r f) : MR w I' J' (oAd σ j r) := by
  have g1 := h.g hj (f := 1) (by decide) (by decide)
  have g2 := h.g hj (f := 2) (by decide) (by decide)
  rw [g1] at n0 n1
  rw [g2] at n1 n2
  have b1 : zb (oAd σ j r) j = zb σ j := by unfold zb; rw [oAd_g (fun z => absurd z.2 (by decide))]
  have b2 : ze (oAd σ j r) j = ze σ j + 1 := by
    unfold ze
    rw [oAd_e, clT, clT, xaddk (k := 1) (by decide) (by omega) (by omega)]
    omega
  have b3 : zb σ j ≤ ze σ j := by unfold zb ze; rw [clT, clT]; omega
  refine h.wl hM hj hI hJ ?_ ?_ rfl (fun i f hf => oAd_g (fun z => hf ⟨z.1, Or.inr z.2⟩)) (fun i o hi => oAd_z (fun z => hi z.1)) (fun o f ho1 ho2 hf => ?_)
  · rw [e1, g1, oAd_g (fun z => absurd z.2 (by decide))]
  · rw [e2, g2, oAd_e]
  · rw [b1] at ho1 ⊢
    rw [b2] at ho2
    by_cases q : o = ze σ j
    · subst q
      rw [hhi f hf]
      exact congrFun (oAd_zs (σ := σ) (j := j) (r := r)).symm f
    · rw [hlo _ (by omega), oAd_z (fun z => q z.2)]
      exact h.z hj ho1 (by omega) hf
/-- from: nothing is left -/
theorem MR.fr1 (h : MR w I J σ) (hM : MS w L K N T Q) (hj : j < 20) {x : Int32} : MR w (p2 (p2 I (w (21 + j)) 1 x) (w (21 + j)) 2 x) J (sG (sG σ j 1 x) j 2 x) := by
  refine h.wl hM hj (fun q f hf => ?_) (fun _ _ => rfl) ?_ ?_ rfl (fun i f hf => ?_) (fun _ _ _ => rfl) (fun o f ho1 ho2 _ => ?_)
  · rw [p2_ne _ _ (fun z => hf ⟨z.1, Or.inr z.2⟩), p2_ne _ _ (fun z => hf ⟨z.1, Or.inl z.2⟩)]
  · show _ = p2 (p2 σ.2.1 j 1 x) j 2 x j 1
    rw [p2_ne _ _ (fun z => absurd z.2 (by decide)), p2_at, p2_ne _ _ (fun z => absurd z.2 (by decide)), p2_at]
  · show _ = p2 (p2 σ.2.1 j 1 x) j 2 x j 2
    rw [p2_at, p2_at]
  · show p2 (p2 σ.2.1 j 1 x) j 2 x i f = _
    rw [p2_ne _ _ (fun z => hf ⟨z.1, Or.inr z.2⟩), p2_ne _ _ (fun z => hf ⟨z.1, Or.inl z.2⟩)]
  · rw [sG_zb (fun z => absurd z.2 (by decide)), sG_zbs] at ho1
    rw [sG_zes] at ho2
    omega
/-- from: what is before it goes -/
theorem MR.fr2 (h : MR w I J σ) (hM : MS w L K N T Q) (hj : j < 20) {x : Int32} (hJ : ∀ q, ¬ q = w (41 + j) → J' q = J q) (n1 : zb σ j ≤ x.toNatClampNeg) (hz : ∀ i, i < 8 * (ze σ j - x.toNatClampNeg) → J' (w (41 + j)) i = J (w (41 + j)) (8 * (x.toNatClampNeg - zb σ j) + i)) : MR w (p2 I (w (21 + j)) 1 x) J' (sG σ j 1 x) := by
  refine h.wl hM hj (fun q f hf => p2_ne _ _ (fun z => hf ⟨z.1, Or.inl z.2⟩)) hJ ?_ ?_ rfl (fun i f hf => p2_ne _ _ (fun z => hf ⟨z.1, Or.inl z.2⟩)) (fun _ _ _ => rfl) (fun o f ho1 ho2 hf => ?_)
  · show _ = p2 σ.2.1 j 1 x j 1
    rw [p2_at, p2_at]
  · show _ = p2 σ.2.1 j 1 x j 2
    rw [p2_ne _ _ (fun z => absurd z.2 (by decide)), p2_ne _ _ (fun z => absurd z.2 (by decide))]
    exact h.g hj (by decide) (by decide)
  · rw [sG_zbs] at ho1 ⊢
    rw [sG_ze (fun z => absurd z.2 (by decide))] at ho2
    rw [hz _ (by omega), show 8 * (x.toNatClampNeg - zb σ j) + (8 * (o - x.toNatClampNeg) + f) = 8 * (o - zb σ j) + f by omega]
    exact h.z hj (by omega) ho2 hf
end XM
theorem sp_ir1 {t r : Nat → Int32} {n p : Int32} (h : ¬ sp_ir t r n p = 0) : (vp_in p 4 ∧ ¬ t p.toNatClampNeg = 0) ∧ vp_in n 5 ∧ (r p.toNatClampNeg >>> (n &&& 31)) &&& 1 = 1 := by
  unfold sp_ir at h
  by_cases h1 : sp_it t p = 0
  · rw [if_pos h1] at h; exact absurd rfl h
  · rw [if_neg h1] at h
    by_cases h2 : sp_in n.toInt64 0 4 = 0
    · rw [if_pos h2] at h; exact absurd rfl h
    · rw [if_neg h2] at h
      by_cases h3 : (r p.toNatClampNeg >>> (n &&& 31)) &&& 1 = 1
      · exact ⟨sp_it1 h1, xin_sp h2 (by decide), h3⟩
      · rw [if_neg h3] at h; exact absurd rfl h
theorem sp_it_c {f g : Nat → Int32} {x : Int32} (h : ∀ p, p < 4 → f p = g p) : sp_it f x = sp_it g x := by
  unfold sp_it
  by_cases q : 0 ≤ x.toInt ∧ x.toInt < 4
  · rw [h _ (vp_lt (xin_of q.1 q.2))]
  · rw [if_neg (fun z => q ⟨z.1, z.2.1⟩), if_neg (fun z => q ⟨z.1, z.2.1⟩)]
theorem sp_ir_c {t t' r r' : Nat → Int32} {n p : Int32} (h1 : ∀ p, p < 4 → t p = t' p) (h2 : ∀ p, p < 4 → r p = r' p) : sp_ir t r n p = sp_ir t' r' n p := by
  unfold sp_ir
  rw [sp_it_c h1]
  by_cases q : sp_it t' p = 0
  · rw [if_pos q, if_pos q]
  · rw [if_neg q, if_neg q, h2 _ (vp_lt (sp_it1 q).1)]
section XM
variable {w : Nat → Nat} {I J : Nat → Nat → Int32} {σ : SG}
theorem MR.it (h : MR w I J σ) (x : Int32) : sp_it (J (w 2)) x = sp_it (σ.1 2) x := sp_it_c (fun p hp => h.a (by decide) (by decide) hp)
theorem MR.ir (h : MR w I J σ) (n x : Int32) : sp_ir (J (w 2)) (J (w 3)) n x = sp_ir (σ.1 2) (σ.1 3) n x := sp_ir_c (fun p hp => h.a (by decide) (by decide) hp) (fun p hp => h.a (by decide) (by decide) hp)
theorem MR.iu (h : MR w I J σ) (x : Int32) : sp_iu (I (w 0) 16) x = sp_iu (σ.1 0 0) x := by rw [h.1.1]
/-- own, as a value -/
theorem MR.ow (h : MR w I J σ) {p : Nat} (hp : p < 4) : sp_ow w (I (w 0) 16) (J (w 4) p) p = (oOw σ p).map (fun j => w (21 + j)) := by
  rw [h.1.1, h.a (k := 4) (by decide) (by decide) hp]
  unfold sp_ow oOw
  by_cases h1 : σ.1 4 p < 0
  · rw [if_pos h1, if_pos h1]; rfl
  · rw [if_neg h1, if_neg h1]
    by_cases h2 : sp_iu (σ.1 0 0) (σ.1 4 p) = 0
    · rw [if_pos h2, if_pos h2]; rfl
    · rw [if_neg h2, if_neg h2]; rfl
end XM
theorem oOw_no {w : Nat → Nat} {I J : Nat → Nat → Int32} {σ : SG} (h : MR w I J σ) {p : Nat} (hp : p < 4) (ho : sp_ow w (I (w 0) 16) (J (w 4) p) p = none) : oOw σ p = none := by
  have h9 := (h.ow hp).symm.trans ho
  cases hz : oOw σ p with
  | none => rfl
  | some j => rw [hz] at h9; cases h9
theorem oRi_no {σ : SG} {p : Nat} (h : oOw σ p = none) : oRi σ p = σ := by unfold oRi; rw [h]
theorem oRi_s {σ : SG} {p j : Nat} (h : oOw σ p = some j) : oRi σ p = if oLs σ p 5 = 2147483647 then σ else if σ.2.1 j 3 < oLs σ p 5 then sG σ j 3 (oLs σ p 5) else σ := by unfold oRi; rw [h]
theorem oOw_of {w : Nat → Nat} {L : List Nat} {K N : Nat → Nat} {T : Nat → Nat → Nat} {Q : Nat → Nat → Option Nat} {I J : Nat → Nat → Int32} {σ : SG} (hM : MS w L K N T Q) (h : MR w I J σ) {p n : Nat} (hp : p < 4) (hn : n < 5) (el : J (w 4) p = nI n) (hu : (I (w 0) 16 >>> (nI n &&& 31)) &&& 1 = 1) : oOw σ p = some (5 * p + n) := by
  rw [h.a (k := 4) (by decide) (by decide) hp] at el
  rw [h.1.1] at hu
  unfold oOw
  rw [el, if_neg (nI_pos (by omega)), if_neg (fun q => by
    unfold sp_iu at q
    rw [if_pos ⟨by rw [nI_toInt (by omega)]; omega, by rw [nI_toInt (by omega)]; omega, hu⟩] at q
    exact absurd q (by decide)), nI_clamp (by omega)]
theorem sG_o {σ : SG} {j i f g : Nat} {x : Int32} (h : ¬ g = f) : (sG σ j f x).2.1 i g = σ.2.1 i g := p2_ne _ _ (fun z => h z.2)
theorem sG_n {σ : SG} {j i f : Nat} {x : Int32} (h : ¬ i = j) : (sG σ j f x).2.1 i = σ.2.1 i := p2_na _ _ h
theorem sG_s {σ : SG} {j f : Nat} {x : Int32} : (sG σ j f x).2.1 j f = x := p2_at _ _ _ _
theorem sG_1 {σ : SG} {j f : Nat} {x : Int32} : (sG σ j f x).1 = σ.1 := rfl
theorem sG_z {σ : SG} {j f : Nat} {x : Int32} : (sG σ j f x).2.2 = σ.2.2 := rfl
theorem sA_2 {σ : SG} {k p : Nat} {x : Int32} : (sA σ k p x).2.1 = σ.2.1 := rfl
theorem sA_z {σ : SG} {k p : Nat} {x : Int32} : (sA σ k p x).2.2 = σ.2.2 := rfl
theorem sA_n {σ : SG} {k i p q : Nat} {x : Int32} (h : ¬ i = k) : (sA σ k p x).1 i q = σ.1 i q := p2_ne _ _ (fun z => h z.1)
theorem sA_s {σ : SG} {k p : Nat} {x : Int32} : (sA σ k p x).1 k p = x := p2_at _ _ _ _
theorem sA_o {σ : SG} {k p q : Nat} {x : Int32} (h : ¬ q = p) : (sA σ k p x).1 k q = σ.1 k q := p2_ne _ _ (fun z => h z.2)
theorem gTwo_1 {σ : SG} {p f1 f2 : Nat} {x1 x2 : Int32} : ∀ n : Nat, (gTwo σ p f1 f2 x1 x2 n).1 = σ.1 := by
  intro n
  induction n with
  | zero => rfl
  | succ n ih => show (gTwo σ p f1 f2 x1 x2 n).1 = σ.1; exact ih
theorem oRi_1 (σ : SG) (p : Nat) : (oRi σ p).1 = σ.1 := by
  unfold oRi
  cases oOw σ p with
  | none => rfl
  | some j =>
    show (if _ then _ else _ : SG).1 = _
    by_cases h : oLs σ p 5 = 2147483647
    · rw [if_pos h]
    · rw [if_neg h]
      by_cases h2 : σ.2.1 j 3 < oLs σ p 5
      · rw [if_pos h2]; rfl
      · rw [if_neg h2]
theorem oSe_2 {σ : SG} {j o : Nat} : ∀ n : Nat, (oSe σ j o n).2 = σ.2 := by
  intro n
  induction n with
  | zero => rfl
  | succ n ih => show (oSe σ j o n).2 = σ.2; exact ih
def oLv (o : Option Nat) : Int32 := match o with
  | none => (-1)
  | some q => nI q
theorem fD_no {P : Nat → Bool} {s q : Nat} (h : s ≤ q) (hp : ¬ P q = true) : fD P s (q + 1 - s) = fD P s (q - s) := by
  rw [show q + 1 - s = (q - s) + 1 by omega]
  exact fD_step (by rw [show s + (q - s) = q by omega]; exact hp)
theorem fD_yes {P : Nat → Bool} {s q : Nat} (h : s ≤ q) (hp : P q = true) : fD P s (q + 1 - s) = some q := by
  rw [show q + 1 - s = (q - s) + 1 by omega, fD_hit (by rw [show s + (q - s) = q by omega]; exact hp), show s + (q - s) = q by omega]
theorem fD_lt {P : Nat → Bool} {s : Nat} : ∀ {n q : Nat}, fD P s n = some q → s ≤ q ∧ q < s + n ∧ P q = true := by
  intro n
  induction n with
  | zero => intro q h; cases h
  | succ n ih =>
    intro q h
    rw [fD] at h
    by_cases hp : P (s + n) = true
    · rw [if_pos hp] at h; cases h; exact ⟨by omega, by omega, hp⟩
    · rw [if_neg hp] at h
      obtain ⟨h1, h2, h3⟩ := ih h
      exact ⟨h1, by omega, h3⟩
theorem fU_lt {P : Nat → Bool} : ∀ {n s q : Nat}, fU P n s = some q → s ≤ q ∧ q < s + n ∧ P q = true := by
  intro n
  induction n with
  | zero => intro s q h; cases h
  | succ n ih =>
    intro s q h
    rw [fU] at h
    by_cases hp : P s = true
    · rw [if_pos hp] at h; cases h; exact ⟨by omega, by omega, hp⟩
    · rw [if_neg hp] at h
      obtain ⟨h1, h2, h3⟩ := ih h
      exact ⟨by omega, by omega, h3⟩
theorem oRi_g {σ : SG} {p i f : Nat} (h : ¬ f = 3) : (oRi σ p).2.1 i f = σ.2.1 i f := by
  unfold oRi
  cases oOw σ p with
  | none => rfl
  | some j =>
    show (if _ then _ else _ : SG).2.1 i f = _
    by_cases h1 : oLs σ p 5 = 2147483647
    · rw [if_pos h1]
    · rw [if_neg h1]
      by_cases h2 : σ.2.1 j 3 < oLs σ p 5
      · rw [if_pos h2]; exact sG_o h
      · rw [if_neg h2]
theorem oRi_z (σ : SG) (p : Nat) : (oRi σ p).2.2 = σ.2.2 := by
  unfold oRi
  cases oOw σ p with
  | none => rfl
  | some j =>
    show (if _ then _ else _ : SG).2.2 = _
    by_cases h1 : oLs σ p 5 = 2147483647
    · rw [if_pos h1]
    · rw [if_neg h1]
      by_cases h2 : σ.2.1 j 3 < oLs σ p 5
      · rw [if_pos h2]; rfl
      · rw [if_neg h2]

theorem nar1 : vp_nar FieldType.boolean 1 = 1 := by first | rfl | decide
section XM
variable {w : Nat → Nat} {I J : Nat → Nat → Int32} {σ : SG} {j : Nat} {y : Int32}
theorem MR.lte (h : MR w I J σ) (hj : j < 20) (h0 : 0 ≤ y.toInt) (h1 : y.toInt < (I (w (21 + j)) 2).toInt) : y.toNatClampNeg < ze σ j := by rw [h.ve hj, clT, clT]; omega
theorem MR.gee (h : MR w I J σ) (hj : j < 20) (h1 : (I (w (21 + j)) 2).toInt ≤ y.toInt) : ze σ j ≤ y.toNatClampNeg := by rw [h.ve hj, clT, clT]; omega
theorem MR.nlt (h : MR w I J σ) (hj : j < 20) (h1 : (I (w (21 + j)) 2).toInt ≤ y.toInt) : ¬ y.toNatClampNeg < ze σ j := by have := h.gee hj h1; omega
theorem MR.lee (h : MR w I J σ) (hj : j < 20) (h1 : y.toInt ≤ (I (w (21 + j)) 2).toInt) : y.toNatClampNeg ≤ ze σ j := by rw [h.ve hj, clT, clT]; omega
theorem MR.leb (h : MR w I J σ) (hj : j < 20) (h1 : (I (w (21 + j)) 1).toInt ≤ y.toInt) : zb σ j ≤ y.toNatClampNeg := by rw [h.vb hj, clT, clT]; omega
theorem MR.eqe (h : MR w I J σ) (hj : j < 20) (h1 : y.toInt = (I (w (21 + j)) 2).toInt) : ze σ j = y.toNatClampNeg := by rw [h.ve hj, clT, clT]; omega
end XM
