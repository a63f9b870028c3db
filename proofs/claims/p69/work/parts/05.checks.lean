/-! ===== THE ROWS AGAINST THE CODE, THE LINKS AGAINST THE TABLES: decided by the kernel ===== -/
def qNx (tl : List PRow) (pc : Nat) : Bool := match tl with | [] => false | r :: _ => r.1 == pc
def qJp (all : List PRow) (r1 pc : Nat) (off : Int) : Bool := match all[r1]? with | none => false | some q => decide ((pc : Int) + off = (q.1 : Int))
def qFok (o idx ci k j : Nat) : Bool := match qFL[j]? with | none => false | some f => f.1 == o && (f.2.1 == idx && (f.2.2.1 == ci && f.2.2.2.1 == k))
def qFn (j : Nat) : Nat := match qFL[j]? with | none => 2 | some f => f.2.2.2.2.1
def qCok (o idx ci j : Nat) : Bool := match qCL[j]? with | none => false | some f => f.1 == o && (f.2.1 == idx && f.2.2.1 == ci)
def qKok (o idx v lg j : Nat) : Bool := match qKL[j]? with | none => false | some f => f.1 == o && (f.2.1 == idx && (f.2.2.1 == v && f.2.2.2.1 == lg))
noncomputable def qMok (o idx r1 r2 kd fr lo j : Nat) : Bool := match qML[j]? with
  | none => false
  | some f => f.1 == o && (f.2.1 == idx && (f.2.2.1 == r1 && (f.2.2.2.2.2 == kd && ((decide (f.2.2.2.1 = 0 ∧ kd < 2) || r2 == 1) && (
      if r1 = 0 then decide (1 ≤ fr ∧ 20 ≤ lo) else if r1 < 4 then decide (1 ≤ fr ∧ 40 ≤ lo)
      else decide (10 ≤ r1) && (match qMIL[r1 - 10]? with
        | none => false
        | some c => decide (c.2.2.2.2.2.2.2.1 + 1 ≤ fr ∧ 8 + (c.2.2.2.1 + 11) + c.2.2.2.2.2.2.2.2.1 ≤ lo)))))))
def qThok (bc : ByteArray) (o pc e fr lo j : Nat) : Bool := match qTH[j]? with
  | none => false
  | some t => o == 9 && (t.2.2.2.1 == e && (decide (6 ≤ fr ∧ 90 ≤ lo) && (decide (decode bc pc = .ok (.new t.1, 3)) && (decide (decode bc (pc + 3) = .ok (.dup, 1)) && (
      if t.2.2.2.2.1 = 0 then decide (decode bc (pc + 4) = .ok (.ldc t.2.1, 2)) && (decide (decode bc (pc + 6) = .ok (.invokespecial t.2.2.1, 3)) && decide (decode bc (pc + 9) = .ok (.athrow, 1)))
      else decide (decode bc (pc + 4) = .ok (.ldc_w t.2.1, 3)) && (decide (decode bc (pc + 7) = .ok (.invokespecial t.2.2.1, 3)) && decide (decode bc (pc + 10) = .ok (.athrow, 1))))))))
/-- a row is its code's -/
noncomputable def qRowOk (o : Nat) (init : Bool) (fr lo : Nat) (bc : ByteArray) (all tl : List PRow) (r : PRow) : Bool :=
  decide (decode bc r.1 = .ok (r.2.1, r.2.2.1)) && (match r.2.1 with
    | .goto off => r.2.2.1 == 3 && qJp all r.2.2.2.1 r.1 off
    | .ifCond _ off => r.2.2.1 == 3 && (qJp all r.2.2.2.1 r.1 off && qNx tl (r.1 + 3))
    | .if_icmp _ off => r.2.2.1 == 3 && (qJp all r.2.2.2.1 r.1 off && qNx tl (r.1 + 3))
    | .if_acmp _ off => r.2.2.1 == 3 && (qJp all r.2.2.2.1 r.1 off && qNx tl (r.1 + 3))
    | .ifnull off => r.2.2.1 == 3 && (qJp all r.2.2.2.1 r.1 off && qNx tl (r.1 + 3))
    | .ifnonnull off => r.2.2.1 == 3 && (qJp all r.2.2.2.1 r.1 off && qNx tl (r.1 + 3))
    | .ireturn => r.2.2.1 == 1
    | .lreturn => r.2.2.1 == 1
    | .dreturn => r.2.2.1 == 1
    | .areturn => r.2.2.1 == 1
    | .return_ => r.2.2.1 == 1
    | .tableswitch .. => true
    | .athrow => true
    | .getfield idx => r.2.2.1 == 3 && (qNx tl (r.1 + 3) && qFok o idx r.2.2.2.1 r.2.2.2.2.1 r.2.2.2.2.2)
    | .putfield idx => r.2.2.1 == 3 && (qNx tl (r.1 + 3) && (qFok o idx r.2.2.2.1 r.2.2.2.2.1 r.2.2.2.2.2 && (if (qTf r.2.2.2.1 r.2.2.2.2.1).2.2.2 = true then init && (decide (r.2.2.2.1 = o ∧ o < 12) && qFn r.2.2.2.2.2 == 0) else true)))
    | .new idx => if r.2.2.2.1 < 12 then r.2.2.1 == 3 && (qNx tl (r.1 + 3) && qCok o idx r.2.2.2.1 r.2.2.2.2.2) else decide (100 ≤ r.2.2.2.1) && qThok bc o r.1 (r.2.2.2.1 - 100) fr lo r.2.2.2.2.2
    | .anewarray idx => r.2.2.1 == 3 && (qNx tl (r.1 + 3) && (qCok o idx r.2.2.2.1 r.2.2.2.2.2 && decide (15 ≤ r.2.2.2.1)))
    | .multianewarray idx d => r.2.2.1 == 4 && (qNx tl (r.1 + 4) && (qCok o idx 19 r.2.2.2.2.2 && d == 2))
    | .invokevirtual idx => r.2.2.1 == 3 && (qNx tl (r.1 + 3) && qMok o idx r.2.2.2.1 r.2.2.2.2.1 0 fr lo r.2.2.2.2.2)
    | .invokestatic idx => r.2.2.1 == 3 && (qNx tl (r.1 + 3) && qMok o idx r.2.2.2.1 r.2.2.2.2.1 1 fr lo r.2.2.2.2.2)
    | .invokespecial idx => r.2.2.1 == 3 && (qNx tl (r.1 + 3) && (r.2.2.2.1 == 9 || qMok o idx r.2.2.2.1 r.2.2.2.2.1 2 fr lo r.2.2.2.2.2))
    | .ldc idx => r.2.2.1 == 2 && (qNx tl (r.1 + 2) && (r.2.2.2.1 == 0 || qKok o idx r.2.2.2.1 0 r.2.2.2.2.2))
    | .ldc_w idx => r.2.2.1 == 3 && (qNx tl (r.1 + 3) && (r.2.2.2.1 == 0 || qKok o idx r.2.2.2.1 0 r.2.2.2.2.2))
    | .ldc2_w idx => r.2.2.1 == 3 && (qNx tl (r.1 + 3) && (r.2.2.2.1 == 0 || qKok o idx r.2.2.2.1 1 r.2.2.2.2.2))
    | .bipush _ => r.2.2.1 == 2 && qNx tl (r.1 + 2)
    | .newarray _ => r.2.2.1 == 2 && qNx tl (r.1 + 2)
    | .sipush _ => r.2.2.1 == 3 && qNx tl (r.1 + 3)
    | .iinc _ _ => r.2.2.1 == 3 && qNx tl (r.1 + 3)
    | .iload _ => r.2.2.1 == 2 && qNx tl (r.1 + 2)
    | .lload _ => r.2.2.1 == 2 && qNx tl (r.1 + 2)
    | .dload _ => r.2.2.1 == 2 && qNx tl (r.1 + 2)
    | .aload _ => r.2.2.1 == 2 && qNx tl (r.1 + 2)
    | .istore _ => r.2.2.1 == 2 && qNx tl (r.1 + 2)
    | .lstore _ => r.2.2.1 == 2 && qNx tl (r.1 + 2)
    | .dstore _ => r.2.2.1 == 2 && qNx tl (r.1 + 2)
    | .astore _ => r.2.2.1 == 2 && qNx tl (r.1 + 2)
    | _ => r.2.2.1 == 1 && qNx tl (r.1 + 1))
noncomputable def qRowsOk (o : Nat) (init : Bool) (fr lo : Nat) (bc : ByteArray) (all : List PRow) : List PRow → Bool
  | [] => true
  | r :: tl => qRowOk o init fr lo bc all tl r && qRowsOk o init fr lo bc all tl
noncomputable def qMetOk (m : Nat) : Bool := match qMIL[m]? with
  | none => false
  | some c => qRowsOk c.1 (decide (c.2.1.name = "<init>")) c.2.2.2.2.2.2.2.1 c.2.2.2.2.2.2.2.2.1 c.2.2.1 (qRows m) (qRows m) && (match qRows m with | [] => false | r :: _ => r.1 == 0)
/-- rows a .. a + n - 1 of method m -/
noncomputable def qAt (m i : Nat) : Bool := match qMIL[m]? with
  | none => false
  | some c => match (qRows m).drop i with
    | [] => false
    | r :: tl => qRowOk c.1 (decide (c.2.1.name = "<init>")) c.2.2.2.2.2.2.2.1 c.2.2.2.2.2.2.2.2.1 c.2.2.1 (qRows m) tl r
noncomputable def qSpan (m a : Nat) : Nat → Bool
  | 0 => true
  | n + 1 => qAt m (a + n) && qSpan m a n
