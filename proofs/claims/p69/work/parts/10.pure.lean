/-! ===== THE PURE MACHINE: a bytecode interpreter over a heap of numbered cells; what it answers, the machine answers (part 06) ===== -/
abbrev PV : Type := List (Option Value)
/-- kinds of cells, lengths, contents, how many, cells made, slots made -/
abbrev PS : Type := (Nat → Nat) × (Nat → Nat) × (Nat → Nat → Value) × Nat × Nat × Nat
def pK (g : PS) : Nat → Nat := g.1
def pL (g : PS) : Nat → Nat := g.2.1
def pM (g : PS) : Nat → Nat → Value := g.2.2.1
def pN (g : PS) : Nat := g.2.2.2.1
def pC (g : PS) : Nat := g.2.2.2.2.1
def pZ (g : PS) : Nat := g.2.2.2.2.2
def pU (f : Nat → Nat → Value) (a k : Nat) (v : Value) : Nat → Nat → Value := fun x j => if x = a ∧ j = k then v else f x j
def pPut (g : PS) (a k : Nat) (v : Value) : PS := (g.1, g.2.1, pU g.2.2.1 a k v, g.2.2.2)
def pNew (g : PS) (kd ln z : Nat) (row : Nat → Value) : PS :=
  (fun x => if x = pN g then kd else pK g x, fun x => if x = pN g then ln else pL g x, fun x j => if x = pN g then row j else pM g x j, pN g + 1, pC g + 1, pZ g + z)
/-- new int[n][k]: the outer one first, then its rows -/
def pMul (g : PS) (n k : Nat) : PS :=
  (fun x => if x = pN g then 19 else if pN g < x ∧ x ≤ pN g + n then 12 else pK g x,
   fun x => if x = pN g then n else if pN g < x ∧ x ≤ pN g + n then k else pL g x,
   fun x j => if x = pN g then (if j < n then .ref (pN g + 1 + j) else .null) else if pN g < x ∧ x ≤ pN g + n then .int 0 else pM g x j,
   pN g + 1 + n, pC g + (1 + n), pZ g + (n + n * k))
/-- an exception is made and thrown: it costs its room; nobody looks at it -/
def pThr (g : PS) : PS := (fun x => if x = pN g then 99 else pK g x, pL g, pM g, pN g + 1, pC g + 1, pZ g + 6)
/-- an array copy, within one array too -/
def pCpy (g : PS) (a i b j n : Nat) : PS :=
  (g.1, g.2.1, fun x q => if x = b ∧ j ≤ q ∧ q < j + n then pM g a (i + (q - j)) else pM g x q, g.2.2.2)
/-- the kind of what an array of references holds -/
def pE (kd : Nat) : Nat := match kd with
  | 15 => 0 | 16 => 2 | 17 => 3 | 18 => 6 | 19 => 0 | _ => 98
def pIsRef (v : Value) : Bool := match v with | .ref _ => true | .null => true | _ => false
/-- what a value is worth of locals and stack -/
def pCat2 (o : Option (Option Value)) : Bool := match o with
  | some (some (.long _)) => true | some (some (.double _)) => true | _ => false
/-- the slot ahead of i is given up where it holds a value of two slots -/
def pClr (ls : PV) (i : Nat) : PV := match i with
  | 0 => ls
  | j + 1 => if pCat2 ls[j]? = true then ls.set j none else ls
def pSet1 (ls : PV) (i : Nat) (v : Value) : PV := (pClr ls i).set i (some v)
def pSet2 (ls : PV) (i : Nat) (v : Value) : PV := ((pClr ls i).set i (some v)).set (i + 1) none
def pOut (i : Int32) (n : Nat) : Prop := i < 0 ∨ n ≤ i.toNatClampNeg
abbrev PR : Type := Nat × PV × List Value × PS
/-- store into a local -/
def pSt1 (i : Nat) (v : Value) (nx : Nat) (ls : PV) (st : List Value) (g : PS) : Option PR := if i < ls.length then some (nx, pSet1 ls i v, st, g) else none
def pSt2 (i : Nat) (v : Value) (nx : Nat) (ls : PV) (st : List Value) (g : PS) : Option PR := if i + 1 < ls.length then some (nx, pSet2 ls i v, st, g) else none
/-- load an int, a long, a double, a reference -/
def pLdI (i : Nat) (nx : Nat) (ls : PV) (st : List Value) (g : PS) : Option PR := match ls[i]? with | some (some (.int x)) => some (nx, ls, .int x :: st, g) | _ => none
def pLdL (i : Nat) (nx : Nat) (ls : PV) (st : List Value) (g : PS) : Option PR := match ls[i]? with | some (some (.long x)) => some (nx, ls, .long x :: st, g) | _ => none
def pLdD (i : Nat) (nx : Nat) (ls : PV) (st : List Value) (g : PS) : Option PR := match ls[i]? with | some (some (.double x)) => some (nx, ls, .double x :: st, g) | _ => none
def pLdA (i : Nat) (nx : Nat) (ls : PV) (st : List Value) (g : PS) : Option PR := match ls[i]? with | some (some (.ref x)) => some (nx, ls, .ref x :: st, g) | some (some .null) => some (nx, ls, .null :: st, g) | _ => none
def pIf (P : Prop) [Decidable P] (tgt nx : Nat) (ls : PV) (st : List Value) (g : PS) : Option PR := some (if P then tgt else nx, ls, st, g)
/-- ints of a stack: two on top -/
def pII (st : List Value) (f : Int32 → Int32 → List Value → Option PR) : Option PR := match st with
  | .int y :: .int x :: r => f x y r | _ => none
def pI (st : List Value) (f : Int32 → List Value → Option PR) : Option PR := match st with
  | .int x :: r => f x r | _ => none
def pLL (st : List Value) (f : Int64 → Int64 → List Value → Option PR) : Option PR := match st with
  | .long y :: .long x :: r => f x y r | _ => none
def pDD (st : List Value) (f : UInt64 → UInt64 → List Value → Option PR) : Option PR := match st with
  | .double y :: .double x :: r => f x y r | _ => none
/-- the kind of a row of ints: the class's 12, the law's own 13 -/
def pKd (r1 : Nat) : Nat := if r1 = 1 then 13 else 12
theorem pKd_or (r1 : Nat) : pKd r1 = 12 ∨ pKd r1 = 13 := by unfold pKd; split <;> omega
/-- one instruction (no call, no return, no throw): nx is the row behind, r1 .. r3 what its pool's entry says -/
def pStep (ins : Instr) (nx r1 r2 : Nat) (ls : PV) (st : List Value) (g : PS) : Option PR := match ins with
  | .iconst n => some (nx, ls, .int (Int32.ofInt n) :: st, g)
  | .bipush n => some (nx, ls, .int (Int8.ofInt n).toInt32 :: st, g)
  | .sipush n => some (nx, ls, .int (Int16.ofInt n).toInt32 :: st, g)
  | .lconst n => some (nx, ls, .long (Int64.ofNat (n : Nat)) :: st, g)
  | .dconst n => if (n : Nat) = 0 then some (nx, ls, .double FP.dconst0 :: st, g) else none
  | .aconst_null => some (nx, ls, .null :: st, g)
  | .ldc_w _ => some (nx, ls, .int (Int32.ofNat r1) :: st, g)
  | .ldc _ => some (nx, ls, .int (Int32.ofNat r1) :: st, g)
  | .ldc2_w _ => some (nx, ls, .long (Int64.ofNat r1) :: st, g)
  | .iload_n i => pLdI i nx ls st g
  | .iload i => pLdI i nx ls st g
  | .lload_n i => pLdL i nx ls st g
  | .lload i => pLdL i nx ls st g
  | .dload_n i => pLdD i nx ls st g
  | .dload i => pLdD i nx ls st g
  | .aload_n i => pLdA i nx ls st g
  | .aload i => pLdA i nx ls st g
  | .istore_n i => match st with | .int x :: r => pSt1 i (.int x) nx ls r g | _ => none
  | .istore i => match st with | .int x :: r => pSt1 i (.int x) nx ls r g | _ => none
  | .lstore_n i => match st with | .long x :: r => pSt2 i (.long x) nx ls r g | _ => none
  | .lstore i => match st with | .long x :: r => pSt2 i (.long x) nx ls r g | _ => none
  | .dstore_n i => match st with | .double x :: r => pSt2 i (.double x) nx ls r g | _ => none
  | .dstore i => match st with | .double x :: r => pSt2 i (.double x) nx ls r g | _ => none
  | .astore_n i => match st with | .ref x :: r => pSt1 i (.ref x) nx ls r g | .null :: r => pSt1 i .null nx ls r g | _ => none
  | .astore i => match st with | .ref x :: r => pSt1 i (.ref x) nx ls r g | .null :: r => pSt1 i .null nx ls r g | _ => none
  | .iinc i n => match ls[i]? with | some (some (.int x)) => pSt1 i (.int (x + Int32.ofInt n)) nx ls st g | _ => none
  | .iadd => pII st fun x y r => some (nx, ls, .int (x + y) :: r, g)
  | .isub => pII st fun x y r => some (nx, ls, .int (x - y) :: r, g)
  | .imul => pII st fun x y r => some (nx, ls, .int (x * y) :: r, g)
  | .idiv => pII st fun x y r => if y = 0 then none else some (nx, ls, .int (x / y) :: r, g)
  | .irem => pII st fun x y r => if y = 0 then none else some (nx, ls, .int (x - x / y * y) :: r, g)
  | .iand => pII st fun x y r => some (nx, ls, .int (x &&& y) :: r, g)
  | .ior => pII st fun x y r => some (nx, ls, .int (x ||| y) :: r, g)
  | .ixor => pII st fun x y r => some (nx, ls, .int (x ^^^ y) :: r, g)
  | .ishl => pII st fun x y r => some (nx, ls, .int (x <<< (y &&& 31)) :: r, g)
  | .ishr => pII st fun x y r => some (nx, ls, .int (x >>> (y &&& 31)) :: r, g)
  | .iushr => pII st fun x y r => some (nx, ls, .int (x.toUInt32 >>> (y.toUInt32 &&& Int32.toUInt32 31)).toInt32 :: r, g)
  | .ladd => pLL st fun x y r => some (nx, ls, .long (x + y) :: r, g)
  | .lmul => pLL st fun x y r => some (nx, ls, .long (x * y) :: r, g)
  | .lcmp => pLL st fun x y r => some (nx, ls, .int (lg_cmp x y) :: r, g)
  | .i2l => pI st fun x r => some (nx, ls, .long x.toInt64 :: r, g)
  | .i2d => pI st fun x r => some (nx, ls, .double (FP.i2d x) :: r, g)
  | .dadd => pDD st fun x y r => if FP.dadd x y &&& 0x7fffffffffffffff ≤ 0x7ff0000000000000 then some (nx, ls, .double (FP.dadd x y) :: r, g) else none
  | .ddiv => pDD st fun x y r => if FP.ddiv x y &&& 0x7fffffffffffffff ≤ 0x7ff0000000000000 then some (nx, ls, .double (FP.ddiv x y) :: r, g) else none
  | .dcmp o => pDD st fun x y r => some (nx, ls, .int (Op.cmpValue (FP.dcmp x y) o) :: r, g)
  | .dup => match st with | v :: r => if v.category = 1 then some (nx, ls, v :: v :: r, g) else none | _ => none
  | .dup2 => match st with | v :: w :: r => if v.category = 1 ∧ w.category = 1 then some (nx, ls, v :: w :: v :: w :: r, g) else none | _ => none
  | .pop => match st with | v :: r => if v.category = 1 then some (nx, ls, r, g) else none | _ => none
  | .goto _ => some (r1, ls, st, g)
  | .ifCond c _ => pI st fun x r => match c with
    | .eq => pIf (x = 0) r1 nx ls r g
    | .ne => pIf (¬ x = 0) r1 nx ls r g
    | .lt => pIf (x < 0) r1 nx ls r g
    | .ge => pIf (0 ≤ x) r1 nx ls r g
    | .gt => pIf (0 < x) r1 nx ls r g
    | .le => pIf (x ≤ 0) r1 nx ls r g
  | .if_icmp c _ => pII st fun x y r => match c with
    | .eq => pIf (x = y) r1 nx ls r g
    | .ne => pIf (¬ x = y) r1 nx ls r g
    | .lt => pIf (x < y) r1 nx ls r g
    | .ge => pIf (y ≤ x) r1 nx ls r g
    | .gt => pIf (y < x) r1 nx ls r g
    | .le => pIf (x ≤ y) r1 nx ls r g
  | .if_acmp c _ => match st with
    | .ref y :: .ref x :: r => match c with
      | .eq => pIf (x = y) r1 nx ls r g
      | .ne => pIf (¬ x = y) r1 nx ls r g
    | _ => none
  | .ifnull _ => match st with | .ref _ :: r => some (nx, ls, r, g) | .null :: r => some (r1, ls, r, g) | _ => none
  | .ifnonnull _ => match st with | .ref _ :: r => some (r1, ls, r, g) | .null :: r => some (nx, ls, r, g) | _ => none
  | .getfield _ => match st with | .ref a :: r => if pK g a = r1 ∧ r2 < pF r1 then some (nx, ls, pM g a r2 :: r, g) else none | _ => none
  | .putfield _ => match st with | v :: .ref a :: r => if pK g a = r1 ∧ r2 < pF r1 ∧ fits (pT r1 r2) v = true then some (nx, ls, r, pPut g a r2 v) else none | _ => none
  | .arraylength => match st with | .ref a :: r => if 12 ≤ pK g a ∧ pK g a ≤ 20 then some (nx, ls, .int (Int32.ofNat (pL g a)) :: r, g) else none | _ => none
  | .iaload => match st with | .int i :: .ref a :: r => if (pK g a = 12 ∨ pK g a = 20 ∨ pK g a = 13) ∧ ¬ (i < 0 ∨ pL g a ≤ i.toNatClampNeg) then some (nx, ls, pM g a i.toNatClampNeg :: r, g) else none | _ => none
  | .laload => none
  | .baload => none
  | .aaload => match st with | .int i :: .ref a :: r => if 15 ≤ pK g a ∧ pK g a ≤ 19 ∧ ¬ (i < 0 ∨ pL g a ≤ i.toNatClampNeg) then some (nx, ls, pM g a i.toNatClampNeg :: r, g) else none | _ => none
  | .iastore => match st with | .int x :: .int i :: .ref a :: r => if pK g a = pKd r1 ∧ ¬ (i < 0 ∨ pL g a ≤ i.toNatClampNeg) then some (nx, ls, r, pPut g a i.toNatClampNeg (.int x)) else none | _ => none
  | .lastore => none
  | .bastore => none
  | .aastore => match st with
    | .ref v :: .int i :: .ref a :: r => if 15 ≤ pK g a ∧ pK g a ≤ 19 ∧ pK g v = pE (pK g a) ∧ ¬ (i < 0 ∨ pL g a ≤ i.toNatClampNeg) then some (nx, ls, r, pPut g a i.toNatClampNeg (.ref v)) else none
    | .null :: .int i :: .ref a :: r => if 15 ≤ pK g a ∧ pK g a ≤ 18 ∧ ¬ (i < 0 ∨ pL g a ≤ i.toNatClampNeg) then some (nx, ls, r, pPut g a i.toNatClampNeg .null) else none
    | _ => none
  | .new _ => if r1 < 12 then some (nx, ls, .ref (pN g) :: st, pNew g r1 0 (pF r1) (fun k => defaultValue (pT r1 k))) else none
  | .newarray t => match t with
    | .int => pI st fun n r => if n < 0 ∨ 100000000 < n.toNatClampNeg then none else some (nx, ls, .ref (pN g) :: r, pNew g (pKd r1) n.toNatClampNeg n.toNatClampNeg (fun _ => .int 0))
    | _ => none
  | .anewarray _ => pI st fun n r => if n < 0 ∨ 100000000 < n.toNatClampNeg ∨ ¬ (15 ≤ r1 ∧ r1 ≤ 18) then none else some (nx, ls, .ref (pN g) :: r, pNew g r1 n.toNatClampNeg n.toNatClampNeg (fun _ => .null))
  | .multianewarray _ _ => none
  | _ => none
/-- the args of a call, in the stack's order, out of the stack -/
def pPop (n : Nat) (st : List Value) : Option (List Value × List Value) := if n ≤ st.length then some ((st.take n).reverse, st.drop n) else none
/-- the locals at a method's entry -/
def pEnt : List Value → PV
  | [] => []
  | v :: vs => if v.category = 2 then some v :: none :: pEnt vs else some v :: pEnt vs
def pEntry (nL : Nat) (av : List Value) : PV := pEnt av ++ List.replicate (nL - (pEnt av).length) none
/-- what a frame comes to: an answer (or none), or an exception of a kind -/
abbrev PO : Type := Option Value ⊕ Nat
def pHand (hs : List PHd) (i e : Nat) : Option Nat := match hs with
  | [] => none
  | h :: t => if h.1 ≤ i ∧ i < h.2.1 ∧ h.2.2.2 = e then some h.2.2.1 else pHand t i e
/-- a handler's first instruction stores the exception, which nobody looks at -/
def pCat (ins : Instr) (ls : PV) : Option PV := match ins with
  | .astore_n i => if (i : Nat) < ls.length then some ((pClr ls i).set i none) else none
  | .astore i => if i < ls.length then some ((pClr ls i).set i none) else none
  | _ => none
/-- is this an answer, and which -/
def pRet (rt : Option FieldType) (ins : Instr) (st : List Value) : Option (Option Value) := match ins with
  | .ireturn => match st with
    | [.int x] => match rt with
      | some .int => some (some (.int x))
      | some .boolean => if x = 0 ∨ x = 1 then some (some (.int x)) else none
      | _ => none
    | _ => none
  | .lreturn => match st with
    | [.long x] => match rt with | some .long => some (some (.long x)) | _ => none
    | _ => none
  | .dreturn => match st with
    | [.double x] => match rt with | some .double => some (some (.double x)) | _ => none
    | _ => none
  | .areturn => match st with
    | [.ref x] => match rt with | some (.object _) => some (some (.ref x)) | _ => none
    | [.null] => match rt with | some (.object _) => some (some .null) | _ => none
    | _ => none
  | .return_ => match st with
    | [] => match rt with | none => some none | _ => none
    | _ => none
  | _ => none
/-- System.arraycopy of ints (kind 12) and booleans (13) -/
def pAcp (nx : Nat) (ls : PV) (st : List Value) (g : PS) : Option PR := match st with
  | .int n :: .int j :: .ref b :: .int i :: .ref a :: r =>
    if (pK g a = 12 ∨ pK g a = 14) ∧ pK g b = pK g a ∧ ¬ n < 0 ∧ ¬ i < 0 ∧ ¬ j < 0 ∧ i.toNatClampNeg + n.toNatClampNeg ≤ pL g a ∧ j.toNatClampNeg + n.toNatClampNeg ≤ pL g b
    then some (nx, ls, r, pCpy g a i.toNatClampNeg b j.toNatClampNeg n.toNatClampNeg) else none
  | _ => none
/-- what an instruction does beside a plain step: 0 plain, 1 returns, 2 calls, 3 throws, 4 Object.<init>, 5 arraycopy, 6 a table switch, 7 Math.max, Math.min, 9 never walked -/
def pKind (ins : Instr) (r1 : Nat) : Nat := match ins with
  | .ireturn | .lreturn | .dreturn | .areturn | .return_ => 1
  | .invokevirtual _ => 2
  | .invokestatic _ => if r1 = 1 then 5 else if r1 < 4 then 7 else 2
  | .invokespecial _ => if r1 = 0 then 4 else if r1 = 9 then 9 else 2
  | .new _ => if r1 < 12 then 0 else 3
  | .ldc _ | .ldc_w _ | .ldc2_w _ => if r1 = 0 then 9 else 0
  | .tableswitch .. => 6
  | _ => 0
/-- where a table switch goes: the place in the code, the stack behind -/
def pSw (ins : Instr) (pc : Nat) (st : List Value) : Option (Nat × List Value) := match ins with
  | .tableswitch d lo hi offs => match st with
    | .int x :: r => if x.toInt < lo ∨ hi < x.toInt then (if (pc : Int) + d < 0 then none else some (((pc : Int) + d).toNat, r)) else match offs[(x.toInt - lo).toNat]? with
      | some off => if (pc : Int) + off < 0 then none else some (((pc : Int) + off).toNat, r)
      | none => none
    | _ => none
  | _ => none
/-- the row of a place in the code -/
def pIdx : List PRow → Nat → Nat → Option Nat
  | [], _, _ => none
  | r :: t, pc, k => if r.1 = pc then some k else pIdx t pc (k + 1)
/-- what lies below a call's args is small -/
def pSm (st : List Value) : Prop := st.length ≤ 4 ∨ (st.map fun v => v.category).sum ≤ 8
/-- the receiver of a call is an object of the class -/
def pRv (ins : Instr) (o : Nat) (av : List Value) (g : PS) : Bool := match ins with
  | .invokevirtual _ => match av with | .ref a :: _ => decide (pK g a = o ∧ o < 12) | _ => false
  | .invokespecial _ => match av with | .ref _ :: _ => true | _ => false
  | _ => true
/-- THE RUN: method m (its number) from row i on; PT: the methods -/
def pRun (PT : Nat → PMet) : Nat → Nat → Nat → PV → List Value → PS → Option (PO × PS)
  | 0, _, _, _, _, _ => none
  | n + 1, m, i, ls, st, g => match (PT m).1[i]? with
    | none => none
    | some r => match pKind r.2.1 r.2.2.2.1 with
      | 0 => match pStep r.2.1 (i + 1) r.2.2.2.1 r.2.2.2.2.1 ls st g with
        | none => none
        | some q => pRun PT n m q.1 q.2.1 q.2.2.1 q.2.2.2
      | 1 => match pRet (PT m).2.2.2.2.1 r.2.1 st with
        | none => none
        | some v => some (.inl v, g)
      | 2 => match pPop (PT (r.2.2.2.1 - 10)).2.2.1 st with
        | none => none
        | some q => if (q.2.length ≤ 4 ∨ (q.2.map fun v => v.category).sum ≤ 8) ∧ (pEnt q.1).length ≤ (PT (r.2.2.2.1 - 10)).2.1 ∧ pRv r.2.1 (PT (r.2.2.2.1 - 10)).2.2.2.2.2 q.1 g = true then match pRun PT n (r.2.2.2.1 - 10) 0 (pEntry (PT (r.2.2.2.1 - 10)).2.1 q.1) [] g with
          | none => none
          | some (.inl v, g1) => pRun PT n m (i + 1) ls (v.toList ++ q.2) g1
          | some (.inr e, g1) => if r.2.2.2.2.1 = 0 then match pHand (PT m).2.2.2.1 r.1 e with
            | none => if (PT m).2.2.2.1.isEmpty = true then some (.inr e, g1) else none
            | some h => match (PT m).1[h]? with
              | none => none
              | some r2 => match pCat r2.2.1 ls with
                | none => none
                | some ls2 => pRun PT n m (h + 1) ls2 [] g1
            else none
          else none
      | 3 => if (st.length ≤ 4 ∨ (st.map fun v => v.category).sum ≤ 8) ∧ (PT m).2.2.2.1.isEmpty = true then some (.inr (r.2.2.2.1 - 100), pThr g) else none
      | 4 => match st with
        | .ref _ :: rest => if rest.length ≤ 4 ∨ (rest.map fun v => v.category).sum ≤ 8 then pRun PT n m (i + 1) ls rest g else none
        | _ => none
      | 5 => match pAcp (i + 1) ls st g with
        | none => none
        | some q => if q.2.2.1.length ≤ 4 ∨ (q.2.2.1.map fun v => v.category).sum ≤ 8 then pRun PT n m q.1 q.2.1 q.2.2.1 q.2.2.2 else none
      | 6 => match pSw r.2.1 r.1 st with
        | none => none
        | some q => match pIdx (PT m).1 q.1 0 with
          | none => none
          | some h => pRun PT n m h ls q.2 g
      | 7 => match st with
        | .int y :: .int x :: rest => if rest.length ≤ 4 ∨ (rest.map fun v => v.category).sum ≤ 8 then pRun PT n m (i + 1) ls (.int (if r.2.2.2.1 = 2 then (if x < y then y else x) else (if y < x then y else x)) :: rest) g else none
        | _ => none
      | _ => none
/-- the program -/
noncomputable def qPT (m : Nat) : PMet := (qRows m, (qMI m).2.2.2.1, (qMI m).2.2.2.2.2.1, qHd m, (qMI m).2.2.2.2.1, (qMI m).1)
