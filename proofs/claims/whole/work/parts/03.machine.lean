-- THE SMALL MACHINE: heaps by numbers of cells, one step as a weakest precondition
abbrev MD : Type := MethodName × ByteArray × Nat × Option FieldType × Room × Nat × Nat × Nat × Nat × Nat
abbrev MH : Type := (Nat → Nat → Int32) × (Nat → Nat → Int64) × (Nat → Nat → Option Nat) × Nat
abbrev LV : Type := List (Option Value)
abbrev Row : Type := Nat × Instr × Nat × Nat × Nat × Nat × Nat × Int32 × Int64 × List (Int32 × Nat) × MD
abbrev KT : Type := Option Value → MH → Prop
abbrev PT : Type := Nat → LV → List Value → MH → Nat → Nat → Prop
-- classes' numbers and slots, array classes, String constants
abbrev GG : Type := (Nat → ClassId) × (Nat → Nat → Nat) × ClassId × ClassId × ClassId × (Nat → Nat) × (Nat → Nat)
def goodT : List Cond := lw_tbl.filter goodWord
def isNestW : Cond → Bool
  | .methodLinkNest _ _ _ _ => true
  | _ => false
def nestT : List Cond := lw_tbl.filter isNestW
def upI (f : Nat → Nat → Int32) (a j : Nat) (v : Int32) : Nat → Nat → Int32 := fun x y => if x = a ∧ y = j then v else f x y
def upL (f : Nat → Nat → Int64) (a j : Nat) (v : Int64) : Nat → Nat → Int64 := fun x y => if x = a ∧ y = j then v else f x y
def upR (f : Nat → Nat → Option Nat) (a j : Nat) (v : Option Nat) : Nat → Nat → Option Nat := fun x y => if x = a ∧ y = j then v else f x y
def cpI (f : Nat → Nat → Int32) (a b sp dp n : Nat) : Nat → Nat → Int32 := fun x y => if x = b then va_cpy (f a) (f b) sp dp n y else f x y
def cpL (f : Nat → Nat → Int64) (a b sp dp n : Nat) : Nat → Nat → Int64 := fun x y => if x = b then va_cpy (f a) (f b) sp dp n y else f x y
/-- a new cell of zeros -/
def nwH (h : MH) : MH := (fun x y => if x = h.2.2.2 then 0 else h.1 x y, fun x y => if x = h.2.2.2 then 0 else h.2.1 x y, fun x y => if x = h.2.2.2 then none else h.2.2.1 x y, h.2.2.2 + 1)
-- kinds of cells: (0, n) ints, (1, n) longs, (2, n) Sheets, (3, k) an object of the class k
def shT : List (Nat × Nat) := [(3, 10), (3, 9), (3, 2), (0, 48), (0, 48), (0, 48), (0, 40), (0, 40), (0, 40), (0, 48), (3, 0), (0, 5), (0, 5), (0, 5), (0, 5), (0, 5), (3, 5), (0, 40), (0, 40), (0, 40), (0, 40), (0, 40), (0, 40), (0, 40), (3, 3), (0, 8), (0, 8), (0, 8), (0, 40), (0, 40), (0, 40), (0, 40), (3, 1), (0, 20), (0, 20), (0, 720), (3, 4), (0, 100), (3, 8), (1, 40), (0, 40), (1, 40), (0, 40), (0, 40), (3, 7), (0, 48), (0, 6), (2, 4), (0, 7), (3, 6), (1, 40), (3, 6), (1, 40), (3, 6), (1, 40), (3, 6), (1, 40), (3, 11), (0, 1598), (0, 1598), (0, 100), (0, 4), (0, 4), (1, 160), (0, 7), (0, 25), (0, 48), (0, 6), (1, 20), (0, 8), (1, 40), (3, 9), (3, 2), (0, 48), (0, 48), (0, 48), (0, 40), (0, 40), (0, 40), (0, 48), (3, 0), (0, 5), (0, 5), (0, 5), (0, 5), (0, 5), (3, 5), (0, 40), (0, 40), (0, 40), (0, 40), (0, 40), (0, 40), (0, 40), (3, 3), (0, 8), (0, 8), (0, 8), (0, 40), (0, 40), (0, 40), (0, 40), (3, 1), (0, 20), (0, 20), (0, 720)]
def SH (a : Nat) : Nat × Nat := shT.getD a (9, 0)
-- the fields' types of each class: 0 int, 1 long, 2 a reference, 3 boolean
def ftT : List (List Nat) := [[2, 2, 2, 2, 2], [2, 2, 0], [2, 2, 2, 2, 2, 2, 0, 2], [2, 2, 2, 2, 2, 2, 2, 0], [2, 0, 0], [2, 2, 2, 2, 2, 2, 1, 0, 2], [2, 0, 0], [2, 1, 2], [2, 2, 2, 2, 2, 0], [2, 2, 2, 2, 2, 2, 0], [2, 2, 2, 2, 2, 2, 2, 3], [2, 2, 3, 2, 0, 2, 2, 2, 2, 0, 1, 3, 0, 3, 2, 0, 2, 2, 2, 2, 2]]
def FT (k : Nat) : List Nat := ftT.getD k []
def fval (ad : Nat → Nat) (h : MH) (a j : Nat) : Nat → Value
  | 1 => .long (h.2.1 a j)
  | 2 => va_rf ((h.2.2.1 a j).map ad)
  | _ => .int (h.1 a j)
def fldV (ad : Nat → Nat) (h : MH) (a : Nat) : Nat → List Nat → List Value
  | _, [] => []
  | j, t :: ts => fval ad h a j t :: fldV ad h a (j + 1) ts
def cellE (G : GG) (ad : Nat → Nat) (h : MH) (a : Nat) : va_E :=
  match SH a with
  | (0, n) => .inl (G.2.2.1, n, .inl (h.1 a))
  | (1, n) => .inl (G.2.2.2.1, n, .inr (.inl (h.2.1 a)))
  | (2, n) => .inl (G.2.2.2.2.1, n, .inr (.inr (.inr (.inr (fun j => (h.2.2.1 a j).map ad)))))
  | (_, k) => .inr (k, fldV ad h a 0 (FT k))
def wsOf (G : GG) (ad : Nat → Nat) (h : MH) : va_W := (List.range h.2.2.2).map (fun a => (ad a, cellE G ad h a))
def tysG (G : GG) : List (ClassId × FieldType) := [(G.2.2.1, .int), (G.2.2.2.1, .long), (G.2.2.2.2.1, .object "RiverHead$Sheet")]
def rv (ad : Nat → Nat) : Value → Value
  | .ref a => .ref (ad a)
  | v => v
def lvA (ad : Nat → Nat) : Nat → LV → List (Nat × Value)
  | _, [] => []
  | i, none :: r => lvA ad (i + 1) r
  | i, some v :: r => (i, rv ad v) :: lvA ad (i + 1) r
-- a local is stored
def clr1 : Option Value → Option Value
  | some (.int x) => some (.int x)
  | some (.ref x) => some (.ref x)
  | some .null => some .null
  | _ => none
def hdN : LV → LV
  | [] => []
  | _ :: r => none :: r
def stL : LV → Nat → Value → LV
  | [], _, _ => []
  | _ :: r, 0, v => some v :: (match v with | .long _ => hdN r | _ => r)
  | o :: r, 1, v => clr1 o :: stL r 0 v
  | o :: r, i + 2, v => o :: stL r (i + 1) v
def lk : LV → Nat → Option Value
  | [], _ => none
  | o :: _, 0 => o
  | _ :: r, n + 1 => lk r n
def gI (lv : LV) (i : Nat) (F : Int32 → Prop) : Prop := match lk lv i with | some (.int x) => F x | _ => False
def gL (lv : LV) (i : Nat) (F : Int64 → Prop) : Prop := match lk lv i with | some (.long x) => F x | _ => False
def gA (lv : LV) (i : Nat) (F : Nat → Prop) : Prop := match lk lv i with | some (.ref x) => F x | _ => False
def pI (st : List Value) (F : Int32 → List Value → Prop) : Prop := match st with | .int x :: r => F x r | _ => False
def pL (st : List Value) (F : Int64 → List Value → Prop) : Prop := match st with | .long x :: r => F x r | _ => False
def pR (st : List Value) (F : Nat → List Value → Prop) : Prop := match st with | .ref x :: r => F x r | _ => False
def pA : Nat → List Value → List Value → (List Value → List Value → Prop) → Prop
  | 0, acc, st, F => F acc st
  | n + 1, acc, v :: st, F => pA n (v :: acc) st F
  | _ + 1, _, [], _ => False
def cS (c : Jvm.ClassFile.Cond) (x y : Int32) : Prop := match c with
  | .eq => x = y
  | .ne => ¬ x = y
  | .lt => x < y
  | .ge => y ≤ x
  | .gt => y < x
  | .le => x ≤ y
def swp : List (Int32 × Nat) → Nat → Int32 → (Nat → Prop) → Prop
  | [], d, _, k => k d
  | q :: r, d, x, k => (x = q.1 → k q.2) ∧ (¬ x = q.1 → swp r d x k)
def vOK (n : Nat) : Value → Prop
  | .ref x => x < n ∨ 1000 ≤ x
  | _ => True
def lOK (n : Nat) : LV → Prop
  | [] => True
  | none :: r => lOK n r
  | some v :: r => vOK n v ∧ lOK n r
def sOK (n : Nat) : List Value → Prop
  | [] => True
  | v :: r => vOK n v ∧ sOK n r
def cat2 : List Value → Nat
  | [] => 0
  | v :: r => v.category + cat2 r
def bz (rt : Option FieldType) (x : Int32) : Prop := match rt with
  | some .boolean => x = 0 ∨ x = 1
  | some .int => True
  | _ => False
def isO (nB : Nat) (h : MH) (o : Nat) (q : Nat × Nat) : Prop := (o < nB ∨ o < h.2.2.2) ∧ SH o = q
def isA (nB : Nat) (h : MH) (o t : Nat) : Prop := (o < nB ∨ o < h.2.2.2) ∧ (SH o).1 = t
def callW (R : Room) (C : MD → List Value → MH → KT → Prop) (P : PT) (pc : Nat) (lv : LV) (h : MH) (cn sn : Nat) (d : MD) (As r : List Value) : Prop :=
  cn + d.2.2.2.2.1.cells ≤ R.cells ∧ sn + d.2.2.2.2.1.slots ≤ R.slots ∧ cat2 r ≤ 8 ∧ (d.2.2.2.2.1.cells = 0 ∨ (lOK h.2.2.2 lv ∧ sOK h.2.2.2 r)) ∧
  C d As h (fun o h' => P (pc + 3) lv (o.toList ++ r) h' (cn + d.2.2.2.2.1.cells) (sn + d.2.2.2.2.1.slots))
def ms (R : Room) (rt : Option FieldType) (nB : Nat) (X : Nat × (Nat → Int32)) (C : MD → List Value → MH → KT → Prop) (K : KT) (P k : PT) (q : Row) (lv : LV) (st : List Value) (h : MH) (cn sn : Nat) : Prop :=
  match q with
  | (pc, i, _, _, a, b, t, v, u, sw, d) =>
  match i with
  | .iconst _ => k (pc + 1) lv (.int v :: st) h cn sn
  | .bipush _ => k (pc + 2) lv (.int v :: st) h cn sn
  | .sipush _ => k (pc + 3) lv (.int v :: st) h cn sn
  | .ldc _ => if b = 0 then k (pc + 2) lv (.int v :: st) h cn sn else k (pc + 2) lv (.ref (1000 + a) :: st) h cn sn
  | .ldc_w _ => k (pc + 3) lv (.int v :: st) h cn sn
  | .lconst _ => k (pc + 1) lv (.long u :: st) h cn sn
  | .ldc2_w _ => k (pc + 3) lv (.long u :: st) h cn sn
  | .iload _ => gI lv a fun x => k (pc + 2) lv (.int x :: st) h cn sn
  | .iload_n _ => gI lv a fun x => k (pc + 1) lv (.int x :: st) h cn sn
  | .lload _ => gL lv a fun x => k (pc + 2) lv (.long x :: st) h cn sn
  | .lload_n _ => gL lv a fun x => k (pc + 1) lv (.long x :: st) h cn sn
  | .aload _ => gA lv a fun x => k (pc + 2) lv (.ref x :: st) h cn sn
  | .aload_n _ => gA lv a fun x => k (pc + 1) lv (.ref x :: st) h cn sn
  | .istore _ => pI st fun x r => k (pc + 2) (stL lv a (.int x)) r h cn sn
  | .istore_n _ => pI st fun x r => k (pc + 1) (stL lv a (.int x)) r h cn sn
  | .lstore _ => pL st fun x r => k (pc + 2) (stL lv a (.long x)) r h cn sn
  | .lstore_n _ => pL st fun x r => k (pc + 1) (stL lv a (.long x)) r h cn sn
  | .astore _ => pR st fun x r => k (pc + 2) (stL lv a (.ref x)) r h cn sn
  | .astore_n _ => pR st fun x r => k (pc + 1) (stL lv a (.ref x)) r h cn sn
  | .iinc _ _ => gI lv a fun x => k (pc + 3) (stL lv a (.int (x + v))) st h cn sn
  | .iadd => pI st fun y r => pI r fun x r => k (pc + 1) lv (.int (x + y) :: r) h cn sn
  | .isub => pI st fun y r => pI r fun x r => k (pc + 1) lv (.int (x - y) :: r) h cn sn
  | .imul => pI st fun y r => pI r fun x r => k (pc + 1) lv (.int (x * y) :: r) h cn sn
  | .iand => pI st fun y r => pI r fun x r => k (pc + 1) lv (.int (x &&& y) :: r) h cn sn
  | .ior => pI st fun y r => pI r fun x r => k (pc + 1) lv (.int (x ||| y) :: r) h cn sn
  | .ixor => pI st fun y r => pI r fun x r => k (pc + 1) lv (.int (x ^^^ y) :: r) h cn sn
  | .idiv => pI st fun y r => pI r fun x r => (¬ y = 0) ∧ k (pc + 1) lv (.int (x / y) :: r) h cn sn
  | .irem => pI st fun y r => pI r fun x r => (¬ y = 0) ∧ k (pc + 1) lv (.int (x - x / y * y) :: r) h cn sn
  | .ineg => pI st fun x r => k (pc + 1) lv (.int (-x) :: r) h cn sn
  | .ishl => pI st fun y r => pI r fun x r => k (pc + 1) lv (.int (x <<< (y &&& 31)) :: r) h cn sn
  | .ishr => pI st fun y r => pI r fun x r => k (pc + 1) lv (.int (x >>> (y &&& 31)) :: r) h cn sn
  | .iushr => pI st fun y r => pI r fun x r => k (pc + 1) lv (.int (x.toUInt32 >>> (y.toUInt32 &&& Int32.toUInt32 31)).toInt32 :: r) h cn sn
  | .ladd => pL st fun y r => pL r fun x r => k (pc + 1) lv (.long (x + y) :: r) h cn sn
  | .lsub => pL st fun y r => pL r fun x r => k (pc + 1) lv (.long (x - y) :: r) h cn sn
  | .land => pL st fun y r => pL r fun x r => k (pc + 1) lv (.long (x &&& y) :: r) h cn sn
  | .lor => pL st fun y r => pL r fun x r => k (pc + 1) lv (.long (x ||| y) :: r) h cn sn
  | .lxor => pL st fun y r => pL r fun x r => k (pc + 1) lv (.long (x ^^^ y) :: r) h cn sn
  | .lshl => pI st fun y r => pL r fun x r => k (pc + 1) lv (.long (x <<< (y.toInt64 &&& 63)) :: r) h cn sn
  | .lshr => pI st fun y r => pL r fun x r => k (pc + 1) lv (.long (x >>> (y.toInt64 &&& 63)) :: r) h cn sn
  | .lushr => pI st fun y r => pL r fun x r => k (pc + 1) lv (.long (x.toUInt64 >>> (y.toInt64.toUInt64 &&& Int64.toUInt64 63)).toInt64 :: r) h cn sn
  | .i2l => pI st fun x r => k (pc + 1) lv (.long x.toInt64 :: r) h cn sn
  | .l2i => pL st fun x r => k (pc + 1) lv (.int x.toInt32 :: r) h cn sn
  | .i2b => pI st fun x r => k (pc + 1) lv (.int x.toInt8.toInt32 :: r) h cn sn
  | .i2s => pI st fun x r => k (pc + 1) lv (.int x.toInt16.toInt32 :: r) h cn sn
  | .lcmp => pL st fun y r => pL r fun x r => k (pc + 1) lv (.int (lg_cmp x y) :: r) h cn sn
  | .dup => match st with
    | .int x :: r => k (pc + 1) lv (.int x :: .int x :: r) h cn sn
    | .ref x :: r => k (pc + 1) lv (.ref x :: .ref x :: r) h cn sn
    | _ => False
  | .dup2 => match st with
    | .int x :: .ref y :: r => k (pc + 1) lv (.int x :: .ref y :: .int x :: .ref y :: r) h cn sn
    | _ => False
  | .ifCond c _ => pI st fun x r => (cS c x 0 → k a lv r h cn sn) ∧ (¬ cS c x 0 → k (pc + 3) lv r h cn sn)
  | .if_icmp c _ => pI st fun y r => pI r fun x r => (cS c x y → k a lv r h cn sn) ∧ (¬ cS c x y → k (pc + 3) lv r h cn sn)
  | .goto _ => k a lv st h cn sn
  | .ifnonnull _ => match st with
    | .null :: r => k (pc + 3) lv r h cn sn
    | .ref _ :: r => k a lv r h cn sn
    | _ => False
  | .getfield _ => pR st fun o r => isO nB h o (3, a) ∧ (match t with
    | 1 => k (pc + 3) lv (.long (h.2.1 o b) :: r) h cn sn
    | 2 => (match h.2.2.1 o b with
      | some x => k (pc + 3) lv (.ref x :: r) h cn sn
      | none => k (pc + 3) lv (.null :: r) h cn sn)
    | _ => k (pc + 3) lv (.int (h.1 o b) :: r) h cn sn)
  | .putfield _ => (match t with
    | 1 => pL st fun x r => pR r fun o r => isO nB h o (3, a) ∧ k (pc + 3) lv r (h.1, upL h.2.1 o b x, h.2.2.1, h.2.2.2) cn sn
    | 2 => pR st fun x r => pR r fun o r => isO nB h o (3, a) ∧ x < h.2.2.2 ∧ k (pc + 3) lv r (h.1, h.2.1, upR h.2.2.1 o b (some x), h.2.2.2) cn sn
    | 3 => pI st fun x r => pR r fun o r => isO nB h o (3, a) ∧ (x = 0 ∨ x = 1) ∧ k (pc + 3) lv r (upI h.1 o b x, h.2.1, h.2.2.1, h.2.2.2) cn sn
    | _ => pI st fun x r => pR r fun o r => isO nB h o (3, a) ∧ k (pc + 3) lv r (upI h.1 o b x, h.2.1, h.2.2.1, h.2.2.2) cn sn)
  | .iaload => pI st fun j r => pR r fun o r => if o = 3000 then vp_in j (X.1 - 1) ∧ k (pc + 1) lv (.int (X.2 j.toNatClampNeg) :: r) h cn sn
      else isA nB h o 0 ∧ vp_in j (SH o).2 ∧ k (pc + 1) lv (.int (h.1 o j.toNatClampNeg) :: r) h cn sn
  | .laload => pI st fun j r => pR r fun o r => isA nB h o 1 ∧ vp_in j (SH o).2 ∧ k (pc + 1) lv (.long (h.2.1 o j.toNatClampNeg) :: r) h cn sn
  | .aaload => pI st fun j r => pR r fun o r => isA nB h o 2 ∧ vp_in j (SH o).2 ∧ (match h.2.2.1 o j.toNatClampNeg with
      | some x => k (pc + 1) lv (.ref x :: r) h cn sn
      | none => k (pc + 1) lv (.null :: r) h cn sn)
  | .iastore => pI st fun x r => pI r fun j r => pR r fun o r => isA nB h o 0 ∧ vp_in j (SH o).2 ∧ k (pc + 1) lv r (upI h.1 o j.toNatClampNeg x, h.2.1, h.2.2.1, h.2.2.2) cn sn
  | .lastore => pL st fun x r => pI r fun j r => pR r fun o r => isA nB h o 1 ∧ vp_in j (SH o).2 ∧ k (pc + 1) lv r (h.1, upL h.2.1 o j.toNatClampNeg x, h.2.2.1, h.2.2.2) cn sn
  | .aastore => pR st fun x r => pI r fun j r => pR r fun o r => isA nB h o 2 ∧ vp_in j (SH o).2 ∧ isO nB h x (3, 6) ∧ x < h.2.2.2 ∧ k (pc + 1) lv r (h.1, h.2.1, upR h.2.2.1 o j.toNatClampNeg (some x), h.2.2.2) cn sn
  | .arraylength => pR st fun o r => o = 3000 ∧ (¬ X.1 = 0) ∧ k (pc + 1) lv (.int (Int32.ofNat (X.1 - 1)) :: r) h cn sn
  | .newarray _ => pI st fun x r => x = v ∧ SH h.2.2.2 = (t, b) ∧ h.2.2.2 < 1000 ∧ cn + 1 ≤ R.cells ∧ sn + b ≤ R.slots ∧ lOK h.2.2.2 lv ∧ sOK h.2.2.2 r ∧ k (pc + 2) lv (.ref h.2.2.2 :: r) (nwH h) (cn + 1) (sn + b)
  | .anewarray _ => pI st fun x r => x = v ∧ SH h.2.2.2 = (2, b) ∧ h.2.2.2 < 1000 ∧ cn + 1 ≤ R.cells ∧ sn + b ≤ R.slots ∧ lOK h.2.2.2 lv ∧ sOK h.2.2.2 r ∧ k (pc + 3) lv (.ref h.2.2.2 :: r) (nwH h) (cn + 1) (sn + b)
  | .new _ => SH h.2.2.2 = (3, a) ∧ h.2.2.2 < 1000 ∧ cn + 1 ≤ R.cells ∧ sn + b ≤ R.slots ∧ lOK h.2.2.2 lv ∧ sOK h.2.2.2 st ∧ k (pc + 3) lv (.ref h.2.2.2 :: st) (nwH h) (cn + 1) (sn + b)
  | .invokestatic _ => if b = 4 then
      pI st fun n r => pI r fun dp r => pR r fun o2 r => pI r fun sp r => pR r fun o1 r => isA nB h o1 t ∧ isA nB h o2 t ∧ (¬ sp < 0) ∧ (¬ dp < 0) ∧ (¬ n < 0) ∧ sp.toNatClampNeg + n.toNatClampNeg ≤ (SH o1).2 ∧ dp.toNatClampNeg + n.toNatClampNeg ≤ (SH o2).2 ∧ cat2 r + 18 ≤ R.locals ∧
        (match t with
        | 1 => k (pc + 3) lv r (h.1, cpL h.2.1 o1 o2 sp.toNatClampNeg dp.toNatClampNeg n.toNatClampNeg, h.2.2.1, h.2.2.2) cn sn
        | _ => k (pc + 3) lv r (cpI h.1 o1 o2 sp.toNatClampNeg dp.toNatClampNeg n.toNatClampNeg, h.2.1, h.2.2.1, h.2.2.2) cn sn)
      else if b = 6 then pI st fun x r => cat2 r + 13 ≤ R.locals ∧ cn ≤ R.cells ∧ sn ≤ R.slots ∧ k (pc + 3) lv (.int (if 0 ≤ x then x else 0 - x) :: r) h cn sn
      else if b = 7 then pI st fun y r => pI r fun x r => cat2 r + 13 ≤ R.locals ∧ cn ≤ R.cells ∧ sn ≤ R.slots ∧ k (pc + 3) lv (.int (if x < y then y else x) :: r) h cn sn
      else if b = 8 then pI st fun y r => pI r fun x r => cat2 r + 13 ≤ R.locals ∧ cn ≤ R.cells ∧ sn ≤ R.slots ∧ k (pc + 3) lv (.int (if y < x then y else x) :: r) h cn sn
      else pA d.2.2.2.2.2.1 [] st fun As r => callW R C P pc lv h cn sn d As r
  | .invokevirtual _ => pA d.2.2.2.2.2.1 [] st fun As r => pR r fun o r => (if b = 3 then 1000 ≤ o ∧ o < 1009 else isO nB h o (3, a)) ∧ callW R C P pc lv h cn sn d (.ref o :: As) r
  | .invokespecial _ => if b = 5 then pR st fun _ r => cat2 r + 12 ≤ R.locals ∧ k (pc + 3) lv r h cn sn
      else pA d.2.2.2.2.2.1 [] st fun As r => pR r fun o r => callW R C P pc lv h cn sn d (.ref o :: As) r
  | .tableswitch _ _ _ _ => pI st fun x r => swp sw a x fun tg => k tg lv r h cn sn
  | .lookupswitch _ _ => pI st fun x r => swp sw a x fun tg => k tg lv r h cn sn
  | .ireturn => (match st with
    | [.int x] => bz rt x ∧ cn ≤ R.cells ∧ sn ≤ R.slots ∧ K (some (.int x)) h
    | _ => False)
  | .lreturn => (match st with
    | [.long x] => rt = some .long ∧ cn ≤ R.cells ∧ sn ≤ R.slots ∧ K (some (.long x)) h
    | _ => False)
  | .return_ => (match st with
    | [] => rt = none ∧ cn ≤ R.cells ∧ sn ≤ R.slots ∧ K none h
    | _ => False)
  | _ => False
def md0 : MD := (⟨"", "", ""⟩, ⟨#[]⟩, 0, none, { frames := 0, cells := 0, slots := 0, locals := 0 }, 0, 0, 0, 0, 0)
def rowD (pc : Nat) : Row := (pc, .athrow, 1, 0, 0, 0, 0, 0, 0, [], md0)
def tabOf (rows : List Row) (pc : Nat) : Row := (rows.find? (fun q => q.1 == pc)).getD (rowD pc)
def inS : List Nat → Nat → Bool
  | [], _ => false
  | a :: r, x => a == x || inS r x
def wp (R : Room) (rt : Option FieldType) (nB : Nat) (X : Nat × (Nat → Int32)) (C : MD → List Value → MH → KT → Prop) (tab : Nat → Row) (K : KT) (P : PT) (stops : List Nat) : Nat → Nat → LV → List Value → MH → Nat → Nat → Prop
  | 0, pc, lv, st, h, cn, sn => P pc lv st h cn sn
  | n + 1, pc, lv, st, h, cn, sn => if inS stops pc = true then P pc lv st h cn sn else ms R rt nB X C K P (wp R rt nB X C tab K P stops n) (tab pc) lv st h cn sn
def wq (R : Room) (rt : Option FieldType) (nB : Nat) (X : Nat × (Nat → Int32)) (C : MD → List Value → MH → KT → Prop) (tab : Nat → Row) (K : KT) (P : PT) (stops : List Nat) (n : Nat) (pc : Nat) (lv : LV) (st : List Value) (h : MH) (cn sn : Nat) : Prop := ms R rt nB X C K P (wp R rt nB X C tab K P stops n) (tab pc) lv st h cn sn
