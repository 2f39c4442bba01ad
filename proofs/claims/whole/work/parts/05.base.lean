/-! the claim's machine made plain: values, memory, what a heap holds of a memory -/
abbrev AV : Type := Int ⊕ (Option Nat ⊕ Int64)
abbrev aI (a : Int) : AV := Sum.inl a
abbrev aR (r : Option Nat) : AV := Sum.inr (Sum.inl r)
abbrev aL (x : Int64) : AV := Sum.inr (Sum.inr x)
/-- ints by cell and place, references likewise, kinds of cells, lengths, how many cells, how many places -/
abbrev Mem : Type := (Nat → Nat → Int) × (Nat → Nat → Option Nat) × (Nat → Nat) × (Nat → Nat) × Nat × Nat
def mI (M : Mem) (a k : Nat) : Int := M.1 a k
def mR (M : Mem) (a k : Nat) : Option Nat := M.2.1 a k
def mK (M : Mem) (a : Nat) : Nat := M.2.2.1 a
def mN (M : Mem) (a : Nat) : Nat := M.2.2.2.1 a
def mZ (M : Mem) : Nat := M.2.2.2.2.1
def mS (M : Mem) : Nat := M.2.2.2.2.2
def uI (M : Mem) (a k : Nat) (v : Int) : Mem := (fun b j => if b = a ∧ j = k then v else M.1 b j, M.2)
def uR (M : Mem) (a k : Nat) (v : Option Nat) : Mem := (M.1, fun b j => if b = a ∧ j = k then v else M.2.1 b j, M.2.2)
def uC (M : Mem) (a sp b dp n : Nat) : Mem := (fun x j => if x = b ∧ dp ≤ j ∧ j < dp + n then M.1 a (sp + (j - dp)) else M.1 x j, M.2)
def uN (M : Mem) (kd n : Nat) : Mem := (fun b j => if b = mZ M then 0 else M.1 b j, fun b j => if b = mZ M then none else M.2.1 b j, fun b => if b = mZ M then kd else M.2.2.1 b, fun b => if b = mZ M then n else M.2.2.2.1 b, mZ M + 1, mS M + n)
def uS (M : Mem) (n : Nat) : Mem := (M.1, M.2.1, M.2.2.1, M.2.2.2.1, M.2.2.2.2.1, n)
/-- launch, the state at the law's entry, the classes' numbers and slots, the arrays' classes, the addresses outside, what lies there -/
abbrev CX : Type := Launch × State × va_G × (Nat → ClassId) × (Nat → Nat) × Mem
abbrev xl (X : CX) : Launch := X.1
abbrev xs (X : CX) : State := X.2.1
abbrev xD (X : CX) : va_G := X.2.2.1
abbrev xc (X : CX) : Nat → ClassId := X.2.2.2.1
abbrev xa (X : CX) : Nat → Nat := X.2.2.2.2.1
abbrev xm (X : CX) : Mem := X.2.2.2.2.2
abbrev xb (X : CX) : Nat := (xs X).heap.size
abbrev BIG : Nat := 1000000
def ad (X : CX) (k : Nat) : Nat := if k < BIG then xb X + k else xa X k
def cv (X : CX) : AV → Value
  | .inl a => .int (Int32.ofInt a)
  | .inr (.inl r) => va_rf (r.map (ad X))
  | .inr (.inr x) => .long x
def inR (a : Int) : Prop := -2147483648 ≤ a ∧ a ≤ 2147483647
def okV : AV → Prop
  | .inl a => inR a
  | _ => True
def fldV (X : CX) (M : Mem) (a c k : Nat) : Value := if kF c k = 1 then va_rf ((mR M a k).map (ad X)) else .int (Int32.ofInt (mI M a k))
def cellE (X : CX) (M : Mem) (a : Nat) : va_E :=
  if mK M a < 10 then .inr (mK M a, (List.range (kN (mK M a))).map (fldV X M a (mK M a)))
  else if mK M a < 30 then .inl (xc X (mK M a), mN M a, .inl (fun j => Int32.ofInt (mI M a j)))
  else .inl (xc X (mK M a), mN M a, .inr (.inr (.inr (.inr (fun j => (mR M a j).map (ad X))))))
def wsX (X : CX) (M : Mem) : va_W := (List.range (mZ M)).map (fun a => (xb X + a, cellE X M a))
def tyX (X : CX) : List (ClassId × FieldType) := [(xc X 20, .int), (xc X 21, .boolean), (xc X 31, .object (kR 1)), (xc X 32, .object (kR 2)), (xc X 37, .object (kR 7))]
abbrev xA (X : CX) : Nat → Prop := fun q => xb X ≤ q
def Rep (X : CX) (M : Mem) (H : Heap) : Prop := va_P (xD X) jcl (wsX X M) H ∧ mZ M ≤ BIG ∧ (∀ a k, inR (mI M a k)) ∧ (∀ a, mK M a ≠ 99 → (a < mZ M ∧ mK M a ≠ 25) ∨ BIG ≤ a) ∧ (∀ a, BIG ≤ a → mK M a = mK (xm X) a ∧ mN M a = mN (xm X) a ∧ ∀ k, mI M a k = mI (xm X) a k) ∧ ∀ a, mN M a < 2147483648
def Wd (X : CX) (M : Mem) (U : State) : Prop := (xs X).WarmedH U.vm ∧ (∀ q, q < xb X → U.heap[q]? = (xs X).heap[q]?) ∧ U.heap.size = xb X + mZ M ∧ Rep X M U.heap
/-- the three literals, as they lie outside -/
def StrOK (X : CX) : Prop := (∀ i, i < 3 → vk_R "JanetCones$Text" (([22, 28, 30] : List Nat).getD i 0) (["lex", "deg", "rev"].getD i "") (xa X (BIG + 4 + i)) (xs X))
  ∧ ∃ adV : Nat → Nat, vk_S 3 [3, 3, 3] [[108, 101, 120], [100, 101, 103], [114, 101, 118]] (fun i => xa X (BIG + 4 + i)) adV (xA X) (xs X) (xs X).heap
/-- what holds of the law's entry -/
def CtxOK (X : CX) : Prop := (∃ a0 : Array Value, ∀ w ∈ lw_tbl, w.before a0 (xs X) = true) ∧ va_K (xD X) jcl (tyX X) (xs X)
  ∧ (∀ a, BIG ≤ a → (mK (xm X) a = 99 ∨ (mK (xm X) a = 25 ∧ va_T .int (xa X a) (mN (xm X) a) (fun j => .int (Int32.ofInt (mI (xm X) a j))) (xA X) (xs X) (xs X).heap)))
  ∧ (∀ j, j < 3 → va_Z "JanetCones" (sN j) "[I" (.ref (xa X (BIG + j))) (xA X) (xs X) (xs X).heap) ∧ StrOK X
def okO : Option AV → Prop
  | some v => okV v
  | none => True
def Pq (X : CX) (as : List AV) (M : Mem) : Array Value → State → Prop := fun a U => a = (as.map (cv X)).toArray ∧ Wd X M U
def Qq (X : CX) (M : Mem) (n : Nat × Nat) (K : Option AV → Mem → Prop) : Array Value → State → Outcome → State → Prop := fun _ _ o t => ∃ r M', K r M' ∧ o = .returned (r.map (cv X)) ∧ Wd X M' t ∧ okO r ∧ mZ M' = mZ M + n.1 ∧ mS M' = mS M + n.2
/-- a method's contract: from the memory M it comes to an end with K; it makes n.1 cells of n.2 places -/
def Ev (X : CX) (y : Nat) (n : Nat × Nat) (as : List AV) (M : Mem) (K : Option AV → Mem → Prop) : Prop := (lw_tbl[(yP y).1]? = some (.code (yn y) (yc y) (yl y) (yr y)) ∧ mOK y = true) ∧ (CtxOK X → (∀ v ∈ as, okV v) → Met (xl X) (yn y) [.code (yn y) (yc y) (yl y) (yr y)] { frames := yf y, cells := n.1, slots := n.2, locals := yw y } (Pq X as M) (Qq X M n K) n.1 n.2 (xA X))
/-! locals -/
def lget : List (Option AV) → Nat → Option AV
  | x :: _, 0 => x
  | _ :: l, n + 1 => lget l n
  | [], _ => none
def clr : Option AV → Option AV
  | some (.inr (.inr _)) => none
  | x => x
def lset : List (Option AV) → Nat → AV → List (Option AV)
  | _ :: l, 0, v => some v :: l
  | x :: _ :: l, 1, v => clr x :: some v :: l
  | x :: l, n + 2, v => x :: lset l (n + 1) v
  | _, _, _ => []
def lset2 : List (Option AV) → Nat → AV → List (Option AV)
  | _ :: _ :: l, 0, v => some v :: none :: l
  | x :: _ :: _ :: l, 1, v => clr x :: some v :: none :: l
  | x :: l, n + 2, v => x :: lset2 l (n + 1) v
  | _, _, _ => []
def entL : List AV → Nat → List (Option AV)
  | [], n => List.replicate n none
  | .inr (.inr x) :: as, n => some (aL x) :: none :: entL as (n - 2)
  | v :: as, n => some v :: entL as (n - 1)
def lvOf (X : CX) (ls : List (Option AV)) (n : Nat) : List (Nat × Value) := (List.range n).filterMap (fun k => (lget ls k).map (fun v => (k, cv X v)))
def LR (X : CX) (ls : List (Option AV)) (n : Nat) (lsA : Array Slot) : Prop := lv_has lsA n (lvOf X ls n)
def isL : AV → Bool
  | .inr (.inr _) => true
  | _ => false
def catS : List AV → Nat
  | [] => 0
  | .inr (.inr _) :: l => catS l + 2
  | _ :: l => catS l + 1
/-! numbers -/
def iAnd (a b : Int) : Int := (Int32.ofInt a &&& Int32.ofInt b).toInt
def iOr (a b : Int) : Int := (Int32.ofInt a ||| Int32.ofInt b).toInt
def iXor (a b : Int) : Int := (Int32.ofInt a ^^^ Int32.ofInt b).toInt
def iShl (a b : Int) : Int := (Int32.ofInt a <<< (Int32.ofInt b &&& 31)).toInt
def iShr (a b : Int) : Int := (Int32.ofInt a >>> (Int32.ofInt b &&& 31)).toInt
def iUshr (a b : Int) : Int := ((Int32.ofInt a).toUInt32 >>> ((Int32.ofInt b).toUInt32 &&& Int32.toUInt32 31)).toInt32.toInt
def i8 (a : Int) : Int := (Int32.ofInt a).toInt8.toInt32.toInt
def i16 (a : Int) : Int := (Int32.ofInt a).toInt16.toInt32.toInt
def i64 (a : Int) : Int64 := (Int32.ofInt a).toInt64
def lCmp (a b : Int64) : Int := (lg_cmp a b).toInt
def cnd (c : Jvm.ClassFile.Cond) (a b : Int) : Prop := match c with
  | .eq => a = b
  | .ne => ¬ a = b
  | .lt => a < b
  | .ge => b ≤ a
  | .gt => b < a
  | .le => a ≤ b
def psh (r : Option AV) (st : List AV) : List AV := match r with
  | some v => v :: st
  | none => st
/-- a switch: the first place whose number it is -/
def tsw (go : Nat → Prop) (dflt : Nat) : List Int → Int → Int → Prop
  | [], _, _ => go dflt
  | t :: l, lo, a => (a = lo → go t.toNat) ∧ (¬ a = lo → tsw go dflt l (lo + 1) a)
/-- cells and places at the entry; how many of both may be made -/
abbrev JZ : Type := Nat × Nat × Nat × Nat
/-- which calls; what they ask; what they answer -/
abbrev PF : Type := (Nat → Bool) × (Nat → List AV → Mem → Prop) × (Nat → List AV → Mem → AV)
def PFok (X : CX) (pf : PF) : Prop := ∀ y as M, pf.1 y = true → pf.2.1 y as M → Ev X y (0, 0) as M (fun r M' => r = some (pf.2.2 y as M) ∧ M' = M)
/-- behind a call -/
def kE (go : Nat → List (Option AV) → List AV → Mem → Prop) (i : Nat) (ls : List (Option AV)) (rest : List AV) (r : Option AV) (M' : Mem) : Prop := go (i + 1) ls (psh r rest) M'
def cV (pf : PF) (X : CX) (go : Nat → List (Option AV) → List AV → Mem → Prop) (i : Nat) (ls : List (Option AV)) (M : Mem) (c : Int) (y : Nat) : Nat → List AV → List AV → Prop
  | 0, acc, .inr (.inl (some b)) :: rest => if pf.1 y = true then (mK M b = c.toNat ∧ catS rest ≤ 8) ∧ pf.2.1 y (aR (some b) :: acc) M ∧ go (i + 1) ls (pf.2.2 y (aR (some b) :: acc) M :: rest) M
    else (mK M b = c.toNat ∧ catS rest ≤ 8) ∧ Ev X y (0, 0) (aR (some b) :: acc) M (kE go i ls rest)
  | n + 1, acc, v :: st => cV pf X go i ls M c y n (v :: acc) st
  | _, _, _ => False
def cS (pf : PF) (X : CX) (go : Nat → List (Option AV) → List AV → Mem → Prop) (i : Nat) (ls : List (Option AV)) (M : Mem) (y : Nat) : Nat → List AV → List AV → Prop
  | 0, acc, rest => if pf.1 y = true then catS rest ≤ 8 ∧ pf.2.1 y acc M ∧ go (i + 1) ls (pf.2.2 y acc M :: rest) M else catS rest ≤ 8 ∧ Ev X y (0, 0) acc M (kE go i ls rest)
  | n + 1, acc, v :: st => cS pf X go i ls M y n (v :: acc) st
  | _ + 1, _, [] => False
/-- ONE STEP: what must hold so that the machine goes on at 'go', or ends with K -/
def stp (pf : PF) (X : CX) (z : JZ) (K : Option AV → Mem → Prop) (go : Nat → List (Option AV) → List AV → Mem → Prop) (i : Nat) (ls : List (Option AV)) (st : List AV) (M : Mem) : jI → Prop
  | (.iconst n, _, _, _) => go (i + 1) ls (aI n :: st) M
  | (.bipush n, _, _, _) => go (i + 1) ls (aI n :: st) M
  | (.sipush n, _, _, _) => go (i + 1) ls (aI n :: st) M
  | (.ldc _, v, _, _) => go (i + 1) ls (aI v :: st) M
  | (.ldc_w _, v, _, _) => go (i + 1) ls (aI v :: st) M
  | (.ldc2_w _, v, _, _) => go (i + 1) ls (aL (Int64.ofInt v) :: st) M
  | (.iload k, _, _, _) => match lget ls k with
    | some (.inl a) => go (i + 1) ls (aI a :: st) M
    | _ => False
  | (.iload_n k, _, _, _) => match lget ls k.val with
    | some (.inl a) => go (i + 1) ls (aI a :: st) M
    | _ => False
  | (.lload k, _, _, _) => match lget ls k with
    | some (.inr (.inr a)) => go (i + 1) ls (aL a :: st) M
    | _ => False
  | (.lload_n k, _, _, _) => match lget ls k.val with
    | some (.inr (.inr a)) => go (i + 1) ls (aL a :: st) M
    | _ => False
  | (.aload k, _, _, _) => match lget ls k with
    | some (.inr (.inl (some a))) => go (i + 1) ls (aR (some a) :: st) M
    | _ => False
  | (.aload_n k, _, _, _) => match lget ls k.val with
    | some (.inr (.inl (some a))) => go (i + 1) ls (aR (some a) :: st) M
    | _ => False
  | (.istore k, _, _, _) => match st with
    | .inl a :: st => go (i + 1) (lset ls k (aI a)) st M
    | _ => False
  | (.istore_n k, _, _, _) => match st with
    | .inl a :: st => go (i + 1) (lset ls k.val (aI a)) st M
    | _ => False
  | (.lstore k, _, _, _) => match st with
    | .inr (.inr a) :: st => go (i + 1) (lset2 ls k (aL a)) st M
    | _ => False
  | (.lstore_n k, _, _, _) => match st with
    | .inr (.inr a) :: st => go (i + 1) (lset2 ls k.val (aL a)) st M
    | _ => False
  | (.astore k, _, _, _) => match st with
    | .inr (.inl (some a)) :: st => go (i + 1) (lset ls k (aR (some a))) st M
    | _ => False
  | (.astore_n k, _, _, _) => match st with
    | .inr (.inl (some a)) :: st => go (i + 1) (lset ls k.val (aR (some a))) st M
    | _ => False
  | (.iinc k n, _, _, _) => match lget ls k with
    | some (.inl a) => inR (a + n) ∧ go (i + 1) (lset ls k (aI (a + n))) st M
    | _ => False
  | (.iadd, _, _, _) => match st with
    | .inl b :: .inl a :: st => inR (a + b) ∧ go (i + 1) ls (aI (a + b) :: st) M
    | _ => False
  | (.isub, _, _, _) => match st with
    | .inl b :: .inl a :: st => inR (a - b) ∧ go (i + 1) ls (aI (a - b) :: st) M
    | _ => False
  | (.imul, _, _, _) => match st with
    | .inl b :: .inl a :: st => inR (a * b) ∧ go (i + 1) ls (aI (a * b) :: st) M
    | _ => False
  | (.idiv, _, _, _) => match st with
    | .inl b :: .inl a :: st => (0 ≤ a ∧ 0 < b) ∧ go (i + 1) ls (aI (a / b) :: st) M
    | _ => False
  | (.irem, _, _, _) => match st with
    | .inl b :: .inl a :: st => (0 ≤ a ∧ 0 < b) ∧ go (i + 1) ls (aI (a % b) :: st) M
    | _ => False
  | (.iand, _, _, _) => match st with
    | .inl b :: .inl a :: st => go (i + 1) ls (aI (iAnd a b) :: st) M
    | _ => False
  | (.ior, _, _, _) => match st with
    | .inl b :: .inl a :: st => go (i + 1) ls (aI (iOr a b) :: st) M
    | _ => False
  | (.ixor, _, _, _) => match st with
    | .inl b :: .inl a :: st => go (i + 1) ls (aI (iXor a b) :: st) M
    | _ => False
  | (.ishl, _, _, _) => match st with
    | .inl b :: .inl a :: st => go (i + 1) ls (aI (iShl a b) :: st) M
    | _ => False
  | (.ishr, _, _, _) => match st with
    | .inl b :: .inl a :: st => go (i + 1) ls (aI (iShr a b) :: st) M
    | _ => False
  | (.iushr, _, _, _) => match st with
    | .inl b :: .inl a :: st => go (i + 1) ls (aI (iUshr a b) :: st) M
    | _ => False
  | (.i2l, _, _, _) => match st with
    | .inl a :: st => go (i + 1) ls (aL (i64 a) :: st) M
    | _ => False
  | (.i2b, _, _, _) => match st with
    | .inl a :: st => go (i + 1) ls (aI (i8 a) :: st) M
    | _ => False
  | (.i2s, _, _, _) => match st with
    | .inl a :: st => go (i + 1) ls (aI (i16 a) :: st) M
    | _ => False
  | (.ladd, _, _, _) => match st with
    | .inr (.inr b) :: .inr (.inr a) :: st => go (i + 1) ls (aL (a + b) :: st) M
    | _ => False
  | (.lmul, _, _, _) => match st with
    | .inr (.inr b) :: .inr (.inr a) :: st => go (i + 1) ls (aL (a * b) :: st) M
    | _ => False
  | (.lcmp, _, _, _) => match st with
    | .inr (.inr b) :: .inr (.inr a) :: st => go (i + 1) ls (aI (lCmp a b) :: st) M
    | _ => False
  | (.dup, _, _, _) => match st with
    | .inl a :: st => go (i + 1) ls (aI a :: aI a :: st) M
    | .inr (.inl a) :: st => go (i + 1) ls (aR a :: aR a :: st) M
    | _ => False
  | (.dup2, _, _, _) => match st with
    | .inl a :: .inr (.inl b) :: st => go (i + 1) ls (aI a :: aR b :: aI a :: aR b :: st) M
    | _ => False
  | (.pop, _, _, _) => match st with
    | .inl _ :: st => go (i + 1) ls st M
    | _ => False
  | (.goto _, _, t, _) => go t ls st M
  | (.ifCond c _, _, t, _) => match st with
    | .inl a :: st => (cnd c a 0 → go t ls st M) ∧ (¬ cnd c a 0 → go (i + 1) ls st M)
    | _ => False
  | (.if_icmp c _, _, t, _) => match st with
    | .inl b :: .inl a :: st => (cnd c a b → go t ls st M) ∧ (¬ cnd c a b → go (i + 1) ls st M)
    | _ => False
  | (.tableswitch _ lo _ offs, _, d, _) => match st with
    | .inl a :: st => tsw (fun t => go t ls st M) d offs.toList lo a
    | _ => False
  | (.getfield _, x, c, f) => match st with
    | .inr (.inl (some a)) :: st => mK M a = c ∧ (if x = 1 then go (i + 1) ls (aR (mR M a f) :: st) M else go (i + 1) ls (aI (mI M a f) :: st) M)
    | _ => False
  | (.putfield _, x, c, f) => match st with
    | .inl v :: .inr (.inl (some a)) :: st => mK M a = c ∧ (if x = 2 then v = 0 ∨ v = 1 else x = 0) ∧ go (i + 1) ls st (uI M a f v)
    | .inr (.inl (some v)) :: .inr (.inl (some a)) :: st => mK M a = c ∧ x = 1 ∧ go (i + 1) ls st (uR M a f (some v))
    | _ => False
  | (.getstatic _, _, j, _) => go (i + 1) ls (aR (some (BIG + j)) :: st) M
  | (.iaload, _, _, _) => match st with
    | .inl j :: .inr (.inl (some a)) :: st => ((mK M a = 20 ∨ mK M a = 25) ∧ 0 ≤ j ∧ j < mN M a) ∧ go (i + 1) ls (aI (mI M a j.toNat) :: st) M
    | _ => False
  | (.baload, _, _, _) => match st with
    | .inl j :: .inr (.inl (some a)) :: st => (mK M a = 21 ∧ 0 ≤ j ∧ j < mN M a) ∧ go (i + 1) ls (aI (mI M a j.toNat) :: st) M
    | _ => False
  | (.aaload, _, _, _) => match st with
    | .inl j :: .inr (.inl (some a)) :: st => ((mK M a = 31 ∨ mK M a = 32 ∨ mK M a = 37) ∧ 0 ≤ j ∧ j < mN M a) ∧ go (i + 1) ls (aR (mR M a j.toNat) :: st) M
    | _ => False
  | (.iastore, _, _, _) => match st with
    | .inl v :: .inl j :: .inr (.inl (some a)) :: st => (mK M a = 20 ∧ 0 ≤ j ∧ j < mN M a) ∧ go (i + 1) ls st (uI M a j.toNat v)
    | _ => False
  | (.bastore, _, _, _) => match st with
    | .inl v :: .inl j :: .inr (.inl (some a)) :: st => (mK M a = 21 ∧ 0 ≤ j ∧ j < mN M a ∧ (v = 0 ∨ v = 1)) ∧ go (i + 1) ls st (uI M a j.toNat v)
    | _ => False
  | (.aastore, _, _, _) => match st with
    | .inr (.inl (some v)) :: .inl j :: .inr (.inl (some a)) :: st => ((mK M v = 1 ∨ mK M v = 2 ∨ mK M v = 7) ∧ mK M a = 30 + mK M v ∧ 0 ≤ j ∧ j < mN M a) ∧ go (i + 1) ls st (uR M a j.toNat (some v))
    | _ => False
  | (.arraylength, _, _, _) => match st with
    | .inr (.inl (some a)) :: st => (mK M a = 20 ∨ mK M a = 25 ∨ mK M a = 31 ∨ mK M a = 32 ∨ mK M a = 37) ∧ go (i + 1) ls (aI (mN M a) :: st) M
    | _ => False
  | (.new _, _, c, n) => (mZ M + 1 ≤ z.1 + z.2.2.1 ∧ mS M + n ≤ z.2.1 + z.2.2.2 ∧ mZ M < BIG) ∧ go (i + 1) ls (aR (some (mZ M)) :: st) (uN M c n)
  | (.newarray _, _, kd, _) => match st with
    | .inl a :: st => (0 ≤ a ∧ a ≤ 100000 ∧ mZ M + 1 ≤ z.1 + z.2.2.1 ∧ mS M + a.toNat ≤ z.2.1 + z.2.2.2 ∧ mZ M < BIG) ∧ go (i + 1) ls (aR (some (mZ M)) :: st) (uN M kd a.toNat)
    | _ => False
  | (.anewarray _, _, c, _) => match st with
    | .inl a :: st => (0 ≤ a ∧ a ≤ 100000 ∧ mZ M + 1 ≤ z.1 + z.2.2.1 ∧ mS M + a.toNat ≤ z.2.1 + z.2.2.2 ∧ mZ M < BIG) ∧ go (i + 1) ls (aR (some (mZ M)) :: st) (uN M (30 + c) a.toNat)
    | _ => False
  | (.invokevirtual _, c, y, n) => cV pf X go i ls M c y n [] st
  | (.invokestatic _, x, y, n) => if x < 2 then cS pf X go i ls M y n [] st
    else if x = 9 then (match st with
      | .inl l :: .inl dp :: .inr (.inl (some b)) :: .inl sp :: .inr (.inl (some a)) :: rest => (mK M a = 20 ∧ mK M b = 20 ∧ 0 ≤ l ∧ 0 ≤ dp ∧ 0 ≤ sp ∧ sp + l ≤ mN M a ∧ dp + l ≤ mN M b ∧ catS rest ≤ 8) ∧ go (i + 1) ls rest (uC M a sp.toNat b dp.toNat l.toNat)
      | _ => False)
    else if x = 7 then (match st with
      | .inl b :: .inl a :: rest => catS rest ≤ 8 ∧ go (i + 1) ls (aI (if a < b then b else a) :: rest) M
      | _ => False)
    else if x = 8 then (match st with
      | .inl b :: .inl a :: rest => catS rest ≤ 8 ∧ go (i + 1) ls (aI (if b < a then b else a) :: rest) M
      | _ => False)
    else False
  | (.invokespecial _, x, y, n) => match st.drop n with
    | .inr (.inl (some b)) :: rest => catS rest ≤ 8 ∧ if x = 9 then go (i + 1) ls rest M else ∃ w : Nat × Nat, (mZ M + w.1 ≤ z.1 + z.2.2.1 ∧ mS M + w.2 ≤ z.2.1 + z.2.2.2) ∧ Ev X y w (aR (some b) :: (st.take n).reverse) M (kE go i ls rest)
    | _ => False
  | (.ireturn, x, _, _) => match st with
    | [.inl a] => (if x = 6 then True else z.2.2 = (0, 0) ∧ (x = 1 → a = 0 ∨ a = 1)) ∧ K (some (aI a)) M
    | _ => False
  | (.lreturn, _, _, _) => match st with
    | [.inr (.inr a)] => z.2.2 = (0, 0) ∧ K (some (aL a)) M
    | _ => False
  | (.return_, x, _, _) => match st with
    | [] => if x = 5 then mZ M = z.1 + z.2.2.1 ∧ mS M ≤ z.2.1 + z.2.2.2 ∧ K none (uS M (z.2.1 + z.2.2.2)) else z.2.2 = (0, 0) ∧ K none M
    | _ => False
  | _ => False
