/-! the tables are those of the bytes and of the words: checked by evaluation, method by method -/
def SNL : List String := ["LETTER_SHIFTS", "LETTER_PRODUCTS", "DIGEST_PRODUCTS"]
def sN (j : Nat) : String := SNL.getD j ""
def iRB (a : Int) : Bool := decide (-2147483648 ≤ a) && decide (a ≤ 2147483647)
def dk (m i : Nat) (ins : Instr) (len : Nat) : Bool := decide (decode (yc m) (pb m i) = .ok (ins, len)) && decide (pb m (i + 1) = pb m i + len)
def wk (m i : Nat) (w : Jvm.Cond) : Bool := decide (lw_tbl[ps m i]? = some w)
def jOff (m i t : Nat) : Int := (pb m t : Int) - (pb m i : Int)
/-- a method's own words; their places in lw_tbl stand in yP -/
def mOK (y : Nat) : Bool := decide (lw_tbl[(yP y).2.1]? = some (.initialized (yn y).cls)) && (plainName (yn y).cls && (decide ((yn y).cls ≠ "java/lang/invoke/MethodHandle") && (decide ((yn y).cls ≠ "java/lang/invoke/VarHandle") && decide ((parseMethodDescriptor (yn y).desc).map (fun d => d.parameters.length) = some (yP y).2.2.2.2))))
def mOKi (y : Nat) : Bool := decide (lw_tbl[(yP y).2.2.1]? = some (.instanceMethod (yn y)))
def mOKv (y c : Nat) : Bool := mOKi y && (decide (lw_tbl[(yP y).2.2.2.1]? = some (.selects (yn y).cls (yn y) (yn y))) && (decide ((yn y).cls = kR c) && decide (c < 9)))
def mOKs (y : Nat) : Bool := decide (lw_tbl[(yP y).2.2.1]? = some (.static (yn y)))
def cOK (m y n : Nat) : Bool := decide (yf y + 1 ≤ yf m) && (decide (8 + (yl y + 11) + yw y ≤ yw m) && decide ((yP y).2.2.2.2 = n))
def lkI (m i : Nat) : jI → Bool
  | (.iconst n, _, _, _) => dk m i (.iconst n) 1 && iRB n
  | (.bipush n, _, _, _) => dk m i (.bipush n) 2 && (iRB n && decide ((Int8.ofInt n).toInt32 = Int32.ofInt n))
  | (.sipush n, _, _, _) => dk m i (.sipush n) 3 && (iRB n && decide ((Int16.ofInt n).toInt32 = Int32.ofInt n))
  | (.ldc k, v, t, _) => dk m i (.ldc k) 2 && (iRB v && (decide (t = 0) && wk m i (.constant (yn m).cls k (Int32.ofInt v))))
  | (.ldc_w k, v, _, _) => dk m i (.ldc_w k) 3 && (iRB v && wk m i (.constant (yn m).cls k (Int32.ofInt v)))
  | (.ldc2_w k, v, _, _) => dk m i (.ldc2_w k) 3 && wk m i (.constantLong (yn m).cls k (Int64.ofInt v))
  | (.iload k, _, _, _) => dk m i (.iload k) 2 && decide (k < yl m)
  | (.iload_n k, _, _, _) => dk m i (.iload_n k) 1 && decide (k.val < yl m)
  | (.lload k, _, _, _) => dk m i (.lload k) 2 && decide (k < yl m)
  | (.lload_n k, _, _, _) => dk m i (.lload_n k) 1 && decide (k.val < yl m)
  | (.aload k, _, _, _) => dk m i (.aload k) 2 && decide (k < yl m)
  | (.aload_n k, _, _, _) => dk m i (.aload_n k) 1 && decide (k.val < yl m)
  | (.istore k, _, _, _) => dk m i (.istore k) 2 && decide (k < yl m)
  | (.istore_n k, _, _, _) => dk m i (.istore_n k) 1 && decide (k.val < yl m)
  | (.lstore k, _, _, _) => dk m i (.lstore k) 2 && decide (k + 1 < yl m)
  | (.lstore_n k, _, _, _) => dk m i (.lstore_n k) 1 && decide (k.val + 1 < yl m)
  | (.astore k, _, _, _) => dk m i (.astore k) 2 && decide (k < yl m)
  | (.astore_n k, _, _, _) => dk m i (.astore_n k) 1 && decide (k.val < yl m)
  | (.iinc k n, _, _, _) => dk m i (.iinc k n) 3 && decide (k < yl m)
  | (.goto _, _, t, _) => dk m i (.goto (jOff m i t)) 3
  | (.ifCond c _, _, t, _) => dk m i (.ifCond c (jOff m i t)) 3
  | (.if_icmp c _, _, t, _) => dk m i (.if_icmp c (jOff m i t)) 3
  | (.tableswitch _ lo hi offs, _, d, _) => decide (decode (yc m) (pb m i) = .ok (.tableswitch (jOff m i d) lo hi (offs.map (fun t => jOff m i t.toNat)), pb m (i + 1) - pb m i)) && decide ((offs.size : Int) = hi - lo + 1)
  | (.getfield k, x, c, f) => dk m i (.getfield k) 3 && (wk m i (.fieldLink (yn m).cls k (kR c) (kT c f).2.1 (kT c f).2.2.1) && (decide (f < kN c) && (decide (c < 9) && (decide ((kT c f).1 = kR c) && decide ((x = 1) = (kF c f = 1))))))
  | (.putfield k, x, c, f) => dk m i (.putfield k) 3 && (wk m i (.fieldLink (yn m).cls k (kR c) (kT c f).2.1 (kT c f).2.2.1) && (decide (f < kN c) && (decide (c < 9) && (decide ((kT c f).1 = kR c) && (decide (x = (kF c f : Int)) && (decide ((kT c f).2.2.2 = false) || (decide ((yn m).name = "<init>") && decide (kR c = (yn m).cls))))))))
  | (.getstatic k, x, j, _) => dk m i (.getstatic k) 3 && (decide (j < 3) && (if x = 0 then wk m i (.fieldLink (yn m).cls k "JanetCones" (sN j) "[I") else wk m i (.fieldLinkNest (yn m).cls k "JanetCones" (sN j) "[I" "JanetCones")))
  | (.new k, _, c, n) => dk m i (.new k) 3 && (wk m i (.classLink (yn m).cls k (kR c)) && (decide (c < 9) && decide (n = kN c)))
  | (.newarray t, _, kd, _) => dk m i (.newarray t) 2 && decide ((t = .int ∧ kd = 20) ∨ (t = .boolean ∧ kd = 21))
  | (.anewarray k, _, c, _) => dk m i (.anewarray k) 3 && (wk m i (.classLink (yn m).cls k (kR c)) && decide (c = 1 ∨ c = 2 ∨ c = 7))
  | (.invokevirtual k, c, y, n) => dk m i (.invokevirtual k) 3 && (wk m i (.methodLink (yn m).cls k (yn y)) && (cOK m y n && mOKv y c.toNat))
  | (.invokestatic k, x, y, n) => dk m i (.invokestatic k) 3 && (if x = 9 then wk m i (.methodLink (yn m).cls k arraycopyName) && (decide (1 ≤ yf m) && decide (26 ≤ yw m)) else if x = 7 then wk m i (.methodLink (yn m).cls k Lib.Math.max.name) && (decide (1 ≤ yf m) && decide (21 ≤ yw m)) else if x = 8 then wk m i (.methodLink (yn m).cls k Lib.Math.min.name) && (decide (1 ≤ yf m) && decide (21 ≤ yw m)) else (if x = 0 then wk m i (.methodLink (yn m).cls k (yn y)) else wk m i (.methodLinkNest (yn m).cls k (yn y) "JanetCones")) && (cOK m y n && mOKs y))
  | (.invokespecial k, x, y, n) => dk m i (.invokespecial k) 3 && (if x = 9 then wk m i (.methodLink (yn m).cls k Lib.objectInit) && (decide (1 ≤ yf m) && (decide (20 ≤ yw m) && decide (n = 0))) else (if x = 0 then wk m i (.methodLink (yn m).cls k (yn y)) else wk m i (.methodLinkNest (yn m).cls k (yn y) "JanetCones")) && (cOK m y n && (mOKi y && (decide ((yn y).name = "<init>") && decide (yr y = none)))))
  | (.ireturn, x, _, _) => dk m i .ireturn 1 && (if x = 6 then decide (m = 0) else decide (m ≠ 0) && (if x = 1 then decide (yr m = some .boolean) else decide (x = 0) && decide (yr m = some .int)))
  | (.lreturn, _, _, _) => dk m i .lreturn 1 && (decide (m ≠ 0) && decide (yr m = some .long))
  | (.return_, _, _, _) => dk m i .return_ 1 && (decide (m ≠ 0) && decide (yr m = none))
  | (ins, _, _, _) => dk m i ins 1
def lkB (m i : Nat) : Bool := lkI m i (tb m i)
