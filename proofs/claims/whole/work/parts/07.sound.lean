/-! ONE STEP IS SOUND -/
def okLs (ls : List (Option AV)) : Prop := ∀ k v, lget ls k = some v → okV v
def okSt (st : List AV) : Prop := ∀ v ∈ st, okV v
def rmz (m : Nat) (z : JZ) : Room := { frames := yf m, cells := z.2.2.1, slots := z.2.2.2, locals := yw m }
def RG (X : CX) (z : JZ) (s : State) (M : Mem) (H : Heap) (locs : List Loc) (cells slots : Nat) : Prop := Rep X M H ∧ va_S (xA X) s.heap H locs ∧ H.size = xb X + mZ M ∧ mZ M = z.1 + cells ∧ mS M = z.2.1 + slots ∧ cells ≤ z.2.2.1 ∧ slots ≤ z.2.2.2
def jRet (m i : Nat) (z : JZ) (M M' : Mem) : Option AV → Prop
  | some (.inl a) => (tb m i).1 = .ireturn ∧ M' = M ∧ ((tb m i).2.1 = 6 ∨ (z.2.2 = (0, 0) ∧ ((tb m i).2.1 = 1 → a = 0 ∨ a = 1)))
  | some (.inr (.inr _)) => (tb m i).1 = .lreturn ∧ M' = M ∧ z.2.2 = (0, 0)
  | none => (tb m i).1 = .return_ ∧ ((M' = M ∧ z.2.2 = (0, 0)) ∨ (M' = uS M (z.2.1 + z.2.2.2) ∧ mZ M = z.1 + z.2.2.1 ∧ mS M ≤ z.2.1 + z.2.2.2))
  | _ => False
def GE (X : CX) (m : Nat) (z : JZ) (K : Option AV → Mem → Prop) (Q : State → Prop) (p : Program) (e : Env) (s : State) (mi : MethodId) (args : Array Value) (below : List Frame) (meth : Method) (c : Code) : Prop :=
  p.tables.exec = Jvm.exec ∧ c.code = yc m ∧ c.maxLocals = yl m ∧ s.vm.findClass (yn m).cls = some mi.cls ∧ (xs X).WarmedH s.vm ∧ (∀ q, q < xb X → s.heap[q]? = (xs X).heap[q]?) ∧ s.heap.size = xb X + z.1 ∧ meth.name = (yn m).name ∧
  ∀ (i : Nat) (ls : Array Slot) (r : Option AV) (M M' : Mem) (H : Heap) (locs : List Loc) (cells slots : Nat), lkB m i = true → jRet m i z M M' r → K r M' → okO r → RG X z s M H locs cells slots → W p (xl X) e (rmz m z) s mi args below meth c H locs cells slots Q (F0 mi (pb m i) ls (r.map (cv X)).toList)
/-- from here the machine comes to the method's end with K -/
def G (X : CX) (m : Nat) (z : JZ) (i : Nat) (ls : List (Option AV)) (st : List AV) (M : Mem) (K : Option AV → Mem → Prop) : Prop :=
  CtxOK X → okLs ls → okSt st → ∀ (Q : State → Prop) (p : Program) (e : Env) (s : State) (mi : MethodId) (args : Array Value) (below : List Frame) (meth : Method) (c : Code), GE X m z K Q p e s mi args below meth c →
  ∀ (H : Heap) (locs : List Loc) (cells slots : Nat) (lsA : Array Slot), RG X z s M H locs cells slots → LR X ls (yl m) lsA → W p (xl X) e (rmz m z) s mi args below meth c H locs cells slots Q (F0 mi (pb m i) lsA (st.map (cv X)))
/-- the same with all that is around given -/
def Gw (X : CX) (m : Nat) (z : JZ) (Q : State → Prop) (p : Program) (e : Env) (s : State) (mi : MethodId) (args : Array Value) (below : List Frame) (meth : Method) (c : Code) (i : Nat) (ls : List (Option AV)) (st : List AV) (M : Mem) : Prop :=
  okLs ls → okSt st → ∀ (H : Heap) (locs : List Loc) (cells slots : Nat) (lsA : Array Slot), RG X z s M H locs cells slots → LR X ls (yl m) lsA → W p (xl X) e (rmz m z) s mi args below meth c H locs cells slots Q (F0 mi (pb m i) lsA (st.map (cv X)))
theorem okLs_set {ls : List (Option AV)} {i : Nat} {v : AV} (h : okLs ls) (hv : okV v) (hl : isL v = false) : okLs (lset ls i v) := fun k w hw => by
  rcases lset_get ls i v k w hl hw with ⟨-, rfl⟩ | ⟨-, h2, -⟩
  · exact hv
  · exact h k w h2
theorem okLs_set2 {ls : List (Option AV)} {i : Nat} {v : AV} (h : okLs ls) (hv : okV v) : okLs (lset2 ls i v) := fun k w hw => by
  rcases lset2_get ls i v k w hw with ⟨-, rfl⟩ | ⟨-, -, h2, -⟩
  · exact hv
  · exact h k w h2
theorem okSt_c {v : AV} {st : List AV} (hv : okV v) (h : okSt st) : okSt (v :: st) := fun w hw => (List.mem_cons.mp hw).elim (fun e => e ▸ hv) (h w)
theorem okSt_t {v : AV} {st : List AV} (h : okSt (v :: st)) : okSt st := fun w hw => h w (List.mem_cons_of_mem _ hw)
theorem okSt_h {v : AV} {st : List AV} (h : okSt (v :: st)) : okV v := h v List.mem_cons_self
theorem iRB_ok {a : Int} (h : iRB a = true) : inR a := by
  simp only [iRB, Bool.and_eq_true, decide_eq_true_eq] at h
  exact h
section SOUND
variable {X : CX} {m : Nat} {z : JZ} {Q : State → Prop} {p : Program} {e : Env} {s : State} {mi : MethodId} {args : Array Value} {below : List Frame} {meth : Method} {c : Code} {K : Option AV → Mem → Prop} {i : Nat} {ls : List (Option AV)} {st : List AV} {M : Mem}
/-- what a rewritten cell leaves of the world -/
theorem W_RG (E : GE X m z K Q p e s mi args below meth c) {M' : Mem} {H1 : Heap} {locs1 : List Loc} {cells slots : Nat} {g : JFrame} (hR : Rep X M' H1) (hS : va_S (xA X) s.heap H1 locs1) (hz : mZ M' = z.1 + cells) (hs : mS M' = z.2.1 + slots) (hc : cells ≤ z.2.2.1) (hsl : slots ≤ z.2.2.2)
    (k : RG X z s M' H1 locs1 cells slots → W p (xl X) e (rmz m z) s mi args below meth c H1 locs1 cells slots Q g) : W p (xl X) e (rmz m z) s mi args below meth c H1 locs1 cells slots Q g := by
  have h7 : s.heap.size = xb X + z.1 := E.2.2.2.2.2.2.1
  have hlow : s.heap.size + cells ≤ H1.size := by
    by_cases h0 : 0 < mZ M'
    · have := hR.low h0
      omega
    · have := hS.1
      omega
  refine W_sz hlow (fun hsz => k ⟨hR, hS, by omega, hz, hs, hc, hsl⟩)
theorem dk_ok {ins : Instr} {len : Nat} (h : dk m i ins len = true) : decode (yc m) (pb m i) = .ok (ins, len) ∧ pb m (i + 1) = pb m i + len := by
  simp only [dk, Bool.and_eq_true, decide_eq_true_eq] at h
  exact h
theorem wk_ok {w : Jvm.Cond} (h : wk m i w = true) : lw_tbl[ps m i]? = some w := of_decide_eq_true h
/-- the rows for one int computed out of two -/
theorem s_bin {f : Int → Int → Int} {g : Int32 → Int32 → Int32} {ins : Instr} {a b : Int}
    (hrow : ∀ {H : Heap} {locs : List Loc} {cells slots : Nat} {lsA : Array Slot} {rest : List Value} {x y : Int32}, decode (yc m) (pb m i) = .ok (ins, 1) → W p (xl X) e (rmz m z) s mi args below meth c H locs cells slots Q (F0 mi (pb m i + 1) lsA (.int (g x y) :: rest)) → W p (xl X) e (rmz m z) s mi args below meth c H locs cells slots Q (F0 mi (pb m i) lsA (.int y :: .int x :: rest)))
    (hd : dk m i ins 1 = true) (hf : g (Int32.ofInt a) (Int32.ofInt b) = Int32.ofInt (f a b)) (hr : inR (f a b)) (k : Gw X m z Q p e s mi args below meth c (i + 1) ls (aI (f a b) :: st) M) : Gw X m z Q p e s mi args below meth c i ls (aI b :: aI a :: st) M := by
  intro hls hst H locs cells slots lsA R L
  obtain ⟨h1, h2⟩ := dk_ok hd
  refine hrow h1 ?_
  rw [← h2]
  have := k hls (okSt_c hr (okSt_t (okSt_t hst))) H locs cells slots lsA R L
  rw [hf]
  exact this
theorem s_push {ins : Instr} {len : Nat} {v : AV}
    (hrow : ∀ {H : Heap} {locs : List Loc} {cells slots : Nat} {lsA : Array Slot} {rest : List Value}, W p (xl X) e (rmz m z) s mi args below meth c H locs cells slots Q (F0 mi (pb m i + len) lsA (cv X v :: rest)) → W p (xl X) e (rmz m z) s mi args below meth c H locs cells slots Q (F0 mi (pb m i) lsA rest))
    (hd : dk m i ins len = true) (hr : okV v) (k : Gw X m z Q p e s mi args below meth c (i + 1) ls (v :: st) M) : Gw X m z Q p e s mi args below meth c i ls st M := by
  intro hls hst H locs cells slots lsA R L
  obtain ⟨h1, h2⟩ := dk_ok hd
  refine hrow ?_
  rw [← h2]
  exact k hls (okSt_c hr hst) H locs cells slots lsA R L
theorem s_load {ins : Instr} {len n : Nat} {v : AV}
    (hrow : ∀ {H : Heap} {locs : List Loc} {cells slots : Nat} {lsA : Array Slot} {rest : List Value}, lsA[n]? = some (.val (cv X v)) → W p (xl X) e (rmz m z) s mi args below meth c H locs cells slots Q (F0 mi (pb m i + len) lsA (cv X v :: rest)) → W p (xl X) e (rmz m z) s mi args below meth c H locs cells slots Q (F0 mi (pb m i) lsA rest))
    (hd : dk m i ins len = true) (hn : n < yl m) (hg : lget ls n = some v) (k : Gw X m z Q p e s mi args below meth c (i + 1) ls (v :: st) M) : Gw X m z Q p e s mi args below meth c i ls st M := by
  intro hls hst H locs cells slots lsA R L
  obtain ⟨h1, h2⟩ := dk_ok hd
  refine hrow (LR_get L hn hg) ?_
  rw [← h2]
  exact k hls (okSt_c (hls n v hg) hst) H locs cells slots lsA R L
theorem s_store {ins : Instr} {len n : Nat} {v : AV} (hl : isL v = false)
    (hrow : ∀ {H : Heap} {locs : List Loc} {cells slots : Nat} {lsA : Array Slot} {rest : List Value} {lv : List (Nat × Value)}, lv_has lsA (yl m) lv → (∀ ls' : Array Slot, lv_has ls' (yl m) ((n, cv X v) :: lv.filter (fun q => !(q.1 == n) && !(q.1 + 1 == n && q.2.category == 2))) → W p (xl X) e (rmz m z) s mi args below meth c H locs cells slots Q (F0 mi (pb m i + len) ls' rest)) → W p (xl X) e (rmz m z) s mi args below meth c H locs cells slots Q (F0 mi (pb m i) lsA (cv X v :: rest)))
    (hd : dk m i ins len = true) (k : Gw X m z Q p e s mi args below meth c (i + 1) (lset ls n v) st M) : Gw X m z Q p e s mi args below meth c i ls (v :: st) M := by
  intro hls hst H locs cells slots lsA R L
  obtain ⟨h1, h2⟩ := dk_ok hd
  refine hrow L (fun ls' hl' => ?_)
  rw [← h2]
  exact k (okLs_set hls (okSt_h hst) hl) (okSt_t hst) H locs cells slots ls' R (LR_set hl hl')
theorem s_store2 {ins : Instr} {len n : Nat} {v : AV}
    (hrow : ∀ {H : Heap} {locs : List Loc} {cells slots : Nat} {lsA : Array Slot} {rest : List Value} {lv : List (Nat × Value)}, lv_has lsA (yl m) lv → (∀ ls' : Array Slot, lv_has ls' (yl m) ((n, cv X v) :: lv.filter (fun q => !(q.1 == n) && (!(q.1 == n + 1) && !(q.1 + 1 == n && q.2.category == 2)))) → W p (xl X) e (rmz m z) s mi args below meth c H locs cells slots Q (F0 mi (pb m i + len) ls' rest)) → W p (xl X) e (rmz m z) s mi args below meth c H locs cells slots Q (F0 mi (pb m i) lsA (cv X v :: rest)))
    (hd : dk m i ins len = true) (k : Gw X m z Q p e s mi args below meth c (i + 1) (lset2 ls n v) st M) : Gw X m z Q p e s mi args below meth c i ls (v :: st) M := by
  intro hls hst H locs cells slots lsA R L
  obtain ⟨h1, h2⟩ := dk_ok hd
  refine hrow L (fun ls' hl' => ?_)
  rw [← h2]
  exact k (okLs_set2 hls (okSt_h hst)) (okSt_t hst) H locs cells slots ls' R (LR_set2 hl')
/-- one value out of one -/
theorem s_un {ins : Instr} {v w : AV}
    (hrow : ∀ {H : Heap} {locs : List Loc} {cells slots : Nat} {lsA : Array Slot} {rest : List Value}, W p (xl X) e (rmz m z) s mi args below meth c H locs cells slots Q (F0 mi (pb m i + 1) lsA (cv X w :: rest)) → W p (xl X) e (rmz m z) s mi args below meth c H locs cells slots Q (F0 mi (pb m i) lsA (cv X v :: rest)))
    (hd : dk m i ins 1 = true) (hr : okV w) (k : Gw X m z Q p e s mi args below meth c (i + 1) ls (w :: st) M) : Gw X m z Q p e s mi args below meth c i ls (v :: st) M := by
  intro hls hst H locs cells slots lsA R L
  obtain ⟨h1, h2⟩ := dk_ok hd
  refine hrow ?_
  rw [← h2]
  exact k hls (okSt_c hr (okSt_t hst)) H locs cells slots lsA R L
theorem s_un2 {ins : Instr} {v v2 w : AV}
    (hrow : ∀ {H : Heap} {locs : List Loc} {cells slots : Nat} {lsA : Array Slot} {rest : List Value}, W p (xl X) e (rmz m z) s mi args below meth c H locs cells slots Q (F0 mi (pb m i + 1) lsA (cv X w :: rest)) → W p (xl X) e (rmz m z) s mi args below meth c H locs cells slots Q (F0 mi (pb m i) lsA (cv X v :: cv X v2 :: rest)))
    (hd : dk m i ins 1 = true) (hr : okV w) (k : Gw X m z Q p e s mi args below meth c (i + 1) ls (w :: st) M) : Gw X m z Q p e s mi args below meth c i ls (v :: v2 :: st) M := by
  intro hls hst H locs cells slots lsA R L
  obtain ⟨h1, h2⟩ := dk_ok hd
  refine hrow ?_
  rw [← h2]
  exact k hls (okSt_c hr (okSt_t (okSt_t hst))) H locs cells slots lsA R L
theorem jOff_ok (t : Nat) : (pb m i : Int) + jOff m i t = (pb m t : Int) := by unfold jOff; omega
theorem s_if {cc : Jvm.ClassFile.Cond} {t : Nat} {a : Int} (E : GE X m z K Q p e s mi args below meth c) (hd : dk m i (.ifCond cc (jOff m i t)) 3 = true)
    (k1 : cnd cc a 0 → Gw X m z Q p e s mi args below meth c t ls st M) (k2 : ¬ cnd cc a 0 → Gw X m z Q p e s mi args below meth c (i + 1) ls st M) : Gw X m z Q p e s mi args below meth c i ls (aI a :: st) M := by
  intro hls hst H locs cells slots lsA R L
  obtain ⟨h1, h2⟩ := dk_ok hd
  have ha : inR a := okSt_h hst
  have z0 : (0 : Int32) = Int32.ofInt 0 := rfl
  have ht := jOff_ok (m := m) (i := i) t
  cases cc with
  | eq => exact lv_if_eq E.1 E.2.1 h1 ht (fun h => k1 (by rw [z0] at h; exact (ofI_inj ha inR_0).mp h) hls (okSt_t hst) H locs cells slots lsA R L) (fun h => by rw [← h2]; exact k2 (fun h9 => h (by rw [z0]; exact (ofI_inj ha inR_0).mpr h9)) hls (okSt_t hst) H locs cells slots lsA R L)
  | ne => exact lv_if_ne E.1 E.2.1 h1 ht (fun h => k1 (fun h9 => h (by rw [z0]; exact (ofI_inj ha inR_0).mpr h9)) hls (okSt_t hst) H locs cells slots lsA R L) (fun h => by rw [← h2]; exact k2 (fun h9 => h9 (by rw [z0] at h; exact (ofI_inj ha inR_0).mp h)) hls (okSt_t hst) H locs cells slots lsA R L)
  | lt => exact lv_if_lt E.1 E.2.1 h1 ht (fun h => k1 (by rw [z0] at h; exact (ofI_lt ha inR_0).mp h) hls (okSt_t hst) H locs cells slots lsA R L) (fun h => by rw [← h2]; exact k2 (fun h9 => h (by rw [z0]; exact (ofI_lt ha inR_0).mpr h9)) hls (okSt_t hst) H locs cells slots lsA R L)
  | ge => exact lv_if_ge E.1 E.2.1 h1 ht (fun h => k1 (by rw [z0] at h; exact (ofI_le inR_0 ha).mp h) hls (okSt_t hst) H locs cells slots lsA R L) (fun h => by rw [← h2]; exact k2 (fun h9 => h (by rw [z0]; exact (ofI_le inR_0 ha).mpr h9)) hls (okSt_t hst) H locs cells slots lsA R L)
  | gt => exact lv_if_gt E.1 E.2.1 h1 ht (fun h => k1 (by rw [z0] at h; exact (ofI_lt inR_0 ha).mp h) hls (okSt_t hst) H locs cells slots lsA R L) (fun h => by rw [← h2]; exact k2 (fun h9 => h (by rw [z0]; exact (ofI_lt inR_0 ha).mpr h9)) hls (okSt_t hst) H locs cells slots lsA R L)
  | le => exact lv_if_le E.1 E.2.1 h1 ht (fun h => k1 (by rw [z0] at h; exact (ofI_le ha inR_0).mp h) hls (okSt_t hst) H locs cells slots lsA R L) (fun h => by rw [← h2]; exact k2 (fun h9 => h (by rw [z0]; exact (ofI_le ha inR_0).mpr h9)) hls (okSt_t hst) H locs cells slots lsA R L)
theorem s_icmp {cc : Jvm.ClassFile.Cond} {t : Nat} {a b : Int} (E : GE X m z K Q p e s mi args below meth c) (hd : dk m i (.if_icmp cc (jOff m i t)) 3 = true)
    (k1 : cnd cc a b → Gw X m z Q p e s mi args below meth c t ls st M) (k2 : ¬ cnd cc a b → Gw X m z Q p e s mi args below meth c (i + 1) ls st M) : Gw X m z Q p e s mi args below meth c i ls (aI b :: aI a :: st) M := by
  intro hls hst H locs cells slots lsA R L
  obtain ⟨h1, h2⟩ := dk_ok hd
  have hb : inR b := okSt_h hst
  have ha : inR a := okSt_h (okSt_t hst)
  have hst2 := okSt_t (okSt_t hst)
  have ht := jOff_ok (m := m) (i := i) t
  cases cc with
  | eq => exact lv_icmp_eq E.1 E.2.1 h1 ht (fun h => k1 ((ofI_inj ha hb).mp h) hls hst2 H locs cells slots lsA R L) (fun h => by rw [← h2]; exact k2 (fun h9 => h ((ofI_inj ha hb).mpr h9)) hls hst2 H locs cells slots lsA R L)
  | ne => exact lv_icmp_ne E.1 E.2.1 h1 ht (fun h => k1 (fun h9 => h ((ofI_inj ha hb).mpr h9)) hls hst2 H locs cells slots lsA R L) (fun h => by rw [← h2]; exact k2 (fun h9 => h9 ((ofI_inj ha hb).mp h)) hls hst2 H locs cells slots lsA R L)
  | lt => exact lv_icmp_lt E.1 E.2.1 h1 ht (fun h => k1 ((ofI_lt ha hb).mp h) hls hst2 H locs cells slots lsA R L) (fun h => by rw [← h2]; exact k2 (fun h9 => h ((ofI_lt ha hb).mpr h9)) hls hst2 H locs cells slots lsA R L)
  | ge => exact lv_icmp_ge E.1 E.2.1 h1 ht (fun h => k1 ((ofI_le hb ha).mp h) hls hst2 H locs cells slots lsA R L) (fun h => by rw [← h2]; exact k2 (fun h9 => h ((ofI_le hb ha).mpr h9)) hls hst2 H locs cells slots lsA R L)
  | gt => exact lv_icmp_gt E.1 E.2.1 h1 ht (fun h => k1 ((ofI_lt hb ha).mp h) hls hst2 H locs cells slots lsA R L) (fun h => by rw [← h2]; exact k2 (fun h9 => h ((ofI_lt hb ha).mpr h9)) hls hst2 H locs cells slots lsA R L)
  | le => exact lv_icmp_le E.1 E.2.1 h1 ht (fun h => k1 ((ofI_le ha hb).mp h) hls hst2 H locs cells slots lsA R L) (fun h => by rw [← h2]; exact k2 (fun h9 => h ((ofI_le ha hb).mpr h9)) hls hst2 H locs cells slots lsA R L)
end SOUND
