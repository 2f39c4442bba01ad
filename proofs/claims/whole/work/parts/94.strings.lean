/-! the three literals: String's own methods -/
def nmC (q j : Nat) : Int := (nmL q).getD j 0
/-- the literals' bytes and the statics of String's own methods, as they lie outside -/
def SV (X : CX) : Prop := vk_S 3 [3, 3, 3] [[108, 101, 120], [100, 101, 103], [114, 101, 118]] (fun i => xa X (BIG + 4 + i)) (fun i => xa X (BIG + 7 + i)) (xA X) (xs X) (xs X).heap
  ∧ va_Z "java/lang/String" "COMPACT_STRINGS" "Z" (.int 1) (xA X) (xs X) (xs X).heap
  ∧ ∃ fm : Option Nat, va_Z "jdk/internal/util/Preconditions" "SIOOBE_FORMATTER" "Ljava/util/function/BiFunction;" (cv X (aR fm)) (xA X) (xs X) (xs X).heap
theorem cv_big {X : CX} {b : Nat} (h : BIG ≤ b) : cv X (aR (some b)) = .ref (xa X b) := by
  show va_rf (some (ad X b)) = _
  unfold ad
  rw [if_neg (by omega)]
  rfl
theorem G_in {X : CX} {m : Nat} {z : JZ} {K : Option AV → Mem → Prop} {i : Nat} {ls : List (Option AV)} {st : List AV} {M : Mem} (h : CtxOK X → ∀ (Q : State → Prop) (p : Program) (e : Env) (s : State) (mi : MethodId) (args : Array Value) (below : List Frame) (meth : Method) (c : Code), GE X m z K Q p e s mi args below meth c → Gw X m z Q p e s mi args below meth c i ls st M) : G X m z i ls st M K :=
  fun C hls hst Q p e s mi args below meth c E => h C Q p e s mi args below meth c E hls hst
section STR
variable {X : CX} {m : Nat} {z : JZ} {Q : State → Prop} {p : Program} {e : Env} {s : State} {mi : MethodId} {args : Array Value} {below : List Frame} {meth : Method} {c : Code} {K : Option AV → Mem → Prop} {i : Nat} {ls : List (Option AV)} {st : List AV} {M : Mem}
theorem s_getsX (C : CtxOK X) (E : GE X m z K Q p e s mi args below meth c) {k : Nat} {cls nm ds : String} {v : AV} (hd : dk m i (.getstatic k) 3 = true) (hw : wk m i (.fieldLink (yn m).cls k cls nm ds) = true) (hv : okV v) (hZ0 : va_Z cls nm ds (cv X v) (xA X) (xs X) (xs X).heap)
    (k1 : Gw X m z Q p e s mi args below meth c (i + 1) ls (v :: st) M) : Gw X m z Q p e s mi args below meth c i ls st M := by
  intro hls hst H locs cells slots lsA R L
  obtain ⟨h1, h2⟩ := dk_ok hd
  have hZ := va_Z.kept (va_Z.moved E.2.2.2.2.1.alike hZ0) (H1 := s.heap) (fun q hq _ => E.2.2.2.2.2.1 q hq)
  have fin : W p (xl X) e (rmz m z) s mi args below meth c H locs cells slots Q (F0 mi (pb m i + 3) lsA (cv X v :: st.map (cv X))) := by
    rw [← h2]
    exact k1 hls (okSt_c hv hst) H locs cells slots lsA R L
  exact va_gets E.1 E.2.1 hZ R.2.1 E.2.2.2.1 (gl_hts C E.2.2.2.2.1 args _ (gl_of (wk_ok hw) rfl)) (fun _ h => h) h1 fin
theorem s_getX (C : CtxOK X) (E : GE X m z K Q p e s mi args below meth c) {k q : Nat} {nm ds : String} {v : AV} (hd : dk m i (.getfield k) 3 = true) (hw : wk m i (.fieldLink (yn m).cls k "java/lang/String" nm ds) = true) (hv : okV v) (hO : va_OF "java/lang/String" nm ds (cv X v) (xa X (BIG + 4 + q)) (xA X) (xs X) (xs X).heap)
    (k1 : Gw X m z Q p e s mi args below meth c (i + 1) ls (v :: st) M) : Gw X m z Q p e s mi args below meth c i ls (aR (some (BIG + 4 + q)) :: st) M := by
  intro hls hst H locs cells slots lsA R L
  obtain ⟨h1, h2⟩ := dk_ok hd
  have hO1 := va_OF.kept (va_OF.moved E.2.2.2.2.1.alike hO) (H1 := s.heap) (fun q hq _ => E.2.2.2.2.2.1 q hq)
  rw [List.map_cons, cv_big (by omega)]
  refine vk_getf E.1 E.2.1 hO1 R.2.1 E.2.2.2.1 (gl_hts C E.2.2.2.2.1 args _ (gl_of (wk_ok hw) rfl)) (fun _ h => h) h1 ?_
  rw [← h2]
  exact k1 hls (okSt_c hv (okSt_t hst)) H locs cells slots lsA R L
theorem s_alenX (E : GE X m z K Q p e s mi args below meth c) {b n : Nat} {f : Nat → Value} (hd : dk m i .arraylength 1 = true) (hb : BIG ≤ b) (hn : n < 1000) (hT : va_T .byte (xa X b) n f (xA X) (xs X) (xs X).heap)
    (k1 : Gw X m z Q p e s mi args below meth c (i + 1) ls (aI n :: st) M) : Gw X m z Q p e s mi args below meth c i ls (aR (some b) :: st) M := by
  intro hls hst H locs cells slots lsA R L
  obtain ⟨h1, h2⟩ := dk_ok hd
  have h5 := va_T.kept (va_T.moved E.2.2.2.2.1.alike hT) (H1 := s.heap) (fun q hq hqa => E.2.2.2.2.2.1 q hq)
  rw [List.map_cons, cv_big hb]
  refine va_tlen E.1 E.2.1 h5 R.2.1 (v := Int32.ofNat n) rfl h1 ?_
  rw [← h2]
  have := k1 hls (okSt_c (show inR (n : Int) from ⟨by omega, by omega⟩) (okSt_t hst)) H locs cells slots lsA R L
  rw [List.map_cons, show cv X (aI (n : Int)) = .int (Int32.ofNat n) from by show Value.int (Int32.ofInt (n : Int)) = _; rw [Int32.ofInt_eq_ofNat]] at this
  exact this
theorem s_baldX (E : GE X m z K Q p e s mi args below meth c) {b n j : Nat} {f : Nat → Value} {v : Int} (hd : dk m i .baload 1 = true) (hb : BIG ≤ b) (hj : j < n) (hn : n < 1000) (hT : va_T .byte (xa X b) n f (xA X) (xs X) (xs X).heap) (hf : f j = .int (Int32.ofInt v)) (hv : inR v)
    (k1 : Gw X m z Q p e s mi args below meth c (i + 1) ls (aI v :: st) M) : Gw X m z Q p e s mi args below meth c i ls (aI j :: aR (some b) :: st) M := by
  intro hls hst H locs cells slots lsA R L
  obtain ⟨h1, h2⟩ := dk_ok hd
  have hr : inR (j : Int) := ⟨by omega, by omega⟩
  have h5 := va_T.kept (va_T.moved E.2.2.2.2.1.alike hT) (H1 := s.heap) (fun q hq hqa => E.2.2.2.2.2.1 q hq)
  rw [List.map_cons, List.map_cons, cv_big hb]
  refine va_tb E.1 E.2.1 h5 R.2.1 (i := Int32.ofInt (j : Int)) (ofI_in hr (by omega) (by omega)) (v := .int (Int32.ofInt v)) (by rw [ofI_nat hr, Int.toNat_natCast]; exact hf) h1 ?_
  rw [← h2]
  exact k1 hls (okSt_c hv (okSt_t (okSt_t hst))) H locs cells slots lsA R L
theorem s_i2cX (E : GE X m z K Q p e s mi args below meth c) {v : Int} (hd : dk m i .i2c 1 = true) (hv : ((Int32.ofInt v).toUInt32 % 65536).toInt32 = Int32.ofInt v)
    (k1 : Gw X m z Q p e s mi args below meth c (i + 1) ls (aI v :: st) M) : Gw X m z Q p e s mi args below meth c i ls (aI v :: st) M := by
  intro hls hst H locs cells slots lsA R L
  obtain ⟨h1, h2⟩ := dk_ok hd
  refine lv_i2c E.1 E.2.1 h1 hv ?_
  rw [← h2]
  exact k1 hls hst H locs cells slots lsA R L
theorem s_gotoX (E : GE X m z K Q p e s mi args below meth c) {t : Nat} (hd : dk m i (.goto (jOff m i t)) 3 = true)
    (k1 : Gw X m z Q p e s mi args below meth c t ls st M) : Gw X m z Q p e s mi args below meth c i ls st M := by
  intro hls hst H locs cells slots lsA R L
  exact lv_goto E.1 E.2.1 (dk_ok hd).1 (jOff_ok t) (k1 hls hst H locs cells slots lsA R L)
theorem s_ldcS (C : CtxOK X) (E : GE X m z K Q p e s mi args below meth c) {k b : Nat} {tx : String} (hd : dk m i (.ldc k) 2 = true) (hb : BIG ≤ b) (hR : vk_R (yn m).cls k tx (xa X b) (xs X))
    (k1 : Gw X m z Q p e s mi args below meth c (i + 1) ls (aR (some b) :: st) M) : Gw X m z Q p e s mi args below meth c i ls st M := by
  intro hls hst H locs cells slots lsA R L
  obtain ⟨h1, h2⟩ := dk_ok hd
  refine va_ldcS E.1 E.2.1 E.2.2.2.1 (vk_R.warm E.2.2.2.2.1 hR) h1 ?_
  rw [← h2, ← cv_big hb]
  exact k1 hls (okSt_c trivial hst) H locs cells slots lsA R L
theorem s_callT (hV : SV X) (C : CtxOK X) (E : GE X m z K Q p e s mi args below meth c) {k y n q : Nat} {rest : List AV} {Kc : Option AV → Mem → Prop} (hd : dk m i (.invokevirtual k) 3 = true) (hw : wk m i (.methodLink (yn m).cls k (yn y)) = true) (hc : cOK m y n = true) (hi : mOKi y = true) (hsel : lw_tbl[(yP y).2.2.2.1]? = some (.selects (yn y).cls (yn y) (yn y))) (hcl : (yn y).cls = "java/lang/String") (hq : q < 3) (hdr : st.drop n = aR (some (BIG + 4 + q)) :: rest) (hcat : catS rest ≤ 8)
    (hev : Ev X y (0, 0) (aR (some (BIG + 4 + q)) :: (st.take n).reverse) M Kc) (k1 : ∀ r M', Kc r M' → Gw X m z Q p e s mi args below meth c (i + 1) ls (psh r rest) M') : Gw X m z Q p e s mi args below meth c i ls st M := by
  intro hls hst H locs cells slots lsA R L
  obtain ⟨h1, h2⟩ := dk_ok hd
  obtain ⟨hcd, hmo⟩ := hev.1
  obtain ⟨c1, c2, c3⟩ := cOK_ok hc
  obtain ⟨m1, m2, m3, m4, m5⟩ := mOK_ok hmo
  have v1 : lw_tbl[(yP y).2.2.1]? = some (.instanceMethod (yn y)) := of_decide_eq_true hi
  have hM := hev.2 C (fun v hv => by
    rcases List.mem_cons.mp hv with h | h
    · rw [h]; trivial
    · exact hst v (List.mem_of_mem_take (List.mem_reverse.mp h)))
  have hts := gl_hts C E.2.2.2.2.1 args
  have r6 := R.2.2.2.2.2.1
  have r7 := R.2.2.2.2.2.2
  have hlen : n < st.length := by
    have h9 : (st.drop n).length = (rest.length + 1) := by rw [hdr]; rfl
    rw [List.length_drop] at h9
    omega
  have hcv : cv X (aR (some (BIG + 4 + q))) = .ref (xa X (BIG + 4 + q)) := cv_big (by omega)
  have hstk : st.map (cv X) = (((st.take n).reverse.map (cv X)).reverse) ++ .ref (xa X (BIG + 4 + q)) :: rest.map (cv X) := by
    rw [← hcv, ← List.map_cons, ← hdr, List.map_reverse, List.reverse_reverse, ← List.map_append, List.take_append_drop]
  have hS9 := vk_S.kept (vk_S.moved E.2.2.2.2.1.alike hV.1) (H1 := s.heap) (fun q hq _ => E.2.2.2.2.2.1 q hq)
  refine s_back (n := (0, 0)) (Kc := Kc) (rest := rest) (a := (Value.ref (xa X (BIG + 4 + q)) :: (st.take n).reverse.map (cv X)).toArray) E R L hls (fun v hv => hst v (List.mem_of_mem_drop (i := n) (by rw [hdr]; exact List.mem_cons_of_mem _ hv))) r6 r7 h2 ?_ k1
  have hlenA : ((st.take n).reverse.map (cv X)).length = n := by simp; omega
  have hp : PreV s H "java/lang/String" (xa X (BIG + 4 + q)) (Pq X (aR (some (BIG + 4 + q)) :: (st.take n).reverse) M) ((st.take n).reverse.map (cv X)) := ⟨pq_blind _, vk_recv (i := q) hS9 hq R.2.1, fun U hU hW => ⟨by rw [List.map_cons, hcv], wd_of E R hU hW⟩⟩
  refine va_runV (S := ⟨E.1, E.2.1, E.2.2.1, E.2.2.2.1, hts⟩) hM (cwV n hts ?_ rfl rfl rfl ⟨hcl, m3, m4, by rw [m5, c3]⟩ ⟨c1, c2⟩) hp rfl hlenA L.1 hstk (lv_room (by rw [cat_sum]; exact hcat)) h1 ⟨r6, r7⟩
  refine goodIn_l hcd (fun w hw9 => ?_)
  simp only [List.mem_cons, List.not_mem_nil, or_false] at hw9
  rcases hw9 with rfl | rfl | rfl | rfl
  · exact gl_of (wk_ok hw) rfl
  · exact gl_of v1 rfl
  · rw [← hcl]; exact gl_of hsel rfl
  · rw [← hcl]; exact gl_of m1 rfl
end STR
theorem entL_ok {as : List AV} (hok : ∀ v ∈ as, okV v) (n : Nat) : okLs (entL as n) := fun k v hk => by
  have hmem : ∀ (as : List AV) (n k : Nat) (v : AV), lget (entL as n) k = some v → v ∈ as := by
    intro as
    induction as with
    | nil => intro n k v h9; rw [show entL [] n = List.replicate n none from rfl, lget_rep] at h9; cases h9
    | cons w as ih =>
      intro n k v h9
      match w with
      | .inl a =>
        cases k with
        | zero => cases h9; exact List.mem_cons_self
        | succ k => exact List.mem_cons_of_mem _ (ih (n - 1) k v h9)
      | .inr (.inl none) =>
        cases k with
        | zero => cases h9; exact List.mem_cons_self
        | succ k => exact List.mem_cons_of_mem _ (ih (n - 1) k v h9)
      | .inr (.inl (some a)) =>
        cases k with
        | zero => cases h9; exact List.mem_cons_self
        | succ k => exact List.mem_cons_of_mem _ (ih (n - 1) k v h9)
      | .inr (.inr a) =>
        match k with
        | 0 => cases h9; exact List.mem_cons_self
        | 1 => cases h9
        | k + 2 => exact List.mem_cons_of_mem _ (ih (n - 2) k v h9)
  exact hok v (hmem as n k v hk)
/-- a contract of a method that answers a byte or a char -/
theorem Ev_ofN {X : CX} {y : Nat} {as : List AV} {M : Mem} {K : Option AV → Mem → Prop} {ty : FieldType} (hcd : lw_tbl[(yP y).1]? = some (.code (yn y) (yc y) (yl y) (yr y))) (hmo : mOK y = true) (hpb : pb y 0 = 0) (hcat : catS as ≤ yl y) (hty : yr y = some ty) (hvac : ∀ i, lkB y i = true → (tb y i).1 ≠ .ireturn ∧ (tb y i).1 ≠ .lreturn ∧ (tb y i).1 ≠ .return_)
    (h : CtxOK X → ∀ (Q : State → Prop) (p : Program) (e : Env) (s : State) (mi : MethodId) (args : Array Value) (below : List Frame) (meth : Method) (c : Code), GE X y (mZ M, mS M, 0, 0) K Q p e s mi args below meth c → (∀ (i : Nat) (ls : List (Option AV)) (a : Int), decode (yc y) (pb y i) = .ok (.ireturn, 1) → narrow ty (.int (Int32.ofInt a)) = .int (Int32.ofInt a) → inR a → K (some (aI a)) M → Gw X y (mZ M, mS M, 0, 0) Q p e s mi args below meth c i ls [aI a] M) → Gw X y (mZ M, mS M, 0, 0) Q p e s mi args below meth c 0 (entL as (yl y)) [] M) : Ev X y (0, 0) as M K := by
  refine ⟨⟨hcd, hmo⟩, fun C hok => ?_⟩
  refine Met.ofW (cc := yc y) (maxL := yl y) (ret := yr y) (mOK_ok hmo).2.1 rfl ?_
  intro p e s m args below meth c s₁ B hml hv
  obtain ⟨rfl, hW, hlow, hsz, hR⟩ := hv
  rw [lg_entry_eq]
  have hls : okLs (entL as (yl y)) := entL_ok hok _
  have hnm : meth.name = (yn y).name := (name_of_methodNamed B.named B.method).1
  have E : GE X y (mZ M, mS M, 0, 0) K (MQ below (Qq X M (0, 0) K) (as.map (cv X)).toArray s 0 0 (xA X)) p e s m (as.map (cv X)).toArray below meth c := by
    refine ⟨B.exec, B.bytes, hml, findClass_of_methodNamed B.named, hW, hlow, hsz, hnm, ?_⟩
    intro i ls r M1 M' H locs cells slots hlk hret hK hokr R
    exfalso
    have hv := hvac i hlk
    match r, hret with
    | none, hret => exact hv.2.2 hret.1
    | some (.inl a), hret => exact hv.1 hret.1
    | some (.inr (.inr a)), hret => exact hv.2.1 hret.1
    | some (.inr (.inl a)), hret => exact hret
  have hret : ∀ (i : Nat) (ls : List (Option AV)) (a : Int), decode (yc y) (pb y i) = .ok (.ireturn, 1) → narrow ty (.int (Int32.ofInt a)) = .int (Int32.ofInt a) → inR a → K (some (aI a)) M → Gw X y (mZ M, mS M, 0, 0) (MQ below (Qq X M (0, 0) K) (as.map (cv X)).toArray s 0 0 (xA X)) p e s m (as.map (cv X)).toArray below meth c i ls [aI a] M := by
    intro i ls a hdec hnar ha hK hls9 hst H locs cells slots lsA R L
    have hq : ∀ t : State, t.heap = H → s.WarmedH t.vm → Qq X M (0, 0) K (as.map (cv X)).toArray s (.returned (some (.int (Int32.ofInt a)))) t := by
      intro t ht hWt
      refine ⟨some (aI a), M, hK, rfl, ⟨State.WarmedH.trans hW hWt, fun q hq => ?_, by rw [ht]; exact R.2.2.1, by rw [ht]; exact R.1⟩, ha, rfl, rfl⟩
      rw [ht, R.2.1.2.1 q (by omega) (fun h9 => absurd (show xb X ≤ q from h9) (by omega))]
      exact hlow q hq
    refine W.widen (k := 0) (n := 0) R.2.2.2.2.2.1 R.2.2.2.2.2.2 ?_
    exact W.zret B.exec B.bytes (B.returns.trans hty) hnar hq R.2.1.2.2 hdec B.notSynchronized
  have hfin := h C _ p e s m (as.map (cv X)).toArray below meth c E hret hls (fun _ h9 => by cases h9) s.heap [] 0 0 _ ⟨hR, va_S.rf, hsz, rfl, rfl, Nat.zero_le _, Nat.zero_le _⟩ (LR_entry hcat)
  rw [hpb] at hfin
  exact hfin
/-! runs of steps of methods some of whose steps are foreign -/
theorem G_stp1 {pf : PF} {X : CX} (hp : PFok X pf) {m : Nat} {z : JZ} {K : Option AV → Mem → Prop} {i : Nat} (hL : (tb m i).1 = .nop ∨ lkB m i = true) {go : Nat → List (Option AV) → List AV → Mem → Prop} (hgo : ∀ i ls st M, go i ls st M → G X m z i ls st M K) {ls : List (Option AV)} {st : List AV} {M : Mem} (h : stp pf X z K go i ls st M (tb m i)) : G X m z i ls st M K := by
  rcases hL with h9 | h9
  · exfalso
    rcases ht : tb m i with ⟨ins, x, y, w⟩
    rw [ht] at h h9
    simp only at h9
    subst h9
    exact h
  · exact stp_ok hp hgo h9 h
theorem sI_ok1 {c : SC} (hp : PFok c.2.1 c.1) {i : Nat} (hL : (tb c.2.2.1 i).1 = .nop ∨ lkB c.2.2.1 i = true) {go : Nat → List (Option AV) → List AV → Mem → Prop} (hgo : ∀ i ls st M, go i ls st M → G c.2.1 c.2.2.1 c.2.2.2.1 i ls st M c.2.2.2.2.1) {ls : List (Option AV)} {st : List AV} {M : Mem} (h : sI c go i ls st M (tb c.2.2.1 i)) : G c.2.1 c.2.2.1 c.2.2.2.1 i ls st M c.2.2.2.2.1 := by
  rcases ht : tb c.2.2.1 i with ⟨op, x, y, n⟩
  rw [ht] at h
  have fin : ∀ {pf : PF} {go' : Nat → List (Option AV) → List AV → Mem → Prop}, PFok c.2.1 pf → (∀ i ls st M, go' i ls st M → G c.2.1 c.2.2.1 c.2.2.2.1 i ls st M c.2.2.2.2.1) → stp pf c.2.1 c.2.2.2.1 c.2.2.2.2.1 go' i ls st M (op, x, y, n) → G c.2.1 c.2.2.1 c.2.2.2.1 i ls st M c.2.2.2.2.1 := fun hp' hg' h' => G_stp1 hp' hL hg' (by rw [ht]; exact h')
  cases op with
  | invokevirtual k => exact fin (pf := pf0) (go' := fun i ls st M => G c.2.1 c.2.2.1 c.2.2.2.1 i ls st M c.2.2.2.2.1) (pf0_ok _) (fun _ _ _ _ h => h) (cVg_ok hp hgo n [] st h)
  | invokestatic k =>
    simp only [sI] at h
    by_cases hx : x < 2
    · rw [if_pos hx] at h
      refine fin (pf := pf0) (go' := fun i ls st M => G c.2.1 c.2.2.1 c.2.2.2.1 i ls st M c.2.2.2.2.1) (pf0_ok _) (fun _ _ _ _ h => h) ?_
      simp only [stp]
      rw [if_pos hx]
      exact cSg_ok hp hgo n [] st h
    · rw [if_neg hx] at h
      exact fin hp hgo h
  | invokespecial k =>
    simp only [sI] at h
    by_cases hx : x < 2
    · rw [if_pos hx] at h
      refine fin (pf := pf0) (go' := fun i ls st M => G c.2.1 c.2.2.1 c.2.2.2.1 i ls st M c.2.2.2.2.1) (pf0_ok _) (fun _ _ _ _ h => h) ?_
      obtain ⟨b, rest, h1, h2, w, h4, h3⟩ := cIg_ok n [] st h
      rw [List.append_nil] at h3
      simp only [stp]
      rw [h1]
      refine ⟨h2, ?_⟩
      rw [if_neg (by omega)]
      exact ⟨w, h4, h3⟩
    · rw [if_neg hx] at h
      exact fin hp hgo h
  | _ => exact fin hp hgo h
theorem w_Gc {c : SC} (hp : PFok c.2.1 c.1) (hL : ∀ i, c.2.2.2.2.2 i = true ∨ (tb c.2.2.1 i).1 = .nop ∨ lkB c.2.2.1 i = true) : ∀ (n i : Nat) (ls : List (Option AV)) (st : List AV) (M : Mem), w c n i ls st M → G c.2.1 c.2.2.1 c.2.2.2.1 i ls st M c.2.2.2.2.1
  | 0, i, ls, st, M, h => h
  | n + 1, i, ls, st, M, h => by
    simp only [w] at h
    by_cases hc : c.2.2.2.2.2 i = true
    · rw [if_pos hc] at h
      exact h
    · rw [if_neg hc] at h
      exact sI_ok1 hp ((hL i).resolve_left hc) (w_Gc hp hL n) h
theorem G_wc {pf : PF} {X : CX} (hp : PFok X pf) {m : Nat} {z : JZ} {K : Option AV → Mem → Prop} {sp : Nat → Bool} (hL : ∀ i, sp i = true ∨ (tb m i).1 = .nop ∨ lkB m i = true) (cut : Nat → Bool) (hc : ∀ i, sp i = true → cut i = true) (n i : Nat) (ls : List (Option AV)) (st : List AV) {M : Mem} (hi : sp i = false) (h : sJ (pf, X, m, z, K, cut) n i ls st M (tb m i)) : G X m z i ls st M K := by
  have h1 : (tb m i).1 = .nop ∨ lkB m i = true := (hL i).resolve_left (fun h9 => by rw [hi] at h9; cases h9)
  exact sI_ok1 (c := (pf, X, m, z, K, cut)) hp h1 (w_Gc (c := (pf, X, m, z, K, cut)) hp (fun i => (hL i).imp (hc i) id) n) h
