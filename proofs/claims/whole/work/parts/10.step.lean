/-! all steps together, and runs of steps -/
theorem Gw_of {X : CX} {m : Nat} {z : JZ} {K : Option AV → Mem → Prop} {Q : State → Prop} {p : Program} {e : Env} {s : State} {mi : MethodId} {args : Array Value} {below : List Frame} {meth : Method} {c : Code} {i : Nat} {ls : List (Option AV)} {st : List AV} {M : Mem} (C : CtxOK X) (E : GE X m z K Q p e s mi args below meth c) (h : G X m z i ls st M K) : Gw X m z Q p e s mi args below meth c i ls st M :=
  fun hls hst H locs cells slots lsA R L => h C hls hst Q p e s mi args below meth c E H locs cells slots lsA R L
theorem Ev_mono {X : CX} {y : Nat} {n : Nat × Nat} {as : List AV} {M : Mem} {K K' : Option AV → Mem → Prop} (h : Ev X y n as M K) (hk : ∀ r M', K r M' → mZ M' = mZ M + n.1 → mS M' = mS M + n.2 → K' r M') : Ev X y n as M K' := by
  refine ⟨h.1, fun C hok => ?_⟩
  have hM := h.2 C hok
  refine MetFree.mono hM (fun _ _ h => h) (fun _ _ _ _ _ h => h) (fun _ _ _ _ _ hq => ?_)
  obtain ⟨⟨r, M', h1, h2, h3, h4, h5, h6⟩, h7⟩ := hq
  exact ⟨⟨r, M', hk r M' h1 h5 h6, h2, h3, h4, h5, h6⟩, h7⟩
theorem cV_ok {pf : PF} {X : CX} (hp : PFok X pf) {go : Nat → List (Option AV) → List AV → Mem → Prop} {i : Nat} {ls : List (Option AV)} {M : Mem} {c : Int} {y : Nat} : ∀ (n : Nat) (acc st : List AV), cV pf X go i ls M c y n acc st → ∃ b rest, st.drop n = aR (some b) :: rest ∧ (mK M b = c.toNat ∧ catS rest ≤ 8) ∧ Ev X y (0, 0) (aR (some b) :: ((st.take n).reverse ++ acc)) M (fun r M' => go (i + 1) ls (psh r rest) M')
  | 0, acc, [], h => h.elim
  | 0, acc, .inl _ :: _, h => h.elim
  | 0, acc, .inr (.inl none) :: _, h => h.elim
  | 0, acc, .inr (.inr _) :: _, h => h.elim
  | 0, acc, .inr (.inl (some b)) :: rest, h => by
    simp only [cV] at h
    refine ⟨b, rest, rfl, ?_⟩
    by_cases hy : pf.1 y = true
    · rw [if_pos hy] at h
      exact ⟨h.1, Ev_mono (hp y _ M hy h.2.1) (fun r M' hq _ _ => by obtain ⟨rfl, rfl⟩ := hq; exact h.2.2)⟩
    · rw [if_neg hy] at h
      exact h
  | n + 1, acc, [], h => h.elim
  | n + 1, acc, v :: st, h => by
    obtain ⟨b, rest, h1, h2, h3⟩ := cV_ok hp n (v :: acc) st h
    refine ⟨b, rest, by simpa using h1, h2, ?_⟩
    rw [List.take_succ_cons, List.reverse_cons, List.append_assoc]
    exact h3
theorem cS_ok {pf : PF} {X : CX} (hp : PFok X pf) {go : Nat → List (Option AV) → List AV → Mem → Prop} {i : Nat} {ls : List (Option AV)} {M : Mem} {y : Nat} : ∀ (n : Nat) (acc st : List AV), cS pf X go i ls M y n acc st → (catS (st.drop n) ≤ 8 ∧ n ≤ st.length) ∧ Ev X y (0, 0) ((st.take n).reverse ++ acc) M (fun r M' => go (i + 1) ls (psh r (st.drop n)) M')
  | 0, acc, st, h => by
    simp only [cS] at h
    by_cases hy : pf.1 y = true
    · rw [if_pos hy] at h
      exact ⟨⟨h.1, Nat.zero_le _⟩, Ev_mono (hp y _ M hy h.2.1) (fun r M' hq _ _ => by obtain ⟨rfl, rfl⟩ := hq; exact h.2.2)⟩
    · rw [if_neg hy] at h
      exact ⟨⟨h.1, Nat.zero_le _⟩, h.2⟩
  | n + 1, acc, [], h => h.elim
  | n + 1, acc, v :: st, h => by
    obtain ⟨⟨h1, h2⟩, h3⟩ := cS_ok hp n (v :: acc) st h
    refine ⟨⟨by simpa using h1, by simp; omega⟩, ?_⟩
    rw [List.take_succ_cons, List.reverse_cons, List.append_assoc]
    simpa using h3
def insW (cc : Nat) : Bool := decide (Jvm.Cond.instantiable (kR cc) (kN cc) ∈ lw_tbl) && (decide (Jvm.Cond.initialized (kR cc) ∈ lw_tbl) && decide (kN cc < 100))
theorem ins_b : (List.range 9).all insW = true := by decide +kernel
theorem ins_at {cc : Nat} (h : cc < 9) : Jvm.Cond.instantiable (kR cc) (kN cc) ∈ gl ∧ Jvm.Cond.initialized (kR cc) ∈ gl ∧ kN cc < 100 := by
  have h1 := List.all_eq_true.mp ins_b cc (List.mem_range.mpr h)
  simp only [insW, Bool.and_eq_true, decide_eq_true_eq] at h1
  exact ⟨List.mem_filter.mpr ⟨h1.1, rfl⟩, List.mem_filter.mpr ⟨h1.2.1, rfl⟩, h1.2.2⟩
theorem tsw_ok {go : Nat → Prop} {dflt : Nat} : ∀ (l : List Int) (lo a : Int), tsw go dflt l lo a → (∃ (k : Nat) (t : Int), l[k]? = some t ∧ a = lo + k ∧ go t.toNat) ∨ ((a < lo ∨ lo + l.length ≤ a) ∧ go dflt)
  | [], lo, a, h => Or.inr ⟨by simp; omega, h⟩
  | t :: l, lo, a, h => by
    by_cases ha : a = lo
    · exact Or.inl ⟨0, t, rfl, by omega, h.1 ha⟩
    · rcases tsw_ok l (lo + 1) a (h.2 ha) with ⟨k, t2, h1, h2, h3⟩ | ⟨h1, h2⟩
      · exact Or.inl ⟨k + 1, t2, by simpa using h1, by omega, h3⟩
      · refine Or.inr ⟨?_, h2⟩
        simp only [List.length_cons]
        omega
theorem cv_cmp (X : CX) (a b : Int64) : cv X (aI (lCmp a b)) = .int (lg_cmp a b) := by
  show Value.int (Int32.ofInt (lg_cmp a b).toInt) = _
  rw [Int32.ofInt_toInt]
set_option maxHeartbeats 4000000 in
theorem stp_ok {pf : PF} {X : CX} (hp : PFok X pf) {m : Nat} {z : JZ} {K : Option AV → Mem → Prop} {go : Nat → List (Option AV) → List AV → Mem → Prop} {i : Nat} {ls : List (Option AV)} {st : List AV} {M : Mem} (hgo : ∀ i ls st M, go i ls st M → G X m z i ls st M K) (hl : lkB m i = true) (h : stp pf X z K go i ls st M (tb m i)) : G X m z i ls st M K := by
  intro C hls hst Q p e s mi args below meth c E
  suffices hG : Gw X m z Q p e s mi args below meth c i ls st M from hG hls hst
  have g : ∀ {i' ls' st' M'}, go i' ls' st' M' → Gw X m z Q p e s mi args below meth c i' ls' st' M' := fun h => Gw_of C E (hgo _ _ _ _ h)
  unfold lkB at hl
  rcases ht : tb m i with ⟨ins, x, y, w⟩
  rw [ht] at h hl
  have hts := gl_hts C E.2.2.2.2.1 args
  cases ins with
  | iconst n =>
    simp only [lkI, Bool.and_eq_true] at hl
    exact s_push (v := aI n) (fun k => lv_iconst E.1 E.2.1 (dk_ok hl.1).1 rfl k) hl.1 (iRB_ok hl.2) (g h)
  | bipush n =>
    simp only [lkI, Bool.and_eq_true, decide_eq_true_eq] at hl
    exact s_push (v := aI n) (fun k => lv_bipush E.1 E.2.1 (dk_ok hl.1).1 hl.2.2 k) hl.1 (iRB_ok hl.2.1) (g h)
  | sipush n =>
    simp only [lkI, Bool.and_eq_true, decide_eq_true_eq] at hl
    exact s_push (v := aI n) (fun k => lv_sipush E.1 E.2.1 (dk_ok hl.1).1 hl.2.2 k) hl.1 (iRB_ok hl.2.1) (g h)
  | ldc k =>
    simp only [lkI, Bool.and_eq_true, decide_eq_true_eq] at hl
    exact s_push (v := aI x) (fun k9 => lv_ldc E.1 E.2.1 E.2.2.2.1 (hts _ (gl_of (wk_ok hl.2.2.2) rfl)) (dk_ok hl.1).1 k9) hl.1 (iRB_ok hl.2.1) (g h)
  | ldc_w k =>
    simp only [lkI, Bool.and_eq_true, decide_eq_true_eq] at hl
    exact s_push (v := aI x) (fun k9 => lv_ldcw E.1 E.2.1 E.2.2.2.1 (hts _ (gl_of (wk_ok hl.2.2) rfl)) (dk_ok hl.1).1 k9) hl.1 (iRB_ok hl.2.1) (g h)
  | ldc2_w k =>
    simp only [lkI, Bool.and_eq_true, decide_eq_true_eq] at hl
    exact s_push (v := aL (Int64.ofInt x)) (fun k9 => lv_ldc2 E.1 E.2.1 E.2.2.2.1 (hts _ (gl_of (wk_ok hl.2) rfl)) (dk_ok hl.1).1 k9) hl.1 trivial (g h)
  | iload k =>
    simp only [lkI, Bool.and_eq_true, decide_eq_true_eq] at hl
    simp only [stp] at h
    split at h
    · rename_i a ha
      exact s_load (v := aI a) (fun hq k9 => lv_iload E.1 E.2.1 (dk_ok hl.1).1 hq k9) hl.1 hl.2 ha (g h)
    · exact h.elim
  | iload_n k =>
    simp only [lkI, Bool.and_eq_true, decide_eq_true_eq] at hl
    simp only [stp] at h
    split at h
    · rename_i a ha
      exact s_load (v := aI a) (fun hq k9 => lv_iload_n E.1 E.2.1 (dk_ok hl.1).1 rfl hq k9) hl.1 hl.2 ha (g h)
    · exact h.elim
  | lload k =>
    simp only [lkI, Bool.and_eq_true, decide_eq_true_eq] at hl
    simp only [stp] at h
    split at h
    · rename_i a ha
      exact s_load (v := aL a) (fun hq k9 => lv_lload E.1 E.2.1 (dk_ok hl.1).1 hq k9) hl.1 hl.2 ha (g h)
    · exact h.elim
  | lload_n k =>
    simp only [lkI, Bool.and_eq_true, decide_eq_true_eq] at hl
    simp only [stp] at h
    split at h
    · rename_i a ha
      exact s_load (v := aL a) (fun hq k9 => lv_lload_n E.1 E.2.1 (dk_ok hl.1).1 rfl hq k9) hl.1 hl.2 ha (g h)
    · exact h.elim
  | aload k =>
    simp only [lkI, Bool.and_eq_true, decide_eq_true_eq] at hl
    simp only [stp] at h
    split at h
    · rename_i a ha
      exact s_load (v := aR (some a)) (fun hq k9 => lv_aload E.1 E.2.1 (dk_ok hl.1).1 hq k9) hl.1 hl.2 ha (g h)
    · exact h.elim
  | aload_n k =>
    simp only [lkI, Bool.and_eq_true, decide_eq_true_eq] at hl
    simp only [stp] at h
    split at h
    · rename_i a ha
      exact s_load (v := aR (some a)) (fun hq k9 => lv_aload_n E.1 E.2.1 (dk_ok hl.1).1 rfl hq k9) hl.1 hl.2 ha (g h)
    · exact h.elim
  | istore k =>
    simp only [lkI, Bool.and_eq_true, decide_eq_true_eq] at hl
    simp only [stp] at h
    split at h
    · rename_i a st'
      exact s_store (v := aI a) rfl (fun hq k9 => lv_istore E.1 E.2.1 (dk_ok hl.1).1 hq hl.2 rfl k9) hl.1 (g h)
    · exact h.elim
  | istore_n k =>
    simp only [lkI, Bool.and_eq_true, decide_eq_true_eq] at hl
    simp only [stp] at h
    split at h
    · rename_i a st'
      exact s_store (v := aI a) rfl (fun hq k9 => lv_istore_n E.1 E.2.1 (dk_ok hl.1).1 rfl hq hl.2 rfl k9) hl.1 (g h)
    · exact h.elim
  | lstore k =>
    simp only [lkI, Bool.and_eq_true, decide_eq_true_eq] at hl
    simp only [stp] at h
    split at h
    · rename_i a st'
      exact s_store2 (v := aL a) (fun hq k9 => lv_lstore E.1 E.2.1 (dk_ok hl.1).1 hq hl.2 rfl k9) hl.1 (g h)
    · exact h.elim
  | lstore_n k =>
    simp only [lkI, Bool.and_eq_true, decide_eq_true_eq] at hl
    simp only [stp] at h
    split at h
    · rename_i a st'
      exact s_store2 (v := aL a) (fun hq k9 => lv_lstore_n E.1 E.2.1 (dk_ok hl.1).1 rfl hq hl.2 rfl k9) hl.1 (g h)
    · exact h.elim
  | astore k =>
    simp only [lkI, Bool.and_eq_true, decide_eq_true_eq] at hl
    simp only [stp] at h
    split at h
    · rename_i a st'
      exact s_store (v := aR (some a)) rfl (fun hq k9 => lv_astore E.1 E.2.1 (dk_ok hl.1).1 hq hl.2 rfl k9) hl.1 (g h)
    · exact h.elim
  | astore_n k =>
    simp only [lkI, Bool.and_eq_true, decide_eq_true_eq] at hl
    simp only [stp] at h
    split at h
    · rename_i a st'
      exact s_store (v := aR (some a)) rfl (fun hq k9 => lv_astore_n E.1 E.2.1 (dk_ok hl.1).1 rfl hq hl.2 rfl k9) hl.1 (g h)
    · exact h.elim
  | iinc k n =>
    simp only [lkI, Bool.and_eq_true, decide_eq_true_eq] at hl
    simp only [stp] at h
    split at h
    · rename_i a ha
      obtain ⟨h1, h2⟩ := dk_ok hl.1
      intro hls hst H locs cells slots lsA R L
      have hm9 : (k, Value.int (Int32.ofInt a)) ∈ lvOf X ls (yl m) := List.mem_filterMap.mpr ⟨k, List.mem_range.mpr hl.2, by rw [ha]; rfl⟩
      obtain ⟨q, hq⟩ := List.getElem?_of_mem hm9
      refine lv_iinc (v := Int32.ofInt (a + n)) E.1 E.2.1 h1 L hq (by rw [Int32.ofInt_add]) hl.2 rfl (fun ls' hl' => ?_)
      rw [← h2]
      exact g h.2 (okLs_set hls h.1 rfl) hst H locs cells slots ls' R (LR_set (v := aI (a + n)) rfl hl')
    · exact h.elim
  | iadd =>
    simp only [stp] at h
    split at h
    · exact s_bin (f := fun a b => a + b) (g := fun a b => a + b) (fun hq k9 => lv_iadd E.1 E.2.1 hq k9) hl (Int32.ofInt_add _ _).symm h.1 (g h.2)
    · exact h.elim
  | isub =>
    simp only [stp] at h
    split at h
    · exact s_bin (f := fun a b => a - b) (g := fun a b => a - b) (fun hq k9 => lv_isub E.1 E.2.1 hq k9) hl (Int32.ofInt_sub _ _).symm h.1 (g h.2)
    · exact h.elim
  | imul =>
    simp only [stp] at h
    split at h
    · exact s_bin (f := fun a b => a * b) (g := fun a b => a * b) (fun hq k9 => lv_imul E.1 E.2.1 hq k9) hl (Int32.ofInt_mul _ _).symm h.1 (g h.2)
    · exact h.elim
  | idiv =>
    simp only [stp] at h
    split at h
    · rename_i b a st'
      intro hls hst
      have hb : inR b := okSt_h hst
      have ha : inR a := okSt_h (okSt_t hst)
      intro H locs cells slots lsA R L
      obtain ⟨h1, h2⟩ := dk_ok (show dk m i .idiv 1 = true from hl)
      refine lv_idiv E.1 E.2.1 h1 (ofI_ne0 hb h.1.2) ?_
      rw [← h2, ofI_div ha hb h.1.1 h.1.2]
      exact g h.2 hls (okSt_c (v := aI (a / b)) (inR_div ha h.1.1 h.1.2) (okSt_t (okSt_t hst))) H locs cells slots lsA R L
    · exact h.elim
  | irem =>
    simp only [stp] at h
    split at h
    · rename_i b a st'
      intro hls hst
      have hb : inR b := okSt_h hst
      have ha : inR a := okSt_h (okSt_t hst)
      intro H locs cells slots lsA R L
      obtain ⟨h1, h2⟩ := dk_ok (show dk m i .irem 1 = true from hl)
      refine lv_irem E.1 E.2.1 h1 (ofI_ne0 hb h.1.2) ?_
      rw [← h2, ofI_rem ha hb h.1.1 h.1.2]
      exact g h.2 hls (okSt_c (v := aI (a % b)) (inR_mod hb h.1.2) (okSt_t (okSt_t hst))) H locs cells slots lsA R L
    · exact h.elim
  | iand =>
    simp only [stp] at h
    split at h
    · exact s_bin (f := iAnd) (g := fun a b => a &&& b) (fun hq k9 => lv_iand E.1 E.2.1 hq k9) hl (Int32.ofInt_toInt _).symm (inR_toInt _) (g h)
    · exact h.elim
  | ior =>
    simp only [stp] at h
    split at h
    · exact s_bin (f := iOr) (g := fun a b => a ||| b) (fun hq k9 => lv_ior E.1 E.2.1 hq k9) hl (Int32.ofInt_toInt _).symm (inR_toInt _) (g h)
    · exact h.elim
  | ixor =>
    simp only [stp] at h
    split at h
    · exact s_bin (f := iXor) (g := fun a b => a ^^^ b) (fun hq k9 => lv_ixor E.1 E.2.1 hq k9) hl (Int32.ofInt_toInt _).symm (inR_toInt _) (g h)
    · exact h.elim
  | ishl =>
    simp only [stp] at h
    split at h
    · exact s_bin (f := iShl) (g := fun a b => a <<< (b &&& 31)) (fun hq k9 => lv_ishl E.1 E.2.1 hq k9) hl (Int32.ofInt_toInt _).symm (inR_toInt _) (g h)
    · exact h.elim
  | ishr =>
    simp only [stp] at h
    split at h
    · exact s_bin (f := iShr) (g := fun a b => a >>> (b &&& 31)) (fun hq k9 => lv_ishr E.1 E.2.1 hq k9) hl (Int32.ofInt_toInt _).symm (inR_toInt _) (g h)
    · exact h.elim
  | iushr =>
    simp only [stp] at h
    split at h
    · exact s_bin (f := iUshr) (g := fun a b => (a.toUInt32 >>> (b.toUInt32 &&& Int32.toUInt32 31)).toInt32) (fun hq k9 => lv_iushr E.1 E.2.1 hq rfl k9) hl (Int32.ofInt_toInt _).symm (inR_toInt _) (g h)
    · exact h.elim
  | i2l =>
    simp only [stp] at h
    split at h
    · rename_i a st'
      exact s_un (v := aI a) (w := aL (i64 a)) (fun k9 => lv_i2l E.1 E.2.1 (dk_ok (show dk m i .i2l 1 = true from hl)).1 rfl k9) hl trivial (g h)
    · exact h.elim
  | i2b =>
    simp only [stp] at h
    split at h
    · rename_i a st'
      exact s_un (v := aI a) (w := aI (i8 a)) (fun k9 => lv_i2b E.1 E.2.1 (dk_ok (show dk m i .i2b 1 = true from hl)).1 (Int32.ofInt_toInt _).symm k9) hl (inR_toInt _) (g h)
    · exact h.elim
  | i2s =>
    simp only [stp] at h
    split at h
    · rename_i a st'
      exact s_un (v := aI a) (w := aI (i16 a)) (fun k9 => lv_i2s E.1 E.2.1 (dk_ok (show dk m i .i2s 1 = true from hl)).1 (Int32.ofInt_toInt _).symm k9) hl (inR_toInt _) (g h)
    · exact h.elim
  | ladd =>
    simp only [stp] at h
    split at h
    · rename_i b a st'
      exact s_un2 (v := aL b) (v2 := aL a) (w := aL (a + b)) (fun k9 => lv_ladd E.1 E.2.1 (dk_ok (show dk m i .ladd 1 = true from hl)).1 k9) hl trivial (g h)
    · exact h.elim
  | lmul =>
    simp only [stp] at h
    split at h
    · rename_i b a st'
      exact s_un2 (v := aL b) (v2 := aL a) (w := aL (a * b)) (fun k9 => lv_lmul E.1 E.2.1 (dk_ok (show dk m i .lmul 1 = true from hl)).1 k9) hl trivial (g h)
    · exact h.elim
  | lcmp =>
    simp only [stp] at h
    split at h
    · rename_i b a st'
      exact s_un2 (v := aL b) (v2 := aL a) (w := aI (lCmp a b)) (fun k9 => W.lcmp E.1 E.2.1 (dk_ok (show dk m i .lcmp 1 = true from hl)).1 (by rw [cv_cmp] at k9; exact k9)) hl (inR_toInt _) (g h)
    · exact h.elim
  | dup =>
    simp only [stp] at h
    split at h
    · rename_i a st'
      intro hls hst H locs cells slots lsA R L
      obtain ⟨h1, h2⟩ := dk_ok (show dk m i .dup 1 = true from hl)
      refine lv_dup E.1 E.2.1 h1 rfl ?_
      rw [← h2]
      exact g h hls (okSt_c (okSt_h hst) hst) H locs cells slots lsA R L
    · rename_i a st'
      intro hls hst H locs cells slots lsA R L
      obtain ⟨h1, h2⟩ := dk_ok (show dk m i .dup 1 = true from hl)
      refine lv_dup E.1 E.2.1 h1 (by cases a <;> rfl) ?_
      rw [← h2]
      exact g h hls (okSt_c trivial hst) H locs cells slots lsA R L
    · exact h.elim
  | dup2 =>
    simp only [stp] at h
    split at h
    · rename_i a b st'
      intro hls hst H locs cells slots lsA R L
      obtain ⟨h1, h2⟩ := dk_ok (show dk m i .dup2 1 = true from hl)
      refine lv_dup2_11 E.1 E.2.1 h1 rfl (by cases b <;> rfl) ?_
      rw [← h2]
      exact g h hls (okSt_c (okSt_h hst) (okSt_c trivial hst)) H locs cells slots lsA R L
    · exact h.elim
  | pop =>
    simp only [stp] at h
    split at h
    · rename_i a st'
      intro hls hst H locs cells slots lsA R L
      obtain ⟨h1, h2⟩ := dk_ok (show dk m i .pop 1 = true from hl)
      refine lv_pop E.1 E.2.1 h1 rfl ?_
      rw [← h2]
      exact g h hls (okSt_t hst) H locs cells slots lsA R L
    · exact h.elim
  | goto o =>
    intro hls hst H locs cells slots lsA R L
    obtain ⟨h1, h2⟩ := dk_ok (show dk m i (.goto (jOff m i y)) 3 = true from hl)
    exact lv_goto E.1 E.2.1 h1 (jOff_ok y) (g h hls hst H locs cells slots lsA R L)
  | ifCond cc o =>
    simp only [stp] at h
    split at h
    · exact s_if E hl (fun hq => g (h.1 hq)) (fun hq => g (h.2 hq))
    · exact h.elim
  | if_icmp cc o =>
    simp only [stp] at h
    split at h
    · exact s_icmp E hl (fun hq => g (h.1 hq)) (fun hq => g (h.2 hq))
    · exact h.elim
  | tableswitch d lo hi offs =>
    simp only [lkI, Bool.and_eq_true, decide_eq_true_eq] at hl
    simp only [stp] at h
    split at h
    · rename_i a st'
      intro hls hst H locs cells slots lsA R L
      have ha : inR a := okSt_h hst
      rcases tsw_ok _ _ _ h with ⟨k, t, h1, h2, h3⟩ | ⟨h1, h2⟩
      · have hk : k < offs.size := by
          have := (List.getElem?_eq_some_iff.mp h1).1
          simpa using this
        refine lv_tableIn (off := jOff m i t.toNat) E.1 E.2.1 hl.1 (by rw [ofI ha]; omega) (by rw [ofI ha]; omega) ?_ (jOff_ok t.toNat) (g h3 hls (okSt_t hst) H locs cells slots lsA R L)
        rw [ofI ha, show (a - lo).toNat = k by omega, Array.getElem?_map]
        have h9 : offs[k]? = some t := by rw [← Array.getElem?_toList]; exact h1
        rw [h9]
        rfl
      · refine lv_tableOut E.1 E.2.1 hl.1 ?_ (jOff_ok y) (g h2 hls (okSt_t hst) H locs cells slots lsA R L)
        rw [ofI ha]
        simp only [Array.length_toList] at h1
        omega
    · exact h.elim
  | getfield k =>
    simp only [lkI, Bool.and_eq_true, decide_eq_true_eq] at hl
    simp only [stp] at h
    obtain ⟨l1, l2, l3, l4, l5, l6⟩ := hl
    split at h
    · rename_i a st'
      by_cases hx : x = 1
      · rw [if_pos hx] at h
        exact s_get C E (v := aR (mR M a w)) l1 l2 l3 l4 l5 h.1 (by unfold fldV; rw [if_pos (l6 ▸ hx)]; rfl) (fun _ => trivial) (g h.2)
      · rw [if_neg hx] at h
        exact s_get C E (v := aI (mI M a w)) l1 l2 l3 l4 l5 h.1 (by unfold fldV; rw [if_neg (fun h9 => hx (l6.symm ▸ h9))]; rfl) (fun hq => hq a w) (g h.2)
    · exact h.elim
  | putfield k =>
    simp only [lkI, Bool.and_eq_true, Bool.or_eq_true, decide_eq_true_eq] at hl
    simp only [stp] at h
    obtain ⟨l1, l2, l3, l4, l5, l6, l7⟩ := hl
    split at h
    · rename_i v a st'
      refine s_putI C E l1 l2 l3 l4 l5 h.1 l7 ?_ (g h.2.2)
      by_cases hx : x = 2
      · have := h.2.1
        rw [if_pos hx] at this
        exact Or.inr ⟨by omega, this⟩
      · have := h.2.1
        rw [if_neg hx] at this
        exact Or.inl (by omega)
    · rename_i v a st'
      exact s_putR C E l1 l2 l3 l4 l5 h.1 l7 (by omega) (g h.2.2)
    · exact h.elim
  | getstatic k =>
    simp only [lkI, Bool.and_eq_true, decide_eq_true_eq] at hl
    exact s_gets C E hl.1 hl.2.1 hl.2.2 (g h)
  | iaload =>
    simp only [stp] at h
    split at h
    · exact s_iald C E hl h.1.1 h.1.2.1 h.1.2.2 (g h.2)
    · exact h.elim
  | baload =>
    simp only [stp] at h
    split at h
    · exact s_zald C E hl h.1.1 h.1.2.1 h.1.2.2 (g h.2)
    · exact h.elim
  | aaload =>
    simp only [stp] at h
    split at h
    · exact s_aald C E hl h.1.1 h.1.2.1 h.1.2.2 (g h.2)
    · exact h.elim
  | iastore =>
    simp only [stp] at h
    split at h
    · exact s_iast C E hl h.1.1 h.1.2.1 h.1.2.2 (g h.2)
    · exact h.elim
  | bastore =>
    simp only [stp] at h
    split at h
    · exact s_zast C E hl h.1.1 h.1.2.1 h.1.2.2.1 h.1.2.2.2 (g h.2)
    · exact h.elim
  | aastore =>
    simp only [stp] at h
    split at h
    · exact s_aast C E hl h.1.1 h.1.2.1 h.1.2.2.1 h.1.2.2.2 (g h.2)
    · exact h.elim
  | arraylength =>
    simp only [stp] at h
    split at h
    · exact s_alen C E hl h.1 (g h.2)
    · exact h.elim
  | new k =>
    simp only [lkI, Bool.and_eq_true, decide_eq_true_eq] at hl
    obtain ⟨i1, i2, i3⟩ := ins_at hl.2.2.1
    exact s_new C E hl.1 hl.2.1 hl.2.2.1 hl.2.2.2 i1 i2 h.1.1 h.1.2.1 h.1.2.2 i3 (g h.2)
  | newarray t =>
    simp only [lkI, Bool.and_eq_true, decide_eq_true_eq] at hl
    simp only [stp] at h
    split at h
    · exact s_newa C E hl.1 hl.2 h.1.1 h.1.2.1 h.1.2.2.1 h.1.2.2.2.1 h.1.2.2.2.2 (g h.2)
    · exact h.elim
  | anewarray k =>
    simp only [lkI, Bool.and_eq_true, decide_eq_true_eq] at hl
    simp only [stp] at h
    split at h
    · exact s_anew C E hl.1 hl.2.1 hl.2.2 h.1.1 h.1.2.1 h.1.2.2.1 h.1.2.2.2.1 h.1.2.2.2.2 (g h.2)
    · exact h.elim
  | invokevirtual k =>
    simp only [lkI, Bool.and_eq_true] at hl
    simp only [stp] at h
    obtain ⟨b, rest, hdr, h1, h2⟩ := cV_ok hp w [] st h
    rw [List.append_nil] at h2
    exact s_callV C E hl.1 hl.2.1 hl.2.2.1 hl.2.2.2 hdr h1.1 h1.2 h2 (fun r M' hq => g hq)
  | invokestatic k =>
    simp only [lkI, Bool.and_eq_true] at hl
    simp only [stp] at h
    by_cases hx : x < 2
    · rw [if_pos hx] at h
      rw [if_neg (by omega), if_neg (by omega), if_neg (by omega)] at hl
      simp only [Bool.and_eq_true] at hl
      have h2 := cS_ok hp w [] st h
      rw [List.append_nil] at h2
      exact s_callS C E hl.1 hl.2.1 hl.2.2.1 hl.2.2.2 h2.1.1 h2.1.2 h2.2 (fun r M' hq => g hq)
    · rw [if_neg hx] at h
      by_cases h9 : x = 9
      · rw [if_pos h9] at h hl
        simp only [Bool.and_eq_true, decide_eq_true_eq] at hl
        split at h
        · obtain ⟨⟨a1, a2, a3, a4, a5, a6, a7, a8⟩, a9⟩ := h
          exact s_copy C E hl.1 hl.2.1 hl.2.2.1 hl.2.2.2 a1 a2 a3 a4 a5 a6 a7 a8 (g a9)
        · exact h.elim
      · rw [if_neg h9] at h hl
        by_cases h7 : x = 7
        · rw [if_pos h7] at h hl
          simp only [Bool.and_eq_true, decide_eq_true_eq] at hl
          split at h
          · exact s_max C E hl.1 hl.2.1 hl.2.2.1 hl.2.2.2 h.1 (g h.2)
          · exact h.elim
        · rw [if_neg h7] at h hl
          by_cases h8 : x = 8
          · rw [if_pos h8] at h hl
            simp only [Bool.and_eq_true, decide_eq_true_eq] at hl
            split at h
            · exact s_min C E hl.1 hl.2.1 hl.2.2.1 hl.2.2.2 h.1 (g h.2)
            · exact h.elim
          · rw [if_neg h8] at h
            exact h.elim
  | invokespecial k =>
    simp only [lkI, Bool.and_eq_true] at hl
    simp only [stp] at h
    split at h
    · rename_i b rest hdr
      by_cases h9 : x = 9
      · rw [if_pos h9] at h hl
        simp only [Bool.and_eq_true, decide_eq_true_eq] at hl
        have hw : w = 0 := hl.2.2.2.2
        subst hw
        rw [List.drop_zero] at hdr
        subst hdr
        exact s_obj C E hl.1 hl.2.1 hl.2.2.1 hl.2.2.2.1 h.1 (g h.2)
      · rw [if_neg h9] at h hl
        simp only [Bool.and_eq_true, decide_eq_true_eq] at hl
        obtain ⟨h1, q, ⟨h2, h3⟩, h4⟩ := h
        exact s_callI C E hl.1 hl.2.1 hl.2.2.1 hl.2.2.2.1 hl.2.2.2.2.1 hl.2.2.2.2.2 hdr h1 h2 h3 h4 (fun r M' hq => g hq)
    · exact h.elim
  | ireturn =>
    simp only [stp] at h
    split at h
    · rename_i a
      intro hls hst H locs cells slots lsA R L
      refine E.2.2.2.2.2.2.2.2 i lsA (some (aI a)) M M H locs cells slots (by unfold lkB; rw [ht]; exact hl) ⟨by rw [ht], rfl, ?_⟩ h.2 (okSt_h hst) R
      rw [ht]
      by_cases h6 : x = 6
      · exact Or.inl h6
      · have := h.1
        rw [if_neg h6] at this
        exact Or.inr this
    · exact h.elim
  | lreturn =>
    simp only [stp] at h
    split at h
    · rename_i a
      intro hls hst H locs cells slots lsA R L
      exact E.2.2.2.2.2.2.2.2 i lsA (some (aL a)) M M H locs cells slots (by unfold lkB; rw [ht]; exact hl) ⟨by rw [ht], rfl, h.1⟩ h.2 trivial R
    · exact h.elim
  | return_ =>
    simp only [stp] at h
    split at h
    · intro hls hst H locs cells slots lsA R L
      by_cases h5 : x = 5
      · rw [if_pos h5] at h
        exact E.2.2.2.2.2.2.2.2 i lsA none M (uS M (z.2.1 + z.2.2.2)) H locs cells slots (by unfold lkB; rw [ht]; exact hl) ⟨by rw [ht], Or.inr ⟨rfl, h.1, h.2.1⟩⟩ h.2.2 trivial R
      · rw [if_neg h5] at h
        exact E.2.2.2.2.2.2.2.2 i lsA none M M H locs cells slots (by unfold lkB; rw [ht]; exact hl) ⟨by rw [ht], Or.inl ⟨rfl, h.1⟩⟩ h.2 trivial R
    · exact h.elim
  | _ => exact h.elim
/-! runs of steps -/
def LK (m : Nat) : Prop := ∀ i, (tb m i).1 = .nop ∨ lkB m i = true
theorem LK_of {m n : Nat} (h : (List.range n).all (lkB m) = true) (hn : ∀ i, n ≤ i → (tb m i).1 = .nop) : LK m := fun i => by
  by_cases hi : i < n
  · exact Or.inr (List.all_eq_true.mp h i (List.mem_range.mpr hi))
  · exact Or.inl (hn i (by omega))
/-- n steps at most; it stops where 'cut' says so -/
def wq (pf : PF) (X : CX) (m : Nat) (z : JZ) (K : Option AV → Mem → Prop) (cut : Nat → Bool) : Nat → Nat → List (Option AV) → List AV → Mem → Prop
  | 0, i, ls, st, M => G X m z i ls st M K
  | n + 1, i, ls, st, M => if cut i = true then G X m z i ls st M K else stp pf X z K (wq pf X m z K cut n) i ls st M (tb m i)
theorem G_stp {pf : PF} {X : CX} (hp : PFok X pf) {m : Nat} {z : JZ} {K : Option AV → Mem → Prop} (hL : LK m) {go : Nat → List (Option AV) → List AV → Mem → Prop} (hgo : ∀ i ls st M, go i ls st M → G X m z i ls st M K) {i : Nat} {ls : List (Option AV)} {st : List AV} {M : Mem} (h : stp pf X z K go i ls st M (tb m i)) : G X m z i ls st M K := by
  rcases hL i with h9 | h9
  · exfalso
    rcases ht : tb m i with ⟨ins, x, y, w⟩
    rw [ht] at h h9
    simp only at h9
    subst h9
    exact h
  · exact stp_ok hp hgo h9 h
theorem wq_G {pf : PF} {X : CX} (hp : PFok X pf) {m : Nat} {z : JZ} {K : Option AV → Mem → Prop} (hL : LK m) (cut : Nat → Bool) : ∀ (n i : Nat) (ls : List (Option AV)) (st : List AV) (M : Mem), wq pf X m z K cut n i ls st M → G X m z i ls st M K
  | 0, i, ls, st, M, h => h
  | n + 1, i, ls, st, M, h => by
    simp only [wq] at h
    by_cases hc : cut i = true
    · rw [if_pos hc] at h
      exact h
    · rw [if_neg hc] at h
      exact G_stp hp hL (wq_G hp hL cut n) h
theorem G_wq {pf : PF} {X : CX} (hp : PFok X pf) {m : Nat} {z : JZ} {K : Option AV → Mem → Prop} (hL : LK m) (cut : Nat → Bool) (n i : Nat) (ls : List (Option AV)) (st : List AV) (M : Mem) (h : stp pf X z K (wq pf X m z K cut n) i ls st M (tb m i)) : G X m z i ls st M K := G_stp hp hL (wq_G hp hL cut n) h
def pf0 : PF := (fun _ => false, fun _ _ _ => False, fun _ _ _ => aI 0)
theorem pf0_ok (X : CX) : PFok X pf0 := fun _ _ _ h => by cases h
theorem G_mono {X : CX} {m : Nat} {z : JZ} {i : Nat} {ls : List (Option AV)} {st : List AV} {M : Mem} {K K' : Option AV → Mem → Prop} (h : G X m z i ls st M K) (hk : ∀ r M', K r M' → K' r M') : G X m z i ls st M K' := by
  intro C hls hst Q p e s mi args below meth c E
  refine h C hls hst Q p e s mi args below meth c ⟨E.1, E.2.1, E.2.2.1, E.2.2.2.1, E.2.2.2.2.1, E.2.2.2.2.2.1, E.2.2.2.2.2.2.1, E.2.2.2.2.2.2.2.1, ?_⟩
  intro i9 ls9 r M9 M' H locs cells slots h1 h2 h3 h4 h5
  exact E.2.2.2.2.2.2.2.2 i9 ls9 r M9 M' H locs cells slots h1 h2 (hk r M' h3) h4 h5
/-- a method's contract out of its body -/
theorem Ev_of {X : CX} {y : Nat} {n : Nat × Nat} {as : List AV} {M : Mem} {K : Option AV → Mem → Prop} (hcd : lw_tbl[(yP y).1]? = some (.code (yn y) (yc y) (yl y) (yr y))) (hmo : mOK y = true) (hy : y ≠ 0) (hpb : pb y 0 = 0) (hcat : catS as ≤ yl y)
    (h : G X y (mZ M, mS M, n.1, n.2) 0 (entL as (yl y)) [] M K) : Ev X y n as M K := by
  refine ⟨⟨hcd, hmo⟩, fun C hok => ?_⟩
  refine Met.ofW (cc := yc y) (maxL := yl y) (ret := yr y) (mOK_ok hmo).2.1 rfl ?_
  intro p e s m args below meth c s₁ B hml hv
  obtain ⟨rfl, hW, hlow, hsz, hR⟩ := hv
  rw [lg_entry_eq]
  have hls : okLs (entL as (yl y)) := fun k v hk => by
    have hmem : ∀ (as : List AV) (n k : Nat) (v : AV), lget (entL as n) k = some v → v ∈ as := by
      intro as
      induction as with
      | nil => intro n k v h9; rw [show entL [] n = List.replicate n none from rfl, lget_rep] at h9; cases h9
      | cons w as ih =>
        intro n k v h9
        match w with
        | .inl a =>
          cases k with
          | zero => cases h9; exact List.mem_cons_self
          | succ k => exact List.mem_cons_of_mem _ (ih (n - 1) k v h9)
        | .inr (.inl none) =>
          cases k with
          | zero => cases h9; exact List.mem_cons_self
          | succ k => exact List.mem_cons_of_mem _ (ih (n - 1) k v h9)
        | .inr (.inl (some a)) =>
          cases k with
          | zero => cases h9; exact List.mem_cons_self
          | succ k => exact List.mem_cons_of_mem _ (ih (n - 1) k v h9)
        | .inr (.inr a) =>
          match k with
          | 0 => cases h9; exact List.mem_cons_self
          | 1 => cases h9
          | k + 2 => exact List.mem_cons_of_mem _ (ih (n - 2) k v h9)
    exact hok v (hmem as (yl y) k v hk)
  have hnm : meth.name = (yn y).name := (name_of_methodNamed B.named B.method).1
  have E : GE X y (mZ M, mS M, n.1, n.2) K (MQ below (Qq X M n K) (as.map (cv X)).toArray s n.1 n.2 (xA X)) p e s m (as.map (cv X)).toArray below meth c := by
    refine ⟨B.exec, B.bytes, hml, findClass_of_methodNamed B.named, hW, hlow, hsz, hnm, ?_⟩
    intro i ls r M1 M' H locs cells slots hlk hret hK hokr R
    have hr := B.returns
    have hlocks := B.notSynchronized
    have hend : mZ M' = mZ M + n.1 ∧ mS M' = mS M + n.2 ∧ Rep X M' H ∧ H.size = xb X + mZ M' ∧ cells ≤ n.1 ∧ slots ≤ n.2 := by
      obtain ⟨R1, R2, R3, R4, R5, R6, R7⟩ := R
      simp only at R4 R5 R6 R7
      have hor : (M' = M1 ∧ n.1 = 0 ∧ n.2 = 0) ∨ (M' = uS M1 (mS M + n.2) ∧ mZ M1 = mZ M + n.1) := by
        cases r with
        | none =>
          rcases hret.2 with ⟨a1, a2⟩ | ⟨a1, a2, -⟩
          · simp only [Prod.mk.injEq] at a2
            exact Or.inl ⟨a1, a2.1, a2.2⟩
          · exact Or.inr ⟨a1, a2⟩
        | some v =>
          match v with
          | .inl a =>
            obtain ⟨a0, a1, a2⟩ := hret
            rcases a2 with a2 | ⟨a2, -⟩
            · exfalso
              unfold lkB at hlk
              rcases ht : tb y i with ⟨ins, x, y9, w⟩
              rw [ht] at hlk a0 a2
              simp only at a0 a2
              subst a0
              subst a2
              simp [lkI] at hlk
              exact hy hlk.2
            · simp only [Prod.mk.injEq] at a2
              exact Or.inl ⟨a1, a2.1, a2.2⟩
          | .inr (.inr a) =>
            obtain ⟨a0, a1, a2⟩ := hret
            simp only [Prod.mk.injEq] at a2
            exact Or.inl ⟨a1, a2.1, a2.2⟩
          | .inr (.inl a) => exact hret.elim
      rcases hor with ⟨rfl, b1, b2⟩ | ⟨rfl, b1⟩
      · exact ⟨by omega, by omega, R1, R3, R6, R7⟩
      · refine ⟨b1, rfl, ⟨R1.1, R1.2.1, R1.2.2.1, R1.2.2.2.1, R1.2.2.2.2.1, R1.2.2.2.2.2⟩, R3, R6, R7⟩
    obtain ⟨e1, e2, e3, e4, e5, e6⟩ := hend
    have hq : ∀ t : State, t.heap = H → s.WarmedH t.vm → Qq X M n K (as.map (cv X)).toArray s (.returned (r.map (cv X))) t := by
      intro t ht hWt
      refine ⟨r, M', hK, rfl, ⟨State.WarmedH.trans hW hWt, fun q hq => ?_, by rw [ht]; exact e4, by rw [ht]; exact e3⟩, hokr, e1, e2⟩
      rw [ht, R.2.1.2.1 q (by omega) (fun h9 => absurd (show xb X ≤ q from h9) (by omega))]
      exact hlow q hq
    have hf : ∀ q ∈ locs, xA X q.base := R.2.1.2.2
    refine W.widen (k := n.1) (n := n.2) e5 e6 ?_
    unfold lkB at hlk
    rcases ht : tb y i with ⟨ins, x, y9, w⟩
    rw [ht] at hlk
    cases r with
    | none =>
      have a0 := hret.1
      rw [ht] at a0
      simp only at a0
      subst a0
      simp only [lkI, Bool.and_eq_true, decide_eq_true_eq] at hlk
      exact W.vret B.exec B.bytes (hr.trans hlk.2.2) hq hf (dk_ok hlk.1).1 hlocks
    | some v =>
      match v with
      | .inl a =>
        obtain ⟨a0, a1, a2⟩ := hret
        rw [ht] at a0 a2
        simp only at a0 a2
        subst a0
        simp only [lkI, Bool.and_eq_true] at hlk
        by_cases h6 : x = 6
        · rw [if_pos h6, decide_eq_true_eq] at hlk
          exact absurd hlk.2 hy
        · rw [if_neg h6] at hlk
          simp only [Bool.and_eq_true] at hlk
          by_cases h1 : x = 1
          · rw [if_pos h1] at hlk
            simp only [decide_eq_true_eq] at hlk
            have hb : a = 0 ∨ a = 1 := by
              rcases a2 with a2 | ⟨-, a2⟩
              · exact absurd a2 h6
              · exact a2 h1
            exact W.zret B.exec B.bytes (hr.trans hlk.2.2) (nar_b hb).1 hq hf (dk_ok hlk.1).1 hlocks
          · rw [if_neg h1] at hlk
            simp only [Bool.and_eq_true, decide_eq_true_eq] at hlk
            exact W.iret B.exec B.bytes (hr.trans hlk.2.2.2) hq hf (dk_ok hlk.1).1 hlocks
      | .inr (.inr a) =>
        obtain ⟨a0, a1, a2⟩ := hret
        rw [ht] at a0
        simp only at a0
        subst a0
        simp only [lkI, Bool.and_eq_true, decide_eq_true_eq] at hlk
        exact W.lret B.exec B.bytes (hr.trans hlk.2.2) hq hf (dk_ok hlk.1).1 hlocks
      | .inr (.inl a) => exact hret.elim
  have hfin := h C hls (fun _ h9 => by cases h9) _ p e s m (as.map (cv X)).toArray below meth c E s.heap [] 0 0 _ ⟨hR, va_S.rf, hsz, rfl, rfl, Nat.zero_le _, Nat.zero_le _⟩ (LR_entry hcat)
  rw [hpb] at hfin
  exact hfin
