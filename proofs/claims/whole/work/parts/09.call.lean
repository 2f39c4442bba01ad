/-! steps that make cells, call, return; all steps together -/
theorem goodIn_l {ws : List Jvm.Cond} {y : Nat} (h : lw_tbl[(yP y).1]? = some (.code (yn y) (yc y) (yl y) (yr y))) (hl : ∀ w ∈ ws, w ∈ gl) : GoodIn gl (ws ++ [.code (yn y) (yc y) (yl y) (yr y)]) := gl_good (fun w hw => by
  rcases List.mem_append.mp hw with h1 | h1
  · exact hl w h1
  · rw [List.mem_singleton.mp h1]; exact gl_of h rfl)
section CALL
variable {X : CX} {m : Nat} {z : JZ} {Q : State → Prop} {p : Program} {e : Env} {s : State} {mi : MethodId} {args : Array Value} {below : List Frame} {meth : Method} {c : Code} {K : Option AV → Mem → Prop} {i : Nat} {ls : List (Option AV)} {st : List AV} {M : Mem}
/-- a new cell's address is the next one -/
theorem new_at {M' : Mem} {H H1 : Heap} {q : Nat} {ev : va_E} (R : Rep X M H) (hH : H.size = xb X + mZ M) (hP : va_P (xD X) jcl (wsX X M ++ [(q, ev)]) H1) (hD : va_D (xA X) (wsX X M ++ [(q, ev)])) (hsz : H1.size ≤ xb X + mZ M + 1) : q = xb X + mZ M := by
  have hlast : (wsX X M ++ [(q, ev)])[mZ M]? = some (q, ev) := by
    rw [List.getElem?_append_right (by rw [ws_len]; omega), ws_len, Nat.sub_self]
    rfl
  have h1 : q < H1.size := (hP _ _ hlast).lt
  have h2 : xb X ≤ q := hD.2 _ _ hlast
  by_cases h3 : q < xb X + mZ M
  · exfalso
    have h4 : (wsX X M ++ [(q, ev)])[q - xb X]? = some (xb X + (q - xb X), cellE X M (q - xb X)) := by
      rw [List.getElem?_append_left (by rw [ws_len]; omega), ws_get (by omega)]
    have := hD.1 _ _ _ _ h4 hlast (by show xb X + (q - xb X) = q; omega)
    omega
  · omega
theorem Rep.uN {H1 : Heap} {H : Heap} {kd n : Nat} (R : Rep X M H) (hb : mZ M < BIG) (hk : kd ≠ 25) (hn : n < 2147483648) (hP : va_P (xD X) jcl (wsX X (uN M kd n)) H1) : Rep X (uN M kd n) H1 := by
  obtain ⟨-, h2, h3, h4, h5, h6⟩ := R
  refine ⟨hP, by rw [mZ_uN]; omega, fun b j => ?_, fun b hb1 => ?_, fun b hb1 => ⟨?_, ?_, fun j => ?_⟩, fun b => ?_⟩
  · rw [mI_uN]; split
    · exact inR_0
    · exact h3 b j
  · rw [mK_uN] at hb1 ⊢
    rw [mZ_uN]
    split at hb1
    · rename_i h; left; rw [if_pos h]; exact ⟨by omega, hk⟩
    · rename_i h; rw [if_neg h]
      rcases h4 b hb1 with h9 | h9
      · left; exact ⟨by omega, h9.2⟩
      · right; exact h9
  · rw [mK_uN, if_neg (by omega)]; exact (h5 b hb1).1
  · rw [mN_uN, if_neg (by omega)]; exact (h5 b hb1).2.1
  · rw [mI_uN, if_neg (by omega)]; exact (h5 b hb1).2.2 j
  · rw [mN_uN]; split
    · exact hn
    · exact h6 b
theorem s_made (E : GE X m z K Q p e s mi args below meth c) {kd n len : Nat} {H : Heap} {locs : List Loc} {cells slots : Nat} {lsA : Array Slot} (R : RG X z s M H locs cells slots) (hls : okLs ls) (hst : okSt st) (L : LR X ls (yl m) lsA) (hZ : mZ M + 1 ≤ z.1 + z.2.2.1) (hS : mS M + n ≤ z.2.1 + z.2.2.2) (hb : mZ M < BIG) (hk : kd ≠ 25) (hn : n < 2147483648) (h2 : pb m (i + 1) = pb m i + len)
    (k1 : Gw X m z Q p e s mi args below meth c (i + 1) ls (aR (some (mZ M)) :: st) (uN M kd n)) (ev : va_E) (hev : cellE X (uN M kd n) (mZ M) = ev) (q : Nat) (H1 : Heap) (hP1 : va_P (xD X) jcl (wsX X M ++ [(q, ev)]) H1) (hD1 : va_D (xA X) (wsX X M ++ [(q, ev)])) (hS1 : va_S (xA X) s.heap H1 locs) :
    W p (xl X) e (rmz m z) s mi args below meth c H1 locs (cells + 1) (slots + n) Q (F0 mi (pb m i + len) lsA (.ref q :: st.map (cv X))) := by
  have h7 : s.heap.size = xb X + z.1 := E.2.2.2.2.2.2.1
  have r4 := R.2.2.2.1
  have r5 := R.2.2.2.2.1
  intro T hT XX
  have hsz : H1.size ≤ xb X + mZ M + 1 := by
    have h := XX.same.2.2.1
    have h9 : T.heap.size ≤ s.heap.size + (cells + 1) := h
    rw [hT] at h9
    omega
  have hq := new_at (M' := M) R.1 R.2.2.1 hP1 hD1 hsz
  subst hq
  have hws : wsX X (uN M kd n) = wsX X M ++ [(xb X + mZ M, ev)] := by
    rw [← hev]
    exact ws_push (mZ_uN M kd n) (fun b hb => cellE_congr (by rw [mK_uN, if_neg (by omega)]) (by rw [mN_uN, if_neg (by omega)]) (fun j => by rw [mI_uN, if_neg (by omega)]) (fun j => by rw [mR_uN, if_neg (by omega)]))
  rw [← hws] at hP1
  have hR := R.1.uN hb hk hn hP1
  refine W_RG E hR hS1 (by rw [mZ_uN]; omega) (by rw [mS_uN]; omega) (by omega) (by omega) (fun R1 => ?_) T hT XX
  have hcv : cv X (aR (some (mZ M))) = .ref (xb X + mZ M) := cv_ref hR (by rw [mZ_uN]; omega)
  rw [← h2, ← hcv]
  exact k1 hls (okSt_c trivial hst) H1 locs (cells + 1) (slots + n) lsA R1 L
theorem s_new (C : CtxOK X) (E : GE X m z K Q p e s mi args below meth c) {k cc n : Nat} (hd : dk m i (.new k) 3 = true) (hw : wk m i (.classLink (yn m).cls k (kR cc)) = true) (hc : cc < 9) (hn : n = kN cc) (hins : Jvm.Cond.instantiable (kR cc) (kN cc) ∈ gl) (hini : Jvm.Cond.initialized (kR cc) ∈ gl)
    (hZ : mZ M + 1 ≤ z.1 + z.2.2.1) (hS : mS M + n ≤ z.2.1 + z.2.2.2) (hb : mZ M < BIG) (hn2 : kN cc < 100)
    (k1 : Gw X m z Q p e s mi args below meth c (i + 1) ls (aR (some (mZ M)) :: st) (uN M cc n)) : Gw X m z Q p e s mi args below meth c i ls st M := by
  intro hls hst H locs cells slots lsA R L
  obtain ⟨h1, h2⟩ := dk_ok hd
  have r4 := R.2.2.2.1
  have r5 := R.2.2.2.2.1
  subst hn
  have hA : ∀ q : Nat, s.heap.size ≤ q → xA X q := fun q hq => by
    have h7 : s.heap.size = xb X + z.1 := E.2.2.2.2.2.2.1
    show xb X ≤ q
    omega
  have hts := gl_hts C E.2.2.2.2.1 args
  have hev : cellE X (uN M cc (kN cc)) (mZ M) = .inr (cc, (List.range (kN cc)).map (fun j => defaultValue (kY cc j))) := by
    rw [cellE_obj (by rw [mK_uN, if_pos rfl]) hc]
    congr 2
    apply List.map_congr_left
    intro j hj
    have h := hkf hc (List.mem_range.mp hj)
    unfold fldV
    rw [mI_uN, mR_uN, if_pos rfl, if_pos rfl]
    by_cases h0 : kF cc j = 0
    · rw [if_pos h0, decide_eq_true_eq] at h
      rw [if_neg (by omega), h]
      rfl
    · rw [if_neg h0] at h
      by_cases h3 : kF cc j = 2
      · rw [if_pos h3, decide_eq_true_eq] at h
        rw [if_neg (by omega), h]
        rfl
      · rw [if_neg h3, decide_eq_true_eq] at h
        have h9 : kF cc j = 1 := by
          have : (List.range 9).all (fun c => (List.range (kN c)).all (fun k => decide (kF c k ≤ 2))) = true := by decide +kernel
          have := of_decide_eq_true (List.all_eq_true.mp (List.all_eq_true.mp this cc (List.mem_range.mpr hc)) j hj)
          omega
        rw [if_pos h9]
        revert h
        cases kY cc j <;> intro h <;> first | rfl | (exfalso; revert h; decide)
  exact va_new (D := xD X) (cl := jcl) (ci := cc) (C := kR cc) (T := kT cc) (N := kN cc) (fs := (List.range (kN cc)).map (fun j => defaultValue (kY cc j))) E.1 E.2.1 hts (hin hc) (kY cc) (hty hc) E.2.2.2.1 (hts _ (gl_of (wk_ok hw) rfl)) (hts _ hins) (hts _ hini) (ge_K C E) R.1.1 (ws_D X M) R.2.1 hA (jcl_at hc) (fun j hj => by simp [vp_V, hj]) (by show cells + 1 ≤ z.2.2.1; omega) (by show slots + kN cc ≤ z.2.2.2; omega) h1
    (fun q H1 hP1 hD1 hS1 => s_made E R hls hst L hZ hS hb (by omega) (by omega) h2 k1 _ hev q H1 hP1 hD1 hS1)
theorem s_newa (C : CtxOK X) (E : GE X m z K Q p e s mi args below meth c) {t : ArrayType} {kd : Nat} {a : Int} (hd : dk m i (.newarray t) 2 = true) (ht : (t = .int ∧ kd = 20) ∨ (t = .boolean ∧ kd = 21)) (h0 : 0 ≤ a) (hle : a ≤ 100000)
    (hZ : mZ M + 1 ≤ z.1 + z.2.2.1) (hS : mS M + a.toNat ≤ z.2.1 + z.2.2.2) (hb : mZ M < BIG)
    (k1 : Gw X m z Q p e s mi args below meth c (i + 1) ls (aR (some (mZ M)) :: st) (uN M kd a.toNat)) : Gw X m z Q p e s mi args below meth c i ls (aI a :: st) M := by
  intro hls hst H locs cells slots lsA R L
  obtain ⟨h1, h2⟩ := dk_ok hd
  have r4 := R.2.2.2.1
  have r5 := R.2.2.2.2.1
  have ha : inR a := okSt_h hst
  have hA : ∀ q : Nat, s.heap.size ≤ q → xA X q := fun q hq => by
    have h7 : s.heap.size = xb X + z.1 := E.2.2.2.2.2.2.1
    show xb X ≤ q
    omega
  have hts := gl_hts C E.2.2.2.2.1 args
  have hK := ge_K C E
  have hev : cellE X (uN M kd a.toNat) (mZ M) = .inl (xc X kd, a.toNat, .inl (fun _ => 0)) := by
    have hk2 : mK (uN M kd a.toNat) (mZ M) = kd := by rw [mK_uN, if_pos rfl]
    rw [cellE_arr (by rw [hk2]; omega) (by rw [hk2]; omega), hk2, mN_uN, if_pos rfl]
    congr 4
    funext j
    rw [mI_uN, if_pos rfl]
    rfl
  rcases ht with ⟨rfl, rfl⟩ | ⟨rfl, rfl⟩
  · refine va_newa (D := xD X) (cl := jcl) (atype := .int) E.1 E.2.1 (hts (.arrayClass .int) (gl_of (p := 166) (by decide +kernel) rfl)) (ty := .int) rfl hK R.1.1 (ws_D X M) R.2.1 hA (n := Int32.ofInt a) (N' := a.toNat) (a0 := (a.toNat, .inl (fun _ => 0))) (fun cA => rfl) (ofI_neg ha h0) (ofI_nat ha) (by show a.toNat * 4 ≤ _; omega) (by show cells + 1 ≤ z.2.2.1; omega) (by show slots + a.toNat ≤ z.2.2.2; omega) h1 (fun q cA H1 hK1 hP1 hD1 hS1 => ?_)
    have hcA : cA = xc X 20 := by
      have e1 : s.vm.findClass ("[" ++ FieldType.int.toString) = some cA := (hK1.2 5 (cA, .int) rfl).2
      have e2 : s.vm.findClass ("[" ++ FieldType.int.toString) = some (xc X 20) := (hK.2 0 (xc X 20, .int) rfl).2
      exact Option.some.inj (e1.symm.trans e2)
    subst hcA
    exact s_made E R hls (okSt_t hst) L hZ hS hb (by omega) (by omega) h2 k1 _ hev q H1 hP1 hD1 hS1
  · refine va_newa (D := xD X) (cl := jcl) (atype := .boolean) E.1 E.2.1 (hts (.arrayClass .boolean) (gl_of (p := 857) (by decide +kernel) rfl)) (ty := .boolean) rfl hK R.1.1 (ws_D X M) R.2.1 hA (n := Int32.ofInt a) (N' := a.toNat) (a0 := (a.toNat, .inl (fun _ => 0))) (fun cA => rfl) (ofI_neg ha h0) (ofI_nat ha) (by show a.toNat * 1 ≤ _; omega) (by show cells + 1 ≤ z.2.2.1; omega) (by show slots + a.toNat ≤ z.2.2.2; omega) h1 (fun q cA H1 hK1 hP1 hD1 hS1 => ?_)
    have hcA : cA = xc X 21 := by
      have e1 : s.vm.findClass ("[" ++ FieldType.boolean.toString) = some cA := (hK1.2 5 (cA, .boolean) rfl).2
      have e2 : s.vm.findClass ("[" ++ FieldType.boolean.toString) = some (xc X 21) := (hK.2 1 (xc X 21, .boolean) rfl).2
      exact Option.some.inj (e1.symm.trans e2)
    subst hcA
    exact s_made E R hls (okSt_t hst) L hZ hS hb (by omega) (by omega) h2 k1 _ hev q H1 hP1 hD1 hS1
theorem over_b : ∀ cc, cc = 1 ∨ cc = 2 ∨ cc = 7 → Jvm.Cond.arrayOver (.object (kR cc)) ∈ lw_tbl := by
  intro cc h
  rcases h with rfl | rfl | rfl
  · exact List.mem_of_getElem? (i := 108) (by decide +kernel)
  · exact List.mem_of_getElem? (i := 110) (by decide +kernel)
  · exact List.mem_of_getElem? (i := 182) (by decide +kernel)
theorem s_anew (C : CtxOK X) (E : GE X m z K Q p e s mi args below meth c) {k cc : Nat} {a : Int} (hd : dk m i (.anewarray k) 3 = true) (hw : wk m i (.classLink (yn m).cls k (kR cc)) = true) (hc : cc = 1 ∨ cc = 2 ∨ cc = 7) (h0 : 0 ≤ a) (hle : a ≤ 100000)
    (hZ : mZ M + 1 ≤ z.1 + z.2.2.1) (hS : mS M + a.toNat ≤ z.2.1 + z.2.2.2) (hb : mZ M < BIG)
    (k1 : Gw X m z Q p e s mi args below meth c (i + 1) ls (aR (some (mZ M)) :: st) (uN M (30 + cc) a.toNat)) : Gw X m z Q p e s mi args below meth c i ls (aI a :: st) M := by
  intro hls hst H locs cells slots lsA R L
  obtain ⟨h1, h2⟩ := dk_ok hd
  have r4 := R.2.2.2.1
  have r5 := R.2.2.2.2.1
  have ha : inR a := okSt_h hst
  have hA : ∀ q : Nat, s.heap.size ≤ q → xA X q := fun q hq => by
    have h7 : s.heap.size = xb X + z.1 := E.2.2.2.2.2.2.1
    show xb X ≤ q
    omega
  have hts := gl_hts C E.2.2.2.2.1
  have hK := ge_K C E
  have hev : cellE X (uN M (30 + cc) a.toNat) (mZ M) = .inl (xc X (30 + cc), a.toNat, .inr (.inr (.inr (.inr (fun _ => none))))) := by
    have hk2 : mK (uN M (30 + cc) a.toNat) (mZ M) = 30 + cc := by rw [mK_uN, if_pos rfl]
    rw [cellE_ref (by rw [hk2]; omega), hk2, mN_uN, if_pos rfl]
    congr 7
    funext j
    rw [mR_uN, if_pos rfl]
    rfl
  obtain ⟨a9, h9⟩ := C.1
  have hover : va_AO (kR cc) s := va_AO.moved E.2.2.2.2.1.alike (va_AO.of (h9 _ (over_b cc hc)))
  refine va_newq (D := xD X) (cl := jcl) (C := kR cc) E.1 E.2.1 E.2.2.2.1 (hts args _ (gl_of (wk_ok hw) rfl)) hover hK R.1.1 (ws_D X M) R.2.1 hA (n := Int32.ofInt a) (N' := a.toNat) (ofI_neg ha h0) (ofI_nat ha) (by omega) (by show cells + 1 ≤ z.2.2.1; omega) (by show slots + a.toNat ≤ z.2.2.2; omega) h1 (fun q cA H1 hK1 hP1 hD1 hS1 => ?_)
  have hcA : cA = xc X (30 + cc) := by
    obtain ⟨-, kA, comp, -, -, -, e1⟩ := hK1.2 5 (cA, .object (kR cc)) rfl
    obtain ⟨-, kB, comp2, -, -, -, e2⟩ := hK.2 (rkd (30 + cc)) (xc X (30 + cc), .object (kR (30 + cc - 30))) (ty_rk (by omega))
    rw [show 30 + cc - 30 = cc by omega] at e2
    exact Option.some.inj (e1.symm.trans e2)
  subst hcA
  exact s_made E R hls (okSt_t hst) L hZ hS hb (by omega) (by omega) h2 k1 _ hev q H1 hP1 hD1 hS1
theorem Rep.uC {H H1 : Heap} {a sp b dp n : Nat} (R : Rep X M H) (hb : b < mZ M) (hP : va_P (xD X) jcl (wsX X (uC M a sp b dp n)) H1) : Rep X (uC M a sp b dp n) H1 := by
  obtain ⟨-, h2, h3, h4, h5, h6⟩ := R
  refine ⟨hP, h2, fun x j => ?_, h4, fun x hx => ⟨(h5 x hx).1, (h5 x hx).2.1, fun j => ?_⟩, h6⟩
  · rw [mI_uC]
    split
    · exact h3 _ _
    · exact h3 x j
  · rw [mI_uC, if_neg (by omega)]
    exact (h5 x hx).2.2 j
theorem s_copy (C : CtxOK X) (E : GE X m z K Q p e s mi args below meth c) {k a b : Nat} {l dp sp : Int} (hd : dk m i (.invokestatic k) 3 = true) (hw : wk m i (.methodLink (yn m).cls k arraycopyName) = true) (hf : 1 ≤ yf m) (hlo : 26 ≤ yw m)
    (ka : mK M a = 20) (kb : mK M b = 20) (hl : 0 ≤ l) (hdp : 0 ≤ dp) (hsp : 0 ≤ sp) (h4 : sp + l ≤ mN M a) (h5 : dp + l ≤ mN M b) (hcat : catS st ≤ 8)
    (k1 : Gw X m z Q p e s mi args below meth c (i + 1) ls st (uC M a sp.toNat b dp.toNat l.toNat)) : Gw X m z Q p e s mi args below meth c i ls (aI l :: aI dp :: aR (some b) :: aI sp :: aR (some a) :: st) M := by
  intro hls hst H locs cells slots lsA R L
  obtain ⟨h1, h2⟩ := dk_ok hd
  have il : inR l := okSt_h hst
  have idp : inR dp := okSt_h (okSt_t hst)
  have isp : inR sp := okSt_h (okSt_t (okSt_t (okSt_t hst)))
  have ha : a < mZ M := R.1.in C (by omega) (by omega)
  have hb : b < mZ M := R.1.in C (by omega) (by omega)
  have hts := gl_hts C E.2.2.2.2.1 args
  simp only [List.map_cons]
  rw [cv_ref R.1 ha, cv_ref R.1 hb]
  refine va_copyi (D := xD X) (cl := jcl) E.1 E.2.1 (by rw [E.2.2.1]; exact L.1.symm) E.2.2.2.1 (hts _ (gl_of (wk_ok hw) rfl)) (hts _ (gl_of (p := 473) (by decide +kernel) rfl)) (hts _ (gl_of (p := 472) (by decide +kernel) rfl)) (hts _ (gl_of (p := 97) (by decide +kernel) rfl)) (ge_K C E) R.1.1 (ws_D X M) R.2.1 a b 0 0 (a0 := xb X + a) (c0 := xc X 20) (c1 := xc X 20) (n0 := mN M a) (n1 := mN M b) (f := fun j => Int32.ofInt (mI M a j)) (g := fun j => Int32.ofInt (mI M b j)) (ty := .int) (by rw [ws_get ha, cellE_arr (by omega) (by omega), ka]) (by rw [ws_get hb, cellE_arr (by omega) (by omega), kb]) rfl rfl rfl (sp := Int32.ofInt sp) (dp := Int32.ofInt dp) (n := Int32.ofInt l) (ofI_neg isp hsp) (ofI_neg idp hdp) (ofI_neg il hl) (by rw [ofI_nat isp, ofI_nat il]; omega) (by rw [ofI_nat idp, ofI_nat il]; omega) (fun _ _ => rfl) hf (by rw [cat_sum]; show _ + (5 + 2 + 11) ≤ yw m; omega) h1 (fun H1 locs1 hP1 _ hS1 => ?_)
  have hws : wsX X (uC M a sp.toNat b dp.toNat l.toNat) = (wsX X M).set b (xb X + b, .inl (xc X 20, mN M b, .inl (va_cpy (fun j => Int32.ofInt (mI M a j)) (fun j => Int32.ofInt (mI M b j)) (Int32.ofInt sp).toNatClampNeg (Int32.ofInt dp).toNatClampNeg (Int32.ofInt l).toNatClampNeg))) := by
    rw [ws_set (M := M) (M' := uC M a sp.toNat b dp.toNat l.toNat) (a := b) rfl (fun x hx => cellE_congr rfl rfl (fun j => by rw [mI_uC, if_neg (fun h => hx h.1)]) (fun _ => rfl))]
    rw [cellE_arr (M := uC M a sp.toNat b dp.toNat l.toNat) (by rw [mK_uC]; omega) (by rw [mK_uC]; omega), mK_uC, kb, mN_uC, ofI_nat isp, ofI_nat idp, ofI_nat il]
    congr 6
    funext q
    rw [mI_uC]
    unfold va_cpy
    by_cases hq : dp.toNat ≤ q ∧ q < dp.toNat + l.toNat
    · rw [if_pos ⟨rfl, hq⟩, if_pos hq]
    · rw [if_neg (fun h => hq h.2), if_neg hq]
  rw [← hws] at hP1
  refine W_RG E (R.1.uC hb hP1) hS1 R.2.2.2.1 R.2.2.2.2.1 R.2.2.2.2.2.1 R.2.2.2.2.2.2 (fun R1 => ?_)
  rw [← h2]
  exact k1 hls (okSt_t (okSt_t (okSt_t (okSt_t (okSt_t hst))))) H1 locs1 cells slots lsA R1 L
/-! calls -/
theorem wd_of (E : GE X m z K Q p e s mi args below meth c) {H : Heap} {locs : List Loc} {cells slots : Nat} (R : RG X z s M H locs cells slots) {U : State} (hU : U.heap = H) (hW : s.WarmedH U.vm) : Wd X M U := by
  have h7 : s.heap.size = xb X + z.1 := E.2.2.2.2.2.2.1
  refine ⟨State.WarmedH.trans E.2.2.2.2.1 hW, fun q hq => ?_, by rw [hU]; exact R.2.2.1, by rw [hU]; exact R.1⟩
  rw [hU, R.2.1.2.1 q (by omega) (fun h => absurd (show xb X ≤ q from h) (by omega))]
  exact E.2.2.2.2.2.1 q hq
theorem pq_blind (as : List AV) : FrameBlind (Pq X as M) := fun _ _ _ _ h => h
theorem s_back (E : GE X m z K Q p e s mi args below meth c) {Kc : Option AV → Mem → Prop} {n : Nat × Nat} {st0 : List Value} {rest : List AV} {a : Array Value} {H : Heap} {locs : List Loc} {cells slots : Nat} {lsA : Array Slot} (R : RG X z s M H locs cells slots) (L : LR X ls (yl m) lsA) (hls : okLs ls) (hrest : okSt rest) (hn1 : cells + n.1 ≤ z.2.2.1) (hn2 : slots + n.2 ≤ z.2.2.2) (h2 : pb m (i + 1) = pb m i + 3)
    (hr : va_Run p (xl X) e (rmz m z) s mi args below meth c H locs cells slots n.1 n.2 (F0 mi (pb m i) lsA st0) (rest.map (cv X)) (Qq X M n Kc a) (xA X))
    (k1 : ∀ r M', Kc r M' → Gw X m z Q p e s mi args below meth c (i + 1) ls (psh r rest) M') : W p (xl X) e (rmz m z) s mi args below meth c H locs cells slots Q (F0 mi (pb m i) lsA st0) := by
  intro T hT XX
  obtain ⟨v, st₀, t, T', L', h0, X', hL, e1, e2, ⟨r, M', hK, ho, hWd, hok, hz, hs⟩, hgo⟩ := hr T hT XX
  cases ho
  have r4 := R.2.2.2.1
  have r5 := R.2.2.2.2.1
  have h7 : s.heap.size = xb X + z.1 := E.2.2.2.2.2.2.1
  have hsz : t.heap.size = xb X + mZ M' := hWd.2.2.1
  have R1 : RG X z s M' T'.heap (locs ++ L') (cells + n.1) (slots + n.2) := by
    rw [e1]
    refine ⟨hWd.2.2.2, ⟨by omega, fun q h1 h3 => ?_, fun q hq => ?_⟩, hsz, by omega, by omega, hn1, hn2⟩
    · have h4 : q < xb X := by
        have : ¬ xb X ≤ q := h3
        omega
      rw [hWd.2.1 q h4, E.2.2.2.2.2.1 q h4]
    · rcases List.mem_append.mp hq with h | h
      · exact R.2.1.2.2 q h
      · exact hL q h
  have hst : okSt (psh r rest) := by
    cases r with
    | none => exact hrest
    | some v => exact okSt_c hok hrest
  have h := k1 r M' hK hls hst T'.heap (locs ++ L') (cells + n.1) (slots + n.2) lsA R1 L T' rfl X'
  obtain ⟨t2, a1, b1⟩ := h
  refine ⟨t2, hgo t2 ?_, b1⟩
  have hst2 : (psh r rest).map (cv X) = (r.map (cv X)).toList ++ rest.map (cv X) := by cases r <;> rfl
  rw [hst2, h2] at a1
  exact a1
theorem cOK_ok {y n : Nat} (h : cOK m y n = true) : yf y + 1 ≤ yf m ∧ 8 + (yl y + 11) + yw y ≤ yw m ∧ (yP y).2.2.2.2 = n := by
  simp only [cOK, Bool.and_eq_true, decide_eq_true_eq] at h
  exact h
theorem mOK_ok {y : Nat} (h : mOK y = true) : lw_tbl[(yP y).2.1]? = some (.initialized (yn y).cls) ∧ plainName (yn y).cls = true ∧ (yn y).cls ≠ "java/lang/invoke/MethodHandle" ∧ (yn y).cls ≠ "java/lang/invoke/VarHandle" ∧ (parseMethodDescriptor (yn y).desc).map (fun d => d.parameters.length) = some (yP y).2.2.2.2 := by
  simp only [mOK, Bool.and_eq_true, decide_eq_true_eq] at h
  exact h
theorem code_gl {y : Nat} (h : lw_tbl[(yP y).1]? = some (.code (yn y) (yc y) (yl y) (yr y))) : GoodIn gl [.code (yn y) (yc y) (yl y) (yr y)] := gl_good (fun w hw => by rw [List.mem_singleton.mp hw]; exact gl_of h rfl)
theorem s_callS (C : CtxOK X) (E : GE X m z K Q p e s mi args below meth c) {k y n : Nat} {x : Int} {Kc : Option AV → Mem → Prop} (hd : dk m i (.invokestatic k) 3 = true) (hw : (if x = 0 then wk m i (.methodLink (yn m).cls k (yn y)) else wk m i (.methodLinkNest (yn m).cls k (yn y) "JanetCones")) = true) (hc : cOK m y n = true) (hs : mOKs y = true) (hcat : catS (st.drop n) ≤ 8) (hlen : n ≤ st.length)
    (hev : Ev X y (0, 0) (st.take n).reverse M Kc) (k1 : ∀ r M', Kc r M' → Gw X m z Q p e s mi args below meth c (i + 1) ls (psh r (st.drop n)) M') : Gw X m z Q p e s mi args below meth c i ls st M := by
  intro hls hst H locs cells slots lsA R L
  obtain ⟨h1, h2⟩ := dk_ok hd
  obtain ⟨hcd, hmo⟩ := hev.1
  obtain ⟨c1, c2, c3⟩ := cOK_ok hc
  obtain ⟨m1, m2, m3, m4, m5⟩ := mOK_ok hmo
  have hM := hev.2 C (fun v hv => hst v (List.mem_of_mem_take (List.mem_reverse.mp hv)))
  have hts := gl_hts C E.2.2.2.2.1 args
  have r6 := R.2.2.2.2.2.1
  have r7 := R.2.2.2.2.2.2
  have hstk : st.map (cv X) = (((st.take n).reverse.map (cv X)).reverse) ++ (st.drop n).map (cv X) := by
    rw [List.map_reverse, List.reverse_reverse, ← List.map_append, List.take_append_drop]
  refine s_back (n := (0, 0)) (Kc := Kc) (rest := st.drop n) (a := ((st.take n).reverse.map (cv X)).toArray) E R L hls (fun v hv => hst v (List.mem_of_mem_drop hv)) r6 r7 h2 ?_ k1
  have hlenA : ((st.take n).reverse.map (cv X)).length = n := by simp [hlen]
  have hp : PreS s H (Pq X (st.take n).reverse M) ((st.take n).reverse.map (cv X)) := ⟨pq_blind _, fun U hU hW => ⟨rfl, wd_of E R hU hW⟩⟩
  by_cases hx : x = 0
  · rw [if_pos hx] at hw
    refine va_runS (S := ⟨E.1, E.2.1, E.2.2.1, E.2.2.2.1, hts⟩) hM (va_cwS n hts ?_ rfl rfl rfl ⟨m3, m4, by rw [m5, c3]⟩ ⟨c1, c2⟩) hp rfl hlenA L.1 hstk (lv_room (by rw [cat_sum]; exact hcat)) h1 ⟨r6, r7⟩
    exact goodIn_l hcd (fun w hw9 => by
      simp only [List.mem_cons, List.not_mem_nil, or_false] at hw9
      rcases hw9 with rfl | rfl | rfl
      · exact gl_of (wk_ok hw) rfl
      · exact gl_of (of_decide_eq_true hs) rfl
      · exact gl_of m1 rfl)
  · rw [if_neg hx] at hw
    obtain ⟨a0, h0⟩ := C.1
    have hN := va_Nw.warmM E.2.2.2.2.1 (va_Nw.of rfl (h0 _ (List.mem_of_getElem? (wk_ok hw))))
    exact va_runSN (S := ⟨E.1, E.2.1, E.2.2.1, E.2.2.2.1, hts⟩) hM ⟨va_cnB n hts (code_gl hcd) rfl rfl rfl hN (hts _ (gl_of m1 rfl)) ⟨m3, m4, by rw [m5, c3]⟩ ⟨c1, c2⟩, hts _ (gl_of (of_decide_eq_true hs) rfl), trivial⟩ hp rfl hlenA L.1 hstk (lv_room (by rw [cat_sum]; exact hcat)) h1 ⟨r6, r7⟩
theorem s_callV (C : CtxOK X) (E : GE X m z K Q p e s mi args below meth c) {k y n cc b : Nat} {rest : List AV} {Kc : Option AV → Mem → Prop} (hd : dk m i (.invokevirtual k) 3 = true) (hw : wk m i (.methodLink (yn m).cls k (yn y)) = true) (hc : cOK m y n = true) (hv : mOKv y cc = true) (hdr : st.drop n = aR (some b) :: rest) (hk : mK M b = cc) (hcat : catS rest ≤ 8)
    (hev : Ev X y (0, 0) (aR (some b) :: (st.take n).reverse) M Kc) (k1 : ∀ r M', Kc r M' → Gw X m z Q p e s mi args below meth c (i + 1) ls (psh r rest) M') : Gw X m z Q p e s mi args below meth c i ls st M := by
  intro hls hst H locs cells slots lsA R L
  obtain ⟨h1, h2⟩ := dk_ok hd
  obtain ⟨hcd, hmo⟩ := hev.1
  obtain ⟨c1, c2, c3⟩ := cOK_ok hc
  obtain ⟨m1, m2, m3, m4, m5⟩ := mOK_ok hmo
  simp only [mOKv, mOKi, Bool.and_eq_true, decide_eq_true_eq] at hv
  obtain ⟨v1, v2, v3, v4⟩ := hv
  have hM := hev.2 C (fun v hv => by
    rcases List.mem_cons.mp hv with h | h
    · rw [h]; trivial
    · exact hst v (List.mem_of_mem_take (List.mem_reverse.mp h)))
  have hts := gl_hts C E.2.2.2.2.1 args
  have r6 := R.2.2.2.2.2.1
  have r7 := R.2.2.2.2.2.2
  have hb : b < mZ M := R.1.in C (by omega) (by omega)
  have hlen : n < st.length := by
    have h9 : (st.drop n).length = (rest.length + 1) := by rw [hdr]; rfl
    rw [List.length_drop] at h9
    omega
  have hstk : st.map (cv X) = (((st.take n).reverse.map (cv X)).reverse) ++ .ref (xb X + b) :: rest.map (cv X) := by
    rw [← cv_ref R.1 hb, ← List.map_cons, ← hdr, List.map_reverse, List.reverse_reverse, ← List.map_append, List.take_append_drop]
  refine s_back (n := (0, 0)) (Kc := Kc) (rest := rest) (a := (Value.ref (xb X + b) :: (st.take n).reverse.map (cv X)).toArray) E R L hls (fun v hv => hst v (List.mem_of_mem_drop (i := n) (by rw [hdr]; exact List.mem_cons_of_mem _ hv))) r6 r7 h2 ?_ k1
  have hlenA : ((st.take n).reverse.map (cv X)).length = n := by simp; omega
  have hp : PreV s H (kR cc) (xb X + b) (Pq X (aR (some b) :: (st.take n).reverse) M) ((st.take n).reverse.map (cv X)) := ⟨pq_blind _, va_recv (ge_K C E) R.1.1 (ci := cc) (q0 := b) (jcl_at v4) (by rw [ws_get hb, cellE_obj hk v4]), fun U hU hW => ⟨by rw [List.map_cons, cv_ref R.1 hb], wd_of E R hU hW⟩⟩
  refine va_runV (S := ⟨E.1, E.2.1, E.2.2.1, E.2.2.2.1, hts⟩) hM (cwV n hts ?_ rfl rfl rfl ⟨v3, m3, m4, by rw [m5, c3]⟩ ⟨c1, c2⟩) hp rfl hlenA L.1 hstk (lv_room (by rw [cat_sum]; exact hcat)) h1 ⟨r6, r7⟩
  refine goodIn_l hcd (fun w hw9 => ?_)
  simp only [List.mem_cons, List.not_mem_nil, or_false] at hw9
  rcases hw9 with rfl | rfl | rfl | rfl
  · exact gl_of (wk_ok hw) rfl
  · exact gl_of v1 rfl
  · rw [← v3]; exact gl_of v2 rfl
  · rw [← v3]; exact gl_of m1 rfl
theorem s_callI (C : CtxOK X) (E : GE X m z K Q p e s mi args below meth c) {k y n b : Nat} {x : Int} {q : Nat × Nat} {rest : List AV} {Kc : Option AV → Mem → Prop} (hd : dk m i (.invokespecial k) 3 = true) (hw : (if x = 0 then wk m i (.methodLink (yn m).cls k (yn y)) else wk m i (.methodLinkNest (yn m).cls k (yn y) "JanetCones")) = true) (hc : cOK m y n = true) (hi : mOKi y = true) (hin : (yn y).name = "<init>") (hrn : yr y = none) (hdr : st.drop n = aR (some b) :: rest) (hcat : catS rest ≤ 8)
    (hZ : mZ M + q.1 ≤ z.1 + z.2.2.1) (hS : mS M + q.2 ≤ z.2.1 + z.2.2.2)
    (hev : Ev X y q (aR (some b) :: (st.take n).reverse) M Kc) (k1 : ∀ r M', Kc r M' → Gw X m z Q p e s mi args below meth c (i + 1) ls (psh r rest) M') : Gw X m z Q p e s mi args below meth c i ls st M := by
  intro hls hst H locs cells slots lsA R L
  obtain ⟨h1, h2⟩ := dk_ok hd
  obtain ⟨hcd, hmo⟩ := hev.1
  obtain ⟨c1, c2, c3⟩ := cOK_ok hc
  obtain ⟨m1, m2, m3, m4, m5⟩ := mOK_ok hmo
  have hM := hev.2 C (fun v hv => by
    rcases List.mem_cons.mp hv with h | h
    · rw [h]; trivial
    · exact hst v (List.mem_of_mem_take (List.mem_reverse.mp h)))
  have hts := gl_hts C E.2.2.2.2.1 args
  have r4 := R.2.2.2.1
  have r5 := R.2.2.2.2.1
  have r6 : cells + q.1 ≤ z.2.2.1 := by omega
  have r7 : slots + q.2 ≤ z.2.2.2 := by omega
  have hlen : n < st.length := by
    have h9 : (st.drop n).length = (rest.length + 1) := by rw [hdr]; rfl
    rw [List.length_drop] at h9
    omega
  have hcv : cv X (aR (some b)) = .ref (ad X b) := rfl
  have hstk : st.map (cv X) = (((st.take n).reverse.map (cv X)).reverse) ++ .ref (ad X b) :: rest.map (cv X) := by
    rw [← hcv, ← List.map_cons, ← hdr, List.map_reverse, List.reverse_reverse, ← List.map_append, List.take_append_drop]
  refine s_back (n := q) (Kc := Kc) (rest := rest) (a := (Value.ref (ad X b) :: (st.take n).reverse.map (cv X)).toArray) E R L hls (fun v hv => hst v (List.mem_of_mem_drop (i := n) (by rw [hdr]; exact List.mem_cons_of_mem _ hv))) r6 r7 h2 ?_ k1
  have hlenA : ((st.take n).reverse.map (cv X)).length = n := by simp; omega
  have hp : PreS s H (Pq X (aR (some b) :: (st.take n).reverse) M) (.ref (ad X b) :: (st.take n).reverse.map (cv X)) := ⟨pq_blind _, fun U hU hW => ⟨rfl, wd_of E R hU hW⟩⟩
  rw [hrn] at hM hcd
  have hcg : GoodIn gl [Jvm.Cond.code (yn y) (yc y) (yl y) none] := gl_good (fun w hw => by rw [List.mem_singleton.mp hw]; exact gl_of hcd rfl)
  by_cases hx : x = 0
  · rw [if_pos hx] at hw
    exact va_runI (S := ⟨E.1, E.2.1, E.2.2.1, E.2.2.2.1, hts⟩) hM (cwI n hts hcg rfl rfl rfl (hts _ (gl_of m1 rfl)) (hts _ (gl_of (wk_ok hw) rfl)) (hts _ (gl_of (of_decide_eq_true hi) rfl)) hin ⟨m3, m4, by rw [m5, c3]⟩ ⟨c1, c2⟩) hp rfl hlenA L.1 hstk (lv_room (by rw [cat_sum]; exact hcat)) h1 ⟨r6, r7⟩
  · rw [if_neg hx] at hw
    obtain ⟨a0, h0⟩ := C.1
    have hN := va_Nw.warmM E.2.2.2.2.1 (va_Nw.of rfl (h0 _ (List.mem_of_getElem? (wk_ok hw))))
    exact va_runIN (S := ⟨E.1, E.2.1, E.2.2.1, E.2.2.2.1, hts⟩) hM ⟨va_cnB n hts hcg rfl rfl rfl hN (hts _ (gl_of m1 rfl)) ⟨m3, m4, by rw [m5, c3]⟩ ⟨c1, c2⟩, hin, hts _ (gl_of (of_decide_eq_true hi) rfl)⟩ hp rfl hlenA L.1 hstk (lv_room (by rw [cat_sum]; exact hcat)) h1 ⟨r6, r7⟩
theorem s_obj (C : CtxOK X) (E : GE X m z K Q p e s mi args below meth c) {k b : Nat} (hd : dk m i (.invokespecial k) 3 = true) (hw : wk m i (.methodLink (yn m).cls k Lib.objectInit) = true) (hf : 1 ≤ yf m) (hlo : 20 ≤ yw m) (hcat : catS st ≤ 8)
    (k1 : Gw X m z Q p e s mi args below meth c (i + 1) ls st M) : Gw X m z Q p e s mi args below meth c i ls (aR (some b) :: st) M := by
  intro hls hst H locs cells slots lsA R L
  obtain ⟨h1, h2⟩ := dk_ok hd
  have hts := gl_hts C E.2.2.2.2.1 args
  refine W.objInit E.1 E.2.1 E.2.2.2.1 (hts _ (gl_of (wk_ok hw) rfl)) (hts _ (gl_of (p := 105) (by decide +kernel) rfl)) (hts _ (gl_of (p := 106) (by decide +kernel) rfl)) rfl (by rw [E.2.2.1]; exact L.1) (a := ad X b) (rest := st.map (cv X)) rfl h1 hf (by show 2 * 0 + _ + 12 ≤ yw m; rw [cat_sum]; omega) ?_
  show W p (xl X) e (rmz m z) s mi args below meth c H locs cells slots Q (F0 mi (pb m i + 3) lsA (st.map (cv X)))
  rw [← h2]
  exact k1 hls (okSt_t hst) H locs cells slots lsA R L
theorem s_max (C : CtxOK X) (E : GE X m z K Q p e s mi args below meth c) {k : Nat} {a b : Int} (hd : dk m i (.invokestatic k) 3 = true) (hw : wk m i (.methodLink (yn m).cls k Lib.Math.max.name) = true) (hf : 1 ≤ yf m) (hlo : 21 ≤ yw m) (hcat : catS st ≤ 8)
    (k1 : Gw X m z Q p e s mi args below meth c (i + 1) ls (aI (if a < b then b else a) :: st) M) : Gw X m z Q p e s mi args below meth c i ls (aI b :: aI a :: st) M := by
  intro hls hst H locs cells slots lsA R L
  obtain ⟨h1, h2⟩ := dk_ok hd
  have hts := gl_hts C E.2.2.2.2.1 args
  have hb : inR b := okSt_h hst
  have ha : inR a := okSt_h (okSt_t hst)
  have r6 := R.2.2.2.2.2.1
  have r7 := R.2.2.2.2.2.2
  refine va_mmax E.1 E.2.1 (by rw [E.2.2.1]; exact L.1.symm) E.2.2.2.1 (hts _ (gl_of (wk_ok hw) rfl)) (hts _ (gl_of (p := 415) (by decide +kernel) rfl)) (hts _ (gl_of (p := 96) (by decide +kernel) rfl)) (hts _ (gl_of (p := 416) (by decide +kernel) rfl)) hf (by rw [cat_sum]; show catS st + 13 ≤ yw m; omega) r6 r7 (x := Int32.ofInt a) (y := Int32.ofInt b) h1 ?_
  rw [← h2]
  have := k1 hls (okSt_c (by show inR _; split <;> assumption) (okSt_t (okSt_t hst))) H locs cells slots lsA R L
  have e9 : (if Int32.ofInt a < Int32.ofInt b then Int32.ofInt b else Int32.ofInt a) = Int32.ofInt (if a < b then b else a) := by
    by_cases h : a < b
    · rw [if_pos ((ofI_lt ha hb).mpr h), if_pos h]
    · rw [if_neg (fun h9 => h ((ofI_lt ha hb).mp h9)), if_neg h]
  rw [e9]
  exact this
theorem s_min (C : CtxOK X) (E : GE X m z K Q p e s mi args below meth c) {k : Nat} {a b : Int} (hd : dk m i (.invokestatic k) 3 = true) (hw : wk m i (.methodLink (yn m).cls k Lib.Math.min.name) = true) (hf : 1 ≤ yf m) (hlo : 21 ≤ yw m) (hcat : catS st ≤ 8)
    (k1 : Gw X m z Q p e s mi args below meth c (i + 1) ls (aI (if b < a then b else a) :: st) M) : Gw X m z Q p e s mi args below meth c i ls (aI b :: aI a :: st) M := by
  intro hls hst H locs cells slots lsA R L
  obtain ⟨h1, h2⟩ := dk_ok hd
  have hts := gl_hts C E.2.2.2.2.1 args
  have hb : inR b := okSt_h hst
  have ha : inR a := okSt_h (okSt_t hst)
  have r6 := R.2.2.2.2.2.1
  have r7 := R.2.2.2.2.2.2
  refine va_mmin E.1 E.2.1 (by rw [E.2.2.1]; exact L.1.symm) E.2.2.2.1 (hts _ (gl_of (wk_ok hw) rfl)) (hts _ (gl_of (p := 735) (by decide +kernel) rfl)) (hts _ (gl_of (p := 96) (by decide +kernel) rfl)) (hts _ (gl_of (p := 736) (by decide +kernel) rfl)) hf (by rw [cat_sum]; show catS st + 13 ≤ yw m; omega) r6 r7 (x := Int32.ofInt a) (y := Int32.ofInt b) h1 ?_
  rw [← h2]
  have := k1 hls (okSt_c (by show inR _; split <;> assumption) (okSt_t (okSt_t hst))) H locs cells slots lsA R L
  have e9 : (if Int32.ofInt b < Int32.ofInt a then Int32.ofInt b else Int32.ofInt a) = Int32.ofInt (if b < a then b else a) := by
    by_cases h : b < a
    · rw [if_pos ((ofI_lt hb ha).mpr h), if_pos h]
    · rw [if_neg (fun h9 => h ((ofI_lt hb ha).mp h9)), if_neg h]
  rw [e9]
  exact this
end CALL
