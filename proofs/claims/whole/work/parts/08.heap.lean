/-! steps that read and write cells -/
theorem ref_fit {ty : FieldType} (h : ty.isReference = true) (a : Nat) : narrow ty (.ref a) = .ref a ∧ fits ty (.ref a) = true := by
  cases ty <;> simp_all [FieldType.isReference, narrow, fits]
theorem nar_b {v : Int} (h : v = 0 ∨ v = 1) : narrow .boolean (.int (Int32.ofInt v)) = .int (Int32.ofInt v) ∧ fits .boolean (.int (Int32.ofInt v)) = true := by
  rcases h with rfl | rfl <;> exact ⟨by decide +kernel, by decide +kernel⟩
section HEAP
variable {X : CX} {m : Nat} {z : JZ} {Q : State → Prop} {p : Program} {e : Env} {s : State} {mi : MethodId} {args : Array Value} {below : List Frame} {meth : Method} {c : Code} {K : Option AV → Mem → Prop} {i : Nat} {ls : List (Option AV)} {st : List AV} {M : Mem}
theorem ge_K (C : CtxOK X) (E : GE X m z K Q p e s mi args below meth c) : va_K (xD X) jcl (tyX X) s := va_K.moved E.2.2.2.2.1.alike C.2.1
theorem fld_get {a cc f : Nat} (hf : f < kN cc) : ((List.range (kN cc)).map (fldV X M a cc))[f]? = some (fldV X M a cc f) := by
  simp [hf]
theorem s_get (C : CtxOK X) (E : GE X m z K Q p e s mi args below meth c) {k cc f a : Nat} {v : AV} (hd : dk m i (.getfield k) 3 = true) (hw : wk m i (.fieldLink (yn m).cls k (kR cc) (kT cc f).2.1 (kT cc f).2.2.1) = true) (hf : f < kN cc) (hc : cc < 9) (hT : (kT cc f).1 = kR cc) (hk : mK M a = cc)
    (hv : fldV X M a cc f = cv X v) (hok : (∀ a k, inR (mI M a k)) → okV v) (k1 : Gw X m z Q p e s mi args below meth c (i + 1) ls (v :: st) M) : Gw X m z Q p e s mi args below meth c i ls (aR (some a) :: st) M := by
  intro hls hst H locs cells slots lsA R L
  obtain ⟨h1, h2⟩ := dk_ok hd
  have ha : a < mZ M := R.1.in C (by omega) (by omega)
  rw [List.map_cons, cv_ref R.1 ha]
  refine va_get (D := xD X) (cl := jcl) (ci := cc) (v := cv X v) (C := kR cc) (T := kT cc) (N := kN cc) (ref := kR cc) E.1 E.2.1 (gl_hts C E.2.2.2.2.1 args) (hin hc) E.2.2.2.1 (ge_K C E) R.1.1 a (by rw [ws_get ha, cellE_obj hk hc]) (jcl_at hc) f hf (gl_hts C E.2.2.2.2.1 args _ (gl_of (wk_ok hw) rfl)) (fun _ h => by rw [hT] at h; exact h) (by rw [fld_get hf, hv]) h1 ?_
  rw [← h2]
  exact k1 hls (okSt_c (hok R.1.2.2.1) (okSt_t hst)) H locs cells slots lsA R L
theorem Rep.uI {H H1 : Heap} {a k : Nat} {v : Int} (R : Rep X M H) (ha : a < mZ M) (hv : inR v) (hP : va_P (xD X) jcl (wsX X (uI M a k v)) H1) : Rep X (uI M a k v) H1 := by
  obtain ⟨-, h2, h3, h4, h5, h6⟩ := R
  refine ⟨hP, h2, fun b j => ?_, h4, fun b hb => ⟨(h5 b hb).1, (h5 b hb).2.1, fun j => ?_⟩, h6⟩
  · rw [mI_uI]
    split
    · exact hv
    · exact h3 b j
  · rw [mI_uI, if_neg (by omega)]
    exact (h5 b hb).2.2 j
theorem Rep.uR {H H1 : Heap} {a k : Nat} {v : Option Nat} (R : Rep X M H) (hP : va_P (xD X) jcl (wsX X (uR M a k v)) H1) : Rep X (uR M a k v) H1 := by
  obtain ⟨-, h2, h3, h4, h5, h6⟩ := R
  exact ⟨hP, h2, h3, h4, h5, h6⟩
theorem ws_uI {a k : Nat} {v : Int} : wsX X (uI M a k v) = (wsX X M).set a (xb X + a, cellE X (uI M a k v) a) := ws_set rfl (fun b hb => cellE_congr rfl rfl (fun j => by rw [mI_uI, if_neg (fun h => hb h.1)]) (fun _ => rfl))
theorem ws_uR {a k : Nat} {v : Option Nat} : wsX X (uR M a k v) = (wsX X M).set a (xb X + a, cellE X (uR M a k v) a) := ws_set rfl (fun b hb => cellE_congr rfl rfl (fun _ => rfl) (fun j => by rw [mR_uR, if_neg (fun h => hb h.1)]))
theorem s_put (C : CtxOK X) (E : GE X m z K Q p e s mi args below meth c) {k cc f a : Nat} {v : AV} {M' : Mem} (hd : dk m i (.putfield k) 3 = true) (hw : wk m i (.fieldLink (yn m).cls k (kR cc) (kT cc f).2.1 (kT cc f).2.2.1) = true) (hf : f < kN cc) (hc : cc < 9) (hT : (kT cc f).1 = kR cc) (hk : mK M a = cc)
    (hfin : (kT cc f).2.2.2 = false ∨ ((yn m).name = "<init>" ∧ kR cc = (yn m).cls)) (hnf : narrow (kY cc f) (cv X v) = cv X v ∧ fits (kY cc f) (cv X v) = true)
    (hws : wsX X M' = (wsX X M).set a (xb X + a, .inr (cc, ((List.range (kN cc)).map (fldV X M a cc)).set f (cv X v)))) (hR : ∀ {H H1 : Heap}, Rep X M H → va_P (xD X) jcl (wsX X M') H1 → Rep X M' H1) (hZ : mZ M' = mZ M) (hS : mS M' = mS M)
    (k1 : Gw X m z Q p e s mi args below meth c (i + 1) ls st M') : Gw X m z Q p e s mi args below meth c i ls (v :: aR (some a) :: st) M := by
  intro hls hst H locs cells slots lsA R L
  obtain ⟨h1, h2⟩ := dk_ok hd
  have ha : a < mZ M := R.1.in C (by omega) (by omega)
  rw [List.map_cons, List.map_cons, cv_ref R.1 ha]
  have hfs : f < ((List.range (kN cc)).map (fldV X M a cc)).length := by simp [hf]
  have fin : ∀ (H1 : Heap) (locs1 : List Loc), va_P (xD X) jcl ((wsX X M).set a (xb X + a, .inr (cc, ((List.range (kN cc)).map (fldV X M a cc)).set f (cv X v)))) H1 → va_D (xA X) ((wsX X M).set a (xb X + a, .inr (cc, ((List.range (kN cc)).map (fldV X M a cc)).set f (cv X v)))) → va_S (xA X) s.heap H1 locs1 → W p (xl X) e (rmz m z) s mi args below meth c H1 locs1 cells slots Q (F0 mi (pb m i + 3) lsA (st.map (cv X))) := by
    intro H1 locs1 hP1 _ hS1
    rw [← hws] at hP1
    refine W_RG E (hR R.1 hP1) hS1 (by rw [hZ]; exact R.2.2.2.1) (by rw [hS]; exact R.2.2.2.2.1) R.2.2.2.2.2.1 R.2.2.2.2.2.2 (fun R1 => ?_)
    rw [← h2]
    exact k1 hls (okSt_t (okSt_t hst)) H1 locs1 cells slots lsA R1 L
  have hlink := gl_hts C E.2.2.2.2.1 args _ (gl_of (wk_ok hw) rfl)
  rcases hfin with h9 | ⟨h9, h10⟩
  · exact va_put (D := xD X) (cl := jcl) (ci := cc) (v := cv X v) (ty := kY cc f) (C := kR cc) (T := kT cc) (N := kN cc) (ref := kR cc) E.1 E.2.1 (gl_hts C E.2.2.2.2.1 args) (hin hc) (kY cc) (hty hc) (hnm hc) E.2.2.2.1 (ge_K C E) R.1.1 (ws_D X M) R.2.1 a (by rw [ws_get ha, cellE_obj hk hc]) (jcl_at hc) f hf hlink (fun _ h => by rw [hT] at h; exact h) h9 (hty hc f hf) hnf.1 hnf.2 hfs h1 fin
  · by_cases h11 : (kT cc f).2.2.2 = true
    · exact va_putF (D := xD X) (cl := jcl) (ci := cc) (v := cv X v) (ty := kY cc f) (C := kR cc) (T := kT cc) (N := kN cc) (ref := kR cc) E.1 E.2.1 (gl_hts C E.2.2.2.2.1 args) (hin hc) (kY cc) (hty hc) (hnm hc) E.2.2.2.1 (ge_K C E) R.1.1 (ws_D X M) R.2.1 a (by rw [ws_get ha, cellE_obj hk hc]) (jcl_at hc) f hf hlink (fun _ h => by rw [hT] at h; exact h) h11 (E.2.2.2.2.2.2.2.1.trans h9) (hT.trans h10) (hty hc f hf) hnf.1 hnf.2 hfs h1 fin
    · exact va_put (D := xD X) (cl := jcl) (ci := cc) (v := cv X v) (ty := kY cc f) (C := kR cc) (T := kT cc) (N := kN cc) (ref := kR cc) E.1 E.2.1 (gl_hts C E.2.2.2.2.1 args) (hin hc) (kY cc) (hty hc) (hnm hc) E.2.2.2.1 (ge_K C E) R.1.1 (ws_D X M) R.2.1 a (by rw [ws_get ha, cellE_obj hk hc]) (jcl_at hc) f hf hlink (fun _ h => by rw [hT] at h; exact h) (by simpa using h11) (hty hc f hf) hnf.1 hnf.2 hfs h1 fin
theorem s_putI (C : CtxOK X) (E : GE X m z K Q p e s mi args below meth c) {k cc f a : Nat} {v : Int} (hd : dk m i (.putfield k) 3 = true) (hw : wk m i (.fieldLink (yn m).cls k (kR cc) (kT cc f).2.1 (kT cc f).2.2.1) = true) (hf : f < kN cc) (hc : cc < 9) (hT : (kT cc f).1 = kR cc) (hk : mK M a = cc)
    (hfin : (kT cc f).2.2.2 = false ∨ ((yn m).name = "<init>" ∧ kR cc = (yn m).cls)) (hkd : kF cc f = 0 ∨ (kF cc f = 2 ∧ (v = 0 ∨ v = 1)))
    (k1 : Gw X m z Q p e s mi args below meth c (i + 1) ls st (uI M a f v)) : Gw X m z Q p e s mi args below meth c i ls (aI v :: aR (some a) :: st) M := by
  intro hls hst H locs cells slots lsA R L
  have hv : inR v := okSt_h hst
  have ha : a < mZ M := R.1.in C (by omega) (by omega)
  have hne : ¬ kF cc f = 1 := by omega
  have hnf : narrow (kY cc f) (cv X (aI v)) = cv X (aI v) ∧ fits (kY cc f) (cv X (aI v)) = true := by
    have h := hkf hc hf
    rcases hkd with h0 | ⟨h2, h3⟩
    · rw [if_pos h0, decide_eq_true_eq] at h
      rw [h]
      exact ⟨rfl, rfl⟩
    · rw [if_neg (by omega), if_pos h2, decide_eq_true_eq] at h
      rw [h]
      exact nar_b h3
  refine s_put (v := aI v) (M' := uI M a f v) C E hd hw hf hc hT hk hfin hnf ?_ (fun R9 hP => R9.uI ha hv hP) rfl rfl k1 hls hst H locs cells slots lsA R L
  rw [ws_uI, cellE_obj (M := uI M a f v) hk hc]
  rw [map_set_fld (M := M) (M' := uI M a f v) (k := f) (v := cv X (aI v)) (by unfold fldV; rw [if_neg hne, mI_uI, if_pos ⟨rfl, rfl⟩]; rfl) (fun j hj => by unfold fldV; rw [mI_uI, if_neg (c := a = a ∧ j = f) (fun h => hj h.2)]; rfl)]
theorem s_putR (C : CtxOK X) (E : GE X m z K Q p e s mi args below meth c) {k cc f a v : Nat} (hd : dk m i (.putfield k) 3 = true) (hw : wk m i (.fieldLink (yn m).cls k (kR cc) (kT cc f).2.1 (kT cc f).2.2.1) = true) (hf : f < kN cc) (hc : cc < 9) (hT : (kT cc f).1 = kR cc) (hk : mK M a = cc)
    (hfin : (kT cc f).2.2.2 = false ∨ ((yn m).name = "<init>" ∧ kR cc = (yn m).cls)) (hkd : kF cc f = 1)
    (k1 : Gw X m z Q p e s mi args below meth c (i + 1) ls st (uR M a f (some v))) : Gw X m z Q p e s mi args below meth c i ls (aR (some v) :: aR (some a) :: st) M := by
  intro hls hst H locs cells slots lsA R L
  have hnf : narrow (kY cc f) (cv X (aR (some v))) = cv X (aR (some v)) ∧ fits (kY cc f) (cv X (aR (some v))) = true := by
    have h := hkf hc hf
    rw [if_neg (by omega), if_neg (by omega), decide_eq_true_eq] at h
    exact ref_fit h _
  refine s_put (v := aR (some v)) (M' := uR M a f (some v)) C E hd hw hf hc hT hk hfin hnf ?_ (fun R9 hP => R9.uR hP) rfl rfl k1 hls hst H locs cells slots lsA R L
  rw [ws_uR, cellE_obj (M := uR M a f (some v)) hk hc]
  rw [map_set_fld (M := M) (M' := uR M a f (some v)) (k := f) (v := cv X (aR (some v))) (by unfold fldV; rw [if_pos hkd, mR_uR, if_pos ⟨rfl, rfl⟩]; rfl) (fun j hj => by unfold fldV; rw [mR_uR, if_neg (c := a = a ∧ j = f) (fun h => hj h.2)]; rfl)]
theorem s_iald (C : CtxOK X) (E : GE X m z K Q p e s mi args below meth c) {a : Nat} {j : Int} (hd : dk m i .iaload 1 = true) (hk : mK M a = 20 ∨ mK M a = 25) (h0 : 0 ≤ j) (hn : j < mN M a)
    (k1 : Gw X m z Q p e s mi args below meth c (i + 1) ls (aI (mI M a j.toNat) :: st) M) : Gw X m z Q p e s mi args below meth c i ls (aI j :: aR (some a) :: st) M := by
  intro hls hst H locs cells slots lsA R L
  obtain ⟨h1, h2⟩ := dk_ok hd
  have hj : inR j := okSt_h hst
  have fin : W p (xl X) e (rmz m z) s mi args below meth c H locs cells slots Q (F0 mi (pb m i + 1) lsA (.int (Int32.ofInt (mI M a j.toNat)) :: st.map (cv X))) := by
    rw [← h2]
    exact k1 hls (okSt_c (R.1.2.2.1 a j.toNat) (okSt_t (okSt_t hst))) H locs cells slots lsA R L
  rw [List.map_cons, List.map_cons]
  rcases hk with hk | hk
  · have ha : a < mZ M := R.1.in C (by omega) (by omega)
    rw [cv_ref R.1 ha]
    refine va_iald (D := xD X) (cl := jcl) E.1 E.2.1 (ge_K C E) R.1.1 a 0 (cA := xc X 20) (n := mN M a) (f := fun j => Int32.ofInt (mI M a j)) (by rw [ws_get ha, cellE_arr (by omega) (by omega), hk]) rfl (ofI_in hj h0 hn) h1 ?_
    rw [ofI_nat hj]
    exact fin
  · have hb : BIG ≤ a := by
      rcases R.1.2.2.2.1 a (by omega) with h | h
      · exact absurd hk h.2
      · exact h
    obtain ⟨e1, e2, e3⟩ := R.1.2.2.2.2.1 a hb
    rcases C.2.2.1 a hb with h4 | ⟨-, h4⟩
    · omega
    · have h5 := va_T.kept (va_T.moved E.2.2.2.2.1.alike h4) (H1 := s.heap) (fun q hq hqa => E.2.2.2.2.2.1 q hq)
      have hcv : cv X (aR (some a)) = .ref (xa X a) := by
        show va_rf (some (ad X a)) = _
        unfold ad
        rw [if_neg (by omega)]
        rfl
      rw [hcv]
      refine va_ti E.1 E.2.1 h5 R.2.1 (i := Int32.ofInt j) (ofI_in hj h0 (by rw [← e2]; exact hn)) (v := .int (Int32.ofInt (mI M a j.toNat))) ?_ h1 fin
      rw [ofI_nat hj, e3]
theorem s_zald (C : CtxOK X) (E : GE X m z K Q p e s mi args below meth c) {a : Nat} {j : Int} (hd : dk m i .baload 1 = true) (hk : mK M a = 21) (h0 : 0 ≤ j) (hn : j < mN M a)
    (k1 : Gw X m z Q p e s mi args below meth c (i + 1) ls (aI (mI M a j.toNat) :: st) M) : Gw X m z Q p e s mi args below meth c i ls (aI j :: aR (some a) :: st) M := by
  intro hls hst H locs cells slots lsA R L
  obtain ⟨h1, h2⟩ := dk_ok hd
  have hj : inR j := okSt_h hst
  rw [List.map_cons, List.map_cons]
  have ha : a < mZ M := R.1.in C (by omega) (by omega)
  rw [cv_ref R.1 ha]
  refine va_zald (D := xD X) (cl := jcl) E.1 E.2.1 (ge_K C E) R.1.1 a 1 (cA := xc X 21) (n := mN M a) (f := fun j => Int32.ofInt (mI M a j)) (by rw [ws_get ha, cellE_arr (by omega) (by omega), hk]) rfl (ofI_in hj h0 hn) h1 ?_
  rw [ofI_nat hj, ← h2]
  exact k1 hls (okSt_c (R.1.2.2.1 a j.toNat) (okSt_t (okSt_t hst))) H locs cells slots lsA R L
def rkd (k : Nat) : Nat := if k = 31 then 2 else if k = 32 then 3 else 4
theorem ty_rk {k : Nat} (h : k = 31 ∨ k = 32 ∨ k = 37) : (tyX X)[rkd k]? = some (xc X k, .object (kR (k - 30))) := by
  rcases h with rfl | rfl | rfl <;> rfl
theorem s_aald (C : CtxOK X) (E : GE X m z K Q p e s mi args below meth c) {a : Nat} {j : Int} (hd : dk m i .aaload 1 = true) (hk : mK M a = 31 ∨ mK M a = 32 ∨ mK M a = 37) (h0 : 0 ≤ j) (hn : j < mN M a)
    (k1 : Gw X m z Q p e s mi args below meth c (i + 1) ls (aR (mR M a j.toNat) :: st) M) : Gw X m z Q p e s mi args below meth c i ls (aI j :: aR (some a) :: st) M := by
  intro hls hst H locs cells slots lsA R L
  obtain ⟨h1, h2⟩ := dk_ok hd
  have hj : inR j := okSt_h hst
  rw [List.map_cons, List.map_cons]
  have ha : a < mZ M := R.1.in C (by omega) (by omega)
  rw [cv_ref R.1 ha]
  refine va_aldq (D := xD X) (cl := jcl) E.1 E.2.1 (ge_K C E) R.1.1 a (rkd (mK M a)) (cA := xc X (mK M a)) (C := kR (mK M a - 30)) (n := mN M a) (f := fun j => (mR M a j).map (ad X)) (by rw [ws_get ha, cellE_ref (by omega)]) (ty_rk hk) (ofI_in hj h0 hn) h1 ?_
  rw [ofI_nat hj, ← h2]
  exact k1 hls (okSt_c trivial (okSt_t (okSt_t hst))) H locs cells slots lsA R L
theorem s_iast (C : CtxOK X) (E : GE X m z K Q p e s mi args below meth c) {a : Nat} {j v : Int} (hd : dk m i .iastore 1 = true) (hk : mK M a = 20) (h0 : 0 ≤ j) (hn : j < mN M a)
    (k1 : Gw X m z Q p e s mi args below meth c (i + 1) ls st (uI M a j.toNat v)) : Gw X m z Q p e s mi args below meth c i ls (aI v :: aI j :: aR (some a) :: st) M := by
  intro hls hst H locs cells slots lsA R L
  obtain ⟨h1, h2⟩ := dk_ok hd
  have hv : inR v := okSt_h hst
  have hj : inR j := okSt_h (okSt_t hst)
  rw [List.map_cons, List.map_cons, List.map_cons]
  have ha : a < mZ M := R.1.in C (by omega) (by omega)
  rw [cv_ref R.1 ha]
  refine va_iast (D := xD X) (cl := jcl) E.1 E.2.1 (ge_K C E) R.1.1 (ws_D X M) R.2.1 a 0 (cA := xc X 20) (n := mN M a) (f := fun j => Int32.ofInt (mI M a j)) (by rw [ws_get ha, cellE_arr (by omega) (by omega), hk]) rfl (ofI_in hj h0 hn) h1 (fun H1 locs1 hP1 _ hS1 => ?_)
  have hws : wsX X (uI M a j.toNat v) = (wsX X M).set a (xb X + a, .inl (xc X 20, mN M a, .inl (upd (fun j => Int32.ofInt (mI M a j)) (Int32.ofInt j).toNatClampNeg (Int32.ofInt v)))) := by
    rw [ws_uI, cellE_arr (M := uI M a j.toNat v) (by rw [mK_uI]; omega) (by rw [mK_uI]; omega), mK_uI, hk, mN_uI, ofI_nat hj]
    congr 6
    funext q
    rw [mI_uI]
    by_cases hq : q = j.toNat
    · rw [if_pos ⟨rfl, hq⟩]; simp [upd, hq]
    · rw [if_neg (fun h => hq h.2)]; simp [upd, hq]
  rw [← hws] at hP1
  refine W_RG E (R.1.uI ha hv hP1) hS1 R.2.2.2.1 R.2.2.2.2.1 R.2.2.2.2.2.1 R.2.2.2.2.2.2 (fun R1 => ?_)
  rw [← h2]
  exact k1 hls (okSt_t (okSt_t (okSt_t hst))) H1 locs1 cells slots lsA R1 L
theorem s_zast (C : CtxOK X) (E : GE X m z K Q p e s mi args below meth c) {a : Nat} {j v : Int} (hd : dk m i .bastore 1 = true) (hk : mK M a = 21) (h0 : 0 ≤ j) (hn : j < mN M a) (hb : v = 0 ∨ v = 1)
    (k1 : Gw X m z Q p e s mi args below meth c (i + 1) ls st (uI M a j.toNat v)) : Gw X m z Q p e s mi args below meth c i ls (aI v :: aI j :: aR (some a) :: st) M := by
  intro hls hst H locs cells slots lsA R L
  obtain ⟨h1, h2⟩ := dk_ok hd
  have hv : inR v := okSt_h hst
  have hj : inR j := okSt_h (okSt_t hst)
  rw [List.map_cons, List.map_cons, List.map_cons]
  have ha : a < mZ M := R.1.in C (by omega) (by omega)
  rw [cv_ref R.1 ha]
  have hnb : vp_nar .boolean (Int32.ofInt v) = Int32.ofInt v := by rcases hb with rfl | rfl <;> decide +kernel
  refine va_zast (D := xD X) (cl := jcl) E.1 E.2.1 (ge_K C E) R.1.1 (ws_D X M) R.2.1 a 1 (cA := xc X 21) (n := mN M a) (f := fun j => Int32.ofInt (mI M a j)) (by rw [ws_get ha, cellE_arr (by omega) (by omega), hk]) rfl (ofI_in hj h0 hn) h1 (fun H1 locs1 hP1 _ hS1 => ?_)
  have hws : wsX X (uI M a j.toNat v) = (wsX X M).set a (xb X + a, .inl (xc X 21, mN M a, .inl (upd (fun j => Int32.ofInt (mI M a j)) (Int32.ofInt j).toNatClampNeg (vp_nar .boolean (Int32.ofInt v))))) := by
    rw [ws_uI, cellE_arr (M := uI M a j.toNat v) (by rw [mK_uI]; omega) (by rw [mK_uI]; omega), mK_uI, hk, mN_uI, ofI_nat hj, hnb]
    congr 6
    funext q
    rw [mI_uI]
    by_cases hq : q = j.toNat
    · rw [if_pos ⟨rfl, hq⟩]; simp [upd, hq]
    · rw [if_neg (fun h => hq h.2)]; simp [upd, hq]
  rw [← hws] at hP1
  refine W_RG E (R.1.uI ha hv hP1) hS1 R.2.2.2.1 R.2.2.2.2.1 R.2.2.2.2.2.1 R.2.2.2.2.2.2 (fun R1 => ?_)
  rw [← h2]
  exact k1 hls (okSt_t (okSt_t (okSt_t hst))) H1 locs1 cells slots lsA R1 L
theorem s_aast (C : CtxOK X) (E : GE X m z K Q p e s mi args below meth c) {a v : Nat} {j : Int} (hd : dk m i .aastore 1 = true) (hv : mK M v = 1 ∨ mK M v = 2 ∨ mK M v = 7) (hk : mK M a = 30 + mK M v) (h0 : 0 ≤ j) (hn : j < mN M a)
    (k1 : Gw X m z Q p e s mi args below meth c (i + 1) ls st (uR M a j.toNat (some v))) : Gw X m z Q p e s mi args below meth c i ls (aR (some v) :: aI j :: aR (some a) :: st) M := by
  intro hls hst H locs cells slots lsA R L
  obtain ⟨h1, h2⟩ := dk_ok hd
  have hj : inR j := okSt_h (okSt_t hst)
  rw [List.map_cons, List.map_cons, List.map_cons]
  have ha : a < mZ M := R.1.in C (by omega) (by omega)
  have hv' : v < mZ M := R.1.in C (by omega) (by omega)
  rw [cv_ref R.1 ha, cv_ref R.1 hv']
  refine va_astq (D := xD X) (cl := jcl) (r := (kR (mK M v), kT (mK M v), kN (mK M v))) E.1 E.2.1 (ge_K C E) R.1.1 (ws_D X M) R.2.1 a (rkd (mK M a)) v (mK M v) (cA := xc X (mK M a)) (n := mN M a) (f := fun j => (mR M a j).map (ad X)) (by rw [ws_get ha, cellE_ref (by omega)]) (by rw [ty_rk (by omega), hk]; rw [show 30 + mK M v - 30 = mK M v by omega]) (by rw [ws_get hv', cellE_obj rfl (by omega)]) (jcl_at (by omega)) (ofI_in hj h0 hn) h1 (fun H1 locs1 hP1 _ hS1 => ?_)
  have hws : wsX X (uR M a j.toNat (some v)) = (wsX X M).set a (xb X + a, .inl (xc X (mK M a), mN M a, .inr (.inr (.inr (.inr (va_up (fun j => (mR M a j).map (ad X)) (Int32.ofInt j).toNatClampNeg (some (xb X + v)))))))) := by
    rw [ws_uR, cellE_ref (M := uR M a j.toNat (some v)) (by rw [mK_uR]; omega), mK_uR, mN_uR, ofI_nat hj]
    congr 9
    funext q
    rw [mR_uR]
    by_cases hq : q = j.toNat
    · rw [if_pos ⟨rfl, hq⟩]; simp [va_up, hq, ad_in R.1 hv']
    · rw [if_neg (fun h => hq h.2)]; simp [va_up, hq]
  rw [← hws] at hP1
  refine W_RG E (R.1.uR hP1) hS1 R.2.2.2.1 R.2.2.2.2.1 R.2.2.2.2.2.1 R.2.2.2.2.2.2 (fun R1 => ?_)
  rw [← h2]
  exact k1 hls (okSt_t (okSt_t (okSt_t hst))) H1 locs1 cells slots lsA R1 L
theorem s_alen (C : CtxOK X) (E : GE X m z K Q p e s mi args below meth c) {a : Nat} (hd : dk m i .arraylength 1 = true) (hk : mK M a = 20 ∨ mK M a = 25 ∨ mK M a = 31 ∨ mK M a = 32 ∨ mK M a = 37)
    (k1 : Gw X m z Q p e s mi args below meth c (i + 1) ls (aI (mN M a) :: st) M) : Gw X m z Q p e s mi args below meth c i ls (aR (some a) :: st) M := by
  intro hls hst H locs cells slots lsA R L
  obtain ⟨h1, h2⟩ := dk_ok hd
  have hlen := R.1.2.2.2.2.2 a
  have fin : W p (xl X) e (rmz m z) s mi args below meth c H locs cells slots Q (F0 mi (pb m i + 1) lsA (.int (Int32.ofNat (mN M a)) :: st.map (cv X))) := by
    rw [← h2, ← Int32.ofInt_eq_ofNat]
    exact k1 hls (okSt_c ⟨by omega, by omega⟩ (okSt_t hst)) H locs cells slots lsA R L
  rw [List.map_cons]
  by_cases h25 : mK M a = 25
  · have hb : BIG ≤ a := by
      rcases R.1.2.2.2.1 a (by omega) with h | h
      · exact absurd h25 h.2
      · exact h
    obtain ⟨e1, e2, e3⟩ := R.1.2.2.2.2.1 a hb
    rcases C.2.2.1 a hb with h4 | ⟨-, h4⟩
    · omega
    · have h5 := va_T.kept (va_T.moved E.2.2.2.2.1.alike h4) (H1 := s.heap) (fun q hq hqa => E.2.2.2.2.2.1 q hq)
      have hcv : cv X (aR (some a)) = .ref (xa X a) := by
        show va_rf (some (ad X a)) = _
        unfold ad
        rw [if_neg (by omega)]
        rfl
      rw [hcv]
      exact va_tlen E.1 E.2.1 h5 R.2.1 (v := Int32.ofNat (mN M a)) (by rw [← e2]) h1 fin
  · have ha : a < mZ M := R.1.in C (by omega) h25
    rw [cv_ref R.1 ha]
    by_cases h20 : mK M a = 20
    · exact va_alen (D := xD X) (cl := jcl) E.1 E.2.1 (ge_K C E) R.1.1 a 0 (cA := xc X 20) (x := (mN M a, .inl (fun j => Int32.ofInt (mI M a j)))) (by rw [ws_get ha, cellE_arr (by omega) (by omega), h20]) (ty := .int) rfl rfl h1 fin
    · have h30 : mK M a = 31 ∨ mK M a = 32 ∨ mK M a = 37 := by omega
      exact va_alen (D := xD X) (cl := jcl) E.1 E.2.1 (ge_K C E) R.1.1 a (rkd (mK M a)) (cA := xc X (mK M a)) (x := (mN M a, .inr (.inr (.inr (.inr (fun j => (mR M a j).map (ad X))))))) (by rw [ws_get ha, cellE_ref (by omega)]) (ty := .object (kR (mK M a - 30))) (ty_rk h30) rfl h1 fin
theorem s_gets (C : CtxOK X) (E : GE X m z K Q p e s mi args below meth c) {k j : Nat} {x : Int} (hd : dk m i (.getstatic k) 3 = true) (hj : j < 3) (hw : (if x = 0 then wk m i (.fieldLink (yn m).cls k "JanetCones" (sN j) "[I") else wk m i (.fieldLinkNest (yn m).cls k "JanetCones" (sN j) "[I" "JanetCones")) = true)
    (k1 : Gw X m z Q p e s mi args below meth c (i + 1) ls (aR (some (BIG + j)) :: st) M) : Gw X m z Q p e s mi args below meth c i ls st M := by
  intro hls hst H locs cells slots lsA R L
  obtain ⟨h1, h2⟩ := dk_ok hd
  have hZ := va_Z.kept (va_Z.moved E.2.2.2.2.1.alike (C.2.2.2.1 j hj)) (H1 := s.heap) (fun q hq _ => E.2.2.2.2.2.1 q hq)
  have hcv : cv X (aR (some (BIG + j))) = .ref (xa X (BIG + j)) := by
    show va_rf (some (ad X (BIG + j))) = _
    unfold ad
    rw [if_neg (by omega)]
    rfl
  have fin : W p (xl X) e (rmz m z) s mi args below meth c H locs cells slots Q (F0 mi (pb m i + 3) lsA (.ref (xa X (BIG + j)) :: st.map (cv X))) := by
    rw [← h2, ← hcv]
    exact k1 hls (okSt_c trivial hst) H locs cells slots lsA R L
  by_cases hx : x = 0
  · rw [if_pos hx] at hw
    exact va_gets E.1 E.2.1 hZ R.2.1 E.2.2.2.1 (gl_hts C E.2.2.2.2.1 args _ (gl_of (wk_ok hw) rfl)) (fun _ h => h) h1 fin
  · rw [if_neg hx] at hw
    obtain ⟨a0, h0⟩ := C.1
    have hN := va_Nw.warmF E.2.2.2.2.1 (va_Nw.of rfl (h0 _ (List.mem_of_getElem? (wk_ok hw))))
    exact va_getsN E.1 E.2.1 hZ R.2.1 E.2.2.2.1 (va_Nw.use rfl hN) (fun _ h => h) h1 fin
end HEAP
