/-! steps that make cells, call, return; all steps together -/
section CALL
variable {X : CX} {m : Nat} {z : JZ} {Q : State → Prop} {p : Program} {e : Env} {s : State} {mi : MethodId} {args : Array Value} {below : List Frame} {meth : Method} {c : Code} {K : Option AV → Mem → Prop} {i : Nat} {ls : List (Option AV)} {st : List AV} {M : Mem}
/-- a new cell's address is the next one -/
theorem new_at {M' : Mem} {H H1 : Heap} {q : Nat} {ev : va_E} (R : Rep X M H) (hH : H.size = xb X + mZ M) (hP : va_P (xD X) jcl (wsX X M ++ [(q, ev)]) H1) (hD : va_D (xA X) (wsX X M ++ [(q, ev)])) (hsz : H1.size ≤ xb X + mZ M + 1) : q = xb X + mZ M := by
  have hlast : (wsX X M ++ [(q, ev)])[mZ M]? = some (q, ev) := by
    rw [List.getElem?_append_right (by rw [ws_len]; omega), ws_len, Nat.sub_self]
    rfl
  have h1 : q < H1.size := (hP _ _ hlast).lt
  have h2 : xb X ≤ q := hD.2 _ _ hlast
  by_cases h3 : q < xb X + mZ M
  · exfalso
    have h4 : (wsX X M ++ [(q, ev)])[q - xb X]? = some (xb X + (q - xb X), cellE X M (q - xb X)) := by
      rw [List.getElem?_append_left (by rw [ws_len]; omega), ws_get (by omega)]
    have := hD.1 _ _ _ _ h4 hlast (by show xb X + (q - xb X) = q; omega)
    omega
  · omega
theorem Rep.uN {H1 : Heap} {H : Heap} {kd n : Nat} (R : Rep X M H) (hb : mZ M < BIG) (hk : kd ≠ 25) (hn : n < 2147483648) (hP : va_P (xD X) jcl (wsX X (uN M kd n)) H1) : Rep X (uN M kd n) H1 := by
  obtain ⟨-, h2, h3, h4, h5, h6⟩ := R
  refine ⟨hP, by rw [mZ_uN]; omega, fun b j => ?_, fun b hb1 => ?_, fun b hb1 => ⟨?_, ?_, fun j => ?_⟩, fun b => ?_⟩
  · rw [mI_uN]; split
    · exact inR_0
    · exact h3 b j
  · rw [mK_uN] at hb1 ⊢
    rw [mZ_uN]
    split at hb1
    · rename_i h; left; rw [if_pos h]; exact ⟨by omega, hk⟩
    · rename_i h; rw [if_neg h]
      rcases h4 b hb1 with h9 | h9
      · left; exact ⟨by omega, h9.2⟩
      · right; exact h9
  · rw [mK_uN, if_neg (by omega)]; exact (h5 b hb1).1
  · rw [mN_uN, if_neg (by omega)]; exact (h5 b hb1).2.1
  · rw [mI_uN, if_neg (by omega)]; exact (h5 b hb1).2.2 j
  · rw [mN_uN]; split
    · exact hn
    · exact h6 b
theorem s_made (E : GE X m z K Q p e s mi args below meth c) {kd n len : Nat} {H : Heap} {locs : List Loc} {cells slots : Nat} {lsA : Array Slot} (R : RG X z s M H locs cells slots) (hls : okLs ls) (hst : okSt st) (L : LR X ls (yl m) lsA) (hZ : mZ M + 1 ≤ z.1 + z.2.2.1) (hS : mS M + n ≤ z.2.1 + z.2.2.2) (hb : mZ M < BIG) (hk : kd ≠ 25) (hn : n < 2147483648) (h2 : pb m (i + 1) = pb m i + len)
    (k1 : Gw X m z Q p e s mi args below meth c (i + 1) ls (aR (some (mZ M)) :: st) (uN M kd n)) (ev : va_E) (hev : cellE X (uN M kd n) (mZ M) = ev) (q : Nat) (H1 : Heap) (hP1 : va_P (xD X) jcl (wsX X M ++ [(q, ev)]) H1) (hD1 : va_D (xA X) (wsX X M ++ [(q, ev)])) (hS1 : va_S (xA X) s.heap H1 locs) :
    W p (xl X) e (rmz m z) s mi args below meth c H1 locs (cells + 1) (slots + n) Q (F0 mi (pb m i + len) lsA (.ref q :: st.map (cv X))) := by
  have h7 : s.heap.size = xb X + z.1 := E.2.2.2.2.2.2.1
  have r4 := R.2.2.2.1
  have r5 := R.2.2.2.2.1
  intro T hT XX
  have hsz : H1.size ≤ xb X + mZ M + 1 := by
    have h := XX.same.2.2.1
    have h9 : T.heap.size ≤ s.heap.size + (cells + 1) := h
    rw [hT] at h9
    omega
  have hq := new_at (M' := M) R.1 R.2.2.1 hP1 hD1 hsz
  subst hq
  have hws : wsX X (uN M kd n) = wsX X M ++ [(xb X + mZ M, ev)] := by
    rw [← hev]
    exact ws_push (mZ_uN M kd n) (fun b hb => cellE_congr (by rw [mK_uN, if_neg (by omega)]) (by rw [mN_uN, if_neg (by omega)]) (fun j => by rw [mI_uN, if_neg (by omega)]) (fun j => by rw [mR_uN, if_neg (by omega)]))
  rw [← hws] at hP1
  have hR := R.1.uN hb hk hn hP1
  refine W_RG E hR hS1 (by rw [mZ_uN]; omega) (by rw [mS_uN]; omega) (by omega) (by omega) (fun R1 => ?_) T hT XX
  have hcv : cv X (aR (some (mZ M))) = .ref (xb X + mZ M) := cv_ref hR (by rw [mZ_uN]; omega)
  rw [← h2, ← hcv]
  exact k1 hls (okSt_c trivial hst) H1 locs (cells + 1) (slots + n) lsA R1 L
theorem s_new (C : CtxOK X) (E : GE X m z K Q p e s mi args below meth c) {k cc n : Nat} (hd : dk m i (.new k) 3 = true) (hw : wk m i (.classLink (yn m).cls k (kR cc)) = true) (hc : cc < 9) (hn : n = kN cc) (hins : Jvm.Cond.instantiable (kR cc) (kN cc) ∈ gl) (hini : Jvm.Cond.initialized (kR cc) ∈ gl)
    (hZ : mZ M + 1 ≤ z.1 + z.2.2.1) (hS : mS M + n ≤ z.2.1 + z.2.2.2) (hb : mZ M < BIG) (hn2 : kN cc < 100)
    (k1 : Gw X m z Q p e s mi args below meth c (i + 1) ls (aR (some (mZ M)) :: st) (uN M cc n)) : Gw X m z Q p e s mi args below meth c i ls st M := by
  intro hls hst H locs cells slots lsA R L
  obtain ⟨h1, h2⟩ := dk_ok hd
  have r4 := R.2.2.2.1
  have r5 := R.2.2.2.2.1
  subst hn
  have hA : ∀ q : Nat, s.heap.size ≤ q → xA X q := fun q hq => by
    have h7 : s.heap.size = xb X + z.1 := E.2.2.2.2.2.2.1
    show xb X ≤ q
    omega
  have hts := gl_hts C E.2.2.2.2.1 args
  have hev : cellE X (uN M cc (kN cc)) (mZ M) = .inr (cc, (List.range (kN cc)).map (fun j => defaultValue (kY cc j))) := by
    rw [cellE_obj (by rw [mK_uN, if_pos rfl]) hc]
    congr 2
    apply List.map_congr_left
    intro j hj
    have h := hkf hc (List.mem_range.mp hj)
    unfold fldV
    rw [mI_uN, mR_uN, if_pos rfl, if_pos rfl]
    by_cases h0 : kF cc j = 0
    · rw [if_pos h0, decide_eq_true_eq] at h
      rw [if_neg (by omega), h]
      rfl
    · rw [if_neg h0] at h
      by_cases h3 : kF cc j = 2
      · rw [if_pos h3, decide_eq_true_eq] at h
        rw [if_neg (by omega), h]
        rfl
      · rw [if_neg h3, decide_eq_true_eq] at h
        have h9 : kF cc j = 1 := by
          have : (List.range 9).all (fun c => (List.range (kN c)).all (fun k => decide (kF c k ≤ 2))) = true := by decide +kernel
          have := of_decide_eq_true (List.all_eq_true.mp (List.all_eq_true.mp this cc (List.mem_range.mpr hc)) j hj)
          omega
        rw [if_pos h9]
        revert h
        cases kY cc j <;> intro h <;> first | rfl | (exfalso; revert h; decide)
  exact va_new (D := xD X) (cl := jcl) (ci := cc) (C := kR cc) (T := kT cc) (N := kN cc) (fs := (List.range (kN cc)).map (fun j => defaultValue (kY cc j))) E.1 E.2.1 hts (hin hc) (kY cc) (hty hc) E.2.2.2.1 (hts _ (gl_of (wk_ok hw) rfl)) (hts _ hins) (hts _ hini) (ge_K C E) R.1.1 (ws_D X M) R.2.1 hA (jcl_at hc) (fun j hj => by simp [vp_V, hj]) (by show cells + 1 ≤ z.2.2.1; omega) (by show slots + kN cc ≤ z.2.2.2; omega) h1
    (fun q H1 hP1 hD1 hS1 => s_made E R hls hst L hZ hS hb (by omega) (by omega) h2 k1 _ hev q H1 hP1 hD1 hS1)
end CALL
