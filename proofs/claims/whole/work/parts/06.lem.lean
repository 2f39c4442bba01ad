/-! lemmas for the step's soundness -/
theorem ofI {a : Int} (h : inR a) : (Int32.ofInt a).toInt = a := Int32.toInt_ofInt_of_le (by have := h.1; omega) (by have := h.2; omega)
theorem ofI_inj {a b : Int} (ha : inR a) (hb : inR b) : Int32.ofInt a = Int32.ofInt b ↔ a = b := ⟨fun h => by rw [← ofI ha, ← ofI hb, h], fun h => by rw [h]⟩
theorem ofI_le {a b : Int} (ha : inR a) (hb : inR b) : Int32.ofInt a ≤ Int32.ofInt b ↔ a ≤ b := by rw [Int32.le_iff_toInt_le, ofI ha, ofI hb]
theorem ofI_lt {a b : Int} (ha : inR a) (hb : inR b) : Int32.ofInt a < Int32.ofInt b ↔ a < b := by rw [Int32.lt_iff_toInt_lt, ofI ha, ofI hb]
theorem ofI_nat {a : Int} (h : inR a) : (Int32.ofInt a).toNatClampNeg = a.toNat := by
  show (Int32.ofInt a).toInt.toNat = _
  rw [ofI h]
theorem ofI_in {a : Int} {n : Nat} (h : inR a) (h0 : 0 ≤ a) (hn : a < n) : vp_in (Int32.ofInt a) n := vp_in_iff.mpr ⟨by rw [ofI h]; exact h0, by rw [ofI h]; exact hn⟩
theorem inR_toInt (x : Int32) : inR x.toInt := ⟨by have := x.le_toInt; omega, by have := x.toInt_lt; omega⟩
theorem inR_0 : inR 0 := ⟨by omega, by omega⟩
theorem ofI_neg {a : Int} (h : inR a) (h0 : 0 ≤ a) : ¬ Int32.ofInt a < 0 := by
  rw [show (0 : Int32) = Int32.ofInt 0 from rfl, ofI_lt h inR_0]; omega
theorem ofI_ne0 {b : Int} (h : inR b) (h0 : 0 < b) : ¬ Int32.ofInt b = 0 := by
  rw [show (0 : Int32) = Int32.ofInt 0 from rfl, ofI_inj h inR_0]; omega
theorem ofI_div {a b : Int} (ha : inR a) (hb : inR b) (h0 : 0 ≤ a) (h1 : 0 < b) : Int32.ofInt a / Int32.ofInt b = Int32.ofInt (a / b) := by
  obtain ⟨n, rfl⟩ := Int.eq_ofNat_of_zero_le h0
  obtain ⟨d, rfl⟩ := Int.eq_ofNat_of_zero_le (Int.le_of_lt h1)
  have h := pk_div (a := n) (d := d) (by have := ha.2; omega) (by omega) (by have := hb.2; omega)
  rw [Int32.ofInt_eq_ofNat, Int32.ofInt_eq_ofNat]
  rw [show ((n : Int) / (d : Int)) = ((n / d : Nat) : Int) from rfl, Int32.ofInt_eq_ofNat]
  exact h
theorem ofI_rem {a b : Int} (ha : inR a) (hb : inR b) (h0 : 0 ≤ a) (h1 : 0 < b) : Int32.ofInt a - Int32.ofInt a / Int32.ofInt b * Int32.ofInt b = Int32.ofInt (a % b) := by
  obtain ⟨n, rfl⟩ := Int.eq_ofNat_of_zero_le h0
  obtain ⟨d, rfl⟩ := Int.eq_ofNat_of_zero_le (Int.le_of_lt h1)
  have h := pk_rem (a := n) (d := d) (by have := ha.2; omega) (by omega) (by have := hb.2; omega)
  rw [Int32.ofInt_eq_ofNat, Int32.ofInt_eq_ofNat]
  rw [show ((n : Int) % (d : Int)) = ((n % d : Nat) : Int) from rfl, Int32.ofInt_eq_ofNat]
  exact h
theorem inR_div {a b : Int} (ha : inR a) (h0 : 0 ≤ a) (h1 : 0 < b) : inR (a / b) := by
  have h2 : 0 ≤ a / b := Int.ediv_nonneg h0 (by omega)
  have h3 : a / b ≤ a := Int.ediv_le_self b h0
  exact ⟨by omega, by have := ha.2; omega⟩
theorem inR_mod {a b : Int} (hb : inR b) (h1 : 0 < b) : inR (a % b) := by
  have h2 : 0 ≤ a % b := Int.emod_nonneg a (by omega)
  have h3 : a % b < b := Int.emod_lt_of_pos a h1
  exact ⟨by omega, by have := hb.2; omega⟩
/-! good words -/
def gl : List Jvm.Cond := lw_tbl.filter goodWord
theorem gl_of {p : Nat} {w : Jvm.Cond} (h : lw_tbl[p]? = some w) (hg : goodWord w = true) : w ∈ gl := List.mem_filter.mpr ⟨List.mem_of_getElem? h, hg⟩
theorem gl_hts {X : CX} (C : CtxOK X) {U : State} (hW : (xs X).WarmedH U.vm) (a : Array Value) : ∀ w ∈ gl, w.before a U = true := by
  intro w hw
  obtain ⟨a0, h0⟩ := C.1
  obtain ⟨h1, h2⟩ := List.mem_filter.mp hw
  exact word_at hW (good_of_word h2) (h0 w h1)
theorem gl_good {ws : List Jvm.Cond} (h : ∀ w ∈ ws, w ∈ gl) : GoodIn gl ws := fun w hw => ⟨h w hw, good_of_word (List.mem_filter.mp (h w hw)).2⟩
theorem hin_b : (List.range 9).all (fun c => (u_ws (kR c) (kT c) (kN c)).all (fun w => decide (w ∈ lw_tbl) && goodWord w)) = true := by decide +kernel
theorem hin {c : Nat} (hc : c < 9) : ∀ w ∈ u_ws (kR c) (kT c) (kN c), w ∈ gl := by
  intro w hw
  have h := List.all_eq_true.mp hin_b c (List.mem_range.mpr hc)
  have h2 := List.all_eq_true.mp h w hw
  simp only [Bool.and_eq_true, decide_eq_true_eq] at h2
  exact List.mem_filter.mpr h2
theorem hty_b : (List.range 9).all (fun c => (List.range (kN c)).all (fun k => decide (parseFieldDescriptor (kT c k).2.2.1 = some (kY c k)))) = true := by decide +kernel
theorem hty {c : Nat} (hc : c < 9) : ∀ k, k < kN c → parseFieldDescriptor (kT c k).2.2.1 = some (kY c k) := fun k hk => of_decide_eq_true (List.all_eq_true.mp (List.all_eq_true.mp hty_b c (List.mem_range.mpr hc)) k (List.mem_range.mpr hk))
theorem hnm_b : (List.range 9).all (fun c => (List.range (kN c)).all (fun a => (List.range (kN c)).all (fun b => decide (a = b) || decide ((kT c a).2.1 ≠ (kT c b).2.1)))) = true := by decide +kernel
theorem hnm {c : Nat} (hc : c < 9) : ∀ a, a < kN c → ∀ b, b < kN c → a ≠ b → (kT c a).2.1 ≠ (kT c b).2.1 := by
  intro a ha b hb hab
  have h := List.all_eq_true.mp (List.all_eq_true.mp (List.all_eq_true.mp hnm_b c (List.mem_range.mpr hc)) a (List.mem_range.mpr ha)) b (List.mem_range.mpr hb)
  simp only [Bool.or_eq_true, decide_eq_true_eq] at h
  exact h.resolve_left hab
theorem hkf_b : (List.range 9).all (fun c => (List.range (kN c)).all (fun k => (if kF c k = 0 then decide (kY c k = .int) else if kF c k = 2 then decide (kY c k = .boolean) else decide ((kY c k).isReference = true)))) = true := by decide +kernel
theorem hkf {c k : Nat} (hc : c < 9) (hk : k < kN c) : (if kF c k = 0 then decide (kY c k = .int) else if kF c k = 2 then decide (kY c k = .boolean) else decide ((kY c k).isReference = true)) = true := List.all_eq_true.mp (List.all_eq_true.mp hkf_b c (List.mem_range.mpr hc)) k (List.mem_range.mpr hk)
theorem jcl_at {c : Nat} (hc : c < 9) : jcl[c]? = some (kR c, kT c, kN c) := by
  match c, hc with
  | 0, _ => rfl
  | 1, _ => rfl
  | 2, _ => rfl
  | 3, _ => rfl
  | 4, _ => rfl
  | 5, _ => rfl
  | 6, _ => rfl
  | 7, _ => rfl
  | 8, _ => rfl
/-! memory -/
theorem mI_uI (M : Mem) (a k : Nat) (v : Int) (b j : Nat) : mI (uI M a k v) b j = if b = a ∧ j = k then v else mI M b j := rfl
theorem mR_uI (M : Mem) (a k : Nat) (v : Int) (b j : Nat) : mR (uI M a k v) b j = mR M b j := rfl
theorem mK_uI (M : Mem) (a k : Nat) (v : Int) (b : Nat) : mK (uI M a k v) b = mK M b := rfl
theorem mN_uI (M : Mem) (a k : Nat) (v : Int) (b : Nat) : mN (uI M a k v) b = mN M b := rfl
theorem mI_uR (M : Mem) (a k : Nat) (v : Option Nat) (b j : Nat) : mI (uR M a k v) b j = mI M b j := rfl
theorem mR_uR (M : Mem) (a k : Nat) (v : Option Nat) (b j : Nat) : mR (uR M a k v) b j = if b = a ∧ j = k then v else mR M b j := rfl
theorem mK_uR (M : Mem) (a k : Nat) (v : Option Nat) (b : Nat) : mK (uR M a k v) b = mK M b := rfl
theorem mN_uR (M : Mem) (a k : Nat) (v : Option Nat) (b : Nat) : mN (uR M a k v) b = mN M b := rfl
theorem mI_uC (M : Mem) (a sp b dp n x j : Nat) : mI (uC M a sp b dp n) x j = if x = b ∧ dp ≤ j ∧ j < dp + n then mI M a (sp + (j - dp)) else mI M x j := rfl
theorem mR_uC (M : Mem) (a sp b dp n x j : Nat) : mR (uC M a sp b dp n) x j = mR M x j := rfl
theorem mK_uC (M : Mem) (a sp b dp n x : Nat) : mK (uC M a sp b dp n) x = mK M x := rfl
theorem mN_uC (M : Mem) (a sp b dp n x : Nat) : mN (uC M a sp b dp n) x = mN M x := rfl
theorem mI_uN (M : Mem) (kd n b j : Nat) : mI (uN M kd n) b j = if b = mZ M then 0 else mI M b j := rfl
theorem mR_uN (M : Mem) (kd n b j : Nat) : mR (uN M kd n) b j = if b = mZ M then none else mR M b j := rfl
theorem mK_uN (M : Mem) (kd n b : Nat) : mK (uN M kd n) b = if b = mZ M then kd else mK M b := rfl
theorem mN_uN (M : Mem) (kd n b : Nat) : mN (uN M kd n) b = if b = mZ M then n else mN M b := rfl
theorem mZ_uN (M : Mem) (kd n : Nat) : mZ (uN M kd n) = mZ M + 1 := rfl
theorem mS_uN (M : Mem) (kd n : Nat) : mS (uN M kd n) = mS M + n := rfl
theorem cellE_congr {X : CX} {M M' : Mem} {b : Nat} (hk : mK M' b = mK M b) (hn : mN M' b = mN M b) (hi : ∀ j, mI M' b j = mI M b j) (hr : ∀ j, mR M' b j = mR M b j) : cellE X M' b = cellE X M b := by
  have e1 : fldV X M' b (mK M b) = fldV X M b (mK M b) := by funext k; simp only [fldV, hi, hr]
  have e2 : (fun j => Int32.ofInt (mI M' b j)) = (fun j => Int32.ofInt (mI M b j)) := by funext j; rw [hi]
  have e3 : (fun j => (mR M' b j).map (ad X)) = (fun j => (mR M b j).map (ad X)) := by funext j; rw [hr]
  unfold cellE
  rw [hk, hn, e1, e2, e3]
theorem ws_get {X : CX} {M : Mem} {a : Nat} (h : a < mZ M) : (wsX X M)[a]? = some (xb X + a, cellE X M a) := by
  simp [wsX, h]
theorem ws_len (X : CX) (M : Mem) : (wsX X M).length = mZ M := by simp [wsX]
theorem ws_set {X : CX} {M M' : Mem} {a : Nat} (hz : mZ M' = mZ M) (ho : ∀ b, b ≠ a → cellE X M' b = cellE X M b) : wsX X M' = (wsX X M).set a (xb X + a, cellE X M' a) := by
  apply List.ext_getElem?
  intro k
  by_cases hk : k < mZ M
  · rw [ws_get (by rw [hz]; exact hk), List.getElem?_set]
    by_cases hka : a = k
    · subst hka
      simp [ws_len, hk]
    · rw [if_neg hka, ws_get hk, ho k (fun h => hka h.symm)]
  · rw [List.getElem?_eq_none (by rw [ws_len, hz]; omega), List.getElem?_eq_none (by rw [List.length_set, ws_len]; omega)]
theorem ws_push {X : CX} {M M' : Mem} (hz : mZ M' = mZ M + 1) (ho : ∀ b, b < mZ M → cellE X M' b = cellE X M b) : wsX X M' = wsX X M ++ [(xb X + mZ M, cellE X M' (mZ M))] := by
  unfold wsX
  rw [hz, List.range_succ, List.map_append]
  congr 1
  apply List.map_congr_left
  intro b hb
  rw [ho b (List.mem_range.mp hb)]
theorem ws_D (X : CX) (M : Mem) : va_D (xA X) (wsX X M) := by
  have key : ∀ (k : Nat) (q : Nat × va_E), (wsX X M)[k]? = some q → q.1 = xb X + k := by
    intro k q h
    have hk : k < mZ M := by
      have := (List.getElem?_eq_some_iff.mp h).1
      rwa [ws_len] at this
    rw [ws_get hk] at h
    cases h
    rfl
  refine ⟨fun i j p q hi hj h => ?_, fun k q hk => ?_⟩
  · rw [key i p hi, key j q hj] at h
    omega
  · show xb X ≤ q.1
    rw [key k q hk]
    omega
theorem cellE_obj {X : CX} {M : Mem} {a c : Nat} (h : mK M a = c) (hc : c < 9) : cellE X M a = .inr (c, (List.range (kN c)).map (fldV X M a c)) := by
  unfold cellE
  rw [h, if_pos (by omega)]
theorem cellE_arr {X : CX} {M : Mem} {a : Nat} (h1 : 10 ≤ mK M a) (h2 : mK M a < 30) : cellE X M a = .inl (xc X (mK M a), mN M a, .inl (fun j => Int32.ofInt (mI M a j))) := by
  unfold cellE
  rw [if_neg (by omega), if_pos h2]
theorem cellE_ref {X : CX} {M : Mem} {a : Nat} (h1 : 30 ≤ mK M a) : cellE X M a = .inl (xc X (mK M a), mN M a, .inr (.inr (.inr (.inr (fun j => (mR M a j).map (ad X)))))) := by
  unfold cellE
  rw [if_neg (by omega), if_neg (by omega)]
theorem map_set_fld {X : CX} {M M' : Mem} {a c k n : Nat} {v : Value} (hk : fldV X M' a c k = v) (ho : ∀ j, j ≠ k → fldV X M' a c j = fldV X M a c j) : (List.range n).map (fldV X M' a c) = ((List.range n).map (fldV X M a c)).set k v := by
  apply List.ext_getElem?
  intro j
  rw [List.getElem?_set, List.getElem?_map, List.getElem?_map]
  by_cases hj : k = j
  · subst hj
    by_cases hn : k < n
    · simp [hn, hk]
    · simp [hn]
  · rw [if_neg hj]
    by_cases hn : j < n
    · simp [hn, ho j (fun h => hj h.symm)]
    · simp [hn]
theorem Rep.in {X : CX} {M : Mem} {H : Heap} {a : Nat} (C : CtxOK X) (R : Rep X M H) (h1 : mK M a ≠ 99) (h2 : mK M a ≠ 25) : a < mZ M := by
  rcases R.2.2.2.1 a h1 with h | h
  · exact h.1
  · have h3 := (R.2.2.2.2.1 a h).1
    rcases C.2.2.1 a h with h4 | ⟨h4, -⟩
    · exact absurd (h3.trans h4) h1
    · exact absurd (h3.trans h4) h2
theorem ad_in {X : CX} {M : Mem} {H : Heap} {a : Nat} (R : Rep X M H) (h : a < mZ M) : ad X a = xb X + a := by
  have := R.2.1
  unfold ad
  rw [if_pos (by omega)]
theorem cv_ref {X : CX} {M : Mem} {H : Heap} {a : Nat} (R : Rep X M H) (h : a < mZ M) : cv X (aR (some a)) = .ref (xb X + a) := by
  show va_rf (some (ad X a)) = _
  rw [ad_in R h]
  rfl
theorem Rep.low {X : CX} {M : Mem} {H : Heap} (R : Rep X M H) (h : 0 < mZ M) : xb X + mZ M ≤ H.size := by
  have := (R.1 (mZ M - 1) _ (ws_get (by omega))).lt
  simp only at this
  omega
theorem W_sz {p : Program} {l : Launch} {e : Env} {R : Room} {s : State} {m : MethodId} {args : Array Value} {below : List Frame} {meth : Method} {c : Code} {H : Heap} {locs : List Loc} {cells slots : Nat} {Q : State → Prop} {g : JFrame} (hlow : s.heap.size + cells ≤ H.size) (k : H.size = s.heap.size + cells → W p l e R s m args below meth c H locs cells slots Q g) : W p l e R s m args below meth c H locs cells slots Q g := by
  intro T hT X
  have h := X.same.2.2.1
  have h2 : T.heap.size ≤ s.heap.size + cells := h
  rw [hT] at h2
  exact k (by omega) T hT X
/-! locals -/
theorem lset_get : ∀ (ls : List (Option AV)) (i : Nat) (v : AV) (k : Nat) (w : AV), isL v = false → lget (lset ls i v) k = some w → (k = i ∧ w = v) ∨ (k ≠ i ∧ lget ls k = some w ∧ ¬ (k + 1 = i ∧ isL w = true))
  | [], 0, v, k, w, _, h => by simp [lset, lget] at h
  | [], 1, v, k, w, _, h => by simp [lset, lget] at h
  | [], i + 2, v, k, w, _, h => by simp [lset, lget] at h
  | x :: l, 0, v, k, w, _, h => by
    cases k with
    | zero => simp [lset, lget] at h; exact Or.inl ⟨rfl, h.symm⟩
    | succ k => simp [lset, lget] at h; exact Or.inr ⟨by omega, by simpa [lget] using h, by omega⟩
  | [x], 1, v, k, w, _, h => by simp [lset, lget] at h
  | x :: y :: l, 1, v, k, w, _, h => by
    match k with
    | 0 =>
      simp [lset, lget] at h
      refine Or.inr ⟨by omega, ?_, ?_⟩
      · revert h
        unfold clr
        split
        · intro h; cases h
        · intro h; simpa [lget] using h
      · revert h
        unfold clr
        split
        · intro h; cases h
        · intro h hh
          subst h
          rename_i hne
          match w, hh with
          | .inr (.inr z), _ => exact hne z rfl
    | 1 => simp [lset, lget] at h; exact Or.inl ⟨rfl, h.symm⟩
    | k + 2 => simp [lset, lget] at h; exact Or.inr ⟨by omega, by simpa [lget] using h, by omega⟩
  | x :: l, i + 2, v, k, w, hv, h => by
    cases k with
    | zero => simp [lset, lget] at h; exact Or.inr ⟨by omega, by simpa [lget] using h, by omega⟩
    | succ k =>
      simp only [lset, lget] at h
      rcases lset_get l (i + 1) v k w hv h with ⟨h1, h2⟩ | ⟨h1, h2, h3⟩
      · exact Or.inl ⟨by omega, h2⟩
      · exact Or.inr ⟨by omega, by simpa [lget] using h2, fun hh => h3 ⟨by omega, hh.2⟩⟩
theorem lset2_get : ∀ (ls : List (Option AV)) (i : Nat) (v : AV) (k : Nat) (w : AV), lget (lset2 ls i v) k = some w → (k = i ∧ w = v) ∨ (k ≠ i ∧ k ≠ i + 1 ∧ lget ls k = some w ∧ ¬ (k + 1 = i ∧ isL w = true))
  | [], 0, v, k, w, h => by simp [lset2, lget] at h
  | [], 1, v, k, w, h => by simp [lset2, lget] at h
  | [], i + 2, v, k, w, h => by simp [lset2, lget] at h
  | [x], 0, v, k, w, h => by simp [lset2, lget] at h
  | [x], 1, v, k, w, h => by simp [lset2, lget] at h
  | [x, y], 1, v, k, w, h => by simp [lset2, lget] at h
  | x :: y :: l, 0, v, k, w, h => by
    match k with
    | 0 => simp [lset2, lget] at h; exact Or.inl ⟨rfl, h.symm⟩
    | 1 => simp [lset2, lget] at h
    | k + 2 => simp [lset2, lget] at h; exact Or.inr ⟨by omega, by omega, by simpa [lget] using h, by omega⟩
  | x :: y :: u :: l, 1, v, k, w, h => by
    match k with
    | 0 =>
      simp [lset2, lget] at h
      refine Or.inr ⟨by omega, by omega, ?_, ?_⟩
      · revert h
        unfold clr
        split
        · intro h; cases h
        · intro h; simpa [lget] using h
      · revert h
        unfold clr
        split
        · intro h; cases h
        · intro h hh
          subst h
          rename_i hne
          match w, hh with
          | .inr (.inr z), _ => exact hne z rfl
    | 1 => simp [lset2, lget] at h; exact Or.inl ⟨rfl, h.symm⟩
    | 2 => simp [lset2, lget] at h
    | k + 3 => simp [lset2, lget] at h; exact Or.inr ⟨by omega, by omega, by simpa [lget] using h, by omega⟩
  | x :: l, i + 2, v, k, w, h => by
    cases k with
    | zero => simp [lset2, lget] at h; exact Or.inr ⟨by omega, by omega, by simpa [lget] using h, by omega⟩
    | succ k =>
      simp only [lset2, lget] at h
      rcases lset2_get l (i + 1) v k w h with ⟨h1, h2⟩ | ⟨h1, h2, h3, h4⟩
      · exact Or.inl ⟨by omega, h2⟩
      · exact Or.inr ⟨by omega, by omega, by simpa [lget] using h3, fun hh => h4 ⟨by omega, hh.2⟩⟩
theorem cat_isL {X : CX} {w : AV} (h : (cv X w).category = 2) : isL w = true := by
  match w with
  | .inl a => simp [cv, Value.category] at h
  | .inr (.inl none) => simp [cv, va_rf, Value.category] at h
  | .inr (.inl (some a)) => simp [cv, va_rf, Value.category] at h
  | .inr (.inr x) => rfl
theorem LR_get {X : CX} {ls : List (Option AV)} {n : Nat} {arr : Array Slot} {k : Nat} {v : AV} (h : LR X ls n arr) (hk : k < n) (hv : lget ls k = some v) : arr[k]? = some (.val (cv X v)) :=
  h.2.2 (k, cv X v) (List.mem_filterMap.mpr ⟨k, List.mem_range.mpr hk, by rw [hv]; rfl⟩)
theorem LR_set {X : CX} {ls : List (Option AV)} {n : Nat} {arr : Array Slot} {i : Nat} {v : AV} (hv : isL v = false) (h : lv_has arr n ((i, cv X v) :: (lvOf X ls n).filter (fun q => !(q.1 == i) && !(q.1 + 1 == i && q.2.category == 2)))) : LR X (lset ls i v) n arr := by
  refine ⟨h.1, h.2.1, fun q hq => ?_⟩
  obtain ⟨k, hk, hkq⟩ := List.mem_filterMap.mp hq
  obtain ⟨w, hw, rfl⟩ := Option.map_eq_some_iff.mp hkq
  apply h.2.2
  rcases lset_get ls i v k w hv hw with ⟨rfl, rfl⟩ | ⟨h1, h2, h3⟩
  · exact List.mem_cons_self
  · apply List.mem_cons_of_mem
    apply List.mem_filter.mpr
    refine ⟨List.mem_filterMap.mpr ⟨k, hk, by rw [h2]; rfl⟩, ?_⟩
    simp only [Bool.and_eq_true, Bool.not_eq_true', beq_eq_false_iff_ne, Bool.and_eq_false_iff]
    refine ⟨h1, ?_⟩
    by_cases h4 : k + 1 = i
    · exact Or.inr (fun h5 => h3 ⟨h4, cat_isL h5⟩)
    · exact Or.inl h4
theorem LR_set2 {X : CX} {ls : List (Option AV)} {n : Nat} {arr : Array Slot} {i : Nat} {v : AV} (h : lv_has arr n ((i, cv X v) :: (lvOf X ls n).filter (fun q => !(q.1 == i) && (!(q.1 == i + 1) && !(q.1 + 1 == i && q.2.category == 2))))) : LR X (lset2 ls i v) n arr := by
  refine ⟨h.1, h.2.1, fun q hq => ?_⟩
  obtain ⟨k, hk, hkq⟩ := List.mem_filterMap.mp hq
  obtain ⟨w, hw, rfl⟩ := Option.map_eq_some_iff.mp hkq
  apply h.2.2
  rcases lset2_get ls i v k w hw with ⟨rfl, rfl⟩ | ⟨h1, h1b, h2, h3⟩
  · exact List.mem_cons_self
  · apply List.mem_cons_of_mem
    apply List.mem_filter.mpr
    refine ⟨List.mem_filterMap.mpr ⟨k, hk, by rw [h2]; rfl⟩, ?_⟩
    simp only [Bool.and_eq_true, Bool.not_eq_true', beq_eq_false_iff_ne, Bool.and_eq_false_iff]
    refine ⟨h1, h1b, ?_⟩
    by_cases h4 : k + 1 = i
    · exact Or.inr (fun h5 => h3 ⟨h4, cat_isL h5⟩)
    · exact Or.inl h4
theorem lget_rep (n k : Nat) : lget (List.replicate n none) k = none := by
  induction n generalizing k with
  | zero => rfl
  | succ n ih => cases k with
    | zero => rfl
    | succ k => exact ih k
theorem entL_get {X : CX} : ∀ (as : List AV) (n off k : Nat) (v : AV), lget (entL as n) k = some v → (off + k, cv X v) ∈ lv_args off (as.map (cv X))
  | [], n, off, k, v, h => by
    rw [show entL [] n = List.replicate n none from rfl, lget_rep] at h
    cases h
  | .inr (.inr x) :: as, n, off, k, v, h => by
    match k with
    | 0 =>
      cases h
      exact List.mem_cons_self
    | 1 => cases h
    | k + 2 =>
      apply List.mem_cons_of_mem
      have := entL_get (X := X) as (n - 2) (off + 2) k v h
      rw [show off + (k + 2) = off + 2 + k by omega]
      exact this
  | .inl a :: as, n, off, k, v, h => by
    cases k with
    | zero => cases h; exact List.mem_cons_self
    | succ k =>
      apply List.mem_cons_of_mem
      have := entL_get (X := X) as (n - 1) (off + 1) k v h
      rw [show off + (k + 1) = off + 1 + k by omega]
      exact this
  | .inr (.inl none) :: as, n, off, k, v, h => by
    cases k with
    | zero => cases h; exact List.mem_cons_self
    | succ k =>
      apply List.mem_cons_of_mem
      have := entL_get (X := X) as (n - 1) (off + 1) k v h
      rw [show off + (k + 1) = off + 1 + k by omega]
      exact this
  | .inr (.inl (some r)) :: as, n, off, k, v, h => by
    cases k with
    | zero => cases h; exact List.mem_cons_self
    | succ k =>
      apply List.mem_cons_of_mem
      have := entL_get (X := X) as (n - 1) (off + 1) k v h
      rw [show off + (k + 1) = off + 1 + k by omega]
      exact this
theorem lg_len {X : CX} : ∀ as : List AV, (lg_sl (as.map (cv X))).length = catS as
  | [] => rfl
  | .inl a :: as => by
    have := lg_len (X := X) as
    simp only [lg_sl, List.map_cons, List.flatMap_cons, List.length_append] at this ⊢
    rw [this]; simp [cv, Value.category, catS]; omega
  | .inr (.inl none) :: as => by
    have := lg_len (X := X) as
    simp only [lg_sl, List.map_cons, List.flatMap_cons, List.length_append] at this ⊢
    rw [this]; simp [cv, va_rf, Value.category, catS]; omega
  | .inr (.inl (some r)) :: as => by
    have := lg_len (X := X) as
    simp only [lg_sl, List.map_cons, List.flatMap_cons, List.length_append] at this ⊢
    rw [this]; simp [cv, va_rf, Value.category, catS]; omega
  | .inr (.inr x) :: as => by
    have := lg_len (X := X) as
    simp only [lg_sl, List.map_cons, List.flatMap_cons, List.length_append] at this ⊢
    rw [this]; simp [cv, Value.category, catS]; omega
theorem cat_sum {X : CX} : ∀ as : List AV, ((as.map (cv X)).map fun v => v.category).sum = catS as
  | [] => rfl
  | .inl a :: as => by
    have := cat_sum (X := X) as
    simp only [List.map_cons, List.sum_cons] at this ⊢
    rw [this]; simp [cv, Value.category, catS]; omega
  | .inr (.inl none) :: as => by
    have := cat_sum (X := X) as
    simp only [List.map_cons, List.sum_cons] at this ⊢
    rw [this]; simp [cv, va_rf, Value.category, catS]; omega
  | .inr (.inl (some r)) :: as => by
    have := cat_sum (X := X) as
    simp only [List.map_cons, List.sum_cons] at this ⊢
    rw [this]; simp [cv, va_rf, Value.category, catS]; omega
  | .inr (.inr x) :: as => by
    have := cat_sum (X := X) as
    simp only [List.map_cons, List.sum_cons] at this ⊢
    rw [this]; simp [cv, Value.category, catS]; omega
theorem LR_entry {X : CX} {as : List AV} {n : Nat} (h : catS as ≤ n) : LR X (entL as n) n ((lg_sl (as.map (cv X)) ++ List.replicate (n - (lg_sl (as.map (cv X))).length) Slot.unset).toArray) := by
  have h0 := lv_entry (as.map (cv X)) (n := n) (by rw [lg_len]; exact h)
  refine ⟨h0.1, h0.2.1, fun q hq => ?_⟩
  obtain ⟨k, hk, hkq⟩ := List.mem_filterMap.mp hq
  obtain ⟨w, hw, rfl⟩ := Option.map_eq_some_iff.mp hkq
  have := entL_get (X := X) as n 0 k w hw
  rw [Nat.zero_add] at this
  exact h0.2.2 _ this
