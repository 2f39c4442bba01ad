/-! what the answers are, of the texts alone -/
abbrev Tx : Type := Nat → List Int
def nmL (i : Nat) : List Int := ([[108, 101, 120], [100, 101, 103], [114, 101, 118]] : List (List Int)).getD i []
/-- how many of the first bytes are alike -/
def alk : List Int → List Int → Nat
  | b :: B, c :: C => if b = c then alk B C + 1 else 0
  | _, _ => 0
def mxI (a b : Int) : Int := if a < b then b else a
/-- the order that is told -/
def orN (B : List Int) : Int := if B = [] then 1 else if alk B (nmL 0) = 3 then 0 else if alk B (nmL 2) = 3 then 2 else 1
/-- the fault of the order's name -/
def orX (B : List Int) : Int := if B = [] then -1 else if alk B (nmL 0) = 3 then -1 else if alk B (nmL 2) = 3 then -1 else if alk B (nmL 1) < 3 then mxI (alk B (nmL 0)) (mxI (alk B (nmL 1)) (alk B (nmL 2))) else -1
theorem orN_b (B : List Int) : 0 ≤ orN B ∧ orN B ≤ 2 := by unfold orN; split <;> (try split) <;> (try split) <;> omega
def ordT (T : Tx) : Int := orN (T 7)
def valT (T : Tx) (t : Nat) : Po := (rdF (ordT T) (T t)).2
def fltT (T : Tx) (t : Nat) : Int := if t = 7 then orX (T 7) else (rdF (ordT T) (T t)).1
def gens (T : Tx) : List Po := [valT T 0, valT T 1, valT T 2, valT T 3, valT T 4, valT T 5]
/-- completing by an order without one: why, how many steps, the basis -/
def cmG (T : Tx) (o lo : Int) : Int × Nat × List Mb := cmL o 120 0 [] (filF o lo (gens T) 0 [])
def cmT (T : Tx) : Int × Nat × List Mb := cmG T (ordT T) (-1)
def outQ (c : Int × Nat × List Mb) (d : Int) : Int := if c.1 = 0 then outF d c.2.2 (prod 3 d) else -1
def upQ (c : Int × Nat × List Mb) (t : Nat) : Int := if c.1 = 0 then upA c.2.2 (t + 1) 0 0 else -1
/-- the normal form, where it is there -/
def nfT (T : Tx) : Bool × Po := if (cmT T).1 = 0 then nfF (ordT T) (cmT T).2.2 32768 0 (valT T 6) else (false, [])
def isSp (T : Tx) (g : Nat) : Bool := decide (valT T g = [] ∨ ((cmG T (ordT T) g).1 = 0 ∧ (nfF (ordT T) (cmG T (ordT T) g).2.2 32768 0 (valT T g)).1 = true ∧ (nfF (ordT T) (cmG T (ordT T) g).2.2 32768 0 (valT T g)).2 = []))
def spA (T : Tx) : Nat → Nat → Int → Int
  | 0, _, b => b
  | k + 1, g, b => spA T k (g + 1) (if isSp T g = true then iOr b (iShl 1 g) else b)
def spT (T : Tx) : Int := spA T 6 0 0
def byT (T : Tx) (o w : Nat) : Int := if w = 0 then (cmG T o (-1)).1 else if w = 1 then (cmG T o (-1)).2.1 else if w = 2 then (cmG T o (-1)).2.2.length else upQ (cmG T o (-1)) 6
theorem val_ok (T : Tx) (t : Nat) : okP (valT T t) ∧ srt (ordT T) (valT T t) := rdF_ok _ _
/-! the class's memory -/
def roomT (t : Nat) : Nat := if t = 7 then 3 else 30
def TX (M : Mem) (T : Tx) : Prop := ∀ t, t < 8 → mI M (14 + 2 * t) 1 = (T t).length ∧ IL M (15 + 2 * t) (T t) ∧ (T t).length ≤ roomT t ∧ ∀ b ∈ T t, 0 ≤ b ∧ b ≤ 255
def VK (M : Mem) (T : Tx) (o : Int) : Prop := o = ordT T ∧ (∀ t, t < 8 → mI M (14 + 2 * t) 2 = fltT T t) ∧ ∀ t, t < 7 → PL M (30 + 3 * t) (valT T t)
def BK (M : Mem) (T : Tx) : Prop := mI M 361 1 = (cmT T).1 ∧ mI M 361 2 = (cmT T).2.1 ∧ mI M 361 4 = ordT T ∧ okB (cmT T).2.2 ∧ ∃ ps, (∀ q ∈ ps, 364 ≤ q ∧ q ≤ 433) ∧ CB M 362 24 ps (cmT T).2.2
def NK (M : Mem) (T : Tx) (nt : Int) : Prop := nt = (if (nfT T).1 = true then 1 else 0) ∧ ((nfT T).1 = true → PL M 4 (nfT T).2)
def YK (M : Mem) (T : Tx) (j : Nat) : Prop := ∀ w, w < 4 → mI M 10 (4 * j + w) = byT T j w
def CO (M : Mem) : Prop := ∃ ps ps2 qs o1 o2, CW M 361 o1 ps qs ∧ CW M 441 o2 ps2 qs ∧ RA M 362 24 ps ∧ RA M 442 24 ps2 ∧ RA M 59 100 qs
def bt (i : Nat) : Int := ([1, 2, 4, 8, 16, 32, 64] : List Int).getD i 0
/-- what holds of all the cells but the object's own; the object's: what is known, the order, whether there is a normal form, the spare ones -/
def CJ (M : Mem) (T : Tx) (k o nt sp : Int) : Prop := Shp M ∧ TX M T ∧ CO M ∧ (0 ≤ k ∧ k ≤ 127) ∧ (iAnd k 1 ≠ 0 → VK M T o) ∧ (iAnd k 2 ≠ 0 → BK M T) ∧ (iAnd k 4 ≠ 0 → NK M T nt) ∧ (iAnd k 8 ≠ 0 → sp = spT T) ∧ ∀ j, j < 3 → iAnd k (bt (4 + j)) ≠ 0 → YK M T j
def CI (M : Mem) (T : Tx) : Prop := CJ M T (mI M 0 3) (mI M 0 4) (mI M 0 8) (mI M 0 10)
theorem kb : ∀ n : Nat, n < 128 → ∀ i : Nat, i < 7 → (0 ≤ iOr n (bt i) ∧ iOr n (bt i) ≤ 127) ∧ ∀ j : Nat, j < 7 → iAnd (iOr n (bt i)) (bt j) = if j = i then bt j else iAnd n (bt j) := by decide +kernel
theorem kbf : ∀ n : Nat, n < 128 → (0 ≤ iAnd n (-6) ∧ iAnd n (-6) ≤ 127) ∧ ∀ j : Nat, j < 7 → iAnd (iAnd n (-6)) (bt j) = if j = 0 ∨ j = 2 then 0 else iAnd n (bt j) := by decide +kernel
theorem kb0 : ∀ j : Nat, j < 7 → iAnd 0 (bt j) = 0 := by decide +kernel
theorem kset {k : Int} (hk : 0 ≤ k ∧ k ≤ 127) (i : Nat) (hi : i < 7) : (0 ≤ iOr k (bt i) ∧ iOr k (bt i) ≤ 127) ∧ ∀ j : Nat, j < 7 → iAnd (iOr k (bt i)) (bt j) = if j = i then bt j else iAnd k (bt j) := by
  obtain ⟨n, rfl⟩ := Int.eq_ofNat_of_zero_le hk.1
  exact kb n (by omega) i hi
theorem kclr {k : Int} (hk : 0 ≤ k ∧ k ≤ 127) : (0 ≤ iAnd k (-6) ∧ iAnd k (-6) ≤ 127) ∧ ∀ j : Nat, j < 7 → iAnd (iAnd k (-6)) (bt j) = if j = 0 ∨ j = 2 then 0 else iAnd k (bt j) := by
  obtain ⟨n, rfl⟩ := Int.eq_ofNat_of_zero_le hk.1
  exact kbf n (by omega)
theorem TX.sm {M M' : Mem} {T : Tx} {S : Nat → Prop} (h : TX M T) (hS : ∀ a k, ¬ S a → mI M' a k = mI M a k) (h1 : ∀ a, 14 ≤ a → a < 30 → ¬ S a) : TX M' T := by
  intro t ht
  obtain ⟨a1, a2, a3, a4⟩ := h t ht
  exact ⟨(hS _ _ (h1 _ (by omega) (by omega))).trans a1, fun j b hb => (hS _ _ (h1 _ (by omega) (by omega))).trans (a2 j b hb), a3, a4⟩
theorem VK.sm {M M' : Mem} {T : Tx} {o : Int} {S : Nat → Prop} (h : VK M T o) (hS : ∀ a k, ¬ S a → mI M' a k = mI M a k) (h1 : ∀ a, 14 ≤ a → a < 51 → ¬ S a) : VK M' T o := by
  obtain ⟨a1, a2, a3⟩ := h
  exact ⟨a1, fun t ht => (hS _ _ (h1 _ (by omega) (by omega))).trans (a2 t ht), fun t ht => PL_same (a3 t ht) hS (h1 _ (by omega) (by omega)) (h1 _ (by omega) (by omega)) (h1 _ (by omega) (by omega))⟩
theorem BK.sm {M M' : Mem} {T : Tx} {S R : Nat → Prop} (h : BK M T) (hS : Smr M M' S R) (h1 : ∀ a, 361 ≤ a → a ≤ 435 → ¬ S a ∧ ¬ R a) : BK M' T := by
  obtain ⟨a1, a2, a3, a4, ps, a5, a6⟩ := h
  refine ⟨(hS.2.2.2 _ _ (h1 361 (by omega) (by omega)).1).trans a1, (hS.2.2.2 _ _ (h1 361 (by omega) (by omega)).1).trans a2, (hS.2.2.2 _ _ (h1 361 (by omega) (by omega)).1).trans a3, a4, ps, a5, ?_⟩
  exact CB_smr a6 hS (h1 362 (by omega) (by omega)).1 (h1 362 (by omega) (by omega)).2 (h1 363 (by omega) (by omega)).2 (fun q hq => by
    have := a5 q hq
    exact ⟨(h1 q (by omega) (by omega)).1, (h1 (q + 1) (by omega) (by omega)).1, (h1 (q + 2) (by omega) (by omega)).1, (h1 q (by omega) (by omega)).2⟩)
theorem NK.sm {M M' : Mem} {T : Tx} {nt : Int} {S : Nat → Prop} (h : NK M T nt) (hS : ∀ a k, ¬ S a → mI M' a k = mI M a k) (h1 : ∀ a, 4 ≤ a → a ≤ 6 → ¬ S a) : NK M' T nt := ⟨h.1, fun h9 => PL_same (h.2 h9) hS (h1 _ (by omega) (by omega)) (h1 _ (by omega) (by omega)) (h1 _ (by omega) (by omega))⟩
theorem YK.sm {M M' : Mem} {T : Tx} {j : Nat} {S : Nat → Prop} (h : YK M T j) (hS : ∀ a k, ¬ S a → mI M' a k = mI M a k) (h1 : ¬ S 10) : YK M' T j := fun w hw => (hS _ _ h1).trans (h w hw)
theorem Smr.shp {M M' : Mem} {S R : Nat → Prop} (h : Smr M M' S R) (hS : Shp M) (hb : ∀ a, BIG ≤ a → ¬ S a) (hr : ∀ a, R a → dyn a) : Shp M' := by
  have hE := h.ext hS.2.2.2 hb
  obtain ⟨h1, ⟨L, h2⟩, h3, h4⟩ := hS
  exact ⟨fun a => (h.1 a).trans (h1 a), ⟨L, fun a => (h.2.1 a).trans (h2 a)⟩, fun a k hd => (h.2.2.1 a k (fun h9 => hd (hr a h9))).trans (h3 a k hd), hE⟩
theorem CW.sm {M M' : Mem} {c : Nat} {o : Int} {ps qs : List Nat} {S R : Nat → Prop} (h : CW M c o ps qs) (hS : Smr M M' S R) (hb : ∀ a, BIG ≤ a → ¬ S a) (h1 : ¬ S c ∧ ¬ R c ∧ ¬ R (c + 75)) : CW M' c o ps qs := by
  obtain ⟨w1, hcc, w3, w4, w5, w6, w7, w8⟩ := h
  exact ⟨hS.ext w1 hb, hcc, CA_smr w3 hS h1.2.1, (hS.2.2.2 _ _ h1.1).trans w4, w5, PA_smr w6 hS h1.2.2, w7, w8⟩
/-- rows stay, where no reference is changed and neither completion's own cell -/
theorem CO.sm {M M' : Mem} {S : Nat → Prop} (h : CO M) (hS : Smr M M' S (fun _ => False)) (hb : ∀ a, BIG ≤ a → ¬ S a) (h1 : ¬ S 361 ∧ ¬ S 441) : CO M' := by
  obtain ⟨ps, ps2, qs, o1, o2, w1, w2, w3, w4, w5⟩ := h
  exact ⟨ps, ps2, qs, o1, o2, w1.sm hS hb ⟨h1.1, fun h => h, fun h => h⟩, w2.sm hS hb ⟨h1.2, fun h => h, fun h => h⟩, RA_smr w3 hS (fun h => h) (fun h => h) (fun _ _ h => h), RA_smr w4 hS (fun h => h) (fun h => h) (fun _ _ h => h), RA_smr w5 hS (fun h => h) (fun h => h) (fun _ _ h => h)⟩
/-- and where one completes -/
theorem CO.cm {M M' : Mem} {c : Nat} {o : Int} {res : Int × Nat × List Mb} {r : Option AV} (h : CO M) (hc : c = 361 ∨ c = 441) (hD : CD M c o res r M') : CO M' := by
  obtain ⟨ps, ps2, qs, o1, o2, w1, w2, w3, w4, w5⟩ := h
  obtain ⟨-, hS, -, -, -, ps', qs', x1, x2, x3⟩ := hD
  have big := big_gt
  rcases hc with rfl | rfl
  · have hq := x1.2.2.2.2.2.2.2
    have y2 := w2.sm hS (fun a ha => by unfold CRc CR; omega) (by unfold CRc CR CQ; omega)
    obtain ⟨v1, v2, v3, v4, v5, v6, v7, v8⟩ := y2
    exact ⟨ps', ps2, qs', o, o2, x1, ⟨v1, v2, v3, v4, v5, v6, v7, hq⟩, x2.1, RA_smr w4 hS (by unfold CQ; omega) (by unfold CQ; omega) (fun q hq => by have := v7 q hq; unfold CQ; omega), x3.1⟩
  · have hq := x1.2.2.2.2.2.2.2
    have y2 := w1.sm hS (fun a ha => by unfold CRc CR; omega) (by unfold CRc CR CQ; omega)
    obtain ⟨v1, v2, v3, v4, v5, v6, v7, v8⟩ := y2
    exact ⟨ps, ps', qs', o1, o, ⟨v1, v2, v3, v4, v5, v6, v7, hq⟩, x1, RA_smr w3 hS (by unfold CQ; omega) (by unfold CQ; omega) (fun q hq => by have := v7 q hq; unfold CQ; omega), x2.1, x3.1⟩
/-- what a look at the texts may change -/
def XR (a : Nat) : Prop := a = 0 ∨ a = 3 ∨ (4 ≤ a ∧ a ≤ 6) ∨ (14 ≤ a ∧ a ≤ 28 ∧ a % 2 = 0) ∨ (30 ≤ a ∧ a ≤ 50) ∨ (59 ≤ a ∧ a ≤ 440)
/-- how the name of an order is looked at -/
def FOK (X : CX) : Prop := ∀ (M : Mem) (a : Nat) (B : List Int), OA M 1 3 a → mI M a 1 = B.length → IL M (a + 1) B → B.length ≤ 3 → Ev X y_Text_findOrder (0, 0) [aR (some a)] M (fun r M' => r = some (aI (orN B)) ∧ mI M' a 2 = orX B ∧ mI M' a 1 = mI M a 1 ∧ Same M M' (fun x => x = a))
theorem CI.upd {M : Mem} {T : Tx} {k : Int} (h : CJ M T k (mI M 0 4) (mI M 0 8) (mI M 0 10)) : CI (uI M 0 3 k) T := by
  have hS : Smr M (uI M 0 3 k) (fun a => a = 0) (fun _ => False) := (Smr.rf M (fun a => a = 0) (fun _ => False)).uI rfl 3 k
  have big := big_gt
  obtain ⟨h1, h2, h3, h4, h5, h6, h7, h8, h9⟩ := h
  unfold CI
  rw [mI_uI_eq, mI_uI_nk (by omega), mI_uI_nk (by omega), mI_uI_nk (by omega)]
  exact ⟨hS.shp h1 (fun a ha => by omega) (fun a h => h.elim), h2.sm hS.2.2.2 (fun a _ _ => by omega), h3.sm hS (fun a ha => by omega) (by omega), h4, fun h => (h5 h).sm hS.2.2.2 (fun a _ _ => by omega), fun h => (h6 h).sm hS (fun a _ _ => ⟨by omega, fun h => h⟩), fun h => (h7 h).sm hS.2.2.2 (fun a _ _ => by omega), h8, fun j hj h => (h9 j hj h).sm hS.2.2.2 (by omega)⟩
