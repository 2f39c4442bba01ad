/-! what is counted one by one is what the cones leave -/
def sm (f : Nat → Int) : Nat → Int
  | 0 => 0
  | n + 1 => sm f n + f n
theorem sm_congr {f g : Nat → Int} : ∀ n : Nat, (∀ i, i < n → f i = g i) → sm f n = sm g n
  | 0, _ => rfl
  | n + 1, h => by rw [sm, sm, sm_congr n (fun i hi => h i (by omega)), h n (by omega)]
theorem sm_sub (f g : Nat → Int) : ∀ n : Nat, sm (fun i => f i - g i) n = sm f n - sm g n
  | 0 => rfl
  | n + 1 => by rw [sm, sm, sm, sm_sub f g n]; omega
theorem sm_front (f : Nat → Int) : ∀ n : Nat, sm f (n + 1) = f 0 + sm (fun i => f (i + 1)) n
  | 0 => by rw [sm, sm, sm]; omega
  | n + 1 => by
    have h := sm_front f n
    rw [show sm f (n + 1 + 1) = sm f (n + 1) + f (n + 1) from rfl, h, show sm (fun i => f (i + 1)) (n + 1) = sm (fun i => f (i + 1)) n + f (n + 1) from rfl]
    omega
theorem sm_zero : ∀ n : Nat, sm (fun _ => 0) n = 0
  | 0 => rfl
  | n + 1 => by rw [sm, sm_zero n]; rfl
theorem sm_int (a b : Int) (ha : 0 ≤ a) : ∀ n : Nat, ((n : Int) ≤ a ∨ b < a → sm (fun y => if a ≤ (y : Int) ∧ (y : Int) ≤ b then 1 else 0) n = 0) ∧ (a ≤ n → (n : Int) ≤ b + 1 → sm (fun y => if a ≤ (y : Int) ∧ (y : Int) ≤ b then 1 else 0) n = n - a) ∧ (a ≤ b + 1 → b + 1 ≤ n → sm (fun y => if a ≤ (y : Int) ∧ (y : Int) ≤ b then 1 else 0) n = b + 1 - a)
  | 0 => by rw [sm]; omega
  | n + 1 => by
    have h := sm_int a b ha n
    rw [sm]
    generalize sm (fun y => if a ≤ (y : Int) ∧ (y : Int) ≤ b then 1 else 0) n = S at h ⊢
    omega
theorem ite_iff {P Q : Prop} [Decidable P] [Decidable Q] (h : P ↔ Q) : (if P then (1 : Int) else 0) = if Q then 1 else 0 := by
  by_cases hp : P
  · rw [if_pos hp, if_pos (h.mp hp)]
  · rw [if_neg hp, if_neg (fun hq => hp (h.mpr hq))]
theorem sm_in (g1 g2 h1 h2 : Int) (hg1 : g1 = 0 ∨ g1 = 1) (hg2 : g2 = 0 ∨ g2 = 1) (b1 : 0 ≤ h1) (b2 : 0 ≤ h2) (e : Nat) : sm (fun y => if ((y : Int) = h1 ∨ (h1 < (y : Int) ∧ g1 = 1)) ∧ ((e : Int) - (y : Int) = h2 ∨ (h2 < (e : Int) - (y : Int) ∧ g2 = 1)) then 1 else 0) (e + 1) = prod (g1 + g2) ((e : Int) - h1 - h2) := by
  have key : ∀ lo hi : Int, 0 ≤ lo → (∀ y : Nat, y < e + 1 → ((((y : Int) = h1 ∨ (h1 < (y : Int) ∧ g1 = 1)) ∧ ((e : Int) - (y : Int) = h2 ∨ (h2 < (e : Int) - (y : Int) ∧ g2 = 1))) ↔ (lo ≤ (y : Int) ∧ (y : Int) ≤ hi))) → sm (fun y => if ((y : Int) = h1 ∨ (h1 < (y : Int) ∧ g1 = 1)) ∧ ((e : Int) - (y : Int) = h2 ∨ (h2 < (e : Int) - (y : Int) ∧ g2 = 1)) then 1 else 0) (e + 1) = sm (fun y => if lo ≤ (y : Int) ∧ (y : Int) ≤ hi then 1 else 0) (e + 1) := by
    intro lo hi hlo h
    exact sm_congr (e + 1) (fun y hy => ite_iff (h y hy))
  rcases hg1 with rfl | rfl <;> rcases hg2 with rfl | rfl
  · by_cases h : (e : Int) - h2 = h1
    · have q := sm_int h1 h1 b1 (e + 1)
      rw [key h1 h1 b1 (fun y hy => by omega)]
      generalize sm (fun y => if h1 ≤ (y : Int) ∧ (y : Int) ≤ h1 then 1 else 0) (e + 1) = S at q ⊢
      unfold prod
      omega
    · have q := sm_int h1 (h1 - 1) b1 (e + 1)
      rw [key h1 (h1 - 1) b1 (fun y hy => by omega)]
      generalize sm (fun y => if h1 ≤ (y : Int) ∧ (y : Int) ≤ h1 - 1 then 1 else 0) (e + 1) = S at q ⊢
      unfold prod
      omega
  · by_cases h : h2 ≤ (e : Int) - h1
    · have q := sm_int h1 h1 b1 (e + 1)
      rw [key h1 h1 b1 (fun y hy => by omega)]
      generalize sm (fun y => if h1 ≤ (y : Int) ∧ (y : Int) ≤ h1 then 1 else 0) (e + 1) = S at q ⊢
      unfold prod
      omega
    · have q := sm_int h1 (h1 - 1) b1 (e + 1)
      rw [key h1 (h1 - 1) b1 (fun y hy => by omega)]
      generalize sm (fun y => if h1 ≤ (y : Int) ∧ (y : Int) ≤ h1 - 1 then 1 else 0) (e + 1) = S at q ⊢
      unfold prod
      omega
  · by_cases h : h1 ≤ (e : Int) - h2
    · have q := sm_int ((e : Int) - h2) ((e : Int) - h2) (by omega) (e + 1)
      rw [key ((e : Int) - h2) ((e : Int) - h2) (by omega) (fun y hy => by omega)]
      generalize sm (fun y => if (e : Int) - h2 ≤ (y : Int) ∧ (y : Int) ≤ (e : Int) - h2 then 1 else 0) (e + 1) = S at q ⊢
      unfold prod
      omega
    · have q := sm_int h1 (h1 - 1) b1 (e + 1)
      rw [key h1 (h1 - 1) b1 (fun y hy => by omega)]
      generalize sm (fun y => if h1 ≤ (y : Int) ∧ (y : Int) ≤ h1 - 1 then 1 else 0) (e + 1) = S at q ⊢
      unfold prod
      omega
  · have q := sm_int h1 ((e : Int) - h2) b1 (e + 1)
    rw [key h1 ((e : Int) - h2) b1 (fun y hy => by omega)]
    generalize sm (fun y => if h1 ≤ (y : Int) ∧ (y : Int) ≤ (e : Int) - h2 then 1 else 0) (e + 1) = S at q ⊢
    unfold prod
    omega
theorem prod_tel (l m : Int) (hl : l = 0 ∨ l = 1 ∨ l = 2) : prod (l + 1) m - prod (l + 1) (m - 1) = prod l m := by
  have e : (m + 1) * (m + 2) = (m - 1 + 1) * (m - 1 + 2) + 2 * (m + 1) := by grind
  have e0 : m = 0 → (m - 1 + 1) * (m - 1 + 2) = 0 := by intro h; subst h; rfl
  unfold prod
  generalize (m + 1) * (m + 2) = w at e ⊢
  generalize (m - 1 + 1) * (m - 1 + 2) = v at e e0 ⊢
  rcases hl with rfl | rfl | rfl <;> omega
theorem prod_neg (l m : Int) (h : m < 0) : prod l m = 0 := by
  unfold prod
  rw [if_pos h]
theorem sm_out (l D h0 : Int) (hl : l = 0 ∨ l = 1 ∨ l = 2) (b0 : 0 ≤ h0) : ∀ n : Nat, sm (fun x => if h0 ≤ (x : Int) then prod l (D - (x : Int)) else 0) n = if h0 ≤ (n : Int) then prod (l + 1) (D - h0) - prod (l + 1) (D - (n : Int)) else 0
  | 0 => by
    rw [sm]
    by_cases h : h0 ≤ ((0 : Nat) : Int)
    · have e : h0 = ((0 : Nat) : Int) := by omega
      rw [if_pos h, e]
      omega
    · rw [if_neg h]
  | n + 1 => by
    rw [sm, sm_out l D h0 hl b0 n]
    by_cases h : h0 ≤ (n : Int)
    · have t := prod_tel l (D - (n : Int)) hl
      rw [if_pos h, if_pos h, if_pos (show h0 ≤ ((n + 1 : Nat) : Int) by omega), show D - ((n + 1 : Nat) : Int) = D - (n : Int) - 1 by omega]
      omega
    · rw [if_neg h, if_neg h]
      by_cases h2 : h0 ≤ ((n + 1 : Nat) : Int)
      · have e : h0 = ((n + 1 : Nat) : Int) := by omega
        rw [if_pos h2, e]
        omega
      · rw [if_neg h2]
        rfl
theorem sm_one (f : Nat → Int) (a : Nat) : ∀ n : Nat, sm (fun x => if x = a then f x else 0) n = if a < n then f a else 0
  | 0 => by rw [sm, if_neg (by omega)]
  | n + 1 => by
    rw [sm, sm_one f a n]
    by_cases h : n = a
    · rw [if_neg (by omega), if_pos h, if_pos (by omega), h]
      omega
    · rw [if_neg h]
      by_cases h2 : a < n
      · rw [if_pos h2, if_pos (by omega)]; omega
      · rw [if_neg h2, if_neg (by omega)]; omega
/-- the product of a degree with two of its exponents -/
def PQ (d x y : Nat) : Int := 1024 * (x : Int) + 32 * (y : Int) + (d : Int) - (x : Int) - (y : Int)
theorem PQ_ex {d x y : Nat} (hd : d ≤ 30) (h : x + y ≤ d) : ex (PQ d x y) 0 = x ∧ ex (PQ d x y) 1 = y ∧ ex (PQ d x y) 2 = (d : Int) - x - y := by
  have e0 : PQ d x y / 1024 = x := by unfold PQ; omega
  have e1 : PQ d x y / 32 = 32 * x + y := by unfold PQ; omega
  refine ⟨?_, ?_, ?_⟩
  · unfold ex; rw [if_pos rfl, e0]; omega
  · unfold ex; rw [if_neg (by omega), if_pos rfl, e1]; omega
  · unfold ex; rw [if_neg (by omega), if_neg (by omega)]; unfold PQ; omega
def cnt (g h q : Int) : Int := if inC g h q = true then 1 else 0
def CCn (g h : Int) (d : Nat) : Int := sm (fun x => sm (fun y => cnt g h (PQ d x y)) (d + 1 - x)) (d + 1)
theorem CC_eq {g h : Int} {d : Nat} (hd : d ≤ 30) : CCn g h d = prod (bc g) ((d : Int) - dg h) := by
  have b0 := ex_b h 0
  have b1 := ex_b h 1
  have b2 := ex_b h 2
  have s1 : ∀ x, x < d + 1 → sm (fun y => cnt g h (PQ d x y)) (d + 1 - x) = if (x : Int) = ex h 0 ∨ (ex h 0 < (x : Int) ∧ g % 2 = 1) then prod (g / 2 % 2 + g / 4 % 2) ((d : Int) - (x : Int) - ex h 1 - ex h 2) else 0 := by
    intro x hx
    by_cases h0 : (x : Int) = ex h 0 ∨ (ex h 0 < (x : Int) ∧ g % 2 = 1)
    · rw [if_pos h0]
      have q := sm_in (g / 2 % 2) (g / 4 % 2) (ex h 1) (ex h 2) (by omega) (by omega) b1.1 b2.1 (d - x)
      rw [show (((d - x : Nat) : Int)) = (d : Int) - (x : Int) by omega] at q
      rw [← q, show d + 1 - x = d - x + 1 by omega]
      refine sm_congr _ (fun y hy => ?_)
      obtain ⟨e0, e1, e2⟩ := PQ_ex (x := x) (y := y) hd (by omega)
      unfold cnt inC
      rw [e0, e1, e2]
      refine ite_iff ?_
      rw [decide_eq_true_iff]
      exact ⟨fun hh => hh.2, fun hh => ⟨h0, hh⟩⟩
    · rw [if_neg h0]
      rw [← sm_zero (d + 1 - x)]
      refine sm_congr _ (fun y hy => ?_)
      obtain ⟨e0, e1, e2⟩ := PQ_ex (x := x) (y := y) hd (by omega)
      unfold cnt inC
      rw [e0]
      rw [if_neg]
      rw [decide_eq_true_iff]
      exact fun hh => h0 hh.1
  unfold CCn
  rw [sm_congr (d + 1) s1]
  unfold bc dg
  rcases (show g % 2 = 0 ∨ g % 2 = 1 by omega) with hg | hg
  · rw [sm_congr (g := fun x => if x = (ex h 0).toNat then (fun x : Nat => prod (g / 2 % 2 + g / 4 % 2) ((d : Int) - (x : Int) - ex h 1 - ex h 2)) x else 0) (d + 1) (fun x hx => by
      by_cases hq : x = (ex h 0).toNat
      · rw [if_pos hq, if_pos (by omega)]
      · rw [if_neg hq, if_neg (by omega)]), sm_one, hg]
    by_cases hq : (ex h 0).toNat < d + 1
    · rw [if_pos hq]
      rw [show (((ex h 0).toNat : Nat) : Int) = ex h 0 by omega, show (0 : Int) + g / 2 % 2 + g / 4 % 2 = g / 2 % 2 + g / 4 % 2 by omega, show (d : Int) - ex h 0 - ex h 1 - ex h 2 = (d : Int) - (ex h 0 + ex h 1 + ex h 2) by omega]
    · rw [if_neg hq, prod_neg _ _ (by omega)]
  · rw [sm_congr (g := fun x => if ex h 0 ≤ (x : Int) then prod (g / 2 % 2 + g / 4 % 2) ((d : Int) - ex h 1 - ex h 2 - (x : Int)) else 0) (d + 1) (fun x hx => by
      by_cases hq : ex h 0 ≤ (x : Int)
      · rw [if_pos hq, if_pos (by omega), show (d : Int) - (x : Int) - ex h 1 - ex h 2 = (d : Int) - ex h 1 - ex h 2 - (x : Int) by omega]
      · rw [if_neg hq, if_neg (by omega)]), sm_out _ _ _ (by omega) b0.1, hg]
    rw [show (1 : Int) + g / 2 % 2 + g / 4 % 2 = g / 2 % 2 + g / 4 % 2 + 1 by omega]
    by_cases hq : ex h 0 ≤ ((d + 1 : Nat) : Int)
    · rw [if_pos hq, prod_neg _ ((d : Int) - ex h 1 - ex h 2 - ((d + 1 : Nat) : Int)) (by omega), show (d : Int) - ex h 1 - ex h 2 - ex h 0 = (d : Int) - (ex h 0 + ex h 1 + ex h 2) by omega]
      omega
    · rw [if_neg hq, prod_neg _ _ (by omega)]
/-! counted one by one -/
def ind (bs : List Mb) (q : Int) : Int := if ownF q bs 0 = -1 then 1 else 0
theorem own_iff (q : Int) : ∀ (bs : List Mb) (i : Nat), ownF q bs i = -1 ↔ ∀ b ∈ bs, inC b.2.1 (hd b.1) q = false
  | [], i => by simp [ownF]
  | b :: bs, i => by
    rw [ownF]
    by_cases h : inC b.2.1 (hd b.1) q = true
    · rw [if_pos h]
      constructor
      · intro h9; omega
      · intro h9
        rw [h9 b List.mem_cons_self] at h
        cases h
    · rw [if_neg h, own_iff q bs (i + 1), List.forall_mem_cons]
      exact ⟨fun h9 => ⟨by simpa using h, h9⟩, fun h9 => h9.2⟩
def TT (bs : List Mb) (d : Nat) : Int := sm (fun x => sm (fun y => ind bs (PQ d x y)) (d + 1 - x)) (d + 1)
theorem ocY_sm (bs : List Mb) (d x : Nat) : ∀ (k y : Nat) (n : Int), ocY bs d x k y n = n + sm (fun i => ind bs (PQ d x (y + i))) k
  | 0, y, n => by rw [ocY, sm]; omega
  | k + 1, y, n => by
    rw [ocY, ocY_sm bs d x k (y + 1), sm_front, show (fun i => ind bs (PQ d x (y + 1 + i))) = (fun i => ind bs (PQ d x (y + (i + 1)))) from funext fun i => by rw [show y + 1 + i = y + (i + 1) by omega]]
    rw [show (if ownF (1024 * (x : Int) + 32 * (y : Int) + (d : Int) - (x : Int) - (y : Int)) bs 0 = -1 then (1 : Int) else 0) = ind bs (PQ d x (y + 0)) from rfl]
    omega
theorem ocX_sm (bs : List Mb) (d : Nat) : ∀ (k x : Nat) (n : Int), ocX bs d k x n = n + sm (fun i => sm (fun j => ind bs (PQ d (x + i) j)) (d + 1 - (x + i))) k
  | 0, x, n => by rw [ocX, sm]; omega
  | k + 1, x, n => by
    rw [ocX, ocX_sm bs d k (x + 1), sm_front, ocY_sm, show (fun i => sm (fun j => ind bs (PQ d (x + 1 + i) j)) (d + 1 - (x + 1 + i))) = (fun i => sm (fun j => ind bs (PQ d (x + (i + 1)) j)) (d + 1 - (x + (i + 1)))) from funext fun i => by rw [show x + 1 + i = x + (i + 1) by omega]]
    rw [show (fun i => ind bs (PQ d x (0 + i))) = (fun j => ind bs (PQ d (x + 0) j)) from funext fun i => by rw [Nat.zero_add]; rfl, show d + 1 - (x + 0) = d + 1 - x from rfl]
    omega
theorem oc_TT (bs : List Mb) (d : Nat) : ocX bs d (d + 1) 0 0 = TT bs d := by
  rw [ocX_sm, TT, show (fun i => sm (fun j => ind bs (PQ d (0 + i) j)) (d + 1 - (0 + i))) = (fun x => sm (fun y => ind bs (PQ d x y)) (d + 1 - x)) from funext fun i => by rw [Nat.zero_add]]
  omega
def apt (b b2 : Mb) : Prop := ∀ q, inC b.2.1 (hd b.1) q = true → inC b2.2.1 (hd b2.1) q = false
theorem ind_cons {b : Mb} {bs : List Mb} (h : ∀ a ∈ bs, apt b a) (q : Int) : ind (b :: bs) q = ind bs q - cnt b.2.1 (hd b.1) q := by
  unfold ind cnt
  by_cases hc : inC b.2.1 (hd b.1) q = true
  · rw [if_pos hc, if_neg, if_pos]
    · rfl
    · rw [own_iff]
      exact fun a ha => h a ha q hc
    · rw [own_iff]
      intro h9
      rw [h9 b List.mem_cons_self] at hc
      cases hc
  · rw [if_neg hc]
    have e : (ownF q (b :: bs) 0 = -1) ↔ (ownF q bs 0 = -1) := by
      rw [own_iff, own_iff, List.forall_mem_cons]
      exact ⟨fun h9 => h9.2, fun h9 => ⟨by simpa using hc, h9⟩⟩
    rw [ite_iff e]
    omega
theorem TT_cons {b : Mb} {bs : List Mb} (h : ∀ a ∈ bs, apt b a) (d : Nat) : TT (b :: bs) d = TT bs d - CCn b.2.1 (hd b.1) d := by
  unfold TT CCn
  rw [← sm_sub]
  refine sm_congr _ (fun x _ => ?_)
  rw [← sm_sub]
  exact sm_congr _ (fun y _ => ind_cons h _)
theorem TT_nil {d : Nat} (hd : d ≤ 30) : TT [] d = prod 3 d := by
  have h := CC_eq (g := 7) (h := 0) hd
  rw [show bc 7 = 3 from rfl, show dg 0 = 0 from rfl, Int.sub_zero] at h
  rw [← h]
  unfold TT CCn
  refine sm_congr _ (fun x hx => sm_congr _ (fun y hy => ?_))
  obtain ⟨e0, e1, e2⟩ := PQ_ex (x := x) (y := y) hd (by omega)
  unfold ind cnt
  rw [if_pos (show ownF (PQ d x y) [] 0 = -1 from rfl), if_pos]
  unfold inC
  rw [e0, e1, e2, decide_eq_true_iff, show ex 0 0 = 0 from rfl, show ex 0 1 = 0 from rfl, show ex 0 2 = 0 from rfl]
  omega
theorem outF_sub (d : Int) : ∀ (bs : List Mb) (n c : Int), outF d bs (n - c) = outF d bs n - c
  | [], n, c => rfl
  | b :: bs, n, c => by
    rw [outF, outF, show n - c - prod (bc b.2.1) (d - dg (hd b.1)) = n - prod (bc b.2.1) (d - dg (hd b.1)) - c by omega, outF_sub d bs]
theorem TT_out {d : Nat} (hd9 : d ≤ 30) : ∀ bs : List Mb, bs.Pairwise apt → TT bs d = outF d bs (TT [] d)
  | [], _ => rfl
  | b :: bs, h => by
    rw [List.pairwise_cons] at h
    rw [TT_cons h.1, TT_out hd9 bs h.2, outF, CC_eq hd9, outF_sub]
/-! cones of unlike heads -/
def gbit (g l : Int) : Int := if l = 0 then g % 2 else if l = 1 then g / 2 % 2 else g / 4 % 2
theorem clr_bit {g l m : Int} (hg : 0 ≤ g ∧ g ≤ 7) (hl : l = 0 ∨ l = 1 ∨ l = 2) (hm : m = 0 ∨ m = 1 ∨ m = 2) : (0 ≤ clrb g l ∧ clrb g l ≤ 7) ∧ gbit (clrb g l) m = if m = l then 0 else gbit g m := by
  unfold gbit clrb
  rcases hl with rfl | rfl | rfl <;> rcases hm with rfl | rfl | rfl <;> simp only [if_true, Int.reduceEq, if_false] <;> omega
theorem gst_bit {h g o m : Int} (hg : 0 ≤ g ∧ g ≤ 7) (hm : m = 0 ∨ m = 1 ∨ m = 2) : (0 ≤ gst h g o ∧ gst h g o ≤ 7) ∧ (gbit g m = 0 → gbit (gst h g o) m = 0) ∧ (unl o h = m → ex h m < ex o m → gbit (gst h g o) m = 0) := by
  unfold gst
  by_cases hc : unl o h < 3 ∧ ex h (unl o h) < ex o (unl o h)
  · rw [if_pos hc]
    have u := unl_b o h
    obtain ⟨k1, k2⟩ := clr_bit (l := unl o h) (m := m) hg (by omega) hm
    refine ⟨k1, fun h9 => ?_, fun h9 _ => ?_⟩
    · rw [k2]; split
      · rfl
      · exact h9
    · rw [k2, if_pos h9.symm]
  · rw [if_neg hc]
    exact ⟨hg, fun h9 => h9, fun h9 h8 => absurd (show unl o h < 3 ∧ ex h (unl o h) < ex o (unl o h) by rw [h9]; exact ⟨by omega, h8⟩) hc⟩
theorem fold_bit (h m : Int) (hm : m = 0 ∨ m = 1 ∨ m = 2) : ∀ (hs : List Int) (g : Int), (0 ≤ g ∧ g ≤ 7) → (gbit g m = 0 ∨ ∃ o ∈ hs, unl o h = m ∧ ex h m < ex o m) → gbit (hs.foldl (gst h) g) m = 0
  | [], g, hg, hx => by
    rcases hx with hx | ⟨o, ho, -⟩
    · exact hx
    · cases ho
  | o :: hs, g, hg, hx => by
    obtain ⟨k1, k2, k3⟩ := gst_bit (h := h) (o := o) hg hm
    refine fold_bit h m hm hs (gst h g o) k1 ?_
    rcases hx with hx | ⟨a, ha, h1, h2⟩
    · exact Or.inl (k2 hx)
    · rcases List.mem_cons.mp ha with rfl | ha
      · exact Or.inl (k3 h1 h2)
      · exact Or.inr ⟨a, ha, h1, h2⟩
theorem apart1 {h h2 q m : Int} {hs : List Int} {g2 : Int} (hm : m = 0 ∨ m = 1 ∨ m = 2) (hh : h2 ∈ hs) (hu : unl h2 h = m) (hl : ex h m < ex h2 m) (c1 : inC (goodF h hs) h q = true) (c2 : inC g2 h2 q = true) : False := by
  have b : gbit (goodF h hs) m = 0 := fold_bit h m hm hs 7 (by omega) (Or.inr ⟨h2, hh, hu, hl⟩)
  unfold inC at c1 c2
  rw [decide_eq_true_iff] at c1 c2
  unfold gbit at b
  generalize goodF h hs = g at b c1
  rcases hm with rfl | rfl | rfl <;> simp only [if_true, Int.reduceEq, if_false] at b <;> omega
theorem apart2 {h h2 q : Int} {hs : List Int} (p1 : isPr h) (p2 : isPr h2) (hh : h ∈ hs) (hh2 : h2 ∈ hs) (hne : h ≠ h2) (c1 : inC (goodF h hs) h q = true) (c2 : inC (goodF h2 hs) h2 q = true) : False := by
  by_cases e0 : ex h 0 = ex h2 0
  · by_cases e1 : ex h 1 = ex h2 1
    · by_cases e2 : ex h 2 = ex h2 2
      · apply hne
        unfold isPr at p1 p2
        unfold ex at e0 e1 e2
        simp only [if_true, Int.reduceEq, if_false] at e0 e1 e2
        omega
      · rcases (show ex h 2 < ex h2 2 ∨ ex h2 2 < ex h 2 by omega) with hl | hl
        · exact apart1 (m := 2) (by omega) hh2 (by unfold unl; rw [if_neg (by omega), if_neg (by omega), if_pos (by omega)]) hl c1 c2
        · exact apart1 (m := 2) (by omega) hh (by unfold unl; rw [if_neg (by omega), if_neg (by omega), if_pos (by omega)]) hl c2 c1
    · rcases (show ex h 1 < ex h2 1 ∨ ex h2 1 < ex h 1 by omega) with hl | hl
      · exact apart1 (m := 1) (by omega) hh2 (by unfold unl; rw [if_neg (by omega), if_pos (by omega)]) hl c1 c2
      · exact apart1 (m := 1) (by omega) hh (by unfold unl; rw [if_neg (by omega), if_pos (by omega)]) hl c2 c1
  · rcases (show ex h 0 < ex h2 0 ∨ ex h2 0 < ex h 0 by omega) with hl | hl
    · exact apart1 (m := 0) (by omega) hh2 (by unfold unl; rw [if_pos (by omega)]) hl c1 c2
    · exact apart1 (m := 0) (by omega) hh (by unfold unl; rw [if_pos (by omega)]) hl c2 c1
theorem och : OCH := by
  intro o bs hB d hd9
  rw [oc_TT, ← TT_nil hd9]
  refine TT_out hd9 bs ?_
  obtain ⟨h1, h2, h3⟩ := hB
  have hp := List.pairwise_map.mp h2
  refine List.Pairwise.imp_of_mem (fun {a b} ha hb hne => ?_) hp
  intro q hq
  by_cases hq2 : inC b.2.1 (hd b.1) q = true
  · exfalso
    rw [h3 a ha] at hq
    rw [h3 b hb] at hq2
    have ka := (h1 a ha).1
    have kb9 := (h1 b hb).1
    exact apart2 (hd_pr ka.1 ka.2.1) (hd_pr kb9.1 kb9.2.1) (show hd a.1 ∈ hds bs from List.mem_map_of_mem (f := fun b : Mb => hd b.1) ha) (show hd b.1 ∈ hds bs from List.mem_map_of_mem (f := fun b : Mb => hd b.1) hb) hne hq hq2
  · simpa using hq2
