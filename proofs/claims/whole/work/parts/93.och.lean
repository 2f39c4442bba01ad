/-! what is counted one by one is what the cones leave -/
def sm (f : Nat → Int) : Nat → Int
  | 0 => 0
  | n + 1 => sm f n + f n
theorem sm_congr {f g : Nat → Int} : ∀ n : Nat, (∀ i, i < n → f i = g i) → sm f n = sm g n
  | 0, _ => rfl
  | n + 1, h => by rw [sm, sm, sm_congr n (fun i hi => h i (by omega)), h n (by omega)]
theorem sm_sub (f g : Nat → Int) : ∀ n : Nat, sm (fun i => f i - g i) n = sm f n - sm g n
  | 0 => rfl
  | n + 1 => by rw [sm, sm, sm, sm_sub f g n]; omega
theorem sm_front (f : Nat → Int) : ∀ n : Nat, sm f (n + 1) = f 0 + sm (fun i => f (i + 1)) n
  | 0 => by rw [sm, sm, sm]; omega
  | n + 1 => by
    have h := sm_front f n
    rw [show sm f (n + 1 + 1) = sm f (n + 1) + f (n + 1) from rfl, h, show sm (fun i => f (i + 1)) (n + 1) = sm (fun i => f (i + 1)) n + f (n + 1) from rfl]
    omega
theorem sm_zero : ∀ n : Nat, sm (fun _ => 0) n = 0
  | 0 => rfl
  | n + 1 => by rw [sm, sm_zero n]; rfl
theorem sm_int (a b : Int) (ha : 0 ≤ a) : ∀ n : Nat, ((n : Int) ≤ a ∨ b < a → sm (fun y => if a ≤ (y : Int) ∧ (y : Int) ≤ b then 1 else 0) n = 0) ∧ (a ≤ n → (n : Int) ≤ b + 1 → sm (fun y => if a ≤ (y : Int) ∧ (y : Int) ≤ b then 1 else 0) n = n - a) ∧ (a ≤ b + 1 → b + 1 ≤ n → sm (fun y => if a ≤ (y : Int) ∧ (y : Int) ≤ b then 1 else 0) n = b + 1 - a)
  | 0 => by rw [sm]; omega
  | n + 1 => by
    have h := sm_int a b ha n
    rw [sm]
    generalize sm (fun y => if a ≤ (y : Int) ∧ (y : Int) ≤ b then 1 else 0) n = S at h ⊢
    omega
theorem ite_iff {P Q : Prop} [Decidable P] [Decidable Q] (h : P ↔ Q) : (if P then (1 : Int) else 0) = if Q then 1 else 0 := by
  by_cases hp : P
  · rw [if_pos hp, if_pos (h.mp hp)]
  · rw [if_neg hp, if_neg (fun hq => hp (h.mpr hq))]
theorem sm_in (g1 g2 h1 h2 : Int) (hg1 : g1 = 0 ∨ g1 = 1) (hg2 : g2 = 0 ∨ g2 = 1) (b1 : 0 ≤ h1) (b2 : 0 ≤ h2) (e : Nat) : sm (fun y => if ((y : Int) = h1 ∨ (h1 < (y : Int) ∧ g1 = 1)) ∧ ((e : Int) - (y : Int) = h2 ∨ (h2 < (e : Int) - (y : Int) ∧ g2 = 1)) then 1 else 0) (e + 1) = prod (g1 + g2) ((e : Int) - h1 - h2) := by
  have key : ∀ lo hi : Int, 0 ≤ lo → (∀ y : Nat, y < e + 1 → ((((y : Int) = h1 ∨ (h1 < (y : Int) ∧ g1 = 1)) ∧ ((e : Int) - (y : Int) = h2 ∨ (h2 < (e : Int) - (y : Int) ∧ g2 = 1))) ↔ (lo ≤ (y : Int) ∧ (y : Int) ≤ hi))) → sm (fun y => if ((y : Int) = h1 ∨ (h1 < (y : Int) ∧ g1 = 1)) ∧ ((e : Int) - (y : Int) = h2 ∨ (h2 < (e : Int) - (y : Int) ∧ g2 = 1)) then 1 else 0) (e + 1) = sm (fun y => if lo ≤ (y : Int) ∧ (y : Int) ≤ hi then 1 else 0) (e + 1) := by
    intro lo hi hlo h
    exact sm_congr (e + 1) (fun y hy => ite_iff (h y hy))
  rcases hg1 with rfl | rfl <;> rcases hg2 with rfl | rfl
  · by_cases h : (e : Int) - h2 = h1
    · have q := sm_int h1 h1 b1 (e + 1)
      rw [key h1 h1 b1 (fun y hy => by omega)]
      generalize sm (fun y => if h1 ≤ (y : Int) ∧ (y : Int) ≤ h1 then 1 else 0) (e + 1) = S at q ⊢
      unfold prod
      omega
    · have q := sm_int h1 (h1 - 1) b1 (e + 1)
      rw [key h1 (h1 - 1) b1 (fun y hy => by omega)]
      generalize sm (fun y => if h1 ≤ (y : Int) ∧ (y : Int) ≤ h1 - 1 then 1 else 0) (e + 1) = S at q ⊢
      unfold prod
      omega
  · by_cases h : h2 ≤ (e : Int) - h1
    · have q := sm_int h1 h1 b1 (e + 1)
      rw [key h1 h1 b1 (fun y hy => by omega)]
      generalize sm (fun y => if h1 ≤ (y : Int) ∧ (y : Int) ≤ h1 then 1 else 0) (e + 1) = S at q ⊢
      unfold prod
      omega
    · have q := sm_int h1 (h1 - 1) b1 (e + 1)
      rw [key h1 (h1 - 1) b1 (fun y hy => by omega)]
      generalize sm (fun y => if h1 ≤ (y : Int) ∧ (y : Int) ≤ h1 - 1 then 1 else 0) (e + 1) = S at q ⊢
      unfold prod
      omega
  · by_cases h : h1 ≤ (e : Int) - h2
    · have q := sm_int ((e : Int) - h2) ((e : Int) - h2) (by omega) (e + 1)
      rw [key ((e : Int) - h2) ((e : Int) - h2) (by omega) (fun y hy => by omega)]
      generalize sm (fun y => if (e : Int) - h2 ≤ (y : Int) ∧ (y : Int) ≤ (e : Int) - h2 then 1 else 0) (e + 1) = S at q ⊢
      unfold prod
      omega
    · have q := sm_int h1 (h1 - 1) b1 (e + 1)
      rw [key h1 (h1 - 1) b1 (fun y hy => by omega)]
      generalize sm (fun y => if h1 ≤ (y : Int) ∧ (y : Int) ≤ h1 - 1 then 1 else 0) (e + 1) = S at q ⊢
      unfold prod
      omega
  · have q := sm_int h1 ((e : Int) - h2) b1 (e + 1)
    rw [key h1 ((e : Int) - h2) b1 (fun y hy => by omega)]
    generalize sm (fun y => if h1 ≤ (y : Int) ∧ (y : Int) ≤ (e : Int) - h2 then 1 else 0) (e + 1) = S at q ⊢
    unfold prod
    omega
theorem prod_tel (l m : Int) (hl : l = 0 ∨ l = 1 ∨ l = 2) : prod (l + 1) m - prod (l + 1) (m - 1) = prod l m := by
  have e : (m + 1) * (m + 2) = (m - 1 + 1) * (m - 1 + 2) + 2 * (m + 1) := by grind
  have e0 : m = 0 → (m - 1 + 1) * (m - 1 + 2) = 0 := by intro h; subst h; rfl
  unfold prod
  generalize (m + 1) * (m + 2) = w at e ⊢
  generalize (m - 1 + 1) * (m - 1 + 2) = v at e e0 ⊢
  rcases hl with rfl | rfl | rfl <;> omega
theorem prod_neg (l m : Int) (h : m < 0) : prod l m = 0 := by
  unfold prod
  rw [if_pos h]
theorem sm_out (l D h0 : Int) (hl : l = 0 ∨ l = 1 ∨ l = 2) (b0 : 0 ≤ h0) : ∀ n : Nat, sm (fun x => if h0 ≤ (x : Int) then prod l (D - (x : Int)) else 0) n = if h0 ≤ (n : Int) then prod (l + 1) (D - h0) - prod (l + 1) (D - (n : Int)) else 0
  | 0 => by
    rw [sm]
    by_cases h : h0 ≤ ((0 : Nat) : Int)
    · have e : h0 = ((0 : Nat) : Int) := by omega
      rw [if_pos h, e]
      omega
    · rw [if_neg h]
  | n + 1 => by
    rw [sm, sm_out l D h0 hl b0 n]
    by_cases h : h0 ≤ (n : Int)
    · have t := prod_tel l (D - (n : Int)) hl
      rw [if_pos h, if_pos h, if_pos (show h0 ≤ ((n + 1 : Nat) : Int) by omega), show D - ((n + 1 : Nat) : Int) = D - (n : Int) - 1 by omega]
      omega
    · rw [if_neg h, if_neg h]
      by_cases h2 : h0 ≤ ((n + 1 : Nat) : Int)
      · have e : h0 = ((n + 1 : Nat) : Int) := by omega
        rw [if_pos h2, e]
        omega
      · rw [if_neg h2]
        rfl
theorem sm_one (f : Nat → Int) (a : Nat) : ∀ n : Nat, sm (fun x => if x = a then f x else 0) n = if a < n then f a else 0
  | 0 => by rw [sm, if_neg (by omega)]
  | n + 1 => by
    rw [sm, sm_one f a n]
    by_cases h : n = a
    · rw [if_neg (by omega), if_pos h, if_pos (by omega), h]
      omega
    · rw [if_neg h]
      by_cases h2 : a < n
      · rw [if_pos h2, if_pos (by omega)]; omega
      · rw [if_neg h2, if_neg (by omega)]; omega
/-- the product of a degree with two of its exponents -/
def PQ (d x y : Nat) : Int := 1024 * (x : Int) + 32 * (y : Int) + (d : Int) - (x : Int) - (y : Int)
theorem PQ_ex {d x y : Nat} (hd : d ≤ 30) (h : x + y ≤ d) : ex (PQ d x y) 0 = x ∧ ex (PQ d x y) 1 = y ∧ ex (PQ d x y) 2 = (d : Int) - x - y := by
  have e0 : PQ d x y / 1024 = x := by unfold PQ; omega
  have e1 : PQ d x y / 32 = 32 * x + y := by unfold PQ; omega
  refine ⟨?_, ?_, ?_⟩
  · unfold ex; rw [if_pos rfl, e0]; omega
  · unfold ex; rw [if_neg (by omega), if_pos rfl, e1]; omega
  · unfold ex; rw [if_neg (by omega), if_neg (by omega)]; unfold PQ; omega
def cnt (g h q : Int) : Int := if inC g h q = true then 1 else 0
def CCn (g h : Int) (d : Nat) : Int := sm (fun x => sm (fun y => cnt g h (PQ d x y)) (d + 1 - x)) (d + 1)
theorem CC_eq {g h : Int} {d : Nat} (hd : d ≤ 30) : CCn g h d = prod (bc g) ((d : Int) - dg h) := by
  have b0 := ex_b h 0
  have b1 := ex_b h 1
  have b2 := ex_b h 2
  have s1 : ∀ x, x < d + 1 → sm (fun y => cnt g h (PQ d x y)) (d + 1 - x) = if (x : Int) = ex h 0 ∨ (ex h 0 < (x : Int) ∧ g % 2 = 1) then prod (g / 2 % 2 + g / 4 % 2) ((d : Int) - (x : Int) - ex h 1 - ex h 2) else 0 := by
    intro x hx
    by_cases h0 : (x : Int) = ex h 0 ∨ (ex h 0 < (x : Int) ∧ g % 2 = 1)
    · rw [if_pos h0]
      have q := sm_in (g / 2 % 2) (g / 4 % 2) (ex h 1) (ex h 2) (by omega) (by omega) b1.1 b2.1 (d - x)
      rw [show (((d - x : Nat) : Int)) = (d : Int) - (x : Int) by omega] at q
      rw [← q, show d + 1 - x = d - x + 1 by omega]
      refine sm_congr _ (fun y hy => ?_)
      obtain ⟨e0, e1, e2⟩ := PQ_ex (x := x) (y := y) hd (by omega)
      unfold cnt inC
      rw [e0, e1, e2]
      refine ite_iff ?_
      rw [decide_eq_true_iff]
      exact ⟨fun hh => hh.2, fun hh => ⟨h0, hh⟩⟩
    · rw [if_neg h0]
      rw [← sm_zero (d + 1 - x)]
      refine sm_congr _ (fun y hy => ?_)
      obtain ⟨e0, e1, e2⟩ := PQ_ex (x := x) (y := y) hd (by omega)
      unfold cnt inC
      rw [e0]
      rw [if_neg]
      rw [decide_eq_true_iff]
      exact fun hh => h0 hh.1
  unfold CCn
  rw [sm_congr (d + 1) s1]
  unfold bc dg
  rcases (show g % 2 = 0 ∨ g % 2 = 1 by omega) with hg | hg
  · rw [sm_congr (g := fun x => if x = (ex h 0).toNat then (fun x : Nat => prod (g / 2 % 2 + g / 4 % 2) ((d : Int) - (x : Int) - ex h 1 - ex h 2)) x else 0) (d + 1) (fun x hx => by
      by_cases hq : x = (ex h 0).toNat
      · rw [if_pos hq, if_pos (by omega)]
      · rw [if_neg hq, if_neg (by omega)]), sm_one, hg]
    by_cases hq : (ex h 0).toNat < d + 1
    · rw [if_pos hq]
      rw [show (((ex h 0).toNat : Nat) : Int) = ex h 0 by omega, show (0 : Int) + g / 2 % 2 + g / 4 % 2 = g / 2 % 2 + g / 4 % 2 by omega, show (d : Int) - ex h 0 - ex h 1 - ex h 2 = (d : Int) - (ex h 0 + ex h 1 + ex h 2) by omega]
    · rw [if_neg hq, prod_neg _ _ (by omega)]
  · rw [sm_congr (g := fun x => if ex h 0 ≤ (x : Int) then prod (g / 2 % 2 + g / 4 % 2) ((d : Int) - ex h 1 - ex h 2 - (x : Int)) else 0) (d + 1) (fun x hx => by
      by_cases hq : ex h 0 ≤ (x : Int)
      · rw [if_pos hq, if_pos (by omega), show (d : Int) - (x : Int) - ex h 1 - ex h 2 = (d : Int) - ex h 1 - ex h 2 - (x : Int) by omega]
      · rw [if_neg hq, if_neg (by omega)]), sm_out _ _ _ (by omega) b0.1, hg]
    rw [show (1 : Int) + g / 2 % 2 + g / 4 % 2 = g / 2 % 2 + g / 4 % 2 + 1 by omega]
    by_cases hq : ex h 0 ≤ ((d + 1 : Nat) : Int)
    · rw [if_pos hq, prod_neg _ ((d : Int) - ex h 1 - ex h 2 - ((d + 1 : Nat) : Int)) (by omega), show (d : Int) - ex h 1 - ex h 2 - ex h 0 = (d : Int) - (ex h 0 + ex h 1 + ex h 2) by omega]
      omega
    · rw [if_neg hq, prod_neg _ _ (by omega)]
/-! counted one by one -/
def ind (bs : List Mb) (q : Int) : Int := if ownF q bs 0 = -1 then 1 else 0
theorem own_iff (q : Int) : ∀ (bs : List Mb) (i : Nat), ownF q bs i = -1 ↔ ∀ b ∈ bs, inC b.2.1 (hd b.1) q = false
  | [], i => by simp [ownF]
  | b :: bs, i => by
    rw [ownF]
    by_cases h : inC b.2.1 (hd b.1) q = true
    · rw [if_pos h]
      constructor
      · intro h9; omega
      · intro h9
        rw [h9 b List.mem_cons_self] at h
        cases h
    · rw [if_neg h, own_iff q bs (i + 1), List.forall_mem_cons]
      exact ⟨fun h9 => ⟨by simpa using h, h9⟩, fun h9 => h9.2⟩
def TT (bs : List Mb) (d : Nat) : Int := sm (fun x => sm (fun y => ind bs (PQ d x y)) (d + 1 - x)) (d + 1)
theorem ocY_sm (bs : List Mb) (d x : Nat) : ∀ (k y : Nat) (n : Int), ocY bs d x k y n = n + sm (fun i => ind bs (PQ d x (y + i))) k
  | 0, y, n => by rw [ocY, sm]; omega
  | k + 1, y, n => by
    rw [ocY, ocY_sm bs d x k (y + 1), sm_front, show (fun i => ind bs (PQ d x (y + 1 + i))) = (fun i => ind bs (PQ d x (y + (i + 1)))) from funext fun i => by rw [show y + 1 + i = y + (i + 1) by omega]]
    rw [show (if ownF (1024 * (x : Int) + 32 * (y : Int) + (d : Int) - (x : Int) - (y : Int)) bs 0 = -1 then (1 : Int) else 0) = ind bs (PQ d x (y + 0)) from rfl]
    omega
theorem ocX_sm (bs : List Mb) (d : Nat) : ∀ (k x : Nat) (n : Int), ocX bs d k x n = n + sm (fun i => sm (fun j => ind bs (PQ d (x + i) j)) (d + 1 - (x + i))) k
  | 0, x, n => by rw [ocX, sm]; omega
  | k + 1, x, n => by
    rw [ocX, ocX_sm bs d k (x + 1), sm_front, ocY_sm, show (fun i => sm (fun j => ind bs (PQ d (x + 1 + i) j)) (d + 1 - (x + 1 + i))) = (fun i => sm (fun j => ind bs (PQ d (x + (i + 1)) j)) (d + 1 - (x + (i + 1)))) from funext fun i => by rw [show x + 1 + i = x + (i + 1) by omega]]
    rw [show (fun i => ind bs (PQ d x (0 + i))) = (fun j => ind bs (PQ d (x + 0) j)) from funext fun i => by rw [Nat.zero_add]; rfl, show d + 1 - (x + 0) = d + 1 - x from rfl]
    omega
theorem oc_TT (bs : List Mb) (d : Nat) : ocX bs d (d + 1) 0 0 = TT bs d := by
  rw [ocX_sm, TT, show (fun i => sm (fun j => ind bs (PQ d (0 + i) j)) (d + 1 - (0 + i))) = (fun x => sm (fun y => ind bs (PQ d x y)) (d + 1 - x)) from funext fun i => by rw [Nat.zero_add]]
  omega
def apt (b b2 : Mb) : Prop := ∀ q, inC b.2.1 (hd b.1) q = true → inC b2.2.1 (hd b2.1) q = false
theorem ind_cons {b : Mb} {bs : List Mb} (h : ∀ a ∈ bs, apt b a) (q : Int) : ind (b :: bs) q = ind bs q - cnt b.2.1 (hd b.1) q := by
  unfold ind cnt
  by_cases hc : inC b.2.1 (hd b.1) q = true
  · rw [if_pos hc, if_neg, if_pos]
    · rfl
    · rw [own_iff]
      exact fun a ha => h a ha q hc
    · rw [own_iff]
      intro h9
      rw [h9 b List.mem_cons_self] at hc
      cases hc
  · rw [if_neg hc]
    have e : (ownF q (b :: bs) 0 = -1) ↔ (ownF q bs 0 = -1) := by
      rw [own_iff, own_iff, List.forall_mem_cons]
      exact ⟨fun h9 => h9.2, fun h9 => ⟨by simpa using hc, h9⟩⟩
    rw [ite_iff e]
    omega
theorem TT_cons {b : Mb} {bs : List Mb} (h : ∀ a ∈ bs, apt b a) (d : Nat) : TT (b :: bs) d = TT bs d - CCn b.2.1 (hd b.1) d := by
  unfold TT CCn
  rw [← sm_sub]
  refine sm_congr _ (fun x _ => ?_)
  rw [← sm_sub]
  exact sm_congr _ (fun y _ => ind_cons h _)
theorem TT_nil {d : Nat} (hd : d ≤ 30) : TT [] d = prod 3 d := by
  have h := CC_eq (g := 7) (h := 0) hd
  rw [show bc 7 = 3 from rfl, show dg 0 = 0 from rfl, Int.sub_zero] at h
  rw [← h]
  unfold TT CCn
  refine sm_congr _ (fun x hx => sm_congr _ (fun y hy => ?_))
  obtain ⟨e0, e1, e2⟩ := PQ_ex (x := x) (y := y) hd (by omega)
  unfold ind cnt
  rw [if_pos (show ownF (PQ d x y) [] 0 = -1 from rfl), if_pos]
  unfold inC
  rw [e0, e1, e2, decide_eq_true_iff, show ex 0 0 = 0 from rfl, show ex 0 1 = 0 from rfl, show ex 0 2 = 0 from rfl]
  omega
theorem outF_sub (d : Int) : ∀ (bs : List Mb) (n c : Int), outF d bs (n - c) = outF d bs n - c
  | [], n, c => rfl
  | b :: bs, n, c => by
    rw [outF, outF, show n - c - prod (bc b.2.1) (d - dg (hd b.1)) = n - prod (bc b.2.1) (d - dg (hd b.1)) - c by omega, outF_sub d bs]
theorem TT_out {d : Nat} (hd9 : d ≤ 30) : ∀ bs : List Mb, bs.Pairwise apt → TT bs d = outF d bs (TT [] d)
  | [], _ => rfl
  | b :: bs, h => by
    rw [List.pairwise_cons] at h
    rw [TT_cons h.1, TT_out hd9 bs h.2, outF, CC_eq hd9, outF_sub]
/-! cones of unlike heads -/
def gbit (g l : Int) : Int := if l = 0 then g % 2 else if l = 1 then g / 2 % 2 else g / 4 % 2
theorem clr_bit {g l m : Int} (hg : 0 ≤ g ∧ g ≤ 7) (hl : l = 0 ∨ l = 1 ∨ l = 2) (hm : m = 0 ∨ m = 1 ∨ m = 2) : (0 ≤ clrb g l ∧ clrb g l ≤ 7) ∧ gbit (clrb g l) m = if m = l then 0 else gbit g m := by
  unfold gbit clrb
  rcases hl with rfl | rfl | rfl <;> rcases hm with rfl | rfl | rfl <;> simp only [if_true, Int.reduceEq, if_false] <;> omega
theorem gst_bit {h g o m : Int} (hg : 0 ≤ g ∧ g ≤ 7) (hm : m = 0 ∨ m = 1 ∨ m = 2) : (0 ≤ gst h g o ∧ gst h g o ≤ 7) ∧ (gbit g m = 0 → gbit (gst h g o) m = 0) ∧ (unl o h = m → ex h m < ex o m → gbit (gst h g o) m = 0) := by
  unfold gst
  by_cases hc : unl o h < 3 ∧ ex h (unl o h) < ex o (unl o h)
  · rw [if_pos hc]
    have u := unl_b o h
    obtain ⟨k1, k2⟩ := clr_bit (l := unl o h) (m := m) hg (by omega) hm
    refine ⟨k1, fun h9 => ?_, fun h9 _ => ?_⟩
    · rw [k2]; split
      · rfl
      · exact h9
    · rw [k2, if_pos h9.symm]
  · rw [if_neg hc]
    exact ⟨hg, fun h9 => h9, fun h9 h8 => absurd (show unl o h < 3 ∧ ex h (unl o h) < ex o (unl o h) by rw [h9]; exact ⟨by omega, h8⟩) hc⟩
theorem fold_bit (h m : Int) (hm : m = 0 ∨ m = 1 ∨ m = 2) : ∀ (hs : List Int) (g : Int), (0 ≤ g ∧ g ≤ 7) → (gbit g m = 0 ∨ ∃ o ∈ hs, unl o h = m ∧ ex h m < ex o m) → gbit (hs.foldl (gst h) g) m = 0
  | [], g, hg, hx => by
    rcases hx with hx | ⟨o, ho, -⟩
    · exact hx
    · cases ho
  | o :: hs, g, hg, hx => by
    obtain ⟨k1, k2, k3⟩ := gst_bit (h := h) (o := o) hg hm
    refine fold_bit h m hm hs (gst h g o) k1 ?_
    rcases hx with hx | ⟨a, ha, h1, h2⟩
    · exact Or.inl (k2 hx)
    · rcases List.mem_cons.mp ha with rfl | ha
      · exact Or.inl (k3 h1 h2)
      · exact Or.inr ⟨a, ha, h1, h2⟩
theorem apart1 {h h2 q m : Int} {hs : List Int} {g2 : Int} (hm : m = 0 ∨ m = 1 ∨ m = 2) (hh : h2 ∈ hs) (hu : unl h2 h = m) (hl : ex h m < ex h2 m) (c1 : inC (goodF h hs) h q = true) (c2 : inC g2 h2 q = true) : False := by
  have b : gbit (goodF h hs) m = 0 := fold_bit h m hm hs 7 (by omega) (Or.inr ⟨h2, hh, hu, hl⟩)
  unfold inC at c1 c2
  rw [decide_eq_true_iff] at c1 c2
  unfold gbit at b
  generalize goodF h hs = g at b c1
  rcases hm with rfl | rfl | rfl <;> simp only [if_true, Int.reduceEq, if_false] at b <;> omega
theorem apart2 {h h2 q : Int} {hs : List Int} (p1 : isPr h) (p2 : isPr h2) (hh : h ∈ hs) (hh2 : h2 ∈ hs) (hne : h ≠ h2) (c1 : inC (goodF h hs) h q = true) (c2 : inC (goodF h2 hs) h2 q = true) : False := by
  by_cases e0 : ex h 0 = ex h2 0
  · by_cases e1 : ex h 1 = ex h2 1
    · by_cases e2 : ex h 2 = ex h2 2
      · apply hne
        unfold isPr at p1 p2
        unfold ex at e0 e1 e2
        simp only [if_true, Int.reduceEq, if_false] at e0 e1 e2
        omega
      · rcases (show ex h 2 < ex h2 2 ∨ ex h2 2 < ex h 2 by omega) with hl | hl
        · exact apart1 (m := 2) (by omega) hh2 (by unfold unl; rw [if_neg (by omega), if_neg (by omega), if_pos (by omega)]) hl c1 c2
        · exact apart1 (m := 2) (by omega) hh (by unfold unl; rw [if_neg (by omega), if_neg (by omega), if_pos (by omega)]) hl c2 c1
    · rcases (show ex h 1 < ex h2 1 ∨ ex h2 1 < ex h 1 by omega) with hl | hl
      · exact apart1 (m := 1) (by omega) hh2 (by unfold unl; rw [if_neg (by omega), if_pos (by omega)]) hl c1 c2
      · exact apart1 (m := 1) (by omega) hh (by unfold unl; rw [if_neg (by omega), if_pos (by omega)]) hl c2 c1
  · rcases (show ex h 0 < ex h2 0 ∨ ex h2 0 < ex h 0 by omega) with hl | hl
    · exact apart1 (m := 0) (by omega) hh2 (by unfold unl; rw [if_pos (by omega)]) hl c1 c2
    · exact apart1 (m := 0) (by omega) hh (by unfold unl; rw [if_pos (by omega)]) hl c2 c1
theorem och : OCH := by
  intro o bs hB d hd9
  rw [oc_TT, ← TT_nil hd9]
  refine TT_out hd9 bs ?_
  obtain ⟨h1, h2, h3⟩ := hB
  have hp := List.pairwise_map.mp h2
  refine List.Pairwise.imp_of_mem (fun {a b} ha hb hne => ?_) hp
  intro q hq
  by_cases hq2 : inC b.2.1 (hd b.1) q = true
  · exfalso
    rw [h3 a ha] at hq
    rw [h3 b hb] at hq2
    have ka := (h1 a ha).1
    have kb9 := (h1 b hb).1
    exact apart2 (hd_pr ka.1 ka.2.1) (hd_pr kb9.1 kb9.2.1) (show hd a.1 ∈ hds bs from List.mem_map_of_mem (f := fun b : Mb => hd b.1) ha) (show hd b.1 ∈ hds bs from List.mem_map_of_mem (f := fun b : Mb => hd b.1) hb) hne hq hq2
  · simpa using hq2
/-! the three literals: String's own methods -/
def nmC (q j : Nat) : Int := (nmL q).getD j 0
/-- the literals' bytes and the statics of String's own methods, as they lie outside -/
def SV (X : CX) : Prop := vk_S 3 [3, 3, 3] [[108, 101, 120], [100, 101, 103], [114, 101, 118]] (fun i => xa X (BIG + 4 + i)) (fun i => xa X (BIG + 7 + i)) (xA X) (xs X) (xs X).heap
  ∧ va_Z "java/lang/String" "COMPACT_STRINGS" "Z" (.int 1) (xA X) (xs X) (xs X).heap
  ∧ ∃ fm : Option Nat, va_Z "jdk/internal/util/Preconditions" "SIOOBE_FORMATTER" "Ljava/util/function/BiFunction;" (cv X (aR fm)) (xA X) (xs X) (xs X).heap
theorem cv_big {X : CX} {b : Nat} (h : BIG ≤ b) : cv X (aR (some b)) = .ref (xa X b) := by
  show va_rf (some (ad X b)) = _
  unfold ad
  rw [if_neg (by omega)]
  rfl
theorem G_in {X : CX} {m : Nat} {z : JZ} {K : Option AV → Mem → Prop} {i : Nat} {ls : List (Option AV)} {st : List AV} {M : Mem} (h : CtxOK X → ∀ (Q : State → Prop) (p : Program) (e : Env) (s : State) (mi : MethodId) (args : Array Value) (below : List Frame) (meth : Method) (c : Code), GE X m z K Q p e s mi args below meth c → Gw X m z Q p e s mi args below meth c i ls st M) : G X m z i ls st M K :=
  fun C hls hst Q p e s mi args below meth c E => h C Q p e s mi args below meth c E hls hst
section STR
variable {X : CX} {m : Nat} {z : JZ} {Q : State → Prop} {p : Program} {e : Env} {s : State} {mi : MethodId} {args : Array Value} {below : List Frame} {meth : Method} {c : Code} {K : Option AV → Mem → Prop} {i : Nat} {ls : List (Option AV)} {st : List AV} {M : Mem}
theorem s_getsX (C : CtxOK X) (E : GE X m z K Q p e s mi args below meth c) {k : Nat} {cls nm ds : String} {v : AV} (hd : dk m i (.getstatic k) 3 = true) (hw : wk m i (.fieldLink (yn m).cls k cls nm ds) = true) (hv : okV v) (hZ0 : va_Z cls nm ds (cv X v) (xA X) (xs X) (xs X).heap)
    (k1 : Gw X m z Q p e s mi args below meth c (i + 1) ls (v :: st) M) : Gw X m z Q p e s mi args below meth c i ls st M := by
  intro hls hst H locs cells slots lsA R L
  obtain ⟨h1, h2⟩ := dk_ok hd
  have hZ := va_Z.kept (va_Z.moved E.2.2.2.2.1.alike hZ0) (H1 := s.heap) (fun q hq _ => E.2.2.2.2.2.1 q hq)
  have fin : W p (xl X) e (rmz m z) s mi args below meth c H locs cells slots Q (F0 mi (pb m i + 3) lsA (cv X v :: st.map (cv X))) := by
    rw [← h2]
    exact k1 hls (okSt_c hv hst) H locs cells slots lsA R L
  exact va_gets E.1 E.2.1 hZ R.2.1 E.2.2.2.1 (gl_hts C E.2.2.2.2.1 args _ (gl_of (wk_ok hw) rfl)) (fun _ h => h) h1 fin
theorem s_getX (C : CtxOK X) (E : GE X m z K Q p e s mi args below meth c) {k q : Nat} {nm ds : String} {v : AV} (hd : dk m i (.getfield k) 3 = true) (hw : wk m i (.fieldLink (yn m).cls k "java/lang/String" nm ds) = true) (hv : okV v) (hO : va_OF "java/lang/String" nm ds (cv X v) (xa X (BIG + 4 + q)) (xA X) (xs X) (xs X).heap)
    (k1 : Gw X m z Q p e s mi args below meth c (i + 1) ls (v :: st) M) : Gw X m z Q p e s mi args below meth c i ls (aR (some (BIG + 4 + q)) :: st) M := by
  intro hls hst H locs cells slots lsA R L
  obtain ⟨h1, h2⟩ := dk_ok hd
  have hO1 := va_OF.kept (va_OF.moved E.2.2.2.2.1.alike hO) (H1 := s.heap) (fun q hq _ => E.2.2.2.2.2.1 q hq)
  rw [List.map_cons, cv_big (by omega)]
  refine vk_getf E.1 E.2.1 hO1 R.2.1 E.2.2.2.1 (gl_hts C E.2.2.2.2.1 args _ (gl_of (wk_ok hw) rfl)) (fun _ h => h) h1 ?_
  rw [← h2]
  exact k1 hls (okSt_c hv (okSt_t hst)) H locs cells slots lsA R L
theorem s_alenX (E : GE X m z K Q p e s mi args below meth c) {b n : Nat} {f : Nat → Value} (hd : dk m i .arraylength 1 = true) (hb : BIG ≤ b) (hn : n < 1000) (hT : va_T .byte (xa X b) n f (xA X) (xs X) (xs X).heap)
    (k1 : Gw X m z Q p e s mi args below meth c (i + 1) ls (aI n :: st) M) : Gw X m z Q p e s mi args below meth c i ls (aR (some b) :: st) M := by
  intro hls hst H locs cells slots lsA R L
  obtain ⟨h1, h2⟩ := dk_ok hd
  have h5 := va_T.kept (va_T.moved E.2.2.2.2.1.alike hT) (H1 := s.heap) (fun q hq hqa => E.2.2.2.2.2.1 q hq)
  rw [List.map_cons, cv_big hb]
  refine va_tlen E.1 E.2.1 h5 R.2.1 (v := Int32.ofNat n) rfl h1 ?_
  rw [← h2]
  have := k1 hls (okSt_c (show inR (n : Int) from ⟨by omega, by omega⟩) (okSt_t hst)) H locs cells slots lsA R L
  rw [List.map_cons, show cv X (aI (n : Int)) = .int (Int32.ofNat n) from by show Value.int (Int32.ofInt (n : Int)) = _; rw [Int32.ofInt_eq_ofNat]] at this
  exact this
theorem s_baldX (E : GE X m z K Q p e s mi args below meth c) {b n j : Nat} {f : Nat → Value} {v : Int} (hd : dk m i .baload 1 = true) (hb : BIG ≤ b) (hj : j < n) (hn : n < 1000) (hT : va_T .byte (xa X b) n f (xA X) (xs X) (xs X).heap) (hf : f j = .int (Int32.ofInt v)) (hv : inR v)
    (k1 : Gw X m z Q p e s mi args below meth c (i + 1) ls (aI v :: st) M) : Gw X m z Q p e s mi args below meth c i ls (aI j :: aR (some b) :: st) M := by
  intro hls hst H locs cells slots lsA R L
  obtain ⟨h1, h2⟩ := dk_ok hd
  have hr : inR (j : Int) := ⟨by omega, by omega⟩
  have h5 := va_T.kept (va_T.moved E.2.2.2.2.1.alike hT) (H1 := s.heap) (fun q hq hqa => E.2.2.2.2.2.1 q hq)
  rw [List.map_cons, List.map_cons, cv_big hb]
  refine va_tb E.1 E.2.1 h5 R.2.1 (i := Int32.ofInt (j : Int)) (ofI_in hr (by omega) (by omega)) (v := .int (Int32.ofInt v)) (by rw [ofI_nat hr, Int.toNat_natCast]; exact hf) h1 ?_
  rw [← h2]
  exact k1 hls (okSt_c hv (okSt_t (okSt_t hst))) H locs cells slots lsA R L
theorem s_i2cX (E : GE X m z K Q p e s mi args below meth c) {v : Int} (hd : dk m i .i2c 1 = true) (hv : ((Int32.ofInt v).toUInt32 % 65536).toInt32 = Int32.ofInt v)
    (k1 : Gw X m z Q p e s mi args below meth c (i + 1) ls (aI v :: st) M) : Gw X m z Q p e s mi args below meth c i ls (aI v :: st) M := by
  intro hls hst H locs cells slots lsA R L
  obtain ⟨h1, h2⟩ := dk_ok hd
  refine lv_i2c E.1 E.2.1 h1 hv ?_
  rw [← h2]
  exact k1 hls hst H locs cells slots lsA R L
theorem s_gotoX (E : GE X m z K Q p e s mi args below meth c) {t : Nat} (hd : dk m i (.goto (jOff m i t)) 3 = true)
    (k1 : Gw X m z Q p e s mi args below meth c t ls st M) : Gw X m z Q p e s mi args below meth c i ls st M := by
  intro hls hst H locs cells slots lsA R L
  exact lv_goto E.1 E.2.1 (dk_ok hd).1 (jOff_ok t) (k1 hls hst H locs cells slots lsA R L)
theorem s_ldcS (C : CtxOK X) (E : GE X m z K Q p e s mi args below meth c) {k b : Nat} {tx : String} (hd : dk m i (.ldc k) 2 = true) (hb : BIG ≤ b) (hR : vk_R (yn m).cls k tx (xa X b) (xs X))
    (k1 : Gw X m z Q p e s mi args below meth c (i + 1) ls (aR (some b) :: st) M) : Gw X m z Q p e s mi args below meth c i ls st M := by
  intro hls hst H locs cells slots lsA R L
  obtain ⟨h1, h2⟩ := dk_ok hd
  refine va_ldcS E.1 E.2.1 E.2.2.2.1 (vk_R.warm E.2.2.2.2.1 hR) h1 ?_
  rw [← h2, ← cv_big hb]
  exact k1 hls (okSt_c trivial hst) H locs cells slots lsA R L
theorem s_callT (hV : SV X) (C : CtxOK X) (E : GE X m z K Q p e s mi args below meth c) {k y n q : Nat} {rest : List AV} {Kc : Option AV → Mem → Prop} (hd : dk m i (.invokevirtual k) 3 = true) (hw : wk m i (.methodLink (yn m).cls k (yn y)) = true) (hc : cOK m y n = true) (hi : mOKi y = true) (hsel : lw_tbl[(yP y).2.2.2.1]? = some (.selects (yn y).cls (yn y) (yn y))) (hcl : (yn y).cls = "java/lang/String") (hq : q < 3) (hdr : st.drop n = aR (some (BIG + 4 + q)) :: rest) (hcat : catS rest ≤ 8)
    (hev : Ev X y (0, 0) (aR (some (BIG + 4 + q)) :: (st.take n).reverse) M Kc) (k1 : ∀ r M', Kc r M' → Gw X m z Q p e s mi args below meth c (i + 1) ls (psh r rest) M') : Gw X m z Q p e s mi args below meth c i ls st M := by
  intro hls hst H locs cells slots lsA R L
  obtain ⟨h1, h2⟩ := dk_ok hd
  obtain ⟨hcd, hmo⟩ := hev.1
  obtain ⟨c1, c2, c3⟩ := cOK_ok hc
  obtain ⟨m1, m2, m3, m4, m5⟩ := mOK_ok hmo
  have v1 : lw_tbl[(yP y).2.2.1]? = some (.instanceMethod (yn y)) := of_decide_eq_true hi
  have hM := hev.2 C (fun v hv => by
    rcases List.mem_cons.mp hv with h | h
    · rw [h]; trivial
    · exact hst v (List.mem_of_mem_take (List.mem_reverse.mp h)))
  have hts := gl_hts C E.2.2.2.2.1 args
  have r6 := R.2.2.2.2.2.1
  have r7 := R.2.2.2.2.2.2
  have hlen : n < st.length := by
    have h9 : (st.drop n).length = (rest.length + 1) := by rw [hdr]; rfl
    rw [List.length_drop] at h9
    omega
  have hcv : cv X (aR (some (BIG + 4 + q))) = .ref (xa X (BIG + 4 + q)) := cv_big (by omega)
  have hstk : st.map (cv X) = (((st.take n).reverse.map (cv X)).reverse) ++ .ref (xa X (BIG + 4 + q)) :: rest.map (cv X) := by
    rw [← hcv, ← List.map_cons, ← hdr, List.map_reverse, List.reverse_reverse, ← List.map_append, List.take_append_drop]
  have hS9 := vk_S.kept (vk_S.moved E.2.2.2.2.1.alike hV.1) (H1 := s.heap) (fun q hq _ => E.2.2.2.2.2.1 q hq)
  refine s_back (n := (0, 0)) (Kc := Kc) (rest := rest) (a := (Value.ref (xa X (BIG + 4 + q)) :: (st.take n).reverse.map (cv X)).toArray) E R L hls (fun v hv => hst v (List.mem_of_mem_drop (i := n) (by rw [hdr]; exact List.mem_cons_of_mem _ hv))) r6 r7 h2 ?_ k1
  have hlenA : ((st.take n).reverse.map (cv X)).length = n := by simp; omega
  have hp : PreV s H "java/lang/String" (xa X (BIG + 4 + q)) (Pq X (aR (some (BIG + 4 + q)) :: (st.take n).reverse) M) ((st.take n).reverse.map (cv X)) := ⟨pq_blind _, vk_recv (i := q) hS9 hq R.2.1, fun U hU hW => ⟨by rw [List.map_cons, hcv], wd_of E R hU hW⟩⟩
  refine va_runV (S := ⟨E.1, E.2.1, E.2.2.1, E.2.2.2.1, hts⟩) hM (cwV n hts ?_ rfl rfl rfl ⟨hcl, m3, m4, by rw [m5, c3]⟩ ⟨c1, c2⟩) hp rfl hlenA L.1 hstk (lv_room (by rw [cat_sum]; exact hcat)) h1 ⟨r6, r7⟩
  refine goodIn_l hcd (fun w hw9 => ?_)
  simp only [List.mem_cons, List.not_mem_nil, or_false] at hw9
  rcases hw9 with rfl | rfl | rfl | rfl
  · exact gl_of (wk_ok hw) rfl
  · exact gl_of v1 rfl
  · rw [← hcl]; exact gl_of hsel rfl
  · rw [← hcl]; exact gl_of m1 rfl
end STR
theorem entL_ok {as : List AV} (hok : ∀ v ∈ as, okV v) (n : Nat) : okLs (entL as n) := fun k v hk => by
  have hmem : ∀ (as : List AV) (n k : Nat) (v : AV), lget (entL as n) k = some v → v ∈ as := by
    intro as
    induction as with
    | nil => intro n k v h9; rw [show entL [] n = List.replicate n none from rfl, lget_rep] at h9; cases h9
    | cons w as ih =>
      intro n k v h9
      match w with
      | .inl a =>
        cases k with
        | zero => cases h9; exact List.mem_cons_self
        | succ k => exact List.mem_cons_of_mem _ (ih (n - 1) k v h9)
      | .inr (.inl none) =>
        cases k with
        | zero => cases h9; exact List.mem_cons_self
        | succ k => exact List.mem_cons_of_mem _ (ih (n - 1) k v h9)
      | .inr (.inl (some a)) =>
        cases k with
        | zero => cases h9; exact List.mem_cons_self
        | succ k => exact List.mem_cons_of_mem _ (ih (n - 1) k v h9)
      | .inr (.inr a) =>
        match k with
        | 0 => cases h9; exact List.mem_cons_self
        | 1 => cases h9
        | k + 2 => exact List.mem_cons_of_mem _ (ih (n - 2) k v h9)
  exact hok v (hmem as n k v hk)
/-- a contract of a method that answers a byte or a char -/
theorem Ev_ofN {X : CX} {y : Nat} {as : List AV} {M : Mem} {K : Option AV → Mem → Prop} {ty : FieldType} (hcd : lw_tbl[(yP y).1]? = some (.code (yn y) (yc y) (yl y) (yr y))) (hmo : mOK y = true) (hpb : pb y 0 = 0) (hcat : catS as ≤ yl y) (hty : yr y = some ty) (hvac : ∀ i, lkB y i = true → (tb y i).1 ≠ .ireturn ∧ (tb y i).1 ≠ .lreturn ∧ (tb y i).1 ≠ .return_)
    (h : CtxOK X → ∀ (Q : State → Prop) (p : Program) (e : Env) (s : State) (mi : MethodId) (args : Array Value) (below : List Frame) (meth : Method) (c : Code), GE X y (mZ M, mS M, 0, 0) K Q p e s mi args below meth c → (∀ (i : Nat) (ls : List (Option AV)) (a : Int), decode (yc y) (pb y i) = .ok (.ireturn, 1) → narrow ty (.int (Int32.ofInt a)) = .int (Int32.ofInt a) → inR a → K (some (aI a)) M → Gw X y (mZ M, mS M, 0, 0) Q p e s mi args below meth c i ls [aI a] M) → Gw X y (mZ M, mS M, 0, 0) Q p e s mi args below meth c 0 (entL as (yl y)) [] M) : Ev X y (0, 0) as M K := by
  refine ⟨⟨hcd, hmo⟩, fun C hok => ?_⟩
  refine Met.ofW (cc := yc y) (maxL := yl y) (ret := yr y) (mOK_ok hmo).2.1 rfl ?_
  intro p e s m args below meth c s₁ B hml hv
  obtain ⟨rfl, hW, hlow, hsz, hR⟩ := hv
  rw [lg_entry_eq]
  have hls : okLs (entL as (yl y)) := entL_ok hok _
  have hnm : meth.name = (yn y).name := (name_of_methodNamed B.named B.method).1
  have E : GE X y (mZ M, mS M, 0, 0) K (MQ below (Qq X M (0, 0) K) (as.map (cv X)).toArray s 0 0 (xA X)) p e s m (as.map (cv X)).toArray below meth c := by
    refine ⟨B.exec, B.bytes, hml, findClass_of_methodNamed B.named, hW, hlow, hsz, hnm, ?_⟩
    intro i ls r M1 M' H locs cells slots hlk hret hK hokr R
    exfalso
    have hv := hvac i hlk
    match r, hret with
    | none, hret => exact hv.2.2 hret.1
    | some (.inl a), hret => exact hv.1 hret.1
    | some (.inr (.inr a)), hret => exact hv.2.1 hret.1
    | some (.inr (.inl a)), hret => exact hret
  have hret : ∀ (i : Nat) (ls : List (Option AV)) (a : Int), decode (yc y) (pb y i) = .ok (.ireturn, 1) → narrow ty (.int (Int32.ofInt a)) = .int (Int32.ofInt a) → inR a → K (some (aI a)) M → Gw X y (mZ M, mS M, 0, 0) (MQ below (Qq X M (0, 0) K) (as.map (cv X)).toArray s 0 0 (xA X)) p e s m (as.map (cv X)).toArray below meth c i ls [aI a] M := by
    intro i ls a hdec hnar ha hK hls9 hst H locs cells slots lsA R L
    have hq : ∀ t : State, t.heap = H → s.WarmedH t.vm → Qq X M (0, 0) K (as.map (cv X)).toArray s (.returned (some (.int (Int32.ofInt a)))) t := by
      intro t ht hWt
      refine ⟨some (aI a), M, hK, rfl, ⟨State.WarmedH.trans hW hWt, fun q hq => ?_, by rw [ht]; exact R.2.2.1, by rw [ht]; exact R.1⟩, ha, rfl, rfl⟩
      rw [ht, R.2.1.2.1 q (by omega) (fun h9 => absurd (show xb X ≤ q from h9) (by omega))]
      exact hlow q hq
    refine W.widen (k := 0) (n := 0) R.2.2.2.2.2.1 R.2.2.2.2.2.2 ?_
    exact W.zret B.exec B.bytes (B.returns.trans hty) hnar hq R.2.1.2.2 hdec B.notSynchronized
  have hfin := h C _ p e s m (as.map (cv X)).toArray below meth c E hret hls (fun _ h9 => by cases h9) s.heap [] 0 0 _ ⟨hR, va_S.rf, hsz, rfl, rfl, Nat.zero_le _, Nat.zero_le _⟩ (LR_entry hcat)
  rw [hpb] at hfin
  exact hfin
/-! runs of steps of methods some of whose steps are foreign -/
theorem G_stp1 {pf : PF} {X : CX} (hp : PFok X pf) {m : Nat} {z : JZ} {K : Option AV → Mem → Prop} {i : Nat} (hL : (tb m i).1 = .nop ∨ lkB m i = true) {go : Nat → List (Option AV) → List AV → Mem → Prop} (hgo : ∀ i ls st M, go i ls st M → G X m z i ls st M K) {ls : List (Option AV)} {st : List AV} {M : Mem} (h : stp pf X z K go i ls st M (tb m i)) : G X m z i ls st M K := by
  rcases hL with h9 | h9
  · exfalso
    rcases ht : tb m i with ⟨ins, x, y, w⟩
    rw [ht] at h h9
    simp only at h9
    subst h9
    exact h
  · exact stp_ok hp hgo h9 h
theorem sI_ok1 {c : SC} (hp : PFok c.2.1 c.1) {i : Nat} (hL : (tb c.2.2.1 i).1 = .nop ∨ lkB c.2.2.1 i = true) {go : Nat → List (Option AV) → List AV → Mem → Prop} (hgo : ∀ i ls st M, go i ls st M → G c.2.1 c.2.2.1 c.2.2.2.1 i ls st M c.2.2.2.2.1) {ls : List (Option AV)} {st : List AV} {M : Mem} (h : sI c go i ls st M (tb c.2.2.1 i)) : G c.2.1 c.2.2.1 c.2.2.2.1 i ls st M c.2.2.2.2.1 := by
  rcases ht : tb c.2.2.1 i with ⟨op, x, y, n⟩
  rw [ht] at h
  have fin : ∀ {pf : PF} {go' : Nat → List (Option AV) → List AV → Mem → Prop}, PFok c.2.1 pf → (∀ i ls st M, go' i ls st M → G c.2.1 c.2.2.1 c.2.2.2.1 i ls st M c.2.2.2.2.1) → stp pf c.2.1 c.2.2.2.1 c.2.2.2.2.1 go' i ls st M (op, x, y, n) → G c.2.1 c.2.2.1 c.2.2.2.1 i ls st M c.2.2.2.2.1 := fun hp' hg' h' => G_stp1 hp' hL hg' (by rw [ht]; exact h')
  cases op with
  | invokevirtual k => exact fin (pf := pf0) (go' := fun i ls st M => G c.2.1 c.2.2.1 c.2.2.2.1 i ls st M c.2.2.2.2.1) (pf0_ok _) (fun _ _ _ _ h => h) (cVg_ok hp hgo n [] st h)
  | invokestatic k =>
    simp only [sI] at h
    by_cases hx : x < 2
    · rw [if_pos hx] at h
      refine fin (pf := pf0) (go' := fun i ls st M => G c.2.1 c.2.2.1 c.2.2.2.1 i ls st M c.2.2.2.2.1) (pf0_ok _) (fun _ _ _ _ h => h) ?_
      simp only [stp]
      rw [if_pos hx]
      exact cSg_ok hp hgo n [] st h
    · rw [if_neg hx] at h
      exact fin hp hgo h
  | invokespecial k =>
    simp only [sI] at h
    by_cases hx : x < 2
    · rw [if_pos hx] at h
      refine fin (pf := pf0) (go' := fun i ls st M => G c.2.1 c.2.2.1 c.2.2.2.1 i ls st M c.2.2.2.2.1) (pf0_ok _) (fun _ _ _ _ h => h) ?_
      obtain ⟨b, rest, h1, h2, w, h4, h3⟩ := cIg_ok n [] st h
      rw [List.append_nil] at h3
      simp only [stp]
      rw [h1]
      refine ⟨h2, ?_⟩
      rw [if_neg (by omega)]
      exact ⟨w, h4, h3⟩
    · rw [if_neg hx] at h
      exact fin hp hgo h
  | _ => exact fin hp hgo h
theorem w_Gc {c : SC} (hp : PFok c.2.1 c.1) (hL : ∀ i, c.2.2.2.2.2 i = true ∨ (tb c.2.2.1 i).1 = .nop ∨ lkB c.2.2.1 i = true) : ∀ (n i : Nat) (ls : List (Option AV)) (st : List AV) (M : Mem), w c n i ls st M → G c.2.1 c.2.2.1 c.2.2.2.1 i ls st M c.2.2.2.2.1
  | 0, i, ls, st, M, h => h
  | n + 1, i, ls, st, M, h => by
    simp only [w] at h
    by_cases hc : c.2.2.2.2.2 i = true
    · rw [if_pos hc] at h
      exact h
    · rw [if_neg hc] at h
      exact sI_ok1 hp ((hL i).resolve_left hc) (w_Gc hp hL n) h
theorem G_wc {pf : PF} {X : CX} (hp : PFok X pf) {m : Nat} {z : JZ} {K : Option AV → Mem → Prop} {sp : Nat → Bool} (hL : ∀ i, sp i = true ∨ (tb m i).1 = .nop ∨ lkB m i = true) (cut : Nat → Bool) (hc : ∀ i, sp i = true → cut i = true) (n i : Nat) (ls : List (Option AV)) (st : List AV) {M : Mem} (hi : sp i = false) (h : sJ (pf, X, m, z, K, cut) n i ls st M (tb m i)) : G X m z i ls st M K := by
  have h1 : (tb m i).1 = .nop ∨ lkB m i = true := (hL i).resolve_left (fun h9 => by rw [hi] at h9; cases h9)
  exact sI_ok1 (c := (pf, X, m, z, K, cut)) hp h1 (w_Gc (c := (pf, X, m, z, K, cut)) hp (fun i => (hL i).imp (hc i) id) n) h
/-! String's own methods over the three literals; the name of an order -/
def sp_17 (i : Nat) : Bool := i == 9 || i == 13 || i == 17
def sp_18 (i : Nat) : Bool := i == 8 || i == 16
def sp_19 (i : Nat) : Bool := i == 1 || i == 2 || i == 4
def sp_22 (i : Nat) : Bool := i == 0 || i == 3
def sp_24 (i : Nat) : Bool := i == 2
def sp_25 (i : Nat) : Bool := i == 8 || i == 9
theorem LC_of {m n : Nat} {sp : Nat → Bool} (h : (List.range n).all (fun i => sp i || lkB m i) = true) (hn : ∀ i, n ≤ i → (tb m i).1 = .nop) : ∀ i, sp i = true ∨ (tb m i).1 = .nop ∨ lkB m i = true := fun i => by
  by_cases hi : i < n
  · have h9 := List.all_eq_true.mp h i (List.mem_range.mpr hi)
    rw [Bool.or_eq_true] at h9
    exact h9.imp id Or.inr
  · exact Or.inr (Or.inl (hn i (by omega)))
set_option maxRecDepth 100000 in
theorem lc_17 : (List.range 42).all (fun i => sp_17 i || lkB 17 i) = true := by decide +kernel
set_option maxRecDepth 100000 in
theorem lc_18 : (List.range 22).all (fun i => sp_18 i || lkB 18 i) = true := by decide +kernel
set_option maxRecDepth 100000 in
theorem lc_19 : (List.range 7).all (fun i => sp_19 i || lkB 19 i) = true := by decide +kernel
set_option maxRecDepth 100000 in
theorem lc_22 : (List.range 9).all (fun i => sp_22 i || lkB 22 i) = true := by decide +kernel
set_option maxRecDepth 100000 in
theorem lc_24 : (List.range 6).all (fun i => sp_24 i || lkB 24 i) = true := by decide +kernel
set_option maxRecDepth 100000 in
theorem lc_25 : (List.range 12).all (fun i => sp_25 i || lkB 25 i) = true := by decide +kernel
theorem LC_17 : ∀ i, sp_17 i = true ∨ (tb 17 i).1 = .nop ∨ lkB 17 i = true := LC_of lc_17 (fun i h => by obtain ⟨k, rfl⟩ : ∃ k, i = k + 42 := ⟨i - 42, by omega⟩; rfl)
theorem LC_18 : ∀ i, sp_18 i = true ∨ (tb 18 i).1 = .nop ∨ lkB 18 i = true := LC_of lc_18 (fun i h => by obtain ⟨k, rfl⟩ : ∃ k, i = k + 22 := ⟨i - 22, by omega⟩; rfl)
theorem LC_19 : ∀ i, sp_19 i = true ∨ (tb 19 i).1 = .nop ∨ lkB 19 i = true := LC_of lc_19 (fun i h => by obtain ⟨k, rfl⟩ : ∃ k, i = k + 7 := ⟨i - 7, by omega⟩; rfl)
theorem LC_22 : ∀ i, sp_22 i = true ∨ (tb 22 i).1 = .nop ∨ lkB 22 i = true := LC_of lc_22 (fun i h => by obtain ⟨k, rfl⟩ : ∃ k, i = k + 9 := ⟨i - 9, by omega⟩; rfl)
theorem LC_24 : ∀ i, sp_24 i = true ∨ (tb 24 i).1 = .nop ∨ lkB 24 i = true := LC_of lc_24 (fun i h => by obtain ⟨k, rfl⟩ : ∃ k, i = k + 6 := ⟨i - 6, by omega⟩; rfl)
theorem LC_25 : ∀ i, sp_25 i = true ∨ (tb 25 i).1 = .nop ∨ lkB 25 i = true := LC_of lc_25 (fun i h => by obtain ⟨k, rfl⟩ : ∃ k, i = k + 12 := ⟨i - 12, by omega⟩; rfl)
theorem vac_of {m n : Nat} (h : (List.range n).all (fun i => !lkB m i || (decide ((tb m i).1 ≠ .ireturn) && (decide ((tb m i).1 ≠ .lreturn) && decide ((tb m i).1 ≠ .return_)))) = true) (hn : ∀ i, n ≤ i → (tb m i).1 = .nop) : ∀ i, lkB m i = true → (tb m i).1 ≠ .ireturn ∧ (tb m i).1 ≠ .lreturn ∧ (tb m i).1 ≠ .return_ := fun i hl => by
  by_cases hi : i < n
  · have h9 := List.all_eq_true.mp h i (List.mem_range.mpr hi)
    rw [hl] at h9
    simpa using h9
  · have h9 := hn i (by omega)
    rw [h9]
    exact ⟨by decide, by decide, by decide⟩
set_option maxRecDepth 100000 in
theorem va_20 : (List.range 7).all (fun i => !lkB 20 i || (decide ((tb 20 i).1 ≠ .ireturn) && (decide ((tb 20 i).1 ≠ .lreturn) && decide ((tb 20 i).1 ≠ .return_)))) = true := by decide +kernel
set_option maxRecDepth 100000 in
theorem va_21 : (List.range 13).all (fun i => !lkB 21 i || (decide ((tb 21 i).1 ≠ .ireturn) && (decide ((tb 21 i).1 ≠ .lreturn) && decide ((tb 21 i).1 ≠ .return_)))) = true := by decide +kernel
set_option maxRecDepth 100000 in
theorem va_23 : (List.range 11).all (fun i => !lkB 23 i || (decide ((tb 23 i).1 ≠ .ireturn) && (decide ((tb 23 i).1 ≠ .lreturn) && decide ((tb 23 i).1 ≠ .return_)))) = true := by decide +kernel
set_option maxRecDepth 100000 in
set_option maxHeartbeats 4000000 in
theorem e_pcheck (X : CX) (M : Mem) (j n : Nat) (fm : Option Nat) (hj : j < n) : Ev X 25 (0, 0) [aI j, aI n, aR fm] M (fun r M' => r = some (aI j) ∧ M' = M) := by
  have h1 : ¬ (j : Int) < 0 := by omega
  have h2 : (j : Int) < (n : Int) := by omega
  refine Ev_of mcd_25 mok_25 (by decide) rfl (Nat.le_of_ble_eq_true rfl) ?_
  rw [show yl 25 = 3 from rfl]
  refine G_wc (pf0_ok X) LC_25 (fun i => sp_25 i || false) (fun i h => by simp only [h, Bool.true_or]) 20 _ _ _ (by rfl) ?_
  simp only [f_0, f_s, f_iconst, f_bipush, f_sipush, f_ldc, f_ldc_w, f_ldc2_w, f_ldI, f_ldL, f_ldA, f_iload, f_iload_n, f_lload, f_lload_n, f_aload, f_aload_n, f_istore, f_istore_n, f_lstore, f_lstore_n, f_astore, f_astore_n, f_iinc, f_icI, f_iadd, f_isub, f_imul, f_idiv, f_irem, f_iand, f_ior, f_ixor, f_ishl, f_ishr, f_iushr, f_i2l, f_i2b, f_i2s, f_ladd, f_lmul, f_lcmp, f_dupI, f_dupR, f_dup2, f_pop, f_goto, f_if, f_icmp, f_tab, f_ts0, f_ts1, f_getI, f_getZ, f_getR, f_putI, f_putR, f_gets, f_iald, f_bald, f_aald, f_iast, f_bast, f_aast, f_alen, f_new, f_newa, f_anew, f_virt, f_stat0, f_stat1, f_spec0, f_spec1, f_spec9, f_copy, f_max, f_min, f_cV1, f_cV0, f_cS1, f_cS0, f_iret, f_lret, f_vret, f_kG, pf0, cIg, inR, lget, lset, lset2, clr, entL, cnd, psh, catS, tsw, List.take_succ_cons, List.take_zero, List.drop_succ_cons, List.drop_zero, List.reverse_cons, List.reverse_nil, List.nil_append, List.cons_append, List.length_cons, List.length_nil, List.replicate_succ, List.replicate_zero, Nat.reduceAdd, Nat.reduceSub, Nat.reduceLeDiff, Nat.reduceLT, Nat.reduceEqDiff, Nat.reduceMul, Nat.zero_add, Nat.add_zero, Nat.le_refl, Nat.zero_le, Int.reduceEq, Int.reduceToNat, Int.toNat_natCast, Int.reduceNeg, Int.reduceAdd, Int.reduceSub, Int.reduceMul, Int.reduceLT, Int.reduceLE, Int.reduceDiv, Int.reduceMod, Bool.false_eq_true, ↓reduceIte, true_and, and_true, implies_true, forall_const, true_or, or_true, or_false, false_or, not_true_eq_false, not_false_eq_true, false_implies, Prod.mk.injEq, Fin.val_zero, Fin.val_one, Fin.isValue, Fin.reduceFinMk, Fin.val_two, mR_uI, mK_uI, mN_uI, mI_uR, mK_uR, mN_uR, mR_uC, mK_uC, mN_uC, Option.some.injEq, Sum.inl.injEq, Sum.inr.injEq, decide_true, decide_false, Bool.or_false, Bool.false_or, Bool.or_true, Bool.true_or, Nat.reduceBEq, beq_self_eq_true, show tb 25 = tb_25 from rfl, tb_25, tb_25_0, sp_25, h1, h2]
set_option maxRecDepth 100000 in
set_option maxHeartbeats 4000000 in
theorem e_check (X : CX) (hV : SV X) (M : Mem) (j n : Nat) (hj : j < n) : Ev X 24 (0, 0) [aI j, aI n] M (fun r M' => r = none ∧ M' = M) := by
  obtain ⟨fm, hZ⟩ := hV.2.2
  refine Ev_of mcd_24 mok_24 (by decide) rfl (Nat.le_of_ble_eq_true rfl) ?_
  rw [show yl 24 = 2 from rfl]
  refine G_wc (pf0_ok X) LC_24 (fun i => sp_24 i || false) (fun i h => by simp only [h, Bool.true_or]) 20 _ _ _ (by rfl) ?_
  simp only [f_0, f_s, f_iconst, f_bipush, f_sipush, f_ldc, f_ldc_w, f_ldc2_w, f_ldI, f_ldL, f_ldA, f_iload, f_iload_n, f_lload, f_lload_n, f_aload, f_aload_n, f_istore, f_istore_n, f_lstore, f_lstore_n, f_astore, f_astore_n, f_iinc, f_icI, f_iadd, f_isub, f_imul, f_idiv, f_irem, f_iand, f_ior, f_ixor, f_ishl, f_ishr, f_iushr, f_i2l, f_i2b, f_i2s, f_ladd, f_lmul, f_lcmp, f_dupI, f_dupR, f_dup2, f_pop, f_goto, f_if, f_icmp, f_tab, f_ts0, f_ts1, f_getI, f_getZ, f_getR, f_putI, f_putR, f_gets, f_iald, f_bald, f_aald, f_iast, f_bast, f_aast, f_alen, f_new, f_newa, f_anew, f_virt, f_stat0, f_stat1, f_spec0, f_spec1, f_spec9, f_copy, f_max, f_min, f_cV1, f_cV0, f_cS1, f_cS0, f_iret, f_lret, f_vret, f_kG, pf0, cIg, inR, lget, lset, lset2, clr, entL, cnd, psh, catS, tsw, List.take_succ_cons, List.take_zero, List.drop_succ_cons, List.drop_zero, List.reverse_cons, List.reverse_nil, List.nil_append, List.cons_append, List.length_cons, List.length_nil, List.replicate_succ, List.replicate_zero, Nat.reduceAdd, Nat.reduceSub, Nat.reduceLeDiff, Nat.reduceLT, Nat.reduceEqDiff, Nat.reduceMul, Nat.zero_add, Nat.add_zero, Nat.le_refl, Nat.zero_le, Int.reduceEq, Int.reduceToNat, Int.toNat_natCast, Int.reduceNeg, Int.reduceAdd, Int.reduceSub, Int.reduceMul, Int.reduceLT, Int.reduceLE, Int.reduceDiv, Int.reduceMod, Bool.false_eq_true, ↓reduceIte, true_and, and_true, implies_true, forall_const, true_or, or_true, or_false, false_or, not_true_eq_false, not_false_eq_true, false_implies, Prod.mk.injEq, Fin.val_zero, Fin.val_one, Fin.isValue, Fin.reduceFinMk, Fin.val_two, mR_uI, mK_uI, mN_uI, mI_uR, mK_uR, mN_uR, mR_uC, mK_uC, mN_uC, Option.some.injEq, Sum.inl.injEq, Sum.inr.injEq, decide_true, decide_false, Bool.or_false, Bool.false_or, Bool.or_true, Bool.true_or, Nat.reduceBEq, beq_self_eq_true, show tb 24 = tb_24 from rfl, tb_24, tb_24_0, sp_24]
  refine G_in (fun C Q p e s mi args below meth c E => s_getsX (k := 1053) (v := aR fm) C E (by decide +kernel) (by decide +kernel) trivial hZ (Gw_of C E ?_))
  refine G_wc (pf0_ok X) LC_24 (fun i => sp_24 i || false) (fun i h => by simp only [h, Bool.true_or]) 20 _ _ _ (by rfl) ?_
  simp only [f_0, f_s, f_iconst, f_bipush, f_sipush, f_ldc, f_ldc_w, f_ldc2_w, f_ldI, f_ldL, f_ldA, f_iload, f_iload_n, f_lload, f_lload_n, f_aload, f_aload_n, f_istore, f_istore_n, f_lstore, f_lstore_n, f_astore, f_astore_n, f_iinc, f_icI, f_iadd, f_isub, f_imul, f_idiv, f_irem, f_iand, f_ior, f_ixor, f_ishl, f_ishr, f_iushr, f_i2l, f_i2b, f_i2s, f_ladd, f_lmul, f_lcmp, f_dupI, f_dupR, f_dup2, f_pop, f_goto, f_if, f_icmp, f_tab, f_ts0, f_ts1, f_getI, f_getZ, f_getR, f_putI, f_putR, f_gets, f_iald, f_bald, f_aald, f_iast, f_bast, f_aast, f_alen, f_new, f_newa, f_anew, f_virt, f_stat0, f_stat1, f_spec0, f_spec1, f_spec9, f_copy, f_max, f_min, f_cV1, f_cV0, f_cS1, f_cS0, f_iret, f_lret, f_vret, f_kG, pf0, cIg, inR, lget, lset, lset2, clr, entL, cnd, psh, catS, tsw, List.take_succ_cons, List.take_zero, List.drop_succ_cons, List.drop_zero, List.reverse_cons, List.reverse_nil, List.nil_append, List.cons_append, List.length_cons, List.length_nil, List.replicate_succ, List.replicate_zero, Nat.reduceAdd, Nat.reduceSub, Nat.reduceLeDiff, Nat.reduceLT, Nat.reduceEqDiff, Nat.reduceMul, Nat.zero_add, Nat.add_zero, Nat.le_refl, Nat.zero_le, Int.reduceEq, Int.reduceToNat, Int.toNat_natCast, Int.reduceNeg, Int.reduceAdd, Int.reduceSub, Int.reduceMul, Int.reduceLT, Int.reduceLE, Int.reduceDiv, Int.reduceMod, Bool.false_eq_true, ↓reduceIte, true_and, and_true, implies_true, forall_const, true_or, or_true, or_false, false_or, not_true_eq_false, not_false_eq_true, false_implies, Prod.mk.injEq, Fin.val_zero, Fin.val_one, Fin.isValue, Fin.reduceFinMk, Fin.val_two, mR_uI, mK_uI, mN_uI, mI_uR, mK_uR, mN_uR, mR_uC, mK_uC, mN_uC, Option.some.injEq, Sum.inl.injEq, Sum.inr.injEq, decide_true, decide_false, Bool.or_false, Bool.false_or, Bool.or_true, Bool.true_or, Nat.reduceBEq, beq_self_eq_true, show tb 24 = tb_24 from rfl, tb_24, tb_24_0, sp_24]
  refine Ev_mono (e_pcheck X M j n fm hj) (fun r M' hr _ _ => ?_)
  obtain ⟨rfl, rfl⟩ := hr
  simp only [f_kG, psh, Nat.reduceAdd]
  refine G_wc (pf0_ok X) LC_24 (fun i => sp_24 i || false) (fun i h => by simp only [h, Bool.true_or]) 20 _ _ _ (by rfl) ?_
  simp only [f_0, f_s, f_iconst, f_bipush, f_sipush, f_ldc, f_ldc_w, f_ldc2_w, f_ldI, f_ldL, f_ldA, f_iload, f_iload_n, f_lload, f_lload_n, f_aload, f_aload_n, f_istore, f_istore_n, f_lstore, f_lstore_n, f_astore, f_astore_n, f_iinc, f_icI, f_iadd, f_isub, f_imul, f_idiv, f_irem, f_iand, f_ior, f_ixor, f_ishl, f_ishr, f_iushr, f_i2l, f_i2b, f_i2s, f_ladd, f_lmul, f_lcmp, f_dupI, f_dupR, f_dup2, f_pop, f_goto, f_if, f_icmp, f_tab, f_ts0, f_ts1, f_getI, f_getZ, f_getR, f_putI, f_putR, f_gets, f_iald, f_bald, f_aald, f_iast, f_bast, f_aast, f_alen, f_new, f_newa, f_anew, f_virt, f_stat0, f_stat1, f_spec0, f_spec1, f_spec9, f_copy, f_max, f_min, f_cV1, f_cV0, f_cS1, f_cS0, f_iret, f_lret, f_vret, f_kG, pf0, cIg, inR, lget, lset, lset2, clr, entL, cnd, psh, catS, tsw, List.take_succ_cons, List.take_zero, List.drop_succ_cons, List.drop_zero, List.reverse_cons, List.reverse_nil, List.nil_append, List.cons_append, List.length_cons, List.length_nil, List.replicate_succ, List.replicate_zero, Nat.reduceAdd, Nat.reduceSub, Nat.reduceLeDiff, Nat.reduceLT, Nat.reduceEqDiff, Nat.reduceMul, Nat.zero_add, Nat.add_zero, Nat.le_refl, Nat.zero_le, Int.reduceEq, Int.reduceToNat, Int.toNat_natCast, Int.reduceNeg, Int.reduceAdd, Int.reduceSub, Int.reduceMul, Int.reduceLT, Int.reduceLE, Int.reduceDiv, Int.reduceMod, Bool.false_eq_true, ↓reduceIte, true_and, and_true, implies_true, forall_const, true_or, or_true, or_false, false_or, not_true_eq_false, not_false_eq_true, false_implies, Prod.mk.injEq, Fin.val_zero, Fin.val_one, Fin.isValue, Fin.reduceFinMk, Fin.val_two, mR_uI, mK_uI, mN_uI, mI_uR, mK_uR, mN_uR, mR_uC, mK_uC, mN_uC, Option.some.injEq, Sum.inl.injEq, Sum.inr.injEq, decide_true, decide_false, Bool.or_false, Bool.false_or, Bool.or_true, Bool.true_or, Nat.reduceBEq, beq_self_eq_true, show tb 24 = tb_24 from rfl, tb_24, tb_24_0, sp_24]
theorem nm_b : ∀ q : Nat, q < 3 → ∀ j : Nat, j < 3 → (0 ≤ nmC q j ∧ nmC q j ≤ 127) ∧ Value.int ((([[108, 101, 120], [100, 101, 103], [114, 101, 118]] : List (List Int32)).getD q []).getD j 0) = .int (Int32.ofInt (nmC q j)) ∧ iAnd (nmC q j) 255 = nmC q j ∧ ((Int32.ofInt (nmC q j)).toUInt32 % 65536).toInt32 = Int32.ofInt (nmC q j) ∧ narrow .char (.int (Int32.ofInt (nmC q j))) = .int (Int32.ofInt (nmC q j)) ∧ ([3, 3, 3] : List Nat).getD q 0 = 3 := by decide +kernel
theorem e_coder (X : CX) (hV : SV X) (M : Mem) (q : Nat) (hq : q < 3) : Ev X 20 (0, 0) [aR (some (BIG + 4 + q))] M (fun r M' => r = some (aI 0) ∧ M' = M) := by
  refine Ev_ofN (ty := .byte) mcd_20 mok_20 rfl (Nat.le_of_ble_eq_true rfl) rfl (vac_of va_20 (fun i h => by obtain ⟨k, rfl⟩ : ∃ k, i = k + 7 := ⟨i - 7, by omega⟩; rfl)) (fun C Q p e s mi args below meth c E ret => ?_)
  have hO := (hV.1.1 q hq).2.1
  refine s_getsX (k := 38) (v := aI 1) C E (by decide +kernel) (by decide +kernel) (show inR 1 from ⟨by omega, by omega⟩) hV.2.1 ?_
  refine s_if (cc := .eq) (t := 5) E (by decide +kernel) (fun h => absurd (show (1 : Int) = 0 from h) (by decide)) (fun _ => ?_)
  refine s_load (ins := .aload_n 0) (len := 1) (n := 0) (v := aR (some (BIG + 4 + q))) (fun hq k9 => lv_aload_n E.1 E.2.1 (dk_ok (m := 20) (i := 2) (ins := .aload_n 0) (len := 1) (by decide +kernel)).1 rfl hq k9) (by decide +kernel) (by decide) rfl ?_
  refine s_getX (k := 15) (q := q) (nm := "coder") (ds := "B") (v := aI 0) C E (by decide +kernel) (by decide +kernel) inR_0 hO ?_
  refine s_gotoX (t := 6) E (by decide +kernel) ?_
  exact ret 6 _ 0 (by decide +kernel) (by decide +kernel) inR_0 ⟨rfl, rfl⟩
set_option maxRecDepth 100000 in
set_option maxHeartbeats 4000000 in
theorem e_isLatin1 (X : CX) (hV : SV X) (M : Mem) (q : Nat) (hq : q < 3) : Ev X 22 (0, 0) [aR (some (BIG + 4 + q))] M (fun r M' => r = some (aI 1) ∧ M' = M) := by
  have hO := (hV.1.1 q hq).2.1
  refine Ev_of mcd_22 mok_22 (by decide) rfl (Nat.le_of_ble_eq_true rfl) ?_
  refine G_in (fun C Q p e s mi args below meth c E => s_getsX (k := 38) (v := aI 1) C E (by decide +kernel) (by decide +kernel) (show inR 1 from ⟨by omega, by omega⟩) hV.2.1 (Gw_of C E ?_))
  rw [show entL [aR (some (BIG + 4 + q))] (yl 22) = [some (aR (some (BIG + 4 + q)))] from rfl]
  refine G_wc (pf0_ok X) LC_22 (fun i => sp_22 i || false) (fun i h => by simp only [h, Bool.true_or]) 20 _ _ _ (by rfl) ?_
  simp only [f_0, f_s, f_iconst, f_bipush, f_sipush, f_ldc, f_ldc_w, f_ldc2_w, f_ldI, f_ldL, f_ldA, f_iload, f_iload_n, f_lload, f_lload_n, f_aload, f_aload_n, f_istore, f_istore_n, f_lstore, f_lstore_n, f_astore, f_astore_n, f_iinc, f_icI, f_iadd, f_isub, f_imul, f_idiv, f_irem, f_iand, f_ior, f_ixor, f_ishl, f_ishr, f_iushr, f_i2l, f_i2b, f_i2s, f_ladd, f_lmul, f_lcmp, f_dupI, f_dupR, f_dup2, f_pop, f_goto, f_if, f_icmp, f_tab, f_ts0, f_ts1, f_getI, f_getZ, f_getR, f_putI, f_putR, f_gets, f_iald, f_bald, f_aald, f_iast, f_bast, f_aast, f_alen, f_new, f_newa, f_anew, f_virt, f_stat0, f_stat1, f_spec0, f_spec1, f_spec9, f_copy, f_max, f_min, f_cV1, f_cV0, f_cS1, f_cS0, f_iret, f_lret, f_vret, f_kG, pf0, cIg, inR, lget, lset, lset2, clr, entL, cnd, psh, catS, tsw, List.take_succ_cons, List.take_zero, List.drop_succ_cons, List.drop_zero, List.reverse_cons, List.reverse_nil, List.nil_append, List.cons_append, List.length_cons, List.length_nil, List.replicate_succ, List.replicate_zero, Nat.reduceAdd, Nat.reduceSub, Nat.reduceLeDiff, Nat.reduceLT, Nat.reduceEqDiff, Nat.reduceMul, Nat.zero_add, Nat.add_zero, Nat.le_refl, Nat.zero_le, Int.reduceEq, Int.reduceToNat, Int.toNat_natCast, Int.reduceNeg, Int.reduceAdd, Int.reduceSub, Int.reduceMul, Int.reduceLT, Int.reduceLE, Int.reduceDiv, Int.reduceMod, Bool.false_eq_true, ↓reduceIte, true_and, and_true, implies_true, forall_const, true_or, or_true, or_false, false_or, not_true_eq_false, not_false_eq_true, false_implies, Prod.mk.injEq, Fin.val_zero, Fin.val_one, Fin.isValue, Fin.reduceFinMk, Fin.val_two, mR_uI, mK_uI, mN_uI, mI_uR, mK_uR, mN_uR, mR_uC, mK_uC, mN_uC, Option.some.injEq, Sum.inl.injEq, Sum.inr.injEq, decide_true, decide_false, Bool.or_false, Bool.false_or, Bool.or_true, Bool.true_or, Nat.reduceBEq, beq_self_eq_true, show tb 22 = tb_22 from rfl, tb_22, tb_22_0, sp_22]
  refine G_in (fun C Q p e s mi args below meth c E => s_getX (k := 15) (q := q) (nm := "coder") (ds := "B") (v := aI 0) C E (by decide +kernel) (by decide +kernel) inR_0 hO (Gw_of C E ?_))
  refine G_wc (pf0_ok X) LC_22 (fun i => sp_22 i || false) (fun i h => by simp only [h, Bool.true_or]) 20 _ _ _ (by rfl) ?_
  simp only [f_0, f_s, f_iconst, f_bipush, f_sipush, f_ldc, f_ldc_w, f_ldc2_w, f_ldI, f_ldL, f_ldA, f_iload, f_iload_n, f_lload, f_lload_n, f_aload, f_aload_n, f_istore, f_istore_n, f_lstore, f_lstore_n, f_astore, f_astore_n, f_iinc, f_icI, f_iadd, f_isub, f_imul, f_idiv, f_irem, f_iand, f_ior, f_ixor, f_ishl, f_ishr, f_iushr, f_i2l, f_i2b, f_i2s, f_ladd, f_lmul, f_lcmp, f_dupI, f_dupR, f_dup2, f_pop, f_goto, f_if, f_icmp, f_tab, f_ts0, f_ts1, f_getI, f_getZ, f_getR, f_putI, f_putR, f_gets, f_iald, f_bald, f_aald, f_iast, f_bast, f_aast, f_alen, f_new, f_newa, f_anew, f_virt, f_stat0, f_stat1, f_spec0, f_spec1, f_spec9, f_copy, f_max, f_min, f_cV1, f_cV0, f_cS1, f_cS0, f_iret, f_lret, f_vret, f_kG, pf0, cIg, inR, lget, lset, lset2, clr, entL, cnd, psh, catS, tsw, List.take_succ_cons, List.take_zero, List.drop_succ_cons, List.drop_zero, List.reverse_cons, List.reverse_nil, List.nil_append, List.cons_append, List.length_cons, List.length_nil, List.replicate_succ, List.replicate_zero, Nat.reduceAdd, Nat.reduceSub, Nat.reduceLeDiff, Nat.reduceLT, Nat.reduceEqDiff, Nat.reduceMul, Nat.zero_add, Nat.add_zero, Nat.le_refl, Nat.zero_le, Int.reduceEq, Int.reduceToNat, Int.toNat_natCast, Int.reduceNeg, Int.reduceAdd, Int.reduceSub, Int.reduceMul, Int.reduceLT, Int.reduceLE, Int.reduceDiv, Int.reduceMod, Bool.false_eq_true, ↓reduceIte, true_and, and_true, implies_true, forall_const, true_or, or_true, or_false, false_or, not_true_eq_false, not_false_eq_true, false_implies, Prod.mk.injEq, Fin.val_zero, Fin.val_one, Fin.isValue, Fin.reduceFinMk, Fin.val_two, mR_uI, mK_uI, mN_uI, mI_uR, mK_uR, mN_uR, mR_uC, mK_uC, mN_uC, Option.some.injEq, Sum.inl.injEq, Sum.inr.injEq, decide_true, decide_false, Bool.or_false, Bool.false_or, Bool.or_true, Bool.true_or, Nat.reduceBEq, beq_self_eq_true, show tb 22 = tb_22 from rfl, tb_22, tb_22_0, sp_22]
set_option maxRecDepth 100000 in
set_option maxHeartbeats 4000000 in
theorem e_slength (X : CX) (hV : SV X) (M : Mem) (q : Nat) (hq : q < 3) : Ev X 19 (0, 0) [aR (some (BIG + 4 + q))] M (fun r M' => r = some (aI 3) ∧ M' = M) := by
  obtain ⟨-, -, hO, hT⟩ := hV.1.1 q hq
  have h3 := (nm_b q hq 0 (by omega)).2.2.2.2.2
  rw [h3] at hT
  have hi : iShr 3 0 = 3 := by decide +kernel
  refine Ev_of mcd_19 mok_19 (by decide) rfl (Nat.le_of_ble_eq_true rfl) ?_
  rw [show yl 19 = 1 from rfl]
  refine G_wc (pf0_ok X) LC_19 (fun i => sp_19 i || false) (fun i h => by simp only [h, Bool.true_or]) 20 _ _ _ (by rfl) ?_
  simp only [f_0, f_s, f_iconst, f_bipush, f_sipush, f_ldc, f_ldc_w, f_ldc2_w, f_ldI, f_ldL, f_ldA, f_iload, f_iload_n, f_lload, f_lload_n, f_aload, f_aload_n, f_istore, f_istore_n, f_lstore, f_lstore_n, f_astore, f_astore_n, f_iinc, f_icI, f_iadd, f_isub, f_imul, f_idiv, f_irem, f_iand, f_ior, f_ixor, f_ishl, f_ishr, f_iushr, f_i2l, f_i2b, f_i2s, f_ladd, f_lmul, f_lcmp, f_dupI, f_dupR, f_dup2, f_pop, f_goto, f_if, f_icmp, f_tab, f_ts0, f_ts1, f_getI, f_getZ, f_getR, f_putI, f_putR, f_gets, f_iald, f_bald, f_aald, f_iast, f_bast, f_aast, f_alen, f_new, f_newa, f_anew, f_virt, f_stat0, f_stat1, f_spec0, f_spec1, f_spec9, f_copy, f_max, f_min, f_cV1, f_cV0, f_cS1, f_cS0, f_iret, f_lret, f_vret, f_kG, pf0, cIg, inR, lget, lset, lset2, clr, entL, cnd, psh, catS, tsw, List.take_succ_cons, List.take_zero, List.drop_succ_cons, List.drop_zero, List.reverse_cons, List.reverse_nil, List.nil_append, List.cons_append, List.length_cons, List.length_nil, List.replicate_succ, List.replicate_zero, Nat.reduceAdd, Nat.reduceSub, Nat.reduceLeDiff, Nat.reduceLT, Nat.reduceEqDiff, Nat.reduceMul, Nat.zero_add, Nat.add_zero, Nat.le_refl, Nat.zero_le, Int.reduceEq, Int.reduceToNat, Int.toNat_natCast, Int.reduceNeg, Int.reduceAdd, Int.reduceSub, Int.reduceMul, Int.reduceLT, Int.reduceLE, Int.reduceDiv, Int.reduceMod, Bool.false_eq_true, ↓reduceIte, true_and, and_true, implies_true, forall_const, true_or, or_true, or_false, false_or, not_true_eq_false, not_false_eq_true, false_implies, Prod.mk.injEq, Fin.val_zero, Fin.val_one, Fin.isValue, Fin.reduceFinMk, Fin.val_two, mR_uI, mK_uI, mN_uI, mI_uR, mK_uR, mN_uR, mR_uC, mK_uC, mN_uC, Option.some.injEq, Sum.inl.injEq, Sum.inr.injEq, decide_true, decide_false, Bool.or_false, Bool.false_or, Bool.or_true, Bool.true_or, Nat.reduceBEq, beq_self_eq_true, show tb 19 = tb_19 from rfl, tb_19, tb_19_0, sp_19]
  refine G_in (fun C Q p e s mi args below meth c E => s_getX (k := 9) (q := q) (nm := "value") (ds := "[B") (v := aR (some (BIG + 7 + q))) C E (by decide +kernel) (by decide +kernel) trivial (by rw [cv_big (by omega)]; exact hO) (s_alenX E (n := 3) (by decide +kernel) (by omega) (by omega) hT (Gw_of C E ?_)))
  refine G_wc (pf0_ok X) LC_19 (fun i => sp_19 i || false) (fun i h => by simp only [h, Bool.true_or]) 20 _ _ _ (by rfl) ?_
  simp only [f_0, f_s, f_iconst, f_bipush, f_sipush, f_ldc, f_ldc_w, f_ldc2_w, f_ldI, f_ldL, f_ldA, f_iload, f_iload_n, f_lload, f_lload_n, f_aload, f_aload_n, f_istore, f_istore_n, f_lstore, f_lstore_n, f_astore, f_astore_n, f_iinc, f_icI, f_iadd, f_isub, f_imul, f_idiv, f_irem, f_iand, f_ior, f_ixor, f_ishl, f_ishr, f_iushr, f_i2l, f_i2b, f_i2s, f_ladd, f_lmul, f_lcmp, f_dupI, f_dupR, f_dup2, f_pop, f_goto, f_if, f_icmp, f_tab, f_ts0, f_ts1, f_getI, f_getZ, f_getR, f_putI, f_putR, f_gets, f_iald, f_bald, f_aald, f_iast, f_bast, f_aast, f_alen, f_new, f_newa, f_anew, f_virt, f_stat0, f_stat1, f_spec0, f_spec1, f_spec9, f_copy, f_max, f_min, f_cV1, f_cV0, f_cS1, f_cS0, f_iret, f_lret, f_vret, f_kG, pf0, cIg, inR, lget, lset, lset2, clr, entL, cnd, psh, catS, tsw, List.take_succ_cons, List.take_zero, List.drop_succ_cons, List.drop_zero, List.reverse_cons, List.reverse_nil, List.nil_append, List.cons_append, List.length_cons, List.length_nil, List.replicate_succ, List.replicate_zero, Nat.reduceAdd, Nat.reduceSub, Nat.reduceLeDiff, Nat.reduceLT, Nat.reduceEqDiff, Nat.reduceMul, Nat.zero_add, Nat.add_zero, Nat.le_refl, Nat.zero_le, Int.reduceEq, Int.reduceToNat, Int.toNat_natCast, Int.reduceNeg, Int.reduceAdd, Int.reduceSub, Int.reduceMul, Int.reduceLT, Int.reduceLE, Int.reduceDiv, Int.reduceMod, Bool.false_eq_true, ↓reduceIte, true_and, and_true, implies_true, forall_const, true_or, or_true, or_false, false_or, not_true_eq_false, not_false_eq_true, false_implies, Prod.mk.injEq, Fin.val_zero, Fin.val_one, Fin.isValue, Fin.reduceFinMk, Fin.val_two, mR_uI, mK_uI, mN_uI, mI_uR, mK_uR, mN_uR, mR_uC, mK_uC, mN_uC, Option.some.injEq, Sum.inl.injEq, Sum.inr.injEq, decide_true, decide_false, Bool.or_false, Bool.false_or, Bool.or_true, Bool.true_or, Nat.reduceBEq, beq_self_eq_true, show tb 19 = tb_19 from rfl, tb_19, tb_19_0, sp_19]
  refine G_in (fun C Q p e s mi args below meth c E => s_callT (k := 335) (y := 20) (n := 0) (q := q) (rest := [aI 3]) hV C E (by decide +kernel) (by decide +kernel) (by decide +kernel) (by decide +kernel) rfl rfl hq rfl (Nat.le_of_ble_eq_true rfl) (e_coder X hV M q hq) (fun r M' hr => ?_))
  obtain ⟨rfl, rfl⟩ := hr
  refine Gw_of C E ?_
  simp only [psh]
  refine G_wc (pf0_ok X) LC_19 (fun i => sp_19 i || false) (fun i h => by simp only [h, Bool.true_or]) 20 _ _ _ (by rfl) ?_
  simp only [f_0, f_s, f_iconst, f_bipush, f_sipush, f_ldc, f_ldc_w, f_ldc2_w, f_ldI, f_ldL, f_ldA, f_iload, f_iload_n, f_lload, f_lload_n, f_aload, f_aload_n, f_istore, f_istore_n, f_lstore, f_lstore_n, f_astore, f_astore_n, f_iinc, f_icI, f_iadd, f_isub, f_imul, f_idiv, f_irem, f_iand, f_ior, f_ixor, f_ishl, f_ishr, f_iushr, f_i2l, f_i2b, f_i2s, f_ladd, f_lmul, f_lcmp, f_dupI, f_dupR, f_dup2, f_pop, f_goto, f_if, f_icmp, f_tab, f_ts0, f_ts1, f_getI, f_getZ, f_getR, f_putI, f_putR, f_gets, f_iald, f_bald, f_aald, f_iast, f_bast, f_aast, f_alen, f_new, f_newa, f_anew, f_virt, f_stat0, f_stat1, f_spec0, f_spec1, f_spec9, f_copy, f_max, f_min, f_cV1, f_cV0, f_cS1, f_cS0, f_iret, f_lret, f_vret, f_kG, pf0, cIg, inR, lget, lset, lset2, clr, entL, cnd, psh, catS, tsw, List.take_succ_cons, List.take_zero, List.drop_succ_cons, List.drop_zero, List.reverse_cons, List.reverse_nil, List.nil_append, List.cons_append, List.length_cons, List.length_nil, List.replicate_succ, List.replicate_zero, Nat.reduceAdd, Nat.reduceSub, Nat.reduceLeDiff, Nat.reduceLT, Nat.reduceEqDiff, Nat.reduceMul, Nat.zero_add, Nat.add_zero, Nat.le_refl, Nat.zero_le, Int.reduceEq, Int.reduceToNat, Int.toNat_natCast, Int.reduceNeg, Int.reduceAdd, Int.reduceSub, Int.reduceMul, Int.reduceLT, Int.reduceLE, Int.reduceDiv, Int.reduceMod, Bool.false_eq_true, ↓reduceIte, true_and, and_true, implies_true, forall_const, true_or, or_true, or_false, false_or, not_true_eq_false, not_false_eq_true, false_implies, Prod.mk.injEq, Fin.val_zero, Fin.val_one, Fin.isValue, Fin.reduceFinMk, Fin.val_two, mR_uI, mK_uI, mN_uI, mI_uR, mK_uR, mN_uR, mR_uC, mK_uC, mN_uC, Option.some.injEq, Sum.inl.injEq, Sum.inr.injEq, decide_true, decide_false, Bool.or_false, Bool.false_or, Bool.or_true, Bool.true_or, Nat.reduceBEq, beq_self_eq_true, show tb 19 = tb_19 from rfl, tb_19, tb_19_0, sp_19, hi]
theorem e_lcharAt (X : CX) (hV : SV X) (M : Mem) (q j : Nat) (hq : q < 3) (hj : j < 3) : Ev X 23 (0, 0) [aR (some (BIG + 7 + q)), aI j] M (fun r M' => r = some (aI (nmC q j)) ∧ M' = M) := by
  obtain ⟨-, -, -, hT⟩ := hV.1.1 q hq
  obtain ⟨b1, b2, b3, b4, b5, b6⟩ := nm_b q hq j hj
  rw [b6] at hT
  have rj : inR (j : Int) := ⟨by omega, by omega⟩
  have rc : inR (nmC q j) := ⟨by omega, by omega⟩
  refine Ev_ofN (ty := .char) mcd_23 mok_23 rfl (Nat.le_of_ble_eq_true rfl) rfl (vac_of va_23 (fun i h => by obtain ⟨k, rfl⟩ : ∃ k, i = k + 11 := ⟨i - 11, by omega⟩; rfl)) (fun C Q p e s mi args below meth c E ret => ?_)
  refine s_load (ins := .iload_n 1) (len := 1) (n := 1) (v := aI j) (fun hq k9 => lv_iload_n E.1 E.2.1 (dk_ok (m := 23) (i := 0) (ins := .iload_n 1) (len := 1) (by decide +kernel)).1 rfl hq k9) (by decide +kernel) (by decide) rfl ?_
  refine s_load (ins := .aload_n 0) (len := 1) (n := 0) (v := aR (some (BIG + 7 + q))) (fun hq k9 => lv_aload_n E.1 E.2.1 (dk_ok (m := 23) (i := 1) (ins := .aload_n 0) (len := 1) (by decide +kernel)).1 rfl hq k9) (by decide +kernel) (by decide) rfl ?_
  refine s_alenX E (n := 3) (by decide +kernel) (by omega) (by omega) hT ?_
  refine s_callS (k := 9) (y := 24) (n := 2) (x := 0) C E (by decide +kernel) (by decide +kernel) (by decide +kernel) (by decide +kernel) (Nat.le_of_ble_eq_true rfl) (Nat.le_of_ble_eq_true rfl) (e_check X hV M j 3 hj) (fun r M' hr => ?_)
  obtain ⟨rfl, rfl⟩ := hr
  refine s_load (ins := .aload_n 0) (len := 1) (n := 0) (v := aR (some (BIG + 7 + q))) (fun hq k9 => lv_aload_n E.1 E.2.1 (dk_ok (m := 23) (i := 4) (ins := .aload_n 0) (len := 1) (by decide +kernel)).1 rfl hq k9) (by decide +kernel) (by decide) rfl ?_
  refine s_load (ins := .iload_n 1) (len := 1) (n := 1) (v := aI j) (fun hq k9 => lv_iload_n E.1 E.2.1 (dk_ok (m := 23) (i := 5) (ins := .iload_n 1) (len := 1) (by decide +kernel)).1 rfl hq k9) (by decide +kernel) (by decide) rfl ?_
  refine s_baldX E (n := 3) (v := nmC q j) (by decide +kernel) (by omega) hj (by omega) hT b2 rc ?_
  refine s_push (ins := .sipush 255) (len := 3) (v := aI 255) (fun k => lv_sipush E.1 E.2.1 (dk_ok (m := 23) (i := 7) (ins := .sipush 255) (len := 3) (by decide +kernel)).1 (by decide +kernel) k) (by decide +kernel) (show inR 255 from ⟨by omega, by omega⟩) ?_
  refine s_bin (ins := .iand) (f := iAnd) (g := fun a b => a &&& b) (fun hq k9 => lv_iand E.1 E.2.1 hq k9) (by decide +kernel) (Int32.ofInt_toInt _).symm (inR_toInt _) ?_
  rw [b3]
  refine s_i2cX E (by decide +kernel) b4 ?_
  exact ret 10 _ (nmC q j) (by decide +kernel) b5 rc ⟨rfl, rfl⟩
theorem e_charAt (X : CX) (hV : SV X) (M : Mem) (q j : Nat) (hq : q < 3) (hj : j < 3) : Ev X 21 (0, 0) [aR (some (BIG + 4 + q)), aI j] M (fun r M' => r = some (aI (nmC q j)) ∧ M' = M) := by
  obtain ⟨-, -, hO, -⟩ := hV.1.1 q hq
  obtain ⟨b1, b2, b3, b4, b5, b6⟩ := nm_b q hq j hj
  have rj : inR (j : Int) := ⟨by omega, by omega⟩
  have rc : inR (nmC q j) := ⟨by omega, by omega⟩
  refine Ev_ofN (ty := .char) mcd_21 mok_21 rfl (Nat.le_of_ble_eq_true rfl) rfl (vac_of va_21 (fun i h => by obtain ⟨k, rfl⟩ : ∃ k, i = k + 13 := ⟨i - 13, by omega⟩; rfl)) (fun C Q p e s mi args below meth c E ret => ?_)
  refine s_load (ins := .aload_n 0) (len := 1) (n := 0) (v := aR (some (BIG + 4 + q))) (fun hq k9 => lv_aload_n E.1 E.2.1 (dk_ok (m := 21) (i := 0) (ins := .aload_n 0) (len := 1) (by decide +kernel)).1 rfl hq k9) (by decide +kernel) (by decide) rfl ?_
  refine s_callT (k := 492) (y := 22) (n := 0) (q := q) (rest := []) hV C E (by decide +kernel) (by decide +kernel) (by decide +kernel) (by decide +kernel) rfl rfl hq rfl (Nat.le_of_ble_eq_true rfl) (e_isLatin1 X hV M q hq) (fun r M' hr => ?_)
  obtain ⟨rfl, rfl⟩ := hr
  refine s_if (cc := .eq) (t := 8) E (by decide +kernel) (fun h => absurd (show (1 : Int) = 0 from h) (by decide)) (fun _ => ?_)
  refine s_load (ins := .aload_n 0) (len := 1) (n := 0) (v := aR (some (BIG + 4 + q))) (fun hq k9 => lv_aload_n E.1 E.2.1 (dk_ok (m := 21) (i := 3) (ins := .aload_n 0) (len := 1) (by decide +kernel)).1 rfl hq k9) (by decide +kernel) (by decide) rfl ?_
  refine s_getX (k := 9) (q := q) (nm := "value") (ds := "[B") (v := aR (some (BIG + 7 + q))) C E (by decide +kernel) (by decide +kernel) trivial (by rw [cv_big (by omega)]; exact hO) ?_
  refine s_load (ins := .iload_n 1) (len := 1) (n := 1) (v := aI j) (fun hq k9 => lv_iload_n E.1 E.2.1 (dk_ok (m := 21) (i := 5) (ins := .iload_n 1) (len := 1) (by decide +kernel)).1 rfl hq k9) (by decide +kernel) (by decide) rfl ?_
  refine s_callS (k := 495) (y := 23) (n := 2) (x := 0) C E (by decide +kernel) (by decide +kernel) (by decide +kernel) (by decide +kernel) (Nat.le_of_ble_eq_true rfl) (Nat.le_of_ble_eq_true rfl) (e_lcharAt X hV M' q j hq hj) (fun r M2 hr => ?_)
  obtain ⟨rfl, rfl⟩ := hr
  exact ret 7 _ (nmC q j) (by decide +kernel) b5 rc ⟨rfl, rfl⟩
/-! the name of an order -/
set_option maxRecDepth 100000 in
set_option maxHeartbeats 4000000 in
theorem e_alike (X : CX) (hV : SV X) (M : Mem) (a q : Nat) (B : List Int) (hq : q < 3) (hA : OA M 1 3 a) (hl : mI M a 1 = B.length) (hB : IL M (a + 1) B) (h3 : B.length ≤ 3) : Ev X y_Text_alike (0, 0) [aR (some a), aR (some (BIG + 4 + q))] M (fun r M' => r = some (aI (alk B (nmL q))) ∧ M' = M) := by
  obtain ⟨o1, o2, o3, o4⟩ := hA
  have hn : (nmL q).length = 3 := by rcases (show q = 0 ∨ q = 1 ∨ q = 2 by omega) with rfl | rfl | rfl <;> rfl
  have loop : ∀ (d n : Nat), n + d = B.length → alk (B.drop n) ((nmL q).drop n) + n = alk B (nmL q) → G X y_Text_alike (mZ M, mS M, 0, 0) 2 [some (aR (some a)), some (aR (some (BIG + 4 + q))), some (aI n)] [] M (fun r M' => r = some (aI (alk B (nmL q))) ∧ M' = M) := by
    intro d
    induction d with
    | zero =>
      intro n hnd he
      have hge : (B.length : Int) ≤ (n : Int) := by omega
      rw [List.drop_eq_nil_of_le (by omega), show alk [] ((nmL q).drop n) = 0 from rfl] at he
      refine G_wc (pfb_ok X) LC_18 (fun i => sp_18 i || false) (fun i h => by simp only [h, Bool.true_or]) 20 _ _ _ (by rfl) ?_
      simp only [f_0, f_s, f_iconst, f_bipush, f_sipush, f_ldc, f_ldc_w, f_ldc2_w, f_ldI, f_ldL, f_ldA, f_iload, f_iload_n, f_lload, f_lload_n, f_aload, f_aload_n, f_istore, f_istore_n, f_lstore, f_lstore_n, f_astore, f_astore_n, f_iinc, f_icI, f_iadd, f_isub, f_imul, f_idiv, f_irem, f_iand, f_ior, f_ixor, f_ishl, f_ishr, f_iushr, f_i2l, f_i2b, f_i2s, f_ladd, f_lmul, f_lcmp, f_dupI, f_dupR, f_dup2, f_pop, f_goto, f_if, f_icmp, f_tab, f_ts0, f_ts1, f_getI, f_getZ, f_getR, f_putI, f_putR, f_gets, f_iald, f_bald, f_aald, f_iast, f_bast, f_aast, f_alen, f_new, f_newa, f_anew, f_virt, f_stat0, f_stat1, f_spec0, f_spec1, f_spec9, f_copy, f_max, f_min, f_cV1, f_cV0, f_cS1, f_cS0, f_iret, f_lret, f_vret, f_kG, pf0, cIg, inR, lget, lset, lset2, clr, entL, cnd, psh, catS, tsw, List.take_succ_cons, List.take_zero, List.drop_succ_cons, List.drop_zero, List.reverse_cons, List.reverse_nil, List.nil_append, List.cons_append, List.length_cons, List.length_nil, List.replicate_succ, List.replicate_zero, Nat.reduceAdd, Nat.reduceSub, Nat.reduceLeDiff, Nat.reduceLT, Nat.reduceEqDiff, Nat.reduceMul, Nat.zero_add, Nat.add_zero, Nat.le_refl, Nat.zero_le, Int.reduceEq, Int.reduceToNat, Int.toNat_natCast, Int.reduceNeg, Int.reduceAdd, Int.reduceSub, Int.reduceMul, Int.reduceLT, Int.reduceLE, Int.reduceDiv, Int.reduceMod, Bool.false_eq_true, ↓reduceIte, true_and, and_true, implies_true, forall_const, true_or, or_true, or_false, false_or, not_true_eq_false, not_false_eq_true, false_implies, Prod.mk.injEq, Fin.val_zero, Fin.val_one, Fin.isValue, Fin.reduceFinMk, Fin.val_two, mR_uI, mK_uI, mN_uI, mI_uR, mK_uR, mN_uR, mR_uC, mK_uC, mN_uC, Option.some.injEq, Sum.inl.injEq, Sum.inr.injEq, decide_true, decide_false, Bool.or_false, Bool.false_or, Bool.or_true, Bool.true_or, Nat.reduceBEq, beq_self_eq_true, show tb 18 = tb_18 from rfl, tb_18, tb_18_0, sp_18, pfb, pfb_b, pfb_c, pfb_v, pfa_b, pfa_c, pfa_v, o1, hl, hge]
      omega
    | succ d ih =>
      intro n hnd he
      have hge : ¬ (B.length : Int) ≤ (n : Int) := by omega
      obtain ⟨b, hb⟩ : ∃ b, B[n]? = some b := ⟨_, List.getElem?_eq_getElem (by omega)⟩
      have v := hB n b hb
      have e1 : B.drop n = b :: B.drop (n + 1) := by
        rw [List.drop_eq_getElem_cons (by omega)]
        congr 1
        exact (List.getElem_eq_iff (by omega)).mpr hb
      have e2 : (nmL q).drop n = nmC q n :: (nmL q).drop (n + 1) := by
        rw [List.drop_eq_getElem_cons (by omega)]
        congr 1
        unfold nmC
        rw [List.getD_eq_getElem?_getD, List.getElem?_eq_getElem (by omega)]
        rfl
      have hlt3 : ¬ (3 : Int) ≤ (n : Int) := by omega
      rw [e1, e2, alk] at he
      refine G_wc (pfb_ok X) LC_18 (fun i => sp_18 i || false) (fun i h => by simp only [h, Bool.true_or]) 20 _ _ _ (by rfl) ?_
      simp only [f_0, f_s, f_iconst, f_bipush, f_sipush, f_ldc, f_ldc_w, f_ldc2_w, f_ldI, f_ldL, f_ldA, f_iload, f_iload_n, f_lload, f_lload_n, f_aload, f_aload_n, f_istore, f_istore_n, f_lstore, f_lstore_n, f_astore, f_astore_n, f_iinc, f_icI, f_iadd, f_isub, f_imul, f_idiv, f_irem, f_iand, f_ior, f_ixor, f_ishl, f_ishr, f_iushr, f_i2l, f_i2b, f_i2s, f_ladd, f_lmul, f_lcmp, f_dupI, f_dupR, f_dup2, f_pop, f_goto, f_if, f_icmp, f_tab, f_ts0, f_ts1, f_getI, f_getZ, f_getR, f_putI, f_putR, f_gets, f_iald, f_bald, f_aald, f_iast, f_bast, f_aast, f_alen, f_new, f_newa, f_anew, f_virt, f_stat0, f_stat1, f_spec0, f_spec1, f_spec9, f_copy, f_max, f_min, f_cV1, f_cV0, f_cS1, f_cS0, f_iret, f_lret, f_vret, f_kG, pf0, cIg, inR, lget, lset, lset2, clr, entL, cnd, psh, catS, tsw, List.take_succ_cons, List.take_zero, List.drop_succ_cons, List.drop_zero, List.reverse_cons, List.reverse_nil, List.nil_append, List.cons_append, List.length_cons, List.length_nil, List.replicate_succ, List.replicate_zero, Nat.reduceAdd, Nat.reduceSub, Nat.reduceLeDiff, Nat.reduceLT, Nat.reduceEqDiff, Nat.reduceMul, Nat.zero_add, Nat.add_zero, Nat.le_refl, Nat.zero_le, Int.reduceEq, Int.reduceToNat, Int.toNat_natCast, Int.reduceNeg, Int.reduceAdd, Int.reduceSub, Int.reduceMul, Int.reduceLT, Int.reduceLE, Int.reduceDiv, Int.reduceMod, Bool.false_eq_true, ↓reduceIte, true_and, and_true, implies_true, forall_const, true_or, or_true, or_false, false_or, not_true_eq_false, not_false_eq_true, false_implies, Prod.mk.injEq, Fin.val_zero, Fin.val_one, Fin.isValue, Fin.reduceFinMk, Fin.val_two, mR_uI, mK_uI, mN_uI, mI_uR, mK_uR, mN_uR, mR_uC, mK_uC, mN_uC, Option.some.injEq, Sum.inl.injEq, Sum.inr.injEq, decide_true, decide_false, Bool.or_false, Bool.false_or, Bool.or_true, Bool.true_or, Nat.reduceBEq, beq_self_eq_true, show tb 18 = tb_18 from rfl, tb_18, tb_18_0, sp_18, pfb, pfb_b, pfb_c, pfb_v, pfa_b, pfa_c, pfa_v, o1, hl, hge]
      refine G_in (fun C Q p e s mi args below meth c E => s_callT (k := 38) (y := 19) (n := 0) (q := q) (rest := [aI n]) hV C E (by decide +kernel) (by decide +kernel) (by decide +kernel) (by decide +kernel) rfl rfl hq rfl (Nat.le_of_ble_eq_true rfl) (e_slength X hV M q hq) (fun r M' hr => ?_))
      obtain ⟨rfl, rfl⟩ := hr
      refine Gw_of C E ?_
      simp only [psh]
      refine G_wc (pfb_ok X) LC_18 (fun i => sp_18 i || false) (fun i h => by simp only [h, Bool.true_or]) 20 _ _ _ (by rfl) ?_
      simp only [f_0, f_s, f_iconst, f_bipush, f_sipush, f_ldc, f_ldc_w, f_ldc2_w, f_ldI, f_ldL, f_ldA, f_iload, f_iload_n, f_lload, f_lload_n, f_aload, f_aload_n, f_istore, f_istore_n, f_lstore, f_lstore_n, f_astore, f_astore_n, f_iinc, f_icI, f_iadd, f_isub, f_imul, f_idiv, f_irem, f_iand, f_ior, f_ixor, f_ishl, f_ishr, f_iushr, f_i2l, f_i2b, f_i2s, f_ladd, f_lmul, f_lcmp, f_dupI, f_dupR, f_dup2, f_pop, f_goto, f_if, f_icmp, f_tab, f_ts0, f_ts1, f_getI, f_getZ, f_getR, f_putI, f_putR, f_gets, f_iald, f_bald, f_aald, f_iast, f_bast, f_aast, f_alen, f_new, f_newa, f_anew, f_virt, f_stat0, f_stat1, f_spec0, f_spec1, f_spec9, f_copy, f_max, f_min, f_cV1, f_cV0, f_cS1, f_cS0, f_iret, f_lret, f_vret, f_kG, pf0, cIg, inR, lget, lset, lset2, clr, entL, cnd, psh, catS, tsw, List.take_succ_cons, List.take_zero, List.drop_succ_cons, List.drop_zero, List.reverse_cons, List.reverse_nil, List.nil_append, List.cons_append, List.length_cons, List.length_nil, List.replicate_succ, List.replicate_zero, Nat.reduceAdd, Nat.reduceSub, Nat.reduceLeDiff, Nat.reduceLT, Nat.reduceEqDiff, Nat.reduceMul, Nat.zero_add, Nat.add_zero, Nat.le_refl, Nat.zero_le, Int.reduceEq, Int.reduceToNat, Int.toNat_natCast, Int.reduceNeg, Int.reduceAdd, Int.reduceSub, Int.reduceMul, Int.reduceLT, Int.reduceLE, Int.reduceDiv, Int.reduceMod, Bool.false_eq_true, ↓reduceIte, true_and, and_true, implies_true, forall_const, true_or, or_true, or_false, false_or, not_true_eq_false, not_false_eq_true, false_implies, Prod.mk.injEq, Fin.val_zero, Fin.val_one, Fin.isValue, Fin.reduceFinMk, Fin.val_two, mR_uI, mK_uI, mN_uI, mI_uR, mK_uR, mN_uR, mR_uC, mK_uC, mN_uC, Option.some.injEq, Sum.inl.injEq, Sum.inr.injEq, decide_true, decide_false, Bool.or_false, Bool.false_or, Bool.or_true, Bool.true_or, Nat.reduceBEq, beq_self_eq_true, show tb 18 = tb_18 from rfl, tb_18, tb_18_0, sp_18, pfb, pfb_b, pfb_c, pfb_v, pfa_b, pfa_c, pfa_v, o1, o2, o3, o4, hlt3, v]
      refine ⟨by omega, ?_⟩
      refine G_in (fun C Q p e s mi args below meth c E => s_callT (k := 43) (y := 21) (n := 1) (q := q) (rest := [aI b]) hV C E (by decide +kernel) (by decide +kernel) (by decide +kernel) (by decide +kernel) rfl rfl hq rfl (Nat.le_of_ble_eq_true rfl) (e_charAt X hV M' q n hq (by omega)) (fun r M2 hr => ?_))
      obtain ⟨rfl, rfl⟩ := hr
      refine Gw_of C E ?_
      simp only [psh]
      by_cases hbc : b = nmC q n
      · rw [if_pos hbc] at he
        have h9 := ih (n + 1) (by omega) (by omega)
        refine G_wc (pfb_ok X) LC_18 (fun i => sp_18 i || i == 2) (fun i h => by simp only [h, Bool.true_or]) 20 _ _ _ (by rfl) ?_
        simp only [f_0, f_s, f_iconst, f_bipush, f_sipush, f_ldc, f_ldc_w, f_ldc2_w, f_ldI, f_ldL, f_ldA, f_iload, f_iload_n, f_lload, f_lload_n, f_aload, f_aload_n, f_istore, f_istore_n, f_lstore, f_lstore_n, f_astore, f_astore_n, f_iinc, f_icI, f_iadd, f_isub, f_imul, f_idiv, f_irem, f_iand, f_ior, f_ixor, f_ishl, f_ishr, f_iushr, f_i2l, f_i2b, f_i2s, f_ladd, f_lmul, f_lcmp, f_dupI, f_dupR, f_dup2, f_pop, f_goto, f_if, f_icmp, f_tab, f_ts0, f_ts1, f_getI, f_getZ, f_getR, f_putI, f_putR, f_gets, f_iald, f_bald, f_aald, f_iast, f_bast, f_aast, f_alen, f_new, f_newa, f_anew, f_virt, f_stat0, f_stat1, f_spec0, f_spec1, f_spec9, f_copy, f_max, f_min, f_cV1, f_cV0, f_cS1, f_cS0, f_iret, f_lret, f_vret, f_kG, pf0, cIg, inR, lget, lset, lset2, clr, entL, cnd, psh, catS, tsw, List.take_succ_cons, List.take_zero, List.drop_succ_cons, List.drop_zero, List.reverse_cons, List.reverse_nil, List.nil_append, List.cons_append, List.length_cons, List.length_nil, List.replicate_succ, List.replicate_zero, Nat.reduceAdd, Nat.reduceSub, Nat.reduceLeDiff, Nat.reduceLT, Nat.reduceEqDiff, Nat.reduceMul, Nat.zero_add, Nat.add_zero, Nat.le_refl, Nat.zero_le, Int.reduceEq, Int.reduceToNat, Int.toNat_natCast, Int.reduceNeg, Int.reduceAdd, Int.reduceSub, Int.reduceMul, Int.reduceLT, Int.reduceLE, Int.reduceDiv, Int.reduceMod, Bool.false_eq_true, ↓reduceIte, true_and, and_true, implies_true, forall_const, true_or, or_true, or_false, false_or, not_true_eq_false, not_false_eq_true, false_implies, Prod.mk.injEq, Fin.val_zero, Fin.val_one, Fin.isValue, Fin.reduceFinMk, Fin.val_two, mR_uI, mK_uI, mN_uI, mI_uR, mK_uR, mN_uR, mR_uC, mK_uC, mN_uC, Option.some.injEq, Sum.inl.injEq, Sum.inr.injEq, decide_true, decide_false, Bool.or_false, Bool.false_or, Bool.or_true, Bool.true_or, Nat.reduceBEq, beq_self_eq_true, show tb 18 = tb_18 from rfl, tb_18, tb_18_0, sp_18, pfb, pfb_b, pfb_c, pfb_v, pfa_b, pfa_c, pfa_v, hbc]
        exact ⟨by omega, h9⟩
      · rw [if_neg hbc] at he
        refine G_wc (pfb_ok X) LC_18 (fun i => sp_18 i || i == 2) (fun i h => by simp only [h, Bool.true_or]) 20 _ _ _ (by rfl) ?_
        simp only [f_0, f_s, f_iconst, f_bipush, f_sipush, f_ldc, f_ldc_w, f_ldc2_w, f_ldI, f_ldL, f_ldA, f_iload, f_iload_n, f_lload, f_lload_n, f_aload, f_aload_n, f_istore, f_istore_n, f_lstore, f_lstore_n, f_astore, f_astore_n, f_iinc, f_icI, f_iadd, f_isub, f_imul, f_idiv, f_irem, f_iand, f_ior, f_ixor, f_ishl, f_ishr, f_iushr, f_i2l, f_i2b, f_i2s, f_ladd, f_lmul, f_lcmp, f_dupI, f_dupR, f_dup2, f_pop, f_goto, f_if, f_icmp, f_tab, f_ts0, f_ts1, f_getI, f_getZ, f_getR, f_putI, f_putR, f_gets, f_iald, f_bald, f_aald, f_iast, f_bast, f_aast, f_alen, f_new, f_newa, f_anew, f_virt, f_stat0, f_stat1, f_spec0, f_spec1, f_spec9, f_copy, f_max, f_min, f_cV1, f_cV0, f_cS1, f_cS0, f_iret, f_lret, f_vret, f_kG, pf0, cIg, inR, lget, lset, lset2, clr, entL, cnd, psh, catS, tsw, List.take_succ_cons, List.take_zero, List.drop_succ_cons, List.drop_zero, List.reverse_cons, List.reverse_nil, List.nil_append, List.cons_append, List.length_cons, List.length_nil, List.replicate_succ, List.replicate_zero, Nat.reduceAdd, Nat.reduceSub, Nat.reduceLeDiff, Nat.reduceLT, Nat.reduceEqDiff, Nat.reduceMul, Nat.zero_add, Nat.add_zero, Nat.le_refl, Nat.zero_le, Int.reduceEq, Int.reduceToNat, Int.toNat_natCast, Int.reduceNeg, Int.reduceAdd, Int.reduceSub, Int.reduceMul, Int.reduceLT, Int.reduceLE, Int.reduceDiv, Int.reduceMod, Bool.false_eq_true, ↓reduceIte, true_and, and_true, implies_true, forall_const, true_or, or_true, or_false, false_or, not_true_eq_false, not_false_eq_true, false_implies, Prod.mk.injEq, Fin.val_zero, Fin.val_one, Fin.isValue, Fin.reduceFinMk, Fin.val_two, mR_uI, mK_uI, mN_uI, mI_uR, mK_uR, mN_uR, mR_uC, mK_uC, mN_uC, Option.some.injEq, Sum.inl.injEq, Sum.inr.injEq, decide_true, decide_false, Bool.or_false, Bool.false_or, Bool.or_true, Bool.true_or, Nat.reduceBEq, beq_self_eq_true, show tb 18 = tb_18 from rfl, tb_18, tb_18_0, sp_18, pfb, pfb_b, pfb_c, pfb_v, pfa_b, pfa_c, pfa_v, hbc]
        omega
  refine Ev_of mcd_18 mok_18 (by decide) rfl (Nat.le_of_ble_eq_true rfl) ?_
  rw [show yl 18 = 3 from rfl]
  refine G_wc (pfb_ok X) LC_18 (fun i => sp_18 i || i == 2) (fun i h => by simp only [h, Bool.true_or]) 20 _ _ _ (by rfl) ?_
  simp only [f_0, f_s, f_iconst, f_bipush, f_sipush, f_ldc, f_ldc_w, f_ldc2_w, f_ldI, f_ldL, f_ldA, f_iload, f_iload_n, f_lload, f_lload_n, f_aload, f_aload_n, f_istore, f_istore_n, f_lstore, f_lstore_n, f_astore, f_astore_n, f_iinc, f_icI, f_iadd, f_isub, f_imul, f_idiv, f_irem, f_iand, f_ior, f_ixor, f_ishl, f_ishr, f_iushr, f_i2l, f_i2b, f_i2s, f_ladd, f_lmul, f_lcmp, f_dupI, f_dupR, f_dup2, f_pop, f_goto, f_if, f_icmp, f_tab, f_ts0, f_ts1, f_getI, f_getZ, f_getR, f_putI, f_putR, f_gets, f_iald, f_bald, f_aald, f_iast, f_bast, f_aast, f_alen, f_new, f_newa, f_anew, f_virt, f_stat0, f_stat1, f_spec0, f_spec1, f_spec9, f_copy, f_max, f_min, f_cV1, f_cV0, f_cS1, f_cS0, f_iret, f_lret, f_vret, f_kG, pf0, cIg, inR, lget, lset, lset2, clr, entL, cnd, psh, catS, tsw, List.take_succ_cons, List.take_zero, List.drop_succ_cons, List.drop_zero, List.reverse_cons, List.reverse_nil, List.nil_append, List.cons_append, List.length_cons, List.length_nil, List.replicate_succ, List.replicate_zero, Nat.reduceAdd, Nat.reduceSub, Nat.reduceLeDiff, Nat.reduceLT, Nat.reduceEqDiff, Nat.reduceMul, Nat.zero_add, Nat.add_zero, Nat.le_refl, Nat.zero_le, Int.reduceEq, Int.reduceToNat, Int.toNat_natCast, Int.reduceNeg, Int.reduceAdd, Int.reduceSub, Int.reduceMul, Int.reduceLT, Int.reduceLE, Int.reduceDiv, Int.reduceMod, Bool.false_eq_true, ↓reduceIte, true_and, and_true, implies_true, forall_const, true_or, or_true, or_false, false_or, not_true_eq_false, not_false_eq_true, false_implies, Prod.mk.injEq, Fin.val_zero, Fin.val_one, Fin.isValue, Fin.reduceFinMk, Fin.val_two, mR_uI, mK_uI, mN_uI, mI_uR, mK_uR, mN_uR, mR_uC, mK_uC, mN_uC, Option.some.injEq, Sum.inl.injEq, Sum.inr.injEq, decide_true, decide_false, Bool.or_false, Bool.false_or, Bool.or_true, Bool.true_or, Nat.reduceBEq, beq_self_eq_true, show tb 18 = tb_18 from rfl, tb_18, tb_18_0, sp_18, pfb, pfb_b, pfb_c, pfb_v, pfa_b, pfa_c, pfa_v]
  exact loop B.length 0 (by omega) (by rw [List.drop_zero, List.drop_zero]; rfl)
set_option maxRecDepth 100000 in
set_option maxHeartbeats 4000000 in
theorem fok (X : CX) (hC : StrOK X) (hV : SV X) : FOK X := by
  intro M a B hA hl hB h3
  have hA0 := hA
  obtain ⟨o1, o2, o3, o4⟩ := hA
  have hA1 : ∀ v, OA (uI M a 2 v) 1 3 a := fun v => hA0
  have hl1 : ∀ v, mI (uI M a 2 v) a 1 = B.length := fun v => (mI_uI_nk (by omega)).trans hl
  have hB1 : ∀ v, IL (uI M a 2 v) (a + 1) B := fun v j b hb => (mI_uI_ne (by omega)).trans (hB j b hb)
  have hS : ∀ v, Same M (uI M a 2 v) (fun x => x = a) := fun v => Same.uI (S := fun x => x = a) (Same.rf _ _) rfl _ _
  by_cases hE : B = []
  · have hl0 : mI (uI M a 2 (-1)) a 1 = 0 := by rw [hl1, hE]; rfl
    refine Ev_of mcd_17 mok_17 (by decide) rfl (Nat.le_of_ble_eq_true rfl) ?_
    rw [show yl 17 = 4 from rfl]
    refine G_wc (pfb_ok X) LC_17 (fun i => sp_17 i || false) (fun i h => by simp only [h, Bool.true_or]) 20 _ _ _ (by rfl) ?_
    simp only [f_0, f_s, f_iconst, f_bipush, f_sipush, f_ldc, f_ldc_w, f_ldc2_w, f_ldI, f_ldL, f_ldA, f_iload, f_iload_n, f_lload, f_lload_n, f_aload, f_aload_n, f_istore, f_istore_n, f_lstore, f_lstore_n, f_astore, f_astore_n, f_iinc, f_icI, f_iadd, f_isub, f_imul, f_idiv, f_irem, f_iand, f_ior, f_ixor, f_ishl, f_ishr, f_iushr, f_i2l, f_i2b, f_i2s, f_ladd, f_lmul, f_lcmp, f_dupI, f_dupR, f_dup2, f_pop, f_goto, f_if, f_icmp, f_tab, f_ts0, f_ts1, f_getI, f_getZ, f_getR, f_putI, f_putR, f_gets, f_iald, f_bald, f_aald, f_iast, f_bast, f_aast, f_alen, f_new, f_newa, f_anew, f_virt, f_stat0, f_stat1, f_spec0, f_spec1, f_spec9, f_copy, f_max, f_min, f_cV1, f_cV0, f_cS1, f_cS0, f_iret, f_lret, f_vret, f_kG, pf0, cIg, inR, lget, lset, lset2, clr, entL, cnd, psh, catS, tsw, List.take_succ_cons, List.take_zero, List.drop_succ_cons, List.drop_zero, List.reverse_cons, List.reverse_nil, List.nil_append, List.cons_append, List.length_cons, List.length_nil, List.replicate_succ, List.replicate_zero, Nat.reduceAdd, Nat.reduceSub, Nat.reduceLeDiff, Nat.reduceLT, Nat.reduceEqDiff, Nat.reduceMul, Nat.zero_add, Nat.add_zero, Nat.le_refl, Nat.zero_le, Int.reduceEq, Int.reduceToNat, Int.toNat_natCast, Int.reduceNeg, Int.reduceAdd, Int.reduceSub, Int.reduceMul, Int.reduceLT, Int.reduceLE, Int.reduceDiv, Int.reduceMod, Bool.false_eq_true, ↓reduceIte, true_and, and_true, implies_true, forall_const, true_or, or_true, or_false, false_or, not_true_eq_false, not_false_eq_true, false_implies, Prod.mk.injEq, Fin.val_zero, Fin.val_one, Fin.isValue, Fin.reduceFinMk, Fin.val_two, mR_uI, mK_uI, mN_uI, mI_uR, mK_uR, mN_uR, mR_uC, mK_uC, mN_uC, Option.some.injEq, Sum.inl.injEq, Sum.inr.injEq, decide_true, decide_false, Bool.or_false, Bool.false_or, Bool.or_true, Bool.true_or, Nat.reduceBEq, beq_self_eq_true, show tb 17 = tb_17 from rfl, tb_17, tb_17_0, tb_17_1, sp_17, pfb, pfb_b, pfb_c, pfb_v, pfa_b, pfa_c, pfa_v, o1, hl0]
    refine ⟨?_, ?_, ?_, hS _⟩
    · unfold orN; rw [if_pos hE]
    · unfold orX; rw [if_pos hE, mI_uI_eq]
    · rw [hl, hE]; rfl
  · have hpos := List.length_pos_iff.mpr hE
    have hne : ¬ (B.length : Int) = 0 := by omega
    have hl2 := hl1 (-1)
    refine Ev_of mcd_17 mok_17 (by decide) rfl (Nat.le_of_ble_eq_true rfl) ?_
    rw [show yl 17 = 4 from rfl]
    refine G_wc (pfb_ok X) LC_17 (fun i => sp_17 i || false) (fun i h => by simp only [h, Bool.true_or]) 20 _ _ _ (by rfl) ?_
    simp only [f_0, f_s, f_iconst, f_bipush, f_sipush, f_ldc, f_ldc_w, f_ldc2_w, f_ldI, f_ldL, f_ldA, f_iload, f_iload_n, f_lload, f_lload_n, f_aload, f_aload_n, f_istore, f_istore_n, f_lstore, f_lstore_n, f_astore, f_astore_n, f_iinc, f_icI, f_iadd, f_isub, f_imul, f_idiv, f_irem, f_iand, f_ior, f_ixor, f_ishl, f_ishr, f_iushr, f_i2l, f_i2b, f_i2s, f_ladd, f_lmul, f_lcmp, f_dupI, f_dupR, f_dup2, f_pop, f_goto, f_if, f_icmp, f_tab, f_ts0, f_ts1, f_getI, f_getZ, f_getR, f_putI, f_putR, f_gets, f_iald, f_bald, f_aald, f_iast, f_bast, f_aast, f_alen, f_new, f_newa, f_anew, f_virt, f_stat0, f_stat1, f_spec0, f_spec1, f_spec9, f_copy, f_max, f_min, f_cV1, f_cV0, f_cS1, f_cS0, f_iret, f_lret, f_vret, f_kG, pf0, cIg, inR, lget, lset, lset2, clr, entL, cnd, psh, catS, tsw, List.take_succ_cons, List.take_zero, List.drop_succ_cons, List.drop_zero, List.reverse_cons, List.reverse_nil, List.nil_append, List.cons_append, List.length_cons, List.length_nil, List.replicate_succ, List.replicate_zero, Nat.reduceAdd, Nat.reduceSub, Nat.reduceLeDiff, Nat.reduceLT, Nat.reduceEqDiff, Nat.reduceMul, Nat.zero_add, Nat.add_zero, Nat.le_refl, Nat.zero_le, Int.reduceEq, Int.reduceToNat, Int.toNat_natCast, Int.reduceNeg, Int.reduceAdd, Int.reduceSub, Int.reduceMul, Int.reduceLT, Int.reduceLE, Int.reduceDiv, Int.reduceMod, Bool.false_eq_true, ↓reduceIte, true_and, and_true, implies_true, forall_const, true_or, or_true, or_false, false_or, not_true_eq_false, not_false_eq_true, false_implies, Prod.mk.injEq, Fin.val_zero, Fin.val_one, Fin.isValue, Fin.reduceFinMk, Fin.val_two, mR_uI, mK_uI, mN_uI, mI_uR, mK_uR, mN_uR, mR_uC, mK_uC, mN_uC, Option.some.injEq, Sum.inl.injEq, Sum.inr.injEq, decide_true, decide_false, Bool.or_false, Bool.false_or, Bool.or_true, Bool.true_or, Nat.reduceBEq, beq_self_eq_true, show tb 17 = tb_17 from rfl, tb_17, tb_17_0, tb_17_1, sp_17, pfb, pfb_b, pfb_c, pfb_v, pfa_b, pfa_c, pfa_v, o1, hl2, hne]
    refine G_in (fun C Q p e s mi args below meth c E => s_ldcS (k := 22) (b := BIG + 4 + 0) (tx := "lex") C E (by decide +kernel) (by omega) (hC.1 0 (by omega)) (Gw_of C E ?_))
    refine G_wc (pfb_ok X) LC_17 (fun i => sp_17 i || false) (fun i h => by simp only [h, Bool.true_or]) 20 _ _ _ (by rfl) ?_
    simp only [f_0, f_s, f_iconst, f_bipush, f_sipush, f_ldc, f_ldc_w, f_ldc2_w, f_ldI, f_ldL, f_ldA, f_iload, f_iload_n, f_lload, f_lload_n, f_aload, f_aload_n, f_istore, f_istore_n, f_lstore, f_lstore_n, f_astore, f_astore_n, f_iinc, f_icI, f_iadd, f_isub, f_imul, f_idiv, f_irem, f_iand, f_ior, f_ixor, f_ishl, f_ishr, f_iushr, f_i2l, f_i2b, f_i2s, f_ladd, f_lmul, f_lcmp, f_dupI, f_dupR, f_dup2, f_pop, f_goto, f_if, f_icmp, f_tab, f_ts0, f_ts1, f_getI, f_getZ, f_getR, f_putI, f_putR, f_gets, f_iald, f_bald, f_aald, f_iast, f_bast, f_aast, f_alen, f_new, f_newa, f_anew, f_virt, f_stat0, f_stat1, f_spec0, f_spec1, f_spec9, f_copy, f_max, f_min, f_cV1, f_cV0, f_cS1, f_cS0, f_iret, f_lret, f_vret, f_kG, pf0, cIg, inR, lget, lset, lset2, clr, entL, cnd, psh, catS, tsw, List.take_succ_cons, List.take_zero, List.drop_succ_cons, List.drop_zero, List.reverse_cons, List.reverse_nil, List.nil_append, List.cons_append, List.length_cons, List.length_nil, List.replicate_succ, List.replicate_zero, Nat.reduceAdd, Nat.reduceSub, Nat.reduceLeDiff, Nat.reduceLT, Nat.reduceEqDiff, Nat.reduceMul, Nat.zero_add, Nat.add_zero, Nat.le_refl, Nat.zero_le, Int.reduceEq, Int.reduceToNat, Int.toNat_natCast, Int.reduceNeg, Int.reduceAdd, Int.reduceSub, Int.reduceMul, Int.reduceLT, Int.reduceLE, Int.reduceDiv, Int.reduceMod, Bool.false_eq_true, ↓reduceIte, true_and, and_true, implies_true, forall_const, true_or, or_true, or_false, false_or, not_true_eq_false, not_false_eq_true, false_implies, Prod.mk.injEq, Fin.val_zero, Fin.val_one, Fin.isValue, Fin.reduceFinMk, Fin.val_two, mR_uI, mK_uI, mN_uI, mI_uR, mK_uR, mN_uR, mR_uC, mK_uC, mN_uC, Option.some.injEq, Sum.inl.injEq, Sum.inr.injEq, decide_true, decide_false, Bool.or_false, Bool.false_or, Bool.or_true, Bool.true_or, Nat.reduceBEq, beq_self_eq_true, show tb 17 = tb_17 from rfl, tb_17, tb_17_0, tb_17_1, sp_17, pfb, pfb_b, pfb_c, pfb_v, pfa_b, pfa_c, pfa_v, o1]
    refine Ev_mono (e_alike X hV _ a 0 B (by omega) (hA1 _) (hl1 _) (hB1 _) h3) (fun r M1 hr _ _ => ?_)
    obtain ⟨rfl, rfl⟩ := hr
    simp only [f_kG, psh, Nat.reduceAdd]
    refine G_wc (pfb_ok X) LC_17 (fun i => sp_17 i || false) (fun i h => by simp only [h, Bool.true_or]) 20 _ _ _ (by rfl) ?_
    simp only [f_0, f_s, f_iconst, f_bipush, f_sipush, f_ldc, f_ldc_w, f_ldc2_w, f_ldI, f_ldL, f_ldA, f_iload, f_iload_n, f_lload, f_lload_n, f_aload, f_aload_n, f_istore, f_istore_n, f_lstore, f_lstore_n, f_astore, f_astore_n, f_iinc, f_icI, f_iadd, f_isub, f_imul, f_idiv, f_irem, f_iand, f_ior, f_ixor, f_ishl, f_ishr, f_iushr, f_i2l, f_i2b, f_i2s, f_ladd, f_lmul, f_lcmp, f_dupI, f_dupR, f_dup2, f_pop, f_goto, f_if, f_icmp, f_tab, f_ts0, f_ts1, f_getI, f_getZ, f_getR, f_putI, f_putR, f_gets, f_iald, f_bald, f_aald, f_iast, f_bast, f_aast, f_alen, f_new, f_newa, f_anew, f_virt, f_stat0, f_stat1, f_spec0, f_spec1, f_spec9, f_copy, f_max, f_min, f_cV1, f_cV0, f_cS1, f_cS0, f_iret, f_lret, f_vret, f_kG, pf0, cIg, inR, lget, lset, lset2, clr, entL, cnd, psh, catS, tsw, List.take_succ_cons, List.take_zero, List.drop_succ_cons, List.drop_zero, List.reverse_cons, List.reverse_nil, List.nil_append, List.cons_append, List.length_cons, List.length_nil, List.replicate_succ, List.replicate_zero, Nat.reduceAdd, Nat.reduceSub, Nat.reduceLeDiff, Nat.reduceLT, Nat.reduceEqDiff, Nat.reduceMul, Nat.zero_add, Nat.add_zero, Nat.le_refl, Nat.zero_le, Int.reduceEq, Int.reduceToNat, Int.toNat_natCast, Int.reduceNeg, Int.reduceAdd, Int.reduceSub, Int.reduceMul, Int.reduceLT, Int.reduceLE, Int.reduceDiv, Int.reduceMod, Bool.false_eq_true, ↓reduceIte, true_and, and_true, implies_true, forall_const, true_or, or_true, or_false, false_or, not_true_eq_false, not_false_eq_true, false_implies, Prod.mk.injEq, Fin.val_zero, Fin.val_one, Fin.isValue, Fin.reduceFinMk, Fin.val_two, mR_uI, mK_uI, mN_uI, mI_uR, mK_uR, mN_uR, mR_uC, mK_uC, mN_uC, Option.some.injEq, Sum.inl.injEq, Sum.inr.injEq, decide_true, decide_false, Bool.or_false, Bool.false_or, Bool.or_true, Bool.true_or, Nat.reduceBEq, beq_self_eq_true, show tb 17 = tb_17 from rfl, tb_17, tb_17_0, tb_17_1, sp_17, pfb, pfb_b, pfb_c, pfb_v, pfa_b, pfa_c, pfa_v]
    refine G_in (fun C Q p e s mi args below meth c E => s_ldcS (k := 28) (b := BIG + 4 + 1) (tx := "deg") C E (by decide +kernel) (by omega) (hC.1 1 (by omega)) (Gw_of C E ?_))
    refine G_wc (pfb_ok X) LC_17 (fun i => sp_17 i || false) (fun i h => by simp only [h, Bool.true_or]) 20 _ _ _ (by rfl) ?_
    simp only [f_0, f_s, f_iconst, f_bipush, f_sipush, f_ldc, f_ldc_w, f_ldc2_w, f_ldI, f_ldL, f_ldA, f_iload, f_iload_n, f_lload, f_lload_n, f_aload, f_aload_n, f_istore, f_istore_n, f_lstore, f_lstore_n, f_astore, f_astore_n, f_iinc, f_icI, f_iadd, f_isub, f_imul, f_idiv, f_irem, f_iand, f_ior, f_ixor, f_ishl, f_ishr, f_iushr, f_i2l, f_i2b, f_i2s, f_ladd, f_lmul, f_lcmp, f_dupI, f_dupR, f_dup2, f_pop, f_goto, f_if, f_icmp, f_tab, f_ts0, f_ts1, f_getI, f_getZ, f_getR, f_putI, f_putR, f_gets, f_iald, f_bald, f_aald, f_iast, f_bast, f_aast, f_alen, f_new, f_newa, f_anew, f_virt, f_stat0, f_stat1, f_spec0, f_spec1, f_spec9, f_copy, f_max, f_min, f_cV1, f_cV0, f_cS1, f_cS0, f_iret, f_lret, f_vret, f_kG, pf0, cIg, inR, lget, lset, lset2, clr, entL, cnd, psh, catS, tsw, List.take_succ_cons, List.take_zero, List.drop_succ_cons, List.drop_zero, List.reverse_cons, List.reverse_nil, List.nil_append, List.cons_append, List.length_cons, List.length_nil, List.replicate_succ, List.replicate_zero, Nat.reduceAdd, Nat.reduceSub, Nat.reduceLeDiff, Nat.reduceLT, Nat.reduceEqDiff, Nat.reduceMul, Nat.zero_add, Nat.add_zero, Nat.le_refl, Nat.zero_le, Int.reduceEq, Int.reduceToNat, Int.toNat_natCast, Int.reduceNeg, Int.reduceAdd, Int.reduceSub, Int.reduceMul, Int.reduceLT, Int.reduceLE, Int.reduceDiv, Int.reduceMod, Bool.false_eq_true, ↓reduceIte, true_and, and_true, implies_true, forall_const, true_or, or_true, or_false, false_or, not_true_eq_false, not_false_eq_true, false_implies, Prod.mk.injEq, Fin.val_zero, Fin.val_one, Fin.isValue, Fin.reduceFinMk, Fin.val_two, mR_uI, mK_uI, mN_uI, mI_uR, mK_uR, mN_uR, mR_uC, mK_uC, mN_uC, Option.some.injEq, Sum.inl.injEq, Sum.inr.injEq, decide_true, decide_false, Bool.or_false, Bool.false_or, Bool.or_true, Bool.true_or, Nat.reduceBEq, beq_self_eq_true, show tb 17 = tb_17 from rfl, tb_17, tb_17_0, tb_17_1, sp_17, pfb, pfb_b, pfb_c, pfb_v, pfa_b, pfa_c, pfa_v, o1]
    refine Ev_mono (e_alike X hV _ a 1 B (by omega) (hA1 _) (hl1 _) (hB1 _) h3) (fun r M1 hr _ _ => ?_)
    obtain ⟨rfl, rfl⟩ := hr
    simp only [f_kG, psh, Nat.reduceAdd]
    refine G_wc (pfb_ok X) LC_17 (fun i => sp_17 i || false) (fun i h => by simp only [h, Bool.true_or]) 20 _ _ _ (by rfl) ?_
    simp only [f_0, f_s, f_iconst, f_bipush, f_sipush, f_ldc, f_ldc_w, f_ldc2_w, f_ldI, f_ldL, f_ldA, f_iload, f_iload_n, f_lload, f_lload_n, f_aload, f_aload_n, f_istore, f_istore_n, f_lstore, f_lstore_n, f_astore, f_astore_n, f_iinc, f_icI, f_iadd, f_isub, f_imul, f_idiv, f_irem, f_iand, f_ior, f_ixor, f_ishl, f_ishr, f_iushr, f_i2l, f_i2b, f_i2s, f_ladd, f_lmul, f_lcmp, f_dupI, f_dupR, f_dup2, f_pop, f_goto, f_if, f_icmp, f_tab, f_ts0, f_ts1, f_getI, f_getZ, f_getR, f_putI, f_putR, f_gets, f_iald, f_bald, f_aald, f_iast, f_bast, f_aast, f_alen, f_new, f_newa, f_anew, f_virt, f_stat0, f_stat1, f_spec0, f_spec1, f_spec9, f_copy, f_max, f_min, f_cV1, f_cV0, f_cS1, f_cS0, f_iret, f_lret, f_vret, f_kG, pf0, cIg, inR, lget, lset, lset2, clr, entL, cnd, psh, catS, tsw, List.take_succ_cons, List.take_zero, List.drop_succ_cons, List.drop_zero, List.reverse_cons, List.reverse_nil, List.nil_append, List.cons_append, List.length_cons, List.length_nil, List.replicate_succ, List.replicate_zero, Nat.reduceAdd, Nat.reduceSub, Nat.reduceLeDiff, Nat.reduceLT, Nat.reduceEqDiff, Nat.reduceMul, Nat.zero_add, Nat.add_zero, Nat.le_refl, Nat.zero_le, Int.reduceEq, Int.reduceToNat, Int.toNat_natCast, Int.reduceNeg, Int.reduceAdd, Int.reduceSub, Int.reduceMul, Int.reduceLT, Int.reduceLE, Int.reduceDiv, Int.reduceMod, Bool.false_eq_true, ↓reduceIte, true_and, and_true, implies_true, forall_const, true_or, or_true, or_false, false_or, not_true_eq_false, not_false_eq_true, false_implies, Prod.mk.injEq, Fin.val_zero, Fin.val_one, Fin.isValue, Fin.reduceFinMk, Fin.val_two, mR_uI, mK_uI, mN_uI, mI_uR, mK_uR, mN_uR, mR_uC, mK_uC, mN_uC, Option.some.injEq, Sum.inl.injEq, Sum.inr.injEq, decide_true, decide_false, Bool.or_false, Bool.false_or, Bool.or_true, Bool.true_or, Nat.reduceBEq, beq_self_eq_true, show tb 17 = tb_17 from rfl, tb_17, tb_17_0, tb_17_1, sp_17, pfb, pfb_b, pfb_c, pfb_v, pfa_b, pfa_c, pfa_v]
    refine G_in (fun C Q p e s mi args below meth c E => s_ldcS (k := 30) (b := BIG + 4 + 2) (tx := "rev") C E (by decide +kernel) (by omega) (hC.1 2 (by omega)) (Gw_of C E ?_))
    refine G_wc (pfb_ok X) LC_17 (fun i => sp_17 i || false) (fun i h => by simp only [h, Bool.true_or]) 20 _ _ _ (by rfl) ?_
    simp only [f_0, f_s, f_iconst, f_bipush, f_sipush, f_ldc, f_ldc_w, f_ldc2_w, f_ldI, f_ldL, f_ldA, f_iload, f_iload_n, f_lload, f_lload_n, f_aload, f_aload_n, f_istore, f_istore_n, f_lstore, f_lstore_n, f_astore, f_astore_n, f_iinc, f_icI, f_iadd, f_isub, f_imul, f_idiv, f_irem, f_iand, f_ior, f_ixor, f_ishl, f_ishr, f_iushr, f_i2l, f_i2b, f_i2s, f_ladd, f_lmul, f_lcmp, f_dupI, f_dupR, f_dup2, f_pop, f_goto, f_if, f_icmp, f_tab, f_ts0, f_ts1, f_getI, f_getZ, f_getR, f_putI, f_putR, f_gets, f_iald, f_bald, f_aald, f_iast, f_bast, f_aast, f_alen, f_new, f_newa, f_anew, f_virt, f_stat0, f_stat1, f_spec0, f_spec1, f_spec9, f_copy, f_max, f_min, f_cV1, f_cV0, f_cS1, f_cS0, f_iret, f_lret, f_vret, f_kG, pf0, cIg, inR, lget, lset, lset2, clr, entL, cnd, psh, catS, tsw, List.take_succ_cons, List.take_zero, List.drop_succ_cons, List.drop_zero, List.reverse_cons, List.reverse_nil, List.nil_append, List.cons_append, List.length_cons, List.length_nil, List.replicate_succ, List.replicate_zero, Nat.reduceAdd, Nat.reduceSub, Nat.reduceLeDiff, Nat.reduceLT, Nat.reduceEqDiff, Nat.reduceMul, Nat.zero_add, Nat.add_zero, Nat.le_refl, Nat.zero_le, Int.reduceEq, Int.reduceToNat, Int.toNat_natCast, Int.reduceNeg, Int.reduceAdd, Int.reduceSub, Int.reduceMul, Int.reduceLT, Int.reduceLE, Int.reduceDiv, Int.reduceMod, Bool.false_eq_true, ↓reduceIte, true_and, and_true, implies_true, forall_const, true_or, or_true, or_false, false_or, not_true_eq_false, not_false_eq_true, false_implies, Prod.mk.injEq, Fin.val_zero, Fin.val_one, Fin.isValue, Fin.reduceFinMk, Fin.val_two, mR_uI, mK_uI, mN_uI, mI_uR, mK_uR, mN_uR, mR_uC, mK_uC, mN_uC, Option.some.injEq, Sum.inl.injEq, Sum.inr.injEq, decide_true, decide_false, Bool.or_false, Bool.false_or, Bool.or_true, Bool.true_or, Nat.reduceBEq, beq_self_eq_true, show tb 17 = tb_17 from rfl, tb_17, tb_17_0, tb_17_1, sp_17, pfb, pfb_b, pfb_c, pfb_v, pfa_b, pfa_c, pfa_v, o1]
    refine Ev_mono (e_alike X hV _ a 2 B (by omega) (hA1 _) (hl1 _) (hB1 _) h3) (fun r M1 hr _ _ => ?_)
    obtain ⟨rfl, rfl⟩ := hr
    by_cases g0 : alk B (nmL 0) = 3
    · have i0 : (alk B (nmL 0) : Int) = 3 := by omega
      simp only [f_kG, psh, Nat.reduceAdd]
      refine G_wc (pfb_ok X) LC_17 (fun i => sp_17 i || false) (fun i h => by simp only [h, Bool.true_or]) 20 _ _ _ (by rfl) ?_
      simp only [f_0, f_s, f_iconst, f_bipush, f_sipush, f_ldc, f_ldc_w, f_ldc2_w, f_ldI, f_ldL, f_ldA, f_iload, f_iload_n, f_lload, f_lload_n, f_aload, f_aload_n, f_istore, f_istore_n, f_lstore, f_lstore_n, f_astore, f_astore_n, f_iinc, f_icI, f_iadd, f_isub, f_imul, f_idiv, f_irem, f_iand, f_ior, f_ixor, f_ishl, f_ishr, f_iushr, f_i2l, f_i2b, f_i2s, f_ladd, f_lmul, f_lcmp, f_dupI, f_dupR, f_dup2, f_pop, f_goto, f_if, f_icmp, f_tab, f_ts0, f_ts1, f_getI, f_getZ, f_getR, f_putI, f_putR, f_gets, f_iald, f_bald, f_aald, f_iast, f_bast, f_aast, f_alen, f_new, f_newa, f_anew, f_virt, f_stat0, f_stat1, f_spec0, f_spec1, f_spec9, f_copy, f_max, f_min, f_cV1, f_cV0, f_cS1, f_cS0, f_iret, f_lret, f_vret, f_kG, pf0, cIg, inR, lget, lset, lset2, clr, entL, cnd, psh, catS, tsw, List.take_succ_cons, List.take_zero, List.drop_succ_cons, List.drop_zero, List.reverse_cons, List.reverse_nil, List.nil_append, List.cons_append, List.length_cons, List.length_nil, List.replicate_succ, List.replicate_zero, Nat.reduceAdd, Nat.reduceSub, Nat.reduceLeDiff, Nat.reduceLT, Nat.reduceEqDiff, Nat.reduceMul, Nat.zero_add, Nat.add_zero, Nat.le_refl, Nat.zero_le, Int.reduceEq, Int.reduceToNat, Int.toNat_natCast, Int.reduceNeg, Int.reduceAdd, Int.reduceSub, Int.reduceMul, Int.reduceLT, Int.reduceLE, Int.reduceDiv, Int.reduceMod, Bool.false_eq_true, ↓reduceIte, true_and, and_true, implies_true, forall_const, true_or, or_true, or_false, false_or, not_true_eq_false, not_false_eq_true, false_implies, Prod.mk.injEq, Fin.val_zero, Fin.val_one, Fin.isValue, Fin.reduceFinMk, Fin.val_two, mR_uI, mK_uI, mN_uI, mI_uR, mK_uR, mN_uR, mR_uC, mK_uC, mN_uC, Option.some.injEq, Sum.inl.injEq, Sum.inr.injEq, decide_true, decide_false, Bool.or_false, Bool.false_or, Bool.or_true, Bool.true_or, Nat.reduceBEq, beq_self_eq_true, show tb 17 = tb_17 from rfl, tb_17, tb_17_0, tb_17_1, sp_17, pfb, pfb_b, pfb_c, pfb_v, pfa_b, pfa_c, pfa_v, i0]
      refine ⟨?_, ?_, (hl1 _).trans hl.symm, hS _⟩
      · unfold orN; rw [if_neg hE, if_pos g0]
      · unfold orX; rw [if_neg hE, if_pos g0, mI_uI_eq]
    · have i0 : ¬ (alk B (nmL 0) : Int) = 3 := by omega
      by_cases g2 : alk B (nmL 2) = 3
      · have i2 : (alk B (nmL 2) : Int) = 3 := by omega
        simp only [f_kG, psh, Nat.reduceAdd]
        refine G_wc (pfb_ok X) LC_17 (fun i => sp_17 i || false) (fun i h => by simp only [h, Bool.true_or]) 20 _ _ _ (by rfl) ?_
        simp only [f_0, f_s, f_iconst, f_bipush, f_sipush, f_ldc, f_ldc_w, f_ldc2_w, f_ldI, f_ldL, f_ldA, f_iload, f_iload_n, f_lload, f_lload_n, f_aload, f_aload_n, f_istore, f_istore_n, f_lstore, f_lstore_n, f_astore, f_astore_n, f_iinc, f_icI, f_iadd, f_isub, f_imul, f_idiv, f_irem, f_iand, f_ior, f_ixor, f_ishl, f_ishr, f_iushr, f_i2l, f_i2b, f_i2s, f_ladd, f_lmul, f_lcmp, f_dupI, f_dupR, f_dup2, f_pop, f_goto, f_if, f_icmp, f_tab, f_ts0, f_ts1, f_getI, f_getZ, f_getR, f_putI, f_putR, f_gets, f_iald, f_bald, f_aald, f_iast, f_bast, f_aast, f_alen, f_new, f_newa, f_anew, f_virt, f_stat0, f_stat1, f_spec0, f_spec1, f_spec9, f_copy, f_max, f_min, f_cV1, f_cV0, f_cS1, f_cS0, f_iret, f_lret, f_vret, f_kG, pf0, cIg, inR, lget, lset, lset2, clr, entL, cnd, psh, catS, tsw, List.take_succ_cons, List.take_zero, List.drop_succ_cons, List.drop_zero, List.reverse_cons, List.reverse_nil, List.nil_append, List.cons_append, List.length_cons, List.length_nil, List.replicate_succ, List.replicate_zero, Nat.reduceAdd, Nat.reduceSub, Nat.reduceLeDiff, Nat.reduceLT, Nat.reduceEqDiff, Nat.reduceMul, Nat.zero_add, Nat.add_zero, Nat.le_refl, Nat.zero_le, Int.reduceEq, Int.reduceToNat, Int.toNat_natCast, Int.reduceNeg, Int.reduceAdd, Int.reduceSub, Int.reduceMul, Int.reduceLT, Int.reduceLE, Int.reduceDiv, Int.reduceMod, Bool.false_eq_true, ↓reduceIte, true_and, and_true, implies_true, forall_const, true_or, or_true, or_false, false_or, not_true_eq_false, not_false_eq_true, false_implies, Prod.mk.injEq, Fin.val_zero, Fin.val_one, Fin.isValue, Fin.reduceFinMk, Fin.val_two, mR_uI, mK_uI, mN_uI, mI_uR, mK_uR, mN_uR, mR_uC, mK_uC, mN_uC, Option.some.injEq, Sum.inl.injEq, Sum.inr.injEq, decide_true, decide_false, Bool.or_false, Bool.false_or, Bool.or_true, Bool.true_or, Nat.reduceBEq, beq_self_eq_true, show tb 17 = tb_17 from rfl, tb_17, tb_17_0, tb_17_1, sp_17, pfb, pfb_b, pfb_c, pfb_v, pfa_b, pfa_c, pfa_v, i0, i2]
        refine ⟨?_, ?_, (hl1 _).trans hl.symm, hS _⟩
        · unfold orN; rw [if_neg hE, if_neg g0, if_pos g2]
        · unfold orX; rw [if_neg hE, if_neg g0, if_pos g2, mI_uI_eq]
      · have i2 : ¬ (alk B (nmL 2) : Int) = 3 := by omega
        by_cases g1 : alk B (nmL 1) < 3
        · have i1 : ¬ (3 : Int) ≤ (alk B (nmL 1) : Int) := by omega
          simp only [f_kG, psh, Nat.reduceAdd]
          refine G_wc (pfb_ok X) LC_17 (fun i => sp_17 i || false) (fun i h => by simp only [h, Bool.true_or]) 30 _ _ _ (by rfl) ?_
          simp only [f_0, f_s, f_iconst, f_bipush, f_sipush, f_ldc, f_ldc_w, f_ldc2_w, f_ldI, f_ldL, f_ldA, f_iload, f_iload_n, f_lload, f_lload_n, f_aload, f_aload_n, f_istore, f_istore_n, f_lstore, f_lstore_n, f_astore, f_astore_n, f_iinc, f_icI, f_iadd, f_isub, f_imul, f_idiv, f_irem, f_iand, f_ior, f_ixor, f_ishl, f_ishr, f_iushr, f_i2l, f_i2b, f_i2s, f_ladd, f_lmul, f_lcmp, f_dupI, f_dupR, f_dup2, f_pop, f_goto, f_if, f_icmp, f_tab, f_ts0, f_ts1, f_getI, f_getZ, f_getR, f_putI, f_putR, f_gets, f_iald, f_bald, f_aald, f_iast, f_bast, f_aast, f_alen, f_new, f_newa, f_anew, f_virt, f_stat0, f_stat1, f_spec0, f_spec1, f_spec9, f_copy, f_max, f_min, f_cV1, f_cV0, f_cS1, f_cS0, f_iret, f_lret, f_vret, f_kG, pf0, cIg, inR, lget, lset, lset2, clr, entL, cnd, psh, catS, tsw, List.take_succ_cons, List.take_zero, List.drop_succ_cons, List.drop_zero, List.reverse_cons, List.reverse_nil, List.nil_append, List.cons_append, List.length_cons, List.length_nil, List.replicate_succ, List.replicate_zero, Nat.reduceAdd, Nat.reduceSub, Nat.reduceLeDiff, Nat.reduceLT, Nat.reduceEqDiff, Nat.reduceMul, Nat.zero_add, Nat.add_zero, Nat.le_refl, Nat.zero_le, Int.reduceEq, Int.reduceToNat, Int.toNat_natCast, Int.reduceNeg, Int.reduceAdd, Int.reduceSub, Int.reduceMul, Int.reduceLT, Int.reduceLE, Int.reduceDiv, Int.reduceMod, Bool.false_eq_true, ↓reduceIte, true_and, and_true, implies_true, forall_const, true_or, or_true, or_false, false_or, not_true_eq_false, not_false_eq_true, false_implies, Prod.mk.injEq, Fin.val_zero, Fin.val_one, Fin.isValue, Fin.reduceFinMk, Fin.val_two, mR_uI, mK_uI, mN_uI, mI_uR, mK_uR, mN_uR, mR_uC, mK_uC, mN_uC, Option.some.injEq, Sum.inl.injEq, Sum.inr.injEq, decide_true, decide_false, Bool.or_false, Bool.false_or, Bool.or_true, Bool.true_or, Nat.reduceBEq, beq_self_eq_true, show tb 17 = tb_17 from rfl, tb_17, tb_17_0, tb_17_1, sp_17, pfb, pfb_b, pfb_c, pfb_v, pfa_b, pfa_c, pfa_v, i0, i2, i1, o1]
          refine ⟨?_, ?_, ?_, ?_⟩
          · unfold orN; rw [if_neg hE, if_neg g0, if_neg g2]
          · unfold orX; rw [if_neg hE, if_neg g0, if_neg g2, if_pos g1, mI_uI_eq]; rfl
          · rw [mI_uI_nk (by omega)]; exact (hl1 _).trans hl.symm
          · exact Same.uI (S := fun x => x = a) (hS _) rfl _ _
        · have i1 : (3 : Int) ≤ (alk B (nmL 1) : Int) := by omega
          simp only [f_kG, psh, Nat.reduceAdd]
          refine G_wc (pfb_ok X) LC_17 (fun i => sp_17 i || false) (fun i h => by simp only [h, Bool.true_or]) 30 _ _ _ (by rfl) ?_
          simp only [f_0, f_s, f_iconst, f_bipush, f_sipush, f_ldc, f_ldc_w, f_ldc2_w, f_ldI, f_ldL, f_ldA, f_iload, f_iload_n, f_lload, f_lload_n, f_aload, f_aload_n, f_istore, f_istore_n, f_lstore, f_lstore_n, f_astore, f_astore_n, f_iinc, f_icI, f_iadd, f_isub, f_imul, f_idiv, f_irem, f_iand, f_ior, f_ixor, f_ishl, f_ishr, f_iushr, f_i2l, f_i2b, f_i2s, f_ladd, f_lmul, f_lcmp, f_dupI, f_dupR, f_dup2, f_pop, f_goto, f_if, f_icmp, f_tab, f_ts0, f_ts1, f_getI, f_getZ, f_getR, f_putI, f_putR, f_gets, f_iald, f_bald, f_aald, f_iast, f_bast, f_aast, f_alen, f_new, f_newa, f_anew, f_virt, f_stat0, f_stat1, f_spec0, f_spec1, f_spec9, f_copy, f_max, f_min, f_cV1, f_cV0, f_cS1, f_cS0, f_iret, f_lret, f_vret, f_kG, pf0, cIg, inR, lget, lset, lset2, clr, entL, cnd, psh, catS, tsw, List.take_succ_cons, List.take_zero, List.drop_succ_cons, List.drop_zero, List.reverse_cons, List.reverse_nil, List.nil_append, List.cons_append, List.length_cons, List.length_nil, List.replicate_succ, List.replicate_zero, Nat.reduceAdd, Nat.reduceSub, Nat.reduceLeDiff, Nat.reduceLT, Nat.reduceEqDiff, Nat.reduceMul, Nat.zero_add, Nat.add_zero, Nat.le_refl, Nat.zero_le, Int.reduceEq, Int.reduceToNat, Int.toNat_natCast, Int.reduceNeg, Int.reduceAdd, Int.reduceSub, Int.reduceMul, Int.reduceLT, Int.reduceLE, Int.reduceDiv, Int.reduceMod, Bool.false_eq_true, ↓reduceIte, true_and, and_true, implies_true, forall_const, true_or, or_true, or_false, false_or, not_true_eq_false, not_false_eq_true, false_implies, Prod.mk.injEq, Fin.val_zero, Fin.val_one, Fin.isValue, Fin.reduceFinMk, Fin.val_two, mR_uI, mK_uI, mN_uI, mI_uR, mK_uR, mN_uR, mR_uC, mK_uC, mN_uC, Option.some.injEq, Sum.inl.injEq, Sum.inr.injEq, decide_true, decide_false, Bool.or_false, Bool.false_or, Bool.or_true, Bool.true_or, Nat.reduceBEq, beq_self_eq_true, show tb 17 = tb_17 from rfl, tb_17, tb_17_0, tb_17_1, sp_17, pfb, pfb_b, pfb_c, pfb_v, pfa_b, pfa_c, pfa_v, i0, i2, i1]
          refine ⟨?_, ?_, (hl1 _).trans hl.symm, hS _⟩
          · unfold orN; rw [if_neg hE, if_neg g0, if_neg g2]
          · unfold orX; rw [if_neg hE, if_neg g0, if_neg g2, if_neg g1, mI_uI_eq]
/-! what the constructors lay -/
abbrev Cel : Type := Nat × Nat × (Nat → Option Nat) × (Nat → Int)
def cl (M : Mem) (a : Nat) : Cel := (mK M a, mN M a, mR M a, mI M a)
def arr (k n : Nat) : Cel := (k, n, fun _ => none, fun _ => 0)
def upR (c : Cel) (k : Nat) (v : Option Nat) : Cel := (c.1, c.2.1, fun j => if j = k then v else c.2.2.1 j, c.2.2.2)
def upI (c : Cel) (k : Nat) (v : Int) : Cel := (c.1, c.2.1, c.2.2.1, fun j => if j = k then v else c.2.2.2 j)
theorem cel_ext {a b : Cel} (h1 : a.1 = b.1) (h2 : a.2.1 = b.2.1) (h3 : ∀ k, a.2.2.1 k = b.2.2.1 k) (h4 : ∀ k, a.2.2.2 k = b.2.2.2 k) : a = b := Prod.ext h1 (Prod.ext h2 (Prod.ext (funext h3) (funext h4)))
theorem cl_uN (M : Mem) (k n a : Nat) : cl (uN M k n) a = if a = mZ M then arr k n else cl M a := by
  by_cases h : a = mZ M
  · rw [if_pos h]
    exact cel_ext ((mK_uN M k n a).trans (if_pos h)) ((mN_uN M k n a).trans (if_pos h)) (fun j => (mR_uN M k n a j).trans (if_pos h)) (fun j => (mI_uN M k n a j).trans (if_pos h))
  · rw [if_neg h]
    exact cel_ext ((mK_uN M k n a).trans (if_neg h)) ((mN_uN M k n a).trans (if_neg h)) (fun j => (mR_uN M k n a j).trans (if_neg h)) (fun j => (mI_uN M k n a j).trans (if_neg h))
theorem cl_uR (M : Mem) (b k : Nat) (v : Option Nat) (a : Nat) : cl (uR M b k v) a = if a = b then upR (cl M b) k v else cl M a := by
  by_cases h : a = b
  · rw [if_pos h, h]
    refine cel_ext rfl rfl (fun j => ?_) (fun j => rfl)
    show mR (uR M b k v) b j = if j = k then v else mR M b j
    rw [mR_uR]
    by_cases hj : j = k
    · rw [if_pos ⟨rfl, hj⟩, if_pos hj]
    · rw [if_neg (fun h9 => hj h9.2), if_neg hj]
  · rw [if_neg h]
    refine cel_ext rfl rfl (fun j => ?_) (fun j => rfl)
    show mR (uR M b k v) a j = mR M a j
    rw [mR_uR, if_neg (fun h9 => h h9.1)]
theorem cl_uI (M : Mem) (b k : Nat) (v : Int) (a : Nat) : cl (uI M b k v) a = if a = b then upI (cl M b) k v else cl M a := by
  by_cases h : a = b
  · rw [if_pos h, h]
    refine cel_ext rfl rfl (fun j => rfl) (fun j => ?_)
    show mI (uI M b k v) b j = if j = k then v else mI M b j
    rw [mI_uI]
    by_cases hj : j = k
    · rw [if_pos ⟨rfl, hj⟩, if_pos hj]
    · rw [if_neg (fun h9 => hj h9.2), if_neg hj]
  · rw [if_neg h]
    refine cel_ext rfl rfl (fun j => rfl) (fun j => ?_)
    show mI (uI M b k v) a j = mI M a j
    rw [mI_uI, if_neg (fun h9 => h h9.1)]
theorem mZ_uR (M : Mem) (a k : Nat) (v : Option Nat) : mZ (uR M a k v) = mZ M := (rfl)
theorem mS_uR (M : Mem) (a k : Nat) (v : Option Nat) : mS (uR M a k v) = mS M := (rfl)
theorem mZ_uI (M : Mem) (a k : Nat) (v : Int) : mZ (uI M a k v) = mZ M := (rfl)
theorem mS_uI (M : Mem) (a k : Nat) (v : Int) : mS (uI M a k v) = mS M := (rfl)
/-- a memory by its cells -/
def Cn (M : Mem) (n : Nat) (f : Nat → Cel) : Prop := mZ M = n ∧ ∀ a, cl M a = f a
theorem Cn.uN {M : Mem} {n : Nat} {f : Nat → Cel} (h : Cn M n f) (k m : Nat) : Cn (uN M k m) (n + 1) (fun a => if a = n then arr k m else f a) := ⟨by rw [mZ_uN, h.1], fun a => by rw [cl_uN, h.1, h.2]⟩
theorem Cn.uR {M : Mem} {n : Nat} {f : Nat → Cel} (h : Cn M n f) (b k : Nat) (v : Option Nat) : Cn (uR M b k v) n (fun a => if a = b then upR (f b) k v else f a) := ⟨h.1, fun a => by rw [cl_uR, h.2, h.2]⟩
theorem Cn.uI {M : Mem} {n : Nat} {f : Nat → Cel} (h : Cn M n f) (b k : Nat) (v : Int) : Cn (uI M b k v) n (fun a => if a = b then upI (f b) k v else f a) := ⟨h.1, fun a => by rw [cl_uI, h.2, h.2]⟩
theorem Cn.uS {M : Mem} {n : Nat} {f : Nat → Cel} (h : Cn M n f) (s : Nat) : Cn (uS M s) n f := ⟨h.1, fun a => h.2 a⟩
theorem Cn.k {M : Mem} {n : Nat} {f : Nat → Cel} (h : Cn M n f) (a : Nat) : mK M a = (f a).1 := congrArg (fun c : Cel => c.1) (h.2 a)
theorem Cn.l {M : Mem} {n : Nat} {f : Nat → Cel} (h : Cn M n f) (a : Nat) : mN M a = (f a).2.1 := congrArg (fun c : Cel => c.2.1) (h.2 a)
theorem Cn.r {M : Mem} {n : Nat} {f : Nat → Cel} (h : Cn M n f) (a k : Nat) : mR M a k = (f a).2.2.1 k := congrArg (fun c : Cel => c.2.2.1 k) (h.2 a)
theorem Cn.i {M : Mem} {n : Nat} {f : Nat → Cel} (h : Cn M n f) (a k : Nat) : mI M a k = (f a).2.2.2 k := congrArg (fun c : Cel => c.2.2.2 k) (h.2 a)
/-! the tables of all cells, the three rows and all ints too -/
def SRR (a k : Nat) : Option Nat := if a = 60 then (if k < 100 then some (61 + 3 * k) else none) else if a = 363 then (if k < 24 then some (364 + 3 * k) else none) else if a = 443 then (if k < 24 then some (444 + 3 * k) else none) else SR a k
def SI (a j : Nat) : Int := if SK a = 1 ∧ j = 2 then -1 else if SK a = 7 ∧ j = 1 then -1 else 0
def LC (a : Nat) : Cel := (SK a, SN0 a, SRR a, SI a)
theorem SRR_o {a : Nat} (h : SK a = 1 ∨ SK a = 7 ∨ SK a = 4 ∨ SK a = 6) (k : Nat) : SRR a k = if k = 0 then some (a + 1) else none := by
  have n0 : a ≠ 0 := fun e => by subst e; revert h; decide
  have n1 : a ≠ 1 := fun e => by subst e; revert h; decide
  have n2 : a ≠ 2 := fun e => by subst e; revert h; decide
  have n3 : a ≠ 13 := fun e => by subst e; revert h; decide
  have n4 : a ≠ 521 := fun e => by subst e; revert h; decide
  have n5 : a ≠ 60 := fun e => by subst e; revert h; decide
  have n6 : a ≠ 363 := fun e => by subst e; revert h; decide
  have n7 : a ≠ 443 := fun e => by subst e; revert h; decide
  unfold SRR
  rw [if_neg n5, if_neg n6, if_neg n7]
  unfold SR
  rw [if_neg n0, if_neg n1, if_neg n2, if_neg n3, if_neg n4, if_neg (by omega), if_neg (by omega), if_pos (by omega)]
theorem SRR_p {a : Nat} (h : SK a = 2) (k : Nat) : SRR a k = if k = 0 then some (a + 1) else if k = 1 then some (a + 2) else none := by
  have n0 : a ≠ 0 := fun e => by subst e; revert h; decide
  have n1 : a ≠ 1 := fun e => by subst e; revert h; decide
  have n2 : a ≠ 2 := fun e => by subst e; revert h; decide
  have n3 : a ≠ 13 := fun e => by subst e; revert h; decide
  have n4 : a ≠ 521 := fun e => by subst e; revert h; decide
  have n5 : a ≠ 60 := fun e => by subst e; revert h; decide
  have n6 : a ≠ 363 := fun e => by subst e; revert h; decide
  have n7 : a ≠ 443 := fun e => by subst e; revert h; decide
  unfold SRR
  rw [if_neg n5, if_neg n6, if_neg n7]
  unfold SR
  rw [if_neg n0, if_neg n1, if_neg n2, if_neg n3, if_neg n4, if_pos h]
theorem SRR_c {a : Nat} (h : SK a = 5) (k : Nat) : SRR a k = if k = 0 then some (a + 1) else if k = 3 then some 59 else if k = 5 then some (a + 75) else if k = 6 then some (a + 78) else if k = 7 then some (a + 79) else none := by
  have n0 : a ≠ 0 := fun e => by subst e; revert h; decide
  have n1 : a ≠ 1 := fun e => by subst e; revert h; decide
  have n2 : a ≠ 2 := fun e => by subst e; revert h; decide
  have n3 : a ≠ 13 := fun e => by subst e; revert h; decide
  have n4 : a ≠ 521 := fun e => by subst e; revert h; decide
  have n5 : a ≠ 60 := fun e => by subst e; revert h; decide
  have n6 : a ≠ 363 := fun e => by subst e; revert h; decide
  have n7 : a ≠ 443 := fun e => by subst e; revert h; decide
  unfold SRR
  rw [if_neg n5, if_neg n6, if_neg n7]
  unfold SR
  rw [if_neg n0, if_neg n1, if_neg n2, if_neg n3, if_neg n4, if_neg (by omega), if_pos h]
theorem SRR_a {a : Nat} (h : SK a = 20 ∨ SK a = 21 ∨ SK a = 3) (k : Nat) : SRR a k = none := by
  have n0 : a ≠ 0 := fun e => by subst e; revert h; decide
  have n1 : a ≠ 1 := fun e => by subst e; revert h; decide
  have n2 : a ≠ 2 := fun e => by subst e; revert h; decide
  have n3 : a ≠ 13 := fun e => by subst e; revert h; decide
  have n4 : a ≠ 521 := fun e => by subst e; revert h; decide
  have n5 : a ≠ 60 := fun e => by subst e; revert h; decide
  have n6 : a ≠ 363 := fun e => by subst e; revert h; decide
  have n7 : a ≠ 443 := fun e => by subst e; revert h; decide
  unfold SRR
  rw [if_neg n5, if_neg n6, if_neg n7]
  unfold SR
  rw [if_neg n0, if_neg n1, if_neg n2, if_neg n3, if_neg n4, if_neg (by omega), if_neg (by omega), if_neg (by omega)]
theorem SI_0 {a : Nat} (h1 : SK a ≠ 1) (h2 : SK a ≠ 7) (j : Nat) : SI a j = 0 := by
  unfold SI
  rw [if_neg (fun h => h1 h.1), if_neg (fun h => h2 h.1)]
theorem LC_a {a n : Nat} (h : SK a = 20) (hn : SN0 a = n) : LC a = arr 20 n := cel_ext h hn (fun k => SRR_a (Or.inl h) k) (fun j => SI_0 (by omega) (by omega) j)
theorem poly_n : (List.range 536).all (fun p => decide (SK p ≠ 2) || decide (SN0 p = 5)) = true := by decide +kernel
theorem LC_p {p : Nat} (h : SK p = 2) : LC p = (2, 5, fun k => if k = 0 then some (p + 1) else if k = 1 then some (p + 2) else none, fun _ => 0) ∧ LC (p + 1) = arr 20 30 ∧ LC (p + 2) = arr 20 30 := by
  obtain ⟨a1, a2, a3, a4, a5, a6, a7, a8, a9, a10⟩ := poly_f h
  have hb : p + 2 < BIG := by have := big_gt; omega
  have hn : SN0 p = 5 := by
    have h1 := List.all_eq_true.mp poly_n p (List.mem_range.mpr (by omega))
    simp only [Bool.or_eq_true, decide_eq_true_eq] at h1
    exact h1.resolve_left (fun h9 => h9 h)
  have e3 : SN0 (p + 1) = 30 := by rw [← a3]; unfold SN; rw [if_pos (by omega)]
  have e4 : SN0 (p + 2) = 30 := by rw [← a4]; unfold SN; rw [if_pos (by omega)]
  exact ⟨cel_ext h hn (fun k => SRR_p h k) (fun j => SI_0 (by omega) (by omega) j), LC_a a1 e3, LC_a a2 e4⟩
/-- what is laid from lo to hi; the rest stays -/
def Laid (M M' : Mem) (lo hi : Nat) : Prop := (∀ a, lo ≤ a → a < hi → cl M' a = LC a) ∧ ∀ a, ¬ (lo ≤ a ∧ a < hi) → cl M' a = cl M a
theorem Cn.st {M : Mem} {n : Nat} (h : mZ M = n) : Cn M n (cl M) := ⟨h, fun _ => rfl⟩
set_option maxRecDepth 100000 in
set_option maxHeartbeats 4000000 in
theorem e_newP (X : CX) (M : Mem) (p : Nat) (hp : p < 1000) (hz : mZ M = p + 1) (hk : SK p = 2) (hc : cl M p = arr 2 5) : Ev X y_Polynomial_init (2, 60) [aR (some p)] M (fun r M' => r = none ∧ Laid M M' p (p + 3)) := by
  have big := big_gt
  have c0 := Cn.st hz
  have c1 := c0.uN 20 30
  have c2 := c1.uR p 0 (some (p + 1))
  have c3 := c2.uN 20 30
  have c4 := (c3.uR p 1 (some (p + 1 + 1))).uS (mS M + 60)
  have k1 : mK (uN M 20 30) p = 2 := by rw [c1.k, if_neg (by omega), hc]; rfl
  have k2 : mK (uN (uR (uN M 20 30) p 0 (some (p + 1))) 20 30) p = 2 := by rw [c3.k, if_neg (by omega), if_pos rfl]; simp only [if_neg (show ¬ p = p + 1 by omega), hc]; rfl
  have hL : Laid M (uS (uR (uN (uR (uN M 20 30) p 0 (some (p + 1))) 20 30) p 1 (some (p + 1 + 1))) (mS M + 60)) p (p + 3) := by
    obtain ⟨l1, l2, l3⟩ := LC_p hk
    refine ⟨fun a h1 h2 => ?_, fun a h => ?_⟩
    · rw [c4.2 a]
      rcases (show a = p ∨ a = p + 1 ∨ a = p + 2 by omega) with rfl | rfl | rfl
      · rw [if_pos rfl, if_neg (by omega), if_pos rfl, if_neg (by omega), hc, l1]
        refine cel_ext rfl rfl (fun j => ?_) (fun j => rfl)
        show (if j = 1 then some (a + 1 + 1) else if j = 0 then some (a + 1) else none) = if j = 0 then some (a + 1) else if j = 1 then some (a + 2) else none
        by_cases j1 : j = 1
        · rw [if_pos j1, if_neg (by omega), if_pos j1]
        · rw [if_neg j1, if_neg j1]
      · rw [if_neg (by omega), if_neg (by omega), if_neg (by omega), if_pos rfl, l2]
      · rw [if_neg (by omega), if_pos (by omega), l3]
    · rw [c4.2 a, if_neg (by omega), if_neg (by omega), if_neg (by omega), if_neg (by omega)]
  refine Ev_of mcd_3 mok_3 (by decide) rfl (Nat.le_of_ble_eq_true rfl) ?_
  rw [show yl 3 = 1 from rfl]
  refine G_w (pf0_ok X) LK_3 (fun i => false) 20 _ _ _ _ ?_
  simp only [f_0, f_s, f_iconst, f_bipush, f_sipush, f_ldc, f_ldc_w, f_ldc2_w, f_ldI, f_ldL, f_ldA, f_iload, f_iload_n, f_lload, f_lload_n, f_aload, f_aload_n, f_istore, f_istore_n, f_lstore, f_lstore_n, f_astore, f_astore_n, f_iinc, f_icI, f_iadd, f_isub, f_imul, f_idiv, f_irem, f_iand, f_ior, f_ixor, f_ishl, f_ishr, f_iushr, f_i2l, f_i2b, f_i2s, f_ladd, f_lmul, f_lcmp, f_dupI, f_dupR, f_dup2, f_pop, f_goto, f_if, f_icmp, f_tab, f_ts0, f_ts1, f_getI, f_getZ, f_getR, f_putI, f_putR, f_gets, f_iald, f_bald, f_aald, f_iast, f_bast, f_aast, f_alen, f_new, f_newa, f_anew, f_virt, f_stat0, f_stat1, f_spec0, f_spec1, f_spec9, f_copy, f_max, f_min, f_cV1, f_cV0, f_cS1, f_cS0, f_iret, f_lret, f_vret, f_kG, pf0, cIg, inR, lget, lset, lset2, clr, entL, cnd, psh, catS, tsw, List.take_succ_cons, List.take_zero, List.drop_succ_cons, List.drop_zero, List.reverse_cons, List.reverse_nil, List.nil_append, List.cons_append, List.length_cons, List.length_nil, List.replicate_succ, List.replicate_zero, Nat.reduceAdd, Nat.reduceSub, Nat.reduceLeDiff, Nat.reduceLT, Nat.reduceEqDiff, Nat.reduceMul, Nat.zero_add, Nat.add_zero, Nat.le_refl, Nat.zero_le, Int.reduceEq, Int.reduceToNat, Int.toNat_natCast, Int.reduceNeg, Int.reduceAdd, Int.reduceSub, Int.reduceMul, Int.reduceLT, Int.reduceLE, Int.reduceDiv, Int.reduceMod, Bool.false_eq_true, ↓reduceIte, true_and, and_true, implies_true, forall_const, true_or, or_true, or_false, false_or, not_true_eq_false, not_false_eq_true, false_implies, Prod.mk.injEq, Fin.val_zero, Fin.val_one, Fin.isValue, Fin.reduceFinMk, Fin.val_two, mR_uI, mK_uI, mN_uI, mI_uR, mK_uR, mN_uR, mR_uC, mK_uC, mN_uC, Option.some.injEq, Sum.inl.injEq, Sum.inr.injEq, decide_true, decide_false, Bool.or_false, Bool.false_or, Bool.or_true, Bool.true_or, Nat.reduceBEq, beq_self_eq_true, show tb 3 = tb_3 from rfl, tb_3, tb_3_0, mZ_uN, mS_uN, mZ_uR, mS_uR, hz, k1, k2]
  (repeat' (first | with_reducible apply And.intro | with_reducible intro _)) <;> (try omega)
  all_goals exact hL
/-! more constructors -/
theorem Cn.lay {M M' : Mem} {n n' k m : Nat} {f : Nat → Cel} (h : Cn M n f) (hn : n < n') (hL : Laid (uN M k m) M' n n') (hz : mZ M' = n') : Cn M' n' (fun a => if n ≤ a ∧ a < n' then LC a else f a) := by
  refine ⟨hz, fun a => ?_⟩
  by_cases ha : n ≤ a ∧ a < n'
  · rw [if_pos ha]
    exact hL.1 a ha.1 ha.2
  · rw [if_neg ha, hL.2 a ha, (h.uN k m).2 a, if_neg (by omega)]
theorem Cn.cv {M : Mem} {n : Nat} {f g : Nat → Cel} (h : Cn M n f) (hfg : ∀ a, f a = g a) : Cn M n g := ⟨h.1, fun a => (h.2 a).trans (hfg a)⟩
set_option maxRecDepth 100000 in
set_option maxHeartbeats 4000000 in
theorem e_newRd (X : CX) (M : Mem) (p : Nat) : Ev X y_Reader_init (0, 0) [aR (some p)] M (fun r M' => r = none ∧ ∀ a, cl M' a = cl M a) := by
  have hL : ∀ a, cl (uS M (mS M + 0)) a = cl M a := fun a => rfl
  have hL2 : ∀ a, cl (uS M (mS M)) a = cl M a := fun a => rfl
  refine Ev_of mcd_2 mok_2 (by decide) rfl (Nat.le_of_ble_eq_true rfl) ?_
  rw [show yl 2 = 1 from rfl]
  refine G_w (pf0_ok X) LK_2 (fun i => false) 20 _ _ _ _ ?_
  simp only [f_0, f_s, f_iconst, f_bipush, f_sipush, f_ldc, f_ldc_w, f_ldc2_w, f_ldI, f_ldL, f_ldA, f_iload, f_iload_n, f_lload, f_lload_n, f_aload, f_aload_n, f_istore, f_istore_n, f_lstore, f_lstore_n, f_astore, f_astore_n, f_iinc, f_icI, f_iadd, f_isub, f_imul, f_idiv, f_irem, f_iand, f_ior, f_ixor, f_ishl, f_ishr, f_iushr, f_i2l, f_i2b, f_i2s, f_ladd, f_lmul, f_lcmp, f_dupI, f_dupR, f_dup2, f_pop, f_goto, f_if, f_icmp, f_tab, f_ts0, f_ts1, f_getI, f_getZ, f_getR, f_putI, f_putR, f_gets, f_iald, f_bald, f_aald, f_iast, f_bast, f_aast, f_alen, f_new, f_newa, f_anew, f_virt, f_stat0, f_stat1, f_spec0, f_spec1, f_spec9, f_copy, f_max, f_min, f_cV1, f_cV0, f_cS1, f_cS0, f_iret, f_lret, f_vret, f_kG, pf0, cIg, inR, lget, lset, lset2, clr, entL, cnd, psh, catS, tsw, List.take_succ_cons, List.take_zero, List.drop_succ_cons, List.drop_zero, List.reverse_cons, List.reverse_nil, List.nil_append, List.cons_append, List.length_cons, List.length_nil, List.replicate_succ, List.replicate_zero, Nat.reduceAdd, Nat.reduceSub, Nat.reduceLeDiff, Nat.reduceLT, Nat.reduceEqDiff, Nat.reduceMul, Nat.zero_add, Nat.add_zero, Nat.le_refl, Nat.zero_le, Int.reduceEq, Int.reduceToNat, Int.toNat_natCast, Int.reduceNeg, Int.reduceAdd, Int.reduceSub, Int.reduceMul, Int.reduceLT, Int.reduceLE, Int.reduceDiv, Int.reduceMod, Bool.false_eq_true, ↓reduceIte, true_and, and_true, implies_true, forall_const, true_or, or_true, or_false, false_or, not_true_eq_false, not_false_eq_true, false_implies, Prod.mk.injEq, Fin.val_zero, Fin.val_one, Fin.isValue, Fin.reduceFinMk, Fin.val_two, mR_uI, mK_uI, mN_uI, mI_uR, mK_uR, mN_uR, mR_uC, mK_uC, mN_uC, Option.some.injEq, Sum.inl.injEq, Sum.inr.injEq, decide_true, decide_false, Bool.or_false, Bool.false_or, Bool.or_true, Bool.true_or, Nat.reduceBEq, beq_self_eq_true, show tb 2 = tb_2 from rfl, tb_2, tb_2_0]
  (repeat' (first | with_reducible apply And.intro | with_reducible intro _)) <;> (try omega)
  all_goals first | exact hL | exact hL2 | rfl
set_option maxRecDepth 100000 in
set_option maxHeartbeats 4000000 in
theorem e_newD (X : CX) (M : Mem) (hz : mZ M = 12) (hc : cl M 11 = arr 6 2) : Ev X y_Display_init (1, 360) [aR (some 11)] M (fun r M' => r = none ∧ Laid M M' 11 13) := by
  have big := big_gt
  have c0 := Cn.st hz
  have c1 := c0.uN 20 360
  have c2 := (c1.uR 11 0 (some 12)).uS (mS M + 360)
  have k1 : mK (uN M 20 360) 11 = 6 := by rw [c1.k, if_neg (by omega), hc]; rfl
  have hL : Laid M (uS (uR (uN M 20 360) 11 0 (some 12)) (mS M + 360)) 11 13 := by
    refine ⟨fun a h1 h2 => ?_, fun a h => ?_⟩
    · rw [c2.2 a]
      rcases (show a = 11 ∨ a = 12 by omega) with rfl | rfl
      · rw [if_pos rfl, if_neg (by omega), hc]
        refine cel_ext rfl rfl (fun j => ?_) (fun j => (SI_0 (by decide) (by decide) j).symm)
        exact (SRR_o (a := 11) (by decide) j).symm
      · rw [if_neg (by omega), if_pos rfl, LC_a (a := 12) (n := 360) (by decide) (by decide)]
    · rw [c2.2 a, if_neg (by omega), if_neg (by omega)]
  refine Ev_of mcd_4 mok_4 (by decide) rfl (Nat.le_of_ble_eq_true rfl) ?_
  rw [show yl 4 = 1 from rfl]
  refine G_w (pf0_ok X) LK_4 (fun i => false) 20 _ _ _ _ ?_
  simp only [f_0, f_s, f_iconst, f_bipush, f_sipush, f_ldc, f_ldc_w, f_ldc2_w, f_ldI, f_ldL, f_ldA, f_iload, f_iload_n, f_lload, f_lload_n, f_aload, f_aload_n, f_istore, f_istore_n, f_lstore, f_lstore_n, f_astore, f_astore_n, f_iinc, f_icI, f_iadd, f_isub, f_imul, f_idiv, f_irem, f_iand, f_ior, f_ixor, f_ishl, f_ishr, f_iushr, f_i2l, f_i2b, f_i2s, f_ladd, f_lmul, f_lcmp, f_dupI, f_dupR, f_dup2, f_pop, f_goto, f_if, f_icmp, f_tab, f_ts0, f_ts1, f_getI, f_getZ, f_getR, f_putI, f_putR, f_gets, f_iald, f_bald, f_aald, f_iast, f_bast, f_aast, f_alen, f_new, f_newa, f_anew, f_virt, f_stat0, f_stat1, f_spec0, f_spec1, f_spec9, f_copy, f_max, f_min, f_cV1, f_cV0, f_cS1, f_cS0, f_iret, f_lret, f_vret, f_kG, pf0, cIg, inR, lget, lset, lset2, clr, entL, cnd, psh, catS, tsw, List.take_succ_cons, List.take_zero, List.drop_succ_cons, List.drop_zero, List.reverse_cons, List.reverse_nil, List.nil_append, List.cons_append, List.length_cons, List.length_nil, List.replicate_succ, List.replicate_zero, Nat.reduceAdd, Nat.reduceSub, Nat.reduceLeDiff, Nat.reduceLT, Nat.reduceEqDiff, Nat.reduceMul, Nat.zero_add, Nat.add_zero, Nat.le_refl, Nat.zero_le, Int.reduceEq, Int.reduceToNat, Int.toNat_natCast, Int.reduceNeg, Int.reduceAdd, Int.reduceSub, Int.reduceMul, Int.reduceLT, Int.reduceLE, Int.reduceDiv, Int.reduceMod, Bool.false_eq_true, ↓reduceIte, true_and, and_true, implies_true, forall_const, true_or, or_true, or_false, false_or, not_true_eq_false, not_false_eq_true, false_implies, Prod.mk.injEq, Fin.val_zero, Fin.val_one, Fin.isValue, Fin.reduceFinMk, Fin.val_two, mR_uI, mK_uI, mN_uI, mI_uR, mK_uR, mN_uR, mR_uC, mK_uC, mN_uC, Option.some.injEq, Sum.inl.injEq, Sum.inr.injEq, decide_true, decide_false, Bool.or_false, Bool.false_or, Bool.or_true, Bool.true_or, Nat.reduceBEq, beq_self_eq_true, show tb 4 = tb_4 from rfl, tb_4, tb_4_0, mZ_uN, mS_uN, mZ_uR, mS_uR, hz, k1]
  (repeat' (first | with_reducible apply And.intro | with_reducible intro _)) <;> (try omega)
  all_goals exact hL
set_option maxRecDepth 100000 in
set_option maxHeartbeats 4000000 in
theorem e_newT (X : CX) (M : Mem) (p most : Nat) (hp : p < 1000) (hm : most ≤ 30) (hz : mZ M = p + 1) (hk : SK p = 1 ∧ SN0 p = 3 ∧ SK (p + 1) = 20 ∧ SN0 (p + 1) = most) (hc : cl M p = arr 1 3) : Ev X y_Text_init (1, 30) [aR (some p), aI most] M (fun r M' => r = none ∧ Laid M M' p (p + 2)) := by
  have big := big_gt
  obtain ⟨q1, q2, q3, q4⟩ := hk
  have c0 := (Cn.st hz).uI p 2 (-1)
  have c1 := c0.uN 20 most
  have c2 := (c1.uR p 0 (some (p + 1))).uS (mS M + 30)
  have k0 : mK M p = 1 := congrArg (fun c : Cel => c.1) hc
  have k1 : mK (uN (uI M p 2 (-1)) 20 most) p = 1 := by rw [c1.k, if_neg (by omega), if_pos rfl, hc]; rfl
  have hL : Laid M (uS (uR (uN (uI M p 2 (-1)) 20 most) p 0 (some (p + 1))) (mS M + 30)) p (p + 2) := by
    refine ⟨fun a h1 h2 => ?_, fun a h => ?_⟩
    · rw [c2.2 a]
      rcases (show a = p ∨ a = p + 1 by omega) with rfl | rfl
      · rw [if_pos rfl, if_neg (by omega), if_pos rfl, hc]
        refine cel_ext q1.symm q2.symm (fun j => (SRR_o (Or.inl q1) j).symm) (fun j => ?_)
        show (if j = 2 then -1 else 0) = SI a j
        unfold SI
        by_cases j2 : j = 2
        · rw [if_pos j2, if_pos ⟨q1, j2⟩]
        · rw [if_neg j2, if_neg (fun h => j2 h.2), if_neg (fun h => by omega)]
      · rw [if_neg (by omega), if_pos rfl, LC_a q3 q4]
    · rw [c2.2 a, if_neg (by omega), if_neg (by omega), if_neg (by omega)]
  refine Ev_of mcd_5 mok_5 (by decide) rfl (Nat.le_of_ble_eq_true rfl) ?_
  rw [show yl 5 = 2 from rfl]
  refine G_w (pf0_ok X) LK_5 (fun i => false) 20 _ _ _ _ ?_
  simp only [f_0, f_s, f_iconst, f_bipush, f_sipush, f_ldc, f_ldc_w, f_ldc2_w, f_ldI, f_ldL, f_ldA, f_iload, f_iload_n, f_lload, f_lload_n, f_aload, f_aload_n, f_istore, f_istore_n, f_lstore, f_lstore_n, f_astore, f_astore_n, f_iinc, f_icI, f_iadd, f_isub, f_imul, f_idiv, f_irem, f_iand, f_ior, f_ixor, f_ishl, f_ishr, f_iushr, f_i2l, f_i2b, f_i2s, f_ladd, f_lmul, f_lcmp, f_dupI, f_dupR, f_dup2, f_pop, f_goto, f_if, f_icmp, f_tab, f_ts0, f_ts1, f_getI, f_getZ, f_getR, f_putI, f_putR, f_gets, f_iald, f_bald, f_aald, f_iast, f_bast, f_aast, f_alen, f_new, f_newa, f_anew, f_virt, f_stat0, f_stat1, f_spec0, f_spec1, f_spec9, f_copy, f_max, f_min, f_cV1, f_cV0, f_cS1, f_cS0, f_iret, f_lret, f_vret, f_kG, pf0, cIg, inR, lget, lset, lset2, clr, entL, cnd, psh, catS, tsw, List.take_succ_cons, List.take_zero, List.drop_succ_cons, List.drop_zero, List.reverse_cons, List.reverse_nil, List.nil_append, List.cons_append, List.length_cons, List.length_nil, List.replicate_succ, List.replicate_zero, Nat.reduceAdd, Nat.reduceSub, Nat.reduceLeDiff, Nat.reduceLT, Nat.reduceEqDiff, Nat.reduceMul, Nat.zero_add, Nat.add_zero, Nat.le_refl, Nat.zero_le, Int.reduceEq, Int.reduceToNat, Int.toNat_natCast, Int.reduceNeg, Int.reduceAdd, Int.reduceSub, Int.reduceMul, Int.reduceLT, Int.reduceLE, Int.reduceDiv, Int.reduceMod, Bool.false_eq_true, ↓reduceIte, true_and, and_true, implies_true, forall_const, true_or, or_true, or_false, false_or, not_true_eq_false, not_false_eq_true, false_implies, Prod.mk.injEq, Fin.val_zero, Fin.val_one, Fin.isValue, Fin.reduceFinMk, Fin.val_two, mR_uI, mK_uI, mN_uI, mI_uR, mK_uR, mN_uR, mR_uC, mK_uC, mN_uC, Option.some.injEq, Sum.inl.injEq, Sum.inr.injEq, decide_true, decide_false, Bool.or_false, Bool.false_or, Bool.or_true, Bool.true_or, Nat.reduceBEq, beq_self_eq_true, show tb 5 = tb_5 from rfl, tb_5, tb_5_0, mZ_uN, mS_uN, mZ_uR, mS_uR, mZ_uI, mS_uI, hz, k0, k1]
  (repeat' (first | with_reducible apply And.intro | with_reducible intro _)) <;> (try omega)
  all_goals exact hL
set_option maxRecDepth 100000 in
set_option maxHeartbeats 4000000 in
theorem e_newS (X : CX) (M : Mem) (p : Nat) (hp : p < 1000) (hz : mZ M = p + 1) (hk : SK p = 7 ∧ SN0 p = 3 ∧ SK (p + 1) = 20 ∧ SN0 (p + 1) = 60) (hc : cl M p = arr 7 3) : Ev X y_Sheet_init (1, 60) [aR (some p)] M (fun r M' => r = none ∧ Laid M M' p (p + 2)) := by
  have big := big_gt
  obtain ⟨q1, q2, q3, q4⟩ := hk
  have c0 := Cn.st hz
  have c1 := c0.uN 20 60
  have c2 := ((c1.uR p 0 (some (p + 1))).uI p 1 (-1)).uS (mS M + 60)
  have k1 : mK (uN M 20 60) p = 7 := by rw [c1.k, if_neg (by omega), hc]; rfl
  have hL : Laid M (uS (uI (uR (uN M 20 60) p 0 (some (p + 1))) p 1 (-1)) (mS M + 60)) p (p + 2) := by
    refine ⟨fun a h1 h2 => ?_, fun a h => ?_⟩
    · rw [c2.2 a]
      rcases (show a = p ∨ a = p + 1 by omega) with rfl | rfl
      · rw [if_pos rfl, if_pos rfl, if_neg (by omega), hc]
        refine cel_ext q1.symm q2.symm (fun j => (SRR_o (Or.inr (Or.inl q1)) j).symm) (fun j => ?_)
        show (if j = 1 then -1 else 0) = SI a j
        unfold SI
        by_cases j2 : j = 1
        · rw [if_pos j2, if_neg (fun h => by omega), if_pos ⟨q1, j2⟩]
        · rw [if_neg j2, if_neg (fun h => by omega), if_neg (fun h => j2 h.2)]
      · rw [if_neg (by omega), if_neg (by omega), if_pos rfl, LC_a q3 q4]
    · rw [c2.2 a, if_neg (by omega), if_neg (by omega), if_neg (by omega)]
  refine Ev_of mcd_6 mok_6 (by decide) rfl (Nat.le_of_ble_eq_true rfl) ?_
  rw [show yl 6 = 1 from rfl]
  refine G_w (pf0_ok X) LK_6 (fun i => false) 20 _ _ _ _ ?_
  simp only [f_0, f_s, f_iconst, f_bipush, f_sipush, f_ldc, f_ldc_w, f_ldc2_w, f_ldI, f_ldL, f_ldA, f_iload, f_iload_n, f_lload, f_lload_n, f_aload, f_aload_n, f_istore, f_istore_n, f_lstore, f_lstore_n, f_astore, f_astore_n, f_iinc, f_icI, f_iadd, f_isub, f_imul, f_idiv, f_irem, f_iand, f_ior, f_ixor, f_ishl, f_ishr, f_iushr, f_i2l, f_i2b, f_i2s, f_ladd, f_lmul, f_lcmp, f_dupI, f_dupR, f_dup2, f_pop, f_goto, f_if, f_icmp, f_tab, f_ts0, f_ts1, f_getI, f_getZ, f_getR, f_putI, f_putR, f_gets, f_iald, f_bald, f_aald, f_iast, f_bast, f_aast, f_alen, f_new, f_newa, f_anew, f_virt, f_stat0, f_stat1, f_spec0, f_spec1, f_spec9, f_copy, f_max, f_min, f_cV1, f_cV0, f_cS1, f_cS0, f_iret, f_lret, f_vret, f_kG, pf0, cIg, inR, lget, lset, lset2, clr, entL, cnd, psh, catS, tsw, List.take_succ_cons, List.take_zero, List.drop_succ_cons, List.drop_zero, List.reverse_cons, List.reverse_nil, List.nil_append, List.cons_append, List.length_cons, List.length_nil, List.replicate_succ, List.replicate_zero, Nat.reduceAdd, Nat.reduceSub, Nat.reduceLeDiff, Nat.reduceLT, Nat.reduceEqDiff, Nat.reduceMul, Nat.zero_add, Nat.add_zero, Nat.le_refl, Nat.zero_le, Int.reduceEq, Int.reduceToNat, Int.toNat_natCast, Int.reduceNeg, Int.reduceAdd, Int.reduceSub, Int.reduceMul, Int.reduceLT, Int.reduceLE, Int.reduceDiv, Int.reduceMod, Bool.false_eq_true, ↓reduceIte, true_and, and_true, implies_true, forall_const, true_or, or_true, or_false, false_or, not_true_eq_false, not_false_eq_true, false_implies, Prod.mk.injEq, Fin.val_zero, Fin.val_one, Fin.isValue, Fin.reduceFinMk, Fin.val_two, mR_uI, mK_uI, mN_uI, mI_uR, mK_uR, mN_uR, mR_uC, mK_uC, mN_uC, Option.some.injEq, Sum.inl.injEq, Sum.inr.injEq, decide_true, decide_false, Bool.or_false, Bool.false_or, Bool.or_true, Bool.true_or, Nat.reduceBEq, beq_self_eq_true, show tb 6 = tb_6 from rfl, tb_6, tb_6_0, mZ_uN, mS_uN, mZ_uR, mS_uR, mZ_uI, mS_uI, hz, k1]
  (repeat' (first | with_reducible apply And.intro | with_reducible intro _)) <;> (try omega)
  all_goals exact hL
/-! rows -/
def okR (r n : Nat) : Prop := (r = 59 ∧ n = 100) ∨ ((r = 362 ∨ r = 442) ∧ n = 24)
theorem row_p1 : (List.range 100).all (fun i => decide (SK (61 + 3 * i) = 2)) = true := by decide +kernel
theorem row_p2 : (List.range 24).all (fun i => decide (SK (364 + 3 * i) = 2) && decide (SK (444 + 3 * i) = 2)) = true := by decide +kernel
theorem row_f {r n : Nat} (h : okR r n) : SK r = 4 ∧ SN0 r = 2 ∧ SK (r + 1) = 32 ∧ SN0 (r + 1) = n ∧ (∀ i, i < n → SK (r + 2 + 3 * i) = 2) ∧ (∀ k, SRR (r + 1) k = if k < n then some (r + 2 + 3 * k) else none) ∧ r < 500 ∧ n ≤ 100 ∧ 24 ≤ n := by
  rcases h with ⟨rfl, rfl⟩ | ⟨rfl | rfl, rfl⟩
  · exact ⟨by decide, by decide, by decide, by decide, fun i hi => of_decide_eq_true (List.all_eq_true.mp row_p1 i (List.mem_range.mpr hi)), fun k => rfl, by omega, by omega, by omega⟩
  · refine ⟨by decide, by decide, by decide, by decide, fun i hi => ?_, fun k => rfl, by omega, by omega, by omega⟩
    have h9 := List.all_eq_true.mp row_p2 i (List.mem_range.mpr hi)
    simp only [Bool.and_eq_true, decide_eq_true_eq] at h9
    exact h9.1
  · refine ⟨by decide, by decide, by decide, by decide, fun i hi => ?_, fun k => rfl, by omega, by omega, by omega⟩
    have h9 := List.all_eq_true.mp row_p2 i (List.mem_range.mpr hi)
    simp only [Bool.and_eq_true, decide_eq_true_eq] at h9
    exact h9.2
theorem LC_r {r n : Nat} (h : okR r n) : LC r = upR (arr 4 2) 0 (some (r + 1)) ∧ LC (r + 1) = (32, n, fun k => if k < n then some (r + 2 + 3 * k) else none, fun _ => 0) := by
  obtain ⟨f1, f2, f3, f4, f5, f6, f7, f8, f9⟩ := row_f h
  exact ⟨cel_ext f1 f2 (fun k => SRR_o (Or.inr (Or.inr (Or.inl f1))) k) (fun j => SI_0 (by omega) (by omega) j), cel_ext f3 f4 f6 (fun j => SI_0 (by omega) (by omega) j)⟩
/-- a row with i of its polynomials made -/
def Rf (M : Mem) (r n i : Nat) (a : Nat) : Cel := if a = r then upR (arr 4 2) 0 (some (r + 1)) else if a = r + 1 then (32, n, fun k => if k < i then some (r + 2 + 3 * k) else none, fun _ => 0) else if r + 2 ≤ a ∧ a < r + 2 + 3 * i then LC a else cl M a
set_option maxRecDepth 100000 in
set_option maxHeartbeats 4000000 in
theorem e_newR (X : CX) (M : Mem) (r n : Nat) (h : okR r n) (hz : mZ M = r + 1) (hc : cl M r = arr 4 2) : Ev X y_Row_init (1 + 3 * n, 66 * n) [aR (some r), aI n] M (fun q M' => q = none ∧ Laid M M' r (r + 2 + 3 * n)) := by
  have big := big_gt
  obtain ⟨f1, f2, f3, f4, f5, f6, f7, f8, f9⟩ := row_f h
  have loop : ∀ (d i : Nat) (M1 : Mem), i + d = n → Cn M1 (r + 2 + 3 * i) (Rf M r n i) → mS M1 = mS M + n + 65 * i → G X y_Row_init (mZ M, mS M, 1 + 3 * n, 66 * n) 8 [some (aR (some r)), some (aI n), some (aI i)] [] M1 (fun q M' => q = none ∧ Laid M M' r (r + 2 + 3 * n)) := by
    intro d
    induction d with
    | zero =>
      intro i M1 hi hC hS
      have hin : i = n := by omega
      subst hin
      have hge : (i : Int) ≤ (i : Int) := Int.le_refl _
      have hL : Laid M (uS M1 (mS M + 66 * i)) r (r + 2 + 3 * i) := by
        obtain ⟨l1, l2⟩ := LC_r h
        have c9 := hC.uS (mS M + 66 * i)
        refine ⟨fun a h1 h2 => ?_, fun a h9 => ?_⟩
        · rw [c9.2 a]
          unfold Rf
          by_cases a1 : a = r
          · rw [if_pos a1, a1, l1]
          · by_cases a2 : a = r + 1
            · rw [if_neg a1, if_pos a2, a2, l2]
            · rw [if_neg a1, if_neg a2, if_pos (by omega)]
        · rw [c9.2 a]
          unfold Rf
          rw [if_neg (by omega), if_neg (by omega), if_neg (by omega)]
      have hz1 := hC.1
      refine G_w (pf0_ok X) LK_7 (fun i => false) 20 _ _ _ _ ?_
      simp only [f_0, f_s, f_iconst, f_bipush, f_sipush, f_ldc, f_ldc_w, f_ldc2_w, f_ldI, f_ldL, f_ldA, f_iload, f_iload_n, f_lload, f_lload_n, f_aload, f_aload_n, f_istore, f_istore_n, f_lstore, f_lstore_n, f_astore, f_astore_n, f_iinc, f_icI, f_iadd, f_isub, f_imul, f_idiv, f_irem, f_iand, f_ior, f_ixor, f_ishl, f_ishr, f_iushr, f_i2l, f_i2b, f_i2s, f_ladd, f_lmul, f_lcmp, f_dupI, f_dupR, f_dup2, f_pop, f_goto, f_if, f_icmp, f_tab, f_ts0, f_ts1, f_getI, f_getZ, f_getR, f_putI, f_putR, f_gets, f_iald, f_bald, f_aald, f_iast, f_bast, f_aast, f_alen, f_new, f_newa, f_anew, f_virt, f_stat0, f_stat1, f_spec0, f_spec1, f_spec9, f_copy, f_max, f_min, f_cV1, f_cV0, f_cS1, f_cS0, f_iret, f_lret, f_vret, f_kG, pf0, cIg, inR, lget, lset, lset2, clr, entL, cnd, psh, catS, tsw, List.take_succ_cons, List.take_zero, List.drop_succ_cons, List.drop_zero, List.reverse_cons, List.reverse_nil, List.nil_append, List.cons_append, List.length_cons, List.length_nil, List.replicate_succ, List.replicate_zero, Nat.reduceAdd, Nat.reduceSub, Nat.reduceLeDiff, Nat.reduceLT, Nat.reduceEqDiff, Nat.reduceMul, Nat.zero_add, Nat.add_zero, Nat.le_refl, Nat.zero_le, Int.reduceEq, Int.reduceToNat, Int.toNat_natCast, Int.reduceNeg, Int.reduceAdd, Int.reduceSub, Int.reduceMul, Int.reduceLT, Int.reduceLE, Int.reduceDiv, Int.reduceMod, Bool.false_eq_true, ↓reduceIte, true_and, and_true, implies_true, forall_const, true_or, or_true, or_false, false_or, not_true_eq_false, not_false_eq_true, false_implies, Prod.mk.injEq, Fin.val_zero, Fin.val_one, Fin.isValue, Fin.reduceFinMk, Fin.val_two, mR_uI, mK_uI, mN_uI, mI_uR, mK_uR, mN_uR, mR_uC, mK_uC, mN_uC, Option.some.injEq, Sum.inl.injEq, Sum.inr.injEq, decide_true, decide_false, Bool.or_false, Bool.false_or, Bool.or_true, Bool.true_or, Nat.reduceBEq, beq_self_eq_true, show tb 7 = tb_7 from rfl, tb_7, tb_7_0, hge, hz, hz1]
      (repeat' (first | with_reducible apply And.intro | with_reducible intro _)) <;> (try omega)
      all_goals exact hL
    | succ d ih =>
      intro i M1 hi hC hS
      have hge : ¬ (n : Int) ≤ (i : Int) := by omega
      have hz1 := hC.1
      have k0 : mK M1 r = 4 := by rw [hC.k, Rf, if_pos rfl]; rfl
      have r0 : mR M1 r 0 = some (r + 1) := by rw [hC.r, Rf, if_pos rfl]; rfl
      have kn : mK (uN M1 2 5) r = 4 := by rw [mK_uN, if_neg (by omega)]; exact k0
      refine G_w (pf0_ok X) LK_7 (fun i => false) 20 _ _ _ _ ?_
      simp only [f_0, f_s, f_iconst, f_bipush, f_sipush, f_ldc, f_ldc_w, f_ldc2_w, f_ldI, f_ldL, f_ldA, f_iload, f_iload_n, f_lload, f_lload_n, f_aload, f_aload_n, f_istore, f_istore_n, f_lstore, f_lstore_n, f_astore, f_astore_n, f_iinc, f_icI, f_iadd, f_isub, f_imul, f_idiv, f_irem, f_iand, f_ior, f_ixor, f_ishl, f_ishr, f_iushr, f_i2l, f_i2b, f_i2s, f_ladd, f_lmul, f_lcmp, f_dupI, f_dupR, f_dup2, f_pop, f_goto, f_if, f_icmp, f_tab, f_ts0, f_ts1, f_getI, f_getZ, f_getR, f_putI, f_putR, f_gets, f_iald, f_bald, f_aald, f_iast, f_bast, f_aast, f_alen, f_new, f_newa, f_anew, f_virt, f_stat0, f_stat1, f_spec0, f_spec1, f_spec9, f_copy, f_max, f_min, f_cV1, f_cV0, f_cS1, f_cS0, f_iret, f_lret, f_vret, f_kG, pf0, cIg, inR, lget, lset, lset2, clr, entL, cnd, psh, catS, tsw, List.take_succ_cons, List.take_zero, List.drop_succ_cons, List.drop_zero, List.reverse_cons, List.reverse_nil, List.nil_append, List.cons_append, List.length_cons, List.length_nil, List.replicate_succ, List.replicate_zero, Nat.reduceAdd, Nat.reduceSub, Nat.reduceLeDiff, Nat.reduceLT, Nat.reduceEqDiff, Nat.reduceMul, Nat.zero_add, Nat.add_zero, Nat.le_refl, Nat.zero_le, Int.reduceEq, Int.reduceToNat, Int.toNat_natCast, Int.reduceNeg, Int.reduceAdd, Int.reduceSub, Int.reduceMul, Int.reduceLT, Int.reduceLE, Int.reduceDiv, Int.reduceMod, Bool.false_eq_true, ↓reduceIte, true_and, and_true, implies_true, forall_const, true_or, or_true, or_false, false_or, not_true_eq_false, not_false_eq_true, false_implies, Prod.mk.injEq, Fin.val_zero, Fin.val_one, Fin.isValue, Fin.reduceFinMk, Fin.val_two, mR_uI, mK_uI, mN_uI, mI_uR, mK_uR, mN_uR, mR_uC, mK_uC, mN_uC, Option.some.injEq, Sum.inl.injEq, Sum.inr.injEq, decide_true, decide_false, Bool.or_false, Bool.false_or, Bool.or_true, Bool.true_or, Nat.reduceBEq, beq_self_eq_true, show tb 7 = tb_7 from rfl, tb_7, tb_7_0, mZ_uN, mS_uN, hge, hz, hz1, k0, r0]
      (repeat' (first | with_reducible apply And.intro | with_reducible intro _)) <;> (try omega)
      refine ⟨(2, 60), ⟨by simp only []; omega, by simp only []; omega⟩, Ev_mono (e_newP X (uN M1 2 5) (r + 2 + 3 * i) (by omega) (by rw [mZ_uN, hz1]) (f5 i (by omega)) (by rw [cl_uN, if_pos hz1.symm])) (fun q M2 hr z2 s2 => ?_)⟩
      obtain ⟨rfl, hL2⟩ := hr
      rw [mZ_uN, hz1] at z2
      rw [mS_uN] at s2
      have c2 := hC.lay (by omega) hL2 z2
      have k1 : mK M2 (r + 1) = 32 := by rw [c2.k, if_neg (by omega), Rf, if_neg (by omega), if_pos rfl]
      have n1 : mN M2 (r + 1) = n := by rw [c2.l, if_neg (by omega), Rf, if_neg (by omega), if_pos rfl]
      have k2 : mK M2 (r + 2 + 3 * i) = 2 := by rw [c2.k, if_pos (by omega)]; exact f5 i (by omega)
      have c3 := (c2.uR (r + 1) i (some (r + 2 + 3 * i)))
      have c4 : Cn (uR M2 (r + 1) i (some (r + 2 + 3 * i))) (r + 2 + 3 * (i + 1)) (Rf M r n (i + 1)) := by
        refine ⟨by rw [c3.1]; omega, fun a => ?_⟩
        rw [c3.2 a]
        by_cases a2 : a = r + 1
        · subst a2
          rw [if_pos rfl, if_neg (by omega), Rf, Rf, if_neg (by omega), if_pos rfl, if_neg (by omega), if_pos rfl]
          refine cel_ext rfl rfl (fun k => ?_) (fun j => rfl)
          show (if k = i then some (r + 2 + 3 * i) else if k < i then some (r + 2 + 3 * k) else none) = if k < i + 1 then some (r + 2 + 3 * k) else none
          by_cases ki : k = i
          · rw [if_pos ki, if_pos (by omega), ki]
          · rw [if_neg ki]
            by_cases k2 : k < i
            · rw [if_pos k2, if_pos (by omega)]
            · rw [if_neg k2, if_neg (by omega)]
        · rw [if_neg a2]
          by_cases a1 : a = r
          · rw [if_neg (by omega), Rf, Rf, if_pos a1, if_pos a1]
          · by_cases a3 : r + 2 + 3 * i ≤ a ∧ a < r + 2 + 3 * i + 3
            · rw [if_pos a3, Rf, if_neg a1, if_neg a2, if_pos (by omega)]
            · rw [if_neg a3, Rf, Rf, if_neg a1, if_neg a2, if_neg a1, if_neg a2]
              by_cases a4 : r + 2 ≤ a ∧ a < r + 2 + 3 * i
              · rw [if_pos a4, if_pos (by omega)]
              · rw [if_neg a4, if_neg (by omega)]
      have h9 := ih (i + 1) _ (by omega) c4 (by rw [mS_uR]; omega)
      simp only [f_kG, psh, Nat.reduceAdd]
      refine G_w (pf0_ok X) LK_7 (fun i => i == 8) 20 _ _ _ _ ?_
      simp only [f_0, f_s, f_iconst, f_bipush, f_sipush, f_ldc, f_ldc_w, f_ldc2_w, f_ldI, f_ldL, f_ldA, f_iload, f_iload_n, f_lload, f_lload_n, f_aload, f_aload_n, f_istore, f_istore_n, f_lstore, f_lstore_n, f_astore, f_astore_n, f_iinc, f_icI, f_iadd, f_isub, f_imul, f_idiv, f_irem, f_iand, f_ior, f_ixor, f_ishl, f_ishr, f_iushr, f_i2l, f_i2b, f_i2s, f_ladd, f_lmul, f_lcmp, f_dupI, f_dupR, f_dup2, f_pop, f_goto, f_if, f_icmp, f_tab, f_ts0, f_ts1, f_getI, f_getZ, f_getR, f_putI, f_putR, f_gets, f_iald, f_bald, f_aald, f_iast, f_bast, f_aast, f_alen, f_new, f_newa, f_anew, f_virt, f_stat0, f_stat1, f_spec0, f_spec1, f_spec9, f_copy, f_max, f_min, f_cV1, f_cV0, f_cS1, f_cS0, f_iret, f_lret, f_vret, f_kG, pf0, cIg, inR, lget, lset, lset2, clr, entL, cnd, psh, catS, tsw, List.take_succ_cons, List.take_zero, List.drop_succ_cons, List.drop_zero, List.reverse_cons, List.reverse_nil, List.nil_append, List.cons_append, List.length_cons, List.length_nil, List.replicate_succ, List.replicate_zero, Nat.reduceAdd, Nat.reduceSub, Nat.reduceLeDiff, Nat.reduceLT, Nat.reduceEqDiff, Nat.reduceMul, Nat.zero_add, Nat.add_zero, Nat.le_refl, Nat.zero_le, Int.reduceEq, Int.reduceToNat, Int.toNat_natCast, Int.reduceNeg, Int.reduceAdd, Int.reduceSub, Int.reduceMul, Int.reduceLT, Int.reduceLE, Int.reduceDiv, Int.reduceMod, Bool.false_eq_true, ↓reduceIte, true_and, and_true, implies_true, forall_const, true_or, or_true, or_false, false_or, not_true_eq_false, not_false_eq_true, false_implies, Prod.mk.injEq, Fin.val_zero, Fin.val_one, Fin.isValue, Fin.reduceFinMk, Fin.val_two, mR_uI, mK_uI, mN_uI, mI_uR, mK_uR, mN_uR, mR_uC, mK_uC, mN_uC, Option.some.injEq, Sum.inl.injEq, Sum.inr.injEq, decide_true, decide_false, Bool.or_false, Bool.false_or, Bool.or_true, Bool.true_or, Nat.reduceBEq, beq_self_eq_true, show tb 7 = tb_7 from rfl, tb_7, tb_7_0, k1, n1, k2]
      (repeat' (first | with_reducible apply And.intro | with_reducible intro _)) <;> (try omega)
      all_goals exact h9
  have c0 := Cn.st hz
  have c1 := c0.uN 32 n
  have c2 := c1.uR r 0 (some (r + 1))
  have k1 : mK (uN M 32 n) r = 4 := by rw [c1.k, if_neg (by omega), hc]; rfl
  have c3 : Cn (uR (uN M 32 n) r 0 (some (r + 1))) (r + 2 + 3 * 0) (Rf M r n 0) := by
    refine ⟨c2.1, fun a => ?_⟩
    rw [c2.2 a]
    by_cases a1 : a = r
    · rw [if_pos a1, if_neg (by omega), Rf, if_pos a1, hc]
    · rw [if_neg a1, Rf, if_neg a1]
      by_cases a2 : a = r + 1
      · rw [if_pos a2, if_pos a2]
        refine cel_ext rfl rfl (fun k => ?_) (fun j => rfl)
        show none = if k < 0 then some (r + 2 + 3 * k) else none
        rw [if_neg (by omega)]
      · rw [if_neg a2, if_neg a2, if_neg (by omega)]
  have h9 := loop n 0 _ (by omega) c3 (by rw [mS_uR, mS_uN]; omega)
  refine Ev_of mcd_7 mok_7 (by decide) rfl (Nat.le_of_ble_eq_true rfl) ?_
  rw [show yl 7 = 3 from rfl]
  refine G_w (pf0_ok X) LK_7 (fun i => i == 8) 20 _ _ _ _ ?_
  simp only [f_0, f_s, f_iconst, f_bipush, f_sipush, f_ldc, f_ldc_w, f_ldc2_w, f_ldI, f_ldL, f_ldA, f_iload, f_iload_n, f_lload, f_lload_n, f_aload, f_aload_n, f_istore, f_istore_n, f_lstore, f_lstore_n, f_astore, f_astore_n, f_iinc, f_icI, f_iadd, f_isub, f_imul, f_idiv, f_irem, f_iand, f_ior, f_ixor, f_ishl, f_ishr, f_iushr, f_i2l, f_i2b, f_i2s, f_ladd, f_lmul, f_lcmp, f_dupI, f_dupR, f_dup2, f_pop, f_goto, f_if, f_icmp, f_tab, f_ts0, f_ts1, f_getI, f_getZ, f_getR, f_putI, f_putR, f_gets, f_iald, f_bald, f_aald, f_iast, f_bast, f_aast, f_alen, f_new, f_newa, f_anew, f_virt, f_stat0, f_stat1, f_spec0, f_spec1, f_spec9, f_copy, f_max, f_min, f_cV1, f_cV0, f_cS1, f_cS0, f_iret, f_lret, f_vret, f_kG, pf0, cIg, inR, lget, lset, lset2, clr, entL, cnd, psh, catS, tsw, List.take_succ_cons, List.take_zero, List.drop_succ_cons, List.drop_zero, List.reverse_cons, List.reverse_nil, List.nil_append, List.cons_append, List.length_cons, List.length_nil, List.replicate_succ, List.replicate_zero, Nat.reduceAdd, Nat.reduceSub, Nat.reduceLeDiff, Nat.reduceLT, Nat.reduceEqDiff, Nat.reduceMul, Nat.zero_add, Nat.add_zero, Nat.le_refl, Nat.zero_le, Int.reduceEq, Int.reduceToNat, Int.toNat_natCast, Int.reduceNeg, Int.reduceAdd, Int.reduceSub, Int.reduceMul, Int.reduceLT, Int.reduceLE, Int.reduceDiv, Int.reduceMod, Bool.false_eq_true, ↓reduceIte, true_and, and_true, implies_true, forall_const, true_or, or_true, or_false, false_or, not_true_eq_false, not_false_eq_true, false_implies, Prod.mk.injEq, Fin.val_zero, Fin.val_one, Fin.isValue, Fin.reduceFinMk, Fin.val_two, mR_uI, mK_uI, mN_uI, mI_uR, mK_uR, mN_uR, mR_uC, mK_uC, mN_uC, Option.some.injEq, Sum.inl.injEq, Sum.inr.injEq, decide_true, decide_false, Bool.or_false, Bool.false_or, Bool.or_true, Bool.true_or, Nat.reduceBEq, beq_self_eq_true, show tb 7 = tb_7 from rfl, tb_7, tb_7_0, mZ_uN, mS_uN, mZ_uR, mS_uR, hz, k1]
  (repeat' (first | with_reducible apply And.intro | with_reducible intro _)) <;> (try omega)
  all_goals exact h9
