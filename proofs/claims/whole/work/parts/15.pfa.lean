/-! the table of the leaves; written by pfgen.py -/
def pfa_b (y : Nat) : Bool :=
  if y = 10 then true else
  if y = 33 then true else
  if y = 38 then true else
  if y = 37 then true else
  if y = 109 then true else
  if y = 126 then true else
  if y = 127 then true else
  if y = 142 then true else
  if y = 110 then true else
  false
def pfa_c (y : Nat) (as : List AV) (M : Mem) : Prop :=
  if y = 10 then (match as with
    | [.inl a, .inl b] => True
    | _ => False) else
  if y = 33 then (match as with
    | [.inl p, .inl l] => Ext M ∧ isPr p ∧ 0 ≤ l ∧ l < 3
    | _ => False) else
  if y = 38 then (match as with
    | [.inl p] => isPr p
    | _ => False) else
  if y = 37 then (match as with
    | [.inl o, .inl p] => isPr p
    | _ => False) else
  if y = 109 then (match as with
    | [.inl v, .inl a, .inl b] => True
    | _ => False) else
  if y = 126 then (match as with
    | [.inl p, .inl l] => isPr p
    | _ => False) else
  if y = 127 then (match as with
    | [.inl l] => True
    | _ => False) else
  if y = 142 then (match as with
    | [.inl b, .inl k] => True
    | _ => False) else
  if y = 110 then (match as with
    | [.inl t] => True
    | _ => False) else
  False
def pfa_v (y : Nat) (as : List AV) (M : Mem) : AV :=
  if y = 10 then (match as with
    | [.inl a, .inl b] => aI (if 0 ≤ a ∧ a < b then 1 else 0)
    | _ => aI 0) else
  if y = 33 then (match as with
    | [.inl p, .inl l] => aI (ex p l)
    | _ => aI 0) else
  if y = 38 then (match as with
    | [.inl p] => aI (dg p)
    | _ => aI 0) else
  if y = 37 then (match as with
    | [.inl o, .inl p] => aI (rk o p)
    | _ => aI 0) else
  if y = 109 then (match as with
    | [.inl v, .inl a, .inl b] => aI (if a ≤ v ∧ v ≤ b then 1 else 0)
    | _ => aI 0) else
  if y = 126 then (match as with
    | [.inl p, .inl l] => aI (ex p l)
    | _ => aI 0) else
  if y = 127 then (match as with
    | [.inl l] => aI (if l = 0 then 1024 else if l = 1 then 32 else 1)
    | _ => aI 0) else
  if y = 142 then (match as with
    | [.inl b, .inl k] => aI (if iAnd (iShr b k) 1 = 1 then 1 else 0)
    | _ => aI 0) else
  if y = 110 then (match as with
    | [.inl t] => aI (if t = 7 then 3 else 30)
    | _ => aI 0) else
  aI 0
def pfa : PF := (pfa_b, pfa_c, pfa_v)
theorem pfa_ok (X : CX) : PFok X pfa := by
  intro y as M hb hc
  simp only [pfa] at hb hc ⊢
  unfold pfa_b at hb
  unfold pfa_c at hc
  unfold pfa_v
  by_cases h9 : y = 10
  · subst h9
    simp only [if_true] at hc ⊢
    split at hc
    · exact e_isBelow X M _ _
    · exact hc.elim
  simp only [if_neg h9] at hb hc ⊢
  clear h9
  by_cases h9 : y = 33
  · subst h9
    simp only [if_true] at hc ⊢
    split at hc
    · exact e_exponent X M _ _ hc.1 hc.2.1 hc.2.2
    · exact hc.elim
  simp only [if_neg h9] at hb hc ⊢
  clear h9
  by_cases h9 : y = 38
  · subst h9
    simp only [if_true] at hc ⊢
    split at hc
    · exact e_degreeOf X M _ hc
    · exact hc.elim
  simp only [if_neg h9] at hb hc ⊢
  clear h9
  by_cases h9 : y = 37
  · subst h9
    simp only [if_true] at hc ⊢
    split at hc
    · exact e_rank X M _ _ hc
    · exact hc.elim
  simp only [if_neg h9] at hb hc ⊢
  clear h9
  by_cases h9 : y = 109
  · subst h9
    simp only [if_true] at hc ⊢
    split at hc
    · exact e_in X M _ _ _
    · exact hc.elim
  simp only [if_neg h9] at hb hc ⊢
  clear h9
  by_cases h9 : y = 126
  · subst h9
    simp only [if_true] at hc ⊢
    split at hc
    · exact e_of X M _ _ hc
    · exact hc.elim
  simp only [if_neg h9] at hb hc ⊢
  clear h9
  by_cases h9 : y = 127
  · subst h9
    simp only [if_true] at hc ⊢
    split at hc
    · exact e_letterOf X M _
    · exact hc.elim
  simp only [if_neg h9] at hb hc ⊢
  clear h9
  by_cases h9 : y = 142
  · subst h9
    simp only [if_true] at hc ⊢
    split at hc
    · exact e_isIn X M _ _
    · exact hc.elim
  simp only [if_neg h9] at hb hc ⊢
  clear h9
  by_cases h9 : y = 110
  · subst h9
    simp only [if_true] at hc ⊢
    split at hc
    · exact e_roomOf X M _
    · exact hc.elim
  rw [if_neg h9] at hb
  cases hb
