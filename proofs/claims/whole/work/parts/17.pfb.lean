/-! a table of more; written by pfgen.py -/
def pfb_b (y : Nat) : Bool :=
  if y = 55 then true else
  if y = 72 then true else
  if y = 131 then true else
  if y = 147 then true else
  if y = 144 then true else
  if y = 108 then true else
  if y = 155 then true else
  if y = 159 then true else
  if y = 158 then true else
  if y = 165 then true else
  if y = 114 then true else
  if y = 129 then true else
  if y = 132 then true else
  pfa_b y
def pfb_c (y : Nat) (as : List AV) (M : Mem) : Prop :=
  if y = 55 then (match as with
    | [.inl a, .inl b] => Ext M ∧ isPr a ∧ isPr b
    | _ => False) else
  if y = 72 then (match as with
    | [.inl l, .inl d] => (0 ≤ l ∧ l ≤ 3) ∧ d ≤ 1000
    | _ => False) else
  if y = 131 then (match as with
    | [.inl p] => isPr p
    | _ => False) else
  if y = 147 then (match as with
    | [.inl a, .inl b] => isPr a ∧ isPr b
    | _ => False) else
  if y = 144 then (match as with
    | [.inl a, .inl b] => isPr a ∧ isPr b
    | _ => False) else
  if y = 108 then (match as with
    | [.inl t] => True
    | _ => False) else
  if y = 155 then (match as with
    | [.inl t] => True
    | _ => False) else
  if y = 159 then (match as with
    | [.inl t] => True
    | _ => False) else
  if y = 158 then (match as with
    | [.inl t] => True
    | _ => False) else
  if y = 165 then (match as with
    | [.inl t] => True
    | _ => False) else
  if y = 114 then (match as with
    | [.inl t] => True
    | _ => False) else
  if y = 129 then (match as with
    | [.inr (.inl (some a)), .inl p, .inl i] => a = 521 ∧ Shp M ∧ 0 ≤ p ∧ p < 132 ∧ 0 ≤ i ∧ i < 30 ∧ (0 ≤ tmI M p i ∧ tmI M p i ≤ 2147483647)
    | _ => False) else
  if y = 132 then (match as with
    | [.inr (.inl (some a)), .inl p, .inl i] => a = 521 ∧ Shp M ∧ 0 ≤ p ∧ p < 132 ∧ 0 ≤ i ∧ i < 30 ∧ (0 ≤ tmI M p i ∧ tmI M p i ≤ 2147483647)
    | _ => False) else
  pfa_c y as M
def pfb_v (y : Nat) (as : List AV) (M : Mem) : AV :=
  if y = 55 then (match as with
    | [.inl a, .inl b] => aI (if ex a 0 ≤ ex b 0 ∧ ex a 1 ≤ ex b 1 ∧ ex a 2 ≤ ex b 2 then 1 else 0)
    | _ => aI 0) else
  if y = 72 then (match as with
    | [.inl l, .inl d] => aI (prod l d)
    | _ => aI 0) else
  if y = 131 then (match as with
    | [.inl p] => aI (dg p)
    | _ => aI 0) else
  if y = 147 then (match as with
    | [.inl a, .inl b] => aI (if ex a 0 ≤ ex b 0 ∧ ex a 1 ≤ ex b 1 ∧ ex a 2 ≤ ex b 2 then 1 else 0)
    | _ => aI 0) else
  if y = 144 then (match as with
    | [.inl a, .inl b] => aI (if ex a 0 + ex b 0 ≤ 31 ∧ ex a 1 + ex b 1 ≤ 31 ∧ ex a 2 + ex b 2 ≤ 31 then 0 else 1)
    | _ => aI 0) else
  if y = 108 then (match as with
    | [.inl t] => aI (if 0 ≤ t ∧ t ≤ 7 then 1 else 0)
    | _ => aI 0) else
  if y = 155 then (match as with
    | [.inl t] => aI (if 0 ≤ t ∧ t ≤ 32767 then 1 else 0)
    | _ => aI 0) else
  if y = 159 then (match as with
    | [.inl t] => aI (if 0 ≤ t ∧ t ≤ 1 then 1 else 0)
    | _ => aI 0) else
  if y = 158 then (match as with
    | [.inl t] => aI (if 0 ≤ t ∧ t ≤ 29 then 1 else 0)
    | _ => aI 0) else
  if y = 165 then (match as with
    | [.inl t] => aI (if 0 ≤ t ∧ t ≤ 23 then 1 else 0)
    | _ => aI 0) else
  if y = 114 then (match as with
    | [.inl t] => aI (if 0 ≤ t ∧ t ≤ 3 then 1 else 0)
    | _ => aI 0) else
  if y = 129 then (match as with
    | [.inr (.inl (some a)), .inl p, .inl i] => aI (tmI M p i / 32)
    | _ => aI 0) else
  if y = 132 then (match as with
    | [.inr (.inl (some a)), .inl p, .inl i] => aI (tmI M p i % 32)
    | _ => aI 0) else
  pfa_v y as M
def pfb : PF := (pfb_b, pfb_c, pfb_v)
theorem pfb_ok (X : CX) : PFok X pfb := by
  intro y as M hb hc
  simp only [pfb] at hb hc ⊢
  unfold pfb_b at hb
  unfold pfb_c at hc
  unfold pfb_v
  by_cases h9 : y = 55
  · subst h9
    simp only [if_true] at hc ⊢
    split at hc
    · exact e_xdivides X M _ _ hc.1 hc.2.1 hc.2.2
    · exact hc.elim
  simp only [if_neg h9] at hb hc ⊢
  clear h9
  by_cases h9 : y = 72
  · subst h9
    simp only [if_true] at hc ⊢
    split at hc
    · exact e_productsOf X M _ _ hc.1 hc.2
    · exact hc.elim
  simp only [if_neg h9] at hb hc ⊢
  clear h9
  by_cases h9 : y = 131
  · subst h9
    simp only [if_true] at hc ⊢
    split at hc
    · exact e_mdegree X M _ hc
    · exact hc.elim
  simp only [if_neg h9] at hb hc ⊢
  clear h9
  by_cases h9 : y = 147
  · subst h9
    simp only [if_true] at hc ⊢
    split at hc
    · exact e_mdivides X M _ _ hc.1 hc.2
    · exact hc.elim
  simp only [if_neg h9] at hb hc ⊢
  clear h9
  by_cases h9 : y = 144
  · subst h9
    simp only [if_true] at hc ⊢
    split at hc
    · exact e_isWide X M _ _ hc.1 hc.2
    · exact hc.elim
  simp only [if_neg h9] at hb hc ⊢
  clear h9
  by_cases h9 : y = 108
  · subst h9
    simp only [if_true] at hc ⊢
    split at hc
    · exact e_isText X M _
    · exact hc.elim
  simp only [if_neg h9] at hb hc ⊢
  clear h9
  by_cases h9 : y = 155
  · subst h9
    simp only [if_true] at hc ⊢
    split at hc
    · exact e_isProduct X M _
    · exact hc.elim
  simp only [if_neg h9] at hb hc ⊢
  clear h9
  by_cases h9 : y = 159
  · subst h9
    simp only [if_true] at hc ⊢
    split at hc
    · exact e_isTwo X M _
    · exact hc.elim
  simp only [if_neg h9] at hb hc ⊢
  clear h9
  by_cases h9 : y = 158
  · subst h9
    simp only [if_true] at hc ⊢
    split at hc
    · exact e_isThirty X M _
    · exact hc.elim
  simp only [if_neg h9] at hb hc ⊢
  clear h9
  by_cases h9 : y = 165
  · subst h9
    simp only [if_true] at hc ⊢
    split at hc
    · exact e_isOne X M _
    · exact hc.elim
  simp only [if_neg h9] at hb hc ⊢
  clear h9
  by_cases h9 : y = 114
  · subst h9
    simp only [if_true] at hc ⊢
    split at hc
    · exact e_isSheet X M _
    · exact hc.elim
  simp only [if_neg h9] at hb hc ⊢
  clear h9
  by_cases h9 : y = 129
  · subst h9
    simp only [if_true] at hc ⊢
    split at hc
    · exact by obtain ⟨rfl, h1, h2, h3, h4, h5, h6⟩ := hc; exact e_product X M _ _ h1 h2 h3 h4 h5 h6
    · exact hc.elim
  simp only [if_neg h9] at hb hc ⊢
  clear h9
  by_cases h9 : y = 132
  · subst h9
    simp only [if_true] at hc ⊢
    split at hc
    · exact by obtain ⟨rfl, h1, h2, h3, h4, h5, h6⟩ := hc; exact e_number X M _ _ h1 h2 h3 h4 h5 h6
    · exact hc.elim
  simp only [if_neg h9] at hb hc ⊢
  clear h9
  exact pfa_ok X y as M hb hc
