/-! lists of terms as an order has them -/
theorem rk_inj {o p q : Int} (hp : isPr p) (hq : isPr q) (h : rk o p = rk o q) : p = q := by
  have a0 := ex_b p 0; have a1 := ex_b p 1; have a2 := ex_b p 2; have b0 := ex_b q 0; have b1 := ex_b q 1; have b2 := ex_b q 2
  have da := pr_dec hp; have db := pr_dec hq
  have e2 : rk 2 p = dg p * 1024 - ex p 2 * 32 - ex p 1 := rfl
  have f2 : rk 2 q = dg q * 1024 - ex q 2 * 32 - ex q 1 := rfl
  have g1 : dg p = ex p 0 + ex p 1 + ex p 2 := rfl
  have g2 : dg q = ex q 0 + ex q 1 + ex q 2 := rfl
  unfold isPr at hp hq
  by_cases h0 : o = 0
  · subst h0; exact h
  · by_cases h2 : o = 2
    · subst h2
      rw [e2, f2] at h
      have w1 : dg p = dg q := by
        have v1 : 0 ≤ ex p 2 * 32 + ex p 1 ∧ ex p 2 * 32 + ex p 1 ≤ 1023 := by omega
        have v2 : 0 ≤ ex q 2 * 32 + ex q 1 ∧ ex q 2 * 32 + ex q 1 ≤ 1023 := by omega
        have v3 : dg p * 1024 - (ex p 2 * 32 + ex p 1) = dg q * 1024 - (ex q 2 * 32 + ex q 1) := by omega
        clear h g1 g2 da db e2 f2
        generalize ex p 2 * 32 + ex p 1 = u at *
        generalize ex q 2 * 32 + ex q 1 = v at *
        omega
      have w2 : ex p 2 = ex q 2 := by
        rw [w1] at h
        clear g1 g2 da db e2 f2 w1
        omega
      have w3 : ex p 1 = ex q 1 := by omega
      have w4 : ex p 0 = ex q 0 := by omega
      rw [da, db, w2, w3, w4]
    · unfold rk at h
      rw [if_neg h0, if_neg h2, if_neg h0, if_neg h2] at h
      omega
def srt (o : Int) (L : Po) : Prop := L.Pairwise (fun a b => rk o b.2 < rk o a.2)
/-- a term more, by recursion -/
def ins (o n q : Int) : Po → Po
  | [] => [(n, q)]
  | t :: L => if rk o q < rk o t.2 then t :: ins o n q L else if t.2 = q then (if (t.1 + n) % 31 = 0 then L else ((t.1 + n) % 31, q) :: L) else (n, q) :: t :: L
theorem idx_cons (o q : Int) (t : Int × Int) (L : Po) : idx o q (t :: L) = if rk o q < rk o t.2 then idx o q L + 1 else 0 := by
  unfold idx
  rw [List.takeWhile_cons]
  by_cases h : rk o q < rk o t.2
  · rw [if_pos h, if_pos (by simpa using h)]; rfl
  · rw [if_neg h, if_neg (by simpa using h)]; rfl
theorem addT_ins (o n q : Int) : ∀ L : Po, addT o n q L = ins o n q L
  | [] => rfl
  | t :: L => by
    have ih := addT_ins o n q L
    unfold addT at ih ⊢
    rw [idx_cons, ins]
    by_cases h : rk o q < rk o t.2
    · rw [if_pos h, if_pos h, List.getElem?_cons_succ, ← ih]
      cases hL : L[idx o q L]? with
      | none => simp only [List.insertIdx_succ_cons]
      | some u =>
        simp only [List.insertIdx_succ_cons, List.eraseIdx_cons_succ, List.set_cons_succ]
        split
        · split <;> rfl
        · rfl
    · rw [if_neg h, if_neg h, List.getElem?_cons_zero]
      simp only [List.eraseIdx_cons_zero, List.set_cons_zero, List.insertIdx_zero]
theorem ins_mem {o n q : Int} : ∀ {L : Po} {x : Int × Int}, x ∈ ins o n q L → x.2 = q ∨ x ∈ L
  | [], x, h => by
    rw [ins] at h
    rw [List.mem_singleton.mp h]; exact Or.inl rfl
  | t :: L, x, h => by
    rw [ins] at h
    split at h
    · rcases List.mem_cons.mp h with rfl | h
      · exact Or.inr List.mem_cons_self
      · rcases ins_mem h with h | h
        · exact Or.inl h
        · exact Or.inr (List.mem_cons_of_mem _ h)
    · split at h
      · split at h
        · exact Or.inr (List.mem_cons_of_mem _ h)
        · rcases List.mem_cons.mp h with rfl | h
          · exact Or.inl rfl
          · exact Or.inr (List.mem_cons_of_mem _ h)
      · rcases List.mem_cons.mp h with rfl | h
        · exact Or.inl rfl
        · exact Or.inr h
theorem ins_srt {o n q : Int} (hq : isPr q) : ∀ {L : Po}, okP L → srt o L → srt o (ins o n q L)
  | [], _, _ => by rw [ins]; exact List.pairwise_singleton _ _
  | t :: L, ok, hs => by
    have ht := ok t List.mem_cons_self
    obtain ⟨s1, s2⟩ := List.pairwise_cons.mp hs
    rw [ins]
    split
    · rename_i h
      refine List.pairwise_cons.mpr ⟨fun x hx => ?_, ins_srt hq (fun t ht => ok t (List.mem_cons_of_mem _ ht)) s2⟩
      rcases ins_mem hx with h9 | h9
      · rw [h9]; exact h
      · exact s1 x h9
    · rename_i h
      split
      · rename_i he
        split
        · exact s2
        · exact List.pairwise_cons.mpr ⟨fun x hx => by have := s1 x hx; rw [he] at this; exact this, s2⟩
      · rename_i he
        have hlt : rk o t.2 < rk o q := by
          have : rk o t.2 ≠ rk o q := fun h9 => he (rk_inj ht.2 hq h9)
          omega
        refine List.pairwise_cons.mpr ⟨fun x hx => ?_, hs⟩
        rcases List.mem_cons.mp hx with rfl | hx
        · exact hlt
        · have := s1 x hx; simp only; omega
theorem addT_srt {o n q : Int} {L : Po} (hq : isPr q) (ok : okP L) (hs : srt o L) : srt o (addT o n q L) := by
  rw [addT_ins]; exact ins_srt hq ok hs
theorem srt_nd {o : Int} {L : Po} (h : srt o L) : (L.map (fun t => t.2)).Nodup := by
  unfold srt at h
  unfold List.Nodup
  rw [List.pairwise_map]
  exact h.imp (fun h9 he => by rw [he] at h9; omega)
/-- what is read is well, and sorted -/
theorem rdL_ok (o : Int) : ∀ (B : List Int) (i : Nat) (s : RS) (L : Po), okR s → okP L → srt o L → okP (rdL o B i s L).2 ∧ srt o (rdL o B i s L).2
  | [], i, s, L, hs, h1, h2 => by
    rw [rdL]
    split
    · exact ⟨fun t ht => by (cases ht), List.Pairwise.nil⟩
    · split
      · exact ⟨h1, h2⟩
      · exact ⟨addT_ok h1 (sgR_b hs) hs.2.2.2.1, addT_srt hs.2.2.2.1 h1 h2⟩
  | b :: B, i, s, L, hs, h1, h2 => by
    rw [rdL]
    cases hn : nxR b s with
    | none => exact ⟨fun t ht => by (cases ht), List.Pairwise.nil⟩
    | some t =>
      have okt := (nxR_ok hs hn).1
      simp only
      split
      · refine rdL_ok o B (i + 1) _ _ ⟨by simp, by simp only; split <;> omega, by simp, by unfold isPr; simp, fun h => by simp at h⟩ ?_ ?_
        · split
          · exact h1
          · exact addT_ok h1 (sgR_b okt) okt.2.2.2.1
        · split
          · exact h2
          · exact addT_srt okt.2.2.2.1 h1 h2
      · exact rdL_ok o B (i + 1) t L okt h1 h2
theorem rdF_ok (o : Int) (B : List Int) : okP (rdF o B).2 ∧ srt o (rdF o B).2 := rdL_ok o B 0 _ [] ⟨by simp, Or.inl rfl, by simp, by unfold isPr; simp, fun h => by simp at h⟩ (fun t ht => by cases ht) List.Pairwise.nil
/-- the number of a product -/
def cf : Po → Int → Int
  | [], _ => 0
  | t :: L, q => if t.2 = q then t.1 else cf L q
theorem cf_cons (t : Int × Int) (L : Po) (q : Int) : cf (t :: L) q = if t.2 = q then t.1 else cf L q := rfl
theorem cf_nil (q : Int) : cf [] q = 0 := rfl
theorem cf_none : ∀ {L : Po} {q : Int}, (∀ t ∈ L, t.2 ≠ q) → cf L q = 0
  | [], q, _ => rfl
  | t :: L, q, h => by
    rw [cf, if_neg (h t List.mem_cons_self)]
    exact cf_none (fun u hu => h u (List.mem_cons_of_mem _ hu))
theorem cf_ins {o n q : Int} (hn : 1 ≤ n ∧ n ≤ 30) (hq : isPr q) : ∀ {L : Po} (r : Int), okP L → srt o L → cf (ins o n q L) r = if q = r then (cf L q + n) % 31 else cf L r
  | [], r, _, _ => by
    rw [ins, cf, cf, cf]
    by_cases h : q = r
    · rw [if_pos h, if_pos h]; omega
    · rw [if_neg h, if_neg h]; rfl
  | t :: L, r, ok, hs => by
    have ht := ok t List.mem_cons_self
    obtain ⟨s1, s2⟩ := List.pairwise_cons.mp hs
    have okL' : okP L := fun t ht => ok t (List.mem_cons_of_mem _ ht)
    rw [ins]
    by_cases h : rk o q < rk o t.2
    · have hne : t.2 ≠ q := fun e => by rw [e] at h; omega
      rw [if_pos h, cf, cf_ins hn hq r okL' s2, cf, if_neg hne, cf]
      by_cases hr : q = r
      · rw [if_pos hr, if_pos hr, if_neg (by rw [← hr]; exact hne)]
      · rw [if_neg hr, if_neg hr]
    · rw [if_neg h]
      by_cases he : t.2 = q
      · rw [if_pos he, cf, if_pos he]
        have hz : cf L q = 0 := cf_none (fun u hu e => by have := s1 u hu; rw [e, he] at this; omega)
        by_cases hm : (t.1 + n) % 31 = 0
        · rw [if_pos hm]
          by_cases hr : q = r
          · rw [if_pos hr, hm, ← hr]; exact hz
          · rw [if_neg hr, cf, if_neg (by rw [he]; exact hr)]
        · rw [if_neg hm, cf]
          by_cases hr : q = r
          · rw [if_pos hr, if_pos hr]
          · rw [if_neg hr, if_neg hr, cf, if_neg (by rw [he]; exact hr)]
      · have hlt : rk o t.2 < rk o q := by
          have : rk o t.2 ≠ rk o q := fun h9 => he (rk_inj ht.2 hq h9)
          omega
        rw [if_neg he, cf]
        by_cases hr : q = r
        · have hz : cf (t :: L) q = 0 := cf_none (fun u hu e => by
            rcases List.mem_cons.mp hu with rfl | hu
            · exact he e
            · have := s1 u hu; rw [e] at this; omega)
          rw [if_pos hr, if_pos hr, hz]; omega
        · rw [if_neg hr, if_neg hr]
/-- sorted lists with the same numbers are the same -/
theorem cf_eq {o : Int} : ∀ {L U : Po}, okP L → okP U → srt o L → srt o U → (∀ q, cf L q = cf U q) → L = U
  | [], [], _, _, _, _, _ => rfl
  | t :: L, [], ok, _, _, _, h => by
    have := h t.2
    rw [cf_cons, if_pos rfl, cf_nil] at this
    have := (ok t List.mem_cons_self).1
    omega
  | [], u :: U, _, ok, _, _, h => by
    have := h u.2
    rw [cf_nil, cf_cons, if_pos rfl] at this
    have := (ok u List.mem_cons_self).1
    omega
  | t :: L, u :: U, okL1, okU, sL, sU, h => by
    have ht := okL1 t List.mem_cons_self
    have hu := okU u List.mem_cons_self
    obtain ⟨a1, a2⟩ := List.pairwise_cons.mp sL
    obtain ⟨b1, b2⟩ := List.pairwise_cons.mp sU
    have e1 : rk o t.2 = rk o u.2 := by
      have n1 : ¬ rk o u.2 < rk o t.2 := fun hlt => by
        have h9 := h t.2
        have hz : cf (u :: U) t.2 = 0 := cf_none (fun x hx e => by
          rcases List.mem_cons.mp hx with rfl | hx
          · rw [e] at hlt; omega
          · have := b1 x hx; rw [e] at this; omega)
        rw [hz, cf_cons, if_pos rfl] at h9
        have o1 := ht.1
        have o2 := hu.1
        omega
      have n2 : ¬ rk o t.2 < rk o u.2 := fun hlt => by
        have h9 := h u.2
        have hz : cf (t :: L) u.2 = 0 := cf_none (fun x hx e => by
          rcases List.mem_cons.mp hx with rfl | hx
          · rw [e] at hlt; omega
          · have := a1 x hx; rw [e] at this; omega)
        rw [hz, cf_cons, if_pos rfl] at h9
        have o1 := ht.1
        have o2 := hu.1
        omega
      omega
    have e2 : t.2 = u.2 := rk_inj ht.2 hu.2 e1
    have e3 : t.1 = u.1 := by
      have h9 := h t.2
      rw [cf_cons, if_pos rfl, cf_cons, if_pos e2.symm] at h9
      exact h9
    have e4 : L = U := cf_eq (fun x hx => okL1 x (List.mem_cons_of_mem _ hx)) (fun x hx => okU x (List.mem_cons_of_mem _ hx)) a2 b2 (fun q => by
      by_cases hq : t.2 = q
      · rw [cf_none (L := L) (fun x hx e => by have := a1 x hx; rw [e, ← hq] at this; omega), cf_none (L := U) (fun x hx e => by have := b1 x hx; rw [e, ← hq, e2] at this; omega)]
      · have h9 := h q
        rw [cf_cons, if_neg hq, cf_cons, if_neg (by rw [← e2]; exact hq)] at h9
        exact h9)
    rw [e4, show t = u from Prod.ext e3 e2]
theorem addT_cf {o n q : Int} {L : Po} (hn : 1 ≤ n ∧ n ≤ 30) (hq : isPr q) (r : Int) (ok : okP L) (hs : srt o L) : cf (addT o n q L) r = if q = r then (cf L q + n) % 31 else cf L r := by
  rw [addT_ins]; exact cf_ins hn hq r ok hs
/-- the numbers read are the same by every order -/
theorem rdL_cf (o o' : Int) : ∀ (B : List Int) (i : Nat) (s : RS) (L L' : Po), okR s → okP L → srt o L → okP L' → srt o' L' → (∀ q, cf L q = cf L' q) → (rdL o B i s L).1 = (rdL o' B i s L').1 ∧ ∀ q, cf (rdL o B i s L).2 q = cf (rdL o' B i s L').2 q
  | [], i, s, L, L', hs, h1, h2, h3, h4, h => by
    rw [rdL, rdL]
    split
    · exact ⟨rfl, fun _ => rfl⟩
    · split
      · exact ⟨rfl, h⟩
      · refine ⟨rfl, fun q => ?_⟩
        simp only
        rw [addT_cf (sgR_b hs) hs.2.2.2.1 q h1 h2, addT_cf (sgR_b hs) hs.2.2.2.1 q h3 h4, h, h]
  | b :: B, i, s, L, L', hs, h1, h2, h3, h4, h => by
    rw [rdL, rdL]
    cases hn : nxR b s with
    | none => exact ⟨rfl, fun _ => rfl⟩
    | some t =>
      have okt := (nxR_ok hs hn).1
      simp only
      split
      · refine rdL_cf o o' B (i + 1) _ _ _ ⟨by simp, by simp only; split <;> omega, by simp, by unfold isPr; simp, fun h => by simp at h⟩ ?_ ?_ ?_ ?_ ?_
        · split
          · exact h1
          · exact addT_ok h1 (sgR_b okt) okt.2.2.2.1
        · split
          · exact h2
          · exact addT_srt okt.2.2.2.1 h1 h2
        · split
          · exact h3
          · exact addT_ok h3 (sgR_b okt) okt.2.2.2.1
        · split
          · exact h4
          · exact addT_srt okt.2.2.2.1 h3 h4
        · intro q
          split
          · exact h q
          · rw [addT_cf (sgR_b okt) okt.2.2.2.1 q h1 h2, addT_cf (sgR_b okt) okt.2.2.2.1 q h3 h4, h, h]
      · exact rdL_cf o o' B (i + 1) t L L' okt h1 h2 h3 h4 h
theorem rso_cf (o o' : Int) : ∀ (L A : Po), okP L → srt o' L → okP A → srt o A → (∀ t ∈ L, cf A t.2 = 0) → okP (rso o A L) ∧ srt o (rso o A L) ∧ ∀ q, cf (rso o A L) q = if cf L q = 0 then cf A q else cf L q
  | [], A, _, _, h1, h2, _ => ⟨h1, h2, fun q => by rw [cf, if_pos rfl]; rfl⟩
  | t :: L, A, okT1, sT, h1, h2, h => by
    have ht := okT1 t List.mem_cons_self
    obtain ⟨s1, s2⟩ := List.pairwise_cons.mp sT
    have e2 : rso o A (t :: L) = rso o (addT o t.1 t.2 A) L := rfl
    have hne : ∀ u ∈ L, u.2 ≠ t.2 := fun u hu e => by have := s1 u hu; rw [e] at this; omega
    obtain ⟨g1, g2, g3⟩ := rso_cf o o' L (addT o t.1 t.2 A) (fun x hx => okT1 x (List.mem_cons_of_mem _ hx)) s2 (addT_ok h1 ht.1 ht.2) (addT_srt ht.2 h1 h2) (fun u hu => by
      rw [addT_cf ht.1 ht.2 u.2 h1 h2, if_neg (fun e => hne u hu e.symm)]
      exact h u (List.mem_cons_of_mem _ hu))
    rw [e2]
    refine ⟨g1, g2, fun q => ?_⟩
    rw [g3, addT_cf ht.1 ht.2 q h1 h2, cf]
    by_cases hq : t.2 = q
    · have hz : cf L q = 0 := cf_none (fun u hu e => hne u hu (e.trans hq.symm))
      have o1 := ht.1
      rw [if_pos hz, if_pos hq, if_pos hq, h t List.mem_cons_self, if_neg (fun h9 => by omega)]
      omega
    · rw [if_neg hq, if_neg hq]
/-- read by one order and sorted by another, or read by that other -/
theorem rso_rdF (o o' : Int) (B : List Int) : rso o [] (rdF o' B).2 = (rdF o B).2 := by
  obtain ⟨a1, a2⟩ := rdF_ok o B
  obtain ⟨b1, b2⟩ := rdF_ok o' B
  obtain ⟨c1, c2, c3⟩ := rso_cf o o' (rdF o' B).2 [] b1 b2 (fun t ht => by cases ht) List.Pairwise.nil (fun t _ => rfl)
  have h := rdL_cf o o' B 0 (0, 0, 1, 0, 0) [] [] ⟨by simp, Or.inl rfl, by simp, by unfold isPr; simp, fun h => by simp at h⟩ (fun t ht => by cases ht) List.Pairwise.nil (fun t ht => by cases ht) List.Pairwise.nil (fun _ => rfl)
  refine cf_eq c1 a1 c2 a2 (fun q => ?_)
  rw [c3]
  have h9 := h.2 q
  show _ = cf (rdF o B).2 q
  rw [show cf (rdF o B).2 q = cf (rdF o' B).2 q from h9]
  split
  · rename_i hz; rw [hz]; rfl
  · rfl
/-- the fault is the same by every order -/
theorem rdF_flt (o o' : Int) (B : List Int) : (rdF o B).1 = (rdF o' B).1 := (rdL_cf o o' B 0 (0, 0, 1, 0, 0) [] [] ⟨by simp, Or.inl rfl, by simp, by unfold isPr; simp, fun h => by simp at h⟩ (fun t ht => by cases ht) List.Pairwise.nil (fun t ht => by cases ht) List.Pairwise.nil (fun _ => rfl)).1
