/-! what stays so of a basis and a pile, by an order -/
def hds (bs : List Mb) : List Int := bs.map (fun b => hd b.1)
def BI (o : Int) (bs : List Mb) : Prop := (∀ b ∈ bs, okS o b) ∧ (hds bs).Nodup ∧ ∀ b ∈ bs, b.2.1 = goodF (hd b.1) (hds bs)
def PV (o : Int) (pl : List Po) : Prop := ∀ L ∈ pl, okP L ∧ L ≠ [] ∧ srt o L
theorem BI.ok {o : Int} {bs : List Mb} (h : BI o bs) : okB bs := fun b hb => (h.1 b hb).1
theorem PV.ok {o : Int} {pl : List Po} (h : PV o pl) : okL pl := fun L hL => ⟨(h L hL).1, (h L hL).2.1⟩
theorem inC_self (g h : Int) : inC g h h = true := by
  simp only [inC, decide_eq_true_eq]
  exact ⟨Or.inl trivial, Or.inl trivial, Or.inl trivial⟩
/-- a free head is no head of the basis -/
theorem free_hd {bs : List Mb} {t : Int × Int} (h : free bs t) : ∀ b ∈ bs, hd b.1 ≠ t.2 := by
  intro b hb he
  have h9 := List.find?_eq_none.mp h b hb
  rw [he] at h9
  exact h9 (inC_self _ _)
theorem mon_srt {o : Int} {L : Po} (h : srt o L) : srt o (mon L) := by
  cases L with
  | nil => exact h
  | cons t L =>
    unfold srt mon
    rw [List.pairwise_map]
    exact h
theorem mon_one {L : Po} (h : okP L) (hne : L ≠ []) : ((mon L).headD (0, 0)).1 = 1 := by
  cases L with
  | nil => exact absurd rfl hne
  | cons t L =>
    have ht := (h t List.mem_cons_self).1
    obtain ⟨n, hn⟩ := Int.eq_ofNat_of_zero_le (show 0 ≤ t.1 by omega)
    have hi := (inv31_b n (by omega) (by omega)).1.2.2
    rw [← hn] at hi
    show t.1 * inv31 t.1 % 31 = 1
    rw [Int.mul_comm]
    exact hi
theorem admL_sub (h : Int) : ∀ (B A : List Mb) (pl : List Po) (A' : List Mb) (pl' : List Po), admL h B A pl = some (A', pl') → (∃ B', B'.Sublist B ∧ A' = A ++ B') ∧ ∀ L ∈ pl', L ∈ pl ∨ ∃ b ∈ B, L = b.1
  | [], A, pl, A', pl', he => by
    rw [admL, Option.some.injEq, Prod.mk.injEq] at he
    obtain ⟨rfl, rfl⟩ := he
    exact ⟨⟨[], List.Sublist.refl _, by rw [List.append_nil]⟩, fun L hL => Or.inl hL⟩
  | b :: B, A, pl, A', pl', he => by
    rw [admL] at he
    split at he
    · split at he
      · cases he
      · obtain ⟨⟨B', s1, s2⟩, hp⟩ := admL_sub h B A _ A' pl' he
        refine ⟨⟨B', s1.cons b, s2⟩, fun L hL => ?_⟩
        rcases hp L hL with h9 | ⟨c, h1, h2⟩
        · rcases List.mem_append.mp h9 with h9 | h9
          · exact Or.inl h9
          · exact Or.inr ⟨b, List.mem_cons_self, List.mem_singleton.mp h9⟩
        · exact Or.inr ⟨c, List.mem_cons_of_mem _ h1, h2⟩
    · obtain ⟨⟨B', s1, s2⟩, hp⟩ := admL_sub h B (A ++ [b]) pl A' pl' he
      refine ⟨⟨b :: B', s1.cons₂ b, by rw [s2, List.append_assoc]; rfl⟩, fun L hL => ?_⟩
      rcases hp L hL with h9 | ⟨c, h1, h2⟩
      · exact Or.inl h9
      · exact Or.inr ⟨c, List.mem_cons_of_mem _ h1, h2⟩
theorem hds_setG (hs : List Int) (bs : List Mb) : hds (bs.map (setG hs)) = hds bs := by
  unfold hds
  rw [List.map_map]
  rfl
theorem setG_okS {o : Int} {hs : List Int} {b : Mb} (h : okS o b) : okS o (setG hs b) := ⟨setG_ok h.1, h.2.1, h.2.2⟩
theorem admF_inv {o : Int} {t : Po} {bs bs' : List Mb} {pl pl' : List Po} (hB : BI o bs) (hP : PV o pl) (ht : okP t ∧ t ≠ []) (hst : srt o t) (h1 : (t.headD (0, 0)).1 = 1) (hne : ∀ b ∈ bs, hd b.1 ≠ hd t) (he : admF t bs pl = some (bs', pl')) : BI o bs' ∧ PV o pl' := by
  unfold admF at he
  cases ha : admL (hd t) bs [] pl with
  | none => rw [ha] at he; cases he
  | some x =>
    obtain ⟨A, p1⟩ := x
    obtain ⟨⟨B', s1, s2⟩, hp⟩ := admL_sub (hd t) bs [] pl A p1 ha
    rw [List.nil_append] at s2
    subst s2
    rw [ha, admE] at he
    split at he
    · cases he
    · rw [Option.some.injEq, Prod.mk.injEq] at he
      obtain ⟨rfl, rfl⟩ := he
      have hsub : ∀ b ∈ A, b ∈ bs := fun b hb => s1.subset hb
      have hokn : ∀ b ∈ A ++ [(t, (0 : Int), (0 : Int))], okS o b := fun b hb => by
        rcases List.mem_append.mp hb with h | h
        · exact hB.1 b (hsub b h)
        · rw [List.mem_singleton.mp h]; exact ⟨⟨ht.1, ht.2, by simp, by simp⟩, hst, h1⟩
      refine ⟨⟨fun b hb => ?_, ?_, fun b hb => ?_⟩, fun L hL => ?_⟩
      · obtain ⟨a, ha9, rfl⟩ := List.mem_map.mp hb
        exact setG_okS (hokn a ha9)
      · rw [hds_setG]
        unfold hds
        rw [List.map_append]
        refine List.nodup_append.mpr ⟨List.Nodup.sublist (s1.map (fun b : Mb => hd b.1)) hB.2.1, by simp, fun x hx y hy => ?_⟩
        obtain ⟨a, ha9, rfl⟩ := List.mem_map.mp hx
        have hy : y = hd t := by simpa using hy
        rw [hy]
        exact hne a (hsub a ha9)
      · obtain ⟨a, ha9, rfl⟩ := List.mem_map.mp hb
        rw [hds_setG]
        rfl
      · rcases hp L hL with h | ⟨b, h2, rfl⟩
        · exact hP L h
        · have := hB.1 b h2
          exact ⟨this.1.1, this.1.2.1, this.2.1⟩
def prj (b : Mb) : Po × Int := (b.1, b.2.1)
theorem srt_map {o f : Int} {L : Po} (h : srtF o f L) : srt o (L.map (fun t => (t.1, t.2 + f))) := by
  unfold srt
  rw [List.pairwise_map]
  exact h
theorem prL_inv {o : Int} : ∀ (k l : Nat) (b : Mb) (pl : List Po), okP b.1 → b.1 ≠ [] → srt o b.1 → PV o pl → prj (prL k l b pl).2.1 = prj b ∧ ((prL k l b pl).1 = 0 → PV o (prL k l b pl).2.2)
  | 0, l, b, pl, h1, h2, hs, hp => ⟨rfl, fun _ => hp⟩
  | k + 1, l, b, pl, h1, h2, hs, hp => by
    rw [prL]
    split
    · split
      · rename_i hbr
        split
        · exact ⟨rfl, fun h => by simp at h⟩
        · have hpv : PV o (pl ++ [b.1.map (fun t => (t.1, t.2 + lpr l))]) := by
            intro L hL
            rcases List.mem_append.mp hL with h | h
            · exact hp L h
            · rw [List.mem_singleton.mp h]
              refine ⟨fun t ht => ?_, ?_, srt_map (srt_F h1 (lpr_pr l) hbr hs)⟩
              · obtain ⟨y, hy, rfl⟩ := List.mem_map.mp ht
                exact ⟨(h1 y hy).1, brs_pr h1 (lpr_pr l) hbr y hy⟩
              · intro h9
                exact h2 (List.map_eq_nil_iff.mp h9)
          exact prL_inv k (l + 1) (b.1, b.2.1, senb b.2.2 l) _ h1 h2 hs hpv
      · exact ⟨rfl, fun h => by simp at h⟩
    · exact prL_inv k (l + 1) b pl h1 h2 hs hp
theorem prF_inv {o : Int} : ∀ (B A : List Mb) (pl : List Po), (∀ b ∈ B, okS o b) → PV o pl → (prF B A pl).1 = 0 → (prF B A pl).2.1.map prj = (A ++ B).map prj ∧ PV o (prF B A pl).2.2
  | [], A, pl, _, hp, _ => ⟨by rw [List.append_nil]; rfl, hp⟩
  | b :: B, A, pl, hB, hp, he => by
    have hb := hB b List.mem_cons_self
    obtain ⟨g1, g2⟩ := prL_inv (o := o) 3 0 (b.1, b.2.1, ungd b.2.1 b.2.2) pl hb.1.1 hb.1.2.1 hb.2.1 hp
    rw [prF] at he ⊢
    split at he
    · rename_i h0
      rw [if_pos h0]
      obtain ⟨k1, k2⟩ := prF_inv B (A ++ [(prL 3 0 (b.1, b.2.1, ungd b.2.1 b.2.2) pl).2.1]) _ (fun x hx => hB x (List.mem_cons_of_mem _ hx)) (g2 h0) he
      refine ⟨?_, k2⟩
      rw [k1]
      simp only [List.map_append, List.map_cons, List.map_nil, List.append_assoc, List.cons_append, List.nil_append]
      rw [g1]
      rfl
    · rename_i h0
      exact absurd he h0
theorem prj_mem {bs bs2 : List Mb} (h : bs2.map prj = bs.map prj) {b : Mb} (hb : b ∈ bs2) : ∃ a ∈ bs, a.1 = b.1 ∧ a.2.1 = b.2.1 := by
  have h1 : prj b ∈ bs.map prj := by rw [← h]; exact List.mem_map.mpr ⟨b, hb, rfl⟩
  obtain ⟨a, ha, he⟩ := List.mem_map.mp h1
  unfold prj at he
  rw [Prod.mk.injEq] at he
  exact ⟨a, ha, he.1, he.2⟩
theorem prj_hds {bs bs2 : List Mb} (h : bs2.map prj = bs.map prj) : hds bs2 = hds bs := by
  have e : ∀ l : List Mb, hds l = (l.map prj).map (fun x => hd x.1) := fun l => by unfold hds; rw [List.map_map]; rfl
  rw [e, e, h]
/-- entering keeps all so -/
theorem ent_inv {o : Int} {t : Po} {bs : List Mb} {pl : List Po} (hB : BI o bs) (hP : PV o pl) (ht : okP t ∧ t ≠ []) (hst : srt o t) (h1 : (t.headD (0, 0)).1 = 1) (hne : ∀ b ∈ bs, hd b.1 ≠ hd t) (h0 : (entF t bs pl).1 = 0) : BI o (entF t bs pl).2.1 ∧ PV o (entF t bs pl).2.2 := by
  unfold entF at h0 ⊢
  cases ha : admF t bs pl with
  | none => rw [ha] at h0; simp at h0
  | some x =>
    obtain ⟨bs', pl'⟩ := x
    rw [ha] at h0
    obtain ⟨g1, g2⟩ := admF_inv hB hP ht hst h1 hne ha
    simp only at h0 ⊢
    obtain ⟨k1, k2⟩ := prF_inv bs' [] pl' g1.1 g2 h0
    rw [List.nil_append] at k1
    have hokb := (prF_ok bs' [] pl' g1.ok (fun x hx => by cases hx) g2.ok h0).1
    refine ⟨⟨fun b hb => ?_, ?_, fun b hb => ?_⟩, k2⟩
    · obtain ⟨a, ha9, e1, e2⟩ := prj_mem k1 hb
      have hsa := g1.1 a ha9
      exact ⟨hokb b hb, by rw [← e1]; exact hsa.2.1, by rw [← e1]; exact hsa.2.2⟩
    · rw [prj_hds k1]; exact g1.2.1
    · obtain ⟨a, ha9, e1, e2⟩ := prj_mem k1 hb
      rw [prj_hds k1, ← e1, ← e2]
      exact g1.2.2 a ha9
/-- a normal form of what is on the pile -/
theorem nf_low {o : Int} {bs : List Mb} {L : Po} (hB : BI o bs) (hL : okP L ∧ L ≠ [] ∧ srt o L) (h1 : (nfF o bs 32768 0 L).1 = true) : okP (nfF o bs 32768 0 L).2 ∧ srt o (nfF o bs 32768 0 L).2 ∧ ∀ t ∈ (nfF o bs 32768 0 L).2, free bs t :=
  nfF_nf hB.1 32768 0 L hL.1 hL.2.2 (fun t ht => cnt_top (hL.1 t (List.mem_of_getElem? ht)).2) (fun j t hj => by omega) h1
/-- one step keeps all so -/
theorem cmS_inv {o : Int} {bs : List Mb} {pl : List Po} (hB : BI o bs) (hP : PV o pl) (hne : pl ≠ []) (h0 : (cmS o bs pl).1 = 0) : BI o (cmS o bs pl).2.1 ∧ PV o (cmS o bs pl).2.2 := by
  have hlow : lowI o pl < pl.length := lowF_lt o pl _ 0 1 (List.length_pos_iff.mpr hne) (by have := List.length_pos_iff.mpr hne; omega)
  obtain ⟨K, hK⟩ : ∃ K, pl[lowI o pl]? = some K := ⟨_, List.getElem?_eq_getElem hlow⟩
  have hPe : PV o (pl.eraseIdx (lowI o pl)) := fun L hL => hP L (List.mem_of_mem_eraseIdx hL)
  have hKp := hP K (List.mem_of_getElem? hK)
  unfold cmS at h0 ⊢
  rw [getD_at hK] at h0 ⊢
  split at h0
  · rename_i h1
    rw [if_pos h1]
    obtain ⟨n1, n2, n3⟩ := nf_low hB hKp h1
    split at h0
    · rename_i h2
      rw [if_pos h2]
      exact ⟨hB, hPe⟩
    · rename_i h2
      rw [if_neg h2]
      have hhd : ∀ b ∈ bs, hd b.1 ≠ hd (mon (nfF o bs 32768 0 K).2) := by
        rw [mon_hd]
        cases hn : (nfF o bs 32768 0 K).2 with
        | nil => exact absurd hn h2
        | cons x xs => exact free_hd (n3 x (by rw [hn]; exact List.mem_cons_self))
      have he := ent_inv hB hPe ⟨mon_ok n1, mon_ne h2⟩ (mon_srt n2) (mon_one n1 h2) hhd
      unfold entF at he
      cases ha : admF (mon (nfF o bs 32768 0 K).2) bs (pl.eraseIdx (lowI o pl)) with
      | none => rw [ha] at h0; simp at h0
      | some x =>
        rw [ha] at he h0
        exact he h0
  · simp at h0
