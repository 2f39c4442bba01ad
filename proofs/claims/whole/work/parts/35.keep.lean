/-! what stays so through a completion -/
def okL (pl : List Po) : Prop := ∀ L ∈ pl, okP L ∧ L ≠ []
def okB (bs : List Mb) : Prop := ∀ b ∈ bs, okM b
theorem gst_b {h g o : Int} (hg : 0 ≤ g ∧ g ≤ 7) : 0 ≤ gst h g o ∧ gst h g o ≤ 7 := by
  unfold gst
  split
  · unfold clrb; split
    · omega
    · split <;> omega
  · exact hg
theorem fold_b (h : Int) : ∀ (hs : List Int) (g : Int), (0 ≤ g ∧ g ≤ 7) → 0 ≤ hs.foldl (gst h) g ∧ hs.foldl (gst h) g ≤ 7
  | [], g, hg => hg
  | o :: hs, g, hg => fold_b h hs _ (gst_b hg)
theorem setG_ok {hs : List Int} {b : Mb} (h : okM b) : okM (setG hs b) := ⟨h.1, h.2.1, fold_b _ hs 7 (by omega), h.2.2.2⟩
theorem nfF_ok {o : Int} {bs : List Mb} (hb : okB bs) : ∀ (k s : Nat) (L : Po), okP L → okP (nfF o bs k s L).2
  | 0, s, L, h => h
  | k + 1, s, L, h => by
    rw [nfF]
    cases hs : L[s]? with
    | none => exact h
    | some t =>
      simp only
      cases ho : ownB t.2 bs with
      | none => exact nfF_ok hb k (s + 1) L h
      | some b =>
        simp only
        split
        · rename_i hc
          have okb := hb b (List.mem_of_find?_eq_some ho)
          have hin : inC b.2.1 (hd b.1) t.2 = true := List.find?_some (p := fun b : Mb => inC b.2.1 (hd b.1) t.2) ho
          have hfp := inC_pr (hd_pr okb.1 okb.2.1) (h t (List.mem_of_getElem? hs)).2 hin
          refine nfF_ok hb k s _ (fun u hu => ?_)
          rcases List.mem_append.mp hu with h9 | h9
          · exact h u (List.mem_of_mem_take h9)
          · exact mrg_ok o _ _ _ _ (fun u hu => h u (List.mem_of_mem_drop hu)) (brs_pr okb.1 hfp hc.1) u h9
        · exact h
theorem okL_app {pl : List Po} {L : Po} (h : okL pl) (h1 : okP L) (h2 : L ≠ []) : okL (pl ++ [L]) := fun x hx => by
  rcases List.mem_append.mp hx with h9 | h9
  · exact h x h9
  · rw [List.mem_singleton.mp h9]; exact ⟨h1, h2⟩
theorem okB_app {A : List Mb} {b : Mb} (h : okB A) (h1 : okM b) : okB (A ++ [b]) := fun x hx => by
  rcases List.mem_append.mp hx with h9 | h9
  · exact h x h9
  · rw [List.mem_singleton.mp h9]; exact h1
theorem admL_ok (h : Int) : ∀ (B A : List Mb) (pl : List Po) (A' : List Mb) (pl' : List Po), okB B → okB A → okL pl → admL h B A pl = some (A', pl') → okB A' ∧ okL pl'
  | [], A, pl, A', pl', hB, hA, hp, he => by
    rw [admL, Option.some.injEq, Prod.mk.injEq] at he
    obtain ⟨rfl, rfl⟩ := he
    exact ⟨hA, hp⟩
  | b :: B, A, pl, A', pl', hB, hA, hp, he => by
    have hb := hB b List.mem_cons_self
    have hB' : okB B := fun x hx => hB x (List.mem_cons_of_mem _ hx)
    rw [admL] at he
    split at he
    · split at he
      · cases he
      · exact admL_ok h B A _ A' pl' hB' hA (okL_app hp hb.1 hb.2.1) he
    · exact admL_ok h B _ pl A' pl' hB' (okB_app hA hb) hp he
theorem admF_ok {t : Po} {bs bs' : List Mb} {pl pl' : List Po} (ht : okP t ∧ t ≠ []) (hB : okB bs) (hp : okL pl) (he : admF t bs pl = some (bs', pl')) : okB bs' ∧ okL pl' := by
  unfold admF at he
  cases ha : admL (hd t) bs [] pl with
  | none => rw [ha] at he; cases he
  | some x =>
    obtain ⟨A, p1⟩ := x
    obtain ⟨g1, g2⟩ := admL_ok (hd t) bs [] pl A p1 hB (fun x hx => by cases hx) hp ha
    rw [ha, admE] at he
    split at he
    · cases he
    · rw [Option.some.injEq, Prod.mk.injEq] at he
      obtain ⟨rfl, rfl⟩ := he
      refine ⟨fun x hx => ?_, g2⟩
      obtain ⟨y, hy, rfl⟩ := List.mem_map.mp hx
      exact setG_ok (okB_app g1 ⟨ht.1, ht.2, by simp only; omega, by simp only; omega⟩ y hy)
theorem senb_b : ∀ s : Nat, s < 8 → ∀ l : Nat, l < 3 → 0 ≤ senb s l ∧ senb s l ≤ 7 := by decide +kernel
theorem ungd_b : ∀ g : Nat, g < 8 → ∀ s : Nat, s < 8 → 0 ≤ ungd g s ∧ ungd g s ≤ 7 := by decide +kernel
theorem prL_ok : ∀ (k l : Nat) (b : Mb) (pl : List Po), l + k = 3 → okM b → okL pl → okM (prL k l b pl).2.1 ∧ okL (prL k l b pl).2.2
  | 0, l, b, pl, hl, hb, hp => ⟨hb, hp⟩
  | k + 1, l, b, pl, hl, hb, hp => by
    rw [prL]
    split
    · split
      · rename_i hbr
        split
        · exact ⟨hb, hp⟩
        · obtain ⟨b1, b2, b3, b4⟩ := hb
          refine prL_ok k (l + 1) _ _ (by omega) ⟨b1, b2, b3, ?_⟩ (okL_app hp (fun t ht => ?_) (fun h => b2 (List.map_eq_nil_iff.mp h)))
          · obtain ⟨n, hn⟩ := Int.eq_ofNat_of_zero_le b4.1
            have := senb_b n (by omega) l (by omega)
            rw [← hn] at this
            exact this
          · obtain ⟨y, hy, rfl⟩ := List.mem_map.mp ht
            exact ⟨(b1 y hy).1, brs_pr b1 (lpr_pr l) hbr y hy⟩
      · exact ⟨hb, hp⟩
    · exact prL_ok k (l + 1) b pl (by omega) hb hp
theorem prF_ok : ∀ (B A : List Mb) (pl : List Po), okB B → okB A → okL pl → (prF B A pl).1 = 0 → okB (prF B A pl).2.1 ∧ okL (prF B A pl).2.2
  | [], A, pl, hB, hA, hp, _ => ⟨hA, hp⟩
  | b :: B, A, pl, hB, hA, hp, he => by
    obtain ⟨b1, b2, b3, b4⟩ := hB b List.mem_cons_self
    have hB' : okB B := fun x hx => hB x (List.mem_cons_of_mem _ hx)
    obtain ⟨n, hn⟩ := Int.eq_ofNat_of_zero_le b3.1
    obtain ⟨m, hm⟩ := Int.eq_ofNat_of_zero_le b4.1
    have hu := ungd_b n (by omega) m (by omega)
    rw [← hn, ← hm] at hu
    obtain ⟨g1, g2⟩ := prL_ok 3 0 (b.1, b.2.1, ungd b.2.1 b.2.2) pl rfl ⟨b1, b2, b3, hu⟩ hp
    rw [prF] at he ⊢
    split at he
    · rename_i h0
      rw [if_pos h0]
      exact prF_ok B _ _ hB' (okB_app hA g1) g2 he
    · rename_i h0
      exact absurd he h0
