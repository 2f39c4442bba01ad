/-! what holds between the law's calls -/
theorem MI.xm {M M' : Mem} {s : St} (h : MI M s) (hx : XM M M') : MI M' s := by
  have big := big_gt
  have e521 : ∀ k, mI M' 521 k = mI M 521 k := fun k => hx.2.2.2 521 k (by omega)
  have e522 : ∀ k, mI M' 522 k = mI M 522 k := fun k => hx.2.2.2 522 k (by omega)
  have e523 : ∀ k, mI M' 523 k = mI M 523 k := fun k => hx.2.2.2 523 k (by omega)
  have e524 : ∀ k, mI M' 524 k = mI M 524 k := fun k => hx.2.2.2 524 k (by omega)
  have e525 : ∀ k, mI M' 525 k = mI M 525 k := fun k => hx.2.2.2 525 k (by omega)
  have e526 : ∀ k, mI M' 526 k = mI M 526 k := fun k => hx.2.2.2 526 k (by omega)
  have e527 : ∀ k, mI M' 527 k = mI M 527 k := fun k => hx.2.2.2 527 k (by omega)
  have e529 : ∀ k, mI M' 529 k = mI M 529 k := fun k => hx.2.2.2 529 k (by omega)
  have e531 : ∀ k, mI M' 531 k = mI M 531 k := fun k => hx.2.2.2 531 k (by omega)
  have e532 : ∀ k, mI M' 532 k = mI M 532 k := fun k => hx.2.2.2 532 k (by omega)
  have e533 : ∀ k, mI M' 533 k = mI M 533 k := fun k => hx.2.2.2 533 k (by omega)
  have e534 : ∀ k, mI M' 534 k = mI M 534 k := fun k => hx.2.2.2 534 k (by omega)
  obtain ⟨h1, h2, h3, h4, h5, h6⟩ := h
  have hT : ∀ p L, TP M p L → TP M' p L := fun p L h => ⟨(e523 p).trans h.1, h.2.1, fun j t ht => (e522 _).trans (h.2.2 j t ht)⟩
  refine ⟨Smr.shp hx h1 (fun a ha => by omega) (fun a h => h), ?_, ?_, ?_, ?_, ?_⟩
  · unfold MX TB at h2 ⊢
    simp only [e524, e525]
    exact h2
  · rw [e521]; exact h3
  · intro h7
    rw [e521] at h7
    obtain ⟨k1, k2, k3, k4, k5, k6, k7, k8⟩ := h4 h7
    refine ⟨(e521 _).trans k1, (e521 _).trans k2, fun t ht => (e526 t).trans (k3 t ht), fun t ht => hT _ _ (k4 t ht), (e521 _).trans k5, (e521 _).trans k6, ⟨⟨(e521 _).trans k7.1.1, k7.1.2.1, fun j b hb => hT _ _ (k7.1.2.2 j b hb)⟩, fun j b hb => (e529 j).trans (k7.2.1 j b hb), fun j b hb => (e527 j).trans (k7.2.2 j b hb)⟩, k8⟩
  · intro i hi
    have h9 := h5 i hi
    unfold SHM at h9 ⊢
    simp only [e531, e532, e533, e534]
    exact h9
  · rw [e521]; exact h6
theorem XI.mm {M M' : Mem} {s : St} (h : XI M s) (hm : MM M M') : XI M' s := h.sm (Same.smr hm _) (fun a ha => by have := big_gt; omega)
/-- class and reference hold the same; the script -/
def LI (M : Mem) (L : Nat) (f : Nat → Int) (s : St) : Prop := XI M s ∧ MI M s ∧ mK M (BIG + 3) = 25 ∧ mN M (BIG + 3) = L ∧ ∀ k, mI M (BIG + 3) k = f k
theorem XM.sc {M M' : Mem} {L : Nat} {f : Nat → Int} (hx : XM M M') (h : mK M (BIG + 3) = 25 ∧ mN M (BIG + 3) = L ∧ ∀ k, mI M (BIG + 3) k = f k) : mK M' (BIG + 3) = 25 ∧ mN M' (BIG + 3) = L ∧ ∀ k, mI M' (BIG + 3) k = f k := by
  have big := big_gt
  exact ⟨(hx.1 _).trans h.1, (hx.2.1 _).trans h.2.1, fun k => (hx.2.2.2 _ _ (by omega)).trans (h.2.2 k)⟩
theorem MM.sc {M M' : Mem} {L : Nat} {f : Nat → Int} (hx : MM M M') (h : mK M (BIG + 3) = 25 ∧ mN M (BIG + 3) = L ∧ ∀ k, mI M (BIG + 3) k = f k) : mK M' (BIG + 3) = 25 ∧ mN M' (BIG + 3) = L ∧ ∀ k, mI M' (BIG + 3) k = f k := by
  have big := big_gt
  exact ⟨(hx.1 _).trans h.1, (hx.2.1 _).trans h.2.1, fun k => (hx.2.2.2 _ _ (by omega)).trans (h.2.2 k)⟩
