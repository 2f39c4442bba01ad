/-! calls that only answer: they are looked up -/
abbrev PF : Type := Nat → List AV → Mem → Option (Prop × AV)
def PFok (X : CX) (pf : PF) : Prop := ∀ y as M c v, pf y as M = some (c, v) → c → Ev X y (0, 0) as M (fun r M' => r = some v ∧ M' = M)
def stq (pf : PF) (X : CX) (z : JZ) (K : Option AV → Mem → Prop) (go : Nat → List (Option AV) → List AV → Mem → Prop) (i : Nat) (ls : List (Option AV)) (st : List AV) (M : Mem) : jI → Prop
  | (.invokevirtual k, c, y, n) => match st.drop n with
    | .inr (.inl (some b)) :: rest => match pf y (aR (some b) :: (st.take n).reverse) M with
      | some (cd, v) => (mK M b = c.toNat ∧ catS rest ≤ 8) ∧ cd ∧ go (i + 1) ls (v :: rest) M
      | none => (mK M b = c.toNat ∧ catS rest ≤ 8) ∧ Ev X y (0, 0) (aR (some b) :: (st.take n).reverse) M (fun r M' => go (i + 1) ls (psh r rest) M')
    | _ => False
  | (.invokestatic k, x, y, n) => if x < 2 then (match pf y (st.take n).reverse M with
      | some (cd, v) => (catS (st.drop n) ≤ 8 ∧ n ≤ st.length) ∧ cd ∧ go (i + 1) ls (v :: st.drop n) M
      | none => (catS (st.drop n) ≤ 8 ∧ n ≤ st.length) ∧ Ev X y (0, 0) (st.take n).reverse M (fun r M' => go (i + 1) ls (psh r (st.drop n)) M'))
    else stp X z K go i ls st M (.invokestatic k, x, y, n)
  | ins => stp X z K go i ls st M ins
theorem stq_ok {pf : PF} {X : CX} {z : JZ} {K : Option AV → Mem → Prop} {go : Nat → List (Option AV) → List AV → Mem → Prop} {i : Nat} {ls : List (Option AV)} {st : List AV} {M : Mem} {ins : jI} (hp : PFok X pf) (h : stq pf X z K go i ls st M ins) : stp X z K go i ls st M ins := by
  obtain ⟨op, x, y, n⟩ := ins
  cases op with
  | invokevirtual k =>
    simp only [stq] at h
    simp only [stp]
    split at h
    · rename_i b rest hdr
      rw [hdr]
      split at h
      · rename_i cd v hv
        exact ⟨h.1, Ev_mono (hp y _ M cd v hv h.2.1) (fun r M' hq _ _ => by obtain ⟨rfl, rfl⟩ := hq; exact h.2.2)⟩
      · exact h
    · exact h.elim
  | invokestatic k =>
    simp only [stq] at h
    by_cases hx : x < 2
    · rw [if_pos hx] at h
      simp only [stp]
      rw [if_neg (by omega), if_neg (by omega), if_neg (by omega)]
      split at h
      · rename_i cd v hv
        exact ⟨h.1, Ev_mono (hp y _ M cd v hv h.2.1) (fun r M' hq _ _ => by obtain ⟨rfl, rfl⟩ := hq; exact h.2.2)⟩
      · exact h
    · rw [if_neg hx] at h
      exact h
  | _ => exact h
def wq (pf : PF) (X : CX) (m : Nat) (z : JZ) (K : Option AV → Mem → Prop) (cut : Nat → Bool) : Nat → Nat → List (Option AV) → List AV → Mem → Prop
  | 0, i, ls, st, M => G X m z i ls st M K
  | n + 1, i, ls, st, M => stq pf X z K (fun i' ls' st' M' => if cut i' = true then G X m z i' ls' st' M' K else wq pf X m z K cut n i' ls' st' M') i ls st M (tb m i)
theorem G_wq {pf : PF} {X : CX} (hp : PFok X pf) {m : Nat} {z : JZ} {K : Option AV → Mem → Prop} (hL : LK m) (cut : Nat → Bool) : ∀ (n i : Nat) (ls : List (Option AV)) (st : List AV) (M : Mem), wq pf X m z K cut n i ls st M → G X m z i ls st M K
  | 0, i, ls, st, M, h => h
  | n + 1, i, ls, st, M, h => by
    have h := stq_ok hp h
    rcases hL i with h9 | h9
    · exfalso
      rcases ht : tb m i with ⟨ins, x, y, w⟩
      rw [ht] at h h9
      simp only at h9
      subst h9
      exact h
    · refine stp_ok (fun i' ls' st' M' hq => ?_) h9 h
      by_cases hc : cut i' = true
      · rw [if_pos hc] at hq
        exact hq
      · rw [if_neg hc] at hq
        exact G_wq hp hL cut n i' ls' st' M' hq
/-! numbers -/
theorem sh_l : ∀ n, n < 32 → ((nI n &&& 31).toBitVec.smod 32).toNat = n := by decide +kernel
theorem sh_u : ∀ n, n < 32 → (((nI n).toUInt32 &&& Int32.toUInt32 31).toBitVec % 32).toNat = n := by decide +kernel
theorem iShr_eq {a : Int} {k : Nat} (h0 : 0 ≤ a) (h1 : a ≤ 2147483647) (hk : k < 32) : iShr a k = a / 2 ^ k := by
  obtain ⟨n, rfl⟩ := Int.eq_ofNat_of_zero_le h0
  unfold iShr
  rw [Int32.ofInt_eq_ofNat, Int32.ofInt_eq_ofNat]
  have h := pk_shrN (n := n) (by omega) (nI k &&& 31) k (sh_l k hk)
  rw [show Int32.ofNat n >>> (Int32.ofNat k &&& 31) = nI (n / 2 ^ k) from h]
  have h2 : n / 2 ^ k ≤ n := Nat.div_le_self _ _
  rw [nI_toInt (by omega)]
  rw [Int.natCast_ediv]
  simp
theorem iShr_10 {a : Int} (h0 : 0 ≤ a) (h1 : a ≤ 2147483647) : iShr a 10 = a / 1024 := iShr_eq (k := 10) h0 h1 (by omega)
theorem iShr_5 {a : Int} (h0 : 0 ≤ a) (h1 : a ≤ 2147483647) : iShr a 5 = a / 32 := iShr_eq (k := 5) h0 h1 (by omega)
theorem iShr_0 {a : Int} (h0 : 0 ≤ a) (h1 : a ≤ 2147483647) : iShr a 0 = a := by
  have h := iShr_eq (a := a) (k := 0) h0 h1 (by omega)
  simpa using h
theorem iAnd_31 {a : Int} (h0 : 0 ≤ a) (h1 : a ≤ 2147483647) : iAnd a 31 = a % 32 := by
  obtain ⟨n, rfl⟩ := Int.eq_ofNat_of_zero_le h0
  unfold iAnd
  rw [Int32.ofInt_eq_ofNat]
  have h := pk_andN (n := n) (by omega) (m := Int32.ofInt 31) 5 (by decide +kernel)
  rw [show Int32.ofNat n &&& Int32.ofInt 31 = nI (n % 2 ^ 5) from h]
  rw [nI_toInt (by omega)]
  omega
theorem iAnd_1 {a : Int} (h0 : 0 ≤ a) (h1 : a ≤ 2147483647) : iAnd a 1 = a % 2 := by
  obtain ⟨n, rfl⟩ := Int.eq_ofNat_of_zero_le h0
  unfold iAnd
  rw [Int32.ofInt_eq_ofNat]
  have h := pk_andN (n := n) (by omega) (m := Int32.ofInt 1) 1 (by decide +kernel)
  rw [show Int32.ofNat n &&& Int32.ofInt 1 = nI (n % 2 ^ 1) from h]
  rw [nI_toInt (by omega)]
  omega
/-- an exponent of a product -/
def ex (p l : Int) : Int := if l = 0 then p / 1024 % 32 else if l = 1 then p / 32 % 32 else p % 32
def dg (p : Int) : Int := ex p 0 + ex p 1 + ex p 2
def isPr (p : Int) : Prop := 0 ≤ p ∧ p < 32768
/-- the rank of a product by an order: 0 lex, 2 rev, else deg -/
def rk (o p : Int) : Int := if o = 0 then p else if o = 2 then dg p * 1024 - p % 32 * 32 - p / 32 % 32 else dg p * 32768 + p
theorem ex_b (p l : Int) : 0 ≤ ex p l ∧ ex p l ≤ 31 := by unfold ex; split <;> (try split) <;> omega
