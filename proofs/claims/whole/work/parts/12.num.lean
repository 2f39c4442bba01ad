/-! numbers -/
theorem sh_l : ∀ n, n < 32 → ((nI n &&& 31).toBitVec.smod 32).toNat = n := by decide +kernel
theorem sh_u : ∀ n, n < 32 → (((nI n).toUInt32 &&& Int32.toUInt32 31).toBitVec % 32).toNat = n := by decide +kernel
theorem iShr_eq {a : Int} {k : Nat} (h0 : 0 ≤ a) (h1 : a ≤ 2147483647) (hk : k < 32) : iShr a k = a / 2 ^ k := by
  obtain ⟨n, rfl⟩ := Int.eq_ofNat_of_zero_le h0
  unfold iShr
  rw [Int32.ofInt_eq_ofNat, Int32.ofInt_eq_ofNat]
  have h := pk_shrN (n := n) (by omega) (nI k &&& 31) k (sh_l k hk)
  rw [show Int32.ofNat n >>> (Int32.ofNat k &&& 31) = nI (n / 2 ^ k) from h]
  have h2 : n / 2 ^ k ≤ n := Nat.div_le_self _ _
  rw [nI_toInt (by omega)]
  rw [Int.natCast_ediv]
  simp
theorem iShr_10 {a : Int} (h0 : 0 ≤ a) (h1 : a ≤ 2147483647) : iShr a 10 = a / 1024 := iShr_eq (k := 10) h0 h1 (by omega)
theorem iShr_5 {a : Int} (h0 : 0 ≤ a) (h1 : a ≤ 2147483647) : iShr a 5 = a / 32 := iShr_eq (k := 5) h0 h1 (by omega)
theorem iShr_0 {a : Int} (h0 : 0 ≤ a) (h1 : a ≤ 2147483647) : iShr a 0 = a := by
  have h := iShr_eq (a := a) (k := 0) h0 h1 (by omega)
  simpa using h
theorem iAnd_31 {a : Int} (h0 : 0 ≤ a) (h1 : a ≤ 2147483647) : iAnd a 31 = a % 32 := by
  obtain ⟨n, rfl⟩ := Int.eq_ofNat_of_zero_le h0
  unfold iAnd
  rw [Int32.ofInt_eq_ofNat]
  have h := pk_andN (n := n) (by omega) (m := Int32.ofInt 31) 5 (by decide +kernel)
  rw [show Int32.ofNat n &&& Int32.ofInt 31 = nI (n % 2 ^ 5) from h]
  rw [nI_toInt (by omega)]
  omega
theorem iAnd_1 {a : Int} (h0 : 0 ≤ a) (h1 : a ≤ 2147483647) : iAnd a 1 = a % 2 := by
  obtain ⟨n, rfl⟩ := Int.eq_ofNat_of_zero_le h0
  unfold iAnd
  rw [Int32.ofInt_eq_ofNat]
  have h := pk_andN (n := n) (by omega) (m := Int32.ofInt 1) 1 (by decide +kernel)
  rw [show Int32.ofNat n &&& Int32.ofInt 1 = nI (n % 2 ^ 1) from h]
  rw [nI_toInt (by omega)]
  omega
/-- an exponent of a product -/
def ex (p l : Int) : Int := if l = 0 then p / 1024 % 32 else if l = 1 then p / 32 % 32 else p % 32
def dg (p : Int) : Int := ex p 0 + ex p 1 + ex p 2
def isPr (p : Int) : Prop := 0 ≤ p ∧ p < 32768
/-- the rank of a product by an order: 0 lex, 2 rev, else deg -/
def rk (o p : Int) : Int := if o = 0 then p else if o = 2 then dg p * 1024 - p % 32 * 32 - p / 32 % 32 else dg p * 32768 + p
theorem ex_b (p l : Int) : 0 ≤ ex p l ∧ ex p l ≤ 31 := by unfold ex; split <;> (try split) <;> omega
