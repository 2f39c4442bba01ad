/-! the front of the plain machine: equations that a rewriting can go through, one for each kind of step -/
/-- calls that are looked up, the context, the method, the counts, the end, where to stop -/
abbrev SC : Type := PF × CX × Nat × JZ × (Option AV → Mem → Prop) × (Nat → Bool)
/-- behind a call -/
def kG (X : CX) (m : Nat) (z : JZ) (K : Option AV → Mem → Prop) (i : Nat) (ls : List (Option AV)) (rest : List AV) (r : Option AV) (M' : Mem) : Prop := G X m z (i + 1) ls (psh r rest) M' K
def cVg (c : SC) (go : Nat → List (Option AV) → List AV → Mem → Prop) (i : Nat) (ls : List (Option AV)) (M : Mem) (cc : Int) (y : Nat) : Nat → List AV → List AV → Prop
  | 0, acc, .inr (.inl (some b)) :: rest => if c.1.1 y = true then (mK M b = cc.toNat ∧ catS rest ≤ 8) ∧ c.1.2.1 y (aR (some b) :: acc) M ∧ go (i + 1) ls (c.1.2.2 y (aR (some b) :: acc) M :: rest) M
    else (mK M b = cc.toNat ∧ catS rest ≤ 8) ∧ Ev c.2.1 y (0, 0) (aR (some b) :: acc) M (kG c.2.1 c.2.2.1 c.2.2.2.1 c.2.2.2.2.1 i ls rest)
  | n + 1, acc, v :: st => cVg c go i ls M cc y n (v :: acc) st
  | _, _, _ => False
def cSg (c : SC) (go : Nat → List (Option AV) → List AV → Mem → Prop) (i : Nat) (ls : List (Option AV)) (M : Mem) (y : Nat) : Nat → List AV → List AV → Prop
  | 0, acc, rest => if c.1.1 y = true then catS rest ≤ 8 ∧ c.1.2.1 y acc M ∧ go (i + 1) ls (c.1.2.2 y acc M :: rest) M else catS rest ≤ 8 ∧ Ev c.2.1 y (0, 0) acc M (kG c.2.1 c.2.2.1 c.2.2.2.1 c.2.2.2.2.1 i ls rest)
  | n + 1, acc, v :: st => cSg c go i ls M y n (v :: acc) st
  | _ + 1, _, [] => False
def cIg (c : SC) (i : Nat) (ls : List (Option AV)) (M : Mem) (y : Nat) : Nat → List AV → List AV → Prop
  | 0, acc, .inr (.inl (some b)) :: rest => catS rest ≤ 8 ∧ ∃ w : Nat × Nat, (mZ M + w.1 ≤ c.2.2.2.1.1 + c.2.2.2.1.2.2.1 ∧ mS M + w.2 ≤ c.2.2.2.1.2.1 + c.2.2.2.1.2.2.2) ∧ Ev c.2.1 y w (aR (some b) :: acc) M (kG c.2.1 c.2.2.1 c.2.2.2.1 c.2.2.2.2.1 i ls rest)
  | n + 1, acc, v :: st => cIg c i ls M y n (v :: acc) st
  | _, _, _ => False
def sI (c : SC) (go : Nat → List (Option AV) → List AV → Mem → Prop) (i : Nat) (ls : List (Option AV)) (st : List AV) (M : Mem) : jI → Prop
  | (.invokevirtual _, cc, y, n) => cVg c go i ls M cc y n [] st
  | (.invokestatic k, x, y, n) => if x < 2 then cSg c go i ls M y n [] st else stp c.1 c.2.1 c.2.2.2.1 c.2.2.2.2.1 go i ls st M (.invokestatic k, x, y, n)
  | (.invokespecial k, x, y, n) => if x < 2 then cIg c i ls M y n [] st else stp c.1 c.2.1 c.2.2.2.1 c.2.2.2.2.1 go i ls st M (.invokespecial k, x, y, n)
  | ins => stp c.1 c.2.1 c.2.2.2.1 c.2.2.2.2.1 go i ls st M ins
/-- n steps at most -/
def w (c : SC) : Nat → Nat → List (Option AV) → List AV → Mem → Prop
  | 0, i, ls, st, M => G c.2.1 c.2.2.1 c.2.2.2.1 i ls st M c.2.2.2.2.1
  | n + 1, i, ls, st, M => if c.2.2.2.2.2 i = true then G c.2.1 c.2.2.1 c.2.2.2.1 i ls st M c.2.2.2.2.1 else sI c (w c n) i ls st M (tb c.2.2.1 i)
def sJ (c : SC) (n i : Nat) (ls : List (Option AV)) (st : List AV) (M : Mem) (ins : jI) : Prop := sI c (w c n) i ls st M ins
theorem cVg_ok {c : SC} (hp : PFok c.2.1 c.1) {go : Nat → List (Option AV) → List AV → Mem → Prop} (hgo : ∀ i ls st M, go i ls st M → G c.2.1 c.2.2.1 c.2.2.2.1 i ls st M c.2.2.2.2.1) {i : Nat} {ls : List (Option AV)} {M : Mem} {cc : Int} {y : Nat} : ∀ (n : Nat) (acc st : List AV), cVg c go i ls M cc y n acc st → cV pf0 c.2.1 (fun i ls st M => G c.2.1 c.2.2.1 c.2.2.2.1 i ls st M c.2.2.2.2.1) i ls M cc y n acc st
  | 0, acc, [], h => h.elim
  | 0, acc, .inl _ :: _, h => h.elim
  | 0, acc, .inr (.inl none) :: _, h => h.elim
  | 0, acc, .inr (.inr _) :: _, h => h.elim
  | 0, acc, .inr (.inl (some b)) :: rest, h => by
    simp only [cVg] at h
    simp only [cV]
    rw [if_neg (by simp [pf0])]
    by_cases hy : c.1.1 y = true
    · rw [if_pos hy] at h
      exact ⟨h.1, Ev_mono (hp y _ M hy h.2.1) (fun r M' hq _ _ => by obtain ⟨rfl, rfl⟩ := hq; exact hgo _ _ _ _ h.2.2)⟩
    · rw [if_neg hy] at h
      exact h
  | n + 1, acc, [], h => h.elim
  | n + 1, acc, v :: st, h => cVg_ok hp hgo n (v :: acc) st h
theorem cSg_ok {c : SC} (hp : PFok c.2.1 c.1) {go : Nat → List (Option AV) → List AV → Mem → Prop} (hgo : ∀ i ls st M, go i ls st M → G c.2.1 c.2.2.1 c.2.2.2.1 i ls st M c.2.2.2.2.1) {i : Nat} {ls : List (Option AV)} {M : Mem} {y : Nat} : ∀ (n : Nat) (acc st : List AV), cSg c go i ls M y n acc st → cS pf0 c.2.1 (fun i ls st M => G c.2.1 c.2.2.1 c.2.2.2.1 i ls st M c.2.2.2.2.1) i ls M y n acc st
  | 0, acc, st, h => by
    simp only [cSg] at h
    simp only [cS]
    rw [if_neg (by simp [pf0])]
    by_cases hy : c.1.1 y = true
    · rw [if_pos hy] at h
      exact ⟨h.1, Ev_mono (hp y _ M hy h.2.1) (fun r M' hq _ _ => by obtain ⟨rfl, rfl⟩ := hq; exact hgo _ _ _ _ h.2.2)⟩
    · rw [if_neg hy] at h
      exact h
  | n + 1, acc, [], h => h.elim
  | n + 1, acc, v :: st, h => cSg_ok hp hgo n (v :: acc) st h
theorem cIg_ok {c : SC} {i : Nat} {ls : List (Option AV)} {M : Mem} {y : Nat} : ∀ (n : Nat) (acc st : List AV), cIg c i ls M y n acc st → ∃ b rest, st.drop n = aR (some b) :: rest ∧ catS rest ≤ 8 ∧ ∃ w : Nat × Nat, (mZ M + w.1 ≤ c.2.2.2.1.1 + c.2.2.2.1.2.2.1 ∧ mS M + w.2 ≤ c.2.2.2.1.2.1 + c.2.2.2.1.2.2.2) ∧ Ev c.2.1 y w (aR (some b) :: ((st.take n).reverse ++ acc)) M (kG c.2.1 c.2.2.1 c.2.2.2.1 c.2.2.2.2.1 i ls rest)
  | 0, acc, [], h => h.elim
  | 0, acc, .inl _ :: _, h => h.elim
  | 0, acc, .inr (.inl none) :: _, h => h.elim
  | 0, acc, .inr (.inr _) :: _, h => h.elim
  | 0, acc, .inr (.inl (some b)) :: rest, h => ⟨b, rest, rfl, h⟩
  | n + 1, acc, [], h => h.elim
  | n + 1, acc, v :: st, h => by
    obtain ⟨b, rest, h1, h2, w, h4, h3⟩ := cIg_ok n (v :: acc) st h
    refine ⟨b, rest, by simpa using h1, h2, w, h4, ?_⟩
    rw [List.take_succ_cons, List.reverse_cons, List.append_assoc]
    exact h3
theorem sI_ok {c : SC} (hp : PFok c.2.1 c.1) (hL : LK c.2.2.1) {go : Nat → List (Option AV) → List AV → Mem → Prop} (hgo : ∀ i ls st M, go i ls st M → G c.2.1 c.2.2.1 c.2.2.2.1 i ls st M c.2.2.2.2.1) {i : Nat} {ls : List (Option AV)} {st : List AV} {M : Mem} (h : sI c go i ls st M (tb c.2.2.1 i)) : G c.2.1 c.2.2.1 c.2.2.2.1 i ls st M c.2.2.2.2.1 := by
  rcases ht : tb c.2.2.1 i with ⟨op, x, y, n⟩
  rw [ht] at h
  have fin : ∀ {pf : PF} {go' : Nat → List (Option AV) → List AV → Mem → Prop}, PFok c.2.1 pf → (∀ i ls st M, go' i ls st M → G c.2.1 c.2.2.1 c.2.2.2.1 i ls st M c.2.2.2.2.1) → stp pf c.2.1 c.2.2.2.1 c.2.2.2.2.1 go' i ls st M (op, x, y, n) → G c.2.1 c.2.2.1 c.2.2.2.1 i ls st M c.2.2.2.2.1 := fun hp' hg' h' => G_stp hp' hL hg' (by rw [ht]; exact h')
  cases op with
  | invokevirtual k => exact fin (pf := pf0) (go' := fun i ls st M => G c.2.1 c.2.2.1 c.2.2.2.1 i ls st M c.2.2.2.2.1) (pf0_ok _) (fun _ _ _ _ h => h) (cVg_ok hp hgo n [] st h)
  | invokestatic k =>
    simp only [sI] at h
    by_cases hx : x < 2
    · rw [if_pos hx] at h
      refine fin (pf := pf0) (go' := fun i ls st M => G c.2.1 c.2.2.1 c.2.2.2.1 i ls st M c.2.2.2.2.1) (pf0_ok _) (fun _ _ _ _ h => h) ?_
      simp only [stp]
      rw [if_pos hx]
      exact cSg_ok hp hgo n [] st h
    · rw [if_neg hx] at h
      exact fin hp hgo h
  | invokespecial k =>
    simp only [sI] at h
    by_cases hx : x < 2
    · rw [if_pos hx] at h
      refine fin (pf := pf0) (go' := fun i ls st M => G c.2.1 c.2.2.1 c.2.2.2.1 i ls st M c.2.2.2.2.1) (pf0_ok _) (fun _ _ _ _ h => h) ?_
      obtain ⟨b, rest, h1, h2, w, h4, h3⟩ := cIg_ok n [] st h
      rw [List.append_nil] at h3
      simp only [stp]
      rw [h1]
      refine ⟨h2, ?_⟩
      rw [if_neg (by omega)]
      exact ⟨w, h4, h3⟩
    · rw [if_neg hx] at h
      exact fin hp hgo h
  | _ => exact fin hp hgo h
theorem w_G {c : SC} (hp : PFok c.2.1 c.1) (hL : LK c.2.2.1) : ∀ (n i : Nat) (ls : List (Option AV)) (st : List AV) (M : Mem), w c n i ls st M → G c.2.1 c.2.2.1 c.2.2.2.1 i ls st M c.2.2.2.2.1
  | 0, i, ls, st, M, h => h
  | n + 1, i, ls, st, M, h => by
    simp only [w] at h
    by_cases hc : c.2.2.2.2.2 i = true
    · rw [if_pos hc] at h
      exact h
    · rw [if_neg hc] at h
      exact sI_ok hp hL (w_G hp hL n) h
/-- the way in -/
theorem G_w {pf : PF} {X : CX} (hp : PFok X pf) {m : Nat} {z : JZ} {K : Option AV → Mem → Prop} (hL : LK m) (cut : Nat → Bool) (n i : Nat) (ls : List (Option AV)) (st : List AV) (M : Mem) (h : sJ (pf, X, m, z, K, cut) n i ls st M (tb m i)) : G X m z i ls st M K := sI_ok (c := (pf, X, m, z, K, cut)) hp hL (w_G (c := (pf, X, m, z, K, cut)) hp hL n) h
section FRONT
variable {pf : PF} {X : CX} {m : Nat} {z : JZ} {K : Option AV → Mem → Prop} {cut : Nat → Bool} {n i : Nat} {ls : List (Option AV)} {st : List AV} {M : Mem} {x : Int} {y q : Nat}
theorem f_0 : w (pf, X, m, z, K, cut) 0 i ls st M = (G X m z i ls st M K) := (rfl)
theorem f_s : w (pf, X, m, z, K, cut) (n + 1) i ls st M = (if cut i = true then G X m z i ls st M K else sJ (pf, X, m, z, K, cut) n i ls st M (tb m i)) := (rfl)
theorem f_iconst {v : Int} : sJ (pf, X, m, z, K, cut) n i ls st M (.iconst v, x, y, q) = (w (pf, X, m, z, K, cut) n (i + 1) ls (aI v :: st) M) := (rfl)
theorem f_bipush {v : Int} : sJ (pf, X, m, z, K, cut) n i ls st M (.bipush v, x, y, q) = (w (pf, X, m, z, K, cut) n (i + 1) ls (aI v :: st) M) := (rfl)
theorem f_sipush {v : Int} : sJ (pf, X, m, z, K, cut) n i ls st M (.sipush v, x, y, q) = (w (pf, X, m, z, K, cut) n (i + 1) ls (aI v :: st) M) := (rfl)
theorem f_ldc {k : Nat} : sJ (pf, X, m, z, K, cut) n i ls st M (.ldc k, x, y, q) = (w (pf, X, m, z, K, cut) n (i + 1) ls (aI x :: st) M) := (rfl)
theorem f_ldc_w {k : Nat} : sJ (pf, X, m, z, K, cut) n i ls st M (.ldc_w k, x, y, q) = (w (pf, X, m, z, K, cut) n (i + 1) ls (aI x :: st) M) := (rfl)
theorem f_ldc2_w {k : Nat} : sJ (pf, X, m, z, K, cut) n i ls st M (.ldc2_w k, x, y, q) = (w (pf, X, m, z, K, cut) n (i + 1) ls (aL (Int64.ofInt x) :: st) M) := (rfl)
def ldI (c : SC) (n i : Nat) (ls : List (Option AV)) (st : List AV) (M : Mem) : Option AV → Prop
  | some (.inl a) => w c n (i + 1) ls (aI a :: st) M
  | _ => False
def ldL (c : SC) (n i : Nat) (ls : List (Option AV)) (st : List AV) (M : Mem) : Option AV → Prop
  | some (.inr (.inr a)) => w c n (i + 1) ls (aL a :: st) M
  | _ => False
def ldA (c : SC) (n i : Nat) (ls : List (Option AV)) (st : List AV) (M : Mem) : Option AV → Prop
  | some (.inr (.inl (some a))) => w c n (i + 1) ls (aR (some a) :: st) M
  | _ => False
theorem f_ldI {a : Int} : ldI (pf, X, m, z, K, cut) n i ls st M (some (.inl a)) = (w (pf, X, m, z, K, cut) n (i + 1) ls (aI a :: st) M) := (rfl)
theorem f_ldL {a : Int64} : ldL (pf, X, m, z, K, cut) n i ls st M (some (.inr (.inr a))) = (w (pf, X, m, z, K, cut) n (i + 1) ls (aL a :: st) M) := (rfl)
theorem f_ldA {a : Nat} : ldA (pf, X, m, z, K, cut) n i ls st M (some (.inr (.inl (some a)))) = (w (pf, X, m, z, K, cut) n (i + 1) ls (aR (some a) :: st) M) := (rfl)
theorem f_iload {k : Nat} : sJ (pf, X, m, z, K, cut) n i ls st M (.iload k, x, y, q) = (ldI (pf, X, m, z, K, cut) n i ls st M (lget ls k)) := (rfl)
theorem f_iload_n {k : Fin 4} : sJ (pf, X, m, z, K, cut) n i ls st M (.iload_n k, x, y, q) = (ldI (pf, X, m, z, K, cut) n i ls st M (lget ls k.val)) := (rfl)
theorem f_lload {k : Nat} : sJ (pf, X, m, z, K, cut) n i ls st M (.lload k, x, y, q) = (ldL (pf, X, m, z, K, cut) n i ls st M (lget ls k)) := (rfl)
theorem f_lload_n {k : Fin 4} : sJ (pf, X, m, z, K, cut) n i ls st M (.lload_n k, x, y, q) = (ldL (pf, X, m, z, K, cut) n i ls st M (lget ls k.val)) := (rfl)
theorem f_aload {k : Nat} : sJ (pf, X, m, z, K, cut) n i ls st M (.aload k, x, y, q) = (ldA (pf, X, m, z, K, cut) n i ls st M (lget ls k)) := (rfl)
theorem f_aload_n {k : Fin 4} : sJ (pf, X, m, z, K, cut) n i ls st M (.aload_n k, x, y, q) = (ldA (pf, X, m, z, K, cut) n i ls st M (lget ls k.val)) := (rfl)
theorem f_istore {k : Nat} {a : Int} : sJ (pf, X, m, z, K, cut) n i ls (.inl a :: st) M (.istore k, x, y, q) = (w (pf, X, m, z, K, cut) n (i + 1) (lset ls k (aI a)) st M) := (rfl)
theorem f_istore_n {k : Fin 4} {a : Int} : sJ (pf, X, m, z, K, cut) n i ls (.inl a :: st) M (.istore_n k, x, y, q) = (w (pf, X, m, z, K, cut) n (i + 1) (lset ls k.val (aI a)) st M) := (rfl)
theorem f_lstore {k : Nat} {a : Int64} : sJ (pf, X, m, z, K, cut) n i ls (.inr (.inr a) :: st) M (.lstore k, x, y, q) = (w (pf, X, m, z, K, cut) n (i + 1) (lset2 ls k (aL a)) st M) := (rfl)
theorem f_lstore_n {k : Fin 4} {a : Int64} : sJ (pf, X, m, z, K, cut) n i ls (.inr (.inr a) :: st) M (.lstore_n k, x, y, q) = (w (pf, X, m, z, K, cut) n (i + 1) (lset2 ls k.val (aL a)) st M) := (rfl)
theorem f_astore {k : Nat} {a : Nat} : sJ (pf, X, m, z, K, cut) n i ls (.inr (.inl (some a)) :: st) M (.astore k, x, y, q) = (w (pf, X, m, z, K, cut) n (i + 1) (lset ls k (aR (some a))) st M) := (rfl)
theorem f_astore_n {k : Fin 4} {a : Nat} : sJ (pf, X, m, z, K, cut) n i ls (.inr (.inl (some a)) :: st) M (.astore_n k, x, y, q) = (w (pf, X, m, z, K, cut) n (i + 1) (lset ls k.val (aR (some a))) st M) := (rfl)
def icI (c : SC) (n i : Nat) (ls : List (Option AV)) (st : List AV) (M : Mem) (k : Nat) (d : Int) : Option AV → Prop
  | some (.inl a) => inR (a + d) ∧ w c n (i + 1) (lset ls k (aI (a + d))) st M
  | _ => False
theorem f_iinc {k : Nat} {d : Int} : sJ (pf, X, m, z, K, cut) n i ls st M (.iinc k d, x, y, q) = (icI (pf, X, m, z, K, cut) n i ls st M k d (lget ls k)) := (rfl)
theorem f_icI {k : Nat} {d a : Int} : icI (pf, X, m, z, K, cut) n i ls st M k d (some (.inl a)) = (inR (a + d) ∧ w (pf, X, m, z, K, cut) n (i + 1) (lset ls k (aI (a + d))) st M) := (rfl)
theorem f_iadd {a b : Int} : sJ (pf, X, m, z, K, cut) n i ls (.inl b :: .inl a :: st) M (.iadd, x, y, q) = (inR (a + b) ∧ w (pf, X, m, z, K, cut) n (i + 1) ls (aI (a + b) :: st) M) := (rfl)
theorem f_isub {a b : Int} : sJ (pf, X, m, z, K, cut) n i ls (.inl b :: .inl a :: st) M (.isub, x, y, q) = (inR (a - b) ∧ w (pf, X, m, z, K, cut) n (i + 1) ls (aI (a - b) :: st) M) := (rfl)
theorem f_imul {a b : Int} : sJ (pf, X, m, z, K, cut) n i ls (.inl b :: .inl a :: st) M (.imul, x, y, q) = (inR (a * b) ∧ w (pf, X, m, z, K, cut) n (i + 1) ls (aI (a * b) :: st) M) := (rfl)
theorem f_idiv {a b : Int} : sJ (pf, X, m, z, K, cut) n i ls (.inl b :: .inl a :: st) M (.idiv, x, y, q) = ((0 ≤ a ∧ 0 < b) ∧ w (pf, X, m, z, K, cut) n (i + 1) ls (aI (a / b) :: st) M) := (rfl)
theorem f_irem {a b : Int} : sJ (pf, X, m, z, K, cut) n i ls (.inl b :: .inl a :: st) M (.irem, x, y, q) = ((0 ≤ a ∧ 0 < b) ∧ w (pf, X, m, z, K, cut) n (i + 1) ls (aI (a % b) :: st) M) := (rfl)
theorem f_iand {a b : Int} : sJ (pf, X, m, z, K, cut) n i ls (.inl b :: .inl a :: st) M (.iand, x, y, q) = (w (pf, X, m, z, K, cut) n (i + 1) ls (aI (iAnd a b) :: st) M) := (rfl)
theorem f_ior {a b : Int} : sJ (pf, X, m, z, K, cut) n i ls (.inl b :: .inl a :: st) M (.ior, x, y, q) = (w (pf, X, m, z, K, cut) n (i + 1) ls (aI (iOr a b) :: st) M) := (rfl)
theorem f_ixor {a b : Int} : sJ (pf, X, m, z, K, cut) n i ls (.inl b :: .inl a :: st) M (.ixor, x, y, q) = (w (pf, X, m, z, K, cut) n (i + 1) ls (aI (iXor a b) :: st) M) := (rfl)
theorem f_ishl {a b : Int} : sJ (pf, X, m, z, K, cut) n i ls (.inl b :: .inl a :: st) M (.ishl, x, y, q) = (w (pf, X, m, z, K, cut) n (i + 1) ls (aI (iShl a b) :: st) M) := (rfl)
theorem f_ishr {a b : Int} : sJ (pf, X, m, z, K, cut) n i ls (.inl b :: .inl a :: st) M (.ishr, x, y, q) = (w (pf, X, m, z, K, cut) n (i + 1) ls (aI (iShr a b) :: st) M) := (rfl)
theorem f_iushr {a b : Int} : sJ (pf, X, m, z, K, cut) n i ls (.inl b :: .inl a :: st) M (.iushr, x, y, q) = (w (pf, X, m, z, K, cut) n (i + 1) ls (aI (iUshr a b) :: st) M) := (rfl)
theorem f_i2l {a : Int} : sJ (pf, X, m, z, K, cut) n i ls (.inl a :: st) M (.i2l, x, y, q) = (w (pf, X, m, z, K, cut) n (i + 1) ls (aL (i64 a) :: st) M) := (rfl)
theorem f_i2b {a : Int} : sJ (pf, X, m, z, K, cut) n i ls (.inl a :: st) M (.i2b, x, y, q) = (w (pf, X, m, z, K, cut) n (i + 1) ls (aI (i8 a) :: st) M) := (rfl)
theorem f_i2s {a : Int} : sJ (pf, X, m, z, K, cut) n i ls (.inl a :: st) M (.i2s, x, y, q) = (w (pf, X, m, z, K, cut) n (i + 1) ls (aI (i16 a) :: st) M) := (rfl)
theorem f_ladd {a b : Int64} : sJ (pf, X, m, z, K, cut) n i ls (.inr (.inr b) :: .inr (.inr a) :: st) M (.ladd, x, y, q) = (w (pf, X, m, z, K, cut) n (i + 1) ls (aL (a + b) :: st) M) := (rfl)
theorem f_lmul {a b : Int64} : sJ (pf, X, m, z, K, cut) n i ls (.inr (.inr b) :: .inr (.inr a) :: st) M (.lmul, x, y, q) = (w (pf, X, m, z, K, cut) n (i + 1) ls (aL (a * b) :: st) M) := (rfl)
theorem f_lcmp {a b : Int64} : sJ (pf, X, m, z, K, cut) n i ls (.inr (.inr b) :: .inr (.inr a) :: st) M (.lcmp, x, y, q) = (w (pf, X, m, z, K, cut) n (i + 1) ls (aI (lCmp a b) :: st) M) := (rfl)
theorem f_dupI {a : Int} : sJ (pf, X, m, z, K, cut) n i ls (.inl a :: st) M (.dup, x, y, q) = (w (pf, X, m, z, K, cut) n (i + 1) ls (aI a :: aI a :: st) M) := (rfl)
theorem f_dupR {a : Option Nat} : sJ (pf, X, m, z, K, cut) n i ls (.inr (.inl a) :: st) M (.dup, x, y, q) = (w (pf, X, m, z, K, cut) n (i + 1) ls (aR a :: aR a :: st) M) := (rfl)
theorem f_dup2 {a : Int} {b : Option Nat} : sJ (pf, X, m, z, K, cut) n i ls (.inl a :: .inr (.inl b) :: st) M (.dup2, x, y, q) = (w (pf, X, m, z, K, cut) n (i + 1) ls (aI a :: aR b :: aI a :: aR b :: st) M) := (rfl)
theorem f_pop {a : Int} : sJ (pf, X, m, z, K, cut) n i ls (.inl a :: st) M (.pop, x, y, q) = (w (pf, X, m, z, K, cut) n (i + 1) ls st M) := (rfl)
theorem f_goto {o : Int} : sJ (pf, X, m, z, K, cut) n i ls st M (.goto o, x, y, q) = (w (pf, X, m, z, K, cut) n y ls st M) := (rfl)
theorem f_if {c : Jvm.ClassFile.Cond} {o a : Int} : sJ (pf, X, m, z, K, cut) n i ls (.inl a :: st) M (.ifCond c o, x, y, q) = ((cnd c a 0 → w (pf, X, m, z, K, cut) n y ls st M) ∧ (¬ cnd c a 0 → w (pf, X, m, z, K, cut) n (i + 1) ls st M)) := (rfl)
theorem f_icmp {c : Jvm.ClassFile.Cond} {o a b : Int} : sJ (pf, X, m, z, K, cut) n i ls (.inl b :: .inl a :: st) M (.if_icmp c o, x, y, q) = ((cnd c a b → w (pf, X, m, z, K, cut) n y ls st M) ∧ (¬ cnd c a b → w (pf, X, m, z, K, cut) n (i + 1) ls st M)) := (rfl)
def tsJ (c : SC) (n : Nat) (ls : List (Option AV)) (st : List AV) (M : Mem) (d : Nat) (l : List Int) (lo a : Int) : Prop := tsw (fun t => w c n t ls st M) d l lo a
theorem f_tab {d lo hi a : Int} {offs : Array Int} : sJ (pf, X, m, z, K, cut) n i ls (.inl a :: st) M (.tableswitch d lo hi offs, x, y, q) = (tsJ (pf, X, m, z, K, cut) n ls st M y offs.toList lo a) := (rfl)
theorem f_ts0 {d : Nat} {lo a : Int} : tsJ (pf, X, m, z, K, cut) n ls st M d [] lo a = (w (pf, X, m, z, K, cut) n d ls st M) := (rfl)
theorem f_ts1 {d : Nat} {t lo a : Int} {l : List Int} : tsJ (pf, X, m, z, K, cut) n ls st M d (t :: l) lo a = ((a = lo → w (pf, X, m, z, K, cut) n t.toNat ls st M) ∧ (¬ a = lo → tsJ (pf, X, m, z, K, cut) n ls st M d l (lo + 1) a)) := (rfl)
theorem f_getI {k a : Nat} : sJ (pf, X, m, z, K, cut) n i ls (.inr (.inl (some a)) :: st) M (.getfield k, 0, y, q) = (mK M a = y ∧ w (pf, X, m, z, K, cut) n (i + 1) ls (aI (mI M a q) :: st) M) := (rfl)
theorem f_getZ {k a : Nat} : sJ (pf, X, m, z, K, cut) n i ls (.inr (.inl (some a)) :: st) M (.getfield k, 2, y, q) = (mK M a = y ∧ w (pf, X, m, z, K, cut) n (i + 1) ls (aI (mI M a q) :: st) M) := (rfl)
theorem f_getR {k a : Nat} : sJ (pf, X, m, z, K, cut) n i ls (.inr (.inl (some a)) :: st) M (.getfield k, 1, y, q) = (mK M a = y ∧ w (pf, X, m, z, K, cut) n (i + 1) ls (aR (mR M a q) :: st) M) := (rfl)
theorem f_putI {k a : Nat} {v : Int} : sJ (pf, X, m, z, K, cut) n i ls (.inl v :: .inr (.inl (some a)) :: st) M (.putfield k, x, y, q) = (mK M a = y ∧ (if x = 2 then v = 0 ∨ v = 1 else x = 0) ∧ w (pf, X, m, z, K, cut) n (i + 1) ls st (uI M a q v)) := (rfl)
theorem f_putR {k a v : Nat} : sJ (pf, X, m, z, K, cut) n i ls (.inr (.inl (some v)) :: .inr (.inl (some a)) :: st) M (.putfield k, x, y, q) = (mK M a = y ∧ x = 1 ∧ w (pf, X, m, z, K, cut) n (i + 1) ls st (uR M a q (some v))) := (rfl)
theorem f_gets {k : Nat} : sJ (pf, X, m, z, K, cut) n i ls st M (.getstatic k, x, y, q) = (w (pf, X, m, z, K, cut) n (i + 1) ls (aR (some (BIG + y)) :: st) M) := (rfl)
theorem f_iald {a : Nat} {j : Int} : sJ (pf, X, m, z, K, cut) n i ls (.inl j :: .inr (.inl (some a)) :: st) M (.iaload, x, y, q) = (((mK M a = 20 ∨ mK M a = 25) ∧ 0 ≤ j ∧ j < mN M a) ∧ w (pf, X, m, z, K, cut) n (i + 1) ls (aI (mI M a j.toNat) :: st) M) := (rfl)
theorem f_bald {a : Nat} {j : Int} : sJ (pf, X, m, z, K, cut) n i ls (.inl j :: .inr (.inl (some a)) :: st) M (.baload, x, y, q) = ((mK M a = 21 ∧ 0 ≤ j ∧ j < mN M a) ∧ w (pf, X, m, z, K, cut) n (i + 1) ls (aI (mI M a j.toNat) :: st) M) := (rfl)
theorem f_aald {a : Nat} {j : Int} : sJ (pf, X, m, z, K, cut) n i ls (.inl j :: .inr (.inl (some a)) :: st) M (.aaload, x, y, q) = (((mK M a = 31 ∨ mK M a = 32 ∨ mK M a = 37) ∧ 0 ≤ j ∧ j < mN M a) ∧ w (pf, X, m, z, K, cut) n (i + 1) ls (aR (mR M a j.toNat) :: st) M) := (rfl)
theorem f_iast {a : Nat} {j v : Int} : sJ (pf, X, m, z, K, cut) n i ls (.inl v :: .inl j :: .inr (.inl (some a)) :: st) M (.iastore, x, y, q) = ((mK M a = 20 ∧ 0 ≤ j ∧ j < mN M a) ∧ w (pf, X, m, z, K, cut) n (i + 1) ls st (uI M a j.toNat v)) := (rfl)
theorem f_bast {a : Nat} {j v : Int} : sJ (pf, X, m, z, K, cut) n i ls (.inl v :: .inl j :: .inr (.inl (some a)) :: st) M (.bastore, x, y, q) = ((mK M a = 21 ∧ 0 ≤ j ∧ j < mN M a ∧ (v = 0 ∨ v = 1)) ∧ w (pf, X, m, z, K, cut) n (i + 1) ls st (uI M a j.toNat v)) := (rfl)
theorem f_aast {a v : Nat} {j : Int} : sJ (pf, X, m, z, K, cut) n i ls (.inr (.inl (some v)) :: .inl j :: .inr (.inl (some a)) :: st) M (.aastore, x, y, q) = (((mK M v = 1 ∨ mK M v = 2 ∨ mK M v = 7) ∧ mK M a = 30 + mK M v ∧ 0 ≤ j ∧ j < mN M a) ∧ w (pf, X, m, z, K, cut) n (i + 1) ls st (uR M a j.toNat (some v))) := (rfl)
theorem f_alen {a : Nat} : sJ (pf, X, m, z, K, cut) n i ls (.inr (.inl (some a)) :: st) M (.arraylength, x, y, q) = ((mK M a = 20 ∨ mK M a = 25 ∨ mK M a = 31 ∨ mK M a = 32 ∨ mK M a = 37) ∧ w (pf, X, m, z, K, cut) n (i + 1) ls (aI (mN M a) :: st) M) := (rfl)
theorem f_new {k : Nat} : sJ (pf, X, m, z, K, cut) n i ls st M (.new k, x, y, q) = ((mZ M + 1 ≤ z.1 + z.2.2.1 ∧ mS M + q ≤ z.2.1 + z.2.2.2 ∧ mZ M < BIG) ∧ w (pf, X, m, z, K, cut) n (i + 1) ls (aR (some (mZ M)) :: st) (uN M y q)) := (rfl)
theorem f_newa {t : ArrayType} {a : Int} : sJ (pf, X, m, z, K, cut) n i ls (.inl a :: st) M (.newarray t, x, y, q) = ((0 ≤ a ∧ a ≤ 100000 ∧ mZ M + 1 ≤ z.1 + z.2.2.1 ∧ mS M + a.toNat ≤ z.2.1 + z.2.2.2 ∧ mZ M < BIG) ∧ w (pf, X, m, z, K, cut) n (i + 1) ls (aR (some (mZ M)) :: st) (uN M y a.toNat)) := (rfl)
theorem f_anew {k : Nat} {a : Int} : sJ (pf, X, m, z, K, cut) n i ls (.inl a :: st) M (.anewarray k, x, y, q) = ((0 ≤ a ∧ a ≤ 100000 ∧ mZ M + 1 ≤ z.1 + z.2.2.1 ∧ mS M + a.toNat ≤ z.2.1 + z.2.2.2 ∧ mZ M < BIG) ∧ w (pf, X, m, z, K, cut) n (i + 1) ls (aR (some (mZ M)) :: st) (uN M (30 + y) a.toNat)) := (rfl)
def cVj (c : SC) (n i : Nat) (ls : List (Option AV)) (M : Mem) (cc : Int) (y k : Nat) (acc st : List AV) : Prop := cVg c (w c n) i ls M cc y k acc st
def cSj (c : SC) (n i : Nat) (ls : List (Option AV)) (M : Mem) (y k : Nat) (acc st : List AV) : Prop := cSg c (w c n) i ls M y k acc st
theorem f_virt {k : Nat} : sJ (pf, X, m, z, K, cut) n i ls st M (.invokevirtual k, x, y, q) = (cVj (pf, X, m, z, K, cut) n i ls M x y q [] st) := (rfl)
theorem f_stat0 {k : Nat} : sJ (pf, X, m, z, K, cut) n i ls st M (.invokestatic k, 0, y, q) = (cSj (pf, X, m, z, K, cut) n i ls M y q [] st) := (rfl)
theorem f_stat1 {k : Nat} : sJ (pf, X, m, z, K, cut) n i ls st M (.invokestatic k, 1, y, q) = (cSj (pf, X, m, z, K, cut) n i ls M y q [] st) := (rfl)
theorem f_spec0 {k : Nat} : sJ (pf, X, m, z, K, cut) n i ls st M (.invokespecial k, 0, y, q) = (cIg (pf, X, m, z, K, cut) i ls M y q [] st) := (rfl)
theorem f_spec1 {k : Nat} : sJ (pf, X, m, z, K, cut) n i ls st M (.invokespecial k, 1, y, q) = (cIg (pf, X, m, z, K, cut) i ls M y q [] st) := (rfl)
theorem f_spec9 {k b : Nat} : sJ (pf, X, m, z, K, cut) n i ls (.inr (.inl (some b)) :: st) M (.invokespecial k, 9, y, 0) = (catS st ≤ 8 ∧ w (pf, X, m, z, K, cut) n (i + 1) ls st M) := (rfl)
theorem f_copy {k a b : Nat} {l dp sp : Int} : sJ (pf, X, m, z, K, cut) n i ls (.inl l :: .inl dp :: .inr (.inl (some b)) :: .inl sp :: .inr (.inl (some a)) :: st) M (.invokestatic k, 9, y, q) = ((mK M a = 20 ∧ mK M b = 20 ∧ 0 ≤ l ∧ 0 ≤ dp ∧ 0 ≤ sp ∧ sp + l ≤ mN M a ∧ dp + l ≤ mN M b ∧ catS st ≤ 8) ∧ w (pf, X, m, z, K, cut) n (i + 1) ls st (uC M a sp.toNat b dp.toNat l.toNat)) := (rfl)
theorem f_max {k : Nat} {a b : Int} : sJ (pf, X, m, z, K, cut) n i ls (.inl b :: .inl a :: st) M (.invokestatic k, 7, y, q) = (catS st ≤ 8 ∧ w (pf, X, m, z, K, cut) n (i + 1) ls (aI (if a < b then b else a) :: st) M) := (rfl)
theorem f_min {k : Nat} {a b : Int} : sJ (pf, X, m, z, K, cut) n i ls (.inl b :: .inl a :: st) M (.invokestatic k, 8, y, q) = (catS st ≤ 8 ∧ w (pf, X, m, z, K, cut) n (i + 1) ls (aI (if b < a then b else a) :: st) M) := (rfl)
theorem f_cV1 {cc : Int} {k : Nat} {acc : List AV} {v : AV} : cVj (pf, X, m, z, K, cut) n i ls M cc y (k + 1) acc (v :: st) = (cVj (pf, X, m, z, K, cut) n i ls M cc y k (v :: acc) st) := (rfl)
theorem f_cV0 {cc : Int} {b : Nat} {acc : List AV} : cVj (pf, X, m, z, K, cut) n i ls M cc y 0 acc (.inr (.inl (some b)) :: st) = (if pf.1 y = true then (mK M b = cc.toNat ∧ catS st ≤ 8) ∧ pf.2.1 y (aR (some b) :: acc) M ∧ w (pf, X, m, z, K, cut) n (i + 1) ls (pf.2.2 y (aR (some b) :: acc) M :: st) M else (mK M b = cc.toNat ∧ catS st ≤ 8) ∧ Ev X y (0, 0) (aR (some b) :: acc) M (kG X m z K i ls st)) := (rfl)
theorem f_cS1 {k : Nat} {acc : List AV} {v : AV} : cSj (pf, X, m, z, K, cut) n i ls M y (k + 1) acc (v :: st) = (cSj (pf, X, m, z, K, cut) n i ls M y k (v :: acc) st) := (rfl)
theorem f_cS0 {acc : List AV} : cSj (pf, X, m, z, K, cut) n i ls M y 0 acc st = (if pf.1 y = true then catS st ≤ 8 ∧ pf.2.1 y acc M ∧ w (pf, X, m, z, K, cut) n (i + 1) ls (pf.2.2 y acc M :: st) M else catS st ≤ 8 ∧ Ev X y (0, 0) acc M (kG X m z K i ls st)) := (rfl)
theorem f_iret {a : Int} : sJ (pf, X, m, z, K, cut) n i ls [.inl a] M (.ireturn, x, y, q) = ((if x = 6 then True else z.2.2 = (0, 0) ∧ (x = 1 → a = 0 ∨ a = 1)) ∧ K (some (aI a)) M) := (rfl)
theorem f_lret {a : Int64} : sJ (pf, X, m, z, K, cut) n i ls [.inr (.inr a)] M (.lreturn, x, y, q) = (z.2.2 = (0, 0) ∧ K (some (aL a)) M) := (rfl)
theorem f_vret : sJ (pf, X, m, z, K, cut) n i ls [] M (.return_, x, y, q) = (if x = 5 then mZ M = z.1 + z.2.2.1 ∧ mS M ≤ z.2.1 + z.2.2.2 ∧ K none (uS M (z.2.1 + z.2.2.2)) else z.2.2 = (0, 0) ∧ K none M) := (rfl)
theorem f_kG {r : Option AV} : kG X m z K i ls st r M = (G X m z (i + 1) ls (psh r st) M K) := (rfl)
end FRONT
