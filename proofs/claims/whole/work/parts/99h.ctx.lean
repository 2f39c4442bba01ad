/-! what the Statement gives of the start: the context -/
theorem va_T_cg {ty : FieldType} {t t' N N' : Nat} {f f' : Nat → Value} {A : Nat → Prop} {U : State} {H : Heap} (h : va_T ty t N f A U H) (ht : t' = t) (hN : N' = N) (hf : ∀ j, f' j = f j) : va_T ty t' N' f' A U H := by
  subst ht
  subst hN
  have e : f' = f := funext hf
  rw [e]
  exact h
set_option maxRecDepth 100000 in
set_option maxHeartbeats 4000000 in
theorem ctx_at {s : State} {b L : Nat} {sc : Nat → Int32} (l : Launch) (hL : L ≤ 3072) (hts : ∀ w ∈ lw_tbl, w.before #[Value.ref b] s = true) (hX : va_X b L sc s s.heap) (hbl : b < s.heap.size) (hgv : (Jvm.Cond.and given_1 narrow_1).before #[Value.ref b] s = true) : ∃ X : CX, X.1 = l ∧ X.2.1 = s ∧ X.2.2.2.2.2 = Mz L (fun k => (sc k).toInt) ∧ X.2.2.2.2.1 (BIG + 3) = b ∧ CtxOK X ∧ SV X := by
  have big : 900000 < BIG := Nat.le_of_ble_eq_true rfl
  have hs := flat_of_before _ hgv
  have hA : ∀ a : Nat, a < s.heap.size → ¬ (fun q : Nat => s.heap.size ≤ q) a := fun a h => Nat.not_le.mpr h
  have hgl : ∀ w ∈ gl, w.before #[Value.ref b] s = true := fun w hw => hts w (List.mem_filter.mp hw).1
  have hcls : ∀ c : Nat, ∃ p : ClassId × (Nat → Nat), c < 9 → u_Kn s (kR c) (kT c) (kN c) p.1 p.2 := by
    obtain ⟨cC0, iS0, -⟩ := u_known (C := kR 0) (T := kT 0) (N := kN 0) (n := kN 0) hgl (hin (by omega)) (hgl _ (ins_at (cc := 0) (by omega)).1)
    intro c
    by_cases hc : c < 9
    · obtain ⟨cC, iS, h⟩ := u_known (C := kR c) (T := kT c) (N := kN c) (n := kN c) hgl (hin hc) (hgl _ (ins_at hc).1)
      exact ⟨(cC, iS), fun _ => h⟩
    · exact ⟨(cC0, iS0), fun h => absurd h hc⟩
  obtain ⟨pf9, hpf⟩ := Classical.axiomOfChoice hcls
  obtain ⟨c20, k20, m20, a1, a2, a3⟩ := Cond.arrayClass_spec (type := .int) (hts (.arrayClass .int) (List.mem_of_getElem? (i := 166) (by decide +kernel)))
  obtain ⟨c21, k21, m21, b1, b2, b3⟩ := Cond.arrayClass_spec (type := .boolean) (hts (.arrayClass .boolean) (List.mem_of_getElem? (i := 857) (by decide +kernel)))
  obtain ⟨m31, c31, k31, d1, -, d3, d4, d5⟩ := Cond.arrayOver_spec (hts _ (over_b 1 (Or.inl rfl)))
  obtain ⟨m32, c32, k32, f1, -, f3, f4, f5⟩ := Cond.arrayOver_spec (hts _ (over_b 2 (Or.inr (Or.inl rfl))))
  obtain ⟨m37, c37, k37, g1, -, g3, g4, g5⟩ := Cond.arrayOver_spec (hts _ (over_b 7 (Or.inr (Or.inr rfl))))
  obtain ⟨t0, e0, T0⟩ := va_Tof (tm := .static "JanetCones" "LETTER_SHIFTS" "[I") (ty := .int) (N := 3) (f := fun j => .int (Int32.ofInt (([10, 5, 0] : List Int).getD j 0))) (A := fun q => s.heap.size ≤ q) (args := #[Value.ref b]) (s := s) (by decide) (hs _ (by decide +kernel)) (va_eqt (hs _ (by decide +kernel))) (fun j hj => by
    rcases (show j = 0 ∨ j = 1 ∨ j = 2 by omega) with rfl | rfl | rfl <;> exact va_eqt (hs _ (by decide +kernel))) hA
  obtain ⟨t1, e1, T1⟩ := va_Tof (tm := .static "JanetCones" "LETTER_PRODUCTS" "[I") (ty := .int) (N := 3) (f := fun j => .int (Int32.ofInt (([1024, 32, 1] : List Int).getD j 0))) (A := fun q => s.heap.size ≤ q) (args := #[Value.ref b]) (s := s) (by decide) (hs _ (by decide +kernel)) (va_eqt (hs _ (by decide +kernel))) (fun j hj => by
    rcases (show j = 0 ∨ j = 1 ∨ j = 2 by omega) with rfl | rfl | rfl <;> exact va_eqt (hs _ (by decide +kernel))) hA
  obtain ⟨t2, e2, T2⟩ := va_Tof (tm := .static "JanetCones" "DIGEST_PRODUCTS" "[I") (ty := .int) (N := 5) (f := fun j => .int (Int32.ofInt (([0, 37, 1024, 2113, 5218] : List Int).getD j 0))) (A := fun q => s.heap.size ≤ q) (args := #[Value.ref b]) (s := s) (by decide) (hs _ (by decide +kernel)) (va_eqt (hs _ (by decide +kernel))) (fun j hj => by
    rcases (show j = 0 ∨ j = 1 ∨ j = 2 ∨ j = 3 ∨ j = 4 by omega) with rfl | rfl | rfl | rfl | rfl <;> exact va_eqt (hs _ (by decide +kernel))) hA
  have ini : (Cond.initialized "JanetCones").before #[Value.ref b] s = true := hts _ (List.mem_of_getElem? (i := 83) (by decide +kernel))
  have z0 := va_Zref (hts (.laysStatic "JanetCones" "LETTER_SHIFTS" "[I") (List.mem_of_getElem? (i := 445) (by decide +kernel))) ini e0 hA
  have z1 := va_Zref (hts (.laysStatic "JanetCones" "LETTER_PRODUCTS" "[I") (List.mem_of_getElem? (i := 447) (by decide +kernel))) ini e1 hA
  have z2 := va_Zref (hts (.laysStatic "JanetCones" "DIGEST_PRODUCTS" "[I") (List.mem_of_getElem? (i := 773) (by decide +kernel))) ini e2 hA
  have zc := va_Zof (v := .int 1) (hts (.laysStatic "java/lang/String" "COMPACT_STRINGS" "Z") (List.mem_of_getElem? (i := 373) (by decide +kernel))) (hts (.initialized "java/lang/String") (List.mem_of_getElem? (i := 92) (by decide +kernel))) (va_eqt (hs _ (by decide +kernel))) hA
  have zf := va_Zqof (hts (.laysStatic "jdk/internal/util/Preconditions" "SIOOBE_FORMATTER" "Ljava/util/function/BiFunction;") (List.mem_of_getElem? (i := 389) (by decide +kernel))) (hts (.initialized "jdk/internal/util/Preconditions") (List.mem_of_getElem? (i := 94) (by decide +kernel))) (hs _ (by decide +kernel)) hA
  obtain ⟨tF, hF⟩ : ∃ tF : Nat, va_Z "jdk/internal/util/Preconditions" "SIOOBE_FORMATTER" "Ljava/util/function/BiFunction;" .null (fun q : Nat => s.heap.size ≤ q) s s.heap ∨ va_Z "jdk/internal/util/Preconditions" "SIOOBE_FORMATTER" "Ljava/util/function/BiFunction;" (.ref tF) (fun q : Nat => s.heap.size ≤ q) s s.heap := by
    rcases zf with h | ⟨t, h⟩
    · exact ⟨0, Or.inl h⟩
    · exact ⟨t, Or.inr h⟩
  obtain ⟨adK, adV, hSt, hSv⟩ := vk_Sof (N := 3) (tm := fun i => .string "JanetCones$Text" (([22, 28, 30] : List Nat).getD i 0)) (len := [3, 3, 3]) (byt := [[108, 101, 120], [100, 101, 103], [114, 101, 118]]) (A := fun q => s.heap.size ≤ q) (args := #[Value.ref b]) (s := s)
    (fun i hi => by rcases (show i = 0 ∨ i = 1 ∨ i = 2 by omega) with rfl | rfl | rfl <;> decide)
    (fun i hi => by rcases (show i = 0 ∨ i = 1 ∨ i = 2 by omega) with rfl | rfl | rfl <;> exact hs _ (by decide +kernel))
    (fun i hi => by rcases (show i = 0 ∨ i = 1 ∨ i = 2 by omega) with rfl | rfl | rfl <;> exact hs _ (by decide +kernel))
    (fun i hi => by rcases (show i = 0 ∨ i = 1 ∨ i = 2 by omega) with rfl | rfl | rfl <;> exact hs _ (by decide +kernel))
    (fun i hi => by rcases (show i = 0 ∨ i = 1 ∨ i = 2 by omega) with rfl | rfl | rfl <;> exact hs _ (by decide +kernel))
    (fun i hi j hj => by
      have hj3 : j < 3 := by rcases (show i = 0 ∨ i = 1 ∨ i = 2 by omega) with rfl | rfl | rfl <;> exact hj
      rcases (show i = 0 ∨ i = 1 ∨ i = 2 by omega) with rfl | rfl | rfl <;> rcases (show j = 0 ∨ j = 1 ∨ j = 2 by omega) with rfl | rfl | rfl <;> exact hs _ (by decide +kernel))
    (fun i j hi hj hij => by
      rcases (show (i = 0 ∧ j = 1) ∨ (i = 0 ∧ j = 2) ∨ (i = 1 ∧ j = 2) ∨ (i = 1 ∧ j = 0) ∨ (i = 2 ∧ j = 0) ∨ (i = 2 ∧ j = 1) by omega) with ⟨rfl, rfl⟩ | ⟨rfl, rfl⟩ | ⟨rfl, rfl⟩ | ⟨rfl, rfl⟩ | ⟨rfl, rfl⟩ | ⟨rfl, rfl⟩
      · exact Or.inl (hs _ (by decide +kernel))
      · exact Or.inl (hs _ (by decide +kernel))
      · exact Or.inl (hs _ (by decide +kernel))
      · exact Or.inr (hs _ (by decide +kernel))
      · exact Or.inr (hs _ (by decide +kernel))
      · exact Or.inr (hs _ (by decide +kernel))) hA
  obtain ⟨xcF, hxc⟩ : ∃ g : Nat → ClassId, g 20 = c20 ∧ g 21 = c21 ∧ g 31 = c31 ∧ g 32 = c32 ∧ g 37 = c37 := ⟨fun k => if k = 20 then c20 else if k = 21 then c21 else if k = 31 then c31 else if k = 32 then c32 else c37, rfl, rfl, rfl, rfl, rfl⟩
  obtain ⟨xaF, x0, x1, x2, x3, xK, xV, xF⟩ : ∃ g : Nat → Nat, g BIG = t0 ∧ g (BIG + 1) = t1 ∧ g (BIG + 2) = t2 ∧ g (BIG + 3) = b ∧ (∀ i, i < 3 → g (BIG + 4 + i) = adK i) ∧ (∀ i, i < 3 → g (BIG + 7 + i) = adV i) ∧ g (BIG + 10) = tF := by
    refine ⟨fun a => if a = BIG then t0 else if a = BIG + 1 then t1 else if a = BIG + 2 then t2 else if a = BIG + 3 then b else if a < BIG + 7 then adK (a - (BIG + 4)) else if a < BIG + 10 then adV (a - (BIG + 7)) else tF, ?_, ?_, ?_, ?_, fun i hi => ?_, fun i hi => ?_, ?_⟩
    · exact if_pos rfl
    · show (if BIG + 1 = BIG then t0 else _) = t1
      rw [if_neg (by omega), if_pos rfl]
    · show (if BIG + 2 = BIG then t0 else _) = t2
      rw [if_neg (by omega), if_neg (by omega), if_pos rfl]
    · show (if BIG + 3 = BIG then t0 else _) = b
      rw [if_neg (by omega), if_neg (by omega), if_neg (by omega), if_pos rfl]
    · show (if BIG + 4 + i = BIG then t0 else _) = adK i
      rw [if_neg (by omega), if_neg (by omega), if_neg (by omega), if_neg (by omega), if_pos (by omega), show BIG + 4 + i - (BIG + 4) = i by omega]
    · show (if BIG + 7 + i = BIG then t0 else _) = adV i
      rw [if_neg (by omega), if_neg (by omega), if_neg (by omega), if_neg (by omega), if_neg (by omega), if_pos (by omega), show BIG + 7 + i - (BIG + 7) = i by omega]
    · show (if BIG + 10 = BIG then t0 else _) = tF
      rw [if_neg (by omega), if_neg (by omega), if_neg (by omega), if_neg (by omega), if_neg (by omega), if_neg (by omega)]
  have hSS : vk_S 3 [3, 3, 3] [[108, 101, 120], [100, 101, 103], [114, 101, 118]] (fun i => xaF (BIG + 4 + i)) (fun i => xaF (BIG + 7 + i)) (fun q : Nat => s.heap.size ≤ q) s s.heap := by
    refine ⟨fun i hi => ?_, fun i j hi hj e => ?_⟩
    · have h9 := hSt.1 i hi
      rw [← xK i hi, ← xV i hi] at h9
      exact h9
    · have e : xaF (BIG + 4 + i) = xaF (BIG + 4 + j) := e
      rw [xK i hi, xK j hj] at e
      exact hSt.2 i j hi hj e
  refine ⟨(l, s, (fun c => (pf9 c).1, fun c => (pf9 c).2), xcF, xaF, Mz L (fun k => (sc k).toInt)), rfl, rfl, rfl, x3, ⟨⟨_, hts⟩, ⟨fun c q hq => ?_, fun k q hk => ?_⟩, fun a ha => ?_, fun j hj => ?_, fun i hi => ?_, _, hSS⟩, hSS, zc, ?_⟩
  · have hc : c < 9 := (List.getElem?_eq_some_iff.mp hq).1
    rw [jcl_at hc] at hq
    cases hq
    exact hpf c hc
  · obtain ⟨y0, y1, y2, y3, y4⟩ := hxc
    match k, hk with
    | 0, hk =>
      cases hk
      show ArrOfT s (xcF 20) .int ∧ va_RA s (xcF 20) .int
      rw [y0]
      exact ⟨fun n z => ⟨(fun k h => by cases h), k20, a2, m20, a3⟩, a1⟩
    | 1, hk =>
      cases hk
      show ArrOfT s (xcF 21) .boolean ∧ va_RA s (xcF 21) .boolean
      rw [y1]
      exact ⟨fun n z => ⟨(fun k h => by cases h), k21, b2, m21, b3⟩, b1⟩
    | 2, hk =>
      cases hk
      show ArrOfT s (xcF 31) (.object (kR 1)) ∧ va_RA s (xcF 31) (.object (kR 1))
      rw [y2]
      exact ⟨fun n z => ⟨(fun k h => by cases h), k31, d3, m31, d4⟩, k31, m31, d3, d4, d1, d5⟩
    | 3, hk =>
      cases hk
      show ArrOfT s (xcF 32) (.object (kR 2)) ∧ va_RA s (xcF 32) (.object (kR 2))
      rw [y3]
      exact ⟨fun n z => ⟨(fun k h => by cases h), k32, f3, m32, f4⟩, k32, m32, f3, f4, f1, f5⟩
    | 4, hk =>
      cases hk
      show ArrOfT s (xcF 37) (.object (kR 7)) ∧ va_RA s (xcF 37) (.object (kR 7))
      rw [y4]
      exact ⟨fun n z => ⟨(fun k h => by cases h), k37, g3, m37, g4⟩, k37, m37, g3, g4, g1, g5⟩
    | k + 5, hk => cases hk
  · show mK (Mz L (fun k => (sc k).toInt)) a = 99 ∨ (mK (Mz L (fun k => (sc k).toInt)) a = 25 ∧ va_T .int (xaF a) (mN (Mz L (fun k => (sc k).toInt)) a) (fun j => .int (Int32.ofInt (mI (Mz L (fun k => (sc k).toInt)) a j))) (fun q : Nat => s.heap.size ≤ q) s s.heap)
    by_cases h4 : a < BIG + 4
    · right
      refine ⟨by rw [Mz_k, if_pos ⟨ha, h4⟩], ?_⟩
      rcases (show a = BIG ∨ a = BIG + 1 ∨ a = BIG + 2 ∨ a = BIG + 3 by omega) with rfl | rfl | rfl | rfl
      · exact va_T_cg T0 x0 (by rw [Mz_n, if_neg (by omega), if_pos (by omega), Nat.sub_self]; rfl) (fun j => by rw [Mz_i, if_pos rfl])
      · exact va_T_cg T1 x1 (by rw [Mz_n, if_neg (by omega), if_pos (by omega), show BIG + 1 - BIG = 1 by omega]; rfl) (fun j => by rw [Mz_i, if_neg (by omega), if_pos rfl])
      · exact va_T_cg T2 x2 (by rw [Mz_n, if_neg (by omega), if_pos (by omega), show BIG + 2 - BIG = 2 by omega]; rfl) (fun j => by rw [Mz_i, if_neg (by omega), if_neg (by omega), if_pos rfl])
      · have T3 : va_T .int b L (fun j => .int (sc j)) (fun q : Nat => s.heap.size ≤ q) s s.heap := by
          obtain ⟨scr, q1, q2, q3, q4, q5⟩ := hX
          exact ⟨scr, q1, q2, q3, by omega, (by rw [q4]), q5, Nat.not_le.mpr hbl⟩
        exact va_T_cg T3 x3 (by rw [Mz_n, if_neg (by omega), if_pos (by omega), show BIG + 3 - BIG = 3 by omega]; rfl) (fun j => by rw [Mz_i, if_neg (by omega), if_neg (by omega), if_neg (by omega), if_pos rfl, Int32.ofInt_toInt])
    · left
      rw [Mz_k, if_neg (by omega)]
  · show va_Z "JanetCones" (sN j) "[I" (.ref (xaF (BIG + j))) (fun q : Nat => s.heap.size ≤ q) s s.heap
    rcases (show j = 0 ∨ j = 1 ∨ j = 2 by omega) with rfl | rfl | rfl
    · rw [show BIG + 0 = BIG from rfl, x0]; exact z0
    · rw [x1]; exact z1
    · rw [x2]; exact z2
  · show vk_R "JanetCones$Text" (([22, 28, 30] : List Nat).getD i 0) (["lex", "deg", "rev"].getD i "") (xaF (BIG + 4 + i)) s
    rw [xK i hi]
    have h9 := hSv i hi
    rcases (show i = 0 ∨ i = 1 ∨ i = 2 by omega) with rfl | rfl | rfl
    · exact vk_R.of (hts (.stringRef "JanetCones$Text" 22 "lex") (List.mem_of_getElem? (i := 359) (by decide +kernel))) h9
    · exact vk_R.of (hts (.stringRef "JanetCones$Text" 28 "deg") (List.mem_of_getElem? (i := 412) (by decide +kernel))) h9
    · exact vk_R.of (hts (.stringRef "JanetCones$Text" 30 "rev") (List.mem_of_getElem? (i := 413) (by decide +kernel))) h9
  · rcases hF with h | h
    · exact ⟨none, h⟩
    · refine ⟨some (BIG + 10), ?_⟩
      rw [cv_big (by omega)]
      show va_Z "jdk/internal/util/Preconditions" "SIOOBE_FORMATTER" "Ljava/util/function/BiFunction;" (.ref (xaF (BIG + 10))) (fun q : Nat => s.heap.size ≤ q) s s.heap
      rw [xF]
      exact h
