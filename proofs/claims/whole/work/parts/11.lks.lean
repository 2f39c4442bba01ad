theorem lk_ch {m a k : Nat} (h : ((List.range k).map (a + ·)).all (lkB m) = true) {i : Nat} (h1 : a ≤ i) (h2 : i < a + k) : lkB m i = true := List.all_eq_true.mp h i (List.mem_map.mpr ⟨i - a, List.mem_range.mpr (by omega), by show a + (i - a) = i; omega⟩)
set_option maxRecDepth 100000 in
theorem LK_0 : LK 0 := fun i => by
  by_cases h0 : i < 60
  · exact Or.inr (lk_ch lk_0_0 (by omega) (by omega))
  by_cases h60 : i < 120
  · exact Or.inr (lk_ch lk_0_60 (by omega) (by omega))
  by_cases h120 : i < 180
  · exact Or.inr (lk_ch lk_0_120 (by omega) (by omega))
  by_cases h180 : i < 240
  · exact Or.inr (lk_ch lk_0_180 (by omega) (by omega))
  by_cases h240 : i < 300
  · exact Or.inr (lk_ch lk_0_240 (by omega) (by omega))
  by_cases h300 : i < 360
  · exact Or.inr (lk_ch lk_0_300 (by omega) (by omega))
  by_cases h360 : i < 420
  · exact Or.inr (lk_ch lk_0_360 (by omega) (by omega))
  by_cases h420 : i < 480
  · exact Or.inr (lk_ch lk_0_420 (by omega) (by omega))
  by_cases h480 : i < 540
  · exact Or.inr (lk_ch lk_0_480 (by omega) (by omega))
  by_cases h540 : i < 600
  · exact Or.inr (lk_ch lk_0_540 (by omega) (by omega))
  by_cases h600 : i < 660
  · exact Or.inr (lk_ch lk_0_600 (by omega) (by omega))
  by_cases h660 : i < 673
  · exact Or.inr (lk_ch lk_0_660 (by omega) (by omega))
  · exact Or.inl (by have h : 673 ≤ i := by omega
                     revert h; intro h; exact (by obtain ⟨k, rfl⟩ : ∃ k, i = k + 673 := ⟨i - 673, by omega⟩; rfl))
set_option maxRecDepth 100000 in
theorem LK_1 : LK 1 := LK_of lk_1 (fun i h => by obtain ⟨k, rfl⟩ : ∃ k, i = k + 106 := ⟨i - 106, by omega⟩; rfl)
set_option maxRecDepth 100000 in
theorem LK_2 : LK 2 := LK_of lk_2 (fun i h => by obtain ⟨k, rfl⟩ : ∃ k, i = k + 3 := ⟨i - 3, by omega⟩; rfl)
set_option maxRecDepth 100000 in
theorem LK_3 : LK 3 := LK_of lk_3 (fun i h => by obtain ⟨k, rfl⟩ : ∃ k, i = k + 11 := ⟨i - 11, by omega⟩; rfl)
set_option maxRecDepth 100000 in
theorem LK_4 : LK 4 := LK_of lk_4 (fun i h => by obtain ⟨k, rfl⟩ : ∃ k, i = k + 7 := ⟨i - 7, by omega⟩; rfl)
set_option maxRecDepth 100000 in
theorem LK_5 : LK 5 := LK_of lk_5 (fun i h => by obtain ⟨k, rfl⟩ : ∃ k, i = k + 10 := ⟨i - 10, by omega⟩; rfl)
set_option maxRecDepth 100000 in
theorem LK_6 : LK 6 := LK_of lk_6 (fun i h => by obtain ⟨k, rfl⟩ : ∃ k, i = k + 10 := ⟨i - 10, by omega⟩; rfl)
set_option maxRecDepth 100000 in
theorem LK_7 : LK 7 := LK_of lk_7 (fun i h => by obtain ⟨k, rfl⟩ : ∃ k, i = k + 21 := ⟨i - 21, by omega⟩; rfl)
set_option maxRecDepth 100000 in
theorem LK_8 : LK 8 := LK_of lk_8 (fun i h => by obtain ⟨k, rfl⟩ : ∃ k, i = k + 25 := ⟨i - 25, by omega⟩; rfl)
set_option maxRecDepth 100000 in
theorem LK_9 : LK 9 := LK_of lk_9 (fun i h => by obtain ⟨k, rfl⟩ : ∃ k, i = k + 28 := ⟨i - 28, by omega⟩; rfl)
set_option maxRecDepth 100000 in
theorem LK_10 : LK 10 := LK_of lk_10 (fun i h => by obtain ⟨k, rfl⟩ : ∃ k, i = k + 9 := ⟨i - 9, by omega⟩; rfl)
set_option maxRecDepth 100000 in
theorem LK_11 : LK 11 := LK_of lk_11 (fun i h => by obtain ⟨k, rfl⟩ : ∃ k, i = k + 22 := ⟨i - 22, by omega⟩; rfl)
set_option maxRecDepth 100000 in
theorem LK_12 : LK 12 := LK_of lk_12 (fun i h => by obtain ⟨k, rfl⟩ : ∃ k, i = k + 14 := ⟨i - 14, by omega⟩; rfl)
set_option maxRecDepth 100000 in
theorem LK_13 : LK 13 := LK_of lk_13 (fun i h => by obtain ⟨k, rfl⟩ : ∃ k, i = k + 23 := ⟨i - 23, by omega⟩; rfl)
set_option maxRecDepth 100000 in
theorem LK_14 : LK 14 := LK_of lk_14 (fun i h => by obtain ⟨k, rfl⟩ : ∃ k, i = k + 32 := ⟨i - 32, by omega⟩; rfl)
set_option maxRecDepth 100000 in
theorem LK_15 : LK 15 := LK_of lk_15 (fun i h => by obtain ⟨k, rfl⟩ : ∃ k, i = k + 15 := ⟨i - 15, by omega⟩; rfl)
set_option maxRecDepth 100000 in
theorem LK_16 : LK 16 := LK_of lk_16 (fun i h => by obtain ⟨k, rfl⟩ : ∃ k, i = k + 99 := ⟨i - 99, by omega⟩; rfl)
set_option maxRecDepth 100000 in
theorem LK_27 : LK 27 := LK_of lk_27 (fun i h => by obtain ⟨k, rfl⟩ : ∃ k, i = k + 81 := ⟨i - 81, by omega⟩; rfl)
set_option maxRecDepth 100000 in
theorem LK_28 : LK 28 := LK_of lk_28 (fun i h => by obtain ⟨k, rfl⟩ : ∃ k, i = k + 10 := ⟨i - 10, by omega⟩; rfl)
set_option maxRecDepth 100000 in
theorem LK_29 : LK 29 := LK_of lk_29 (fun i h => by obtain ⟨k, rfl⟩ : ∃ k, i = k + 36 := ⟨i - 36, by omega⟩; rfl)
set_option maxRecDepth 100000 in
theorem LK_30 : LK 30 := LK_of lk_30 (fun i h => by obtain ⟨k, rfl⟩ : ∃ k, i = k + 17 := ⟨i - 17, by omega⟩; rfl)
set_option maxRecDepth 100000 in
theorem LK_31 : LK 31 := LK_of lk_31 (fun i h => by obtain ⟨k, rfl⟩ : ∃ k, i = k + 33 := ⟨i - 33, by omega⟩; rfl)
set_option maxRecDepth 100000 in
theorem LK_32 : LK 32 := LK_of lk_32 (fun i h => by obtain ⟨k, rfl⟩ : ∃ k, i = k + 24 := ⟨i - 24, by omega⟩; rfl)
set_option maxRecDepth 100000 in
theorem LK_33 : LK 33 := LK_of lk_33 (fun i h => by obtain ⟨k, rfl⟩ : ∃ k, i = k + 8 := ⟨i - 8, by omega⟩; rfl)
set_option maxRecDepth 100000 in
theorem LK_34 : LK 34 := LK_of lk_34 (fun i h => by obtain ⟨k, rfl⟩ : ∃ k, i = k + 10 := ⟨i - 10, by omega⟩; rfl)
set_option maxRecDepth 100000 in
theorem LK_35 : LK 35 := LK_of lk_35 (fun i h => by obtain ⟨k, rfl⟩ : ∃ k, i = k + 11 := ⟨i - 11, by omega⟩; rfl)
set_option maxRecDepth 100000 in
theorem LK_36 : LK 36 := LK_of lk_36 (fun i h => by obtain ⟨k, rfl⟩ : ∃ k, i = k + 69 := ⟨i - 69, by omega⟩; rfl)
set_option maxRecDepth 100000 in
theorem LK_37 : LK 37 := LK_of lk_37 (fun i h => by obtain ⟨k, rfl⟩ : ∃ k, i = k + 32 := ⟨i - 32, by omega⟩; rfl)
set_option maxRecDepth 100000 in
theorem LK_38 : LK 38 := LK_of lk_38 (fun i h => by obtain ⟨k, rfl⟩ : ∃ k, i = k + 14 := ⟨i - 14, by omega⟩; rfl)
set_option maxRecDepth 100000 in
theorem LK_39 : LK 39 := LK_of lk_39 (fun i h => by obtain ⟨k, rfl⟩ : ∃ k, i = k + 33 := ⟨i - 33, by omega⟩; rfl)
set_option maxRecDepth 100000 in
theorem LK_40 : LK 40 := LK_of lk_40 (fun i h => by obtain ⟨k, rfl⟩ : ∃ k, i = k + 33 := ⟨i - 33, by omega⟩; rfl)
set_option maxRecDepth 100000 in
theorem LK_41 : LK 41 := LK_of lk_41 (fun i h => by obtain ⟨k, rfl⟩ : ∃ k, i = k + 81 := ⟨i - 81, by omega⟩; rfl)
set_option maxRecDepth 100000 in
theorem LK_42 : LK 42 := LK_of lk_42 (fun i h => by obtain ⟨k, rfl⟩ : ∃ k, i = k + 65 := ⟨i - 65, by omega⟩; rfl)
set_option maxRecDepth 100000 in
theorem LK_43 : LK 43 := LK_of lk_43 (fun i h => by obtain ⟨k, rfl⟩ : ∃ k, i = k + 42 := ⟨i - 42, by omega⟩; rfl)
set_option maxRecDepth 100000 in
theorem LK_44 : LK 44 := LK_of lk_44 (fun i h => by obtain ⟨k, rfl⟩ : ∃ k, i = k + 23 := ⟨i - 23, by omega⟩; rfl)
set_option maxRecDepth 100000 in
theorem LK_45 : LK 45 := LK_of lk_45 (fun i h => by obtain ⟨k, rfl⟩ : ∃ k, i = k + 29 := ⟨i - 29, by omega⟩; rfl)
set_option maxRecDepth 100000 in
theorem LK_46 : LK 46 := LK_of lk_46 (fun i h => by obtain ⟨k, rfl⟩ : ∃ k, i = k + 41 := ⟨i - 41, by omega⟩; rfl)
set_option maxRecDepth 100000 in
theorem LK_47 : LK 47 := LK_of lk_47 (fun i h => by obtain ⟨k, rfl⟩ : ∃ k, i = k + 8 := ⟨i - 8, by omega⟩; rfl)
set_option maxRecDepth 100000 in
theorem LK_48 : LK 48 := LK_of lk_48 (fun i h => by obtain ⟨k, rfl⟩ : ∃ k, i = k + 42 := ⟨i - 42, by omega⟩; rfl)
set_option maxRecDepth 100000 in
theorem LK_49 : LK 49 := LK_of lk_49 (fun i h => by obtain ⟨k, rfl⟩ : ∃ k, i = k + 39 := ⟨i - 39, by omega⟩; rfl)
set_option maxRecDepth 100000 in
theorem LK_50 : LK 50 := LK_of lk_50 (fun i h => by obtain ⟨k, rfl⟩ : ∃ k, i = k + 21 := ⟨i - 21, by omega⟩; rfl)
set_option maxRecDepth 100000 in
theorem LK_51 : LK 51 := LK_of lk_51 (fun i h => by obtain ⟨k, rfl⟩ : ∃ k, i = k + 33 := ⟨i - 33, by omega⟩; rfl)
set_option maxRecDepth 100000 in
theorem LK_52 : LK 52 := fun i => by
  by_cases h0 : i < 60
  · exact Or.inr (lk_ch lk_52_0 (by omega) (by omega))
  by_cases h60 : i < 120
  · exact Or.inr (lk_ch lk_52_60 (by omega) (by omega))
  by_cases h120 : i < 150
  · exact Or.inr (lk_ch lk_52_120 (by omega) (by omega))
  · exact Or.inl (by have h : 150 ≤ i := by omega
                     revert h; intro h; exact (by obtain ⟨k, rfl⟩ : ∃ k, i = k + 150 := ⟨i - 150, by omega⟩; rfl))
set_option maxRecDepth 100000 in
theorem LK_53 : LK 53 := LK_of lk_53 (fun i h => by obtain ⟨k, rfl⟩ : ∃ k, i = k + 31 := ⟨i - 31, by omega⟩; rfl)
set_option maxRecDepth 100000 in
theorem LK_54 : LK 54 := LK_of lk_54 (fun i h => by obtain ⟨k, rfl⟩ : ∃ k, i = k + 69 := ⟨i - 69, by omega⟩; rfl)
set_option maxRecDepth 100000 in
theorem LK_55 : LK 55 := LK_of lk_55 (fun i h => by obtain ⟨k, rfl⟩ : ∃ k, i = k + 18 := ⟨i - 18, by omega⟩; rfl)
set_option maxRecDepth 100000 in
theorem LK_56 : LK 56 := LK_of lk_56 (fun i h => by obtain ⟨k, rfl⟩ : ∃ k, i = k + 46 := ⟨i - 46, by omega⟩; rfl)
set_option maxRecDepth 100000 in
theorem LK_57 : LK 57 := LK_of lk_57 (fun i h => by obtain ⟨k, rfl⟩ : ∃ k, i = k + 16 := ⟨i - 16, by omega⟩; rfl)
set_option maxRecDepth 100000 in
theorem LK_58 : LK 58 := LK_of lk_58 (fun i h => by obtain ⟨k, rfl⟩ : ∃ k, i = k + 80 := ⟨i - 80, by omega⟩; rfl)
set_option maxRecDepth 100000 in
theorem LK_59 : LK 59 := LK_of lk_59 (fun i h => by obtain ⟨k, rfl⟩ : ∃ k, i = k + 17 := ⟨i - 17, by omega⟩; rfl)
set_option maxRecDepth 100000 in
theorem LK_60 : LK 60 := LK_of lk_60 (fun i h => by obtain ⟨k, rfl⟩ : ∃ k, i = k + 6 := ⟨i - 6, by omega⟩; rfl)
set_option maxRecDepth 100000 in
theorem LK_61 : LK 61 := LK_of lk_61 (fun i h => by obtain ⟨k, rfl⟩ : ∃ k, i = k + 26 := ⟨i - 26, by omega⟩; rfl)
set_option maxRecDepth 100000 in
theorem LK_62 : LK 62 := LK_of lk_62 (fun i h => by obtain ⟨k, rfl⟩ : ∃ k, i = k + 27 := ⟨i - 27, by omega⟩; rfl)
set_option maxRecDepth 100000 in
theorem LK_63 : LK 63 := LK_of lk_63 (fun i h => by obtain ⟨k, rfl⟩ : ∃ k, i = k + 18 := ⟨i - 18, by omega⟩; rfl)
set_option maxRecDepth 100000 in
theorem LK_64 : LK 64 := LK_of lk_64 (fun i h => by obtain ⟨k, rfl⟩ : ∃ k, i = k + 14 := ⟨i - 14, by omega⟩; rfl)
set_option maxRecDepth 100000 in
theorem LK_65 : LK 65 := LK_of lk_65 (fun i h => by obtain ⟨k, rfl⟩ : ∃ k, i = k + 15 := ⟨i - 15, by omega⟩; rfl)
set_option maxRecDepth 100000 in
theorem LK_66 : LK 66 := LK_of lk_66 (fun i h => by obtain ⟨k, rfl⟩ : ∃ k, i = k + 35 := ⟨i - 35, by omega⟩; rfl)
set_option maxRecDepth 100000 in
theorem LK_67 : LK 67 := LK_of lk_67 (fun i h => by obtain ⟨k, rfl⟩ : ∃ k, i = k + 25 := ⟨i - 25, by omega⟩; rfl)
set_option maxRecDepth 100000 in
theorem LK_68 : LK 68 := LK_of lk_68 (fun i h => by obtain ⟨k, rfl⟩ : ∃ k, i = k + 25 := ⟨i - 25, by omega⟩; rfl)
set_option maxRecDepth 100000 in
theorem LK_69 : LK 69 := LK_of lk_69 (fun i h => by obtain ⟨k, rfl⟩ : ∃ k, i = k + 14 := ⟨i - 14, by omega⟩; rfl)
set_option maxRecDepth 100000 in
theorem LK_70 : LK 70 := LK_of lk_70 (fun i h => by obtain ⟨k, rfl⟩ : ∃ k, i = k + 14 := ⟨i - 14, by omega⟩; rfl)
set_option maxRecDepth 100000 in
theorem LK_71 : LK 71 := LK_of lk_71 (fun i h => by obtain ⟨k, rfl⟩ : ∃ k, i = k + 40 := ⟨i - 40, by omega⟩; rfl)
set_option maxRecDepth 100000 in
theorem LK_72 : LK 72 := LK_of lk_72 (fun i h => by obtain ⟨k, rfl⟩ : ∃ k, i = k + 28 := ⟨i - 28, by omega⟩; rfl)
set_option maxRecDepth 100000 in
theorem LK_73 : LK 73 := LK_of lk_73 (fun i h => by obtain ⟨k, rfl⟩ : ∃ k, i = k + 42 := ⟨i - 42, by omega⟩; rfl)
set_option maxRecDepth 100000 in
theorem LK_74 : LK 74 := LK_of lk_74 (fun i h => by obtain ⟨k, rfl⟩ : ∃ k, i = k + 14 := ⟨i - 14, by omega⟩; rfl)
set_option maxRecDepth 100000 in
theorem LK_75 : LK 75 := LK_of lk_75 (fun i h => by obtain ⟨k, rfl⟩ : ∃ k, i = k + 22 := ⟨i - 22, by omega⟩; rfl)
set_option maxRecDepth 100000 in
theorem LK_76 : LK 76 := LK_of lk_76 (fun i h => by obtain ⟨k, rfl⟩ : ∃ k, i = k + 24 := ⟨i - 24, by omega⟩; rfl)
set_option maxRecDepth 100000 in
theorem LK_77 : LK 77 := LK_of lk_77 (fun i h => by obtain ⟨k, rfl⟩ : ∃ k, i = k + 16 := ⟨i - 16, by omega⟩; rfl)
set_option maxRecDepth 100000 in
theorem LK_78 : LK 78 := LK_of lk_78 (fun i h => by obtain ⟨k, rfl⟩ : ∃ k, i = k + 13 := ⟨i - 13, by omega⟩; rfl)
set_option maxRecDepth 100000 in
theorem LK_79 : LK 79 := LK_of lk_79 (fun i h => by obtain ⟨k, rfl⟩ : ∃ k, i = k + 70 := ⟨i - 70, by omega⟩; rfl)
set_option maxRecDepth 100000 in
theorem LK_80 : LK 80 := LK_of lk_80 (fun i h => by obtain ⟨k, rfl⟩ : ∃ k, i = k + 32 := ⟨i - 32, by omega⟩; rfl)
set_option maxRecDepth 100000 in
theorem LK_81 : LK 81 := LK_of lk_81 (fun i h => by obtain ⟨k, rfl⟩ : ∃ k, i = k + 47 := ⟨i - 47, by omega⟩; rfl)
set_option maxRecDepth 100000 in
theorem LK_82 : LK 82 := LK_of lk_82 (fun i h => by obtain ⟨k, rfl⟩ : ∃ k, i = k + 66 := ⟨i - 66, by omega⟩; rfl)
set_option maxRecDepth 100000 in
theorem LK_83 : LK 83 := LK_of lk_83 (fun i h => by obtain ⟨k, rfl⟩ : ∃ k, i = k + 4 := ⟨i - 4, by omega⟩; rfl)
set_option maxRecDepth 100000 in
theorem LK_84 : LK 84 := LK_of lk_84 (fun i h => by obtain ⟨k, rfl⟩ : ∃ k, i = k + 63 := ⟨i - 63, by omega⟩; rfl)
set_option maxRecDepth 100000 in
theorem LK_85 : LK 85 := LK_of lk_85 (fun i h => by obtain ⟨k, rfl⟩ : ∃ k, i = k + 20 := ⟨i - 20, by omega⟩; rfl)
set_option maxRecDepth 100000 in
theorem LK_86 : LK 86 := LK_of lk_86 (fun i h => by obtain ⟨k, rfl⟩ : ∃ k, i = k + 18 := ⟨i - 18, by omega⟩; rfl)
set_option maxRecDepth 100000 in
theorem LK_87 : LK 87 := LK_of lk_87 (fun i h => by obtain ⟨k, rfl⟩ : ∃ k, i = k + 12 := ⟨i - 12, by omega⟩; rfl)
set_option maxRecDepth 100000 in
theorem LK_88 : LK 88 := LK_of lk_88 (fun i h => by obtain ⟨k, rfl⟩ : ∃ k, i = k + 28 := ⟨i - 28, by omega⟩; rfl)
set_option maxRecDepth 100000 in
theorem LK_89 : LK 89 := LK_of lk_89 (fun i h => by obtain ⟨k, rfl⟩ : ∃ k, i = k + 7 := ⟨i - 7, by omega⟩; rfl)
set_option maxRecDepth 100000 in
theorem LK_90 : LK 90 := LK_of lk_90 (fun i h => by obtain ⟨k, rfl⟩ : ∃ k, i = k + 21 := ⟨i - 21, by omega⟩; rfl)
set_option maxRecDepth 100000 in
theorem LK_91 : LK 91 := LK_of lk_91 (fun i h => by obtain ⟨k, rfl⟩ : ∃ k, i = k + 31 := ⟨i - 31, by omega⟩; rfl)
set_option maxRecDepth 100000 in
theorem LK_92 : LK 92 := LK_of lk_92 (fun i h => by obtain ⟨k, rfl⟩ : ∃ k, i = k + 8 := ⟨i - 8, by omega⟩; rfl)
set_option maxRecDepth 100000 in
theorem LK_93 : LK 93 := LK_of lk_93 (fun i h => by obtain ⟨k, rfl⟩ : ∃ k, i = k + 33 := ⟨i - 33, by omega⟩; rfl)
set_option maxRecDepth 100000 in
theorem LK_94 : LK 94 := LK_of lk_94 (fun i h => by obtain ⟨k, rfl⟩ : ∃ k, i = k + 20 := ⟨i - 20, by omega⟩; rfl)
set_option maxRecDepth 100000 in
theorem LK_95 : LK 95 := LK_of lk_95 (fun i h => by obtain ⟨k, rfl⟩ : ∃ k, i = k + 33 := ⟨i - 33, by omega⟩; rfl)
set_option maxRecDepth 100000 in
theorem LK_96 : LK 96 := LK_of lk_96 (fun i h => by obtain ⟨k, rfl⟩ : ∃ k, i = k + 34 := ⟨i - 34, by omega⟩; rfl)
set_option maxRecDepth 100000 in
theorem LK_97 : LK 97 := LK_of lk_97 (fun i h => by obtain ⟨k, rfl⟩ : ∃ k, i = k + 63 := ⟨i - 63, by omega⟩; rfl)
set_option maxRecDepth 100000 in
theorem LK_98 : LK 98 := LK_of lk_98 (fun i h => by obtain ⟨k, rfl⟩ : ∃ k, i = k + 18 := ⟨i - 18, by omega⟩; rfl)
set_option maxRecDepth 100000 in
theorem LK_99 : LK 99 := LK_of lk_99 (fun i h => by obtain ⟨k, rfl⟩ : ∃ k, i = k + 52 := ⟨i - 52, by omega⟩; rfl)
set_option maxRecDepth 100000 in
theorem LK_101 : LK 101 := LK_of lk_101 (fun i h => by obtain ⟨k, rfl⟩ : ∃ k, i = k + 52 := ⟨i - 52, by omega⟩; rfl)
set_option maxRecDepth 100000 in
theorem LK_102 : LK 102 := LK_of lk_102 (fun i h => by obtain ⟨k, rfl⟩ : ∃ k, i = k + 47 := ⟨i - 47, by omega⟩; rfl)
set_option maxRecDepth 100000 in
theorem LK_103 : LK 103 := LK_of lk_103 (fun i h => by obtain ⟨k, rfl⟩ : ∃ k, i = k + 19 := ⟨i - 19, by omega⟩; rfl)
set_option maxRecDepth 100000 in
theorem LK_104 : LK 104 := LK_of lk_104 (fun i h => by obtain ⟨k, rfl⟩ : ∃ k, i = k + 18 := ⟨i - 18, by omega⟩; rfl)
set_option maxRecDepth 100000 in
theorem LK_105 : LK 105 := fun i => by
  by_cases h0 : i < 60
  · exact Or.inr (lk_ch lk_105_0 (by omega) (by omega))
  by_cases h60 : i < 120
  · exact Or.inr (lk_ch lk_105_60 (by omega) (by omega))
  by_cases h120 : i < 180
  · exact Or.inr (lk_ch lk_105_120 (by omega) (by omega))
  by_cases h180 : i < 240
  · exact Or.inr (lk_ch lk_105_180 (by omega) (by omega))
  by_cases h240 : i < 255
  · exact Or.inr (lk_ch lk_105_240 (by omega) (by omega))
  · exact Or.inl (by have h : 255 ≤ i := by omega
                     revert h; intro h; exact (by obtain ⟨k, rfl⟩ : ∃ k, i = k + 255 := ⟨i - 255, by omega⟩; rfl))
set_option maxRecDepth 100000 in
theorem LK_106 : LK 106 := LK_of lk_106 (fun i h => by obtain ⟨k, rfl⟩ : ∃ k, i = k + 59 := ⟨i - 59, by omega⟩; rfl)
set_option maxRecDepth 100000 in
theorem LK_107 : LK 107 := LK_of lk_107 (fun i h => by obtain ⟨k, rfl⟩ : ∃ k, i = k + 47 := ⟨i - 47, by omega⟩; rfl)
set_option maxRecDepth 100000 in
theorem LK_108 : LK 108 := LK_of lk_108 (fun i h => by obtain ⟨k, rfl⟩ : ∃ k, i = k + 5 := ⟨i - 5, by omega⟩; rfl)
set_option maxRecDepth 100000 in
theorem LK_109 : LK 109 := LK_of lk_109 (fun i h => by obtain ⟨k, rfl⟩ : ∃ k, i = k + 10 := ⟨i - 10, by omega⟩; rfl)
set_option maxRecDepth 100000 in
theorem LK_110 : LK 110 := LK_of lk_110 (fun i h => by obtain ⟨k, rfl⟩ : ∃ k, i = k + 7 := ⟨i - 7, by omega⟩; rfl)
set_option maxRecDepth 100000 in
theorem LK_111 : LK 111 := LK_of lk_111 (fun i h => by obtain ⟨k, rfl⟩ : ∃ k, i = k + 20 := ⟨i - 20, by omega⟩; rfl)
set_option maxRecDepth 100000 in
theorem LK_112 : LK 112 := LK_of lk_112 (fun i h => by obtain ⟨k, rfl⟩ : ∃ k, i = k + 28 := ⟨i - 28, by omega⟩; rfl)
set_option maxRecDepth 100000 in
theorem LK_113 : LK 113 := LK_of lk_113 (fun i h => by obtain ⟨k, rfl⟩ : ∃ k, i = k + 41 := ⟨i - 41, by omega⟩; rfl)
set_option maxRecDepth 100000 in
theorem LK_114 : LK 114 := LK_of lk_114 (fun i h => by obtain ⟨k, rfl⟩ : ∃ k, i = k + 5 := ⟨i - 5, by omega⟩; rfl)
set_option maxRecDepth 100000 in
theorem LK_115 : LK 115 := LK_of lk_115 (fun i h => by obtain ⟨k, rfl⟩ : ∃ k, i = k + 7 := ⟨i - 7, by omega⟩; rfl)
set_option maxRecDepth 100000 in
theorem LK_116 : LK 116 := LK_of lk_116 (fun i h => by obtain ⟨k, rfl⟩ : ∃ k, i = k + 9 := ⟨i - 9, by omega⟩; rfl)
set_option maxRecDepth 100000 in
theorem LK_117 : LK 117 := LK_of lk_117 (fun i h => by obtain ⟨k, rfl⟩ : ∃ k, i = k + 7 := ⟨i - 7, by omega⟩; rfl)
set_option maxRecDepth 100000 in
theorem LK_118 : LK 118 := LK_of lk_118 (fun i h => by obtain ⟨k, rfl⟩ : ∃ k, i = k + 13 := ⟨i - 13, by omega⟩; rfl)
set_option maxRecDepth 100000 in
theorem LK_119 : LK 119 := LK_of lk_119 (fun i h => by obtain ⟨k, rfl⟩ : ∃ k, i = k + 46 := ⟨i - 46, by omega⟩; rfl)
set_option maxRecDepth 100000 in
theorem LK_120 : LK 120 := LK_of lk_120 (fun i h => by obtain ⟨k, rfl⟩ : ∃ k, i = k + 58 := ⟨i - 58, by omega⟩; rfl)
set_option maxRecDepth 100000 in
theorem LK_121 : LK 121 := LK_of lk_121 (fun i h => by obtain ⟨k, rfl⟩ : ∃ k, i = k + 17 := ⟨i - 17, by omega⟩; rfl)
set_option maxRecDepth 100000 in
theorem LK_122 : LK 122 := LK_of lk_122 (fun i h => by obtain ⟨k, rfl⟩ : ∃ k, i = k + 38 := ⟨i - 38, by omega⟩; rfl)
set_option maxRecDepth 100000 in
theorem LK_123 : LK 123 := LK_of lk_123 (fun i h => by obtain ⟨k, rfl⟩ : ∃ k, i = k + 74 := ⟨i - 74, by omega⟩; rfl)
set_option maxRecDepth 100000 in
theorem LK_124 : LK 124 := LK_of lk_124 (fun i h => by obtain ⟨k, rfl⟩ : ∃ k, i = k + 59 := ⟨i - 59, by omega⟩; rfl)
set_option maxRecDepth 100000 in
theorem LK_125 : LK 125 := LK_of lk_125 (fun i h => by obtain ⟨k, rfl⟩ : ∃ k, i = k + 82 := ⟨i - 82, by omega⟩; rfl)
set_option maxRecDepth 100000 in
theorem LK_126 : LK 126 := LK_of lk_126 (fun i h => by obtain ⟨k, rfl⟩ : ∃ k, i = k + 15 := ⟨i - 15, by omega⟩; rfl)
set_option maxRecDepth 100000 in
theorem LK_127 : LK 127 := LK_of lk_127 (fun i h => by obtain ⟨k, rfl⟩ : ∃ k, i = k + 11 := ⟨i - 11, by omega⟩; rfl)
set_option maxRecDepth 100000 in
theorem LK_128 : LK 128 := fun i => by
  by_cases h0 : i < 60
  · exact Or.inr (lk_ch lk_128_0 (by omega) (by omega))
  by_cases h60 : i < 120
  · exact Or.inr (lk_ch lk_128_60 (by omega) (by omega))
  by_cases h120 : i < 144
  · exact Or.inr (lk_ch lk_128_120 (by omega) (by omega))
  · exact Or.inl (by have h : 144 ≤ i := by omega
                     revert h; intro h; exact (by obtain ⟨k, rfl⟩ : ∃ k, i = k + 144 := ⟨i - 144, by omega⟩; rfl))
set_option maxRecDepth 100000 in
theorem LK_129 : LK 129 := LK_of lk_129 (fun i h => by obtain ⟨k, rfl⟩ : ∃ k, i = k + 11 := ⟨i - 11, by omega⟩; rfl)
set_option maxRecDepth 100000 in
theorem LK_130 : LK 130 := LK_of lk_130 (fun i h => by obtain ⟨k, rfl⟩ : ∃ k, i = k + 57 := ⟨i - 57, by omega⟩; rfl)
set_option maxRecDepth 100000 in
theorem LK_131 : LK 131 := LK_of lk_131 (fun i h => by obtain ⟨k, rfl⟩ : ∃ k, i = k + 12 := ⟨i - 12, by omega⟩; rfl)
set_option maxRecDepth 100000 in
theorem LK_132 : LK 132 := LK_of lk_132 (fun i h => by obtain ⟨k, rfl⟩ : ∃ k, i = k + 11 := ⟨i - 11, by omega⟩; rfl)
set_option maxRecDepth 100000 in
theorem LK_133 : LK 133 := LK_of lk_133 (fun i h => by obtain ⟨k, rfl⟩ : ∃ k, i = k + 96 := ⟨i - 96, by omega⟩; rfl)
set_option maxRecDepth 100000 in
theorem LK_134 : LK 134 := LK_of lk_134 (fun i h => by obtain ⟨k, rfl⟩ : ∃ k, i = k + 35 := ⟨i - 35, by omega⟩; rfl)
set_option maxRecDepth 100000 in
theorem LK_135 : LK 135 := LK_of lk_135 (fun i h => by obtain ⟨k, rfl⟩ : ∃ k, i = k + 40 := ⟨i - 40, by omega⟩; rfl)
set_option maxRecDepth 100000 in
theorem LK_136 : LK 136 := LK_of lk_136 (fun i h => by obtain ⟨k, rfl⟩ : ∃ k, i = k + 22 := ⟨i - 22, by omega⟩; rfl)
set_option maxRecDepth 100000 in
theorem LK_137 : LK 137 := LK_of lk_137 (fun i h => by obtain ⟨k, rfl⟩ : ∃ k, i = k + 60 := ⟨i - 60, by omega⟩; rfl)
set_option maxRecDepth 100000 in
theorem LK_138 : LK 138 := LK_of lk_138 (fun i h => by obtain ⟨k, rfl⟩ : ∃ k, i = k + 40 := ⟨i - 40, by omega⟩; rfl)
set_option maxRecDepth 100000 in
theorem LK_139 : LK 139 := LK_of lk_139 (fun i h => by obtain ⟨k, rfl⟩ : ∃ k, i = k + 24 := ⟨i - 24, by omega⟩; rfl)
set_option maxRecDepth 100000 in
theorem LK_140 : LK 140 := LK_of lk_140 (fun i h => by obtain ⟨k, rfl⟩ : ∃ k, i = k + 43 := ⟨i - 43, by omega⟩; rfl)
set_option maxRecDepth 100000 in
theorem LK_141 : LK 141 := LK_of lk_141 (fun i h => by obtain ⟨k, rfl⟩ : ∃ k, i = k + 7 := ⟨i - 7, by omega⟩; rfl)
set_option maxRecDepth 100000 in
theorem LK_142 : LK 142 := LK_of lk_142 (fun i h => by obtain ⟨k, rfl⟩ : ∃ k, i = k + 11 := ⟨i - 11, by omega⟩; rfl)
set_option maxRecDepth 100000 in
theorem LK_143 : LK 143 := fun i => by
  by_cases h0 : i < 60
  · exact Or.inr (lk_ch lk_143_0 (by omega) (by omega))
  by_cases h60 : i < 120
  · exact Or.inr (lk_ch lk_143_60 (by omega) (by omega))
  by_cases h120 : i < 180
  · exact Or.inr (lk_ch lk_143_120 (by omega) (by omega))
  by_cases h180 : i < 202
  · exact Or.inr (lk_ch lk_143_180 (by omega) (by omega))
  · exact Or.inl (by have h : 202 ≤ i := by omega
                     revert h; intro h; exact (by obtain ⟨k, rfl⟩ : ∃ k, i = k + 202 := ⟨i - 202, by omega⟩; rfl))
set_option maxRecDepth 100000 in
theorem LK_144 : LK 144 := LK_of lk_144 (fun i h => by obtain ⟨k, rfl⟩ : ∃ k, i = k + 31 := ⟨i - 31, by omega⟩; rfl)
set_option maxRecDepth 100000 in
theorem LK_145 : LK 145 := LK_of lk_145 (fun i h => by obtain ⟨k, rfl⟩ : ∃ k, i = k + 95 := ⟨i - 95, by omega⟩; rfl)
set_option maxRecDepth 100000 in
theorem LK_146 : LK 146 := LK_of lk_146 (fun i h => by obtain ⟨k, rfl⟩ : ∃ k, i = k + 64 := ⟨i - 64, by omega⟩; rfl)
set_option maxRecDepth 100000 in
theorem LK_147 : LK 147 := LK_of lk_147 (fun i h => by obtain ⟨k, rfl⟩ : ∃ k, i = k + 25 := ⟨i - 25, by omega⟩; rfl)
set_option maxRecDepth 100000 in
theorem LK_148 : LK 148 := LK_of lk_148 (fun i h => by obtain ⟨k, rfl⟩ : ∃ k, i = k + 24 := ⟨i - 24, by omega⟩; rfl)
set_option maxRecDepth 100000 in
theorem LK_149 : LK 149 := LK_of lk_149 (fun i h => by obtain ⟨k, rfl⟩ : ∃ k, i = k + 16 := ⟨i - 16, by omega⟩; rfl)
set_option maxRecDepth 100000 in
theorem LK_150 : LK 150 := LK_of lk_150 (fun i h => by obtain ⟨k, rfl⟩ : ∃ k, i = k + 87 := ⟨i - 87, by omega⟩; rfl)
set_option maxRecDepth 100000 in
theorem LK_151 : LK 151 := LK_of lk_151 (fun i h => by obtain ⟨k, rfl⟩ : ∃ k, i = k + 47 := ⟨i - 47, by omega⟩; rfl)
set_option maxRecDepth 100000 in
theorem LK_152 : LK 152 := LK_of lk_152 (fun i h => by obtain ⟨k, rfl⟩ : ∃ k, i = k + 3 := ⟨i - 3, by omega⟩; rfl)
set_option maxRecDepth 100000 in
theorem LK_153 : LK 153 := LK_of lk_153 (fun i h => by obtain ⟨k, rfl⟩ : ∃ k, i = k + 5 := ⟨i - 5, by omega⟩; rfl)
set_option maxRecDepth 100000 in
theorem LK_154 : LK 154 := LK_of lk_154 (fun i h => by obtain ⟨k, rfl⟩ : ∃ k, i = k + 13 := ⟨i - 13, by omega⟩; rfl)
set_option maxRecDepth 100000 in
theorem LK_155 : LK 155 := LK_of lk_155 (fun i h => by obtain ⟨k, rfl⟩ : ∃ k, i = k + 5 := ⟨i - 5, by omega⟩; rfl)
set_option maxRecDepth 100000 in
theorem LK_156 : LK 156 := LK_of lk_156 (fun i h => by obtain ⟨k, rfl⟩ : ∃ k, i = k + 11 := ⟨i - 11, by omega⟩; rfl)
set_option maxRecDepth 100000 in
theorem LK_157 : LK 157 := LK_of lk_157 (fun i h => by obtain ⟨k, rfl⟩ : ∃ k, i = k + 19 := ⟨i - 19, by omega⟩; rfl)
set_option maxRecDepth 100000 in
theorem LK_158 : LK 158 := LK_of lk_158 (fun i h => by obtain ⟨k, rfl⟩ : ∃ k, i = k + 5 := ⟨i - 5, by omega⟩; rfl)
set_option maxRecDepth 100000 in
theorem LK_159 : LK 159 := LK_of lk_159 (fun i h => by obtain ⟨k, rfl⟩ : ∃ k, i = k + 5 := ⟨i - 5, by omega⟩; rfl)
set_option maxRecDepth 100000 in
theorem LK_160 : LK 160 := LK_of lk_160 (fun i h => by obtain ⟨k, rfl⟩ : ∃ k, i = k + 8 := ⟨i - 8, by omega⟩; rfl)
set_option maxRecDepth 100000 in
theorem LK_161 : LK 161 := LK_of lk_161 (fun i h => by obtain ⟨k, rfl⟩ : ∃ k, i = k + 20 := ⟨i - 20, by omega⟩; rfl)
set_option maxRecDepth 100000 in
theorem LK_162 : LK 162 := LK_of lk_162 (fun i h => by obtain ⟨k, rfl⟩ : ∃ k, i = k + 11 := ⟨i - 11, by omega⟩; rfl)
set_option maxRecDepth 100000 in
theorem LK_163 : LK 163 := LK_of lk_163 (fun i h => by obtain ⟨k, rfl⟩ : ∃ k, i = k + 16 := ⟨i - 16, by omega⟩; rfl)
set_option maxRecDepth 100000 in
theorem LK_164 : LK 164 := LK_of lk_164 (fun i h => by obtain ⟨k, rfl⟩ : ∃ k, i = k + 17 := ⟨i - 17, by omega⟩; rfl)
set_option maxRecDepth 100000 in
theorem LK_165 : LK 165 := LK_of lk_165 (fun i h => by obtain ⟨k, rfl⟩ : ∃ k, i = k + 5 := ⟨i - 5, by omega⟩; rfl)
set_option maxRecDepth 100000 in
theorem LK_166 : LK 166 := LK_of lk_166 (fun i h => by obtain ⟨k, rfl⟩ : ∃ k, i = k + 16 := ⟨i - 16, by omega⟩; rfl)
set_option maxRecDepth 100000 in
theorem LK_167 : LK 167 := LK_of lk_167 (fun i h => by obtain ⟨k, rfl⟩ : ∃ k, i = k + 9 := ⟨i - 9, by omega⟩; rfl)
set_option maxRecDepth 100000 in
theorem LK_168 : LK 168 := LK_of lk_168 (fun i h => by obtain ⟨k, rfl⟩ : ∃ k, i = k + 15 := ⟨i - 15, by omega⟩; rfl)
set_option maxRecDepth 100000 in
theorem LK_169 : LK 169 := LK_of lk_169 (fun i h => by obtain ⟨k, rfl⟩ : ∃ k, i = k + 9 := ⟨i - 9, by omega⟩; rfl)
set_option maxRecDepth 100000 in
theorem LK_170 : LK 170 := LK_of lk_170 (fun i h => by obtain ⟨k, rfl⟩ : ∃ k, i = k + 13 := ⟨i - 13, by omega⟩; rfl)
set_option maxRecDepth 100000 in
theorem LK_171 : LK 171 := LK_of lk_171 (fun i h => by obtain ⟨k, rfl⟩ : ∃ k, i = k + 9 := ⟨i - 9, by omega⟩; rfl)
set_option maxRecDepth 100000 in
theorem LK_172 : LK 172 := LK_of lk_172 (fun i h => by obtain ⟨k, rfl⟩ : ∃ k, i = k + 6 := ⟨i - 6, by omega⟩; rfl)
set_option maxRecDepth 100000 in
theorem LK_173 : LK 173 := LK_of lk_173 (fun i h => by obtain ⟨k, rfl⟩ : ∃ k, i = k + 11 := ⟨i - 11, by omega⟩; rfl)
set_option maxRecDepth 100000 in
theorem LK_174 : LK 174 := LK_of lk_174 (fun i h => by obtain ⟨k, rfl⟩ : ∃ k, i = k + 6 := ⟨i - 6, by omega⟩; rfl)
set_option maxRecDepth 100000 in
theorem LK_175 : LK 175 := LK_of lk_175 (fun i h => by obtain ⟨k, rfl⟩ : ∃ k, i = k + 48 := ⟨i - 48, by omega⟩; rfl)
set_option maxRecDepth 100000 in
theorem LK_176 : LK 176 := LK_of lk_176 (fun i h => by obtain ⟨k, rfl⟩ : ∃ k, i = k + 11 := ⟨i - 11, by omega⟩; rfl)
set_option maxRecDepth 100000 in
theorem LK_177 : LK 177 := LK_of lk_177 (fun i h => by obtain ⟨k, rfl⟩ : ∃ k, i = k + 6 := ⟨i - 6, by omega⟩; rfl)
set_option maxRecDepth 100000 in
theorem LK_178 : LK 178 := LK_of lk_178 (fun i h => by obtain ⟨k, rfl⟩ : ∃ k, i = k + 22 := ⟨i - 22, by omega⟩; rfl)
set_option maxRecDepth 100000 in
theorem LK_179 : LK 179 := LK_of lk_179 (fun i h => by obtain ⟨k, rfl⟩ : ∃ k, i = k + 13 := ⟨i - 13, by omega⟩; rfl)
set_option maxRecDepth 100000 in
theorem LK_180 : LK 180 := LK_of lk_180 (fun i h => by obtain ⟨k, rfl⟩ : ∃ k, i = k + 11 := ⟨i - 11, by omega⟩; rfl)
set_option maxRecDepth 100000 in
theorem LK_181 : LK 181 := LK_of lk_181 (fun i h => by obtain ⟨k, rfl⟩ : ∃ k, i = k + 16 := ⟨i - 16, by omega⟩; rfl)
set_option maxRecDepth 100000 in
theorem LK_182 : LK 182 := LK_of lk_182 (fun i h => by obtain ⟨k, rfl⟩ : ∃ k, i = k + 3 := ⟨i - 3, by omega⟩; rfl)
set_option maxRecDepth 100000 in
theorem LK_183 : LK 183 := LK_of lk_183 (fun i h => by obtain ⟨k, rfl⟩ : ∃ k, i = k + 14 := ⟨i - 14, by omega⟩; rfl)
set_option maxRecDepth 100000 in
theorem LK_184 : LK 184 := LK_of lk_184 (fun i h => by obtain ⟨k, rfl⟩ : ∃ k, i = k + 3 := ⟨i - 3, by omega⟩; rfl)
set_option maxRecDepth 100000 in
theorem LK_185 : LK 185 := LK_of lk_185 (fun i h => by obtain ⟨k, rfl⟩ : ∃ k, i = k + 48 := ⟨i - 48, by omega⟩; rfl)
set_option maxRecDepth 100000 in
theorem LK_186 : LK 186 := LK_of lk_186 (fun i h => by obtain ⟨k, rfl⟩ : ∃ k, i = k + 17 := ⟨i - 17, by omega⟩; rfl)
set_option maxRecDepth 100000 in
theorem LK_187 : LK 187 := LK_of lk_187 (fun i h => by obtain ⟨k, rfl⟩ : ∃ k, i = k + 30 := ⟨i - 30, by omega⟩; rfl)
set_option maxRecDepth 100000 in
theorem LK_188 : LK 188 := LK_of lk_188 (fun i h => by obtain ⟨k, rfl⟩ : ∃ k, i = k + 17 := ⟨i - 17, by omega⟩; rfl)
set_option maxRecDepth 100000 in
theorem LK_189 : LK 189 := LK_of lk_189 (fun i h => by obtain ⟨k, rfl⟩ : ∃ k, i = k + 46 := ⟨i - 46, by omega⟩; rfl)
set_option maxRecDepth 100000 in
theorem LK_190 : LK 190 := LK_of lk_190 (fun i h => by obtain ⟨k, rfl⟩ : ∃ k, i = k + 37 := ⟨i - 37, by omega⟩; rfl)
set_option maxRecDepth 100000 in
theorem LK_191 : LK 191 := LK_of lk_191 (fun i h => by obtain ⟨k, rfl⟩ : ∃ k, i = k + 13 := ⟨i - 13, by omega⟩; rfl)
set_option maxRecDepth 100000 in
theorem LK_192 : LK 192 := LK_of lk_192 (fun i h => by obtain ⟨k, rfl⟩ : ∃ k, i = k + 33 := ⟨i - 33, by omega⟩; rfl)
set_option maxRecDepth 100000 in
theorem LK_193 : LK 193 := LK_of lk_193 (fun i h => by obtain ⟨k, rfl⟩ : ∃ k, i = k + 18 := ⟨i - 18, by omega⟩; rfl)
set_option maxRecDepth 100000 in
theorem LK_194 : LK 194 := LK_of lk_194 (fun i h => by obtain ⟨k, rfl⟩ : ∃ k, i = k + 52 := ⟨i - 52, by omega⟩; rfl)
set_option maxRecDepth 100000 in
theorem LK_195 : LK 195 := LK_of lk_195 (fun i h => by obtain ⟨k, rfl⟩ : ∃ k, i = k + 24 := ⟨i - 24, by omega⟩; rfl)
set_option maxRecDepth 100000 in
theorem LK_196 : LK 196 := LK_of lk_196 (fun i h => by obtain ⟨k, rfl⟩ : ∃ k, i = k + 29 := ⟨i - 29, by omega⟩; rfl)
set_option maxRecDepth 100000 in
theorem LK_197 : LK 197 := LK_of lk_197 (fun i h => by obtain ⟨k, rfl⟩ : ∃ k, i = k + 29 := ⟨i - 29, by omega⟩; rfl)
set_option maxRecDepth 100000 in
theorem LK_198 : LK 198 := LK_of lk_198 (fun i h => by obtain ⟨k, rfl⟩ : ∃ k, i = k + 27 := ⟨i - 27, by omega⟩; rfl)
set_option maxRecDepth 100000 in
theorem LK_199 : LK 199 := LK_of lk_199 (fun i h => by obtain ⟨k, rfl⟩ : ∃ k, i = k + 32 := ⟨i - 32, by omega⟩; rfl)
set_option maxRecDepth 100000 in
theorem LK_200 : LK 200 := fun i => by
  by_cases h0 : i < 60
  · exact Or.inr (lk_ch lk_200_0 (by omega) (by omega))
  by_cases h60 : i < 113
  · exact Or.inr (lk_ch lk_200_60 (by omega) (by omega))
  · exact Or.inl (by have h : 113 ≤ i := by omega
                     revert h; intro h; exact (by obtain ⟨k, rfl⟩ : ∃ k, i = k + 113 := ⟨i - 113, by omega⟩; rfl))
set_option maxRecDepth 100000 in
theorem LK_201 : LK 201 := LK_of lk_201 (fun i h => by obtain ⟨k, rfl⟩ : ∃ k, i = k + 41 := ⟨i - 41, by omega⟩; rfl)
set_option maxRecDepth 100000 in
theorem LK_202 : LK 202 := LK_of lk_202 (fun i h => by obtain ⟨k, rfl⟩ : ∃ k, i = k + 29 := ⟨i - 29, by omega⟩; rfl)
set_option maxRecDepth 100000 in
theorem LK_203 : LK 203 := LK_of lk_203 (fun i h => by obtain ⟨k, rfl⟩ : ∃ k, i = k + 18 := ⟨i - 18, by omega⟩; rfl)
set_option maxRecDepth 100000 in
theorem LK_204 : LK 204 := LK_of lk_204 (fun i h => by obtain ⟨k, rfl⟩ : ∃ k, i = k + 24 := ⟨i - 24, by omega⟩; rfl)
set_option maxRecDepth 100000 in
theorem LK_205 : LK 205 := LK_of lk_205 (fun i h => by obtain ⟨k, rfl⟩ : ∃ k, i = k + 7 := ⟨i - 7, by omega⟩; rfl)
set_option maxRecDepth 100000 in
theorem LK_206 : LK 206 := fun i => by
  by_cases h0 : i < 60
  · exact Or.inr (lk_ch lk_206_0 (by omega) (by omega))
  by_cases h60 : i < 120
  · exact Or.inr (lk_ch lk_206_60 (by omega) (by omega))
  by_cases h120 : i < 180
  · exact Or.inr (lk_ch lk_206_120 (by omega) (by omega))
  by_cases h180 : i < 229
  · exact Or.inr (lk_ch lk_206_180 (by omega) (by omega))
  · exact Or.inl (by have h : 229 ≤ i := by omega
                     revert h; intro h; exact (by obtain ⟨k, rfl⟩ : ∃ k, i = k + 229 := ⟨i - 229, by omega⟩; rfl))
set_option maxRecDepth 100000 in
theorem LK_207 : LK 207 := LK_of lk_207 (fun i h => by obtain ⟨k, rfl⟩ : ∃ k, i = k + 67 := ⟨i - 67, by omega⟩; rfl)
