/-! the layout, and the words that the walks use -/
def layXl : List fm_L := [.inr (7, [some 1, some 3, some 6, some 9, some 16, some 74, some 90, some 98, some 101]), .inr (6, [some 2, none]), .inl (1, 200), .inr (3, [some 4, some 5, none, none, none, none, none]), .inl (0, 6), .inl (0, 6), .inr (3, [some 7, some 8, none, none, none, none, none]), .inl (0, 6), .inl (0, 6), .inr (1, [some 6, some 10, some 11, some 12, some 13, some 14, some 15, none, none, none, none]), .inl (0, 6), .inl (0, 6), .inl (0, 6), .inl (0, 3), .inl (0, 3), .inl (0, 3), .inr (2, [some 17, none, none]), .inl (3, 8), .inr (1, [some 6, some 19, some 20, some 21, some 22, some 23, some 24, none, none, none, none]), .inl (0, 6), .inl (0, 6), .inl (0, 6), .inl (0, 3), .inl (0, 3), .inl (0, 3), .inr (1, [some 6, some 26, some 27, some 28, some 29, some 30, some 31, none, none, none, none]), .inl (0, 6), .inl (0, 6), .inl (0, 6), .inl (0, 3), .inl (0, 3), .inl (0, 3), .inr (1, [some 6, some 33, some 34, some 35, some 36, some 37, some 38, none, none, none, none]), .inl (0, 6), .inl (0, 6), .inl (0, 6), .inl (0, 3), .inl (0, 3), .inl (0, 3), .inr (1, [some 6, some 40, some 41, some 42, some 43, some 44, some 45, none, none, none, none]), .inl (0, 6), .inl (0, 6), .inl (0, 6), .inl (0, 3), .inl (0, 3), .inl (0, 3), .inr (1, [some 6, some 47, some 48, some 49, some 50, some 51, some 52, none, none, none, none]), .inl (0, 6), .inl (0, 6), .inl (0, 6), .inl (0, 3), .inl (0, 3), .inl (0, 3), .inr (1, [some 6, some 54, some 55, some 56, some 57, some 58, some 59, none, none, none, none]), .inl (0, 6), .inl (0, 6), .inl (0, 6), .inl (0, 3), .inl (0, 3), .inl (0, 3), .inr (1, [some 6, some 61, some 62, some 63, some 64, some 65, some 66, none, none, none, none]), .inl (0, 6), .inl (0, 6), .inl (0, 6), .inl (0, 3), .inl (0, 3), .inl (0, 3), .inr (1, [some 6, some 68, some 69, some 70, some 71, some 72, some 73, none, none, none, none]), .inl (0, 6), .inl (0, 6), .inl (0, 6), .inl (0, 3), .inl (0, 3), .inl (0, 3), .inr (2, [some 75, none, none]), .inl (3, 2), .inr (1, [some 6, some 77, some 78, some 79, some 80, some 81, some 82, none, none, none, none]), .inl (0, 6), .inl (0, 6), .inl (0, 6), .inl (0, 3), .inl (0, 3), .inl (0, 3), .inr (1, [some 6, some 84, some 85, some 86, some 87, some 88, some 89, none, none, none, none]), .inl (0, 6), .inl (0, 6), .inl (0, 6), .inl (0, 3), .inl (0, 3), .inl (0, 3), .inr (0, [some 6, some 91, none, none]), .inr (1, [some 6, some 92, some 93, some 94, some 95, some 96, some 97, none, none, none, none]), .inl (0, 6), .inl (0, 6), .inl (0, 6), .inl (0, 3), .inl (0, 3), .inl (0, 3), .inr (4, [some 6, some 90, some 99, some 100, none, none, none]), .inl (0, 6), .inl (0, 6), .inr (5, [some 102, some 103, some 104, none]), .inl (0, 8), .inl (0, 8), .inl (2, 8)]
def layX (c : Nat) : fm_L := layXl.getD c (.inl (9, 0))
def layMl : List fm_L := [.inr (8, [some 1, none, some 2, some 3, some 4, some 5, none, some 6, none, some 7, none, none, some 8, some 9, none, some 10]), .inl (0, 200), .inl (0, 17), .inl (0, 17), .inl (0, 29), .inl (0, 232), .inl (0, 58), .inl (0, 8), .inl (0, 29), .inl (0, 6), .inl (0, 7)]
def layM (c : Nat) : fm_L := layMl.getD c (.inl (9, 0))
theorem yX_0 : layX 0 = .inr (7, [some 1, some 3, some 6, some 9, some 16, some 74, some 90, some 98, some 101]) := rfl
theorem yX_1 : layX 1 = .inr (6, [some 2, none]) := rfl
theorem yX_2 : layX 2 = .inl (1, 200) := rfl
theorem yX_3 : layX 3 = .inr (3, [some 4, some 5, none, none, none, none, none]) := rfl
theorem yX_4 : layX 4 = .inl (0, 6) := rfl
theorem yX_5 : layX 5 = .inl (0, 6) := rfl
theorem yX_6 : layX 6 = .inr (3, [some 7, some 8, none, none, none, none, none]) := rfl
theorem yX_7 : layX 7 = .inl (0, 6) := rfl
theorem yX_8 : layX 8 = .inl (0, 6) := rfl
theorem yX_9 : layX 9 = .inr (1, [some 6, some 10, some 11, some 12, some 13, some 14, some 15, none, none, none, none]) := rfl
theorem yX_10 : layX 10 = .inl (0, 6) := rfl
theorem yX_11 : layX 11 = .inl (0, 6) := rfl
theorem yX_12 : layX 12 = .inl (0, 6) := rfl
theorem yX_13 : layX 13 = .inl (0, 3) := rfl
theorem yX_14 : layX 14 = .inl (0, 3) := rfl
theorem yX_15 : layX 15 = .inl (0, 3) := rfl
theorem yX_16 : layX 16 = .inr (2, [some 17, none, none]) := rfl
theorem yX_17 : layX 17 = .inl (3, 8) := rfl
theorem yX_18 : layX 18 = .inr (1, [some 6, some 19, some 20, some 21, some 22, some 23, some 24, none, none, none, none]) := rfl
theorem yX_19 : layX 19 = .inl (0, 6) := rfl
theorem yX_20 : layX 20 = .inl (0, 6) := rfl
theorem yX_21 : layX 21 = .inl (0, 6) := rfl
theorem yX_22 : layX 22 = .inl (0, 3) := rfl
theorem yX_23 : layX 23 = .inl (0, 3) := rfl
theorem yX_24 : layX 24 = .inl (0, 3) := rfl
theorem yX_25 : layX 25 = .inr (1, [some 6, some 26, some 27, some 28, some 29, some 30, some 31, none, none, none, none]) := rfl
theorem yX_26 : layX 26 = .inl (0, 6) := rfl
theorem yX_27 : layX 27 = .inl (0, 6) := rfl
theorem yX_28 : layX 28 = .inl (0, 6) := rfl
theorem yX_29 : layX 29 = .inl (0, 3) := rfl
theorem yX_30 : layX 30 = .inl (0, 3) := rfl
theorem yX_31 : layX 31 = .inl (0, 3) := rfl
theorem yX_32 : layX 32 = .inr (1, [some 6, some 33, some 34, some 35, some 36, some 37, some 38, none, none, none, none]) := rfl
theorem yX_33 : layX 33 = .inl (0, 6) := rfl
theorem yX_34 : layX 34 = .inl (0, 6) := rfl
theorem yX_35 : layX 35 = .inl (0, 6) := rfl
theorem yX_36 : layX 36 = .inl (0, 3) := rfl
theorem yX_37 : layX 37 = .inl (0, 3) := rfl
theorem yX_38 : layX 38 = .inl (0, 3) := rfl
theorem yX_39 : layX 39 = .inr (1, [some 6, some 40, some 41, some 42, some 43, some 44, some 45, none, none, none, none]) := rfl
theorem yX_40 : layX 40 = .inl (0, 6) := rfl
theorem yX_41 : layX 41 = .inl (0, 6) := rfl
theorem yX_42 : layX 42 = .inl (0, 6) := rfl
theorem yX_43 : layX 43 = .inl (0, 3) := rfl
theorem yX_44 : layX 44 = .inl (0, 3) := rfl
theorem yX_45 : layX 45 = .inl (0, 3) := rfl
theorem yX_46 : layX 46 = .inr (1, [some 6, some 47, some 48, some 49, some 50, some 51, some 52, none, none, none, none]) := rfl
theorem yX_47 : layX 47 = .inl (0, 6) := rfl
theorem yX_48 : layX 48 = .inl (0, 6) := rfl
theorem yX_49 : layX 49 = .inl (0, 6) := rfl
theorem yX_50 : layX 50 = .inl (0, 3) := rfl
theorem yX_51 : layX 51 = .inl (0, 3) := rfl
theorem yX_52 : layX 52 = .inl (0, 3) := rfl
theorem yX_53 : layX 53 = .inr (1, [some 6, some 54, some 55, some 56, some 57, some 58, some 59, none, none, none, none]) := rfl
theorem yX_54 : layX 54 = .inl (0, 6) := rfl
theorem yX_55 : layX 55 = .inl (0, 6) := rfl
theorem yX_56 : layX 56 = .inl (0, 6) := rfl
theorem yX_57 : layX 57 = .inl (0, 3) := rfl
theorem yX_58 : layX 58 = .inl (0, 3) := rfl
theorem yX_59 : layX 59 = .inl (0, 3) := rfl
theorem yX_60 : layX 60 = .inr (1, [some 6, some 61, some 62, some 63, some 64, some 65, some 66, none, none, none, none]) := rfl
theorem yX_61 : layX 61 = .inl (0, 6) := rfl
theorem yX_62 : layX 62 = .inl (0, 6) := rfl
theorem yX_63 : layX 63 = .inl (0, 6) := rfl
theorem yX_64 : layX 64 = .inl (0, 3) := rfl
theorem yX_65 : layX 65 = .inl (0, 3) := rfl
theorem yX_66 : layX 66 = .inl (0, 3) := rfl
theorem yX_67 : layX 67 = .inr (1, [some 6, some 68, some 69, some 70, some 71, some 72, some 73, none, none, none, none]) := rfl
theorem yX_68 : layX 68 = .inl (0, 6) := rfl
theorem yX_69 : layX 69 = .inl (0, 6) := rfl
theorem yX_70 : layX 70 = .inl (0, 6) := rfl
theorem yX_71 : layX 71 = .inl (0, 3) := rfl
theorem yX_72 : layX 72 = .inl (0, 3) := rfl
theorem yX_73 : layX 73 = .inl (0, 3) := rfl
theorem yX_74 : layX 74 = .inr (2, [some 75, none, none]) := rfl
theorem yX_75 : layX 75 = .inl (3, 2) := rfl
theorem yX_76 : layX 76 = .inr (1, [some 6, some 77, some 78, some 79, some 80, some 81, some 82, none, none, none, none]) := rfl
theorem yX_77 : layX 77 = .inl (0, 6) := rfl
theorem yX_78 : layX 78 = .inl (0, 6) := rfl
theorem yX_79 : layX 79 = .inl (0, 6) := rfl
theorem yX_80 : layX 80 = .inl (0, 3) := rfl
theorem yX_81 : layX 81 = .inl (0, 3) := rfl
theorem yX_82 : layX 82 = .inl (0, 3) := rfl
theorem yX_83 : layX 83 = .inr (1, [some 6, some 84, some 85, some 86, some 87, some 88, some 89, none, none, none, none]) := rfl
theorem yX_84 : layX 84 = .inl (0, 6) := rfl
theorem yX_85 : layX 85 = .inl (0, 6) := rfl
theorem yX_86 : layX 86 = .inl (0, 6) := rfl
theorem yX_87 : layX 87 = .inl (0, 3) := rfl
theorem yX_88 : layX 88 = .inl (0, 3) := rfl
theorem yX_89 : layX 89 = .inl (0, 3) := rfl
theorem yX_90 : layX 90 = .inr (0, [some 6, some 91, none, none]) := rfl
theorem yX_91 : layX 91 = .inr (1, [some 6, some 92, some 93, some 94, some 95, some 96, some 97, none, none, none, none]) := rfl
theorem yX_92 : layX 92 = .inl (0, 6) := rfl
theorem yX_93 : layX 93 = .inl (0, 6) := rfl
theorem yX_94 : layX 94 = .inl (0, 6) := rfl
theorem yX_95 : layX 95 = .inl (0, 3) := rfl
theorem yX_96 : layX 96 = .inl (0, 3) := rfl
theorem yX_97 : layX 97 = .inl (0, 3) := rfl
theorem yX_98 : layX 98 = .inr (4, [some 6, some 90, some 99, some 100, none, none, none]) := rfl
theorem yX_99 : layX 99 = .inl (0, 6) := rfl
theorem yX_100 : layX 100 = .inl (0, 6) := rfl
theorem yX_101 : layX 101 = .inr (5, [some 102, some 103, some 104, none]) := rfl
theorem yX_102 : layX 102 = .inl (0, 8) := rfl
theorem yX_103 : layX 103 = .inl (0, 8) := rfl
theorem yX_104 : layX 104 = .inl (2, 8) := rfl
theorem yM_0 : layM 0 = .inr (8, [some 1, none, some 2, some 3, some 4, some 5, none, some 6, none, some 7, none, none, some 8, some 9, none, some 10]) := rfl
theorem yM_1 : layM 1 = .inl (0, 200) := rfl
theorem yM_2 : layM 2 = .inl (0, 17) := rfl
theorem yM_3 : layM 3 = .inl (0, 17) := rfl
theorem yM_4 : layM 4 = .inl (0, 29) := rfl
theorem yM_5 : layM 5 = .inl (0, 232) := rfl
theorem yM_6 : layM 6 = .inl (0, 58) := rfl
theorem yM_7 : layM 7 = .inl (0, 8) := rfl
theorem yM_8 : layM 8 = .inl (0, 29) := rfl
theorem yM_9 : layM 9 = .inl (0, 6) := rfl
theorem yM_10 : layM 10 = .inl (0, 7) := rfl
def isH (h : Nat) : Prop := layX h = .inr (1, [some 6, some (h + 1), some (h + 2), some (h + 3), some (h + 4), some (h + 5), some (h + 6), none, none, none, none]) ∧ h + 6 < 105 ∧ layX (h + 1) = .inl (0, 6) ∧ layX (h + 2) = .inl (0, 6) ∧ layX (h + 3) = .inl (0, 6) ∧ layX (h + 4) = .inl (0, 3) ∧ layX (h + 5) = .inl (0, 3) ∧ layX (h + 6) = .inl (0, 3)
theorem isH.a1 {h : Nat} (H : isH h) : layX (h + 1) = .inl (0, 6) := H.2.2.1
theorem isH.a2 {h : Nat} (H : isH h) : layX (h + 2) = .inl (0, 6) := H.2.2.2.1
theorem isH.a3 {h : Nat} (H : isH h) : layX (h + 3) = .inl (0, 6) := H.2.2.2.2.1
theorem isH.a4 {h : Nat} (H : isH h) : layX (h + 4) = .inl (0, 3) := H.2.2.2.2.2.1
theorem isH.a5 {h : Nat} (H : isH h) : layX (h + 5) = .inl (0, 3) := H.2.2.2.2.2.2.1
theorem isH.a6 {h : Nat} (H : isH h) : layX (h + 6) = .inl (0, 3) := H.2.2.2.2.2.2.2
theorem isH.lt {h j : Nat} (H : isH h) (hj : j ≤ 6) : h + j < 105 := by have := H.2.1; omega
def isPl (q : Nat) : Prop := layX q = .inr (3, [some (q + 1), some (q + 2), none, none, none, none, none]) ∧ q + 2 < 105 ∧ layX (q + 1) = .inl (0, 6) ∧ layX (q + 2) = .inl (0, 6)
theorem isPl.a1 {q : Nat} (H : isPl q) : layX (q + 1) = .inl (0, 6) := H.2.2.1
theorem isPl.a2 {q : Nat} (H : isPl q) : layX (q + 2) = .inl (0, 6) := H.2.2.2
theorem isPl.lt {q j : Nat} (H : isPl q) (hj : j ≤ 2) : q + j < 105 := by have := H.2.1; omega
def isPi (p n : Nat) : Prop := layX p = .inr (2, [some (p + 1), none, none]) ∧ p + 1 < 105 ∧ layX (p + 1) = .inl (3, n) ∧ ∀ i, i < n → isH (p + 1 + 1 + 7 * i)
theorem isPi.lt {p n : Nat} (H : isPi p n) : p < 105 := by have := H.2.1; omega
theorem isPi.h {p n : Nat} (H : isPi p n) {i : Int32} (hi : fm_in i n = true) : isH (p + 1 + 1 + 7 * i.toNatClampNeg) := H.2.2.2 _ (Nat.not_le.mp fun q => fm_in_vp hi (Or.inr q))
theorem isH_9 : isH 9 := ⟨rfl, by decide, rfl, rfl, rfl, rfl, rfl, rfl⟩
theorem isH_91 : isH 91 := ⟨rfl, by decide, rfl, rfl, rfl, rfl, rfl, rfl⟩
theorem isH_18 : isH 18 := ⟨rfl, by decide, rfl, rfl, rfl, rfl, rfl, rfl⟩
theorem isH_25 : isH 25 := ⟨rfl, by decide, rfl, rfl, rfl, rfl, rfl, rfl⟩
theorem isH_32 : isH 32 := ⟨rfl, by decide, rfl, rfl, rfl, rfl, rfl, rfl⟩
theorem isH_39 : isH 39 := ⟨rfl, by decide, rfl, rfl, rfl, rfl, rfl, rfl⟩
theorem isH_46 : isH 46 := ⟨rfl, by decide, rfl, rfl, rfl, rfl, rfl, rfl⟩
theorem isH_53 : isH 53 := ⟨rfl, by decide, rfl, rfl, rfl, rfl, rfl, rfl⟩
theorem isH_60 : isH 60 := ⟨rfl, by decide, rfl, rfl, rfl, rfl, rfl, rfl⟩
theorem isH_67 : isH 67 := ⟨rfl, by decide, rfl, rfl, rfl, rfl, rfl, rfl⟩
theorem isH_76 : isH 76 := ⟨rfl, by decide, rfl, rfl, rfl, rfl, rfl, rfl⟩
theorem isH_83 : isH 83 := ⟨rfl, by decide, rfl, rfl, rfl, rfl, rfl, rfl⟩
theorem isPl_3 : isPl 3 := ⟨rfl, by decide, rfl, rfl⟩
theorem isPl_6 : isPl 6 := ⟨rfl, by decide, rfl, rfl⟩
theorem isPi_16 : isPi 16 8 := ⟨rfl, by decide, rfl, fun i hi => by
  match i, hi with
  | 0, _ => exact isH_18
  | 1, _ => exact isH_25
  | 2, _ => exact isH_32
  | 3, _ => exact isH_39
  | 4, _ => exact isH_46
  | 5, _ => exact isH_53
  | 6, _ => exact isH_60
  | 7, _ => exact isH_67
  | n + 8, h => omega⟩
theorem isPi_74 : isPi 74 2 := ⟨rfl, by decide, rfl, fun i hi => by
  match i, hi with
  | 0, _ => exact isH_76
  | 1, _ => exact isH_83
  | n + 2, h => omega⟩
theorem inX1g : ∀ x ∈ u_ws RX1 TX1 4, x ∈ gw := fun x h => gw_in ((by decide +kernel : ∀ x ∈ u_ws RX1 TX1 4, x ∈ lw_tbl) x h) (List.all_eq_true.mp (by decide +kernel : (u_ws RX1 TX1 4).all goodWord = true) x h)
theorem inX2g : ∀ x ∈ u_ws RX2 TX2 11, x ∈ gw := fun x h => gw_in ((by decide +kernel : ∀ x ∈ u_ws RX2 TX2 11, x ∈ lw_tbl) x h) (List.all_eq_true.mp (by decide +kernel : (u_ws RX2 TX2 11).all goodWord = true) x h)
theorem inX3g : ∀ x ∈ u_ws RX3 TX3 3, x ∈ gw := fun x h => gw_in ((by decide +kernel : ∀ x ∈ u_ws RX3 TX3 3, x ∈ lw_tbl) x h) (List.all_eq_true.mp (by decide +kernel : (u_ws RX3 TX3 3).all goodWord = true) x h)
theorem inX4g : ∀ x ∈ u_ws RX4 TX4 7, x ∈ gw := fun x h => gw_in ((by decide +kernel : ∀ x ∈ u_ws RX4 TX4 7, x ∈ lw_tbl) x h) (List.all_eq_true.mp (by decide +kernel : (u_ws RX4 TX4 7).all goodWord = true) x h)
theorem inX5g : ∀ x ∈ u_ws RX5 TX5 7, x ∈ gw := fun x h => gw_in ((by decide +kernel : ∀ x ∈ u_ws RX5 TX5 7, x ∈ lw_tbl) x h) (List.all_eq_true.mp (by decide +kernel : (u_ws RX5 TX5 7).all goodWord = true) x h)
theorem inX6g : ∀ x ∈ u_ws RX6 TX6 4, x ∈ gw := fun x h => gw_in ((by decide +kernel : ∀ x ∈ u_ws RX6 TX6 4, x ∈ lw_tbl) x h) (List.all_eq_true.mp (by decide +kernel : (u_ws RX6 TX6 4).all goodWord = true) x h)
theorem inX7g : ∀ x ∈ u_ws RX7 TX7 2, x ∈ gw := fun x h => gw_in ((by decide +kernel : ∀ x ∈ u_ws RX7 TX7 2, x ∈ lw_tbl) x h) (List.all_eq_true.mp (by decide +kernel : (u_ws RX7 TX7 2).all goodWord = true) x h)
theorem inX8g : ∀ x ∈ u_ws RX8 TX8 9, x ∈ gw := fun x h => gw_in ((by decide +kernel : ∀ x ∈ u_ws RX8 TX8 9, x ∈ lw_tbl) x h) (List.all_eq_true.mp (by decide +kernel : (u_ws RX8 TX8 9).all goodWord = true) x h)
theorem inX9g : ∀ x ∈ u_ws RX9 TX9 16, x ∈ gw := fun x h => gw_in ((by decide +kernel : ∀ x ∈ u_ws RX9 TX9 16, x ∈ lw_tbl) x h) (List.all_eq_true.mp (by decide +kernel : (u_ws RX9 TX9 16).all goodWord = true) x h)
theorem g_X8_10 : fm_gf RX8 10 7 0 := ⟨RX8, TX8, 9, rfl, inX8g, by decide, Or.inl (gw_t 337 (by decide +kernel) rfl)⟩
theorem g_X8_19 : fm_gf RX8 19 7 1 := ⟨RX8, TX8, 9, rfl, inX8g, by decide, Or.inl (gw_t 338 (by decide +kernel) rfl)⟩
theorem g_X8_23 : fm_gf RX8 23 7 2 := ⟨RX8, TX8, 9, rfl, inX8g, by decide, Or.inl (gw_t 339 (by decide +kernel) rfl)⟩
theorem g_X8_31 : fm_gf RX8 31 7 3 := ⟨RX8, TX8, 9, rfl, inX8g, by decide, Or.inl (gw_t 340 (by decide +kernel) rfl)⟩
theorem g_X8_40 : fm_gf RX8 40 7 4 := ⟨RX8, TX8, 9, rfl, inX8g, by decide, Or.inl (gw_t 341 (by decide +kernel) rfl)⟩
theorem g_X8_44 : fm_gf RX8 44 7 5 := ⟨RX8, TX8, 9, rfl, inX8g, by decide, Or.inl (gw_t 342 (by decide +kernel) rfl)⟩
theorem g_X8_50 : fm_gf RX8 50 7 6 := ⟨RX8, TX8, 9, rfl, inX8g, by decide, Or.inl (gw_t 343 (by decide +kernel) rfl)⟩
theorem g_X8_59 : fm_gf RX8 59 7 7 := ⟨RX8, TX8, 9, rfl, inX8g, by decide, Or.inl (gw_t 344 (by decide +kernel) rfl)⟩
theorem g_X8_66 : fm_gf RX8 66 7 8 := ⟨RX8, TX8, 9, rfl, inX8g, by decide, Or.inl (gw_t 345 (by decide +kernel) rfl)⟩
theorem g_X8_93 : fm_gf RX8 93 3 3 := ⟨RX4, TX4, 7, rfl, inX4g, by decide, Or.inr ⟨"SnowSuits", fm_nest_t 57 (by decide +kernel) rfl⟩⟩
theorem g_X8_101 : fm_gf RX8 101 6 1 := ⟨RX7, TX7, 2, rfl, inX7g, by decide, Or.inr ⟨"SnowSuits", fm_nest_t 33 (by decide +kernel) rfl⟩⟩
theorem g_X8_103 : fm_gf RX8 103 3 2 := ⟨RX4, TX4, 7, rfl, inX4g, by decide, Or.inr ⟨"SnowSuits", fm_nest_t 54 (by decide +kernel) rfl⟩⟩
theorem g_X8_110 : fm_gf RX8 110 5 3 := ⟨RX6, TX6, 4, rfl, inX6g, by decide, Or.inr ⟨"SnowSuits", fm_nest_t 223 (by decide +kernel) rfl⟩⟩
theorem g_X8_117 : fm_gf RX8 117 3 0 := ⟨RX4, TX4, 7, rfl, inX4g, by decide, Or.inr ⟨"SnowSuits", fm_nest_t 47 (by decide +kernel) rfl⟩⟩
theorem g_X8_121 : fm_gf RX8 121 1 1 := ⟨RX2, TX2, 11, rfl, inX2g, by decide, Or.inr ⟨"SnowSuits", fm_nest_t 90 (by decide +kernel) rfl⟩⟩
theorem g_X8_124 : fm_gf RX8 124 1 2 := ⟨RX2, TX2, 11, rfl, inX2g, by decide, Or.inr ⟨"SnowSuits", fm_nest_t 92 (by decide +kernel) rfl⟩⟩
theorem g_X8_134 : fm_gf RX8 134 1 3 := ⟨RX2, TX2, 11, rfl, inX2g, by decide, Or.inr ⟨"SnowSuits", fm_nest_t 94 (by decide +kernel) rfl⟩⟩
theorem g_X8_140 : fm_gf RX8 140 1 4 := ⟨RX2, TX2, 11, rfl, inX2g, by decide, Or.inr ⟨"SnowSuits", fm_nest_t 96 (by decide +kernel) rfl⟩⟩
theorem g_X8_143 : fm_gf RX8 143 1 5 := ⟨RX2, TX2, 11, rfl, inX2g, by decide, Or.inr ⟨"SnowSuits", fm_nest_t 98 (by decide +kernel) rfl⟩⟩
theorem g_X8_170 : fm_gf RX8 170 1 8 := ⟨RX2, TX2, 11, rfl, inX2g, by decide, Or.inr ⟨"SnowSuits", fm_nest_t 105 (by decide +kernel) rfl⟩⟩
theorem g_X8_176 : fm_gf RX8 176 2 2 := ⟨RX3, TX3, 3, rfl, inX3g, by decide, Or.inr ⟨"SnowSuits", fm_nest_t 148 (by decide +kernel) rfl⟩⟩
theorem g_X8_193 : fm_gf RX8 193 0 2 := ⟨RX1, TX1, 4, rfl, inX1g, by decide, Or.inr ⟨"SnowSuits", fm_nest_t 169 (by decide +kernel) rfl⟩⟩
theorem g_X8_196 : fm_gf RX8 196 0 3 := ⟨RX1, TX1, 4, rfl, inX1g, by decide, Or.inr ⟨"SnowSuits", fm_nest_t 172 (by decide +kernel) rfl⟩⟩
theorem g_X8_202 : fm_gf RX8 202 4 4 := ⟨RX5, TX5, 7, rfl, inX5g, by decide, Or.inr ⟨"SnowSuits", fm_nest_t 194 (by decide +kernel) rfl⟩⟩
theorem g_X8_203 : fm_gf RX8 203 4 5 := ⟨RX5, TX5, 7, rfl, inX5g, by decide, Or.inr ⟨"SnowSuits", fm_nest_t 196 (by decide +kernel) rfl⟩⟩
theorem g_X8_204 : fm_gf RX8 204 4 3 := ⟨RX5, TX5, 7, rfl, inX5g, by decide, Or.inr ⟨"SnowSuits", fm_nest_t 192 (by decide +kernel) rfl⟩⟩
theorem g_X8_214 : fm_gf RX8 214 0 1 := ⟨RX1, TX1, 4, rfl, inX1g, by decide, Or.inr ⟨"SnowSuits", fm_nest_t 166 (by decide +kernel) rfl⟩⟩
theorem g_X8_220 : fm_gf RX8 220 3 1 := ⟨RX4, TX4, 7, rfl, inX4g, by decide, Or.inr ⟨"SnowSuits", fm_nest_t 51 (by decide +kernel) rfl⟩⟩
theorem g_X8_249 : fm_gf RX8 249 1 7 := ⟨RX2, TX2, 11, rfl, inX2g, by decide, Or.inr ⟨"SnowSuits", fm_nest_t 102 (by decide +kernel) rfl⟩⟩
theorem g_X8_253 : fm_gf RX8 253 1 9 := ⟨RX2, TX2, 11, rfl, inX2g, by decide, Or.inr ⟨"SnowSuits", fm_nest_t 107 (by decide +kernel) rfl⟩⟩
theorem g_X1_9 : fm_gf RX1 9 0 0 := ⟨RX1, TX1, 4, rfl, inX1g, by decide, Or.inl (gw_t 164 (by decide +kernel) rfl)⟩
theorem g_X1_20 : fm_gf RX1 20 0 1 := ⟨RX1, TX1, 4, rfl, inX1g, by decide, Or.inl (gw_t 165 (by decide +kernel) rfl)⟩
theorem g_X1_28 : fm_gf RX1 28 3 6 := ⟨RX4, TX4, 7, rfl, inX4g, by decide, Or.inr ⟨"SnowSuits", fm_nest_t 65 (by decide +kernel) rfl⟩⟩
theorem g_X1_34 : fm_gf RX1 34 1 8 := ⟨RX2, TX2, 11, rfl, inX2g, by decide, Or.inr ⟨"SnowSuits", fm_nest_t 104 (by decide +kernel) rfl⟩⟩
theorem g_X1_37 : fm_gf RX1 37 0 3 := ⟨RX1, TX1, 4, rfl, inX1g, by decide, Or.inl (gw_t 171 (by decide +kernel) rfl)⟩
theorem g_X1_74 : fm_gf RX1 74 3 5 := ⟨RX4, TX4, 7, rfl, inX4g, by decide, Or.inr ⟨"SnowSuits", fm_nest_t 62 (by decide +kernel) rfl⟩⟩
theorem g_X1_80 : fm_gf RX1 80 3 2 := ⟨RX4, TX4, 7, rfl, inX4g, by decide, Or.inr ⟨"SnowSuits", fm_nest_t 56 (by decide +kernel) rfl⟩⟩
theorem g_X1_83 : fm_gf RX1 83 1 7 := ⟨RX2, TX2, 11, rfl, inX2g, by decide, Or.inr ⟨"SnowSuits", fm_nest_t 101 (by decide +kernel) rfl⟩⟩
theorem g_X2_9 : fm_gf RX2 9 1 1 := ⟨RX2, TX2, 11, rfl, inX2g, by decide, Or.inl (gw_t 89 (by decide +kernel) rfl)⟩
theorem g_X2_15 : fm_gf RX2 15 1 2 := ⟨RX2, TX2, 11, rfl, inX2g, by decide, Or.inl (gw_t 91 (by decide +kernel) rfl)⟩
theorem g_X2_18 : fm_gf RX2 18 1 3 := ⟨RX2, TX2, 11, rfl, inX2g, by decide, Or.inl (gw_t 93 (by decide +kernel) rfl)⟩
theorem g_X2_21 : fm_gf RX2 21 1 4 := ⟨RX2, TX2, 11, rfl, inX2g, by decide, Or.inl (gw_t 95 (by decide +kernel) rfl)⟩
theorem g_X2_24 : fm_gf RX2 24 1 5 := ⟨RX2, TX2, 11, rfl, inX2g, by decide, Or.inl (gw_t 97 (by decide +kernel) rfl)⟩
theorem g_X2_27 : fm_gf RX2 27 1 6 := ⟨RX2, TX2, 11, rfl, inX2g, by decide, Or.inl (gw_t 99 (by decide +kernel) rfl)⟩
theorem g_X2_30 : fm_gf RX2 30 1 0 := ⟨RX2, TX2, 11, rfl, inX2g, by decide, Or.inl (gw_t 88 (by decide +kernel) rfl)⟩
theorem g_X2_34 : fm_gf RX2 34 1 7 := ⟨RX2, TX2, 11, rfl, inX2g, by decide, Or.inl (gw_t 100 (by decide +kernel) rfl)⟩
theorem g_X2_38 : fm_gf RX2 38 1 8 := ⟨RX2, TX2, 11, rfl, inX2g, by decide, Or.inl (gw_t 103 (by decide +kernel) rfl)⟩
theorem g_X2_41 : fm_gf RX2 41 1 9 := ⟨RX2, TX2, 11, rfl, inX2g, by decide, Or.inl (gw_t 106 (by decide +kernel) rfl)⟩
theorem g_X2_45 : fm_gf RX2 45 1 10 := ⟨RX2, TX2, 11, rfl, inX2g, by decide, Or.inl (gw_t 109 (by decide +kernel) rfl)⟩
theorem g_X2_54 : fm_gf RX2 54 3 2 := ⟨RX4, TX4, 7, rfl, inX4g, by decide, Or.inr ⟨"SnowSuits", fm_nest_t 55 (by decide +kernel) rfl⟩⟩
theorem g_X2_73 : fm_gf RX2 73 3 0 := ⟨RX4, TX4, 7, rfl, inX4g, by decide, Or.inr ⟨"SnowSuits", fm_nest_t 48 (by decide +kernel) rfl⟩⟩
theorem g_X2_76 : fm_gf RX2 76 3 1 := ⟨RX4, TX4, 7, rfl, inX4g, by decide, Or.inr ⟨"SnowSuits", fm_nest_t 50 (by decide +kernel) rfl⟩⟩
theorem g_X2_103 : fm_gf RX2 103 3 5 := ⟨RX4, TX4, 7, rfl, inX4g, by decide, Or.inr ⟨"SnowSuits", fm_nest_t 63 (by decide +kernel) rfl⟩⟩
theorem g_X2_116 : fm_gf RX2 116 3 4 := ⟨RX4, TX4, 7, rfl, inX4g, by decide, Or.inr ⟨"SnowSuits", fm_nest_t 60 (by decide +kernel) rfl⟩⟩
theorem g_X3_15 : fm_gf RX3 15 2 0 := ⟨RX3, TX3, 3, rfl, inX3g, by decide, Or.inl (gw_t 145 (by decide +kernel) rfl)⟩
theorem g_X3_24 : fm_gf RX3 24 2 2 := ⟨RX3, TX3, 3, rfl, inX3g, by decide, Or.inl (gw_t 147 (by decide +kernel) rfl)⟩
theorem g_X3_28 : fm_gf RX3 28 2 1 := ⟨RX3, TX3, 3, rfl, inX3g, by decide, Or.inl (gw_t 146 (by decide +kernel) rfl)⟩
theorem g_X4_9 : fm_gf RX4 9 3 0 := ⟨RX4, TX4, 7, rfl, inX4g, by decide, Or.inl (gw_t 46 (by decide +kernel) rfl)⟩
theorem g_X4_15 : fm_gf RX4 15 3 1 := ⟨RX4, TX4, 7, rfl, inX4g, by decide, Or.inl (gw_t 49 (by decide +kernel) rfl)⟩
theorem g_X4_18 : fm_gf RX4 18 3 2 := ⟨RX4, TX4, 7, rfl, inX4g, by decide, Or.inl (gw_t 52 (by decide +kernel) rfl)⟩
theorem g_X4_22 : fm_gf RX4 22 3 3 := ⟨RX4, TX4, 7, rfl, inX4g, by decide, Or.inl (gw_t 58 (by decide +kernel) rfl)⟩
theorem g_X4_25 : fm_gf RX4 25 3 4 := ⟨RX4, TX4, 7, rfl, inX4g, by decide, Or.inl (gw_t 59 (by decide +kernel) rfl)⟩
theorem g_X4_28 : fm_gf RX4 28 3 5 := ⟨RX4, TX4, 7, rfl, inX4g, by decide, Or.inl (gw_t 61 (by decide +kernel) rfl)⟩
theorem g_X4_31 : fm_gf RX4 31 3 6 := ⟨RX4, TX4, 7, rfl, inX4g, by decide, Or.inl (gw_t 64 (by decide +kernel) rfl)⟩
theorem g_X5_9 : fm_gf RX5 9 4 2 := ⟨RX5, TX5, 7, rfl, inX5g, by decide, Or.inl (gw_t 190 (by decide +kernel) rfl)⟩
theorem g_X5_15 : fm_gf RX5 15 4 3 := ⟨RX5, TX5, 7, rfl, inX5g, by decide, Or.inl (gw_t 191 (by decide +kernel) rfl)⟩
theorem g_X5_18 : fm_gf RX5 18 4 6 := ⟨RX5, TX5, 7, rfl, inX5g, by decide, Or.inl (gw_t 197 (by decide +kernel) rfl)⟩
theorem g_X5_22 : fm_gf RX5 22 4 0 := ⟨RX5, TX5, 7, rfl, inX5g, by decide, Or.inl (gw_t 188 (by decide +kernel) rfl)⟩
theorem g_X5_26 : fm_gf RX5 26 4 1 := ⟨RX5, TX5, 7, rfl, inX5g, by decide, Or.inl (gw_t 189 (by decide +kernel) rfl)⟩
theorem g_X5_30 : fm_gf RX5 30 1 10 := ⟨RX2, TX2, 11, rfl, inX2g, by decide, Or.inr ⟨"SnowSuits", fm_nest_t 108 (by decide +kernel) rfl⟩⟩
theorem g_X5_35 : fm_gf RX5 35 4 4 := ⟨RX5, TX5, 7, rfl, inX5g, by decide, Or.inl (gw_t 193 (by decide +kernel) rfl)⟩
theorem g_X5_38 : fm_gf RX5 38 4 5 := ⟨RX5, TX5, 7, rfl, inX5g, by decide, Or.inl (gw_t 195 (by decide +kernel) rfl)⟩
theorem g_X5_68 : fm_gf RX5 68 0 2 := ⟨RX1, TX1, 4, rfl, inX1g, by decide, Or.inr ⟨"SnowSuits", fm_nest_t 167 (by decide +kernel) rfl⟩⟩
theorem g_X5_69 : fm_gf RX5 69 0 3 := ⟨RX1, TX1, 4, rfl, inX1g, by decide, Or.inr ⟨"SnowSuits", fm_nest_t 170 (by decide +kernel) rfl⟩⟩
theorem g_X5_73 : fm_gf RX5 73 3 2 := ⟨RX4, TX4, 7, rfl, inX4g, by decide, Or.inr ⟨"SnowSuits", fm_nest_t 53 (by decide +kernel) rfl⟩⟩
theorem g_X6_9 : fm_gf RX6 9 5 0 := ⟨RX6, TX6, 4, rfl, inX6g, by decide, Or.inl (gw_t 219 (by decide +kernel) rfl)⟩
theorem g_X6_13 : fm_gf RX6 13 5 1 := ⟨RX6, TX6, 4, rfl, inX6g, by decide, Or.inl (gw_t 220 (by decide +kernel) rfl)⟩
theorem g_X6_16 : fm_gf RX6 16 5 2 := ⟨RX6, TX6, 4, rfl, inX6g, by decide, Or.inl (gw_t 221 (by decide +kernel) rfl)⟩
theorem g_X6_20 : fm_gf RX6 20 5 3 := ⟨RX6, TX6, 4, rfl, inX6g, by decide, Or.inl (gw_t 222 (by decide +kernel) rfl)⟩
theorem g_X7_9 : fm_gf RX7 9 6 0 := ⟨RX7, TX7, 2, rfl, inX7g, by decide, Or.inl (gw_t 31 (by decide +kernel) rfl)⟩
theorem g_X7_15 : fm_gf RX7 15 6 1 := ⟨RX7, TX7, 2, rfl, inX7g, by decide, Or.inl (gw_t 32 (by decide +kernel) rfl)⟩
theorem g_X9_7 : fm_gf RX9 7 8 0 := ⟨RX9, TX9, 16, rfl, inX9g, by decide, Or.inl (gw_t 730 (by decide +kernel) rfl)⟩
theorem g_X9_13 : fm_gf RX9 13 8 2 := ⟨RX9, TX9, 16, rfl, inX9g, by decide, Or.inl (gw_t 732 (by decide +kernel) rfl)⟩
theorem g_X9_16 : fm_gf RX9 16 8 3 := ⟨RX9, TX9, 16, rfl, inX9g, by decide, Or.inl (gw_t 733 (by decide +kernel) rfl)⟩
theorem g_X9_19 : fm_gf RX9 19 8 4 := ⟨RX9, TX9, 16, rfl, inX9g, by decide, Or.inl (gw_t 734 (by decide +kernel) rfl)⟩
theorem g_X9_22 : fm_gf RX9 22 8 5 := ⟨RX9, TX9, 16, rfl, inX9g, by decide, Or.inl (gw_t 735 (by decide +kernel) rfl)⟩
theorem g_X9_25 : fm_gf RX9 25 8 7 := ⟨RX9, TX9, 16, rfl, inX9g, by decide, Or.inl (gw_t 737 (by decide +kernel) rfl)⟩
theorem g_X9_28 : fm_gf RX9 28 8 9 := ⟨RX9, TX9, 16, rfl, inX9g, by decide, Or.inl (gw_t 739 (by decide +kernel) rfl)⟩
theorem g_X9_31 : fm_gf RX9 31 8 12 := ⟨RX9, TX9, 16, rfl, inX9g, by decide, Or.inl (gw_t 742 (by decide +kernel) rfl)⟩
theorem g_X9_34 : fm_gf RX9 34 8 13 := ⟨RX9, TX9, 16, rfl, inX9g, by decide, Or.inl (gw_t 743 (by decide +kernel) rfl)⟩
theorem g_X9_37 : fm_gf RX9 37 8 15 := ⟨RX9, TX9, 16, rfl, inX9g, by decide, Or.inl (gw_t 745 (by decide +kernel) rfl)⟩
theorem g_X9_54 : fm_gf RX9 54 8 1 := ⟨RX9, TX9, 16, rfl, inX9g, by decide, Or.inl (gw_t 731 (by decide +kernel) rfl)⟩
theorem g_X9_58 : fm_gf RX9 58 8 11 := ⟨RX9, TX9, 16, rfl, inX9g, by decide, Or.inl (gw_t 741 (by decide +kernel) rfl)⟩
theorem g_X9_87 : fm_gf RX9 87 8 6 := ⟨RX9, TX9, 16, rfl, inX9g, by decide, Or.inl (gw_t 736 (by decide +kernel) rfl)⟩
theorem g_X9_90 : fm_gf RX9 90 8 8 := ⟨RX9, TX9, 16, rfl, inX9g, by decide, Or.inl (gw_t 738 (by decide +kernel) rfl)⟩
theorem g_X9_93 : fm_gf RX9 93 8 10 := ⟨RX9, TX9, 16, rfl, inX9g, by decide, Or.inl (gw_t 740 (by decide +kernel) rfl)⟩
theorem g_X9_143 : fm_gf RX9 143 8 14 := ⟨RX9, TX9, 16, rfl, inX9g, by decide, Or.inl (gw_t 744 (by decide +kernel) rfl)⟩
theorem p_X8_110 : fm_pf RX8 110 5 3 .int := ⟨RX6, TX6, 4, tyX6, rfl, inX6g, by decide, Or.inr ⟨"SnowSuits", fm_nest_t 223 (by decide +kernel) rfl⟩, tyX6_ok, nmX6, rfl, by decide +kernel⟩
theorem p_X1_37 : fm_pf RX1 37 0 3 .int := ⟨RX1, TX1, 4, tyX1, rfl, inX1g, by decide, Or.inl (gw_t 171 (by decide +kernel) rfl), tyX1_ok, nmX1, rfl, by decide +kernel⟩
theorem p_X1_47 : fm_pf RX1 47 0 2 .int := ⟨RX1, TX1, 4, tyX1, rfl, inX1g, by decide, Or.inl (gw_t 168 (by decide +kernel) rfl), tyX1_ok, nmX1, rfl, by decide +kernel⟩
theorem p_X2_34 : fm_pf RX2 34 1 7 .int := ⟨RX2, TX2, 11, tyX2, rfl, inX2g, by decide, Or.inl (gw_t 100 (by decide +kernel) rfl), tyX2_ok, nmX2, rfl, by decide +kernel⟩
theorem p_X2_38 : fm_pf RX2 38 1 8 .int := ⟨RX2, TX2, 11, tyX2, rfl, inX2g, by decide, Or.inl (gw_t 103 (by decide +kernel) rfl), tyX2_ok, nmX2, rfl, by decide +kernel⟩
theorem p_X2_41 : fm_pf RX2 41 1 9 .boolean := ⟨RX2, TX2, 11, tyX2, rfl, inX2g, by decide, Or.inl (gw_t 106 (by decide +kernel) rfl), tyX2_ok, nmX2, rfl, by decide +kernel⟩
theorem p_X2_45 : fm_pf RX2 45 1 10 .int := ⟨RX2, TX2, 11, tyX2, rfl, inX2g, by decide, Or.inl (gw_t 109 (by decide +kernel) rfl), tyX2_ok, nmX2, rfl, by decide +kernel⟩
theorem p_X3_24 : fm_pf RX3 24 2 2 .int := ⟨RX3, TX3, 3, tyX3, rfl, inX3g, by decide, Or.inl (gw_t 147 (by decide +kernel) rfl), tyX3_ok, nmX3, rfl, by decide +kernel⟩
theorem p_X3_28 : fm_pf RX3 28 2 1 .int := ⟨RX3, TX3, 3, tyX3, rfl, inX3g, by decide, Or.inl (gw_t 146 (by decide +kernel) rfl), tyX3_ok, nmX3, rfl, by decide +kernel⟩
theorem p_X4_18 : fm_pf RX4 18 3 2 .int := ⟨RX4, TX4, 7, tyX4, rfl, inX4g, by decide, Or.inl (gw_t 52 (by decide +kernel) rfl), tyX4_ok, nmX4, rfl, by decide +kernel⟩
theorem p_X4_22 : fm_pf RX4 22 3 3 .int := ⟨RX4, TX4, 7, tyX4, rfl, inX4g, by decide, Or.inl (gw_t 58 (by decide +kernel) rfl), tyX4_ok, nmX4, rfl, by decide +kernel⟩
theorem p_X4_25 : fm_pf RX4 25 3 4 .int := ⟨RX4, TX4, 7, tyX4, rfl, inX4g, by decide, Or.inl (gw_t 59 (by decide +kernel) rfl), tyX4_ok, nmX4, rfl, by decide +kernel⟩
theorem p_X4_28 : fm_pf RX4 28 3 5 .int := ⟨RX4, TX4, 7, tyX4, rfl, inX4g, by decide, Or.inl (gw_t 61 (by decide +kernel) rfl), tyX4_ok, nmX4, rfl, by decide +kernel⟩
theorem p_X4_31 : fm_pf RX4 31 3 6 .int := ⟨RX4, TX4, 7, tyX4, rfl, inX4g, by decide, Or.inl (gw_t 64 (by decide +kernel) rfl), tyX4_ok, nmX4, rfl, by decide +kernel⟩
theorem p_X5_18 : fm_pf RX5 18 4 6 .int := ⟨RX5, TX5, 7, tyX5, rfl, inX5g, by decide, Or.inl (gw_t 197 (by decide +kernel) rfl), tyX5_ok, nmX5, rfl, by decide +kernel⟩
theorem p_X5_35 : fm_pf RX5 35 4 4 .int := ⟨RX5, TX5, 7, tyX5, rfl, inX5g, by decide, Or.inl (gw_t 193 (by decide +kernel) rfl), tyX5_ok, nmX5, rfl, by decide +kernel⟩
theorem p_X5_38 : fm_pf RX5 38 4 5 .int := ⟨RX5, TX5, 7, tyX5, rfl, inX5g, by decide, Or.inl (gw_t 195 (by decide +kernel) rfl), tyX5_ok, nmX5, rfl, by decide +kernel⟩
theorem p_X6_20 : fm_pf RX6 20 5 3 .int := ⟨RX6, TX6, 4, tyX6, rfl, inX6g, by decide, Or.inl (gw_t 222 (by decide +kernel) rfl), tyX6_ok, nmX6, rfl, by decide +kernel⟩
theorem p_X7_15 : fm_pf RX7 15 6 1 .int := ⟨RX7, TX7, 2, tyX7, rfl, inX7g, by decide, Or.inl (gw_t 32 (by decide +kernel) rfl), tyX7_ok, nmX7, rfl, by decide +kernel⟩
theorem p_X9_54 : fm_pf RX9 54 8 1 .int := ⟨RX9, TX9, 16, tyX9, rfl, inX9g, by decide, Or.inl (gw_t 731 (by decide +kernel) rfl), tyX9_ok, nmX9, rfl, by decide +kernel⟩
theorem p_X9_58 : fm_pf RX9 58 8 11 .int := ⟨RX9, TX9, 16, tyX9, rfl, inX9g, by decide, Or.inl (gw_t 741 (by decide +kernel) rfl), tyX9_ok, nmX9, rfl, by decide +kernel⟩
theorem p_X9_87 : fm_pf RX9 87 8 6 .int := ⟨RX9, TX9, 16, tyX9, rfl, inX9g, by decide, Or.inl (gw_t 736 (by decide +kernel) rfl), tyX9_ok, nmX9, rfl, by decide +kernel⟩
theorem p_X9_90 : fm_pf RX9 90 8 8 .int := ⟨RX9, TX9, 16, tyX9, rfl, inX9g, by decide, Or.inl (gw_t 738 (by decide +kernel) rfl), tyX9_ok, nmX9, rfl, by decide +kernel⟩
theorem p_X9_93 : fm_pf RX9 93 8 10 .int := ⟨RX9, TX9, 16, tyX9, rfl, inX9g, by decide, Or.inl (gw_t 740 (by decide +kernel) rfl), tyX9_ok, nmX9, rfl, by decide +kernel⟩
theorem p_X9_143 : fm_pf RX9 143 8 14 .int := ⟨RX9, TX9, 16, tyX9, rfl, inX9g, by decide, Or.inl (gw_t 744 (by decide +kernel) rfl), tyX9_ok, nmX9, rfl, by decide +kernel⟩
theorem wc_X0_choose : Cond.code yX0_choose cX0_choose 4 (some .int) ∈ gw := (gw_t 663 (by decide +kernel) rfl)
theorem wt_X0_choose : Cond.static yX0_choose ∈ gw := (gw_t 662 (by decide +kernel) rfl)
theorem wc_X0_commonDivisor : Cond.code yX0_commonDivisor cX0_commonDivisor 6 (some .int) ∈ gw := (gw_t 670 (by decide +kernel) rfl)
theorem wt_X0_commonDivisor : Cond.static yX0_commonDivisor ∈ gw := (gw_t 669 (by decide +kernel) rfl)
theorem wc_X0_power : Cond.code yX0_power cX0_power 4 (some .int) ∈ gw := (gw_t 666 (by decide +kernel) rfl)
theorem wt_X0_power : Cond.static yX0_power ∈ gw := (gw_t 665 (by decide +kernel) rfl)
theorem wc_X0_waysOfSoMany : Cond.code yX0_waysOfSoMany cX0_waysOfSoMany 5 (some .int) ∈ gw := (gw_t 660 (by decide +kernel) rfl)
theorem wt_X0_waysOfSoMany : Cond.static yX0_waysOfSoMany ∈ gw := (gw_t 659 (by decide +kernel) rfl)
theorem wc_X1_doorIsDue : Cond.code yX1_doorIsDue cX1_doorIsDue 3 (some .boolean) ∈ gw := (gw_t 552 (by decide +kernel) rfl)
theorem wi_X1_doorIsDue : Cond.instanceMethod yX1_doorIsDue ∈ gw := (gw_t 551 (by decide +kernel) rfl)
theorem ws_X1_doorIsDue : Cond.selects (yX1_doorIsDue).cls yX1_doorIsDue yX1_doorIsDue ∈ gw := (gw_s 11 (by decide +kernel) rfl)
theorem wc_X1_draw : Cond.code yX1_draw cX1_draw 4 (some .int) ∈ gw := (gw_t 681 (by decide +kernel) rfl)
theorem wt_X1_draw : Cond.static yX1_draw ∈ gw := (gw_t 680 (by decide +kernel) rfl)
theorem wc_X1_dressByRow : Cond.code yX1_dressByRow cX1_dressByRow 3 none ∈ gw := (gw_t 568 (by decide +kernel) rfl)
theorem wi_X1_dressByRow : Cond.instanceMethod yX1_dressByRow ∈ gw := (gw_t 567 (by decide +kernel) rfl)
theorem ws_X1_dressByRow : Cond.selects (yX1_dressByRow).cls yX1_dressByRow yX1_dressByRow ∈ gw := (gw_s 12 (by decide +kernel) rfl)
theorem wc_X1_firstBare : Cond.code yX1_firstBare cX1_firstBare 3 (some .int) ∈ gw := (gw_t 573 (by decide +kernel) rfl)
theorem wi_X1_firstBare : Cond.instanceMethod yX1_firstBare ∈ gw := (gw_t 572 (by decide +kernel) rfl)
theorem ws_X1_firstBare : Cond.selects (yX1_firstBare).cls yX1_firstBare yX1_firstBare ∈ gw := (gw_s 13 (by decide +kernel) rfl)
theorem wc_X1_goByDraws : Cond.code yX1_goByDraws cX1_goByDraws 5 none ∈ gw := (gw_t 678 (by decide +kernel) rfl)
theorem wi_X1_goByDraws : Cond.instanceMethod yX1_goByDraws ∈ gw := (gw_t 676 (by decide +kernel) rfl)
theorem ws_X1_goByDraws : Cond.selects (yX1_goByDraws).cls yX1_goByDraws yX1_goByDraws ∈ gw := (gw_t 677 (by decide +kernel) rfl)
theorem wc_X1_goOn : Cond.code yX1_goOn cX1_goOn 4 none ∈ gw := (gw_t 544 (by decide +kernel) rfl)
theorem wi_X1_goOn : Cond.instanceMethod yX1_goOn ∈ gw := (gw_t 542 (by decide +kernel) rfl)
theorem ws_X1_goOn : Cond.selects (yX1_goOn).cls yX1_goOn yX1_goOn ∈ gw := (gw_t 543 (by decide +kernel) rfl)
theorem wc_X1_minutesTillLunch : Cond.code yX1_minutesTillLunch cX1_minutesTillLunch 1 (some .int) ∈ gw := (gw_t 540 (by decide +kernel) rfl)
theorem wi_X1_minutesTillLunch : Cond.instanceMethod yX1_minutesTillLunch ∈ gw := (gw_t 538 (by decide +kernel) rfl)
theorem ws_X1_minutesTillLunch : Cond.selects (yX1_minutesTillLunch).cls yX1_minutesTillLunch yX1_minutesTillLunch ∈ gw := (gw_t 539 (by decide +kernel) rfl)
theorem wc_X1_openDoors : Cond.code yX1_openDoors cX1_openDoors 2 none ∈ gw := (gw_t 548 (by decide +kernel) rfl)
theorem wi_X1_openDoors : Cond.instanceMethod yX1_openDoors ∈ gw := (gw_t 547 (by decide +kernel) rfl)
theorem ws_X1_openDoors : Cond.selects (yX1_openDoors).cls yX1_openDoors yX1_openDoors ∈ gw := (gw_s 10 (by decide +kernel) rfl)
theorem wc_X1_startFrom : Cond.code yX1_startFrom cX1_startFrom 2 none ∈ gw := (gw_t 533 (by decide +kernel) rfl)
theorem wi_X1_startFrom : Cond.instanceMethod yX1_startFrom ∈ gw := (gw_t 531 (by decide +kernel) rfl)
theorem ws_X1_startFrom : Cond.selects (yX1_startFrom).cls yX1_startFrom yX1_startFrom ∈ gw := (gw_t 532 (by decide +kernel) rfl)
theorem wc_X2_allAreOut : Cond.code yX2_allAreOut cX2_allAreOut 1 (some .boolean) ∈ gw := (gw_t 564 (by decide +kernel) rfl)
theorem wi_X2_allAreOut : Cond.instanceMethod yX2_allAreOut ∈ gw := (gw_t 562 (by decide +kernel) rfl)
theorem ws_X2_allAreOut : Cond.selects (yX2_allAreOut).cls yX2_allAreOut yX2_allAreOut ∈ gw := (gw_t 563 (by decide +kernel) rfl)
theorem wc_X2_boiledInAll : Cond.code yX2_boiledInAll cX2_boiledInAll 3 (some .int) ∈ gw := (gw_t 707 (by decide +kernel) rfl)
theorem wi_X2_boiledInAll : Cond.instanceMethod yX2_boiledInAll ∈ gw := (gw_t 705 (by decide +kernel) rfl)
theorem ws_X2_boiledInAll : Cond.selects (yX2_boiledInAll).cls yX2_boiledInAll yX2_boiledInAll ∈ gw := (gw_t 706 (by decide +kernel) rfl)
theorem wc_X2_canDress : Cond.code yX2_canDress cX2_canDress 3 (some .boolean) ∈ gw := (gw_t 428 (by decide +kernel) rfl)
theorem wi_X2_canDress : Cond.instanceMethod yX2_canDress ∈ gw := (gw_t 426 (by decide +kernel) rfl)
theorem ws_X2_canDress : Cond.selects (yX2_canDress).cls yX2_canDress yX2_canDress ∈ gw := (gw_t 427 (by decide +kernel) rfl)
theorem wc_X2_canLayThings : Cond.code yX2_canLayThings cX2_canLayThings 2 (some .boolean) ∈ gw := (gw_t 462 (by decide +kernel) rfl)
theorem wi_X2_canLayThings : Cond.instanceMethod yX2_canLayThings ∈ gw := (gw_t 460 (by decide +kernel) rfl)
theorem ws_X2_canLayThings : Cond.selects (yX2_canLayThings).cls yX2_canLayThings yX2_canLayThings ∈ gw := (gw_t 461 (by decide +kernel) rfl)
theorem wc_X2_canOpenDoor : Cond.code yX2_canOpenDoor cX2_canOpenDoor 2 (some .boolean) ∈ gw := (gw_t 479 (by decide +kernel) rfl)
theorem wi_X2_canOpenDoor : Cond.instanceMethod yX2_canOpenDoor ∈ gw := (gw_t 477 (by decide +kernel) rfl)
theorem ws_X2_canOpenDoor : Cond.selects (yX2_canOpenDoor).cls yX2_canOpenDoor yX2_canOpenDoor ∈ gw := (gw_t 478 (by decide +kernel) rfl)
theorem wc_X2_copyFrom : Cond.code yX2_copyFrom cX2_copyFrom 2 none ∈ gw := (gw_t 444 (by decide +kernel) rfl)
theorem wi_X2_copyFrom : Cond.instanceMethod yX2_copyFrom ∈ gw := (gw_t 442 (by decide +kernel) rfl)
theorem ws_X2_copyFrom : Cond.selects (yX2_copyFrom).cls yX2_copyFrom yX2_copyFrom ∈ gw := (gw_t 443 (by decide +kernel) rfl)
theorem wc_X2_countChildren : Cond.code yX2_countChildren cX2_countChildren 4 (some .int) ∈ gw := (gw_t 483 (by decide +kernel) rfl)
theorem wi_X2_countChildren : Cond.instanceMethod yX2_countChildren ∈ gw := (gw_t 481 (by decide +kernel) rfl)
theorem ws_X2_countChildren : Cond.selects (yX2_countChildren).cls yX2_countChildren yX2_countChildren ∈ gw := (gw_t 482 (by decide +kernel) rfl)
theorem wc_X2_countWomen : Cond.code yX2_countWomen cX2_countWomen 4 (some .int) ∈ gw := (gw_t 466 (by decide +kernel) rfl)
theorem wi_X2_countWomen : Cond.instanceMethod yX2_countWomen ∈ gw := (gw_t 464 (by decide +kernel) rfl)
theorem ws_X2_countWomen : Cond.selects (yX2_countWomen).cls yX2_countWomen yX2_countWomen ∈ gw := (gw_t 465 (by decide +kernel) rfl)
theorem wc_X2_dress : Cond.code yX2_dress cX2_dress 3 (some .int) ∈ gw := (gw_t 452 (by decide +kernel) rfl)
theorem wi_X2_dress : Cond.instanceMethod yX2_dress ∈ gw := (gw_t 450 (by decide +kernel) rfl)
theorem ws_X2_dress : Cond.selects (yX2_dress).cls yX2_dress yX2_dress ∈ gw := (gw_t 451 (by decide +kernel) rfl)
theorem wc_X2_finish : Cond.code yX2_finish cX2_finish 2 none ∈ gw := (gw_t 516 (by decide +kernel) rfl)
theorem wi_X2_finish : Cond.instanceMethod yX2_finish ∈ gw := (gw_t 515 (by decide +kernel) rfl)
theorem ws_X2_finish : Cond.selects (yX2_finish).cls yX2_finish yX2_finish ∈ gw := (gw_s 9 (by decide +kernel) rfl)
theorem wc_X2_goMinute : Cond.code yX2_goMinute cX2_goMinute 2 (some .int) ∈ gw := (gw_t 504 (by decide +kernel) rfl)
theorem wi_X2_goMinute : Cond.instanceMethod yX2_goMinute ∈ gw := (gw_t 502 (by decide +kernel) rfl)
theorem ws_X2_goMinute : Cond.selects (yX2_goMinute).cls yX2_goMinute yX2_goMinute ∈ gw := (gw_t 503 (by decide +kernel) rfl)
theorem wc_X2_hasWoman : Cond.code yX2_hasWoman cX2_hasWoman 2 (some .boolean) ∈ gw := (gw_t 420 (by decide +kernel) rfl)
theorem wi_X2_hasWoman : Cond.instanceMethod yX2_hasWoman ∈ gw := (gw_t 418 (by decide +kernel) rfl)
theorem ws_X2_hasWoman : Cond.selects (yX2_hasWoman).cls yX2_hasWoman yX2_hasWoman ∈ gw := (gw_t 419 (by decide +kernel) rfl)
theorem wc_X2_heat : Cond.code yX2_heat cX2_heat 4 (some .int) ∈ gw := (gw_t 508 (by decide +kernel) rfl)
theorem wi_X2_heat : Cond.instanceMethod yX2_heat ∈ gw := (gw_t 507 (by decide +kernel) rfl)
theorem ws_X2_heat : Cond.selects (yX2_heat).cls yX2_heat yX2_heat ∈ gw := (gw_s 7 (by decide +kernel) rfl)
theorem wc_X2_highestFree : Cond.code yX2_highestFree cX2_highestFree 2 (some .int) ∈ gw := (gw_t 559 (by decide +kernel) rfl)
theorem wi_X2_highestFree : Cond.instanceMethod yX2_highestFree ∈ gw := (gw_t 557 (by decide +kernel) rfl)
theorem ws_X2_highestFree : Cond.selects (yX2_highestFree).cls yX2_highestFree yX2_highestFree ∈ gw := (gw_t 558 (by decide +kernel) rfl)
theorem wc_X2_hottest : Cond.code yX2_hottest cX2_hottest 4 (some .int) ∈ gw := (gw_t 496 (by decide +kernel) rfl)
theorem wi_X2_hottest : Cond.instanceMethod yX2_hottest ∈ gw := (gw_t 495 (by decide +kernel) rfl)
theorem ws_X2_hottest : Cond.selects (yX2_hottest).cls yX2_hottest yX2_hottest ∈ gw := (gw_s 6 (by decide +kernel) rfl)
theorem wc_X2_isBare : Cond.code yX2_isBare cX2_isBare 2 (some .boolean) ∈ gw := (gw_t 436 (by decide +kernel) rfl)
theorem wi_X2_isBare : Cond.instanceMethod yX2_isBare ∈ gw := (gw_t 434 (by decide +kernel) rfl)
theorem ws_X2_isBare : Cond.selects (yX2_isBare).cls yX2_isBare yX2_isBare ∈ gw := (gw_t 435 (by decide +kernel) rfl)
theorem wc_X2_isFree : Cond.code yX2_isFree cX2_isFree 2 (some .boolean) ∈ gw := (gw_t 432 (by decide +kernel) rfl)
theorem wi_X2_isFree : Cond.instanceMethod yX2_isFree ∈ gw := (gw_t 430 (by decide +kernel) rfl)
theorem ws_X2_isFree : Cond.selects (yX2_isFree).cls yX2_isFree yX2_isFree ∈ gw := (gw_t 431 (by decide +kernel) rfl)
theorem wc_X2_layThings : Cond.code yX2_layThings cX2_layThings 2 (some .int) ∈ gw := (gw_t 470 (by decide +kernel) rfl)
theorem wi_X2_layThings : Cond.instanceMethod yX2_layThings ∈ gw := (gw_t 468 (by decide +kernel) rfl)
theorem ws_X2_layThings : Cond.selects (yX2_layThings).cls yX2_layThings yX2_layThings ∈ gw := (gw_t 469 (by decide +kernel) rfl)
theorem wc_X2_lowestFree : Cond.code yX2_lowestFree cX2_lowestFree 2 (some .int) ∈ gw := (gw_t 623 (by decide +kernel) rfl)
theorem wi_X2_lowestFree : Cond.instanceMethod yX2_lowestFree ∈ gw := (gw_t 621 (by decide +kernel) rfl)
theorem ws_X2_lowestFree : Cond.selects (yX2_lowestFree).cls yX2_lowestFree yX2_lowestFree ∈ gw := (gw_t 622 (by decide +kernel) rfl)
theorem wc_X2_minutesToDress : Cond.code yX2_minutesToDress cX2_minutesToDress 2 (some .int) ∈ gw := (gw_t 408 (by decide +kernel) rfl)
theorem wi_X2_minutesToDress : Cond.instanceMethod yX2_minutesToDress ∈ gw := (gw_t 406 (by decide +kernel) rfl)
theorem ws_X2_minutesToDress : Cond.selects (yX2_minutesToDress).cls yX2_minutesToDress yX2_minutesToDress ∈ gw := (gw_t 407 (by decide +kernel) rfl)
theorem wc_X2_oneWomanLeft : Cond.code yX2_oneWomanLeft cX2_oneWomanLeft 1 (some .boolean) ∈ gw := (gw_t 492 (by decide +kernel) rfl)
theorem wi_X2_oneWomanLeft : Cond.instanceMethod yX2_oneWomanLeft ∈ gw := (gw_t 490 (by decide +kernel) rfl)
theorem ws_X2_oneWomanLeft : Cond.selects (yX2_oneWomanLeft).cls yX2_oneWomanLeft yX2_oneWomanLeft ∈ gw := (gw_t 491 (by decide +kernel) rfl)
theorem wc_X2_openDoor : Cond.code yX2_openDoor cX2_openDoor 6 (some .int) ∈ gw := (gw_t 487 (by decide +kernel) rfl)
theorem wi_X2_openDoor : Cond.instanceMethod yX2_openDoor ∈ gw := (gw_t 485 (by decide +kernel) rfl)
theorem ws_X2_openDoor : Cond.selects (yX2_openDoor).cls yX2_openDoor yX2_openDoor ∈ gw := (gw_t 486 (by decide +kernel) rfl)
theorem wc_X2_startAgain : Cond.code yX2_startAgain cX2_startAgain 3 none ∈ gw := (gw_t 336 (by decide +kernel) rfl)
theorem wi_X2_startAgain : Cond.instanceMethod yX2_startAgain ∈ gw := (gw_t 334 (by decide +kernel) rfl)
theorem ws_X2_startAgain : Cond.selects (yX2_startAgain).cls yX2_startAgain yX2_startAgain ∈ gw := (gw_t 335 (by decide +kernel) rfl)
theorem wc_X2_whoDresses : Cond.code yX2_whoDresses cX2_whoDresses 3 (some .int) ∈ gw := (gw_t 404 (by decide +kernel) rfl)
theorem wi_X2_whoDresses : Cond.instanceMethod yX2_whoDresses ∈ gw := (gw_t 402 (by decide +kernel) rfl)
theorem ws_X2_whoDresses : Cond.selects (yX2_whoDresses).cls yX2_whoDresses yX2_whoDresses ∈ gw := (gw_t 403 (by decide +kernel) rfl)
theorem wc_X2_whoIsOut : Cond.code yX2_whoIsOut cX2_whoIsOut 3 (some .int) ∈ gw := (gw_t 690 (by decide +kernel) rfl)
theorem wi_X2_whoIsOut : Cond.instanceMethod yX2_whoIsOut ∈ gw := (gw_t 688 (by decide +kernel) rfl)
theorem ws_X2_whoIsOut : Cond.selects (yX2_whoIsOut).cls yX2_whoIsOut yX2_whoIsOut ∈ gw := (gw_t 689 (by decide +kernel) rfl)
theorem wc_X2_work : Cond.code yX2_work cX2_work 2 none ∈ gw := (gw_t 512 (by decide +kernel) rfl)
theorem wi_X2_work : Cond.instanceMethod yX2_work ∈ gw := (gw_t 511 (by decide +kernel) rfl)
theorem ws_X2_work : Cond.selects (yX2_work).cls yX2_work yX2_work ∈ gw := (gw_s 8 (by decide +kernel) rfl)
theorem wc_X3_clear : Cond.code yX3_clear cX3_clear 1 none ∈ gw := (gw_t 392 (by decide +kernel) rfl)
theorem wi_X3_clear : Cond.instanceMethod yX3_clear ∈ gw := (gw_t 390 (by decide +kernel) rfl)
theorem ws_X3_clear : Cond.selects (yX3_clear).cls yX3_clear yX3_clear ∈ gw := (gw_t 391 (by decide +kernel) rfl)
theorem wc_X3_popInto : Cond.code yX3_popInto cX3_popInto 2 none ∈ gw := (gw_t 525 (by decide +kernel) rfl)
theorem wi_X3_popInto : Cond.instanceMethod yX3_popInto ∈ gw := (gw_t 523 (by decide +kernel) rfl)
theorem ws_X3_popInto : Cond.selects (yX3_popInto).cls yX3_popInto yX3_popInto ∈ gw := (gw_t 524 (by decide +kernel) rfl)
theorem wc_X3_push : Cond.code yX3_push cX3_push 2 none ∈ gw := (gw_t 440 (by decide +kernel) rfl)
theorem wi_X3_push : Cond.instanceMethod yX3_push ∈ gw := (gw_t 438 (by decide +kernel) rfl)
theorem ws_X3_push : Cond.selects (yX3_push).cls yX3_push yX3_push ∈ gw := (gw_t 439 (by decide +kernel) rfl)
theorem wc_X4_clear : Cond.code yX4_clear cX4_clear 1 none ∈ gw := (gw_t 294 (by decide +kernel) rfl)
theorem wi_X4_clear : Cond.instanceMethod yX4_clear ∈ gw := (gw_t 292 (by decide +kernel) rfl)
theorem ws_X4_clear : Cond.selects (yX4_clear).cls yX4_clear yX4_clear ∈ gw := (gw_t 293 (by decide +kernel) rfl)
theorem wc_X4_copyFrom : Cond.code yX4_copyFrom cX4_copyFrom 2 none ∈ gw := (gw_t 385 (by decide +kernel) rfl)
theorem wi_X4_copyFrom : Cond.instanceMethod yX4_copyFrom ∈ gw := (gw_t 383 (by decide +kernel) rfl)
theorem ws_X4_copyFrom : Cond.selects (yX4_copyFrom).cls yX4_copyFrom yX4_copyFrom ∈ gw := (gw_t 384 (by decide +kernel) rfl)
theorem wc_X4_hasChild : Cond.code yX4_hasChild cX4_hasChild 2 (some .boolean) ∈ gw := (gw_t 400 (by decide +kernel) rfl)
theorem wi_X4_hasChild : Cond.instanceMethod yX4_hasChild ∈ gw := (gw_t 398 (by decide +kernel) rfl)
theorem ws_X4_hasChild : Cond.selects (yX4_hasChild).cls yX4_hasChild yX4_hasChild ∈ gw := (gw_t 399 (by decide +kernel) rfl)
theorem wc_X4_minutesFor : Cond.code yX4_minutesFor cX4_minutesFor 4 (some .int) ∈ gw := (gw_t 412 (by decide +kernel) rfl)
theorem wt_X4_minutesFor : Cond.static yX4_minutesFor ∈ gw := (gw_t 411 (by decide +kernel) rfl)
theorem wc_X4_mostOf : Cond.code yX4_mostOf cX4_mostOf 1 (some .int) ∈ gw := (gw_t 328 (by decide +kernel) rfl)
theorem wt_X4_mostOf : Cond.static yX4_mostOf ∈ gw := (gw_t 327 (by decide +kernel) rfl)
theorem wc_X4_tell : Cond.code yX4_tell cX4_tell 4 (some .boolean) ∈ gw := (gw_t 317 (by decide +kernel) rfl)
theorem wi_X4_tell : Cond.instanceMethod yX4_tell ∈ gw := (gw_t 315 (by decide +kernel) rfl)
theorem ws_X4_tell : Cond.selects (yX4_tell).cls yX4_tell yX4_tell ∈ gw := (gw_t 316 (by decide +kernel) rfl)
theorem wc_X4_tellChild : Cond.code yX4_tellChild cX4_tellChild 3 (some .boolean) ∈ gw := (gw_t 321 (by decide +kernel) rfl)
theorem wi_X4_tellChild : Cond.instanceMethod yX4_tellChild ∈ gw := (gw_t 320 (by decide +kernel) rfl)
theorem ws_X4_tellChild : Cond.selects (yX4_tellChild).cls yX4_tellChild yX4_tellChild ∈ gw := (gw_s 4 (by decide +kernel) rfl)
theorem wc_X4_tellNumber : Cond.code yX4_tellNumber cX4_tellNumber 3 (some .boolean) ∈ gw := (gw_t 325 (by decide +kernel) rfl)
theorem wi_X4_tellNumber : Cond.instanceMethod yX4_tellNumber ∈ gw := (gw_t 324 (by decide +kernel) rfl)
theorem ws_X4_tellNumber : Cond.selects (yX4_tellNumber).cls yX4_tellNumber yX4_tellNumber ∈ gw := (gw_s 5 (by decide +kernel) rfl)
theorem wc_X5_isBetter : Cond.code yX5_isBetter cX5_isBetter 1 (some .boolean) ∈ gw := (gw_t 593 (by decide +kernel) rfl)
theorem wi_X5_isBetter : Cond.instanceMethod yX5_isBetter ∈ gw := (gw_t 592 (by decide +kernel) rfl)
theorem ws_X5_isBetter : Cond.selects (yX5_isBetter).cls yX5_isBetter yX5_isBetter ∈ gw := (gw_s 14 (by decide +kernel) rfl)
theorem wc_X5_makeRowWithLast : Cond.code yX5_makeRowWithLast cX5_makeRowWithLast 3 none ∈ gw := (gw_t 615 (by decide +kernel) rfl)
theorem wi_X5_makeRowWithLast : Cond.instanceMethod yX5_makeRowWithLast ∈ gw := (gw_t 614 (by decide +kernel) rfl)
theorem ws_X5_makeRowWithLast : Cond.selects (yX5_makeRowWithLast).cls yX5_makeRowWithLast yX5_makeRowWithLast ∈ gw := (gw_s 17 (by decide +kernel) rfl)
theorem wc_X5_nextRow : Cond.code yX5_nextRow cX5_nextRow 6 (some .boolean) ∈ gw := (gw_t 597 (by decide +kernel) rfl)
theorem wi_X5_nextRow : Cond.instanceMethod yX5_nextRow ∈ gw := (gw_t 596 (by decide +kernel) rfl)
theorem ws_X5_nextRow : Cond.selects (yX5_nextRow).cls yX5_nextRow yX5_nextRow ∈ gw := (gw_s 15 (by decide +kernel) rfl)
theorem wc_X5_swap : Cond.code yX5_swap cX5_swap 4 none ∈ gw := (gw_t 602 (by decide +kernel) rfl)
theorem wi_X5_swap : Cond.instanceMethod yX5_swap ∈ gw := (gw_t 601 (by decide +kernel) rfl)
theorem ws_X5_swap : Cond.selects (yX5_swap).cls yX5_swap yX5_swap ∈ gw := (gw_s 16 (by decide +kernel) rfl)
theorem wc_X5_tryAllRows : Cond.code yX5_tryAllRows cX5_tryAllRows 4 none ∈ gw := (gw_t 584 (by decide +kernel) rfl)
theorem wi_X5_tryAllRows : Cond.instanceMethod yX5_tryAllRows ∈ gw := (gw_t 582 (by decide +kernel) rfl)
theorem ws_X5_tryAllRows : Cond.selects (yX5_tryAllRows).cls yX5_tryAllRows yX5_tryAllRows ∈ gw := (gw_t 583 (by decide +kernel) rfl)
theorem wc_X5_tryEachLast : Cond.code yX5_tryEachLast cX5_tryEachLast 4 (some .int) ∈ gw := (gw_t 611 (by decide +kernel) rfl)
theorem wi_X5_tryEachLast : Cond.instanceMethod yX5_tryEachLast ∈ gw := (gw_t 609 (by decide +kernel) rfl)
theorem ws_X5_tryEachLast : Cond.selects (yX5_tryEachLast).cls yX5_tryEachLast yX5_tryEachLast ∈ gw := (gw_t 610 (by decide +kernel) rfl)
theorem wc_X6_add : Cond.code yX6_add cX6_add 4 (some .boolean) ∈ gw := (gw_t 635 (by decide +kernel) rfl)
theorem wi_X6_add : Cond.instanceMethod yX6_add ∈ gw := (gw_t 633 (by decide +kernel) rfl)
theorem ws_X6_add : Cond.selects (yX6_add).cls yX6_add yX6_add ∈ gw := (gw_t 634 (by decide +kernel) rfl)
theorem wc_X6_wouldBe : Cond.code yX6_wouldBe cX6_wouldBe 5 (some .boolean) ∈ gw := (gw_t 647 (by decide +kernel) rfl)
theorem wi_X6_wouldBe : Cond.instanceMethod yX6_wouldBe ∈ gw := (gw_t 645 (by decide +kernel) rfl)
theorem ws_X6_wouldBe : Cond.selects (yX6_wouldBe).cls yX6_wouldBe yX6_wouldBe ∈ gw := (gw_t 646 (by decide +kernel) rfl)
theorem wc_X7_add : Cond.code yX7_add cX7_add 2 (some .boolean) ∈ gw := (gw_t 286 (by decide +kernel) rfl)
theorem wi_X7_add : Cond.instanceMethod yX7_add ∈ gw := (gw_t 284 (by decide +kernel) rfl)
theorem ws_X7_add : Cond.selects (yX7_add).cls yX7_add yX7_add ∈ gw := (gw_t 285 (by decide +kernel) rfl)
theorem wc_X7_clear : Cond.code yX7_clear cX7_clear 1 none ∈ gw := (gw_t 332 (by decide +kernel) rfl)
theorem wi_X7_clear : Cond.instanceMethod yX7_clear ∈ gw := (gw_t 330 (by decide +kernel) rfl)
theorem ws_X7_clear : Cond.selects (yX7_clear).cls yX7_clear yX7_clear ∈ gw := (gw_t 331 (by decide +kernel) rfl)
theorem wc_X7_figuresAt : Cond.code yX7_figuresAt cX7_figuresAt 2 (some .int) ∈ gw := (gw_t 310 (by decide +kernel) rfl)
theorem wi_X7_figuresAt : Cond.instanceMethod yX7_figuresAt ∈ gw := (gw_t 309 (by decide +kernel) rfl)
theorem ws_X7_figuresAt : Cond.selects (yX7_figuresAt).cls yX7_figuresAt yX7_figuresAt ∈ gw := (gw_s 3 (by decide +kernel) rfl)
theorem wc_X7_isFigure : Cond.code yX7_isFigure cX7_isFigure 1 (some .boolean) ∈ gw := (gw_t 313 (by decide +kernel) rfl)
theorem wt_X7_isFigure : Cond.static yX7_isFigure ∈ gw := (gw_t 312 (by decide +kernel) rfl)
theorem wc_X7_letterAt : Cond.code yX7_letterAt cX7_letterAt 2 (some .char) ∈ gw := (gw_t 302 (by decide +kernel) rfl)
theorem wi_X7_letterAt : Cond.instanceMethod yX7_letterAt ∈ gw := (gw_t 301 (by decide +kernel) rfl)
theorem ws_X7_letterAt : Cond.selects (yX7_letterAt).cls yX7_letterAt yX7_letterAt ∈ gw := (gw_s 1 (by decide +kernel) rfl)
theorem wc_X7_numberAt : Cond.code yX7_numberAt cX7_numberAt 4 (some .int) ∈ gw := (gw_t 306 (by decide +kernel) rfl)
theorem wi_X7_numberAt : Cond.instanceMethod yX7_numberAt ∈ gw := (gw_t 305 (by decide +kernel) rfl)
theorem ws_X7_numberAt : Cond.selects (yX7_numberAt).cls yX7_numberAt yX7_numberAt ∈ gw := (gw_s 2 (by decide +kernel) rfl)
theorem wc_X7_readInto : Cond.code yX7_readInto cX7_readInto 4 (some .int) ∈ gw := (gw_t 290 (by decide +kernel) rfl)
theorem wi_X7_readInto : Cond.instanceMethod yX7_readInto ∈ gw := (gw_t 288 (by decide +kernel) rfl)
theorem ws_X7_readInto : Cond.selects (yX7_readInto).cls yX7_readInto yX7_readInto ∈ gw := (gw_t 289 (by decide +kernel) rfl)
theorem wc_X7_readItem : Cond.code yX7_readItem cX7_readItem 8 (some .int) ∈ gw := (gw_t 298 (by decide +kernel) rfl)
theorem wi_X7_readItem : Cond.instanceMethod yX7_readItem ∈ gw := (gw_t 297 (by decide +kernel) rfl)
theorem ws_X7_readItem : Cond.selects (yX7_readItem).cls yX7_readItem yX7_readItem ∈ gw := (gw_s 0 (by decide +kernel) rfl)
theorem wc_X9_begin : Cond.code yX9_begin cX9_begin 5 none ∈ gw := (gw_t 863 (by decide +kernel) rfl)
theorem wi_X9_begin : Cond.instanceMethod yX9_begin ∈ gw := (gw_t 862 (by decide +kernel) rfl)
theorem ws_X9_begin : Cond.selects (yX9_begin).cls yX9_begin yX9_begin ∈ gw := (gw_s 33 (by decide +kernel) rfl)
theorem wc_X9_begins : Cond.code yX9_begins cX9_begins 2 none ∈ gw := (gw_t 717 (by decide +kernel) rfl)
theorem wi_X9_begins : Cond.instanceMethod yX9_begins ∈ gw := (gw_t 716 (by decide +kernel) rfl)
theorem ws_X9_begins : Cond.selects (yX9_begins).cls yX9_begins yX9_begins ∈ gw := (gw_s 18 (by decide +kernel) rfl)
theorem wc_X9_childOf : Cond.code yX9_childOf cX9_childOf 3 none ∈ gw := (gw_t 721 (by decide +kernel) rfl)
theorem wi_X9_childOf : Cond.instanceMethod yX9_childOf ∈ gw := (gw_t 720 (by decide +kernel) rfl)
theorem ws_X9_childOf : Cond.selects (yX9_childOf).cls yX9_childOf yX9_childOf ∈ gw := (gw_s 19 (by decide +kernel) rfl)
theorem wc_X9_children : Cond.code yX9_children cX9_children 2 (some .int) ∈ gw := (gw_t 879 (by decide +kernel) rfl)
theorem wi_X9_children : Cond.instanceMethod yX9_children ∈ gw := (gw_t 878 (by decide +kernel) rfl)
theorem ws_X9_children : Cond.selects (yX9_children).cls yX9_children yX9_children ∈ gw := (gw_s 35 (by decide +kernel) rfl)
theorem wc_X9_dresses : Cond.code yX9_dresses cX9_dresses 3 none ∈ gw := (gw_t 859 (by decide +kernel) rfl)
theorem wi_X9_dresses : Cond.instanceMethod yX9_dresses ∈ gw := (gw_t 858 (by decide +kernel) rfl)
theorem ws_X9_dresses : Cond.selects (yX9_dresses).cls yX9_dresses yX9_dresses ∈ gw := (gw_s 32 (by decide +kernel) rfl)
theorem wc_X9_goes : Cond.code yX9_goes cX9_goes 2 (some .int) ∈ gw := (gw_t 919 (by decide +kernel) rfl)
theorem wi_X9_goes : Cond.instanceMethod yX9_goes ∈ gw := (gw_t 918 (by decide +kernel) rfl)
theorem ws_X9_goes : Cond.selects (yX9_goes).cls yX9_goes yX9_goes ∈ gw := (gw_s 42 (by decide +kernel) rfl)
theorem wc_X9_goesBut : Cond.code yX9_goesBut cX9_goesBut 4 (some .int) ∈ gw := (gw_t 915 (by decide +kernel) rfl)
theorem wi_X9_goesBut : Cond.instanceMethod yX9_goesBut ∈ gw := (gw_t 914 (by decide +kernel) rfl)
theorem ws_X9_goesBut : Cond.selects (yX9_goesBut).cls yX9_goesBut yX9_goesBut ∈ gw := (gw_s 41 (by decide +kernel) rfl)
theorem wc_X9_highestFree : Cond.code yX9_highestFree cX9_highestFree 3 (some .int) ∈ gw := (gw_t 927 (by decide +kernel) rfl)
theorem wi_X9_highestFree : Cond.instanceMethod yX9_highestFree ∈ gw := (gw_t 926 (by decide +kernel) rfl)
theorem ws_X9_highestFree : Cond.selects (yX9_highestFree).cls yX9_highestFree yX9_highestFree ∈ gw := (gw_s 44 (by decide +kernel) rfl)
theorem wc_X9_holds : Cond.code yX9_holds cX9_holds 2 none ∈ gw := (gw_t 911 (by decide +kernel) rfl)
theorem wi_X9_holds : Cond.instanceMethod yX9_holds ∈ gw := (gw_t 910 (by decide +kernel) rfl)
theorem ws_X9_holds : Cond.selects (yX9_holds).cls yX9_holds yX9_holds ∈ gw := (gw_s 40 (by decide +kernel) rfl)
theorem wc_X9_how : Cond.code yX9_how cX9_how 6 (some .int) ∈ gw := (gw_t 883 (by decide +kernel) rfl)
theorem wi_X9_how : Cond.instanceMethod yX9_how ∈ gw := (gw_t 882 (by decide +kernel) rfl)
theorem ws_X9_how : Cond.selects (yX9_how).cls yX9_how yX9_how ∈ gw := (gw_s 36 (by decide +kernel) rfl)
theorem wc_X9_in : Cond.code yX9_in cX9_in 3 (some .boolean) ∈ gw := (gw_t 785 (by decide +kernel) rfl)
theorem wt_X9_in : Cond.static yX9_in ∈ gw := (gw_t 784 (by decide +kernel) rfl)
theorem wc_X9_isChild : Cond.code yX9_isChild cX9_isChild 2 (some .boolean) ∈ gw := (gw_t 828 (by decide +kernel) rfl)
theorem wi_X9_isChild : Cond.instanceMethod yX9_isChild ∈ gw := (gw_t 827 (by decide +kernel) rfl)
theorem ws_X9_isChild : Cond.selects (yX9_isChild).cls yX9_isChild yX9_isChild ∈ gw := (gw_s 27 (by decide +kernel) rfl)
theorem wc_X9_isFigure : Cond.code yX9_isFigure cX9_isFigure 1 (some .boolean) ∈ gw := (gw_t 812 (by decide +kernel) rfl)
theorem wt_X9_isFigure : Cond.static yX9_isFigure ∈ gw := (gw_t 811 (by decide +kernel) rfl)
theorem wc_X9_isLaid : Cond.code yX9_isLaid cX9_isLaid 3 (some .boolean) ∈ gw := (gw_t 871 (by decide +kernel) rfl)
theorem wi_X9_isLaid : Cond.instanceMethod yX9_isLaid ∈ gw := (gw_t 870 (by decide +kernel) rfl)
theorem ws_X9_isLaid : Cond.selects (yX9_isLaid).cls yX9_isLaid yX9_isLaid ∈ gw := (gw_s 34 (by decide +kernel) rfl)
theorem wc_X9_isRow : Cond.code yX9_isRow cX9_isRow 5 (some .boolean) ∈ gw := (gw_t 943 (by decide +kernel) rfl)
theorem wi_X9_isRow : Cond.instanceMethod yX9_isRow ∈ gw := (gw_t 942 (by decide +kernel) rfl)
theorem ws_X9_isRow : Cond.selects (yX9_isRow).cls yX9_isRow yX9_isRow ∈ gw := (gw_s 47 (by decide +kernel) rfl)
theorem wc_X9_isSo : Cond.code yX9_isSo cX9_isSo 7 (some .boolean) ∈ gw := (gw_t 975 (by decide +kernel) rfl)
theorem wi_X9_isSo : Cond.instanceMethod yX9_isSo ∈ gw := (gw_t 974 (by decide +kernel) rfl)
theorem ws_X9_isSo : Cond.selects (yX9_isSo).cls yX9_isSo yX9_isSo ∈ gw := (gw_s 49 (by decide +kernel) rfl)
theorem wc_X9_isWoman : Cond.code yX9_isWoman cX9_isWoman 2 (some .boolean) ∈ gw := (gw_t 847 (by decide +kernel) rfl)
theorem wi_X9_isWoman : Cond.instanceMethod yX9_isWoman ∈ gw := (gw_t 846 (by decide +kernel) rfl)
theorem ws_X9_isWoman : Cond.selects (yX9_isWoman).cls yX9_isWoman yX9_isWoman ∈ gw := (gw_s 30 (by decide +kernel) rfl)
theorem wc_X9_keeps : Cond.code yX9_keeps cX9_keeps 2 none ∈ gw := (gw_t 855 (by decide +kernel) rfl)
theorem wi_X9_keeps : Cond.instanceMethod yX9_keeps ∈ gw := (gw_t 854 (by decide +kernel) rfl)
theorem ws_X9_keeps : Cond.selects (yX9_keeps).cls yX9_keeps yX9_keeps ∈ gw := (gw_s 31 (by decide +kernel) rfl)
theorem wc_X9_lays : Cond.code yX9_lays cX9_lays 2 none ∈ gw := (gw_t 725 (by decide +kernel) rfl)
theorem wi_X9_lays : Cond.instanceMethod yX9_lays ∈ gw := (gw_t 724 (by decide +kernel) rfl)
theorem ws_X9_lays : Cond.selects (yX9_lays).cls yX9_lays yX9_lays ∈ gw := (gw_s 20 (by decide +kernel) rfl)
theorem wc_X9_lets : Cond.code yX9_lets cX9_lets 2 none ∈ gw := (gw_t 935 (by decide +kernel) rfl)
theorem wi_X9_lets : Cond.instanceMethod yX9_lets ∈ gw := (gw_t 934 (by decide +kernel) rfl)
theorem ws_X9_lets : Cond.selects (yX9_lets).cls yX9_lets yX9_lets ∈ gw := (gw_s 46 (by decide +kernel) rfl)
theorem wc_X9_letterAt : Cond.code yX9_letterAt cX9_letterAt 2 (some .int) ∈ gw := (gw_t 809 (by decide +kernel) rfl)
theorem wi_X9_letterAt : Cond.instanceMethod yX9_letterAt ∈ gw := (gw_t 808 (by decide +kernel) rfl)
theorem ws_X9_letterAt : Cond.selects (yX9_letterAt).cls yX9_letterAt yX9_letterAt ∈ gw := (gw_s 25 (by decide +kernel) rfl)
theorem wc_X9_lowestFree : Cond.code yX9_lowestFree cX9_lowestFree 3 (some .int) ∈ gw := (gw_t 955 (by decide +kernel) rfl)
theorem wi_X9_lowestFree : Cond.instanceMethod yX9_lowestFree ∈ gw := (gw_t 954 (by decide +kernel) rfl)
theorem ws_X9_lowestFree : Cond.selects (yX9_lowestFree).cls yX9_lowestFree yX9_lowestFree ∈ gw := (gw_s 48 (by decide +kernel) rfl)
theorem wc_X9_mayOpen : Cond.code yX9_mayOpen cX9_mayOpen 4 (some .boolean) ∈ gw := (gw_t 923 (by decide +kernel) rfl)
theorem wi_X9_mayOpen : Cond.instanceMethod yX9_mayOpen ∈ gw := (gw_t 922 (by decide +kernel) rfl)
theorem ws_X9_mayOpen : Cond.selects (yX9_mayOpen).cls yX9_mayOpen yX9_mayOpen ∈ gw := (gw_s 43 (by decide +kernel) rfl)
theorem wc_X9_minutes : Cond.code yX9_minutes cX9_minutes 4 (some .int) ∈ gw := (gw_t 839 (by decide +kernel) rfl)
theorem wt_X9_minutes : Cond.static yX9_minutes ∈ gw := (gw_t 838 (by decide +kernel) rfl)
theorem wc_X9_minutesOf : Cond.code yX9_minutesOf cX9_minutesOf 2 (some .int) ∈ gw := (gw_t 836 (by decide +kernel) rfl)
theorem wi_X9_minutesOf : Cond.instanceMethod yX9_minutesOf ∈ gw := (gw_t 835 (by decide +kernel) rfl)
theorem ws_X9_minutesOf : Cond.selects (yX9_minutesOf).cls yX9_minutesOf yX9_minutesOf ∈ gw := (gw_s 29 (by decide +kernel) rfl)
theorem wc_X9_notOut : Cond.code yX9_notOut cX9_notOut 1 (some .int) ∈ gw := (gw_t 891 (by decide +kernel) rfl)
theorem wi_X9_notOut : Cond.instanceMethod yX9_notOut ∈ gw := (gw_t 890 (by decide +kernel) rfl)
theorem ws_X9_notOut : Cond.selects (yX9_notOut).cls yX9_notOut yX9_notOut ∈ gw := (gw_s 38 (by decide +kernel) rfl)
theorem wc_X9_number : Cond.code yX9_number cX9_number 6 (some .int) ∈ gw := (gw_t 805 (by decide +kernel) rfl)
theorem wi_X9_number : Cond.instanceMethod yX9_number ∈ gw := (gw_t 804 (by decide +kernel) rfl)
theorem ws_X9_number : Cond.selects (yX9_number).cls yX9_number yX9_number ∈ gw := (gw_s 24 (by decide +kernel) rfl)
theorem wc_X9_one : Cond.code yX9_one cX9_one 3 (some .boolean) ∈ gw := (gw_t 816 (by decide +kernel) rfl)
theorem wi_X9_one : Cond.instanceMethod yX9_one ∈ gw := (gw_t 815 (by decide +kernel) rfl)
theorem ws_X9_one : Cond.selects (yX9_one).cls yX9_one yX9_one ∈ gw := (gw_s 26 (by decide +kernel) rfl)
theorem wc_X9_opens : Cond.code yX9_opens cX9_opens 7 (some .int) ∈ gw := (gw_t 887 (by decide +kernel) rfl)
theorem wi_X9_opens : Cond.instanceMethod yX9_opens ∈ gw := (gw_t 886 (by decide +kernel) rfl)
theorem ws_X9_opens : Cond.selects (yX9_opens).cls yX9_opens yX9_opens ∈ gw := (gw_s 37 (by decide +kernel) rfl)
theorem wc_X9_passes : Cond.code yX9_passes cX9_passes 4 (some .int) ∈ gw := (gw_t 899 (by decide +kernel) rfl)
theorem wi_X9_passes : Cond.instanceMethod yX9_passes ∈ gw := (gw_t 898 (by decide +kernel) rfl)
theorem ws_X9_passes : Cond.selects (yX9_passes).cls yX9_passes yX9_passes ∈ gw := (gw_s 39 (by decide +kernel) rfl)
theorem wc_X9_readsAll : Cond.code yX9_readsAll cX9_readsAll 2 (some .int) ∈ gw := (gw_t 797 (by decide +kernel) rfl)
theorem wi_X9_readsAll : Cond.instanceMethod yX9_readsAll ∈ gw := (gw_t 796 (by decide +kernel) rfl)
theorem ws_X9_readsAll : Cond.selects (yX9_readsAll).cls yX9_readsAll yX9_readsAll ∈ gw := (gw_s 22 (by decide +kernel) rfl)
theorem wc_X9_readsItem : Cond.code yX9_readsItem cX9_readsItem 4 (some .boolean) ∈ gw := (gw_t 801 (by decide +kernel) rfl)
theorem wi_X9_readsItem : Cond.instanceMethod yX9_readsItem ∈ gw := (gw_t 800 (by decide +kernel) rfl)
theorem ws_X9_readsItem : Cond.selects (yX9_readsItem).cls yX9_readsItem yX9_readsItem ∈ gw := (gw_s 23 (by decide +kernel) rfl)
theorem wc_X9_starts : Cond.code yX9_starts cX9_starts 2 none ∈ gw := (gw_t 729 (by decide +kernel) rfl)
theorem wi_X9_starts : Cond.instanceMethod yX9_starts ∈ gw := (gw_t 728 (by decide +kernel) rfl)
theorem ws_X9_starts : Cond.selects (yX9_starts).cls yX9_starts yX9_starts ∈ gw := (gw_s 21 (by decide +kernel) rfl)
theorem wc_X9_takesRow : Cond.code yX9_takesRow cX9_takesRow 4 none ∈ gw := (gw_t 931 (by decide +kernel) rfl)
theorem wi_X9_takesRow : Cond.instanceMethod yX9_takesRow ∈ gw := (gw_t 930 (by decide +kernel) rfl)
theorem ws_X9_takesRow : Cond.selects (yX9_takesRow).cls yX9_takesRow yX9_takesRow ∈ gw := (gw_s 45 (by decide +kernel) rfl)
theorem wc_X9_turn : Cond.code yX9_turn cX9_turn 3 (some .int) ∈ gw := (gw_t 994 (by decide +kernel) rfl)
theorem wi_X9_turn : Cond.instanceMethod yX9_turn ∈ gw := (gw_t 993 (by decide +kernel) rfl)
theorem ws_X9_turn : Cond.selects (yX9_turn).cls yX9_turn yX9_turn ∈ gw := (gw_s 50 (by decide +kernel) rfl)
theorem wc_X9_whoHas : Cond.code yX9_whoHas cX9_whoHas 4 (some .int) ∈ gw := (gw_t 832 (by decide +kernel) rfl)
theorem wi_X9_whoHas : Cond.instanceMethod yX9_whoHas ∈ gw := (gw_t 831 (by decide +kernel) rfl)
theorem ws_X9_whoHas : Cond.selects (yX9_whoHas).cls yX9_whoHas yX9_whoHas ∈ gw := (gw_s 28 (by decide +kernel) rfl)
theorem wn_X0 : Cond.initialized RX0 ∈ gw := (gw_t 16 (by decide +kernel) rfl)
theorem wn_X1 : Cond.initialized RX1 ∈ gw := (gw_t 7 (by decide +kernel) rfl)
theorem wn_X2 : Cond.initialized RX2 ∈ gw := (gw_t 4 (by decide +kernel) rfl)
theorem wn_X3 : Cond.initialized RX3 ∈ gw := (gw_t 5 (by decide +kernel) rfl)
theorem wn_X4 : Cond.initialized RX4 ∈ gw := (gw_t 3 (by decide +kernel) rfl)
theorem wn_X5 : Cond.initialized RX5 ∈ gw := (gw_t 8 (by decide +kernel) rfl)
theorem wn_X6 : Cond.initialized RX6 ∈ gw := (gw_t 9 (by decide +kernel) rfl)
theorem wn_X7 : Cond.initialized RX7 ∈ gw := (gw_t 2 (by decide +kernel) rfl)
theorem wn_X9 : Cond.initialized RX9 ∈ gw := (gw_t 14 (by decide +kernel) rfl)
theorem l_X8_82 : fm_lV RX8 82 yX7_add cX7_add 2 (some .boolean) 1 6 := ⟨⟨wc_X7_add, wn_X7, (gw_t 283 (by decide +kernel) rfl), by decide +kernel⟩, wi_X7_add, ws_X7_add, TX7, 2, rfl⟩
theorem l_X8_86 : fm_lV RX8 86 yX7_readInto cX7_readInto 4 (some .int) 1 6 := ⟨⟨wc_X7_readInto, wn_X7, (gw_t 287 (by decide +kernel) rfl), by decide +kernel⟩, wi_X7_readInto, ws_X7_readInto, TX7, 2, rfl⟩
theorem l_X8_90 : fm_lV RX8 90 yX7_clear cX7_clear 1 none 0 6 := ⟨⟨wc_X7_clear, wn_X7, (gw_t 329 (by decide +kernel) rfl), by decide +kernel⟩, wi_X7_clear, ws_X7_clear, TX7, 2, rfl⟩
theorem l_X8_97 : fm_lV RX8 97 yX2_startAgain cX2_startAgain 3 none 1 1 := ⟨⟨wc_X2_startAgain, wn_X2, (gw_t 333 (by decide +kernel) rfl), by decide +kernel⟩, wi_X2_startAgain, ws_X2_startAgain, TX2, 11, rfl⟩
theorem l_X8_106 : fm_lV RX8 106 yX4_copyFrom cX4_copyFrom 2 none 1 3 := ⟨⟨wc_X4_copyFrom, wn_X4, (gw_t 382 (by decide +kernel) rfl), by decide +kernel⟩, wi_X4_copyFrom, ws_X4_copyFrom, TX4, 7, rfl⟩
theorem l_X8_109 : fm_lV RX8 109 yX3_clear cX3_clear 1 none 0 2 := ⟨⟨wc_X3_clear, wn_X3, (gw_t 389 (by decide +kernel) rfl), by decide +kernel⟩, wi_X3_clear, ws_X3_clear, TX3, 3, rfl⟩
theorem l_X8_113 : fm_lV RX8 113 yX4_hasChild cX4_hasChild 2 (some .boolean) 1 3 := ⟨⟨wc_X4_hasChild, wn_X4, (gw_t 397 (by decide +kernel) rfl), by decide +kernel⟩, wi_X4_hasChild, ws_X4_hasChild, TX4, 7, rfl⟩
theorem l_X8_127 : fm_lV RX8 127 yX2_whoDresses cX2_whoDresses 3 (some .int) 1 1 := ⟨⟨wc_X2_whoDresses, wn_X2, (gw_t 401 (by decide +kernel) rfl), by decide +kernel⟩, wi_X2_whoDresses, ws_X2_whoDresses, TX2, 11, rfl⟩
theorem l_X8_131 : fm_lV RX8 131 yX2_minutesToDress cX2_minutesToDress 2 (some .int) 1 1 := ⟨⟨wc_X2_minutesToDress, wn_X2, (gw_t 405 (by decide +kernel) rfl), by decide +kernel⟩, wi_X2_minutesToDress, ws_X2_minutesToDress, TX2, 11, rfl⟩
theorem l_X8_137 : fm_lV RX8 137 yX2_hasWoman cX2_hasWoman 2 (some .boolean) 1 1 := ⟨⟨wc_X2_hasWoman, wn_X2, (gw_t 417 (by decide +kernel) rfl), by decide +kernel⟩, wi_X2_hasWoman, ws_X2_hasWoman, TX2, 11, rfl⟩
theorem l_X8_146 : fm_lV RX8 146 yX2_canDress cX2_canDress 3 (some .boolean) 2 1 := ⟨⟨wc_X2_canDress, wn_X2, (gw_t 425 (by decide +kernel) rfl), by decide +kernel⟩, wi_X2_canDress, ws_X2_canDress, TX2, 11, rfl⟩
theorem l_X8_150 : fm_lV RX8 150 yX3_push cX3_push 2 none 1 2 := ⟨⟨wc_X3_push, wn_X3, (gw_t 437 (by decide +kernel) rfl), by decide +kernel⟩, wi_X3_push, ws_X3_push, TX3, 3, rfl⟩
theorem l_X8_154 : fm_lV RX8 154 yX2_dress cX2_dress 3 (some .int) 2 1 := ⟨⟨wc_X2_dress, wn_X2, (gw_t 449 (by decide +kernel) rfl), by decide +kernel⟩, wi_X2_dress, ws_X2_dress, TX2, 11, rfl⟩
theorem l_X8_158 : fm_lV RX8 158 yX2_canLayThings cX2_canLayThings 2 (some .boolean) 1 1 := ⟨⟨wc_X2_canLayThings, wn_X2, (gw_t 459 (by decide +kernel) rfl), by decide +kernel⟩, wi_X2_canLayThings, ws_X2_canLayThings, TX2, 11, rfl⟩
theorem l_X8_161 : fm_lV RX8 161 yX2_layThings cX2_layThings 2 (some .int) 1 1 := ⟨⟨wc_X2_layThings, wn_X2, (gw_t 467 (by decide +kernel) rfl), by decide +kernel⟩, wi_X2_layThings, ws_X2_layThings, TX2, 11, rfl⟩
theorem l_X8_164 : fm_lV RX8 164 yX2_canOpenDoor cX2_canOpenDoor 2 (some .boolean) 1 1 := ⟨⟨wc_X2_canOpenDoor, wn_X2, (gw_t 476 (by decide +kernel) rfl), by decide +kernel⟩, wi_X2_canOpenDoor, ws_X2_canOpenDoor, TX2, 11, rfl⟩
theorem l_X8_167 : fm_lV RX8 167 yX2_openDoor cX2_openDoor 6 (some .int) 1 1 := ⟨⟨wc_X2_openDoor, wn_X2, (gw_t 484 (by decide +kernel) rfl), by decide +kernel⟩, wi_X2_openDoor, ws_X2_openDoor, TX2, 11, rfl⟩
theorem l_X8_173 : fm_lV RX8 173 yX2_goMinute cX2_goMinute 2 (some .int) 0 1 := ⟨⟨wc_X2_goMinute, wn_X2, (gw_t 501 (by decide +kernel) rfl), by decide +kernel⟩, wi_X2_goMinute, ws_X2_goMinute, TX2, 11, rfl⟩
theorem l_X8_177 : fm_lV RX8 177 yX3_popInto cX3_popInto 2 none 1 2 := ⟨⟨wc_X3_popInto, wn_X3, (gw_t 522 (by decide +kernel) rfl), by decide +kernel⟩, wi_X3_popInto, ws_X3_popInto, TX3, 3, rfl⟩
theorem l_X8_180 : fm_lV RX8 180 yX1_startFrom cX1_startFrom 2 none 1 0 := ⟨⟨wc_X1_startFrom, wn_X1, (gw_t 530 (by decide +kernel) rfl), by decide +kernel⟩, wi_X1_startFrom, ws_X1_startFrom, TX1, 4, rfl⟩
theorem l_X8_186 : fm_lV RX8 186 yX1_minutesTillLunch cX1_minutesTillLunch 1 (some .int) 0 0 := ⟨⟨wc_X1_minutesTillLunch, wn_X1, (gw_t 537 (by decide +kernel) rfl), by decide +kernel⟩, wi_X1_minutesTillLunch, ws_X1_minutesTillLunch, TX1, 4, rfl⟩
theorem l_X8_189 : fm_lV RX8 189 yX1_goOn cX1_goOn 4 none 2 0 := ⟨⟨wc_X1_goOn, wn_X1, (gw_t 541 (by decide +kernel) rfl), by decide +kernel⟩, wi_X1_goOn, ws_X1_goOn, TX1, 4, rfl⟩
theorem l_X8_199 : fm_lV RX8 199 yX5_tryAllRows cX5_tryAllRows 4 none 1 4 := ⟨⟨wc_X5_tryAllRows, wn_X5, (gw_t 581 (by decide +kernel) rfl), by decide +kernel⟩, wi_X5_tryAllRows, ws_X5_tryAllRows, TX5, 7, rfl⟩
theorem l_X8_207 : fm_lV RX8 207 yX5_tryEachLast cX5_tryEachLast 4 (some .int) 1 4 := ⟨⟨wc_X5_tryEachLast, wn_X5, (gw_t 608 (by decide +kernel) rfl), by decide +kernel⟩, wi_X5_tryEachLast, ws_X5_tryEachLast, TX5, 7, rfl⟩
theorem l_X8_211 : fm_lV RX8 211 yX2_lowestFree cX2_lowestFree 2 (some .int) 0 1 := ⟨⟨wc_X2_lowestFree, wn_X2, (gw_t 620 (by decide +kernel) rfl), by decide +kernel⟩, wi_X2_lowestFree, ws_X2_lowestFree, TX2, 11, rfl⟩
theorem l_X8_217 : fm_lV RX8 217 yX6_add cX6_add 4 (some .boolean) 3 5 := ⟨⟨wc_X6_add, wn_X6, (gw_t 632 (by decide +kernel) rfl), by decide +kernel⟩, wi_X6_add, ws_X6_add, TX6, 4, rfl⟩
theorem l_X8_223 : fm_lV RX8 223 yX6_wouldBe cX6_wouldBe 5 (some .boolean) 3 5 := ⟨⟨wc_X6_wouldBe, wn_X6, (gw_t 644 (by decide +kernel) rfl), by decide +kernel⟩, wi_X6_wouldBe, ws_X6_wouldBe, TX6, 4, rfl⟩
theorem l_X8_227 : fm_lV RX8 227 yX2_countChildren cX2_countChildren 4 (some .int) 1 1 := ⟨⟨wc_X2_countChildren, wn_X2, (gw_t 657 (by decide +kernel) rfl), by decide +kernel⟩, wi_X2_countChildren, ws_X2_countChildren, TX2, 11, rfl⟩
theorem l_X8_230 : fm_lS RX8 230 yX0_waysOfSoMany cX0_waysOfSoMany 5 (some .int) 3 := ⟨⟨wc_X0_waysOfSoMany, wn_X0, (gw_t 658 (by decide +kernel) rfl), by decide +kernel⟩, wt_X0_waysOfSoMany⟩
theorem l_X8_236 : fm_lS RX8 236 yX0_power cX0_power 4 (some .int) 2 := ⟨⟨wc_X0_power, wn_X0, (gw_t 667 (by decide +kernel) rfl), by decide +kernel⟩, wt_X0_power⟩
theorem l_X8_239 : fm_lS RX8 239 yX0_commonDivisor cX0_commonDivisor 6 (some .int) 2 := ⟨⟨wc_X0_commonDivisor, wn_X0, (gw_t 668 (by decide +kernel) rfl), by decide +kernel⟩, wt_X0_commonDivisor⟩
theorem l_X8_242 : fm_lV RX8 242 yX1_goByDraws cX1_goByDraws 5 none 2 0 := ⟨⟨wc_X1_goByDraws, wn_X1, (gw_t 675 (by decide +kernel) rfl), by decide +kernel⟩, wi_X1_goByDraws, ws_X1_goByDraws, TX1, 4, rfl⟩
theorem l_X8_246 : fm_lV RX8 246 yX2_whoIsOut cX2_whoIsOut 3 (some .int) 0 1 := ⟨⟨wc_X2_whoIsOut, wn_X2, (gw_t 687 (by decide +kernel) rfl), by decide +kernel⟩, wi_X2_whoIsOut, ws_X2_whoIsOut, TX2, 11, rfl⟩
theorem l_X8_250 : fm_lV RX8 250 yX2_countWomen cX2_countWomen 4 (some .int) 1 1 := ⟨⟨wc_X2_countWomen, wn_X2, (gw_t 703 (by decide +kernel) rfl), by decide +kernel⟩, wi_X2_countWomen, ws_X2_countWomen, TX2, 11, rfl⟩
theorem l_X8_257 : fm_lV RX8 257 yX2_boiledInAll cX2_boiledInAll 3 (some .int) 0 1 := ⟨⟨wc_X2_boiledInAll, wn_X2, (gw_t 704 (by decide +kernel) rfl), by decide +kernel⟩, wi_X2_boiledInAll, ws_X2_boiledInAll, TX2, 11, rfl⟩
theorem l_X0_7 : fm_lS RX0 7 yX0_choose cX0_choose 4 (some .int) 2 := ⟨⟨wc_X0_choose, wn_X0, (gw_t 661 (by decide +kernel) rfl), by decide +kernel⟩, wt_X0_choose⟩
theorem l_X0_13 : fm_lS RX0 13 yX0_power cX0_power 4 (some .int) 2 := ⟨⟨wc_X0_power, wn_X0, (gw_t 664 (by decide +kernel) rfl), by decide +kernel⟩, wt_X0_power⟩
theorem l_X1_24 : fm_lV RX1 24 yX2_copyFrom cX2_copyFrom 2 none 1 1 := ⟨⟨wc_X2_copyFrom, wn_X2, (gw_t 534 (by decide +kernel) rfl), by decide +kernel⟩, wi_X2_copyFrom, ws_X2_copyFrom, TX2, 11, rfl⟩
theorem l_X1_40 : fm_lV RX1 40 yX1_openDoors cX1_openDoors 2 none 0 0 := ⟨⟨wc_X1_openDoors, wn_X1, (gw_t 545 (by decide +kernel) rfl), by decide +kernel⟩, wi_X1_openDoors, ws_X1_openDoors, TX1, 4, rfl⟩
theorem l_X1_43 : fm_lV RX1 43 yX2_allAreOut cX2_allAreOut 1 (some .boolean) 0 1 := ⟨⟨wc_X2_allAreOut, wn_X2, (gw_t 561 (by decide +kernel) rfl), by decide +kernel⟩, wi_X2_allAreOut, ws_X2_allAreOut, TX2, 11, rfl⟩
theorem l_X1_50 : fm_lV RX1 50 yX1_dressByRow cX1_dressByRow 3 none 1 0 := ⟨⟨wc_X1_dressByRow, wn_X1, (gw_t 565 (by decide +kernel) rfl), by decide +kernel⟩, wi_X1_dressByRow, ws_X1_dressByRow, TX1, 4, rfl⟩
theorem l_X1_54 : fm_lV RX1 54 yX2_goMinute cX2_goMinute 2 (some .int) 0 1 := ⟨⟨wc_X2_goMinute, wn_X2, (gw_t 576 (by decide +kernel) rfl), by decide +kernel⟩, wi_X2_goMinute, ws_X2_goMinute, TX2, 11, rfl⟩
theorem l_X1_58 : fm_lV RX1 58 yX1_doorIsDue cX1_doorIsDue 3 (some .boolean) 0 0 := ⟨⟨wc_X1_doorIsDue, wn_X1, (gw_t 549 (by decide +kernel) rfl), by decide +kernel⟩, wi_X1_doorIsDue, ws_X1_doorIsDue, TX1, 4, rfl⟩
theorem l_X1_61 : fm_lV RX1 61 yX2_highestFree cX2_highestFree 2 (some .int) 0 1 := ⟨⟨wc_X2_highestFree, wn_X2, (gw_t 556 (by decide +kernel) rfl), by decide +kernel⟩, wi_X2_highestFree, ws_X2_highestFree, TX2, 11, rfl⟩
theorem l_X1_64 : fm_lV RX1 64 yX2_openDoor cX2_openDoor 6 (some .int) 1 1 := ⟨⟨wc_X2_openDoor, wn_X2, (gw_t 560 (by decide +kernel) rfl), by decide +kernel⟩, wi_X2_openDoor, ws_X2_openDoor, TX2, 11, rfl⟩
theorem l_X1_68 : fm_lV RX1 68 yX2_countChildren cX2_countChildren 4 (some .int) 1 1 := ⟨⟨wc_X2_countChildren, wn_X2, (gw_t 553 (by decide +kernel) rfl), by decide +kernel⟩, wi_X2_countChildren, ws_X2_countChildren, TX2, 11, rfl⟩
theorem l_X1_71 : fm_lV RX1 71 yX2_countWomen cX2_countWomen 4 (some .int) 1 1 := ⟨⟨wc_X2_countWomen, wn_X2, (gw_t 554 (by decide +kernel) rfl), by decide +kernel⟩, wi_X2_countWomen, ws_X2_countWomen, TX2, 11, rfl⟩
theorem l_X1_77 : fm_lV RX1 77 yX2_oneWomanLeft cX2_oneWomanLeft 1 (some .boolean) 0 1 := ⟨⟨wc_X2_oneWomanLeft, wn_X2, (gw_t 555 (by decide +kernel) rfl), by decide +kernel⟩, wi_X2_oneWomanLeft, ws_X2_oneWomanLeft, TX2, 11, rfl⟩
theorem l_X1_86 : fm_lV RX1 86 yX2_isFree cX2_isFree 2 (some .boolean) 1 1 := ⟨⟨wc_X2_isFree, wn_X2, (gw_t 569 (by decide +kernel) rfl), by decide +kernel⟩, wi_X2_isFree, ws_X2_isFree, TX2, 11, rfl⟩
theorem l_X1_90 : fm_lV RX1 90 yX1_firstBare cX1_firstBare 3 (some .int) 1 0 := ⟨⟨wc_X1_firstBare, wn_X1, (gw_t 570 (by decide +kernel) rfl), by decide +kernel⟩, wi_X1_firstBare, ws_X1_firstBare, TX1, 4, rfl⟩
theorem l_X1_94 : fm_lV RX1 94 yX2_dress cX2_dress 3 (some .int) 2 1 := ⟨⟨wc_X2_dress, wn_X2, (gw_t 575 (by decide +kernel) rfl), by decide +kernel⟩, wi_X2_dress, ws_X2_dress, TX2, 11, rfl⟩
theorem l_X1_98 : fm_lV RX1 98 yX2_isBare cX2_isBare 2 (some .boolean) 1 1 := ⟨⟨wc_X2_isBare, wn_X2, (gw_t 574 (by decide +kernel) rfl), by decide +kernel⟩, wi_X2_isBare, ws_X2_isBare, TX2, 11, rfl⟩
theorem l_X1_101 : fm_lS RX1 101 yX1_draw cX1_draw 4 (some .int) 2 := ⟨⟨wc_X1_draw, wn_X1, (gw_t 679 (by decide +kernel) rfl), by decide +kernel⟩, wt_X1_draw⟩
theorem l_X1_104 : fm_lV RX1 104 yX2_lowestFree cX2_lowestFree 2 (some .int) 0 1 := ⟨⟨wc_X2_lowestFree, wn_X2, (gw_t 686 (by decide +kernel) rfl), by decide +kernel⟩, wi_X2_lowestFree, ws_X2_lowestFree, TX2, 11, rfl⟩
theorem l_X2_59 : fm_lV RX2 59 yX2_isFree cX2_isFree 2 (some .boolean) 1 1 := ⟨⟨wc_X2_isFree, wn_X2, (gw_t 429 (by decide +kernel) rfl), by decide +kernel⟩, wi_X2_isFree, ws_X2_isFree, TX2, 11, rfl⟩
theorem l_X2_63 : fm_lV RX2 63 yX2_countWomen cX2_countWomen 4 (some .int) 1 1 := ⟨⟨wc_X2_countWomen, wn_X2, (gw_t 463 (by decide +kernel) rfl), by decide +kernel⟩, wi_X2_countWomen, ws_X2_countWomen, TX2, 11, rfl⟩
theorem l_X2_67 : fm_lV RX2 67 yX2_countChildren cX2_countChildren 4 (some .int) 1 1 := ⟨⟨wc_X2_countChildren, wn_X2, (gw_t 480 (by decide +kernel) rfl), by decide +kernel⟩, wi_X2_countChildren, ws_X2_countChildren, TX2, 11, rfl⟩
theorem l_X2_70 : fm_lV RX2 70 yX4_hasChild cX4_hasChild 2 (some .boolean) 1 3 := ⟨⟨wc_X4_hasChild, wn_X4, (gw_t 409 (by decide +kernel) rfl), by decide +kernel⟩, wi_X4_hasChild, ws_X4_hasChild, TX4, 7, rfl⟩
theorem l_X2_79 : fm_lS RX2 79 yX4_minutesFor cX4_minutesFor 4 (some .int) 3 := ⟨⟨wc_X4_minutesFor, wn_X4, (gw_t 410 (by decide +kernel) rfl), by decide +kernel⟩, wt_X4_minutesFor⟩
theorem l_X2_83 : fm_lV RX2 83 yX2_isBare cX2_isBare 2 (some .boolean) 1 1 := ⟨⟨wc_X2_isBare, wn_X2, (gw_t 433 (by decide +kernel) rfl), by decide +kernel⟩, wi_X2_isBare, ws_X2_isBare, TX2, 11, rfl⟩
theorem l_X2_86 : fm_lV RX2 86 yX2_canDress cX2_canDress 3 (some .boolean) 2 1 := ⟨⟨wc_X2_canDress, wn_X2, (gw_t 453 (by decide +kernel) rfl), by decide +kernel⟩, wi_X2_canDress, ws_X2_canDress, TX2, 11, rfl⟩
theorem l_X2_90 : fm_lV RX2 90 yX2_minutesToDress cX2_minutesToDress 2 (some .int) 1 1 := ⟨⟨wc_X2_minutesToDress, wn_X2, (gw_t 454 (by decide +kernel) rfl), by decide +kernel⟩, wi_X2_minutesToDress, ws_X2_minutesToDress, TX2, 11, rfl⟩
theorem l_X2_93 : fm_lV RX2 93 yX2_canLayThings cX2_canLayThings 2 (some .boolean) 1 1 := ⟨⟨wc_X2_canLayThings, wn_X2, (gw_t 471 (by decide +kernel) rfl), by decide +kernel⟩, wi_X2_canLayThings, ws_X2_canLayThings, TX2, 11, rfl⟩
theorem l_X2_96 : fm_lV RX2 96 yX2_canOpenDoor cX2_canOpenDoor 2 (some .boolean) 1 1 := ⟨⟨wc_X2_canOpenDoor, wn_X2, (gw_t 488 (by decide +kernel) rfl), by decide +kernel⟩, wi_X2_canOpenDoor, ws_X2_canOpenDoor, TX2, 11, rfl⟩
theorem l_X2_99 : fm_lV RX2 99 yX2_oneWomanLeft cX2_oneWomanLeft 1 (some .boolean) 0 1 := ⟨⟨wc_X2_oneWomanLeft, wn_X2, (gw_t 489 (by decide +kernel) rfl), by decide +kernel⟩, wi_X2_oneWomanLeft, ws_X2_oneWomanLeft, TX2, 11, rfl⟩
theorem l_X2_106 : fm_lV RX2 106 yX2_hottest cX2_hottest 4 (some .int) 0 1 := ⟨⟨wc_X2_hottest, wn_X2, (gw_t 493 (by decide +kernel) rfl), by decide +kernel⟩, wi_X2_hottest, ws_X2_hottest, TX2, 11, rfl⟩
theorem l_X2_110 : fm_lV RX2 110 yX2_heat cX2_heat 4 (some .int) 0 1 := ⟨⟨wc_X2_heat, wn_X2, (gw_t 505 (by decide +kernel) rfl), by decide +kernel⟩, wi_X2_heat, ws_X2_heat, TX2, 11, rfl⟩
theorem l_X2_113 : fm_lV RX2 113 yX2_work cX2_work 2 none 0 1 := ⟨⟨wc_X2_work, wn_X2, (gw_t 509 (by decide +kernel) rfl), by decide +kernel⟩, wi_X2_work, ws_X2_work, TX2, 11, rfl⟩
theorem l_X2_119 : fm_lV RX2 119 yX2_finish cX2_finish 2 none 1 1 := ⟨⟨wc_X2_finish, wn_X2, (gw_t 513 (by decide +kernel) rfl), by decide +kernel⟩, wi_X2_finish, ws_X2_finish, TX2, 11, rfl⟩
theorem l_X2_123 : fm_lV RX2 123 yX2_hasWoman cX2_hasWoman 2 (some .boolean) 1 1 := ⟨⟨wc_X2_hasWoman, wn_X2, (gw_t 517 (by decide +kernel) rfl), by decide +kernel⟩, wi_X2_hasWoman, ws_X2_hasWoman, TX2, 11, rfl⟩
theorem l_X3_31 : fm_lV RX3 31 yX2_copyFrom cX2_copyFrom 2 none 1 1 := ⟨⟨wc_X2_copyFrom, wn_X2, (gw_t 441 (by decide +kernel) rfl), by decide +kernel⟩, wi_X2_copyFrom, ws_X2_copyFrom, TX2, 11, rfl⟩
theorem l_X4_40 : fm_lV RX4 40 yX4_tellChild cX4_tellChild 3 (some .boolean) 2 3 := ⟨⟨wc_X4_tellChild, wn_X4, (gw_t 318 (by decide +kernel) rfl), by decide +kernel⟩, wi_X4_tellChild, ws_X4_tellChild, TX4, 7, rfl⟩
theorem l_X4_44 : fm_lV RX4 44 yX4_tellNumber cX4_tellNumber 3 (some .boolean) 2 3 := ⟨⟨wc_X4_tellNumber, wn_X4, (gw_t 322 (by decide +kernel) rfl), by decide +kernel⟩, wi_X4_tellNumber, ws_X4_tellNumber, TX4, 7, rfl⟩
theorem l_X4_48 : fm_lS RX4 48 yX4_mostOf cX4_mostOf 1 (some .int) 1 := ⟨⟨wc_X4_mostOf, wn_X4, (gw_t 326 (by decide +kernel) rfl), by decide +kernel⟩, wt_X4_mostOf⟩
theorem l_X5_50 : fm_lV RX5 50 yX1_startFrom cX1_startFrom 2 none 1 0 := ⟨⟨wc_X1_startFrom, wn_X1, (gw_t 587 (by decide +kernel) rfl), by decide +kernel⟩, wi_X1_startFrom, ws_X1_startFrom, TX1, 4, rfl⟩
theorem l_X5_56 : fm_lV RX5 56 yX1_minutesTillLunch cX1_minutesTillLunch 1 (some .int) 0 0 := ⟨⟨wc_X1_minutesTillLunch, wn_X1, (gw_t 588 (by decide +kernel) rfl), by decide +kernel⟩, wi_X1_minutesTillLunch, ws_X1_minutesTillLunch, TX1, 4, rfl⟩
theorem l_X5_60 : fm_lV RX5 60 yX1_goOn cX1_goOn 4 none 2 0 := ⟨⟨wc_X1_goOn, wn_X1, (gw_t 589 (by decide +kernel) rfl), by decide +kernel⟩, wi_X1_goOn, ws_X1_goOn, TX1, 4, rfl⟩
theorem l_X5_64 : fm_lV RX5 64 yX5_isBetter cX5_isBetter 1 (some .boolean) 0 4 := ⟨⟨wc_X5_isBetter, wn_X5, (gw_t 590 (by decide +kernel) rfl), by decide +kernel⟩, wi_X5_isBetter, ws_X5_isBetter, TX5, 7, rfl⟩
theorem l_X5_70 : fm_lV RX5 70 yX5_nextRow cX5_nextRow 6 (some .boolean) 0 4 := ⟨⟨wc_X5_nextRow, wn_X5, (gw_t 594 (by decide +kernel) rfl), by decide +kernel⟩, wi_X5_nextRow, ws_X5_nextRow, TX5, 7, rfl⟩
theorem l_X5_84 : fm_lV RX5 84 yX5_swap cX5_swap 4 none 2 4 := ⟨⟨wc_X5_swap, wn_X5, (gw_t 599 (by decide +kernel) rfl), by decide +kernel⟩, wi_X5_swap, ws_X5_swap, TX5, 7, rfl⟩
theorem l_X5_91 : fm_lV RX5 91 yX5_makeRowWithLast cX5_makeRowWithLast 3 none 1 4 := ⟨⟨wc_X5_makeRowWithLast, wn_X5, (gw_t 612 (by decide +kernel) rfl), by decide +kernel⟩, wi_X5_makeRowWithLast, ws_X5_makeRowWithLast, TX5, 7, rfl⟩
theorem l_X6_24 : fm_lS RX6 24 yX4_minutesFor cX4_minutesFor 4 (some .int) 3 := ⟨⟨wc_X4_minutesFor, wn_X4, (gw_t 648 (by decide +kernel) rfl), by decide +kernel⟩, wt_X4_minutesFor⟩
theorem l_X7_19 : fm_lV RX7 19 yX4_clear cX4_clear 1 none 0 3 := ⟨⟨wc_X4_clear, wn_X4, (gw_t 291 (by decide +kernel) rfl), by decide +kernel⟩, wi_X4_clear, ws_X4_clear, TX4, 7, rfl⟩
theorem l_X7_24 : fm_lV RX7 24 yX7_readItem cX7_readItem 8 (some .int) 2 6 := ⟨⟨wc_X7_readItem, wn_X7, (gw_t 295 (by decide +kernel) rfl), by decide +kernel⟩, wi_X7_readItem, ws_X7_readItem, TX7, 2, rfl⟩
theorem l_X7_28 : fm_lV RX7 28 yX7_letterAt cX7_letterAt 2 (some .char) 1 6 := ⟨⟨wc_X7_letterAt, wn_X7, (gw_t 299 (by decide +kernel) rfl), by decide +kernel⟩, wi_X7_letterAt, ws_X7_letterAt, TX7, 2, rfl⟩
theorem l_X7_32 : fm_lV RX7 32 yX7_numberAt cX7_numberAt 4 (some .int) 1 6 := ⟨⟨wc_X7_numberAt, wn_X7, (gw_t 303 (by decide +kernel) rfl), by decide +kernel⟩, wi_X7_numberAt, ws_X7_numberAt, TX7, 2, rfl⟩
theorem l_X7_36 : fm_lV RX7 36 yX7_figuresAt cX7_figuresAt 2 (some .int) 1 6 := ⟨⟨wc_X7_figuresAt, wn_X7, (gw_t 307 (by decide +kernel) rfl), by decide +kernel⟩, wi_X7_figuresAt, ws_X7_figuresAt, TX7, 2, rfl⟩
theorem l_X7_39 : fm_lV RX7 39 yX4_tell cX4_tell 4 (some .boolean) 3 3 := ⟨⟨wc_X4_tell, wn_X4, (gw_t 314 (by decide +kernel) rfl), by decide +kernel⟩, wi_X4_tell, ws_X4_tell, TX4, 7, rfl⟩
theorem l_X7_43 : fm_lS RX7 43 yX7_isFigure cX7_isFigure 1 (some .boolean) 1 := ⟨⟨wc_X7_isFigure, wn_X7, (gw_t 311 (by decide +kernel) rfl), by decide +kernel⟩, wt_X7_isFigure⟩
theorem l_X9_40 : fm_lV RX9 40 yX9_begins cX9_begins 2 none 0 8 := ⟨⟨wc_X9_begins, wn_X9, (gw_t 714 (by decide +kernel) rfl), by decide +kernel⟩, wi_X9_begins, ws_X9_begins, TX9, 16, rfl⟩
theorem l_X9_43 : fm_lV RX9 43 yX9_childOf cX9_childOf 3 none 2 8 := ⟨⟨wc_X9_childOf, wn_X9, (gw_t 718 (by decide +kernel) rfl), by decide +kernel⟩, wi_X9_childOf, ws_X9_childOf, TX9, 16, rfl⟩
theorem l_X9_47 : fm_lV RX9 47 yX9_lays cX9_lays 2 none 0 8 := ⟨⟨wc_X9_lays, wn_X9, (gw_t 722 (by decide +kernel) rfl), by decide +kernel⟩, wi_X9_lays, ws_X9_lays, TX9, 16, rfl⟩
theorem l_X9_50 : fm_lS RX9 50 yX9_in cX9_in 3 (some .boolean) 3 := ⟨⟨wc_X9_in, wn_X9, (gw_t 783 (by decide +kernel) rfl), by decide +kernel⟩, wt_X9_in⟩
theorem l_X9_61 : fm_lV RX9 61 yX9_letterAt cX9_letterAt 2 (some .int) 1 8 := ⟨⟨wc_X9_letterAt, wn_X9, (gw_t 806 (by decide +kernel) rfl), by decide +kernel⟩, wi_X9_letterAt, ws_X9_letterAt, TX9, 16, rfl⟩
theorem l_X9_65 : fm_lS RX9 65 yX9_isFigure cX9_isFigure 1 (some .boolean) 1 := ⟨⟨wc_X9_isFigure, wn_X9, (gw_t 810 (by decide +kernel) rfl), by decide +kernel⟩, wt_X9_isFigure⟩
theorem l_X9_69 : fm_lV RX9 69 yX9_number cX9_number 6 (some .int) 3 8 := ⟨⟨wc_X9_number, wn_X9, (gw_t 802 (by decide +kernel) rfl), by decide +kernel⟩, wi_X9_number, ws_X9_number, TX9, 16, rfl⟩
theorem l_X9_73 : fm_lV RX9 73 yX9_one cX9_one 3 (some .boolean) 2 8 := ⟨⟨wc_X9_one, wn_X9, (gw_t 813 (by decide +kernel) rfl), by decide +kernel⟩, wi_X9_one, ws_X9_one, TX9, 16, rfl⟩
theorem l_X9_77 : fm_lV RX9 77 yX9_readsItem cX9_readsItem 4 (some .boolean) 1 8 := ⟨⟨wc_X9_readsItem, wn_X9, (gw_t 798 (by decide +kernel) rfl), by decide +kernel⟩, wi_X9_readsItem, ws_X9_readsItem, TX9, 16, rfl⟩
theorem l_X9_80 : fm_lV RX9 80 yX9_readsAll cX9_readsAll 2 (some .int) 0 8 := ⟨⟨wc_X9_readsAll, wn_X9, (gw_t 794 (by decide +kernel) rfl), by decide +kernel⟩, wi_X9_readsAll, ws_X9_readsAll, TX9, 16, rfl⟩
theorem l_X9_84 : fm_lV RX9 84 yX9_starts cX9_starts 2 none 0 8 := ⟨⟨wc_X9_starts, wn_X9, (gw_t 726 (by decide +kernel) rfl), by decide +kernel⟩, wi_X9_starts, ws_X9_starts, TX9, 16, rfl⟩
theorem l_X9_96 : fm_lS RX9 96 yX9_minutes cX9_minutes 4 (some .int) 3 := ⟨⟨wc_X9_minutes, wn_X9, (gw_t 837 (by decide +kernel) rfl), by decide +kernel⟩, wt_X9_minutes⟩
theorem l_X9_99 : fm_lV RX9 99 yX9_isChild cX9_isChild 2 (some .boolean) 1 8 := ⟨⟨wc_X9_isChild, wn_X9, (gw_t 825 (by decide +kernel) rfl), by decide +kernel⟩, wi_X9_isChild, ws_X9_isChild, TX9, 16, rfl⟩
theorem l_X9_102 : fm_lV RX9 102 yX9_whoHas cX9_whoHas 4 (some .int) 1 8 := ⟨⟨wc_X9_whoHas, wn_X9, (gw_t 829 (by decide +kernel) rfl), by decide +kernel⟩, wi_X9_whoHas, ws_X9_whoHas, TX9, 16, rfl⟩
theorem l_X9_105 : fm_lV RX9 105 yX9_minutesOf cX9_minutesOf 2 (some .int) 1 8 := ⟨⟨wc_X9_minutesOf, wn_X9, (gw_t 833 (by decide +kernel) rfl), by decide +kernel⟩, wi_X9_minutesOf, ws_X9_minutesOf, TX9, 16, rfl⟩
theorem l_X9_108 : fm_lV RX9 108 yX9_isWoman cX9_isWoman 2 (some .boolean) 1 8 := ⟨⟨wc_X9_isWoman, wn_X9, (gw_t 844 (by decide +kernel) rfl), by decide +kernel⟩, wi_X9_isWoman, ws_X9_isWoman, TX9, 16, rfl⟩
theorem l_X9_111 : fm_lV RX9 111 yX9_begin cX9_begin 5 none 4 8 := ⟨⟨wc_X9_begin, wn_X9, (gw_t 860 (by decide +kernel) rfl), by decide +kernel⟩, wi_X9_begin, ws_X9_begin, TX9, 16, rfl⟩
theorem l_X9_115 : fm_lV RX9 115 yX9_keeps cX9_keeps 2 none 0 8 := ⟨⟨wc_X9_keeps, wn_X9, (gw_t 852 (by decide +kernel) rfl), by decide +kernel⟩, wi_X9_keeps, ws_X9_keeps, TX9, 16, rfl⟩
theorem l_X9_118 : fm_lV RX9 118 yX9_dresses cX9_dresses 3 none 2 8 := ⟨⟨wc_X9_dresses, wn_X9, (gw_t 856 (by decide +kernel) rfl), by decide +kernel⟩, wi_X9_dresses, ws_X9_dresses, TX9, 16, rfl⟩
theorem l_X9_121 : fm_lV RX9 121 yX9_isLaid cX9_isLaid 3 (some .boolean) 0 8 := ⟨⟨wc_X9_isLaid, wn_X9, (gw_t 868 (by decide +kernel) rfl), by decide +kernel⟩, wi_X9_isLaid, ws_X9_isLaid, TX9, 16, rfl⟩
theorem l_X9_125 : fm_lV RX9 125 yX9_how cX9_how 6 (some .int) 3 8 := ⟨⟨wc_X9_how, wn_X9, (gw_t 880 (by decide +kernel) rfl), by decide +kernel⟩, wi_X9_how, ws_X9_how, TX9, 16, rfl⟩
theorem l_X9_128 : fm_lV RX9 128 yX9_notOut cX9_notOut 1 (some .int) 0 8 := ⟨⟨wc_X9_notOut, wn_X9, (gw_t 888 (by decide +kernel) rfl), by decide +kernel⟩, wi_X9_notOut, ws_X9_notOut, TX9, 16, rfl⟩
theorem l_X9_131 : fm_lV RX9 131 yX9_children cX9_children 2 (some .int) 1 8 := ⟨⟨wc_X9_children, wn_X9, (gw_t 876 (by decide +kernel) rfl), by decide +kernel⟩, wi_X9_children, ws_X9_children, TX9, 16, rfl⟩
theorem l_X9_134 : fm_lV RX9 134 yX9_opens cX9_opens 7 (some .int) 1 8 := ⟨⟨wc_X9_opens, wn_X9, (gw_t 884 (by decide +kernel) rfl), by decide +kernel⟩, wi_X9_opens, ws_X9_opens, TX9, 16, rfl⟩
theorem l_X9_137 : fm_lV RX9 137 yX9_passes cX9_passes 4 (some .int) 0 8 := ⟨⟨wc_X9_passes, wn_X9, (gw_t 896 (by decide +kernel) rfl), by decide +kernel⟩, wi_X9_passes, ws_X9_passes, TX9, 16, rfl⟩
theorem l_X9_140 : fm_lV RX9 140 yX9_highestFree cX9_highestFree 3 (some .int) 0 8 := ⟨⟨wc_X9_highestFree, wn_X9, (gw_t 924 (by decide +kernel) rfl), by decide +kernel⟩, wi_X9_highestFree, ws_X9_highestFree, TX9, 16, rfl⟩
theorem l_X9_146 : fm_lV RX9 146 yX9_mayOpen cX9_mayOpen 4 (some .boolean) 0 8 := ⟨⟨wc_X9_mayOpen, wn_X9, (gw_t 920 (by decide +kernel) rfl), by decide +kernel⟩, wi_X9_mayOpen, ws_X9_mayOpen, TX9, 16, rfl⟩
theorem l_X9_149 : fm_lV RX9 149 yX9_takesRow cX9_takesRow 4 none 0 8 := ⟨⟨wc_X9_takesRow, wn_X9, (gw_t 928 (by decide +kernel) rfl), by decide +kernel⟩, wi_X9_takesRow, ws_X9_takesRow, TX9, 16, rfl⟩
theorem l_X9_152 : fm_lV RX9 152 yX9_goes cX9_goes 2 (some .int) 0 8 := ⟨⟨wc_X9_goes, wn_X9, (gw_t 916 (by decide +kernel) rfl), by decide +kernel⟩, wi_X9_goes, ws_X9_goes, TX9, 16, rfl⟩
theorem l_X9_155 : fm_lV RX9 155 yX9_lets cX9_lets 2 none 0 8 := ⟨⟨wc_X9_lets, wn_X9, (gw_t 932 (by decide +kernel) rfl), by decide +kernel⟩, wi_X9_lets, ws_X9_lets, TX9, 16, rfl⟩
theorem l_X9_158 : fm_lV RX9 158 yX9_holds cX9_holds 2 none 0 8 := ⟨⟨wc_X9_holds, wn_X9, (gw_t 908 (by decide +kernel) rfl), by decide +kernel⟩, wi_X9_holds, ws_X9_holds, TX9, 16, rfl⟩
theorem l_X9_161 : fm_lV RX9 161 yX9_goesBut cX9_goesBut 4 (some .int) 1 8 := ⟨⟨wc_X9_goesBut, wn_X9, (gw_t 912 (by decide +kernel) rfl), by decide +kernel⟩, wi_X9_goesBut, ws_X9_goesBut, TX9, 16, rfl⟩
theorem l_X9_164 : fm_lV RX9 164 yX9_isRow cX9_isRow 5 (some .boolean) 1 8 := ⟨⟨wc_X9_isRow, wn_X9, (gw_t 940 (by decide +kernel) rfl), by decide +kernel⟩, wi_X9_isRow, ws_X9_isRow, TX9, 16, rfl⟩
theorem l_X9_167 : fm_lV RX9 167 yX9_lowestFree cX9_lowestFree 3 (some .int) 0 8 := ⟨⟨wc_X9_lowestFree, wn_X9, (gw_t 952 (by decide +kernel) rfl), by decide +kernel⟩, wi_X9_lowestFree, ws_X9_lowestFree, TX9, 16, rfl⟩
theorem l_X9_170 : fm_lV RX9 170 yX9_isSo cX9_isSo 7 (some .boolean) 3 8 := ⟨⟨wc_X9_isSo, wn_X9, (gw_t 972 (by decide +kernel) rfl), by decide +kernel⟩, wi_X9_isSo, ws_X9_isSo, TX9, 16, rfl⟩
theorem l_X9_179 : fm_lV RX9 179 yX9_turn cX9_turn 3 (some .int) 1 8 := ⟨⟨wc_X9_turn, wn_X9, (gw_t 991 (by decide +kernel) rfl), by decide +kernel⟩, wi_X9_turn, ws_X9_turn, TX9, 16, rfl⟩
theorem k_X1_107 : Cond.constantLong RX1 107 7919 ∈ gw := (gw_t 682 (by decide +kernel) rfl)
theorem k_X1_109 : Cond.constantLong RX1 109 6151 ∈ gw := (gw_t 683 (by decide +kernel) rfl)
theorem k_X1_111 : Cond.constantLong RX1 111 65521 ∈ gw := (gw_t 684 (by decide +kernel) rfl)
theorem k_X1_113 : Cond.constantLong RX1 113 2 ∈ gw := (gw_t 685 (by decide +kernel) rfl)
theorem k_X9_173 : Cond.constantLong RX9 173 7919 ∈ gw := (gw_t 988 (by decide +kernel) rfl)
theorem k_X9_175 : Cond.constantLong RX9 175 6151 ∈ gw := (gw_t 989 (by decide +kernel) rfl)
theorem k_X9_177 : Cond.constantLong RX9 177 65521 ∈ gw := (gw_t 990 (by decide +kernel) rfl)
theorem cp_X2_48 : fm_cpw RX2 48 := ⟨(gw_t 445 (by decide +kernel) rfl), (gw_t 388 (by decide +kernel) rfl), (gw_t 387 (by decide +kernel) rfl), (gw_t 15 (by decide +kernel) rfl)⟩
theorem cp_X4_34 : fm_cpw RX4 34 := ⟨(gw_t 386 (by decide +kernel) rfl), (gw_t 388 (by decide +kernel) rfl), (gw_t 387 (by decide +kernel) rfl), (gw_t 15 (by decide +kernel) rfl)⟩
theorem cp_X5_44 : fm_cpw RX5 44 := ⟨(gw_t 586 (by decide +kernel) rfl), (gw_t 388 (by decide +kernel) rfl), (gw_t 387 (by decide +kernel) rfl), (gw_t 15 (by decide +kernel) rfl)⟩
theorem gs_X8_183 : Cond.fieldLink RX8 183 "SnowSuits" "BY_NUMBER" "[I" ∈ gw := (gw_t 535 (by decide +kernel) rfl)
theorem gs_X5_41 : Cond.fieldLinkNest RX5 41 "SnowSuits" "BY_NUMBER" "[I" "SnowSuits" ∈ fm_nest := fm_nest_t 585 (by decide +kernel) rfl
theorem mm_X3_35 : fm_mmw RX3 35 Lib.Math.min.name Lib.Math.min.code := ⟨(gw_t 446 (by decide +kernel) rfl), (gw_t 447 (by decide +kernel) rfl), (gw_t 6 (by decide +kernel) rfl), (gw_t 448 (by decide +kernel) rfl)⟩
theorem mm_X5_78 : fm_mmw RX5 78 Lib.Math.min.name Lib.Math.min.code := ⟨(gw_t 598 (by decide +kernel) rfl), (gw_t 447 (by decide +kernel) rfl), (gw_t 6 (by decide +kernel) rfl), (gw_t 448 (by decide +kernel) rfl)⟩
theorem mm_X5_88 : fm_mmw RX5 88 Lib.Math.max.name Lib.Math.max.code := ⟨(gw_t 603 (by decide +kernel) rfl), (gw_t 140 (by decide +kernel) rfl), (gw_t 6 (by decide +kernel) rfl), (gw_t 141 (by decide +kernel) rfl)⟩
