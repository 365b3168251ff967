-- X8_asTold
abbrev rm_X8_asTold : Room := { frames := 5, cells := 0, slots := 0, locals := 113 }
def f_X8_asTold_9 (s : fm_M) : Option (Int32 × fm_M) :=
  some ((-1 : Int32), s)
set_option maxHeartbeats 4000000 in
theorem t_X8_asTold_9 {w : fm_W} {l : Launch} {o : fm_O} (hI : fm_I w 105) (s : fm_M) (z : Int32 × fm_M) (h : f_X8_asTold_9 s = some z) (ho : ∀ (r : Int32) (s : fm_M), z = (r, s) → o = (some (.int r), s)) : fm_V w layX 105 l rm_X8_asTold cX8_asTold 2 RX8 (some .int) o 9 [none, none] [] s := by
  unfold f_X8_asTold_9 at h
  refine v_iconst (-1 : Int32) dX8_asTold_9 (by decide) ?_
  exact v_iret rfl (ho _ _ (Option.some.inj h).symm) dX8_asTold_10
def f_X8_asTold_60 (sk0 : Int32) (s : fm_M) : Option (Int32 × fm_M) :=
  some (sk0, s)
set_option maxHeartbeats 4000000 in
theorem t_X8_asTold_60 {w : fm_W} {l : Launch} {o : fm_O} (hI : fm_I w 105) (sk0 : Int32) (s : fm_M) (z : Int32 × fm_M) (h : f_X8_asTold_60 sk0 s = some z) (ho : ∀ (r : Int32) (s : fm_M), z = (r, s) → o = (some (.int r), s)) : fm_V w layX 105 l rm_X8_asTold cX8_asTold 2 RX8 (some .int) o 60 [none, none] [.int sk0] s := by
  unfold f_X8_asTold_60 at h
  exact v_iret rfl (ho _ _ (Option.some.inj h).symm) dX8_asTold_60
def f_X8_asTold (v1 : Int32) (s : fm_M) : Option (Int32 × fm_M) :=
  if v1 < 0 then f_X8_asTold_9 s else if v1 ≤ (1 : Int32) then fm_bd (f_X1_startFrom 9 s) (fun r1 s1 => fm_bd (f_X1_minutesTillLunch s1) (fun r2 s2 => fm_bd (f_X1_goOn 1000 r2 s2) (fun r3 s3 => if v1 = 0 then f_X8_asTold_60 (s3 90 2) s3 else f_X8_asTold_60 (s3 90 3) s3))) else f_X8_asTold_9 s
set_option maxHeartbeats 4000000 in
theorem e_X8_asTold {w : fm_W} {l : Launch} {o : fm_O} (hI : fm_I w 105) (v1 : Int32) (s : fm_M) (z : Int32 × fm_M) (h : f_X8_asTold v1 s = some z) (ho : ∀ (r : Int32) (s : fm_M), z = (r, s) → o = (some (.int r), s)) : fm_V w layX 105 l rm_X8_asTold cX8_asTold 2 RX8 (some .int) o 0 [some (.ref (fm_ad w 0)), some (.int v1)] [] s := by
  unfold f_X8_asTold at h
  refine v_iload_n 1 dX8_asTold_0 rfl rfl ?_
  refine v_if_lt 9 dX8_asTold_1 (by decide) h (fun h => ?_) (fun h => ?_)
  · refine v_lw [none, none] rfl trivial ?_
    exact t_X8_asTold_9 hI s _ h ho
  · refine v_iload_n 1 dX8_asTold_4 rfl rfl ?_
    refine v_iconst (1 : Int32) dX8_asTold_5 (by decide) ?_
    refine v_icmp_le 11 dX8_asTold_6 (by decide) h (fun h => ?_) (fun h => ?_)
    · refine v_aload_n 0 dX8_asTold_11 rfl rfl ?_
      refine v_getr 90 g_X8_50 yX_0 (by decide) rfl dX8_asTold_12 ?_
      refine v_aload_n 0 dX8_asTold_15 rfl rfl ?_
      refine v_getr 9 g_X8_31 yX_0 (by decide) rfl dX8_asTold_16 ?_
      obtain ⟨r1, s1, h1, h⟩ := fm_bds h
      refine v_cVv [.ref (fm_ad w 9)] [] l_X8_180 (c_X1_startFrom hI isH_9 h1) yX_90 (by decide) rfl rfl ⟨rfl, rfl, by decide, by decide⟩ (Nat.le_of_ble_eq_true rfl) dX8_asTold_19 ?_
      refine v_aload_n 0 dX8_asTold_22 rfl rfl ?_
      refine v_getr 90 g_X8_50 yX_0 (by decide) rfl dX8_asTold_23 ?_
      refine v_gets gs_X8_183 dX8_asTold_26 ?_
      refine v_aload_n 0 dX8_asTold_29 rfl rfl ?_
      refine v_getr 90 g_X8_50 yX_0 (by decide) rfl dX8_asTold_30 ?_
      obtain ⟨r2, s2, h2, h⟩ := fm_bds h
      refine v_cVi [] [.ref (fm_ad w 1000), .ref (fm_ad w 90)] l_X8_186 (c_X1_minutesTillLunch hI h2) yX_90 (by decide) rfl rfl ⟨rfl, rfl, by decide, by decide⟩ (Nat.le_of_ble_eq_true rfl) dX8_asTold_33 ?_
      obtain ⟨r3, s3, h3, h⟩ := fm_bds h
      refine v_cVv [.ref (fm_ad w 1000), .int r2] [] l_X8_189 (c_X1_goOn hI (Or.inr ⟨rfl, rfl⟩) h3) yX_90 (by decide) rfl rfl ⟨rfl, rfl, by decide, by decide⟩ (Nat.le_of_ble_eq_true rfl) dX8_asTold_36 ?_
      refine v_iload_n 1 dX8_asTold_39 rfl rfl ?_
      refine v_if_ne 53 dX8_asTold_40 (by decide) h (fun h => ?_) (fun h => ?_)
      · refine v_aload_n 0 dX8_asTold_53 rfl rfl ?_
        refine v_getr 90 g_X8_50 yX_0 (by decide) rfl dX8_asTold_54 ?_
        refine v_geti g_X8_196 yX_90 (by decide) rfl dX8_asTold_57 ?_
        refine v_lw [none, none] rfl trivial ?_
        exact t_X8_asTold_60 hI (s3 90 3) s3 _ h ho
      · refine v_aload_n 0 dX8_asTold_43 rfl rfl ?_
        refine v_getr 90 g_X8_50 yX_0 (by decide) rfl dX8_asTold_44 ?_
        refine v_geti g_X8_193 yX_90 (by decide) rfl dX8_asTold_47 ?_
        refine v_goto 60 dX8_asTold_50 (by decide) ?_
        refine v_lw [none, none] rfl trivial ?_
        exact t_X8_asTold_60 hI (s3 90 2) s3 _ h ho
    · refine v_lw [none, none] rfl trivial ?_
      exact t_X8_asTold_9 hI s _ h ho
theorem c_X8_asTold {w : fm_W} {l : Launch} (hI : fm_I w 105) {v1 : Int32} {s : fm_M} {r : Int32} {s2 : fm_M} (h : f_X8_asTold v1 s = some (r, s2)) : fm_C w layX 105 l yX8_asTold cX8_asTold 2 (some .int) rm_X8_asTold [.ref (fm_ad w 0), .int v1] s (some (.int r), s2) :=
  fm_of hI (by decide) rfl (Nat.le_of_ble_eq_true rfl) (e_X8_asTold hI v1 s _ h (fun r s e => by cases e; rfl))
-- X8_back
abbrev rm_X8_back : Room := { frames := 3, cells := 0, slots := 0, locals := 68 }
def f_X8_back (s : fm_M) : Option (Int32 × fm_M) :=
  if (s 74 2) = 0 then some ((-2 : Int32), s) else fm_bd (f_X3_popInto 74 2 9 s) (fun r1 s1 => fm_bd (f_X3_clear 16 8 s1) (fun r2 s2 => some ((s2 74 2), s2)))
set_option maxHeartbeats 4000000 in
theorem e_X8_back {w : fm_W} {l : Launch} {o : fm_O} (hI : fm_I w 105) (s : fm_M) (z : Int32 × fm_M) (h : f_X8_back s = some z) (ho : ∀ (r : Int32) (s : fm_M), z = (r, s) → o = (some (.int r), s)) : fm_V w layX 105 l rm_X8_back cX8_back 1 RX8 (some .int) o 0 [some (.ref (fm_ad w 0))] [] s := by
  unfold f_X8_back at h
  refine v_aload_n 0 dX8_back_0 rfl rfl ?_
  refine v_getr 74 g_X8_44 yX_0 (by decide) rfl dX8_back_1 ?_
  refine v_geti g_X8_176 yX_74 (by decide) rfl dX8_back_4 ?_
  refine v_if_ne 13 dX8_back_7 (by decide) h (fun h => ?_) (fun h => ?_)
  · refine v_aload_n 0 dX8_back_13 rfl rfl ?_
    refine v_getr 74 g_X8_44 yX_0 (by decide) rfl dX8_back_14 ?_
    refine v_aload_n 0 dX8_back_17 rfl rfl ?_
    refine v_getr 9 g_X8_31 yX_0 (by decide) rfl dX8_back_18 ?_
    obtain ⟨r1, s1, h1, h⟩ := fm_bds h
    refine v_cVv [.ref (fm_ad w 9)] [] l_X8_177 (c_X3_popInto hI isPi_74 isH_9 h1) yX_74 (by decide) rfl rfl ⟨rfl, rfl, by decide, by decide⟩ (Nat.le_of_ble_eq_true rfl) dX8_back_21 ?_
    refine v_aload_n 0 dX8_back_24 rfl rfl ?_
    refine v_getr 16 g_X8_40 yX_0 (by decide) rfl dX8_back_25 ?_
    obtain ⟨r2, s2, h2, h⟩ := fm_bds h
    refine v_cVv [] [] l_X8_109 (c_X3_clear hI isPi_16 h2) yX_16 (by decide) rfl rfl ⟨rfl, rfl, by decide, by decide⟩ (Nat.le_of_ble_eq_true rfl) dX8_back_28 ?_
    refine v_aload_n 0 dX8_back_31 rfl rfl ?_
    refine v_getr 74 g_X8_44 yX_0 (by decide) rfl dX8_back_32 ?_
    refine v_geti g_X8_176 yX_74 (by decide) rfl dX8_back_35 ?_
    exact v_iret rfl (ho _ _ (Option.some.inj h).symm) dX8_back_38
  · refine v_bipush (-2 : Int32) dX8_back_10 (by decide) ?_
    exact v_iret rfl (ho _ _ (Option.some.inj h).symm) dX8_back_12
theorem c_X8_back {w : fm_W} {l : Launch} (hI : fm_I w 105) {s : fm_M} {r : Int32} {s2 : fm_M} (h : f_X8_back s = some (r, s2)) : fm_C w layX 105 l yX8_back cX8_back 1 (some .int) rm_X8_back [.ref (fm_ad w 0)] s (some (.int r), s2) :=
  fm_of hI (by decide) rfl (Nat.le_of_ble_eq_true rfl) (e_X8_back hI s _ h (fun r s e => by cases e; rfl))
-- X8_best
abbrev rm_X8_best : Room := { frames := 6, cells := 0, slots := 0, locals := 136 }
def f_X8_best_83 (sk0 : Int32) (s : fm_M) : Option (Int32 × fm_M) :=
  some (sk0, s)
set_option maxHeartbeats 4000000 in
theorem t_X8_best_83 {w : fm_W} {l : Launch} {o : fm_O} (hI : fm_I w 105) (sk0 : Int32) (s : fm_M) (z : Int32 × fm_M) (h : f_X8_best_83 sk0 s = some z) (ho : ∀ (r : Int32) (s : fm_M), z = (r, s) → o = (some (.int r), s)) : fm_V w layX 105 l rm_X8_best cX8_best 2 RX8 (some .int) o 83 [none, none] [.int sk0] s := by
  unfold f_X8_best_83 at h
  exact v_iret rfl (ho _ _ (Option.some.inj h).symm) dX8_best_83
def f_X8_best_81 (s : fm_M) : Option (Int32 × fm_M) :=
  f_X8_best_83 (-4 : Int32) s
set_option maxHeartbeats 4000000 in
theorem t_X8_best_81 {w : fm_W} {l : Launch} {o : fm_O} (hI : fm_I w 105) (s : fm_M) (z : Int32 × fm_M) (h : f_X8_best_81 s = some z) (ho : ∀ (r : Int32) (s : fm_M), z = (r, s) → o = (some (.int r), s)) : fm_V w layX 105 l rm_X8_best cX8_best 2 RX8 (some .int) o 81 [none, none] [] s := by
  unfold f_X8_best_81 at h
  refine v_bipush (-4 : Int32) dX8_best_81 (by decide) ?_
  refine v_lw [none, none] rfl trivial ?_
  exact t_X8_best_83 hI (-4 : Int32) s _ h ho
def f_X8_best (v1 : Int32) (s : fm_M) : Option (Int32 × fm_M) :=
  if (-2 : Int32) ≤ v1 then fm_bd (f_X5_tryAllRows 9 s) (fun r1 s1 => if v1 = (-1 : Int32) then some ((s1 98 4), s1) else if v1 = (-2 : Int32) then some ((s1 98 5), s1) else if (s1 98 4) = (-4 : Int32) then f_X8_best_81 s1 else fm_bd (f_X4_hasChild 6 v1 s1) (fun r2 s2 => if r2 = 0 then f_X8_best_81 s2 else if fm_in v1 6 = true then f_X8_best_83 (s2 100 v1.toNatClampNeg) s2 else none)) else some ((-1 : Int32), s)
set_option maxHeartbeats 4000000 in
theorem e_X8_best {w : fm_W} {l : Launch} {o : fm_O} (hI : fm_I w 105) (v1 : Int32) (s : fm_M) (z : Int32 × fm_M) (h : f_X8_best v1 s = some z) (ho : ∀ (r : Int32) (s : fm_M), z = (r, s) → o = (some (.int r), s)) : fm_V w layX 105 l rm_X8_best cX8_best 2 RX8 (some .int) o 0 [some (.ref (fm_ad w 0)), some (.int v1)] [] s := by
  unfold f_X8_best at h
  refine v_iload_n 1 dX8_best_0 rfl rfl ?_
  refine v_bipush (-2 : Int32) dX8_best_1 (by decide) ?_
  refine v_icmp_ge 8 dX8_best_3 (by decide) h (fun h => ?_) (fun h => ?_)
  · refine v_aload_n 0 dX8_best_8 rfl rfl ?_
    refine v_getr 98 g_X8_59 yX_0 (by decide) rfl dX8_best_9 ?_
    refine v_aload_n 0 dX8_best_12 rfl rfl ?_
    refine v_getr 9 g_X8_31 yX_0 (by decide) rfl dX8_best_13 ?_
    obtain ⟨r1, s1, h1, h⟩ := fm_bds h
    refine v_cVv [.ref (fm_ad w 9)] [] l_X8_199 (c_X5_tryAllRows hI isH_9 h1) yX_98 (by decide) rfl rfl ⟨rfl, rfl, by decide, by decide⟩ (Nat.le_of_ble_eq_true rfl) dX8_best_16 ?_
    refine v_iload_n 1 dX8_best_19 rfl rfl ?_
    refine v_iconst (-1 : Int32) dX8_best_20 (by decide) ?_
    refine v_icmp_ne 32 dX8_best_21 (by decide) h (fun h => ?_) (fun h => ?_)
    · refine v_iload_n 1 dX8_best_32 rfl rfl ?_
      refine v_bipush (-2 : Int32) dX8_best_33 (by decide) ?_
      refine v_icmp_ne 46 dX8_best_35 (by decide) h (fun h => ?_) (fun h => ?_)
      · refine v_aload_n 0 dX8_best_46 rfl rfl ?_
        refine v_getr 98 g_X8_59 yX_0 (by decide) rfl dX8_best_47 ?_
        refine v_geti g_X8_202 yX_98 (by decide) rfl dX8_best_50 ?_
        refine v_bipush (-4 : Int32) dX8_best_53 (by decide) ?_
        refine v_icmp_eq 81 dX8_best_55 (by decide) h (fun h => ?_) (fun h => ?_)
        · refine v_lw [none, none] rfl trivial ?_
          exact t_X8_best_81 hI s1 _ h ho
        · refine v_aload_n 0 dX8_best_58 rfl rfl ?_
          refine v_getr 6 g_X8_23 yX_0 (by decide) rfl dX8_best_59 ?_
          refine v_iload_n 1 dX8_best_62 rfl rfl ?_
          obtain ⟨r2, s2, h2, h⟩ := fm_bds h
          refine v_cVi [.int v1] [] l_X8_113 (c_X4_hasChild hI isPl_6 h2) yX_6 (by decide) rfl rfl ⟨rfl, rfl, by decide, by decide⟩ (Nat.le_of_ble_eq_true rfl) dX8_best_63 ?_
          refine v_if_eq 81 dX8_best_66 (by decide) h (fun h => ?_) (fun h => ?_)
          · refine v_lw [none, none] rfl trivial ?_
            exact t_X8_best_81 hI s2 _ h ho
          · refine v_aload_n 0 dX8_best_69 rfl rfl ?_
            refine v_getr 98 g_X8_59 yX_0 (by decide) rfl dX8_best_70 ?_
            refine v_getr 100 g_X8_204 yX_98 (by decide) rfl dX8_best_73 ?_
            refine v_iload_n 1 dX8_best_76 rfl rfl ?_
            obtain ⟨hi, h⟩ := fm_ift h
            refine v_iald (Or.inl ⟨(by decide), yX_100⟩) hi dX8_best_77 ?_
            refine v_goto 83 dX8_best_78 (by decide) ?_
            refine v_lw [none, none] rfl trivial ?_
            exact t_X8_best_83 hI (s2 100 v1.toNatClampNeg) s2 _ h ho
      · refine v_aload_n 0 dX8_best_38 rfl rfl ?_
        refine v_getr 98 g_X8_59 yX_0 (by decide) rfl dX8_best_39 ?_
        refine v_geti g_X8_203 yX_98 (by decide) rfl dX8_best_42 ?_
        exact v_iret rfl (ho _ _ (Option.some.inj h).symm) dX8_best_45
    · refine v_aload_n 0 dX8_best_24 rfl rfl ?_
      refine v_getr 98 g_X8_59 yX_0 (by decide) rfl dX8_best_25 ?_
      refine v_geti g_X8_202 yX_98 (by decide) rfl dX8_best_28 ?_
      exact v_iret rfl (ho _ _ (Option.some.inj h).symm) dX8_best_31
  · refine v_iconst (-1 : Int32) dX8_best_6 (by decide) ?_
    exact v_iret rfl (ho _ _ (Option.some.inj h).symm) dX8_best_7
theorem c_X8_best {w : fm_W} {l : Launch} (hI : fm_I w 105) {v1 : Int32} {s : fm_M} {r : Int32} {s2 : fm_M} (h : f_X8_best v1 s = some (r, s2)) : fm_C w layX 105 l yX8_best cX8_best 2 (some .int) rm_X8_best [.ref (fm_ad w 0), .int v1] s (some (.int r), s2) :=
  fm_of hI (by decide) rfl (Nat.le_of_ble_eq_true rfl) (e_X8_best hI v1 s _ h (fun r s e => by cases e; rfl))
-- X8_child
abbrev rm_X8_child : Room := { frames := 2, cells := 0, slots := 0, locals := 44 }
def f_X8_child_99 (sk0 : Int32) (s : fm_M) : Option (Int32 × fm_M) :=
  some (sk0, s)
set_option maxHeartbeats 4000000 in
theorem t_X8_child_99 {w : fm_W} {l : Launch} {o : fm_O} (hI : fm_I w 105) (sk0 : Int32) (s : fm_M) (z : Int32 × fm_M) (h : f_X8_child_99 sk0 s = some z) (ho : ∀ (r : Int32) (s : fm_M), z = (r, s) → o = (some (.int r), s)) : fm_V w layX 105 l rm_X8_child cX8_child 3 RX8 (some .int) o 99 [none, none, none] [.int sk0] s := by
  unfold f_X8_child_99 at h
  exact v_iret rfl (ho _ _ (Option.some.inj h).symm) dX8_child_99
def f_X8_child (v1 : Int32) (v2 : Int32) (s : fm_M) : Option (Int32 × fm_M) :=
  fm_bd (f_X4_hasChild 6 v1 s) (fun r1 s1 => if r1 = 0 then some ((-1 : Int32), s1) else if v2 = (0 : Int32) then if fm_in v1 6 = true then some ((s1 7 v1.toNatClampNeg), s1) else none else if v2 = (1 : Int32) then if fm_in v1 6 = true then some ((s1 10 v1.toNatClampNeg), s1) else none else if v2 = (2 : Int32) then if fm_in v1 6 = true then if (s1 10 v1.toNatClampNeg) = (2 : Int32) then if fm_in v1 6 = true then f_X8_child_99 (s1 11 v1.toNatClampNeg) s1 else none else f_X8_child_99 (-4 : Int32) s1 else none else if v2 = (3 : Int32) then fm_bd (f_X2_whoDresses 9 v1 s1) (fun r2 s2 => some (r2, s2)) else if v2 = (4 : Int32) then fm_bd (f_X2_minutesToDress 9 v1 s1) (fun r3 s3 => some (r3, s3)) else if v2 = (5 : Int32) then if fm_in v1 6 = true then some ((s1 12 v1.toNatClampNeg), s1) else none else some ((-1 : Int32), s1))
set_option maxHeartbeats 4000000 in
theorem e_X8_child {w : fm_W} {l : Launch} {o : fm_O} (hI : fm_I w 105) (v1 : Int32) (v2 : Int32) (s : fm_M) (z : Int32 × fm_M) (h : f_X8_child v1 v2 s = some z) (ho : ∀ (r : Int32) (s : fm_M), z = (r, s) → o = (some (.int r), s)) : fm_V w layX 105 l rm_X8_child cX8_child 3 RX8 (some .int) o 0 [some (.ref (fm_ad w 0)), some (.int v1), some (.int v2)] [] s := by
  unfold f_X8_child at h
  refine v_aload_n 0 dX8_child_0 rfl rfl ?_
  refine v_getr 6 g_X8_23 yX_0 (by decide) rfl dX8_child_1 ?_
  refine v_iload_n 1 dX8_child_4 rfl rfl ?_
  obtain ⟨r1, s1, h1, h⟩ := fm_bds h
  refine v_cVi [.int v1] [] l_X8_113 (c_X4_hasChild hI isPl_6 h1) yX_6 (by decide) rfl rfl ⟨rfl, rfl, by decide, by decide⟩ (Nat.le_of_ble_eq_true rfl) dX8_child_5 ?_
  refine v_if_ne 13 dX8_child_8 (by decide) h (fun h => ?_) (fun h => ?_)
  · refine v_iload_n 2 dX8_child_13 rfl rfl ?_
    by_cases hx0 : v2 = (0 : Int32)
    · rw [if_pos hx0] at h
      refine v_tabIn (off := 38) 0 52 dX8_child_14 hx0 (by decide) (by decide) ?_
      refine v_aload_n 0 dX8_child_52 rfl rfl ?_
      refine v_getr 6 g_X8_23 yX_0 (by decide) rfl dX8_child_53 ?_
      refine v_getr 7 g_X8_117 yX_6 (by decide) rfl dX8_child_56 ?_
      refine v_iload_n 1 dX8_child_59 rfl rfl ?_
      obtain ⟨hi, h⟩ := fm_ift h
      refine v_iald (Or.inl ⟨(by decide), yX_7⟩) hi dX8_child_60 ?_
      exact v_iret rfl (ho _ _ (Option.some.inj h).symm) dX8_child_61
    rw [if_neg hx0] at h
    by_cases hx1 : v2 = (1 : Int32)
    · rw [if_pos hx1] at h
      refine v_tabIn (off := 48) 1 62 dX8_child_14 hx1 (by decide) (by decide) ?_
      refine v_aload_n 0 dX8_child_62 rfl rfl ?_
      refine v_getr 9 g_X8_31 yX_0 (by decide) rfl dX8_child_63 ?_
      refine v_getr 10 g_X8_121 yX_9 (by decide) rfl dX8_child_66 ?_
      refine v_iload_n 1 dX8_child_69 rfl rfl ?_
      obtain ⟨hi, h⟩ := fm_ift h
      refine v_iald (Or.inl ⟨(by decide), yX_10⟩) hi dX8_child_70 ?_
      exact v_iret rfl (ho _ _ (Option.some.inj h).symm) dX8_child_71
    rw [if_neg hx1] at h
    by_cases hx2 : v2 = (2 : Int32)
    · rw [if_pos hx2] at h
      refine v_tabIn (off := 58) 2 72 dX8_child_14 hx2 (by decide) (by decide) ?_
      refine v_aload_n 0 dX8_child_72 rfl rfl ?_
      refine v_getr 9 g_X8_31 yX_0 (by decide) rfl dX8_child_73 ?_
      refine v_getr 10 g_X8_121 yX_9 (by decide) rfl dX8_child_76 ?_
      refine v_iload_n 1 dX8_child_79 rfl rfl ?_
      obtain ⟨hi, h⟩ := fm_ift h
      refine v_iald (Or.inl ⟨(by decide), yX_10⟩) hi dX8_child_80 ?_
      refine v_iconst (2 : Int32) dX8_child_81 (by decide) ?_
      refine v_icmp_ne 97 dX8_child_82 (by decide) h (fun h => ?_) (fun h => ?_)
      · refine v_bipush (-4 : Int32) dX8_child_97 (by decide) ?_
        refine v_lw [none, none, none] rfl trivial ?_
        exact t_X8_child_99 hI (-4 : Int32) s1 _ h ho
      · refine v_aload_n 0 dX8_child_85 rfl rfl ?_
        refine v_getr 9 g_X8_31 yX_0 (by decide) rfl dX8_child_86 ?_
        refine v_getr 11 g_X8_124 yX_9 (by decide) rfl dX8_child_89 ?_
        refine v_iload_n 1 dX8_child_92 rfl rfl ?_
        obtain ⟨hi, h⟩ := fm_ift h
        refine v_iald (Or.inl ⟨(by decide), yX_11⟩) hi dX8_child_93 ?_
        refine v_goto 99 dX8_child_94 (by decide) ?_
        refine v_lw [none, none, none] rfl trivial ?_
        exact t_X8_child_99 hI (s1 11 v1.toNatClampNeg) s1 _ h ho
    rw [if_neg hx2] at h
    by_cases hx3 : v2 = (3 : Int32)
    · rw [if_pos hx3] at h
      refine v_tabIn (off := 86) 3 100 dX8_child_14 hx3 (by decide) (by decide) ?_
      refine v_aload_n 0 dX8_child_100 rfl rfl ?_
      refine v_getr 9 g_X8_31 yX_0 (by decide) rfl dX8_child_101 ?_
      refine v_iload_n 1 dX8_child_104 rfl rfl ?_
      obtain ⟨r2, s2, h2, h⟩ := fm_bds h
      refine v_cVi [.int v1] [] l_X8_127 (c_X2_whoDresses hI isH_9 h2) yX_9 (by decide) rfl rfl ⟨rfl, rfl, by decide, by decide⟩ (Nat.le_of_ble_eq_true rfl) dX8_child_105 ?_
      exact v_iret rfl (ho _ _ (Option.some.inj h).symm) dX8_child_108
    rw [if_neg hx3] at h
    by_cases hx4 : v2 = (4 : Int32)
    · rw [if_pos hx4] at h
      refine v_tabIn (off := 95) 4 109 dX8_child_14 hx4 (by decide) (by decide) ?_
      refine v_aload_n 0 dX8_child_109 rfl rfl ?_
      refine v_getr 9 g_X8_31 yX_0 (by decide) rfl dX8_child_110 ?_
      refine v_iload_n 1 dX8_child_113 rfl rfl ?_
      obtain ⟨r3, s3, h3, h⟩ := fm_bds h
      refine v_cVi [.int v1] [] l_X8_131 (c_X2_minutesToDress hI isH_9 h3) yX_9 (by decide) rfl rfl ⟨rfl, rfl, by decide, by decide⟩ (Nat.le_of_ble_eq_true rfl) dX8_child_114 ?_
      exact v_iret rfl (ho _ _ (Option.some.inj h).symm) dX8_child_117
    rw [if_neg hx4] at h
    by_cases hx5 : v2 = (5 : Int32)
    · rw [if_pos hx5] at h
      refine v_tabIn (off := 104) 5 118 dX8_child_14 hx5 (by decide) (by decide) ?_
      refine v_aload_n 0 dX8_child_118 rfl rfl ?_
      refine v_getr 9 g_X8_31 yX_0 (by decide) rfl dX8_child_119 ?_
      refine v_getr 12 g_X8_134 yX_9 (by decide) rfl dX8_child_122 ?_
      refine v_iload_n 1 dX8_child_125 rfl rfl ?_
      obtain ⟨hi, h⟩ := fm_ift h
      refine v_iald (Or.inl ⟨(by decide), yX_12⟩) hi dX8_child_126 ?_
      exact v_iret rfl (ho _ _ (Option.some.inj h).symm) dX8_child_127
    rw [if_neg hx5] at h
    have hn0 := lv_neT hx0 (a := 0) (by decide)
    have hn1 := lv_neT hx1 (a := 1) (by decide)
    have hn2 := lv_neT hx2 (a := 2) (by decide)
    have hn3 := lv_neT hx3 (a := 3) (by decide)
    have hn4 := lv_neT hx4 (a := 4) (by decide)
    have hn5 := lv_neT hx5 (a := 5) (by decide)
    refine v_tabOut 128 dX8_child_14 (by omega) (by decide) ?_
    refine v_iconst (-1 : Int32) dX8_child_128 (by decide) ?_
    exact v_iret rfl (ho _ _ (Option.some.inj h).symm) dX8_child_129
  · refine v_iconst (-1 : Int32) dX8_child_11 (by decide) ?_
    exact v_iret rfl (ho _ _ (Option.some.inj h).symm) dX8_child_12
theorem c_X8_child {w : fm_W} {l : Launch} (hI : fm_I w 105) {v1 : Int32} {v2 : Int32} {s : fm_M} {r : Int32} {s2 : fm_M} (h : f_X8_child v1 v2 s = some (r, s2)) : fm_C w layX 105 l yX8_child cX8_child 3 (some .int) rm_X8_child [.ref (fm_ad w 0), .int v1, .int v2] s (some (.int r), s2) :=
  fm_of hI (by decide) rfl (Nat.le_of_ble_eq_true rfl) (e_X8_child hI v1 v2 s _ h (fun r s e => by cases e; rfl))
-- X8_count
abbrev rm_X8_count : Room := { frames := 1, cells := 0, slots := 0, locals := 23 }
def f_X8_count_156 (sk0 : Int32) (s : fm_M) : Option (Int32 × fm_M) :=
  some (sk0, s)
set_option maxHeartbeats 4000000 in
theorem t_X8_count_156 {w : fm_W} {l : Launch} {o : fm_O} (hI : fm_I w 105) (sk0 : Int32) (s : fm_M) (z : Int32 × fm_M) (h : f_X8_count_156 sk0 s = some z) (ho : ∀ (r : Int32) (s : fm_M), z = (r, s) → o = (some (.int r), s)) : fm_V w layX 105 l rm_X8_count cX8_count 2 RX8 (some .int) o 156 [none, none] [.int sk0] s := by
  unfold f_X8_count_156 at h
  exact v_iret rfl (ho _ _ (Option.some.inj h).symm) dX8_count_156
def f_X8_count (v1 : Int32) (s : fm_M) : Option (Int32 × fm_M) :=
  if v1 = (0 : Int32) then some ((s 6 2), s) else if v1 = (1 : Int32) then some ((s 9 7), s) else if v1 = (2 : Int32) then some ((s 9 8), s) else if v1 = (3 : Int32) then fm_bd (f_X2_countChildren 9 (0 : Int32) s) (fun r1 s1 => some (r1, s1)) else if v1 = (4 : Int32) then fm_bd (f_X2_countChildren 9 (1 : Int32) s) (fun r2 s2 => some (r2, s2)) else if v1 = (5 : Int32) then fm_bd (f_X2_countChildren 9 (2 : Int32) s) (fun r3 s3 => some (r3, s3)) else if v1 = (6 : Int32) then fm_bd (f_X2_countChildren 9 (3 : Int32) s) (fun r4 s4 => some (r4, s4)) else if v1 = (7 : Int32) then fm_bd (f_X2_countWomen 9 (0 : Int32) s) (fun r5 s5 => some (r5, s5)) else if v1 = (8 : Int32) then if (s 9 9) = 0 then f_X8_count_156 (0 : Int32) s else f_X8_count_156 (1 : Int32) s else if v1 = (9 : Int32) then fm_bd (f_X2_boiledInAll 9 s) (fun r6 s6 => some (r6, s6)) else if v1 = (10 : Int32) then some ((s 101 3), s) else if v1 = (11 : Int32) then some ((s 16 2), s) else if v1 = (12 : Int32) then some ((s 74 2), s) else if v1 = (13 : Int32) then some ((s 1 1), s) else some ((-1 : Int32), s)
set_option maxHeartbeats 4000000 in
theorem e_X8_count {w : fm_W} {l : Launch} {o : fm_O} (hI : fm_I w 105) (v1 : Int32) (s : fm_M) (z : Int32 × fm_M) (h : f_X8_count v1 s = some z) (ho : ∀ (r : Int32) (s : fm_M), z = (r, s) → o = (some (.int r), s)) : fm_V w layX 105 l rm_X8_count cX8_count 2 RX8 (some .int) o 0 [some (.ref (fm_ad w 0)), some (.int v1)] [] s := by
  unfold f_X8_count at h
  refine v_iload_n 1 dX8_count_0 rfl rfl ?_
  by_cases hx0 : v1 = (0 : Int32)
  · rw [if_pos hx0] at h
    refine v_tabIn (off := 71) 0 72 dX8_count_1 hx0 (by decide) (by decide) ?_
    refine v_aload_n 0 dX8_count_72 rfl rfl ?_
    refine v_getr 6 g_X8_23 yX_0 (by decide) rfl dX8_count_73 ?_
    refine v_geti g_X8_103 yX_6 (by decide) rfl dX8_count_76 ?_
    exact v_iret rfl (ho _ _ (Option.some.inj h).symm) dX8_count_79
  rw [if_neg hx0] at h
  by_cases hx1 : v1 = (1 : Int32)
  · rw [if_pos hx1] at h
    refine v_tabIn (off := 79) 1 80 dX8_count_1 hx1 (by decide) (by decide) ?_
    refine v_aload_n 0 dX8_count_80 rfl rfl ?_
    refine v_getr 9 g_X8_31 yX_0 (by decide) rfl dX8_count_81 ?_
    refine v_geti g_X8_249 yX_9 (by decide) rfl dX8_count_84 ?_
    exact v_iret rfl (ho _ _ (Option.some.inj h).symm) dX8_count_87
  rw [if_neg hx1] at h
  by_cases hx2 : v1 = (2 : Int32)
  · rw [if_pos hx2] at h
    refine v_tabIn (off := 87) 2 88 dX8_count_1 hx2 (by decide) (by decide) ?_
    refine v_aload_n 0 dX8_count_88 rfl rfl ?_
    refine v_getr 9 g_X8_31 yX_0 (by decide) rfl dX8_count_89 ?_
    refine v_geti g_X8_170 yX_9 (by decide) rfl dX8_count_92 ?_
    exact v_iret rfl (ho _ _ (Option.some.inj h).symm) dX8_count_95
  rw [if_neg hx2] at h
  by_cases hx3 : v1 = (3 : Int32)
  · rw [if_pos hx3] at h
    refine v_tabIn (off := 95) 3 96 dX8_count_1 hx3 (by decide) (by decide) ?_
    refine v_aload_n 0 dX8_count_96 rfl rfl ?_
    refine v_getr 9 g_X8_31 yX_0 (by decide) rfl dX8_count_97 ?_
    refine v_iconst (0 : Int32) dX8_count_100 (by decide) ?_
    obtain ⟨r1, s1, h1, h⟩ := fm_bds h
    refine v_cVi [.int (0 : Int32)] [] l_X8_227 (c_X2_countChildren hI isH_9 h1) yX_9 (by decide) rfl rfl ⟨rfl, rfl, by decide, by decide⟩ (Nat.le_of_ble_eq_true rfl) dX8_count_101 ?_
    exact v_iret rfl (ho _ _ (Option.some.inj h).symm) dX8_count_104
  rw [if_neg hx3] at h
  by_cases hx4 : v1 = (4 : Int32)
  · rw [if_pos hx4] at h
    refine v_tabIn (off := 104) 4 105 dX8_count_1 hx4 (by decide) (by decide) ?_
    refine v_aload_n 0 dX8_count_105 rfl rfl ?_
    refine v_getr 9 g_X8_31 yX_0 (by decide) rfl dX8_count_106 ?_
    refine v_iconst (1 : Int32) dX8_count_109 (by decide) ?_
    obtain ⟨r2, s2, h2, h⟩ := fm_bds h
    refine v_cVi [.int (1 : Int32)] [] l_X8_227 (c_X2_countChildren hI isH_9 h2) yX_9 (by decide) rfl rfl ⟨rfl, rfl, by decide, by decide⟩ (Nat.le_of_ble_eq_true rfl) dX8_count_110 ?_
    exact v_iret rfl (ho _ _ (Option.some.inj h).symm) dX8_count_113
  rw [if_neg hx4] at h
  by_cases hx5 : v1 = (5 : Int32)
  · rw [if_pos hx5] at h
    refine v_tabIn (off := 113) 5 114 dX8_count_1 hx5 (by decide) (by decide) ?_
    refine v_aload_n 0 dX8_count_114 rfl rfl ?_
    refine v_getr 9 g_X8_31 yX_0 (by decide) rfl dX8_count_115 ?_
    refine v_iconst (2 : Int32) dX8_count_118 (by decide) ?_
    obtain ⟨r3, s3, h3, h⟩ := fm_bds h
    refine v_cVi [.int (2 : Int32)] [] l_X8_227 (c_X2_countChildren hI isH_9 h3) yX_9 (by decide) rfl rfl ⟨rfl, rfl, by decide, by decide⟩ (Nat.le_of_ble_eq_true rfl) dX8_count_119 ?_
    exact v_iret rfl (ho _ _ (Option.some.inj h).symm) dX8_count_122
  rw [if_neg hx5] at h
  by_cases hx6 : v1 = (6 : Int32)
  · rw [if_pos hx6] at h
    refine v_tabIn (off := 122) 6 123 dX8_count_1 hx6 (by decide) (by decide) ?_
    refine v_aload_n 0 dX8_count_123 rfl rfl ?_
    refine v_getr 9 g_X8_31 yX_0 (by decide) rfl dX8_count_124 ?_
    refine v_iconst (3 : Int32) dX8_count_127 (by decide) ?_
    obtain ⟨r4, s4, h4, h⟩ := fm_bds h
    refine v_cVi [.int (3 : Int32)] [] l_X8_227 (c_X2_countChildren hI isH_9 h4) yX_9 (by decide) rfl rfl ⟨rfl, rfl, by decide, by decide⟩ (Nat.le_of_ble_eq_true rfl) dX8_count_128 ?_
    exact v_iret rfl (ho _ _ (Option.some.inj h).symm) dX8_count_131
  rw [if_neg hx6] at h
  by_cases hx7 : v1 = (7 : Int32)
  · rw [if_pos hx7] at h
    refine v_tabIn (off := 131) 7 132 dX8_count_1 hx7 (by decide) (by decide) ?_
    refine v_aload_n 0 dX8_count_132 rfl rfl ?_
    refine v_getr 9 g_X8_31 yX_0 (by decide) rfl dX8_count_133 ?_
    refine v_iconst (0 : Int32) dX8_count_136 (by decide) ?_
    obtain ⟨r5, s5, h5, h⟩ := fm_bds h
    refine v_cVi [.int (0 : Int32)] [] l_X8_250 (c_X2_countWomen hI isH_9 h5) yX_9 (by decide) rfl rfl ⟨rfl, rfl, by decide, by decide⟩ (Nat.le_of_ble_eq_true rfl) dX8_count_137 ?_
    exact v_iret rfl (ho _ _ (Option.some.inj h).symm) dX8_count_140
  rw [if_neg hx7] at h
  by_cases hx8 : v1 = (8 : Int32)
  · rw [if_pos hx8] at h
    refine v_tabIn (off := 140) 8 141 dX8_count_1 hx8 (by decide) (by decide) ?_
    refine v_aload_n 0 dX8_count_141 rfl rfl ?_
    refine v_getr 9 g_X8_31 yX_0 (by decide) rfl dX8_count_142 ?_
    refine v_geti g_X8_253 yX_9 (by decide) rfl dX8_count_145 ?_
    refine v_if_eq 155 dX8_count_148 (by decide) h (fun h => ?_) (fun h => ?_)
    · refine v_iconst (0 : Int32) dX8_count_155 (by decide) ?_
      refine v_lw [none, none] rfl trivial ?_
      exact t_X8_count_156 hI (0 : Int32) s _ h ho
    · refine v_iconst (1 : Int32) dX8_count_151 (by decide) ?_
      refine v_goto 156 dX8_count_152 (by decide) ?_
      refine v_lw [none, none] rfl trivial ?_
      exact t_X8_count_156 hI (1 : Int32) s _ h ho
  rw [if_neg hx8] at h
  by_cases hx9 : v1 = (9 : Int32)
  · rw [if_pos hx9] at h
    refine v_tabIn (off := 156) 9 157 dX8_count_1 hx9 (by decide) (by decide) ?_
    refine v_aload_n 0 dX8_count_157 rfl rfl ?_
    refine v_getr 9 g_X8_31 yX_0 (by decide) rfl dX8_count_158 ?_
    obtain ⟨r6, s6, h6, h⟩ := fm_bds h
    refine v_cVi [] [] l_X8_257 (c_X2_boiledInAll hI isH_9 h6) yX_9 (by decide) rfl rfl ⟨rfl, rfl, by decide, by decide⟩ (Nat.le_of_ble_eq_true rfl) dX8_count_161 ?_
    exact v_iret rfl (ho _ _ (Option.some.inj h).symm) dX8_count_164
  rw [if_neg hx9] at h
  by_cases hx10 : v1 = (10 : Int32)
  · rw [if_pos hx10] at h
    refine v_tabIn (off := 164) 10 165 dX8_count_1 hx10 (by decide) (by decide) ?_
    refine v_aload_n 0 dX8_count_165 rfl rfl ?_
    refine v_getr 101 g_X8_66 yX_0 (by decide) rfl dX8_count_166 ?_
    refine v_geti g_X8_110 yX_101 (by decide) rfl dX8_count_169 ?_
    exact v_iret rfl (ho _ _ (Option.some.inj h).symm) dX8_count_172
  rw [if_neg hx10] at h
  by_cases hx11 : v1 = (11 : Int32)
  · rw [if_pos hx11] at h
    refine v_tabIn (off := 172) 11 173 dX8_count_1 hx11 (by decide) (by decide) ?_
    refine v_aload_n 0 dX8_count_173 rfl rfl ?_
    refine v_getr 16 g_X8_40 yX_0 (by decide) rfl dX8_count_174 ?_
    refine v_geti g_X8_176 yX_16 (by decide) rfl dX8_count_177 ?_
    exact v_iret rfl (ho _ _ (Option.some.inj h).symm) dX8_count_180
  rw [if_neg hx11] at h
  by_cases hx12 : v1 = (12 : Int32)
  · rw [if_pos hx12] at h
    refine v_tabIn (off := 180) 12 181 dX8_count_1 hx12 (by decide) (by decide) ?_
    refine v_aload_n 0 dX8_count_181 rfl rfl ?_
    refine v_getr 74 g_X8_44 yX_0 (by decide) rfl dX8_count_182 ?_
    refine v_geti g_X8_176 yX_74 (by decide) rfl dX8_count_185 ?_
    exact v_iret rfl (ho _ _ (Option.some.inj h).symm) dX8_count_188
  rw [if_neg hx12] at h
  by_cases hx13 : v1 = (13 : Int32)
  · rw [if_pos hx13] at h
    refine v_tabIn (off := 188) 13 189 dX8_count_1 hx13 (by decide) (by decide) ?_
    refine v_aload_n 0 dX8_count_189 rfl rfl ?_
    refine v_getr 1 g_X8_10 yX_0 (by decide) rfl dX8_count_190 ?_
    refine v_geti g_X8_101 yX_1 (by decide) rfl dX8_count_193 ?_
    exact v_iret rfl (ho _ _ (Option.some.inj h).symm) dX8_count_196
  rw [if_neg hx13] at h
  have hn0 := lv_neT hx0 (a := 0) (by decide)
  have hn1 := lv_neT hx1 (a := 1) (by decide)
  have hn2 := lv_neT hx2 (a := 2) (by decide)
  have hn3 := lv_neT hx3 (a := 3) (by decide)
  have hn4 := lv_neT hx4 (a := 4) (by decide)
  have hn5 := lv_neT hx5 (a := 5) (by decide)
  have hn6 := lv_neT hx6 (a := 6) (by decide)
  have hn7 := lv_neT hx7 (a := 7) (by decide)
  have hn8 := lv_neT hx8 (a := 8) (by decide)
  have hn9 := lv_neT hx9 (a := 9) (by decide)
  have hn10 := lv_neT hx10 (a := 10) (by decide)
  have hn11 := lv_neT hx11 (a := 11) (by decide)
  have hn12 := lv_neT hx12 (a := 12) (by decide)
  have hn13 := lv_neT hx13 (a := 13) (by decide)
  refine v_tabOut 197 dX8_count_1 (by omega) (by decide) ?_
  refine v_iconst (-1 : Int32) dX8_count_197 (by decide) ?_
  exact v_iret rfl (ho _ _ (Option.some.inj h).symm) dX8_count_198
theorem c_X8_count {w : fm_W} {l : Launch} (hI : fm_I w 105) {v1 : Int32} {s : fm_M} {r : Int32} {s2 : fm_M} (h : f_X8_count v1 s = some (r, s2)) : fm_C w layX 105 l yX8_count cX8_count 2 (some .int) rm_X8_count [.ref (fm_ad w 0), .int v1] s (some (.int r), s2) :=
  fm_of hI (by decide) rfl (Nat.le_of_ble_eq_true rfl) (e_X8_count hI v1 s _ h (fun r s e => by cases e; rfl))
-- X8_door
abbrev rm_X8_door : Room := { frames := 3, cells := 0, slots := 0, locals := 69 }
def f_X8_door (v1 : Int32) (s : fm_M) : Option (Int32 × fm_M) :=
  fm_bd (f_X2_hasWoman 9 v1 s) (fun r1 s1 => if r1 = 0 then some ((-1 : Int32), s1) else fm_bd (f_X2_canOpenDoor 9 v1 s1) (fun r2 s2 => if r2 = 0 then some ((-2 : Int32), s2) else fm_bd (f_X3_push 16 8 9 s2) (fun r3 s3 => fm_bd (f_X2_openDoor 9 v1 s3) (fun r4 s4 => some (r4, s4)))))
set_option maxHeartbeats 4000000 in
theorem e_X8_door {w : fm_W} {l : Launch} {o : fm_O} (hI : fm_I w 105) (v1 : Int32) (s : fm_M) (z : Int32 × fm_M) (h : f_X8_door v1 s = some z) (ho : ∀ (r : Int32) (s : fm_M), z = (r, s) → o = (some (.int r), s)) : fm_V w layX 105 l rm_X8_door cX8_door 2 RX8 (some .int) o 0 [some (.ref (fm_ad w 0)), some (.int v1)] [] s := by
  unfold f_X8_door at h
  refine v_aload_n 0 dX8_door_0 rfl rfl ?_
  refine v_getr 9 g_X8_31 yX_0 (by decide) rfl dX8_door_1 ?_
  refine v_iload_n 1 dX8_door_4 rfl rfl ?_
  obtain ⟨r1, s1, h1, h⟩ := fm_bds h
  refine v_cVi [.int v1] [] l_X8_137 (c_X2_hasWoman hI isH_9 h1) yX_9 (by decide) rfl rfl ⟨rfl, rfl, by decide, by decide⟩ (Nat.le_of_ble_eq_true rfl) dX8_door_5 ?_
  refine v_if_ne 13 dX8_door_8 (by decide) h (fun h => ?_) (fun h => ?_)
  · refine v_aload_n 0 dX8_door_13 rfl rfl ?_
    refine v_getr 9 g_X8_31 yX_0 (by decide) rfl dX8_door_14 ?_
    refine v_iload_n 1 dX8_door_17 rfl rfl ?_
    obtain ⟨r2, s2, h2, h⟩ := fm_bds h
    refine v_cVi [.int v1] [] l_X8_164 (c_X2_canOpenDoor hI isH_9 h2) yX_9 (by decide) rfl rfl ⟨rfl, rfl, by decide, by decide⟩ (Nat.le_of_ble_eq_true rfl) dX8_door_18 ?_
    refine v_if_ne 27 dX8_door_21 (by decide) h (fun h => ?_) (fun h => ?_)
    · refine v_aload_n 0 dX8_door_27 rfl rfl ?_
      refine v_getr 16 g_X8_40 yX_0 (by decide) rfl dX8_door_28 ?_
      refine v_aload_n 0 dX8_door_31 rfl rfl ?_
      refine v_getr 9 g_X8_31 yX_0 (by decide) rfl dX8_door_32 ?_
      obtain ⟨r3, s3, h3, h⟩ := fm_bds h
      refine v_cVv [.ref (fm_ad w 9)] [] l_X8_150 (c_X3_push hI isPi_16 isH_9 h3) yX_16 (by decide) rfl rfl ⟨rfl, rfl, by decide, by decide⟩ (Nat.le_of_ble_eq_true rfl) dX8_door_35 ?_
      refine v_aload_n 0 dX8_door_38 rfl rfl ?_
      refine v_getr 9 g_X8_31 yX_0 (by decide) rfl dX8_door_39 ?_
      refine v_iload_n 1 dX8_door_42 rfl rfl ?_
      obtain ⟨r4, s4, h4, h⟩ := fm_bds h
      refine v_cVi [.int v1] [] l_X8_167 (c_X2_openDoor hI isH_9 h4) yX_9 (by decide) rfl rfl ⟨rfl, rfl, by decide, by decide⟩ (Nat.le_of_ble_eq_true rfl) dX8_door_43 ?_
      exact v_iret rfl (ho _ _ (Option.some.inj h).symm) dX8_door_46
    · refine v_bipush (-2 : Int32) dX8_door_24 (by decide) ?_
      exact v_iret rfl (ho _ _ (Option.some.inj h).symm) dX8_door_26
  · refine v_iconst (-1 : Int32) dX8_door_11 (by decide) ?_
    exact v_iret rfl (ho _ _ (Option.some.inj h).symm) dX8_door_12
theorem c_X8_door {w : fm_W} {l : Launch} (hI : fm_I w 105) {v1 : Int32} {s : fm_M} {r : Int32} {s2 : fm_M} (h : f_X8_door v1 s = some (r, s2)) : fm_C w layX 105 l yX8_door cX8_door 2 (some .int) rm_X8_door [.ref (fm_ad w 0), .int v1] s (some (.int r), s2) :=
  fm_of hI (by decide) rfl (Nat.le_of_ble_eq_true rfl) (e_X8_door hI v1 s _ h (fun r s e => by cases e; rfl))
-- X8_fault
abbrev rm_X8_fault : Room := { frames := 5, cells := 0, slots := 0, locals := 115 }
def f_X8_fault (s : fm_M) : Option (Int32 × fm_M) :=
  fm_bd (f_X7_readInto 3 s) (fun r1 s1 => some (r1, s1))
set_option maxHeartbeats 4000000 in
theorem e_X8_fault {w : fm_W} {l : Launch} {o : fm_O} (hI : fm_I w 105) (s : fm_M) (z : Int32 × fm_M) (h : f_X8_fault s = some z) (ho : ∀ (r : Int32) (s : fm_M), z = (r, s) → o = (some (.int r), s)) : fm_V w layX 105 l rm_X8_fault cX8_fault 1 RX8 (some .int) o 0 [some (.ref (fm_ad w 0))] [] s := by
  unfold f_X8_fault at h
  refine v_aload_n 0 dX8_fault_0 rfl rfl ?_
  refine v_getr 1 g_X8_10 yX_0 (by decide) rfl dX8_fault_1 ?_
  refine v_aload_n 0 dX8_fault_4 rfl rfl ?_
  refine v_getr 3 g_X8_19 yX_0 (by decide) rfl dX8_fault_5 ?_
  obtain ⟨r1, s1, h1, h⟩ := fm_bds h
  refine v_cVi [.ref (fm_ad w 3)] [] l_X8_86 (c_X7_readInto hI isPl_3 h1) yX_1 (by decide) rfl rfl ⟨rfl, rfl, by decide, by decide⟩ (Nat.le_of_ble_eq_true rfl) dX8_fault_8 ?_
  exact v_iret rfl (ho _ _ (Option.some.inj h).symm) dX8_fault_11
theorem c_X8_fault {w : fm_W} {l : Launch} (hI : fm_I w 105) {s : fm_M} {r : Int32} {s2 : fm_M} (h : f_X8_fault s = some (r, s2)) : fm_C w layX 105 l yX8_fault cX8_fault 1 (some .int) rm_X8_fault [.ref (fm_ad w 0)] s (some (.int r), s2) :=
  fm_of hI (by decide) rfl (Nat.le_of_ble_eq_true rfl) (e_X8_fault hI s _ h (fun r s e => by cases e; rfl))
-- X8_forget
abbrev rm_X8_forget : Room := { frames := 0, cells := 0, slots := 0, locals := 0 }
def f_X8_forget (s : fm_M) : Option (Int32 × fm_M) :=
  some ((s 101 3), (fm_up s 101 3 (0 : Int32)))
set_option maxHeartbeats 4000000 in
theorem e_X8_forget {w : fm_W} {l : Launch} {o : fm_O} (hI : fm_I w 105) (s : fm_M) (z : Int32 × fm_M) (h : f_X8_forget s = some z) (ho : ∀ (r : Int32) (s : fm_M), z = (r, s) → o = (some (.int r), s)) : fm_V w layX 105 l rm_X8_forget cX8_forget 2 RX8 (some .int) o 0 [some (.ref (fm_ad w 0)), none] [] s := by
  unfold f_X8_forget at h
  refine v_aload_n 0 dX8_forget_0 rfl rfl ?_
  refine v_getr 101 g_X8_66 yX_0 (by decide) rfl dX8_forget_1 ?_
  refine v_geti g_X8_110 yX_101 (by decide) rfl dX8_forget_4 ?_
  refine v_istore_n (lv' := [some (.ref (fm_ad w 0)), some (.int (s 101 3))]) 1 dX8_forget_7 rfl (by decide) rfl rfl ?_
  refine v_aload_n 0 dX8_forget_8 rfl rfl ?_
  refine v_getr 101 g_X8_66 yX_0 (by decide) rfl dX8_forget_9 ?_
  refine v_iconst (0 : Int32) dX8_forget_12 (by decide) ?_
  refine v_put p_X8_110 yX_101 (by decide) rfl ⟨rfl, rfl⟩ dX8_forget_13 ?_
  refine v_iload_n 1 dX8_forget_16 rfl rfl ?_
  exact v_iret rfl (ho _ _ (Option.some.inj h).symm) dX8_forget_17
theorem c_X8_forget {w : fm_W} {l : Launch} (hI : fm_I w 105) {s : fm_M} {r : Int32} {s2 : fm_M} (h : f_X8_forget s = some (r, s2)) : fm_C w layX 105 l yX8_forget cX8_forget 2 (some .int) rm_X8_forget [.ref (fm_ad w 0)] s (some (.int r), s2) :=
  fm_of hI (by decide) rfl (Nat.le_of_ble_eq_true rfl) (e_X8_forget hI s _ h (fun r s e => by cases e; rfl))
-- X8_keep
abbrev rm_X8_keep : Room := { frames := 3, cells := 0, slots := 0, locals := 68 }
def f_X8_keep (s : fm_M) : Option (Int32 × fm_M) :=
  if (s 74 2) < (2 : Int32) then fm_bd (f_X3_push 74 2 9 s) (fun r1 s1 => some ((s1 74 2), s1)) else some ((-3 : Int32), s)
set_option maxHeartbeats 4000000 in
theorem e_X8_keep {w : fm_W} {l : Launch} {o : fm_O} (hI : fm_I w 105) (s : fm_M) (z : Int32 × fm_M) (h : f_X8_keep s = some z) (ho : ∀ (r : Int32) (s : fm_M), z = (r, s) → o = (some (.int r), s)) : fm_V w layX 105 l rm_X8_keep cX8_keep 1 RX8 (some .int) o 0 [some (.ref (fm_ad w 0))] [] s := by
  unfold f_X8_keep at h
  refine v_aload_n 0 dX8_keep_0 rfl rfl ?_
  refine v_getr 74 g_X8_44 yX_0 (by decide) rfl dX8_keep_1 ?_
  refine v_geti g_X8_176 yX_74 (by decide) rfl dX8_keep_4 ?_
  refine v_iconst (2 : Int32) dX8_keep_7 (by decide) ?_
  refine v_icmp_lt 14 dX8_keep_8 (by decide) h (fun h => ?_) (fun h => ?_)
  · refine v_aload_n 0 dX8_keep_14 rfl rfl ?_
    refine v_getr 74 g_X8_44 yX_0 (by decide) rfl dX8_keep_15 ?_
    refine v_aload_n 0 dX8_keep_18 rfl rfl ?_
    refine v_getr 9 g_X8_31 yX_0 (by decide) rfl dX8_keep_19 ?_
    obtain ⟨r1, s1, h1, h⟩ := fm_bds h
    refine v_cVv [.ref (fm_ad w 9)] [] l_X8_150 (c_X3_push hI isPi_74 isH_9 h1) yX_74 (by decide) rfl rfl ⟨rfl, rfl, by decide, by decide⟩ (Nat.le_of_ble_eq_true rfl) dX8_keep_22 ?_
    refine v_aload_n 0 dX8_keep_25 rfl rfl ?_
    refine v_getr 74 g_X8_44 yX_0 (by decide) rfl dX8_keep_26 ?_
    refine v_geti g_X8_176 yX_74 (by decide) rfl dX8_keep_29 ?_
    exact v_iret rfl (ho _ _ (Option.some.inj h).symm) dX8_keep_32
  · refine v_bipush (-3 : Int32) dX8_keep_11 (by decide) ?_
    exact v_iret rfl (ho _ _ (Option.some.inj h).symm) dX8_keep_13
theorem c_X8_keep {w : fm_W} {l : Launch} (hI : fm_I w 105) {s : fm_M} {r : Int32} {s2 : fm_M} (h : f_X8_keep s = some (r, s2)) : fm_C w layX 105 l yX8_keep cX8_keep 1 (some .int) rm_X8_keep [.ref (fm_ad w 0)] s (some (.int r), s2) :=
  fm_of hI (by decide) rfl (Nat.le_of_ble_eq_true rfl) (e_X8_keep hI s _ h (fun r s e => by cases e; rfl))
-- X8_kinds
abbrev rm_X8_kinds : Room := { frames := 2, cells := 0, slots := 0, locals := 47 }
def f_X8_kinds_49 (v1 : Int32) (v2 : Int32) (v3 : Int32) (s : fm_M) : Option ((fm_M × Int32 × Int32) ⊕ (fm_M × Int32 × Int32)) :=
  some (.inl (s, v2, (v3 + (1 : Int32))))
set_option maxHeartbeats 4000000 in
theorem t_X8_kinds_49 {w : fm_W} {l : Launch} {o : fm_O} (hI : fm_I w 105) (v1 : Int32) (v2 : Int32) (v3 : Int32) (s : fm_M) (z : (fm_M × Int32 × Int32) ⊕ (fm_M × Int32 × Int32)) (h : f_X8_kinds_49 v1 v2 v3 s = some z) (kb : ∀ (s : fm_M) (u2 : Int32) (u3 : Int32), z = .inl (s, u2, u3) → fm_V w layX 105 l rm_X8_kinds cX8_kinds 4 RX8 (some .int) o 17 [some (.ref (fm_ad w 0)), some (.int v1), some (.int u2), some (.int u3)] [] s) (ke : ∀ (s : fm_M) (u2 : Int32) (u3 : Int32), z = .inr (s, u2, u3) → fm_V w layX 105 l rm_X8_kinds cX8_kinds 4 RX8 (some .int) o 55 [some (.ref (fm_ad w 0)), some (.int v1), some (.int u2), some (.int u3)] [] s) : fm_V w layX 105 l rm_X8_kinds cX8_kinds 4 RX8 (some .int) o 49 [some (.ref (fm_ad w 0)), some (.int v1), some (.int v2), some (.int v3)] [] s := by
  unfold f_X8_kinds_49 at h
  refine v_iinc (lv' := [some (.ref (fm_ad w 0)), some (.int v1), some (.int v2), some (.int (v3 + (1 : Int32)))]) (1 : Int32) dX8_kinds_49 rfl (by decide) (by decide) rfl rfl ?_
  refine v_goto 17 dX8_kinds_52 (by decide) ?_
  refine v_lw [some (.ref (fm_ad w 0)), some (.int v1), some (.int v2), some (.int (v3 + (1 : Int32)))] rfl ⟨rfl, rfl, rfl, rfl, trivial⟩ ?_
  exact kb _ _ _ (Option.some.inj h).symm
def f_X8_kinds_17 (v1 : Int32) (s : fm_M) (v2 : Int32) (v3 : Int32) : Option ((fm_M × Int32 × Int32) ⊕ (fm_M × Int32 × Int32)) :=
  if (4 : Int32) ≤ v3 then some (.inr (s, v2, v3)) else if fm_in v1 6 = true then fm_bd (f_X6_wouldBe v1 v3 (s 8 v1.toNatClampNeg) s) (fun r2 s2 => if r2 = 0 then f_X8_kinds_49 v1 v2 v3 s2 else f_X8_kinds_49 v1 (v2 ||| ((1 : Int32) <<< (v3 &&& 31))) v3 s2) else none
set_option maxHeartbeats 4000000 in
theorem t_X8_kinds_17 {w : fm_W} {l : Launch} {o : fm_O} (hI : fm_I w 105) (v1 : Int32) (s : fm_M) (v2 : Int32) (v3 : Int32) (z : (fm_M × Int32 × Int32) ⊕ (fm_M × Int32 × Int32)) (h : f_X8_kinds_17 v1 s v2 v3 = some z) (kb : ∀ (s : fm_M) (u2 : Int32) (u3 : Int32), z = .inl (s, u2, u3) → fm_V w layX 105 l rm_X8_kinds cX8_kinds 4 RX8 (some .int) o 17 [some (.ref (fm_ad w 0)), some (.int v1), some (.int u2), some (.int u3)] [] s) (ke : ∀ (s : fm_M) (u2 : Int32) (u3 : Int32), z = .inr (s, u2, u3) → fm_V w layX 105 l rm_X8_kinds cX8_kinds 4 RX8 (some .int) o 55 [some (.ref (fm_ad w 0)), some (.int v1), some (.int u2), some (.int u3)] [] s) : fm_V w layX 105 l rm_X8_kinds cX8_kinds 4 RX8 (some .int) o 17 [some (.ref (fm_ad w 0)), some (.int v1), some (.int v2), some (.int v3)] [] s := by
  unfold f_X8_kinds_17 at h
  refine v_iload_n 3 dX8_kinds_17 rfl rfl ?_
  refine v_iconst (4 : Int32) dX8_kinds_18 (by decide) ?_
  refine v_icmp_ge 55 dX8_kinds_19 (by decide) h (fun h => ?_) (fun h => ?_)
  · refine v_lw [some (.ref (fm_ad w 0)), some (.int v1), some (.int v2), some (.int v3)] rfl ⟨rfl, rfl, rfl, rfl, trivial⟩ ?_
    exact ke _ _ _ (Option.some.inj h).symm
  · refine v_aload_n 0 dX8_kinds_22 rfl rfl ?_
    refine v_getr 101 g_X8_66 yX_0 (by decide) rfl dX8_kinds_23 ?_
    refine v_iload_n 1 dX8_kinds_26 rfl rfl ?_
    refine v_iload_n 3 dX8_kinds_27 rfl rfl ?_
    refine v_aload_n 0 dX8_kinds_28 rfl rfl ?_
    refine v_getr 6 g_X8_23 yX_0 (by decide) rfl dX8_kinds_29 ?_
    refine v_getr 8 g_X8_220 yX_6 (by decide) rfl dX8_kinds_32 ?_
    refine v_iload_n 1 dX8_kinds_35 rfl rfl ?_
    obtain ⟨hi, h⟩ := fm_ift h
    refine v_iald (Or.inl ⟨(by decide), yX_8⟩) hi dX8_kinds_36 ?_
    obtain ⟨r2, s2, h2, h⟩ := fm_bds h
    refine v_cVi [.int v1, .int v3, .int (s 8 v1.toNatClampNeg)] [] l_X8_223 (c_X6_wouldBe hI h2) yX_101 (by decide) rfl rfl ⟨rfl, rfl, by decide, by decide⟩ (Nat.le_of_ble_eq_true rfl) dX8_kinds_37 ?_
    refine v_if_eq 49 dX8_kinds_40 (by decide) h (fun h => ?_) (fun h => ?_)
    · refine v_lw [some (.ref (fm_ad w 0)), some (.int v1), some (.int v2), some (.int v3)] rfl ⟨rfl, rfl, rfl, rfl, trivial⟩ ?_
      exact t_X8_kinds_49 hI v1 v2 v3 s2 _ h kb ke
    · refine v_iload_n 2 dX8_kinds_43 rfl rfl ?_
      refine v_iconst (1 : Int32) dX8_kinds_44 (by decide) ?_
      refine v_iload_n 3 dX8_kinds_45 rfl rfl ?_
      refine v_ishl dX8_kinds_46 ?_
      refine v_ior dX8_kinds_47 ?_
      refine v_istore_n (lv' := [some (.ref (fm_ad w 0)), some (.int v1), some (.int (v2 ||| ((1 : Int32) <<< (v3 &&& 31)))), some (.int v3)]) 2 dX8_kinds_48 rfl (by decide) rfl rfl ?_
      refine v_lw [some (.ref (fm_ad w 0)), some (.int v1), some (.int (v2 ||| ((1 : Int32) <<< (v3 &&& 31)))), some (.int v3)] rfl ⟨rfl, rfl, rfl, rfl, trivial⟩ ?_
      exact t_X8_kinds_49 hI v1 (v2 ||| ((1 : Int32) <<< (v3 &&& 31))) v3 s2 _ h kb ke
set_option maxHeartbeats 4000000 in
theorem i_X8_kinds_17 {w : fm_W} {l : Launch} {o : fm_O} (hI : fm_I w 105) (v1 : Int32) (n : Nat) (s : fm_M) (v2 : Int32) (v3 : Int32) (q : fm_M × Int32 × Int32) (h : fm_it (fun s => f_X8_kinds_17 v1 s.1 s.2.1 s.2.2) n (s, v2, v3) = some q) (ke : ∀ (s : fm_M) (u2 : Int32) (u3 : Int32), q = (s, u2, u3) → fm_V w layX 105 l rm_X8_kinds cX8_kinds 4 RX8 (some .int) o 55 [some (.ref (fm_ad w 0)), some (.int v1), some (.int u2), some (.int u3)] [] s) : fm_V w layX 105 l rm_X8_kinds cX8_kinds 4 RX8 (some .int) o 17 [some (.ref (fm_ad w 0)), some (.int v1), some (.int v2), some (.int v3)] [] s :=
  fm_it_loop (body := (fun s => f_X8_kinds_17 v1 s.1 s.2.1 s.2.2)) (P := fun s => fm_V w layX 105 l rm_X8_kinds cX8_kinds 4 RX8 (some .int) o 17 [some (.ref (fm_ad w 0)), some (.int v1), some (.int s.2.1), some (.int s.2.2)] [] s.1) (K := (fun q : fm_M × Int32 × Int32 => (∀ (s : fm_M) (u2 : Int32) (u3 : Int32), q = (s, u2, u3) → fm_V w layX 105 l rm_X8_kinds cX8_kinds 4 RX8 (some .int) o 55 [some (.ref (fm_ad w 0)), some (.int v1), some (.int u2), some (.int u3)] [] s))) (fun s z hb kl kx => t_X8_kinds_17 hI v1 s.1 s.2.1 s.2.2 z hb (fun s u2 u3 e => kl _ e) (fun s u2 u3 e => (kx _ e) s u2 u3 rfl)) n (s, v2, v3) q h ke
def f_X8_kinds (v1 : Int32) (s : fm_M) : Option (Int32 × fm_M) :=
  fm_bd (f_X4_hasChild 6 v1 s) (fun r1 s1 => if r1 = 0 then some ((-1 : Int32), s1) else fm_op (fm_it (fun (yy : fm_M × Int32 × Int32) => f_X8_kinds_17 v1 yy.1 yy.2.1 yy.2.2) fm_fu (s1, (0 : Int32), (0 : Int32))) (fun q3 => ((fun (s3 : fm_M) (x3_2 : Int32) (x3_3 : Int32) => some (x3_2, s3))) q3.1 q3.2.1 q3.2.2))
set_option maxHeartbeats 4000000 in
theorem e_X8_kinds {w : fm_W} {l : Launch} {o : fm_O} (hI : fm_I w 105) (v1 : Int32) (s : fm_M) (z : Int32 × fm_M) (h : f_X8_kinds v1 s = some z) (ho : ∀ (r : Int32) (s : fm_M), z = (r, s) → o = (some (.int r), s)) : fm_V w layX 105 l rm_X8_kinds cX8_kinds 4 RX8 (some .int) o 0 [some (.ref (fm_ad w 0)), some (.int v1), none, none] [] s := by
  unfold f_X8_kinds at h
  refine v_aload_n 0 dX8_kinds_0 rfl rfl ?_
  refine v_getr 6 g_X8_23 yX_0 (by decide) rfl dX8_kinds_1 ?_
  refine v_iload_n 1 dX8_kinds_4 rfl rfl ?_
  obtain ⟨r1, s1, h1, h⟩ := fm_bds h
  refine v_cVi [.int v1] [] l_X8_113 (c_X4_hasChild hI isPl_6 h1) yX_6 (by decide) rfl rfl ⟨rfl, rfl, by decide, by decide⟩ (Nat.le_of_ble_eq_true rfl) dX8_kinds_5 ?_
  refine v_if_ne 13 dX8_kinds_8 (by decide) h (fun h => ?_) (fun h => ?_)
  · refine v_iconst (0 : Int32) dX8_kinds_13 (by decide) ?_
    refine v_istore_n (lv' := [some (.ref (fm_ad w 0)), some (.int v1), some (.int (0 : Int32)), none]) 2 dX8_kinds_14 rfl (by decide) rfl rfl ?_
    refine v_iconst (0 : Int32) dX8_kinds_15 (by decide) ?_
    refine v_istore_n (lv' := [some (.ref (fm_ad w 0)), some (.int v1), some (.int (0 : Int32)), some (.int (0 : Int32))]) 3 dX8_kinds_16 rfl (by decide) rfl rfl ?_
    obtain ⟨q3, h3, h⟩ := fm_ops h
    refine v_lw [some (.ref (fm_ad w 0)), some (.int v1), some (.int (0 : Int32)), some (.int (0 : Int32))] rfl ⟨rfl, rfl, rfl, rfl, trivial⟩ ?_
    refine i_X8_kinds_17 hI v1 _ _ _ _ _ h3 (fun s3 x3_2 x3_3 e => ?_)
    subst e
    dsimp only at h
    refine v_iload_n 2 dX8_kinds_55 rfl rfl ?_
    exact v_iret rfl (ho _ _ (Option.some.inj h).symm) dX8_kinds_56
  · refine v_iconst (-1 : Int32) dX8_kinds_11 (by decide) ?_
    exact v_iret rfl (ho _ _ (Option.some.inj h).symm) dX8_kinds_12
theorem c_X8_kinds {w : fm_W} {l : Launch} (hI : fm_I w 105) {v1 : Int32} {s : fm_M} {r : Int32} {s2 : fm_M} (h : f_X8_kinds v1 s = some (r, s2)) : fm_C w layX 105 l yX8_kinds cX8_kinds 4 (some .int) rm_X8_kinds [.ref (fm_ad w 0), .int v1] s (some (.int r), s2) :=
  fm_of hI (by decide) rfl (Nat.le_of_ble_eq_true rfl) (e_X8_kinds hI v1 s _ h (fun r s e => by cases e; rfl))
-- X8_last
abbrev rm_X8_last : Room := { frames := 6, cells := 0, slots := 0, locals := 136 }
def f_X8_last (s : fm_M) : Option (Int32 × fm_M) :=
  fm_bd (f_X5_tryEachLast 9 s) (fun r1 s1 => some (r1, s1))
set_option maxHeartbeats 4000000 in
theorem e_X8_last {w : fm_W} {l : Launch} {o : fm_O} (hI : fm_I w 105) (s : fm_M) (z : Int32 × fm_M) (h : f_X8_last s = some z) (ho : ∀ (r : Int32) (s : fm_M), z = (r, s) → o = (some (.int r), s)) : fm_V w layX 105 l rm_X8_last cX8_last 1 RX8 (some .int) o 0 [some (.ref (fm_ad w 0))] [] s := by
  unfold f_X8_last at h
  refine v_aload_n 0 dX8_last_0 rfl rfl ?_
  refine v_getr 98 g_X8_59 yX_0 (by decide) rfl dX8_last_1 ?_
  refine v_aload_n 0 dX8_last_4 rfl rfl ?_
  refine v_getr 9 g_X8_31 yX_0 (by decide) rfl dX8_last_5 ?_
  obtain ⟨r1, s1, h1, h⟩ := fm_bds h
  refine v_cVi [.ref (fm_ad w 9)] [] l_X8_207 (c_X5_tryEachLast hI isH_9 h1) yX_98 (by decide) rfl rfl ⟨rfl, rfl, by decide, by decide⟩ (Nat.le_of_ble_eq_true rfl) dX8_last_8 ?_
  exact v_iret rfl (ho _ _ (Option.some.inj h).symm) dX8_last_11
theorem c_X8_last {w : fm_W} {l : Launch} (hI : fm_I w 105) {s : fm_M} {r : Int32} {s2 : fm_M} (h : f_X8_last s = some (r, s2)) : fm_C w layX 105 l yX8_last cX8_last 1 (some .int) rm_X8_last [.ref (fm_ad w 0)] s (some (.int r), s2) :=
  fm_of hI (by decide) rfl (Nat.le_of_ble_eq_true rfl) (e_X8_last hI s _ h (fun r s e => by cases e; rfl))
-- X8_lay
abbrev rm_X8_lay : Room := { frames := 5, cells := 0, slots := 0, locals := 115 }
def f_X8_lay_26 (s : fm_M) : Option (Int32 × fm_M) :=
  some ((-2 : Int32), s)
set_option maxHeartbeats 4000000 in
theorem t_X8_lay_26 {w : fm_W} {l : Launch} {o : fm_O} (hI : fm_I w 105) (s : fm_M) (z : Int32 × fm_M) (h : f_X8_lay_26 s = some z) (ho : ∀ (r : Int32) (s : fm_M), z = (r, s) → o = (some (.int r), s)) : fm_V w layX 105 l rm_X8_lay cX8_lay 1 RX8 (some .int) o 26 [none] [] s := by
  unfold f_X8_lay_26 at h
  refine v_bipush (-2 : Int32) dX8_lay_26 (by decide) ?_
  exact v_iret rfl (ho _ _ (Option.some.inj h).symm) dX8_lay_28
def f_X8_lay (s : fm_M) : Option (Int32 × fm_M) :=
  fm_bd (f_X7_readInto 3 s) (fun r1 s1 => if r1 = (-4 : Int32) then if (s1 3 2) = 0 then f_X8_lay_26 s1 else fm_bd (f_X4_copyFrom 6 3 s1) (fun r2 s2 => fm_bd (f_X2_startAgain 9 (s2 6 3) s2) (fun r3 s3 => fm_bd (f_X3_clear 16 8 s3) (fun r4 s4 => fm_bd (f_X3_clear 74 2 s4) (fun r5 s5 => some (((fm_up s5 101 3 (0 : Int32)) 6 2), (fm_up s5 101 3 (0 : Int32))))))) else f_X8_lay_26 s1)
set_option maxHeartbeats 4000000 in
theorem e_X8_lay {w : fm_W} {l : Launch} {o : fm_O} (hI : fm_I w 105) (s : fm_M) (z : Int32 × fm_M) (h : f_X8_lay s = some z) (ho : ∀ (r : Int32) (s : fm_M), z = (r, s) → o = (some (.int r), s)) : fm_V w layX 105 l rm_X8_lay cX8_lay 1 RX8 (some .int) o 0 [some (.ref (fm_ad w 0))] [] s := by
  unfold f_X8_lay at h
  refine v_aload_n 0 dX8_lay_0 rfl rfl ?_
  refine v_getr 1 g_X8_10 yX_0 (by decide) rfl dX8_lay_1 ?_
  refine v_aload_n 0 dX8_lay_4 rfl rfl ?_
  refine v_getr 3 g_X8_19 yX_0 (by decide) rfl dX8_lay_5 ?_
  obtain ⟨r1, s1, h1, h⟩ := fm_bds h
  refine v_cVi [.ref (fm_ad w 3)] [] l_X8_86 (c_X7_readInto hI isPl_3 h1) yX_1 (by decide) rfl rfl ⟨rfl, rfl, by decide, by decide⟩ (Nat.le_of_ble_eq_true rfl) dX8_lay_8 ?_
  refine v_bipush (-4 : Int32) dX8_lay_11 (by decide) ?_
  refine v_icmp_ne 26 dX8_lay_13 (by decide) h (fun h => ?_) (fun h => ?_)
  · refine v_lw [none] rfl trivial ?_
    exact t_X8_lay_26 hI s1 _ h ho
  · refine v_aload_n 0 dX8_lay_16 rfl rfl ?_
    refine v_getr 3 g_X8_19 yX_0 (by decide) rfl dX8_lay_17 ?_
    refine v_geti g_X8_103 yX_3 (by decide) rfl dX8_lay_20 ?_
    refine v_if_ne 29 dX8_lay_23 (by decide) h (fun h => ?_) (fun h => ?_)
    · refine v_aload_n 0 dX8_lay_29 rfl rfl ?_
      refine v_getr 6 g_X8_23 yX_0 (by decide) rfl dX8_lay_30 ?_
      refine v_aload_n 0 dX8_lay_33 rfl rfl ?_
      refine v_getr 3 g_X8_19 yX_0 (by decide) rfl dX8_lay_34 ?_
      obtain ⟨r2, s2, h2, h⟩ := fm_bds h
      refine v_cVv [.ref (fm_ad w 3)] [] l_X8_106 (c_X4_copyFrom hI isPl_6 isPl_3 h2) yX_6 (by decide) rfl rfl ⟨rfl, rfl, by decide, by decide⟩ (Nat.le_of_ble_eq_true rfl) dX8_lay_37 ?_
      refine v_aload_n 0 dX8_lay_40 rfl rfl ?_
      refine v_getr 9 g_X8_31 yX_0 (by decide) rfl dX8_lay_41 ?_
      refine v_aload_n 0 dX8_lay_44 rfl rfl ?_
      refine v_getr 6 g_X8_23 yX_0 (by decide) rfl dX8_lay_45 ?_
      refine v_geti g_X8_93 yX_6 (by decide) rfl dX8_lay_48 ?_
      obtain ⟨r3, s3, h3, h⟩ := fm_bds h
      refine v_cVv [.int (s2 6 3)] [] l_X8_97 (c_X2_startAgain hI isH_9 h3) yX_9 (by decide) rfl rfl ⟨rfl, rfl, by decide, by decide⟩ (Nat.le_of_ble_eq_true rfl) dX8_lay_51 ?_
      refine v_aload_n 0 dX8_lay_54 rfl rfl ?_
      refine v_getr 16 g_X8_40 yX_0 (by decide) rfl dX8_lay_55 ?_
      obtain ⟨r4, s4, h4, h⟩ := fm_bds h
      refine v_cVv [] [] l_X8_109 (c_X3_clear hI isPi_16 h4) yX_16 (by decide) rfl rfl ⟨rfl, rfl, by decide, by decide⟩ (Nat.le_of_ble_eq_true rfl) dX8_lay_58 ?_
      refine v_aload_n 0 dX8_lay_61 rfl rfl ?_
      refine v_getr 74 g_X8_44 yX_0 (by decide) rfl dX8_lay_62 ?_
      obtain ⟨r5, s5, h5, h⟩ := fm_bds h
      refine v_cVv [] [] l_X8_109 (c_X3_clear hI isPi_74 h5) yX_74 (by decide) rfl rfl ⟨rfl, rfl, by decide, by decide⟩ (Nat.le_of_ble_eq_true rfl) dX8_lay_65 ?_
      refine v_aload_n 0 dX8_lay_68 rfl rfl ?_
      refine v_getr 101 g_X8_66 yX_0 (by decide) rfl dX8_lay_69 ?_
      refine v_iconst (0 : Int32) dX8_lay_72 (by decide) ?_
      refine v_put p_X8_110 yX_101 (by decide) rfl ⟨rfl, rfl⟩ dX8_lay_73 ?_
      refine v_aload_n 0 dX8_lay_76 rfl rfl ?_
      refine v_getr 6 g_X8_23 yX_0 (by decide) rfl dX8_lay_77 ?_
      refine v_geti g_X8_103 yX_6 (by decide) rfl dX8_lay_80 ?_
      exact v_iret rfl (ho _ _ (Option.some.inj h).symm) dX8_lay_83
    · refine v_lw [none] rfl trivial ?_
      exact t_X8_lay_26 hI s1 _ h ho
theorem c_X8_lay {w : fm_W} {l : Launch} (hI : fm_I w 105) {s : fm_M} {r : Int32} {s2 : fm_M} (h : f_X8_lay s = some (r, s2)) : fm_C w layX 105 l yX8_lay cX8_lay 1 (some .int) rm_X8_lay [.ref (fm_ad w 0)] s (some (.int r), s2) :=
  fm_of hI (by decide) rfl (Nat.le_of_ble_eq_true rfl) (e_X8_lay hI s _ h (fun r s e => by cases e; rfl))
-- X8_layOut
abbrev rm_X8_layOut : Room := { frames := 3, cells := 0, slots := 0, locals := 68 }
def f_X8_layOut (v1 : Int32) (s : fm_M) : Option (Int32 × fm_M) :=
  fm_bd (f_X2_hasWoman 9 v1 s) (fun r1 s1 => if r1 = 0 then some ((-1 : Int32), s1) else fm_bd (f_X2_canLayThings 9 v1 s1) (fun r2 s2 => if r2 = 0 then some ((-2 : Int32), s2) else fm_bd (f_X3_push 16 8 9 s2) (fun r3 s3 => fm_bd (f_X2_layThings 9 v1 s3) (fun r4 s4 => some (r4, s4)))))
set_option maxHeartbeats 4000000 in
theorem e_X8_layOut {w : fm_W} {l : Launch} {o : fm_O} (hI : fm_I w 105) (v1 : Int32) (s : fm_M) (z : Int32 × fm_M) (h : f_X8_layOut v1 s = some z) (ho : ∀ (r : Int32) (s : fm_M), z = (r, s) → o = (some (.int r), s)) : fm_V w layX 105 l rm_X8_layOut cX8_layOut 2 RX8 (some .int) o 0 [some (.ref (fm_ad w 0)), some (.int v1)] [] s := by
  unfold f_X8_layOut at h
  refine v_aload_n 0 dX8_layOut_0 rfl rfl ?_
  refine v_getr 9 g_X8_31 yX_0 (by decide) rfl dX8_layOut_1 ?_
  refine v_iload_n 1 dX8_layOut_4 rfl rfl ?_
  obtain ⟨r1, s1, h1, h⟩ := fm_bds h
  refine v_cVi [.int v1] [] l_X8_137 (c_X2_hasWoman hI isH_9 h1) yX_9 (by decide) rfl rfl ⟨rfl, rfl, by decide, by decide⟩ (Nat.le_of_ble_eq_true rfl) dX8_layOut_5 ?_
  refine v_if_ne 13 dX8_layOut_8 (by decide) h (fun h => ?_) (fun h => ?_)
  · refine v_aload_n 0 dX8_layOut_13 rfl rfl ?_
    refine v_getr 9 g_X8_31 yX_0 (by decide) rfl dX8_layOut_14 ?_
    refine v_iload_n 1 dX8_layOut_17 rfl rfl ?_
    obtain ⟨r2, s2, h2, h⟩ := fm_bds h
    refine v_cVi [.int v1] [] l_X8_158 (c_X2_canLayThings hI isH_9 h2) yX_9 (by decide) rfl rfl ⟨rfl, rfl, by decide, by decide⟩ (Nat.le_of_ble_eq_true rfl) dX8_layOut_18 ?_
    refine v_if_ne 27 dX8_layOut_21 (by decide) h (fun h => ?_) (fun h => ?_)
    · refine v_aload_n 0 dX8_layOut_27 rfl rfl ?_
      refine v_getr 16 g_X8_40 yX_0 (by decide) rfl dX8_layOut_28 ?_
      refine v_aload_n 0 dX8_layOut_31 rfl rfl ?_
      refine v_getr 9 g_X8_31 yX_0 (by decide) rfl dX8_layOut_32 ?_
      obtain ⟨r3, s3, h3, h⟩ := fm_bds h
      refine v_cVv [.ref (fm_ad w 9)] [] l_X8_150 (c_X3_push hI isPi_16 isH_9 h3) yX_16 (by decide) rfl rfl ⟨rfl, rfl, by decide, by decide⟩ (Nat.le_of_ble_eq_true rfl) dX8_layOut_35 ?_
      refine v_aload_n 0 dX8_layOut_38 rfl rfl ?_
      refine v_getr 9 g_X8_31 yX_0 (by decide) rfl dX8_layOut_39 ?_
      refine v_iload_n 1 dX8_layOut_42 rfl rfl ?_
      obtain ⟨r4, s4, h4, h⟩ := fm_bds h
      refine v_cVi [.int v1] [] l_X8_161 (c_X2_layThings hI isH_9 h4) yX_9 (by decide) rfl rfl ⟨rfl, rfl, by decide, by decide⟩ (Nat.le_of_ble_eq_true rfl) dX8_layOut_43 ?_
      exact v_iret rfl (ho _ _ (Option.some.inj h).symm) dX8_layOut_46
    · refine v_bipush (-2 : Int32) dX8_layOut_24 (by decide) ?_
      exact v_iret rfl (ho _ _ (Option.some.inj h).symm) dX8_layOut_26
  · refine v_iconst (-1 : Int32) dX8_layOut_11 (by decide) ?_
    exact v_iret rfl (ho _ _ (Option.some.inj h).symm) dX8_layOut_12
theorem c_X8_layOut {w : fm_W} {l : Launch} (hI : fm_I w 105) {v1 : Int32} {s : fm_M} {r : Int32} {s2 : fm_M} (h : f_X8_layOut v1 s = some (r, s2)) : fm_C w layX 105 l yX8_layOut cX8_layOut 2 (some .int) rm_X8_layOut [.ref (fm_ad w 0), .int v1] s (some (.int r), s2) :=
  fm_of hI (by decide) rfl (Nat.le_of_ble_eq_true rfl) (e_X8_layOut hI v1 s _ h (fun r s e => by cases e; rfl))
-- X8_morning
abbrev rm_X8_morning : Room := { frames := 5, cells := 0, slots := 0, locals := 108 }
def f_X8_morning_31 (s : fm_M) : Option (Int32 × fm_M) :=
  some ((-1 : Int32), s)
set_option maxHeartbeats 4000000 in
theorem t_X8_morning_31 {w : fm_W} {l : Launch} {o : fm_O} (hI : fm_I w 105) (s : fm_M) (z : Int32 × fm_M) (h : f_X8_morning_31 s = some z) (ho : ∀ (r : Int32) (s : fm_M), z = (r, s) → o = (some (.int r), s)) : fm_V w layX 105 l rm_X8_morning cX8_morning 4 RX8 (some .int) o 31 [none, none, none, none] [] s := by
  unfold f_X8_morning_31 at h
  refine v_iconst (-1 : Int32) dX8_morning_31 (by decide) ?_
  exact v_iret rfl (ho _ _ (Option.some.inj h).symm) dX8_morning_32
def f_X8_morning_77 (sk0 : Int32) (s : fm_M) : Option (Int32 × fm_M) :=
  some (sk0, s)
set_option maxHeartbeats 4000000 in
theorem t_X8_morning_77 {w : fm_W} {l : Launch} {o : fm_O} (hI : fm_I w 105) (sk0 : Int32) (s : fm_M) (z : Int32 × fm_M) (h : f_X8_morning_77 sk0 s = some z) (ho : ∀ (r : Int32) (s : fm_M), z = (r, s) → o = (some (.int r), s)) : fm_V w layX 105 l rm_X8_morning cX8_morning 4 RX8 (some .int) o 77 [none, none, none, none] [.int sk0] s := by
  unfold f_X8_morning_77 at h
  exact v_iret rfl (ho _ _ (Option.some.inj h).symm) dX8_morning_77
def f_X8_morning (v1 : Int32) (v2 : Int32) (v3 : Int32) (s : fm_M) : Option (Int32 × fm_M) :=
  if v1 < 0 then f_X8_morning_31 s else if (9999 : Int32) < v1 then f_X8_morning_31 s else if v2 < (1 : Int32) then f_X8_morning_31 s else if (60 : Int32) < v2 then f_X8_morning_31 s else if v3 < 0 then f_X8_morning_31 s else if v3 ≤ (1 : Int32) then fm_bd (f_X1_startFrom 9 s) (fun r1 s1 => fm_bd (f_X1_goByDraws v1 v2 s1) (fun r2 s2 => if v3 = 0 then fm_bd (f_X2_whoIsOut 91 s2) (fun r3 s3 => f_X8_morning_77 r3 s3) else f_X8_morning_77 (s2 90 3) s2)) else f_X8_morning_31 s
set_option maxHeartbeats 4000000 in
theorem e_X8_morning {w : fm_W} {l : Launch} {o : fm_O} (hI : fm_I w 105) (v1 : Int32) (v2 : Int32) (v3 : Int32) (s : fm_M) (z : Int32 × fm_M) (h : f_X8_morning v1 v2 v3 s = some z) (ho : ∀ (r : Int32) (s : fm_M), z = (r, s) → o = (some (.int r), s)) : fm_V w layX 105 l rm_X8_morning cX8_morning 4 RX8 (some .int) o 0 [some (.ref (fm_ad w 0)), some (.int v1), some (.int v2), some (.int v3)] [] s := by
  unfold f_X8_morning at h
  refine v_iload_n 1 dX8_morning_0 rfl rfl ?_
  refine v_if_lt 31 dX8_morning_1 (by decide) h (fun h => ?_) (fun h => ?_)
  · refine v_lw [none, none, none, none] rfl trivial ?_
    exact t_X8_morning_31 hI s _ h ho
  · refine v_iload_n 1 dX8_morning_4 rfl rfl ?_
    refine v_sipush (9999 : Int32) dX8_morning_5 (by decide) ?_
    refine v_icmp_gt 31 dX8_morning_8 (by decide) h (fun h => ?_) (fun h => ?_)
    · refine v_lw [none, none, none, none] rfl trivial ?_
      exact t_X8_morning_31 hI s _ h ho
    · refine v_iload_n 2 dX8_morning_11 rfl rfl ?_
      refine v_iconst (1 : Int32) dX8_morning_12 (by decide) ?_
      refine v_icmp_lt 31 dX8_morning_13 (by decide) h (fun h => ?_) (fun h => ?_)
      · refine v_lw [none, none, none, none] rfl trivial ?_
        exact t_X8_morning_31 hI s _ h ho
      · refine v_iload_n 2 dX8_morning_16 rfl rfl ?_
        refine v_bipush (60 : Int32) dX8_morning_17 (by decide) ?_
        refine v_icmp_gt 31 dX8_morning_19 (by decide) h (fun h => ?_) (fun h => ?_)
        · refine v_lw [none, none, none, none] rfl trivial ?_
          exact t_X8_morning_31 hI s _ h ho
        · refine v_iload_n 3 dX8_morning_22 rfl rfl ?_
          refine v_if_lt 31 dX8_morning_23 (by decide) h (fun h => ?_) (fun h => ?_)
          · refine v_lw [none, none, none, none] rfl trivial ?_
            exact t_X8_morning_31 hI s _ h ho
          · refine v_iload_n 3 dX8_morning_26 rfl rfl ?_
            refine v_iconst (1 : Int32) dX8_morning_27 (by decide) ?_
            refine v_icmp_le 33 dX8_morning_28 (by decide) h (fun h => ?_) (fun h => ?_)
            · refine v_aload_n 0 dX8_morning_33 rfl rfl ?_
              refine v_getr 90 g_X8_50 yX_0 (by decide) rfl dX8_morning_34 ?_
              refine v_aload_n 0 dX8_morning_37 rfl rfl ?_
              refine v_getr 9 g_X8_31 yX_0 (by decide) rfl dX8_morning_38 ?_
              obtain ⟨r1, s1, h1, h⟩ := fm_bds h
              refine v_cVv [.ref (fm_ad w 9)] [] l_X8_180 (c_X1_startFrom hI isH_9 h1) yX_90 (by decide) rfl rfl ⟨rfl, rfl, by decide, by decide⟩ (Nat.le_of_ble_eq_true rfl) dX8_morning_41 ?_
              refine v_aload_n 0 dX8_morning_44 rfl rfl ?_
              refine v_getr 90 g_X8_50 yX_0 (by decide) rfl dX8_morning_45 ?_
              refine v_iload_n 1 dX8_morning_48 rfl rfl ?_
              refine v_iload_n 2 dX8_morning_49 rfl rfl ?_
              obtain ⟨r2, s2, h2, h⟩ := fm_bds h
              refine v_cVv [.int v1, .int v2] [] l_X8_242 (c_X1_goByDraws hI h2) yX_90 (by decide) rfl rfl ⟨rfl, rfl, by decide, by decide⟩ (Nat.le_of_ble_eq_true rfl) dX8_morning_50 ?_
              refine v_iload_n 3 dX8_morning_53 rfl rfl ?_
              refine v_if_ne 70 dX8_morning_54 (by decide) h (fun h => ?_) (fun h => ?_)
              · refine v_aload_n 0 dX8_morning_70 rfl rfl ?_
                refine v_getr 90 g_X8_50 yX_0 (by decide) rfl dX8_morning_71 ?_
                refine v_geti g_X8_196 yX_90 (by decide) rfl dX8_morning_74 ?_
                refine v_lw [none, none, none, none] rfl trivial ?_
                exact t_X8_morning_77 hI (s2 90 3) s2 _ h ho
              · refine v_aload_n 0 dX8_morning_57 rfl rfl ?_
                refine v_getr 90 g_X8_50 yX_0 (by decide) rfl dX8_morning_58 ?_
                refine v_getr 91 g_X8_214 yX_90 (by decide) rfl dX8_morning_61 ?_
                obtain ⟨r3, s3, h3, h⟩ := fm_bds h
                refine v_cVi [] [] l_X8_246 (c_X2_whoIsOut hI isH_91 h3) yX_91 (by decide) rfl rfl ⟨rfl, rfl, by decide, by decide⟩ (Nat.le_of_ble_eq_true rfl) dX8_morning_64 ?_
                refine v_goto 77 dX8_morning_67 (by decide) ?_
                refine v_lw [none, none, none, none] rfl trivial ?_
                exact t_X8_morning_77 hI r3 s3 _ h ho
            · refine v_lw [none, none, none, none] rfl trivial ?_
              exact t_X8_morning_31 hI s _ h ho
theorem c_X8_morning {w : fm_W} {l : Launch} (hI : fm_I w 105) {v1 : Int32} {v2 : Int32} {v3 : Int32} {s : fm_M} {r : Int32} {s2 : fm_M} (h : f_X8_morning v1 v2 v3 s = some (r, s2)) : fm_C w layX 105 l yX8_morning cX8_morning 4 (some .int) rm_X8_morning [.ref (fm_ad w 0), .int v1, .int v2, .int v3] s (some (.int r), s2) :=
  fm_of hI (by decide) rfl (Nat.le_of_ble_eq_true rfl) (e_X8_morning hI v1 v2 v3 s _ h (fun r s e => by cases e; rfl))
-- X8_must
abbrev rm_X8_must : Room := { frames := 2, cells := 0, slots := 0, locals := 47 }
def f_X8_must_29 (s : fm_M) : Option (Int32 × fm_M) :=
  some ((-1 : Int32), s)
set_option maxHeartbeats 4000000 in
theorem t_X8_must_29 {w : fm_W} {l : Launch} {o : fm_O} (hI : fm_I w 105) (s : fm_M) (z : Int32 × fm_M) (h : f_X8_must_29 s = some z) (ho : ∀ (r : Int32) (s : fm_M), z = (r, s) → o = (some (.int r), s)) : fm_V w layX 105 l rm_X8_must cX8_must 8 RX8 (some .int) o 29 [none, none, none, none, none, none, none, none] [] s := by
  unfold f_X8_must_29 at h
  refine v_iconst (-1 : Int32) dX8_must_29 (by decide) ?_
  exact v_iret rfl (ho _ _ (Option.some.inj h).symm) dX8_must_30
def f_X8_must_87 (v7 : Int32) (sk0 : Int32) (s : fm_M) : Option (Int32 × fm_M) :=
  if v7 = 0 then none else some ((sk0 / v7), s)
set_option maxHeartbeats 4000000 in
theorem t_X8_must_87 {w : fm_W} {l : Launch} {o : fm_O} (hI : fm_I w 105) (v7 : Int32) (sk0 : Int32) (s : fm_M) (z : Int32 × fm_M) (h : f_X8_must_87 v7 sk0 s = some z) (ho : ∀ (r : Int32) (s : fm_M), z = (r, s) → o = (some (.int r), s)) : fm_V w layX 105 l rm_X8_must cX8_must 8 RX8 (some .int) o 87 [none, none, none, none, none, none, none, some (.int v7)] [.int sk0] s := by
  unfold f_X8_must_87 at h
  refine v_iload dX8_must_87 rfl ?_
  obtain ⟨hz, h⟩ := fm_ifz h
  refine v_idiv dX8_must_89 hz ?_
  exact v_iret rfl (ho _ _ (Option.some.inj h).symm) dX8_must_90
def f_X8_must (v1 : Int32) (v2 : Int32) (v3 : Int32) (s : fm_M) : Option (Int32 × fm_M) :=
  if v1 < 0 then f_X8_must_29 s else if (6 : Int32) < v1 then f_X8_must_29 s else if v2 < 0 then f_X8_must_29 s else if (10 : Int32) < v2 then f_X8_must_29 s else if v3 < 0 then f_X8_must_29 s else if v3 ≤ (1 : Int32) then fm_bd (f_X2_countChildren 9 (2 : Int32) s) (fun r1 s1 => fm_bd (f_X0_waysOfSoMany r1 v1 v2 s1) (fun r2 s2 => fm_bd (f_X0_power (10 : Int32) r1 s2) (fun r3 s3 => fm_bd (f_X0_commonDivisor r2 r3 s3) (fun r4 s4 => if r4 = 0 then some ((-4 : Int32), s4) else if v3 = 0 then f_X8_must_87 r4 r2 s4 else f_X8_must_87 r4 r3 s4)))) else f_X8_must_29 s
set_option maxHeartbeats 4000000 in
theorem e_X8_must {w : fm_W} {l : Launch} {o : fm_O} (hI : fm_I w 105) (v1 : Int32) (v2 : Int32) (v3 : Int32) (s : fm_M) (z : Int32 × fm_M) (h : f_X8_must v1 v2 v3 s = some z) (ho : ∀ (r : Int32) (s : fm_M), z = (r, s) → o = (some (.int r), s)) : fm_V w layX 105 l rm_X8_must cX8_must 8 RX8 (some .int) o 0 [some (.ref (fm_ad w 0)), some (.int v1), some (.int v2), some (.int v3), none, none, none, none] [] s := by
  unfold f_X8_must at h
  refine v_iload_n 1 dX8_must_0 rfl rfl ?_
  refine v_if_lt 29 dX8_must_1 (by decide) h (fun h => ?_) (fun h => ?_)
  · refine v_lw [none, none, none, none, none, none, none, none] rfl trivial ?_
    exact t_X8_must_29 hI s _ h ho
  · refine v_iload_n 1 dX8_must_4 rfl rfl ?_
    refine v_bipush (6 : Int32) dX8_must_5 (by decide) ?_
    refine v_icmp_gt 29 dX8_must_7 (by decide) h (fun h => ?_) (fun h => ?_)
    · refine v_lw [none, none, none, none, none, none, none, none] rfl trivial ?_
      exact t_X8_must_29 hI s _ h ho
    · refine v_iload_n 2 dX8_must_10 rfl rfl ?_
      refine v_if_lt 29 dX8_must_11 (by decide) h (fun h => ?_) (fun h => ?_)
      · refine v_lw [none, none, none, none, none, none, none, none] rfl trivial ?_
        exact t_X8_must_29 hI s _ h ho
      · refine v_iload_n 2 dX8_must_14 rfl rfl ?_
        refine v_bipush (10 : Int32) dX8_must_15 (by decide) ?_
        refine v_icmp_gt 29 dX8_must_17 (by decide) h (fun h => ?_) (fun h => ?_)
        · refine v_lw [none, none, none, none, none, none, none, none] rfl trivial ?_
          exact t_X8_must_29 hI s _ h ho
        · refine v_iload_n 3 dX8_must_20 rfl rfl ?_
          refine v_if_lt 29 dX8_must_21 (by decide) h (fun h => ?_) (fun h => ?_)
          · refine v_lw [none, none, none, none, none, none, none, none] rfl trivial ?_
            exact t_X8_must_29 hI s _ h ho
          · refine v_iload_n 3 dX8_must_24 rfl rfl ?_
            refine v_iconst (1 : Int32) dX8_must_25 (by decide) ?_
            refine v_icmp_le 31 dX8_must_26 (by decide) h (fun h => ?_) (fun h => ?_)
            · refine v_aload_n 0 dX8_must_31 rfl rfl ?_
              refine v_getr 9 g_X8_31 yX_0 (by decide) rfl dX8_must_32 ?_
              refine v_iconst (2 : Int32) dX8_must_35 (by decide) ?_
              obtain ⟨r1, s1, h1, h⟩ := fm_bds h
              refine v_cVi [.int (2 : Int32)] [] l_X8_227 (c_X2_countChildren hI isH_9 h1) yX_9 (by decide) rfl rfl ⟨rfl, rfl, by decide, by decide⟩ (Nat.le_of_ble_eq_true rfl) dX8_must_36 ?_
              refine v_istore (lv' := [some (.ref (fm_ad w 0)), some (.int v1), some (.int v2), some (.int v3), some (.int r1), none, none, none]) dX8_must_39 (by decide) rfl rfl ?_
              refine v_iload dX8_must_41 rfl ?_
              refine v_iload_n 1 dX8_must_43 rfl rfl ?_
              refine v_iload_n 2 dX8_must_44 rfl rfl ?_
              obtain ⟨r2, s2, h2, h⟩ := fm_bds h
              refine v_cSi [.int r1, .int v1, .int v2] [] l_X8_230 (c_X0_waysOfSoMany hI h2) rfl rfl ⟨rfl, rfl, by decide, by decide⟩ (Nat.le_of_ble_eq_true rfl) dX8_must_45 ?_
              refine v_istore (lv' := [some (.ref (fm_ad w 0)), some (.int v1), some (.int v2), some (.int v3), some (.int r1), some (.int r2), none, none]) dX8_must_48 (by decide) rfl rfl ?_
              refine v_bipush (10 : Int32) dX8_must_50 (by decide) ?_
              refine v_iload dX8_must_52 rfl ?_
              obtain ⟨r3, s3, h3, h⟩ := fm_bds h
              refine v_cSi [.int (10 : Int32), .int r1] [] l_X8_236 (c_X0_power hI h3) rfl rfl ⟨rfl, rfl, by decide, by decide⟩ (Nat.le_of_ble_eq_true rfl) dX8_must_54 ?_
              refine v_istore (lv' := [some (.ref (fm_ad w 0)), some (.int v1), some (.int v2), some (.int v3), some (.int r1), some (.int r2), some (.int r3), none]) dX8_must_57 (by decide) rfl rfl ?_
              refine v_iload dX8_must_59 rfl ?_
              refine v_iload dX8_must_61 rfl ?_
              obtain ⟨r4, s4, h4, h⟩ := fm_bds h
              refine v_cSi [.int r2, .int r3] [] l_X8_239 (c_X0_commonDivisor hI h4) rfl rfl ⟨rfl, rfl, by decide, by decide⟩ (Nat.le_of_ble_eq_true rfl) dX8_must_63 ?_
              refine v_istore (lv' := [some (.ref (fm_ad w 0)), some (.int v1), some (.int v2), some (.int v3), some (.int r1), some (.int r2), some (.int r3), some (.int r4)]) dX8_must_66 (by decide) rfl rfl ?_
              refine v_iload dX8_must_68 rfl ?_
              refine v_if_ne 76 dX8_must_70 (by decide) h (fun h => ?_) (fun h => ?_)
              · refine v_iload_n 3 dX8_must_76 rfl rfl ?_
                refine v_if_ne 85 dX8_must_77 (by decide) h (fun h => ?_) (fun h => ?_)
                · refine v_iload dX8_must_85 rfl ?_
                  refine v_lw [none, none, none, none, none, none, none, some (.int r4)] rfl ⟨rfl, trivial⟩ ?_
                  exact t_X8_must_87 hI r4 r3 s4 _ h ho
                · refine v_iload dX8_must_80 rfl ?_
                  refine v_goto 87 dX8_must_82 (by decide) ?_
                  refine v_lw [none, none, none, none, none, none, none, some (.int r4)] rfl ⟨rfl, trivial⟩ ?_
                  exact t_X8_must_87 hI r4 r2 s4 _ h ho
              · refine v_bipush (-4 : Int32) dX8_must_73 (by decide) ?_
                exact v_iret rfl (ho _ _ (Option.some.inj h).symm) dX8_must_75
            · refine v_lw [none, none, none, none, none, none, none, none] rfl trivial ?_
              exact t_X8_must_29 hI s _ h ho
theorem c_X8_must {w : fm_W} {l : Launch} (hI : fm_I w 105) {v1 : Int32} {v2 : Int32} {v3 : Int32} {s : fm_M} {r : Int32} {s2 : fm_M} (h : f_X8_must v1 v2 v3 s = some (r, s2)) : fm_C w layX 105 l yX8_must cX8_must 8 (some .int) rm_X8_must [.ref (fm_ad w 0), .int v1, .int v2, .int v3] s (some (.int r), s2) :=
  fm_of hI (by decide) rfl (Nat.le_of_ble_eq_true rfl) (e_X8_must hI v1 v2 v3 s _ h (fun r s e => by cases e; rfl))
-- X8_pass
abbrev rm_X8_pass : Room := { frames := 4, cells := 0, slots := 0, locals := 84 }
def f_X8_pass_11 (s : fm_M) : Option (Int32 × fm_M) :=
  some ((-1 : Int32), s)
set_option maxHeartbeats 4000000 in
theorem t_X8_pass_11 {w : fm_W} {l : Launch} {o : fm_O} (hI : fm_I w 105) (s : fm_M) (z : Int32 × fm_M) (h : f_X8_pass_11 s = some z) (ho : ∀ (r : Int32) (s : fm_M), z = (r, s) → o = (some (.int r), s)) : fm_V w layX 105 l rm_X8_pass cX8_pass 4 RX8 (some .int) o 11 [none, none, none, none] [] s := by
  unfold f_X8_pass_11 at h
  refine v_iconst (-1 : Int32) dX8_pass_11 (by decide) ?_
  exact v_iret rfl (ho _ _ (Option.some.inj h).symm) dX8_pass_12
def f_X8_pass_46 (v1 : Int32) (s : fm_M) (v2 : Int32) (v3 : Int32) : Option ((fm_M × Int32 × Int32) ⊕ (fm_M × Int32 × Int32)) :=
  if v1 ≤ v3 then some (.inr (s, v2, v3)) else fm_bd (f_X2_goMinute 9 s) (fun r2 s2 => some (.inl (s2, (v2 + r2), (v3 + (1 : Int32)))))
set_option maxHeartbeats 4000000 in
theorem t_X8_pass_46 {w : fm_W} {l : Launch} {o : fm_O} (hI : fm_I w 105) (v1 : Int32) (s : fm_M) (v2 : Int32) (v3 : Int32) (z : (fm_M × Int32 × Int32) ⊕ (fm_M × Int32 × Int32)) (h : f_X8_pass_46 v1 s v2 v3 = some z) (kb : ∀ (s : fm_M) (u2 : Int32) (u3 : Int32), z = .inl (s, u2, u3) → fm_V w layX 105 l rm_X8_pass cX8_pass 4 RX8 (some .int) o 46 [some (.ref (fm_ad w 0)), some (.int v1), some (.int u2), some (.int u3)] [] s) (ke : ∀ (s : fm_M) (u2 : Int32) (u3 : Int32), z = .inr (s, u2, u3) → fm_V w layX 105 l rm_X8_pass cX8_pass 4 RX8 (some .int) o 67 [some (.ref (fm_ad w 0)), some (.int v1), some (.int u2), some (.int u3)] [] s) : fm_V w layX 105 l rm_X8_pass cX8_pass 4 RX8 (some .int) o 46 [some (.ref (fm_ad w 0)), some (.int v1), some (.int v2), some (.int v3)] [] s := by
  unfold f_X8_pass_46 at h
  refine v_iload_n 3 dX8_pass_46 rfl rfl ?_
  refine v_iload_n 1 dX8_pass_47 rfl rfl ?_
  refine v_icmp_ge 67 dX8_pass_48 (by decide) h (fun h => ?_) (fun h => ?_)
  · refine v_lw [some (.ref (fm_ad w 0)), some (.int v1), some (.int v2), some (.int v3)] rfl ⟨rfl, rfl, rfl, rfl, trivial⟩ ?_
    exact ke _ _ _ (Option.some.inj h).symm
  · refine v_iload_n 2 dX8_pass_51 rfl rfl ?_
    refine v_aload_n 0 dX8_pass_52 rfl rfl ?_
    refine v_getr 9 g_X8_31 yX_0 (by decide) rfl dX8_pass_53 ?_
    obtain ⟨r2, s2, h2, h⟩ := fm_bds h
    refine v_cVi [] [.int v2] l_X8_173 (c_X2_goMinute hI isH_9 h2) yX_9 (by decide) rfl rfl ⟨rfl, rfl, by decide, by decide⟩ (Nat.le_of_ble_eq_true rfl) dX8_pass_56 ?_
    refine v_iadd dX8_pass_59 ?_
    refine v_istore_n (lv' := [some (.ref (fm_ad w 0)), some (.int v1), some (.int (v2 + r2)), some (.int v3)]) 2 dX8_pass_60 rfl (by decide) rfl rfl ?_
    refine v_iinc (lv' := [some (.ref (fm_ad w 0)), some (.int v1), some (.int (v2 + r2)), some (.int (v3 + (1 : Int32)))]) (1 : Int32) dX8_pass_61 rfl (by decide) (by decide) rfl rfl ?_
    refine v_goto 46 dX8_pass_64 (by decide) ?_
    refine v_lw [some (.ref (fm_ad w 0)), some (.int v1), some (.int (v2 + r2)), some (.int (v3 + (1 : Int32)))] rfl ⟨rfl, rfl, rfl, rfl, trivial⟩ ?_
    exact kb _ _ _ (Option.some.inj h).symm
set_option maxHeartbeats 4000000 in
theorem i_X8_pass_46 {w : fm_W} {l : Launch} {o : fm_O} (hI : fm_I w 105) (v1 : Int32) (n : Nat) (s : fm_M) (v2 : Int32) (v3 : Int32) (q : fm_M × Int32 × Int32) (h : fm_it (fun s => f_X8_pass_46 v1 s.1 s.2.1 s.2.2) n (s, v2, v3) = some q) (ke : ∀ (s : fm_M) (u2 : Int32) (u3 : Int32), q = (s, u2, u3) → fm_V w layX 105 l rm_X8_pass cX8_pass 4 RX8 (some .int) o 67 [some (.ref (fm_ad w 0)), some (.int v1), some (.int u2), some (.int u3)] [] s) : fm_V w layX 105 l rm_X8_pass cX8_pass 4 RX8 (some .int) o 46 [some (.ref (fm_ad w 0)), some (.int v1), some (.int v2), some (.int v3)] [] s :=
  fm_it_loop (body := (fun s => f_X8_pass_46 v1 s.1 s.2.1 s.2.2)) (P := fun s => fm_V w layX 105 l rm_X8_pass cX8_pass 4 RX8 (some .int) o 46 [some (.ref (fm_ad w 0)), some (.int v1), some (.int s.2.1), some (.int s.2.2)] [] s.1) (K := (fun q : fm_M × Int32 × Int32 => (∀ (s : fm_M) (u2 : Int32) (u3 : Int32), q = (s, u2, u3) → fm_V w layX 105 l rm_X8_pass cX8_pass 4 RX8 (some .int) o 67 [some (.ref (fm_ad w 0)), some (.int v1), some (.int u2), some (.int u3)] [] s))) (fun s z hb kl kx => t_X8_pass_46 hI v1 s.1 s.2.1 s.2.2 z hb (fun s u2 u3 e => kl _ e) (fun s u2 u3 e => (kx _ e) s u2 u3 rfl)) n (s, v2, v3) q h ke
def f_X8_pass (v1 : Int32) (s : fm_M) : Option (Int32 × fm_M) :=
  if v1 < (1 : Int32) then f_X8_pass_11 s else if v1 ≤ (40 : Int32) then if ((s 9 8) + v1) ≤ (999 : Int32) then fm_bd (f_X3_push 16 8 9 s) (fun r1 s1 => fm_op (fm_it (fun (yy : fm_M × Int32 × Int32) => f_X8_pass_46 v1 yy.1 yy.2.1 yy.2.2) fm_fu (s1, (0 : Int32), (0 : Int32))) (fun q3 => ((fun (s3 : fm_M) (x3_2 : Int32) (x3_3 : Int32) => some (x3_2, s3))) q3.1 q3.2.1 q3.2.2)) else some ((-2 : Int32), s) else f_X8_pass_11 s
set_option maxHeartbeats 4000000 in
theorem e_X8_pass {w : fm_W} {l : Launch} {o : fm_O} (hI : fm_I w 105) (v1 : Int32) (s : fm_M) (z : Int32 × fm_M) (h : f_X8_pass v1 s = some z) (ho : ∀ (r : Int32) (s : fm_M), z = (r, s) → o = (some (.int r), s)) : fm_V w layX 105 l rm_X8_pass cX8_pass 4 RX8 (some .int) o 0 [some (.ref (fm_ad w 0)), some (.int v1), none, none] [] s := by
  unfold f_X8_pass at h
  refine v_iload_n 1 dX8_pass_0 rfl rfl ?_
  refine v_iconst (1 : Int32) dX8_pass_1 (by decide) ?_
  refine v_icmp_lt 11 dX8_pass_2 (by decide) h (fun h => ?_) (fun h => ?_)
  · refine v_lw [none, none, none, none] rfl trivial ?_
    exact t_X8_pass_11 hI s _ h ho
  · refine v_iload_n 1 dX8_pass_5 rfl rfl ?_
    refine v_bipush (40 : Int32) dX8_pass_6 (by decide) ?_
    refine v_icmp_le 13 dX8_pass_8 (by decide) h (fun h => ?_) (fun h => ?_)
    · refine v_aload_n 0 dX8_pass_13 rfl rfl ?_
      refine v_getr 9 g_X8_31 yX_0 (by decide) rfl dX8_pass_14 ?_
      refine v_geti g_X8_170 yX_9 (by decide) rfl dX8_pass_17 ?_
      refine v_iload_n 1 dX8_pass_20 rfl rfl ?_
      refine v_iadd dX8_pass_21 ?_
      refine v_sipush (999 : Int32) dX8_pass_22 (by decide) ?_
      refine v_icmp_le 31 dX8_pass_25 (by decide) h (fun h => ?_) (fun h => ?_)
      · refine v_aload_n 0 dX8_pass_31 rfl rfl ?_
        refine v_getr 16 g_X8_40 yX_0 (by decide) rfl dX8_pass_32 ?_
        refine v_aload_n 0 dX8_pass_35 rfl rfl ?_
        refine v_getr 9 g_X8_31 yX_0 (by decide) rfl dX8_pass_36 ?_
        obtain ⟨r1, s1, h1, h⟩ := fm_bds h
        refine v_cVv [.ref (fm_ad w 9)] [] l_X8_150 (c_X3_push hI isPi_16 isH_9 h1) yX_16 (by decide) rfl rfl ⟨rfl, rfl, by decide, by decide⟩ (Nat.le_of_ble_eq_true rfl) dX8_pass_39 ?_
        refine v_iconst (0 : Int32) dX8_pass_42 (by decide) ?_
        refine v_istore_n (lv' := [some (.ref (fm_ad w 0)), some (.int v1), some (.int (0 : Int32)), none]) 2 dX8_pass_43 rfl (by decide) rfl rfl ?_
        refine v_iconst (0 : Int32) dX8_pass_44 (by decide) ?_
        refine v_istore_n (lv' := [some (.ref (fm_ad w 0)), some (.int v1), some (.int (0 : Int32)), some (.int (0 : Int32))]) 3 dX8_pass_45 rfl (by decide) rfl rfl ?_
        obtain ⟨q3, h3, h⟩ := fm_ops h
        refine v_lw [some (.ref (fm_ad w 0)), some (.int v1), some (.int (0 : Int32)), some (.int (0 : Int32))] rfl ⟨rfl, rfl, rfl, rfl, trivial⟩ ?_
        refine i_X8_pass_46 hI v1 _ _ _ _ _ h3 (fun s3 x3_2 x3_3 e => ?_)
        subst e
        dsimp only at h
        refine v_iload_n 2 dX8_pass_67 rfl rfl ?_
        exact v_iret rfl (ho _ _ (Option.some.inj h).symm) dX8_pass_68
      · refine v_bipush (-2 : Int32) dX8_pass_28 (by decide) ?_
        exact v_iret rfl (ho _ _ (Option.some.inj h).symm) dX8_pass_30
    · refine v_lw [none, none, none, none] rfl trivial ?_
      exact t_X8_pass_11 hI s _ h ho
theorem c_X8_pass {w : fm_W} {l : Launch} (hI : fm_I w 105) {v1 : Int32} {s : fm_M} {r : Int32} {s2 : fm_M} (h : f_X8_pass v1 s = some (r, s2)) : fm_C w layX 105 l yX8_pass cX8_pass 4 (some .int) rm_X8_pass [.ref (fm_ad w 0), .int v1] s (some (.int r), s2) :=
  fm_of hI (by decide) rfl (Nat.le_of_ble_eq_true rfl) (e_X8_pass hI v1 s _ h (fun r s e => by cases e; rfl))
-- X8_pays
abbrev rm_X8_pays : Room := { frames := 5, cells := 0, slots := 0, locals := 113 }
def f_X8_pays_116 (s : fm_M) : Option (Int32 × fm_M) :=
  some ((-4 : Int32), s)
set_option maxHeartbeats 4000000 in
theorem t_X8_pays_116 {w : fm_W} {l : Launch} {o : fm_O} (hI : fm_I w 105) (s : fm_M) (z : Int32 × fm_M) (h : f_X8_pays_116 s = some z) (ho : ∀ (r : Int32) (s : fm_M), z = (r, s) → o = (some (.int r), s)) : fm_V w layX 105 l rm_X8_pays cX8_pays 3 RX8 (some .int) o 116 [none, none, none] [] s := by
  unfold f_X8_pays_116 at h
  refine v_bipush (-4 : Int32) dX8_pays_116 (by decide) ?_
  exact v_iret rfl (ho _ _ (Option.some.inj h).symm) dX8_pays_118
def f_X8_pays (s : fm_M) : Option (Int32 × fm_M) :=
  fm_bd (f_X2_lowestFree 9 s) (fun r1 s1 => fm_bd (f_X2_canLayThings 9 r1 s1) (fun r2 s2 => if r2 = 0 then some ((-4 : Int32), s2) else fm_bd (f_X1_startFrom 9 s2) (fun r3 s3 => fm_bd (f_X1_minutesTillLunch s3) (fun r4 s4 => fm_bd (f_X1_goOn 1000 r4 s4) (fun r5 s5 => fm_bd (f_X1_startFrom 9 s5) (fun r6 s6 => fm_bd (f_X2_layThings 91 r1 s6) (fun r7 s7 => fm_bd (f_X1_minutesTillLunch s7) (fun r8 s8 => fm_bd (f_X1_goOn 1000 r8 s8) (fun r9 s9 => if (s5 90 2) = (-4 : Int32) then f_X8_pays_116 s9 else if (s9 90 2) = (-4 : Int32) then f_X8_pays_116 s9 else some ((((s5 90 2) - (s9 90 2)) + (100 : Int32)), s9))))))))))
set_option maxHeartbeats 4000000 in
theorem e_X8_pays {w : fm_W} {l : Launch} {o : fm_O} (hI : fm_I w 105) (s : fm_M) (z : Int32 × fm_M) (h : f_X8_pays s = some z) (ho : ∀ (r : Int32) (s : fm_M), z = (r, s) → o = (some (.int r), s)) : fm_V w layX 105 l rm_X8_pays cX8_pays 3 RX8 (some .int) o 0 [some (.ref (fm_ad w 0)), none, none] [] s := by
  unfold f_X8_pays at h
  refine v_aload_n 0 dX8_pays_0 rfl rfl ?_
  refine v_getr 9 g_X8_31 yX_0 (by decide) rfl dX8_pays_1 ?_
  obtain ⟨r1, s1, h1, h⟩ := fm_bds h
  refine v_cVi [] [] l_X8_211 (c_X2_lowestFree hI isH_9 h1) yX_9 (by decide) rfl rfl ⟨rfl, rfl, by decide, by decide⟩ (Nat.le_of_ble_eq_true rfl) dX8_pays_4 ?_
  refine v_istore_n (lv' := [some (.ref (fm_ad w 0)), some (.int r1), none]) 1 dX8_pays_7 rfl (by decide) rfl rfl ?_
  refine v_aload_n 0 dX8_pays_8 rfl rfl ?_
  refine v_getr 9 g_X8_31 yX_0 (by decide) rfl dX8_pays_9 ?_
  refine v_iload_n 1 dX8_pays_12 rfl rfl ?_
  obtain ⟨r2, s2, h2, h⟩ := fm_bds h
  refine v_cVi [.int r1] [] l_X8_158 (c_X2_canLayThings hI isH_9 h2) yX_9 (by decide) rfl rfl ⟨rfl, rfl, by decide, by decide⟩ (Nat.le_of_ble_eq_true rfl) dX8_pays_13 ?_
  refine v_if_ne 22 dX8_pays_16 (by decide) h (fun h => ?_) (fun h => ?_)
  · refine v_aload_n 0 dX8_pays_22 rfl rfl ?_
    refine v_getr 90 g_X8_50 yX_0 (by decide) rfl dX8_pays_23 ?_
    refine v_aload_n 0 dX8_pays_26 rfl rfl ?_
    refine v_getr 9 g_X8_31 yX_0 (by decide) rfl dX8_pays_27 ?_
    obtain ⟨r3, s3, h3, h⟩ := fm_bds h
    refine v_cVv [.ref (fm_ad w 9)] [] l_X8_180 (c_X1_startFrom hI isH_9 h3) yX_90 (by decide) rfl rfl ⟨rfl, rfl, by decide, by decide⟩ (Nat.le_of_ble_eq_true rfl) dX8_pays_30 ?_
    refine v_aload_n 0 dX8_pays_33 rfl rfl ?_
    refine v_getr 90 g_X8_50 yX_0 (by decide) rfl dX8_pays_34 ?_
    refine v_gets gs_X8_183 dX8_pays_37 ?_
    refine v_aload_n 0 dX8_pays_40 rfl rfl ?_
    refine v_getr 90 g_X8_50 yX_0 (by decide) rfl dX8_pays_41 ?_
    obtain ⟨r4, s4, h4, h⟩ := fm_bds h
    refine v_cVi [] [.ref (fm_ad w 1000), .ref (fm_ad w 90)] l_X8_186 (c_X1_minutesTillLunch hI h4) yX_90 (by decide) rfl rfl ⟨rfl, rfl, by decide, by decide⟩ (Nat.le_of_ble_eq_true rfl) dX8_pays_44 ?_
    obtain ⟨r5, s5, h5, h⟩ := fm_bds h
    refine v_cVv [.ref (fm_ad w 1000), .int r4] [] l_X8_189 (c_X1_goOn hI (Or.inr ⟨rfl, rfl⟩) h5) yX_90 (by decide) rfl rfl ⟨rfl, rfl, by decide, by decide⟩ (Nat.le_of_ble_eq_true rfl) dX8_pays_47 ?_
    refine v_aload_n 0 dX8_pays_50 rfl rfl ?_
    refine v_getr 90 g_X8_50 yX_0 (by decide) rfl dX8_pays_51 ?_
    refine v_geti g_X8_193 yX_90 (by decide) rfl dX8_pays_54 ?_
    refine v_istore_n (lv' := [some (.ref (fm_ad w 0)), some (.int r1), some (.int (s5 90 2))]) 2 dX8_pays_57 rfl (by decide) rfl rfl ?_
    refine v_aload_n 0 dX8_pays_58 rfl rfl ?_
    refine v_getr 90 g_X8_50 yX_0 (by decide) rfl dX8_pays_59 ?_
    refine v_aload_n 0 dX8_pays_62 rfl rfl ?_
    refine v_getr 9 g_X8_31 yX_0 (by decide) rfl dX8_pays_63 ?_
    obtain ⟨r6, s6, h6, h⟩ := fm_bds h
    refine v_cVv [.ref (fm_ad w 9)] [] l_X8_180 (c_X1_startFrom hI isH_9 h6) yX_90 (by decide) rfl rfl ⟨rfl, rfl, by decide, by decide⟩ (Nat.le_of_ble_eq_true rfl) dX8_pays_66 ?_
    refine v_aload_n 0 dX8_pays_69 rfl rfl ?_
    refine v_getr 90 g_X8_50 yX_0 (by decide) rfl dX8_pays_70 ?_
    refine v_getr 91 g_X8_214 yX_90 (by decide) rfl dX8_pays_73 ?_
    refine v_iload_n 1 dX8_pays_76 rfl rfl ?_
    obtain ⟨r7, s7, h7, h⟩ := fm_bds h
    refine v_cVi [.int r1] [] l_X8_161 (c_X2_layThings hI isH_91 h7) yX_91 (by decide) rfl rfl ⟨rfl, rfl, by decide, by decide⟩ (Nat.le_of_ble_eq_true rfl) dX8_pays_77 ?_
    refine v_pop dX8_pays_80 rfl ?_
    refine v_aload_n 0 dX8_pays_81 rfl rfl ?_
    refine v_getr 90 g_X8_50 yX_0 (by decide) rfl dX8_pays_82 ?_
    refine v_gets gs_X8_183 dX8_pays_85 ?_
    refine v_aload_n 0 dX8_pays_88 rfl rfl ?_
    refine v_getr 90 g_X8_50 yX_0 (by decide) rfl dX8_pays_89 ?_
    obtain ⟨r8, s8, h8, h⟩ := fm_bds h
    refine v_cVi [] [.ref (fm_ad w 1000), .ref (fm_ad w 90)] l_X8_186 (c_X1_minutesTillLunch hI h8) yX_90 (by decide) rfl rfl ⟨rfl, rfl, by decide, by decide⟩ (Nat.le_of_ble_eq_true rfl) dX8_pays_92 ?_
    obtain ⟨r9, s9, h9, h⟩ := fm_bds h
    refine v_cVv [.ref (fm_ad w 1000), .int r8] [] l_X8_189 (c_X1_goOn hI (Or.inr ⟨rfl, rfl⟩) h9) yX_90 (by decide) rfl rfl ⟨rfl, rfl, by decide, by decide⟩ (Nat.le_of_ble_eq_true rfl) dX8_pays_95 ?_
    refine v_iload_n 2 dX8_pays_98 rfl rfl ?_
    refine v_bipush (-4 : Int32) dX8_pays_99 (by decide) ?_
    refine v_icmp_eq 116 dX8_pays_101 (by decide) h (fun h => ?_) (fun h => ?_)
    · refine v_lw [none, none, none] rfl trivial ?_
      exact t_X8_pays_116 hI s9 _ h ho
    · refine v_aload_n 0 dX8_pays_104 rfl rfl ?_
      refine v_getr 90 g_X8_50 yX_0 (by decide) rfl dX8_pays_105 ?_
      refine v_geti g_X8_193 yX_90 (by decide) rfl dX8_pays_108 ?_
      refine v_bipush (-4 : Int32) dX8_pays_111 (by decide) ?_
      refine v_icmp_ne 119 dX8_pays_113 (by decide) h (fun h => ?_) (fun h => ?_)
      · refine v_iload_n 2 dX8_pays_119 rfl rfl ?_
        refine v_aload_n 0 dX8_pays_120 rfl rfl ?_
        refine v_getr 90 g_X8_50 yX_0 (by decide) rfl dX8_pays_121 ?_
        refine v_geti g_X8_193 yX_90 (by decide) rfl dX8_pays_124 ?_
        refine v_isub dX8_pays_127 ?_
        refine v_bipush (100 : Int32) dX8_pays_128 (by decide) ?_
        refine v_iadd dX8_pays_130 ?_
        exact v_iret rfl (ho _ _ (Option.some.inj h).symm) dX8_pays_131
      · refine v_lw [none, none, none] rfl trivial ?_
        exact t_X8_pays_116 hI s9 _ h ho
  · refine v_bipush (-4 : Int32) dX8_pays_19 (by decide) ?_
    exact v_iret rfl (ho _ _ (Option.some.inj h).symm) dX8_pays_21
theorem c_X8_pays {w : fm_W} {l : Launch} (hI : fm_I w 105) {s : fm_M} {r : Int32} {s2 : fm_M} (h : f_X8_pays s = some (r, s2)) : fm_C w layX 105 l yX8_pays cX8_pays 3 (some .int) rm_X8_pays [.ref (fm_ad w 0)] s (some (.int r), s2) :=
  fm_of hI (by decide) rfl (Nat.le_of_ble_eq_true rfl) (e_X8_pays hI s _ h (fun r s e => by cases e; rfl))
-- X8_seen
abbrev rm_X8_seen : Room := { frames := 1, cells := 0, slots := 0, locals := 23 }
def f_X8_seen_31 (s : fm_M) : Option (Int32 × fm_M) :=
  some ((-1 : Int32), s)
set_option maxHeartbeats 4000000 in
theorem t_X8_seen_31 {w : fm_W} {l : Launch} {o : fm_O} (hI : fm_I w 105) (s : fm_M) (z : Int32 × fm_M) (h : f_X8_seen_31 s = some z) (ho : ∀ (r : Int32) (s : fm_M), z = (r, s) → o = (some (.int r), s)) : fm_V w layX 105 l rm_X8_seen cX8_seen 4 RX8 (some .int) o 31 [none, none, none, none] [] s := by
  unfold f_X8_seen_31 at h
  refine v_iconst (-1 : Int32) dX8_seen_31 (by decide) ?_
  exact v_iret rfl (ho _ _ (Option.some.inj h).symm) dX8_seen_32
def f_X8_seen_67 (sk0 : Int32) (s : fm_M) : Option (Int32 × fm_M) :=
  some (sk0, s)
set_option maxHeartbeats 4000000 in
theorem t_X8_seen_67 {w : fm_W} {l : Launch} {o : fm_O} (hI : fm_I w 105) (sk0 : Int32) (s : fm_M) (z : Int32 × fm_M) (h : f_X8_seen_67 sk0 s = some z) (ho : ∀ (r : Int32) (s : fm_M), z = (r, s) → o = (some (.int r), s)) : fm_V w layX 105 l rm_X8_seen cX8_seen 4 RX8 (some .int) o 67 [none, none, none, none] [.int sk0] s := by
  unfold f_X8_seen_67 at h
  exact v_iret rfl (ho _ _ (Option.some.inj h).symm) dX8_seen_67
def f_X8_seen_49 (sk0 : Int32) (sk1 : Int32) (sk2 : Int32) (s : fm_M) : Option (Int32 × fm_M) :=
  fm_bd (f_X6_add sk2 sk1 sk0 s) (fun r2 s2 => if r2 = 0 then f_X8_seen_67 (-3 : Int32) s2 else f_X8_seen_67 (s2 101 3) s2)
set_option maxHeartbeats 4000000 in
theorem t_X8_seen_49 {w : fm_W} {l : Launch} {o : fm_O} (hI : fm_I w 105) (sk0 : Int32) (sk1 : Int32) (sk2 : Int32) (s : fm_M) (z : Int32 × fm_M) (h : f_X8_seen_49 sk0 sk1 sk2 s = some z) (ho : ∀ (r : Int32) (s : fm_M), z = (r, s) → o = (some (.int r), s)) : fm_V w layX 105 l rm_X8_seen cX8_seen 4 RX8 (some .int) o 49 [some (.ref (fm_ad w 0)), none, none, none] [.int sk0, .int sk1, .int sk2, .ref (fm_ad w 101)] s := by
  unfold f_X8_seen_49 at h
  obtain ⟨r2, s2, h2, h⟩ := fm_bds h
  refine v_cVi [.int sk2, .int sk1, .int sk0] [] l_X8_217 (c_X6_add hI h2) yX_101 (by decide) rfl rfl ⟨rfl, rfl, by decide, by decide⟩ (Nat.le_of_ble_eq_true rfl) dX8_seen_49 ?_
  refine v_if_eq 65 dX8_seen_52 (by decide) h (fun h => ?_) (fun h => ?_)
  · refine v_bipush (-3 : Int32) dX8_seen_65 (by decide) ?_
    refine v_lw [none, none, none, none] rfl trivial ?_
    exact t_X8_seen_67 hI (-3 : Int32) s2 _ h ho
  · refine v_aload_n 0 dX8_seen_55 rfl rfl ?_
    refine v_getr 101 g_X8_66 yX_0 (by decide) rfl dX8_seen_56 ?_
    refine v_geti g_X8_110 yX_101 (by decide) rfl dX8_seen_59 ?_
    refine v_goto 67 dX8_seen_62 (by decide) ?_
    refine v_lw [none, none, none, none] rfl trivial ?_
    exact t_X8_seen_67 hI (s2 101 3) s2 _ h ho
def f_X8_seen (v1 : Int32) (v2 : Int32) (v3 : Int32) (s : fm_M) : Option (Int32 × fm_M) :=
  fm_bd (f_X4_hasChild 6 v1 s) (fun r1 s1 => if r1 = 0 then f_X8_seen_31 s1 else if v2 < (1 : Int32) then f_X8_seen_31 s1 else if (20 : Int32) < v2 then f_X8_seen_31 s1 else if v3 < 0 then f_X8_seen_31 s1 else if v3 ≤ (1 : Int32) then if v3 = (1 : Int32) then f_X8_seen_49 (1 : Int32) v2 v1 s1 else f_X8_seen_49 (0 : Int32) v2 v1 s1 else f_X8_seen_31 s1)
set_option maxHeartbeats 4000000 in
theorem e_X8_seen {w : fm_W} {l : Launch} {o : fm_O} (hI : fm_I w 105) (v1 : Int32) (v2 : Int32) (v3 : Int32) (s : fm_M) (z : Int32 × fm_M) (h : f_X8_seen v1 v2 v3 s = some z) (ho : ∀ (r : Int32) (s : fm_M), z = (r, s) → o = (some (.int r), s)) : fm_V w layX 105 l rm_X8_seen cX8_seen 4 RX8 (some .int) o 0 [some (.ref (fm_ad w 0)), some (.int v1), some (.int v2), some (.int v3)] [] s := by
  unfold f_X8_seen at h
  refine v_aload_n 0 dX8_seen_0 rfl rfl ?_
  refine v_getr 6 g_X8_23 yX_0 (by decide) rfl dX8_seen_1 ?_
  refine v_iload_n 1 dX8_seen_4 rfl rfl ?_
  obtain ⟨r1, s1, h1, h⟩ := fm_bds h
  refine v_cVi [.int v1] [] l_X8_113 (c_X4_hasChild hI isPl_6 h1) yX_6 (by decide) rfl rfl ⟨rfl, rfl, by decide, by decide⟩ (Nat.le_of_ble_eq_true rfl) dX8_seen_5 ?_
  refine v_if_eq 31 dX8_seen_8 (by decide) h (fun h => ?_) (fun h => ?_)
  · refine v_lw [none, none, none, none] rfl trivial ?_
    exact t_X8_seen_31 hI s1 _ h ho
  · refine v_iload_n 2 dX8_seen_11 rfl rfl ?_
    refine v_iconst (1 : Int32) dX8_seen_12 (by decide) ?_
    refine v_icmp_lt 31 dX8_seen_13 (by decide) h (fun h => ?_) (fun h => ?_)
    · refine v_lw [none, none, none, none] rfl trivial ?_
      exact t_X8_seen_31 hI s1 _ h ho
    · refine v_iload_n 2 dX8_seen_16 rfl rfl ?_
      refine v_bipush (20 : Int32) dX8_seen_17 (by decide) ?_
      refine v_icmp_gt 31 dX8_seen_19 (by decide) h (fun h => ?_) (fun h => ?_)
      · refine v_lw [none, none, none, none] rfl trivial ?_
        exact t_X8_seen_31 hI s1 _ h ho
      · refine v_iload_n 3 dX8_seen_22 rfl rfl ?_
        refine v_if_lt 31 dX8_seen_23 (by decide) h (fun h => ?_) (fun h => ?_)
        · refine v_lw [none, none, none, none] rfl trivial ?_
          exact t_X8_seen_31 hI s1 _ h ho
        · refine v_iload_n 3 dX8_seen_26 rfl rfl ?_
          refine v_iconst (1 : Int32) dX8_seen_27 (by decide) ?_
          refine v_icmp_le 33 dX8_seen_28 (by decide) h (fun h => ?_) (fun h => ?_)
          · refine v_aload_n 0 dX8_seen_33 rfl rfl ?_
            refine v_getr 101 g_X8_66 yX_0 (by decide) rfl dX8_seen_34 ?_
            refine v_iload_n 1 dX8_seen_37 rfl rfl ?_
            refine v_iload_n 2 dX8_seen_38 rfl rfl ?_
            refine v_iload_n 3 dX8_seen_39 rfl rfl ?_
            refine v_iconst (1 : Int32) dX8_seen_40 (by decide) ?_
            refine v_icmp_ne 48 dX8_seen_41 (by decide) h (fun h => ?_) (fun h => ?_)
            · refine v_iconst (0 : Int32) dX8_seen_48 (by decide) ?_
              refine v_lw [some (.ref (fm_ad w 0)), none, none, none] rfl ⟨rfl, trivial⟩ ?_
              exact t_X8_seen_49 hI (0 : Int32) v2 v1 s1 _ h ho
            · refine v_iconst (1 : Int32) dX8_seen_44 (by decide) ?_
              refine v_goto 49 dX8_seen_45 (by decide) ?_
              refine v_lw [some (.ref (fm_ad w 0)), none, none, none] rfl ⟨rfl, trivial⟩ ?_
              exact t_X8_seen_49 hI (1 : Int32) v2 v1 s1 _ h ho
          · refine v_lw [none, none, none, none] rfl trivial ?_
            exact t_X8_seen_31 hI s1 _ h ho
theorem c_X8_seen {w : fm_W} {l : Launch} (hI : fm_I w 105) {v1 : Int32} {v2 : Int32} {v3 : Int32} {s : fm_M} {r : Int32} {s2 : fm_M} (h : f_X8_seen v1 v2 v3 s = some (r, s2)) : fm_C w layX 105 l yX8_seen cX8_seen 4 (some .int) rm_X8_seen [.ref (fm_ad w 0), .int v1, .int v2, .int v3] s (some (.int r), s2) :=
  fm_of hI (by decide) rfl (Nat.le_of_ble_eq_true rfl) (e_X8_seen hI v1 v2 v3 s _ h (fun r s e => by cases e; rfl))
-- X8_take
abbrev rm_X8_take : Room := { frames := 3, cells := 0, slots := 0, locals := 68 }
def f_X8_take_22 (s : fm_M) : Option (Int32 × fm_M) :=
  some ((-1 : Int32), s)
set_option maxHeartbeats 4000000 in
theorem t_X8_take_22 {w : fm_W} {l : Launch} {o : fm_O} (hI : fm_I w 105) (s : fm_M) (z : Int32 × fm_M) (h : f_X8_take_22 s = some z) (ho : ∀ (r : Int32) (s : fm_M), z = (r, s) → o = (some (.int r), s)) : fm_V w layX 105 l rm_X8_take cX8_take 3 RX8 (some .int) o 22 [none, none, none] [] s := by
  unfold f_X8_take_22 at h
  refine v_iconst (-1 : Int32) dX8_take_22 (by decide) ?_
  exact v_iret rfl (ho _ _ (Option.some.inj h).symm) dX8_take_23
def f_X8_take (v1 : Int32) (v2 : Int32) (s : fm_M) : Option (Int32 × fm_M) :=
  fm_bd (f_X2_hasWoman 9 v1 s) (fun r1 s1 => if r1 = 0 then f_X8_take_22 s1 else fm_bd (f_X4_hasChild 6 v2 s1) (fun r2 s2 => if r2 = 0 then f_X8_take_22 s2 else fm_bd (f_X2_canDress 9 v1 v2 s2) (fun r3 s3 => if r3 = 0 then some ((-2 : Int32), s3) else fm_bd (f_X3_push 16 8 9 s3) (fun r4 s4 => fm_bd (f_X2_dress 9 v1 v2 s4) (fun r5 s5 => some (r5, s5))))))
set_option maxHeartbeats 4000000 in
theorem e_X8_take {w : fm_W} {l : Launch} {o : fm_O} (hI : fm_I w 105) (v1 : Int32) (v2 : Int32) (s : fm_M) (z : Int32 × fm_M) (h : f_X8_take v1 v2 s = some z) (ho : ∀ (r : Int32) (s : fm_M), z = (r, s) → o = (some (.int r), s)) : fm_V w layX 105 l rm_X8_take cX8_take 3 RX8 (some .int) o 0 [some (.ref (fm_ad w 0)), some (.int v1), some (.int v2)] [] s := by
  unfold f_X8_take at h
  refine v_aload_n 0 dX8_take_0 rfl rfl ?_
  refine v_getr 9 g_X8_31 yX_0 (by decide) rfl dX8_take_1 ?_
  refine v_iload_n 1 dX8_take_4 rfl rfl ?_
  obtain ⟨r1, s1, h1, h⟩ := fm_bds h
  refine v_cVi [.int v1] [] l_X8_137 (c_X2_hasWoman hI isH_9 h1) yX_9 (by decide) rfl rfl ⟨rfl, rfl, by decide, by decide⟩ (Nat.le_of_ble_eq_true rfl) dX8_take_5 ?_
  refine v_if_eq 22 dX8_take_8 (by decide) h (fun h => ?_) (fun h => ?_)
  · refine v_lw [none, none, none] rfl trivial ?_
    exact t_X8_take_22 hI s1 _ h ho
  · refine v_aload_n 0 dX8_take_11 rfl rfl ?_
    refine v_getr 6 g_X8_23 yX_0 (by decide) rfl dX8_take_12 ?_
    refine v_iload_n 2 dX8_take_15 rfl rfl ?_
    obtain ⟨r2, s2, h2, h⟩ := fm_bds h
    refine v_cVi [.int v2] [] l_X8_113 (c_X4_hasChild hI isPl_6 h2) yX_6 (by decide) rfl rfl ⟨rfl, rfl, by decide, by decide⟩ (Nat.le_of_ble_eq_true rfl) dX8_take_16 ?_
    refine v_if_ne 24 dX8_take_19 (by decide) h (fun h => ?_) (fun h => ?_)
    · refine v_aload_n 0 dX8_take_24 rfl rfl ?_
      refine v_getr 9 g_X8_31 yX_0 (by decide) rfl dX8_take_25 ?_
      refine v_iload_n 1 dX8_take_28 rfl rfl ?_
      refine v_iload_n 2 dX8_take_29 rfl rfl ?_
      obtain ⟨r3, s3, h3, h⟩ := fm_bds h
      refine v_cVi [.int v1, .int v2] [] l_X8_146 (c_X2_canDress hI isH_9 h3) yX_9 (by decide) rfl rfl ⟨rfl, rfl, by decide, by decide⟩ (Nat.le_of_ble_eq_true rfl) dX8_take_30 ?_
      refine v_if_ne 39 dX8_take_33 (by decide) h (fun h => ?_) (fun h => ?_)
      · refine v_aload_n 0 dX8_take_39 rfl rfl ?_
        refine v_getr 16 g_X8_40 yX_0 (by decide) rfl dX8_take_40 ?_
        refine v_aload_n 0 dX8_take_43 rfl rfl ?_
        refine v_getr 9 g_X8_31 yX_0 (by decide) rfl dX8_take_44 ?_
        obtain ⟨r4, s4, h4, h⟩ := fm_bds h
        refine v_cVv [.ref (fm_ad w 9)] [] l_X8_150 (c_X3_push hI isPi_16 isH_9 h4) yX_16 (by decide) rfl rfl ⟨rfl, rfl, by decide, by decide⟩ (Nat.le_of_ble_eq_true rfl) dX8_take_47 ?_
        refine v_aload_n 0 dX8_take_50 rfl rfl ?_
        refine v_getr 9 g_X8_31 yX_0 (by decide) rfl dX8_take_51 ?_
        refine v_iload_n 1 dX8_take_54 rfl rfl ?_
        refine v_iload_n 2 dX8_take_55 rfl rfl ?_
        obtain ⟨r5, s5, h5, h⟩ := fm_bds h
        refine v_cVi [.int v1, .int v2] [] l_X8_154 (c_X2_dress hI isH_9 h5) yX_9 (by decide) rfl rfl ⟨rfl, rfl, by decide, by decide⟩ (Nat.le_of_ble_eq_true rfl) dX8_take_56 ?_
        exact v_iret rfl (ho _ _ (Option.some.inj h).symm) dX8_take_59
      · refine v_bipush (-2 : Int32) dX8_take_36 (by decide) ?_
        exact v_iret rfl (ho _ _ (Option.some.inj h).symm) dX8_take_38
    · refine v_lw [none, none, none] rfl trivial ?_
      exact t_X8_take_22 hI s2 _ h ho
theorem c_X8_take {w : fm_W} {l : Launch} (hI : fm_I w 105) {v1 : Int32} {v2 : Int32} {s : fm_M} {r : Int32} {s2 : fm_M} (h : f_X8_take v1 v2 s = some (r, s2)) : fm_C w layX 105 l yX8_take cX8_take 3 (some .int) rm_X8_take [.ref (fm_ad w 0), .int v1, .int v2] s (some (.int r), s2) :=
  fm_of hI (by decide) rfl (Nat.le_of_ble_eq_true rfl) (e_X8_take hI v1 v2 s _ h (fun r s e => by cases e; rfl))
-- X8_takes
abbrev rm_X8_takes : Room := { frames := 2, cells := 0, slots := 0, locals := 47 }
def f_X8_takes_20 (s : fm_M) : Option (Int32 × fm_M) :=
  some ((-1 : Int32), s)
set_option maxHeartbeats 4000000 in
theorem t_X8_takes_20 {w : fm_W} {l : Launch} {o : fm_O} (hI : fm_I w 105) (s : fm_M) (z : Int32 × fm_M) (h : f_X8_takes_20 s = some z) (ho : ∀ (r : Int32) (s : fm_M), z = (r, s) → o = (some (.int r), s)) : fm_V w layX 105 l rm_X8_takes cX8_takes 6 RX8 (some .int) o 20 [none, none, none, none, none, none] [] s := by
  unfold f_X8_takes_20 at h
  refine v_iconst (-1 : Int32) dX8_takes_20 (by decide) ?_
  exact v_iret rfl (ho _ _ (Option.some.inj h).symm) dX8_takes_21
def f_X8_takes_67 (v1 : Int32) (v2 : Int32) (v3 : Int32) (v4 : Int32) (v5 : Int32) (s : fm_M) : Option ((fm_M × Int32 × Int32 × Int32) ⊕ (fm_M × Int32 × Int32 × Int32)) :=
  some (.inl (s, v3, v4, (v5 + (-1 : Int32))))
set_option maxHeartbeats 4000000 in
theorem t_X8_takes_67 {w : fm_W} {l : Launch} {o : fm_O} (hI : fm_I w 105) (v1 : Int32) (v2 : Int32) (v3 : Int32) (v4 : Int32) (v5 : Int32) (s : fm_M) (z : (fm_M × Int32 × Int32 × Int32) ⊕ (fm_M × Int32 × Int32 × Int32)) (h : f_X8_takes_67 v1 v2 v3 v4 v5 s = some z) (kb : ∀ (s : fm_M) (u3 : Int32) (u4 : Int32) (u5 : Int32), z = .inl (s, u3, u4, u5) → fm_V w layX 105 l rm_X8_takes cX8_takes 6 RX8 (some .int) o 32 [some (.ref (fm_ad w 0)), some (.int v1), some (.int v2), some (.int u3), some (.int u4), some (.int u5)] [] s) (ke : ∀ (s : fm_M) (u3 : Int32) (u4 : Int32) (u5 : Int32), z = .inr (s, u3, u4, u5) → fm_V w layX 105 l rm_X8_takes cX8_takes 6 RX8 (some .int) o 73 [some (.ref (fm_ad w 0)), some (.int v1), some (.int v2), some (.int u3), some (.int u4), some (.int u5)] [] s) : fm_V w layX 105 l rm_X8_takes cX8_takes 6 RX8 (some .int) o 67 [some (.ref (fm_ad w 0)), some (.int v1), some (.int v2), some (.int v3), some (.int v4), some (.int v5)] [] s := by
  unfold f_X8_takes_67 at h
  refine v_iinc (lv' := [some (.ref (fm_ad w 0)), some (.int v1), some (.int v2), some (.int v3), some (.int v4), some (.int (v5 + (-1 : Int32)))]) (-1 : Int32) dX8_takes_67 rfl (by decide) (by decide) rfl rfl ?_
  refine v_goto 32 dX8_takes_70 (by decide) ?_
  refine v_lw [some (.ref (fm_ad w 0)), some (.int v1), some (.int v2), some (.int v3), some (.int v4), some (.int (v5 + (-1 : Int32)))] rfl ⟨rfl, rfl, rfl, rfl, rfl, rfl, trivial⟩ ?_
  exact kb _ _ _ _ (Option.some.inj h).symm
def f_X8_takes_32 (v1 : Int32) (v2 : Int32) (s : fm_M) (v3 : Int32) (v4 : Int32) (v5 : Int32) : Option ((fm_M × Int32 × Int32 × Int32) ⊕ (fm_M × Int32 × Int32 × Int32)) :=
  if v5 < (1 : Int32) then some (.inr (s, v3, v4, v5)) else if fm_in v1 6 = true then fm_bd (f_X6_wouldBe v1 (s 7 v1.toNatClampNeg) v5 s) (fun r2 s2 => if r2 = 0 then f_X8_takes_67 v1 v2 v3 v4 v5 s2 else f_X8_takes_67 v1 v2 (v3 + (1 : Int32)) v5 v5 s2) else none
set_option maxHeartbeats 4000000 in
theorem t_X8_takes_32 {w : fm_W} {l : Launch} {o : fm_O} (hI : fm_I w 105) (v1 : Int32) (v2 : Int32) (s : fm_M) (v3 : Int32) (v4 : Int32) (v5 : Int32) (z : (fm_M × Int32 × Int32 × Int32) ⊕ (fm_M × Int32 × Int32 × Int32)) (h : f_X8_takes_32 v1 v2 s v3 v4 v5 = some z) (kb : ∀ (s : fm_M) (u3 : Int32) (u4 : Int32) (u5 : Int32), z = .inl (s, u3, u4, u5) → fm_V w layX 105 l rm_X8_takes cX8_takes 6 RX8 (some .int) o 32 [some (.ref (fm_ad w 0)), some (.int v1), some (.int v2), some (.int u3), some (.int u4), some (.int u5)] [] s) (ke : ∀ (s : fm_M) (u3 : Int32) (u4 : Int32) (u5 : Int32), z = .inr (s, u3, u4, u5) → fm_V w layX 105 l rm_X8_takes cX8_takes 6 RX8 (some .int) o 73 [some (.ref (fm_ad w 0)), some (.int v1), some (.int v2), some (.int u3), some (.int u4), some (.int u5)] [] s) : fm_V w layX 105 l rm_X8_takes cX8_takes 6 RX8 (some .int) o 32 [some (.ref (fm_ad w 0)), some (.int v1), some (.int v2), some (.int v3), some (.int v4), some (.int v5)] [] s := by
  unfold f_X8_takes_32 at h
  refine v_iload dX8_takes_32 rfl ?_
  refine v_iconst (1 : Int32) dX8_takes_34 (by decide) ?_
  refine v_icmp_lt 73 dX8_takes_35 (by decide) h (fun h => ?_) (fun h => ?_)
  · refine v_lw [some (.ref (fm_ad w 0)), some (.int v1), some (.int v2), some (.int v3), some (.int v4), some (.int v5)] rfl ⟨rfl, rfl, rfl, rfl, rfl, rfl, trivial⟩ ?_
    exact ke _ _ _ _ (Option.some.inj h).symm
  · refine v_aload_n 0 dX8_takes_38 rfl rfl ?_
    refine v_getr 101 g_X8_66 yX_0 (by decide) rfl dX8_takes_39 ?_
    refine v_iload_n 1 dX8_takes_42 rfl rfl ?_
    refine v_aload_n 0 dX8_takes_43 rfl rfl ?_
    refine v_getr 6 g_X8_23 yX_0 (by decide) rfl dX8_takes_44 ?_
    refine v_getr 7 g_X8_117 yX_6 (by decide) rfl dX8_takes_47 ?_
    refine v_iload_n 1 dX8_takes_50 rfl rfl ?_
    obtain ⟨hi, h⟩ := fm_ift h
    refine v_iald (Or.inl ⟨(by decide), yX_7⟩) hi dX8_takes_51 ?_
    refine v_iload dX8_takes_52 rfl ?_
    obtain ⟨r2, s2, h2, h⟩ := fm_bds h
    refine v_cVi [.int v1, .int (s 7 v1.toNatClampNeg), .int v5] [] l_X8_223 (c_X6_wouldBe hI h2) yX_101 (by decide) rfl rfl ⟨rfl, rfl, by decide, by decide⟩ (Nat.le_of_ble_eq_true rfl) dX8_takes_54 ?_
    refine v_if_eq 67 dX8_takes_57 (by decide) h (fun h => ?_) (fun h => ?_)
    · refine v_lw [some (.ref (fm_ad w 0)), some (.int v1), some (.int v2), some (.int v3), some (.int v4), some (.int v5)] rfl ⟨rfl, rfl, rfl, rfl, rfl, rfl, trivial⟩ ?_
      exact t_X8_takes_67 hI v1 v2 v3 v4 v5 s2 _ h kb ke
    · refine v_iinc (lv' := [some (.ref (fm_ad w 0)), some (.int v1), some (.int v2), some (.int (v3 + (1 : Int32))), some (.int v4), some (.int v5)]) (1 : Int32) dX8_takes_60 rfl (by decide) (by decide) rfl rfl ?_
      refine v_iload dX8_takes_63 rfl ?_
      refine v_istore (lv' := [some (.ref (fm_ad w 0)), some (.int v1), some (.int v2), some (.int (v3 + (1 : Int32))), some (.int v5), some (.int v5)]) dX8_takes_65 (by decide) rfl rfl ?_
      refine v_lw [some (.ref (fm_ad w 0)), some (.int v1), some (.int v2), some (.int (v3 + (1 : Int32))), some (.int v5), some (.int v5)] rfl ⟨rfl, rfl, rfl, rfl, rfl, rfl, trivial⟩ ?_
      exact t_X8_takes_67 hI v1 v2 (v3 + (1 : Int32)) v5 v5 s2 _ h kb ke
set_option maxHeartbeats 4000000 in
theorem i_X8_takes_32 {w : fm_W} {l : Launch} {o : fm_O} (hI : fm_I w 105) (v1 : Int32) (v2 : Int32) (n : Nat) (s : fm_M) (v3 : Int32) (v4 : Int32) (v5 : Int32) (q : fm_M × Int32 × Int32 × Int32) (h : fm_it (fun s => f_X8_takes_32 v1 v2 s.1 s.2.1 s.2.2.1 s.2.2.2) n (s, v3, v4, v5) = some q) (ke : ∀ (s : fm_M) (u3 : Int32) (u4 : Int32) (u5 : Int32), q = (s, u3, u4, u5) → fm_V w layX 105 l rm_X8_takes cX8_takes 6 RX8 (some .int) o 73 [some (.ref (fm_ad w 0)), some (.int v1), some (.int v2), some (.int u3), some (.int u4), some (.int u5)] [] s) : fm_V w layX 105 l rm_X8_takes cX8_takes 6 RX8 (some .int) o 32 [some (.ref (fm_ad w 0)), some (.int v1), some (.int v2), some (.int v3), some (.int v4), some (.int v5)] [] s :=
  fm_it_loop (body := (fun s => f_X8_takes_32 v1 v2 s.1 s.2.1 s.2.2.1 s.2.2.2)) (P := fun s => fm_V w layX 105 l rm_X8_takes cX8_takes 6 RX8 (some .int) o 32 [some (.ref (fm_ad w 0)), some (.int v1), some (.int v2), some (.int s.2.1), some (.int s.2.2.1), some (.int s.2.2.2)] [] s.1) (K := (fun q : fm_M × Int32 × Int32 × Int32 => (∀ (s : fm_M) (u3 : Int32) (u4 : Int32) (u5 : Int32), q = (s, u3, u4, u5) → fm_V w layX 105 l rm_X8_takes cX8_takes 6 RX8 (some .int) o 73 [some (.ref (fm_ad w 0)), some (.int v1), some (.int v2), some (.int u3), some (.int u4), some (.int u5)] [] s))) (fun s z hb kl kx => t_X8_takes_32 hI v1 v2 s.1 s.2.1 s.2.2.1 s.2.2.2 z hb (fun s u3 u4 u5 e => kl _ e) (fun s u3 u4 u5 e => (kx _ e) s u3 u4 u5 rfl)) n (s, v3, v4, v5) q h ke
def f_X8_takes_83 (sk0 : Int32) (s : fm_M) : Option (Int32 × fm_M) :=
  some (sk0, s)
set_option maxHeartbeats 4000000 in
theorem t_X8_takes_83 {w : fm_W} {l : Launch} {o : fm_O} (hI : fm_I w 105) (sk0 : Int32) (s : fm_M) (z : Int32 × fm_M) (h : f_X8_takes_83 sk0 s = some z) (ho : ∀ (r : Int32) (s : fm_M), z = (r, s) → o = (some (.int r), s)) : fm_V w layX 105 l rm_X8_takes cX8_takes 6 RX8 (some .int) o 83 [none, none, none, none, none, none] [.int sk0] s := by
  unfold f_X8_takes_83 at h
  exact v_iret rfl (ho _ _ (Option.some.inj h).symm) dX8_takes_83
def f_X8_takes (v1 : Int32) (v2 : Int32) (s : fm_M) : Option (Int32 × fm_M) :=
  fm_bd (f_X4_hasChild 6 v1 s) (fun r1 s1 => if r1 = 0 then f_X8_takes_20 s1 else if v2 < 0 then f_X8_takes_20 s1 else if v2 ≤ (1 : Int32) then fm_op (fm_it (fun (yy : fm_M × Int32 × Int32 × Int32) => f_X8_takes_32 v1 v2 yy.1 yy.2.1 yy.2.2.1 yy.2.2.2) fm_fu (s1, (0 : Int32), (-4 : Int32), (12 : Int32))) (fun q3 => ((fun (s3 : fm_M) (x3_3 : Int32) (x3_4 : Int32) (x3_5 : Int32) => if v2 = 0 then f_X8_takes_83 x3_3 s3 else f_X8_takes_83 x3_4 s3)) q3.1 q3.2.1 q3.2.2.1 q3.2.2.2) else f_X8_takes_20 s1)
set_option maxHeartbeats 4000000 in
theorem e_X8_takes {w : fm_W} {l : Launch} {o : fm_O} (hI : fm_I w 105) (v1 : Int32) (v2 : Int32) (s : fm_M) (z : Int32 × fm_M) (h : f_X8_takes v1 v2 s = some z) (ho : ∀ (r : Int32) (s : fm_M), z = (r, s) → o = (some (.int r), s)) : fm_V w layX 105 l rm_X8_takes cX8_takes 6 RX8 (some .int) o 0 [some (.ref (fm_ad w 0)), some (.int v1), some (.int v2), none, none, none] [] s := by
  unfold f_X8_takes at h
  refine v_aload_n 0 dX8_takes_0 rfl rfl ?_
  refine v_getr 6 g_X8_23 yX_0 (by decide) rfl dX8_takes_1 ?_
  refine v_iload_n 1 dX8_takes_4 rfl rfl ?_
  obtain ⟨r1, s1, h1, h⟩ := fm_bds h
  refine v_cVi [.int v1] [] l_X8_113 (c_X4_hasChild hI isPl_6 h1) yX_6 (by decide) rfl rfl ⟨rfl, rfl, by decide, by decide⟩ (Nat.le_of_ble_eq_true rfl) dX8_takes_5 ?_
  refine v_if_eq 20 dX8_takes_8 (by decide) h (fun h => ?_) (fun h => ?_)
  · refine v_lw [none, none, none, none, none, none] rfl trivial ?_
    exact t_X8_takes_20 hI s1 _ h ho
  · refine v_iload_n 2 dX8_takes_11 rfl rfl ?_
    refine v_if_lt 20 dX8_takes_12 (by decide) h (fun h => ?_) (fun h => ?_)
    · refine v_lw [none, none, none, none, none, none] rfl trivial ?_
      exact t_X8_takes_20 hI s1 _ h ho
    · refine v_iload_n 2 dX8_takes_15 rfl rfl ?_
      refine v_iconst (1 : Int32) dX8_takes_16 (by decide) ?_
      refine v_icmp_le 22 dX8_takes_17 (by decide) h (fun h => ?_) (fun h => ?_)
      · refine v_iconst (0 : Int32) dX8_takes_22 (by decide) ?_
        refine v_istore_n (lv' := [some (.ref (fm_ad w 0)), some (.int v1), some (.int v2), some (.int (0 : Int32)), none, none]) 3 dX8_takes_23 rfl (by decide) rfl rfl ?_
        refine v_bipush (-4 : Int32) dX8_takes_24 (by decide) ?_
        refine v_istore (lv' := [some (.ref (fm_ad w 0)), some (.int v1), some (.int v2), some (.int (0 : Int32)), some (.int (-4 : Int32)), none]) dX8_takes_26 (by decide) rfl rfl ?_
        refine v_bipush (12 : Int32) dX8_takes_28 (by decide) ?_
        refine v_istore (lv' := [some (.ref (fm_ad w 0)), some (.int v1), some (.int v2), some (.int (0 : Int32)), some (.int (-4 : Int32)), some (.int (12 : Int32))]) dX8_takes_30 (by decide) rfl rfl ?_
        obtain ⟨q3, h3, h⟩ := fm_ops h
        refine v_lw [some (.ref (fm_ad w 0)), some (.int v1), some (.int v2), some (.int (0 : Int32)), some (.int (-4 : Int32)), some (.int (12 : Int32))] rfl ⟨rfl, rfl, rfl, rfl, rfl, rfl, trivial⟩ ?_
        refine i_X8_takes_32 hI v1 v2 _ _ _ _ _ _ h3 (fun s3 x3_3 x3_4 x3_5 e => ?_)
        subst e
        dsimp only at h
        refine v_iload_n 2 dX8_takes_73 rfl rfl ?_
        refine v_if_ne 81 dX8_takes_74 (by decide) h (fun h => ?_) (fun h => ?_)
        · refine v_iload dX8_takes_81 rfl ?_
          refine v_lw [none, none, none, none, none, none] rfl trivial ?_
          exact t_X8_takes_83 hI x3_4 s3 _ h ho
        · refine v_iload_n 3 dX8_takes_77 rfl rfl ?_
          refine v_goto 83 dX8_takes_78 (by decide) ?_
          refine v_lw [none, none, none, none, none, none] rfl trivial ?_
          exact t_X8_takes_83 hI x3_3 s3 _ h ho
      · refine v_lw [none, none, none, none, none, none] rfl trivial ?_
        exact t_X8_takes_20 hI s1 _ h ho
theorem c_X8_takes {w : fm_W} {l : Launch} (hI : fm_I w 105) {v1 : Int32} {v2 : Int32} {s : fm_M} {r : Int32} {s2 : fm_M} (h : f_X8_takes v1 v2 s = some (r, s2)) : fm_C w layX 105 l yX8_takes cX8_takes 6 (some .int) rm_X8_takes [.ref (fm_ad w 0), .int v1, .int v2] s (some (.int r), s2) :=
  fm_of hI (by decide) rfl (Nat.le_of_ble_eq_true rfl) (e_X8_takes hI v1 v2 s _ h (fun r s e => by cases e; rfl))
-- X8_undo
abbrev rm_X8_undo : Room := { frames := 3, cells := 0, slots := 0, locals := 68 }
def f_X8_undo (s : fm_M) : Option (Int32 × fm_M) :=
  if (s 16 2) = 0 then some ((-2 : Int32), s) else fm_bd (f_X3_popInto 16 8 9 s) (fun r1 s1 => some ((s1 16 2), s1))
set_option maxHeartbeats 4000000 in
theorem e_X8_undo {w : fm_W} {l : Launch} {o : fm_O} (hI : fm_I w 105) (s : fm_M) (z : Int32 × fm_M) (h : f_X8_undo s = some z) (ho : ∀ (r : Int32) (s : fm_M), z = (r, s) → o = (some (.int r), s)) : fm_V w layX 105 l rm_X8_undo cX8_undo 1 RX8 (some .int) o 0 [some (.ref (fm_ad w 0))] [] s := by
  unfold f_X8_undo at h
  refine v_aload_n 0 dX8_undo_0 rfl rfl ?_
  refine v_getr 16 g_X8_40 yX_0 (by decide) rfl dX8_undo_1 ?_
  refine v_geti g_X8_176 yX_16 (by decide) rfl dX8_undo_4 ?_
  refine v_if_ne 13 dX8_undo_7 (by decide) h (fun h => ?_) (fun h => ?_)
  · refine v_aload_n 0 dX8_undo_13 rfl rfl ?_
    refine v_getr 16 g_X8_40 yX_0 (by decide) rfl dX8_undo_14 ?_
    refine v_aload_n 0 dX8_undo_17 rfl rfl ?_
    refine v_getr 9 g_X8_31 yX_0 (by decide) rfl dX8_undo_18 ?_
    obtain ⟨r1, s1, h1, h⟩ := fm_bds h
    refine v_cVv [.ref (fm_ad w 9)] [] l_X8_177 (c_X3_popInto hI isPi_16 isH_9 h1) yX_16 (by decide) rfl rfl ⟨rfl, rfl, by decide, by decide⟩ (Nat.le_of_ble_eq_true rfl) dX8_undo_21 ?_
    refine v_aload_n 0 dX8_undo_24 rfl rfl ?_
    refine v_getr 16 g_X8_40 yX_0 (by decide) rfl dX8_undo_25 ?_
    refine v_geti g_X8_176 yX_16 (by decide) rfl dX8_undo_28 ?_
    exact v_iret rfl (ho _ _ (Option.some.inj h).symm) dX8_undo_31
  · refine v_bipush (-2 : Int32) dX8_undo_10 (by decide) ?_
    exact v_iret rfl (ho _ _ (Option.some.inj h).symm) dX8_undo_12
theorem c_X8_undo {w : fm_W} {l : Launch} (hI : fm_I w 105) {s : fm_M} {r : Int32} {s2 : fm_M} (h : f_X8_undo s = some (r, s2)) : fm_C w layX 105 l yX8_undo cX8_undo 1 (some .int) rm_X8_undo [.ref (fm_ad w 0)] s (some (.int r), s2) :=
  fm_of hI (by decide) rfl (Nat.le_of_ble_eq_true rfl) (e_X8_undo hI s _ h (fun r s e => by cases e; rfl))
-- X8_wipe
abbrev rm_X8_wipe : Room := { frames := 1, cells := 0, slots := 0, locals := 20 }
def f_X8_wipe (s : fm_M) : Option (Int32 × fm_M) :=
  fm_bd (f_X7_clear s) (fun r1 s1 => some ((s 1 1), s1))
set_option maxHeartbeats 4000000 in
theorem e_X8_wipe {w : fm_W} {l : Launch} {o : fm_O} (hI : fm_I w 105) (s : fm_M) (z : Int32 × fm_M) (h : f_X8_wipe s = some z) (ho : ∀ (r : Int32) (s : fm_M), z = (r, s) → o = (some (.int r), s)) : fm_V w layX 105 l rm_X8_wipe cX8_wipe 2 RX8 (some .int) o 0 [some (.ref (fm_ad w 0)), none] [] s := by
  unfold f_X8_wipe at h
  refine v_aload_n 0 dX8_wipe_0 rfl rfl ?_
  refine v_getr 1 g_X8_10 yX_0 (by decide) rfl dX8_wipe_1 ?_
  refine v_geti g_X8_101 yX_1 (by decide) rfl dX8_wipe_4 ?_
  refine v_istore_n (lv' := [some (.ref (fm_ad w 0)), some (.int (s 1 1))]) 1 dX8_wipe_7 rfl (by decide) rfl rfl ?_
  refine v_aload_n 0 dX8_wipe_8 rfl rfl ?_
  refine v_getr 1 g_X8_10 yX_0 (by decide) rfl dX8_wipe_9 ?_
  obtain ⟨r1, s1, h1, h⟩ := fm_bds h
  refine v_cVv [] [] l_X8_90 (c_X7_clear hI h1) yX_1 (by decide) rfl rfl ⟨rfl, rfl, by decide, by decide⟩ (Nat.le_of_ble_eq_true rfl) dX8_wipe_12 ?_
  refine v_iload_n 1 dX8_wipe_15 rfl rfl ?_
  exact v_iret rfl (ho _ _ (Option.some.inj h).symm) dX8_wipe_16
theorem c_X8_wipe {w : fm_W} {l : Launch} (hI : fm_I w 105) {s : fm_M} {r : Int32} {s2 : fm_M} (h : f_X8_wipe s = some (r, s2)) : fm_C w layX 105 l yX8_wipe cX8_wipe 2 (some .int) rm_X8_wipe [.ref (fm_ad w 0)] s (some (.int r), s2) :=
  fm_of hI (by decide) rfl (Nat.le_of_ble_eq_true rfl) (e_X8_wipe hI s _ h (fun r s e => by cases e; rfl))
-- X8_woman
abbrev rm_X8_woman : Room := { frames := 1, cells := 0, slots := 0, locals := 21 }
def f_X8_woman (v1 : Int32) (v2 : Int32) (s : fm_M) : Option (Int32 × fm_M) :=
  fm_bd (f_X2_hasWoman 9 v1 s) (fun r1 s1 => if r1 = 0 then some ((-1 : Int32), s1) else if v2 = (0 : Int32) then if fm_in v1 3 = true then some ((s1 13 v1.toNatClampNeg), s1) else none else if v2 = (1 : Int32) then if fm_in v1 3 = true then some ((s1 14 v1.toNatClampNeg), s1) else none else some ((-1 : Int32), s1))
set_option maxHeartbeats 4000000 in
theorem e_X8_woman {w : fm_W} {l : Launch} {o : fm_O} (hI : fm_I w 105) (v1 : Int32) (v2 : Int32) (s : fm_M) (z : Int32 × fm_M) (h : f_X8_woman v1 v2 s = some z) (ho : ∀ (r : Int32) (s : fm_M), z = (r, s) → o = (some (.int r), s)) : fm_V w layX 105 l rm_X8_woman cX8_woman 3 RX8 (some .int) o 0 [some (.ref (fm_ad w 0)), some (.int v1), some (.int v2)] [] s := by
  unfold f_X8_woman at h
  refine v_aload_n 0 dX8_woman_0 rfl rfl ?_
  refine v_getr 9 g_X8_31 yX_0 (by decide) rfl dX8_woman_1 ?_
  refine v_iload_n 1 dX8_woman_4 rfl rfl ?_
  obtain ⟨r1, s1, h1, h⟩ := fm_bds h
  refine v_cVi [.int v1] [] l_X8_137 (c_X2_hasWoman hI isH_9 h1) yX_9 (by decide) rfl rfl ⟨rfl, rfl, by decide, by decide⟩ (Nat.le_of_ble_eq_true rfl) dX8_woman_5 ?_
  refine v_if_ne 13 dX8_woman_8 (by decide) h (fun h => ?_) (fun h => ?_)
  · refine v_iload_n 2 dX8_woman_13 rfl rfl ?_
    by_cases hx0 : v2 = (0 : Int32)
    · rw [if_pos hx0] at h
      refine v_lookup (off := 26) 40 dX8_woman_14 (by decide) (by rw [hx0]; decide) (by decide) ?_
      refine v_aload_n 0 dX8_woman_40 rfl rfl ?_
      refine v_getr 9 g_X8_31 yX_0 (by decide) rfl dX8_woman_41 ?_
      refine v_getr 13 g_X8_140 yX_9 (by decide) rfl dX8_woman_44 ?_
      refine v_iload_n 1 dX8_woman_47 rfl rfl ?_
      obtain ⟨hi, h⟩ := fm_ift h
      refine v_iald (Or.inl ⟨(by decide), yX_13⟩) hi dX8_woman_48 ?_
      exact v_iret rfl (ho _ _ (Option.some.inj h).symm) dX8_woman_49
    rw [if_neg hx0] at h
    by_cases hx1 : v2 = (1 : Int32)
    · rw [if_pos hx1] at h
      refine v_lookup (off := 36) 50 dX8_woman_14 (by decide) (by rw [hx1]; decide) (by decide) ?_
      refine v_aload_n 0 dX8_woman_50 rfl rfl ?_
      refine v_getr 9 g_X8_31 yX_0 (by decide) rfl dX8_woman_51 ?_
      refine v_getr 14 g_X8_143 yX_9 (by decide) rfl dX8_woman_54 ?_
      refine v_iload_n 1 dX8_woman_57 rfl rfl ?_
      obtain ⟨hi, h⟩ := fm_ift h
      refine v_iald (Or.inl ⟨(by decide), yX_14⟩) hi dX8_woman_58 ?_
      exact v_iret rfl (ho _ _ (Option.some.inj h).symm) dX8_woman_59
    rw [if_neg hx1] at h
    refine v_lookup (off := 46) 60 dX8_woman_14 (by decide) ((lv_osw hx0 (by decide)).trans ((lv_osw hx1 (by decide)).trans rfl)) (by decide) ?_
    refine v_iconst (-1 : Int32) dX8_woman_60 (by decide) ?_
    exact v_iret rfl (ho _ _ (Option.some.inj h).symm) dX8_woman_61
  · refine v_iconst (-1 : Int32) dX8_woman_11 (by decide) ?_
    exact v_iret rfl (ho _ _ (Option.some.inj h).symm) dX8_woman_12
theorem c_X8_woman {w : fm_W} {l : Launch} (hI : fm_I w 105) {v1 : Int32} {v2 : Int32} {s : fm_M} {r : Int32} {s2 : fm_M} (h : f_X8_woman v1 v2 s = some (r, s2)) : fm_C w layX 105 l yX8_woman cX8_woman 3 (some .int) rm_X8_woman [.ref (fm_ad w 0), .int v1, .int v2] s (some (.int r), s2) :=
  fm_of hI (by decide) rfl (Nat.le_of_ble_eq_true rfl) (e_X8_woman hI v1 v2 s _ h (fun r s e => by cases e; rfl))
-- X8_women
abbrev rm_X8_women : Room := { frames := 5, cells := 0, slots := 0, locals := 113 }
def f_X8_women_10 (s : fm_M) : Option (Int32 × fm_M) :=
  some ((-1 : Int32), s)
set_option maxHeartbeats 4000000 in
theorem t_X8_women_10 {w : fm_W} {l : Launch} {o : fm_O} (hI : fm_I w 105) (s : fm_M) (z : Int32 × fm_M) (h : f_X8_women_10 s = some z) (ho : ∀ (r : Int32) (s : fm_M), z = (r, s) → o = (some (.int r), s)) : fm_V w layX 105 l rm_X8_women cX8_women 2 RX8 (some .int) o 10 [none, none] [] s := by
  unfold f_X8_women_10 at h
  refine v_iconst (-1 : Int32) dX8_women_10 (by decide) ?_
  exact v_iret rfl (ho _ _ (Option.some.inj h).symm) dX8_women_11
def f_X8_women (v1 : Int32) (s : fm_M) : Option (Int32 × fm_M) :=
  if v1 < (1 : Int32) then f_X8_women_10 s else if v1 ≤ (3 : Int32) then fm_bd (f_X2_startAgain 91 v1 s) (fun r1 s1 => fm_bd (f_X1_minutesTillLunch s1) (fun r2 s2 => fm_bd (f_X1_goOn 1000 r2 s2) (fun r3 s3 => some ((s3 90 2), s3)))) else f_X8_women_10 s
set_option maxHeartbeats 4000000 in
theorem e_X8_women {w : fm_W} {l : Launch} {o : fm_O} (hI : fm_I w 105) (v1 : Int32) (s : fm_M) (z : Int32 × fm_M) (h : f_X8_women v1 s = some z) (ho : ∀ (r : Int32) (s : fm_M), z = (r, s) → o = (some (.int r), s)) : fm_V w layX 105 l rm_X8_women cX8_women 2 RX8 (some .int) o 0 [some (.ref (fm_ad w 0)), some (.int v1)] [] s := by
  unfold f_X8_women at h
  refine v_iload_n 1 dX8_women_0 rfl rfl ?_
  refine v_iconst (1 : Int32) dX8_women_1 (by decide) ?_
  refine v_icmp_lt 10 dX8_women_2 (by decide) h (fun h => ?_) (fun h => ?_)
  · refine v_lw [none, none] rfl trivial ?_
    exact t_X8_women_10 hI s _ h ho
  · refine v_iload_n 1 dX8_women_5 rfl rfl ?_
    refine v_iconst (3 : Int32) dX8_women_6 (by decide) ?_
    refine v_icmp_le 12 dX8_women_7 (by decide) h (fun h => ?_) (fun h => ?_)
    · refine v_aload_n 0 dX8_women_12 rfl rfl ?_
      refine v_getr 90 g_X8_50 yX_0 (by decide) rfl dX8_women_13 ?_
      refine v_getr 91 g_X8_214 yX_90 (by decide) rfl dX8_women_16 ?_
      refine v_iload_n 1 dX8_women_19 rfl rfl ?_
      obtain ⟨r1, s1, h1, h⟩ := fm_bds h
      refine v_cVv [.int v1] [] l_X8_97 (c_X2_startAgain hI isH_91 h1) yX_91 (by decide) rfl rfl ⟨rfl, rfl, by decide, by decide⟩ (Nat.le_of_ble_eq_true rfl) dX8_women_20 ?_
      refine v_aload_n 0 dX8_women_23 rfl rfl ?_
      refine v_getr 90 g_X8_50 yX_0 (by decide) rfl dX8_women_24 ?_
      refine v_gets gs_X8_183 dX8_women_27 ?_
      refine v_aload_n 0 dX8_women_30 rfl rfl ?_
      refine v_getr 90 g_X8_50 yX_0 (by decide) rfl dX8_women_31 ?_
      obtain ⟨r2, s2, h2, h⟩ := fm_bds h
      refine v_cVi [] [.ref (fm_ad w 1000), .ref (fm_ad w 90)] l_X8_186 (c_X1_minutesTillLunch hI h2) yX_90 (by decide) rfl rfl ⟨rfl, rfl, by decide, by decide⟩ (Nat.le_of_ble_eq_true rfl) dX8_women_34 ?_
      obtain ⟨r3, s3, h3, h⟩ := fm_bds h
      refine v_cVv [.ref (fm_ad w 1000), .int r2] [] l_X8_189 (c_X1_goOn hI (Or.inr ⟨rfl, rfl⟩) h3) yX_90 (by decide) rfl rfl ⟨rfl, rfl, by decide, by decide⟩ (Nat.le_of_ble_eq_true rfl) dX8_women_37 ?_
      refine v_aload_n 0 dX8_women_40 rfl rfl ?_
      refine v_getr 90 g_X8_50 yX_0 (by decide) rfl dX8_women_41 ?_
      refine v_geti g_X8_193 yX_90 (by decide) rfl dX8_women_44 ?_
      exact v_iret rfl (ho _ _ (Option.some.inj h).symm) dX8_women_47
    · refine v_lw [none, none] rfl trivial ?_
      exact t_X8_women_10 hI s _ h ho
theorem c_X8_women {w : fm_W} {l : Launch} (hI : fm_I w 105) {v1 : Int32} {s : fm_M} {r : Int32} {s2 : fm_M} (h : f_X8_women v1 s = some (r, s2)) : fm_C w layX 105 l yX8_women cX8_women 2 (some .int) rm_X8_women [.ref (fm_ad w 0), .int v1] s (some (.int r), s2) :=
  fm_of hI (by decide) rfl (Nat.le_of_ble_eq_true rfl) (e_X8_women hI v1 s _ h (fun r s e => by cases e; rfl))
-- X8_write
abbrev rm_X8_write : Room := { frames := 1, cells := 0, slots := 0, locals := 21 }
def f_X8_write_12 (s : fm_M) : Option (Int32 × fm_M) :=
  some ((-1 : Int32), s)
set_option maxHeartbeats 4000000 in
theorem t_X8_write_12 {w : fm_W} {l : Launch} {o : fm_O} (hI : fm_I w 105) (s : fm_M) (z : Int32 × fm_M) (h : f_X8_write_12 s = some z) (ho : ∀ (r : Int32) (s : fm_M), z = (r, s) → o = (some (.int r), s)) : fm_V w layX 105 l rm_X8_write cX8_write 2 RX8 (some .int) o 12 [none, none] [] s := by
  unfold f_X8_write_12 at h
  refine v_iconst (-1 : Int32) dX8_write_12 (by decide) ?_
  exact v_iret rfl (ho _ _ (Option.some.inj h).symm) dX8_write_13
def f_X8_write_38 (sk0 : Int32) (s : fm_M) : Option (Int32 × fm_M) :=
  some (sk0, s)
set_option maxHeartbeats 4000000 in
theorem t_X8_write_38 {w : fm_W} {l : Launch} {o : fm_O} (hI : fm_I w 105) (sk0 : Int32) (s : fm_M) (z : Int32 × fm_M) (h : f_X8_write_38 sk0 s = some z) (ho : ∀ (r : Int32) (s : fm_M), z = (r, s) → o = (some (.int r), s)) : fm_V w layX 105 l rm_X8_write cX8_write 2 RX8 (some .int) o 38 [none, none] [.int sk0] s := by
  unfold f_X8_write_38 at h
  exact v_iret rfl (ho _ _ (Option.some.inj h).symm) dX8_write_38
def f_X8_write (v1 : Int32) (s : fm_M) : Option (Int32 × fm_M) :=
  if v1 < (32 : Int32) then f_X8_write_12 s else if v1 ≤ (126 : Int32) then fm_bd (f_X7_add ((v1.toUInt32 % 65536).toInt32) s) (fun r1 s1 => if r1 = 0 then f_X8_write_38 (-3 : Int32) s1 else f_X8_write_38 (s1 1 1) s1) else f_X8_write_12 s
set_option maxHeartbeats 4000000 in
theorem e_X8_write {w : fm_W} {l : Launch} {o : fm_O} (hI : fm_I w 105) (v1 : Int32) (s : fm_M) (z : Int32 × fm_M) (h : f_X8_write v1 s = some z) (ho : ∀ (r : Int32) (s : fm_M), z = (r, s) → o = (some (.int r), s)) : fm_V w layX 105 l rm_X8_write cX8_write 2 RX8 (some .int) o 0 [some (.ref (fm_ad w 0)), some (.int v1)] [] s := by
  unfold f_X8_write at h
  refine v_iload_n 1 dX8_write_0 rfl rfl ?_
  refine v_bipush (32 : Int32) dX8_write_1 (by decide) ?_
  refine v_icmp_lt 12 dX8_write_3 (by decide) h (fun h => ?_) (fun h => ?_)
  · refine v_lw [none, none] rfl trivial ?_
    exact t_X8_write_12 hI s _ h ho
  · refine v_iload_n 1 dX8_write_6 rfl rfl ?_
    refine v_bipush (126 : Int32) dX8_write_7 (by decide) ?_
    refine v_icmp_le 14 dX8_write_9 (by decide) h (fun h => ?_) (fun h => ?_)
    · refine v_aload_n 0 dX8_write_14 rfl rfl ?_
      refine v_getr 1 g_X8_10 yX_0 (by decide) rfl dX8_write_15 ?_
      refine v_iload_n 1 dX8_write_18 rfl rfl ?_
      refine v_i2c dX8_write_19 ?_
      obtain ⟨r1, s1, h1, h⟩ := fm_bds h
      refine v_cVi [.int (v1.toUInt32 % 65536).toInt32] [] l_X8_82 (c_X7_add hI h1) yX_1 (by decide) rfl rfl ⟨rfl, rfl, by decide, by decide⟩ (Nat.le_of_ble_eq_true rfl) dX8_write_20 ?_
      refine v_if_eq 36 dX8_write_23 (by decide) h (fun h => ?_) (fun h => ?_)
      · refine v_bipush (-3 : Int32) dX8_write_36 (by decide) ?_
        refine v_lw [none, none] rfl trivial ?_
        exact t_X8_write_38 hI (-3 : Int32) s1 _ h ho
      · refine v_aload_n 0 dX8_write_26 rfl rfl ?_
        refine v_getr 1 g_X8_10 yX_0 (by decide) rfl dX8_write_27 ?_
        refine v_geti g_X8_101 yX_1 (by decide) rfl dX8_write_30 ?_
        refine v_goto 38 dX8_write_33 (by decide) ?_
        refine v_lw [none, none] rfl trivial ?_
        exact t_X8_write_38 hI (s1 1 1) s1 _ h ho
    · refine v_lw [none, none] rfl trivial ?_
      exact t_X8_write_12 hI s _ h ho
theorem c_X8_write {w : fm_W} {l : Launch} (hI : fm_I w 105) {v1 : Int32} {s : fm_M} {r : Int32} {s2 : fm_M} (h : f_X8_write v1 s = some (r, s2)) : fm_C w layX 105 l yX8_write cX8_write 2 (some .int) rm_X8_write [.ref (fm_ad w 0), .int v1] s (some (.int r), s2) :=
  fm_of hI (by decide) rfl (Nat.le_of_ble_eq_true rfl) (e_X8_write hI v1 s _ h (fun r s e => by cases e; rfl))
