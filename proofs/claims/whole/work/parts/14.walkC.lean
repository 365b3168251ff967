-- X1_doorIsDue
abbrev rm_X1_doorIsDue : Room := { frames := 2, cells := 0, slots := 0, locals := 43 }
def f_X1_doorIsDue_24 (s : fm_M) : Option (Int32 × fm_M) :=
  some ((0 : Int32), s)
set_option maxHeartbeats 4000000 in
theorem t_X1_doorIsDue_24 {w : fm_W} {l : Launch} {o : fm_O} (hI : fm_I w 105) (s : fm_M) (z : Int32 × fm_M) (h : f_X1_doorIsDue_24 s = some z) (ho : ∀ (r : Int32) (s : fm_M), z = (r, s) → o = (some (.int r), s)) : fm_V w layX 105 l rm_X1_doorIsDue cX1_doorIsDue 3 RX1 (some .boolean) o 24 [none, none, none] [] s := by
  unfold f_X1_doorIsDue_24 at h
  refine v_iconst (0 : Int32) dX1_doorIsDue_24 (by decide) ?_
  exact v_zret rfl (by decide) (ho _ _ (Option.some.inj h).symm) dX1_doorIsDue_25
def f_X1_doorIsDue_82 (sk0 : Int32) (s : fm_M) : Option (Int32 × fm_M) :=
  if fm_b sk0 = true then some (sk0, s) else none
set_option maxHeartbeats 4000000 in
theorem t_X1_doorIsDue_82 {w : fm_W} {l : Launch} {o : fm_O} (hI : fm_I w 105) (sk0 : Int32) (s : fm_M) (z : Int32 × fm_M) (h : f_X1_doorIsDue_82 sk0 s = some z) (ho : ∀ (r : Int32) (s : fm_M), z = (r, s) → o = (some (.int r), s)) : fm_V w layX 105 l rm_X1_doorIsDue cX1_doorIsDue 3 RX1 (some .boolean) o 82 [none, none, none] [.int sk0] s := by
  unfold f_X1_doorIsDue_82 at h
  obtain ⟨hb, h⟩ := fm_ift h
  exact v_zret rfl (fm_b_nar hb).1 (ho _ _ (Option.some.inj h).symm) dX1_doorIsDue_82
def f_X1_doorIsDue_77 (s : fm_M) : Option (Int32 × fm_M) :=
  f_X1_doorIsDue_82 (1 : Int32) s
set_option maxHeartbeats 4000000 in
theorem t_X1_doorIsDue_77 {w : fm_W} {l : Launch} {o : fm_O} (hI : fm_I w 105) (s : fm_M) (z : Int32 × fm_M) (h : f_X1_doorIsDue_77 s = some z) (ho : ∀ (r : Int32) (s : fm_M), z = (r, s) → o = (some (.int r), s)) : fm_V w layX 105 l rm_X1_doorIsDue cX1_doorIsDue 3 RX1 (some .boolean) o 77 [none, none, none] [] s := by
  unfold f_X1_doorIsDue_77 at h
  refine v_iconst (1 : Int32) dX1_doorIsDue_77 (by decide) ?_
  refine v_goto 82 dX1_doorIsDue_78 (by decide) ?_
  refine v_lw [none, none, none] rfl trivial ?_
  exact t_X1_doorIsDue_82 hI (1 : Int32) s _ h ho
def f_X1_doorIsDue_52 (v1 : Int32) (sk0 : Int32) (s : fm_M) : Option (Int32 × fm_M) :=
  if sk0 = 0 then fm_bd (f_X2_countChildren 91 (3 : Int32) s) (fun r3 s3 => if (v1 + r3) = (s3 6 2) then f_X1_doorIsDue_77 s3 else f_X1_doorIsDue_82 (0 : Int32) s3) else f_X1_doorIsDue_77 s
set_option maxHeartbeats 4000000 in
theorem t_X1_doorIsDue_52 {w : fm_W} {l : Launch} {o : fm_O} (hI : fm_I w 105) (v1 : Int32) (sk0 : Int32) (s : fm_M) (z : Int32 × fm_M) (h : f_X1_doorIsDue_52 v1 sk0 s = some z) (ho : ∀ (r : Int32) (s : fm_M), z = (r, s) → o = (some (.int r), s)) : fm_V w layX 105 l rm_X1_doorIsDue cX1_doorIsDue 3 RX1 (some .boolean) o 52 [some (.ref (fm_ad w 90)), some (.int v1), none] [.int sk0] s := by
  unfold f_X1_doorIsDue_52 at h
  refine v_istore_n (lv' := [some (.ref (fm_ad w 90)), some (.int v1), some (.int sk0)]) 2 dX1_doorIsDue_52 rfl (by decide) rfl rfl ?_
  refine v_iload_n 2 dX1_doorIsDue_53 rfl rfl ?_
  refine v_if_ne 77 dX1_doorIsDue_54 (by decide) h (fun h => ?_) (fun h => ?_)
  · refine v_lw [none, none, none] rfl trivial ?_
    exact t_X1_doorIsDue_77 hI s _ h ho
  · refine v_iload_n 1 dX1_doorIsDue_57 rfl rfl ?_
    refine v_aload_n 0 dX1_doorIsDue_58 rfl rfl ?_
    refine v_getr 91 g_X1_20 yX_90 (by decide) rfl dX1_doorIsDue_59 ?_
    refine v_iconst (3 : Int32) dX1_doorIsDue_62 (by decide) ?_
    obtain ⟨r3, s3, h3, h⟩ := fm_bds h
    refine v_cVi [.int (3 : Int32)] [.int v1] l_X1_68 (c_X2_countChildren hI isH_91 h3) yX_91 (by decide) rfl rfl ⟨rfl, rfl, by decide, by decide⟩ (Nat.le_of_ble_eq_true rfl) dX1_doorIsDue_63 ?_
    refine v_iadd dX1_doorIsDue_66 ?_
    refine v_aload_n 0 dX1_doorIsDue_67 rfl rfl ?_
    refine v_getr 6 g_X1_9 yX_90 (by decide) rfl dX1_doorIsDue_68 ?_
    refine v_geti g_X1_80 yX_6 (by decide) rfl dX1_doorIsDue_71 ?_
    refine v_icmp_ne 81 dX1_doorIsDue_74 (by decide) h (fun h => ?_) (fun h => ?_)
    · refine v_iconst (0 : Int32) dX1_doorIsDue_81 (by decide) ?_
      refine v_lw [none, none, none] rfl trivial ?_
      exact t_X1_doorIsDue_82 hI (0 : Int32) s3 _ h ho
    · refine v_lw [none, none, none] rfl trivial ?_
      exact t_X1_doorIsDue_77 hI s3 _ h ho
def f_X1_doorIsDue_51 (v1 : Int32) (s : fm_M) : Option (Int32 × fm_M) :=
  f_X1_doorIsDue_52 v1 (0 : Int32) s
set_option maxHeartbeats 4000000 in
theorem t_X1_doorIsDue_51 {w : fm_W} {l : Launch} {o : fm_O} (hI : fm_I w 105) (v1 : Int32) (s : fm_M) (z : Int32 × fm_M) (h : f_X1_doorIsDue_51 v1 s = some z) (ho : ∀ (r : Int32) (s : fm_M), z = (r, s) → o = (some (.int r), s)) : fm_V w layX 105 l rm_X1_doorIsDue cX1_doorIsDue 3 RX1 (some .boolean) o 51 [some (.ref (fm_ad w 90)), some (.int v1), none] [] s := by
  unfold f_X1_doorIsDue_51 at h
  refine v_iconst (0 : Int32) dX1_doorIsDue_51 (by decide) ?_
  refine v_lw [some (.ref (fm_ad w 90)), some (.int v1), none] rfl ⟨rfl, rfl, trivial⟩ ?_
  exact t_X1_doorIsDue_52 hI v1 (0 : Int32) s _ h ho
def f_X1_doorIsDue (s : fm_M) : Option (Int32 × fm_M) :=
  fm_bd (f_X2_countChildren 91 (2 : Int32) s) (fun r1 s1 => if r1 = 0 then f_X1_doorIsDue_24 s1 else fm_bd (f_X2_countWomen 91 (0 : Int32) s1) (fun r2 s2 => if r2 = 0 then f_X1_doorIsDue_24 s2 else if r1 < (s2 6 5) then f_X1_doorIsDue_51 r1 s2 else fm_bd (f_X2_oneWomanLeft 91 s2) (fun r4 s4 => if r4 = 0 then f_X1_doorIsDue_52 r1 (1 : Int32) s4 else f_X1_doorIsDue_51 r1 s4)))
set_option maxHeartbeats 4000000 in
theorem e_X1_doorIsDue {w : fm_W} {l : Launch} {o : fm_O} (hI : fm_I w 105) (s : fm_M) (z : Int32 × fm_M) (h : f_X1_doorIsDue s = some z) (ho : ∀ (r : Int32) (s : fm_M), z = (r, s) → o = (some (.int r), s)) : fm_V w layX 105 l rm_X1_doorIsDue cX1_doorIsDue 3 RX1 (some .boolean) o 0 [some (.ref (fm_ad w 90)), none, none] [] s := by
  unfold f_X1_doorIsDue at h
  refine v_aload_n 0 dX1_doorIsDue_0 rfl rfl ?_
  refine v_getr 91 g_X1_20 yX_90 (by decide) rfl dX1_doorIsDue_1 ?_
  refine v_iconst (2 : Int32) dX1_doorIsDue_4 (by decide) ?_
  obtain ⟨r1, s1, h1, h⟩ := fm_bds h
  refine v_cVi [.int (2 : Int32)] [] l_X1_68 (c_X2_countChildren hI isH_91 h1) yX_91 (by decide) rfl rfl ⟨rfl, rfl, by decide, by decide⟩ (Nat.le_of_ble_eq_true rfl) dX1_doorIsDue_5 ?_
  refine v_istore_n (lv' := [some (.ref (fm_ad w 90)), some (.int r1), none]) 1 dX1_doorIsDue_8 rfl (by decide) rfl rfl ?_
  refine v_iload_n 1 dX1_doorIsDue_9 rfl rfl ?_
  refine v_if_eq 24 dX1_doorIsDue_10 (by decide) h (fun h => ?_) (fun h => ?_)
  · refine v_lw [none, none, none] rfl trivial ?_
    exact t_X1_doorIsDue_24 hI s1 _ h ho
  · refine v_aload_n 0 dX1_doorIsDue_13 rfl rfl ?_
    refine v_getr 91 g_X1_20 yX_90 (by decide) rfl dX1_doorIsDue_14 ?_
    refine v_iconst (0 : Int32) dX1_doorIsDue_17 (by decide) ?_
    obtain ⟨r2, s2, h2, h⟩ := fm_bds h
    refine v_cVi [.int (0 : Int32)] [] l_X1_71 (c_X2_countWomen hI isH_91 h2) yX_91 (by decide) rfl rfl ⟨rfl, rfl, by decide, by decide⟩ (Nat.le_of_ble_eq_true rfl) dX1_doorIsDue_18 ?_
    refine v_if_ne 26 dX1_doorIsDue_21 (by decide) h (fun h => ?_) (fun h => ?_)
    · refine v_iload_n 1 dX1_doorIsDue_26 rfl rfl ?_
      refine v_aload_n 0 dX1_doorIsDue_27 rfl rfl ?_
      refine v_getr 6 g_X1_9 yX_90 (by decide) rfl dX1_doorIsDue_28 ?_
      refine v_geti g_X1_74 yX_6 (by decide) rfl dX1_doorIsDue_31 ?_
      refine v_icmp_lt 51 dX1_doorIsDue_34 (by decide) h (fun h => ?_) (fun h => ?_)
      · refine v_lw [some (.ref (fm_ad w 90)), some (.int r1), none] rfl ⟨rfl, rfl, trivial⟩ ?_
        exact t_X1_doorIsDue_51 hI r1 s2 _ h ho
      · refine v_aload_n 0 dX1_doorIsDue_37 rfl rfl ?_
        refine v_getr 91 g_X1_20 yX_90 (by decide) rfl dX1_doorIsDue_38 ?_
        obtain ⟨r4, s4, h4, h⟩ := fm_bds h
        refine v_cVi [] [] l_X1_77 (c_X2_oneWomanLeft hI isH_91 h4) yX_91 (by decide) rfl rfl ⟨rfl, rfl, by decide, by decide⟩ (Nat.le_of_ble_eq_true rfl) dX1_doorIsDue_41 ?_
        refine v_if_ne 51 dX1_doorIsDue_44 (by decide) h (fun h => ?_) (fun h => ?_)
        · refine v_lw [some (.ref (fm_ad w 90)), some (.int r1), none] rfl ⟨rfl, rfl, trivial⟩ ?_
          exact t_X1_doorIsDue_51 hI r1 s4 _ h ho
        · refine v_iconst (1 : Int32) dX1_doorIsDue_47 (by decide) ?_
          refine v_goto 52 dX1_doorIsDue_48 (by decide) ?_
          refine v_lw [some (.ref (fm_ad w 90)), some (.int r1), none] rfl ⟨rfl, rfl, trivial⟩ ?_
          exact t_X1_doorIsDue_52 hI r1 (1 : Int32) s4 _ h ho
    · refine v_lw [none, none, none] rfl trivial ?_
      exact t_X1_doorIsDue_24 hI s2 _ h ho
theorem c_X1_doorIsDue {w : fm_W} {l : Launch} (hI : fm_I w 105) {s : fm_M} {r : Int32} {s2 : fm_M} (h : f_X1_doorIsDue s = some (r, s2)) : fm_C w layX 105 l yX1_doorIsDue cX1_doorIsDue 3 (some .boolean) rm_X1_doorIsDue [.ref (fm_ad w 90)] s (some (.int r), s2) :=
  fm_of hI (by decide) rfl (Nat.le_of_ble_eq_true rfl) (e_X1_doorIsDue hI s _ h (fun r s e => by cases e; rfl))
-- X1_draw
abbrev rm_X1_draw : Room := { frames := 0, cells := 0, slots := 0, locals := 0 }
def f_X1_draw (v0 : Int32) (v1 : Int32) (s : fm_M) : Option (Int32 × fm_M) :=
  some ((((((((7919 : Int64) * v0.toInt64) + ((6151 : Int64) * v1.toInt64)) + (1 : Int64)) * ((((7919 : Int64) * v0.toInt64) + ((6151 : Int64) * v1.toInt64)) + (1 : Int64))) - (((((7919 : Int64) * v0.toInt64) + ((6151 : Int64) * v1.toInt64)) + (1 : Int64)) * ((((7919 : Int64) * v0.toInt64) + ((6151 : Int64) * v1.toInt64)) + (1 : Int64))) / (65521 : Int64) * (65521 : Int64)) / (2 : Int64)).toInt32, s)
set_option maxHeartbeats 4000000 in
theorem e_X1_draw {w : fm_W} {l : Launch} {o : fm_O} (hI : fm_I w 105) (v0 : Int32) (v1 : Int32) (s : fm_M) (z : Int32 × fm_M) (h : f_X1_draw v0 v1 s = some z) (ho : ∀ (r : Int32) (s : fm_M), z = (r, s) → o = (some (.int r), s)) : fm_V w layX 105 l rm_X1_draw cX1_draw 4 RX1 (some .int) o 0 [some (.int v0), some (.int v1), none, none] [] s := by
  unfold f_X1_draw at h
  refine v_ldc2 k_X1_107 dX1_draw_0 ?_
  refine v_iload_n 0 dX1_draw_3 rfl rfl ?_
  refine v_i2l dX1_draw_4 ?_
  refine v_lmul dX1_draw_5 ?_
  refine v_ldc2 k_X1_109 dX1_draw_6 ?_
  refine v_iload_n 1 dX1_draw_9 rfl rfl ?_
  refine v_i2l dX1_draw_10 ?_
  refine v_lmul dX1_draw_11 ?_
  refine v_ladd dX1_draw_12 ?_
  refine v_lconst (1 : Int64) dX1_draw_13 (by decide) ?_
  refine v_ladd dX1_draw_14 ?_
  refine v_lstore_n (lv' := [some (.int v0), some (.int v1), some (.long ((((7919 : Int64) * v0.toInt64) + ((6151 : Int64) * v1.toInt64)) + (1 : Int64))), none]) 2 dX1_draw_15 rfl (by decide) rfl rfl ?_
  refine v_lload_n 2 dX1_draw_16 rfl rfl ?_
  refine v_lload_n 2 dX1_draw_17 rfl rfl ?_
  refine v_lmul dX1_draw_18 ?_
  refine v_ldc2 k_X1_111 dX1_draw_19 ?_
  refine v_lrem dX1_draw_22 (by decide) ?_
  refine v_ldc2 k_X1_113 dX1_draw_23 ?_
  refine v_ldiv dX1_draw_26 (by decide) ?_
  refine v_l2i dX1_draw_27 ?_
  exact v_iret rfl (ho _ _ (Option.some.inj h).symm) dX1_draw_28
theorem c_X1_draw {w : fm_W} {l : Launch} (hI : fm_I w 105) {v0 : Int32} {v1 : Int32} {s : fm_M} {r : Int32} {s2 : fm_M} (h : f_X1_draw v0 v1 s = some (r, s2)) : fm_C w layX 105 l yX1_draw cX1_draw 4 (some .int) rm_X1_draw [.int v0, .int v1] s (some (.int r), s2) :=
  fm_of hI (by decide) rfl (Nat.le_of_ble_eq_true rfl) (e_X1_draw hI v0 v1 s _ h (fun r s e => by cases e; rfl))
-- X1_firstBare
abbrev rm_X1_firstBare : Room := { frames := 1, cells := 0, slots := 0, locals := 21 }
def f_X1_firstBare_2 (row : Nat) (s : fm_M) (v2 : Int32) : Option ((fm_M × Int32) ⊕ ((Int32 × fm_M) ⊕ (fm_M × Int32))) :=
  if (6 : Int32) ≤ v2 then some (.inr (.inr (s, v2))) else if fm_in v2 6 = true then fm_bd (f_X2_isBare 91 (s row v2.toNatClampNeg) s) (fun r1 s1 => if r1 = 0 then some (.inl (s1, (v2 + (1 : Int32)))) else if fm_in v2 6 = true then some (.inr (.inl ((s1 row v2.toNatClampNeg), s1))) else none) else none
set_option maxHeartbeats 4000000 in
theorem t_X1_firstBare_2 {w : fm_W} {l : Launch} {o : fm_O} (hI : fm_I w 105) {row : Nat} (hrow : fm_rd layX 105 row 6) (s : fm_M) (v2 : Int32) (z : (fm_M × Int32) ⊕ ((Int32 × fm_M) ⊕ (fm_M × Int32))) (h : f_X1_firstBare_2 row s v2 = some z) (kb : ∀ (s : fm_M) (u2 : Int32), z = .inl (s, u2) → fm_V w layX 105 l rm_X1_firstBare cX1_firstBare 3 RX1 (some .int) o 2 [some (.ref (fm_ad w 90)), some (.ref (fm_ad w row)), some (.int u2)] [] s) (ke : ∀ (s : fm_M) (u2 : Int32), z = .inr (.inr (s, u2)) → fm_V w layX 105 l rm_X1_firstBare cX1_firstBare 3 RX1 (some .int) o 31 [some (.ref (fm_ad w 90)), some (.ref (fm_ad w row)), some (.int u2)] [] s) (kr : ∀ (r : Int32) (s : fm_M), z = .inr (.inl (r, s)) → o = (some (.int r), s)) : fm_V w layX 105 l rm_X1_firstBare cX1_firstBare 3 RX1 (some .int) o 2 [some (.ref (fm_ad w 90)), some (.ref (fm_ad w row)), some (.int v2)] [] s := by
  unfold f_X1_firstBare_2 at h
  refine v_iload_n 2 dX1_firstBare_2 rfl rfl ?_
  refine v_aload_n 1 dX1_firstBare_3 rfl rfl ?_
  refine v_alen (6 : Int32) hrow (by decide) dX1_firstBare_4 ?_
  refine v_icmp_ge 31 dX1_firstBare_5 (by decide) h (fun h => ?_) (fun h => ?_)
  · refine v_lw [some (.ref (fm_ad w 90)), some (.ref (fm_ad w row)), some (.int v2)] rfl ⟨rfl, rfl, rfl, trivial⟩ ?_
    exact ke _ _ (Option.some.inj h).symm
  · refine v_aload_n 0 dX1_firstBare_8 rfl rfl ?_
    refine v_getr 91 g_X1_20 yX_90 (by decide) rfl dX1_firstBare_9 ?_
    refine v_aload_n 1 dX1_firstBare_12 rfl rfl ?_
    refine v_iload_n 2 dX1_firstBare_13 rfl rfl ?_
    obtain ⟨hi, h⟩ := fm_ift h
    refine v_iald hrow hi dX1_firstBare_14 ?_
    obtain ⟨r1, s1, h1, h⟩ := fm_bds h
    refine v_cVi [.int (s row v2.toNatClampNeg)] [] l_X1_98 (c_X2_isBare hI isH_91 h1) yX_91 (by decide) rfl rfl ⟨rfl, rfl, by decide, by decide⟩ (Nat.le_of_ble_eq_true rfl) dX1_firstBare_15 ?_
    refine v_if_eq 25 dX1_firstBare_18 (by decide) h (fun h => ?_) (fun h => ?_)
    · refine v_iinc (lv' := [some (.ref (fm_ad w 90)), some (.ref (fm_ad w row)), some (.int (v2 + (1 : Int32)))]) (1 : Int32) dX1_firstBare_25 rfl (by decide) (by decide) rfl rfl ?_
      refine v_goto 2 dX1_firstBare_28 (by decide) ?_
      refine v_lw [some (.ref (fm_ad w 90)), some (.ref (fm_ad w row)), some (.int (v2 + (1 : Int32)))] rfl ⟨rfl, rfl, rfl, trivial⟩ ?_
      exact kb _ _ (Option.some.inj h).symm
    · refine v_aload_n 1 dX1_firstBare_21 rfl rfl ?_
      refine v_iload_n 2 dX1_firstBare_22 rfl rfl ?_
      obtain ⟨hi, h⟩ := fm_ift h
      refine v_iald hrow hi dX1_firstBare_23 ?_
      exact v_iret rfl (kr _ _ (Option.some.inj h).symm) dX1_firstBare_24
set_option maxHeartbeats 4000000 in
theorem i_X1_firstBare_2 {w : fm_W} {l : Launch} {o : fm_O} (hI : fm_I w 105) {row : Nat} (hrow : fm_rd layX 105 row 6) (n : Nat) (s : fm_M) (v2 : Int32) (q : (Int32 × fm_M) ⊕ (fm_M × Int32)) (h : fm_it (fun s => f_X1_firstBare_2 row s.1 s.2) n (s, v2) = some q) (kr : ∀ (r : Int32) (s : fm_M), q = .inl (r, s) → o = (some (.int r), s)) (ke : ∀ (s : fm_M) (u2 : Int32), q = .inr (s, u2) → fm_V w layX 105 l rm_X1_firstBare cX1_firstBare 3 RX1 (some .int) o 31 [some (.ref (fm_ad w 90)), some (.ref (fm_ad w row)), some (.int u2)] [] s) : fm_V w layX 105 l rm_X1_firstBare cX1_firstBare 3 RX1 (some .int) o 2 [some (.ref (fm_ad w 90)), some (.ref (fm_ad w row)), some (.int v2)] [] s :=
  fm_it_loop (body := (fun s => f_X1_firstBare_2 row s.1 s.2)) (P := fun s => fm_V w layX 105 l rm_X1_firstBare cX1_firstBare 3 RX1 (some .int) o 2 [some (.ref (fm_ad w 90)), some (.ref (fm_ad w row)), some (.int s.2)] [] s.1) (K := (fun q : (Int32 × fm_M) ⊕ (fm_M × Int32) => (∀ (r : Int32) (s : fm_M), q = .inl (r, s) → o = (some (.int r), s)) ∧ (∀ (s : fm_M) (u2 : Int32), q = .inr (s, u2) → fm_V w layX 105 l rm_X1_firstBare cX1_firstBare 3 RX1 (some .int) o 31 [some (.ref (fm_ad w 90)), some (.ref (fm_ad w row)), some (.int u2)] [] s))) (fun s z hb kl kx => t_X1_firstBare_2 hI hrow s.1 s.2 z hb (fun s u2 e => kl _ e) (fun s u2 e => (kx _ e).2 s u2 rfl) (fun r s e => (kx _ e).1 r s rfl)) n (s, v2) q h ⟨kr, ke⟩
def f_X1_firstBare (row : Nat) (s : fm_M) : Option (Int32 × fm_M) :=
  fm_op (fm_it (fun (yy : fm_M × Int32) => f_X1_firstBare_2 row yy.1 yy.2) fm_fu (s, (0 : Int32))) (fun q2 => Sum.elim (fun r => some r) (fun t2 => ((fun (s2 : fm_M) (x2_2 : Int32) => some ((-4 : Int32), s2))) t2.1 t2.2) q2)
set_option maxHeartbeats 4000000 in
theorem e_X1_firstBare {w : fm_W} {l : Launch} {o : fm_O} (hI : fm_I w 105) {row : Nat} (hrow : fm_rd layX 105 row 6) (s : fm_M) (z : Int32 × fm_M) (h : f_X1_firstBare row s = some z) (ho : ∀ (r : Int32) (s : fm_M), z = (r, s) → o = (some (.int r), s)) : fm_V w layX 105 l rm_X1_firstBare cX1_firstBare 3 RX1 (some .int) o 0 [some (.ref (fm_ad w 90)), some (.ref (fm_ad w row)), none] [] s := by
  unfold f_X1_firstBare at h
  refine v_iconst (0 : Int32) dX1_firstBare_0 (by decide) ?_
  refine v_istore_n (lv' := [some (.ref (fm_ad w 90)), some (.ref (fm_ad w row)), some (.int (0 : Int32))]) 2 dX1_firstBare_1 rfl (by decide) rfl rfl ?_
  obtain ⟨q2, h2, h⟩ := fm_ops h
  refine v_lw [some (.ref (fm_ad w 90)), some (.ref (fm_ad w row)), some (.int (0 : Int32))] rfl ⟨rfl, rfl, rfl, trivial⟩ ?_
  refine i_X1_firstBare_2 hI hrow _ _ _ _ h2 (fun r s e => by subst e; exact ho r s (Option.some.inj h).symm) (fun s2 x2_2 e => ?_)
  subst e
  dsimp only [Sum.elim] at h
  refine v_bipush (-4 : Int32) dX1_firstBare_31 (by decide) ?_
  exact v_iret rfl (ho _ _ (Option.some.inj h).symm) dX1_firstBare_33
theorem c_X1_firstBare {w : fm_W} {l : Launch} (hI : fm_I w 105) {row : Nat} (hrow : fm_rd layX 105 row 6) {s : fm_M} {r : Int32} {s2 : fm_M} (h : f_X1_firstBare row s = some (r, s2)) : fm_C w layX 105 l yX1_firstBare cX1_firstBare 3 (some .int) rm_X1_firstBare [.ref (fm_ad w 90), .ref (fm_ad w row)] s (some (.int r), s2) :=
  fm_of hI (by decide) rfl (Nat.le_of_ble_eq_true rfl) (e_X1_firstBare hI hrow s _ h (fun r s e => by cases e; rfl))
-- X1_dressByRow
abbrev rm_X1_dressByRow : Room := { frames := 3, cells := 0, slots := 0, locals := 66 }
def f_X1_dressByRow_38 (row : Nat) (v2 : Int32) (s : fm_M) : Option ((fm_M × Int32) ⊕ (fm_M × Int32)) :=
  some (.inl (s, (v2 + (1 : Int32))))
set_option maxHeartbeats 4000000 in
theorem t_X1_dressByRow_38 {w : fm_W} {l : Launch} {o : fm_O} (hI : fm_I w 105) {row : Nat} (hrow : fm_rd layX 105 row 6) (v2 : Int32) (s : fm_M) (z : (fm_M × Int32) ⊕ (fm_M × Int32)) (h : f_X1_dressByRow_38 row v2 s = some z) (kb : ∀ (s : fm_M) (u2 : Int32), z = .inl (s, u2) → fm_V w layX 105 l rm_X1_dressByRow cX1_dressByRow 3 RX1 none o 2 [some (.ref (fm_ad w 90)), some (.ref (fm_ad w row)), some (.int u2)] [] s) (ke : ∀ (s : fm_M) (u2 : Int32), z = .inr (s, u2) → fm_V w layX 105 l rm_X1_dressByRow cX1_dressByRow 3 RX1 none o 44 [some (.ref (fm_ad w 90)), some (.ref (fm_ad w row)), some (.int u2)] [] s) : fm_V w layX 105 l rm_X1_dressByRow cX1_dressByRow 3 RX1 none o 38 [some (.ref (fm_ad w 90)), some (.ref (fm_ad w row)), some (.int v2)] [] s := by
  unfold f_X1_dressByRow_38 at h
  refine v_iinc (lv' := [some (.ref (fm_ad w 90)), some (.ref (fm_ad w row)), some (.int (v2 + (1 : Int32)))]) (1 : Int32) dX1_dressByRow_38 rfl (by decide) (by decide) rfl rfl ?_
  refine v_goto 2 dX1_dressByRow_41 (by decide) ?_
  refine v_lw [some (.ref (fm_ad w 90)), some (.ref (fm_ad w row)), some (.int (v2 + (1 : Int32)))] rfl ⟨rfl, rfl, rfl, trivial⟩ ?_
  exact kb _ _ (Option.some.inj h).symm
def f_X1_dressByRow_2 (row : Nat) (s : fm_M) (v2 : Int32) : Option ((fm_M × Int32) ⊕ (fm_M × Int32)) :=
  if (s 91 7) ≤ v2 then some (.inr (s, v2)) else fm_bd (f_X2_isFree 91 v2 s) (fun r1 s1 => if r1 = 0 then f_X1_dressByRow_38 row v2 s1 else fm_bd (f_X1_firstBare row s1) (fun r2 s2 => fm_bd (f_X2_dress 91 v2 r2 s2) (fun r3 s3 => f_X1_dressByRow_38 row v2 s3)))
set_option maxHeartbeats 4000000 in
theorem t_X1_dressByRow_2 {w : fm_W} {l : Launch} {o : fm_O} (hI : fm_I w 105) {row : Nat} (hrow : fm_rd layX 105 row 6) (s : fm_M) (v2 : Int32) (z : (fm_M × Int32) ⊕ (fm_M × Int32)) (h : f_X1_dressByRow_2 row s v2 = some z) (kb : ∀ (s : fm_M) (u2 : Int32), z = .inl (s, u2) → fm_V w layX 105 l rm_X1_dressByRow cX1_dressByRow 3 RX1 none o 2 [some (.ref (fm_ad w 90)), some (.ref (fm_ad w row)), some (.int u2)] [] s) (ke : ∀ (s : fm_M) (u2 : Int32), z = .inr (s, u2) → fm_V w layX 105 l rm_X1_dressByRow cX1_dressByRow 3 RX1 none o 44 [some (.ref (fm_ad w 90)), some (.ref (fm_ad w row)), some (.int u2)] [] s) : fm_V w layX 105 l rm_X1_dressByRow cX1_dressByRow 3 RX1 none o 2 [some (.ref (fm_ad w 90)), some (.ref (fm_ad w row)), some (.int v2)] [] s := by
  unfold f_X1_dressByRow_2 at h
  refine v_iload_n 2 dX1_dressByRow_2 rfl rfl ?_
  refine v_aload_n 0 dX1_dressByRow_3 rfl rfl ?_
  refine v_getr 91 g_X1_20 yX_90 (by decide) rfl dX1_dressByRow_4 ?_
  refine v_geti g_X1_83 yX_91 (by decide) rfl dX1_dressByRow_7 ?_
  refine v_icmp_ge 44 dX1_dressByRow_10 (by decide) h (fun h => ?_) (fun h => ?_)
  · refine v_lw [some (.ref (fm_ad w 90)), some (.ref (fm_ad w row)), some (.int v2)] rfl ⟨rfl, rfl, rfl, trivial⟩ ?_
    exact ke _ _ (Option.some.inj h).symm
  · refine v_aload_n 0 dX1_dressByRow_13 rfl rfl ?_
    refine v_getr 91 g_X1_20 yX_90 (by decide) rfl dX1_dressByRow_14 ?_
    refine v_iload_n 2 dX1_dressByRow_17 rfl rfl ?_
    obtain ⟨r1, s1, h1, h⟩ := fm_bds h
    refine v_cVi [.int v2] [] l_X1_86 (c_X2_isFree hI isH_91 h1) yX_91 (by decide) rfl rfl ⟨rfl, rfl, by decide, by decide⟩ (Nat.le_of_ble_eq_true rfl) dX1_dressByRow_18 ?_
    refine v_if_eq 38 dX1_dressByRow_21 (by decide) h (fun h => ?_) (fun h => ?_)
    · refine v_lw [some (.ref (fm_ad w 90)), some (.ref (fm_ad w row)), some (.int v2)] rfl ⟨rfl, rfl, rfl, trivial⟩ ?_
      exact t_X1_dressByRow_38 hI hrow v2 s1 _ h kb ke
    · refine v_aload_n 0 dX1_dressByRow_24 rfl rfl ?_
      refine v_getr 91 g_X1_20 yX_90 (by decide) rfl dX1_dressByRow_25 ?_
      refine v_iload_n 2 dX1_dressByRow_28 rfl rfl ?_
      refine v_aload_n 0 dX1_dressByRow_29 rfl rfl ?_
      refine v_aload_n 1 dX1_dressByRow_30 rfl rfl ?_
      obtain ⟨r2, s2, h2, h⟩ := fm_bds h
      refine v_cVi [.ref (fm_ad w row)] [.int v2, .ref (fm_ad w 91)] l_X1_90 (c_X1_firstBare hI hrow h2) yX_90 (by decide) rfl rfl ⟨rfl, rfl, by decide, by decide⟩ (Nat.le_of_ble_eq_true rfl) dX1_dressByRow_31 ?_
      obtain ⟨r3, s3, h3, h⟩ := fm_bds h
      refine v_cVi [.int v2, .int r2] [] l_X1_94 (c_X2_dress hI isH_91 h3) yX_91 (by decide) rfl rfl ⟨rfl, rfl, by decide, by decide⟩ (Nat.le_of_ble_eq_true rfl) dX1_dressByRow_34 ?_
      refine v_pop dX1_dressByRow_37 rfl ?_
      refine v_lw [some (.ref (fm_ad w 90)), some (.ref (fm_ad w row)), some (.int v2)] rfl ⟨rfl, rfl, rfl, trivial⟩ ?_
      exact t_X1_dressByRow_38 hI hrow v2 s3 _ h kb ke
set_option maxHeartbeats 4000000 in
theorem i_X1_dressByRow_2 {w : fm_W} {l : Launch} {o : fm_O} (hI : fm_I w 105) {row : Nat} (hrow : fm_rd layX 105 row 6) (n : Nat) (s : fm_M) (v2 : Int32) (q : fm_M × Int32) (h : fm_it (fun s => f_X1_dressByRow_2 row s.1 s.2) n (s, v2) = some q) (ke : ∀ (s : fm_M) (u2 : Int32), q = (s, u2) → fm_V w layX 105 l rm_X1_dressByRow cX1_dressByRow 3 RX1 none o 44 [some (.ref (fm_ad w 90)), some (.ref (fm_ad w row)), some (.int u2)] [] s) : fm_V w layX 105 l rm_X1_dressByRow cX1_dressByRow 3 RX1 none o 2 [some (.ref (fm_ad w 90)), some (.ref (fm_ad w row)), some (.int v2)] [] s :=
  fm_it_loop (body := (fun s => f_X1_dressByRow_2 row s.1 s.2)) (P := fun s => fm_V w layX 105 l rm_X1_dressByRow cX1_dressByRow 3 RX1 none o 2 [some (.ref (fm_ad w 90)), some (.ref (fm_ad w row)), some (.int s.2)] [] s.1) (K := (fun q : fm_M × Int32 => (∀ (s : fm_M) (u2 : Int32), q = (s, u2) → fm_V w layX 105 l rm_X1_dressByRow cX1_dressByRow 3 RX1 none o 44 [some (.ref (fm_ad w 90)), some (.ref (fm_ad w row)), some (.int u2)] [] s))) (fun s z hb kl kx => t_X1_dressByRow_2 hI hrow s.1 s.2 z hb (fun s u2 e => kl _ e) (fun s u2 e => (kx _ e) s u2 rfl)) n (s, v2) q h ke
def f_X1_dressByRow (row : Nat) (s : fm_M) : Option (Int32 × fm_M) :=
  fm_op (fm_it (fun (yy : fm_M × Int32) => f_X1_dressByRow_2 row yy.1 yy.2) fm_fu (s, (0 : Int32))) (fun q4 => ((fun (s4 : fm_M) (x4_2 : Int32) => some (0, s4))) q4.1 q4.2)
set_option maxHeartbeats 4000000 in
theorem e_X1_dressByRow {w : fm_W} {l : Launch} {o : fm_O} (hI : fm_I w 105) {row : Nat} (hrow : fm_rd layX 105 row 6) (s : fm_M) (z : Int32 × fm_M) (h : f_X1_dressByRow row s = some z) (ho : ∀ (r : Int32) (s : fm_M), z = (r, s) → o = (none, s)) : fm_V w layX 105 l rm_X1_dressByRow cX1_dressByRow 3 RX1 none o 0 [some (.ref (fm_ad w 90)), some (.ref (fm_ad w row)), none] [] s := by
  unfold f_X1_dressByRow at h
  refine v_iconst (0 : Int32) dX1_dressByRow_0 (by decide) ?_
  refine v_istore_n (lv' := [some (.ref (fm_ad w 90)), some (.ref (fm_ad w row)), some (.int (0 : Int32))]) 2 dX1_dressByRow_1 rfl (by decide) rfl rfl ?_
  obtain ⟨q4, h4, h⟩ := fm_ops h
  refine v_lw [some (.ref (fm_ad w 90)), some (.ref (fm_ad w row)), some (.int (0 : Int32))] rfl ⟨rfl, rfl, rfl, trivial⟩ ?_
  refine i_X1_dressByRow_2 hI hrow _ _ _ _ h4 (fun s4 x4_2 e => ?_)
  subst e
  dsimp only at h
  exact v_vret rfl (ho _ _ (Option.some.inj h).symm) dX1_dressByRow_44
theorem c_X1_dressByRow {w : fm_W} {l : Launch} (hI : fm_I w 105) {row : Nat} (hrow : fm_rd layX 105 row 6) {s : fm_M} {r : Int32} {s2 : fm_M} (h : f_X1_dressByRow row s = some (r, s2)) : fm_C w layX 105 l yX1_dressByRow cX1_dressByRow 3 none rm_X1_dressByRow [.ref (fm_ad w 90), .ref (fm_ad w row)] s (none, s2) :=
  fm_of hI (by decide) rfl (Nat.le_of_ble_eq_true rfl) (e_X1_dressByRow hI hrow s _ h (fun r s e => by cases e; rfl))
-- X1_goByDraws
abbrev rm_X1_goByDraws : Room := { frames := 4, cells := 0, slots := 0, locals := 84 }
def f_X1_goByDraws_89 (v1 : Int32) (v2 : Int32) (v3 : Int32) (s : fm_M) : Option ((fm_M × Int32) ⊕ (fm_M × Int32)) :=
  fm_bd (f_X2_goMinute 91 s) (fun r2 s2 => some (.inl ((fm_up s2 90 3 ((s 90 3) + r2)), (v3 + (1 : Int32)))))
set_option maxHeartbeats 4000000 in
theorem t_X1_goByDraws_89 {w : fm_W} {l : Launch} {o : fm_O} (hI : fm_I w 105) (v1 : Int32) (v2 : Int32) (v3 : Int32) (s : fm_M) (z : (fm_M × Int32) ⊕ (fm_M × Int32)) (h : f_X1_goByDraws_89 v1 v2 v3 s = some z) (kb : ∀ (s : fm_M) (u3 : Int32), z = .inl (s, u3) → fm_V w layX 105 l rm_X1_goByDraws cX1_goByDraws 5 RX1 none o 7 [some (.ref (fm_ad w 90)), some (.int v1), some (.int v2), some (.int u3), none] [] s) (ke : ∀ (s : fm_M) (u3 : Int32), z = .inr (s, u3) → fm_V w layX 105 l rm_X1_goByDraws cX1_goByDraws 5 RX1 none o 111 [some (.ref (fm_ad w 90)), some (.int v1), some (.int v2), some (.int u3), none] [] s) : fm_V w layX 105 l rm_X1_goByDraws cX1_goByDraws 5 RX1 none o 89 [some (.ref (fm_ad w 90)), some (.int v1), some (.int v2), some (.int v3), none] [] s := by
  unfold f_X1_goByDraws_89 at h
  refine v_aload_n 0 dX1_goByDraws_89 rfl rfl ?_
  refine v_dup dX1_goByDraws_90 rfl ?_
  refine v_geti g_X1_37 yX_90 (by decide) rfl dX1_goByDraws_91 ?_
  refine v_aload_n 0 dX1_goByDraws_94 rfl rfl ?_
  refine v_getr 91 g_X1_20 yX_90 (by decide) rfl dX1_goByDraws_95 ?_
  obtain ⟨r2, s2, h2, h⟩ := fm_bds h
  refine v_cVi [] [.int (s 90 3), .ref (fm_ad w 90)] l_X1_54 (c_X2_goMinute hI isH_91 h2) yX_91 (by decide) rfl rfl ⟨rfl, rfl, by decide, by decide⟩ (Nat.le_of_ble_eq_true rfl) dX1_goByDraws_98 ?_
  refine v_iadd dX1_goByDraws_101 ?_
  refine v_put p_X1_37 yX_90 (by decide) rfl ⟨rfl, rfl⟩ dX1_goByDraws_102 ?_
  refine v_iinc (lv' := [some (.ref (fm_ad w 90)), some (.int v1), some (.int v2), some (.int (v3 + (1 : Int32))), none]) (1 : Int32) dX1_goByDraws_105 rfl (by decide) (by decide) rfl rfl ?_
  refine v_goto 7 dX1_goByDraws_108 (by decide) ?_
  refine v_lw [some (.ref (fm_ad w 90)), some (.int v1), some (.int v2), some (.int (v3 + (1 : Int32))), none] rfl ⟨rfl, rfl, rfl, rfl, trivial⟩ ?_
  exact kb _ _ (Option.some.inj h).symm
def f_X1_goByDraws_54 (v1 : Int32) (v2 : Int32) (v3 : Int32) (v4 : Int32) (s : fm_M) : Option ((fm_M × Int32) ⊕ (fm_M × Int32)) :=
  if ((v4 / (8 : Int32)) - (v4 / (8 : Int32)) / (3 : Int32) * (3 : Int32)) = 0 then fm_bd (f_X2_oneWomanLeft 91 s) (fun r3 s3 => if r3 = 0 then fm_bd (f_X2_highestFree 91 s3) (fun r4 s4 => fm_bd (f_X2_openDoor 91 r4 s4) (fun r5 s5 => f_X1_goByDraws_89 v1 v2 v3 s5)) else f_X1_goByDraws_89 v1 v2 v3 s3) else f_X1_goByDraws_89 v1 v2 v3 s
set_option maxHeartbeats 4000000 in
theorem t_X1_goByDraws_54 {w : fm_W} {l : Launch} {o : fm_O} (hI : fm_I w 105) (v1 : Int32) (v2 : Int32) (v3 : Int32) (v4 : Int32) (s : fm_M) (z : (fm_M × Int32) ⊕ (fm_M × Int32)) (h : f_X1_goByDraws_54 v1 v2 v3 v4 s = some z) (kb : ∀ (s : fm_M) (u3 : Int32), z = .inl (s, u3) → fm_V w layX 105 l rm_X1_goByDraws cX1_goByDraws 5 RX1 none o 7 [some (.ref (fm_ad w 90)), some (.int v1), some (.int v2), some (.int u3), none] [] s) (ke : ∀ (s : fm_M) (u3 : Int32), z = .inr (s, u3) → fm_V w layX 105 l rm_X1_goByDraws cX1_goByDraws 5 RX1 none o 111 [some (.ref (fm_ad w 90)), some (.int v1), some (.int v2), some (.int u3), none] [] s) : fm_V w layX 105 l rm_X1_goByDraws cX1_goByDraws 5 RX1 none o 54 [some (.ref (fm_ad w 90)), some (.int v1), some (.int v2), some (.int v3), some (.int v4)] [] s := by
  unfold f_X1_goByDraws_54 at h
  refine v_iload dX1_goByDraws_54 rfl ?_
  refine v_bipush (8 : Int32) dX1_goByDraws_56 (by decide) ?_
  refine v_idiv dX1_goByDraws_58 (by decide) ?_
  refine v_iconst (3 : Int32) dX1_goByDraws_59 (by decide) ?_
  refine v_irem dX1_goByDraws_60 (by decide) ?_
  refine v_if_ne 89 dX1_goByDraws_61 (by decide) h (fun h => ?_) (fun h => ?_)
  · refine v_lw [some (.ref (fm_ad w 90)), some (.int v1), some (.int v2), some (.int v3), none] rfl ⟨rfl, rfl, rfl, rfl, trivial⟩ ?_
    exact t_X1_goByDraws_89 hI v1 v2 v3 s _ h kb ke
  · refine v_aload_n 0 dX1_goByDraws_64 rfl rfl ?_
    refine v_getr 91 g_X1_20 yX_90 (by decide) rfl dX1_goByDraws_65 ?_
    obtain ⟨r3, s3, h3, h⟩ := fm_bds h
    refine v_cVi [] [] l_X1_77 (c_X2_oneWomanLeft hI isH_91 h3) yX_91 (by decide) rfl rfl ⟨rfl, rfl, by decide, by decide⟩ (Nat.le_of_ble_eq_true rfl) dX1_goByDraws_68 ?_
    refine v_if_ne 89 dX1_goByDraws_71 (by decide) h (fun h => ?_) (fun h => ?_)
    · refine v_lw [some (.ref (fm_ad w 90)), some (.int v1), some (.int v2), some (.int v3), none] rfl ⟨rfl, rfl, rfl, rfl, trivial⟩ ?_
      exact t_X1_goByDraws_89 hI v1 v2 v3 s3 _ h kb ke
    · refine v_aload_n 0 dX1_goByDraws_74 rfl rfl ?_
      refine v_getr 91 g_X1_20 yX_90 (by decide) rfl dX1_goByDraws_75 ?_
      refine v_aload_n 0 dX1_goByDraws_78 rfl rfl ?_
      refine v_getr 91 g_X1_20 yX_90 (by decide) rfl dX1_goByDraws_79 ?_
      obtain ⟨r4, s4, h4, h⟩ := fm_bds h
      refine v_cVi [] [.ref (fm_ad w 91)] l_X1_61 (c_X2_highestFree hI isH_91 h4) yX_91 (by decide) rfl rfl ⟨rfl, rfl, by decide, by decide⟩ (Nat.le_of_ble_eq_true rfl) dX1_goByDraws_82 ?_
      obtain ⟨r5, s5, h5, h⟩ := fm_bds h
      refine v_cVi [.int r4] [] l_X1_64 (c_X2_openDoor hI isH_91 h5) yX_91 (by decide) rfl rfl ⟨rfl, rfl, by decide, by decide⟩ (Nat.le_of_ble_eq_true rfl) dX1_goByDraws_85 ?_
      refine v_pop dX1_goByDraws_88 rfl ?_
      refine v_lw [some (.ref (fm_ad w 90)), some (.int v1), some (.int v2), some (.int v3), none] rfl ⟨rfl, rfl, rfl, rfl, trivial⟩ ?_
      exact t_X1_goByDraws_89 hI v1 v2 v3 s5 _ h kb ke
def f_X1_goByDraws_7 (v1 : Int32) (v2 : Int32) (s : fm_M) (v3 : Int32) : Option ((fm_M × Int32) ⊕ (fm_M × Int32)) :=
  if v2 ≤ v3 then some (.inr (s, v3)) else fm_bd (f_X1_draw v1 v3 s) (fun r1 s1 => if (s1 6 2) ≤ 0 then f_X1_goByDraws_54 v1 v2 v3 r1 s1 else fm_bd (f_X2_lowestFree 91 s1) (fun r6 s6 => if (s6 6 2) = 0 then none else fm_bd (f_X2_dress 91 r6 (r1 - r1 / (s6 6 2) * (s6 6 2)) s6) (fun r7 s7 => f_X1_goByDraws_54 v1 v2 v3 r1 s7)))
set_option maxHeartbeats 4000000 in
theorem t_X1_goByDraws_7 {w : fm_W} {l : Launch} {o : fm_O} (hI : fm_I w 105) (v1 : Int32) (v2 : Int32) (s : fm_M) (v3 : Int32) (z : (fm_M × Int32) ⊕ (fm_M × Int32)) (h : f_X1_goByDraws_7 v1 v2 s v3 = some z) (kb : ∀ (s : fm_M) (u3 : Int32), z = .inl (s, u3) → fm_V w layX 105 l rm_X1_goByDraws cX1_goByDraws 5 RX1 none o 7 [some (.ref (fm_ad w 90)), some (.int v1), some (.int v2), some (.int u3), none] [] s) (ke : ∀ (s : fm_M) (u3 : Int32), z = .inr (s, u3) → fm_V w layX 105 l rm_X1_goByDraws cX1_goByDraws 5 RX1 none o 111 [some (.ref (fm_ad w 90)), some (.int v1), some (.int v2), some (.int u3), none] [] s) : fm_V w layX 105 l rm_X1_goByDraws cX1_goByDraws 5 RX1 none o 7 [some (.ref (fm_ad w 90)), some (.int v1), some (.int v2), some (.int v3), none] [] s := by
  unfold f_X1_goByDraws_7 at h
  refine v_iload_n 3 dX1_goByDraws_7 rfl rfl ?_
  refine v_iload_n 2 dX1_goByDraws_8 rfl rfl ?_
  refine v_icmp_ge 111 dX1_goByDraws_9 (by decide) h (fun h => ?_) (fun h => ?_)
  · refine v_lw [some (.ref (fm_ad w 90)), some (.int v1), some (.int v2), some (.int v3), none] rfl ⟨rfl, rfl, rfl, rfl, trivial⟩ ?_
    exact ke _ _ (Option.some.inj h).symm
  · refine v_iload_n 1 dX1_goByDraws_12 rfl rfl ?_
    refine v_iload_n 3 dX1_goByDraws_13 rfl rfl ?_
    obtain ⟨r1, s1, h1, h⟩ := fm_bds h
    refine v_cSi [.int v1, .int v3] [] l_X1_101 (c_X1_draw hI h1) rfl rfl ⟨rfl, rfl, by decide, by decide⟩ (Nat.le_of_ble_eq_true rfl) dX1_goByDraws_14 ?_
    refine v_istore (lv' := [some (.ref (fm_ad w 90)), some (.int v1), some (.int v2), some (.int v3), some (.int r1)]) dX1_goByDraws_17 (by decide) rfl rfl ?_
    refine v_aload_n 0 dX1_goByDraws_19 rfl rfl ?_
    refine v_getr 6 g_X1_9 yX_90 (by decide) rfl dX1_goByDraws_20 ?_
    refine v_geti g_X1_80 yX_6 (by decide) rfl dX1_goByDraws_23 ?_
    refine v_if_le 54 dX1_goByDraws_26 (by decide) h (fun h => ?_) (fun h => ?_)
    · refine v_lw [some (.ref (fm_ad w 90)), some (.int v1), some (.int v2), some (.int v3), some (.int r1)] rfl ⟨rfl, rfl, rfl, rfl, rfl, trivial⟩ ?_
      exact t_X1_goByDraws_54 hI v1 v2 v3 r1 s1 _ h kb ke
    · refine v_aload_n 0 dX1_goByDraws_29 rfl rfl ?_
      refine v_getr 91 g_X1_20 yX_90 (by decide) rfl dX1_goByDraws_30 ?_
      refine v_aload_n 0 dX1_goByDraws_33 rfl rfl ?_
      refine v_getr 91 g_X1_20 yX_90 (by decide) rfl dX1_goByDraws_34 ?_
      obtain ⟨r6, s6, h6, h⟩ := fm_bds h
      refine v_cVi [] [.ref (fm_ad w 91)] l_X1_104 (c_X2_lowestFree hI isH_91 h6) yX_91 (by decide) rfl rfl ⟨rfl, rfl, by decide, by decide⟩ (Nat.le_of_ble_eq_true rfl) dX1_goByDraws_37 ?_
      refine v_iload dX1_goByDraws_40 rfl ?_
      refine v_aload_n 0 dX1_goByDraws_42 rfl rfl ?_
      refine v_getr 6 g_X1_9 yX_90 (by decide) rfl dX1_goByDraws_43 ?_
      refine v_geti g_X1_80 yX_6 (by decide) rfl dX1_goByDraws_46 ?_
      obtain ⟨hz, h⟩ := fm_ifz h
      refine v_irem dX1_goByDraws_49 hz ?_
      obtain ⟨r7, s7, h7, h⟩ := fm_bds h
      refine v_cVi [.int r6, .int (r1 - r1 / (s6 6 2) * (s6 6 2))] [] l_X1_94 (c_X2_dress hI isH_91 h7) yX_91 (by decide) rfl rfl ⟨rfl, rfl, by decide, by decide⟩ (Nat.le_of_ble_eq_true rfl) dX1_goByDraws_50 ?_
      refine v_pop dX1_goByDraws_53 rfl ?_
      refine v_lw [some (.ref (fm_ad w 90)), some (.int v1), some (.int v2), some (.int v3), some (.int r1)] rfl ⟨rfl, rfl, rfl, rfl, rfl, trivial⟩ ?_
      exact t_X1_goByDraws_54 hI v1 v2 v3 r1 s7 _ h kb ke
set_option maxHeartbeats 4000000 in
theorem i_X1_goByDraws_7 {w : fm_W} {l : Launch} {o : fm_O} (hI : fm_I w 105) (v1 : Int32) (v2 : Int32) (n : Nat) (s : fm_M) (v3 : Int32) (q : fm_M × Int32) (h : fm_it (fun s => f_X1_goByDraws_7 v1 v2 s.1 s.2) n (s, v3) = some q) (ke : ∀ (s : fm_M) (u3 : Int32), q = (s, u3) → fm_V w layX 105 l rm_X1_goByDraws cX1_goByDraws 5 RX1 none o 111 [some (.ref (fm_ad w 90)), some (.int v1), some (.int v2), some (.int u3), none] [] s) : fm_V w layX 105 l rm_X1_goByDraws cX1_goByDraws 5 RX1 none o 7 [some (.ref (fm_ad w 90)), some (.int v1), some (.int v2), some (.int v3), none] [] s :=
  fm_it_loop (body := (fun s => f_X1_goByDraws_7 v1 v2 s.1 s.2)) (P := fun s => fm_V w layX 105 l rm_X1_goByDraws cX1_goByDraws 5 RX1 none o 7 [some (.ref (fm_ad w 90)), some (.int v1), some (.int v2), some (.int s.2), none] [] s.1) (K := (fun q : fm_M × Int32 => (∀ (s : fm_M) (u3 : Int32), q = (s, u3) → fm_V w layX 105 l rm_X1_goByDraws cX1_goByDraws 5 RX1 none o 111 [some (.ref (fm_ad w 90)), some (.int v1), some (.int v2), some (.int u3), none] [] s))) (fun s z hb kl kx => t_X1_goByDraws_7 hI v1 v2 s.1 s.2 z hb (fun s u3 e => kl _ e) (fun s u3 e => (kx _ e) s u3 rfl)) n (s, v3) q h ke
def f_X1_goByDraws (v1 : Int32) (v2 : Int32) (s : fm_M) : Option (Int32 × fm_M) :=
  fm_op (fm_it (fun (yy : fm_M × Int32) => f_X1_goByDraws_7 v1 v2 yy.1 yy.2) fm_fu ((fm_up s 90 3 (0 : Int32)), (0 : Int32))) (fun q8 => ((fun (s8 : fm_M) (x8_3 : Int32) => some (0, s8))) q8.1 q8.2)
set_option maxHeartbeats 4000000 in
theorem e_X1_goByDraws {w : fm_W} {l : Launch} {o : fm_O} (hI : fm_I w 105) (v1 : Int32) (v2 : Int32) (s : fm_M) (z : Int32 × fm_M) (h : f_X1_goByDraws v1 v2 s = some z) (ho : ∀ (r : Int32) (s : fm_M), z = (r, s) → o = (none, s)) : fm_V w layX 105 l rm_X1_goByDraws cX1_goByDraws 5 RX1 none o 0 [some (.ref (fm_ad w 90)), some (.int v1), some (.int v2), none, none] [] s := by
  unfold f_X1_goByDraws at h
  refine v_aload_n 0 dX1_goByDraws_0 rfl rfl ?_
  refine v_iconst (0 : Int32) dX1_goByDraws_1 (by decide) ?_
  refine v_put p_X1_37 yX_90 (by decide) rfl ⟨rfl, rfl⟩ dX1_goByDraws_2 ?_
  refine v_iconst (0 : Int32) dX1_goByDraws_5 (by decide) ?_
  refine v_istore_n (lv' := [some (.ref (fm_ad w 90)), some (.int v1), some (.int v2), some (.int (0 : Int32)), none]) 3 dX1_goByDraws_6 rfl (by decide) rfl rfl ?_
  obtain ⟨q8, h8, h⟩ := fm_ops h
  refine v_lw [some (.ref (fm_ad w 90)), some (.int v1), some (.int v2), some (.int (0 : Int32)), none] rfl ⟨rfl, rfl, rfl, rfl, trivial⟩ ?_
  refine i_X1_goByDraws_7 hI v1 v2 _ _ _ _ h8 (fun s8 x8_3 e => ?_)
  subst e
  dsimp only at h
  exact v_vret rfl (ho _ _ (Option.some.inj h).symm) dX1_goByDraws_111
theorem c_X1_goByDraws {w : fm_W} {l : Launch} (hI : fm_I w 105) {v1 : Int32} {v2 : Int32} {s : fm_M} {r : Int32} {s2 : fm_M} (h : f_X1_goByDraws v1 v2 s = some (r, s2)) : fm_C w layX 105 l yX1_goByDraws cX1_goByDraws 5 none rm_X1_goByDraws [.ref (fm_ad w 90), .int v1, .int v2] s (none, s2) :=
  fm_of hI (by decide) rfl (Nat.le_of_ble_eq_true rfl) (e_X1_goByDraws hI v1 v2 s _ h (fun r s e => by cases e; rfl))
-- X1_openDoors
abbrev rm_X1_openDoors : Room := { frames := 3, cells := 0, slots := 0, locals := 69 }
def f_X1_openDoors_2 (s : fm_M) (v1 : Int32) : Option ((fm_M × Int32) ⊕ (fm_M × Int32)) :=
  if (3 : Int32) ≤ v1 then some (.inr (s, v1)) else fm_bd (f_X1_doorIsDue s) (fun r1 s1 => if r1 = 0 then some (.inr (s1, v1)) else fm_bd (f_X2_highestFree 91 s1) (fun r2 s2 => fm_bd (f_X2_openDoor 91 r2 s2) (fun r3 s3 => some (.inl (s3, (v1 + (1 : Int32)))))))
set_option maxHeartbeats 4000000 in
theorem t_X1_openDoors_2 {w : fm_W} {l : Launch} {o : fm_O} (hI : fm_I w 105) (s : fm_M) (v1 : Int32) (z : (fm_M × Int32) ⊕ (fm_M × Int32)) (h : f_X1_openDoors_2 s v1 = some z) (kb : ∀ (s : fm_M) (u1 : Int32), z = .inl (s, u1) → fm_V w layX 105 l rm_X1_openDoors cX1_openDoors 2 RX1 none o 2 [some (.ref (fm_ad w 90)), some (.int u1)] [] s) (ke : ∀ (s : fm_M) (u1 : Int32), z = .inr (s, u1) → fm_V w layX 105 l rm_X1_openDoors cX1_openDoors 2 RX1 none o 35 [some (.ref (fm_ad w 90)), some (.int u1)] [] s) : fm_V w layX 105 l rm_X1_openDoors cX1_openDoors 2 RX1 none o 2 [some (.ref (fm_ad w 90)), some (.int v1)] [] s := by
  unfold f_X1_openDoors_2 at h
  refine v_iload_n 1 dX1_openDoors_2 rfl rfl ?_
  refine v_iconst (3 : Int32) dX1_openDoors_3 (by decide) ?_
  refine v_icmp_ge 35 dX1_openDoors_4 (by decide) h (fun h => ?_) (fun h => ?_)
  · refine v_lw [some (.ref (fm_ad w 90)), some (.int v1)] rfl ⟨rfl, rfl, trivial⟩ ?_
    exact ke _ _ (Option.some.inj h).symm
  · refine v_aload_n 0 dX1_openDoors_7 rfl rfl ?_
    obtain ⟨r1, s1, h1, h⟩ := fm_bds h
    refine v_cVi [] [] l_X1_58 (c_X1_doorIsDue hI h1) yX_90 (by decide) rfl rfl ⟨rfl, rfl, by decide, by decide⟩ (Nat.le_of_ble_eq_true rfl) dX1_openDoors_8 ?_
    refine v_if_eq 35 dX1_openDoors_11 (by decide) h (fun h => ?_) (fun h => ?_)
    · refine v_lw [some (.ref (fm_ad w 90)), some (.int v1)] rfl ⟨rfl, rfl, trivial⟩ ?_
      exact ke _ _ (Option.some.inj h).symm
    · refine v_aload_n 0 dX1_openDoors_14 rfl rfl ?_
      refine v_getr 91 g_X1_20 yX_90 (by decide) rfl dX1_openDoors_15 ?_
      refine v_aload_n 0 dX1_openDoors_18 rfl rfl ?_
      refine v_getr 91 g_X1_20 yX_90 (by decide) rfl dX1_openDoors_19 ?_
      obtain ⟨r2, s2, h2, h⟩ := fm_bds h
      refine v_cVi [] [.ref (fm_ad w 91)] l_X1_61 (c_X2_highestFree hI isH_91 h2) yX_91 (by decide) rfl rfl ⟨rfl, rfl, by decide, by decide⟩ (Nat.le_of_ble_eq_true rfl) dX1_openDoors_22 ?_
      obtain ⟨r3, s3, h3, h⟩ := fm_bds h
      refine v_cVi [.int r2] [] l_X1_64 (c_X2_openDoor hI isH_91 h3) yX_91 (by decide) rfl rfl ⟨rfl, rfl, by decide, by decide⟩ (Nat.le_of_ble_eq_true rfl) dX1_openDoors_25 ?_
      refine v_pop dX1_openDoors_28 rfl ?_
      refine v_iinc (lv' := [some (.ref (fm_ad w 90)), some (.int (v1 + (1 : Int32)))]) (1 : Int32) dX1_openDoors_29 rfl (by decide) (by decide) rfl rfl ?_
      refine v_goto 2 dX1_openDoors_32 (by decide) ?_
      refine v_lw [some (.ref (fm_ad w 90)), some (.int (v1 + (1 : Int32)))] rfl ⟨rfl, rfl, trivial⟩ ?_
      exact kb _ _ (Option.some.inj h).symm
set_option maxHeartbeats 4000000 in
theorem i_X1_openDoors_2 {w : fm_W} {l : Launch} {o : fm_O} (hI : fm_I w 105) (n : Nat) (s : fm_M) (v1 : Int32) (q : fm_M × Int32) (h : fm_it (fun s => f_X1_openDoors_2 s.1 s.2) n (s, v1) = some q) (ke : ∀ (s : fm_M) (u1 : Int32), q = (s, u1) → fm_V w layX 105 l rm_X1_openDoors cX1_openDoors 2 RX1 none o 35 [some (.ref (fm_ad w 90)), some (.int u1)] [] s) : fm_V w layX 105 l rm_X1_openDoors cX1_openDoors 2 RX1 none o 2 [some (.ref (fm_ad w 90)), some (.int v1)] [] s :=
  fm_it_loop (body := (fun s => f_X1_openDoors_2 s.1 s.2)) (P := fun s => fm_V w layX 105 l rm_X1_openDoors cX1_openDoors 2 RX1 none o 2 [some (.ref (fm_ad w 90)), some (.int s.2)] [] s.1) (K := (fun q : fm_M × Int32 => (∀ (s : fm_M) (u1 : Int32), q = (s, u1) → fm_V w layX 105 l rm_X1_openDoors cX1_openDoors 2 RX1 none o 35 [some (.ref (fm_ad w 90)), some (.int u1)] [] s))) (fun s z hb kl kx => t_X1_openDoors_2 hI s.1 s.2 z hb (fun s u1 e => kl _ e) (fun s u1 e => (kx _ e) s u1 rfl)) n (s, v1) q h ke
def f_X1_openDoors_35 (s : fm_M) : Option (Int32 × fm_M) :=
  some (0, s)
set_option maxHeartbeats 4000000 in
theorem t_X1_openDoors_35 {w : fm_W} {l : Launch} {o : fm_O} (hI : fm_I w 105) (s : fm_M) (z : Int32 × fm_M) (h : f_X1_openDoors_35 s = some z) (ho : ∀ (r : Int32) (s : fm_M), z = (r, s) → o = (none, s)) : fm_V w layX 105 l rm_X1_openDoors cX1_openDoors 2 RX1 none o 35 [none, none] [] s := by
  unfold f_X1_openDoors_35 at h
  exact v_vret rfl (ho _ _ (Option.some.inj h).symm) dX1_openDoors_35
def f_X1_openDoors (s : fm_M) : Option (Int32 × fm_M) :=
  fm_op (fm_it (fun (yy : fm_M × Int32) => f_X1_openDoors_2 yy.1 yy.2) fm_fu (s, (0 : Int32))) (fun q4 => ((fun (s4 : fm_M) (x4_1 : Int32) => f_X1_openDoors_35 s4)) q4.1 q4.2)
set_option maxHeartbeats 4000000 in
theorem e_X1_openDoors {w : fm_W} {l : Launch} {o : fm_O} (hI : fm_I w 105) (s : fm_M) (z : Int32 × fm_M) (h : f_X1_openDoors s = some z) (ho : ∀ (r : Int32) (s : fm_M), z = (r, s) → o = (none, s)) : fm_V w layX 105 l rm_X1_openDoors cX1_openDoors 2 RX1 none o 0 [some (.ref (fm_ad w 90)), none] [] s := by
  unfold f_X1_openDoors at h
  refine v_iconst (0 : Int32) dX1_openDoors_0 (by decide) ?_
  refine v_istore_n (lv' := [some (.ref (fm_ad w 90)), some (.int (0 : Int32))]) 1 dX1_openDoors_1 rfl (by decide) rfl rfl ?_
  obtain ⟨q4, h4, h⟩ := fm_ops h
  refine v_lw [some (.ref (fm_ad w 90)), some (.int (0 : Int32))] rfl ⟨rfl, rfl, trivial⟩ ?_
  refine i_X1_openDoors_2 hI _ _ _ _ h4 (fun s4 x4_1 e => ?_)
  subst e
  dsimp only at h
  refine v_lw [none, none] rfl trivial ?_
  exact t_X1_openDoors_35 hI s4 _ h ho
theorem c_X1_openDoors {w : fm_W} {l : Launch} (hI : fm_I w 105) {s : fm_M} {r : Int32} {s2 : fm_M} (h : f_X1_openDoors s = some (r, s2)) : fm_C w layX 105 l yX1_openDoors cX1_openDoors 2 none rm_X1_openDoors [.ref (fm_ad w 90)] s (none, s2) :=
  fm_of hI (by decide) rfl (Nat.le_of_ble_eq_true rfl) (e_X1_openDoors hI s _ h (fun r s e => by cases e; rfl))
-- X1_goOn
abbrev rm_X1_goOn : Room := { frames := 4, cells := 0, slots := 0, locals := 90 }
def f_X1_goOn_7 (row : Nat) (v2 : Int32) (s : fm_M) (v3 : Int32) : Option ((fm_M × Int32) ⊕ ((Int32 × fm_M) ⊕ (fm_M × Int32))) :=
  if v2 < v3 then some (.inr (.inr (s, v3))) else fm_bd (f_X1_openDoors s) (fun r1 s1 => fm_bd (f_X2_allAreOut 91 s1) (fun r2 s2 => if r2 = 0 then fm_bd (f_X1_dressByRow row s2) (fun r3 s3 => fm_bd (f_X2_goMinute 91 s3) (fun r4 s4 => some (.inl ((fm_up s4 90 3 ((s3 90 3) + r4)), (v3 + (1 : Int32)))))) else some (.inr (.inl (0, (fm_up s2 90 2 v3))))))
set_option maxHeartbeats 4000000 in
theorem t_X1_goOn_7 {w : fm_W} {l : Launch} {o : fm_O} (hI : fm_I w 105) {row : Nat} (hrow : fm_rd layX 105 row 6) (v2 : Int32) (s : fm_M) (v3 : Int32) (z : (fm_M × Int32) ⊕ ((Int32 × fm_M) ⊕ (fm_M × Int32))) (h : f_X1_goOn_7 row v2 s v3 = some z) (kb : ∀ (s : fm_M) (u3 : Int32), z = .inl (s, u3) → fm_V w layX 105 l rm_X1_goOn cX1_goOn 4 RX1 none o 7 [some (.ref (fm_ad w 90)), some (.ref (fm_ad w row)), some (.int v2), some (.int u3)] [] s) (ke : ∀ (s : fm_M) (u3 : Int32), z = .inr (.inr (s, u3)) → fm_V w layX 105 l rm_X1_goOn cX1_goOn 4 RX1 none o 59 [some (.ref (fm_ad w 90)), some (.ref (fm_ad w row)), some (.int v2), some (.int u3)] [] s) (kr : ∀ (r : Int32) (s : fm_M), z = .inr (.inl (r, s)) → o = (none, s)) : fm_V w layX 105 l rm_X1_goOn cX1_goOn 4 RX1 none o 7 [some (.ref (fm_ad w 90)), some (.ref (fm_ad w row)), some (.int v2), some (.int v3)] [] s := by
  unfold f_X1_goOn_7 at h
  refine v_iload_n 3 dX1_goOn_7 rfl rfl ?_
  refine v_iload_n 2 dX1_goOn_8 rfl rfl ?_
  refine v_icmp_gt 59 dX1_goOn_9 (by decide) h (fun h => ?_) (fun h => ?_)
  · refine v_lw [some (.ref (fm_ad w 90)), some (.ref (fm_ad w row)), some (.int v2), some (.int v3)] rfl ⟨rfl, rfl, rfl, rfl, trivial⟩ ?_
    exact ke _ _ (Option.some.inj h).symm
  · refine v_aload_n 0 dX1_goOn_12 rfl rfl ?_
    obtain ⟨r1, s1, h1, h⟩ := fm_bds h
    refine v_cVv [] [] l_X1_40 (c_X1_openDoors hI h1) yX_90 (by decide) rfl rfl ⟨rfl, rfl, by decide, by decide⟩ (Nat.le_of_ble_eq_true rfl) dX1_goOn_13 ?_
    refine v_aload_n 0 dX1_goOn_16 rfl rfl ?_
    refine v_getr 91 g_X1_20 yX_90 (by decide) rfl dX1_goOn_17 ?_
    obtain ⟨r2, s2, h2, h⟩ := fm_bds h
    refine v_cVi [] [] l_X1_43 (c_X2_allAreOut hI isH_91 h2) yX_91 (by decide) rfl rfl ⟨rfl, rfl, by decide, by decide⟩ (Nat.le_of_ble_eq_true rfl) dX1_goOn_20 ?_
    refine v_if_eq 32 dX1_goOn_23 (by decide) h (fun h => ?_) (fun h => ?_)
    · refine v_aload_n 0 dX1_goOn_32 rfl rfl ?_
      refine v_aload_n 1 dX1_goOn_33 rfl rfl ?_
      obtain ⟨r3, s3, h3, h⟩ := fm_bds h
      refine v_cVv [.ref (fm_ad w row)] [] l_X1_50 (c_X1_dressByRow hI hrow h3) yX_90 (by decide) rfl rfl ⟨rfl, rfl, by decide, by decide⟩ (Nat.le_of_ble_eq_true rfl) dX1_goOn_34 ?_
      refine v_aload_n 0 dX1_goOn_37 rfl rfl ?_
      refine v_dup dX1_goOn_38 rfl ?_
      refine v_geti g_X1_37 yX_90 (by decide) rfl dX1_goOn_39 ?_
      refine v_aload_n 0 dX1_goOn_42 rfl rfl ?_
      refine v_getr 91 g_X1_20 yX_90 (by decide) rfl dX1_goOn_43 ?_
      obtain ⟨r4, s4, h4, h⟩ := fm_bds h
      refine v_cVi [] [.int (s3 90 3), .ref (fm_ad w 90)] l_X1_54 (c_X2_goMinute hI isH_91 h4) yX_91 (by decide) rfl rfl ⟨rfl, rfl, by decide, by decide⟩ (Nat.le_of_ble_eq_true rfl) dX1_goOn_46 ?_
      refine v_iadd dX1_goOn_49 ?_
      refine v_put p_X1_37 yX_90 (by decide) rfl ⟨rfl, rfl⟩ dX1_goOn_50 ?_
      refine v_iinc (lv' := [some (.ref (fm_ad w 90)), some (.ref (fm_ad w row)), some (.int v2), some (.int (v3 + (1 : Int32)))]) (1 : Int32) dX1_goOn_53 rfl (by decide) (by decide) rfl rfl ?_
      refine v_goto 7 dX1_goOn_56 (by decide) ?_
      refine v_lw [some (.ref (fm_ad w 90)), some (.ref (fm_ad w row)), some (.int v2), some (.int (v3 + (1 : Int32)))] rfl ⟨rfl, rfl, rfl, rfl, trivial⟩ ?_
      exact kb _ _ (Option.some.inj h).symm
    · refine v_aload_n 0 dX1_goOn_26 rfl rfl ?_
      refine v_iload_n 3 dX1_goOn_27 rfl rfl ?_
      refine v_put p_X1_47 yX_90 (by decide) rfl ⟨rfl, rfl⟩ dX1_goOn_28 ?_
      exact v_vret rfl (kr _ _ (Option.some.inj h).symm) dX1_goOn_31
set_option maxHeartbeats 4000000 in
theorem i_X1_goOn_7 {w : fm_W} {l : Launch} {o : fm_O} (hI : fm_I w 105) {row : Nat} (hrow : fm_rd layX 105 row 6) (v2 : Int32) (n : Nat) (s : fm_M) (v3 : Int32) (q : (Int32 × fm_M) ⊕ (fm_M × Int32)) (h : fm_it (fun s => f_X1_goOn_7 row v2 s.1 s.2) n (s, v3) = some q) (kr : ∀ (r : Int32) (s : fm_M), q = .inl (r, s) → o = (none, s)) (ke : ∀ (s : fm_M) (u3 : Int32), q = .inr (s, u3) → fm_V w layX 105 l rm_X1_goOn cX1_goOn 4 RX1 none o 59 [some (.ref (fm_ad w 90)), some (.ref (fm_ad w row)), some (.int v2), some (.int u3)] [] s) : fm_V w layX 105 l rm_X1_goOn cX1_goOn 4 RX1 none o 7 [some (.ref (fm_ad w 90)), some (.ref (fm_ad w row)), some (.int v2), some (.int v3)] [] s :=
  fm_it_loop (body := (fun s => f_X1_goOn_7 row v2 s.1 s.2)) (P := fun s => fm_V w layX 105 l rm_X1_goOn cX1_goOn 4 RX1 none o 7 [some (.ref (fm_ad w 90)), some (.ref (fm_ad w row)), some (.int v2), some (.int s.2)] [] s.1) (K := (fun q : (Int32 × fm_M) ⊕ (fm_M × Int32) => (∀ (r : Int32) (s : fm_M), q = .inl (r, s) → o = (none, s)) ∧ (∀ (s : fm_M) (u3 : Int32), q = .inr (s, u3) → fm_V w layX 105 l rm_X1_goOn cX1_goOn 4 RX1 none o 59 [some (.ref (fm_ad w 90)), some (.ref (fm_ad w row)), some (.int v2), some (.int u3)] [] s))) (fun s z hb kl kx => t_X1_goOn_7 hI hrow v2 s.1 s.2 z hb (fun s u3 e => kl _ e) (fun s u3 e => (kx _ e).2 s u3 rfl) (fun r s e => (kx _ e).1 r s rfl)) n (s, v3) q h ⟨kr, ke⟩
def f_X1_goOn (row : Nat) (v2 : Int32) (s : fm_M) : Option (Int32 × fm_M) :=
  fm_op (fm_it (fun (yy : fm_M × Int32) => f_X1_goOn_7 row v2 yy.1 yy.2) fm_fu ((fm_up s 90 3 (0 : Int32)), (0 : Int32))) (fun q5 => Sum.elim (fun r => some r) (fun t5 => ((fun (s5 : fm_M) (x5_3 : Int32) => some (0, (fm_up (fm_up s5 90 2 (-4 : Int32)) 90 3 (-4 : Int32))))) t5.1 t5.2) q5)
set_option maxHeartbeats 4000000 in
theorem e_X1_goOn {w : fm_W} {l : Launch} {o : fm_O} (hI : fm_I w 105) {row : Nat} (hrow : fm_rd layX 105 row 6) (v2 : Int32) (s : fm_M) (z : Int32 × fm_M) (h : f_X1_goOn row v2 s = some z) (ho : ∀ (r : Int32) (s : fm_M), z = (r, s) → o = (none, s)) : fm_V w layX 105 l rm_X1_goOn cX1_goOn 4 RX1 none o 0 [some (.ref (fm_ad w 90)), some (.ref (fm_ad w row)), some (.int v2), none] [] s := by
  unfold f_X1_goOn at h
  refine v_aload_n 0 dX1_goOn_0 rfl rfl ?_
  refine v_iconst (0 : Int32) dX1_goOn_1 (by decide) ?_
  refine v_put p_X1_37 yX_90 (by decide) rfl ⟨rfl, rfl⟩ dX1_goOn_2 ?_
  refine v_iconst (0 : Int32) dX1_goOn_5 (by decide) ?_
  refine v_istore_n (lv' := [some (.ref (fm_ad w 90)), some (.ref (fm_ad w row)), some (.int v2), some (.int (0 : Int32))]) 3 dX1_goOn_6 rfl (by decide) rfl rfl ?_
  obtain ⟨q5, h5, h⟩ := fm_ops h
  refine v_lw [some (.ref (fm_ad w 90)), some (.ref (fm_ad w row)), some (.int v2), some (.int (0 : Int32))] rfl ⟨rfl, rfl, rfl, rfl, trivial⟩ ?_
  refine i_X1_goOn_7 hI hrow v2 _ _ _ _ h5 (fun r s e => by subst e; exact ho r s (Option.some.inj h).symm) (fun s5 x5_3 e => ?_)
  subst e
  dsimp only [Sum.elim] at h
  refine v_aload_n 0 dX1_goOn_59 rfl rfl ?_
  refine v_bipush (-4 : Int32) dX1_goOn_60 (by decide) ?_
  refine v_put p_X1_47 yX_90 (by decide) rfl ⟨rfl, rfl⟩ dX1_goOn_62 ?_
  refine v_aload_n 0 dX1_goOn_65 rfl rfl ?_
  refine v_bipush (-4 : Int32) dX1_goOn_66 (by decide) ?_
  refine v_put p_X1_37 yX_90 (by decide) rfl ⟨rfl, rfl⟩ dX1_goOn_68 ?_
  exact v_vret rfl (ho _ _ (Option.some.inj h).symm) dX1_goOn_71
theorem c_X1_goOn {w : fm_W} {l : Launch} (hI : fm_I w 105) {row : Nat} (hrow : fm_rd layX 105 row 6) {v2 : Int32} {s : fm_M} {r : Int32} {s2 : fm_M} (h : f_X1_goOn row v2 s = some (r, s2)) : fm_C w layX 105 l yX1_goOn cX1_goOn 4 none rm_X1_goOn [.ref (fm_ad w 90), .ref (fm_ad w row), .int v2] s (none, s2) :=
  fm_of hI (by decide) rfl (Nat.le_of_ble_eq_true rfl) (e_X1_goOn hI hrow v2 s _ h (fun r s e => by cases e; rfl))
-- X1_minutesTillLunch
abbrev rm_X1_minutesTillLunch : Room := { frames := 0, cells := 0, slots := 0, locals := 0 }
def f_X1_minutesTillLunch (s : fm_M) : Option (Int32 × fm_M) :=
  some (((s 6 6) - (s 91 8)), s)
set_option maxHeartbeats 4000000 in
theorem e_X1_minutesTillLunch {w : fm_W} {l : Launch} {o : fm_O} (hI : fm_I w 105) (s : fm_M) (z : Int32 × fm_M) (h : f_X1_minutesTillLunch s = some z) (ho : ∀ (r : Int32) (s : fm_M), z = (r, s) → o = (some (.int r), s)) : fm_V w layX 105 l rm_X1_minutesTillLunch cX1_minutesTillLunch 1 RX1 (some .int) o 0 [some (.ref (fm_ad w 90))] [] s := by
  unfold f_X1_minutesTillLunch at h
  refine v_aload_n 0 dX1_minutesTillLunch_0 rfl rfl ?_
  refine v_getr 6 g_X1_9 yX_90 (by decide) rfl dX1_minutesTillLunch_1 ?_
  refine v_geti g_X1_28 yX_6 (by decide) rfl dX1_minutesTillLunch_4 ?_
  refine v_aload_n 0 dX1_minutesTillLunch_7 rfl rfl ?_
  refine v_getr 91 g_X1_20 yX_90 (by decide) rfl dX1_minutesTillLunch_8 ?_
  refine v_geti g_X1_34 yX_91 (by decide) rfl dX1_minutesTillLunch_11 ?_
  refine v_isub dX1_minutesTillLunch_14 ?_
  exact v_iret rfl (ho _ _ (Option.some.inj h).symm) dX1_minutesTillLunch_15
theorem c_X1_minutesTillLunch {w : fm_W} {l : Launch} (hI : fm_I w 105) {s : fm_M} {r : Int32} {s2 : fm_M} (h : f_X1_minutesTillLunch s = some (r, s2)) : fm_C w layX 105 l yX1_minutesTillLunch cX1_minutesTillLunch 1 (some .int) rm_X1_minutesTillLunch [.ref (fm_ad w 90)] s (some (.int r), s2) :=
  fm_of hI (by decide) rfl (Nat.le_of_ble_eq_true rfl) (e_X1_minutesTillLunch hI s _ h (fun r s e => by cases e; rfl))
-- X1_startFrom
abbrev rm_X1_startFrom : Room := { frames := 2, cells := 0, slots := 0, locals := 47 }
def f_X1_startFrom (ga : Nat) (s : fm_M) : Option (Int32 × fm_M) :=
  fm_bd (f_X2_copyFrom 91 ga s) (fun r1 s1 => some (0, s1))
set_option maxHeartbeats 4000000 in
theorem e_X1_startFrom {w : fm_W} {l : Launch} {o : fm_O} (hI : fm_I w 105) {ga : Nat} (hga : isH ga) (s : fm_M) (z : Int32 × fm_M) (h : f_X1_startFrom ga s = some z) (ho : ∀ (r : Int32) (s : fm_M), z = (r, s) → o = (none, s)) : fm_V w layX 105 l rm_X1_startFrom cX1_startFrom 2 RX1 none o 0 [some (.ref (fm_ad w 90)), some (.ref (fm_ad w ga))] [] s := by
  unfold f_X1_startFrom at h
  refine v_aload_n 0 dX1_startFrom_0 rfl rfl ?_
  refine v_getr 91 g_X1_20 yX_90 (by decide) rfl dX1_startFrom_1 ?_
  refine v_aload_n 1 dX1_startFrom_4 rfl rfl ?_
  obtain ⟨r1, s1, h1, h⟩ := fm_bds h
  refine v_cVv [.ref (fm_ad w ga)] [] l_X1_24 (c_X2_copyFrom hI isH_91 hga h1) yX_91 (by decide) rfl rfl ⟨rfl, rfl, by decide, by decide⟩ (Nat.le_of_ble_eq_true rfl) dX1_startFrom_5 ?_
  exact v_vret rfl (ho _ _ (Option.some.inj h).symm) dX1_startFrom_8
theorem c_X1_startFrom {w : fm_W} {l : Launch} (hI : fm_I w 105) {ga : Nat} (hga : isH ga) {s : fm_M} {r : Int32} {s2 : fm_M} (h : f_X1_startFrom ga s = some (r, s2)) : fm_C w layX 105 l yX1_startFrom cX1_startFrom 2 none rm_X1_startFrom [.ref (fm_ad w 90), .ref (fm_ad w ga)] s (none, s2) :=
  fm_of hI (by decide) rfl (Nat.le_of_ble_eq_true rfl) (e_X1_startFrom hI hga s _ h (fun r s e => by cases e; rfl))
