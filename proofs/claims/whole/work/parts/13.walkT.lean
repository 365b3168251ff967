-- X3_clear
abbrev rm_X3_clear : Room := { frames := 0, cells := 0, slots := 0, locals := 0 }
def f_X3_clear (pp : Nat) (nn : Nat) (s : fm_M) : Option (Int32 × fm_M) :=
  some (0, (fm_up s pp 2 (0 : Int32)))
set_option maxHeartbeats 4000000 in
theorem e_X3_clear {w : fm_W} {l : Launch} {o : fm_O} (hI : fm_I w 105) {pp : Nat} {nn : Nat} (hpp : isPi pp nn) (s : fm_M) (z : Int32 × fm_M) (h : f_X3_clear pp nn s = some z) (ho : ∀ (r : Int32) (s : fm_M), z = (r, s) → o = (none, s)) : fm_V w layX 105 l rm_X3_clear cX3_clear 1 RX3 none o 0 [some (.ref (fm_ad w pp))] [] s := by
  unfold f_X3_clear at h
  refine v_aload_n 0 dX3_clear_0 rfl rfl ?_
  refine v_iconst (0 : Int32) dX3_clear_1 (by decide) ?_
  refine v_put p_X3_24 hpp.1 (isPi.lt hpp) rfl ⟨rfl, rfl⟩ dX3_clear_2 ?_
  exact v_vret rfl (ho _ _ (Option.some.inj h).symm) dX3_clear_5
theorem c_X3_clear {w : fm_W} {l : Launch} (hI : fm_I w 105) {pp : Nat} {nn : Nat} (hpp : isPi pp nn) {s : fm_M} {r : Int32} {s2 : fm_M} (h : f_X3_clear pp nn s = some (r, s2)) : fm_C w layX 105 l yX3_clear cX3_clear 1 none rm_X3_clear [.ref (fm_ad w pp)] s (none, s2) :=
  fm_of hI (by decide) rfl (Nat.le_of_ble_eq_true rfl) (e_X3_clear hI hpp s _ h (fun r s e => by cases e; rfl))
-- X3_popInto
abbrev rm_X3_popInto : Room := { frames := 2, cells := 0, slots := 0, locals := 47 }
def f_X3_popInto_57 (pp : Nat) (nn : Nat) (ga : Nat) (s : fm_M) : Option (Int32 × fm_M) :=
  some (0, s)
set_option maxHeartbeats 4000000 in
theorem t_X3_popInto_57 {w : fm_W} {l : Launch} {o : fm_O} (hI : fm_I w 105) {pp : Nat} {nn : Nat} (hpp : isPi pp nn) {ga : Nat} (hga : isH ga) (s : fm_M) (z : Int32 × fm_M) (h : f_X3_popInto_57 pp nn ga s = some z) (ho : ∀ (r : Int32) (s : fm_M), z = (r, s) → o = (none, s)) : fm_V w layX 105 l rm_X3_popInto cX3_popInto 2 RX3 none o 57 [none, none] [] s := by
  unfold f_X3_popInto_57 at h
  exact v_vret rfl (ho _ _ (Option.some.inj h).symm) dX3_popInto_57
def f_X3_popInto_44 (pp : Nat) (nn : Nat) (ga : Nat) (sk0 : Int32) (s : fm_M) : Option (Int32 × fm_M) :=
  f_X3_popInto_57 pp nn ga (fm_up (fm_up s pp 1 sk0) pp 2 (((fm_up s pp 1 sk0) pp 2) - (1 : Int32)))
set_option maxHeartbeats 4000000 in
theorem t_X3_popInto_44 {w : fm_W} {l : Launch} {o : fm_O} (hI : fm_I w 105) {pp : Nat} {nn : Nat} (hpp : isPi pp nn) {ga : Nat} (hga : isH ga) (sk0 : Int32) (s : fm_M) (z : Int32 × fm_M) (h : f_X3_popInto_44 pp nn ga sk0 s = some z) (ho : ∀ (r : Int32) (s : fm_M), z = (r, s) → o = (none, s)) : fm_V w layX 105 l rm_X3_popInto cX3_popInto 2 RX3 none o 44 [some (.ref (fm_ad w pp)), none] [.int sk0, .ref (fm_ad w pp)] s := by
  unfold f_X3_popInto_44 at h
  refine v_put p_X3_28 hpp.1 (isPi.lt hpp) rfl ⟨rfl, rfl⟩ dX3_popInto_44 ?_
  refine v_aload_n 0 dX3_popInto_47 rfl rfl ?_
  refine v_dup dX3_popInto_48 rfl ?_
  refine v_geti g_X3_24 hpp.1 (isPi.lt hpp) rfl dX3_popInto_49 ?_
  refine v_iconst (1 : Int32) dX3_popInto_52 (by decide) ?_
  refine v_isub dX3_popInto_53 ?_
  refine v_put p_X3_24 hpp.1 (isPi.lt hpp) rfl ⟨rfl, rfl⟩ dX3_popInto_54 ?_
  refine v_lw [none, none] rfl trivial ?_
  exact t_X3_popInto_57 hI hpp hga (fm_up (fm_up s pp 1 sk0) pp 2 (((fm_up s pp 1 sk0) pp 2) - (1 : Int32))) _ h ho
def f_X3_popInto (pp : Nat) (nn : Nat) (ga : Nat) (s : fm_M) : Option (Int32 × fm_M) :=
  if (s pp 2) ≤ 0 then f_X3_popInto_57 pp nn ga s else if fm_in (s pp 1) nn = true then fm_bd (f_X2_copyFrom ga ((pp + 1) + 1 + 7 * (s pp 1).toNatClampNeg) s) (fun r1 s1 => if (s1 pp 1) ≤ 0 then f_X3_popInto_44 pp nn ga ((Int32.ofNat nn) - (1 : Int32)) s1 else f_X3_popInto_44 pp nn ga ((s1 pp 1) - (1 : Int32)) s1) else none
set_option maxHeartbeats 4000000 in
theorem e_X3_popInto {w : fm_W} {l : Launch} {o : fm_O} (hI : fm_I w 105) {pp : Nat} {nn : Nat} (hpp : isPi pp nn) {ga : Nat} (hga : isH ga) (s : fm_M) (z : Int32 × fm_M) (h : f_X3_popInto pp nn ga s = some z) (ho : ∀ (r : Int32) (s : fm_M), z = (r, s) → o = (none, s)) : fm_V w layX 105 l rm_X3_popInto cX3_popInto 2 RX3 none o 0 [some (.ref (fm_ad w pp)), some (.ref (fm_ad w ga))] [] s := by
  unfold f_X3_popInto at h
  refine v_aload_n 0 dX3_popInto_0 rfl rfl ?_
  refine v_geti g_X3_24 hpp.1 (isPi.lt hpp) rfl dX3_popInto_1 ?_
  refine v_if_le 57 dX3_popInto_4 (by decide) h (fun h => ?_) (fun h => ?_)
  · refine v_lw [none, none] rfl trivial ?_
    exact t_X3_popInto_57 hI hpp hga s _ h ho
  · refine v_aload_n 1 dX3_popInto_7 rfl rfl ?_
    refine v_aload_n 0 dX3_popInto_8 rfl rfl ?_
    refine v_getr (pp + 1) g_X3_15 hpp.1 (isPi.lt hpp) rfl dX3_popInto_9 ?_
    refine v_aload_n 0 dX3_popInto_12 rfl rfl ?_
    refine v_geti g_X3_28 hpp.1 (isPi.lt hpp) rfl dX3_popInto_13 ?_
    obtain ⟨hi, h⟩ := fm_ift h
    refine v_aald hpp.2.1 hpp.2.2.1 hi dX3_popInto_16 ?_
    have hg16 := isPi.h hpp hi
    obtain ⟨r1, s1, h1, h⟩ := fm_bds h
    refine v_cVv [.ref (fm_ad w ((pp + 1) + 1 + 7 * (s pp 1).toNatClampNeg))] [] l_X3_31 (c_X2_copyFrom hI hga hg16 h1) hga.1 (isH.lt (j := 0) hga (by decide)) rfl rfl ⟨rfl, rfl, by decide, by decide⟩ (Nat.le_of_ble_eq_true rfl) dX3_popInto_17 ?_
    refine v_aload_n 0 dX3_popInto_20 rfl rfl ?_
    refine v_aload_n 0 dX3_popInto_21 rfl rfl ?_
    refine v_geti g_X3_28 hpp.1 (isPi.lt hpp) rfl dX3_popInto_22 ?_
    refine v_if_le 37 dX3_popInto_25 (by decide) h (fun h => ?_) (fun h => ?_)
    · refine v_aload_n 0 dX3_popInto_37 rfl rfl ?_
      refine v_getr (pp + 1) g_X3_15 hpp.1 (isPi.lt hpp) rfl dX3_popInto_38 ?_
      refine v_qlen (Int32.ofNat nn) hpp.2.1 hpp.2.2.1 rfl dX3_popInto_41 ?_
      refine v_iconst (1 : Int32) dX3_popInto_42 (by decide) ?_
      refine v_isub dX3_popInto_43 ?_
      refine v_lw [some (.ref (fm_ad w pp)), none] rfl ⟨rfl, trivial⟩ ?_
      exact t_X3_popInto_44 hI hpp hga ((Int32.ofNat nn) - (1 : Int32)) s1 _ h ho
    · refine v_aload_n 0 dX3_popInto_28 rfl rfl ?_
      refine v_geti g_X3_28 hpp.1 (isPi.lt hpp) rfl dX3_popInto_29 ?_
      refine v_iconst (1 : Int32) dX3_popInto_32 (by decide) ?_
      refine v_isub dX3_popInto_33 ?_
      refine v_goto 44 dX3_popInto_34 (by decide) ?_
      refine v_lw [some (.ref (fm_ad w pp)), none] rfl ⟨rfl, trivial⟩ ?_
      exact t_X3_popInto_44 hI hpp hga ((s1 pp 1) - (1 : Int32)) s1 _ h ho
theorem c_X3_popInto {w : fm_W} {l : Launch} (hI : fm_I w 105) {pp : Nat} {nn : Nat} (hpp : isPi pp nn) {ga : Nat} (hga : isH ga) {s : fm_M} {r : Int32} {s2 : fm_M} (h : f_X3_popInto pp nn ga s = some (r, s2)) : fm_C w layX 105 l yX3_popInto cX3_popInto 2 none rm_X3_popInto [.ref (fm_ad w pp), .ref (fm_ad w ga)] s (none, s2) :=
  fm_of hI (by decide) rfl (Nat.le_of_ble_eq_true rfl) (e_X3_popInto hI hpp hga s _ h (fun r s e => by cases e; rfl))
-- X3_push
abbrev rm_X3_push : Room := { frames := 2, cells := 0, slots := 0, locals := 47 }
def f_X3_push_25 (pp : Nat) (nn : Nat) (ga : Nat) (sk0 : Int32) (s : fm_M) : Option (Int32 × fm_M) :=
  if fm_in ((fm_up s pp 1 sk0) pp 1) nn = true then fm_bd (f_X2_copyFrom ((pp + 1) + 1 + 7 * ((fm_up s pp 1 sk0) pp 1).toNatClampNeg) ga (fm_up s pp 1 sk0)) (fun r1 s1 => some (0, (fm_up s1 pp 2 (if (Int32.ofNat nn) < ((s1 pp 2) + (1 : Int32)) then (Int32.ofNat nn) else ((s1 pp 2) + (1 : Int32)))))) else none
set_option maxHeartbeats 4000000 in
theorem t_X3_push_25 {w : fm_W} {l : Launch} {o : fm_O} (hI : fm_I w 105) {pp : Nat} {nn : Nat} (hpp : isPi pp nn) {ga : Nat} (hga : isH ga) (sk0 : Int32) (s : fm_M) (z : Int32 × fm_M) (h : f_X3_push_25 pp nn ga sk0 s = some z) (ho : ∀ (r : Int32) (s : fm_M), z = (r, s) → o = (none, s)) : fm_V w layX 105 l rm_X3_push cX3_push 2 RX3 none o 25 [some (.ref (fm_ad w pp)), some (.ref (fm_ad w ga))] [.int sk0, .ref (fm_ad w pp)] s := by
  unfold f_X3_push_25 at h
  refine v_put p_X3_28 hpp.1 (isPi.lt hpp) rfl ⟨rfl, rfl⟩ dX3_push_25 ?_
  refine v_aload_n 0 dX3_push_28 rfl rfl ?_
  refine v_getr (pp + 1) g_X3_15 hpp.1 (isPi.lt hpp) rfl dX3_push_29 ?_
  refine v_aload_n 0 dX3_push_32 rfl rfl ?_
  refine v_geti g_X3_28 hpp.1 (isPi.lt hpp) rfl dX3_push_33 ?_
  obtain ⟨hi, h⟩ := fm_ift h
  refine v_aald hpp.2.1 hpp.2.2.1 hi dX3_push_36 ?_
  have hg36 := isPi.h hpp hi
  refine v_aload_n 1 dX3_push_37 rfl rfl ?_
  obtain ⟨r1, s1, h1, h⟩ := fm_bds h
  refine v_cVv [.ref (fm_ad w ga)] [] l_X3_31 (c_X2_copyFrom hI hg36 hga h1) hg36.1 (isH.lt (j := 0) hg36 (by decide)) rfl rfl ⟨rfl, rfl, by decide, by decide⟩ (Nat.le_of_ble_eq_true rfl) dX3_push_38 ?_
  refine v_aload_n 0 dX3_push_41 rfl rfl ?_
  refine v_aload_n 0 dX3_push_42 rfl rfl ?_
  refine v_geti g_X3_24 hpp.1 (isPi.lt hpp) rfl dX3_push_43 ?_
  refine v_iconst (1 : Int32) dX3_push_46 (by decide) ?_
  refine v_iadd dX3_push_47 ?_
  refine v_aload_n 0 dX3_push_48 rfl rfl ?_
  refine v_getr (pp + 1) g_X3_15 hpp.1 (isPi.lt hpp) rfl dX3_push_49 ?_
  refine v_qlen (Int32.ofNat nn) hpp.2.1 hpp.2.2.1 rfl dX3_push_52 ?_
  refine v_mmin mm_X3_35 ⟨by decide, Nat.le_of_ble_eq_true rfl⟩ dX3_push_53 ?_
  refine v_put p_X3_24 hpp.1 (isPi.lt hpp) rfl ⟨rfl, rfl⟩ dX3_push_56 ?_
  exact v_vret rfl (ho _ _ (Option.some.inj h).symm) dX3_push_59
def f_X3_push (pp : Nat) (nn : Nat) (ga : Nat) (s : fm_M) : Option (Int32 × fm_M) :=
  if (Int32.ofNat nn) ≤ ((s pp 1) + (1 : Int32)) then f_X3_push_25 pp nn ga (0 : Int32) s else f_X3_push_25 pp nn ga ((s pp 1) + (1 : Int32)) s
set_option maxHeartbeats 4000000 in
theorem e_X3_push {w : fm_W} {l : Launch} {o : fm_O} (hI : fm_I w 105) {pp : Nat} {nn : Nat} (hpp : isPi pp nn) {ga : Nat} (hga : isH ga) (s : fm_M) (z : Int32 × fm_M) (h : f_X3_push pp nn ga s = some z) (ho : ∀ (r : Int32) (s : fm_M), z = (r, s) → o = (none, s)) : fm_V w layX 105 l rm_X3_push cX3_push 2 RX3 none o 0 [some (.ref (fm_ad w pp)), some (.ref (fm_ad w ga))] [] s := by
  unfold f_X3_push at h
  refine v_aload_n 0 dX3_push_0 rfl rfl ?_
  refine v_aload_n 0 dX3_push_1 rfl rfl ?_
  refine v_geti g_X3_28 hpp.1 (isPi.lt hpp) rfl dX3_push_2 ?_
  refine v_iconst (1 : Int32) dX3_push_5 (by decide) ?_
  refine v_iadd dX3_push_6 ?_
  refine v_aload_n 0 dX3_push_7 rfl rfl ?_
  refine v_getr (pp + 1) g_X3_15 hpp.1 (isPi.lt hpp) rfl dX3_push_8 ?_
  refine v_qlen (Int32.ofNat nn) hpp.2.1 hpp.2.2.1 rfl dX3_push_11 ?_
  refine v_icmp_ge 24 dX3_push_12 (by decide) h (fun h => ?_) (fun h => ?_)
  · refine v_iconst (0 : Int32) dX3_push_24 (by decide) ?_
    refine v_lw [some (.ref (fm_ad w pp)), some (.ref (fm_ad w ga))] rfl ⟨rfl, rfl, trivial⟩ ?_
    exact t_X3_push_25 hI hpp hga (0 : Int32) s _ h ho
  · refine v_aload_n 0 dX3_push_15 rfl rfl ?_
    refine v_geti g_X3_28 hpp.1 (isPi.lt hpp) rfl dX3_push_16 ?_
    refine v_iconst (1 : Int32) dX3_push_19 (by decide) ?_
    refine v_iadd dX3_push_20 ?_
    refine v_goto 25 dX3_push_21 (by decide) ?_
    refine v_lw [some (.ref (fm_ad w pp)), some (.ref (fm_ad w ga))] rfl ⟨rfl, rfl, trivial⟩ ?_
    exact t_X3_push_25 hI hpp hga ((s pp 1) + (1 : Int32)) s _ h ho
theorem c_X3_push {w : fm_W} {l : Launch} (hI : fm_I w 105) {pp : Nat} {nn : Nat} (hpp : isPi pp nn) {ga : Nat} (hga : isH ga) {s : fm_M} {r : Int32} {s2 : fm_M} (h : f_X3_push pp nn ga s = some (r, s2)) : fm_C w layX 105 l yX3_push cX3_push 2 none rm_X3_push [.ref (fm_ad w pp), .ref (fm_ad w ga)] s (none, s2) :=
  fm_of hI (by decide) rfl (Nat.le_of_ble_eq_true rfl) (e_X3_push hI hpp hga s _ h (fun r s e => by cases e; rfl))
-- X6_add
abbrev rm_X6_add : Room := { frames := 0, cells := 0, slots := 0, locals := 0 }
def f_X6_add_16 (s : fm_M) : Option (Int32 × fm_M) :=
  some ((0 : Int32), s)
set_option maxHeartbeats 4000000 in
theorem t_X6_add_16 {w : fm_W} {l : Launch} {o : fm_O} (hI : fm_I w 105) (s : fm_M) (z : Int32 × fm_M) (h : f_X6_add_16 s = some z) (ho : ∀ (r : Int32) (s : fm_M), z = (r, s) → o = (some (.int r), s)) : fm_V w layX 105 l rm_X6_add cX6_add 4 RX6 (some .boolean) o 16 [none, none, none, none] [] s := by
  unfold f_X6_add_16 at h
  refine v_iconst (0 : Int32) dX6_add_16 (by decide) ?_
  exact v_zret rfl (by decide) (ho _ _ (Option.some.inj h).symm) dX6_add_17
def f_X6_add (v1 : Int32) (v2 : Int32) (v3 : Int32) (s : fm_M) : Option (Int32 × fm_M) :=
  if (s 101 3) < 0 then f_X6_add_16 s else if (s 101 3) < (8 : Int32) then if fm_in (s 101 3) 8 = true then if fm_in ((fm_up s 102 (s 101 3).toNatClampNeg v1) 101 3) 8 = true then if fm_in ((fm_up (fm_up s 102 (s 101 3).toNatClampNeg v1) 103 ((fm_up s 102 (s 101 3).toNatClampNeg v1) 101 3).toNatClampNeg v2) 101 3) 8 = true then some ((1 : Int32), (fm_up (fm_up (fm_up (fm_up s 102 (s 101 3).toNatClampNeg v1) 103 ((fm_up s 102 (s 101 3).toNatClampNeg v1) 101 3).toNatClampNeg v2) 104 ((fm_up (fm_up s 102 (s 101 3).toNatClampNeg v1) 103 ((fm_up s 102 (s 101 3).toNatClampNeg v1) 101 3).toNatClampNeg v2) 101 3).toNatClampNeg (vp_nar .boolean v3)) 101 3 (((fm_up (fm_up (fm_up s 102 (s 101 3).toNatClampNeg v1) 103 ((fm_up s 102 (s 101 3).toNatClampNeg v1) 101 3).toNatClampNeg v2) 104 ((fm_up (fm_up s 102 (s 101 3).toNatClampNeg v1) 103 ((fm_up s 102 (s 101 3).toNatClampNeg v1) 101 3).toNatClampNeg v2) 101 3).toNatClampNeg (vp_nar .boolean v3)) 101 3) + (1 : Int32)))) else none else none else none else f_X6_add_16 s
set_option maxHeartbeats 4000000 in
theorem e_X6_add {w : fm_W} {l : Launch} {o : fm_O} (hI : fm_I w 105) (v1 : Int32) (v2 : Int32) (v3 : Int32) (s : fm_M) (z : Int32 × fm_M) (h : f_X6_add v1 v2 v3 s = some z) (ho : ∀ (r : Int32) (s : fm_M), z = (r, s) → o = (some (.int r), s)) : fm_V w layX 105 l rm_X6_add cX6_add 4 RX6 (some .boolean) o 0 [some (.ref (fm_ad w 101)), some (.int v1), some (.int v2), some (.int v3)] [] s := by
  unfold f_X6_add at h
  refine v_aload_n 0 dX6_add_0 rfl rfl ?_
  refine v_geti g_X6_20 yX_101 (by decide) rfl dX6_add_1 ?_
  refine v_if_lt 16 dX6_add_4 (by decide) h (fun h => ?_) (fun h => ?_)
  · refine v_lw [none, none, none, none] rfl trivial ?_
    exact t_X6_add_16 hI s _ h ho
  · refine v_aload_n 0 dX6_add_7 rfl rfl ?_
    refine v_geti g_X6_20 yX_101 (by decide) rfl dX6_add_8 ?_
    refine v_bipush (8 : Int32) dX6_add_11 (by decide) ?_
    refine v_icmp_lt 18 dX6_add_13 (by decide) h (fun h => ?_) (fun h => ?_)
    · refine v_aload_n 0 dX6_add_18 rfl rfl ?_
      refine v_getr 102 g_X6_9 yX_101 (by decide) rfl dX6_add_19 ?_
      refine v_aload_n 0 dX6_add_22 rfl rfl ?_
      refine v_geti g_X6_20 yX_101 (by decide) rfl dX6_add_23 ?_
      refine v_iload_n 1 dX6_add_26 rfl rfl ?_
      obtain ⟨hi, h⟩ := fm_ift h
      refine v_iast (by decide) yX_102 hi dX6_add_27 ?_
      refine v_aload_n 0 dX6_add_28 rfl rfl ?_
      refine v_getr 103 g_X6_13 yX_101 (by decide) rfl dX6_add_29 ?_
      refine v_aload_n 0 dX6_add_32 rfl rfl ?_
      refine v_geti g_X6_20 yX_101 (by decide) rfl dX6_add_33 ?_
      refine v_iload_n 2 dX6_add_36 rfl rfl ?_
      obtain ⟨hi, h⟩ := fm_ift h
      refine v_iast (by decide) yX_103 hi dX6_add_37 ?_
      refine v_aload_n 0 dX6_add_38 rfl rfl ?_
      refine v_getr 104 g_X6_16 yX_101 (by decide) rfl dX6_add_39 ?_
      refine v_aload_n 0 dX6_add_42 rfl rfl ?_
      refine v_geti g_X6_20 yX_101 (by decide) rfl dX6_add_43 ?_
      refine v_iload_n 3 dX6_add_46 rfl rfl ?_
      obtain ⟨hi, h⟩ := fm_ift h
      refine v_zast (by decide) yX_104 hi dX6_add_47 ?_
      refine v_aload_n 0 dX6_add_48 rfl rfl ?_
      refine v_dup dX6_add_49 rfl ?_
      refine v_geti g_X6_20 yX_101 (by decide) rfl dX6_add_50 ?_
      refine v_iconst (1 : Int32) dX6_add_53 (by decide) ?_
      refine v_iadd dX6_add_54 ?_
      refine v_put p_X6_20 yX_101 (by decide) rfl ⟨rfl, rfl⟩ dX6_add_55 ?_
      refine v_iconst (1 : Int32) dX6_add_58 (by decide) ?_
      exact v_zret rfl (by decide) (ho _ _ (Option.some.inj h).symm) dX6_add_59
    · refine v_lw [none, none, none, none] rfl trivial ?_
      exact t_X6_add_16 hI s _ h ho
theorem c_X6_add {w : fm_W} {l : Launch} (hI : fm_I w 105) {v1 : Int32} {v2 : Int32} {v3 : Int32} {s : fm_M} {r : Int32} {s2 : fm_M} (h : f_X6_add v1 v2 v3 s = some (r, s2)) : fm_C w layX 105 l yX6_add cX6_add 4 (some .boolean) rm_X6_add [.ref (fm_ad w 101), .int v1, .int v2, .int v3] s (some (.int r), s2) :=
  fm_of hI (by decide) rfl (Nat.le_of_ble_eq_true rfl) (e_X6_add hI v1 v2 v3 s _ h (fun r s e => by cases e; rfl))
-- X6_wouldBe
abbrev rm_X6_wouldBe : Room := { frames := 1, cells := 0, slots := 0, locals := 23 }
def f_X6_wouldBe_54 (v1 : Int32) (v2 : Int32) (v3 : Int32) (v4 : Int32) (s : fm_M) : Option ((fm_M × Int32) ⊕ ((Int32 × fm_M) ⊕ (fm_M × Int32))) :=
  some (.inl (s, (v4 + (1 : Int32))))
set_option maxHeartbeats 4000000 in
theorem t_X6_wouldBe_54 {w : fm_W} {l : Launch} {o : fm_O} (hI : fm_I w 105) (v1 : Int32) (v2 : Int32) (v3 : Int32) (v4 : Int32) (s : fm_M) (z : (fm_M × Int32) ⊕ ((Int32 × fm_M) ⊕ (fm_M × Int32))) (h : f_X6_wouldBe_54 v1 v2 v3 v4 s = some z) (kb : ∀ (s : fm_M) (u4 : Int32), z = .inl (s, u4) → fm_V w layX 105 l rm_X6_wouldBe cX6_wouldBe 5 RX6 (some .boolean) o 3 [some (.ref (fm_ad w 101)), some (.int v1), some (.int v2), some (.int v3), some (.int u4)] [] s) (ke : ∀ (s : fm_M) (u4 : Int32), z = .inr (.inr (s, u4)) → fm_V w layX 105 l rm_X6_wouldBe cX6_wouldBe 5 RX6 (some .boolean) o 60 [some (.ref (fm_ad w 101)), some (.int v1), some (.int v2), some (.int v3), some (.int u4)] [] s) (kr : ∀ (r : Int32) (s : fm_M), z = .inr (.inl (r, s)) → o = (some (.int r), s)) : fm_V w layX 105 l rm_X6_wouldBe cX6_wouldBe 5 RX6 (some .boolean) o 54 [some (.ref (fm_ad w 101)), some (.int v1), some (.int v2), some (.int v3), some (.int v4)] [] s := by
  unfold f_X6_wouldBe_54 at h
  refine v_iinc (lv' := [some (.ref (fm_ad w 101)), some (.int v1), some (.int v2), some (.int v3), some (.int (v4 + (1 : Int32)))]) (1 : Int32) dX6_wouldBe_54 rfl (by decide) (by decide) rfl rfl ?_
  refine v_goto 3 dX6_wouldBe_57 (by decide) ?_
  refine v_lw [some (.ref (fm_ad w 101)), some (.int v1), some (.int v2), some (.int v3), some (.int (v4 + (1 : Int32)))] rfl ⟨rfl, rfl, rfl, rfl, rfl, trivial⟩ ?_
  exact kb _ _ (Option.some.inj h).symm
def f_X6_wouldBe_3 (v1 : Int32) (v2 : Int32) (v3 : Int32) (s : fm_M) (v4 : Int32) : Option ((fm_M × Int32) ⊕ ((Int32 × fm_M) ⊕ (fm_M × Int32))) :=
  if (s 101 3) ≤ v4 then some (.inr (.inr (s, v4))) else if (8 : Int32) ≤ v4 then some (.inr (.inr (s, v4))) else if fm_in v4 8 = true then if (s 102 v4.toNatClampNeg) = v1 then if fm_in v4 8 = true then fm_bd (f_X4_minutesFor v2 v3 (s 104 v4.toNatClampNeg) s) (fun r1 s1 => if fm_in v4 8 = true then if r1 = (s1 103 v4.toNatClampNeg) then f_X6_wouldBe_54 v1 v2 v3 v4 s1 else some (.inr (.inl ((0 : Int32), s1))) else none) else none else f_X6_wouldBe_54 v1 v2 v3 v4 s else none
set_option maxHeartbeats 4000000 in
theorem t_X6_wouldBe_3 {w : fm_W} {l : Launch} {o : fm_O} (hI : fm_I w 105) (v1 : Int32) (v2 : Int32) (v3 : Int32) (s : fm_M) (v4 : Int32) (z : (fm_M × Int32) ⊕ ((Int32 × fm_M) ⊕ (fm_M × Int32))) (h : f_X6_wouldBe_3 v1 v2 v3 s v4 = some z) (kb : ∀ (s : fm_M) (u4 : Int32), z = .inl (s, u4) → fm_V w layX 105 l rm_X6_wouldBe cX6_wouldBe 5 RX6 (some .boolean) o 3 [some (.ref (fm_ad w 101)), some (.int v1), some (.int v2), some (.int v3), some (.int u4)] [] s) (ke : ∀ (s : fm_M) (u4 : Int32), z = .inr (.inr (s, u4)) → fm_V w layX 105 l rm_X6_wouldBe cX6_wouldBe 5 RX6 (some .boolean) o 60 [some (.ref (fm_ad w 101)), some (.int v1), some (.int v2), some (.int v3), some (.int u4)] [] s) (kr : ∀ (r : Int32) (s : fm_M), z = .inr (.inl (r, s)) → o = (some (.int r), s)) : fm_V w layX 105 l rm_X6_wouldBe cX6_wouldBe 5 RX6 (some .boolean) o 3 [some (.ref (fm_ad w 101)), some (.int v1), some (.int v2), some (.int v3), some (.int v4)] [] s := by
  unfold f_X6_wouldBe_3 at h
  refine v_iload dX6_wouldBe_3 rfl ?_
  refine v_aload_n 0 dX6_wouldBe_5 rfl rfl ?_
  refine v_geti g_X6_20 yX_101 (by decide) rfl dX6_wouldBe_6 ?_
  refine v_icmp_ge 60 dX6_wouldBe_9 (by decide) h (fun h => ?_) (fun h => ?_)
  · refine v_lw [some (.ref (fm_ad w 101)), some (.int v1), some (.int v2), some (.int v3), some (.int v4)] rfl ⟨rfl, rfl, rfl, rfl, rfl, trivial⟩ ?_
    exact ke _ _ (Option.some.inj h).symm
  · refine v_iload dX6_wouldBe_12 rfl ?_
    refine v_bipush (8 : Int32) dX6_wouldBe_14 (by decide) ?_
    refine v_icmp_ge 60 dX6_wouldBe_16 (by decide) h (fun h => ?_) (fun h => ?_)
    · refine v_lw [some (.ref (fm_ad w 101)), some (.int v1), some (.int v2), some (.int v3), some (.int v4)] rfl ⟨rfl, rfl, rfl, rfl, rfl, trivial⟩ ?_
      exact ke _ _ (Option.some.inj h).symm
    · refine v_aload_n 0 dX6_wouldBe_19 rfl rfl ?_
      refine v_getr 102 g_X6_9 yX_101 (by decide) rfl dX6_wouldBe_20 ?_
      refine v_iload dX6_wouldBe_23 rfl ?_
      obtain ⟨hi, h⟩ := fm_ift h
      refine v_iald (Or.inl ⟨(by decide), yX_102⟩) hi dX6_wouldBe_25 ?_
      refine v_iload_n 1 dX6_wouldBe_26 rfl rfl ?_
      refine v_icmp_ne 54 dX6_wouldBe_27 (by decide) h (fun h => ?_) (fun h => ?_)
      · refine v_lw [some (.ref (fm_ad w 101)), some (.int v1), some (.int v2), some (.int v3), some (.int v4)] rfl ⟨rfl, rfl, rfl, rfl, rfl, trivial⟩ ?_
        exact t_X6_wouldBe_54 hI v1 v2 v3 v4 s _ h kb ke kr
      · refine v_iload_n 2 dX6_wouldBe_30 rfl rfl ?_
        refine v_iload_n 3 dX6_wouldBe_31 rfl rfl ?_
        refine v_aload_n 0 dX6_wouldBe_32 rfl rfl ?_
        refine v_getr 104 g_X6_16 yX_101 (by decide) rfl dX6_wouldBe_33 ?_
        refine v_iload dX6_wouldBe_36 rfl ?_
        obtain ⟨hi, h⟩ := fm_ift h
        refine v_zald (by decide) yX_104 hi dX6_wouldBe_38 ?_
        obtain ⟨r1, s1, h1, h⟩ := fm_bds h
        refine v_cSi [.int v2, .int v3, .int (s 104 v4.toNatClampNeg)] [] l_X6_24 (c_X4_minutesFor hI h1) rfl rfl ⟨rfl, rfl, by decide, by decide⟩ (Nat.le_of_ble_eq_true rfl) dX6_wouldBe_39 ?_
        refine v_aload_n 0 dX6_wouldBe_42 rfl rfl ?_
        refine v_getr 103 g_X6_13 yX_101 (by decide) rfl dX6_wouldBe_43 ?_
        refine v_iload dX6_wouldBe_46 rfl ?_
        obtain ⟨hi, h⟩ := fm_ift h
        refine v_iald (Or.inl ⟨(by decide), yX_103⟩) hi dX6_wouldBe_48 ?_
        refine v_icmp_eq 54 dX6_wouldBe_49 (by decide) h (fun h => ?_) (fun h => ?_)
        · refine v_lw [some (.ref (fm_ad w 101)), some (.int v1), some (.int v2), some (.int v3), some (.int v4)] rfl ⟨rfl, rfl, rfl, rfl, rfl, trivial⟩ ?_
          exact t_X6_wouldBe_54 hI v1 v2 v3 v4 s1 _ h kb ke kr
        · refine v_iconst (0 : Int32) dX6_wouldBe_52 (by decide) ?_
          exact v_zret rfl (by decide) (kr _ _ (Option.some.inj h).symm) dX6_wouldBe_53
set_option maxHeartbeats 4000000 in
theorem i_X6_wouldBe_3 {w : fm_W} {l : Launch} {o : fm_O} (hI : fm_I w 105) (v1 : Int32) (v2 : Int32) (v3 : Int32) (n : Nat) (s : fm_M) (v4 : Int32) (q : (Int32 × fm_M) ⊕ (fm_M × Int32)) (h : fm_it (fun s => f_X6_wouldBe_3 v1 v2 v3 s.1 s.2) n (s, v4) = some q) (kr : ∀ (r : Int32) (s : fm_M), q = .inl (r, s) → o = (some (.int r), s)) (ke : ∀ (s : fm_M) (u4 : Int32), q = .inr (s, u4) → fm_V w layX 105 l rm_X6_wouldBe cX6_wouldBe 5 RX6 (some .boolean) o 60 [some (.ref (fm_ad w 101)), some (.int v1), some (.int v2), some (.int v3), some (.int u4)] [] s) : fm_V w layX 105 l rm_X6_wouldBe cX6_wouldBe 5 RX6 (some .boolean) o 3 [some (.ref (fm_ad w 101)), some (.int v1), some (.int v2), some (.int v3), some (.int v4)] [] s :=
  fm_it_loop (body := (fun s => f_X6_wouldBe_3 v1 v2 v3 s.1 s.2)) (P := fun s => fm_V w layX 105 l rm_X6_wouldBe cX6_wouldBe 5 RX6 (some .boolean) o 3 [some (.ref (fm_ad w 101)), some (.int v1), some (.int v2), some (.int v3), some (.int s.2)] [] s.1) (K := (fun q : (Int32 × fm_M) ⊕ (fm_M × Int32) => (∀ (r : Int32) (s : fm_M), q = .inl (r, s) → o = (some (.int r), s)) ∧ (∀ (s : fm_M) (u4 : Int32), q = .inr (s, u4) → fm_V w layX 105 l rm_X6_wouldBe cX6_wouldBe 5 RX6 (some .boolean) o 60 [some (.ref (fm_ad w 101)), some (.int v1), some (.int v2), some (.int v3), some (.int u4)] [] s))) (fun s z hb kl kx => t_X6_wouldBe_3 hI v1 v2 v3 s.1 s.2 z hb (fun s u4 e => kl _ e) (fun s u4 e => (kx _ e).2 s u4 rfl) (fun r s e => (kx _ e).1 r s rfl)) n (s, v4) q h ⟨kr, ke⟩
def f_X6_wouldBe_60 (s : fm_M) : Option (Int32 × fm_M) :=
  some ((1 : Int32), s)
set_option maxHeartbeats 4000000 in
theorem t_X6_wouldBe_60 {w : fm_W} {l : Launch} {o : fm_O} (hI : fm_I w 105) (s : fm_M) (z : Int32 × fm_M) (h : f_X6_wouldBe_60 s = some z) (ho : ∀ (r : Int32) (s : fm_M), z = (r, s) → o = (some (.int r), s)) : fm_V w layX 105 l rm_X6_wouldBe cX6_wouldBe 5 RX6 (some .boolean) o 60 [none, none, none, none, none] [] s := by
  unfold f_X6_wouldBe_60 at h
  refine v_iconst (1 : Int32) dX6_wouldBe_60 (by decide) ?_
  exact v_zret rfl (by decide) (ho _ _ (Option.some.inj h).symm) dX6_wouldBe_61
def f_X6_wouldBe (v1 : Int32) (v2 : Int32) (v3 : Int32) (s : fm_M) : Option (Int32 × fm_M) :=
  fm_op (fm_it (fun (yy : fm_M × Int32) => f_X6_wouldBe_3 v1 v2 v3 yy.1 yy.2) fm_fu (s, (0 : Int32))) (fun q2 => Sum.elim (fun r => some r) (fun t2 => ((fun (s2 : fm_M) (x2_4 : Int32) => f_X6_wouldBe_60 s2)) t2.1 t2.2) q2)
set_option maxHeartbeats 4000000 in
theorem e_X6_wouldBe {w : fm_W} {l : Launch} {o : fm_O} (hI : fm_I w 105) (v1 : Int32) (v2 : Int32) (v3 : Int32) (s : fm_M) (z : Int32 × fm_M) (h : f_X6_wouldBe v1 v2 v3 s = some z) (ho : ∀ (r : Int32) (s : fm_M), z = (r, s) → o = (some (.int r), s)) : fm_V w layX 105 l rm_X6_wouldBe cX6_wouldBe 5 RX6 (some .boolean) o 0 [some (.ref (fm_ad w 101)), some (.int v1), some (.int v2), some (.int v3), none] [] s := by
  unfold f_X6_wouldBe at h
  refine v_iconst (0 : Int32) dX6_wouldBe_0 (by decide) ?_
  refine v_istore (lv' := [some (.ref (fm_ad w 101)), some (.int v1), some (.int v2), some (.int v3), some (.int (0 : Int32))]) dX6_wouldBe_1 (by decide) rfl rfl ?_
  obtain ⟨q2, h2, h⟩ := fm_ops h
  refine v_lw [some (.ref (fm_ad w 101)), some (.int v1), some (.int v2), some (.int v3), some (.int (0 : Int32))] rfl ⟨rfl, rfl, rfl, rfl, rfl, trivial⟩ ?_
  refine i_X6_wouldBe_3 hI v1 v2 v3 _ _ _ _ h2 (fun r s e => by subst e; exact ho r s (Option.some.inj h).symm) (fun s2 x2_4 e => ?_)
  subst e
  dsimp only [Sum.elim] at h
  refine v_lw [none, none, none, none, none] rfl trivial ?_
  exact t_X6_wouldBe_60 hI s2 _ h ho
theorem c_X6_wouldBe {w : fm_W} {l : Launch} (hI : fm_I w 105) {v1 : Int32} {v2 : Int32} {v3 : Int32} {s : fm_M} {r : Int32} {s2 : fm_M} (h : f_X6_wouldBe v1 v2 v3 s = some (r, s2)) : fm_C w layX 105 l yX6_wouldBe cX6_wouldBe 5 (some .boolean) rm_X6_wouldBe [.ref (fm_ad w 101), .int v1, .int v2, .int v3] s (some (.int r), s2) :=
  fm_of hI (by decide) rfl (Nat.le_of_ble_eq_true rfl) (e_X6_wouldBe hI v1 v2 v3 s _ h (fun r s e => by cases e; rfl))
-- X7_add
abbrev rm_X7_add : Room := { frames := 0, cells := 0, slots := 0, locals := 0 }
def f_X7_add_19 (s : fm_M) : Option (Int32 × fm_M) :=
  some ((0 : Int32), s)
set_option maxHeartbeats 4000000 in
theorem t_X7_add_19 {w : fm_W} {l : Launch} {o : fm_O} (hI : fm_I w 105) (s : fm_M) (z : Int32 × fm_M) (h : f_X7_add_19 s = some z) (ho : ∀ (r : Int32) (s : fm_M), z = (r, s) → o = (some (.int r), s)) : fm_V w layX 105 l rm_X7_add cX7_add 2 RX7 (some .boolean) o 19 [none, none] [] s := by
  unfold f_X7_add_19 at h
  refine v_iconst (0 : Int32) dX7_add_19 (by decide) ?_
  exact v_zret rfl (by decide) (ho _ _ (Option.some.inj h).symm) dX7_add_20
def f_X7_add (v1 : Int32) (s : fm_M) : Option (Int32 × fm_M) :=
  if (s 1 1) < 0 then f_X7_add_19 s else if (s 1 1) < (200 : Int32) then if fm_in (s 1 1) 200 = true then some ((1 : Int32), (fm_up (fm_up s 2 (s 1 1).toNatClampNeg (vp_nar .char v1)) 1 1 (((fm_up s 2 (s 1 1).toNatClampNeg (vp_nar .char v1)) 1 1) + (1 : Int32)))) else none else f_X7_add_19 s
set_option maxHeartbeats 4000000 in
theorem e_X7_add {w : fm_W} {l : Launch} {o : fm_O} (hI : fm_I w 105) (v1 : Int32) (s : fm_M) (z : Int32 × fm_M) (h : f_X7_add v1 s = some z) (ho : ∀ (r : Int32) (s : fm_M), z = (r, s) → o = (some (.int r), s)) : fm_V w layX 105 l rm_X7_add cX7_add 2 RX7 (some .boolean) o 0 [some (.ref (fm_ad w 1)), some (.int v1)] [] s := by
  unfold f_X7_add at h
  refine v_aload_n 0 dX7_add_0 rfl rfl ?_
  refine v_geti g_X7_15 yX_1 (by decide) rfl dX7_add_1 ?_
  refine v_if_lt 19 dX7_add_4 (by decide) h (fun h => ?_) (fun h => ?_)
  · refine v_lw [none, none] rfl trivial ?_
    exact t_X7_add_19 hI s _ h ho
  · refine v_aload_n 0 dX7_add_7 rfl rfl ?_
    refine v_geti g_X7_15 yX_1 (by decide) rfl dX7_add_8 ?_
    refine v_aload_n 0 dX7_add_11 rfl rfl ?_
    refine v_getr 2 g_X7_9 yX_1 (by decide) rfl dX7_add_12 ?_
    refine v_clen (200 : Int32) (by decide) yX_2 (by decide) dX7_add_15 ?_
    refine v_icmp_lt 21 dX7_add_16 (by decide) h (fun h => ?_) (fun h => ?_)
    · refine v_aload_n 0 dX7_add_21 rfl rfl ?_
      refine v_getr 2 g_X7_9 yX_1 (by decide) rfl dX7_add_22 ?_
      refine v_aload_n 0 dX7_add_25 rfl rfl ?_
      refine v_geti g_X7_15 yX_1 (by decide) rfl dX7_add_26 ?_
      refine v_iload_n 1 dX7_add_29 rfl rfl ?_
      obtain ⟨hi, h⟩ := fm_ift h
      refine v_cast (by decide) yX_2 hi dX7_add_30 ?_
      refine v_aload_n 0 dX7_add_31 rfl rfl ?_
      refine v_dup dX7_add_32 rfl ?_
      refine v_geti g_X7_15 yX_1 (by decide) rfl dX7_add_33 ?_
      refine v_iconst (1 : Int32) dX7_add_36 (by decide) ?_
      refine v_iadd dX7_add_37 ?_
      refine v_put p_X7_15 yX_1 (by decide) rfl ⟨rfl, rfl⟩ dX7_add_38 ?_
      refine v_iconst (1 : Int32) dX7_add_41 (by decide) ?_
      exact v_zret rfl (by decide) (ho _ _ (Option.some.inj h).symm) dX7_add_42
    · refine v_lw [none, none] rfl trivial ?_
      exact t_X7_add_19 hI s _ h ho
theorem c_X7_add {w : fm_W} {l : Launch} (hI : fm_I w 105) {v1 : Int32} {s : fm_M} {r : Int32} {s2 : fm_M} (h : f_X7_add v1 s = some (r, s2)) : fm_C w layX 105 l yX7_add cX7_add 2 (some .boolean) rm_X7_add [.ref (fm_ad w 1), .int v1] s (some (.int r), s2) :=
  fm_of hI (by decide) rfl (Nat.le_of_ble_eq_true rfl) (e_X7_add hI v1 s _ h (fun r s e => by cases e; rfl))
-- X7_clear
abbrev rm_X7_clear : Room := { frames := 0, cells := 0, slots := 0, locals := 0 }
def f_X7_clear (s : fm_M) : Option (Int32 × fm_M) :=
  some (0, (fm_up s 1 1 (0 : Int32)))
set_option maxHeartbeats 4000000 in
theorem e_X7_clear {w : fm_W} {l : Launch} {o : fm_O} (hI : fm_I w 105) (s : fm_M) (z : Int32 × fm_M) (h : f_X7_clear s = some z) (ho : ∀ (r : Int32) (s : fm_M), z = (r, s) → o = (none, s)) : fm_V w layX 105 l rm_X7_clear cX7_clear 1 RX7 none o 0 [some (.ref (fm_ad w 1))] [] s := by
  unfold f_X7_clear at h
  refine v_aload_n 0 dX7_clear_0 rfl rfl ?_
  refine v_iconst (0 : Int32) dX7_clear_1 (by decide) ?_
  refine v_put p_X7_15 yX_1 (by decide) rfl ⟨rfl, rfl⟩ dX7_clear_2 ?_
  exact v_vret rfl (ho _ _ (Option.some.inj h).symm) dX7_clear_5
theorem c_X7_clear {w : fm_W} {l : Launch} (hI : fm_I w 105) {s : fm_M} {r : Int32} {s2 : fm_M} (h : f_X7_clear s = some (r, s2)) : fm_C w layX 105 l yX7_clear cX7_clear 1 none rm_X7_clear [.ref (fm_ad w 1)] s (none, s2) :=
  fm_of hI (by decide) rfl (Nat.le_of_ble_eq_true rfl) (e_X7_clear hI s _ h (fun r s e => by cases e; rfl))
-- X7_isFigure
abbrev rm_X7_isFigure : Room := { frames := 0, cells := 0, slots := 0, locals := 0 }
def f_X7_isFigure_17 (sk0 : Int32) (s : fm_M) : Option (Int32 × fm_M) :=
  if fm_b sk0 = true then some (sk0, s) else none
set_option maxHeartbeats 4000000 in
theorem t_X7_isFigure_17 {w : fm_W} {l : Launch} {o : fm_O} (hI : fm_I w 105) (sk0 : Int32) (s : fm_M) (z : Int32 × fm_M) (h : f_X7_isFigure_17 sk0 s = some z) (ho : ∀ (r : Int32) (s : fm_M), z = (r, s) → o = (some (.int r), s)) : fm_V w layX 105 l rm_X7_isFigure cX7_isFigure 1 RX7 (some .boolean) o 17 [none] [.int sk0] s := by
  unfold f_X7_isFigure_17 at h
  obtain ⟨hb, h⟩ := fm_ift h
  exact v_zret rfl (fm_b_nar hb).1 (ho _ _ (Option.some.inj h).symm) dX7_isFigure_17
def f_X7_isFigure_16 (s : fm_M) : Option (Int32 × fm_M) :=
  f_X7_isFigure_17 (0 : Int32) s
set_option maxHeartbeats 4000000 in
theorem t_X7_isFigure_16 {w : fm_W} {l : Launch} {o : fm_O} (hI : fm_I w 105) (s : fm_M) (z : Int32 × fm_M) (h : f_X7_isFigure_16 s = some z) (ho : ∀ (r : Int32) (s : fm_M), z = (r, s) → o = (some (.int r), s)) : fm_V w layX 105 l rm_X7_isFigure cX7_isFigure 1 RX7 (some .boolean) o 16 [none] [] s := by
  unfold f_X7_isFigure_16 at h
  refine v_iconst (0 : Int32) dX7_isFigure_16 (by decide) ?_
  refine v_lw [none] rfl trivial ?_
  exact t_X7_isFigure_17 hI (0 : Int32) s _ h ho
def f_X7_isFigure (v0 : Int32) (s : fm_M) : Option (Int32 × fm_M) :=
  if v0 < (48 : Int32) then f_X7_isFigure_16 s else if (57 : Int32) < v0 then f_X7_isFigure_16 s else f_X7_isFigure_17 (1 : Int32) s
set_option maxHeartbeats 4000000 in
theorem e_X7_isFigure {w : fm_W} {l : Launch} {o : fm_O} (hI : fm_I w 105) (v0 : Int32) (s : fm_M) (z : Int32 × fm_M) (h : f_X7_isFigure v0 s = some z) (ho : ∀ (r : Int32) (s : fm_M), z = (r, s) → o = (some (.int r), s)) : fm_V w layX 105 l rm_X7_isFigure cX7_isFigure 1 RX7 (some .boolean) o 0 [some (.int v0)] [] s := by
  unfold f_X7_isFigure at h
  refine v_iload_n 0 dX7_isFigure_0 rfl rfl ?_
  refine v_bipush (48 : Int32) dX7_isFigure_1 (by decide) ?_
  refine v_icmp_lt 16 dX7_isFigure_3 (by decide) h (fun h => ?_) (fun h => ?_)
  · refine v_lw [none] rfl trivial ?_
    exact t_X7_isFigure_16 hI s _ h ho
  · refine v_iload_n 0 dX7_isFigure_6 rfl rfl ?_
    refine v_bipush (57 : Int32) dX7_isFigure_7 (by decide) ?_
    refine v_icmp_gt 16 dX7_isFigure_9 (by decide) h (fun h => ?_) (fun h => ?_)
    · refine v_lw [none] rfl trivial ?_
      exact t_X7_isFigure_16 hI s _ h ho
    · refine v_iconst (1 : Int32) dX7_isFigure_12 (by decide) ?_
      refine v_goto 17 dX7_isFigure_13 (by decide) ?_
      refine v_lw [none] rfl trivial ?_
      exact t_X7_isFigure_17 hI (1 : Int32) s _ h ho
theorem c_X7_isFigure {w : fm_W} {l : Launch} (hI : fm_I w 105) {v0 : Int32} {s : fm_M} {r : Int32} {s2 : fm_M} (h : f_X7_isFigure v0 s = some (r, s2)) : fm_C w layX 105 l yX7_isFigure cX7_isFigure 1 (some .boolean) rm_X7_isFigure [.int v0] s (some (.int r), s2) :=
  fm_of hI (by decide) rfl (Nat.le_of_ble_eq_true rfl) (e_X7_isFigure hI v0 s _ h (fun r s e => by cases e; rfl))
-- X7_letterAt
abbrev rm_X7_letterAt : Room := { frames := 0, cells := 0, slots := 0, locals := 0 }
def f_X7_letterAt_31 (sk0 : Int32) (s : fm_M) : Option (Int32 × fm_M) :=
  if fm_ch sk0 = true then some (sk0, s) else none
set_option maxHeartbeats 4000000 in
theorem t_X7_letterAt_31 {w : fm_W} {l : Launch} {o : fm_O} (hI : fm_I w 105) (sk0 : Int32) (s : fm_M) (z : Int32 × fm_M) (h : f_X7_letterAt_31 sk0 s = some z) (ho : ∀ (r : Int32) (s : fm_M), z = (r, s) → o = (some (.int r), s)) : fm_V w layX 105 l rm_X7_letterAt cX7_letterAt 2 RX7 (some .char) o 31 [none, none] [.int sk0] s := by
  unfold f_X7_letterAt_31 at h
  obtain ⟨hb, h⟩ := fm_ift h
  exact v_zret rfl (fm_ch_nar hb) (ho _ _ (Option.some.inj h).symm) dX7_letterAt_31
def f_X7_letterAt_30 (s : fm_M) : Option (Int32 × fm_M) :=
  f_X7_letterAt_31 (0 : Int32) s
set_option maxHeartbeats 4000000 in
theorem t_X7_letterAt_30 {w : fm_W} {l : Launch} {o : fm_O} (hI : fm_I w 105) (s : fm_M) (z : Int32 × fm_M) (h : f_X7_letterAt_30 s = some z) (ho : ∀ (r : Int32) (s : fm_M), z = (r, s) → o = (some (.int r), s)) : fm_V w layX 105 l rm_X7_letterAt cX7_letterAt 2 RX7 (some .char) o 30 [none, none] [] s := by
  unfold f_X7_letterAt_30 at h
  refine v_iconst (0 : Int32) dX7_letterAt_30 (by decide) ?_
  refine v_lw [none, none] rfl trivial ?_
  exact t_X7_letterAt_31 hI (0 : Int32) s _ h ho
def f_X7_letterAt (v1 : Int32) (s : fm_M) : Option (Int32 × fm_M) :=
  if v1 < 0 then f_X7_letterAt_30 s else if (s 1 1) ≤ v1 then f_X7_letterAt_30 s else if (200 : Int32) ≤ v1 then f_X7_letterAt_30 s else if fm_in v1 200 = true then f_X7_letterAt_31 (s 2 v1.toNatClampNeg) s else none
set_option maxHeartbeats 4000000 in
theorem e_X7_letterAt {w : fm_W} {l : Launch} {o : fm_O} (hI : fm_I w 105) (v1 : Int32) (s : fm_M) (z : Int32 × fm_M) (h : f_X7_letterAt v1 s = some z) (ho : ∀ (r : Int32) (s : fm_M), z = (r, s) → o = (some (.int r), s)) : fm_V w layX 105 l rm_X7_letterAt cX7_letterAt 2 RX7 (some .char) o 0 [some (.ref (fm_ad w 1)), some (.int v1)] [] s := by
  unfold f_X7_letterAt at h
  refine v_iload_n 1 dX7_letterAt_0 rfl rfl ?_
  refine v_if_lt 30 dX7_letterAt_1 (by decide) h (fun h => ?_) (fun h => ?_)
  · refine v_lw [none, none] rfl trivial ?_
    exact t_X7_letterAt_30 hI s _ h ho
  · refine v_iload_n 1 dX7_letterAt_4 rfl rfl ?_
    refine v_aload_n 0 dX7_letterAt_5 rfl rfl ?_
    refine v_geti g_X7_15 yX_1 (by decide) rfl dX7_letterAt_6 ?_
    refine v_icmp_ge 30 dX7_letterAt_9 (by decide) h (fun h => ?_) (fun h => ?_)
    · refine v_lw [none, none] rfl trivial ?_
      exact t_X7_letterAt_30 hI s _ h ho
    · refine v_iload_n 1 dX7_letterAt_12 rfl rfl ?_
      refine v_aload_n 0 dX7_letterAt_13 rfl rfl ?_
      refine v_getr 2 g_X7_9 yX_1 (by decide) rfl dX7_letterAt_14 ?_
      refine v_clen (200 : Int32) (by decide) yX_2 (by decide) dX7_letterAt_17 ?_
      refine v_icmp_ge 30 dX7_letterAt_18 (by decide) h (fun h => ?_) (fun h => ?_)
      · refine v_lw [none, none] rfl trivial ?_
        exact t_X7_letterAt_30 hI s _ h ho
      · refine v_aload_n 0 dX7_letterAt_21 rfl rfl ?_
        refine v_getr 2 g_X7_9 yX_1 (by decide) rfl dX7_letterAt_22 ?_
        refine v_iload_n 1 dX7_letterAt_25 rfl rfl ?_
        obtain ⟨hi, h⟩ := fm_ift h
        refine v_cald (by decide) yX_2 hi dX7_letterAt_26 ?_
        refine v_goto 31 dX7_letterAt_27 (by decide) ?_
        refine v_lw [none, none] rfl trivial ?_
        exact t_X7_letterAt_31 hI (s 2 v1.toNatClampNeg) s _ h ho
theorem c_X7_letterAt {w : fm_W} {l : Launch} (hI : fm_I w 105) {v1 : Int32} {s : fm_M} {r : Int32} {s2 : fm_M} (h : f_X7_letterAt v1 s = some (r, s2)) : fm_C w layX 105 l yX7_letterAt cX7_letterAt 2 (some .char) rm_X7_letterAt [.ref (fm_ad w 1), .int v1] s (some (.int r), s2) :=
  fm_of hI (by decide) rfl (Nat.le_of_ble_eq_true rfl) (e_X7_letterAt hI v1 s _ h (fun r s e => by cases e; rfl))
-- X7_figuresAt
abbrev rm_X7_figuresAt : Room := { frames := 1, cells := 0, slots := 0, locals := 21 }
def f_X7_figuresAt_31 (sk0 : Int32) (s : fm_M) : Option (Int32 × fm_M) :=
  some (sk0, s)
set_option maxHeartbeats 4000000 in
theorem t_X7_figuresAt_31 {w : fm_W} {l : Launch} {o : fm_O} (hI : fm_I w 105) (sk0 : Int32) (s : fm_M) (z : Int32 × fm_M) (h : f_X7_figuresAt_31 sk0 s = some z) (ho : ∀ (r : Int32) (s : fm_M), z = (r, s) → o = (some (.int r), s)) : fm_V w layX 105 l rm_X7_figuresAt cX7_figuresAt 2 RX7 (some .int) o 31 [none, none] [.int sk0] s := by
  unfold f_X7_figuresAt_31 at h
  exact v_iret rfl (ho _ _ (Option.some.inj h).symm) dX7_figuresAt_31
def f_X7_figuresAt (v1 : Int32) (s : fm_M) : Option (Int32 × fm_M) :=
  fm_bd (f_X7_letterAt v1 s) (fun r1 s1 => fm_bd (f_X7_isFigure r1 s1) (fun r2 s2 => if r2 = 0 then some ((0 : Int32), s2) else fm_bd (f_X7_letterAt (v1 + (1 : Int32)) s2) (fun r3 s3 => fm_bd (f_X7_isFigure r3 s3) (fun r4 s4 => if r4 = 0 then f_X7_figuresAt_31 (1 : Int32) s4 else f_X7_figuresAt_31 (2 : Int32) s4))))
set_option maxHeartbeats 4000000 in
theorem e_X7_figuresAt {w : fm_W} {l : Launch} {o : fm_O} (hI : fm_I w 105) (v1 : Int32) (s : fm_M) (z : Int32 × fm_M) (h : f_X7_figuresAt v1 s = some z) (ho : ∀ (r : Int32) (s : fm_M), z = (r, s) → o = (some (.int r), s)) : fm_V w layX 105 l rm_X7_figuresAt cX7_figuresAt 2 RX7 (some .int) o 0 [some (.ref (fm_ad w 1)), some (.int v1)] [] s := by
  unfold f_X7_figuresAt at h
  refine v_aload_n 0 dX7_figuresAt_0 rfl rfl ?_
  refine v_iload_n 1 dX7_figuresAt_1 rfl rfl ?_
  obtain ⟨r1, s1, h1, h⟩ := fm_bds h
  refine v_cVi [.int v1] [] l_X7_28 (c_X7_letterAt hI h1) yX_1 (by decide) rfl rfl ⟨rfl, rfl, by decide, by decide⟩ (Nat.le_of_ble_eq_true rfl) dX7_figuresAt_2 ?_
  obtain ⟨r2, s2, h2, h⟩ := fm_bds h
  refine v_cSi [.int r1] [] l_X7_43 (c_X7_isFigure hI h2) rfl rfl ⟨rfl, rfl, by decide, by decide⟩ (Nat.le_of_ble_eq_true rfl) dX7_figuresAt_5 ?_
  refine v_if_ne 13 dX7_figuresAt_8 (by decide) h (fun h => ?_) (fun h => ?_)
  · refine v_aload_n 0 dX7_figuresAt_13 rfl rfl ?_
    refine v_iload_n 1 dX7_figuresAt_14 rfl rfl ?_
    refine v_iconst (1 : Int32) dX7_figuresAt_15 (by decide) ?_
    refine v_iadd dX7_figuresAt_16 ?_
    obtain ⟨r3, s3, h3, h⟩ := fm_bds h
    refine v_cVi [.int (v1 + (1 : Int32))] [] l_X7_28 (c_X7_letterAt hI h3) yX_1 (by decide) rfl rfl ⟨rfl, rfl, by decide, by decide⟩ (Nat.le_of_ble_eq_true rfl) dX7_figuresAt_17 ?_
    obtain ⟨r4, s4, h4, h⟩ := fm_bds h
    refine v_cSi [.int r3] [] l_X7_43 (c_X7_isFigure hI h4) rfl rfl ⟨rfl, rfl, by decide, by decide⟩ (Nat.le_of_ble_eq_true rfl) dX7_figuresAt_20 ?_
    refine v_if_eq 30 dX7_figuresAt_23 (by decide) h (fun h => ?_) (fun h => ?_)
    · refine v_iconst (1 : Int32) dX7_figuresAt_30 (by decide) ?_
      refine v_lw [none, none] rfl trivial ?_
      exact t_X7_figuresAt_31 hI (1 : Int32) s4 _ h ho
    · refine v_iconst (2 : Int32) dX7_figuresAt_26 (by decide) ?_
      refine v_goto 31 dX7_figuresAt_27 (by decide) ?_
      refine v_lw [none, none] rfl trivial ?_
      exact t_X7_figuresAt_31 hI (2 : Int32) s4 _ h ho
  · refine v_iconst (0 : Int32) dX7_figuresAt_11 (by decide) ?_
    exact v_iret rfl (ho _ _ (Option.some.inj h).symm) dX7_figuresAt_12
theorem c_X7_figuresAt {w : fm_W} {l : Launch} (hI : fm_I w 105) {v1 : Int32} {s : fm_M} {r : Int32} {s2 : fm_M} (h : f_X7_figuresAt v1 s = some (r, s2)) : fm_C w layX 105 l yX7_figuresAt cX7_figuresAt 2 (some .int) rm_X7_figuresAt [.ref (fm_ad w 1), .int v1] s (some (.int r), s2) :=
  fm_of hI (by decide) rfl (Nat.le_of_ble_eq_true rfl) (e_X7_figuresAt hI v1 s _ h (fun r s e => by cases e; rfl))
-- X7_numberAt
abbrev rm_X7_numberAt : Room := { frames := 2, cells := 0, slots := 0, locals := 42 }
def f_X7_numberAt_45 (sk0 : Int32) (s : fm_M) : Option (Int32 × fm_M) :=
  some (sk0, s)
set_option maxHeartbeats 4000000 in
theorem t_X7_numberAt_45 {w : fm_W} {l : Launch} {o : fm_O} (hI : fm_I w 105) (sk0 : Int32) (s : fm_M) (z : Int32 × fm_M) (h : f_X7_numberAt_45 sk0 s = some z) (ho : ∀ (r : Int32) (s : fm_M), z = (r, s) → o = (some (.int r), s)) : fm_V w layX 105 l rm_X7_numberAt cX7_numberAt 4 RX7 (some .int) o 45 [none, none, none, none] [.int sk0] s := by
  unfold f_X7_numberAt_45 at h
  exact v_iret rfl (ho _ _ (Option.some.inj h).symm) dX7_numberAt_45
def f_X7_numberAt (v1 : Int32) (s : fm_M) : Option (Int32 × fm_M) :=
  fm_bd (f_X7_figuresAt v1 s) (fun r1 s1 => if r1 = 0 then some ((-1 : Int32), s1) else fm_bd (f_X7_letterAt v1 s1) (fun r2 s2 => if r1 = (1 : Int32) then f_X7_numberAt_45 (r2 - (48 : Int32)) s2 else fm_bd (f_X7_letterAt (v1 + (1 : Int32)) s2) (fun r3 s3 => f_X7_numberAt_45 ((((10 : Int32) * (r2 - (48 : Int32))) + r3) - (48 : Int32)) s3)))
set_option maxHeartbeats 4000000 in
theorem e_X7_numberAt {w : fm_W} {l : Launch} {o : fm_O} (hI : fm_I w 105) (v1 : Int32) (s : fm_M) (z : Int32 × fm_M) (h : f_X7_numberAt v1 s = some z) (ho : ∀ (r : Int32) (s : fm_M), z = (r, s) → o = (some (.int r), s)) : fm_V w layX 105 l rm_X7_numberAt cX7_numberAt 4 RX7 (some .int) o 0 [some (.ref (fm_ad w 1)), some (.int v1), none, none] [] s := by
  unfold f_X7_numberAt at h
  refine v_aload_n 0 dX7_numberAt_0 rfl rfl ?_
  refine v_iload_n 1 dX7_numberAt_1 rfl rfl ?_
  obtain ⟨r1, s1, h1, h⟩ := fm_bds h
  refine v_cVi [.int v1] [] l_X7_36 (c_X7_figuresAt hI h1) yX_1 (by decide) rfl rfl ⟨rfl, rfl, by decide, by decide⟩ (Nat.le_of_ble_eq_true rfl) dX7_numberAt_2 ?_
  refine v_istore_n (lv' := [some (.ref (fm_ad w 1)), some (.int v1), some (.int r1), none]) 2 dX7_numberAt_5 rfl (by decide) rfl rfl ?_
  refine v_iload_n 2 dX7_numberAt_6 rfl rfl ?_
  refine v_if_ne 12 dX7_numberAt_7 (by decide) h (fun h => ?_) (fun h => ?_)
  · refine v_aload_n 0 dX7_numberAt_12 rfl rfl ?_
    refine v_iload_n 1 dX7_numberAt_13 rfl rfl ?_
    obtain ⟨r2, s2, h2, h⟩ := fm_bds h
    refine v_cVi [.int v1] [] l_X7_28 (c_X7_letterAt hI h2) yX_1 (by decide) rfl rfl ⟨rfl, rfl, by decide, by decide⟩ (Nat.le_of_ble_eq_true rfl) dX7_numberAt_14 ?_
    refine v_bipush (48 : Int32) dX7_numberAt_17 (by decide) ?_
    refine v_isub dX7_numberAt_19 ?_
    refine v_istore_n (lv' := [some (.ref (fm_ad w 1)), some (.int v1), some (.int r1), some (.int (r2 - (48 : Int32)))]) 3 dX7_numberAt_20 rfl (by decide) rfl rfl ?_
    refine v_iload_n 2 dX7_numberAt_21 rfl rfl ?_
    refine v_iconst (1 : Int32) dX7_numberAt_22 (by decide) ?_
    refine v_icmp_ne 30 dX7_numberAt_23 (by decide) h (fun h => ?_) (fun h => ?_)
    · refine v_bipush (10 : Int32) dX7_numberAt_30 (by decide) ?_
      refine v_iload_n 3 dX7_numberAt_32 rfl rfl ?_
      refine v_imul dX7_numberAt_33 ?_
      refine v_aload_n 0 dX7_numberAt_34 rfl rfl ?_
      refine v_iload_n 1 dX7_numberAt_35 rfl rfl ?_
      refine v_iconst (1 : Int32) dX7_numberAt_36 (by decide) ?_
      refine v_iadd dX7_numberAt_37 ?_
      obtain ⟨r3, s3, h3, h⟩ := fm_bds h
      refine v_cVi [.int (v1 + (1 : Int32))] [.int ((10 : Int32) * (r2 - (48 : Int32)))] l_X7_28 (c_X7_letterAt hI h3) yX_1 (by decide) rfl rfl ⟨rfl, rfl, by decide, by decide⟩ (Nat.le_of_ble_eq_true rfl) dX7_numberAt_38 ?_
      refine v_iadd dX7_numberAt_41 ?_
      refine v_bipush (48 : Int32) dX7_numberAt_42 (by decide) ?_
      refine v_isub dX7_numberAt_44 ?_
      refine v_lw [none, none, none, none] rfl trivial ?_
      exact t_X7_numberAt_45 hI ((((10 : Int32) * (r2 - (48 : Int32))) + r3) - (48 : Int32)) s3 _ h ho
    · refine v_iload_n 3 dX7_numberAt_26 rfl rfl ?_
      refine v_goto 45 dX7_numberAt_27 (by decide) ?_
      refine v_lw [none, none, none, none] rfl trivial ?_
      exact t_X7_numberAt_45 hI (r2 - (48 : Int32)) s2 _ h ho
  · refine v_iconst (-1 : Int32) dX7_numberAt_10 (by decide) ?_
    exact v_iret rfl (ho _ _ (Option.some.inj h).symm) dX7_numberAt_11
theorem c_X7_numberAt {w : fm_W} {l : Launch} (hI : fm_I w 105) {v1 : Int32} {s : fm_M} {r : Int32} {s2 : fm_M} (h : f_X7_numberAt v1 s = some (r, s2)) : fm_C w layX 105 l yX7_numberAt cX7_numberAt 4 (some .int) rm_X7_numberAt [.ref (fm_ad w 1), .int v1] s (some (.int r), s2) :=
  fm_of hI (by decide) rfl (Nat.le_of_ble_eq_true rfl) (e_X7_numberAt hI v1 s _ h (fun r s e => by cases e; rfl))
-- X7_readItem
abbrev rm_X7_readItem : Room := { frames := 3, cells := 0, slots := 0, locals := 65 }
def f_X7_readItem_126 (pt : Nat) (sk0 : Int32) (s : fm_M) : Option (Int32 × fm_M) :=
  some (sk0, s)
set_option maxHeartbeats 4000000 in
theorem t_X7_readItem_126 {w : fm_W} {l : Launch} {o : fm_O} (hI : fm_I w 105) {pt : Nat} (hpt : isPl pt) (sk0 : Int32) (s : fm_M) (z : Int32 × fm_M) (h : f_X7_readItem_126 pt sk0 s = some z) (ho : ∀ (r : Int32) (s : fm_M), z = (r, s) → o = (some (.int r), s)) : fm_V w layX 105 l rm_X7_readItem cX7_readItem 8 RX7 (some .int) o 126 [none, none, none, none, none, none, none, none] [.int sk0] s := by
  unfold f_X7_readItem_126 at h
  exact v_iret rfl (ho _ _ (Option.some.inj h).symm) dX7_readItem_126
def f_X7_readItem_125 (pt : Nat) (v1 : Int32) (s : fm_M) : Option (Int32 × fm_M) :=
  f_X7_readItem_126 pt v1 s
set_option maxHeartbeats 4000000 in
theorem t_X7_readItem_125 {w : fm_W} {l : Launch} {o : fm_O} (hI : fm_I w 105) {pt : Nat} (hpt : isPl pt) (v1 : Int32) (s : fm_M) (z : Int32 × fm_M) (h : f_X7_readItem_125 pt v1 s = some z) (ho : ∀ (r : Int32) (s : fm_M), z = (r, s) → o = (some (.int r), s)) : fm_V w layX 105 l rm_X7_readItem cX7_readItem 8 RX7 (some .int) o 125 [none, some (.int v1), none, none, none, none, none, none] [] s := by
  unfold f_X7_readItem_125 at h
  refine v_iload_n 1 dX7_readItem_125 rfl rfl ?_
  refine v_lw [none, none, none, none, none, none, none, none] rfl trivial ?_
  exact t_X7_readItem_126 hI hpt v1 s _ h ho
def f_X7_readItem_99 (pt : Nat) (v1 : Int32) (v3 : Int32) (v4 : Int32) (v5 : Int32) (v6 : Int32) (sk0 : Int32) (s : fm_M) : Option (Int32 × fm_M) :=
  if sk0 = 0 then f_X7_readItem_125 pt v1 s else fm_bd (f_X4_tell pt v3 v5 v6 s) (fun r5 s5 => if r5 = 0 then f_X7_readItem_125 pt v1 s5 else f_X7_readItem_126 pt (v4 + (1 : Int32)) s5)
set_option maxHeartbeats 4000000 in
theorem t_X7_readItem_99 {w : fm_W} {l : Launch} {o : fm_O} (hI : fm_I w 105) {pt : Nat} (hpt : isPl pt) (v1 : Int32) (v3 : Int32) (v4 : Int32) (v5 : Int32) (v6 : Int32) (sk0 : Int32) (s : fm_M) (z : Int32 × fm_M) (h : f_X7_readItem_99 pt v1 v3 v4 v5 v6 sk0 s = some z) (ho : ∀ (r : Int32) (s : fm_M), z = (r, s) → o = (some (.int r), s)) : fm_V w layX 105 l rm_X7_readItem cX7_readItem 8 RX7 (some .int) o 99 [none, some (.int v1), some (.ref (fm_ad w pt)), some (.int v3), some (.int v4), some (.int v5), some (.int v6), none] [.int sk0] s := by
  unfold f_X7_readItem_99 at h
  refine v_istore (lv' := [none, some (.int v1), some (.ref (fm_ad w pt)), some (.int v3), some (.int v4), some (.int v5), some (.int v6), some (.int sk0)]) dX7_readItem_99 (by decide) rfl rfl ?_
  refine v_iload dX7_readItem_101 rfl ?_
  refine v_if_eq 125 dX7_readItem_103 (by decide) h (fun h => ?_) (fun h => ?_)
  · refine v_lw [none, some (.int v1), none, none, none, none, none, none] rfl ⟨rfl, trivial⟩ ?_
    exact t_X7_readItem_125 hI hpt v1 s _ h ho
  · refine v_aload_n 2 dX7_readItem_106 rfl rfl ?_
    refine v_iload_n 3 dX7_readItem_107 rfl rfl ?_
    refine v_iload dX7_readItem_108 rfl ?_
    refine v_iload dX7_readItem_110 rfl ?_
    obtain ⟨r5, s5, h5, h⟩ := fm_bds h
    refine v_cVi [.int v3, .int v5, .int v6] [] l_X7_39 (c_X4_tell hI hpt h5) hpt.1 (isPl.lt (j := 0) hpt (by decide)) rfl rfl ⟨rfl, rfl, by decide, by decide⟩ (Nat.le_of_ble_eq_true rfl) dX7_readItem_112 ?_
    refine v_if_eq 125 dX7_readItem_115 (by decide) h (fun h => ?_) (fun h => ?_)
    · refine v_lw [none, some (.int v1), none, none, none, none, none, none] rfl ⟨rfl, trivial⟩ ?_
      exact t_X7_readItem_125 hI hpt v1 s5 _ h ho
    · refine v_iload dX7_readItem_118 rfl ?_
      refine v_iconst (1 : Int32) dX7_readItem_120 (by decide) ?_
      refine v_iadd dX7_readItem_121 ?_
      refine v_goto 126 dX7_readItem_122 (by decide) ?_
      refine v_lw [none, none, none, none, none, none, none, none] rfl trivial ?_
      exact t_X7_readItem_126 hI hpt (v4 + (1 : Int32)) s5 _ h ho
def f_X7_readItem_98 (pt : Nat) (v1 : Int32) (v3 : Int32) (v4 : Int32) (v5 : Int32) (v6 : Int32) (s : fm_M) : Option (Int32 × fm_M) :=
  f_X7_readItem_99 pt v1 v3 v4 v5 v6 (0 : Int32) s
set_option maxHeartbeats 4000000 in
theorem t_X7_readItem_98 {w : fm_W} {l : Launch} {o : fm_O} (hI : fm_I w 105) {pt : Nat} (hpt : isPl pt) (v1 : Int32) (v3 : Int32) (v4 : Int32) (v5 : Int32) (v6 : Int32) (s : fm_M) (z : Int32 × fm_M) (h : f_X7_readItem_98 pt v1 v3 v4 v5 v6 s = some z) (ho : ∀ (r : Int32) (s : fm_M), z = (r, s) → o = (some (.int r), s)) : fm_V w layX 105 l rm_X7_readItem cX7_readItem 8 RX7 (some .int) o 98 [none, some (.int v1), some (.ref (fm_ad w pt)), some (.int v3), some (.int v4), some (.int v5), some (.int v6), none] [] s := by
  unfold f_X7_readItem_98 at h
  refine v_iconst (0 : Int32) dX7_readItem_98 (by decide) ?_
  refine v_lw [none, some (.int v1), some (.ref (fm_ad w pt)), some (.int v3), some (.int v4), some (.int v5), some (.int v6), none] rfl ⟨rfl, rfl, rfl, rfl, rfl, rfl, trivial⟩ ?_
  exact t_X7_readItem_99 hI hpt v1 v3 v4 v5 v6 (0 : Int32) s _ h ho
def f_X7_readItem_77 (pt : Nat) (v1 : Int32) (v3 : Int32) (v4 : Int32) (v5 : Int32) (v6 : Int32) (s : fm_M) : Option (Int32 × fm_M) :=
  if v5 = (-1 : Int32) then f_X7_readItem_98 pt v1 v3 v4 v5 v6 s else fm_bd (f_X7_letterAt v4 s) (fun r6 s6 => if r6 = (59 : Int32) then f_X7_readItem_99 pt v1 v3 v4 v5 v6 (1 : Int32) s6 else f_X7_readItem_98 pt v1 v3 v4 v5 v6 s6)
set_option maxHeartbeats 4000000 in
theorem t_X7_readItem_77 {w : fm_W} {l : Launch} {o : fm_O} (hI : fm_I w 105) {pt : Nat} (hpt : isPl pt) (v1 : Int32) (v3 : Int32) (v4 : Int32) (v5 : Int32) (v6 : Int32) (s : fm_M) (z : Int32 × fm_M) (h : f_X7_readItem_77 pt v1 v3 v4 v5 v6 s = some z) (ho : ∀ (r : Int32) (s : fm_M), z = (r, s) → o = (some (.int r), s)) : fm_V w layX 105 l rm_X7_readItem cX7_readItem 8 RX7 (some .int) o 77 [some (.ref (fm_ad w 1)), some (.int v1), some (.ref (fm_ad w pt)), some (.int v3), some (.int v4), some (.int v5), some (.int v6), none] [] s := by
  unfold f_X7_readItem_77 at h
  refine v_iload dX7_readItem_77 rfl ?_
  refine v_iconst (-1 : Int32) dX7_readItem_79 (by decide) ?_
  refine v_icmp_eq 98 dX7_readItem_80 (by decide) h (fun h => ?_) (fun h => ?_)
  · refine v_lw [none, some (.int v1), some (.ref (fm_ad w pt)), some (.int v3), some (.int v4), some (.int v5), some (.int v6), none] rfl ⟨rfl, rfl, rfl, rfl, rfl, rfl, trivial⟩ ?_
    exact t_X7_readItem_98 hI hpt v1 v3 v4 v5 v6 s _ h ho
  · refine v_aload_n 0 dX7_readItem_83 rfl rfl ?_
    refine v_iload dX7_readItem_84 rfl ?_
    obtain ⟨r6, s6, h6, h⟩ := fm_bds h
    refine v_cVi [.int v4] [] l_X7_28 (c_X7_letterAt hI h6) yX_1 (by decide) rfl rfl ⟨rfl, rfl, by decide, by decide⟩ (Nat.le_of_ble_eq_true rfl) dX7_readItem_86 ?_
    refine v_bipush (59 : Int32) dX7_readItem_89 (by decide) ?_
    refine v_icmp_ne 98 dX7_readItem_91 (by decide) h (fun h => ?_) (fun h => ?_)
    · refine v_lw [none, some (.int v1), some (.ref (fm_ad w pt)), some (.int v3), some (.int v4), some (.int v5), some (.int v6), none] rfl ⟨rfl, rfl, rfl, rfl, rfl, rfl, trivial⟩ ?_
      exact t_X7_readItem_98 hI hpt v1 v3 v4 v5 v6 s6 _ h ho
    · refine v_iconst (1 : Int32) dX7_readItem_94 (by decide) ?_
      refine v_goto 99 dX7_readItem_95 (by decide) ?_
      refine v_lw [none, some (.int v1), some (.ref (fm_ad w pt)), some (.int v3), some (.int v4), some (.int v5), some (.int v6), none] rfl ⟨rfl, rfl, rfl, rfl, rfl, rfl, trivial⟩ ?_
      exact t_X7_readItem_99 hI hpt v1 v3 v4 v5 v6 (1 : Int32) s6 _ h ho
def f_X7_readItem (pt : Nat) (v1 : Int32) (s : fm_M) : Option (Int32 × fm_M) :=
  fm_bd (f_X7_letterAt v1 s) (fun r1 s1 => fm_bd (f_X7_numberAt (v1 + (1 : Int32)) s1) (fun r2 s2 => fm_bd (f_X7_figuresAt (v1 + (1 : Int32)) s2) (fun r3 s3 => fm_bd (f_X7_letterAt ((v1 + (1 : Int32)) + r3) s3) (fun r4 s4 => if r4 = (44 : Int32) then fm_bd (f_X7_numberAt (((v1 + (1 : Int32)) + r3) + (1 : Int32)) s4) (fun r7 s7 => if r7 = (-1 : Int32) then some (v1, s7) else fm_bd (f_X7_figuresAt (((v1 + (1 : Int32)) + r3) + (1 : Int32)) s7) (fun r8 s8 => f_X7_readItem_77 pt v1 r1 (((v1 + (1 : Int32)) + r3) + ((1 : Int32) + r8)) r2 r7 s8)) else f_X7_readItem_77 pt v1 r1 ((v1 + (1 : Int32)) + r3) r2 (-1 : Int32) s4))))
set_option maxHeartbeats 4000000 in
theorem e_X7_readItem {w : fm_W} {l : Launch} {o : fm_O} (hI : fm_I w 105) {pt : Nat} (hpt : isPl pt) (v1 : Int32) (s : fm_M) (z : Int32 × fm_M) (h : f_X7_readItem pt v1 s = some z) (ho : ∀ (r : Int32) (s : fm_M), z = (r, s) → o = (some (.int r), s)) : fm_V w layX 105 l rm_X7_readItem cX7_readItem 8 RX7 (some .int) o 0 [some (.ref (fm_ad w 1)), some (.int v1), some (.ref (fm_ad w pt)), none, none, none, none, none] [] s := by
  unfold f_X7_readItem at h
  refine v_aload_n 0 dX7_readItem_0 rfl rfl ?_
  refine v_iload_n 1 dX7_readItem_1 rfl rfl ?_
  obtain ⟨r1, s1, h1, h⟩ := fm_bds h
  refine v_cVi [.int v1] [] l_X7_28 (c_X7_letterAt hI h1) yX_1 (by decide) rfl rfl ⟨rfl, rfl, by decide, by decide⟩ (Nat.le_of_ble_eq_true rfl) dX7_readItem_2 ?_
  refine v_istore_n (lv' := [some (.ref (fm_ad w 1)), some (.int v1), some (.ref (fm_ad w pt)), some (.int r1), none, none, none, none]) 3 dX7_readItem_5 rfl (by decide) rfl rfl ?_
  refine v_iload_n 1 dX7_readItem_6 rfl rfl ?_
  refine v_iconst (1 : Int32) dX7_readItem_7 (by decide) ?_
  refine v_iadd dX7_readItem_8 ?_
  refine v_istore (lv' := [some (.ref (fm_ad w 1)), some (.int v1), some (.ref (fm_ad w pt)), some (.int r1), some (.int (v1 + (1 : Int32))), none, none, none]) dX7_readItem_9 (by decide) rfl rfl ?_
  refine v_aload_n 0 dX7_readItem_11 rfl rfl ?_
  refine v_iload dX7_readItem_12 rfl ?_
  obtain ⟨r2, s2, h2, h⟩ := fm_bds h
  refine v_cVi [.int (v1 + (1 : Int32))] [] l_X7_32 (c_X7_numberAt hI h2) yX_1 (by decide) rfl rfl ⟨rfl, rfl, by decide, by decide⟩ (Nat.le_of_ble_eq_true rfl) dX7_readItem_14 ?_
  refine v_istore (lv' := [some (.ref (fm_ad w 1)), some (.int v1), some (.ref (fm_ad w pt)), some (.int r1), some (.int (v1 + (1 : Int32))), some (.int r2), none, none]) dX7_readItem_17 (by decide) rfl rfl ?_
  refine v_iload dX7_readItem_19 rfl ?_
  refine v_aload_n 0 dX7_readItem_21 rfl rfl ?_
  refine v_iload dX7_readItem_22 rfl ?_
  obtain ⟨r3, s3, h3, h⟩ := fm_bds h
  refine v_cVi [.int (v1 + (1 : Int32))] [.int (v1 + (1 : Int32))] l_X7_36 (c_X7_figuresAt hI h3) yX_1 (by decide) rfl rfl ⟨rfl, rfl, by decide, by decide⟩ (Nat.le_of_ble_eq_true rfl) dX7_readItem_24 ?_
  refine v_iadd dX7_readItem_27 ?_
  refine v_istore (lv' := [some (.ref (fm_ad w 1)), some (.int v1), some (.ref (fm_ad w pt)), some (.int r1), some (.int ((v1 + (1 : Int32)) + r3)), some (.int r2), none, none]) dX7_readItem_28 (by decide) rfl rfl ?_
  refine v_iconst (-1 : Int32) dX7_readItem_30 (by decide) ?_
  refine v_istore (lv' := [some (.ref (fm_ad w 1)), some (.int v1), some (.ref (fm_ad w pt)), some (.int r1), some (.int ((v1 + (1 : Int32)) + r3)), some (.int r2), some (.int (-1 : Int32)), none]) dX7_readItem_31 (by decide) rfl rfl ?_
  refine v_aload_n 0 dX7_readItem_33 rfl rfl ?_
  refine v_iload dX7_readItem_34 rfl ?_
  obtain ⟨r4, s4, h4, h⟩ := fm_bds h
  refine v_cVi [.int ((v1 + (1 : Int32)) + r3)] [] l_X7_28 (c_X7_letterAt hI h4) yX_1 (by decide) rfl rfl ⟨rfl, rfl, by decide, by decide⟩ (Nat.le_of_ble_eq_true rfl) dX7_readItem_36 ?_
  refine v_bipush (44 : Int32) dX7_readItem_39 (by decide) ?_
  refine v_icmp_ne 77 dX7_readItem_41 (by decide) h (fun h => ?_) (fun h => ?_)
  · refine v_lw [some (.ref (fm_ad w 1)), some (.int v1), some (.ref (fm_ad w pt)), some (.int r1), some (.int ((v1 + (1 : Int32)) + r3)), some (.int r2), some (.int (-1 : Int32)), none] rfl ⟨rfl, rfl, rfl, rfl, rfl, rfl, rfl, trivial⟩ ?_
    exact t_X7_readItem_77 hI hpt v1 r1 ((v1 + (1 : Int32)) + r3) r2 (-1 : Int32) s4 _ h ho
  · refine v_aload_n 0 dX7_readItem_44 rfl rfl ?_
    refine v_iload dX7_readItem_45 rfl ?_
    refine v_iconst (1 : Int32) dX7_readItem_47 (by decide) ?_
    refine v_iadd dX7_readItem_48 ?_
    obtain ⟨r7, s7, h7, h⟩ := fm_bds h
    refine v_cVi [.int (((v1 + (1 : Int32)) + r3) + (1 : Int32))] [] l_X7_32 (c_X7_numberAt hI h7) yX_1 (by decide) rfl rfl ⟨rfl, rfl, by decide, by decide⟩ (Nat.le_of_ble_eq_true rfl) dX7_readItem_49 ?_
    refine v_istore (lv' := [some (.ref (fm_ad w 1)), some (.int v1), some (.ref (fm_ad w pt)), some (.int r1), some (.int ((v1 + (1 : Int32)) + r3)), some (.int r2), some (.int r7), none]) dX7_readItem_52 (by decide) rfl rfl ?_
    refine v_iload dX7_readItem_54 rfl ?_
    refine v_iconst (-1 : Int32) dX7_readItem_56 (by decide) ?_
    refine v_icmp_ne 62 dX7_readItem_57 (by decide) h (fun h => ?_) (fun h => ?_)
    · refine v_iload dX7_readItem_62 rfl ?_
      refine v_iconst (1 : Int32) dX7_readItem_64 (by decide) ?_
      refine v_aload_n 0 dX7_readItem_65 rfl rfl ?_
      refine v_iload dX7_readItem_66 rfl ?_
      refine v_iconst (1 : Int32) dX7_readItem_68 (by decide) ?_
      refine v_iadd dX7_readItem_69 ?_
      obtain ⟨r8, s8, h8, h⟩ := fm_bds h
      refine v_cVi [.int (((v1 + (1 : Int32)) + r3) + (1 : Int32))] [.int (1 : Int32), .int ((v1 + (1 : Int32)) + r3)] l_X7_36 (c_X7_figuresAt hI h8) yX_1 (by decide) rfl rfl ⟨rfl, rfl, by decide, by decide⟩ (Nat.le_of_ble_eq_true rfl) dX7_readItem_70 ?_
      refine v_iadd dX7_readItem_73 ?_
      refine v_iadd dX7_readItem_74 ?_
      refine v_istore (lv' := [some (.ref (fm_ad w 1)), some (.int v1), some (.ref (fm_ad w pt)), some (.int r1), some (.int (((v1 + (1 : Int32)) + r3) + ((1 : Int32) + r8))), some (.int r2), some (.int r7), none]) dX7_readItem_75 (by decide) rfl rfl ?_
      refine v_lw [some (.ref (fm_ad w 1)), some (.int v1), some (.ref (fm_ad w pt)), some (.int r1), some (.int (((v1 + (1 : Int32)) + r3) + ((1 : Int32) + r8))), some (.int r2), some (.int r7), none] rfl ⟨rfl, rfl, rfl, rfl, rfl, rfl, rfl, trivial⟩ ?_
      exact t_X7_readItem_77 hI hpt v1 r1 (((v1 + (1 : Int32)) + r3) + ((1 : Int32) + r8)) r2 r7 s8 _ h ho
    · refine v_iload_n 1 dX7_readItem_60 rfl rfl ?_
      exact v_iret rfl (ho _ _ (Option.some.inj h).symm) dX7_readItem_61
theorem c_X7_readItem {w : fm_W} {l : Launch} (hI : fm_I w 105) {pt : Nat} (hpt : isPl pt) {v1 : Int32} {s : fm_M} {r : Int32} {s2 : fm_M} (h : f_X7_readItem pt v1 s = some (r, s2)) : fm_C w layX 105 l yX7_readItem cX7_readItem 8 (some .int) rm_X7_readItem [.ref (fm_ad w 1), .int v1, .ref (fm_ad w pt)] s (some (.int r), s2) :=
  fm_of hI (by decide) rfl (Nat.le_of_ble_eq_true rfl) (e_X7_readItem hI hpt v1 s _ h (fun r s e => by cases e; rfl))
-- X7_readInto
abbrev rm_X7_readInto : Room := { frames := 4, cells := 0, slots := 0, locals := 92 }
def f_X7_readInto_6 (pt : Nat) (s : fm_M) (v2 : Int32) : Option ((fm_M × Int32) ⊕ ((Int32 × fm_M) ⊕ (fm_M × Int32))) :=
  if (s 1 1) ≤ v2 then some (.inr (.inr (s, v2))) else fm_bd (f_X7_readItem pt v2 s) (fun r2 s2 => if v2 < r2 then some (.inl (s2, r2)) else some (.inr (.inl (v2, s2))))
set_option maxHeartbeats 4000000 in
theorem t_X7_readInto_6 {w : fm_W} {l : Launch} {o : fm_O} (hI : fm_I w 105) {pt : Nat} (hpt : isPl pt) (s : fm_M) (v2 : Int32) (z : (fm_M × Int32) ⊕ ((Int32 × fm_M) ⊕ (fm_M × Int32))) (h : f_X7_readInto_6 pt s v2 = some z) (kb : ∀ (s : fm_M) (u2 : Int32), z = .inl (s, u2) → fm_V w layX 105 l rm_X7_readInto cX7_readInto 4 RX7 (some .int) o 6 [some (.ref (fm_ad w 1)), some (.ref (fm_ad w pt)), some (.int u2), none] [] s) (ke : ∀ (s : fm_M) (u2 : Int32), z = .inr (.inr (s, u2)) → fm_V w layX 105 l rm_X7_readInto cX7_readInto 4 RX7 (some .int) o 33 [some (.ref (fm_ad w 1)), some (.ref (fm_ad w pt)), some (.int u2), none] [] s) (kr : ∀ (r : Int32) (s : fm_M), z = .inr (.inl (r, s)) → o = (some (.int r), s)) : fm_V w layX 105 l rm_X7_readInto cX7_readInto 4 RX7 (some .int) o 6 [some (.ref (fm_ad w 1)), some (.ref (fm_ad w pt)), some (.int v2), none] [] s := by
  unfold f_X7_readInto_6 at h
  refine v_iload_n 2 dX7_readInto_6 rfl rfl ?_
  refine v_aload_n 0 dX7_readInto_7 rfl rfl ?_
  refine v_geti g_X7_15 yX_1 (by decide) rfl dX7_readInto_8 ?_
  refine v_icmp_ge 33 dX7_readInto_11 (by decide) h (fun h => ?_) (fun h => ?_)
  · refine v_lw [some (.ref (fm_ad w 1)), some (.ref (fm_ad w pt)), some (.int v2), none] rfl ⟨rfl, rfl, rfl, trivial⟩ ?_
    exact ke _ _ (Option.some.inj h).symm
  · refine v_aload_n 0 dX7_readInto_14 rfl rfl ?_
    refine v_iload_n 2 dX7_readInto_15 rfl rfl ?_
    refine v_aload_n 1 dX7_readInto_16 rfl rfl ?_
    obtain ⟨r2, s2, h2, h⟩ := fm_bds h
    refine v_cVi [.int v2, .ref (fm_ad w pt)] [] l_X7_24 (c_X7_readItem hI hpt h2) yX_1 (by decide) rfl rfl ⟨rfl, rfl, by decide, by decide⟩ (Nat.le_of_ble_eq_true rfl) dX7_readInto_17 ?_
    refine v_istore_n (lv' := [some (.ref (fm_ad w 1)), some (.ref (fm_ad w pt)), some (.int v2), some (.int r2)]) 3 dX7_readInto_20 rfl (by decide) rfl rfl ?_
    refine v_iload_n 3 dX7_readInto_21 rfl rfl ?_
    refine v_iload_n 2 dX7_readInto_22 rfl rfl ?_
    refine v_icmp_gt 28 dX7_readInto_23 (by decide) h (fun h => ?_) (fun h => ?_)
    · refine v_iload_n 3 dX7_readInto_28 rfl rfl ?_
      refine v_istore_n (lv' := [some (.ref (fm_ad w 1)), some (.ref (fm_ad w pt)), some (.int r2), some (.int r2)]) 2 dX7_readInto_29 rfl (by decide) rfl rfl ?_
      refine v_goto 6 dX7_readInto_30 (by decide) ?_
      refine v_lw [some (.ref (fm_ad w 1)), some (.ref (fm_ad w pt)), some (.int r2), none] rfl ⟨rfl, rfl, rfl, trivial⟩ ?_
      exact kb _ _ (Option.some.inj h).symm
    · refine v_iload_n 2 dX7_readInto_26 rfl rfl ?_
      exact v_iret rfl (kr _ _ (Option.some.inj h).symm) dX7_readInto_27
set_option maxHeartbeats 4000000 in
theorem i_X7_readInto_6 {w : fm_W} {l : Launch} {o : fm_O} (hI : fm_I w 105) {pt : Nat} (hpt : isPl pt) (n : Nat) (s : fm_M) (v2 : Int32) (q : (Int32 × fm_M) ⊕ (fm_M × Int32)) (h : fm_it (fun s => f_X7_readInto_6 pt s.1 s.2) n (s, v2) = some q) (kr : ∀ (r : Int32) (s : fm_M), q = .inl (r, s) → o = (some (.int r), s)) (ke : ∀ (s : fm_M) (u2 : Int32), q = .inr (s, u2) → fm_V w layX 105 l rm_X7_readInto cX7_readInto 4 RX7 (some .int) o 33 [some (.ref (fm_ad w 1)), some (.ref (fm_ad w pt)), some (.int u2), none] [] s) : fm_V w layX 105 l rm_X7_readInto cX7_readInto 4 RX7 (some .int) o 6 [some (.ref (fm_ad w 1)), some (.ref (fm_ad w pt)), some (.int v2), none] [] s :=
  fm_it_loop (body := (fun s => f_X7_readInto_6 pt s.1 s.2)) (P := fun s => fm_V w layX 105 l rm_X7_readInto cX7_readInto 4 RX7 (some .int) o 6 [some (.ref (fm_ad w 1)), some (.ref (fm_ad w pt)), some (.int s.2), none] [] s.1) (K := (fun q : (Int32 × fm_M) ⊕ (fm_M × Int32) => (∀ (r : Int32) (s : fm_M), q = .inl (r, s) → o = (some (.int r), s)) ∧ (∀ (s : fm_M) (u2 : Int32), q = .inr (s, u2) → fm_V w layX 105 l rm_X7_readInto cX7_readInto 4 RX7 (some .int) o 33 [some (.ref (fm_ad w 1)), some (.ref (fm_ad w pt)), some (.int u2), none] [] s))) (fun s z hb kl kx => t_X7_readInto_6 hI hpt s.1 s.2 z hb (fun s u2 e => kl _ e) (fun s u2 e => (kx _ e).2 s u2 rfl) (fun r s e => (kx _ e).1 r s rfl)) n (s, v2) q h ⟨kr, ke⟩
def f_X7_readInto (pt : Nat) (s : fm_M) : Option (Int32 × fm_M) :=
  fm_bd (f_X4_clear pt s) (fun r1 s1 => fm_op (fm_it (fun (yy : fm_M × Int32) => f_X7_readInto_6 pt yy.1 yy.2) fm_fu (s1, (0 : Int32))) (fun q3 => Sum.elim (fun r => some r) (fun t3 => ((fun (s3 : fm_M) (x3_2 : Int32) => some ((-4 : Int32), s3))) t3.1 t3.2) q3))
set_option maxHeartbeats 4000000 in
theorem e_X7_readInto {w : fm_W} {l : Launch} {o : fm_O} (hI : fm_I w 105) {pt : Nat} (hpt : isPl pt) (s : fm_M) (z : Int32 × fm_M) (h : f_X7_readInto pt s = some z) (ho : ∀ (r : Int32) (s : fm_M), z = (r, s) → o = (some (.int r), s)) : fm_V w layX 105 l rm_X7_readInto cX7_readInto 4 RX7 (some .int) o 0 [some (.ref (fm_ad w 1)), some (.ref (fm_ad w pt)), none, none] [] s := by
  unfold f_X7_readInto at h
  refine v_aload_n 1 dX7_readInto_0 rfl rfl ?_
  obtain ⟨r1, s1, h1, h⟩ := fm_bds h
  refine v_cVv [] [] l_X7_19 (c_X4_clear hI hpt h1) hpt.1 (isPl.lt (j := 0) hpt (by decide)) rfl rfl ⟨rfl, rfl, by decide, by decide⟩ (Nat.le_of_ble_eq_true rfl) dX7_readInto_1 ?_
  refine v_iconst (0 : Int32) dX7_readInto_4 (by decide) ?_
  refine v_istore_n (lv' := [some (.ref (fm_ad w 1)), some (.ref (fm_ad w pt)), some (.int (0 : Int32)), none]) 2 dX7_readInto_5 rfl (by decide) rfl rfl ?_
  obtain ⟨q3, h3, h⟩ := fm_ops h
  refine v_lw [some (.ref (fm_ad w 1)), some (.ref (fm_ad w pt)), some (.int (0 : Int32)), none] rfl ⟨rfl, rfl, rfl, trivial⟩ ?_
  refine i_X7_readInto_6 hI hpt _ _ _ _ h3 (fun r s e => by subst e; exact ho r s (Option.some.inj h).symm) (fun s3 x3_2 e => ?_)
  subst e
  dsimp only [Sum.elim] at h
  refine v_bipush (-4 : Int32) dX7_readInto_33 (by decide) ?_
  exact v_iret rfl (ho _ _ (Option.some.inj h).symm) dX7_readInto_35
theorem c_X7_readInto {w : fm_W} {l : Launch} (hI : fm_I w 105) {pt : Nat} (hpt : isPl pt) {s : fm_M} {r : Int32} {s2 : fm_M} (h : f_X7_readInto pt s = some (r, s2)) : fm_C w layX 105 l yX7_readInto cX7_readInto 4 (some .int) rm_X7_readInto [.ref (fm_ad w 1), .ref (fm_ad w pt)] s (some (.int r), s2) :=
  fm_of hI (by decide) rfl (Nat.le_of_ble_eq_true rfl) (e_X7_readInto hI hpt s _ h (fun r s e => by cases e; rfl))
