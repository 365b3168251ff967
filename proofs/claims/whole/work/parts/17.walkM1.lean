-- X9_how
abbrev rm_X9_how : Room := { frames := 0, cells := 0, slots := 0, locals := 0 }
def f_X9_how_32 (v1 : Int32) (v2 : Int32) (v3 : Int32) (v5 : Int32) (sk0 : Int32) (sk1 : Int32) (s : fm_M) : Option ((fm_M × Int32 × Int32) ⊕ (fm_M × Int32 × Int32)) :=
  some (.inl (s, (sk1 + sk0), (v5 + (1 : Int32))))
set_option maxHeartbeats 4000000 in
theorem t_X9_how_32 {w : fm_W} {l : Launch} {o : fm_O} (hI : fm_I w 11) (v1 : Int32) (v2 : Int32) (v3 : Int32) (v5 : Int32) (sk0 : Int32) (sk1 : Int32) (s : fm_M) (z : (fm_M × Int32 × Int32) ⊕ (fm_M × Int32 × Int32)) (h : f_X9_how_32 v1 v2 v3 v5 sk0 sk1 s = some z) (kb : ∀ (s : fm_M) (u4 : Int32) (u5 : Int32), z = .inl (s, u4, u5) → fm_V w layM 11 l rm_X9_how cX9_how 6 RX9 (some .int) o 6 [some (.ref (fm_ad w 0)), some (.int v1), some (.int v2), some (.int v3), some (.int u4), some (.int u5)] [] s) (ke : ∀ (s : fm_M) (u4 : Int32) (u5 : Int32), z = .inr (s, u4, u5) → fm_V w layM 11 l rm_X9_how cX9_how 6 RX9 (some .int) o 41 [some (.ref (fm_ad w 0)), some (.int v1), some (.int v2), some (.int v3), some (.int u4), some (.int u5)] [] s) : fm_V w layM 11 l rm_X9_how cX9_how 6 RX9 (some .int) o 32 [some (.ref (fm_ad w 0)), some (.int v1), some (.int v2), some (.int v3), none, some (.int v5)] [.int sk0, .int sk1] s := by
  unfold f_X9_how_32 at h
  refine v_iadd dX9_how_32 ?_
  refine v_istore (lv' := [some (.ref (fm_ad w 0)), some (.int v1), some (.int v2), some (.int v3), some (.int (sk1 + sk0)), some (.int v5)]) dX9_how_33 (by decide) rfl rfl ?_
  refine v_iinc (lv' := [some (.ref (fm_ad w 0)), some (.int v1), some (.int v2), some (.int v3), some (.int (sk1 + sk0)), some (.int (v5 + (1 : Int32)))]) (1 : Int32) dX9_how_35 rfl (by decide) (by decide) rfl rfl ?_
  refine v_goto 6 dX9_how_38 (by decide) ?_
  refine v_lw [some (.ref (fm_ad w 0)), some (.int v1), some (.int v2), some (.int v3), some (.int (sk1 + sk0)), some (.int (v5 + (1 : Int32)))] rfl ⟨rfl, rfl, rfl, rfl, rfl, rfl, trivial⟩ ?_
  exact kb _ _ _ (Option.some.inj h).symm
def f_X9_how_6 (v1 : Int32) (v2 : Int32) (v3 : Int32) (s : fm_M) (v4 : Int32) (v5 : Int32) : Option ((fm_M × Int32 × Int32) ⊕ (fm_M × Int32 × Int32)) :=
  if v2 ≤ v5 then some (.inr (s, v4, v5)) else if fm_in (v1 + v5) 29 = true then if (s 4 (v1 + v5).toNatClampNeg) = v3 then f_X9_how_32 v1 v2 v3 v5 (1 : Int32) v4 s else f_X9_how_32 v1 v2 v3 v5 (0 : Int32) v4 s else none
set_option maxHeartbeats 4000000 in
theorem t_X9_how_6 {w : fm_W} {l : Launch} {o : fm_O} (hI : fm_I w 11) (v1 : Int32) (v2 : Int32) (v3 : Int32) (s : fm_M) (v4 : Int32) (v5 : Int32) (z : (fm_M × Int32 × Int32) ⊕ (fm_M × Int32 × Int32)) (h : f_X9_how_6 v1 v2 v3 s v4 v5 = some z) (kb : ∀ (s : fm_M) (u4 : Int32) (u5 : Int32), z = .inl (s, u4, u5) → fm_V w layM 11 l rm_X9_how cX9_how 6 RX9 (some .int) o 6 [some (.ref (fm_ad w 0)), some (.int v1), some (.int v2), some (.int v3), some (.int u4), some (.int u5)] [] s) (ke : ∀ (s : fm_M) (u4 : Int32) (u5 : Int32), z = .inr (s, u4, u5) → fm_V w layM 11 l rm_X9_how cX9_how 6 RX9 (some .int) o 41 [some (.ref (fm_ad w 0)), some (.int v1), some (.int v2), some (.int v3), some (.int u4), some (.int u5)] [] s) : fm_V w layM 11 l rm_X9_how cX9_how 6 RX9 (some .int) o 6 [some (.ref (fm_ad w 0)), some (.int v1), some (.int v2), some (.int v3), some (.int v4), some (.int v5)] [] s := by
  unfold f_X9_how_6 at h
  refine v_iload dX9_how_6 rfl ?_
  refine v_iload_n 2 dX9_how_8 rfl rfl ?_
  refine v_icmp_ge 41 dX9_how_9 (by decide) h (fun h => ?_) (fun h => ?_)
  · refine v_lw [some (.ref (fm_ad w 0)), some (.int v1), some (.int v2), some (.int v3), some (.int v4), some (.int v5)] rfl ⟨rfl, rfl, rfl, rfl, rfl, rfl, trivial⟩ ?_
    exact ke _ _ _ (Option.some.inj h).symm
  · refine v_iload dX9_how_12 rfl ?_
    refine v_aload_n 0 dX9_how_14 rfl rfl ?_
    refine v_getr 4 g_X9_19 yM_0 (by decide) rfl dX9_how_15 ?_
    refine v_iload_n 1 dX9_how_18 rfl rfl ?_
    refine v_iload dX9_how_19 rfl ?_
    refine v_iadd dX9_how_21 ?_
    obtain ⟨hi, h⟩ := fm_ift h
    refine v_iald (Or.inl ⟨(by decide), yM_4⟩) hi dX9_how_22 ?_
    refine v_iload_n 3 dX9_how_23 rfl rfl ?_
    refine v_icmp_ne 31 dX9_how_24 (by decide) h (fun h => ?_) (fun h => ?_)
    · refine v_iconst (0 : Int32) dX9_how_31 (by decide) ?_
      refine v_lw [some (.ref (fm_ad w 0)), some (.int v1), some (.int v2), some (.int v3), none, some (.int v5)] rfl ⟨rfl, rfl, rfl, rfl, rfl, trivial⟩ ?_
      exact t_X9_how_32 hI v1 v2 v3 v5 (0 : Int32) v4 s _ h kb ke
    · refine v_iconst (1 : Int32) dX9_how_27 (by decide) ?_
      refine v_goto 32 dX9_how_28 (by decide) ?_
      refine v_lw [some (.ref (fm_ad w 0)), some (.int v1), some (.int v2), some (.int v3), none, some (.int v5)] rfl ⟨rfl, rfl, rfl, rfl, rfl, trivial⟩ ?_
      exact t_X9_how_32 hI v1 v2 v3 v5 (1 : Int32) v4 s _ h kb ke
set_option maxHeartbeats 4000000 in
theorem i_X9_how_6 {w : fm_W} {l : Launch} {o : fm_O} (hI : fm_I w 11) (v1 : Int32) (v2 : Int32) (v3 : Int32) (n : Nat) (s : fm_M) (v4 : Int32) (v5 : Int32) (q : fm_M × Int32 × Int32) (h : fm_it (fun s => f_X9_how_6 v1 v2 v3 s.1 s.2.1 s.2.2) n (s, v4, v5) = some q) (ke : ∀ (s : fm_M) (u4 : Int32) (u5 : Int32), q = (s, u4, u5) → fm_V w layM 11 l rm_X9_how cX9_how 6 RX9 (some .int) o 41 [some (.ref (fm_ad w 0)), some (.int v1), some (.int v2), some (.int v3), some (.int u4), some (.int u5)] [] s) : fm_V w layM 11 l rm_X9_how cX9_how 6 RX9 (some .int) o 6 [some (.ref (fm_ad w 0)), some (.int v1), some (.int v2), some (.int v3), some (.int v4), some (.int v5)] [] s :=
  fm_it_loop (body := (fun s => f_X9_how_6 v1 v2 v3 s.1 s.2.1 s.2.2)) (P := fun s => fm_V w layM 11 l rm_X9_how cX9_how 6 RX9 (some .int) o 6 [some (.ref (fm_ad w 0)), some (.int v1), some (.int v2), some (.int v3), some (.int s.2.1), some (.int s.2.2)] [] s.1) (K := (fun q : fm_M × Int32 × Int32 => (∀ (s : fm_M) (u4 : Int32) (u5 : Int32), q = (s, u4, u5) → fm_V w layM 11 l rm_X9_how cX9_how 6 RX9 (some .int) o 41 [some (.ref (fm_ad w 0)), some (.int v1), some (.int v2), some (.int v3), some (.int u4), some (.int u5)] [] s))) (fun s z hb kl kx => t_X9_how_6 hI v1 v2 v3 s.1 s.2.1 s.2.2 z hb (fun s u4 u5 e => kl _ e) (fun s u4 u5 e => (kx _ e) s u4 u5 rfl)) n (s, v4, v5) q h ke
def f_X9_how (v1 : Int32) (v2 : Int32) (v3 : Int32) (s : fm_M) : Option (Int32 × fm_M) :=
  fm_op (fm_it (fun (yy : fm_M × Int32 × Int32) => f_X9_how_6 v1 v2 v3 yy.1 yy.2.1 yy.2.2) fm_fu (s, (0 : Int32), (0 : Int32))) (fun q1 => ((fun (s1 : fm_M) (x1_4 : Int32) (x1_5 : Int32) => some (x1_4, s1))) q1.1 q1.2.1 q1.2.2)
set_option maxHeartbeats 4000000 in
theorem e_X9_how {w : fm_W} {l : Launch} {o : fm_O} (hI : fm_I w 11) (v1 : Int32) (v2 : Int32) (v3 : Int32) (s : fm_M) (z : Int32 × fm_M) (h : f_X9_how v1 v2 v3 s = some z) (ho : ∀ (r : Int32) (s : fm_M), z = (r, s) → o = (some (.int r), s)) : fm_V w layM 11 l rm_X9_how cX9_how 6 RX9 (some .int) o 0 [some (.ref (fm_ad w 0)), some (.int v1), some (.int v2), some (.int v3), none, none] [] s := by
  unfold f_X9_how at h
  refine v_iconst (0 : Int32) dX9_how_0 (by decide) ?_
  refine v_istore (lv' := [some (.ref (fm_ad w 0)), some (.int v1), some (.int v2), some (.int v3), some (.int (0 : Int32)), none]) dX9_how_1 (by decide) rfl rfl ?_
  refine v_iconst (0 : Int32) dX9_how_3 (by decide) ?_
  refine v_istore (lv' := [some (.ref (fm_ad w 0)), some (.int v1), some (.int v2), some (.int v3), some (.int (0 : Int32)), some (.int (0 : Int32))]) dX9_how_4 (by decide) rfl rfl ?_
  obtain ⟨q1, h1, h⟩ := fm_ops h
  refine v_lw [some (.ref (fm_ad w 0)), some (.int v1), some (.int v2), some (.int v3), some (.int (0 : Int32)), some (.int (0 : Int32))] rfl ⟨rfl, rfl, rfl, rfl, rfl, rfl, trivial⟩ ?_
  refine i_X9_how_6 hI v1 v2 v3 _ _ _ _ _ h1 (fun s1 x1_4 x1_5 e => ?_)
  subst e
  dsimp only at h
  refine v_iload dX9_how_41 rfl ?_
  exact v_iret rfl (ho _ _ (Option.some.inj h).symm) dX9_how_43
theorem c_X9_how {w : fm_W} {l : Launch} (hI : fm_I w 11) {v1 : Int32} {v2 : Int32} {v3 : Int32} {s : fm_M} {r : Int32} {s2 : fm_M} (h : f_X9_how v1 v2 v3 s = some (r, s2)) : fm_C w layM 11 l yX9_how cX9_how 6 (some .int) rm_X9_how [.ref (fm_ad w 0), .int v1, .int v2, .int v3] s (some (.int r), s2) :=
  fm_of hI (by decide) rfl (Nat.le_of_ble_eq_true rfl) (e_X9_how hI v1 v2 v3 s _ h (fun r s e => by cases e; rfl))
-- X9_children
abbrev rm_X9_children : Room := { frames := 1, cells := 0, slots := 0, locals := 25 }
def f_X9_children (v1 : Int32) (s : fm_M) : Option (Int32 × fm_M) :=
  if fm_in (0 : Int32) 17 = true then fm_bd (f_X9_how (0 : Int32) (s 2 (0 : Int32).toNatClampNeg) v1 s) (fun r1 s1 => some (r1, s1)) else none
set_option maxHeartbeats 4000000 in
theorem e_X9_children {w : fm_W} {l : Launch} {o : fm_O} (hI : fm_I w 11) (v1 : Int32) (s : fm_M) (z : Int32 × fm_M) (h : f_X9_children v1 s = some z) (ho : ∀ (r : Int32) (s : fm_M), z = (r, s) → o = (some (.int r), s)) : fm_V w layM 11 l rm_X9_children cX9_children 2 RX9 (some .int) o 0 [some (.ref (fm_ad w 0)), some (.int v1)] [] s := by
  unfold f_X9_children at h
  refine v_aload_n 0 dX9_children_0 rfl rfl ?_
  refine v_iconst (0 : Int32) dX9_children_1 (by decide) ?_
  refine v_aload_n 0 dX9_children_2 rfl rfl ?_
  refine v_getr 2 g_X9_13 yM_0 (by decide) rfl dX9_children_3 ?_
  refine v_iconst (0 : Int32) dX9_children_6 (by decide) ?_
  obtain ⟨hi, h⟩ := fm_ift h
  refine v_iald (Or.inl ⟨(by decide), yM_2⟩) hi dX9_children_7 ?_
  refine v_iload_n 1 dX9_children_8 rfl rfl ?_
  obtain ⟨r1, s1, h1, h⟩ := fm_bds h
  refine v_cVi [.int (0 : Int32), .int (s 2 (0 : Int32).toNatClampNeg), .int v1] [] l_X9_125 (c_X9_how hI h1) yM_0 (by decide) rfl rfl ⟨rfl, rfl, by decide, by decide⟩ (Nat.le_of_ble_eq_true rfl) dX9_children_9 ?_
  exact v_iret rfl (ho _ _ (Option.some.inj h).symm) dX9_children_12
theorem c_X9_children {w : fm_W} {l : Launch} (hI : fm_I w 11) {v1 : Int32} {s : fm_M} {r : Int32} {s2 : fm_M} (h : f_X9_children v1 s = some (r, s2)) : fm_C w layM 11 l yX9_children cX9_children 2 (some .int) rm_X9_children [.ref (fm_ad w 0), .int v1] s (some (.int r), s2) :=
  fm_of hI (by decide) rfl (Nat.le_of_ble_eq_true rfl) (e_X9_children hI v1 s _ h (fun r s e => by cases e; rfl))
-- X9_highestFree
abbrev rm_X9_highestFree : Room := { frames := 0, cells := 0, slots := 0, locals := 0 }
def f_X9_highestFree_32 (v2 : Int32) (sk0 : Int32) (s : fm_M) : Option ((fm_M × Int32 × Int32) ⊕ (fm_M × Int32 × Int32)) :=
  some (.inl (s, sk0, (v2 + (1 : Int32))))
set_option maxHeartbeats 4000000 in
theorem t_X9_highestFree_32 {w : fm_W} {l : Launch} {o : fm_O} (hI : fm_I w 11) (v2 : Int32) (sk0 : Int32) (s : fm_M) (z : (fm_M × Int32 × Int32) ⊕ (fm_M × Int32 × Int32)) (h : f_X9_highestFree_32 v2 sk0 s = some z) (kb : ∀ (s : fm_M) (u1 : Int32) (u2 : Int32), z = .inl (s, u1, u2) → fm_V w layM 11 l rm_X9_highestFree cX9_highestFree 3 RX9 (some .int) o 5 [some (.ref (fm_ad w 0)), some (.int u1), some (.int u2)] [] s) (ke : ∀ (s : fm_M) (u1 : Int32) (u2 : Int32), z = .inr (s, u1, u2) → fm_V w layM 11 l rm_X9_highestFree cX9_highestFree 3 RX9 (some .int) o 39 [some (.ref (fm_ad w 0)), some (.int u1), some (.int u2)] [] s) : fm_V w layM 11 l rm_X9_highestFree cX9_highestFree 3 RX9 (some .int) o 32 [some (.ref (fm_ad w 0)), none, some (.int v2)] [.int sk0] s := by
  unfold f_X9_highestFree_32 at h
  refine v_istore_n (lv' := [some (.ref (fm_ad w 0)), some (.int sk0), some (.int v2)]) 1 dX9_highestFree_32 rfl (by decide) rfl rfl ?_
  refine v_iinc (lv' := [some (.ref (fm_ad w 0)), some (.int sk0), some (.int (v2 + (1 : Int32)))]) (1 : Int32) dX9_highestFree_33 rfl (by decide) (by decide) rfl rfl ?_
  refine v_goto 5 dX9_highestFree_36 (by decide) ?_
  refine v_lw [some (.ref (fm_ad w 0)), some (.int sk0), some (.int (v2 + (1 : Int32)))] rfl ⟨rfl, rfl, rfl, trivial⟩ ?_
  exact kb _ _ _ (Option.some.inj h).symm
def f_X9_highestFree_5 (s : fm_M) (v1 : Int32) (v2 : Int32) : Option ((fm_M × Int32 × Int32) ⊕ (fm_M × Int32 × Int32)) :=
  if fm_in (1 : Int32) 17 = true then if (s 2 (1 : Int32).toNatClampNeg) ≤ v2 then some (.inr (s, v1, v2)) else if fm_in ((18 : Int32) + v2) 29 = true then if (s 4 ((18 : Int32) + v2).toNatClampNeg) = 0 then f_X9_highestFree_32 v2 v2 s else f_X9_highestFree_32 v2 v1 s else none else none
set_option maxHeartbeats 4000000 in
theorem t_X9_highestFree_5 {w : fm_W} {l : Launch} {o : fm_O} (hI : fm_I w 11) (s : fm_M) (v1 : Int32) (v2 : Int32) (z : (fm_M × Int32 × Int32) ⊕ (fm_M × Int32 × Int32)) (h : f_X9_highestFree_5 s v1 v2 = some z) (kb : ∀ (s : fm_M) (u1 : Int32) (u2 : Int32), z = .inl (s, u1, u2) → fm_V w layM 11 l rm_X9_highestFree cX9_highestFree 3 RX9 (some .int) o 5 [some (.ref (fm_ad w 0)), some (.int u1), some (.int u2)] [] s) (ke : ∀ (s : fm_M) (u1 : Int32) (u2 : Int32), z = .inr (s, u1, u2) → fm_V w layM 11 l rm_X9_highestFree cX9_highestFree 3 RX9 (some .int) o 39 [some (.ref (fm_ad w 0)), some (.int u1), some (.int u2)] [] s) : fm_V w layM 11 l rm_X9_highestFree cX9_highestFree 3 RX9 (some .int) o 5 [some (.ref (fm_ad w 0)), some (.int v1), some (.int v2)] [] s := by
  unfold f_X9_highestFree_5 at h
  refine v_iload_n 2 dX9_highestFree_5 rfl rfl ?_
  refine v_aload_n 0 dX9_highestFree_6 rfl rfl ?_
  refine v_getr 2 g_X9_13 yM_0 (by decide) rfl dX9_highestFree_7 ?_
  refine v_iconst (1 : Int32) dX9_highestFree_10 (by decide) ?_
  obtain ⟨hi, h⟩ := fm_ift h
  refine v_iald (Or.inl ⟨(by decide), yM_2⟩) hi dX9_highestFree_11 ?_
  refine v_icmp_ge 39 dX9_highestFree_12 (by decide) h (fun h => ?_) (fun h => ?_)
  · refine v_lw [some (.ref (fm_ad w 0)), some (.int v1), some (.int v2)] rfl ⟨rfl, rfl, rfl, trivial⟩ ?_
    exact ke _ _ _ (Option.some.inj h).symm
  · refine v_aload_n 0 dX9_highestFree_15 rfl rfl ?_
    refine v_getr 4 g_X9_19 yM_0 (by decide) rfl dX9_highestFree_16 ?_
    refine v_bipush (18 : Int32) dX9_highestFree_19 (by decide) ?_
    refine v_iload_n 2 dX9_highestFree_21 rfl rfl ?_
    refine v_iadd dX9_highestFree_22 ?_
    obtain ⟨hi, h⟩ := fm_ift h
    refine v_iald (Or.inl ⟨(by decide), yM_4⟩) hi dX9_highestFree_23 ?_
    refine v_if_ne 31 dX9_highestFree_24 (by decide) h (fun h => ?_) (fun h => ?_)
    · refine v_iload_n 1 dX9_highestFree_31 rfl rfl ?_
      refine v_lw [some (.ref (fm_ad w 0)), none, some (.int v2)] rfl ⟨rfl, rfl, trivial⟩ ?_
      exact t_X9_highestFree_32 hI v2 v1 s _ h kb ke
    · refine v_iload_n 2 dX9_highestFree_27 rfl rfl ?_
      refine v_goto 32 dX9_highestFree_28 (by decide) ?_
      refine v_lw [some (.ref (fm_ad w 0)), none, some (.int v2)] rfl ⟨rfl, rfl, trivial⟩ ?_
      exact t_X9_highestFree_32 hI v2 v2 s _ h kb ke
set_option maxHeartbeats 4000000 in
theorem i_X9_highestFree_5 {w : fm_W} {l : Launch} {o : fm_O} (hI : fm_I w 11) (n : Nat) (s : fm_M) (v1 : Int32) (v2 : Int32) (q : fm_M × Int32 × Int32) (h : fm_it (fun s => f_X9_highestFree_5 s.1 s.2.1 s.2.2) n (s, v1, v2) = some q) (ke : ∀ (s : fm_M) (u1 : Int32) (u2 : Int32), q = (s, u1, u2) → fm_V w layM 11 l rm_X9_highestFree cX9_highestFree 3 RX9 (some .int) o 39 [some (.ref (fm_ad w 0)), some (.int u1), some (.int u2)] [] s) : fm_V w layM 11 l rm_X9_highestFree cX9_highestFree 3 RX9 (some .int) o 5 [some (.ref (fm_ad w 0)), some (.int v1), some (.int v2)] [] s :=
  fm_it_loop (body := (fun s => f_X9_highestFree_5 s.1 s.2.1 s.2.2)) (P := fun s => fm_V w layM 11 l rm_X9_highestFree cX9_highestFree 3 RX9 (some .int) o 5 [some (.ref (fm_ad w 0)), some (.int s.2.1), some (.int s.2.2)] [] s.1) (K := (fun q : fm_M × Int32 × Int32 => (∀ (s : fm_M) (u1 : Int32) (u2 : Int32), q = (s, u1, u2) → fm_V w layM 11 l rm_X9_highestFree cX9_highestFree 3 RX9 (some .int) o 39 [some (.ref (fm_ad w 0)), some (.int u1), some (.int u2)] [] s))) (fun s z hb kl kx => t_X9_highestFree_5 hI s.1 s.2.1 s.2.2 z hb (fun s u1 u2 e => kl _ e) (fun s u1 u2 e => (kx _ e) s u1 u2 rfl)) n (s, v1, v2) q h ke
def f_X9_highestFree (s : fm_M) : Option (Int32 × fm_M) :=
  fm_op (fm_it (fun (yy : fm_M × Int32 × Int32) => f_X9_highestFree_5 yy.1 yy.2.1 yy.2.2) fm_fu (s, (-4 : Int32), (0 : Int32))) (fun q1 => ((fun (s1 : fm_M) (x1_1 : Int32) (x1_2 : Int32) => some (x1_1, s1))) q1.1 q1.2.1 q1.2.2)
set_option maxHeartbeats 4000000 in
theorem e_X9_highestFree {w : fm_W} {l : Launch} {o : fm_O} (hI : fm_I w 11) (s : fm_M) (z : Int32 × fm_M) (h : f_X9_highestFree s = some z) (ho : ∀ (r : Int32) (s : fm_M), z = (r, s) → o = (some (.int r), s)) : fm_V w layM 11 l rm_X9_highestFree cX9_highestFree 3 RX9 (some .int) o 0 [some (.ref (fm_ad w 0)), none, none] [] s := by
  unfold f_X9_highestFree at h
  refine v_bipush (-4 : Int32) dX9_highestFree_0 (by decide) ?_
  refine v_istore_n (lv' := [some (.ref (fm_ad w 0)), some (.int (-4 : Int32)), none]) 1 dX9_highestFree_2 rfl (by decide) rfl rfl ?_
  refine v_iconst (0 : Int32) dX9_highestFree_3 (by decide) ?_
  refine v_istore_n (lv' := [some (.ref (fm_ad w 0)), some (.int (-4 : Int32)), some (.int (0 : Int32))]) 2 dX9_highestFree_4 rfl (by decide) rfl rfl ?_
  obtain ⟨q1, h1, h⟩ := fm_ops h
  refine v_lw [some (.ref (fm_ad w 0)), some (.int (-4 : Int32)), some (.int (0 : Int32))] rfl ⟨rfl, rfl, rfl, trivial⟩ ?_
  refine i_X9_highestFree_5 hI _ _ _ _ _ h1 (fun s1 x1_1 x1_2 e => ?_)
  subst e
  dsimp only at h
  refine v_iload_n 1 dX9_highestFree_39 rfl rfl ?_
  exact v_iret rfl (ho _ _ (Option.some.inj h).symm) dX9_highestFree_40
theorem c_X9_highestFree {w : fm_W} {l : Launch} (hI : fm_I w 11) {s : fm_M} {r : Int32} {s2 : fm_M} (h : f_X9_highestFree s = some (r, s2)) : fm_C w layM 11 l yX9_highestFree cX9_highestFree 3 (some .int) rm_X9_highestFree [.ref (fm_ad w 0)] s (some (.int r), s2) :=
  fm_of hI (by decide) rfl (Nat.le_of_ble_eq_true rfl) (e_X9_highestFree hI s _ h (fun r s e => by cases e; rfl))
-- X9_notOut
abbrev rm_X9_notOut : Room := { frames := 1, cells := 0, slots := 0, locals := 25 }
def f_X9_notOut (s : fm_M) : Option (Int32 × fm_M) :=
  if fm_in (1 : Int32) 17 = true then if fm_in (1 : Int32) 17 = true then fm_bd (f_X9_how (18 : Int32) (s 2 (1 : Int32).toNatClampNeg) (3 : Int32) s) (fun r1 s1 => some (((s 2 (1 : Int32).toNatClampNeg) - r1), s1)) else none else none
set_option maxHeartbeats 4000000 in
theorem e_X9_notOut {w : fm_W} {l : Launch} {o : fm_O} (hI : fm_I w 11) (s : fm_M) (z : Int32 × fm_M) (h : f_X9_notOut s = some z) (ho : ∀ (r : Int32) (s : fm_M), z = (r, s) → o = (some (.int r), s)) : fm_V w layM 11 l rm_X9_notOut cX9_notOut 1 RX9 (some .int) o 0 [some (.ref (fm_ad w 0))] [] s := by
  unfold f_X9_notOut at h
  refine v_aload_n 0 dX9_notOut_0 rfl rfl ?_
  refine v_getr 2 g_X9_13 yM_0 (by decide) rfl dX9_notOut_1 ?_
  refine v_iconst (1 : Int32) dX9_notOut_4 (by decide) ?_
  obtain ⟨hi, h⟩ := fm_ift h
  refine v_iald (Or.inl ⟨(by decide), yM_2⟩) hi dX9_notOut_5 ?_
  refine v_aload_n 0 dX9_notOut_6 rfl rfl ?_
  refine v_bipush (18 : Int32) dX9_notOut_7 (by decide) ?_
  refine v_aload_n 0 dX9_notOut_9 rfl rfl ?_
  refine v_getr 2 g_X9_13 yM_0 (by decide) rfl dX9_notOut_10 ?_
  refine v_iconst (1 : Int32) dX9_notOut_13 (by decide) ?_
  obtain ⟨hi, h⟩ := fm_ift h
  refine v_iald (Or.inl ⟨(by decide), yM_2⟩) hi dX9_notOut_14 ?_
  refine v_iconst (3 : Int32) dX9_notOut_15 (by decide) ?_
  obtain ⟨r1, s1, h1, h⟩ := fm_bds h
  refine v_cVi [.int (18 : Int32), .int (s 2 (1 : Int32).toNatClampNeg), .int (3 : Int32)] [.int (s 2 (1 : Int32).toNatClampNeg)] l_X9_125 (c_X9_how hI h1) yM_0 (by decide) rfl rfl ⟨rfl, rfl, by decide, by decide⟩ (Nat.le_of_ble_eq_true rfl) dX9_notOut_16 ?_
  refine v_isub dX9_notOut_19 ?_
  exact v_iret rfl (ho _ _ (Option.some.inj h).symm) dX9_notOut_20
theorem c_X9_notOut {w : fm_W} {l : Launch} (hI : fm_I w 11) {s : fm_M} {r : Int32} {s2 : fm_M} (h : f_X9_notOut s = some (r, s2)) : fm_C w layM 11 l yX9_notOut cX9_notOut 1 (some .int) rm_X9_notOut [.ref (fm_ad w 0)] s (some (.int r), s2) :=
  fm_of hI (by decide) rfl (Nat.le_of_ble_eq_true rfl) (e_X9_notOut hI s _ h (fun r s e => by cases e; rfl))
-- X9_mayOpen
abbrev rm_X9_mayOpen : Room := { frames := 2, cells := 0, slots := 0, locals := 46 }
def f_X9_mayOpen_78 (sk0 : Int32) (s : fm_M) : Option (Int32 × fm_M) :=
  if fm_b sk0 = true then some (sk0, s) else none
set_option maxHeartbeats 4000000 in
theorem t_X9_mayOpen_78 {w : fm_W} {l : Launch} {o : fm_O} (hI : fm_I w 11) (sk0 : Int32) (s : fm_M) (z : Int32 × fm_M) (h : f_X9_mayOpen_78 sk0 s = some z) (ho : ∀ (r : Int32) (s : fm_M), z = (r, s) → o = (some (.int r), s)) : fm_V w layM 11 l rm_X9_mayOpen cX9_mayOpen 4 RX9 (some .boolean) o 78 [none, none, none, none] [.int sk0] s := by
  unfold f_X9_mayOpen_78 at h
  obtain ⟨hb, h⟩ := fm_ift h
  exact v_zret rfl (fm_b_nar hb).1 (ho _ _ (Option.some.inj h).symm) dX9_mayOpen_78
def f_X9_mayOpen_77 (s : fm_M) : Option (Int32 × fm_M) :=
  f_X9_mayOpen_78 (0 : Int32) s
set_option maxHeartbeats 4000000 in
theorem t_X9_mayOpen_77 {w : fm_W} {l : Launch} {o : fm_O} (hI : fm_I w 11) (s : fm_M) (z : Int32 × fm_M) (h : f_X9_mayOpen_77 s = some z) (ho : ∀ (r : Int32) (s : fm_M), z = (r, s) → o = (some (.int r), s)) : fm_V w layM 11 l rm_X9_mayOpen cX9_mayOpen 4 RX9 (some .boolean) o 77 [none, none, none, none] [] s := by
  unfold f_X9_mayOpen_77 at h
  refine v_iconst (0 : Int32) dX9_mayOpen_77 (by decide) ?_
  refine v_lw [none, none, none, none] rfl trivial ?_
  exact t_X9_mayOpen_78 hI (0 : Int32) s _ h ho
def f_X9_mayOpen_73 (s : fm_M) : Option (Int32 × fm_M) :=
  f_X9_mayOpen_78 (1 : Int32) s
set_option maxHeartbeats 4000000 in
theorem t_X9_mayOpen_73 {w : fm_W} {l : Launch} {o : fm_O} (hI : fm_I w 11) (s : fm_M) (z : Int32 × fm_M) (h : f_X9_mayOpen_73 s = some z) (ho : ∀ (r : Int32) (s : fm_M), z = (r, s) → o = (some (.int r), s)) : fm_V w layM 11 l rm_X9_mayOpen cX9_mayOpen 4 RX9 (some .boolean) o 73 [none, none, none, none] [] s := by
  unfold f_X9_mayOpen_73 at h
  refine v_iconst (1 : Int32) dX9_mayOpen_73 (by decide) ?_
  refine v_goto 78 dX9_mayOpen_74 (by decide) ?_
  refine v_lw [none, none, none, none] rfl trivial ?_
  exact t_X9_mayOpen_78 hI (1 : Int32) s _ h ho
def f_X9_mayOpen_55 (v2 : Int32) (sk0 : Int32) (s : fm_M) : Option (Int32 × fm_M) :=
  fm_bd (f_X9_highestFree s) (fun r2 s2 => if r2 = (-4 : Int32) then f_X9_mayOpen_77 s2 else if v2 = 0 then if sk0 = 0 then f_X9_mayOpen_77 s2 else f_X9_mayOpen_73 s2 else f_X9_mayOpen_73 s2)
set_option maxHeartbeats 4000000 in
theorem t_X9_mayOpen_55 {w : fm_W} {l : Launch} {o : fm_O} (hI : fm_I w 11) (v2 : Int32) (sk0 : Int32) (s : fm_M) (z : Int32 × fm_M) (h : f_X9_mayOpen_55 v2 sk0 s = some z) (ho : ∀ (r : Int32) (s : fm_M), z = (r, s) → o = (some (.int r), s)) : fm_V w layM 11 l rm_X9_mayOpen cX9_mayOpen 4 RX9 (some .boolean) o 55 [some (.ref (fm_ad w 0)), none, some (.int v2), none] [.int sk0] s := by
  unfold f_X9_mayOpen_55 at h
  refine v_istore_n (lv' := [some (.ref (fm_ad w 0)), none, some (.int v2), some (.int sk0)]) 3 dX9_mayOpen_55 rfl (by decide) rfl rfl ?_
  refine v_aload_n 0 dX9_mayOpen_56 rfl rfl ?_
  obtain ⟨r2, s2, h2, h⟩ := fm_bds h
  refine v_cVi [] [] l_X9_140 (c_X9_highestFree hI h2) yM_0 (by decide) rfl rfl ⟨rfl, rfl, by decide, by decide⟩ (Nat.le_of_ble_eq_true rfl) dX9_mayOpen_57 ?_
  refine v_bipush (-4 : Int32) dX9_mayOpen_60 (by decide) ?_
  refine v_icmp_eq 77 dX9_mayOpen_62 (by decide) h (fun h => ?_) (fun h => ?_)
  · refine v_lw [none, none, none, none] rfl trivial ?_
    exact t_X9_mayOpen_77 hI s2 _ h ho
  · refine v_iload_n 2 dX9_mayOpen_65 rfl rfl ?_
    refine v_if_ne 73 dX9_mayOpen_66 (by decide) h (fun h => ?_) (fun h => ?_)
    · refine v_lw [none, none, none, none] rfl trivial ?_
      exact t_X9_mayOpen_73 hI s2 _ h ho
    · refine v_iload_n 3 dX9_mayOpen_69 rfl rfl ?_
      refine v_if_eq 77 dX9_mayOpen_70 (by decide) h (fun h => ?_) (fun h => ?_)
      · refine v_lw [none, none, none, none] rfl trivial ?_
        exact t_X9_mayOpen_77 hI s2 _ h ho
      · refine v_lw [none, none, none, none] rfl trivial ?_
        exact t_X9_mayOpen_73 hI s2 _ h ho
def f_X9_mayOpen_54 (v2 : Int32) (s : fm_M) : Option (Int32 × fm_M) :=
  f_X9_mayOpen_55 v2 (0 : Int32) s
set_option maxHeartbeats 4000000 in
theorem t_X9_mayOpen_54 {w : fm_W} {l : Launch} {o : fm_O} (hI : fm_I w 11) (v2 : Int32) (s : fm_M) (z : Int32 × fm_M) (h : f_X9_mayOpen_54 v2 s = some z) (ho : ∀ (r : Int32) (s : fm_M), z = (r, s) → o = (some (.int r), s)) : fm_V w layM 11 l rm_X9_mayOpen cX9_mayOpen 4 RX9 (some .boolean) o 54 [some (.ref (fm_ad w 0)), none, some (.int v2), none] [] s := by
  unfold f_X9_mayOpen_54 at h
  refine v_iconst (0 : Int32) dX9_mayOpen_54 (by decide) ?_
  refine v_lw [some (.ref (fm_ad w 0)), none, some (.int v2), none] rfl ⟨rfl, rfl, trivial⟩ ?_
  exact t_X9_mayOpen_55 hI v2 (0 : Int32) s _ h ho
def f_X9_mayOpen_29 (v1 : Int32) (sk0 : Int32) (s : fm_M) : Option (Int32 × fm_M) :=
  if v1 ≤ 0 then f_X9_mayOpen_54 sk0 s else fm_bd (f_X9_children (3 : Int32) s) (fun r3 s3 => if fm_in (0 : Int32) 17 = true then if (v1 + r3) = (s3 2 (0 : Int32).toNatClampNeg) then f_X9_mayOpen_55 sk0 (1 : Int32) s3 else f_X9_mayOpen_54 sk0 s3 else none)
set_option maxHeartbeats 4000000 in
theorem t_X9_mayOpen_29 {w : fm_W} {l : Launch} {o : fm_O} (hI : fm_I w 11) (v1 : Int32) (sk0 : Int32) (s : fm_M) (z : Int32 × fm_M) (h : f_X9_mayOpen_29 v1 sk0 s = some z) (ho : ∀ (r : Int32) (s : fm_M), z = (r, s) → o = (some (.int r), s)) : fm_V w layM 11 l rm_X9_mayOpen cX9_mayOpen 4 RX9 (some .boolean) o 29 [some (.ref (fm_ad w 0)), some (.int v1), none, none] [.int sk0] s := by
  unfold f_X9_mayOpen_29 at h
  refine v_istore_n (lv' := [some (.ref (fm_ad w 0)), some (.int v1), some (.int sk0), none]) 2 dX9_mayOpen_29 rfl (by decide) rfl rfl ?_
  refine v_iload_n 1 dX9_mayOpen_30 rfl rfl ?_
  refine v_if_le 54 dX9_mayOpen_31 (by decide) h (fun h => ?_) (fun h => ?_)
  · refine v_lw [some (.ref (fm_ad w 0)), none, some (.int sk0), none] rfl ⟨rfl, rfl, trivial⟩ ?_
    exact t_X9_mayOpen_54 hI sk0 s _ h ho
  · refine v_iload_n 1 dX9_mayOpen_34 rfl rfl ?_
    refine v_aload_n 0 dX9_mayOpen_35 rfl rfl ?_
    refine v_iconst (3 : Int32) dX9_mayOpen_36 (by decide) ?_
    obtain ⟨r3, s3, h3, h⟩ := fm_bds h
    refine v_cVi [.int (3 : Int32)] [.int v1] l_X9_131 (c_X9_children hI h3) yM_0 (by decide) rfl rfl ⟨rfl, rfl, by decide, by decide⟩ (Nat.le_of_ble_eq_true rfl) dX9_mayOpen_37 ?_
    refine v_iadd dX9_mayOpen_40 ?_
    refine v_aload_n 0 dX9_mayOpen_41 rfl rfl ?_
    refine v_getr 2 g_X9_13 yM_0 (by decide) rfl dX9_mayOpen_42 ?_
    refine v_iconst (0 : Int32) dX9_mayOpen_45 (by decide) ?_
    obtain ⟨hi, h⟩ := fm_ift h
    refine v_iald (Or.inl ⟨(by decide), yM_2⟩) hi dX9_mayOpen_46 ?_
    refine v_icmp_ne 54 dX9_mayOpen_47 (by decide) h (fun h => ?_) (fun h => ?_)
    · refine v_lw [some (.ref (fm_ad w 0)), none, some (.int sk0), none] rfl ⟨rfl, rfl, trivial⟩ ?_
      exact t_X9_mayOpen_54 hI sk0 s3 _ h ho
    · refine v_iconst (1 : Int32) dX9_mayOpen_50 (by decide) ?_
      refine v_goto 55 dX9_mayOpen_51 (by decide) ?_
      refine v_lw [some (.ref (fm_ad w 0)), none, some (.int sk0), none] rfl ⟨rfl, rfl, trivial⟩ ?_
      exact t_X9_mayOpen_55 hI sk0 (1 : Int32) s3 _ h ho
def f_X9_mayOpen_28 (v1 : Int32) (s : fm_M) : Option (Int32 × fm_M) :=
  f_X9_mayOpen_29 v1 (0 : Int32) s
set_option maxHeartbeats 4000000 in
theorem t_X9_mayOpen_28 {w : fm_W} {l : Launch} {o : fm_O} (hI : fm_I w 11) (v1 : Int32) (s : fm_M) (z : Int32 × fm_M) (h : f_X9_mayOpen_28 v1 s = some z) (ho : ∀ (r : Int32) (s : fm_M), z = (r, s) → o = (some (.int r), s)) : fm_V w layM 11 l rm_X9_mayOpen cX9_mayOpen 4 RX9 (some .boolean) o 28 [some (.ref (fm_ad w 0)), some (.int v1), none, none] [] s := by
  unfold f_X9_mayOpen_28 at h
  refine v_iconst (0 : Int32) dX9_mayOpen_28 (by decide) ?_
  refine v_lw [some (.ref (fm_ad w 0)), some (.int v1), none, none] rfl ⟨rfl, rfl, trivial⟩ ?_
  exact t_X9_mayOpen_29 hI v1 (0 : Int32) s _ h ho
def f_X9_mayOpen (s : fm_M) : Option (Int32 × fm_M) :=
  fm_bd (f_X9_children (2 : Int32) s) (fun r1 s1 => if fm_in (3 : Int32) 17 = true then if r1 < (s1 2 (3 : Int32).toNatClampNeg) then f_X9_mayOpen_28 r1 s1 else fm_bd (f_X9_notOut s1) (fun r4 s4 => if r4 ≤ (1 : Int32) then f_X9_mayOpen_28 r1 s4 else f_X9_mayOpen_29 r1 (1 : Int32) s4) else none)
set_option maxHeartbeats 4000000 in
theorem e_X9_mayOpen {w : fm_W} {l : Launch} {o : fm_O} (hI : fm_I w 11) (s : fm_M) (z : Int32 × fm_M) (h : f_X9_mayOpen s = some z) (ho : ∀ (r : Int32) (s : fm_M), z = (r, s) → o = (some (.int r), s)) : fm_V w layM 11 l rm_X9_mayOpen cX9_mayOpen 4 RX9 (some .boolean) o 0 [some (.ref (fm_ad w 0)), none, none, none] [] s := by
  unfold f_X9_mayOpen at h
  refine v_aload_n 0 dX9_mayOpen_0 rfl rfl ?_
  refine v_iconst (2 : Int32) dX9_mayOpen_1 (by decide) ?_
  obtain ⟨r1, s1, h1, h⟩ := fm_bds h
  refine v_cVi [.int (2 : Int32)] [] l_X9_131 (c_X9_children hI h1) yM_0 (by decide) rfl rfl ⟨rfl, rfl, by decide, by decide⟩ (Nat.le_of_ble_eq_true rfl) dX9_mayOpen_2 ?_
  refine v_istore_n (lv' := [some (.ref (fm_ad w 0)), some (.int r1), none, none]) 1 dX9_mayOpen_5 rfl (by decide) rfl rfl ?_
  refine v_iload_n 1 dX9_mayOpen_6 rfl rfl ?_
  refine v_aload_n 0 dX9_mayOpen_7 rfl rfl ?_
  refine v_getr 2 g_X9_13 yM_0 (by decide) rfl dX9_mayOpen_8 ?_
  refine v_iconst (3 : Int32) dX9_mayOpen_11 (by decide) ?_
  obtain ⟨hi, h⟩ := fm_ift h
  refine v_iald (Or.inl ⟨(by decide), yM_2⟩) hi dX9_mayOpen_12 ?_
  refine v_icmp_lt 28 dX9_mayOpen_13 (by decide) h (fun h => ?_) (fun h => ?_)
  · refine v_lw [some (.ref (fm_ad w 0)), some (.int r1), none, none] rfl ⟨rfl, rfl, trivial⟩ ?_
    exact t_X9_mayOpen_28 hI r1 s1 _ h ho
  · refine v_aload_n 0 dX9_mayOpen_16 rfl rfl ?_
    obtain ⟨r4, s4, h4, h⟩ := fm_bds h
    refine v_cVi [] [] l_X9_128 (c_X9_notOut hI h4) yM_0 (by decide) rfl rfl ⟨rfl, rfl, by decide, by decide⟩ (Nat.le_of_ble_eq_true rfl) dX9_mayOpen_17 ?_
    refine v_iconst (1 : Int32) dX9_mayOpen_20 (by decide) ?_
    refine v_icmp_le 28 dX9_mayOpen_21 (by decide) h (fun h => ?_) (fun h => ?_)
    · refine v_lw [some (.ref (fm_ad w 0)), some (.int r1), none, none] rfl ⟨rfl, rfl, trivial⟩ ?_
      exact t_X9_mayOpen_28 hI r1 s4 _ h ho
    · refine v_iconst (1 : Int32) dX9_mayOpen_24 (by decide) ?_
      refine v_goto 29 dX9_mayOpen_25 (by decide) ?_
      refine v_lw [some (.ref (fm_ad w 0)), some (.int r1), none, none] rfl ⟨rfl, rfl, trivial⟩ ?_
      exact t_X9_mayOpen_29 hI r1 (1 : Int32) s4 _ h ho
theorem c_X9_mayOpen {w : fm_W} {l : Launch} (hI : fm_I w 11) {s : fm_M} {r : Int32} {s2 : fm_M} (h : f_X9_mayOpen s = some (r, s2)) : fm_C w layM 11 l yX9_mayOpen cX9_mayOpen 4 (some .boolean) rm_X9_mayOpen [.ref (fm_ad w 0)] s (some (.int r), s2) :=
  fm_of hI (by decide) rfl (Nat.le_of_ble_eq_true rfl) (e_X9_mayOpen hI s _ h (fun r s e => by cases e; rfl))
-- X9_begin
abbrev rm_X9_begin : Room := { frames := 0, cells := 0, slots := 0, locals := 0 }
def f_X9_begin (v1 : Int32) (v2 : Int32) (v3 : Int32) (v4 : Int32) (s : fm_M) : Option (Int32 × fm_M) :=
  if fm_in ((18 : Int32) + v1) 29 = true then if fm_in ((21 : Int32) + v1) 29 = true then if fm_in ((24 : Int32) + v1) 29 = true then some (0, (fm_up (fm_up (fm_up s 4 ((18 : Int32) + v1).toNatClampNeg v2) 4 ((21 : Int32) + v1).toNatClampNeg v3) 4 ((24 : Int32) + v1).toNatClampNeg v4)) else none else none else none
set_option maxHeartbeats 4000000 in
theorem e_X9_begin {w : fm_W} {l : Launch} {o : fm_O} (hI : fm_I w 11) (v1 : Int32) (v2 : Int32) (v3 : Int32) (v4 : Int32) (s : fm_M) (z : Int32 × fm_M) (h : f_X9_begin v1 v2 v3 v4 s = some z) (ho : ∀ (r : Int32) (s : fm_M), z = (r, s) → o = (none, s)) : fm_V w layM 11 l rm_X9_begin cX9_begin 5 RX9 none o 0 [some (.ref (fm_ad w 0)), some (.int v1), some (.int v2), some (.int v3), some (.int v4)] [] s := by
  unfold f_X9_begin at h
  refine v_aload_n 0 dX9_begin_0 rfl rfl ?_
  refine v_getr 4 g_X9_19 yM_0 (by decide) rfl dX9_begin_1 ?_
  refine v_bipush (18 : Int32) dX9_begin_4 (by decide) ?_
  refine v_iload_n 1 dX9_begin_6 rfl rfl ?_
  refine v_iadd dX9_begin_7 ?_
  refine v_iload_n 2 dX9_begin_8 rfl rfl ?_
  obtain ⟨hi, h⟩ := fm_ift h
  refine v_iast (by decide) yM_4 hi dX9_begin_9 ?_
  refine v_aload_n 0 dX9_begin_10 rfl rfl ?_
  refine v_getr 4 g_X9_19 yM_0 (by decide) rfl dX9_begin_11 ?_
  refine v_bipush (21 : Int32) dX9_begin_14 (by decide) ?_
  refine v_iload_n 1 dX9_begin_16 rfl rfl ?_
  refine v_iadd dX9_begin_17 ?_
  refine v_iload_n 3 dX9_begin_18 rfl rfl ?_
  obtain ⟨hi, h⟩ := fm_ift h
  refine v_iast (by decide) yM_4 hi dX9_begin_19 ?_
  refine v_aload_n 0 dX9_begin_20 rfl rfl ?_
  refine v_getr 4 g_X9_19 yM_0 (by decide) rfl dX9_begin_21 ?_
  refine v_bipush (24 : Int32) dX9_begin_24 (by decide) ?_
  refine v_iload_n 1 dX9_begin_26 rfl rfl ?_
  refine v_iadd dX9_begin_27 ?_
  refine v_iload dX9_begin_28 rfl ?_
  obtain ⟨hi, h⟩ := fm_ift h
  refine v_iast (by decide) yM_4 hi dX9_begin_30 ?_
  exact v_vret rfl (ho _ _ (Option.some.inj h).symm) dX9_begin_31
theorem c_X9_begin {w : fm_W} {l : Launch} (hI : fm_I w 11) {v1 : Int32} {v2 : Int32} {v3 : Int32} {v4 : Int32} {s : fm_M} {r : Int32} {s2 : fm_M} (h : f_X9_begin v1 v2 v3 v4 s = some (r, s2)) : fm_C w layM 11 l yX9_begin cX9_begin 5 none rm_X9_begin [.ref (fm_ad w 0), .int v1, .int v2, .int v3, .int v4] s (none, s2) :=
  fm_of hI (by decide) rfl (Nat.le_of_ble_eq_true rfl) (e_X9_begin hI v1 v2 v3 v4 s _ h (fun r s e => by cases e; rfl))
-- X9_opens
abbrev rm_X9_opens : Room := { frames := 2, cells := 0, slots := 0, locals := 45 }
def f_X9_opens_97 (v1 : Int32) (v2 : Int32) (v3 : Int32) (v4 : Int32) (v6 : Int32) (sk0 : Int32) (s : fm_M) : Option ((fm_M × Int32 × Int32) ⊕ (fm_M × Int32 × Int32)) :=
  some (.inl (s, sk0, (v6 + (1 : Int32))))
set_option maxHeartbeats 4000000 in
theorem t_X9_opens_97 {w : fm_W} {l : Launch} {o : fm_O} (hI : fm_I w 11) (v1 : Int32) (v2 : Int32) (v3 : Int32) (v4 : Int32) (v6 : Int32) (sk0 : Int32) (s : fm_M) (z : (fm_M × Int32 × Int32) ⊕ (fm_M × Int32 × Int32)) (h : f_X9_opens_97 v1 v2 v3 v4 v6 sk0 s = some z) (kb : ∀ (s : fm_M) (u5 : Int32) (u6 : Int32), z = .inl (s, u5, u6) → fm_V w layM 11 l rm_X9_opens cX9_opens 7 RX9 (some .int) o 38 [some (.ref (fm_ad w 0)), some (.int v1), some (.int v2), some (.int v3), some (.int v4), some (.int u5), some (.int u6)] [] s) (ke : ∀ (s : fm_M) (u5 : Int32) (u6 : Int32), z = .inr (s, u5, u6) → fm_V w layM 11 l rm_X9_opens cX9_opens 7 RX9 (some .int) o 105 [some (.ref (fm_ad w 0)), some (.int v1), some (.int v2), some (.int v3), some (.int v4), some (.int u5), some (.int u6)] [] s) : fm_V w layM 11 l rm_X9_opens cX9_opens 7 RX9 (some .int) o 97 [some (.ref (fm_ad w 0)), some (.int v1), some (.int v2), some (.int v3), some (.int v4), none, some (.int v6)] [.int sk0] s := by
  unfold f_X9_opens_97 at h
  refine v_istore (lv' := [some (.ref (fm_ad w 0)), some (.int v1), some (.int v2), some (.int v3), some (.int v4), some (.int sk0), some (.int v6)]) dX9_opens_97 (by decide) rfl rfl ?_
  refine v_iinc (lv' := [some (.ref (fm_ad w 0)), some (.int v1), some (.int v2), some (.int v3), some (.int v4), some (.int sk0), some (.int (v6 + (1 : Int32)))]) (1 : Int32) dX9_opens_99 rfl (by decide) (by decide) rfl rfl ?_
  refine v_goto 38 dX9_opens_102 (by decide) ?_
  refine v_lw [some (.ref (fm_ad w 0)), some (.int v1), some (.int v2), some (.int v3), some (.int v4), some (.int sk0), some (.int (v6 + (1 : Int32)))] rfl ⟨rfl, rfl, rfl, rfl, rfl, rfl, rfl, trivial⟩ ?_
  exact kb _ _ _ (Option.some.inj h).symm
def f_X9_opens_95 (v1 : Int32) (v2 : Int32) (v3 : Int32) (v4 : Int32) (v5 : Int32) (v6 : Int32) (s : fm_M) : Option ((fm_M × Int32 × Int32) ⊕ (fm_M × Int32 × Int32)) :=
  f_X9_opens_97 v1 v2 v3 v4 v6 v5 s
set_option maxHeartbeats 4000000 in
theorem t_X9_opens_95 {w : fm_W} {l : Launch} {o : fm_O} (hI : fm_I w 11) (v1 : Int32) (v2 : Int32) (v3 : Int32) (v4 : Int32) (v5 : Int32) (v6 : Int32) (s : fm_M) (z : (fm_M × Int32 × Int32) ⊕ (fm_M × Int32 × Int32)) (h : f_X9_opens_95 v1 v2 v3 v4 v5 v6 s = some z) (kb : ∀ (s : fm_M) (u5 : Int32) (u6 : Int32), z = .inl (s, u5, u6) → fm_V w layM 11 l rm_X9_opens cX9_opens 7 RX9 (some .int) o 38 [some (.ref (fm_ad w 0)), some (.int v1), some (.int v2), some (.int v3), some (.int v4), some (.int u5), some (.int u6)] [] s) (ke : ∀ (s : fm_M) (u5 : Int32) (u6 : Int32), z = .inr (s, u5, u6) → fm_V w layM 11 l rm_X9_opens cX9_opens 7 RX9 (some .int) o 105 [some (.ref (fm_ad w 0)), some (.int v1), some (.int v2), some (.int v3), some (.int v4), some (.int u5), some (.int u6)] [] s) : fm_V w layM 11 l rm_X9_opens cX9_opens 7 RX9 (some .int) o 95 [some (.ref (fm_ad w 0)), some (.int v1), some (.int v2), some (.int v3), some (.int v4), some (.int v5), some (.int v6)] [] s := by
  unfold f_X9_opens_95 at h
  refine v_iload dX9_opens_95 rfl ?_
  refine v_lw [some (.ref (fm_ad w 0)), some (.int v1), some (.int v2), some (.int v3), some (.int v4), none, some (.int v6)] rfl ⟨rfl, rfl, rfl, rfl, rfl, rfl, trivial⟩ ?_
  exact t_X9_opens_97 hI v1 v2 v3 v4 v6 v5 s _ h kb ke
def f_X9_opens_90 (v1 : Int32) (v2 : Int32) (v3 : Int32) (v4 : Int32) (v6 : Int32) (s : fm_M) : Option ((fm_M × Int32 × Int32) ⊕ (fm_M × Int32 × Int32)) :=
  f_X9_opens_97 v1 v2 v3 v4 v6 v6 s
set_option maxHeartbeats 4000000 in
theorem t_X9_opens_90 {w : fm_W} {l : Launch} {o : fm_O} (hI : fm_I w 11) (v1 : Int32) (v2 : Int32) (v3 : Int32) (v4 : Int32) (v6 : Int32) (s : fm_M) (z : (fm_M × Int32 × Int32) ⊕ (fm_M × Int32 × Int32)) (h : f_X9_opens_90 v1 v2 v3 v4 v6 s = some z) (kb : ∀ (s : fm_M) (u5 : Int32) (u6 : Int32), z = .inl (s, u5, u6) → fm_V w layM 11 l rm_X9_opens cX9_opens 7 RX9 (some .int) o 38 [some (.ref (fm_ad w 0)), some (.int v1), some (.int v2), some (.int v3), some (.int v4), some (.int u5), some (.int u6)] [] s) (ke : ∀ (s : fm_M) (u5 : Int32) (u6 : Int32), z = .inr (s, u5, u6) → fm_V w layM 11 l rm_X9_opens cX9_opens 7 RX9 (some .int) o 105 [some (.ref (fm_ad w 0)), some (.int v1), some (.int v2), some (.int v3), some (.int v4), some (.int u5), some (.int u6)] [] s) : fm_V w layM 11 l rm_X9_opens cX9_opens 7 RX9 (some .int) o 90 [some (.ref (fm_ad w 0)), some (.int v1), some (.int v2), some (.int v3), some (.int v4), none, some (.int v6)] [] s := by
  unfold f_X9_opens_90 at h
  refine v_iload dX9_opens_90 rfl ?_
  refine v_goto 97 dX9_opens_92 (by decide) ?_
  refine v_lw [some (.ref (fm_ad w 0)), some (.int v1), some (.int v2), some (.int v3), some (.int v4), none, some (.int v6)] rfl ⟨rfl, rfl, rfl, rfl, rfl, rfl, trivial⟩ ?_
  exact t_X9_opens_97 hI v1 v2 v3 v4 v6 v6 s _ h kb ke
def f_X9_opens_38 (v1 : Int32) (v2 : Int32) (v3 : Int32) (v4 : Int32) (s : fm_M) (v5 : Int32) (v6 : Int32) : Option ((fm_M × Int32 × Int32) ⊕ (fm_M × Int32 × Int32)) :=
  if fm_in (0 : Int32) 17 = true then if (s 2 (0 : Int32).toNatClampNeg) ≤ v6 then some (.inr (s, v5, v6)) else if fm_in v6 29 = true then if (s 4 v6.toNatClampNeg) = (2 : Int32) then if v5 = (-4 : Int32) then f_X9_opens_90 v1 v2 v3 v4 v6 s else if fm_in ((6 : Int32) + v6) 29 = true then if fm_in ((6 : Int32) + v5) 29 = true then if (s 4 ((6 : Int32) + v6).toNatClampNeg) ≤ (s 4 ((6 : Int32) + v5).toNatClampNeg) then f_X9_opens_95 v1 v2 v3 v4 v5 v6 s else f_X9_opens_90 v1 v2 v3 v4 v6 s else none else none else f_X9_opens_95 v1 v2 v3 v4 v5 v6 s else none else none
set_option maxHeartbeats 4000000 in
theorem t_X9_opens_38 {w : fm_W} {l : Launch} {o : fm_O} (hI : fm_I w 11) (v1 : Int32) (v2 : Int32) (v3 : Int32) (v4 : Int32) (s : fm_M) (v5 : Int32) (v6 : Int32) (z : (fm_M × Int32 × Int32) ⊕ (fm_M × Int32 × Int32)) (h : f_X9_opens_38 v1 v2 v3 v4 s v5 v6 = some z) (kb : ∀ (s : fm_M) (u5 : Int32) (u6 : Int32), z = .inl (s, u5, u6) → fm_V w layM 11 l rm_X9_opens cX9_opens 7 RX9 (some .int) o 38 [some (.ref (fm_ad w 0)), some (.int v1), some (.int v2), some (.int v3), some (.int v4), some (.int u5), some (.int u6)] [] s) (ke : ∀ (s : fm_M) (u5 : Int32) (u6 : Int32), z = .inr (s, u5, u6) → fm_V w layM 11 l rm_X9_opens cX9_opens 7 RX9 (some .int) o 105 [some (.ref (fm_ad w 0)), some (.int v1), some (.int v2), some (.int v3), some (.int v4), some (.int u5), some (.int u6)] [] s) : fm_V w layM 11 l rm_X9_opens cX9_opens 7 RX9 (some .int) o 38 [some (.ref (fm_ad w 0)), some (.int v1), some (.int v2), some (.int v3), some (.int v4), some (.int v5), some (.int v6)] [] s := by
  unfold f_X9_opens_38 at h
  refine v_iload dX9_opens_38 rfl ?_
  refine v_aload_n 0 dX9_opens_40 rfl rfl ?_
  refine v_getr 2 g_X9_13 yM_0 (by decide) rfl dX9_opens_41 ?_
  refine v_iconst (0 : Int32) dX9_opens_44 (by decide) ?_
  obtain ⟨hi, h⟩ := fm_ift h
  refine v_iald (Or.inl ⟨(by decide), yM_2⟩) hi dX9_opens_45 ?_
  refine v_icmp_ge 105 dX9_opens_46 (by decide) h (fun h => ?_) (fun h => ?_)
  · refine v_lw [some (.ref (fm_ad w 0)), some (.int v1), some (.int v2), some (.int v3), some (.int v4), some (.int v5), some (.int v6)] rfl ⟨rfl, rfl, rfl, rfl, rfl, rfl, rfl, trivial⟩ ?_
    exact ke _ _ _ (Option.some.inj h).symm
  · refine v_aload_n 0 dX9_opens_49 rfl rfl ?_
    refine v_getr 4 g_X9_19 yM_0 (by decide) rfl dX9_opens_50 ?_
    refine v_iload dX9_opens_53 rfl ?_
    obtain ⟨hi, h⟩ := fm_ift h
    refine v_iald (Or.inl ⟨(by decide), yM_4⟩) hi dX9_opens_55 ?_
    refine v_iconst (2 : Int32) dX9_opens_56 (by decide) ?_
    refine v_icmp_ne 95 dX9_opens_57 (by decide) h (fun h => ?_) (fun h => ?_)
    · refine v_lw [some (.ref (fm_ad w 0)), some (.int v1), some (.int v2), some (.int v3), some (.int v4), some (.int v5), some (.int v6)] rfl ⟨rfl, rfl, rfl, rfl, rfl, rfl, rfl, trivial⟩ ?_
      exact t_X9_opens_95 hI v1 v2 v3 v4 v5 v6 s _ h kb ke
    · refine v_iload dX9_opens_60 rfl ?_
      refine v_bipush (-4 : Int32) dX9_opens_62 (by decide) ?_
      refine v_icmp_eq 90 dX9_opens_64 (by decide) h (fun h => ?_) (fun h => ?_)
      · refine v_lw [some (.ref (fm_ad w 0)), some (.int v1), some (.int v2), some (.int v3), some (.int v4), none, some (.int v6)] rfl ⟨rfl, rfl, rfl, rfl, rfl, rfl, trivial⟩ ?_
        exact t_X9_opens_90 hI v1 v2 v3 v4 v6 s _ h kb ke
      · refine v_aload_n 0 dX9_opens_67 rfl rfl ?_
        refine v_getr 4 g_X9_19 yM_0 (by decide) rfl dX9_opens_68 ?_
        refine v_bipush (6 : Int32) dX9_opens_71 (by decide) ?_
        refine v_iload dX9_opens_73 rfl ?_
        refine v_iadd dX9_opens_75 ?_
        obtain ⟨hi, h⟩ := fm_ift h
        refine v_iald (Or.inl ⟨(by decide), yM_4⟩) hi dX9_opens_76 ?_
        refine v_aload_n 0 dX9_opens_77 rfl rfl ?_
        refine v_getr 4 g_X9_19 yM_0 (by decide) rfl dX9_opens_78 ?_
        refine v_bipush (6 : Int32) dX9_opens_81 (by decide) ?_
        refine v_iload dX9_opens_83 rfl ?_
        refine v_iadd dX9_opens_85 ?_
        obtain ⟨hi, h⟩ := fm_ift h
        refine v_iald (Or.inl ⟨(by decide), yM_4⟩) hi dX9_opens_86 ?_
        refine v_icmp_le 95 dX9_opens_87 (by decide) h (fun h => ?_) (fun h => ?_)
        · refine v_lw [some (.ref (fm_ad w 0)), some (.int v1), some (.int v2), some (.int v3), some (.int v4), some (.int v5), some (.int v6)] rfl ⟨rfl, rfl, rfl, rfl, rfl, rfl, rfl, trivial⟩ ?_
          exact t_X9_opens_95 hI v1 v2 v3 v4 v5 v6 s _ h kb ke
        · refine v_lw [some (.ref (fm_ad w 0)), some (.int v1), some (.int v2), some (.int v3), some (.int v4), none, some (.int v6)] rfl ⟨rfl, rfl, rfl, rfl, rfl, rfl, trivial⟩ ?_
          exact t_X9_opens_90 hI v1 v2 v3 v4 v6 s _ h kb ke
set_option maxHeartbeats 4000000 in
theorem i_X9_opens_38 {w : fm_W} {l : Launch} {o : fm_O} (hI : fm_I w 11) (v1 : Int32) (v2 : Int32) (v3 : Int32) (v4 : Int32) (n : Nat) (s : fm_M) (v5 : Int32) (v6 : Int32) (q : fm_M × Int32 × Int32) (h : fm_it (fun s => f_X9_opens_38 v1 v2 v3 v4 s.1 s.2.1 s.2.2) n (s, v5, v6) = some q) (ke : ∀ (s : fm_M) (u5 : Int32) (u6 : Int32), q = (s, u5, u6) → fm_V w layM 11 l rm_X9_opens cX9_opens 7 RX9 (some .int) o 105 [some (.ref (fm_ad w 0)), some (.int v1), some (.int v2), some (.int v3), some (.int v4), some (.int u5), some (.int u6)] [] s) : fm_V w layM 11 l rm_X9_opens cX9_opens 7 RX9 (some .int) o 38 [some (.ref (fm_ad w 0)), some (.int v1), some (.int v2), some (.int v3), some (.int v4), some (.int v5), some (.int v6)] [] s :=
  fm_it_loop (body := (fun s => f_X9_opens_38 v1 v2 v3 v4 s.1 s.2.1 s.2.2)) (P := fun s => fm_V w layM 11 l rm_X9_opens cX9_opens 7 RX9 (some .int) o 38 [some (.ref (fm_ad w 0)), some (.int v1), some (.int v2), some (.int v3), some (.int v4), some (.int s.2.1), some (.int s.2.2)] [] s.1) (K := (fun q : fm_M × Int32 × Int32 => (∀ (s : fm_M) (u5 : Int32) (u6 : Int32), q = (s, u5, u6) → fm_V w layM 11 l rm_X9_opens cX9_opens 7 RX9 (some .int) o 105 [some (.ref (fm_ad w 0)), some (.int v1), some (.int v2), some (.int v3), some (.int v4), some (.int u5), some (.int u6)] [] s))) (fun s z hb kl kx => t_X9_opens_38 hI v1 v2 v3 v4 s.1 s.2.1 s.2.2 z hb (fun s u5 u6 e => kl _ e) (fun s u5 u6 e => (kx _ e) s u5 u6 rfl)) n (s, v5, v6) q h ke
def f_X9_opens_138 (v1 : Int32) (v2 : Int32) (v3 : Int32) (v4 : Int32) (s : fm_M) : Option ((fm_M × Int32 × Int32) ⊕ (fm_M × Int32 × Int32)) :=
  some (.inl (s, v3, (v4 + (1 : Int32))))
set_option maxHeartbeats 4000000 in
theorem t_X9_opens_138 {w : fm_W} {l : Launch} {o : fm_O} (hI : fm_I w 11) (v1 : Int32) (v2 : Int32) (v3 : Int32) (v4 : Int32) (s : fm_M) (z : (fm_M × Int32 × Int32) ⊕ (fm_M × Int32 × Int32)) (h : f_X9_opens_138 v1 v2 v3 v4 s = some z) (kb : ∀ (s : fm_M) (u3 : Int32) (u4 : Int32), z = .inl (s, u3, u4) → fm_V w layM 11 l rm_X9_opens cX9_opens 7 RX9 (some .int) o 25 [some (.ref (fm_ad w 0)), some (.int v1), some (.int v2), some (.int u3), some (.int u4), none, none] [] s) (ke : ∀ (s : fm_M) (u3 : Int32) (u4 : Int32), z = .inr (s, u3, u4) → fm_V w layM 11 l rm_X9_opens cX9_opens 7 RX9 (some .int) o 144 [some (.ref (fm_ad w 0)), some (.int v1), some (.int v2), some (.int u3), some (.int u4), none, none] [] s) : fm_V w layM 11 l rm_X9_opens cX9_opens 7 RX9 (some .int) o 138 [some (.ref (fm_ad w 0)), some (.int v1), some (.int v2), some (.int v3), some (.int v4), none, none] [] s := by
  unfold f_X9_opens_138 at h
  refine v_iinc (lv' := [some (.ref (fm_ad w 0)), some (.int v1), some (.int v2), some (.int v3), some (.int (v4 + (1 : Int32))), none, none]) (1 : Int32) dX9_opens_138 rfl (by decide) (by decide) rfl rfl ?_
  refine v_goto 25 dX9_opens_141 (by decide) ?_
  refine v_lw [some (.ref (fm_ad w 0)), some (.int v1), some (.int v2), some (.int v3), some (.int (v4 + (1 : Int32))), none, none] rfl ⟨rfl, rfl, rfl, rfl, rfl, trivial⟩ ?_
  exact kb _ _ _ (Option.some.inj h).symm
def f_X9_opens_25 (v1 : Int32) (v2 : Int32) (s : fm_M) (v3 : Int32) (v4 : Int32) : Option ((fm_M × Int32 × Int32) ⊕ (fm_M × Int32 × Int32)) :=
  if v2 ≤ v4 then some (.inr (s, v3, v4)) else fm_op (fm_it (fun (yy : fm_M × Int32 × Int32) => f_X9_opens_38 v1 v2 v3 v4 yy.1 yy.2.1 yy.2.2) fm_fu (s, (-4 : Int32), (0 : Int32))) (fun q2 => ((fun (s2 : fm_M) (x2_5 : Int32) (x2_6 : Int32) => if x2_5 = (-4 : Int32) then f_X9_opens_138 v1 v2 v3 v4 s2 else if fm_in x2_5 29 = true then if fm_in ((6 : Int32) + x2_5) 29 = true then f_X9_opens_138 v1 v2 (v3 ||| ((1 : Int32) <<< (x2_5 &&& 31))) v4 (fm_up (fm_up s2 4 x2_5.toNatClampNeg (3 : Int32)) 4 ((6 : Int32) + x2_5).toNatClampNeg (0 : Int32)) else none else none)) q2.1 q2.2.1 q2.2.2)
set_option maxHeartbeats 4000000 in
theorem t_X9_opens_25 {w : fm_W} {l : Launch} {o : fm_O} (hI : fm_I w 11) (v1 : Int32) (v2 : Int32) (s : fm_M) (v3 : Int32) (v4 : Int32) (z : (fm_M × Int32 × Int32) ⊕ (fm_M × Int32 × Int32)) (h : f_X9_opens_25 v1 v2 s v3 v4 = some z) (kb : ∀ (s : fm_M) (u3 : Int32) (u4 : Int32), z = .inl (s, u3, u4) → fm_V w layM 11 l rm_X9_opens cX9_opens 7 RX9 (some .int) o 25 [some (.ref (fm_ad w 0)), some (.int v1), some (.int v2), some (.int u3), some (.int u4), none, none] [] s) (ke : ∀ (s : fm_M) (u3 : Int32) (u4 : Int32), z = .inr (s, u3, u4) → fm_V w layM 11 l rm_X9_opens cX9_opens 7 RX9 (some .int) o 144 [some (.ref (fm_ad w 0)), some (.int v1), some (.int v2), some (.int u3), some (.int u4), none, none] [] s) : fm_V w layM 11 l rm_X9_opens cX9_opens 7 RX9 (some .int) o 25 [some (.ref (fm_ad w 0)), some (.int v1), some (.int v2), some (.int v3), some (.int v4), none, none] [] s := by
  unfold f_X9_opens_25 at h
  refine v_iload dX9_opens_25 rfl ?_
  refine v_iload_n 2 dX9_opens_27 rfl rfl ?_
  refine v_icmp_ge 144 dX9_opens_28 (by decide) h (fun h => ?_) (fun h => ?_)
  · refine v_lw [some (.ref (fm_ad w 0)), some (.int v1), some (.int v2), some (.int v3), some (.int v4), none, none] rfl ⟨rfl, rfl, rfl, rfl, rfl, trivial⟩ ?_
    exact ke _ _ _ (Option.some.inj h).symm
  · refine v_bipush (-4 : Int32) dX9_opens_31 (by decide) ?_
    refine v_istore (lv' := [some (.ref (fm_ad w 0)), some (.int v1), some (.int v2), some (.int v3), some (.int v4), some (.int (-4 : Int32)), none]) dX9_opens_33 (by decide) rfl rfl ?_
    refine v_iconst (0 : Int32) dX9_opens_35 (by decide) ?_
    refine v_istore (lv' := [some (.ref (fm_ad w 0)), some (.int v1), some (.int v2), some (.int v3), some (.int v4), some (.int (-4 : Int32)), some (.int (0 : Int32))]) dX9_opens_36 (by decide) rfl rfl ?_
    obtain ⟨q2, h2, h⟩ := fm_ops h
    refine v_lw [some (.ref (fm_ad w 0)), some (.int v1), some (.int v2), some (.int v3), some (.int v4), some (.int (-4 : Int32)), some (.int (0 : Int32))] rfl ⟨rfl, rfl, rfl, rfl, rfl, rfl, rfl, trivial⟩ ?_
    refine i_X9_opens_38 hI v1 v2 v3 v4 _ _ _ _ _ h2 (fun s2 x2_5 x2_6 e => ?_)
    subst e
    dsimp only at h
    refine v_iload dX9_opens_105 rfl ?_
    refine v_bipush (-4 : Int32) dX9_opens_107 (by decide) ?_
    refine v_icmp_eq 138 dX9_opens_109 (by decide) h (fun h => ?_) (fun h => ?_)
    · refine v_lw [some (.ref (fm_ad w 0)), some (.int v1), some (.int v2), some (.int v3), some (.int v4), none, none] rfl ⟨rfl, rfl, rfl, rfl, rfl, trivial⟩ ?_
      exact t_X9_opens_138 hI v1 v2 v3 v4 s2 _ h kb ke
    · refine v_aload_n 0 dX9_opens_112 rfl rfl ?_
      refine v_getr 4 g_X9_19 yM_0 (by decide) rfl dX9_opens_113 ?_
      refine v_iload dX9_opens_116 rfl ?_
      refine v_iconst (3 : Int32) dX9_opens_118 (by decide) ?_
      obtain ⟨hi, h⟩ := fm_ift h
      refine v_iast (by decide) yM_4 hi dX9_opens_119 ?_
      refine v_aload_n 0 dX9_opens_120 rfl rfl ?_
      refine v_getr 4 g_X9_19 yM_0 (by decide) rfl dX9_opens_121 ?_
      refine v_bipush (6 : Int32) dX9_opens_124 (by decide) ?_
      refine v_iload dX9_opens_126 rfl ?_
      refine v_iadd dX9_opens_128 ?_
      refine v_iconst (0 : Int32) dX9_opens_129 (by decide) ?_
      obtain ⟨hi, h⟩ := fm_ift h
      refine v_iast (by decide) yM_4 hi dX9_opens_130 ?_
      refine v_iload_n 3 dX9_opens_131 rfl rfl ?_
      refine v_iconst (1 : Int32) dX9_opens_132 (by decide) ?_
      refine v_iload dX9_opens_133 rfl ?_
      refine v_ishl dX9_opens_135 ?_
      refine v_ior dX9_opens_136 ?_
      refine v_istore_n (lv' := [some (.ref (fm_ad w 0)), some (.int v1), some (.int v2), some (.int (v3 ||| ((1 : Int32) <<< (x2_5 &&& 31)))), some (.int v4), some (.int x2_5), some (.int x2_6)]) 3 dX9_opens_137 rfl (by decide) rfl rfl ?_
      refine v_lw [some (.ref (fm_ad w 0)), some (.int v1), some (.int v2), some (.int (v3 ||| ((1 : Int32) <<< (x2_5 &&& 31)))), some (.int v4), none, none] rfl ⟨rfl, rfl, rfl, rfl, rfl, trivial⟩ ?_
      exact t_X9_opens_138 hI v1 v2 (v3 ||| ((1 : Int32) <<< (x2_5 &&& 31))) v4 (fm_up (fm_up s2 4 x2_5.toNatClampNeg (3 : Int32)) 4 ((6 : Int32) + x2_5).toNatClampNeg (0 : Int32)) _ h kb ke
set_option maxHeartbeats 4000000 in
theorem i_X9_opens_25 {w : fm_W} {l : Launch} {o : fm_O} (hI : fm_I w 11) (v1 : Int32) (v2 : Int32) (n : Nat) (s : fm_M) (v3 : Int32) (v4 : Int32) (q : fm_M × Int32 × Int32) (h : fm_it (fun s => f_X9_opens_25 v1 v2 s.1 s.2.1 s.2.2) n (s, v3, v4) = some q) (ke : ∀ (s : fm_M) (u3 : Int32) (u4 : Int32), q = (s, u3, u4) → fm_V w layM 11 l rm_X9_opens cX9_opens 7 RX9 (some .int) o 144 [some (.ref (fm_ad w 0)), some (.int v1), some (.int v2), some (.int u3), some (.int u4), none, none] [] s) : fm_V w layM 11 l rm_X9_opens cX9_opens 7 RX9 (some .int) o 25 [some (.ref (fm_ad w 0)), some (.int v1), some (.int v2), some (.int v3), some (.int v4), none, none] [] s :=
  fm_it_loop (body := (fun s => f_X9_opens_25 v1 v2 s.1 s.2.1 s.2.2)) (P := fun s => fm_V w layM 11 l rm_X9_opens cX9_opens 7 RX9 (some .int) o 25 [some (.ref (fm_ad w 0)), some (.int v1), some (.int v2), some (.int s.2.1), some (.int s.2.2), none, none] [] s.1) (K := (fun q : fm_M × Int32 × Int32 => (∀ (s : fm_M) (u3 : Int32) (u4 : Int32), q = (s, u3, u4) → fm_V w layM 11 l rm_X9_opens cX9_opens 7 RX9 (some .int) o 144 [some (.ref (fm_ad w 0)), some (.int v1), some (.int v2), some (.int u3), some (.int u4), none, none] [] s))) (fun s z hb kl kx => t_X9_opens_25 hI v1 v2 s.1 s.2.1 s.2.2 z hb (fun s u3 u4 e => kl _ e) (fun s u3 u4 e => (kx _ e) s u3 u4 rfl)) n (s, v3, v4) q h ke
def f_X9_opens_19 (v1 : Int32) (sk0 : Int32) (s : fm_M) : Option (Int32 × fm_M) :=
  fm_op (fm_it (fun (yy : fm_M × Int32 × Int32) => f_X9_opens_25 v1 sk0 yy.1 yy.2.1 yy.2.2) fm_fu (s, (0 : Int32), (0 : Int32))) (fun q3 => ((fun (s3 : fm_M) (x3_3 : Int32) (x3_4 : Int32) => fm_bd (f_X9_begin v1 (3 : Int32) (0 : Int32) (0 : Int32) s3) (fun r4 s4 => some (x3_3, s4)))) q3.1 q3.2.1 q3.2.2)
set_option maxHeartbeats 4000000 in
theorem t_X9_opens_19 {w : fm_W} {l : Launch} {o : fm_O} (hI : fm_I w 11) (v1 : Int32) (sk0 : Int32) (s : fm_M) (z : Int32 × fm_M) (h : f_X9_opens_19 v1 sk0 s = some z) (ho : ∀ (r : Int32) (s : fm_M), z = (r, s) → o = (some (.int r), s)) : fm_V w layM 11 l rm_X9_opens cX9_opens 7 RX9 (some .int) o 19 [some (.ref (fm_ad w 0)), some (.int v1), none, none, none, none, none] [.int sk0] s := by
  unfold f_X9_opens_19 at h
  refine v_istore_n (lv' := [some (.ref (fm_ad w 0)), some (.int v1), some (.int sk0), none, none, none, none]) 2 dX9_opens_19 rfl (by decide) rfl rfl ?_
  refine v_iconst (0 : Int32) dX9_opens_20 (by decide) ?_
  refine v_istore_n (lv' := [some (.ref (fm_ad w 0)), some (.int v1), some (.int sk0), some (.int (0 : Int32)), none, none, none]) 3 dX9_opens_21 rfl (by decide) rfl rfl ?_
  refine v_iconst (0 : Int32) dX9_opens_22 (by decide) ?_
  refine v_istore (lv' := [some (.ref (fm_ad w 0)), some (.int v1), some (.int sk0), some (.int (0 : Int32)), some (.int (0 : Int32)), none, none]) dX9_opens_23 (by decide) rfl rfl ?_
  obtain ⟨q3, h3, h⟩ := fm_ops h
  refine v_lw [some (.ref (fm_ad w 0)), some (.int v1), some (.int sk0), some (.int (0 : Int32)), some (.int (0 : Int32)), none, none] rfl ⟨rfl, rfl, rfl, rfl, rfl, trivial⟩ ?_
  refine i_X9_opens_25 hI v1 sk0 _ _ _ _ _ h3 (fun s3 x3_3 x3_4 e => ?_)
  subst e
  dsimp only at h
  refine v_aload_n 0 dX9_opens_144 rfl rfl ?_
  refine v_iload_n 1 dX9_opens_145 rfl rfl ?_
  refine v_iconst (3 : Int32) dX9_opens_146 (by decide) ?_
  refine v_iconst (0 : Int32) dX9_opens_147 (by decide) ?_
  refine v_iconst (0 : Int32) dX9_opens_148 (by decide) ?_
  obtain ⟨r4, s4, h4, h⟩ := fm_bds h
  refine v_cVv [.int v1, .int (3 : Int32), .int (0 : Int32), .int (0 : Int32)] [] l_X9_111 (c_X9_begin hI h4) yM_0 (by decide) rfl rfl ⟨rfl, rfl, by decide, by decide⟩ (Nat.le_of_ble_eq_true rfl) dX9_opens_149 ?_
  refine v_iload_n 3 dX9_opens_152 rfl rfl ?_
  exact v_iret rfl (ho _ _ (Option.some.inj h).symm) dX9_opens_153
def f_X9_opens (v1 : Int32) (s : fm_M) : Option (Int32 × fm_M) :=
  fm_bd (f_X9_notOut s) (fun r1 s1 => if r1 = (1 : Int32) then f_X9_opens_19 v1 (6 : Int32) s1 else if fm_in (3 : Int32) 17 = true then f_X9_opens_19 v1 (s1 2 (3 : Int32).toNatClampNeg) s1 else none)
set_option maxHeartbeats 4000000 in
theorem e_X9_opens {w : fm_W} {l : Launch} {o : fm_O} (hI : fm_I w 11) (v1 : Int32) (s : fm_M) (z : Int32 × fm_M) (h : f_X9_opens v1 s = some z) (ho : ∀ (r : Int32) (s : fm_M), z = (r, s) → o = (some (.int r), s)) : fm_V w layM 11 l rm_X9_opens cX9_opens 7 RX9 (some .int) o 0 [some (.ref (fm_ad w 0)), some (.int v1), none, none, none, none, none] [] s := by
  unfold f_X9_opens at h
  refine v_aload_n 0 dX9_opens_0 rfl rfl ?_
  obtain ⟨r1, s1, h1, h⟩ := fm_bds h
  refine v_cVi [] [] l_X9_128 (c_X9_notOut hI h1) yM_0 (by decide) rfl rfl ⟨rfl, rfl, by decide, by decide⟩ (Nat.le_of_ble_eq_true rfl) dX9_opens_1 ?_
  refine v_iconst (1 : Int32) dX9_opens_4 (by decide) ?_
  refine v_icmp_ne 13 dX9_opens_5 (by decide) h (fun h => ?_) (fun h => ?_)
  · refine v_aload_n 0 dX9_opens_13 rfl rfl ?_
    refine v_getr 2 g_X9_13 yM_0 (by decide) rfl dX9_opens_14 ?_
    refine v_iconst (3 : Int32) dX9_opens_17 (by decide) ?_
    obtain ⟨hi, h⟩ := fm_ift h
    refine v_iald (Or.inl ⟨(by decide), yM_2⟩) hi dX9_opens_18 ?_
    refine v_lw [some (.ref (fm_ad w 0)), some (.int v1), none, none, none, none, none] rfl ⟨rfl, rfl, trivial⟩ ?_
    exact t_X9_opens_19 hI v1 (s1 2 (3 : Int32).toNatClampNeg) s1 _ h ho
  · refine v_bipush (6 : Int32) dX9_opens_8 (by decide) ?_
    refine v_goto 19 dX9_opens_10 (by decide) ?_
    refine v_lw [some (.ref (fm_ad w 0)), some (.int v1), none, none, none, none, none] rfl ⟨rfl, rfl, trivial⟩ ?_
    exact t_X9_opens_19 hI v1 (6 : Int32) s1 _ h ho
theorem c_X9_opens {w : fm_W} {l : Launch} (hI : fm_I w 11) {v1 : Int32} {s : fm_M} {r : Int32} {s2 : fm_M} (h : f_X9_opens v1 s = some (r, s2)) : fm_C w layM 11 l yX9_opens cX9_opens 7 (some .int) rm_X9_opens [.ref (fm_ad w 0), .int v1] s (some (.int r), s2) :=
  fm_of hI (by decide) rfl (Nat.le_of_ble_eq_true rfl) (e_X9_opens hI v1 s _ h (fun r s e => by cases e; rfl))
-- X9_passes
abbrev rm_X9_passes : Room := { frames := 1, cells := 0, slots := 0, locals := 24 }
def f_X9_passes_126 (v1 : Int32) (v2 : Int32) (s : fm_M) : Option ((fm_M × Int32 × Int32) ⊕ (fm_M × Int32 × Int32)) :=
  some (.inl (s, v1, (v2 + (1 : Int32))))
set_option maxHeartbeats 4000000 in
theorem t_X9_passes_126 {w : fm_W} {l : Launch} {o : fm_O} (hI : fm_I w 11) (v1 : Int32) (v2 : Int32) (s : fm_M) (z : (fm_M × Int32 × Int32) ⊕ (fm_M × Int32 × Int32)) (h : f_X9_passes_126 v1 v2 s = some z) (kb : ∀ (s : fm_M) (u1 : Int32) (u2 : Int32), z = .inl (s, u1, u2) → fm_V w layM 11 l rm_X9_passes cX9_passes 4 RX9 (some .int) o 4 [some (.ref (fm_ad w 0)), some (.int u1), some (.int u2), none] [] s) (ke : ∀ (s : fm_M) (u1 : Int32) (u2 : Int32), z = .inr (s, u1, u2) → fm_V w layM 11 l rm_X9_passes cX9_passes 4 RX9 (some .int) o 132 [some (.ref (fm_ad w 0)), some (.int u1), some (.int u2), none] [] s) : fm_V w layM 11 l rm_X9_passes cX9_passes 4 RX9 (some .int) o 126 [some (.ref (fm_ad w 0)), some (.int v1), some (.int v2), none] [] s := by
  unfold f_X9_passes_126 at h
  refine v_iinc (lv' := [some (.ref (fm_ad w 0)), some (.int v1), some (.int (v2 + (1 : Int32))), none]) (1 : Int32) dX9_passes_126 rfl (by decide) (by decide) rfl rfl ?_
  refine v_goto 4 dX9_passes_129 (by decide) ?_
  refine v_lw [some (.ref (fm_ad w 0)), some (.int v1), some (.int (v2 + (1 : Int32))), none] rfl ⟨rfl, rfl, rfl, trivial⟩ ?_
  exact kb _ _ _ (Option.some.inj h).symm
def f_X9_passes_73 (v1 : Int32) (v2 : Int32) (sk0 : Int32) (sk1 : Int32) (sk2 : Int32) (s : fm_M) : Option ((fm_M × Int32 × Int32) ⊕ (fm_M × Int32 × Int32)) :=
  if fm_in sk2 29 = true then if fm_in ((6 : Int32) + v2) 29 = true then if fm_in (2 : Int32) 17 = true then if ((fm_up s 4 sk2.toNatClampNeg (sk1 + sk0)) 4 ((6 : Int32) + v2).toNatClampNeg) ≤ ((fm_up s 4 sk2.toNatClampNeg (sk1 + sk0)) 2 (2 : Int32).toNatClampNeg) then f_X9_passes_126 v1 v2 (fm_up s 4 sk2.toNatClampNeg (sk1 + sk0)) else if fm_in v2 29 = true then if fm_in ((6 : Int32) + v2) 29 = true then if fm_in ((12 : Int32) + v2) 29 = true then if fm_in ((12 : Int32) + v2) 29 = true then f_X9_passes_126 (v1 + (1 : Int32)) v2 (fm_up (fm_up (fm_up (fm_up s 4 sk2.toNatClampNeg (sk1 + sk0)) 4 v2.toNatClampNeg (0 : Int32)) 4 ((6 : Int32) + v2).toNatClampNeg (0 : Int32)) 4 ((12 : Int32) + v2).toNatClampNeg (((fm_up (fm_up (fm_up s 4 sk2.toNatClampNeg (sk1 + sk0)) 4 v2.toNatClampNeg (0 : Int32)) 4 ((6 : Int32) + v2).toNatClampNeg (0 : Int32)) 4 ((12 : Int32) + v2).toNatClampNeg) + (1 : Int32))) else none else none else none else none else none else none else none
set_option maxHeartbeats 4000000 in
theorem t_X9_passes_73 {w : fm_W} {l : Launch} {o : fm_O} (hI : fm_I w 11) (v1 : Int32) (v2 : Int32) (sk0 : Int32) (sk1 : Int32) (sk2 : Int32) (s : fm_M) (z : (fm_M × Int32 × Int32) ⊕ (fm_M × Int32 × Int32)) (h : f_X9_passes_73 v1 v2 sk0 sk1 sk2 s = some z) (kb : ∀ (s : fm_M) (u1 : Int32) (u2 : Int32), z = .inl (s, u1, u2) → fm_V w layM 11 l rm_X9_passes cX9_passes 4 RX9 (some .int) o 4 [some (.ref (fm_ad w 0)), some (.int u1), some (.int u2), none] [] s) (ke : ∀ (s : fm_M) (u1 : Int32) (u2 : Int32), z = .inr (s, u1, u2) → fm_V w layM 11 l rm_X9_passes cX9_passes 4 RX9 (some .int) o 132 [some (.ref (fm_ad w 0)), some (.int u1), some (.int u2), none] [] s) : fm_V w layM 11 l rm_X9_passes cX9_passes 4 RX9 (some .int) o 73 [some (.ref (fm_ad w 0)), some (.int v1), some (.int v2), none] [.int sk0, .int sk1, .int sk2, .ref (fm_ad w 4)] s := by
  unfold f_X9_passes_73 at h
  refine v_iadd dX9_passes_73 ?_
  obtain ⟨hi, h⟩ := fm_ift h
  refine v_iast (by decide) yM_4 hi dX9_passes_74 ?_
  refine v_aload_n 0 dX9_passes_75 rfl rfl ?_
  refine v_getr 4 g_X9_19 yM_0 (by decide) rfl dX9_passes_76 ?_
  refine v_bipush (6 : Int32) dX9_passes_79 (by decide) ?_
  refine v_iload_n 2 dX9_passes_81 rfl rfl ?_
  refine v_iadd dX9_passes_82 ?_
  obtain ⟨hi, h⟩ := fm_ift h
  refine v_iald (Or.inl ⟨(by decide), yM_4⟩) hi dX9_passes_83 ?_
  refine v_aload_n 0 dX9_passes_84 rfl rfl ?_
  refine v_getr 2 g_X9_13 yM_0 (by decide) rfl dX9_passes_85 ?_
  refine v_iconst (2 : Int32) dX9_passes_88 (by decide) ?_
  obtain ⟨hi, h⟩ := fm_ift h
  refine v_iald (Or.inl ⟨(by decide), yM_2⟩) hi dX9_passes_89 ?_
  refine v_icmp_le 126 dX9_passes_90 (by decide) h (fun h => ?_) (fun h => ?_)
  · refine v_lw [some (.ref (fm_ad w 0)), some (.int v1), some (.int v2), none] rfl ⟨rfl, rfl, rfl, trivial⟩ ?_
    exact t_X9_passes_126 hI v1 v2 (fm_up s 4 sk2.toNatClampNeg (sk1 + sk0)) _ h kb ke
  · refine v_aload_n 0 dX9_passes_93 rfl rfl ?_
    refine v_getr 4 g_X9_19 yM_0 (by decide) rfl dX9_passes_94 ?_
    refine v_iload_n 2 dX9_passes_97 rfl rfl ?_
    refine v_iconst (0 : Int32) dX9_passes_98 (by decide) ?_
    obtain ⟨hi, h⟩ := fm_ift h
    refine v_iast (by decide) yM_4 hi dX9_passes_99 ?_
    refine v_aload_n 0 dX9_passes_100 rfl rfl ?_
    refine v_getr 4 g_X9_19 yM_0 (by decide) rfl dX9_passes_101 ?_
    refine v_bipush (6 : Int32) dX9_passes_104 (by decide) ?_
    refine v_iload_n 2 dX9_passes_106 rfl rfl ?_
    refine v_iadd dX9_passes_107 ?_
    refine v_iconst (0 : Int32) dX9_passes_108 (by decide) ?_
    obtain ⟨hi, h⟩ := fm_ift h
    refine v_iast (by decide) yM_4 hi dX9_passes_109 ?_
    refine v_aload_n 0 dX9_passes_110 rfl rfl ?_
    refine v_getr 4 g_X9_19 yM_0 (by decide) rfl dX9_passes_111 ?_
    refine v_bipush (12 : Int32) dX9_passes_114 (by decide) ?_
    refine v_iload_n 2 dX9_passes_116 rfl rfl ?_
    refine v_iadd dX9_passes_117 ?_
    refine v_dup2 dX9_passes_118 rfl rfl ?_
    obtain ⟨hi, h⟩ := fm_ift h
    refine v_iald (Or.inl ⟨(by decide), yM_4⟩) hi dX9_passes_119 ?_
    refine v_iconst (1 : Int32) dX9_passes_120 (by decide) ?_
    refine v_iadd dX9_passes_121 ?_
    obtain ⟨hi, h⟩ := fm_ift h
    refine v_iast (by decide) yM_4 hi dX9_passes_122 ?_
    refine v_iinc (lv' := [some (.ref (fm_ad w 0)), some (.int (v1 + (1 : Int32))), some (.int v2), none]) (1 : Int32) dX9_passes_123 rfl (by decide) (by decide) rfl rfl ?_
    refine v_lw [some (.ref (fm_ad w 0)), some (.int (v1 + (1 : Int32))), some (.int v2), none] rfl ⟨rfl, rfl, rfl, trivial⟩ ?_
    exact t_X9_passes_126 hI (v1 + (1 : Int32)) v2 (fm_up (fm_up (fm_up (fm_up s 4 sk2.toNatClampNeg (sk1 + sk0)) 4 v2.toNatClampNeg (0 : Int32)) 4 ((6 : Int32) + v2).toNatClampNeg (0 : Int32)) 4 ((12 : Int32) + v2).toNatClampNeg (((fm_up (fm_up (fm_up s 4 sk2.toNatClampNeg (sk1 + sk0)) 4 v2.toNatClampNeg (0 : Int32)) 4 ((6 : Int32) + v2).toNatClampNeg (0 : Int32)) 4 ((12 : Int32) + v2).toNatClampNeg) + (1 : Int32))) _ h kb ke
def f_X9_passes_53 (v1 : Int32) (v2 : Int32) (sk0 : Int32) (s : fm_M) : Option ((fm_M × Int32 × Int32) ⊕ (fm_M × Int32 × Int32)) :=
  if fm_in ((6 : Int32) + v2) 29 = true then if sk0 = 0 then f_X9_passes_73 v1 v2 (0 : Int32) (s 4 ((6 : Int32) + v2).toNatClampNeg) ((6 : Int32) + v2) s else f_X9_passes_73 v1 v2 (1 : Int32) (s 4 ((6 : Int32) + v2).toNatClampNeg) ((6 : Int32) + v2) s else none
set_option maxHeartbeats 4000000 in
theorem t_X9_passes_53 {w : fm_W} {l : Launch} {o : fm_O} (hI : fm_I w 11) (v1 : Int32) (v2 : Int32) (sk0 : Int32) (s : fm_M) (z : (fm_M × Int32 × Int32) ⊕ (fm_M × Int32 × Int32)) (h : f_X9_passes_53 v1 v2 sk0 s = some z) (kb : ∀ (s : fm_M) (u1 : Int32) (u2 : Int32), z = .inl (s, u1, u2) → fm_V w layM 11 l rm_X9_passes cX9_passes 4 RX9 (some .int) o 4 [some (.ref (fm_ad w 0)), some (.int u1), some (.int u2), none] [] s) (ke : ∀ (s : fm_M) (u1 : Int32) (u2 : Int32), z = .inr (s, u1, u2) → fm_V w layM 11 l rm_X9_passes cX9_passes 4 RX9 (some .int) o 132 [some (.ref (fm_ad w 0)), some (.int u1), some (.int u2), none] [] s) : fm_V w layM 11 l rm_X9_passes cX9_passes 4 RX9 (some .int) o 53 [some (.ref (fm_ad w 0)), some (.int v1), some (.int v2), none] [.int sk0] s := by
  unfold f_X9_passes_53 at h
  refine v_istore_n (lv' := [some (.ref (fm_ad w 0)), some (.int v1), some (.int v2), some (.int sk0)]) 3 dX9_passes_53 rfl (by decide) rfl rfl ?_
  refine v_aload_n 0 dX9_passes_54 rfl rfl ?_
  refine v_getr 4 g_X9_19 yM_0 (by decide) rfl dX9_passes_55 ?_
  refine v_bipush (6 : Int32) dX9_passes_58 (by decide) ?_
  refine v_iload_n 2 dX9_passes_60 rfl rfl ?_
  refine v_iadd dX9_passes_61 ?_
  refine v_dup2 dX9_passes_62 rfl rfl ?_
  obtain ⟨hi, h⟩ := fm_ift h
  refine v_iald (Or.inl ⟨(by decide), yM_4⟩) hi dX9_passes_63 ?_
  refine v_iload_n 3 dX9_passes_64 rfl rfl ?_
  refine v_if_eq 72 dX9_passes_65 (by decide) h (fun h => ?_) (fun h => ?_)
  · refine v_iconst (0 : Int32) dX9_passes_72 (by decide) ?_
    refine v_lw [some (.ref (fm_ad w 0)), some (.int v1), some (.int v2), none] rfl ⟨rfl, rfl, rfl, trivial⟩ ?_
    exact t_X9_passes_73 hI v1 v2 (0 : Int32) (s 4 ((6 : Int32) + v2).toNatClampNeg) ((6 : Int32) + v2) s _ h kb ke
  · refine v_iconst (1 : Int32) dX9_passes_68 (by decide) ?_
    refine v_goto 73 dX9_passes_69 (by decide) ?_
    refine v_lw [some (.ref (fm_ad w 0)), some (.int v1), some (.int v2), none] rfl ⟨rfl, rfl, rfl, trivial⟩ ?_
    exact t_X9_passes_73 hI v1 v2 (1 : Int32) (s 4 ((6 : Int32) + v2).toNatClampNeg) ((6 : Int32) + v2) s _ h kb ke
def f_X9_passes_52 (v1 : Int32) (v2 : Int32) (s : fm_M) : Option ((fm_M × Int32 × Int32) ⊕ (fm_M × Int32 × Int32)) :=
  f_X9_passes_53 v1 v2 (0 : Int32) s
set_option maxHeartbeats 4000000 in
theorem t_X9_passes_52 {w : fm_W} {l : Launch} {o : fm_O} (hI : fm_I w 11) (v1 : Int32) (v2 : Int32) (s : fm_M) (z : (fm_M × Int32 × Int32) ⊕ (fm_M × Int32 × Int32)) (h : f_X9_passes_52 v1 v2 s = some z) (kb : ∀ (s : fm_M) (u1 : Int32) (u2 : Int32), z = .inl (s, u1, u2) → fm_V w layM 11 l rm_X9_passes cX9_passes 4 RX9 (some .int) o 4 [some (.ref (fm_ad w 0)), some (.int u1), some (.int u2), none] [] s) (ke : ∀ (s : fm_M) (u1 : Int32) (u2 : Int32), z = .inr (s, u1, u2) → fm_V w layM 11 l rm_X9_passes cX9_passes 4 RX9 (some .int) o 132 [some (.ref (fm_ad w 0)), some (.int u1), some (.int u2), none] [] s) : fm_V w layM 11 l rm_X9_passes cX9_passes 4 RX9 (some .int) o 52 [some (.ref (fm_ad w 0)), some (.int v1), some (.int v2), none] [] s := by
  unfold f_X9_passes_52 at h
  refine v_iconst (0 : Int32) dX9_passes_52 (by decide) ?_
  refine v_lw [some (.ref (fm_ad w 0)), some (.int v1), some (.int v2), none] rfl ⟨rfl, rfl, rfl, trivial⟩ ?_
  exact t_X9_passes_53 hI v1 v2 (0 : Int32) s _ h kb ke
def f_X9_passes_48 (v1 : Int32) (v2 : Int32) (s : fm_M) : Option ((fm_M × Int32 × Int32) ⊕ (fm_M × Int32 × Int32)) :=
  f_X9_passes_53 v1 v2 (1 : Int32) s
set_option maxHeartbeats 4000000 in
theorem t_X9_passes_48 {w : fm_W} {l : Launch} {o : fm_O} (hI : fm_I w 11) (v1 : Int32) (v2 : Int32) (s : fm_M) (z : (fm_M × Int32 × Int32) ⊕ (fm_M × Int32 × Int32)) (h : f_X9_passes_48 v1 v2 s = some z) (kb : ∀ (s : fm_M) (u1 : Int32) (u2 : Int32), z = .inl (s, u1, u2) → fm_V w layM 11 l rm_X9_passes cX9_passes 4 RX9 (some .int) o 4 [some (.ref (fm_ad w 0)), some (.int u1), some (.int u2), none] [] s) (ke : ∀ (s : fm_M) (u1 : Int32) (u2 : Int32), z = .inr (s, u1, u2) → fm_V w layM 11 l rm_X9_passes cX9_passes 4 RX9 (some .int) o 132 [some (.ref (fm_ad w 0)), some (.int u1), some (.int u2), none] [] s) : fm_V w layM 11 l rm_X9_passes cX9_passes 4 RX9 (some .int) o 48 [some (.ref (fm_ad w 0)), some (.int v1), some (.int v2), none] [] s := by
  unfold f_X9_passes_48 at h
  refine v_iconst (1 : Int32) dX9_passes_48 (by decide) ?_
  refine v_goto 53 dX9_passes_49 (by decide) ?_
  refine v_lw [some (.ref (fm_ad w 0)), some (.int v1), some (.int v2), none] rfl ⟨rfl, rfl, rfl, trivial⟩ ?_
  exact t_X9_passes_53 hI v1 v2 (1 : Int32) s _ h kb ke
def f_X9_passes_4 (s : fm_M) (v1 : Int32) (v2 : Int32) : Option ((fm_M × Int32 × Int32) ⊕ (fm_M × Int32 × Int32)) :=
  if fm_in (0 : Int32) 17 = true then if (s 2 (0 : Int32).toNatClampNeg) ≤ v2 then some (.inr (s, v1, v2)) else if fm_in v2 29 = true then if (s 4 v2.toNatClampNeg) = (2 : Int32) then if fm_in ((5 : Int32) + v2) 17 = true then if (s 2 ((5 : Int32) + v2).toNatClampNeg) = (2 : Int32) then if fm_in (28 : Int32) 29 = true then if ((s 4 (28 : Int32).toNatClampNeg) - (s 4 (28 : Int32).toNatClampNeg) / (2 : Int32) * (2 : Int32)) = 0 then f_X9_passes_48 v1 v2 s else f_X9_passes_52 v1 v2 s else none else f_X9_passes_48 v1 v2 s else none else f_X9_passes_52 v1 v2 s else none else none
set_option maxHeartbeats 4000000 in
theorem t_X9_passes_4 {w : fm_W} {l : Launch} {o : fm_O} (hI : fm_I w 11) (s : fm_M) (v1 : Int32) (v2 : Int32) (z : (fm_M × Int32 × Int32) ⊕ (fm_M × Int32 × Int32)) (h : f_X9_passes_4 s v1 v2 = some z) (kb : ∀ (s : fm_M) (u1 : Int32) (u2 : Int32), z = .inl (s, u1, u2) → fm_V w layM 11 l rm_X9_passes cX9_passes 4 RX9 (some .int) o 4 [some (.ref (fm_ad w 0)), some (.int u1), some (.int u2), none] [] s) (ke : ∀ (s : fm_M) (u1 : Int32) (u2 : Int32), z = .inr (s, u1, u2) → fm_V w layM 11 l rm_X9_passes cX9_passes 4 RX9 (some .int) o 132 [some (.ref (fm_ad w 0)), some (.int u1), some (.int u2), none] [] s) : fm_V w layM 11 l rm_X9_passes cX9_passes 4 RX9 (some .int) o 4 [some (.ref (fm_ad w 0)), some (.int v1), some (.int v2), none] [] s := by
  unfold f_X9_passes_4 at h
  refine v_iload_n 2 dX9_passes_4 rfl rfl ?_
  refine v_aload_n 0 dX9_passes_5 rfl rfl ?_
  refine v_getr 2 g_X9_13 yM_0 (by decide) rfl dX9_passes_6 ?_
  refine v_iconst (0 : Int32) dX9_passes_9 (by decide) ?_
  obtain ⟨hi, h⟩ := fm_ift h
  refine v_iald (Or.inl ⟨(by decide), yM_2⟩) hi dX9_passes_10 ?_
  refine v_icmp_ge 132 dX9_passes_11 (by decide) h (fun h => ?_) (fun h => ?_)
  · refine v_lw [some (.ref (fm_ad w 0)), some (.int v1), some (.int v2), none] rfl ⟨rfl, rfl, rfl, trivial⟩ ?_
    exact ke _ _ _ (Option.some.inj h).symm
  · refine v_aload_n 0 dX9_passes_14 rfl rfl ?_
    refine v_getr 4 g_X9_19 yM_0 (by decide) rfl dX9_passes_15 ?_
    refine v_iload_n 2 dX9_passes_18 rfl rfl ?_
    obtain ⟨hi, h⟩ := fm_ift h
    refine v_iald (Or.inl ⟨(by decide), yM_4⟩) hi dX9_passes_19 ?_
    refine v_iconst (2 : Int32) dX9_passes_20 (by decide) ?_
    refine v_icmp_ne 52 dX9_passes_21 (by decide) h (fun h => ?_) (fun h => ?_)
    · refine v_lw [some (.ref (fm_ad w 0)), some (.int v1), some (.int v2), none] rfl ⟨rfl, rfl, rfl, trivial⟩ ?_
      exact t_X9_passes_52 hI v1 v2 s _ h kb ke
    · refine v_aload_n 0 dX9_passes_24 rfl rfl ?_
      refine v_getr 2 g_X9_13 yM_0 (by decide) rfl dX9_passes_25 ?_
      refine v_iconst (5 : Int32) dX9_passes_28 (by decide) ?_
      refine v_iload_n 2 dX9_passes_29 rfl rfl ?_
      refine v_iadd dX9_passes_30 ?_
      obtain ⟨hi, h⟩ := fm_ift h
      refine v_iald (Or.inl ⟨(by decide), yM_2⟩) hi dX9_passes_31 ?_
      refine v_iconst (2 : Int32) dX9_passes_32 (by decide) ?_
      refine v_icmp_ne 48 dX9_passes_33 (by decide) h (fun h => ?_) (fun h => ?_)
      · refine v_lw [some (.ref (fm_ad w 0)), some (.int v1), some (.int v2), none] rfl ⟨rfl, rfl, rfl, trivial⟩ ?_
        exact t_X9_passes_48 hI v1 v2 s _ h kb ke
      · refine v_aload_n 0 dX9_passes_36 rfl rfl ?_
        refine v_getr 4 g_X9_19 yM_0 (by decide) rfl dX9_passes_37 ?_
        refine v_bipush (28 : Int32) dX9_passes_40 (by decide) ?_
        obtain ⟨hi, h⟩ := fm_ift h
        refine v_iald (Or.inl ⟨(by decide), yM_4⟩) hi dX9_passes_42 ?_
        refine v_iconst (2 : Int32) dX9_passes_43 (by decide) ?_
        refine v_irem dX9_passes_44 (by decide) ?_
        refine v_if_ne 52 dX9_passes_45 (by decide) h (fun h => ?_) (fun h => ?_)
        · refine v_lw [some (.ref (fm_ad w 0)), some (.int v1), some (.int v2), none] rfl ⟨rfl, rfl, rfl, trivial⟩ ?_
          exact t_X9_passes_52 hI v1 v2 s _ h kb ke
        · refine v_lw [some (.ref (fm_ad w 0)), some (.int v1), some (.int v2), none] rfl ⟨rfl, rfl, rfl, trivial⟩ ?_
          exact t_X9_passes_48 hI v1 v2 s _ h kb ke
set_option maxHeartbeats 4000000 in
theorem i_X9_passes_4 {w : fm_W} {l : Launch} {o : fm_O} (hI : fm_I w 11) (n : Nat) (s : fm_M) (v1 : Int32) (v2 : Int32) (q : fm_M × Int32 × Int32) (h : fm_it (fun s => f_X9_passes_4 s.1 s.2.1 s.2.2) n (s, v1, v2) = some q) (ke : ∀ (s : fm_M) (u1 : Int32) (u2 : Int32), q = (s, u1, u2) → fm_V w layM 11 l rm_X9_passes cX9_passes 4 RX9 (some .int) o 132 [some (.ref (fm_ad w 0)), some (.int u1), some (.int u2), none] [] s) : fm_V w layM 11 l rm_X9_passes cX9_passes 4 RX9 (some .int) o 4 [some (.ref (fm_ad w 0)), some (.int v1), some (.int v2), none] [] s :=
  fm_it_loop (body := (fun s => f_X9_passes_4 s.1 s.2.1 s.2.2)) (P := fun s => fm_V w layM 11 l rm_X9_passes cX9_passes 4 RX9 (some .int) o 4 [some (.ref (fm_ad w 0)), some (.int s.2.1), some (.int s.2.2), none] [] s.1) (K := (fun q : fm_M × Int32 × Int32 => (∀ (s : fm_M) (u1 : Int32) (u2 : Int32), q = (s, u1, u2) → fm_V w layM 11 l rm_X9_passes cX9_passes 4 RX9 (some .int) o 132 [some (.ref (fm_ad w 0)), some (.int u1), some (.int u2), none] [] s))) (fun s z hb kl kx => t_X9_passes_4 hI s.1 s.2.1 s.2.2 z hb (fun s u1 u2 e => kl _ e) (fun s u1 u2 e => (kx _ e) s u1 u2 rfl)) n (s, v1, v2) q h ke
def f_X9_passes_246 (v1 : Int32) (v2 : Int32) (s : fm_M) : Option ((fm_M × Int32) ⊕ (fm_M × Int32)) :=
  some (.inl (s, (v2 + (1 : Int32))))
set_option maxHeartbeats 4000000 in
theorem t_X9_passes_246 {w : fm_W} {l : Launch} {o : fm_O} (hI : fm_I w 11) (v1 : Int32) (v2 : Int32) (s : fm_M) (z : (fm_M × Int32) ⊕ (fm_M × Int32)) (h : f_X9_passes_246 v1 v2 s = some z) (kb : ∀ (s : fm_M) (u2 : Int32), z = .inl (s, u2) → fm_V w layM 11 l rm_X9_passes cX9_passes 4 RX9 (some .int) o 134 [some (.ref (fm_ad w 0)), some (.int v1), some (.int u2), none] [] s) (ke : ∀ (s : fm_M) (u2 : Int32), z = .inr (s, u2) → fm_V w layM 11 l rm_X9_passes cX9_passes 4 RX9 (some .int) o 252 [some (.ref (fm_ad w 0)), some (.int v1), some (.int u2), none] [] s) : fm_V w layM 11 l rm_X9_passes cX9_passes 4 RX9 (some .int) o 246 [some (.ref (fm_ad w 0)), some (.int v1), some (.int v2), none] [] s := by
  unfold f_X9_passes_246 at h
  refine v_iinc (lv' := [some (.ref (fm_ad w 0)), some (.int v1), some (.int (v2 + (1 : Int32))), none]) (1 : Int32) dX9_passes_246 rfl (by decide) (by decide) rfl rfl ?_
  refine v_goto 134 dX9_passes_249 (by decide) ?_
  refine v_lw [some (.ref (fm_ad w 0)), some (.int v1), some (.int (v2 + (1 : Int32))), none] rfl ⟨rfl, rfl, rfl, trivial⟩ ?_
  exact kb _ _ (Option.some.inj h).symm
def f_X9_passes_238 (v1 : Int32) (v2 : Int32) (s : fm_M) : Option ((fm_M × Int32) ⊕ (fm_M × Int32)) :=
  fm_bd (f_X9_begin v2 (0 : Int32) (0 : Int32) (0 : Int32) s) (fun r2 s2 => f_X9_passes_246 v1 v2 s2)
set_option maxHeartbeats 4000000 in
theorem t_X9_passes_238 {w : fm_W} {l : Launch} {o : fm_O} (hI : fm_I w 11) (v1 : Int32) (v2 : Int32) (s : fm_M) (z : (fm_M × Int32) ⊕ (fm_M × Int32)) (h : f_X9_passes_238 v1 v2 s = some z) (kb : ∀ (s : fm_M) (u2 : Int32), z = .inl (s, u2) → fm_V w layM 11 l rm_X9_passes cX9_passes 4 RX9 (some .int) o 134 [some (.ref (fm_ad w 0)), some (.int v1), some (.int u2), none] [] s) (ke : ∀ (s : fm_M) (u2 : Int32), z = .inr (s, u2) → fm_V w layM 11 l rm_X9_passes cX9_passes 4 RX9 (some .int) o 252 [some (.ref (fm_ad w 0)), some (.int v1), some (.int u2), none] [] s) : fm_V w layM 11 l rm_X9_passes cX9_passes 4 RX9 (some .int) o 238 [some (.ref (fm_ad w 0)), some (.int v1), some (.int v2), none] [] s := by
  unfold f_X9_passes_238 at h
  refine v_aload_n 0 dX9_passes_238 rfl rfl ?_
  refine v_iload_n 2 dX9_passes_239 rfl rfl ?_
  refine v_iconst (0 : Int32) dX9_passes_240 (by decide) ?_
  refine v_iconst (0 : Int32) dX9_passes_241 (by decide) ?_
  refine v_iconst (0 : Int32) dX9_passes_242 (by decide) ?_
  obtain ⟨r2, s2, h2, h⟩ := fm_bds h
  refine v_cVv [.int v2, .int (0 : Int32), .int (0 : Int32), .int (0 : Int32)] [] l_X9_111 (c_X9_begin hI h2) yM_0 (by decide) rfl rfl ⟨rfl, rfl, by decide, by decide⟩ (Nat.le_of_ble_eq_true rfl) dX9_passes_243 ?_
  refine v_lw [some (.ref (fm_ad w 0)), some (.int v1), some (.int v2), none] rfl ⟨rfl, rfl, rfl, trivial⟩ ?_
  exact t_X9_passes_246 hI v1 v2 s2 _ h kb ke
def f_X9_passes_181 (v1 : Int32) (v2 : Int32) (v3 : Int32) (sk0 : Int32) (sk1 : Int32) (sk2 : Int32) (s : fm_M) : Option ((fm_M × Int32) ⊕ (fm_M × Int32)) :=
  if fm_in sk2 29 = true then if v3 = 0 then f_X9_passes_246 v1 v2 (fm_up s 4 sk2.toNatClampNeg (sk1 - sk0)) else if fm_in ((21 : Int32) + v2) 29 = true then if ((fm_up s 4 sk2.toNatClampNeg (sk1 - sk0)) 4 ((21 : Int32) + v2).toNatClampNeg) = 0 then if fm_in ((18 : Int32) + v2) 29 = true then if ((fm_up s 4 sk2.toNatClampNeg (sk1 - sk0)) 4 ((18 : Int32) + v2).toNatClampNeg) = (1 : Int32) then if fm_in ((24 : Int32) + v2) 29 = true then if fm_in ((fm_up s 4 sk2.toNatClampNeg (sk1 - sk0)) 4 ((24 : Int32) + v2).toNatClampNeg) 29 = true then f_X9_passes_238 v1 v2 (fm_up (fm_up s 4 sk2.toNatClampNeg (sk1 - sk0)) 4 ((fm_up s 4 sk2.toNatClampNeg (sk1 - sk0)) 4 ((24 : Int32) + v2).toNatClampNeg).toNatClampNeg (2 : Int32)) else none else none else if fm_in (27 : Int32) 29 = true then f_X9_passes_238 v1 v2 (fm_up (fm_up s 4 sk2.toNatClampNeg (sk1 - sk0)) 4 (27 : Int32).toNatClampNeg (1 : Int32)) else none else none else f_X9_passes_246 v1 v2 (fm_up s 4 sk2.toNatClampNeg (sk1 - sk0)) else none else none
set_option maxHeartbeats 4000000 in
theorem t_X9_passes_181 {w : fm_W} {l : Launch} {o : fm_O} (hI : fm_I w 11) (v1 : Int32) (v2 : Int32) (v3 : Int32) (sk0 : Int32) (sk1 : Int32) (sk2 : Int32) (s : fm_M) (z : (fm_M × Int32) ⊕ (fm_M × Int32)) (h : f_X9_passes_181 v1 v2 v3 sk0 sk1 sk2 s = some z) (kb : ∀ (s : fm_M) (u2 : Int32), z = .inl (s, u2) → fm_V w layM 11 l rm_X9_passes cX9_passes 4 RX9 (some .int) o 134 [some (.ref (fm_ad w 0)), some (.int v1), some (.int u2), none] [] s) (ke : ∀ (s : fm_M) (u2 : Int32), z = .inr (s, u2) → fm_V w layM 11 l rm_X9_passes cX9_passes 4 RX9 (some .int) o 252 [some (.ref (fm_ad w 0)), some (.int v1), some (.int u2), none] [] s) : fm_V w layM 11 l rm_X9_passes cX9_passes 4 RX9 (some .int) o 181 [some (.ref (fm_ad w 0)), some (.int v1), some (.int v2), some (.int v3)] [.int sk0, .int sk1, .int sk2, .ref (fm_ad w 4)] s := by
  unfold f_X9_passes_181 at h
  refine v_isub dX9_passes_181 ?_
  obtain ⟨hi, h⟩ := fm_ift h
  refine v_iast (by decide) yM_4 hi dX9_passes_182 ?_
  refine v_iload_n 3 dX9_passes_183 rfl rfl ?_
  refine v_if_eq 246 dX9_passes_184 (by decide) h (fun h => ?_) (fun h => ?_)
  · refine v_lw [some (.ref (fm_ad w 0)), some (.int v1), some (.int v2), none] rfl ⟨rfl, rfl, rfl, trivial⟩ ?_
    exact t_X9_passes_246 hI v1 v2 (fm_up s 4 sk2.toNatClampNeg (sk1 - sk0)) _ h kb ke
  · refine v_aload_n 0 dX9_passes_187 rfl rfl ?_
    refine v_getr 4 g_X9_19 yM_0 (by decide) rfl dX9_passes_188 ?_
    refine v_bipush (21 : Int32) dX9_passes_191 (by decide) ?_
    refine v_iload_n 2 dX9_passes_193 rfl rfl ?_
    refine v_iadd dX9_passes_194 ?_
    obtain ⟨hi, h⟩ := fm_ift h
    refine v_iald (Or.inl ⟨(by decide), yM_4⟩) hi dX9_passes_195 ?_
    refine v_if_ne 246 dX9_passes_196 (by decide) h (fun h => ?_) (fun h => ?_)
    · refine v_lw [some (.ref (fm_ad w 0)), some (.int v1), some (.int v2), none] rfl ⟨rfl, rfl, rfl, trivial⟩ ?_
      exact t_X9_passes_246 hI v1 v2 (fm_up s 4 sk2.toNatClampNeg (sk1 - sk0)) _ h kb ke
    · refine v_aload_n 0 dX9_passes_199 rfl rfl ?_
      refine v_getr 4 g_X9_19 yM_0 (by decide) rfl dX9_passes_200 ?_
      refine v_bipush (18 : Int32) dX9_passes_203 (by decide) ?_
      refine v_iload_n 2 dX9_passes_205 rfl rfl ?_
      refine v_iadd dX9_passes_206 ?_
      obtain ⟨hi, h⟩ := fm_ift h
      refine v_iald (Or.inl ⟨(by decide), yM_4⟩) hi dX9_passes_207 ?_
      refine v_iconst (1 : Int32) dX9_passes_208 (by decide) ?_
      refine v_icmp_ne 230 dX9_passes_209 (by decide) h (fun h => ?_) (fun h => ?_)
      · refine v_aload_n 0 dX9_passes_230 rfl rfl ?_
        refine v_getr 4 g_X9_19 yM_0 (by decide) rfl dX9_passes_231 ?_
        refine v_bipush (27 : Int32) dX9_passes_234 (by decide) ?_
        refine v_iconst (1 : Int32) dX9_passes_236 (by decide) ?_
        obtain ⟨hi, h⟩ := fm_ift h
        refine v_iast (by decide) yM_4 hi dX9_passes_237 ?_
        refine v_lw [some (.ref (fm_ad w 0)), some (.int v1), some (.int v2), none] rfl ⟨rfl, rfl, rfl, trivial⟩ ?_
        exact t_X9_passes_238 hI v1 v2 (fm_up (fm_up s 4 sk2.toNatClampNeg (sk1 - sk0)) 4 (27 : Int32).toNatClampNeg (1 : Int32)) _ h kb ke
      · refine v_aload_n 0 dX9_passes_212 rfl rfl ?_
        refine v_getr 4 g_X9_19 yM_0 (by decide) rfl dX9_passes_213 ?_
        refine v_aload_n 0 dX9_passes_216 rfl rfl ?_
        refine v_getr 4 g_X9_19 yM_0 (by decide) rfl dX9_passes_217 ?_
        refine v_bipush (24 : Int32) dX9_passes_220 (by decide) ?_
        refine v_iload_n 2 dX9_passes_222 rfl rfl ?_
        refine v_iadd dX9_passes_223 ?_
        obtain ⟨hi, h⟩ := fm_ift h
        refine v_iald (Or.inl ⟨(by decide), yM_4⟩) hi dX9_passes_224 ?_
        refine v_iconst (2 : Int32) dX9_passes_225 (by decide) ?_
        obtain ⟨hi, h⟩ := fm_ift h
        refine v_iast (by decide) yM_4 hi dX9_passes_226 ?_
        refine v_goto 238 dX9_passes_227 (by decide) ?_
        refine v_lw [some (.ref (fm_ad w 0)), some (.int v1), some (.int v2), none] rfl ⟨rfl, rfl, rfl, trivial⟩ ?_
        exact t_X9_passes_238 hI v1 v2 (fm_up (fm_up s 4 sk2.toNatClampNeg (sk1 - sk0)) 4 ((fm_up s 4 sk2.toNatClampNeg (sk1 - sk0)) 4 ((24 : Int32) + v2).toNatClampNeg).toNatClampNeg (2 : Int32)) _ h kb ke
def f_X9_passes_161 (v1 : Int32) (v2 : Int32) (sk0 : Int32) (s : fm_M) : Option ((fm_M × Int32) ⊕ (fm_M × Int32)) :=
  if fm_in ((21 : Int32) + v2) 29 = true then if sk0 = 0 then f_X9_passes_181 v1 v2 sk0 (0 : Int32) (s 4 ((21 : Int32) + v2).toNatClampNeg) ((21 : Int32) + v2) s else f_X9_passes_181 v1 v2 sk0 (1 : Int32) (s 4 ((21 : Int32) + v2).toNatClampNeg) ((21 : Int32) + v2) s else none
set_option maxHeartbeats 4000000 in
theorem t_X9_passes_161 {w : fm_W} {l : Launch} {o : fm_O} (hI : fm_I w 11) (v1 : Int32) (v2 : Int32) (sk0 : Int32) (s : fm_M) (z : (fm_M × Int32) ⊕ (fm_M × Int32)) (h : f_X9_passes_161 v1 v2 sk0 s = some z) (kb : ∀ (s : fm_M) (u2 : Int32), z = .inl (s, u2) → fm_V w layM 11 l rm_X9_passes cX9_passes 4 RX9 (some .int) o 134 [some (.ref (fm_ad w 0)), some (.int v1), some (.int u2), none] [] s) (ke : ∀ (s : fm_M) (u2 : Int32), z = .inr (s, u2) → fm_V w layM 11 l rm_X9_passes cX9_passes 4 RX9 (some .int) o 252 [some (.ref (fm_ad w 0)), some (.int v1), some (.int u2), none] [] s) : fm_V w layM 11 l rm_X9_passes cX9_passes 4 RX9 (some .int) o 161 [some (.ref (fm_ad w 0)), some (.int v1), some (.int v2), none] [.int sk0] s := by
  unfold f_X9_passes_161 at h
  refine v_istore_n (lv' := [some (.ref (fm_ad w 0)), some (.int v1), some (.int v2), some (.int sk0)]) 3 dX9_passes_161 rfl (by decide) rfl rfl ?_
  refine v_aload_n 0 dX9_passes_162 rfl rfl ?_
  refine v_getr 4 g_X9_19 yM_0 (by decide) rfl dX9_passes_163 ?_
  refine v_bipush (21 : Int32) dX9_passes_166 (by decide) ?_
  refine v_iload_n 2 dX9_passes_168 rfl rfl ?_
  refine v_iadd dX9_passes_169 ?_
  refine v_dup2 dX9_passes_170 rfl rfl ?_
  obtain ⟨hi, h⟩ := fm_ift h
  refine v_iald (Or.inl ⟨(by decide), yM_4⟩) hi dX9_passes_171 ?_
  refine v_iload_n 3 dX9_passes_172 rfl rfl ?_
  refine v_if_eq 180 dX9_passes_173 (by decide) h (fun h => ?_) (fun h => ?_)
  · refine v_iconst (0 : Int32) dX9_passes_180 (by decide) ?_
    refine v_lw [some (.ref (fm_ad w 0)), some (.int v1), some (.int v2), some (.int sk0)] rfl ⟨rfl, rfl, rfl, rfl, trivial⟩ ?_
    exact t_X9_passes_181 hI v1 v2 sk0 (0 : Int32) (s 4 ((21 : Int32) + v2).toNatClampNeg) ((21 : Int32) + v2) s _ h kb ke
  · refine v_iconst (1 : Int32) dX9_passes_176 (by decide) ?_
    refine v_goto 181 dX9_passes_177 (by decide) ?_
    refine v_lw [some (.ref (fm_ad w 0)), some (.int v1), some (.int v2), some (.int sk0)] rfl ⟨rfl, rfl, rfl, rfl, trivial⟩ ?_
    exact t_X9_passes_181 hI v1 v2 sk0 (1 : Int32) (s 4 ((21 : Int32) + v2).toNatClampNeg) ((21 : Int32) + v2) s _ h kb ke
def f_X9_passes_134 (v1 : Int32) (s : fm_M) (v2 : Int32) : Option ((fm_M × Int32) ⊕ (fm_M × Int32)) :=
  if fm_in (1 : Int32) 17 = true then if (s 2 (1 : Int32).toNatClampNeg) ≤ v2 then some (.inr (s, v2)) else if fm_in ((21 : Int32) + v2) 29 = true then if (s 4 ((21 : Int32) + v2).toNatClampNeg) ≤ 0 then f_X9_passes_161 v1 v2 (0 : Int32) s else f_X9_passes_161 v1 v2 (1 : Int32) s else none else none
set_option maxHeartbeats 4000000 in
theorem t_X9_passes_134 {w : fm_W} {l : Launch} {o : fm_O} (hI : fm_I w 11) (v1 : Int32) (s : fm_M) (v2 : Int32) (z : (fm_M × Int32) ⊕ (fm_M × Int32)) (h : f_X9_passes_134 v1 s v2 = some z) (kb : ∀ (s : fm_M) (u2 : Int32), z = .inl (s, u2) → fm_V w layM 11 l rm_X9_passes cX9_passes 4 RX9 (some .int) o 134 [some (.ref (fm_ad w 0)), some (.int v1), some (.int u2), none] [] s) (ke : ∀ (s : fm_M) (u2 : Int32), z = .inr (s, u2) → fm_V w layM 11 l rm_X9_passes cX9_passes 4 RX9 (some .int) o 252 [some (.ref (fm_ad w 0)), some (.int v1), some (.int u2), none] [] s) : fm_V w layM 11 l rm_X9_passes cX9_passes 4 RX9 (some .int) o 134 [some (.ref (fm_ad w 0)), some (.int v1), some (.int v2), none] [] s := by
  unfold f_X9_passes_134 at h
  refine v_iload_n 2 dX9_passes_134 rfl rfl ?_
  refine v_aload_n 0 dX9_passes_135 rfl rfl ?_
  refine v_getr 2 g_X9_13 yM_0 (by decide) rfl dX9_passes_136 ?_
  refine v_iconst (1 : Int32) dX9_passes_139 (by decide) ?_
  obtain ⟨hi, h⟩ := fm_ift h
  refine v_iald (Or.inl ⟨(by decide), yM_2⟩) hi dX9_passes_140 ?_
  refine v_icmp_ge 252 dX9_passes_141 (by decide) h (fun h => ?_) (fun h => ?_)
  · refine v_lw [some (.ref (fm_ad w 0)), some (.int v1), some (.int v2), none] rfl ⟨rfl, rfl, rfl, trivial⟩ ?_
    exact ke _ _ (Option.some.inj h).symm
  · refine v_aload_n 0 dX9_passes_144 rfl rfl ?_
    refine v_getr 4 g_X9_19 yM_0 (by decide) rfl dX9_passes_145 ?_
    refine v_bipush (21 : Int32) dX9_passes_148 (by decide) ?_
    refine v_iload_n 2 dX9_passes_150 rfl rfl ?_
    refine v_iadd dX9_passes_151 ?_
    obtain ⟨hi, h⟩ := fm_ift h
    refine v_iald (Or.inl ⟨(by decide), yM_4⟩) hi dX9_passes_152 ?_
    refine v_if_le 160 dX9_passes_153 (by decide) h (fun h => ?_) (fun h => ?_)
    · refine v_iconst (0 : Int32) dX9_passes_160 (by decide) ?_
      refine v_lw [some (.ref (fm_ad w 0)), some (.int v1), some (.int v2), none] rfl ⟨rfl, rfl, rfl, trivial⟩ ?_
      exact t_X9_passes_161 hI v1 v2 (0 : Int32) s _ h kb ke
    · refine v_iconst (1 : Int32) dX9_passes_156 (by decide) ?_
      refine v_goto 161 dX9_passes_157 (by decide) ?_
      refine v_lw [some (.ref (fm_ad w 0)), some (.int v1), some (.int v2), none] rfl ⟨rfl, rfl, rfl, trivial⟩ ?_
      exact t_X9_passes_161 hI v1 v2 (1 : Int32) s _ h kb ke
set_option maxHeartbeats 4000000 in
theorem i_X9_passes_134 {w : fm_W} {l : Launch} {o : fm_O} (hI : fm_I w 11) (v1 : Int32) (n : Nat) (s : fm_M) (v2 : Int32) (q : fm_M × Int32) (h : fm_it (fun s => f_X9_passes_134 v1 s.1 s.2) n (s, v2) = some q) (ke : ∀ (s : fm_M) (u2 : Int32), q = (s, u2) → fm_V w layM 11 l rm_X9_passes cX9_passes 4 RX9 (some .int) o 252 [some (.ref (fm_ad w 0)), some (.int v1), some (.int u2), none] [] s) : fm_V w layM 11 l rm_X9_passes cX9_passes 4 RX9 (some .int) o 134 [some (.ref (fm_ad w 0)), some (.int v1), some (.int v2), none] [] s :=
  fm_it_loop (body := (fun s => f_X9_passes_134 v1 s.1 s.2)) (P := fun s => fm_V w layM 11 l rm_X9_passes cX9_passes 4 RX9 (some .int) o 134 [some (.ref (fm_ad w 0)), some (.int v1), some (.int s.2), none] [] s.1) (K := (fun q : fm_M × Int32 => (∀ (s : fm_M) (u2 : Int32), q = (s, u2) → fm_V w layM 11 l rm_X9_passes cX9_passes 4 RX9 (some .int) o 252 [some (.ref (fm_ad w 0)), some (.int v1), some (.int u2), none] [] s))) (fun s z hb kl kx => t_X9_passes_134 hI v1 s.1 s.2 z hb (fun s u2 e => kl _ e) (fun s u2 e => (kx _ e) s u2 rfl)) n (s, v2) q h ke
def f_X9_passes (s : fm_M) : Option (Int32 × fm_M) :=
  fm_op (fm_it (fun (yy : fm_M × Int32 × Int32) => f_X9_passes_4 yy.1 yy.2.1 yy.2.2) fm_fu (s, (0 : Int32), (0 : Int32))) (fun q1 => ((fun (s1 : fm_M) (x1_1 : Int32) (x1_2 : Int32) => fm_op (fm_it (fun (yy : fm_M × Int32) => f_X9_passes_134 x1_1 yy.1 yy.2) fm_fu (s1, (0 : Int32))) (fun q3 => ((fun (s3 : fm_M) (x3_2 : Int32) => if fm_in (28 : Int32) 29 = true then if fm_in (28 : Int32) 29 = true then some (x1_1, (fm_up s3 4 (28 : Int32).toNatClampNeg ((s3 4 (28 : Int32).toNatClampNeg) + (1 : Int32)))) else none else none)) q3.1 q3.2))) q1.1 q1.2.1 q1.2.2)
set_option maxHeartbeats 4000000 in
theorem e_X9_passes {w : fm_W} {l : Launch} {o : fm_O} (hI : fm_I w 11) (s : fm_M) (z : Int32 × fm_M) (h : f_X9_passes s = some z) (ho : ∀ (r : Int32) (s : fm_M), z = (r, s) → o = (some (.int r), s)) : fm_V w layM 11 l rm_X9_passes cX9_passes 4 RX9 (some .int) o 0 [some (.ref (fm_ad w 0)), none, none, none] [] s := by
  unfold f_X9_passes at h
  refine v_iconst (0 : Int32) dX9_passes_0 (by decide) ?_
  refine v_istore_n (lv' := [some (.ref (fm_ad w 0)), some (.int (0 : Int32)), none, none]) 1 dX9_passes_1 rfl (by decide) rfl rfl ?_
  refine v_iconst (0 : Int32) dX9_passes_2 (by decide) ?_
  refine v_istore_n (lv' := [some (.ref (fm_ad w 0)), some (.int (0 : Int32)), some (.int (0 : Int32)), none]) 2 dX9_passes_3 rfl (by decide) rfl rfl ?_
  obtain ⟨q1, h1, h⟩ := fm_ops h
  refine v_lw [some (.ref (fm_ad w 0)), some (.int (0 : Int32)), some (.int (0 : Int32)), none] rfl ⟨rfl, rfl, rfl, trivial⟩ ?_
  refine i_X9_passes_4 hI _ _ _ _ _ h1 (fun s1 x1_1 x1_2 e => ?_)
  subst e
  dsimp only at h
  refine v_iconst (0 : Int32) dX9_passes_132 (by decide) ?_
  refine v_istore_n (lv' := [some (.ref (fm_ad w 0)), some (.int x1_1), some (.int (0 : Int32)), none]) 2 dX9_passes_133 rfl (by decide) rfl rfl ?_
  obtain ⟨q3, h3, h⟩ := fm_ops h
  refine v_lw [some (.ref (fm_ad w 0)), some (.int x1_1), some (.int (0 : Int32)), none] rfl ⟨rfl, rfl, rfl, trivial⟩ ?_
  refine i_X9_passes_134 hI x1_1 _ _ _ _ h3 (fun s3 x3_2 e => ?_)
  subst e
  dsimp only at h
  refine v_aload_n 0 dX9_passes_252 rfl rfl ?_
  refine v_getr 4 g_X9_19 yM_0 (by decide) rfl dX9_passes_253 ?_
  refine v_bipush (28 : Int32) dX9_passes_256 (by decide) ?_
  refine v_dup2 dX9_passes_258 rfl rfl ?_
  obtain ⟨hi, h⟩ := fm_ift h
  refine v_iald (Or.inl ⟨(by decide), yM_4⟩) hi dX9_passes_259 ?_
  refine v_iconst (1 : Int32) dX9_passes_260 (by decide) ?_
  refine v_iadd dX9_passes_261 ?_
  obtain ⟨hi, h⟩ := fm_ift h
  refine v_iast (by decide) yM_4 hi dX9_passes_262 ?_
  refine v_iload_n 1 dX9_passes_263 rfl rfl ?_
  exact v_iret rfl (ho _ _ (Option.some.inj h).symm) dX9_passes_264
theorem c_X9_passes {w : fm_W} {l : Launch} (hI : fm_I w 11) {s : fm_M} {r : Int32} {s2 : fm_M} (h : f_X9_passes s = some (r, s2)) : fm_C w layM 11 l yX9_passes cX9_passes 4 (some .int) rm_X9_passes [.ref (fm_ad w 0)] s (some (.int r), s2) :=
  fm_of hI (by decide) rfl (Nat.le_of_ble_eq_true rfl) (e_X9_passes hI s _ h (fun r s e => by cases e; rfl))
-- X9_minutes
abbrev rm_X9_minutes : Room := { frames := 0, cells := 0, slots := 0, locals := 0 }
def f_X9_minutes_43 (sk0 : Int32) (s : fm_M) : Option (Int32 × fm_M) :=
  some (sk0, s)
set_option maxHeartbeats 4000000 in
theorem t_X9_minutes_43 {w : fm_W} {l : Launch} {o : fm_O} (hI : fm_I w 11) (sk0 : Int32) (s : fm_M) (z : Int32 × fm_M) (h : f_X9_minutes_43 sk0 s = some z) (ho : ∀ (r : Int32) (s : fm_M), z = (r, s) → o = (some (.int r), s)) : fm_V w layM 11 l rm_X9_minutes cX9_minutes 4 RX9 (some .int) o 43 [none, none, none, none] [.int sk0] s := by
  unfold f_X9_minutes_43 at h
  exact v_iret rfl (ho _ _ (Option.some.inj h).symm) dX9_minutes_43
def f_X9_minutes_42 (v3 : Int32) (s : fm_M) : Option (Int32 × fm_M) :=
  f_X9_minutes_43 v3 s
set_option maxHeartbeats 4000000 in
theorem t_X9_minutes_42 {w : fm_W} {l : Launch} {o : fm_O} (hI : fm_I w 11) (v3 : Int32) (s : fm_M) (z : Int32 × fm_M) (h : f_X9_minutes_42 v3 s = some z) (ho : ∀ (r : Int32) (s : fm_M), z = (r, s) → o = (some (.int r), s)) : fm_V w layM 11 l rm_X9_minutes cX9_minutes 4 RX9 (some .int) o 42 [none, none, none, some (.int v3)] [] s := by
  unfold f_X9_minutes_42 at h
  refine v_iload_n 3 dX9_minutes_42 rfl rfl ?_
  refine v_lw [none, none, none, none] rfl trivial ?_
  exact t_X9_minutes_43 hI v3 s _ h ho
def f_X9_minutes_25 (v2 : Int32) (sk0 : Int32) (s : fm_M) : Option (Int32 × fm_M) :=
  if v2 = (1 : Int32) then if sk0 ≤ (1 : Int32) then f_X9_minutes_42 sk0 s else f_X9_minutes_43 (sk0 - (1 : Int32)) s else f_X9_minutes_42 sk0 s
set_option maxHeartbeats 4000000 in
theorem t_X9_minutes_25 {w : fm_W} {l : Launch} {o : fm_O} (hI : fm_I w 11) (v2 : Int32) (sk0 : Int32) (s : fm_M) (z : Int32 × fm_M) (h : f_X9_minutes_25 v2 sk0 s = some z) (ho : ∀ (r : Int32) (s : fm_M), z = (r, s) → o = (some (.int r), s)) : fm_V w layM 11 l rm_X9_minutes cX9_minutes 4 RX9 (some .int) o 25 [none, none, some (.int v2), none] [.int sk0] s := by
  unfold f_X9_minutes_25 at h
  refine v_istore_n (lv' := [none, none, some (.int v2), some (.int sk0)]) 3 dX9_minutes_25 rfl (by decide) rfl rfl ?_
  refine v_iload_n 2 dX9_minutes_26 rfl rfl ?_
  refine v_iconst (1 : Int32) dX9_minutes_27 (by decide) ?_
  refine v_icmp_ne 42 dX9_minutes_28 (by decide) h (fun h => ?_) (fun h => ?_)
  · refine v_lw [none, none, none, some (.int sk0)] rfl ⟨rfl, trivial⟩ ?_
    exact t_X9_minutes_42 hI sk0 s _ h ho
  · refine v_iload_n 3 dX9_minutes_31 rfl rfl ?_
    refine v_iconst (1 : Int32) dX9_minutes_32 (by decide) ?_
    refine v_icmp_le 42 dX9_minutes_33 (by decide) h (fun h => ?_) (fun h => ?_)
    · refine v_lw [none, none, none, some (.int sk0)] rfl ⟨rfl, trivial⟩ ?_
      exact t_X9_minutes_42 hI sk0 s _ h ho
    · refine v_iload_n 3 dX9_minutes_36 rfl rfl ?_
      refine v_iconst (1 : Int32) dX9_minutes_37 (by decide) ?_
      refine v_isub dX9_minutes_38 ?_
      refine v_goto 43 dX9_minutes_39 (by decide) ?_
      refine v_lw [none, none, none, none] rfl trivial ?_
      exact t_X9_minutes_43 hI (sk0 - (1 : Int32)) s _ h ho
def f_X9_minutes (v0 : Int32) (v1 : Int32) (v2 : Int32) (s : fm_M) : Option (Int32 × fm_M) :=
  if v0 = (1 : Int32) then f_X9_minutes_25 v2 ((v1 + (1 : Int32)) / (2 : Int32)) s else if v0 = (3 : Int32) then f_X9_minutes_25 v2 (v1 + (2 : Int32)) s else f_X9_minutes_25 v2 v1 s
set_option maxHeartbeats 4000000 in
theorem e_X9_minutes {w : fm_W} {l : Launch} {o : fm_O} (hI : fm_I w 11) (v0 : Int32) (v1 : Int32) (v2 : Int32) (s : fm_M) (z : Int32 × fm_M) (h : f_X9_minutes v0 v1 v2 s = some z) (ho : ∀ (r : Int32) (s : fm_M), z = (r, s) → o = (some (.int r), s)) : fm_V w layM 11 l rm_X9_minutes cX9_minutes 4 RX9 (some .int) o 0 [some (.int v0), some (.int v1), some (.int v2), none] [] s := by
  unfold f_X9_minutes at h
  refine v_iload_n 0 dX9_minutes_0 rfl rfl ?_
  refine v_iconst (1 : Int32) dX9_minutes_1 (by decide) ?_
  refine v_icmp_ne 13 dX9_minutes_2 (by decide) h (fun h => ?_) (fun h => ?_)
  · refine v_iload_n 0 dX9_minutes_13 rfl rfl ?_
    refine v_iconst (3 : Int32) dX9_minutes_14 (by decide) ?_
    refine v_icmp_ne 24 dX9_minutes_15 (by decide) h (fun h => ?_) (fun h => ?_)
    · refine v_iload_n 1 dX9_minutes_24 rfl rfl ?_
      refine v_lw [none, none, some (.int v2), none] rfl ⟨rfl, trivial⟩ ?_
      exact t_X9_minutes_25 hI v2 v1 s _ h ho
    · refine v_iload_n 1 dX9_minutes_18 rfl rfl ?_
      refine v_iconst (2 : Int32) dX9_minutes_19 (by decide) ?_
      refine v_iadd dX9_minutes_20 ?_
      refine v_goto 25 dX9_minutes_21 (by decide) ?_
      refine v_lw [none, none, some (.int v2), none] rfl ⟨rfl, trivial⟩ ?_
      exact t_X9_minutes_25 hI v2 (v1 + (2 : Int32)) s _ h ho
  · refine v_iload_n 1 dX9_minutes_5 rfl rfl ?_
    refine v_iconst (1 : Int32) dX9_minutes_6 (by decide) ?_
    refine v_iadd dX9_minutes_7 ?_
    refine v_iconst (2 : Int32) dX9_minutes_8 (by decide) ?_
    refine v_idiv dX9_minutes_9 (by decide) ?_
    refine v_goto 25 dX9_minutes_10 (by decide) ?_
    refine v_lw [none, none, some (.int v2), none] rfl ⟨rfl, trivial⟩ ?_
    exact t_X9_minutes_25 hI v2 ((v1 + (1 : Int32)) / (2 : Int32)) s _ h ho
theorem c_X9_minutes {w : fm_W} {l : Launch} (hI : fm_I w 11) {v0 : Int32} {v1 : Int32} {v2 : Int32} {s : fm_M} {r : Int32} {s2 : fm_M} (h : f_X9_minutes v0 v1 v2 s = some (r, s2)) : fm_C w layM 11 l yX9_minutes cX9_minutes 4 (some .int) rm_X9_minutes [.int v0, .int v1, .int v2] s (some (.int r), s2) :=
  fm_of hI (by decide) rfl (Nat.le_of_ble_eq_true rfl) (e_X9_minutes hI v0 v1 v2 s _ h (fun r s e => by cases e; rfl))
-- X9_minutesOf
abbrev rm_X9_minutesOf : Room := { frames := 1, cells := 0, slots := 0, locals := 23 }
def f_X9_minutesOf (v1 : Int32) (s : fm_M) : Option (Int32 × fm_M) :=
  if fm_in ((5 : Int32) + v1) 17 = true then if fm_in ((11 : Int32) + v1) 17 = true then if fm_in (27 : Int32) 29 = true then fm_bd (f_X9_minutes (s 2 ((5 : Int32) + v1).toNatClampNeg) (s 2 ((11 : Int32) + v1).toNatClampNeg) (s 4 (27 : Int32).toNatClampNeg) s) (fun r1 s1 => some (r1, s1)) else none else none else none
set_option maxHeartbeats 4000000 in
theorem e_X9_minutesOf {w : fm_W} {l : Launch} {o : fm_O} (hI : fm_I w 11) (v1 : Int32) (s : fm_M) (z : Int32 × fm_M) (h : f_X9_minutesOf v1 s = some z) (ho : ∀ (r : Int32) (s : fm_M), z = (r, s) → o = (some (.int r), s)) : fm_V w layM 11 l rm_X9_minutesOf cX9_minutesOf 2 RX9 (some .int) o 0 [some (.ref (fm_ad w 0)), some (.int v1)] [] s := by
  unfold f_X9_minutesOf at h
  refine v_aload_n 0 dX9_minutesOf_0 rfl rfl ?_
  refine v_getr 2 g_X9_13 yM_0 (by decide) rfl dX9_minutesOf_1 ?_
  refine v_iconst (5 : Int32) dX9_minutesOf_4 (by decide) ?_
  refine v_iload_n 1 dX9_minutesOf_5 rfl rfl ?_
  refine v_iadd dX9_minutesOf_6 ?_
  obtain ⟨hi, h⟩ := fm_ift h
  refine v_iald (Or.inl ⟨(by decide), yM_2⟩) hi dX9_minutesOf_7 ?_
  refine v_aload_n 0 dX9_minutesOf_8 rfl rfl ?_
  refine v_getr 2 g_X9_13 yM_0 (by decide) rfl dX9_minutesOf_9 ?_
  refine v_bipush (11 : Int32) dX9_minutesOf_12 (by decide) ?_
  refine v_iload_n 1 dX9_minutesOf_14 rfl rfl ?_
  refine v_iadd dX9_minutesOf_15 ?_
  obtain ⟨hi, h⟩ := fm_ift h
  refine v_iald (Or.inl ⟨(by decide), yM_2⟩) hi dX9_minutesOf_16 ?_
  refine v_aload_n 0 dX9_minutesOf_17 rfl rfl ?_
  refine v_getr 4 g_X9_19 yM_0 (by decide) rfl dX9_minutesOf_18 ?_
  refine v_bipush (27 : Int32) dX9_minutesOf_21 (by decide) ?_
  obtain ⟨hi, h⟩ := fm_ift h
  refine v_iald (Or.inl ⟨(by decide), yM_4⟩) hi dX9_minutesOf_23 ?_
  obtain ⟨r1, s1, h1, h⟩ := fm_bds h
  refine v_cSi [.int (s 2 ((5 : Int32) + v1).toNatClampNeg), .int (s 2 ((11 : Int32) + v1).toNatClampNeg), .int (s 4 (27 : Int32).toNatClampNeg)] [] l_X9_96 (c_X9_minutes hI h1) rfl rfl ⟨rfl, rfl, by decide, by decide⟩ (Nat.le_of_ble_eq_true rfl) dX9_minutesOf_24 ?_
  exact v_iret rfl (ho _ _ (Option.some.inj h).symm) dX9_minutesOf_27
theorem c_X9_minutesOf {w : fm_W} {l : Launch} (hI : fm_I w 11) {v1 : Int32} {s : fm_M} {r : Int32} {s2 : fm_M} (h : f_X9_minutesOf v1 s = some (r, s2)) : fm_C w layM 11 l yX9_minutesOf cX9_minutesOf 2 (some .int) rm_X9_minutesOf [.ref (fm_ad w 0), .int v1] s (some (.int r), s2) :=
  fm_of hI (by decide) rfl (Nat.le_of_ble_eq_true rfl) (e_X9_minutesOf hI v1 s _ h (fun r s e => by cases e; rfl))
-- X9_dresses
abbrev rm_X9_dresses : Room := { frames := 2, cells := 0, slots := 0, locals := 44 }
def f_X9_dresses (v1 : Int32) (v2 : Int32) (s : fm_M) : Option (Int32 × fm_M) :=
  fm_bd (f_X9_minutesOf v2 s) (fun r1 s1 => fm_bd (f_X9_begin v1 (1 : Int32) r1 v2 s1) (fun r2 s2 => if fm_in v2 29 = true then some (0, (fm_up s2 4 v2.toNatClampNeg (1 : Int32))) else none))
set_option maxHeartbeats 4000000 in
theorem e_X9_dresses {w : fm_W} {l : Launch} {o : fm_O} (hI : fm_I w 11) (v1 : Int32) (v2 : Int32) (s : fm_M) (z : Int32 × fm_M) (h : f_X9_dresses v1 v2 s = some z) (ho : ∀ (r : Int32) (s : fm_M), z = (r, s) → o = (none, s)) : fm_V w layM 11 l rm_X9_dresses cX9_dresses 3 RX9 none o 0 [some (.ref (fm_ad w 0)), some (.int v1), some (.int v2)] [] s := by
  unfold f_X9_dresses at h
  refine v_aload_n 0 dX9_dresses_0 rfl rfl ?_
  refine v_iload_n 1 dX9_dresses_1 rfl rfl ?_
  refine v_iconst (1 : Int32) dX9_dresses_2 (by decide) ?_
  refine v_aload_n 0 dX9_dresses_3 rfl rfl ?_
  refine v_iload_n 2 dX9_dresses_4 rfl rfl ?_
  obtain ⟨r1, s1, h1, h⟩ := fm_bds h
  refine v_cVi [.int v2] [.int (1 : Int32), .int v1, .ref (fm_ad w 0)] l_X9_105 (c_X9_minutesOf hI h1) yM_0 (by decide) rfl rfl ⟨rfl, rfl, by decide, by decide⟩ (Nat.le_of_ble_eq_true rfl) dX9_dresses_5 ?_
  refine v_iload_n 2 dX9_dresses_8 rfl rfl ?_
  obtain ⟨r2, s2, h2, h⟩ := fm_bds h
  refine v_cVv [.int v1, .int (1 : Int32), .int r1, .int v2] [] l_X9_111 (c_X9_begin hI h2) yM_0 (by decide) rfl rfl ⟨rfl, rfl, by decide, by decide⟩ (Nat.le_of_ble_eq_true rfl) dX9_dresses_9 ?_
  refine v_aload_n 0 dX9_dresses_12 rfl rfl ?_
  refine v_getr 4 g_X9_19 yM_0 (by decide) rfl dX9_dresses_13 ?_
  refine v_iload_n 2 dX9_dresses_16 rfl rfl ?_
  refine v_iconst (1 : Int32) dX9_dresses_17 (by decide) ?_
  obtain ⟨hi, h⟩ := fm_ift h
  refine v_iast (by decide) yM_4 hi dX9_dresses_18 ?_
  exact v_vret rfl (ho _ _ (Option.some.inj h).symm) dX9_dresses_19
theorem c_X9_dresses {w : fm_W} {l : Launch} (hI : fm_I w 11) {v1 : Int32} {v2 : Int32} {s : fm_M} {r : Int32} {s2 : fm_M} (h : f_X9_dresses v1 v2 s = some (r, s2)) : fm_C w layM 11 l yX9_dresses cX9_dresses 3 none rm_X9_dresses [.ref (fm_ad w 0), .int v1, .int v2] s (none, s2) :=
  fm_of hI (by decide) rfl (Nat.le_of_ble_eq_true rfl) (e_X9_dresses hI v1 v2 s _ h (fun r s e => by cases e; rfl))
-- X9_takesRow
abbrev rm_X9_takesRow : Room := { frames := 3, cells := 0, slots := 0, locals := 66 }
def f_X9_takesRow_52 (v1 : Int32) (v3 : Int32) (sk0 : Int32) (s : fm_M) : Option ((fm_M × Int32 × Int32) ⊕ (fm_M × Int32 × Int32)) :=
  some (.inl (s, sk0, (v3 + (-1 : Int32))))
set_option maxHeartbeats 4000000 in
theorem t_X9_takesRow_52 {w : fm_W} {l : Launch} {o : fm_O} (hI : fm_I w 11) (v1 : Int32) (v3 : Int32) (sk0 : Int32) (s : fm_M) (z : (fm_M × Int32 × Int32) ⊕ (fm_M × Int32 × Int32)) (h : f_X9_takesRow_52 v1 v3 sk0 s = some z) (kb : ∀ (s : fm_M) (u2 : Int32) (u3 : Int32), z = .inl (s, u2, u3) → fm_V w layM 11 l rm_X9_takesRow cX9_takesRow 4 RX9 none o 24 [some (.ref (fm_ad w 0)), some (.int v1), some (.int u2), some (.int u3)] [] s) (ke : ∀ (s : fm_M) (u2 : Int32) (u3 : Int32), z = .inr (s, u2, u3) → fm_V w layM 11 l rm_X9_takesRow cX9_takesRow 4 RX9 none o 59 [some (.ref (fm_ad w 0)), some (.int v1), some (.int u2), some (.int u3)] [] s) : fm_V w layM 11 l rm_X9_takesRow cX9_takesRow 4 RX9 none o 52 [some (.ref (fm_ad w 0)), some (.int v1), none, some (.int v3)] [.int sk0] s := by
  unfold f_X9_takesRow_52 at h
  refine v_istore_n (lv' := [some (.ref (fm_ad w 0)), some (.int v1), some (.int sk0), some (.int v3)]) 2 dX9_takesRow_52 rfl (by decide) rfl rfl ?_
  refine v_iinc (lv' := [some (.ref (fm_ad w 0)), some (.int v1), some (.int sk0), some (.int (v3 + (-1 : Int32)))]) (-1 : Int32) dX9_takesRow_53 rfl (by decide) (by decide) rfl rfl ?_
  refine v_goto 24 dX9_takesRow_56 (by decide) ?_
  refine v_lw [some (.ref (fm_ad w 0)), some (.int v1), some (.int sk0), some (.int (v3 + (-1 : Int32)))] rfl ⟨rfl, rfl, rfl, rfl, trivial⟩ ?_
  exact kb _ _ _ (Option.some.inj h).symm
def f_X9_takesRow_24 (v1 : Int32) (s : fm_M) (v2 : Int32) (v3 : Int32) : Option ((fm_M × Int32 × Int32) ⊕ (fm_M × Int32 × Int32)) :=
  if v3 < 0 then some (.inr (s, v2, v3)) else if fm_in v3 6 = true then if fm_in (s 9 v3.toNatClampNeg) 29 = true then if (s 4 (s 9 v3.toNatClampNeg).toNatClampNeg) = 0 then if fm_in v3 6 = true then f_X9_takesRow_52 v1 v3 (s 9 v3.toNatClampNeg) s else none else f_X9_takesRow_52 v1 v3 v2 s else none else none
set_option maxHeartbeats 4000000 in
theorem t_X9_takesRow_24 {w : fm_W} {l : Launch} {o : fm_O} (hI : fm_I w 11) (v1 : Int32) (s : fm_M) (v2 : Int32) (v3 : Int32) (z : (fm_M × Int32 × Int32) ⊕ (fm_M × Int32 × Int32)) (h : f_X9_takesRow_24 v1 s v2 v3 = some z) (kb : ∀ (s : fm_M) (u2 : Int32) (u3 : Int32), z = .inl (s, u2, u3) → fm_V w layM 11 l rm_X9_takesRow cX9_takesRow 4 RX9 none o 24 [some (.ref (fm_ad w 0)), some (.int v1), some (.int u2), some (.int u3)] [] s) (ke : ∀ (s : fm_M) (u2 : Int32) (u3 : Int32), z = .inr (s, u2, u3) → fm_V w layM 11 l rm_X9_takesRow cX9_takesRow 4 RX9 none o 59 [some (.ref (fm_ad w 0)), some (.int v1), some (.int u2), some (.int u3)] [] s) : fm_V w layM 11 l rm_X9_takesRow cX9_takesRow 4 RX9 none o 24 [some (.ref (fm_ad w 0)), some (.int v1), some (.int v2), some (.int v3)] [] s := by
  unfold f_X9_takesRow_24 at h
  refine v_iload_n 3 dX9_takesRow_24 rfl rfl ?_
  refine v_if_lt 59 dX9_takesRow_25 (by decide) h (fun h => ?_) (fun h => ?_)
  · refine v_lw [some (.ref (fm_ad w 0)), some (.int v1), some (.int v2), some (.int v3)] rfl ⟨rfl, rfl, rfl, rfl, trivial⟩ ?_
    exact ke _ _ _ (Option.some.inj h).symm
  · refine v_aload_n 0 dX9_takesRow_28 rfl rfl ?_
    refine v_getr 4 g_X9_19 yM_0 (by decide) rfl dX9_takesRow_29 ?_
    refine v_aload_n 0 dX9_takesRow_32 rfl rfl ?_
    refine v_getr 9 g_X9_34 yM_0 (by decide) rfl dX9_takesRow_33 ?_
    refine v_iload_n 3 dX9_takesRow_36 rfl rfl ?_
    obtain ⟨hi, h⟩ := fm_ift h
    refine v_iald (Or.inl ⟨(by decide), yM_9⟩) hi dX9_takesRow_37 ?_
    obtain ⟨hi, h⟩ := fm_ift h
    refine v_iald (Or.inl ⟨(by decide), yM_4⟩) hi dX9_takesRow_38 ?_
    refine v_if_ne 51 dX9_takesRow_39 (by decide) h (fun h => ?_) (fun h => ?_)
    · refine v_iload_n 2 dX9_takesRow_51 rfl rfl ?_
      refine v_lw [some (.ref (fm_ad w 0)), some (.int v1), none, some (.int v3)] rfl ⟨rfl, rfl, rfl, trivial⟩ ?_
      exact t_X9_takesRow_52 hI v1 v3 v2 s _ h kb ke
    · refine v_aload_n 0 dX9_takesRow_42 rfl rfl ?_
      refine v_getr 9 g_X9_34 yM_0 (by decide) rfl dX9_takesRow_43 ?_
      refine v_iload_n 3 dX9_takesRow_46 rfl rfl ?_
      obtain ⟨hi, h⟩ := fm_ift h
      refine v_iald (Or.inl ⟨(by decide), yM_9⟩) hi dX9_takesRow_47 ?_
      refine v_goto 52 dX9_takesRow_48 (by decide) ?_
      refine v_lw [some (.ref (fm_ad w 0)), some (.int v1), none, some (.int v3)] rfl ⟨rfl, rfl, rfl, trivial⟩ ?_
      exact t_X9_takesRow_52 hI v1 v3 (s 9 v3.toNatClampNeg) s _ h kb ke
set_option maxHeartbeats 4000000 in
theorem i_X9_takesRow_24 {w : fm_W} {l : Launch} {o : fm_O} (hI : fm_I w 11) (v1 : Int32) (n : Nat) (s : fm_M) (v2 : Int32) (v3 : Int32) (q : fm_M × Int32 × Int32) (h : fm_it (fun s => f_X9_takesRow_24 v1 s.1 s.2.1 s.2.2) n (s, v2, v3) = some q) (ke : ∀ (s : fm_M) (u2 : Int32) (u3 : Int32), q = (s, u2, u3) → fm_V w layM 11 l rm_X9_takesRow cX9_takesRow 4 RX9 none o 59 [some (.ref (fm_ad w 0)), some (.int v1), some (.int u2), some (.int u3)] [] s) : fm_V w layM 11 l rm_X9_takesRow cX9_takesRow 4 RX9 none o 24 [some (.ref (fm_ad w 0)), some (.int v1), some (.int v2), some (.int v3)] [] s :=
  fm_it_loop (body := (fun s => f_X9_takesRow_24 v1 s.1 s.2.1 s.2.2)) (P := fun s => fm_V w layM 11 l rm_X9_takesRow cX9_takesRow 4 RX9 none o 24 [some (.ref (fm_ad w 0)), some (.int v1), some (.int s.2.1), some (.int s.2.2)] [] s.1) (K := (fun q : fm_M × Int32 × Int32 => (∀ (s : fm_M) (u2 : Int32) (u3 : Int32), q = (s, u2, u3) → fm_V w layM 11 l rm_X9_takesRow cX9_takesRow 4 RX9 none o 59 [some (.ref (fm_ad w 0)), some (.int v1), some (.int u2), some (.int u3)] [] s))) (fun s z hb kl kx => t_X9_takesRow_24 hI v1 s.1 s.2.1 s.2.2 z hb (fun s u2 u3 e => kl _ e) (fun s u2 u3 e => (kx _ e) s u2 u3 rfl)) n (s, v2, v3) q h ke
def f_X9_takesRow_83 (v1 : Int32) (s : fm_M) : Option ((fm_M × Int32) ⊕ (fm_M × Int32)) :=
  some (.inl (s, (v1 + (1 : Int32))))
set_option maxHeartbeats 4000000 in
theorem t_X9_takesRow_83 {w : fm_W} {l : Launch} {o : fm_O} (hI : fm_I w 11) (v1 : Int32) (s : fm_M) (z : (fm_M × Int32) ⊕ (fm_M × Int32)) (h : f_X9_takesRow_83 v1 s = some z) (kb : ∀ (s : fm_M) (u1 : Int32), z = .inl (s, u1) → fm_V w layM 11 l rm_X9_takesRow cX9_takesRow 4 RX9 none o 2 [some (.ref (fm_ad w 0)), some (.int u1), none, none] [] s) (ke : ∀ (s : fm_M) (u1 : Int32), z = .inr (s, u1) → fm_V w layM 11 l rm_X9_takesRow cX9_takesRow 4 RX9 none o 89 [some (.ref (fm_ad w 0)), some (.int u1), none, none] [] s) : fm_V w layM 11 l rm_X9_takesRow cX9_takesRow 4 RX9 none o 83 [some (.ref (fm_ad w 0)), some (.int v1), none, none] [] s := by
  unfold f_X9_takesRow_83 at h
  refine v_iinc (lv' := [some (.ref (fm_ad w 0)), some (.int (v1 + (1 : Int32))), none, none]) (1 : Int32) dX9_takesRow_83 rfl (by decide) (by decide) rfl rfl ?_
  refine v_goto 2 dX9_takesRow_86 (by decide) ?_
  refine v_lw [some (.ref (fm_ad w 0)), some (.int (v1 + (1 : Int32))), none, none] rfl ⟨rfl, rfl, trivial⟩ ?_
  exact kb _ _ (Option.some.inj h).symm
def f_X9_takesRow_2 (s : fm_M) (v1 : Int32) : Option ((fm_M × Int32) ⊕ (fm_M × Int32)) :=
  if fm_in (1 : Int32) 17 = true then if (s 2 (1 : Int32).toNatClampNeg) ≤ v1 then some (.inr (s, v1)) else if fm_in (0 : Int32) 17 = true then fm_op (fm_it (fun (yy : fm_M × Int32 × Int32) => f_X9_takesRow_24 v1 yy.1 yy.2.1 yy.2.2) fm_fu (s, (-4 : Int32), ((s 2 (0 : Int32).toNatClampNeg) - (1 : Int32)))) (fun q1 => ((fun (s1 : fm_M) (x1_2 : Int32) (x1_3 : Int32) => if fm_in ((18 : Int32) + v1) 29 = true then if (s1 4 ((18 : Int32) + v1).toNatClampNeg) = 0 then if x1_2 = (-4 : Int32) then f_X9_takesRow_83 v1 s1 else fm_bd (f_X9_dresses v1 x1_2 s1) (fun r2 s2 => f_X9_takesRow_83 v1 s2) else f_X9_takesRow_83 v1 s1 else none)) q1.1 q1.2.1 q1.2.2) else none else none
set_option maxHeartbeats 4000000 in
theorem t_X9_takesRow_2 {w : fm_W} {l : Launch} {o : fm_O} (hI : fm_I w 11) (s : fm_M) (v1 : Int32) (z : (fm_M × Int32) ⊕ (fm_M × Int32)) (h : f_X9_takesRow_2 s v1 = some z) (kb : ∀ (s : fm_M) (u1 : Int32), z = .inl (s, u1) → fm_V w layM 11 l rm_X9_takesRow cX9_takesRow 4 RX9 none o 2 [some (.ref (fm_ad w 0)), some (.int u1), none, none] [] s) (ke : ∀ (s : fm_M) (u1 : Int32), z = .inr (s, u1) → fm_V w layM 11 l rm_X9_takesRow cX9_takesRow 4 RX9 none o 89 [some (.ref (fm_ad w 0)), some (.int u1), none, none] [] s) : fm_V w layM 11 l rm_X9_takesRow cX9_takesRow 4 RX9 none o 2 [some (.ref (fm_ad w 0)), some (.int v1), none, none] [] s := by
  unfold f_X9_takesRow_2 at h
  refine v_iload_n 1 dX9_takesRow_2 rfl rfl ?_
  refine v_aload_n 0 dX9_takesRow_3 rfl rfl ?_
  refine v_getr 2 g_X9_13 yM_0 (by decide) rfl dX9_takesRow_4 ?_
  refine v_iconst (1 : Int32) dX9_takesRow_7 (by decide) ?_
  obtain ⟨hi, h⟩ := fm_ift h
  refine v_iald (Or.inl ⟨(by decide), yM_2⟩) hi dX9_takesRow_8 ?_
  refine v_icmp_ge 89 dX9_takesRow_9 (by decide) h (fun h => ?_) (fun h => ?_)
  · refine v_lw [some (.ref (fm_ad w 0)), some (.int v1), none, none] rfl ⟨rfl, rfl, trivial⟩ ?_
    exact ke _ _ (Option.some.inj h).symm
  · refine v_bipush (-4 : Int32) dX9_takesRow_12 (by decide) ?_
    refine v_istore_n (lv' := [some (.ref (fm_ad w 0)), some (.int v1), some (.int (-4 : Int32)), none]) 2 dX9_takesRow_14 rfl (by decide) rfl rfl ?_
    refine v_aload_n 0 dX9_takesRow_15 rfl rfl ?_
    refine v_getr 2 g_X9_13 yM_0 (by decide) rfl dX9_takesRow_16 ?_
    refine v_iconst (0 : Int32) dX9_takesRow_19 (by decide) ?_
    obtain ⟨hi, h⟩ := fm_ift h
    refine v_iald (Or.inl ⟨(by decide), yM_2⟩) hi dX9_takesRow_20 ?_
    refine v_iconst (1 : Int32) dX9_takesRow_21 (by decide) ?_
    refine v_isub dX9_takesRow_22 ?_
    refine v_istore_n (lv' := [some (.ref (fm_ad w 0)), some (.int v1), some (.int (-4 : Int32)), some (.int ((s 2 (0 : Int32).toNatClampNeg) - (1 : Int32)))]) 3 dX9_takesRow_23 rfl (by decide) rfl rfl ?_
    obtain ⟨q1, h1, h⟩ := fm_ops h
    refine v_lw [some (.ref (fm_ad w 0)), some (.int v1), some (.int (-4 : Int32)), some (.int ((s 2 (0 : Int32).toNatClampNeg) - (1 : Int32)))] rfl ⟨rfl, rfl, rfl, rfl, trivial⟩ ?_
    refine i_X9_takesRow_24 hI v1 _ _ _ _ _ h1 (fun s1 x1_2 x1_3 e => ?_)
    subst e
    dsimp only at h
    refine v_aload_n 0 dX9_takesRow_59 rfl rfl ?_
    refine v_getr 4 g_X9_19 yM_0 (by decide) rfl dX9_takesRow_60 ?_
    refine v_bipush (18 : Int32) dX9_takesRow_63 (by decide) ?_
    refine v_iload_n 1 dX9_takesRow_65 rfl rfl ?_
    refine v_iadd dX9_takesRow_66 ?_
    obtain ⟨hi, h⟩ := fm_ift h
    refine v_iald (Or.inl ⟨(by decide), yM_4⟩) hi dX9_takesRow_67 ?_
    refine v_if_ne 83 dX9_takesRow_68 (by decide) h (fun h => ?_) (fun h => ?_)
    · refine v_lw [some (.ref (fm_ad w 0)), some (.int v1), none, none] rfl ⟨rfl, rfl, trivial⟩ ?_
      exact t_X9_takesRow_83 hI v1 s1 _ h kb ke
    · refine v_iload_n 2 dX9_takesRow_71 rfl rfl ?_
      refine v_bipush (-4 : Int32) dX9_takesRow_72 (by decide) ?_
      refine v_icmp_eq 83 dX9_takesRow_74 (by decide) h (fun h => ?_) (fun h => ?_)
      · refine v_lw [some (.ref (fm_ad w 0)), some (.int v1), none, none] rfl ⟨rfl, rfl, trivial⟩ ?_
        exact t_X9_takesRow_83 hI v1 s1 _ h kb ke
      · refine v_aload_n 0 dX9_takesRow_77 rfl rfl ?_
        refine v_iload_n 1 dX9_takesRow_78 rfl rfl ?_
        refine v_iload_n 2 dX9_takesRow_79 rfl rfl ?_
        obtain ⟨r2, s2, h2, h⟩ := fm_bds h
        refine v_cVv [.int v1, .int x1_2] [] l_X9_118 (c_X9_dresses hI h2) yM_0 (by decide) rfl rfl ⟨rfl, rfl, by decide, by decide⟩ (Nat.le_of_ble_eq_true rfl) dX9_takesRow_80 ?_
        refine v_lw [some (.ref (fm_ad w 0)), some (.int v1), none, none] rfl ⟨rfl, rfl, trivial⟩ ?_
        exact t_X9_takesRow_83 hI v1 s2 _ h kb ke
set_option maxHeartbeats 4000000 in
theorem i_X9_takesRow_2 {w : fm_W} {l : Launch} {o : fm_O} (hI : fm_I w 11) (n : Nat) (s : fm_M) (v1 : Int32) (q : fm_M × Int32) (h : fm_it (fun s => f_X9_takesRow_2 s.1 s.2) n (s, v1) = some q) (ke : ∀ (s : fm_M) (u1 : Int32), q = (s, u1) → fm_V w layM 11 l rm_X9_takesRow cX9_takesRow 4 RX9 none o 89 [some (.ref (fm_ad w 0)), some (.int u1), none, none] [] s) : fm_V w layM 11 l rm_X9_takesRow cX9_takesRow 4 RX9 none o 2 [some (.ref (fm_ad w 0)), some (.int v1), none, none] [] s :=
  fm_it_loop (body := (fun s => f_X9_takesRow_2 s.1 s.2)) (P := fun s => fm_V w layM 11 l rm_X9_takesRow cX9_takesRow 4 RX9 none o 2 [some (.ref (fm_ad w 0)), some (.int s.2), none, none] [] s.1) (K := (fun q : fm_M × Int32 => (∀ (s : fm_M) (u1 : Int32), q = (s, u1) → fm_V w layM 11 l rm_X9_takesRow cX9_takesRow 4 RX9 none o 89 [some (.ref (fm_ad w 0)), some (.int u1), none, none] [] s))) (fun s z hb kl kx => t_X9_takesRow_2 hI s.1 s.2 z hb (fun s u1 e => kl _ e) (fun s u1 e => (kx _ e) s u1 rfl)) n (s, v1) q h ke
def f_X9_takesRow (s : fm_M) : Option (Int32 × fm_M) :=
  fm_op (fm_it (fun (yy : fm_M × Int32) => f_X9_takesRow_2 yy.1 yy.2) fm_fu (s, (0 : Int32))) (fun q3 => ((fun (s3 : fm_M) (x3_1 : Int32) => some (0, s3))) q3.1 q3.2)
set_option maxHeartbeats 4000000 in
theorem e_X9_takesRow {w : fm_W} {l : Launch} {o : fm_O} (hI : fm_I w 11) (s : fm_M) (z : Int32 × fm_M) (h : f_X9_takesRow s = some z) (ho : ∀ (r : Int32) (s : fm_M), z = (r, s) → o = (none, s)) : fm_V w layM 11 l rm_X9_takesRow cX9_takesRow 4 RX9 none o 0 [some (.ref (fm_ad w 0)), none, none, none] [] s := by
  unfold f_X9_takesRow at h
  refine v_iconst (0 : Int32) dX9_takesRow_0 (by decide) ?_
  refine v_istore_n (lv' := [some (.ref (fm_ad w 0)), some (.int (0 : Int32)), none, none]) 1 dX9_takesRow_1 rfl (by decide) rfl rfl ?_
  obtain ⟨q3, h3, h⟩ := fm_ops h
  refine v_lw [some (.ref (fm_ad w 0)), some (.int (0 : Int32)), none, none] rfl ⟨rfl, rfl, trivial⟩ ?_
  refine i_X9_takesRow_2 hI _ _ _ _ h3 (fun s3 x3_1 e => ?_)
  subst e
  dsimp only at h
  exact v_vret rfl (ho _ _ (Option.some.inj h).symm) dX9_takesRow_89
theorem c_X9_takesRow {w : fm_W} {l : Launch} (hI : fm_I w 11) {s : fm_M} {r : Int32} {s2 : fm_M} (h : f_X9_takesRow s = some (r, s2)) : fm_C w layM 11 l yX9_takesRow cX9_takesRow 4 none rm_X9_takesRow [.ref (fm_ad w 0)] s (none, s2) :=
  fm_of hI (by decide) rfl (Nat.le_of_ble_eq_true rfl) (e_X9_takesRow hI s _ h (fun r s e => by cases e; rfl))
-- X9_goes
abbrev rm_X9_goes : Room := { frames := 4, cells := 0, slots := 0, locals := 89 }
def f_X9_goes_29 (v1 : Int32) (s : fm_M) : Option ((fm_M) ⊕ (fm_M)) :=
  fm_bd (f_X9_mayOpen s) (fun r1 s1 => if r1 = 0 then some (.inr s1) else fm_bd (f_X9_highestFree s1) (fun r2 s2 => fm_bd (f_X9_opens r2 s2) (fun r3 s3 => some (.inl s3))))
set_option maxHeartbeats 4000000 in
theorem t_X9_goes_29 {w : fm_W} {l : Launch} {o : fm_O} (hI : fm_I w 11) (v1 : Int32) (s : fm_M) (z : (fm_M) ⊕ (fm_M)) (h : f_X9_goes_29 v1 s = some z) (kb : ∀ (s : fm_M), z = .inl (s) → fm_V w layM 11 l rm_X9_goes cX9_goes 2 RX9 (some .int) o 29 [some (.ref (fm_ad w 0)), some (.int v1)] [] s) (ke : ∀ (s : fm_M), z = .inr (s) → fm_V w layM 11 l rm_X9_goes cX9_goes 2 RX9 (some .int) o 48 [some (.ref (fm_ad w 0)), some (.int v1)] [] s) : fm_V w layM 11 l rm_X9_goes cX9_goes 2 RX9 (some .int) o 29 [some (.ref (fm_ad w 0)), some (.int v1)] [] s := by
  unfold f_X9_goes_29 at h
  refine v_aload_n 0 dX9_goes_29 rfl rfl ?_
  obtain ⟨r1, s1, h1, h⟩ := fm_bds h
  refine v_cVi [] [] l_X9_146 (c_X9_mayOpen hI h1) yM_0 (by decide) rfl rfl ⟨rfl, rfl, by decide, by decide⟩ (Nat.le_of_ble_eq_true rfl) dX9_goes_30 ?_
  refine v_if_eq 48 dX9_goes_33 (by decide) h (fun h => ?_) (fun h => ?_)
  · refine v_lw [some (.ref (fm_ad w 0)), some (.int v1)] rfl ⟨rfl, rfl, trivial⟩ ?_
    exact ke _ (Option.some.inj h).symm
  · refine v_aload_n 0 dX9_goes_36 rfl rfl ?_
    refine v_aload_n 0 dX9_goes_37 rfl rfl ?_
    obtain ⟨r2, s2, h2, h⟩ := fm_bds h
    refine v_cVi [] [.ref (fm_ad w 0)] l_X9_140 (c_X9_highestFree hI h2) yM_0 (by decide) rfl rfl ⟨rfl, rfl, by decide, by decide⟩ (Nat.le_of_ble_eq_true rfl) dX9_goes_38 ?_
    obtain ⟨r3, s3, h3, h⟩ := fm_bds h
    refine v_cVi [.int r2] [] l_X9_134 (c_X9_opens hI h3) yM_0 (by decide) rfl rfl ⟨rfl, rfl, by decide, by decide⟩ (Nat.le_of_ble_eq_true rfl) dX9_goes_41 ?_
    refine v_pop dX9_goes_44 rfl ?_
    refine v_goto 29 dX9_goes_45 (by decide) ?_
    refine v_lw [some (.ref (fm_ad w 0)), some (.int v1)] rfl ⟨rfl, rfl, trivial⟩ ?_
    exact kb _ (Option.some.inj h).symm
set_option maxHeartbeats 4000000 in
theorem i_X9_goes_29 {w : fm_W} {l : Launch} {o : fm_O} (hI : fm_I w 11) (v1 : Int32) (n : Nat) (s : fm_M) (q : fm_M) (h : fm_it (fun s => f_X9_goes_29 v1 s) n s = some q) (ke : ∀ (s : fm_M), q = s → fm_V w layM 11 l rm_X9_goes cX9_goes 2 RX9 (some .int) o 48 [some (.ref (fm_ad w 0)), some (.int v1)] [] s) : fm_V w layM 11 l rm_X9_goes cX9_goes 2 RX9 (some .int) o 29 [some (.ref (fm_ad w 0)), some (.int v1)] [] s :=
  fm_it_loop (body := (fun s => f_X9_goes_29 v1 s)) (P := fun s => fm_V w layM 11 l rm_X9_goes cX9_goes 2 RX9 (some .int) o 29 [some (.ref (fm_ad w 0)), some (.int v1)] [] s) (K := (fun q : fm_M => (∀ (s : fm_M), q = s → fm_V w layM 11 l rm_X9_goes cX9_goes 2 RX9 (some .int) o 48 [some (.ref (fm_ad w 0)), some (.int v1)] [] s))) (fun s z hb kl kx => t_X9_goes_29 hI v1 s z hb (fun s  e => kl _ e) (fun s  e => (kx _ e) s  rfl)) n s q h ke
def f_X9_goes_13 (v1 : Int32) (s : fm_M) : Option ((fm_M) ⊕ ((Int32 × fm_M) ⊕ (fm_M))) :=
  if fm_in (28 : Int32) 29 = true then if fm_in (4 : Int32) 17 = true then if (s 2 (4 : Int32).toNatClampNeg) < (s 4 (28 : Int32).toNatClampNeg) then some (.inr (.inr s)) else fm_op (fm_it (fun (yy : fm_M) => f_X9_goes_29 v1 yy) fm_fu s) (fun q4 => ((fun (s4 : fm_M) => fm_bd (f_X9_children (3 : Int32) s4) (fun r5 s5 => if fm_in (0 : Int32) 17 = true then if r5 = (s5 2 (0 : Int32).toNatClampNeg) then if fm_in (28 : Int32) 29 = true then some (.inr (.inl (((s5 4 (28 : Int32).toNatClampNeg) - v1), s5))) else none else fm_bd (f_X9_takesRow s5) (fun r6 s6 => fm_bd (f_X9_passes s6) (fun r7 s7 => some (.inl (fm_up s7 0 14 ((s6 0 14) + r7))))) else none))) q4) else none else none
set_option maxHeartbeats 4000000 in
theorem t_X9_goes_13 {w : fm_W} {l : Launch} {o : fm_O} (hI : fm_I w 11) (v1 : Int32) (s : fm_M) (z : (fm_M) ⊕ ((Int32 × fm_M) ⊕ (fm_M))) (h : f_X9_goes_13 v1 s = some z) (kb : ∀ (s : fm_M), z = .inl (s) → fm_V w layM 11 l rm_X9_goes cX9_goes 2 RX9 (some .int) o 13 [some (.ref (fm_ad w 0)), some (.int v1)] [] s) (ke : ∀ (s : fm_M), z = .inr (.inr (s)) → fm_V w layM 11 l rm_X9_goes cX9_goes 2 RX9 (some .int) o 92 [some (.ref (fm_ad w 0)), some (.int v1)] [] s) (kr : ∀ (r : Int32) (s : fm_M), z = .inr (.inl (r, s)) → o = (some (.int r), s)) : fm_V w layM 11 l rm_X9_goes cX9_goes 2 RX9 (some .int) o 13 [some (.ref (fm_ad w 0)), some (.int v1)] [] s := by
  unfold f_X9_goes_13 at h
  refine v_aload_n 0 dX9_goes_13 rfl rfl ?_
  refine v_getr 4 g_X9_19 yM_0 (by decide) rfl dX9_goes_14 ?_
  refine v_bipush (28 : Int32) dX9_goes_17 (by decide) ?_
  obtain ⟨hi, h⟩ := fm_ift h
  refine v_iald (Or.inl ⟨(by decide), yM_4⟩) hi dX9_goes_19 ?_
  refine v_aload_n 0 dX9_goes_20 rfl rfl ?_
  refine v_getr 2 g_X9_13 yM_0 (by decide) rfl dX9_goes_21 ?_
  refine v_iconst (4 : Int32) dX9_goes_24 (by decide) ?_
  obtain ⟨hi, h⟩ := fm_ift h
  refine v_iald (Or.inl ⟨(by decide), yM_2⟩) hi dX9_goes_25 ?_
  refine v_icmp_gt 92 dX9_goes_26 (by decide) h (fun h => ?_) (fun h => ?_)
  · refine v_lw [some (.ref (fm_ad w 0)), some (.int v1)] rfl ⟨rfl, rfl, trivial⟩ ?_
    exact ke _ (Option.some.inj h).symm
  · obtain ⟨q4, h4, h⟩ := fm_ops h
    refine v_lw [some (.ref (fm_ad w 0)), some (.int v1)] rfl ⟨rfl, rfl, trivial⟩ ?_
    refine i_X9_goes_29 hI v1 _ _ _ h4 (fun s4 e => ?_)
    subst e
    dsimp only at h
    refine v_aload_n 0 dX9_goes_48 rfl rfl ?_
    refine v_iconst (3 : Int32) dX9_goes_49 (by decide) ?_
    obtain ⟨r5, s5, h5, h⟩ := fm_bds h
    refine v_cVi [.int (3 : Int32)] [] l_X9_131 (c_X9_children hI h5) yM_0 (by decide) rfl rfl ⟨rfl, rfl, by decide, by decide⟩ (Nat.le_of_ble_eq_true rfl) dX9_goes_50 ?_
    refine v_aload_n 0 dX9_goes_53 rfl rfl ?_
    refine v_getr 2 g_X9_13 yM_0 (by decide) rfl dX9_goes_54 ?_
    refine v_iconst (0 : Int32) dX9_goes_57 (by decide) ?_
    obtain ⟨hi, h⟩ := fm_ift h
    refine v_iald (Or.inl ⟨(by decide), yM_2⟩) hi dX9_goes_58 ?_
    refine v_icmp_ne 72 dX9_goes_59 (by decide) h (fun h => ?_) (fun h => ?_)
    · refine v_aload_n 0 dX9_goes_72 rfl rfl ?_
      obtain ⟨r6, s6, h6, h⟩ := fm_bds h
      refine v_cVv [] [] l_X9_149 (c_X9_takesRow hI h6) yM_0 (by decide) rfl rfl ⟨rfl, rfl, by decide, by decide⟩ (Nat.le_of_ble_eq_true rfl) dX9_goes_73 ?_
      refine v_aload_n 0 dX9_goes_76 rfl rfl ?_
      refine v_dup dX9_goes_77 rfl ?_
      refine v_geti g_X9_143 yM_0 (by decide) rfl dX9_goes_78 ?_
      refine v_aload_n 0 dX9_goes_81 rfl rfl ?_
      obtain ⟨r7, s7, h7, h⟩ := fm_bds h
      refine v_cVi [] [.int (s6 0 14), .ref (fm_ad w 0)] l_X9_137 (c_X9_passes hI h7) yM_0 (by decide) rfl rfl ⟨rfl, rfl, by decide, by decide⟩ (Nat.le_of_ble_eq_true rfl) dX9_goes_82 ?_
      refine v_iadd dX9_goes_85 ?_
      refine v_put p_X9_143 yM_0 (by decide) rfl ⟨rfl, rfl⟩ dX9_goes_86 ?_
      refine v_goto 13 dX9_goes_89 (by decide) ?_
      refine v_lw [some (.ref (fm_ad w 0)), some (.int v1)] rfl ⟨rfl, rfl, trivial⟩ ?_
      exact kb _ (Option.some.inj h).symm
    · refine v_aload_n 0 dX9_goes_62 rfl rfl ?_
      refine v_getr 4 g_X9_19 yM_0 (by decide) rfl dX9_goes_63 ?_
      refine v_bipush (28 : Int32) dX9_goes_66 (by decide) ?_
      obtain ⟨hi, h⟩ := fm_ift h
      refine v_iald (Or.inl ⟨(by decide), yM_4⟩) hi dX9_goes_68 ?_
      refine v_iload_n 1 dX9_goes_69 rfl rfl ?_
      refine v_isub dX9_goes_70 ?_
      exact v_iret rfl (kr _ _ (Option.some.inj h).symm) dX9_goes_71
set_option maxHeartbeats 4000000 in
theorem i_X9_goes_13 {w : fm_W} {l : Launch} {o : fm_O} (hI : fm_I w 11) (v1 : Int32) (n : Nat) (s : fm_M) (q : (Int32 × fm_M) ⊕ (fm_M)) (h : fm_it (fun s => f_X9_goes_13 v1 s) n s = some q) (kr : ∀ (r : Int32) (s : fm_M), q = .inl (r, s) → o = (some (.int r), s)) (ke : ∀ (s : fm_M), q = .inr s → fm_V w layM 11 l rm_X9_goes cX9_goes 2 RX9 (some .int) o 92 [some (.ref (fm_ad w 0)), some (.int v1)] [] s) : fm_V w layM 11 l rm_X9_goes cX9_goes 2 RX9 (some .int) o 13 [some (.ref (fm_ad w 0)), some (.int v1)] [] s :=
  fm_it_loop (body := (fun s => f_X9_goes_13 v1 s)) (P := fun s => fm_V w layM 11 l rm_X9_goes cX9_goes 2 RX9 (some .int) o 13 [some (.ref (fm_ad w 0)), some (.int v1)] [] s) (K := (fun q : (Int32 × fm_M) ⊕ (fm_M) => (∀ (r : Int32) (s : fm_M), q = .inl (r, s) → o = (some (.int r), s)) ∧ (∀ (s : fm_M), q = .inr s → fm_V w layM 11 l rm_X9_goes cX9_goes 2 RX9 (some .int) o 92 [some (.ref (fm_ad w 0)), some (.int v1)] [] s))) (fun s z hb kl kx => t_X9_goes_13 hI v1 s z hb (fun s  e => kl _ e) (fun s  e => (kx _ e).2 s  rfl) (fun r s e => (kx _ e).1 r s rfl)) n s q h ⟨kr, ke⟩
def f_X9_goes (s : fm_M) : Option (Int32 × fm_M) :=
  if fm_in (28 : Int32) 29 = true then fm_op (fm_it (fun (yy : fm_M) => f_X9_goes_13 (s 4 (28 : Int32).toNatClampNeg) yy) fm_fu (fm_up s 0 14 (0 : Int32))) (fun q8 => Sum.elim (fun r => some r) (fun t8 => ((fun (s8 : fm_M) => some ((-4 : Int32), s8))) t8) q8) else none
set_option maxHeartbeats 4000000 in
theorem e_X9_goes {w : fm_W} {l : Launch} {o : fm_O} (hI : fm_I w 11) (s : fm_M) (z : Int32 × fm_M) (h : f_X9_goes s = some z) (ho : ∀ (r : Int32) (s : fm_M), z = (r, s) → o = (some (.int r), s)) : fm_V w layM 11 l rm_X9_goes cX9_goes 2 RX9 (some .int) o 0 [some (.ref (fm_ad w 0)), none] [] s := by
  unfold f_X9_goes at h
  refine v_aload_n 0 dX9_goes_0 rfl rfl ?_
  refine v_getr 4 g_X9_19 yM_0 (by decide) rfl dX9_goes_1 ?_
  refine v_bipush (28 : Int32) dX9_goes_4 (by decide) ?_
  obtain ⟨hi, h⟩ := fm_ift h
  refine v_iald (Or.inl ⟨(by decide), yM_4⟩) hi dX9_goes_6 ?_
  refine v_istore_n (lv' := [some (.ref (fm_ad w 0)), some (.int (s 4 (28 : Int32).toNatClampNeg))]) 1 dX9_goes_7 rfl (by decide) rfl rfl ?_
  refine v_aload_n 0 dX9_goes_8 rfl rfl ?_
  refine v_iconst (0 : Int32) dX9_goes_9 (by decide) ?_
  refine v_put p_X9_143 yM_0 (by decide) rfl ⟨rfl, rfl⟩ dX9_goes_10 ?_
  obtain ⟨q8, h8, h⟩ := fm_ops h
  refine v_lw [some (.ref (fm_ad w 0)), some (.int (s 4 (28 : Int32).toNatClampNeg))] rfl ⟨rfl, rfl, trivial⟩ ?_
  refine i_X9_goes_13 hI (s 4 (28 : Int32).toNatClampNeg) _ _ _ h8 (fun r s e => by subst e; exact ho r s (Option.some.inj h).symm) (fun s8 e => ?_)
  subst e
  dsimp only [Sum.elim] at h
  refine v_bipush (-4 : Int32) dX9_goes_92 (by decide) ?_
  exact v_iret rfl (ho _ _ (Option.some.inj h).symm) dX9_goes_94
theorem c_X9_goes {w : fm_W} {l : Launch} (hI : fm_I w 11) {s : fm_M} {r : Int32} {s2 : fm_M} (h : f_X9_goes s = some (r, s2)) : fm_C w layM 11 l yX9_goes cX9_goes 2 (some .int) rm_X9_goes [.ref (fm_ad w 0)] s (some (.int r), s2) :=
  fm_of hI (by decide) rfl (Nat.le_of_ble_eq_true rfl) (e_X9_goes hI s _ h (fun r s e => by cases e; rfl))
-- X9_lets
abbrev rm_X9_lets : Room := { frames := 0, cells := 0, slots := 0, locals := 0 }
def f_X9_lets_2 (s : fm_M) (v1 : Int32) : Option ((fm_M × Int32) ⊕ (fm_M × Int32)) :=
  if (29 : Int32) ≤ v1 then some (.inr (s, v1)) else if fm_in v1 29 = true then if fm_in v1 29 = true then some (.inl ((fm_up s 4 v1.toNatClampNeg (s 8 v1.toNatClampNeg)), (v1 + (1 : Int32)))) else none else none
set_option maxHeartbeats 4000000 in
theorem t_X9_lets_2 {w : fm_W} {l : Launch} {o : fm_O} (hI : fm_I w 11) (s : fm_M) (v1 : Int32) (z : (fm_M × Int32) ⊕ (fm_M × Int32)) (h : f_X9_lets_2 s v1 = some z) (kb : ∀ (s : fm_M) (u1 : Int32), z = .inl (s, u1) → fm_V w layM 11 l rm_X9_lets cX9_lets 2 RX9 none o 2 [some (.ref (fm_ad w 0)), some (.int u1)] [] s) (ke : ∀ (s : fm_M) (u1 : Int32), z = .inr (s, u1) → fm_V w layM 11 l rm_X9_lets cX9_lets 2 RX9 none o 26 [some (.ref (fm_ad w 0)), some (.int u1)] [] s) : fm_V w layM 11 l rm_X9_lets cX9_lets 2 RX9 none o 2 [some (.ref (fm_ad w 0)), some (.int v1)] [] s := by
  unfold f_X9_lets_2 at h
  refine v_iload_n 1 dX9_lets_2 rfl rfl ?_
  refine v_bipush (29 : Int32) dX9_lets_3 (by decide) ?_
  refine v_icmp_ge 26 dX9_lets_5 (by decide) h (fun h => ?_) (fun h => ?_)
  · refine v_lw [some (.ref (fm_ad w 0)), some (.int v1)] rfl ⟨rfl, rfl, trivial⟩ ?_
    exact ke _ _ (Option.some.inj h).symm
  · refine v_aload_n 0 dX9_lets_8 rfl rfl ?_
    refine v_getr 4 g_X9_19 yM_0 (by decide) rfl dX9_lets_9 ?_
    refine v_iload_n 1 dX9_lets_12 rfl rfl ?_
    refine v_aload_n 0 dX9_lets_13 rfl rfl ?_
    refine v_getr 8 g_X9_31 yM_0 (by decide) rfl dX9_lets_14 ?_
    refine v_iload_n 1 dX9_lets_17 rfl rfl ?_
    obtain ⟨hi, h⟩ := fm_ift h
    refine v_iald (Or.inl ⟨(by decide), yM_8⟩) hi dX9_lets_18 ?_
    obtain ⟨hi, h⟩ := fm_ift h
    refine v_iast (by decide) yM_4 hi dX9_lets_19 ?_
    refine v_iinc (lv' := [some (.ref (fm_ad w 0)), some (.int (v1 + (1 : Int32)))]) (1 : Int32) dX9_lets_20 rfl (by decide) (by decide) rfl rfl ?_
    refine v_goto 2 dX9_lets_23 (by decide) ?_
    refine v_lw [some (.ref (fm_ad w 0)), some (.int (v1 + (1 : Int32)))] rfl ⟨rfl, rfl, trivial⟩ ?_
    exact kb _ _ (Option.some.inj h).symm
set_option maxHeartbeats 4000000 in
theorem i_X9_lets_2 {w : fm_W} {l : Launch} {o : fm_O} (hI : fm_I w 11) (n : Nat) (s : fm_M) (v1 : Int32) (q : fm_M × Int32) (h : fm_it (fun s => f_X9_lets_2 s.1 s.2) n (s, v1) = some q) (ke : ∀ (s : fm_M) (u1 : Int32), q = (s, u1) → fm_V w layM 11 l rm_X9_lets cX9_lets 2 RX9 none o 26 [some (.ref (fm_ad w 0)), some (.int u1)] [] s) : fm_V w layM 11 l rm_X9_lets cX9_lets 2 RX9 none o 2 [some (.ref (fm_ad w 0)), some (.int v1)] [] s :=
  fm_it_loop (body := (fun s => f_X9_lets_2 s.1 s.2)) (P := fun s => fm_V w layM 11 l rm_X9_lets cX9_lets 2 RX9 none o 2 [some (.ref (fm_ad w 0)), some (.int s.2)] [] s.1) (K := (fun q : fm_M × Int32 => (∀ (s : fm_M) (u1 : Int32), q = (s, u1) → fm_V w layM 11 l rm_X9_lets cX9_lets 2 RX9 none o 26 [some (.ref (fm_ad w 0)), some (.int u1)] [] s))) (fun s z hb kl kx => t_X9_lets_2 hI s.1 s.2 z hb (fun s u1 e => kl _ e) (fun s u1 e => (kx _ e) s u1 rfl)) n (s, v1) q h ke
def f_X9_lets (s : fm_M) : Option (Int32 × fm_M) :=
  fm_op (fm_it (fun (yy : fm_M × Int32) => f_X9_lets_2 yy.1 yy.2) fm_fu (s, (0 : Int32))) (fun q1 => ((fun (s1 : fm_M) (x1_1 : Int32) => some (0, s1))) q1.1 q1.2)
set_option maxHeartbeats 4000000 in
theorem e_X9_lets {w : fm_W} {l : Launch} {o : fm_O} (hI : fm_I w 11) (s : fm_M) (z : Int32 × fm_M) (h : f_X9_lets s = some z) (ho : ∀ (r : Int32) (s : fm_M), z = (r, s) → o = (none, s)) : fm_V w layM 11 l rm_X9_lets cX9_lets 2 RX9 none o 0 [some (.ref (fm_ad w 0)), none] [] s := by
  unfold f_X9_lets at h
  refine v_iconst (0 : Int32) dX9_lets_0 (by decide) ?_
  refine v_istore_n (lv' := [some (.ref (fm_ad w 0)), some (.int (0 : Int32))]) 1 dX9_lets_1 rfl (by decide) rfl rfl ?_
  obtain ⟨q1, h1, h⟩ := fm_ops h
  refine v_lw [some (.ref (fm_ad w 0)), some (.int (0 : Int32))] rfl ⟨rfl, rfl, trivial⟩ ?_
  refine i_X9_lets_2 hI _ _ _ _ h1 (fun s1 x1_1 e => ?_)
  subst e
  dsimp only at h
  exact v_vret rfl (ho _ _ (Option.some.inj h).symm) dX9_lets_26
theorem c_X9_lets {w : fm_W} {l : Launch} (hI : fm_I w 11) {s : fm_M} {r : Int32} {s2 : fm_M} (h : f_X9_lets s = some (r, s2)) : fm_C w layM 11 l yX9_lets cX9_lets 2 none rm_X9_lets [.ref (fm_ad w 0)] s (none, s2) :=
  fm_of hI (by decide) rfl (Nat.le_of_ble_eq_true rfl) (e_X9_lets hI s _ h (fun r s e => by cases e; rfl))
-- X9_goesBut
abbrev rm_X9_goesBut : Room := { frames := 5, cells := 0, slots := 0, locals := 110 }
def f_X9_goesBut_32 (v1 : Int32) (v3 : Int32) (sk0 : Int32) (sk1 : Int32) (s : fm_M) : Option ((fm_M × Int32 × Int32) ⊕ (fm_M × Int32 × Int32)) :=
  some (.inl (s, (sk1 + sk0), (v3 + (1 : Int32))))
set_option maxHeartbeats 4000000 in
theorem t_X9_goesBut_32 {w : fm_W} {l : Launch} {o : fm_O} (hI : fm_I w 11) (v1 : Int32) (v3 : Int32) (sk0 : Int32) (sk1 : Int32) (s : fm_M) (z : (fm_M × Int32 × Int32) ⊕ (fm_M × Int32 × Int32)) (h : f_X9_goesBut_32 v1 v3 sk0 sk1 s = some z) (kb : ∀ (s : fm_M) (u2 : Int32) (u3 : Int32), z = .inl (s, u2, u3) → fm_V w layM 11 l rm_X9_goesBut cX9_goesBut 4 RX9 (some .int) o 4 [some (.ref (fm_ad w 0)), some (.int v1), some (.int u2), some (.int u3)] [] s) (ke : ∀ (s : fm_M) (u2 : Int32) (u3 : Int32), z = .inr (s, u2, u3) → fm_V w layM 11 l rm_X9_goesBut cX9_goesBut 4 RX9 (some .int) o 40 [some (.ref (fm_ad w 0)), some (.int v1), some (.int u2), some (.int u3)] [] s) : fm_V w layM 11 l rm_X9_goesBut cX9_goesBut 4 RX9 (some .int) o 32 [some (.ref (fm_ad w 0)), some (.int v1), none, some (.int v3)] [.int sk0, .int sk1] s := by
  unfold f_X9_goesBut_32 at h
  refine v_iadd dX9_goesBut_32 ?_
  refine v_istore_n (lv' := [some (.ref (fm_ad w 0)), some (.int v1), some (.int (sk1 + sk0)), some (.int v3)]) 2 dX9_goesBut_33 rfl (by decide) rfl rfl ?_
  refine v_iinc (lv' := [some (.ref (fm_ad w 0)), some (.int v1), some (.int (sk1 + sk0)), some (.int (v3 + (1 : Int32)))]) (1 : Int32) dX9_goesBut_34 rfl (by decide) (by decide) rfl rfl ?_
  refine v_goto 4 dX9_goesBut_37 (by decide) ?_
  refine v_lw [some (.ref (fm_ad w 0)), some (.int v1), some (.int (sk1 + sk0)), some (.int (v3 + (1 : Int32)))] rfl ⟨rfl, rfl, rfl, rfl, trivial⟩ ?_
  exact kb _ _ _ (Option.some.inj h).symm
def f_X9_goesBut_4 (v1 : Int32) (s : fm_M) (v2 : Int32) (v3 : Int32) : Option ((fm_M × Int32 × Int32) ⊕ (fm_M × Int32 × Int32)) :=
  if fm_in (0 : Int32) 17 = true then if (s 2 (0 : Int32).toNatClampNeg) ≤ v3 then some (.inr (s, v2, v3)) else if fm_in v2 6 = true then if v3 = v1 then f_X9_goesBut_32 v1 v3 (0 : Int32) v2 (fm_up s 9 v2.toNatClampNeg v3) else f_X9_goesBut_32 v1 v3 (1 : Int32) v2 (fm_up s 9 v2.toNatClampNeg v3) else none else none
set_option maxHeartbeats 4000000 in
theorem t_X9_goesBut_4 {w : fm_W} {l : Launch} {o : fm_O} (hI : fm_I w 11) (v1 : Int32) (s : fm_M) (v2 : Int32) (v3 : Int32) (z : (fm_M × Int32 × Int32) ⊕ (fm_M × Int32 × Int32)) (h : f_X9_goesBut_4 v1 s v2 v3 = some z) (kb : ∀ (s : fm_M) (u2 : Int32) (u3 : Int32), z = .inl (s, u2, u3) → fm_V w layM 11 l rm_X9_goesBut cX9_goesBut 4 RX9 (some .int) o 4 [some (.ref (fm_ad w 0)), some (.int v1), some (.int u2), some (.int u3)] [] s) (ke : ∀ (s : fm_M) (u2 : Int32) (u3 : Int32), z = .inr (s, u2, u3) → fm_V w layM 11 l rm_X9_goesBut cX9_goesBut 4 RX9 (some .int) o 40 [some (.ref (fm_ad w 0)), some (.int v1), some (.int u2), some (.int u3)] [] s) : fm_V w layM 11 l rm_X9_goesBut cX9_goesBut 4 RX9 (some .int) o 4 [some (.ref (fm_ad w 0)), some (.int v1), some (.int v2), some (.int v3)] [] s := by
  unfold f_X9_goesBut_4 at h
  refine v_iload_n 3 dX9_goesBut_4 rfl rfl ?_
  refine v_aload_n 0 dX9_goesBut_5 rfl rfl ?_
  refine v_getr 2 g_X9_13 yM_0 (by decide) rfl dX9_goesBut_6 ?_
  refine v_iconst (0 : Int32) dX9_goesBut_9 (by decide) ?_
  obtain ⟨hi, h⟩ := fm_ift h
  refine v_iald (Or.inl ⟨(by decide), yM_2⟩) hi dX9_goesBut_10 ?_
  refine v_icmp_ge 40 dX9_goesBut_11 (by decide) h (fun h => ?_) (fun h => ?_)
  · refine v_lw [some (.ref (fm_ad w 0)), some (.int v1), some (.int v2), some (.int v3)] rfl ⟨rfl, rfl, rfl, rfl, trivial⟩ ?_
    exact ke _ _ _ (Option.some.inj h).symm
  · refine v_aload_n 0 dX9_goesBut_14 rfl rfl ?_
    refine v_getr 9 g_X9_34 yM_0 (by decide) rfl dX9_goesBut_15 ?_
    refine v_iload_n 2 dX9_goesBut_18 rfl rfl ?_
    refine v_iload_n 3 dX9_goesBut_19 rfl rfl ?_
    obtain ⟨hi, h⟩ := fm_ift h
    refine v_iast (by decide) yM_9 hi dX9_goesBut_20 ?_
    refine v_iload_n 2 dX9_goesBut_21 rfl rfl ?_
    refine v_iload_n 3 dX9_goesBut_22 rfl rfl ?_
    refine v_iload_n 1 dX9_goesBut_23 rfl rfl ?_
    refine v_icmp_ne 31 dX9_goesBut_24 (by decide) h (fun h => ?_) (fun h => ?_)
    · refine v_iconst (1 : Int32) dX9_goesBut_31 (by decide) ?_
      refine v_lw [some (.ref (fm_ad w 0)), some (.int v1), none, some (.int v3)] rfl ⟨rfl, rfl, rfl, trivial⟩ ?_
      exact t_X9_goesBut_32 hI v1 v3 (1 : Int32) v2 (fm_up s 9 v2.toNatClampNeg v3) _ h kb ke
    · refine v_iconst (0 : Int32) dX9_goesBut_27 (by decide) ?_
      refine v_goto 32 dX9_goesBut_28 (by decide) ?_
      refine v_lw [some (.ref (fm_ad w 0)), some (.int v1), none, some (.int v3)] rfl ⟨rfl, rfl, rfl, trivial⟩ ?_
      exact t_X9_goesBut_32 hI v1 v3 (0 : Int32) v2 (fm_up s 9 v2.toNatClampNeg v3) _ h kb ke
set_option maxHeartbeats 4000000 in
theorem i_X9_goesBut_4 {w : fm_W} {l : Launch} {o : fm_O} (hI : fm_I w 11) (v1 : Int32) (n : Nat) (s : fm_M) (v2 : Int32) (v3 : Int32) (q : fm_M × Int32 × Int32) (h : fm_it (fun s => f_X9_goesBut_4 v1 s.1 s.2.1 s.2.2) n (s, v2, v3) = some q) (ke : ∀ (s : fm_M) (u2 : Int32) (u3 : Int32), q = (s, u2, u3) → fm_V w layM 11 l rm_X9_goesBut cX9_goesBut 4 RX9 (some .int) o 40 [some (.ref (fm_ad w 0)), some (.int v1), some (.int u2), some (.int u3)] [] s) : fm_V w layM 11 l rm_X9_goesBut cX9_goesBut 4 RX9 (some .int) o 4 [some (.ref (fm_ad w 0)), some (.int v1), some (.int v2), some (.int v3)] [] s :=
  fm_it_loop (body := (fun s => f_X9_goesBut_4 v1 s.1 s.2.1 s.2.2)) (P := fun s => fm_V w layM 11 l rm_X9_goesBut cX9_goesBut 4 RX9 (some .int) o 4 [some (.ref (fm_ad w 0)), some (.int v1), some (.int s.2.1), some (.int s.2.2)] [] s.1) (K := (fun q : fm_M × Int32 × Int32 => (∀ (s : fm_M) (u2 : Int32) (u3 : Int32), q = (s, u2, u3) → fm_V w layM 11 l rm_X9_goesBut cX9_goesBut 4 RX9 (some .int) o 40 [some (.ref (fm_ad w 0)), some (.int v1), some (.int u2), some (.int u3)] [] s))) (fun s z hb kl kx => t_X9_goesBut_4 hI v1 s.1 s.2.1 s.2.2 z hb (fun s u2 u3 e => kl _ e) (fun s u2 u3 e => (kx _ e) s u2 u3 rfl)) n (s, v2, v3) q h ke
def f_X9_goesBut_60 (s : fm_M) : Option (Int32 × fm_M) :=
  fm_bd (f_X9_goes s) (fun r2 s2 => fm_bd (f_X9_lets s2) (fun r3 s3 => some (r2, s3)))
set_option maxHeartbeats 4000000 in
theorem t_X9_goesBut_60 {w : fm_W} {l : Launch} {o : fm_O} (hI : fm_I w 11) (s : fm_M) (z : Int32 × fm_M) (h : f_X9_goesBut_60 s = some z) (ho : ∀ (r : Int32) (s : fm_M), z = (r, s) → o = (some (.int r), s)) : fm_V w layM 11 l rm_X9_goesBut cX9_goesBut 4 RX9 (some .int) o 60 [some (.ref (fm_ad w 0)), none, none, none] [] s := by
  unfold f_X9_goesBut_60 at h
  refine v_aload_n 0 dX9_goesBut_60 rfl rfl ?_
  obtain ⟨r2, s2, h2, h⟩ := fm_bds h
  refine v_cVi [] [] l_X9_152 (c_X9_goes hI h2) yM_0 (by decide) rfl rfl ⟨rfl, rfl, by decide, by decide⟩ (Nat.le_of_ble_eq_true rfl) dX9_goesBut_61 ?_
  refine v_istore_n (lv' := [some (.ref (fm_ad w 0)), none, none, some (.int r2)]) 3 dX9_goesBut_64 rfl (by decide) rfl rfl ?_
  refine v_aload_n 0 dX9_goesBut_65 rfl rfl ?_
  obtain ⟨r3, s3, h3, h⟩ := fm_bds h
  refine v_cVv [] [] l_X9_155 (c_X9_lets hI h3) yM_0 (by decide) rfl rfl ⟨rfl, rfl, by decide, by decide⟩ (Nat.le_of_ble_eq_true rfl) dX9_goesBut_66 ?_
  refine v_iload_n 3 dX9_goesBut_69 rfl rfl ?_
  exact v_iret rfl (ho _ _ (Option.some.inj h).symm) dX9_goesBut_70
def f_X9_goesBut (v1 : Int32) (s : fm_M) : Option (Int32 × fm_M) :=
  fm_op (fm_it (fun (yy : fm_M × Int32 × Int32) => f_X9_goesBut_4 v1 yy.1 yy.2.1 yy.2.2) fm_fu (s, (0 : Int32), (0 : Int32))) (fun q1 => ((fun (s1 : fm_M) (x1_2 : Int32) (x1_3 : Int32) => if v1 = (-4 : Int32) then f_X9_goesBut_60 s1 else if fm_in (0 : Int32) 17 = true then if fm_in ((s1 2 (0 : Int32).toNatClampNeg) - (1 : Int32)) 6 = true then f_X9_goesBut_60 (fm_up s1 9 ((s1 2 (0 : Int32).toNatClampNeg) - (1 : Int32)).toNatClampNeg v1) else none else none)) q1.1 q1.2.1 q1.2.2)
set_option maxHeartbeats 4000000 in
theorem e_X9_goesBut {w : fm_W} {l : Launch} {o : fm_O} (hI : fm_I w 11) (v1 : Int32) (s : fm_M) (z : Int32 × fm_M) (h : f_X9_goesBut v1 s = some z) (ho : ∀ (r : Int32) (s : fm_M), z = (r, s) → o = (some (.int r), s)) : fm_V w layM 11 l rm_X9_goesBut cX9_goesBut 4 RX9 (some .int) o 0 [some (.ref (fm_ad w 0)), some (.int v1), none, none] [] s := by
  unfold f_X9_goesBut at h
  refine v_iconst (0 : Int32) dX9_goesBut_0 (by decide) ?_
  refine v_istore_n (lv' := [some (.ref (fm_ad w 0)), some (.int v1), some (.int (0 : Int32)), none]) 2 dX9_goesBut_1 rfl (by decide) rfl rfl ?_
  refine v_iconst (0 : Int32) dX9_goesBut_2 (by decide) ?_
  refine v_istore_n (lv' := [some (.ref (fm_ad w 0)), some (.int v1), some (.int (0 : Int32)), some (.int (0 : Int32))]) 3 dX9_goesBut_3 rfl (by decide) rfl rfl ?_
  obtain ⟨q1, h1, h⟩ := fm_ops h
  refine v_lw [some (.ref (fm_ad w 0)), some (.int v1), some (.int (0 : Int32)), some (.int (0 : Int32))] rfl ⟨rfl, rfl, rfl, rfl, trivial⟩ ?_
  refine i_X9_goesBut_4 hI v1 _ _ _ _ _ h1 (fun s1 x1_2 x1_3 e => ?_)
  subst e
  dsimp only at h
  refine v_iload_n 1 dX9_goesBut_40 rfl rfl ?_
  refine v_bipush (-4 : Int32) dX9_goesBut_41 (by decide) ?_
  refine v_icmp_eq 60 dX9_goesBut_43 (by decide) h (fun h => ?_) (fun h => ?_)
  · refine v_lw [some (.ref (fm_ad w 0)), none, none, none] rfl ⟨rfl, trivial⟩ ?_
    exact t_X9_goesBut_60 hI s1 _ h ho
  · refine v_aload_n 0 dX9_goesBut_46 rfl rfl ?_
    refine v_getr 9 g_X9_34 yM_0 (by decide) rfl dX9_goesBut_47 ?_
    refine v_aload_n 0 dX9_goesBut_50 rfl rfl ?_
    refine v_getr 2 g_X9_13 yM_0 (by decide) rfl dX9_goesBut_51 ?_
    refine v_iconst (0 : Int32) dX9_goesBut_54 (by decide) ?_
    obtain ⟨hi, h⟩ := fm_ift h
    refine v_iald (Or.inl ⟨(by decide), yM_2⟩) hi dX9_goesBut_55 ?_
    refine v_iconst (1 : Int32) dX9_goesBut_56 (by decide) ?_
    refine v_isub dX9_goesBut_57 ?_
    refine v_iload_n 1 dX9_goesBut_58 rfl rfl ?_
    obtain ⟨hi, h⟩ := fm_ift h
    refine v_iast (by decide) yM_9 hi dX9_goesBut_59 ?_
    refine v_lw [some (.ref (fm_ad w 0)), none, none, none] rfl ⟨rfl, trivial⟩ ?_
    exact t_X9_goesBut_60 hI (fm_up s1 9 ((s1 2 (0 : Int32).toNatClampNeg) - (1 : Int32)).toNatClampNeg v1) _ h ho
theorem c_X9_goesBut {w : fm_W} {l : Launch} (hI : fm_I w 11) {v1 : Int32} {s : fm_M} {r : Int32} {s2 : fm_M} (h : f_X9_goesBut v1 s = some (r, s2)) : fm_C w layM 11 l yX9_goesBut cX9_goesBut 4 (some .int) rm_X9_goesBut [.ref (fm_ad w 0), .int v1] s (some (.int r), s2) :=
  fm_of hI (by decide) rfl (Nat.le_of_ble_eq_true rfl) (e_X9_goesBut hI v1 s _ h (fun r s e => by cases e; rfl))
-- X9_holds
abbrev rm_X9_holds : Room := { frames := 0, cells := 0, slots := 0, locals := 0 }
def f_X9_holds_2 (s : fm_M) (v1 : Int32) : Option ((fm_M × Int32) ⊕ (fm_M × Int32)) :=
  if (29 : Int32) ≤ v1 then some (.inr (s, v1)) else if fm_in v1 29 = true then if fm_in v1 29 = true then some (.inl ((fm_up s 8 v1.toNatClampNeg (s 4 v1.toNatClampNeg)), (v1 + (1 : Int32)))) else none else none
set_option maxHeartbeats 4000000 in
theorem t_X9_holds_2 {w : fm_W} {l : Launch} {o : fm_O} (hI : fm_I w 11) (s : fm_M) (v1 : Int32) (z : (fm_M × Int32) ⊕ (fm_M × Int32)) (h : f_X9_holds_2 s v1 = some z) (kb : ∀ (s : fm_M) (u1 : Int32), z = .inl (s, u1) → fm_V w layM 11 l rm_X9_holds cX9_holds 2 RX9 none o 2 [some (.ref (fm_ad w 0)), some (.int u1)] [] s) (ke : ∀ (s : fm_M) (u1 : Int32), z = .inr (s, u1) → fm_V w layM 11 l rm_X9_holds cX9_holds 2 RX9 none o 26 [some (.ref (fm_ad w 0)), some (.int u1)] [] s) : fm_V w layM 11 l rm_X9_holds cX9_holds 2 RX9 none o 2 [some (.ref (fm_ad w 0)), some (.int v1)] [] s := by
  unfold f_X9_holds_2 at h
  refine v_iload_n 1 dX9_holds_2 rfl rfl ?_
  refine v_bipush (29 : Int32) dX9_holds_3 (by decide) ?_
  refine v_icmp_ge 26 dX9_holds_5 (by decide) h (fun h => ?_) (fun h => ?_)
  · refine v_lw [some (.ref (fm_ad w 0)), some (.int v1)] rfl ⟨rfl, rfl, trivial⟩ ?_
    exact ke _ _ (Option.some.inj h).symm
  · refine v_aload_n 0 dX9_holds_8 rfl rfl ?_
    refine v_getr 8 g_X9_31 yM_0 (by decide) rfl dX9_holds_9 ?_
    refine v_iload_n 1 dX9_holds_12 rfl rfl ?_
    refine v_aload_n 0 dX9_holds_13 rfl rfl ?_
    refine v_getr 4 g_X9_19 yM_0 (by decide) rfl dX9_holds_14 ?_
    refine v_iload_n 1 dX9_holds_17 rfl rfl ?_
    obtain ⟨hi, h⟩ := fm_ift h
    refine v_iald (Or.inl ⟨(by decide), yM_4⟩) hi dX9_holds_18 ?_
    obtain ⟨hi, h⟩ := fm_ift h
    refine v_iast (by decide) yM_8 hi dX9_holds_19 ?_
    refine v_iinc (lv' := [some (.ref (fm_ad w 0)), some (.int (v1 + (1 : Int32)))]) (1 : Int32) dX9_holds_20 rfl (by decide) (by decide) rfl rfl ?_
    refine v_goto 2 dX9_holds_23 (by decide) ?_
    refine v_lw [some (.ref (fm_ad w 0)), some (.int (v1 + (1 : Int32)))] rfl ⟨rfl, rfl, trivial⟩ ?_
    exact kb _ _ (Option.some.inj h).symm
set_option maxHeartbeats 4000000 in
theorem i_X9_holds_2 {w : fm_W} {l : Launch} {o : fm_O} (hI : fm_I w 11) (n : Nat) (s : fm_M) (v1 : Int32) (q : fm_M × Int32) (h : fm_it (fun s => f_X9_holds_2 s.1 s.2) n (s, v1) = some q) (ke : ∀ (s : fm_M) (u1 : Int32), q = (s, u1) → fm_V w layM 11 l rm_X9_holds cX9_holds 2 RX9 none o 26 [some (.ref (fm_ad w 0)), some (.int u1)] [] s) : fm_V w layM 11 l rm_X9_holds cX9_holds 2 RX9 none o 2 [some (.ref (fm_ad w 0)), some (.int v1)] [] s :=
  fm_it_loop (body := (fun s => f_X9_holds_2 s.1 s.2)) (P := fun s => fm_V w layM 11 l rm_X9_holds cX9_holds 2 RX9 none o 2 [some (.ref (fm_ad w 0)), some (.int s.2)] [] s.1) (K := (fun q : fm_M × Int32 => (∀ (s : fm_M) (u1 : Int32), q = (s, u1) → fm_V w layM 11 l rm_X9_holds cX9_holds 2 RX9 none o 26 [some (.ref (fm_ad w 0)), some (.int u1)] [] s))) (fun s z hb kl kx => t_X9_holds_2 hI s.1 s.2 z hb (fun s u1 e => kl _ e) (fun s u1 e => (kx _ e) s u1 rfl)) n (s, v1) q h ke
def f_X9_holds (s : fm_M) : Option (Int32 × fm_M) :=
  fm_op (fm_it (fun (yy : fm_M × Int32) => f_X9_holds_2 yy.1 yy.2) fm_fu (s, (0 : Int32))) (fun q1 => ((fun (s1 : fm_M) (x1_1 : Int32) => some (0, s1))) q1.1 q1.2)
set_option maxHeartbeats 4000000 in
theorem e_X9_holds {w : fm_W} {l : Launch} {o : fm_O} (hI : fm_I w 11) (s : fm_M) (z : Int32 × fm_M) (h : f_X9_holds s = some z) (ho : ∀ (r : Int32) (s : fm_M), z = (r, s) → o = (none, s)) : fm_V w layM 11 l rm_X9_holds cX9_holds 2 RX9 none o 0 [some (.ref (fm_ad w 0)), none] [] s := by
  unfold f_X9_holds at h
  refine v_iconst (0 : Int32) dX9_holds_0 (by decide) ?_
  refine v_istore_n (lv' := [some (.ref (fm_ad w 0)), some (.int (0 : Int32))]) 1 dX9_holds_1 rfl (by decide) rfl rfl ?_
  obtain ⟨q1, h1, h⟩ := fm_ops h
  refine v_lw [some (.ref (fm_ad w 0)), some (.int (0 : Int32))] rfl ⟨rfl, rfl, trivial⟩ ?_
  refine i_X9_holds_2 hI _ _ _ _ h1 (fun s1 x1_1 e => ?_)
  subst e
  dsimp only at h
  exact v_vret rfl (ho _ _ (Option.some.inj h).symm) dX9_holds_26
theorem c_X9_holds {w : fm_W} {l : Launch} (hI : fm_I w 11) {s : fm_M} {r : Int32} {s2 : fm_M} (h : f_X9_holds s = some (r, s2)) : fm_C w layM 11 l yX9_holds cX9_holds 2 none rm_X9_holds [.ref (fm_ad w 0)] s (none, s2) :=
  fm_of hI (by decide) rfl (Nat.le_of_ble_eq_true rfl) (e_X9_holds hI s _ h (fun r s e => by cases e; rfl))
-- X9_in
abbrev rm_X9_in : Room := { frames := 0, cells := 0, slots := 0, locals := 0 }
def f_X9_in_15 (sk0 : Int32) (s : fm_M) : Option (Int32 × fm_M) :=
  if fm_b sk0 = true then some (sk0, s) else none
set_option maxHeartbeats 4000000 in
theorem t_X9_in_15 {w : fm_W} {l : Launch} {o : fm_O} (hI : fm_I w 11) (sk0 : Int32) (s : fm_M) (z : Int32 × fm_M) (h : f_X9_in_15 sk0 s = some z) (ho : ∀ (r : Int32) (s : fm_M), z = (r, s) → o = (some (.int r), s)) : fm_V w layM 11 l rm_X9_in cX9_in 3 RX9 (some .boolean) o 15 [none, none, none] [.int sk0] s := by
  unfold f_X9_in_15 at h
  obtain ⟨hb, h⟩ := fm_ift h
  exact v_zret rfl (fm_b_nar hb).1 (ho _ _ (Option.some.inj h).symm) dX9_in_15
def f_X9_in_14 (s : fm_M) : Option (Int32 × fm_M) :=
  f_X9_in_15 (0 : Int32) s
set_option maxHeartbeats 4000000 in
theorem t_X9_in_14 {w : fm_W} {l : Launch} {o : fm_O} (hI : fm_I w 11) (s : fm_M) (z : Int32 × fm_M) (h : f_X9_in_14 s = some z) (ho : ∀ (r : Int32) (s : fm_M), z = (r, s) → o = (some (.int r), s)) : fm_V w layM 11 l rm_X9_in cX9_in 3 RX9 (some .boolean) o 14 [none, none, none] [] s := by
  unfold f_X9_in_14 at h
  refine v_iconst (0 : Int32) dX9_in_14 (by decide) ?_
  refine v_lw [none, none, none] rfl trivial ?_
  exact t_X9_in_15 hI (0 : Int32) s _ h ho
def f_X9_in (v0 : Int32) (v1 : Int32) (v2 : Int32) (s : fm_M) : Option (Int32 × fm_M) :=
  if v0 < v1 then f_X9_in_14 s else if v2 < v0 then f_X9_in_14 s else f_X9_in_15 (1 : Int32) s
set_option maxHeartbeats 4000000 in
theorem e_X9_in {w : fm_W} {l : Launch} {o : fm_O} (hI : fm_I w 11) (v0 : Int32) (v1 : Int32) (v2 : Int32) (s : fm_M) (z : Int32 × fm_M) (h : f_X9_in v0 v1 v2 s = some z) (ho : ∀ (r : Int32) (s : fm_M), z = (r, s) → o = (some (.int r), s)) : fm_V w layM 11 l rm_X9_in cX9_in 3 RX9 (some .boolean) o 0 [some (.int v0), some (.int v1), some (.int v2)] [] s := by
  unfold f_X9_in at h
  refine v_iload_n 0 dX9_in_0 rfl rfl ?_
  refine v_iload_n 1 dX9_in_1 rfl rfl ?_
  refine v_icmp_lt 14 dX9_in_2 (by decide) h (fun h => ?_) (fun h => ?_)
  · refine v_lw [none, none, none] rfl trivial ?_
    exact t_X9_in_14 hI s _ h ho
  · refine v_iload_n 0 dX9_in_5 rfl rfl ?_
    refine v_iload_n 2 dX9_in_6 rfl rfl ?_
    refine v_icmp_gt 14 dX9_in_7 (by decide) h (fun h => ?_) (fun h => ?_)
    · refine v_lw [none, none, none] rfl trivial ?_
      exact t_X9_in_14 hI s _ h ho
    · refine v_iconst (1 : Int32) dX9_in_10 (by decide) ?_
      refine v_goto 15 dX9_in_11 (by decide) ?_
      refine v_lw [none, none, none] rfl trivial ?_
      exact t_X9_in_15 hI (1 : Int32) s _ h ho
theorem c_X9_in {w : fm_W} {l : Launch} (hI : fm_I w 11) {v0 : Int32} {v1 : Int32} {v2 : Int32} {s : fm_M} {r : Int32} {s2 : fm_M} (h : f_X9_in v0 v1 v2 s = some (r, s2)) : fm_C w layM 11 l yX9_in cX9_in 3 (some .boolean) rm_X9_in [.int v0, .int v1, .int v2] s (some (.int r), s2) :=
  fm_of hI (by decide) rfl (Nat.le_of_ble_eq_true rfl) (e_X9_in hI v0 v1 v2 s _ h (fun r s e => by cases e; rfl))
-- X9_asTold
abbrev rm_X9_asTold : Room := { frames := 6, cells := 0, slots := 0, locals := 133 }
def f_X9_asTold_40 (sk0 : Int32) (s : fm_M) : Option (Int32 × fm_M) :=
  some (sk0, s)
set_option maxHeartbeats 4000000 in
theorem t_X9_asTold_40 {w : fm_W} {l : Launch} {o : fm_O} (hI : fm_I w 11) (sk0 : Int32) (s : fm_M) (z : Int32 × fm_M) (h : f_X9_asTold_40 sk0 s = some z) (ho : ∀ (r : Int32) (s : fm_M), z = (r, s) → o = (some (.int r), s)) : fm_V w layM 11 l rm_X9_asTold cX9_asTold 3 RX9 (some .int) o 40 [none, none, none] [.int sk0] s := by
  unfold f_X9_asTold_40 at h
  exact v_iret rfl (ho _ _ (Option.some.inj h).symm) dX9_asTold_40
def f_X9_asTold_32 (v2 : Int32) (s : fm_M) : Option (Int32 × fm_M) :=
  f_X9_asTold_40 v2 s
set_option maxHeartbeats 4000000 in
theorem t_X9_asTold_32 {w : fm_W} {l : Launch} {o : fm_O} (hI : fm_I w 11) (v2 : Int32) (s : fm_M) (z : Int32 × fm_M) (h : f_X9_asTold_32 v2 s = some z) (ho : ∀ (r : Int32) (s : fm_M), z = (r, s) → o = (some (.int r), s)) : fm_V w layM 11 l rm_X9_asTold cX9_asTold 3 RX9 (some .int) o 32 [none, none, some (.int v2)] [] s := by
  unfold f_X9_asTold_32 at h
  refine v_iload_n 2 dX9_asTold_32 rfl rfl ?_
  refine v_goto 40 dX9_asTold_33 (by decide) ?_
  refine v_lw [none, none, none] rfl trivial ?_
  exact t_X9_asTold_40 hI v2 s _ h ho
def f_X9_asTold (v1 : Int32) (s : fm_M) : Option (Int32 × fm_M) :=
  fm_bd (f_X9_in v1 (0 : Int32) (1 : Int32) s) (fun r1 s1 => if r1 = 0 then some ((-1 : Int32), s1) else fm_bd (f_X9_holds s1) (fun r2 s2 => fm_bd (f_X9_goesBut (-4 : Int32) s2) (fun r3 s3 => if v1 = 0 then f_X9_asTold_32 r3 s3 else if r3 = (-4 : Int32) then f_X9_asTold_32 r3 s3 else f_X9_asTold_40 (s3 0 14) s3)))
set_option maxHeartbeats 4000000 in
theorem e_X9_asTold {w : fm_W} {l : Launch} {o : fm_O} (hI : fm_I w 11) (v1 : Int32) (s : fm_M) (z : Int32 × fm_M) (h : f_X9_asTold v1 s = some z) (ho : ∀ (r : Int32) (s : fm_M), z = (r, s) → o = (some (.int r), s)) : fm_V w layM 11 l rm_X9_asTold cX9_asTold 3 RX9 (some .int) o 0 [some (.ref (fm_ad w 0)), some (.int v1), none] [] s := by
  unfold f_X9_asTold at h
  refine v_iload_n 1 dX9_asTold_0 rfl rfl ?_
  refine v_iconst (0 : Int32) dX9_asTold_1 (by decide) ?_
  refine v_iconst (1 : Int32) dX9_asTold_2 (by decide) ?_
  obtain ⟨r1, s1, h1, h⟩ := fm_bds h
  refine v_cSi [.int v1, .int (0 : Int32), .int (1 : Int32)] [] l_X9_50 (c_X9_in hI h1) rfl rfl ⟨rfl, rfl, by decide, by decide⟩ (Nat.le_of_ble_eq_true rfl) dX9_asTold_3 ?_
  refine v_if_ne 11 dX9_asTold_6 (by decide) h (fun h => ?_) (fun h => ?_)
  · refine v_aload_n 0 dX9_asTold_11 rfl rfl ?_
    obtain ⟨r2, s2, h2, h⟩ := fm_bds h
    refine v_cVv [] [] l_X9_158 (c_X9_holds hI h2) yM_0 (by decide) rfl rfl ⟨rfl, rfl, by decide, by decide⟩ (Nat.le_of_ble_eq_true rfl) dX9_asTold_12 ?_
    refine v_aload_n 0 dX9_asTold_15 rfl rfl ?_
    refine v_bipush (-4 : Int32) dX9_asTold_16 (by decide) ?_
    obtain ⟨r3, s3, h3, h⟩ := fm_bds h
    refine v_cVi [.int (-4 : Int32)] [] l_X9_161 (c_X9_goesBut hI h3) yM_0 (by decide) rfl rfl ⟨rfl, rfl, by decide, by decide⟩ (Nat.le_of_ble_eq_true rfl) dX9_asTold_18 ?_
    refine v_istore_n (lv' := [some (.ref (fm_ad w 0)), some (.int v1), some (.int r3)]) 2 dX9_asTold_21 rfl (by decide) rfl rfl ?_
    refine v_iload_n 1 dX9_asTold_22 rfl rfl ?_
    refine v_if_eq 32 dX9_asTold_23 (by decide) h (fun h => ?_) (fun h => ?_)
    · refine v_lw [none, none, some (.int r3)] rfl ⟨rfl, trivial⟩ ?_
      exact t_X9_asTold_32 hI r3 s3 _ h ho
    · refine v_iload_n 2 dX9_asTold_26 rfl rfl ?_
      refine v_bipush (-4 : Int32) dX9_asTold_27 (by decide) ?_
      refine v_icmp_ne 36 dX9_asTold_29 (by decide) h (fun h => ?_) (fun h => ?_)
      · refine v_aload_n 0 dX9_asTold_36 rfl rfl ?_
        refine v_geti g_X9_143 yM_0 (by decide) rfl dX9_asTold_37 ?_
        refine v_lw [none, none, none] rfl trivial ?_
        exact t_X9_asTold_40 hI (s3 0 14) s3 _ h ho
      · refine v_lw [none, none, some (.int r3)] rfl ⟨rfl, trivial⟩ ?_
        exact t_X9_asTold_32 hI r3 s3 _ h ho
  · refine v_iconst (-1 : Int32) dX9_asTold_9 (by decide) ?_
    exact v_iret rfl (ho _ _ (Option.some.inj h).symm) dX9_asTold_10
theorem c_X9_asTold {w : fm_W} {l : Launch} (hI : fm_I w 11) {v1 : Int32} {s : fm_M} {r : Int32} {s2 : fm_M} (h : f_X9_asTold v1 s = some (r, s2)) : fm_C w layM 11 l yX9_asTold cX9_asTold 3 (some .int) rm_X9_asTold [.ref (fm_ad w 0), .int v1] s (some (.int r), s2) :=
  fm_of hI (by decide) rfl (Nat.le_of_ble_eq_true rfl) (e_X9_asTold hI v1 s _ h (fun r s e => by cases e; rfl))
-- X9_back
abbrev rm_X9_back : Room := { frames := 0, cells := 0, slots := 0, locals := 0 }
def f_X9_back_22 (s : fm_M) (v1 : Int32) : Option ((fm_M × Int32) ⊕ (fm_M × Int32)) :=
  if (29 : Int32) ≤ v1 then some (.inr (s, v1)) else if fm_in (((29 : Int32) * (s 0 8)) + v1) 58 = true then if fm_in v1 29 = true then some (.inl ((fm_up s 4 v1.toNatClampNeg (s 6 (((29 : Int32) * (s 0 8)) + v1).toNatClampNeg)), (v1 + (1 : Int32)))) else none else none
set_option maxHeartbeats 4000000 in
theorem t_X9_back_22 {w : fm_W} {l : Launch} {o : fm_O} (hI : fm_I w 11) (s : fm_M) (v1 : Int32) (z : (fm_M × Int32) ⊕ (fm_M × Int32)) (h : f_X9_back_22 s v1 = some z) (kb : ∀ (s : fm_M) (u1 : Int32), z = .inl (s, u1) → fm_V w layM 11 l rm_X9_back cX9_back 2 RX9 (some .int) o 22 [some (.ref (fm_ad w 0)), some (.int u1)] [] s) (ke : ∀ (s : fm_M) (u1 : Int32), z = .inr (s, u1) → fm_V w layM 11 l rm_X9_back cX9_back 2 RX9 (some .int) o 54 [some (.ref (fm_ad w 0)), some (.int u1)] [] s) : fm_V w layM 11 l rm_X9_back cX9_back 2 RX9 (some .int) o 22 [some (.ref (fm_ad w 0)), some (.int v1)] [] s := by
  unfold f_X9_back_22 at h
  refine v_iload_n 1 dX9_back_22 rfl rfl ?_
  refine v_bipush (29 : Int32) dX9_back_23 (by decide) ?_
  refine v_icmp_ge 54 dX9_back_25 (by decide) h (fun h => ?_) (fun h => ?_)
  · refine v_lw [some (.ref (fm_ad w 0)), some (.int v1)] rfl ⟨rfl, rfl, trivial⟩ ?_
    exact ke _ _ (Option.some.inj h).symm
  · refine v_aload_n 0 dX9_back_28 rfl rfl ?_
    refine v_getr 4 g_X9_19 yM_0 (by decide) rfl dX9_back_29 ?_
    refine v_iload_n 1 dX9_back_32 rfl rfl ?_
    refine v_aload_n 0 dX9_back_33 rfl rfl ?_
    refine v_getr 6 g_X9_25 yM_0 (by decide) rfl dX9_back_34 ?_
    refine v_bipush (29 : Int32) dX9_back_37 (by decide) ?_
    refine v_aload_n 0 dX9_back_39 rfl rfl ?_
    refine v_geti g_X9_90 yM_0 (by decide) rfl dX9_back_40 ?_
    refine v_imul dX9_back_43 ?_
    refine v_iload_n 1 dX9_back_44 rfl rfl ?_
    refine v_iadd dX9_back_45 ?_
    obtain ⟨hi, h⟩ := fm_ift h
    refine v_iald (Or.inl ⟨(by decide), yM_6⟩) hi dX9_back_46 ?_
    obtain ⟨hi, h⟩ := fm_ift h
    refine v_iast (by decide) yM_4 hi dX9_back_47 ?_
    refine v_iinc (lv' := [some (.ref (fm_ad w 0)), some (.int (v1 + (1 : Int32)))]) (1 : Int32) dX9_back_48 rfl (by decide) (by decide) rfl rfl ?_
    refine v_goto 22 dX9_back_51 (by decide) ?_
    refine v_lw [some (.ref (fm_ad w 0)), some (.int (v1 + (1 : Int32)))] rfl ⟨rfl, rfl, trivial⟩ ?_
    exact kb _ _ (Option.some.inj h).symm
set_option maxHeartbeats 4000000 in
theorem i_X9_back_22 {w : fm_W} {l : Launch} {o : fm_O} (hI : fm_I w 11) (n : Nat) (s : fm_M) (v1 : Int32) (q : fm_M × Int32) (h : fm_it (fun s => f_X9_back_22 s.1 s.2) n (s, v1) = some q) (ke : ∀ (s : fm_M) (u1 : Int32), q = (s, u1) → fm_V w layM 11 l rm_X9_back cX9_back 2 RX9 (some .int) o 54 [some (.ref (fm_ad w 0)), some (.int u1)] [] s) : fm_V w layM 11 l rm_X9_back cX9_back 2 RX9 (some .int) o 22 [some (.ref (fm_ad w 0)), some (.int v1)] [] s :=
  fm_it_loop (body := (fun s => f_X9_back_22 s.1 s.2)) (P := fun s => fm_V w layM 11 l rm_X9_back cX9_back 2 RX9 (some .int) o 22 [some (.ref (fm_ad w 0)), some (.int s.2)] [] s.1) (K := (fun q : fm_M × Int32 => (∀ (s : fm_M) (u1 : Int32), q = (s, u1) → fm_V w layM 11 l rm_X9_back cX9_back 2 RX9 (some .int) o 54 [some (.ref (fm_ad w 0)), some (.int u1)] [] s))) (fun s z hb kl kx => t_X9_back_22 hI s.1 s.2 z hb (fun s u1 e => kl _ e) (fun s u1 e => (kx _ e) s u1 rfl)) n (s, v1) q h ke
def f_X9_back (s : fm_M) : Option (Int32 × fm_M) :=
  if (s 0 8) = 0 then some ((-2 : Int32), s) else fm_op (fm_it (fun (yy : fm_M × Int32) => f_X9_back_22 yy.1 yy.2) fm_fu ((fm_up s 0 8 ((s 0 8) - (1 : Int32))), (0 : Int32))) (fun q1 => ((fun (s1 : fm_M) (x1_1 : Int32) => some (((fm_up s1 0 6 (0 : Int32)) 0 8), (fm_up s1 0 6 (0 : Int32))))) q1.1 q1.2)
set_option maxHeartbeats 4000000 in
theorem e_X9_back {w : fm_W} {l : Launch} {o : fm_O} (hI : fm_I w 11) (s : fm_M) (z : Int32 × fm_M) (h : f_X9_back s = some z) (ho : ∀ (r : Int32) (s : fm_M), z = (r, s) → o = (some (.int r), s)) : fm_V w layM 11 l rm_X9_back cX9_back 2 RX9 (some .int) o 0 [some (.ref (fm_ad w 0)), none] [] s := by
  unfold f_X9_back at h
  refine v_aload_n 0 dX9_back_0 rfl rfl ?_
  refine v_geti g_X9_90 yM_0 (by decide) rfl dX9_back_1 ?_
  refine v_if_ne 10 dX9_back_4 (by decide) h (fun h => ?_) (fun h => ?_)
  · refine v_aload_n 0 dX9_back_10 rfl rfl ?_
    refine v_dup dX9_back_11 rfl ?_
    refine v_geti g_X9_90 yM_0 (by decide) rfl dX9_back_12 ?_
    refine v_iconst (1 : Int32) dX9_back_15 (by decide) ?_
    refine v_isub dX9_back_16 ?_
    refine v_put p_X9_90 yM_0 (by decide) rfl ⟨rfl, rfl⟩ dX9_back_17 ?_
    refine v_iconst (0 : Int32) dX9_back_20 (by decide) ?_
    refine v_istore_n (lv' := [some (.ref (fm_ad w 0)), some (.int (0 : Int32))]) 1 dX9_back_21 rfl (by decide) rfl rfl ?_
    obtain ⟨q1, h1, h⟩ := fm_ops h
    refine v_lw [some (.ref (fm_ad w 0)), some (.int (0 : Int32))] rfl ⟨rfl, rfl, trivial⟩ ?_
    refine i_X9_back_22 hI _ _ _ _ h1 (fun s1 x1_1 e => ?_)
    subst e
    dsimp only at h
    refine v_aload_n 0 dX9_back_54 rfl rfl ?_
    refine v_iconst (0 : Int32) dX9_back_55 (by decide) ?_
    refine v_put p_X9_87 yM_0 (by decide) rfl ⟨rfl, rfl⟩ dX9_back_56 ?_
    refine v_aload_n 0 dX9_back_59 rfl rfl ?_
    refine v_geti g_X9_90 yM_0 (by decide) rfl dX9_back_60 ?_
    exact v_iret rfl (ho _ _ (Option.some.inj h).symm) dX9_back_63
  · refine v_bipush (-2 : Int32) dX9_back_7 (by decide) ?_
    exact v_iret rfl (ho _ _ (Option.some.inj h).symm) dX9_back_9
theorem c_X9_back {w : fm_W} {l : Launch} (hI : fm_I w 11) {s : fm_M} {r : Int32} {s2 : fm_M} (h : f_X9_back s = some (r, s2)) : fm_C w layM 11 l yX9_back cX9_back 2 (some .int) rm_X9_back [.ref (fm_ad w 0)] s (some (.int r), s2) :=
  fm_of hI (by decide) rfl (Nat.le_of_ble_eq_true rfl) (e_X9_back hI s _ h (fun r s e => by cases e; rfl))
-- X9_begins
abbrev rm_X9_begins : Room := { frames := 0, cells := 0, slots := 0, locals := 0 }
def f_X9_begins_2 (s : fm_M) (v1 : Int32) : Option ((fm_M × Int32) ⊕ (fm_M × Int32)) :=
  if (17 : Int32) ≤ v1 then some (.inr (s, v1)) else if fm_in v1 17 = true then some (.inl ((fm_up s 3 v1.toNatClampNeg (0 : Int32)), (v1 + (1 : Int32)))) else none
set_option maxHeartbeats 4000000 in
theorem t_X9_begins_2 {w : fm_W} {l : Launch} {o : fm_O} (hI : fm_I w 11) (s : fm_M) (v1 : Int32) (z : (fm_M × Int32) ⊕ (fm_M × Int32)) (h : f_X9_begins_2 s v1 = some z) (kb : ∀ (s : fm_M) (u1 : Int32), z = .inl (s, u1) → fm_V w layM 11 l rm_X9_begins cX9_begins 2 RX9 none o 2 [some (.ref (fm_ad w 0)), some (.int u1)] [] s) (ke : ∀ (s : fm_M) (u1 : Int32), z = .inr (s, u1) → fm_V w layM 11 l rm_X9_begins cX9_begins 2 RX9 none o 21 [some (.ref (fm_ad w 0)), some (.int u1)] [] s) : fm_V w layM 11 l rm_X9_begins cX9_begins 2 RX9 none o 2 [some (.ref (fm_ad w 0)), some (.int v1)] [] s := by
  unfold f_X9_begins_2 at h
  refine v_iload_n 1 dX9_begins_2 rfl rfl ?_
  refine v_bipush (17 : Int32) dX9_begins_3 (by decide) ?_
  refine v_icmp_ge 21 dX9_begins_5 (by decide) h (fun h => ?_) (fun h => ?_)
  · refine v_lw [some (.ref (fm_ad w 0)), some (.int v1)] rfl ⟨rfl, rfl, trivial⟩ ?_
    exact ke _ _ (Option.some.inj h).symm
  · refine v_aload_n 0 dX9_begins_8 rfl rfl ?_
    refine v_getr 3 g_X9_16 yM_0 (by decide) rfl dX9_begins_9 ?_
    refine v_iload_n 1 dX9_begins_12 rfl rfl ?_
    refine v_iconst (0 : Int32) dX9_begins_13 (by decide) ?_
    obtain ⟨hi, h⟩ := fm_ift h
    refine v_iast (by decide) yM_3 hi dX9_begins_14 ?_
    refine v_iinc (lv' := [some (.ref (fm_ad w 0)), some (.int (v1 + (1 : Int32)))]) (1 : Int32) dX9_begins_15 rfl (by decide) (by decide) rfl rfl ?_
    refine v_goto 2 dX9_begins_18 (by decide) ?_
    refine v_lw [some (.ref (fm_ad w 0)), some (.int (v1 + (1 : Int32)))] rfl ⟨rfl, rfl, trivial⟩ ?_
    exact kb _ _ (Option.some.inj h).symm
set_option maxHeartbeats 4000000 in
theorem i_X9_begins_2 {w : fm_W} {l : Launch} {o : fm_O} (hI : fm_I w 11) (n : Nat) (s : fm_M) (v1 : Int32) (q : fm_M × Int32) (h : fm_it (fun s => f_X9_begins_2 s.1 s.2) n (s, v1) = some q) (ke : ∀ (s : fm_M) (u1 : Int32), q = (s, u1) → fm_V w layM 11 l rm_X9_begins cX9_begins 2 RX9 none o 21 [some (.ref (fm_ad w 0)), some (.int u1)] [] s) : fm_V w layM 11 l rm_X9_begins cX9_begins 2 RX9 none o 2 [some (.ref (fm_ad w 0)), some (.int v1)] [] s :=
  fm_it_loop (body := (fun s => f_X9_begins_2 s.1 s.2)) (P := fun s => fm_V w layM 11 l rm_X9_begins cX9_begins 2 RX9 none o 2 [some (.ref (fm_ad w 0)), some (.int s.2)] [] s.1) (K := (fun q : fm_M × Int32 => (∀ (s : fm_M) (u1 : Int32), q = (s, u1) → fm_V w layM 11 l rm_X9_begins cX9_begins 2 RX9 none o 21 [some (.ref (fm_ad w 0)), some (.int u1)] [] s))) (fun s z hb kl kx => t_X9_begins_2 hI s.1 s.2 z hb (fun s u1 e => kl _ e) (fun s u1 e => (kx _ e) s u1 rfl)) n (s, v1) q h ke
def f_X9_begins (s : fm_M) : Option (Int32 × fm_M) :=
  fm_op (fm_it (fun (yy : fm_M × Int32) => f_X9_begins_2 yy.1 yy.2) fm_fu (s, (0 : Int32))) (fun q1 => ((fun (s1 : fm_M) (x1_1 : Int32) => if fm_in (1 : Int32) 17 = true then if fm_in (2 : Int32) 17 = true then if fm_in (3 : Int32) 17 = true then if fm_in (4 : Int32) 17 = true then some (0, (fm_up (fm_up (fm_up (fm_up s1 3 (1 : Int32).toNatClampNeg (2 : Int32)) 3 (2 : Int32).toNatClampNeg (9 : Int32)) 3 (3 : Int32).toNatClampNeg (3 : Int32)) 3 (4 : Int32).toNatClampNeg (60 : Int32))) else none else none else none else none)) q1.1 q1.2)
set_option maxHeartbeats 4000000 in
theorem e_X9_begins {w : fm_W} {l : Launch} {o : fm_O} (hI : fm_I w 11) (s : fm_M) (z : Int32 × fm_M) (h : f_X9_begins s = some z) (ho : ∀ (r : Int32) (s : fm_M), z = (r, s) → o = (none, s)) : fm_V w layM 11 l rm_X9_begins cX9_begins 2 RX9 none o 0 [some (.ref (fm_ad w 0)), none] [] s := by
  unfold f_X9_begins at h
  refine v_iconst (0 : Int32) dX9_begins_0 (by decide) ?_
  refine v_istore_n (lv' := [some (.ref (fm_ad w 0)), some (.int (0 : Int32))]) 1 dX9_begins_1 rfl (by decide) rfl rfl ?_
  obtain ⟨q1, h1, h⟩ := fm_ops h
  refine v_lw [some (.ref (fm_ad w 0)), some (.int (0 : Int32))] rfl ⟨rfl, rfl, trivial⟩ ?_
  refine i_X9_begins_2 hI _ _ _ _ h1 (fun s1 x1_1 e => ?_)
  subst e
  dsimp only at h
  refine v_aload_n 0 dX9_begins_21 rfl rfl ?_
  refine v_getr 3 g_X9_16 yM_0 (by decide) rfl dX9_begins_22 ?_
  refine v_iconst (1 : Int32) dX9_begins_25 (by decide) ?_
  refine v_iconst (2 : Int32) dX9_begins_26 (by decide) ?_
  obtain ⟨hi, h⟩ := fm_ift h
  refine v_iast (by decide) yM_3 hi dX9_begins_27 ?_
  refine v_aload_n 0 dX9_begins_28 rfl rfl ?_
  refine v_getr 3 g_X9_16 yM_0 (by decide) rfl dX9_begins_29 ?_
  refine v_iconst (2 : Int32) dX9_begins_32 (by decide) ?_
  refine v_bipush (9 : Int32) dX9_begins_33 (by decide) ?_
  obtain ⟨hi, h⟩ := fm_ift h
  refine v_iast (by decide) yM_3 hi dX9_begins_35 ?_
  refine v_aload_n 0 dX9_begins_36 rfl rfl ?_
  refine v_getr 3 g_X9_16 yM_0 (by decide) rfl dX9_begins_37 ?_
  refine v_iconst (3 : Int32) dX9_begins_40 (by decide) ?_
  refine v_iconst (3 : Int32) dX9_begins_41 (by decide) ?_
  obtain ⟨hi, h⟩ := fm_ift h
  refine v_iast (by decide) yM_3 hi dX9_begins_42 ?_
  refine v_aload_n 0 dX9_begins_43 rfl rfl ?_
  refine v_getr 3 g_X9_16 yM_0 (by decide) rfl dX9_begins_44 ?_
  refine v_iconst (4 : Int32) dX9_begins_47 (by decide) ?_
  refine v_bipush (60 : Int32) dX9_begins_48 (by decide) ?_
  obtain ⟨hi, h⟩ := fm_ift h
  refine v_iast (by decide) yM_3 hi dX9_begins_50 ?_
  exact v_vret rfl (ho _ _ (Option.some.inj h).symm) dX9_begins_51
theorem c_X9_begins {w : fm_W} {l : Launch} (hI : fm_I w 11) {s : fm_M} {r : Int32} {s2 : fm_M} (h : f_X9_begins s = some (r, s2)) : fm_C w layM 11 l yX9_begins cX9_begins 2 none rm_X9_begins [.ref (fm_ad w 0)] s (none, s2) :=
  fm_of hI (by decide) rfl (Nat.le_of_ble_eq_true rfl) (e_X9_begins hI s _ h (fun r s e => by cases e; rfl))
-- X9_isRow
abbrev rm_X9_isRow : Room := { frames := 0, cells := 0, slots := 0, locals := 0 }
def f_X9_isRow_14 (s : fm_M) (v2 : Int32) (v3 : Int32) (v4 : Int32) : Option ((fm_M × Int32 × Int32 × Int32) ⊕ (fm_M × Int32 × Int32 × Int32)) :=
  if v4 < 0 then some (.inr (s, v2, v3, v4)) else if fm_in (0 : Int32) 17 = true then if (s 2 (0 : Int32).toNatClampNeg) = 0 then none else if fm_in v4 6 = true then if fm_in (0 : Int32) 17 = true then if ((fm_up s 9 v4.toNatClampNeg (v3 - v3 / (s 2 (0 : Int32).toNatClampNeg) * (s 2 (0 : Int32).toNatClampNeg))) 2 (0 : Int32).toNatClampNeg) = 0 then none else if fm_in v4 6 = true then some (.inl ((fm_up s 9 v4.toNatClampNeg (v3 - v3 / (s 2 (0 : Int32).toNatClampNeg) * (s 2 (0 : Int32).toNatClampNeg))), (v2 ||| ((1 : Int32) <<< (((fm_up s 9 v4.toNatClampNeg (v3 - v3 / (s 2 (0 : Int32).toNatClampNeg) * (s 2 (0 : Int32).toNatClampNeg))) 9 v4.toNatClampNeg) &&& 31))), (v3 / ((fm_up s 9 v4.toNatClampNeg (v3 - v3 / (s 2 (0 : Int32).toNatClampNeg) * (s 2 (0 : Int32).toNatClampNeg))) 2 (0 : Int32).toNatClampNeg)), (v4 + (-1 : Int32)))) else none else none else none else none
set_option maxHeartbeats 4000000 in
theorem t_X9_isRow_14 {w : fm_W} {l : Launch} {o : fm_O} (hI : fm_I w 11) (s : fm_M) (v2 : Int32) (v3 : Int32) (v4 : Int32) (z : (fm_M × Int32 × Int32 × Int32) ⊕ (fm_M × Int32 × Int32 × Int32)) (h : f_X9_isRow_14 s v2 v3 v4 = some z) (kb : ∀ (s : fm_M) (u2 : Int32) (u3 : Int32) (u4 : Int32), z = .inl (s, u2, u3, u4) → fm_V w layM 11 l rm_X9_isRow cX9_isRow 5 RX9 (some .boolean) o 14 [some (.ref (fm_ad w 0)), none, some (.int u2), some (.int u3), some (.int u4)] [] s) (ke : ∀ (s : fm_M) (u2 : Int32) (u3 : Int32) (u4 : Int32), z = .inr (s, u2, u3, u4) → fm_V w layM 11 l rm_X9_isRow cX9_isRow 5 RX9 (some .boolean) o 61 [some (.ref (fm_ad w 0)), none, some (.int u2), some (.int u3), some (.int u4)] [] s) : fm_V w layM 11 l rm_X9_isRow cX9_isRow 5 RX9 (some .boolean) o 14 [some (.ref (fm_ad w 0)), none, some (.int v2), some (.int v3), some (.int v4)] [] s := by
  unfold f_X9_isRow_14 at h
  refine v_iload dX9_isRow_14 rfl ?_
  refine v_if_lt 61 dX9_isRow_16 (by decide) h (fun h => ?_) (fun h => ?_)
  · refine v_lw [some (.ref (fm_ad w 0)), none, some (.int v2), some (.int v3), some (.int v4)] rfl ⟨rfl, rfl, rfl, rfl, trivial⟩ ?_
    exact ke _ _ _ _ (Option.some.inj h).symm
  · refine v_aload_n 0 dX9_isRow_19 rfl rfl ?_
    refine v_getr 9 g_X9_34 yM_0 (by decide) rfl dX9_isRow_20 ?_
    refine v_iload dX9_isRow_23 rfl ?_
    refine v_iload_n 3 dX9_isRow_25 rfl rfl ?_
    refine v_aload_n 0 dX9_isRow_26 rfl rfl ?_
    refine v_getr 2 g_X9_13 yM_0 (by decide) rfl dX9_isRow_27 ?_
    refine v_iconst (0 : Int32) dX9_isRow_30 (by decide) ?_
    obtain ⟨hi, h⟩ := fm_ift h
    refine v_iald (Or.inl ⟨(by decide), yM_2⟩) hi dX9_isRow_31 ?_
    obtain ⟨hz, h⟩ := fm_ifz h
    refine v_irem dX9_isRow_32 hz ?_
    obtain ⟨hi, h⟩ := fm_ift h
    refine v_iast (by decide) yM_9 hi dX9_isRow_33 ?_
    refine v_iload_n 3 dX9_isRow_34 rfl rfl ?_
    refine v_aload_n 0 dX9_isRow_35 rfl rfl ?_
    refine v_getr 2 g_X9_13 yM_0 (by decide) rfl dX9_isRow_36 ?_
    refine v_iconst (0 : Int32) dX9_isRow_39 (by decide) ?_
    obtain ⟨hi, h⟩ := fm_ift h
    refine v_iald (Or.inl ⟨(by decide), yM_2⟩) hi dX9_isRow_40 ?_
    obtain ⟨hz, h⟩ := fm_ifz h
    refine v_idiv dX9_isRow_41 hz ?_
    refine v_istore_n (lv' := [some (.ref (fm_ad w 0)), none, some (.int v2), some (.int (v3 / ((fm_up s 9 v4.toNatClampNeg (v3 - v3 / (s 2 (0 : Int32).toNatClampNeg) * (s 2 (0 : Int32).toNatClampNeg))) 2 (0 : Int32).toNatClampNeg))), some (.int v4)]) 3 dX9_isRow_42 rfl (by decide) rfl rfl ?_
    refine v_iload_n 2 dX9_isRow_43 rfl rfl ?_
    refine v_iconst (1 : Int32) dX9_isRow_44 (by decide) ?_
    refine v_aload_n 0 dX9_isRow_45 rfl rfl ?_
    refine v_getr 9 g_X9_34 yM_0 (by decide) rfl dX9_isRow_46 ?_
    refine v_iload dX9_isRow_49 rfl ?_
    obtain ⟨hi, h⟩ := fm_ift h
    refine v_iald (Or.inl ⟨(by decide), yM_9⟩) hi dX9_isRow_51 ?_
    refine v_ishl dX9_isRow_52 ?_
    refine v_ior dX9_isRow_53 ?_
    refine v_istore_n (lv' := [some (.ref (fm_ad w 0)), none, some (.int (v2 ||| ((1 : Int32) <<< (((fm_up s 9 v4.toNatClampNeg (v3 - v3 / (s 2 (0 : Int32).toNatClampNeg) * (s 2 (0 : Int32).toNatClampNeg))) 9 v4.toNatClampNeg) &&& 31)))), some (.int (v3 / ((fm_up s 9 v4.toNatClampNeg (v3 - v3 / (s 2 (0 : Int32).toNatClampNeg) * (s 2 (0 : Int32).toNatClampNeg))) 2 (0 : Int32).toNatClampNeg))), some (.int v4)]) 2 dX9_isRow_54 rfl (by decide) rfl rfl ?_
    refine v_iinc (lv' := [some (.ref (fm_ad w 0)), none, some (.int (v2 ||| ((1 : Int32) <<< (((fm_up s 9 v4.toNatClampNeg (v3 - v3 / (s 2 (0 : Int32).toNatClampNeg) * (s 2 (0 : Int32).toNatClampNeg))) 9 v4.toNatClampNeg) &&& 31)))), some (.int (v3 / ((fm_up s 9 v4.toNatClampNeg (v3 - v3 / (s 2 (0 : Int32).toNatClampNeg) * (s 2 (0 : Int32).toNatClampNeg))) 2 (0 : Int32).toNatClampNeg))), some (.int (v4 + (-1 : Int32)))]) (-1 : Int32) dX9_isRow_55 rfl (by decide) (by decide) rfl rfl ?_
    refine v_goto 14 dX9_isRow_58 (by decide) ?_
    refine v_lw [some (.ref (fm_ad w 0)), none, some (.int (v2 ||| ((1 : Int32) <<< (((fm_up s 9 v4.toNatClampNeg (v3 - v3 / (s 2 (0 : Int32).toNatClampNeg) * (s 2 (0 : Int32).toNatClampNeg))) 9 v4.toNatClampNeg) &&& 31)))), some (.int (v3 / ((fm_up s 9 v4.toNatClampNeg (v3 - v3 / (s 2 (0 : Int32).toNatClampNeg) * (s 2 (0 : Int32).toNatClampNeg))) 2 (0 : Int32).toNatClampNeg))), some (.int (v4 + (-1 : Int32)))] rfl ⟨rfl, rfl, rfl, rfl, trivial⟩ ?_
    exact kb _ _ _ _ (Option.some.inj h).symm
set_option maxHeartbeats 4000000 in
theorem i_X9_isRow_14 {w : fm_W} {l : Launch} {o : fm_O} (hI : fm_I w 11) (n : Nat) (s : fm_M) (v2 : Int32) (v3 : Int32) (v4 : Int32) (q : fm_M × Int32 × Int32 × Int32) (h : fm_it (fun s => f_X9_isRow_14 s.1 s.2.1 s.2.2.1 s.2.2.2) n (s, v2, v3, v4) = some q) (ke : ∀ (s : fm_M) (u2 : Int32) (u3 : Int32) (u4 : Int32), q = (s, u2, u3, u4) → fm_V w layM 11 l rm_X9_isRow cX9_isRow 5 RX9 (some .boolean) o 61 [some (.ref (fm_ad w 0)), none, some (.int u2), some (.int u3), some (.int u4)] [] s) : fm_V w layM 11 l rm_X9_isRow cX9_isRow 5 RX9 (some .boolean) o 14 [some (.ref (fm_ad w 0)), none, some (.int v2), some (.int v3), some (.int v4)] [] s :=
  fm_it_loop (body := (fun s => f_X9_isRow_14 s.1 s.2.1 s.2.2.1 s.2.2.2)) (P := fun s => fm_V w layM 11 l rm_X9_isRow cX9_isRow 5 RX9 (some .boolean) o 14 [some (.ref (fm_ad w 0)), none, some (.int s.2.1), some (.int s.2.2.1), some (.int s.2.2.2)] [] s.1) (K := (fun q : fm_M × Int32 × Int32 × Int32 => (∀ (s : fm_M) (u2 : Int32) (u3 : Int32) (u4 : Int32), q = (s, u2, u3, u4) → fm_V w layM 11 l rm_X9_isRow cX9_isRow 5 RX9 (some .boolean) o 61 [some (.ref (fm_ad w 0)), none, some (.int u2), some (.int u3), some (.int u4)] [] s))) (fun s z hb kl kx => t_X9_isRow_14 hI s.1 s.2.1 s.2.2.1 s.2.2.2 z hb (fun s u2 u3 u4 e => kl _ e) (fun s u2 u3 u4 e => (kx _ e) s u2 u3 u4 rfl)) n (s, v2, v3, v4) q h ke
def f_X9_isRow_80 (sk0 : Int32) (s : fm_M) : Option (Int32 × fm_M) :=
  if fm_b sk0 = true then some (sk0, s) else none
set_option maxHeartbeats 4000000 in
theorem t_X9_isRow_80 {w : fm_W} {l : Launch} {o : fm_O} (hI : fm_I w 11) (sk0 : Int32) (s : fm_M) (z : Int32 × fm_M) (h : f_X9_isRow_80 sk0 s = some z) (ho : ∀ (r : Int32) (s : fm_M), z = (r, s) → o = (some (.int r), s)) : fm_V w layM 11 l rm_X9_isRow cX9_isRow 5 RX9 (some .boolean) o 80 [none, none, none, none, none] [.int sk0] s := by
  unfold f_X9_isRow_80 at h
  obtain ⟨hb, h⟩ := fm_ift h
  exact v_zret rfl (fm_b_nar hb).1 (ho _ _ (Option.some.inj h).symm) dX9_isRow_80
def f_X9_isRow (v1 : Int32) (s : fm_M) : Option (Int32 × fm_M) :=
  if fm_in (0 : Int32) 17 = true then fm_op (fm_it (fun (yy : fm_M × Int32 × Int32 × Int32) => f_X9_isRow_14 yy.1 yy.2.1 yy.2.2.1 yy.2.2.2) fm_fu (s, (0 : Int32), v1, ((s 2 (0 : Int32).toNatClampNeg) - (1 : Int32)))) (fun q1 => ((fun (s1 : fm_M) (x1_2 : Int32) (x1_3 : Int32) (x1_4 : Int32) => if fm_in (0 : Int32) 17 = true then if x1_2 = (((1 : Int32) <<< ((s1 2 (0 : Int32).toNatClampNeg) &&& 31)) - (1 : Int32)) then f_X9_isRow_80 (1 : Int32) s1 else f_X9_isRow_80 (0 : Int32) s1 else none)) q1.1 q1.2.1 q1.2.2.1 q1.2.2.2) else none
set_option maxHeartbeats 4000000 in
theorem e_X9_isRow {w : fm_W} {l : Launch} {o : fm_O} (hI : fm_I w 11) (v1 : Int32) (s : fm_M) (z : Int32 × fm_M) (h : f_X9_isRow v1 s = some z) (ho : ∀ (r : Int32) (s : fm_M), z = (r, s) → o = (some (.int r), s)) : fm_V w layM 11 l rm_X9_isRow cX9_isRow 5 RX9 (some .boolean) o 0 [some (.ref (fm_ad w 0)), some (.int v1), none, none, none] [] s := by
  unfold f_X9_isRow at h
  refine v_iconst (0 : Int32) dX9_isRow_0 (by decide) ?_
  refine v_istore_n (lv' := [some (.ref (fm_ad w 0)), some (.int v1), some (.int (0 : Int32)), none, none]) 2 dX9_isRow_1 rfl (by decide) rfl rfl ?_
  refine v_iload_n 1 dX9_isRow_2 rfl rfl ?_
  refine v_istore_n (lv' := [some (.ref (fm_ad w 0)), some (.int v1), some (.int (0 : Int32)), some (.int v1), none]) 3 dX9_isRow_3 rfl (by decide) rfl rfl ?_
  refine v_aload_n 0 dX9_isRow_4 rfl rfl ?_
  refine v_getr 2 g_X9_13 yM_0 (by decide) rfl dX9_isRow_5 ?_
  refine v_iconst (0 : Int32) dX9_isRow_8 (by decide) ?_
  obtain ⟨hi, h⟩ := fm_ift h
  refine v_iald (Or.inl ⟨(by decide), yM_2⟩) hi dX9_isRow_9 ?_
  refine v_iconst (1 : Int32) dX9_isRow_10 (by decide) ?_
  refine v_isub dX9_isRow_11 ?_
  refine v_istore (lv' := [some (.ref (fm_ad w 0)), some (.int v1), some (.int (0 : Int32)), some (.int v1), some (.int ((s 2 (0 : Int32).toNatClampNeg) - (1 : Int32)))]) dX9_isRow_12 (by decide) rfl rfl ?_
  obtain ⟨q1, h1, h⟩ := fm_ops h
  refine v_lw [some (.ref (fm_ad w 0)), none, some (.int (0 : Int32)), some (.int v1), some (.int ((s 2 (0 : Int32).toNatClampNeg) - (1 : Int32)))] rfl ⟨rfl, rfl, rfl, rfl, trivial⟩ ?_
  refine i_X9_isRow_14 hI _ _ _ _ _ _ h1 (fun s1 x1_2 x1_3 x1_4 e => ?_)
  subst e
  dsimp only at h
  refine v_iload_n 2 dX9_isRow_61 rfl rfl ?_
  refine v_iconst (1 : Int32) dX9_isRow_62 (by decide) ?_
  refine v_aload_n 0 dX9_isRow_63 rfl rfl ?_
  refine v_getr 2 g_X9_13 yM_0 (by decide) rfl dX9_isRow_64 ?_
  refine v_iconst (0 : Int32) dX9_isRow_67 (by decide) ?_
  obtain ⟨hi, h⟩ := fm_ift h
  refine v_iald (Or.inl ⟨(by decide), yM_2⟩) hi dX9_isRow_68 ?_
  refine v_ishl dX9_isRow_69 ?_
  refine v_iconst (1 : Int32) dX9_isRow_70 (by decide) ?_
  refine v_isub dX9_isRow_71 ?_
  refine v_icmp_ne 79 dX9_isRow_72 (by decide) h (fun h => ?_) (fun h => ?_)
  · refine v_iconst (0 : Int32) dX9_isRow_79 (by decide) ?_
    refine v_lw [none, none, none, none, none] rfl trivial ?_
    exact t_X9_isRow_80 hI (0 : Int32) s1 _ h ho
  · refine v_iconst (1 : Int32) dX9_isRow_75 (by decide) ?_
    refine v_goto 80 dX9_isRow_76 (by decide) ?_
    refine v_lw [none, none, none, none, none] rfl trivial ?_
    exact t_X9_isRow_80 hI (1 : Int32) s1 _ h ho
theorem c_X9_isRow {w : fm_W} {l : Launch} (hI : fm_I w 11) {v1 : Int32} {s : fm_M} {r : Int32} {s2 : fm_M} (h : f_X9_isRow v1 s = some (r, s2)) : fm_C w layM 11 l yX9_isRow cX9_isRow 5 (some .boolean) rm_X9_isRow [.ref (fm_ad w 0), .int v1] s (some (.int r), s2) :=
  fm_of hI (by decide) rfl (Nat.le_of_ble_eq_true rfl) (e_X9_isRow hI v1 s _ h (fun r s e => by cases e; rfl))
-- X9_best
abbrev rm_X9_best : Room := { frames := 5, cells := 0, slots := 0, locals := 110 }
def f_X9_best_16 (v1 : Int32) (s : fm_M) (v2 : Int32) (v3 : Int32) : Option ((fm_M × Int32 × Int32) ⊕ (fm_M × Int32 × Int32)) :=
  if fm_in (0 : Int32) 17 = true then if (s 2 (0 : Int32).toNatClampNeg) ≤ v3 then some (.inr (s, v2, v3)) else if fm_in (0 : Int32) 17 = true then some (.inl (s, (v2 * (s 2 (0 : Int32).toNatClampNeg)), (v3 + (1 : Int32)))) else none else none
set_option maxHeartbeats 4000000 in
theorem t_X9_best_16 {w : fm_W} {l : Launch} {o : fm_O} (hI : fm_I w 11) (v1 : Int32) (s : fm_M) (v2 : Int32) (v3 : Int32) (z : (fm_M × Int32 × Int32) ⊕ (fm_M × Int32 × Int32)) (h : f_X9_best_16 v1 s v2 v3 = some z) (kb : ∀ (s : fm_M) (u2 : Int32) (u3 : Int32), z = .inl (s, u2, u3) → fm_V w layM 11 l rm_X9_best cX9_best 8 RX9 (some .int) o 16 [some (.ref (fm_ad w 0)), some (.int v1), some (.int u2), some (.int u3), none, none, none, none] [] s) (ke : ∀ (s : fm_M) (u2 : Int32) (u3 : Int32), z = .inr (s, u2, u3) → fm_V w layM 11 l rm_X9_best cX9_best 8 RX9 (some .int) o 41 [some (.ref (fm_ad w 0)), some (.int v1), some (.int u2), some (.int u3), none, none, none, none] [] s) : fm_V w layM 11 l rm_X9_best cX9_best 8 RX9 (some .int) o 16 [some (.ref (fm_ad w 0)), some (.int v1), some (.int v2), some (.int v3), none, none, none, none] [] s := by
  unfold f_X9_best_16 at h
  refine v_iload_n 3 dX9_best_16 rfl rfl ?_
  refine v_aload_n 0 dX9_best_17 rfl rfl ?_
  refine v_getr 2 g_X9_13 yM_0 (by decide) rfl dX9_best_18 ?_
  refine v_iconst (0 : Int32) dX9_best_21 (by decide) ?_
  obtain ⟨hi, h⟩ := fm_ift h
  refine v_iald (Or.inl ⟨(by decide), yM_2⟩) hi dX9_best_22 ?_
  refine v_icmp_ge 41 dX9_best_23 (by decide) h (fun h => ?_) (fun h => ?_)
  · refine v_lw [some (.ref (fm_ad w 0)), some (.int v1), some (.int v2), some (.int v3), none, none, none, none] rfl ⟨rfl, rfl, rfl, rfl, trivial⟩ ?_
    exact ke _ _ _ (Option.some.inj h).symm
  · refine v_iload_n 2 dX9_best_26 rfl rfl ?_
    refine v_aload_n 0 dX9_best_27 rfl rfl ?_
    refine v_getr 2 g_X9_13 yM_0 (by decide) rfl dX9_best_28 ?_
    refine v_iconst (0 : Int32) dX9_best_31 (by decide) ?_
    obtain ⟨hi, h⟩ := fm_ift h
    refine v_iald (Or.inl ⟨(by decide), yM_2⟩) hi dX9_best_32 ?_
    refine v_imul dX9_best_33 ?_
    refine v_istore_n (lv' := [some (.ref (fm_ad w 0)), some (.int v1), some (.int (v2 * (s 2 (0 : Int32).toNatClampNeg))), some (.int v3), none, none, none, none]) 2 dX9_best_34 rfl (by decide) rfl rfl ?_
    refine v_iinc (lv' := [some (.ref (fm_ad w 0)), some (.int v1), some (.int (v2 * (s 2 (0 : Int32).toNatClampNeg))), some (.int (v3 + (1 : Int32))), none, none, none, none]) (1 : Int32) dX9_best_35 rfl (by decide) (by decide) rfl rfl ?_
    refine v_goto 16 dX9_best_38 (by decide) ?_
    refine v_lw [some (.ref (fm_ad w 0)), some (.int v1), some (.int (v2 * (s 2 (0 : Int32).toNatClampNeg))), some (.int (v3 + (1 : Int32))), none, none, none, none] rfl ⟨rfl, rfl, rfl, rfl, trivial⟩ ?_
    exact kb _ _ _ (Option.some.inj h).symm
set_option maxHeartbeats 4000000 in
theorem i_X9_best_16 {w : fm_W} {l : Launch} {o : fm_O} (hI : fm_I w 11) (v1 : Int32) (n : Nat) (s : fm_M) (v2 : Int32) (v3 : Int32) (q : fm_M × Int32 × Int32) (h : fm_it (fun s => f_X9_best_16 v1 s.1 s.2.1 s.2.2) n (s, v2, v3) = some q) (ke : ∀ (s : fm_M) (u2 : Int32) (u3 : Int32), q = (s, u2, u3) → fm_V w layM 11 l rm_X9_best cX9_best 8 RX9 (some .int) o 41 [some (.ref (fm_ad w 0)), some (.int v1), some (.int u2), some (.int u3), none, none, none, none] [] s) : fm_V w layM 11 l rm_X9_best cX9_best 8 RX9 (some .int) o 16 [some (.ref (fm_ad w 0)), some (.int v1), some (.int v2), some (.int v3), none, none, none, none] [] s :=
  fm_it_loop (body := (fun s => f_X9_best_16 v1 s.1 s.2.1 s.2.2)) (P := fun s => fm_V w layM 11 l rm_X9_best cX9_best 8 RX9 (some .int) o 16 [some (.ref (fm_ad w 0)), some (.int v1), some (.int s.2.1), some (.int s.2.2), none, none, none, none] [] s.1) (K := (fun q : fm_M × Int32 × Int32 => (∀ (s : fm_M) (u2 : Int32) (u3 : Int32), q = (s, u2, u3) → fm_V w layM 11 l rm_X9_best cX9_best 8 RX9 (some .int) o 41 [some (.ref (fm_ad w 0)), some (.int v1), some (.int u2), some (.int u3), none, none, none, none] [] s))) (fun s z hb kl kx => t_X9_best_16 hI v1 s.1 s.2.1 s.2.2 z hb (fun s u2 u3 e => kl _ e) (fun s u2 u3 e => (kx _ e) s u2 u3 rfl)) n (s, v2, v3) q h ke
def f_X9_best_149 (v1 : Int32) (v2 : Int32) (v3 : Int32) (v4 : Int32) (v5 : Int32) (v6 : Int32) (s : fm_M) : Option ((fm_M × Int32 × Int32 × Int32 × Int32) ⊕ (fm_M × Int32 × Int32 × Int32 × Int32)) :=
  some (.inl (s, v3, v4, v5, (v6 + (1 : Int32))))
set_option maxHeartbeats 4000000 in
theorem t_X9_best_149 {w : fm_W} {l : Launch} {o : fm_O} (hI : fm_I w 11) (v1 : Int32) (v2 : Int32) (v3 : Int32) (v4 : Int32) (v5 : Int32) (v6 : Int32) (s : fm_M) (z : (fm_M × Int32 × Int32 × Int32 × Int32) ⊕ (fm_M × Int32 × Int32 × Int32 × Int32)) (h : f_X9_best_149 v1 v2 v3 v4 v5 v6 s = some z) (kb : ∀ (s : fm_M) (u3 : Int32) (u4 : Int32) (u5 : Int32) (u6 : Int32), z = .inl (s, u3, u4, u5, u6) → fm_V w layM 11 l rm_X9_best cX9_best 8 RX9 (some .int) o 54 [some (.ref (fm_ad w 0)), some (.int v1), some (.int v2), some (.int u3), some (.int u4), some (.int u5), some (.int u6), none] [] s) (ke : ∀ (s : fm_M) (u3 : Int32) (u4 : Int32) (u5 : Int32) (u6 : Int32), z = .inr (s, u3, u4, u5, u6) → fm_V w layM 11 l rm_X9_best cX9_best 8 RX9 (some .int) o 155 [some (.ref (fm_ad w 0)), some (.int v1), some (.int v2), some (.int u3), some (.int u4), some (.int u5), some (.int u6), none] [] s) : fm_V w layM 11 l rm_X9_best cX9_best 8 RX9 (some .int) o 149 [some (.ref (fm_ad w 0)), some (.int v1), some (.int v2), some (.int v3), some (.int v4), some (.int v5), some (.int v6), none] [] s := by
  unfold f_X9_best_149 at h
  refine v_iinc (lv' := [some (.ref (fm_ad w 0)), some (.int v1), some (.int v2), some (.int v3), some (.int v4), some (.int v5), some (.int (v6 + (1 : Int32))), none]) (1 : Int32) dX9_best_149 rfl (by decide) (by decide) rfl rfl ?_
  refine v_goto 54 dX9_best_152 (by decide) ?_
  refine v_lw [some (.ref (fm_ad w 0)), some (.int v1), some (.int v2), some (.int v3), some (.int v4), some (.int v5), some (.int (v6 + (1 : Int32))), none] rfl ⟨rfl, rfl, rfl, rfl, rfl, rfl, rfl, trivial⟩ ?_
  exact kb _ _ _ _ _ (Option.some.inj h).symm
def f_X9_best_147 (v1 : Int32) (v2 : Int32) (v3 : Int32) (v4 : Int32) (v6 : Int32) (sk0 : Int32) (s : fm_M) : Option ((fm_M × Int32 × Int32 × Int32 × Int32) ⊕ (fm_M × Int32 × Int32 × Int32 × Int32)) :=
  f_X9_best_149 v1 v2 v3 v4 sk0 v6 s
set_option maxHeartbeats 4000000 in
theorem t_X9_best_147 {w : fm_W} {l : Launch} {o : fm_O} (hI : fm_I w 11) (v1 : Int32) (v2 : Int32) (v3 : Int32) (v4 : Int32) (v6 : Int32) (sk0 : Int32) (s : fm_M) (z : (fm_M × Int32 × Int32 × Int32 × Int32) ⊕ (fm_M × Int32 × Int32 × Int32 × Int32)) (h : f_X9_best_147 v1 v2 v3 v4 v6 sk0 s = some z) (kb : ∀ (s : fm_M) (u3 : Int32) (u4 : Int32) (u5 : Int32) (u6 : Int32), z = .inl (s, u3, u4, u5, u6) → fm_V w layM 11 l rm_X9_best cX9_best 8 RX9 (some .int) o 54 [some (.ref (fm_ad w 0)), some (.int v1), some (.int v2), some (.int u3), some (.int u4), some (.int u5), some (.int u6), none] [] s) (ke : ∀ (s : fm_M) (u3 : Int32) (u4 : Int32) (u5 : Int32) (u6 : Int32), z = .inr (s, u3, u4, u5, u6) → fm_V w layM 11 l rm_X9_best cX9_best 8 RX9 (some .int) o 155 [some (.ref (fm_ad w 0)), some (.int v1), some (.int v2), some (.int u3), some (.int u4), some (.int u5), some (.int u6), none] [] s) : fm_V w layM 11 l rm_X9_best cX9_best 8 RX9 (some .int) o 147 [some (.ref (fm_ad w 0)), some (.int v1), some (.int v2), some (.int v3), some (.int v4), none, some (.int v6), none] [.int sk0] s := by
  unfold f_X9_best_147 at h
  refine v_istore (lv' := [some (.ref (fm_ad w 0)), some (.int v1), some (.int v2), some (.int v3), some (.int v4), some (.int sk0), some (.int v6), none]) dX9_best_147 (by decide) rfl rfl ?_
  refine v_lw [some (.ref (fm_ad w 0)), some (.int v1), some (.int v2), some (.int v3), some (.int v4), some (.int sk0), some (.int v6), none] rfl ⟨rfl, rfl, rfl, rfl, rfl, rfl, rfl, trivial⟩ ?_
  exact t_X9_best_149 hI v1 v2 v3 v4 sk0 v6 s _ h kb ke
def f_X9_best_145 (v1 : Int32) (v2 : Int32) (v3 : Int32) (v4 : Int32) (v6 : Int32) (s : fm_M) : Option ((fm_M × Int32 × Int32 × Int32 × Int32) ⊕ (fm_M × Int32 × Int32 × Int32 × Int32)) :=
  f_X9_best_147 v1 v2 v3 v4 v6 (-4 : Int32) s
set_option maxHeartbeats 4000000 in
theorem t_X9_best_145 {w : fm_W} {l : Launch} {o : fm_O} (hI : fm_I w 11) (v1 : Int32) (v2 : Int32) (v3 : Int32) (v4 : Int32) (v6 : Int32) (s : fm_M) (z : (fm_M × Int32 × Int32 × Int32 × Int32) ⊕ (fm_M × Int32 × Int32 × Int32 × Int32)) (h : f_X9_best_145 v1 v2 v3 v4 v6 s = some z) (kb : ∀ (s : fm_M) (u3 : Int32) (u4 : Int32) (u5 : Int32) (u6 : Int32), z = .inl (s, u3, u4, u5, u6) → fm_V w layM 11 l rm_X9_best cX9_best 8 RX9 (some .int) o 54 [some (.ref (fm_ad w 0)), some (.int v1), some (.int v2), some (.int u3), some (.int u4), some (.int u5), some (.int u6), none] [] s) (ke : ∀ (s : fm_M) (u3 : Int32) (u4 : Int32) (u5 : Int32) (u6 : Int32), z = .inr (s, u3, u4, u5, u6) → fm_V w layM 11 l rm_X9_best cX9_best 8 RX9 (some .int) o 155 [some (.ref (fm_ad w 0)), some (.int v1), some (.int v2), some (.int u3), some (.int u4), some (.int u5), some (.int u6), none] [] s) : fm_V w layM 11 l rm_X9_best cX9_best 8 RX9 (some .int) o 145 [some (.ref (fm_ad w 0)), some (.int v1), some (.int v2), some (.int v3), some (.int v4), none, some (.int v6), none] [] s := by
  unfold f_X9_best_145 at h
  refine v_bipush (-4 : Int32) dX9_best_145 (by decide) ?_
  refine v_lw [some (.ref (fm_ad w 0)), some (.int v1), some (.int v2), some (.int v3), some (.int v4), none, some (.int v6), none] rfl ⟨rfl, rfl, rfl, rfl, rfl, rfl, trivial⟩ ?_
  exact t_X9_best_147 hI v1 v2 v3 v4 v6 (-4 : Int32) s _ h kb ke
def f_X9_best_113 (v1 : Int32) (v2 : Int32) (v6 : Int32) (v7 : Int32) (s : fm_M) : Option ((fm_M × Int32 × Int32 × Int32 × Int32) ⊕ (fm_M × Int32 × Int32 × Int32 × Int32)) :=
  if v1 < 0 then f_X9_best_145 v1 v2 v7 (s 0 14) v6 s else if fm_in (0 : Int32) 17 = true then if (s 2 (0 : Int32).toNatClampNeg) ≤ v1 then f_X9_best_145 v1 v2 v7 (s 0 14) v6 s else if fm_in v1 6 = true then f_X9_best_147 v1 v2 v7 (s 0 14) v6 (s 9 v1.toNatClampNeg) s else none else none
set_option maxHeartbeats 4000000 in
theorem t_X9_best_113 {w : fm_W} {l : Launch} {o : fm_O} (hI : fm_I w 11) (v1 : Int32) (v2 : Int32) (v6 : Int32) (v7 : Int32) (s : fm_M) (z : (fm_M × Int32 × Int32 × Int32 × Int32) ⊕ (fm_M × Int32 × Int32 × Int32 × Int32)) (h : f_X9_best_113 v1 v2 v6 v7 s = some z) (kb : ∀ (s : fm_M) (u3 : Int32) (u4 : Int32) (u5 : Int32) (u6 : Int32), z = .inl (s, u3, u4, u5, u6) → fm_V w layM 11 l rm_X9_best cX9_best 8 RX9 (some .int) o 54 [some (.ref (fm_ad w 0)), some (.int v1), some (.int v2), some (.int u3), some (.int u4), some (.int u5), some (.int u6), none] [] s) (ke : ∀ (s : fm_M) (u3 : Int32) (u4 : Int32) (u5 : Int32) (u6 : Int32), z = .inr (s, u3, u4, u5, u6) → fm_V w layM 11 l rm_X9_best cX9_best 8 RX9 (some .int) o 155 [some (.ref (fm_ad w 0)), some (.int v1), some (.int v2), some (.int u3), some (.int u4), some (.int u5), some (.int u6), none] [] s) : fm_V w layM 11 l rm_X9_best cX9_best 8 RX9 (some .int) o 113 [some (.ref (fm_ad w 0)), some (.int v1), some (.int v2), none, none, none, some (.int v6), some (.int v7)] [] s := by
  unfold f_X9_best_113 at h
  refine v_iload dX9_best_113 rfl ?_
  refine v_istore_n (lv' := [some (.ref (fm_ad w 0)), some (.int v1), some (.int v2), some (.int v7), none, none, some (.int v6), some (.int v7)]) 3 dX9_best_115 rfl (by decide) rfl rfl ?_
  refine v_aload_n 0 dX9_best_116 rfl rfl ?_
  refine v_geti g_X9_143 yM_0 (by decide) rfl dX9_best_117 ?_
  refine v_istore (lv' := [some (.ref (fm_ad w 0)), some (.int v1), some (.int v2), some (.int v7), some (.int (s 0 14)), none, some (.int v6), some (.int v7)]) dX9_best_120 (by decide) rfl rfl ?_
  refine v_iload_n 1 dX9_best_122 rfl rfl ?_
  refine v_if_lt 145 dX9_best_123 (by decide) h (fun h => ?_) (fun h => ?_)
  · refine v_lw [some (.ref (fm_ad w 0)), some (.int v1), some (.int v2), some (.int v7), some (.int (s 0 14)), none, some (.int v6), none] rfl ⟨rfl, rfl, rfl, rfl, rfl, rfl, trivial⟩ ?_
    exact t_X9_best_145 hI v1 v2 v7 (s 0 14) v6 s _ h kb ke
  · refine v_iload_n 1 dX9_best_126 rfl rfl ?_
    refine v_aload_n 0 dX9_best_127 rfl rfl ?_
    refine v_getr 2 g_X9_13 yM_0 (by decide) rfl dX9_best_128 ?_
    refine v_iconst (0 : Int32) dX9_best_131 (by decide) ?_
    obtain ⟨hi, h⟩ := fm_ift h
    refine v_iald (Or.inl ⟨(by decide), yM_2⟩) hi dX9_best_132 ?_
    refine v_icmp_ge 145 dX9_best_133 (by decide) h (fun h => ?_) (fun h => ?_)
    · refine v_lw [some (.ref (fm_ad w 0)), some (.int v1), some (.int v2), some (.int v7), some (.int (s 0 14)), none, some (.int v6), none] rfl ⟨rfl, rfl, rfl, rfl, rfl, rfl, trivial⟩ ?_
      exact t_X9_best_145 hI v1 v2 v7 (s 0 14) v6 s _ h kb ke
    · refine v_aload_n 0 dX9_best_136 rfl rfl ?_
      refine v_getr 9 g_X9_34 yM_0 (by decide) rfl dX9_best_137 ?_
      refine v_iload_n 1 dX9_best_140 rfl rfl ?_
      obtain ⟨hi, h⟩ := fm_ift h
      refine v_iald (Or.inl ⟨(by decide), yM_9⟩) hi dX9_best_141 ?_
      refine v_goto 147 dX9_best_142 (by decide) ?_
      refine v_lw [some (.ref (fm_ad w 0)), some (.int v1), some (.int v2), some (.int v7), some (.int (s 0 14)), none, some (.int v6), none] rfl ⟨rfl, rfl, rfl, rfl, rfl, rfl, trivial⟩ ?_
      exact t_X9_best_147 hI v1 v2 v7 (s 0 14) v6 (s 9 v1.toNatClampNeg) s _ h kb ke
def f_X9_best_54 (v1 : Int32) (v2 : Int32) (s : fm_M) (v3 : Int32) (v4 : Int32) (v5 : Int32) (v6 : Int32) : Option ((fm_M × Int32 × Int32 × Int32 × Int32) ⊕ (fm_M × Int32 × Int32 × Int32 × Int32)) :=
  if v2 ≤ v6 then some (.inr (s, v3, v4, v5, v6)) else fm_bd (f_X9_isRow v6 s) (fun r3 s3 => if r3 = 0 then f_X9_best_149 v1 v2 v3 v4 v5 v6 s3 else fm_bd (f_X9_goes s3) (fun r4 s4 => fm_bd (f_X9_lets s4) (fun r5 s5 => if r4 = (-4 : Int32) then f_X9_best_149 v1 v2 v3 v4 v5 v6 s5 else if v3 = (-4 : Int32) then f_X9_best_113 v1 v2 v6 r4 s5 else if r4 < v3 then f_X9_best_113 v1 v2 v6 r4 s5 else if r4 = v3 then if v4 ≤ (s5 0 14) then f_X9_best_149 v1 v2 v3 v4 v5 v6 s5 else f_X9_best_113 v1 v2 v6 r4 s5 else f_X9_best_149 v1 v2 v3 v4 v5 v6 s5)))
set_option maxHeartbeats 4000000 in
theorem t_X9_best_54 {w : fm_W} {l : Launch} {o : fm_O} (hI : fm_I w 11) (v1 : Int32) (v2 : Int32) (s : fm_M) (v3 : Int32) (v4 : Int32) (v5 : Int32) (v6 : Int32) (z : (fm_M × Int32 × Int32 × Int32 × Int32) ⊕ (fm_M × Int32 × Int32 × Int32 × Int32)) (h : f_X9_best_54 v1 v2 s v3 v4 v5 v6 = some z) (kb : ∀ (s : fm_M) (u3 : Int32) (u4 : Int32) (u5 : Int32) (u6 : Int32), z = .inl (s, u3, u4, u5, u6) → fm_V w layM 11 l rm_X9_best cX9_best 8 RX9 (some .int) o 54 [some (.ref (fm_ad w 0)), some (.int v1), some (.int v2), some (.int u3), some (.int u4), some (.int u5), some (.int u6), none] [] s) (ke : ∀ (s : fm_M) (u3 : Int32) (u4 : Int32) (u5 : Int32) (u6 : Int32), z = .inr (s, u3, u4, u5, u6) → fm_V w layM 11 l rm_X9_best cX9_best 8 RX9 (some .int) o 155 [some (.ref (fm_ad w 0)), some (.int v1), some (.int v2), some (.int u3), some (.int u4), some (.int u5), some (.int u6), none] [] s) : fm_V w layM 11 l rm_X9_best cX9_best 8 RX9 (some .int) o 54 [some (.ref (fm_ad w 0)), some (.int v1), some (.int v2), some (.int v3), some (.int v4), some (.int v5), some (.int v6), none] [] s := by
  unfold f_X9_best_54 at h
  refine v_iload dX9_best_54 rfl ?_
  refine v_iload_n 2 dX9_best_56 rfl rfl ?_
  refine v_icmp_ge 155 dX9_best_57 (by decide) h (fun h => ?_) (fun h => ?_)
  · refine v_lw [some (.ref (fm_ad w 0)), some (.int v1), some (.int v2), some (.int v3), some (.int v4), some (.int v5), some (.int v6), none] rfl ⟨rfl, rfl, rfl, rfl, rfl, rfl, rfl, trivial⟩ ?_
    exact ke _ _ _ _ _ (Option.some.inj h).symm
  · refine v_aload_n 0 dX9_best_60 rfl rfl ?_
    refine v_iload dX9_best_61 rfl ?_
    obtain ⟨r3, s3, h3, h⟩ := fm_bds h
    refine v_cVi [.int v6] [] l_X9_164 (c_X9_isRow hI h3) yM_0 (by decide) rfl rfl ⟨rfl, rfl, by decide, by decide⟩ (Nat.le_of_ble_eq_true rfl) dX9_best_63 ?_
    refine v_if_eq 149 dX9_best_66 (by decide) h (fun h => ?_) (fun h => ?_)
    · refine v_lw [some (.ref (fm_ad w 0)), some (.int v1), some (.int v2), some (.int v3), some (.int v4), some (.int v5), some (.int v6), none] rfl ⟨rfl, rfl, rfl, rfl, rfl, rfl, rfl, trivial⟩ ?_
      exact t_X9_best_149 hI v1 v2 v3 v4 v5 v6 s3 _ h kb ke
    · refine v_aload_n 0 dX9_best_69 rfl rfl ?_
      obtain ⟨r4, s4, h4, h⟩ := fm_bds h
      refine v_cVi [] [] l_X9_152 (c_X9_goes hI h4) yM_0 (by decide) rfl rfl ⟨rfl, rfl, by decide, by decide⟩ (Nat.le_of_ble_eq_true rfl) dX9_best_70 ?_
      refine v_istore (lv' := [some (.ref (fm_ad w 0)), some (.int v1), some (.int v2), some (.int v3), some (.int v4), some (.int v5), some (.int v6), some (.int r4)]) dX9_best_73 (by decide) rfl rfl ?_
      refine v_aload_n 0 dX9_best_75 rfl rfl ?_
      obtain ⟨r5, s5, h5, h⟩ := fm_bds h
      refine v_cVv [] [] l_X9_155 (c_X9_lets hI h5) yM_0 (by decide) rfl rfl ⟨rfl, rfl, by decide, by decide⟩ (Nat.le_of_ble_eq_true rfl) dX9_best_76 ?_
      refine v_iload dX9_best_79 rfl ?_
      refine v_bipush (-4 : Int32) dX9_best_81 (by decide) ?_
      refine v_icmp_eq 149 dX9_best_83 (by decide) h (fun h => ?_) (fun h => ?_)
      · refine v_lw [some (.ref (fm_ad w 0)), some (.int v1), some (.int v2), some (.int v3), some (.int v4), some (.int v5), some (.int v6), none] rfl ⟨rfl, rfl, rfl, rfl, rfl, rfl, rfl, trivial⟩ ?_
        exact t_X9_best_149 hI v1 v2 v3 v4 v5 v6 s5 _ h kb ke
      · refine v_iload_n 3 dX9_best_86 rfl rfl ?_
        refine v_bipush (-4 : Int32) dX9_best_87 (by decide) ?_
        refine v_icmp_eq 113 dX9_best_89 (by decide) h (fun h => ?_) (fun h => ?_)
        · refine v_lw [some (.ref (fm_ad w 0)), some (.int v1), some (.int v2), none, none, none, some (.int v6), some (.int r4)] rfl ⟨rfl, rfl, rfl, rfl, rfl, trivial⟩ ?_
          exact t_X9_best_113 hI v1 v2 v6 r4 s5 _ h kb ke
        · refine v_iload dX9_best_92 rfl ?_
          refine v_iload_n 3 dX9_best_94 rfl rfl ?_
          refine v_icmp_lt 113 dX9_best_95 (by decide) h (fun h => ?_) (fun h => ?_)
          · refine v_lw [some (.ref (fm_ad w 0)), some (.int v1), some (.int v2), none, none, none, some (.int v6), some (.int r4)] rfl ⟨rfl, rfl, rfl, rfl, rfl, trivial⟩ ?_
            exact t_X9_best_113 hI v1 v2 v6 r4 s5 _ h kb ke
          · refine v_iload dX9_best_98 rfl ?_
            refine v_iload_n 3 dX9_best_100 rfl rfl ?_
            refine v_icmp_ne 149 dX9_best_101 (by decide) h (fun h => ?_) (fun h => ?_)
            · refine v_lw [some (.ref (fm_ad w 0)), some (.int v1), some (.int v2), some (.int v3), some (.int v4), some (.int v5), some (.int v6), none] rfl ⟨rfl, rfl, rfl, rfl, rfl, rfl, rfl, trivial⟩ ?_
              exact t_X9_best_149 hI v1 v2 v3 v4 v5 v6 s5 _ h kb ke
            · refine v_aload_n 0 dX9_best_104 rfl rfl ?_
              refine v_geti g_X9_143 yM_0 (by decide) rfl dX9_best_105 ?_
              refine v_iload dX9_best_108 rfl ?_
              refine v_icmp_ge 149 dX9_best_110 (by decide) h (fun h => ?_) (fun h => ?_)
              · refine v_lw [some (.ref (fm_ad w 0)), some (.int v1), some (.int v2), some (.int v3), some (.int v4), some (.int v5), some (.int v6), none] rfl ⟨rfl, rfl, rfl, rfl, rfl, rfl, rfl, trivial⟩ ?_
                exact t_X9_best_149 hI v1 v2 v3 v4 v5 v6 s5 _ h kb ke
              · refine v_lw [some (.ref (fm_ad w 0)), some (.int v1), some (.int v2), none, none, none, some (.int v6), some (.int r4)] rfl ⟨rfl, rfl, rfl, rfl, rfl, trivial⟩ ?_
                exact t_X9_best_113 hI v1 v2 v6 r4 s5 _ h kb ke
set_option maxHeartbeats 4000000 in
theorem i_X9_best_54 {w : fm_W} {l : Launch} {o : fm_O} (hI : fm_I w 11) (v1 : Int32) (v2 : Int32) (n : Nat) (s : fm_M) (v3 : Int32) (v4 : Int32) (v5 : Int32) (v6 : Int32) (q : fm_M × Int32 × Int32 × Int32 × Int32) (h : fm_it (fun s => f_X9_best_54 v1 v2 s.1 s.2.1 s.2.2.1 s.2.2.2.1 s.2.2.2.2) n (s, v3, v4, v5, v6) = some q) (ke : ∀ (s : fm_M) (u3 : Int32) (u4 : Int32) (u5 : Int32) (u6 : Int32), q = (s, u3, u4, u5, u6) → fm_V w layM 11 l rm_X9_best cX9_best 8 RX9 (some .int) o 155 [some (.ref (fm_ad w 0)), some (.int v1), some (.int v2), some (.int u3), some (.int u4), some (.int u5), some (.int u6), none] [] s) : fm_V w layM 11 l rm_X9_best cX9_best 8 RX9 (some .int) o 54 [some (.ref (fm_ad w 0)), some (.int v1), some (.int v2), some (.int v3), some (.int v4), some (.int v5), some (.int v6), none] [] s :=
  fm_it_loop (body := (fun s => f_X9_best_54 v1 v2 s.1 s.2.1 s.2.2.1 s.2.2.2.1 s.2.2.2.2)) (P := fun s => fm_V w layM 11 l rm_X9_best cX9_best 8 RX9 (some .int) o 54 [some (.ref (fm_ad w 0)), some (.int v1), some (.int v2), some (.int s.2.1), some (.int s.2.2.1), some (.int s.2.2.2.1), some (.int s.2.2.2.2), none] [] s.1) (K := (fun q : fm_M × Int32 × Int32 × Int32 × Int32 => (∀ (s : fm_M) (u3 : Int32) (u4 : Int32) (u5 : Int32) (u6 : Int32), q = (s, u3, u4, u5, u6) → fm_V w layM 11 l rm_X9_best cX9_best 8 RX9 (some .int) o 155 [some (.ref (fm_ad w 0)), some (.int v1), some (.int v2), some (.int u3), some (.int u4), some (.int u5), some (.int u6), none] [] s))) (fun s z hb kl kx => t_X9_best_54 hI v1 v2 s.1 s.2.1 s.2.2.1 s.2.2.2.1 s.2.2.2.2 z hb (fun s u3 u4 u5 u6 e => kl _ e) (fun s u3 u4 u5 u6 e => (kx _ e) s u3 u4 u5 u6 rfl)) n (s, v3, v4, v5, v6) q h ke
def f_X9_best_188 (sk0 : Int32) (s : fm_M) : Option (Int32 × fm_M) :=
  some (sk0, s)
set_option maxHeartbeats 4000000 in
theorem t_X9_best_188 {w : fm_W} {l : Launch} {o : fm_O} (hI : fm_I w 11) (sk0 : Int32) (s : fm_M) (z : Int32 × fm_M) (h : f_X9_best_188 sk0 s = some z) (ho : ∀ (r : Int32) (s : fm_M), z = (r, s) → o = (some (.int r), s)) : fm_V w layM 11 l rm_X9_best cX9_best 8 RX9 (some .int) o 188 [none, none, none, none, none, none, none, none] [.int sk0] s := by
  unfold f_X9_best_188 at h
  exact v_iret rfl (ho _ _ (Option.some.inj h).symm) dX9_best_188
def f_X9_best (v1 : Int32) (s : fm_M) : Option (Int32 × fm_M) :=
  if (-2 : Int32) ≤ v1 then fm_bd (f_X9_holds s) (fun r1 s1 => fm_op (fm_it (fun (yy : fm_M × Int32 × Int32) => f_X9_best_16 v1 yy.1 yy.2.1 yy.2.2) fm_fu (s1, (1 : Int32), (0 : Int32))) (fun q2 => ((fun (s2 : fm_M) (x2_2 : Int32) (x2_3 : Int32) => fm_op (fm_it (fun (yy : fm_M × Int32 × Int32 × Int32 × Int32) => f_X9_best_54 v1 x2_2 yy.1 yy.2.1 yy.2.2.1 yy.2.2.2.1 yy.2.2.2.2) fm_fu (s2, (-4 : Int32), (0 : Int32), (-4 : Int32), (0 : Int32))) (fun q6 => ((fun (s6 : fm_M) (x6_3 : Int32) (x6_4 : Int32) (x6_5 : Int32) (x6_6 : Int32) => if v1 = (-1 : Int32) then f_X9_best_188 x6_3 s6 else if v1 = (-2 : Int32) then if x6_3 = (-4 : Int32) then f_X9_best_188 (-4 : Int32) s6 else f_X9_best_188 x6_4 s6 else f_X9_best_188 x6_5 s6)) q6.1 q6.2.1 q6.2.2.1 q6.2.2.2.1 q6.2.2.2.2))) q2.1 q2.2.1 q2.2.2)) else some ((-1 : Int32), s)
set_option maxHeartbeats 4000000 in
theorem e_X9_best {w : fm_W} {l : Launch} {o : fm_O} (hI : fm_I w 11) (v1 : Int32) (s : fm_M) (z : Int32 × fm_M) (h : f_X9_best v1 s = some z) (ho : ∀ (r : Int32) (s : fm_M), z = (r, s) → o = (some (.int r), s)) : fm_V w layM 11 l rm_X9_best cX9_best 8 RX9 (some .int) o 0 [some (.ref (fm_ad w 0)), some (.int v1), none, none, none, none, none, none] [] s := by
  unfold f_X9_best at h
  refine v_iload_n 1 dX9_best_0 rfl rfl ?_
  refine v_bipush (-2 : Int32) dX9_best_1 (by decide) ?_
  refine v_icmp_ge 8 dX9_best_3 (by decide) h (fun h => ?_) (fun h => ?_)
  · refine v_aload_n 0 dX9_best_8 rfl rfl ?_
    obtain ⟨r1, s1, h1, h⟩ := fm_bds h
    refine v_cVv [] [] l_X9_158 (c_X9_holds hI h1) yM_0 (by decide) rfl rfl ⟨rfl, rfl, by decide, by decide⟩ (Nat.le_of_ble_eq_true rfl) dX9_best_9 ?_
    refine v_iconst (1 : Int32) dX9_best_12 (by decide) ?_
    refine v_istore_n (lv' := [some (.ref (fm_ad w 0)), some (.int v1), some (.int (1 : Int32)), none, none, none, none, none]) 2 dX9_best_13 rfl (by decide) rfl rfl ?_
    refine v_iconst (0 : Int32) dX9_best_14 (by decide) ?_
    refine v_istore_n (lv' := [some (.ref (fm_ad w 0)), some (.int v1), some (.int (1 : Int32)), some (.int (0 : Int32)), none, none, none, none]) 3 dX9_best_15 rfl (by decide) rfl rfl ?_
    obtain ⟨q2, h2, h⟩ := fm_ops h
    refine v_lw [some (.ref (fm_ad w 0)), some (.int v1), some (.int (1 : Int32)), some (.int (0 : Int32)), none, none, none, none] rfl ⟨rfl, rfl, rfl, rfl, trivial⟩ ?_
    refine i_X9_best_16 hI v1 _ _ _ _ _ h2 (fun s2 x2_2 x2_3 e => ?_)
    subst e
    dsimp only at h
    refine v_bipush (-4 : Int32) dX9_best_41 (by decide) ?_
    refine v_istore_n (lv' := [some (.ref (fm_ad w 0)), some (.int v1), some (.int x2_2), some (.int (-4 : Int32)), none, none, none, none]) 3 dX9_best_43 rfl (by decide) rfl rfl ?_
    refine v_iconst (0 : Int32) dX9_best_44 (by decide) ?_
    refine v_istore (lv' := [some (.ref (fm_ad w 0)), some (.int v1), some (.int x2_2), some (.int (-4 : Int32)), some (.int (0 : Int32)), none, none, none]) dX9_best_45 (by decide) rfl rfl ?_
    refine v_bipush (-4 : Int32) dX9_best_47 (by decide) ?_
    refine v_istore (lv' := [some (.ref (fm_ad w 0)), some (.int v1), some (.int x2_2), some (.int (-4 : Int32)), some (.int (0 : Int32)), some (.int (-4 : Int32)), none, none]) dX9_best_49 (by decide) rfl rfl ?_
    refine v_iconst (0 : Int32) dX9_best_51 (by decide) ?_
    refine v_istore (lv' := [some (.ref (fm_ad w 0)), some (.int v1), some (.int x2_2), some (.int (-4 : Int32)), some (.int (0 : Int32)), some (.int (-4 : Int32)), some (.int (0 : Int32)), none]) dX9_best_52 (by decide) rfl rfl ?_
    obtain ⟨q6, h6, h⟩ := fm_ops h
    refine v_lw [some (.ref (fm_ad w 0)), some (.int v1), some (.int x2_2), some (.int (-4 : Int32)), some (.int (0 : Int32)), some (.int (-4 : Int32)), some (.int (0 : Int32)), none] rfl ⟨rfl, rfl, rfl, rfl, rfl, rfl, rfl, trivial⟩ ?_
    refine i_X9_best_54 hI v1 x2_2 _ _ _ _ _ _ _ h6 (fun s6 x6_3 x6_4 x6_5 x6_6 e => ?_)
    subst e
    dsimp only at h
    refine v_iload_n 1 dX9_best_155 rfl rfl ?_
    refine v_iconst (-1 : Int32) dX9_best_156 (by decide) ?_
    refine v_icmp_ne 164 dX9_best_157 (by decide) h (fun h => ?_) (fun h => ?_)
    · refine v_iload_n 1 dX9_best_164 rfl rfl ?_
      refine v_bipush (-2 : Int32) dX9_best_165 (by decide) ?_
      refine v_icmp_ne 186 dX9_best_167 (by decide) h (fun h => ?_) (fun h => ?_)
      · refine v_iload dX9_best_186 rfl ?_
        refine v_lw [none, none, none, none, none, none, none, none] rfl trivial ?_
        exact t_X9_best_188 hI x6_5 s6 _ h ho
      · refine v_iload_n 3 dX9_best_170 rfl rfl ?_
        refine v_bipush (-4 : Int32) dX9_best_171 (by decide) ?_
        refine v_icmp_ne 181 dX9_best_173 (by decide) h (fun h => ?_) (fun h => ?_)
        · refine v_iload dX9_best_181 rfl ?_
          refine v_goto 188 dX9_best_183 (by decide) ?_
          refine v_lw [none, none, none, none, none, none, none, none] rfl trivial ?_
          exact t_X9_best_188 hI x6_4 s6 _ h ho
        · refine v_bipush (-4 : Int32) dX9_best_176 (by decide) ?_
          refine v_goto 188 dX9_best_178 (by decide) ?_
          refine v_lw [none, none, none, none, none, none, none, none] rfl trivial ?_
          exact t_X9_best_188 hI (-4 : Int32) s6 _ h ho
    · refine v_iload_n 3 dX9_best_160 rfl rfl ?_
      refine v_goto 188 dX9_best_161 (by decide) ?_
      refine v_lw [none, none, none, none, none, none, none, none] rfl trivial ?_
      exact t_X9_best_188 hI x6_3 s6 _ h ho
  · refine v_iconst (-1 : Int32) dX9_best_6 (by decide) ?_
    exact v_iret rfl (ho _ _ (Option.some.inj h).symm) dX9_best_7
theorem c_X9_best {w : fm_W} {l : Launch} (hI : fm_I w 11) {v1 : Int32} {s : fm_M} {r : Int32} {s2 : fm_M} (h : f_X9_best v1 s = some (r, s2)) : fm_C w layM 11 l yX9_best cX9_best 8 (some .int) rm_X9_best [.ref (fm_ad w 0), .int v1] s (some (.int r), s2) :=
  fm_of hI (by decide) rfl (Nat.le_of_ble_eq_true rfl) (e_X9_best hI v1 s _ h (fun r s e => by cases e; rfl))
-- X9_isChild
abbrev rm_X9_isChild : Room := { frames := 1, cells := 0, slots := 0, locals := 22 }
def f_X9_isChild (v1 : Int32) (s : fm_M) : Option (Int32 × fm_M) :=
  if fm_in (0 : Int32) 17 = true then fm_bd (f_X9_in v1 (0 : Int32) ((s 2 (0 : Int32).toNatClampNeg) - (1 : Int32)) s) (fun r1 s1 => if fm_b r1 = true then some (r1, s1) else none) else none
set_option maxHeartbeats 4000000 in
theorem e_X9_isChild {w : fm_W} {l : Launch} {o : fm_O} (hI : fm_I w 11) (v1 : Int32) (s : fm_M) (z : Int32 × fm_M) (h : f_X9_isChild v1 s = some z) (ho : ∀ (r : Int32) (s : fm_M), z = (r, s) → o = (some (.int r), s)) : fm_V w layM 11 l rm_X9_isChild cX9_isChild 2 RX9 (some .boolean) o 0 [some (.ref (fm_ad w 0)), some (.int v1)] [] s := by
  unfold f_X9_isChild at h
  refine v_iload_n 1 dX9_isChild_0 rfl rfl ?_
  refine v_iconst (0 : Int32) dX9_isChild_1 (by decide) ?_
  refine v_aload_n 0 dX9_isChild_2 rfl rfl ?_
  refine v_getr 2 g_X9_13 yM_0 (by decide) rfl dX9_isChild_3 ?_
  refine v_iconst (0 : Int32) dX9_isChild_6 (by decide) ?_
  obtain ⟨hi, h⟩ := fm_ift h
  refine v_iald (Or.inl ⟨(by decide), yM_2⟩) hi dX9_isChild_7 ?_
  refine v_iconst (1 : Int32) dX9_isChild_8 (by decide) ?_
  refine v_isub dX9_isChild_9 ?_
  obtain ⟨r1, s1, h1, h⟩ := fm_bds h
  refine v_cSi [.int v1, .int (0 : Int32), .int ((s 2 (0 : Int32).toNatClampNeg) - (1 : Int32))] [] l_X9_50 (c_X9_in hI h1) rfl rfl ⟨rfl, rfl, by decide, by decide⟩ (Nat.le_of_ble_eq_true rfl) dX9_isChild_10 ?_
  obtain ⟨hb, h⟩ := fm_ift h
  exact v_zret rfl (fm_b_nar hb).1 (ho _ _ (Option.some.inj h).symm) dX9_isChild_13
theorem c_X9_isChild {w : fm_W} {l : Launch} (hI : fm_I w 11) {v1 : Int32} {s : fm_M} {r : Int32} {s2 : fm_M} (h : f_X9_isChild v1 s = some (r, s2)) : fm_C w layM 11 l yX9_isChild cX9_isChild 2 (some .boolean) rm_X9_isChild [.ref (fm_ad w 0), .int v1] s (some (.int r), s2) :=
  fm_of hI (by decide) rfl (Nat.le_of_ble_eq_true rfl) (e_X9_isChild hI v1 s _ h (fun r s e => by cases e; rfl))
-- X9_whoHas
abbrev rm_X9_whoHas : Room := { frames := 0, cells := 0, slots := 0, locals := 0 }
def f_X9_whoHas_46 (v1 : Int32) (v3 : Int32) (sk0 : Int32) (s : fm_M) : Option ((fm_M × Int32 × Int32) ⊕ (fm_M × Int32 × Int32)) :=
  some (.inl (s, sk0, (v3 + (1 : Int32))))
set_option maxHeartbeats 4000000 in
theorem t_X9_whoHas_46 {w : fm_W} {l : Launch} {o : fm_O} (hI : fm_I w 11) (v1 : Int32) (v3 : Int32) (sk0 : Int32) (s : fm_M) (z : (fm_M × Int32 × Int32) ⊕ (fm_M × Int32 × Int32)) (h : f_X9_whoHas_46 v1 v3 sk0 s = some z) (kb : ∀ (s : fm_M) (u2 : Int32) (u3 : Int32), z = .inl (s, u2, u3) → fm_V w layM 11 l rm_X9_whoHas cX9_whoHas 4 RX9 (some .int) o 5 [some (.ref (fm_ad w 0)), some (.int v1), some (.int u2), some (.int u3)] [] s) (ke : ∀ (s : fm_M) (u2 : Int32) (u3 : Int32), z = .inr (s, u2, u3) → fm_V w layM 11 l rm_X9_whoHas cX9_whoHas 4 RX9 (some .int) o 53 [some (.ref (fm_ad w 0)), some (.int v1), some (.int u2), some (.int u3)] [] s) : fm_V w layM 11 l rm_X9_whoHas cX9_whoHas 4 RX9 (some .int) o 46 [some (.ref (fm_ad w 0)), some (.int v1), none, some (.int v3)] [.int sk0] s := by
  unfold f_X9_whoHas_46 at h
  refine v_istore_n (lv' := [some (.ref (fm_ad w 0)), some (.int v1), some (.int sk0), some (.int v3)]) 2 dX9_whoHas_46 rfl (by decide) rfl rfl ?_
  refine v_iinc (lv' := [some (.ref (fm_ad w 0)), some (.int v1), some (.int sk0), some (.int (v3 + (1 : Int32)))]) (1 : Int32) dX9_whoHas_47 rfl (by decide) (by decide) rfl rfl ?_
  refine v_goto 5 dX9_whoHas_50 (by decide) ?_
  refine v_lw [some (.ref (fm_ad w 0)), some (.int v1), some (.int sk0), some (.int (v3 + (1 : Int32)))] rfl ⟨rfl, rfl, rfl, rfl, trivial⟩ ?_
  exact kb _ _ _ (Option.some.inj h).symm
def f_X9_whoHas_45 (v1 : Int32) (v2 : Int32) (v3 : Int32) (s : fm_M) : Option ((fm_M × Int32 × Int32) ⊕ (fm_M × Int32 × Int32)) :=
  f_X9_whoHas_46 v1 v3 v2 s
set_option maxHeartbeats 4000000 in
theorem t_X9_whoHas_45 {w : fm_W} {l : Launch} {o : fm_O} (hI : fm_I w 11) (v1 : Int32) (v2 : Int32) (v3 : Int32) (s : fm_M) (z : (fm_M × Int32 × Int32) ⊕ (fm_M × Int32 × Int32)) (h : f_X9_whoHas_45 v1 v2 v3 s = some z) (kb : ∀ (s : fm_M) (u2 : Int32) (u3 : Int32), z = .inl (s, u2, u3) → fm_V w layM 11 l rm_X9_whoHas cX9_whoHas 4 RX9 (some .int) o 5 [some (.ref (fm_ad w 0)), some (.int v1), some (.int u2), some (.int u3)] [] s) (ke : ∀ (s : fm_M) (u2 : Int32) (u3 : Int32), z = .inr (s, u2, u3) → fm_V w layM 11 l rm_X9_whoHas cX9_whoHas 4 RX9 (some .int) o 53 [some (.ref (fm_ad w 0)), some (.int v1), some (.int u2), some (.int u3)] [] s) : fm_V w layM 11 l rm_X9_whoHas cX9_whoHas 4 RX9 (some .int) o 45 [some (.ref (fm_ad w 0)), some (.int v1), some (.int v2), some (.int v3)] [] s := by
  unfold f_X9_whoHas_45 at h
  refine v_iload_n 2 dX9_whoHas_45 rfl rfl ?_
  refine v_lw [some (.ref (fm_ad w 0)), some (.int v1), none, some (.int v3)] rfl ⟨rfl, rfl, rfl, trivial⟩ ?_
  exact t_X9_whoHas_46 hI v1 v3 v2 s _ h kb ke
def f_X9_whoHas_5 (v1 : Int32) (s : fm_M) (v2 : Int32) (v3 : Int32) : Option ((fm_M × Int32 × Int32) ⊕ (fm_M × Int32 × Int32)) :=
  if fm_in (1 : Int32) 17 = true then if (s 2 (1 : Int32).toNatClampNeg) ≤ v3 then some (.inr (s, v2, v3)) else if fm_in ((18 : Int32) + v3) 29 = true then if (s 4 ((18 : Int32) + v3).toNatClampNeg) = (1 : Int32) then if fm_in ((24 : Int32) + v3) 29 = true then if (s 4 ((24 : Int32) + v3).toNatClampNeg) = v1 then f_X9_whoHas_46 v1 v3 v3 s else f_X9_whoHas_45 v1 v2 v3 s else none else f_X9_whoHas_45 v1 v2 v3 s else none else none
set_option maxHeartbeats 4000000 in
theorem t_X9_whoHas_5 {w : fm_W} {l : Launch} {o : fm_O} (hI : fm_I w 11) (v1 : Int32) (s : fm_M) (v2 : Int32) (v3 : Int32) (z : (fm_M × Int32 × Int32) ⊕ (fm_M × Int32 × Int32)) (h : f_X9_whoHas_5 v1 s v2 v3 = some z) (kb : ∀ (s : fm_M) (u2 : Int32) (u3 : Int32), z = .inl (s, u2, u3) → fm_V w layM 11 l rm_X9_whoHas cX9_whoHas 4 RX9 (some .int) o 5 [some (.ref (fm_ad w 0)), some (.int v1), some (.int u2), some (.int u3)] [] s) (ke : ∀ (s : fm_M) (u2 : Int32) (u3 : Int32), z = .inr (s, u2, u3) → fm_V w layM 11 l rm_X9_whoHas cX9_whoHas 4 RX9 (some .int) o 53 [some (.ref (fm_ad w 0)), some (.int v1), some (.int u2), some (.int u3)] [] s) : fm_V w layM 11 l rm_X9_whoHas cX9_whoHas 4 RX9 (some .int) o 5 [some (.ref (fm_ad w 0)), some (.int v1), some (.int v2), some (.int v3)] [] s := by
  unfold f_X9_whoHas_5 at h
  refine v_iload_n 3 dX9_whoHas_5 rfl rfl ?_
  refine v_aload_n 0 dX9_whoHas_6 rfl rfl ?_
  refine v_getr 2 g_X9_13 yM_0 (by decide) rfl dX9_whoHas_7 ?_
  refine v_iconst (1 : Int32) dX9_whoHas_10 (by decide) ?_
  obtain ⟨hi, h⟩ := fm_ift h
  refine v_iald (Or.inl ⟨(by decide), yM_2⟩) hi dX9_whoHas_11 ?_
  refine v_icmp_ge 53 dX9_whoHas_12 (by decide) h (fun h => ?_) (fun h => ?_)
  · refine v_lw [some (.ref (fm_ad w 0)), some (.int v1), some (.int v2), some (.int v3)] rfl ⟨rfl, rfl, rfl, rfl, trivial⟩ ?_
    exact ke _ _ _ (Option.some.inj h).symm
  · refine v_aload_n 0 dX9_whoHas_15 rfl rfl ?_
    refine v_getr 4 g_X9_19 yM_0 (by decide) rfl dX9_whoHas_16 ?_
    refine v_bipush (18 : Int32) dX9_whoHas_19 (by decide) ?_
    refine v_iload_n 3 dX9_whoHas_21 rfl rfl ?_
    refine v_iadd dX9_whoHas_22 ?_
    obtain ⟨hi, h⟩ := fm_ift h
    refine v_iald (Or.inl ⟨(by decide), yM_4⟩) hi dX9_whoHas_23 ?_
    refine v_iconst (1 : Int32) dX9_whoHas_24 (by decide) ?_
    refine v_icmp_ne 45 dX9_whoHas_25 (by decide) h (fun h => ?_) (fun h => ?_)
    · refine v_lw [some (.ref (fm_ad w 0)), some (.int v1), some (.int v2), some (.int v3)] rfl ⟨rfl, rfl, rfl, rfl, trivial⟩ ?_
      exact t_X9_whoHas_45 hI v1 v2 v3 s _ h kb ke
    · refine v_aload_n 0 dX9_whoHas_28 rfl rfl ?_
      refine v_getr 4 g_X9_19 yM_0 (by decide) rfl dX9_whoHas_29 ?_
      refine v_bipush (24 : Int32) dX9_whoHas_32 (by decide) ?_
      refine v_iload_n 3 dX9_whoHas_34 rfl rfl ?_
      refine v_iadd dX9_whoHas_35 ?_
      obtain ⟨hi, h⟩ := fm_ift h
      refine v_iald (Or.inl ⟨(by decide), yM_4⟩) hi dX9_whoHas_36 ?_
      refine v_iload_n 1 dX9_whoHas_37 rfl rfl ?_
      refine v_icmp_ne 45 dX9_whoHas_38 (by decide) h (fun h => ?_) (fun h => ?_)
      · refine v_lw [some (.ref (fm_ad w 0)), some (.int v1), some (.int v2), some (.int v3)] rfl ⟨rfl, rfl, rfl, rfl, trivial⟩ ?_
        exact t_X9_whoHas_45 hI v1 v2 v3 s _ h kb ke
      · refine v_iload_n 3 dX9_whoHas_41 rfl rfl ?_
        refine v_goto 46 dX9_whoHas_42 (by decide) ?_
        refine v_lw [some (.ref (fm_ad w 0)), some (.int v1), none, some (.int v3)] rfl ⟨rfl, rfl, rfl, trivial⟩ ?_
        exact t_X9_whoHas_46 hI v1 v3 v3 s _ h kb ke
set_option maxHeartbeats 4000000 in
theorem i_X9_whoHas_5 {w : fm_W} {l : Launch} {o : fm_O} (hI : fm_I w 11) (v1 : Int32) (n : Nat) (s : fm_M) (v2 : Int32) (v3 : Int32) (q : fm_M × Int32 × Int32) (h : fm_it (fun s => f_X9_whoHas_5 v1 s.1 s.2.1 s.2.2) n (s, v2, v3) = some q) (ke : ∀ (s : fm_M) (u2 : Int32) (u3 : Int32), q = (s, u2, u3) → fm_V w layM 11 l rm_X9_whoHas cX9_whoHas 4 RX9 (some .int) o 53 [some (.ref (fm_ad w 0)), some (.int v1), some (.int u2), some (.int u3)] [] s) : fm_V w layM 11 l rm_X9_whoHas cX9_whoHas 4 RX9 (some .int) o 5 [some (.ref (fm_ad w 0)), some (.int v1), some (.int v2), some (.int v3)] [] s :=
  fm_it_loop (body := (fun s => f_X9_whoHas_5 v1 s.1 s.2.1 s.2.2)) (P := fun s => fm_V w layM 11 l rm_X9_whoHas cX9_whoHas 4 RX9 (some .int) o 5 [some (.ref (fm_ad w 0)), some (.int v1), some (.int s.2.1), some (.int s.2.2)] [] s.1) (K := (fun q : fm_M × Int32 × Int32 => (∀ (s : fm_M) (u2 : Int32) (u3 : Int32), q = (s, u2, u3) → fm_V w layM 11 l rm_X9_whoHas cX9_whoHas 4 RX9 (some .int) o 53 [some (.ref (fm_ad w 0)), some (.int v1), some (.int u2), some (.int u3)] [] s))) (fun s z hb kl kx => t_X9_whoHas_5 hI v1 s.1 s.2.1 s.2.2 z hb (fun s u2 u3 e => kl _ e) (fun s u2 u3 e => (kx _ e) s u2 u3 rfl)) n (s, v2, v3) q h ke
def f_X9_whoHas (v1 : Int32) (s : fm_M) : Option (Int32 × fm_M) :=
  fm_op (fm_it (fun (yy : fm_M × Int32 × Int32) => f_X9_whoHas_5 v1 yy.1 yy.2.1 yy.2.2) fm_fu (s, (-4 : Int32), (0 : Int32))) (fun q1 => ((fun (s1 : fm_M) (x1_2 : Int32) (x1_3 : Int32) => some (x1_2, s1))) q1.1 q1.2.1 q1.2.2)
set_option maxHeartbeats 4000000 in
theorem e_X9_whoHas {w : fm_W} {l : Launch} {o : fm_O} (hI : fm_I w 11) (v1 : Int32) (s : fm_M) (z : Int32 × fm_M) (h : f_X9_whoHas v1 s = some z) (ho : ∀ (r : Int32) (s : fm_M), z = (r, s) → o = (some (.int r), s)) : fm_V w layM 11 l rm_X9_whoHas cX9_whoHas 4 RX9 (some .int) o 0 [some (.ref (fm_ad w 0)), some (.int v1), none, none] [] s := by
  unfold f_X9_whoHas at h
  refine v_bipush (-4 : Int32) dX9_whoHas_0 (by decide) ?_
  refine v_istore_n (lv' := [some (.ref (fm_ad w 0)), some (.int v1), some (.int (-4 : Int32)), none]) 2 dX9_whoHas_2 rfl (by decide) rfl rfl ?_
  refine v_iconst (0 : Int32) dX9_whoHas_3 (by decide) ?_
  refine v_istore_n (lv' := [some (.ref (fm_ad w 0)), some (.int v1), some (.int (-4 : Int32)), some (.int (0 : Int32))]) 3 dX9_whoHas_4 rfl (by decide) rfl rfl ?_
  obtain ⟨q1, h1, h⟩ := fm_ops h
  refine v_lw [some (.ref (fm_ad w 0)), some (.int v1), some (.int (-4 : Int32)), some (.int (0 : Int32))] rfl ⟨rfl, rfl, rfl, rfl, trivial⟩ ?_
  refine i_X9_whoHas_5 hI v1 _ _ _ _ _ h1 (fun s1 x1_2 x1_3 e => ?_)
  subst e
  dsimp only at h
  refine v_iload_n 2 dX9_whoHas_53 rfl rfl ?_
  exact v_iret rfl (ho _ _ (Option.some.inj h).symm) dX9_whoHas_54
theorem c_X9_whoHas {w : fm_W} {l : Launch} (hI : fm_I w 11) {v1 : Int32} {s : fm_M} {r : Int32} {s2 : fm_M} (h : f_X9_whoHas v1 s = some (r, s2)) : fm_C w layM 11 l yX9_whoHas cX9_whoHas 4 (some .int) rm_X9_whoHas [.ref (fm_ad w 0), .int v1] s (some (.int r), s2) :=
  fm_of hI (by decide) rfl (Nat.le_of_ble_eq_true rfl) (e_X9_whoHas hI v1 s _ h (fun r s e => by cases e; rfl))
-- X9_child
abbrev rm_X9_child : Room := { frames := 2, cells := 0, slots := 0, locals := 44 }
def f_X9_child_88 (sk0 : Int32) (s : fm_M) : Option (Int32 × fm_M) :=
  some (sk0, s)
set_option maxHeartbeats 4000000 in
theorem t_X9_child_88 {w : fm_W} {l : Launch} {o : fm_O} (hI : fm_I w 11) (sk0 : Int32) (s : fm_M) (z : Int32 × fm_M) (h : f_X9_child_88 sk0 s = some z) (ho : ∀ (r : Int32) (s : fm_M), z = (r, s) → o = (some (.int r), s)) : fm_V w layM 11 l rm_X9_child cX9_child 3 RX9 (some .int) o 88 [none, none, none] [.int sk0] s := by
  unfold f_X9_child_88 at h
  exact v_iret rfl (ho _ _ (Option.some.inj h).symm) dX9_child_88
def f_X9_child (v1 : Int32) (v2 : Int32) (s : fm_M) : Option (Int32 × fm_M) :=
  fm_bd (f_X9_isChild v1 s) (fun r1 s1 => if r1 = 0 then some ((-1 : Int32), s1) else if v2 = (0 : Int32) then if fm_in ((5 : Int32) + v1) 17 = true then some ((s1 2 ((5 : Int32) + v1).toNatClampNeg), s1) else none else if v2 = (1 : Int32) then if fm_in v1 29 = true then some ((s1 4 v1.toNatClampNeg), s1) else none else if v2 = (2 : Int32) then if fm_in v1 29 = true then if (s1 4 v1.toNatClampNeg) = (2 : Int32) then if fm_in ((6 : Int32) + v1) 29 = true then f_X9_child_88 (s1 4 ((6 : Int32) + v1).toNatClampNeg) s1 else none else f_X9_child_88 (-4 : Int32) s1 else none else if v2 = (3 : Int32) then fm_bd (f_X9_whoHas v1 s1) (fun r2 s2 => some (r2, s2)) else if v2 = (4 : Int32) then fm_bd (f_X9_minutesOf v1 s1) (fun r3 s3 => some (r3, s3)) else if v2 = (5 : Int32) then if fm_in ((12 : Int32) + v1) 29 = true then some ((s1 4 ((12 : Int32) + v1).toNatClampNeg), s1) else none else some ((-1 : Int32), s1))
set_option maxHeartbeats 4000000 in
theorem e_X9_child {w : fm_W} {l : Launch} {o : fm_O} (hI : fm_I w 11) (v1 : Int32) (v2 : Int32) (s : fm_M) (z : Int32 × fm_M) (h : f_X9_child v1 v2 s = some z) (ho : ∀ (r : Int32) (s : fm_M), z = (r, s) → o = (some (.int r), s)) : fm_V w layM 11 l rm_X9_child cX9_child 3 RX9 (some .int) o 0 [some (.ref (fm_ad w 0)), some (.int v1), some (.int v2)] [] s := by
  unfold f_X9_child at h
  refine v_aload_n 0 dX9_child_0 rfl rfl ?_
  refine v_iload_n 1 dX9_child_1 rfl rfl ?_
  obtain ⟨r1, s1, h1, h⟩ := fm_bds h
  refine v_cVi [.int v1] [] l_X9_99 (c_X9_isChild hI h1) yM_0 (by decide) rfl rfl ⟨rfl, rfl, by decide, by decide⟩ (Nat.le_of_ble_eq_true rfl) dX9_child_2 ?_
  refine v_if_ne 10 dX9_child_5 (by decide) h (fun h => ?_) (fun h => ?_)
  · refine v_iload_n 2 dX9_child_10 rfl rfl ?_
    by_cases hx0 : v2 = (0 : Int32)
    · rw [if_pos hx0] at h
      refine v_tabIn (off := 37) 0 48 dX9_child_11 hx0 (by decide) (by decide) ?_
      refine v_aload_n 0 dX9_child_48 rfl rfl ?_
      refine v_getr 2 g_X9_13 yM_0 (by decide) rfl dX9_child_49 ?_
      refine v_iconst (5 : Int32) dX9_child_52 (by decide) ?_
      refine v_iload_n 1 dX9_child_53 rfl rfl ?_
      refine v_iadd dX9_child_54 ?_
      obtain ⟨hi, h⟩ := fm_ift h
      refine v_iald (Or.inl ⟨(by decide), yM_2⟩) hi dX9_child_55 ?_
      exact v_iret rfl (ho _ _ (Option.some.inj h).symm) dX9_child_56
    rw [if_neg hx0] at h
    by_cases hx1 : v2 = (1 : Int32)
    · rw [if_pos hx1] at h
      refine v_tabIn (off := 46) 1 57 dX9_child_11 hx1 (by decide) (by decide) ?_
      refine v_aload_n 0 dX9_child_57 rfl rfl ?_
      refine v_getr 4 g_X9_19 yM_0 (by decide) rfl dX9_child_58 ?_
      refine v_iload_n 1 dX9_child_61 rfl rfl ?_
      obtain ⟨hi, h⟩ := fm_ift h
      refine v_iald (Or.inl ⟨(by decide), yM_4⟩) hi dX9_child_62 ?_
      exact v_iret rfl (ho _ _ (Option.some.inj h).symm) dX9_child_63
    rw [if_neg hx1] at h
    by_cases hx2 : v2 = (2 : Int32)
    · rw [if_pos hx2] at h
      refine v_tabIn (off := 53) 2 64 dX9_child_11 hx2 (by decide) (by decide) ?_
      refine v_aload_n 0 dX9_child_64 rfl rfl ?_
      refine v_getr 4 g_X9_19 yM_0 (by decide) rfl dX9_child_65 ?_
      refine v_iload_n 1 dX9_child_68 rfl rfl ?_
      obtain ⟨hi, h⟩ := fm_ift h
      refine v_iald (Or.inl ⟨(by decide), yM_4⟩) hi dX9_child_69 ?_
      refine v_iconst (2 : Int32) dX9_child_70 (by decide) ?_
      refine v_icmp_ne 86 dX9_child_71 (by decide) h (fun h => ?_) (fun h => ?_)
      · refine v_bipush (-4 : Int32) dX9_child_86 (by decide) ?_
        refine v_lw [none, none, none] rfl trivial ?_
        exact t_X9_child_88 hI (-4 : Int32) s1 _ h ho
      · refine v_aload_n 0 dX9_child_74 rfl rfl ?_
        refine v_getr 4 g_X9_19 yM_0 (by decide) rfl dX9_child_75 ?_
        refine v_bipush (6 : Int32) dX9_child_78 (by decide) ?_
        refine v_iload_n 1 dX9_child_80 rfl rfl ?_
        refine v_iadd dX9_child_81 ?_
        obtain ⟨hi, h⟩ := fm_ift h
        refine v_iald (Or.inl ⟨(by decide), yM_4⟩) hi dX9_child_82 ?_
        refine v_goto 88 dX9_child_83 (by decide) ?_
        refine v_lw [none, none, none] rfl trivial ?_
        exact t_X9_child_88 hI (s1 4 ((6 : Int32) + v1).toNatClampNeg) s1 _ h ho
    rw [if_neg hx2] at h
    by_cases hx3 : v2 = (3 : Int32)
    · rw [if_pos hx3] at h
      refine v_tabIn (off := 78) 3 89 dX9_child_11 hx3 (by decide) (by decide) ?_
      refine v_aload_n 0 dX9_child_89 rfl rfl ?_
      refine v_iload_n 1 dX9_child_90 rfl rfl ?_
      obtain ⟨r2, s2, h2, h⟩ := fm_bds h
      refine v_cVi [.int v1] [] l_X9_102 (c_X9_whoHas hI h2) yM_0 (by decide) rfl rfl ⟨rfl, rfl, by decide, by decide⟩ (Nat.le_of_ble_eq_true rfl) dX9_child_91 ?_
      exact v_iret rfl (ho _ _ (Option.some.inj h).symm) dX9_child_94
    rw [if_neg hx3] at h
    by_cases hx4 : v2 = (4 : Int32)
    · rw [if_pos hx4] at h
      refine v_tabIn (off := 84) 4 95 dX9_child_11 hx4 (by decide) (by decide) ?_
      refine v_aload_n 0 dX9_child_95 rfl rfl ?_
      refine v_iload_n 1 dX9_child_96 rfl rfl ?_
      obtain ⟨r3, s3, h3, h⟩ := fm_bds h
      refine v_cVi [.int v1] [] l_X9_105 (c_X9_minutesOf hI h3) yM_0 (by decide) rfl rfl ⟨rfl, rfl, by decide, by decide⟩ (Nat.le_of_ble_eq_true rfl) dX9_child_97 ?_
      exact v_iret rfl (ho _ _ (Option.some.inj h).symm) dX9_child_100
    rw [if_neg hx4] at h
    by_cases hx5 : v2 = (5 : Int32)
    · rw [if_pos hx5] at h
      refine v_tabIn (off := 90) 5 101 dX9_child_11 hx5 (by decide) (by decide) ?_
      refine v_aload_n 0 dX9_child_101 rfl rfl ?_
      refine v_getr 4 g_X9_19 yM_0 (by decide) rfl dX9_child_102 ?_
      refine v_bipush (12 : Int32) dX9_child_105 (by decide) ?_
      refine v_iload_n 1 dX9_child_107 rfl rfl ?_
      refine v_iadd dX9_child_108 ?_
      obtain ⟨hi, h⟩ := fm_ift h
      refine v_iald (Or.inl ⟨(by decide), yM_4⟩) hi dX9_child_109 ?_
      exact v_iret rfl (ho _ _ (Option.some.inj h).symm) dX9_child_110
    rw [if_neg hx5] at h
    have hn0 := lv_neT hx0 (a := 0) (by decide)
    have hn1 := lv_neT hx1 (a := 1) (by decide)
    have hn2 := lv_neT hx2 (a := 2) (by decide)
    have hn3 := lv_neT hx3 (a := 3) (by decide)
    have hn4 := lv_neT hx4 (a := 4) (by decide)
    have hn5 := lv_neT hx5 (a := 5) (by decide)
    refine v_tabOut 111 dX9_child_11 (by omega) (by decide) ?_
    refine v_iconst (-1 : Int32) dX9_child_111 (by decide) ?_
    exact v_iret rfl (ho _ _ (Option.some.inj h).symm) dX9_child_112
  · refine v_iconst (-1 : Int32) dX9_child_8 (by decide) ?_
    exact v_iret rfl (ho _ _ (Option.some.inj h).symm) dX9_child_9
theorem c_X9_child {w : fm_W} {l : Launch} (hI : fm_I w 11) {v1 : Int32} {v2 : Int32} {s : fm_M} {r : Int32} {s2 : fm_M} (h : f_X9_child v1 v2 s = some (r, s2)) : fm_C w layM 11 l yX9_child cX9_child 3 (some .int) rm_X9_child [.ref (fm_ad w 0), .int v1, .int v2] s (some (.int r), s2) :=
  fm_of hI (by decide) rfl (Nat.le_of_ble_eq_true rfl) (e_X9_child hI v1 v2 s _ h (fun r s e => by cases e; rfl))
-- X9_childOf
abbrev rm_X9_childOf : Room := { frames := 0, cells := 0, slots := 0, locals := 0 }
def f_X9_childOf (v1 : Int32) (v2 : Int32) (s : fm_M) : Option (Int32 × fm_M) :=
  if fm_in (0 : Int32) 17 = true then if fm_in ((5 : Int32) + (s 3 (0 : Int32).toNatClampNeg)) 17 = true then if fm_in (0 : Int32) 17 = true then if fm_in ((11 : Int32) + ((fm_up s 3 ((5 : Int32) + (s 3 (0 : Int32).toNatClampNeg)).toNatClampNeg v1) 3 (0 : Int32).toNatClampNeg)) 17 = true then if fm_in (0 : Int32) 17 = true then if fm_in (0 : Int32) 17 = true then some (0, (fm_up (fm_up (fm_up s 3 ((5 : Int32) + (s 3 (0 : Int32).toNatClampNeg)).toNatClampNeg v1) 3 ((11 : Int32) + ((fm_up s 3 ((5 : Int32) + (s 3 (0 : Int32).toNatClampNeg)).toNatClampNeg v1) 3 (0 : Int32).toNatClampNeg)).toNatClampNeg v2) 3 (0 : Int32).toNatClampNeg (((fm_up (fm_up s 3 ((5 : Int32) + (s 3 (0 : Int32).toNatClampNeg)).toNatClampNeg v1) 3 ((11 : Int32) + ((fm_up s 3 ((5 : Int32) + (s 3 (0 : Int32).toNatClampNeg)).toNatClampNeg v1) 3 (0 : Int32).toNatClampNeg)).toNatClampNeg v2) 3 (0 : Int32).toNatClampNeg) + (1 : Int32)))) else none else none else none else none else none else none
set_option maxHeartbeats 4000000 in
theorem e_X9_childOf {w : fm_W} {l : Launch} {o : fm_O} (hI : fm_I w 11) (v1 : Int32) (v2 : Int32) (s : fm_M) (z : Int32 × fm_M) (h : f_X9_childOf v1 v2 s = some z) (ho : ∀ (r : Int32) (s : fm_M), z = (r, s) → o = (none, s)) : fm_V w layM 11 l rm_X9_childOf cX9_childOf 3 RX9 none o 0 [some (.ref (fm_ad w 0)), some (.int v1), some (.int v2)] [] s := by
  unfold f_X9_childOf at h
  refine v_aload_n 0 dX9_childOf_0 rfl rfl ?_
  refine v_getr 3 g_X9_16 yM_0 (by decide) rfl dX9_childOf_1 ?_
  refine v_iconst (5 : Int32) dX9_childOf_4 (by decide) ?_
  refine v_aload_n 0 dX9_childOf_5 rfl rfl ?_
  refine v_getr 3 g_X9_16 yM_0 (by decide) rfl dX9_childOf_6 ?_
  refine v_iconst (0 : Int32) dX9_childOf_9 (by decide) ?_
  obtain ⟨hi, h⟩ := fm_ift h
  refine v_iald (Or.inl ⟨(by decide), yM_3⟩) hi dX9_childOf_10 ?_
  refine v_iadd dX9_childOf_11 ?_
  refine v_iload_n 1 dX9_childOf_12 rfl rfl ?_
  obtain ⟨hi, h⟩ := fm_ift h
  refine v_iast (by decide) yM_3 hi dX9_childOf_13 ?_
  refine v_aload_n 0 dX9_childOf_14 rfl rfl ?_
  refine v_getr 3 g_X9_16 yM_0 (by decide) rfl dX9_childOf_15 ?_
  refine v_bipush (11 : Int32) dX9_childOf_18 (by decide) ?_
  refine v_aload_n 0 dX9_childOf_20 rfl rfl ?_
  refine v_getr 3 g_X9_16 yM_0 (by decide) rfl dX9_childOf_21 ?_
  refine v_iconst (0 : Int32) dX9_childOf_24 (by decide) ?_
  obtain ⟨hi, h⟩ := fm_ift h
  refine v_iald (Or.inl ⟨(by decide), yM_3⟩) hi dX9_childOf_25 ?_
  refine v_iadd dX9_childOf_26 ?_
  refine v_iload_n 2 dX9_childOf_27 rfl rfl ?_
  obtain ⟨hi, h⟩ := fm_ift h
  refine v_iast (by decide) yM_3 hi dX9_childOf_28 ?_
  refine v_aload_n 0 dX9_childOf_29 rfl rfl ?_
  refine v_getr 3 g_X9_16 yM_0 (by decide) rfl dX9_childOf_30 ?_
  refine v_iconst (0 : Int32) dX9_childOf_33 (by decide) ?_
  refine v_dup2 dX9_childOf_34 rfl rfl ?_
  obtain ⟨hi, h⟩ := fm_ift h
  refine v_iald (Or.inl ⟨(by decide), yM_3⟩) hi dX9_childOf_35 ?_
  refine v_iconst (1 : Int32) dX9_childOf_36 (by decide) ?_
  refine v_iadd dX9_childOf_37 ?_
  obtain ⟨hi, h⟩ := fm_ift h
  refine v_iast (by decide) yM_3 hi dX9_childOf_38 ?_
  exact v_vret rfl (ho _ _ (Option.some.inj h).symm) dX9_childOf_39
theorem c_X9_childOf {w : fm_W} {l : Launch} (hI : fm_I w 11) {v1 : Int32} {v2 : Int32} {s : fm_M} {r : Int32} {s2 : fm_M} (h : f_X9_childOf v1 v2 s = some (r, s2)) : fm_C w layM 11 l yX9_childOf cX9_childOf 3 none rm_X9_childOf [.ref (fm_ad w 0), .int v1, .int v2] s (none, s2) :=
  fm_of hI (by decide) rfl (Nat.le_of_ble_eq_true rfl) (e_X9_childOf hI v1 v2 s _ h (fun r s e => by cases e; rfl))
-- X9_count
abbrev rm_X9_count : Room := { frames := 2, cells := 0, slots := 0, locals := 46 }
def f_X9_count_4 (v1 : Int32) (s : fm_M) (v2 : Int32) (v3 : Int32) : Option ((fm_M × Int32 × Int32) ⊕ (fm_M × Int32 × Int32)) :=
  if fm_in (0 : Int32) 17 = true then if (s 2 (0 : Int32).toNatClampNeg) ≤ v3 then some (.inr (s, v2, v3)) else if fm_in ((12 : Int32) + v3) 29 = true then some (.inl (s, (v2 + (s 4 ((12 : Int32) + v3).toNatClampNeg)), (v3 + (1 : Int32)))) else none else none
set_option maxHeartbeats 4000000 in
theorem t_X9_count_4 {w : fm_W} {l : Launch} {o : fm_O} (hI : fm_I w 11) (v1 : Int32) (s : fm_M) (v2 : Int32) (v3 : Int32) (z : (fm_M × Int32 × Int32) ⊕ (fm_M × Int32 × Int32)) (h : f_X9_count_4 v1 s v2 v3 = some z) (kb : ∀ (s : fm_M) (u2 : Int32) (u3 : Int32), z = .inl (s, u2, u3) → fm_V w layM 11 l rm_X9_count cX9_count 4 RX9 (some .int) o 4 [some (.ref (fm_ad w 0)), some (.int v1), some (.int u2), some (.int u3)] [] s) (ke : ∀ (s : fm_M) (u2 : Int32) (u3 : Int32), z = .inr (s, u2, u3) → fm_V w layM 11 l rm_X9_count cX9_count 4 RX9 (some .int) o 32 [some (.ref (fm_ad w 0)), some (.int v1), some (.int u2), some (.int u3)] [] s) : fm_V w layM 11 l rm_X9_count cX9_count 4 RX9 (some .int) o 4 [some (.ref (fm_ad w 0)), some (.int v1), some (.int v2), some (.int v3)] [] s := by
  unfold f_X9_count_4 at h
  refine v_iload_n 3 dX9_count_4 rfl rfl ?_
  refine v_aload_n 0 dX9_count_5 rfl rfl ?_
  refine v_getr 2 g_X9_13 yM_0 (by decide) rfl dX9_count_6 ?_
  refine v_iconst (0 : Int32) dX9_count_9 (by decide) ?_
  obtain ⟨hi, h⟩ := fm_ift h
  refine v_iald (Or.inl ⟨(by decide), yM_2⟩) hi dX9_count_10 ?_
  refine v_icmp_ge 32 dX9_count_11 (by decide) h (fun h => ?_) (fun h => ?_)
  · refine v_lw [some (.ref (fm_ad w 0)), some (.int v1), some (.int v2), some (.int v3)] rfl ⟨rfl, rfl, rfl, rfl, trivial⟩ ?_
    exact ke _ _ _ (Option.some.inj h).symm
  · refine v_iload_n 2 dX9_count_14 rfl rfl ?_
    refine v_aload_n 0 dX9_count_15 rfl rfl ?_
    refine v_getr 4 g_X9_19 yM_0 (by decide) rfl dX9_count_16 ?_
    refine v_bipush (12 : Int32) dX9_count_19 (by decide) ?_
    refine v_iload_n 3 dX9_count_21 rfl rfl ?_
    refine v_iadd dX9_count_22 ?_
    obtain ⟨hi, h⟩ := fm_ift h
    refine v_iald (Or.inl ⟨(by decide), yM_4⟩) hi dX9_count_23 ?_
    refine v_iadd dX9_count_24 ?_
    refine v_istore_n (lv' := [some (.ref (fm_ad w 0)), some (.int v1), some (.int (v2 + (s 4 ((12 : Int32) + v3).toNatClampNeg))), some (.int v3)]) 2 dX9_count_25 rfl (by decide) rfl rfl ?_
    refine v_iinc (lv' := [some (.ref (fm_ad w 0)), some (.int v1), some (.int (v2 + (s 4 ((12 : Int32) + v3).toNatClampNeg))), some (.int (v3 + (1 : Int32)))]) (1 : Int32) dX9_count_26 rfl (by decide) (by decide) rfl rfl ?_
    refine v_goto 4 dX9_count_29 (by decide) ?_
    refine v_lw [some (.ref (fm_ad w 0)), some (.int v1), some (.int (v2 + (s 4 ((12 : Int32) + v3).toNatClampNeg))), some (.int (v3 + (1 : Int32)))] rfl ⟨rfl, rfl, rfl, rfl, trivial⟩ ?_
    exact kb _ _ _ (Option.some.inj h).symm
set_option maxHeartbeats 4000000 in
theorem i_X9_count_4 {w : fm_W} {l : Launch} {o : fm_O} (hI : fm_I w 11) (v1 : Int32) (n : Nat) (s : fm_M) (v2 : Int32) (v3 : Int32) (q : fm_M × Int32 × Int32) (h : fm_it (fun s => f_X9_count_4 v1 s.1 s.2.1 s.2.2) n (s, v2, v3) = some q) (ke : ∀ (s : fm_M) (u2 : Int32) (u3 : Int32), q = (s, u2, u3) → fm_V w layM 11 l rm_X9_count cX9_count 4 RX9 (some .int) o 32 [some (.ref (fm_ad w 0)), some (.int v1), some (.int u2), some (.int u3)] [] s) : fm_V w layM 11 l rm_X9_count cX9_count 4 RX9 (some .int) o 4 [some (.ref (fm_ad w 0)), some (.int v1), some (.int v2), some (.int v3)] [] s :=
  fm_it_loop (body := (fun s => f_X9_count_4 v1 s.1 s.2.1 s.2.2)) (P := fun s => fm_V w layM 11 l rm_X9_count cX9_count 4 RX9 (some .int) o 4 [some (.ref (fm_ad w 0)), some (.int v1), some (.int s.2.1), some (.int s.2.2)] [] s.1) (K := (fun q : fm_M × Int32 × Int32 => (∀ (s : fm_M) (u2 : Int32) (u3 : Int32), q = (s, u2, u3) → fm_V w layM 11 l rm_X9_count cX9_count 4 RX9 (some .int) o 32 [some (.ref (fm_ad w 0)), some (.int v1), some (.int u2), some (.int u3)] [] s))) (fun s z hb kl kx => t_X9_count_4 hI v1 s.1 s.2.1 s.2.2 z hb (fun s u2 u3 e => kl _ e) (fun s u2 u3 e => (kx _ e) s u2 u3 rfl)) n (s, v2, v3) q h ke
def f_X9_count (v1 : Int32) (s : fm_M) : Option (Int32 × fm_M) :=
  fm_op (fm_it (fun (yy : fm_M × Int32 × Int32) => f_X9_count_4 v1 yy.1 yy.2.1 yy.2.2) fm_fu (s, (0 : Int32), (0 : Int32))) (fun q1 => ((fun (s1 : fm_M) (x1_2 : Int32) (x1_3 : Int32) => if v1 = (0 : Int32) then if fm_in (0 : Int32) 17 = true then some ((s1 2 (0 : Int32).toNatClampNeg), s1) else none else if v1 = (1 : Int32) then if fm_in (1 : Int32) 17 = true then some ((s1 2 (1 : Int32).toNatClampNeg), s1) else none else if v1 = (2 : Int32) then if fm_in (28 : Int32) 29 = true then some ((s1 4 (28 : Int32).toNatClampNeg), s1) else none else if v1 = (3 : Int32) then fm_bd (f_X9_children (0 : Int32) s1) (fun r2 s2 => some (r2, s2)) else if v1 = (4 : Int32) then fm_bd (f_X9_children (1 : Int32) s1) (fun r3 s3 => some (r3, s3)) else if v1 = (5 : Int32) then fm_bd (f_X9_children (2 : Int32) s1) (fun r4 s4 => some (r4, s4)) else if v1 = (6 : Int32) then fm_bd (f_X9_children (3 : Int32) s1) (fun r5 s5 => some (r5, s5)) else if v1 = (7 : Int32) then if fm_in (1 : Int32) 17 = true then fm_bd (f_X9_how (18 : Int32) (s1 2 (1 : Int32).toNatClampNeg) (0 : Int32) s1) (fun r6 s6 => some (r6, s6)) else none else if v1 = (8 : Int32) then if fm_in (27 : Int32) 29 = true then some ((s1 4 (27 : Int32).toNatClampNeg), s1) else none else if v1 = (9 : Int32) then some (x1_2, s1) else if v1 = (10 : Int32) then some ((s1 0 10), s1) else if v1 = (11 : Int32) then some ((s1 0 6), s1) else if v1 = (12 : Int32) then some ((s1 0 8), s1) else if v1 = (13 : Int32) then some ((s1 0 1), s1) else some ((-1 : Int32), s1))) q1.1 q1.2.1 q1.2.2)
set_option maxHeartbeats 4000000 in
theorem e_X9_count {w : fm_W} {l : Launch} {o : fm_O} (hI : fm_I w 11) (v1 : Int32) (s : fm_M) (z : Int32 × fm_M) (h : f_X9_count v1 s = some z) (ho : ∀ (r : Int32) (s : fm_M), z = (r, s) → o = (some (.int r), s)) : fm_V w layM 11 l rm_X9_count cX9_count 4 RX9 (some .int) o 0 [some (.ref (fm_ad w 0)), some (.int v1), none, none] [] s := by
  unfold f_X9_count at h
  refine v_iconst (0 : Int32) dX9_count_0 (by decide) ?_
  refine v_istore_n (lv' := [some (.ref (fm_ad w 0)), some (.int v1), some (.int (0 : Int32)), none]) 2 dX9_count_1 rfl (by decide) rfl rfl ?_
  refine v_iconst (0 : Int32) dX9_count_2 (by decide) ?_
  refine v_istore_n (lv' := [some (.ref (fm_ad w 0)), some (.int v1), some (.int (0 : Int32)), some (.int (0 : Int32))]) 3 dX9_count_3 rfl (by decide) rfl rfl ?_
  obtain ⟨q1, h1, h⟩ := fm_ops h
  refine v_lw [some (.ref (fm_ad w 0)), some (.int v1), some (.int (0 : Int32)), some (.int (0 : Int32))] rfl ⟨rfl, rfl, rfl, rfl, trivial⟩ ?_
  refine i_X9_count_4 hI v1 _ _ _ _ _ h1 (fun s1 x1_2 x1_3 e => ?_)
  subst e
  dsimp only at h
  refine v_iload_n 1 dX9_count_32 rfl rfl ?_
  by_cases hx0 : v1 = (0 : Int32)
  · rw [if_pos hx0] at h
    refine v_tabIn (off := 71) 0 104 dX9_count_33 hx0 (by decide) (by decide) ?_
    refine v_aload_n 0 dX9_count_104 rfl rfl ?_
    refine v_getr 2 g_X9_13 yM_0 (by decide) rfl dX9_count_105 ?_
    refine v_iconst (0 : Int32) dX9_count_108 (by decide) ?_
    obtain ⟨hi, h⟩ := fm_ift h
    refine v_iald (Or.inl ⟨(by decide), yM_2⟩) hi dX9_count_109 ?_
    exact v_iret rfl (ho _ _ (Option.some.inj h).symm) dX9_count_110
  rw [if_neg hx0] at h
  by_cases hx1 : v1 = (1 : Int32)
  · rw [if_pos hx1] at h
    refine v_tabIn (off := 78) 1 111 dX9_count_33 hx1 (by decide) (by decide) ?_
    refine v_aload_n 0 dX9_count_111 rfl rfl ?_
    refine v_getr 2 g_X9_13 yM_0 (by decide) rfl dX9_count_112 ?_
    refine v_iconst (1 : Int32) dX9_count_115 (by decide) ?_
    obtain ⟨hi, h⟩ := fm_ift h
    refine v_iald (Or.inl ⟨(by decide), yM_2⟩) hi dX9_count_116 ?_
    exact v_iret rfl (ho _ _ (Option.some.inj h).symm) dX9_count_117
  rw [if_neg hx1] at h
  by_cases hx2 : v1 = (2 : Int32)
  · rw [if_pos hx2] at h
    refine v_tabIn (off := 85) 2 118 dX9_count_33 hx2 (by decide) (by decide) ?_
    refine v_aload_n 0 dX9_count_118 rfl rfl ?_
    refine v_getr 4 g_X9_19 yM_0 (by decide) rfl dX9_count_119 ?_
    refine v_bipush (28 : Int32) dX9_count_122 (by decide) ?_
    obtain ⟨hi, h⟩ := fm_ift h
    refine v_iald (Or.inl ⟨(by decide), yM_4⟩) hi dX9_count_124 ?_
    exact v_iret rfl (ho _ _ (Option.some.inj h).symm) dX9_count_125
  rw [if_neg hx2] at h
  by_cases hx3 : v1 = (3 : Int32)
  · rw [if_pos hx3] at h
    refine v_tabIn (off := 93) 3 126 dX9_count_33 hx3 (by decide) (by decide) ?_
    refine v_aload_n 0 dX9_count_126 rfl rfl ?_
    refine v_iconst (0 : Int32) dX9_count_127 (by decide) ?_
    obtain ⟨r2, s2, h2, h⟩ := fm_bds h
    refine v_cVi [.int (0 : Int32)] [] l_X9_131 (c_X9_children hI h2) yM_0 (by decide) rfl rfl ⟨rfl, rfl, by decide, by decide⟩ (Nat.le_of_ble_eq_true rfl) dX9_count_128 ?_
    exact v_iret rfl (ho _ _ (Option.some.inj h).symm) dX9_count_131
  rw [if_neg hx3] at h
  by_cases hx4 : v1 = (4 : Int32)
  · rw [if_pos hx4] at h
    refine v_tabIn (off := 99) 4 132 dX9_count_33 hx4 (by decide) (by decide) ?_
    refine v_aload_n 0 dX9_count_132 rfl rfl ?_
    refine v_iconst (1 : Int32) dX9_count_133 (by decide) ?_
    obtain ⟨r3, s3, h3, h⟩ := fm_bds h
    refine v_cVi [.int (1 : Int32)] [] l_X9_131 (c_X9_children hI h3) yM_0 (by decide) rfl rfl ⟨rfl, rfl, by decide, by decide⟩ (Nat.le_of_ble_eq_true rfl) dX9_count_134 ?_
    exact v_iret rfl (ho _ _ (Option.some.inj h).symm) dX9_count_137
  rw [if_neg hx4] at h
  by_cases hx5 : v1 = (5 : Int32)
  · rw [if_pos hx5] at h
    refine v_tabIn (off := 105) 5 138 dX9_count_33 hx5 (by decide) (by decide) ?_
    refine v_aload_n 0 dX9_count_138 rfl rfl ?_
    refine v_iconst (2 : Int32) dX9_count_139 (by decide) ?_
    obtain ⟨r4, s4, h4, h⟩ := fm_bds h
    refine v_cVi [.int (2 : Int32)] [] l_X9_131 (c_X9_children hI h4) yM_0 (by decide) rfl rfl ⟨rfl, rfl, by decide, by decide⟩ (Nat.le_of_ble_eq_true rfl) dX9_count_140 ?_
    exact v_iret rfl (ho _ _ (Option.some.inj h).symm) dX9_count_143
  rw [if_neg hx5] at h
  by_cases hx6 : v1 = (6 : Int32)
  · rw [if_pos hx6] at h
    refine v_tabIn (off := 111) 6 144 dX9_count_33 hx6 (by decide) (by decide) ?_
    refine v_aload_n 0 dX9_count_144 rfl rfl ?_
    refine v_iconst (3 : Int32) dX9_count_145 (by decide) ?_
    obtain ⟨r5, s5, h5, h⟩ := fm_bds h
    refine v_cVi [.int (3 : Int32)] [] l_X9_131 (c_X9_children hI h5) yM_0 (by decide) rfl rfl ⟨rfl, rfl, by decide, by decide⟩ (Nat.le_of_ble_eq_true rfl) dX9_count_146 ?_
    exact v_iret rfl (ho _ _ (Option.some.inj h).symm) dX9_count_149
  rw [if_neg hx6] at h
  by_cases hx7 : v1 = (7 : Int32)
  · rw [if_pos hx7] at h
    refine v_tabIn (off := 117) 7 150 dX9_count_33 hx7 (by decide) (by decide) ?_
    refine v_aload_n 0 dX9_count_150 rfl rfl ?_
    refine v_bipush (18 : Int32) dX9_count_151 (by decide) ?_
    refine v_aload_n 0 dX9_count_153 rfl rfl ?_
    refine v_getr 2 g_X9_13 yM_0 (by decide) rfl dX9_count_154 ?_
    refine v_iconst (1 : Int32) dX9_count_157 (by decide) ?_
    obtain ⟨hi, h⟩ := fm_ift h
    refine v_iald (Or.inl ⟨(by decide), yM_2⟩) hi dX9_count_158 ?_
    refine v_iconst (0 : Int32) dX9_count_159 (by decide) ?_
    obtain ⟨r6, s6, h6, h⟩ := fm_bds h
    refine v_cVi [.int (18 : Int32), .int (s1 2 (1 : Int32).toNatClampNeg), .int (0 : Int32)] [] l_X9_125 (c_X9_how hI h6) yM_0 (by decide) rfl rfl ⟨rfl, rfl, by decide, by decide⟩ (Nat.le_of_ble_eq_true rfl) dX9_count_160 ?_
    exact v_iret rfl (ho _ _ (Option.some.inj h).symm) dX9_count_163
  rw [if_neg hx7] at h
  by_cases hx8 : v1 = (8 : Int32)
  · rw [if_pos hx8] at h
    refine v_tabIn (off := 131) 8 164 dX9_count_33 hx8 (by decide) (by decide) ?_
    refine v_aload_n 0 dX9_count_164 rfl rfl ?_
    refine v_getr 4 g_X9_19 yM_0 (by decide) rfl dX9_count_165 ?_
    refine v_bipush (27 : Int32) dX9_count_168 (by decide) ?_
    obtain ⟨hi, h⟩ := fm_ift h
    refine v_iald (Or.inl ⟨(by decide), yM_4⟩) hi dX9_count_170 ?_
    exact v_iret rfl (ho _ _ (Option.some.inj h).symm) dX9_count_171
  rw [if_neg hx8] at h
  by_cases hx9 : v1 = (9 : Int32)
  · rw [if_pos hx9] at h
    refine v_tabIn (off := 139) 9 172 dX9_count_33 hx9 (by decide) (by decide) ?_
    refine v_iload_n 2 dX9_count_172 rfl rfl ?_
    exact v_iret rfl (ho _ _ (Option.some.inj h).symm) dX9_count_173
  rw [if_neg hx9] at h
  by_cases hx10 : v1 = (10 : Int32)
  · rw [if_pos hx10] at h
    refine v_tabIn (off := 141) 10 174 dX9_count_33 hx10 (by decide) (by decide) ?_
    refine v_aload_n 0 dX9_count_174 rfl rfl ?_
    refine v_geti g_X9_93 yM_0 (by decide) rfl dX9_count_175 ?_
    exact v_iret rfl (ho _ _ (Option.some.inj h).symm) dX9_count_178
  rw [if_neg hx10] at h
  by_cases hx11 : v1 = (11 : Int32)
  · rw [if_pos hx11] at h
    refine v_tabIn (off := 146) 11 179 dX9_count_33 hx11 (by decide) (by decide) ?_
    refine v_aload_n 0 dX9_count_179 rfl rfl ?_
    refine v_geti g_X9_87 yM_0 (by decide) rfl dX9_count_180 ?_
    exact v_iret rfl (ho _ _ (Option.some.inj h).symm) dX9_count_183
  rw [if_neg hx11] at h
  by_cases hx12 : v1 = (12 : Int32)
  · rw [if_pos hx12] at h
    refine v_tabIn (off := 151) 12 184 dX9_count_33 hx12 (by decide) (by decide) ?_
    refine v_aload_n 0 dX9_count_184 rfl rfl ?_
    refine v_geti g_X9_90 yM_0 (by decide) rfl dX9_count_185 ?_
    exact v_iret rfl (ho _ _ (Option.some.inj h).symm) dX9_count_188
  rw [if_neg hx12] at h
  by_cases hx13 : v1 = (13 : Int32)
  · rw [if_pos hx13] at h
    refine v_tabIn (off := 156) 13 189 dX9_count_33 hx13 (by decide) (by decide) ?_
    refine v_aload_n 0 dX9_count_189 rfl rfl ?_
    refine v_geti g_X9_54 yM_0 (by decide) rfl dX9_count_190 ?_
    exact v_iret rfl (ho _ _ (Option.some.inj h).symm) dX9_count_193
  rw [if_neg hx13] at h
  have hn0 := lv_neT hx0 (a := 0) (by decide)
  have hn1 := lv_neT hx1 (a := 1) (by decide)
  have hn2 := lv_neT hx2 (a := 2) (by decide)
  have hn3 := lv_neT hx3 (a := 3) (by decide)
  have hn4 := lv_neT hx4 (a := 4) (by decide)
  have hn5 := lv_neT hx5 (a := 5) (by decide)
  have hn6 := lv_neT hx6 (a := 6) (by decide)
  have hn7 := lv_neT hx7 (a := 7) (by decide)
  have hn8 := lv_neT hx8 (a := 8) (by decide)
  have hn9 := lv_neT hx9 (a := 9) (by decide)
  have hn10 := lv_neT hx10 (a := 10) (by decide)
  have hn11 := lv_neT hx11 (a := 11) (by decide)
  have hn12 := lv_neT hx12 (a := 12) (by decide)
  have hn13 := lv_neT hx13 (a := 13) (by decide)
  refine v_tabOut 194 dX9_count_33 (by omega) (by decide) ?_
  refine v_iconst (-1 : Int32) dX9_count_194 (by decide) ?_
  exact v_iret rfl (ho _ _ (Option.some.inj h).symm) dX9_count_195
theorem c_X9_count {w : fm_W} {l : Launch} (hI : fm_I w 11) {v1 : Int32} {s : fm_M} {r : Int32} {s2 : fm_M} (h : f_X9_count v1 s = some (r, s2)) : fm_C w layM 11 l yX9_count cX9_count 4 (some .int) rm_X9_count [.ref (fm_ad w 0), .int v1] s (some (.int r), s2) :=
  fm_of hI (by decide) rfl (Nat.le_of_ble_eq_true rfl) (e_X9_count hI v1 s _ h (fun r s e => by cases e; rfl))
-- X9_isWoman
abbrev rm_X9_isWoman : Room := { frames := 1, cells := 0, slots := 0, locals := 22 }
def f_X9_isWoman (v1 : Int32) (s : fm_M) : Option (Int32 × fm_M) :=
  if fm_in (1 : Int32) 17 = true then fm_bd (f_X9_in v1 (0 : Int32) ((s 2 (1 : Int32).toNatClampNeg) - (1 : Int32)) s) (fun r1 s1 => if fm_b r1 = true then some (r1, s1) else none) else none
set_option maxHeartbeats 4000000 in
theorem e_X9_isWoman {w : fm_W} {l : Launch} {o : fm_O} (hI : fm_I w 11) (v1 : Int32) (s : fm_M) (z : Int32 × fm_M) (h : f_X9_isWoman v1 s = some z) (ho : ∀ (r : Int32) (s : fm_M), z = (r, s) → o = (some (.int r), s)) : fm_V w layM 11 l rm_X9_isWoman cX9_isWoman 2 RX9 (some .boolean) o 0 [some (.ref (fm_ad w 0)), some (.int v1)] [] s := by
  unfold f_X9_isWoman at h
  refine v_iload_n 1 dX9_isWoman_0 rfl rfl ?_
  refine v_iconst (0 : Int32) dX9_isWoman_1 (by decide) ?_
  refine v_aload_n 0 dX9_isWoman_2 rfl rfl ?_
  refine v_getr 2 g_X9_13 yM_0 (by decide) rfl dX9_isWoman_3 ?_
  refine v_iconst (1 : Int32) dX9_isWoman_6 (by decide) ?_
  obtain ⟨hi, h⟩ := fm_ift h
  refine v_iald (Or.inl ⟨(by decide), yM_2⟩) hi dX9_isWoman_7 ?_
  refine v_iconst (1 : Int32) dX9_isWoman_8 (by decide) ?_
  refine v_isub dX9_isWoman_9 ?_
  obtain ⟨r1, s1, h1, h⟩ := fm_bds h
  refine v_cSi [.int v1, .int (0 : Int32), .int ((s 2 (1 : Int32).toNatClampNeg) - (1 : Int32))] [] l_X9_50 (c_X9_in hI h1) rfl rfl ⟨rfl, rfl, by decide, by decide⟩ (Nat.le_of_ble_eq_true rfl) dX9_isWoman_10 ?_
  obtain ⟨hb, h⟩ := fm_ift h
  exact v_zret rfl (fm_b_nar hb).1 (ho _ _ (Option.some.inj h).symm) dX9_isWoman_13
theorem c_X9_isWoman {w : fm_W} {l : Launch} (hI : fm_I w 11) {v1 : Int32} {s : fm_M} {r : Int32} {s2 : fm_M} (h : f_X9_isWoman v1 s = some (r, s2)) : fm_C w layM 11 l yX9_isWoman cX9_isWoman 2 (some .boolean) rm_X9_isWoman [.ref (fm_ad w 0), .int v1] s (some (.int r), s2) :=
  fm_of hI (by decide) rfl (Nat.le_of_ble_eq_true rfl) (e_X9_isWoman hI v1 s _ h (fun r s e => by cases e; rfl))
-- X9_keeps
abbrev rm_X9_keeps : Room := { frames := 0, cells := 0, slots := 0, locals := 0 }
def f_X9_keeps_51 (s : fm_M) (v1 : Int32) : Option ((fm_M × Int32) ⊕ (fm_M × Int32)) :=
  if (29 : Int32) ≤ v1 then some (.inr (s, v1)) else if fm_in v1 29 = true then if fm_in (((29 : Int32) * (s 0 6)) + v1) 232 = true then some (.inl ((fm_up s 5 (((29 : Int32) * (s 0 6)) + v1).toNatClampNeg (s 4 v1.toNatClampNeg)), (v1 + (1 : Int32)))) else none else none
set_option maxHeartbeats 4000000 in
theorem t_X9_keeps_51 {w : fm_W} {l : Launch} {o : fm_O} (hI : fm_I w 11) (s : fm_M) (v1 : Int32) (z : (fm_M × Int32) ⊕ (fm_M × Int32)) (h : f_X9_keeps_51 s v1 = some z) (kb : ∀ (s : fm_M) (u1 : Int32), z = .inl (s, u1) → fm_V w layM 11 l rm_X9_keeps cX9_keeps 2 RX9 none o 51 [some (.ref (fm_ad w 0)), some (.int u1)] [] s) (ke : ∀ (s : fm_M) (u1 : Int32), z = .inr (s, u1) → fm_V w layM 11 l rm_X9_keeps cX9_keeps 2 RX9 none o 83 [some (.ref (fm_ad w 0)), some (.int u1)] [] s) : fm_V w layM 11 l rm_X9_keeps cX9_keeps 2 RX9 none o 51 [some (.ref (fm_ad w 0)), some (.int v1)] [] s := by
  unfold f_X9_keeps_51 at h
  refine v_iload_n 1 dX9_keeps_51 rfl rfl ?_
  refine v_bipush (29 : Int32) dX9_keeps_52 (by decide) ?_
  refine v_icmp_ge 83 dX9_keeps_54 (by decide) h (fun h => ?_) (fun h => ?_)
  · refine v_lw [some (.ref (fm_ad w 0)), some (.int v1)] rfl ⟨rfl, rfl, trivial⟩ ?_
    exact ke _ _ (Option.some.inj h).symm
  · refine v_aload_n 0 dX9_keeps_57 rfl rfl ?_
    refine v_getr 5 g_X9_22 yM_0 (by decide) rfl dX9_keeps_58 ?_
    refine v_bipush (29 : Int32) dX9_keeps_61 (by decide) ?_
    refine v_aload_n 0 dX9_keeps_63 rfl rfl ?_
    refine v_geti g_X9_87 yM_0 (by decide) rfl dX9_keeps_64 ?_
    refine v_imul dX9_keeps_67 ?_
    refine v_iload_n 1 dX9_keeps_68 rfl rfl ?_
    refine v_iadd dX9_keeps_69 ?_
    refine v_aload_n 0 dX9_keeps_70 rfl rfl ?_
    refine v_getr 4 g_X9_19 yM_0 (by decide) rfl dX9_keeps_71 ?_
    refine v_iload_n 1 dX9_keeps_74 rfl rfl ?_
    obtain ⟨hi, h⟩ := fm_ift h
    refine v_iald (Or.inl ⟨(by decide), yM_4⟩) hi dX9_keeps_75 ?_
    obtain ⟨hi, h⟩ := fm_ift h
    refine v_iast (by decide) yM_5 hi dX9_keeps_76 ?_
    refine v_iinc (lv' := [some (.ref (fm_ad w 0)), some (.int (v1 + (1 : Int32)))]) (1 : Int32) dX9_keeps_77 rfl (by decide) (by decide) rfl rfl ?_
    refine v_goto 51 dX9_keeps_80 (by decide) ?_
    refine v_lw [some (.ref (fm_ad w 0)), some (.int (v1 + (1 : Int32)))] rfl ⟨rfl, rfl, trivial⟩ ?_
    exact kb _ _ (Option.some.inj h).symm
set_option maxHeartbeats 4000000 in
theorem i_X9_keeps_51 {w : fm_W} {l : Launch} {o : fm_O} (hI : fm_I w 11) (n : Nat) (s : fm_M) (v1 : Int32) (q : fm_M × Int32) (h : fm_it (fun s => f_X9_keeps_51 s.1 s.2) n (s, v1) = some q) (ke : ∀ (s : fm_M) (u1 : Int32), q = (s, u1) → fm_V w layM 11 l rm_X9_keeps cX9_keeps 2 RX9 none o 83 [some (.ref (fm_ad w 0)), some (.int u1)] [] s) : fm_V w layM 11 l rm_X9_keeps cX9_keeps 2 RX9 none o 51 [some (.ref (fm_ad w 0)), some (.int v1)] [] s :=
  fm_it_loop (body := (fun s => f_X9_keeps_51 s.1 s.2)) (P := fun s => fm_V w layM 11 l rm_X9_keeps cX9_keeps 2 RX9 none o 51 [some (.ref (fm_ad w 0)), some (.int s.2)] [] s.1) (K := (fun q : fm_M × Int32 => (∀ (s : fm_M) (u1 : Int32), q = (s, u1) → fm_V w layM 11 l rm_X9_keeps cX9_keeps 2 RX9 none o 83 [some (.ref (fm_ad w 0)), some (.int u1)] [] s))) (fun s z hb kl kx => t_X9_keeps_51 hI s.1 s.2 z hb (fun s u1 e => kl _ e) (fun s u1 e => (kx _ e) s u1 rfl)) n (s, v1) q h ke
def f_X9_keeps_49 (s : fm_M) : Option (Int32 × fm_M) :=
  fm_op (fm_it (fun (yy : fm_M × Int32) => f_X9_keeps_51 yy.1 yy.2) fm_fu (s, (0 : Int32))) (fun q1 => ((fun (s1 : fm_M) (x1_1 : Int32) => some (0, (fm_up s1 0 6 ((s1 0 6) + (1 : Int32)))))) q1.1 q1.2)
set_option maxHeartbeats 4000000 in
theorem t_X9_keeps_49 {w : fm_W} {l : Launch} {o : fm_O} (hI : fm_I w 11) (s : fm_M) (z : Int32 × fm_M) (h : f_X9_keeps_49 s = some z) (ho : ∀ (r : Int32) (s : fm_M), z = (r, s) → o = (none, s)) : fm_V w layM 11 l rm_X9_keeps cX9_keeps 2 RX9 none o 49 [some (.ref (fm_ad w 0)), none] [] s := by
  unfold f_X9_keeps_49 at h
  refine v_iconst (0 : Int32) dX9_keeps_49 (by decide) ?_
  refine v_istore_n (lv' := [some (.ref (fm_ad w 0)), some (.int (0 : Int32))]) 1 dX9_keeps_50 rfl (by decide) rfl rfl ?_
  obtain ⟨q1, h1, h⟩ := fm_ops h
  refine v_lw [some (.ref (fm_ad w 0)), some (.int (0 : Int32))] rfl ⟨rfl, rfl, trivial⟩ ?_
  refine i_X9_keeps_51 hI _ _ _ _ h1 (fun s1 x1_1 e => ?_)
  subst e
  dsimp only at h
  refine v_aload_n 0 dX9_keeps_83 rfl rfl ?_
  refine v_dup dX9_keeps_84 rfl ?_
  refine v_geti g_X9_87 yM_0 (by decide) rfl dX9_keeps_85 ?_
  refine v_iconst (1 : Int32) dX9_keeps_88 (by decide) ?_
  refine v_iadd dX9_keeps_89 ?_
  refine v_put p_X9_87 yM_0 (by decide) rfl ⟨rfl, rfl⟩ dX9_keeps_90 ?_
  exact v_vret rfl (ho _ _ (Option.some.inj h).symm) dX9_keeps_93
def f_X9_keeps_11 (s : fm_M) (v1 : Int32) : Option ((fm_M × Int32) ⊕ (fm_M × Int32)) :=
  if (203 : Int32) ≤ v1 then some (.inr (s, v1)) else if fm_in (v1 + (29 : Int32)) 232 = true then if fm_in v1 232 = true then some (.inl ((fm_up s 5 v1.toNatClampNeg (s 5 (v1 + (29 : Int32)).toNatClampNeg)), (v1 + (1 : Int32)))) else none else none
set_option maxHeartbeats 4000000 in
theorem t_X9_keeps_11 {w : fm_W} {l : Launch} {o : fm_O} (hI : fm_I w 11) (s : fm_M) (v1 : Int32) (z : (fm_M × Int32) ⊕ (fm_M × Int32)) (h : f_X9_keeps_11 s v1 = some z) (kb : ∀ (s : fm_M) (u1 : Int32), z = .inl (s, u1) → fm_V w layM 11 l rm_X9_keeps cX9_keeps 2 RX9 none o 11 [some (.ref (fm_ad w 0)), some (.int u1)] [] s) (ke : ∀ (s : fm_M) (u1 : Int32), z = .inr (s, u1) → fm_V w layM 11 l rm_X9_keeps cX9_keeps 2 RX9 none o 39 [some (.ref (fm_ad w 0)), some (.int u1)] [] s) : fm_V w layM 11 l rm_X9_keeps cX9_keeps 2 RX9 none o 11 [some (.ref (fm_ad w 0)), some (.int v1)] [] s := by
  unfold f_X9_keeps_11 at h
  refine v_iload_n 1 dX9_keeps_11 rfl rfl ?_
  refine v_sipush (203 : Int32) dX9_keeps_12 (by decide) ?_
  refine v_icmp_ge 39 dX9_keeps_15 (by decide) h (fun h => ?_) (fun h => ?_)
  · refine v_lw [some (.ref (fm_ad w 0)), some (.int v1)] rfl ⟨rfl, rfl, trivial⟩ ?_
    exact ke _ _ (Option.some.inj h).symm
  · refine v_aload_n 0 dX9_keeps_18 rfl rfl ?_
    refine v_getr 5 g_X9_22 yM_0 (by decide) rfl dX9_keeps_19 ?_
    refine v_iload_n 1 dX9_keeps_22 rfl rfl ?_
    refine v_aload_n 0 dX9_keeps_23 rfl rfl ?_
    refine v_getr 5 g_X9_22 yM_0 (by decide) rfl dX9_keeps_24 ?_
    refine v_iload_n 1 dX9_keeps_27 rfl rfl ?_
    refine v_bipush (29 : Int32) dX9_keeps_28 (by decide) ?_
    refine v_iadd dX9_keeps_30 ?_
    obtain ⟨hi, h⟩ := fm_ift h
    refine v_iald (Or.inl ⟨(by decide), yM_5⟩) hi dX9_keeps_31 ?_
    obtain ⟨hi, h⟩ := fm_ift h
    refine v_iast (by decide) yM_5 hi dX9_keeps_32 ?_
    refine v_iinc (lv' := [some (.ref (fm_ad w 0)), some (.int (v1 + (1 : Int32)))]) (1 : Int32) dX9_keeps_33 rfl (by decide) (by decide) rfl rfl ?_
    refine v_goto 11 dX9_keeps_36 (by decide) ?_
    refine v_lw [some (.ref (fm_ad w 0)), some (.int (v1 + (1 : Int32)))] rfl ⟨rfl, rfl, trivial⟩ ?_
    exact kb _ _ (Option.some.inj h).symm
set_option maxHeartbeats 4000000 in
theorem i_X9_keeps_11 {w : fm_W} {l : Launch} {o : fm_O} (hI : fm_I w 11) (n : Nat) (s : fm_M) (v1 : Int32) (q : fm_M × Int32) (h : fm_it (fun s => f_X9_keeps_11 s.1 s.2) n (s, v1) = some q) (ke : ∀ (s : fm_M) (u1 : Int32), q = (s, u1) → fm_V w layM 11 l rm_X9_keeps cX9_keeps 2 RX9 none o 39 [some (.ref (fm_ad w 0)), some (.int u1)] [] s) : fm_V w layM 11 l rm_X9_keeps cX9_keeps 2 RX9 none o 11 [some (.ref (fm_ad w 0)), some (.int v1)] [] s :=
  fm_it_loop (body := (fun s => f_X9_keeps_11 s.1 s.2)) (P := fun s => fm_V w layM 11 l rm_X9_keeps cX9_keeps 2 RX9 none o 11 [some (.ref (fm_ad w 0)), some (.int s.2)] [] s.1) (K := (fun q : fm_M × Int32 => (∀ (s : fm_M) (u1 : Int32), q = (s, u1) → fm_V w layM 11 l rm_X9_keeps cX9_keeps 2 RX9 none o 39 [some (.ref (fm_ad w 0)), some (.int u1)] [] s))) (fun s z hb kl kx => t_X9_keeps_11 hI s.1 s.2 z hb (fun s u1 e => kl _ e) (fun s u1 e => (kx _ e) s u1 rfl)) n (s, v1) q h ke
def f_X9_keeps (s : fm_M) : Option (Int32 × fm_M) :=
  if (s 0 6) = (8 : Int32) then fm_op (fm_it (fun (yy : fm_M × Int32) => f_X9_keeps_11 yy.1 yy.2) fm_fu (s, (0 : Int32))) (fun q2 => ((fun (s2 : fm_M) (x2_1 : Int32) => f_X9_keeps_49 (fm_up s2 0 6 ((s2 0 6) - (1 : Int32))))) q2.1 q2.2) else f_X9_keeps_49 s
set_option maxHeartbeats 4000000 in
theorem e_X9_keeps {w : fm_W} {l : Launch} {o : fm_O} (hI : fm_I w 11) (s : fm_M) (z : Int32 × fm_M) (h : f_X9_keeps s = some z) (ho : ∀ (r : Int32) (s : fm_M), z = (r, s) → o = (none, s)) : fm_V w layM 11 l rm_X9_keeps cX9_keeps 2 RX9 none o 0 [some (.ref (fm_ad w 0)), none] [] s := by
  unfold f_X9_keeps at h
  refine v_aload_n 0 dX9_keeps_0 rfl rfl ?_
  refine v_geti g_X9_87 yM_0 (by decide) rfl dX9_keeps_1 ?_
  refine v_bipush (8 : Int32) dX9_keeps_4 (by decide) ?_
  refine v_icmp_ne 49 dX9_keeps_6 (by decide) h (fun h => ?_) (fun h => ?_)
  · refine v_lw [some (.ref (fm_ad w 0)), none] rfl ⟨rfl, trivial⟩ ?_
    exact t_X9_keeps_49 hI s _ h ho
  · refine v_iconst (0 : Int32) dX9_keeps_9 (by decide) ?_
    refine v_istore_n (lv' := [some (.ref (fm_ad w 0)), some (.int (0 : Int32))]) 1 dX9_keeps_10 rfl (by decide) rfl rfl ?_
    obtain ⟨q2, h2, h⟩ := fm_ops h
    refine v_lw [some (.ref (fm_ad w 0)), some (.int (0 : Int32))] rfl ⟨rfl, rfl, trivial⟩ ?_
    refine i_X9_keeps_11 hI _ _ _ _ h2 (fun s2 x2_1 e => ?_)
    subst e
    dsimp only at h
    refine v_aload_n 0 dX9_keeps_39 rfl rfl ?_
    refine v_dup dX9_keeps_40 rfl ?_
    refine v_geti g_X9_87 yM_0 (by decide) rfl dX9_keeps_41 ?_
    refine v_iconst (1 : Int32) dX9_keeps_44 (by decide) ?_
    refine v_isub dX9_keeps_45 ?_
    refine v_put p_X9_87 yM_0 (by decide) rfl ⟨rfl, rfl⟩ dX9_keeps_46 ?_
    refine v_lw [some (.ref (fm_ad w 0)), none] rfl ⟨rfl, trivial⟩ ?_
    exact t_X9_keeps_49 hI (fm_up s2 0 6 ((s2 0 6) - (1 : Int32))) _ h ho
theorem c_X9_keeps {w : fm_W} {l : Launch} (hI : fm_I w 11) {s : fm_M} {r : Int32} {s2 : fm_M} (h : f_X9_keeps s = some (r, s2)) : fm_C w layM 11 l yX9_keeps cX9_keeps 2 none rm_X9_keeps [.ref (fm_ad w 0)] s (none, s2) :=
  fm_of hI (by decide) rfl (Nat.le_of_ble_eq_true rfl) (e_X9_keeps hI s _ h (fun r s e => by cases e; rfl))
-- X9_door
abbrev rm_X9_door : Room := { frames := 3, cells := 0, slots := 0, locals := 71 }
def f_X9_door_30 (s : fm_M) : Option (Int32 × fm_M) :=
  some ((-2 : Int32), s)
set_option maxHeartbeats 4000000 in
theorem t_X9_door_30 {w : fm_W} {l : Launch} {o : fm_O} (hI : fm_I w 11) (s : fm_M) (z : Int32 × fm_M) (h : f_X9_door_30 s = some z) (ho : ∀ (r : Int32) (s : fm_M), z = (r, s) → o = (some (.int r), s)) : fm_V w layM 11 l rm_X9_door cX9_door 2 RX9 (some .int) o 30 [none, none] [] s := by
  unfold f_X9_door_30 at h
  refine v_bipush (-2 : Int32) dX9_door_30 (by decide) ?_
  exact v_iret rfl (ho _ _ (Option.some.inj h).symm) dX9_door_32
def f_X9_door (v1 : Int32) (s : fm_M) : Option (Int32 × fm_M) :=
  fm_bd (f_X9_isWoman v1 s) (fun r1 s1 => if r1 = 0 then some ((-1 : Int32), s1) else if fm_in ((18 : Int32) + v1) 29 = true then if (s1 4 ((18 : Int32) + v1).toNatClampNeg) = 0 then fm_bd (f_X9_children (2 : Int32) s1) (fun r2 s2 => if r2 = 0 then f_X9_door_30 s2 else fm_bd (f_X9_keeps s2) (fun r3 s3 => fm_bd (f_X9_opens v1 s3) (fun r4 s4 => some (r4, s4)))) else f_X9_door_30 s1 else none)
set_option maxHeartbeats 4000000 in
theorem e_X9_door {w : fm_W} {l : Launch} {o : fm_O} (hI : fm_I w 11) (v1 : Int32) (s : fm_M) (z : Int32 × fm_M) (h : f_X9_door v1 s = some z) (ho : ∀ (r : Int32) (s : fm_M), z = (r, s) → o = (some (.int r), s)) : fm_V w layM 11 l rm_X9_door cX9_door 2 RX9 (some .int) o 0 [some (.ref (fm_ad w 0)), some (.int v1)] [] s := by
  unfold f_X9_door at h
  refine v_aload_n 0 dX9_door_0 rfl rfl ?_
  refine v_iload_n 1 dX9_door_1 rfl rfl ?_
  obtain ⟨r1, s1, h1, h⟩ := fm_bds h
  refine v_cVi [.int v1] [] l_X9_108 (c_X9_isWoman hI h1) yM_0 (by decide) rfl rfl ⟨rfl, rfl, by decide, by decide⟩ (Nat.le_of_ble_eq_true rfl) dX9_door_2 ?_
  refine v_if_ne 10 dX9_door_5 (by decide) h (fun h => ?_) (fun h => ?_)
  · refine v_aload_n 0 dX9_door_10 rfl rfl ?_
    refine v_getr 4 g_X9_19 yM_0 (by decide) rfl dX9_door_11 ?_
    refine v_bipush (18 : Int32) dX9_door_14 (by decide) ?_
    refine v_iload_n 1 dX9_door_16 rfl rfl ?_
    refine v_iadd dX9_door_17 ?_
    obtain ⟨hi, h⟩ := fm_ift h
    refine v_iald (Or.inl ⟨(by decide), yM_4⟩) hi dX9_door_18 ?_
    refine v_if_ne 30 dX9_door_19 (by decide) h (fun h => ?_) (fun h => ?_)
    · refine v_lw [none, none] rfl trivial ?_
      exact t_X9_door_30 hI s1 _ h ho
    · refine v_aload_n 0 dX9_door_22 rfl rfl ?_
      refine v_iconst (2 : Int32) dX9_door_23 (by decide) ?_
      obtain ⟨r2, s2, h2, h⟩ := fm_bds h
      refine v_cVi [.int (2 : Int32)] [] l_X9_131 (c_X9_children hI h2) yM_0 (by decide) rfl rfl ⟨rfl, rfl, by decide, by decide⟩ (Nat.le_of_ble_eq_true rfl) dX9_door_24 ?_
      refine v_if_ne 33 dX9_door_27 (by decide) h (fun h => ?_) (fun h => ?_)
      · refine v_aload_n 0 dX9_door_33 rfl rfl ?_
        obtain ⟨r3, s3, h3, h⟩ := fm_bds h
        refine v_cVv [] [] l_X9_115 (c_X9_keeps hI h3) yM_0 (by decide) rfl rfl ⟨rfl, rfl, by decide, by decide⟩ (Nat.le_of_ble_eq_true rfl) dX9_door_34 ?_
        refine v_aload_n 0 dX9_door_37 rfl rfl ?_
        refine v_iload_n 1 dX9_door_38 rfl rfl ?_
        obtain ⟨r4, s4, h4, h⟩ := fm_bds h
        refine v_cVi [.int v1] [] l_X9_134 (c_X9_opens hI h4) yM_0 (by decide) rfl rfl ⟨rfl, rfl, by decide, by decide⟩ (Nat.le_of_ble_eq_true rfl) dX9_door_39 ?_
        exact v_iret rfl (ho _ _ (Option.some.inj h).symm) dX9_door_42
      · refine v_lw [none, none] rfl trivial ?_
        exact t_X9_door_30 hI s2 _ h ho
  · refine v_iconst (-1 : Int32) dX9_door_8 (by decide) ?_
    exact v_iret rfl (ho _ _ (Option.some.inj h).symm) dX9_door_9
theorem c_X9_door {w : fm_W} {l : Launch} (hI : fm_I w 11) {v1 : Int32} {s : fm_M} {r : Int32} {s2 : fm_M} (h : f_X9_door v1 s = some (r, s2)) : fm_C w layM 11 l yX9_door cX9_door 2 (some .int) rm_X9_door [.ref (fm_ad w 0), .int v1] s (some (.int r), s2) :=
  fm_of hI (by decide) rfl (Nat.le_of_ble_eq_true rfl) (e_X9_door hI v1 s _ h (fun r s e => by cases e; rfl))
-- X9_isFigure
abbrev rm_X9_isFigure : Room := { frames := 1, cells := 0, slots := 0, locals := 22 }
def f_X9_isFigure (v0 : Int32) (s : fm_M) : Option (Int32 × fm_M) :=
  fm_bd (f_X9_in v0 (48 : Int32) (57 : Int32) s) (fun r1 s1 => if fm_b r1 = true then some (r1, s1) else none)
set_option maxHeartbeats 4000000 in
theorem e_X9_isFigure {w : fm_W} {l : Launch} {o : fm_O} (hI : fm_I w 11) (v0 : Int32) (s : fm_M) (z : Int32 × fm_M) (h : f_X9_isFigure v0 s = some z) (ho : ∀ (r : Int32) (s : fm_M), z = (r, s) → o = (some (.int r), s)) : fm_V w layM 11 l rm_X9_isFigure cX9_isFigure 1 RX9 (some .boolean) o 0 [some (.int v0)] [] s := by
  unfold f_X9_isFigure at h
  refine v_iload_n 0 dX9_isFigure_0 rfl rfl ?_
  refine v_bipush (48 : Int32) dX9_isFigure_1 (by decide) ?_
  refine v_bipush (57 : Int32) dX9_isFigure_3 (by decide) ?_
  obtain ⟨r1, s1, h1, h⟩ := fm_bds h
  refine v_cSi [.int v0, .int (48 : Int32), .int (57 : Int32)] [] l_X9_50 (c_X9_in hI h1) rfl rfl ⟨rfl, rfl, by decide, by decide⟩ (Nat.le_of_ble_eq_true rfl) dX9_isFigure_5 ?_
  obtain ⟨hb, h⟩ := fm_ift h
  exact v_zret rfl (fm_b_nar hb).1 (ho _ _ (Option.some.inj h).symm) dX9_isFigure_8
theorem c_X9_isFigure {w : fm_W} {l : Launch} (hI : fm_I w 11) {v0 : Int32} {s : fm_M} {r : Int32} {s2 : fm_M} (h : f_X9_isFigure v0 s = some (r, s2)) : fm_C w layM 11 l yX9_isFigure cX9_isFigure 1 (some .boolean) rm_X9_isFigure [.int v0] s (some (.int r), s2) :=
  fm_of hI (by decide) rfl (Nat.le_of_ble_eq_true rfl) (e_X9_isFigure hI v0 s _ h (fun r s e => by cases e; rfl))
-- X9_letterAt
abbrev rm_X9_letterAt : Room := { frames := 0, cells := 0, slots := 0, locals := 0 }
def f_X9_letterAt_18 (sk0 : Int32) (s : fm_M) : Option (Int32 × fm_M) :=
  some (sk0, s)
set_option maxHeartbeats 4000000 in
theorem t_X9_letterAt_18 {w : fm_W} {l : Launch} {o : fm_O} (hI : fm_I w 11) (sk0 : Int32) (s : fm_M) (z : Int32 × fm_M) (h : f_X9_letterAt_18 sk0 s = some z) (ho : ∀ (r : Int32) (s : fm_M), z = (r, s) → o = (some (.int r), s)) : fm_V w layM 11 l rm_X9_letterAt cX9_letterAt 2 RX9 (some .int) o 18 [none, none] [.int sk0] s := by
  unfold f_X9_letterAt_18 at h
  exact v_iret rfl (ho _ _ (Option.some.inj h).symm) dX9_letterAt_18
def f_X9_letterAt (v1 : Int32) (s : fm_M) : Option (Int32 × fm_M) :=
  if (s 0 1) ≤ v1 then f_X9_letterAt_18 (-1 : Int32) s else if fm_in v1 200 = true then f_X9_letterAt_18 (s 1 v1.toNatClampNeg) s else none
set_option maxHeartbeats 4000000 in
theorem e_X9_letterAt {w : fm_W} {l : Launch} {o : fm_O} (hI : fm_I w 11) (v1 : Int32) (s : fm_M) (z : Int32 × fm_M) (h : f_X9_letterAt v1 s = some z) (ho : ∀ (r : Int32) (s : fm_M), z = (r, s) → o = (some (.int r), s)) : fm_V w layM 11 l rm_X9_letterAt cX9_letterAt 2 RX9 (some .int) o 0 [some (.ref (fm_ad w 0)), some (.int v1)] [] s := by
  unfold f_X9_letterAt at h
  refine v_iload_n 1 dX9_letterAt_0 rfl rfl ?_
  refine v_aload_n 0 dX9_letterAt_1 rfl rfl ?_
  refine v_geti g_X9_54 yM_0 (by decide) rfl dX9_letterAt_2 ?_
  refine v_icmp_ge 17 dX9_letterAt_5 (by decide) h (fun h => ?_) (fun h => ?_)
  · refine v_iconst (-1 : Int32) dX9_letterAt_17 (by decide) ?_
    refine v_lw [none, none] rfl trivial ?_
    exact t_X9_letterAt_18 hI (-1 : Int32) s _ h ho
  · refine v_aload_n 0 dX9_letterAt_8 rfl rfl ?_
    refine v_getr 1 g_X9_7 yM_0 (by decide) rfl dX9_letterAt_9 ?_
    refine v_iload_n 1 dX9_letterAt_12 rfl rfl ?_
    obtain ⟨hi, h⟩ := fm_ift h
    refine v_iald (Or.inl ⟨(by decide), yM_1⟩) hi dX9_letterAt_13 ?_
    refine v_goto 18 dX9_letterAt_14 (by decide) ?_
    refine v_lw [none, none] rfl trivial ?_
    exact t_X9_letterAt_18 hI (s 1 v1.toNatClampNeg) s _ h ho
theorem c_X9_letterAt {w : fm_W} {l : Launch} (hI : fm_I w 11) {v1 : Int32} {s : fm_M} {r : Int32} {s2 : fm_M} (h : f_X9_letterAt v1 s = some (r, s2)) : fm_C w layM 11 l yX9_letterAt cX9_letterAt 2 (some .int) rm_X9_letterAt [.ref (fm_ad w 0), .int v1] s (some (.int r), s2) :=
  fm_of hI (by decide) rfl (Nat.le_of_ble_eq_true rfl) (e_X9_letterAt hI v1 s _ h (fun r s e => by cases e; rfl))
-- X9_number
abbrev rm_X9_number : Room := { frames := 2, cells := 0, slots := 0, locals := 42 }
def f_X9_number_132 (sk0 : Int32) (s : fm_M) : Option (Int32 × fm_M) :=
  some (sk0, s)
set_option maxHeartbeats 4000000 in
theorem t_X9_number_132 {w : fm_W} {l : Launch} {o : fm_O} (hI : fm_I w 11) (sk0 : Int32) (s : fm_M) (z : Int32 × fm_M) (h : f_X9_number_132 sk0 s = some z) (ho : ∀ (r : Int32) (s : fm_M), z = (r, s) → o = (some (.int r), s)) : fm_V w layM 11 l rm_X9_number cX9_number 6 RX9 (some .int) o 132 [none, none, none, none, none, none] [.int sk0] s := by
  unfold f_X9_number_132 at h
  exact v_iret rfl (ho _ _ (Option.some.inj h).symm) dX9_number_132
def f_X9_number_109 (v4 : Int32) (sk0 : Int32) (s : fm_M) : Option (Int32 × fm_M) :=
  if sk0 = 0 then f_X9_number_132 (-1 : Int32) (fm_up s 0 11 ((s 0 11) + (1 : Int32))) else f_X9_number_132 v4 (fm_up s 0 11 ((s 0 11) + (1 : Int32)))
set_option maxHeartbeats 4000000 in
theorem t_X9_number_109 {w : fm_W} {l : Launch} {o : fm_O} (hI : fm_I w 11) (v4 : Int32) (sk0 : Int32) (s : fm_M) (z : Int32 × fm_M) (h : f_X9_number_109 v4 sk0 s = some z) (ho : ∀ (r : Int32) (s : fm_M), z = (r, s) → o = (some (.int r), s)) : fm_V w layM 11 l rm_X9_number cX9_number 6 RX9 (some .int) o 109 [some (.ref (fm_ad w 0)), none, none, none, some (.int v4), none] [.int sk0] s := by
  unfold f_X9_number_109 at h
  refine v_istore (lv' := [some (.ref (fm_ad w 0)), none, none, none, some (.int v4), some (.int sk0)]) dX9_number_109 (by decide) rfl rfl ?_
  refine v_aload_n 0 dX9_number_111 rfl rfl ?_
  refine v_dup dX9_number_112 rfl ?_
  refine v_geti g_X9_58 yM_0 (by decide) rfl dX9_number_113 ?_
  refine v_iconst (1 : Int32) dX9_number_116 (by decide) ?_
  refine v_iadd dX9_number_117 ?_
  refine v_put p_X9_58 yM_0 (by decide) rfl ⟨rfl, rfl⟩ dX9_number_118 ?_
  refine v_iload dX9_number_121 rfl ?_
  refine v_if_eq 131 dX9_number_123 (by decide) h (fun h => ?_) (fun h => ?_)
  · refine v_iconst (-1 : Int32) dX9_number_131 (by decide) ?_
    refine v_lw [none, none, none, none, none, none] rfl trivial ?_
    exact t_X9_number_132 hI (-1 : Int32) (fm_up s 0 11 ((s 0 11) + (1 : Int32))) _ h ho
  · refine v_iload dX9_number_126 rfl ?_
    refine v_goto 132 dX9_number_128 (by decide) ?_
    refine v_lw [none, none, none, none, none, none] rfl trivial ?_
    exact t_X9_number_132 hI v4 (fm_up s 0 11 ((s 0 11) + (1 : Int32))) _ h ho
def f_X9_number_108 (v4 : Int32) (s : fm_M) : Option (Int32 × fm_M) :=
  f_X9_number_109 v4 (0 : Int32) s
set_option maxHeartbeats 4000000 in
theorem t_X9_number_108 {w : fm_W} {l : Launch} {o : fm_O} (hI : fm_I w 11) (v4 : Int32) (s : fm_M) (z : Int32 × fm_M) (h : f_X9_number_108 v4 s = some z) (ho : ∀ (r : Int32) (s : fm_M), z = (r, s) → o = (some (.int r), s)) : fm_V w layM 11 l rm_X9_number cX9_number 6 RX9 (some .int) o 108 [some (.ref (fm_ad w 0)), none, none, none, some (.int v4), none] [] s := by
  unfold f_X9_number_108 at h
  refine v_iconst (0 : Int32) dX9_number_108 (by decide) ?_
  refine v_lw [some (.ref (fm_ad w 0)), none, none, none, some (.int v4), none] rfl ⟨rfl, rfl, trivial⟩ ?_
  exact t_X9_number_109 hI v4 (0 : Int32) s _ h ho
def f_X9_number_82 (v1 : Int32) (v2 : Int32) (v3 : Int32) (v4 : Int32) (s : fm_M) : Option (Int32 × fm_M) :=
  fm_bd (f_X9_letterAt (s 0 11) s) (fun r6 s6 => if r6 = v3 then fm_bd (f_X9_in v4 v1 v2 s6) (fun r7 s7 => if r7 = 0 then f_X9_number_108 v4 s7 else f_X9_number_109 v4 (1 : Int32) s7) else f_X9_number_108 v4 s6)
set_option maxHeartbeats 4000000 in
theorem t_X9_number_82 {w : fm_W} {l : Launch} {o : fm_O} (hI : fm_I w 11) (v1 : Int32) (v2 : Int32) (v3 : Int32) (v4 : Int32) (s : fm_M) (z : Int32 × fm_M) (h : f_X9_number_82 v1 v2 v3 v4 s = some z) (ho : ∀ (r : Int32) (s : fm_M), z = (r, s) → o = (some (.int r), s)) : fm_V w layM 11 l rm_X9_number cX9_number 6 RX9 (some .int) o 82 [some (.ref (fm_ad w 0)), some (.int v1), some (.int v2), some (.int v3), some (.int v4), none] [] s := by
  unfold f_X9_number_82 at h
  refine v_aload_n 0 dX9_number_82 rfl rfl ?_
  refine v_aload_n 0 dX9_number_83 rfl rfl ?_
  refine v_geti g_X9_58 yM_0 (by decide) rfl dX9_number_84 ?_
  obtain ⟨r6, s6, h6, h⟩ := fm_bds h
  refine v_cVi [.int (s 0 11)] [] l_X9_61 (c_X9_letterAt hI h6) yM_0 (by decide) rfl rfl ⟨rfl, rfl, by decide, by decide⟩ (Nat.le_of_ble_eq_true rfl) dX9_number_87 ?_
  refine v_iload_n 3 dX9_number_90 rfl rfl ?_
  refine v_icmp_ne 108 dX9_number_91 (by decide) h (fun h => ?_) (fun h => ?_)
  · refine v_lw [some (.ref (fm_ad w 0)), none, none, none, some (.int v4), none] rfl ⟨rfl, rfl, trivial⟩ ?_
    exact t_X9_number_108 hI v4 s6 _ h ho
  · refine v_iload dX9_number_94 rfl ?_
    refine v_iload_n 1 dX9_number_96 rfl rfl ?_
    refine v_iload_n 2 dX9_number_97 rfl rfl ?_
    obtain ⟨r7, s7, h7, h⟩ := fm_bds h
    refine v_cSi [.int v4, .int v1, .int v2] [] l_X9_50 (c_X9_in hI h7) rfl rfl ⟨rfl, rfl, by decide, by decide⟩ (Nat.le_of_ble_eq_true rfl) dX9_number_98 ?_
    refine v_if_eq 108 dX9_number_101 (by decide) h (fun h => ?_) (fun h => ?_)
    · refine v_lw [some (.ref (fm_ad w 0)), none, none, none, some (.int v4), none] rfl ⟨rfl, rfl, trivial⟩ ?_
      exact t_X9_number_108 hI v4 s7 _ h ho
    · refine v_iconst (1 : Int32) dX9_number_104 (by decide) ?_
      refine v_goto 109 dX9_number_105 (by decide) ?_
      refine v_lw [some (.ref (fm_ad w 0)), none, none, none, some (.int v4), none] rfl ⟨rfl, rfl, trivial⟩ ?_
      exact t_X9_number_109 hI v4 (1 : Int32) s7 _ h ho
def f_X9_number (v1 : Int32) (v2 : Int32) (v3 : Int32) (s : fm_M) : Option (Int32 × fm_M) :=
  fm_bd (f_X9_letterAt (s 0 11) s) (fun r1 s1 => fm_bd (f_X9_isFigure r1 s1) (fun r2 s2 => if r2 = 0 then some ((-1 : Int32), s2) else fm_bd (f_X9_letterAt (s2 0 11) s2) (fun r3 s3 => fm_bd (f_X9_letterAt ((fm_up s3 0 11 ((s3 0 11) + (1 : Int32))) 0 11) (fm_up s3 0 11 ((s3 0 11) + (1 : Int32)))) (fun r4 s4 => fm_bd (f_X9_isFigure r4 s4) (fun r5 s5 => if r5 = 0 then f_X9_number_82 v1 v2 v3 (r3 - (48 : Int32)) s5 else fm_bd (f_X9_letterAt (s5 0 11) s5) (fun r8 s8 => f_X9_number_82 v1 v2 v3 ((((10 : Int32) * (r3 - (48 : Int32))) + r8) - (48 : Int32)) (fm_up s8 0 11 ((s8 0 11) + (1 : Int32)))))))))
set_option maxHeartbeats 4000000 in
theorem e_X9_number {w : fm_W} {l : Launch} {o : fm_O} (hI : fm_I w 11) (v1 : Int32) (v2 : Int32) (v3 : Int32) (s : fm_M) (z : Int32 × fm_M) (h : f_X9_number v1 v2 v3 s = some z) (ho : ∀ (r : Int32) (s : fm_M), z = (r, s) → o = (some (.int r), s)) : fm_V w layM 11 l rm_X9_number cX9_number 6 RX9 (some .int) o 0 [some (.ref (fm_ad w 0)), some (.int v1), some (.int v2), some (.int v3), none, none] [] s := by
  unfold f_X9_number at h
  refine v_aload_n 0 dX9_number_0 rfl rfl ?_
  refine v_aload_n 0 dX9_number_1 rfl rfl ?_
  refine v_geti g_X9_58 yM_0 (by decide) rfl dX9_number_2 ?_
  obtain ⟨r1, s1, h1, h⟩ := fm_bds h
  refine v_cVi [.int (s 0 11)] [] l_X9_61 (c_X9_letterAt hI h1) yM_0 (by decide) rfl rfl ⟨rfl, rfl, by decide, by decide⟩ (Nat.le_of_ble_eq_true rfl) dX9_number_5 ?_
  obtain ⟨r2, s2, h2, h⟩ := fm_bds h
  refine v_cSi [.int r1] [] l_X9_65 (c_X9_isFigure hI h2) rfl rfl ⟨rfl, rfl, by decide, by decide⟩ (Nat.le_of_ble_eq_true rfl) dX9_number_8 ?_
  refine v_if_ne 16 dX9_number_11 (by decide) h (fun h => ?_) (fun h => ?_)
  · refine v_aload_n 0 dX9_number_16 rfl rfl ?_
    refine v_aload_n 0 dX9_number_17 rfl rfl ?_
    refine v_geti g_X9_58 yM_0 (by decide) rfl dX9_number_18 ?_
    obtain ⟨r3, s3, h3, h⟩ := fm_bds h
    refine v_cVi [.int (s2 0 11)] [] l_X9_61 (c_X9_letterAt hI h3) yM_0 (by decide) rfl rfl ⟨rfl, rfl, by decide, by decide⟩ (Nat.le_of_ble_eq_true rfl) dX9_number_21 ?_
    refine v_bipush (48 : Int32) dX9_number_24 (by decide) ?_
    refine v_isub dX9_number_26 ?_
    refine v_istore (lv' := [some (.ref (fm_ad w 0)), some (.int v1), some (.int v2), some (.int v3), some (.int (r3 - (48 : Int32))), none]) dX9_number_27 (by decide) rfl rfl ?_
    refine v_aload_n 0 dX9_number_29 rfl rfl ?_
    refine v_dup dX9_number_30 rfl ?_
    refine v_geti g_X9_58 yM_0 (by decide) rfl dX9_number_31 ?_
    refine v_iconst (1 : Int32) dX9_number_34 (by decide) ?_
    refine v_iadd dX9_number_35 ?_
    refine v_put p_X9_58 yM_0 (by decide) rfl ⟨rfl, rfl⟩ dX9_number_36 ?_
    refine v_aload_n 0 dX9_number_39 rfl rfl ?_
    refine v_aload_n 0 dX9_number_40 rfl rfl ?_
    refine v_geti g_X9_58 yM_0 (by decide) rfl dX9_number_41 ?_
    obtain ⟨r4, s4, h4, h⟩ := fm_bds h
    refine v_cVi [.int ((fm_up s3 0 11 ((s3 0 11) + (1 : Int32))) 0 11)] [] l_X9_61 (c_X9_letterAt hI h4) yM_0 (by decide) rfl rfl ⟨rfl, rfl, by decide, by decide⟩ (Nat.le_of_ble_eq_true rfl) dX9_number_44 ?_
    obtain ⟨r5, s5, h5, h⟩ := fm_bds h
    refine v_cSi [.int r4] [] l_X9_65 (c_X9_isFigure hI h5) rfl rfl ⟨rfl, rfl, by decide, by decide⟩ (Nat.le_of_ble_eq_true rfl) dX9_number_47 ?_
    refine v_if_eq 82 dX9_number_50 (by decide) h (fun h => ?_) (fun h => ?_)
    · refine v_lw [some (.ref (fm_ad w 0)), some (.int v1), some (.int v2), some (.int v3), some (.int (r3 - (48 : Int32))), none] rfl ⟨rfl, rfl, rfl, rfl, rfl, trivial⟩ ?_
      exact t_X9_number_82 hI v1 v2 v3 (r3 - (48 : Int32)) s5 _ h ho
    · refine v_bipush (10 : Int32) dX9_number_53 (by decide) ?_
      refine v_iload dX9_number_55 rfl ?_
      refine v_imul dX9_number_57 ?_
      refine v_aload_n 0 dX9_number_58 rfl rfl ?_
      refine v_aload_n 0 dX9_number_59 rfl rfl ?_
      refine v_geti g_X9_58 yM_0 (by decide) rfl dX9_number_60 ?_
      obtain ⟨r8, s8, h8, h⟩ := fm_bds h
      refine v_cVi [.int (s5 0 11)] [.int ((10 : Int32) * (r3 - (48 : Int32)))] l_X9_61 (c_X9_letterAt hI h8) yM_0 (by decide) rfl rfl ⟨rfl, rfl, by decide, by decide⟩ (Nat.le_of_ble_eq_true rfl) dX9_number_63 ?_
      refine v_iadd dX9_number_66 ?_
      refine v_bipush (48 : Int32) dX9_number_67 (by decide) ?_
      refine v_isub dX9_number_69 ?_
      refine v_istore (lv' := [some (.ref (fm_ad w 0)), some (.int v1), some (.int v2), some (.int v3), some (.int ((((10 : Int32) * (r3 - (48 : Int32))) + r8) - (48 : Int32))), none]) dX9_number_70 (by decide) rfl rfl ?_
      refine v_aload_n 0 dX9_number_72 rfl rfl ?_
      refine v_dup dX9_number_73 rfl ?_
      refine v_geti g_X9_58 yM_0 (by decide) rfl dX9_number_74 ?_
      refine v_iconst (1 : Int32) dX9_number_77 (by decide) ?_
      refine v_iadd dX9_number_78 ?_
      refine v_put p_X9_58 yM_0 (by decide) rfl ⟨rfl, rfl⟩ dX9_number_79 ?_
      refine v_lw [some (.ref (fm_ad w 0)), some (.int v1), some (.int v2), some (.int v3), some (.int ((((10 : Int32) * (r3 - (48 : Int32))) + r8) - (48 : Int32))), none] rfl ⟨rfl, rfl, rfl, rfl, rfl, trivial⟩ ?_
      exact t_X9_number_82 hI v1 v2 v3 ((((10 : Int32) * (r3 - (48 : Int32))) + r8) - (48 : Int32)) (fm_up s8 0 11 ((s8 0 11) + (1 : Int32))) _ h ho
  · refine v_iconst (-1 : Int32) dX9_number_14 (by decide) ?_
    exact v_iret rfl (ho _ _ (Option.some.inj h).symm) dX9_number_15
theorem c_X9_number {w : fm_W} {l : Launch} (hI : fm_I w 11) {v1 : Int32} {v2 : Int32} {v3 : Int32} {s : fm_M} {r : Int32} {s2 : fm_M} (h : f_X9_number v1 v2 v3 s = some (r, s2)) : fm_C w layM 11 l yX9_number cX9_number 6 (some .int) rm_X9_number [.ref (fm_ad w 0), .int v1, .int v2, .int v3] s (some (.int r), s2) :=
  fm_of hI (by decide) rfl (Nat.le_of_ble_eq_true rfl) (e_X9_number hI v1 v2 v3 s _ h (fun r s e => by cases e; rfl))
-- X9_one
abbrev rm_X9_one : Room := { frames := 3, cells := 0, slots := 0, locals := 67 }
def f_X9_one_28 (sk0 : Int32) (s : fm_M) : Option (Int32 × fm_M) :=
  if fm_b sk0 = true then some (sk0, s) else none
set_option maxHeartbeats 4000000 in
theorem t_X9_one_28 {w : fm_W} {l : Launch} {o : fm_O} (hI : fm_I w 11) (sk0 : Int32) (s : fm_M) (z : Int32 × fm_M) (h : f_X9_one_28 sk0 s = some z) (ho : ∀ (r : Int32) (s : fm_M), z = (r, s) → o = (some (.int r), s)) : fm_V w layM 11 l rm_X9_one cX9_one 3 RX9 (some .boolean) o 28 [none, none, none] [.int sk0] s := by
  unfold f_X9_one_28 at h
  obtain ⟨hb, h⟩ := fm_ift h
  exact v_zret rfl (fm_b_nar hb).1 (ho _ _ (Option.some.inj h).symm) dX9_one_28
def f_X9_one (v1 : Int32) (v2 : Int32) (s : fm_M) : Option (Int32 × fm_M) :=
  fm_bd (f_X9_number (1 : Int32) v2 (59 : Int32) s) (fun r1 s1 => if fm_in v1 17 = true then if fm_in v1 17 = true then if ((fm_up s1 3 v1.toNatClampNeg r1) 3 v1.toNatClampNeg) ≤ 0 then f_X9_one_28 (0 : Int32) (fm_up s1 3 v1.toNatClampNeg r1) else f_X9_one_28 (1 : Int32) (fm_up s1 3 v1.toNatClampNeg r1) else none else none)
set_option maxHeartbeats 4000000 in
theorem e_X9_one {w : fm_W} {l : Launch} {o : fm_O} (hI : fm_I w 11) (v1 : Int32) (v2 : Int32) (s : fm_M) (z : Int32 × fm_M) (h : f_X9_one v1 v2 s = some z) (ho : ∀ (r : Int32) (s : fm_M), z = (r, s) → o = (some (.int r), s)) : fm_V w layM 11 l rm_X9_one cX9_one 3 RX9 (some .boolean) o 0 [some (.ref (fm_ad w 0)), some (.int v1), some (.int v2)] [] s := by
  unfold f_X9_one at h
  refine v_aload_n 0 dX9_one_0 rfl rfl ?_
  refine v_getr 3 g_X9_16 yM_0 (by decide) rfl dX9_one_1 ?_
  refine v_iload_n 1 dX9_one_4 rfl rfl ?_
  refine v_aload_n 0 dX9_one_5 rfl rfl ?_
  refine v_iconst (1 : Int32) dX9_one_6 (by decide) ?_
  refine v_iload_n 2 dX9_one_7 rfl rfl ?_
  refine v_bipush (59 : Int32) dX9_one_8 (by decide) ?_
  obtain ⟨r1, s1, h1, h⟩ := fm_bds h
  refine v_cVi [.int (1 : Int32), .int v2, .int (59 : Int32)] [.int v1, .ref (fm_ad w 3)] l_X9_69 (c_X9_number hI h1) yM_0 (by decide) rfl rfl ⟨rfl, rfl, by decide, by decide⟩ (Nat.le_of_ble_eq_true rfl) dX9_one_10 ?_
  obtain ⟨hi, h⟩ := fm_ift h
  refine v_iast (by decide) yM_3 hi dX9_one_13 ?_
  refine v_aload_n 0 dX9_one_14 rfl rfl ?_
  refine v_getr 3 g_X9_16 yM_0 (by decide) rfl dX9_one_15 ?_
  refine v_iload_n 1 dX9_one_18 rfl rfl ?_
  obtain ⟨hi, h⟩ := fm_ift h
  refine v_iald (Or.inl ⟨(by decide), yM_3⟩) hi dX9_one_19 ?_
  refine v_if_le 27 dX9_one_20 (by decide) h (fun h => ?_) (fun h => ?_)
  · refine v_iconst (0 : Int32) dX9_one_27 (by decide) ?_
    refine v_lw [none, none, none] rfl trivial ?_
    exact t_X9_one_28 hI (0 : Int32) (fm_up s1 3 v1.toNatClampNeg r1) _ h ho
  · refine v_iconst (1 : Int32) dX9_one_23 (by decide) ?_
    refine v_goto 28 dX9_one_24 (by decide) ?_
    refine v_lw [none, none, none] rfl trivial ?_
    exact t_X9_one_28 hI (1 : Int32) (fm_up s1 3 v1.toNatClampNeg r1) _ h ho
theorem c_X9_one {w : fm_W} {l : Launch} (hI : fm_I w 11) {v1 : Int32} {v2 : Int32} {s : fm_M} {r : Int32} {s2 : fm_M} (h : f_X9_one v1 v2 s = some (r, s2)) : fm_C w layM 11 l yX9_one cX9_one 3 (some .boolean) rm_X9_one [.ref (fm_ad w 0), .int v1, .int v2] s (some (.int r), s2) :=
  fm_of hI (by decide) rfl (Nat.le_of_ble_eq_true rfl) (e_X9_one hI v1 v2 s _ h (fun r s e => by cases e; rfl))
-- X9_readsItem
abbrev rm_X9_readsItem : Room := { frames := 4, cells := 0, slots := 0, locals := 89 }
def f_X9_readsItem_94 (s : fm_M) : Option (Int32 × fm_M) :=
  some ((0 : Int32), s)
set_option maxHeartbeats 4000000 in
theorem t_X9_readsItem_94 {w : fm_W} {l : Launch} {o : fm_O} (hI : fm_I w 11) (s : fm_M) (z : Int32 × fm_M) (h : f_X9_readsItem_94 s = some z) (ho : ∀ (r : Int32) (s : fm_M), z = (r, s) → o = (some (.int r), s)) : fm_V w layM 11 l rm_X9_readsItem cX9_readsItem 4 RX9 (some .boolean) o 94 [none, none, none, none] [] s := by
  unfold f_X9_readsItem_94 at h
  refine v_iconst (0 : Int32) dX9_readsItem_94 (by decide) ?_
  exact v_zret rfl (by decide) (ho _ _ (Option.some.inj h).symm) dX9_readsItem_95
def f_X9_readsItem_78 (v2 : Int32) (sk0 : Int32) (s : fm_M) : Option (Int32 × fm_M) :=
  if sk0 < 0 then f_X9_readsItem_94 s else if fm_in (0 : Int32) 17 = true then if (s 3 (0 : Int32).toNatClampNeg) = (6 : Int32) then f_X9_readsItem_94 s else fm_bd (f_X9_childOf v2 sk0 s) (fun r3 s3 => some ((1 : Int32), s3)) else none
set_option maxHeartbeats 4000000 in
theorem t_X9_readsItem_78 {w : fm_W} {l : Launch} {o : fm_O} (hI : fm_I w 11) (v2 : Int32) (sk0 : Int32) (s : fm_M) (z : Int32 × fm_M) (h : f_X9_readsItem_78 v2 sk0 s = some z) (ho : ∀ (r : Int32) (s : fm_M), z = (r, s) → o = (some (.int r), s)) : fm_V w layM 11 l rm_X9_readsItem cX9_readsItem 4 RX9 (some .boolean) o 78 [some (.ref (fm_ad w 0)), none, some (.int v2), none] [.int sk0] s := by
  unfold f_X9_readsItem_78 at h
  refine v_istore_n (lv' := [some (.ref (fm_ad w 0)), none, some (.int v2), some (.int sk0)]) 3 dX9_readsItem_78 rfl (by decide) rfl rfl ?_
  refine v_iload_n 3 dX9_readsItem_79 rfl rfl ?_
  refine v_if_lt 94 dX9_readsItem_80 (by decide) h (fun h => ?_) (fun h => ?_)
  · refine v_lw [none, none, none, none] rfl trivial ?_
    exact t_X9_readsItem_94 hI s _ h ho
  · refine v_aload_n 0 dX9_readsItem_83 rfl rfl ?_
    refine v_getr 3 g_X9_16 yM_0 (by decide) rfl dX9_readsItem_84 ?_
    refine v_iconst (0 : Int32) dX9_readsItem_87 (by decide) ?_
    obtain ⟨hi, h⟩ := fm_ift h
    refine v_iald (Or.inl ⟨(by decide), yM_3⟩) hi dX9_readsItem_88 ?_
    refine v_bipush (6 : Int32) dX9_readsItem_89 (by decide) ?_
    refine v_icmp_ne 96 dX9_readsItem_91 (by decide) h (fun h => ?_) (fun h => ?_)
    · refine v_aload_n 0 dX9_readsItem_96 rfl rfl ?_
      refine v_iload_n 2 dX9_readsItem_97 rfl rfl ?_
      refine v_iload_n 3 dX9_readsItem_98 rfl rfl ?_
      obtain ⟨r3, s3, h3, h⟩ := fm_bds h
      refine v_cVv [.int v2, .int sk0] [] l_X9_43 (c_X9_childOf hI h3) yM_0 (by decide) rfl rfl ⟨rfl, rfl, by decide, by decide⟩ (Nat.le_of_ble_eq_true rfl) dX9_readsItem_99 ?_
      refine v_iconst (1 : Int32) dX9_readsItem_102 (by decide) ?_
      exact v_zret rfl (by decide) (ho _ _ (Option.some.inj h).symm) dX9_readsItem_103
    · refine v_lw [none, none, none, none] rfl trivial ?_
      exact t_X9_readsItem_94 hI s _ h ho
def f_X9_readsItem (v1 : Int32) (s : fm_M) : Option (Int32 × fm_M) :=
  if v1 = (99 : Int32) then fm_bd (f_X9_number (0 : Int32) (3 : Int32) (44 : Int32) s) (fun r1 s1 => if 0 ≤ r1 then fm_bd (f_X9_number (1 : Int32) (12 : Int32) (59 : Int32) s1) (fun r2 s2 => f_X9_readsItem_78 r1 r2 s2) else f_X9_readsItem_78 r1 (-1 : Int32) s1) else if v1 = (103 : Int32) then fm_bd (f_X9_one (3 : Int32) (4 : Int32) s) (fun r4 s4 => if fm_b r4 = true then some (r4, s4) else none) else if v1 = (104 : Int32) then fm_bd (f_X9_one (2 : Int32) (20 : Int32) s) (fun r5 s5 => if fm_b r5 = true then some (r5, s5) else none) else if v1 = (108 : Int32) then fm_bd (f_X9_one (4 : Int32) (99 : Int32) s) (fun r6 s6 => if fm_b r6 = true then some (r6, s6) else none) else if v1 = (119 : Int32) then fm_bd (f_X9_one (1 : Int32) (3 : Int32) s) (fun r7 s7 => if fm_b r7 = true then some (r7, s7) else none) else some ((0 : Int32), s)
set_option maxHeartbeats 4000000 in
theorem e_X9_readsItem {w : fm_W} {l : Launch} {o : fm_O} (hI : fm_I w 11) (v1 : Int32) (s : fm_M) (z : Int32 × fm_M) (h : f_X9_readsItem v1 s = some z) (ho : ∀ (r : Int32) (s : fm_M), z = (r, s) → o = (some (.int r), s)) : fm_V w layM 11 l rm_X9_readsItem cX9_readsItem 4 RX9 (some .boolean) o 0 [some (.ref (fm_ad w 0)), some (.int v1), none, none] [] s := by
  unfold f_X9_readsItem at h
  refine v_iload_n 1 dX9_readsItem_0 rfl rfl ?_
  by_cases hx0 : v1 = (99 : Int32)
  · rw [if_pos hx0] at h
    refine v_lookup (off := 51) 52 dX9_readsItem_1 (by decide) (by rw [hx0]; decide) (by decide) ?_
    refine v_aload_n 0 dX9_readsItem_52 rfl rfl ?_
    refine v_iconst (0 : Int32) dX9_readsItem_53 (by decide) ?_
    refine v_iconst (3 : Int32) dX9_readsItem_54 (by decide) ?_
    refine v_bipush (44 : Int32) dX9_readsItem_55 (by decide) ?_
    obtain ⟨r1, s1, h1, h⟩ := fm_bds h
    refine v_cVi [.int (0 : Int32), .int (3 : Int32), .int (44 : Int32)] [] l_X9_69 (c_X9_number hI h1) yM_0 (by decide) rfl rfl ⟨rfl, rfl, by decide, by decide⟩ (Nat.le_of_ble_eq_true rfl) dX9_readsItem_57 ?_
    refine v_istore_n (lv' := [some (.ref (fm_ad w 0)), some (.int v1), some (.int r1), none]) 2 dX9_readsItem_60 rfl (by decide) rfl rfl ?_
    refine v_iload_n 2 dX9_readsItem_61 rfl rfl ?_
    refine v_if_ge 69 dX9_readsItem_62 (by decide) h (fun h => ?_) (fun h => ?_)
    · refine v_aload_n 0 dX9_readsItem_69 rfl rfl ?_
      refine v_iconst (1 : Int32) dX9_readsItem_70 (by decide) ?_
      refine v_bipush (12 : Int32) dX9_readsItem_71 (by decide) ?_
      refine v_bipush (59 : Int32) dX9_readsItem_73 (by decide) ?_
      obtain ⟨r2, s2, h2, h⟩ := fm_bds h
      refine v_cVi [.int (1 : Int32), .int (12 : Int32), .int (59 : Int32)] [] l_X9_69 (c_X9_number hI h2) yM_0 (by decide) rfl rfl ⟨rfl, rfl, by decide, by decide⟩ (Nat.le_of_ble_eq_true rfl) dX9_readsItem_75 ?_
      refine v_lw [some (.ref (fm_ad w 0)), none, some (.int r1), none] rfl ⟨rfl, rfl, trivial⟩ ?_
      exact t_X9_readsItem_78 hI r1 r2 s2 _ h ho
    · refine v_iconst (-1 : Int32) dX9_readsItem_65 (by decide) ?_
      refine v_goto 78 dX9_readsItem_66 (by decide) ?_
      refine v_lw [some (.ref (fm_ad w 0)), none, some (.int r1), none] rfl ⟨rfl, rfl, trivial⟩ ?_
      exact t_X9_readsItem_78 hI r1 (-1 : Int32) s1 _ h ho
  rw [if_neg hx0] at h
  by_cases hx1 : v1 = (103 : Int32)
  · rw [if_pos hx1] at h
    refine v_lookup (off := 118) 119 dX9_readsItem_1 (by decide) (by rw [hx1]; decide) (by decide) ?_
    refine v_aload_n 0 dX9_readsItem_119 rfl rfl ?_
    refine v_iconst (3 : Int32) dX9_readsItem_120 (by decide) ?_
    refine v_iconst (4 : Int32) dX9_readsItem_121 (by decide) ?_
    obtain ⟨r4, s4, h4, h⟩ := fm_bds h
    refine v_cVi [.int (3 : Int32), .int (4 : Int32)] [] l_X9_73 (c_X9_one hI h4) yM_0 (by decide) rfl rfl ⟨rfl, rfl, by decide, by decide⟩ (Nat.le_of_ble_eq_true rfl) dX9_readsItem_122 ?_
    obtain ⟨hb, h⟩ := fm_ift h
    exact v_zret rfl (fm_b_nar hb).1 (ho _ _ (Option.some.inj h).symm) dX9_readsItem_125
  rw [if_neg hx1] at h
  by_cases hx2 : v1 = (104 : Int32)
  · rw [if_pos hx2] at h
    refine v_lookup (off := 110) 111 dX9_readsItem_1 (by decide) (by rw [hx2]; decide) (by decide) ?_
    refine v_aload_n 0 dX9_readsItem_111 rfl rfl ?_
    refine v_iconst (2 : Int32) dX9_readsItem_112 (by decide) ?_
    refine v_bipush (20 : Int32) dX9_readsItem_113 (by decide) ?_
    obtain ⟨r5, s5, h5, h⟩ := fm_bds h
    refine v_cVi [.int (2 : Int32), .int (20 : Int32)] [] l_X9_73 (c_X9_one hI h5) yM_0 (by decide) rfl rfl ⟨rfl, rfl, by decide, by decide⟩ (Nat.le_of_ble_eq_true rfl) dX9_readsItem_115 ?_
    obtain ⟨hb, h⟩ := fm_ift h
    exact v_zret rfl (fm_b_nar hb).1 (ho _ _ (Option.some.inj h).symm) dX9_readsItem_118
  rw [if_neg hx2] at h
  by_cases hx3 : v1 = (108 : Int32)
  · rw [if_pos hx3] at h
    refine v_lookup (off := 125) 126 dX9_readsItem_1 (by decide) (by rw [hx3]; decide) (by decide) ?_
    refine v_aload_n 0 dX9_readsItem_126 rfl rfl ?_
    refine v_iconst (4 : Int32) dX9_readsItem_127 (by decide) ?_
    refine v_bipush (99 : Int32) dX9_readsItem_128 (by decide) ?_
    obtain ⟨r6, s6, h6, h⟩ := fm_bds h
    refine v_cVi [.int (4 : Int32), .int (99 : Int32)] [] l_X9_73 (c_X9_one hI h6) yM_0 (by decide) rfl rfl ⟨rfl, rfl, by decide, by decide⟩ (Nat.le_of_ble_eq_true rfl) dX9_readsItem_130 ?_
    obtain ⟨hb, h⟩ := fm_ift h
    exact v_zret rfl (fm_b_nar hb).1 (ho _ _ (Option.some.inj h).symm) dX9_readsItem_133
  rw [if_neg hx3] at h
  by_cases hx4 : v1 = (119 : Int32)
  · rw [if_pos hx4] at h
    refine v_lookup (off := 103) 104 dX9_readsItem_1 (by decide) (by rw [hx4]; decide) (by decide) ?_
    refine v_aload_n 0 dX9_readsItem_104 rfl rfl ?_
    refine v_iconst (1 : Int32) dX9_readsItem_105 (by decide) ?_
    refine v_iconst (3 : Int32) dX9_readsItem_106 (by decide) ?_
    obtain ⟨r7, s7, h7, h⟩ := fm_bds h
    refine v_cVi [.int (1 : Int32), .int (3 : Int32)] [] l_X9_73 (c_X9_one hI h7) yM_0 (by decide) rfl rfl ⟨rfl, rfl, by decide, by decide⟩ (Nat.le_of_ble_eq_true rfl) dX9_readsItem_107 ?_
    obtain ⟨hb, h⟩ := fm_ift h
    exact v_zret rfl (fm_b_nar hb).1 (ho _ _ (Option.some.inj h).symm) dX9_readsItem_110
  rw [if_neg hx4] at h
  refine v_lookup (off := 133) 134 dX9_readsItem_1 (by decide) ((lv_osw hx0 (by decide)).trans ((lv_osw hx1 (by decide)).trans ((lv_osw hx2 (by decide)).trans ((lv_osw hx3 (by decide)).trans ((lv_osw hx4 (by decide)).trans rfl))))) (by decide) ?_
  refine v_iconst (0 : Int32) dX9_readsItem_134 (by decide) ?_
  exact v_zret rfl (by decide) (ho _ _ (Option.some.inj h).symm) dX9_readsItem_135
theorem c_X9_readsItem {w : fm_W} {l : Launch} (hI : fm_I w 11) {v1 : Int32} {s : fm_M} {r : Int32} {s2 : fm_M} (h : f_X9_readsItem v1 s = some (r, s2)) : fm_C w layM 11 l yX9_readsItem cX9_readsItem 4 (some .boolean) rm_X9_readsItem [.ref (fm_ad w 0), .int v1] s (some (.int r), s2) :=
  fm_of hI (by decide) rfl (Nat.le_of_ble_eq_true rfl) (e_X9_readsItem hI v1 s _ h (fun r s e => by cases e; rfl))
-- X9_readsAll
abbrev rm_X9_readsAll : Room := { frames := 5, cells := 0, slots := 0, locals := 112 }
def f_X9_readsAll_9 (s : fm_M) : Option ((fm_M) ⊕ ((Int32 × fm_M) ⊕ (fm_M))) :=
  if (s 0 1) ≤ (s 0 11) then some (.inr (.inr s)) else if fm_in (s 0 11) 200 = true then fm_bd (f_X9_readsItem ((fm_up s 0 11 ((s 0 11) + (1 : Int32))) 1 (s 0 11).toNatClampNeg) (fm_up s 0 11 ((s 0 11) + (1 : Int32)))) (fun r2 s2 => if r2 = 0 then some (.inr (.inl ((s 0 11), s2))) else some (.inl s2)) else none
set_option maxHeartbeats 4000000 in
theorem t_X9_readsAll_9 {w : fm_W} {l : Launch} {o : fm_O} (hI : fm_I w 11) (s : fm_M) (z : (fm_M) ⊕ ((Int32 × fm_M) ⊕ (fm_M))) (h : f_X9_readsAll_9 s = some z) (kb : ∀ (s : fm_M), z = .inl (s) → fm_V w layM 11 l rm_X9_readsAll cX9_readsAll 2 RX9 (some .int) o 9 [some (.ref (fm_ad w 0)), none] [] s) (ke : ∀ (s : fm_M), z = .inr (.inr (s)) → fm_V w layM 11 l rm_X9_readsAll cX9_readsAll 2 RX9 (some .int) o 53 [some (.ref (fm_ad w 0)), none] [] s) (kr : ∀ (r : Int32) (s : fm_M), z = .inr (.inl (r, s)) → o = (some (.int r), s)) : fm_V w layM 11 l rm_X9_readsAll cX9_readsAll 2 RX9 (some .int) o 9 [some (.ref (fm_ad w 0)), none] [] s := by
  unfold f_X9_readsAll_9 at h
  refine v_aload_n 0 dX9_readsAll_9 rfl rfl ?_
  refine v_geti g_X9_58 yM_0 (by decide) rfl dX9_readsAll_10 ?_
  refine v_aload_n 0 dX9_readsAll_13 rfl rfl ?_
  refine v_geti g_X9_54 yM_0 (by decide) rfl dX9_readsAll_14 ?_
  refine v_icmp_ge 53 dX9_readsAll_17 (by decide) h (fun h => ?_) (fun h => ?_)
  · refine v_lw [some (.ref (fm_ad w 0)), none] rfl ⟨rfl, trivial⟩ ?_
    exact ke _ (Option.some.inj h).symm
  · refine v_aload_n 0 dX9_readsAll_20 rfl rfl ?_
    refine v_geti g_X9_58 yM_0 (by decide) rfl dX9_readsAll_21 ?_
    refine v_istore_n (lv' := [some (.ref (fm_ad w 0)), some (.int (s 0 11))]) 1 dX9_readsAll_24 rfl (by decide) rfl rfl ?_
    refine v_aload_n 0 dX9_readsAll_25 rfl rfl ?_
    refine v_dup dX9_readsAll_26 rfl ?_
    refine v_geti g_X9_58 yM_0 (by decide) rfl dX9_readsAll_27 ?_
    refine v_iconst (1 : Int32) dX9_readsAll_30 (by decide) ?_
    refine v_iadd dX9_readsAll_31 ?_
    refine v_put p_X9_58 yM_0 (by decide) rfl ⟨rfl, rfl⟩ dX9_readsAll_32 ?_
    refine v_aload_n 0 dX9_readsAll_35 rfl rfl ?_
    refine v_aload_n 0 dX9_readsAll_36 rfl rfl ?_
    refine v_getr 1 g_X9_7 yM_0 (by decide) rfl dX9_readsAll_37 ?_
    refine v_iload_n 1 dX9_readsAll_40 rfl rfl ?_
    obtain ⟨hi, h⟩ := fm_ift h
    refine v_iald (Or.inl ⟨(by decide), yM_1⟩) hi dX9_readsAll_41 ?_
    obtain ⟨r2, s2, h2, h⟩ := fm_bds h
    refine v_cVi [.int ((fm_up s 0 11 ((s 0 11) + (1 : Int32))) 1 (s 0 11).toNatClampNeg)] [] l_X9_77 (c_X9_readsItem hI h2) yM_0 (by decide) rfl rfl ⟨rfl, rfl, by decide, by decide⟩ (Nat.le_of_ble_eq_true rfl) dX9_readsAll_42 ?_
    refine v_if_ne 50 dX9_readsAll_45 (by decide) h (fun h => ?_) (fun h => ?_)
    · refine v_goto 9 dX9_readsAll_50 (by decide) ?_
      refine v_lw [some (.ref (fm_ad w 0)), none] rfl ⟨rfl, trivial⟩ ?_
      exact kb _ (Option.some.inj h).symm
    · refine v_iload_n 1 dX9_readsAll_48 rfl rfl ?_
      exact v_iret rfl (kr _ _ (Option.some.inj h).symm) dX9_readsAll_49
set_option maxHeartbeats 4000000 in
theorem i_X9_readsAll_9 {w : fm_W} {l : Launch} {o : fm_O} (hI : fm_I w 11) (n : Nat) (s : fm_M) (q : (Int32 × fm_M) ⊕ (fm_M)) (h : fm_it (fun s => f_X9_readsAll_9 s) n s = some q) (kr : ∀ (r : Int32) (s : fm_M), q = .inl (r, s) → o = (some (.int r), s)) (ke : ∀ (s : fm_M), q = .inr s → fm_V w layM 11 l rm_X9_readsAll cX9_readsAll 2 RX9 (some .int) o 53 [some (.ref (fm_ad w 0)), none] [] s) : fm_V w layM 11 l rm_X9_readsAll cX9_readsAll 2 RX9 (some .int) o 9 [some (.ref (fm_ad w 0)), none] [] s :=
  fm_it_loop (body := (fun s => f_X9_readsAll_9 s)) (P := fun s => fm_V w layM 11 l rm_X9_readsAll cX9_readsAll 2 RX9 (some .int) o 9 [some (.ref (fm_ad w 0)), none] [] s) (K := (fun q : (Int32 × fm_M) ⊕ (fm_M) => (∀ (r : Int32) (s : fm_M), q = .inl (r, s) → o = (some (.int r), s)) ∧ (∀ (s : fm_M), q = .inr s → fm_V w layM 11 l rm_X9_readsAll cX9_readsAll 2 RX9 (some .int) o 53 [some (.ref (fm_ad w 0)), none] [] s))) (fun s z hb kl kx => t_X9_readsAll_9 hI s z hb (fun s  e => kl _ e) (fun s  e => (kx _ e).2 s  rfl) (fun r s e => (kx _ e).1 r s rfl)) n s q h ⟨kr, ke⟩
def f_X9_readsAll (s : fm_M) : Option (Int32 × fm_M) :=
  fm_bd (f_X9_begins s) (fun r1 s1 => fm_op (fm_it (fun (yy : fm_M) => f_X9_readsAll_9 yy) fm_fu (fm_up s1 0 11 (0 : Int32))) (fun q3 => Sum.elim (fun r => some r) (fun t3 => ((fun (s3 : fm_M) => some ((-4 : Int32), s3))) t3) q3))
set_option maxHeartbeats 4000000 in
theorem e_X9_readsAll {w : fm_W} {l : Launch} {o : fm_O} (hI : fm_I w 11) (s : fm_M) (z : Int32 × fm_M) (h : f_X9_readsAll s = some z) (ho : ∀ (r : Int32) (s : fm_M), z = (r, s) → o = (some (.int r), s)) : fm_V w layM 11 l rm_X9_readsAll cX9_readsAll 2 RX9 (some .int) o 0 [some (.ref (fm_ad w 0)), none] [] s := by
  unfold f_X9_readsAll at h
  refine v_aload_n 0 dX9_readsAll_0 rfl rfl ?_
  obtain ⟨r1, s1, h1, h⟩ := fm_bds h
  refine v_cVv [] [] l_X9_40 (c_X9_begins hI h1) yM_0 (by decide) rfl rfl ⟨rfl, rfl, by decide, by decide⟩ (Nat.le_of_ble_eq_true rfl) dX9_readsAll_1 ?_
  refine v_aload_n 0 dX9_readsAll_4 rfl rfl ?_
  refine v_iconst (0 : Int32) dX9_readsAll_5 (by decide) ?_
  refine v_put p_X9_58 yM_0 (by decide) rfl ⟨rfl, rfl⟩ dX9_readsAll_6 ?_
  obtain ⟨q3, h3, h⟩ := fm_ops h
  refine v_lw [some (.ref (fm_ad w 0)), none] rfl ⟨rfl, trivial⟩ ?_
  refine i_X9_readsAll_9 hI _ _ _ h3 (fun r s e => by subst e; exact ho r s (Option.some.inj h).symm) (fun s3 e => ?_)
  subst e
  dsimp only [Sum.elim] at h
  refine v_bipush (-4 : Int32) dX9_readsAll_53 (by decide) ?_
  exact v_iret rfl (ho _ _ (Option.some.inj h).symm) dX9_readsAll_55
theorem c_X9_readsAll {w : fm_W} {l : Launch} (hI : fm_I w 11) {s : fm_M} {r : Int32} {s2 : fm_M} (h : f_X9_readsAll s = some (r, s2)) : fm_C w layM 11 l yX9_readsAll cX9_readsAll 2 (some .int) rm_X9_readsAll [.ref (fm_ad w 0)] s (some (.int r), s2) :=
  fm_of hI (by decide) rfl (Nat.le_of_ble_eq_true rfl) (e_X9_readsAll hI s _ h (fun r s e => by cases e; rfl))
-- X9_fault
abbrev rm_X9_fault : Room := { frames := 6, cells := 0, slots := 0, locals := 133 }
def f_X9_fault (s : fm_M) : Option (Int32 × fm_M) :=
  fm_bd (f_X9_readsAll s) (fun r1 s1 => some (r1, s1))
set_option maxHeartbeats 4000000 in
theorem e_X9_fault {w : fm_W} {l : Launch} {o : fm_O} (hI : fm_I w 11) (s : fm_M) (z : Int32 × fm_M) (h : f_X9_fault s = some z) (ho : ∀ (r : Int32) (s : fm_M), z = (r, s) → o = (some (.int r), s)) : fm_V w layM 11 l rm_X9_fault cX9_fault 1 RX9 (some .int) o 0 [some (.ref (fm_ad w 0))] [] s := by
  unfold f_X9_fault at h
  refine v_aload_n 0 dX9_fault_0 rfl rfl ?_
  obtain ⟨r1, s1, h1, h⟩ := fm_bds h
  refine v_cVi [] [] l_X9_80 (c_X9_readsAll hI h1) yM_0 (by decide) rfl rfl ⟨rfl, rfl, by decide, by decide⟩ (Nat.le_of_ble_eq_true rfl) dX9_fault_1 ?_
  exact v_iret rfl (ho _ _ (Option.some.inj h).symm) dX9_fault_4
theorem c_X9_fault {w : fm_W} {l : Launch} (hI : fm_I w 11) {s : fm_M} {r : Int32} {s2 : fm_M} (h : f_X9_fault s = some (r, s2)) : fm_C w layM 11 l yX9_fault cX9_fault 1 (some .int) rm_X9_fault [.ref (fm_ad w 0)] s (some (.int r), s2) :=
  fm_of hI (by decide) rfl (Nat.le_of_ble_eq_true rfl) (e_X9_fault hI s _ h (fun r s e => by cases e; rfl))
-- X9_forget
abbrev rm_X9_forget : Room := { frames := 0, cells := 0, slots := 0, locals := 0 }
def f_X9_forget (s : fm_M) : Option (Int32 × fm_M) :=
  some ((s 0 10), (fm_up s 0 10 (0 : Int32)))
set_option maxHeartbeats 4000000 in
theorem e_X9_forget {w : fm_W} {l : Launch} {o : fm_O} (hI : fm_I w 11) (s : fm_M) (z : Int32 × fm_M) (h : f_X9_forget s = some z) (ho : ∀ (r : Int32) (s : fm_M), z = (r, s) → o = (some (.int r), s)) : fm_V w layM 11 l rm_X9_forget cX9_forget 2 RX9 (some .int) o 0 [some (.ref (fm_ad w 0)), none] [] s := by
  unfold f_X9_forget at h
  refine v_aload_n 0 dX9_forget_0 rfl rfl ?_
  refine v_geti g_X9_93 yM_0 (by decide) rfl dX9_forget_1 ?_
  refine v_istore_n (lv' := [some (.ref (fm_ad w 0)), some (.int (s 0 10))]) 1 dX9_forget_4 rfl (by decide) rfl rfl ?_
  refine v_aload_n 0 dX9_forget_5 rfl rfl ?_
  refine v_iconst (0 : Int32) dX9_forget_6 (by decide) ?_
  refine v_put p_X9_93 yM_0 (by decide) rfl ⟨rfl, rfl⟩ dX9_forget_7 ?_
  refine v_iload_n 1 dX9_forget_10 rfl rfl ?_
  exact v_iret rfl (ho _ _ (Option.some.inj h).symm) dX9_forget_11
theorem c_X9_forget {w : fm_W} {l : Launch} (hI : fm_I w 11) {s : fm_M} {r : Int32} {s2 : fm_M} (h : f_X9_forget s = some (r, s2)) : fm_C w layM 11 l yX9_forget cX9_forget 2 (some .int) rm_X9_forget [.ref (fm_ad w 0)] s (some (.int r), s2) :=
  fm_of hI (by decide) rfl (Nat.le_of_ble_eq_true rfl) (e_X9_forget hI s _ h (fun r s e => by cases e; rfl))
-- X9_isLaid
abbrev rm_X9_isLaid : Room := { frames := 0, cells := 0, slots := 0, locals := 0 }
def f_X9_isLaid_51 (v2 : Int32) (sk0 : Int32) (s : fm_M) : Option ((fm_M × Int32 × Int32) ⊕ (fm_M × Int32 × Int32)) :=
  some (.inl (s, sk0, (v2 + (1 : Int32))))
set_option maxHeartbeats 4000000 in
theorem t_X9_isLaid_51 {w : fm_W} {l : Launch} {o : fm_O} (hI : fm_I w 11) (v2 : Int32) (sk0 : Int32) (s : fm_M) (z : (fm_M × Int32 × Int32) ⊕ (fm_M × Int32 × Int32)) (h : f_X9_isLaid_51 v2 sk0 s = some z) (kb : ∀ (s : fm_M) (u1 : Int32) (u2 : Int32), z = .inl (s, u1, u2) → fm_V w layM 11 l rm_X9_isLaid cX9_isLaid 3 RX9 (some .boolean) o 19 [some (.ref (fm_ad w 0)), some (.int u1), some (.int u2)] [] s) (ke : ∀ (s : fm_M) (u1 : Int32) (u2 : Int32), z = .inr (s, u1, u2) → fm_V w layM 11 l rm_X9_isLaid cX9_isLaid 3 RX9 (some .boolean) o 58 [some (.ref (fm_ad w 0)), some (.int u1), some (.int u2)] [] s) : fm_V w layM 11 l rm_X9_isLaid cX9_isLaid 3 RX9 (some .boolean) o 51 [some (.ref (fm_ad w 0)), none, some (.int v2)] [.int sk0] s := by
  unfold f_X9_isLaid_51 at h
  refine v_istore_n (lv' := [some (.ref (fm_ad w 0)), some (.int sk0), some (.int v2)]) 1 dX9_isLaid_51 rfl (by decide) rfl rfl ?_
  refine v_iinc (lv' := [some (.ref (fm_ad w 0)), some (.int sk0), some (.int (v2 + (1 : Int32)))]) (1 : Int32) dX9_isLaid_52 rfl (by decide) (by decide) rfl rfl ?_
  refine v_goto 19 dX9_isLaid_55 (by decide) ?_
  refine v_lw [some (.ref (fm_ad w 0)), some (.int sk0), some (.int (v2 + (1 : Int32)))] rfl ⟨rfl, rfl, rfl, trivial⟩ ?_
  exact kb _ _ _ (Option.some.inj h).symm
def f_X9_isLaid_46 (v2 : Int32) (s : fm_M) : Option ((fm_M × Int32 × Int32) ⊕ (fm_M × Int32 × Int32)) :=
  f_X9_isLaid_51 v2 (1 : Int32) s
set_option maxHeartbeats 4000000 in
theorem t_X9_isLaid_46 {w : fm_W} {l : Launch} {o : fm_O} (hI : fm_I w 11) (v2 : Int32) (s : fm_M) (z : (fm_M × Int32 × Int32) ⊕ (fm_M × Int32 × Int32)) (h : f_X9_isLaid_46 v2 s = some z) (kb : ∀ (s : fm_M) (u1 : Int32) (u2 : Int32), z = .inl (s, u1, u2) → fm_V w layM 11 l rm_X9_isLaid cX9_isLaid 3 RX9 (some .boolean) o 19 [some (.ref (fm_ad w 0)), some (.int u1), some (.int u2)] [] s) (ke : ∀ (s : fm_M) (u1 : Int32) (u2 : Int32), z = .inr (s, u1, u2) → fm_V w layM 11 l rm_X9_isLaid cX9_isLaid 3 RX9 (some .boolean) o 58 [some (.ref (fm_ad w 0)), some (.int u1), some (.int u2)] [] s) : fm_V w layM 11 l rm_X9_isLaid cX9_isLaid 3 RX9 (some .boolean) o 46 [some (.ref (fm_ad w 0)), none, some (.int v2)] [] s := by
  unfold f_X9_isLaid_46 at h
  refine v_iconst (1 : Int32) dX9_isLaid_46 (by decide) ?_
  refine v_goto 51 dX9_isLaid_47 (by decide) ?_
  refine v_lw [some (.ref (fm_ad w 0)), none, some (.int v2)] rfl ⟨rfl, rfl, trivial⟩ ?_
  exact t_X9_isLaid_51 hI v2 (1 : Int32) s _ h kb ke
def f_X9_isLaid_19 (s : fm_M) (v1 : Int32) (v2 : Int32) : Option ((fm_M × Int32 × Int32) ⊕ (fm_M × Int32 × Int32)) :=
  if fm_in (1 : Int32) 17 = true then if (s 2 (1 : Int32).toNatClampNeg) ≤ v2 then some (.inr (s, v1, v2)) else if v1 = 0 then if fm_in ((18 : Int32) + v2) 29 = true then if (s 4 ((18 : Int32) + v2).toNatClampNeg) = (2 : Int32) then f_X9_isLaid_46 v2 s else f_X9_isLaid_51 v2 (0 : Int32) s else none else f_X9_isLaid_46 v2 s else none
set_option maxHeartbeats 4000000 in
theorem t_X9_isLaid_19 {w : fm_W} {l : Launch} {o : fm_O} (hI : fm_I w 11) (s : fm_M) (v1 : Int32) (v2 : Int32) (z : (fm_M × Int32 × Int32) ⊕ (fm_M × Int32 × Int32)) (h : f_X9_isLaid_19 s v1 v2 = some z) (kb : ∀ (s : fm_M) (u1 : Int32) (u2 : Int32), z = .inl (s, u1, u2) → fm_V w layM 11 l rm_X9_isLaid cX9_isLaid 3 RX9 (some .boolean) o 19 [some (.ref (fm_ad w 0)), some (.int u1), some (.int u2)] [] s) (ke : ∀ (s : fm_M) (u1 : Int32) (u2 : Int32), z = .inr (s, u1, u2) → fm_V w layM 11 l rm_X9_isLaid cX9_isLaid 3 RX9 (some .boolean) o 58 [some (.ref (fm_ad w 0)), some (.int u1), some (.int u2)] [] s) : fm_V w layM 11 l rm_X9_isLaid cX9_isLaid 3 RX9 (some .boolean) o 19 [some (.ref (fm_ad w 0)), some (.int v1), some (.int v2)] [] s := by
  unfold f_X9_isLaid_19 at h
  refine v_iload_n 2 dX9_isLaid_19 rfl rfl ?_
  refine v_aload_n 0 dX9_isLaid_20 rfl rfl ?_
  refine v_getr 2 g_X9_13 yM_0 (by decide) rfl dX9_isLaid_21 ?_
  refine v_iconst (1 : Int32) dX9_isLaid_24 (by decide) ?_
  obtain ⟨hi, h⟩ := fm_ift h
  refine v_iald (Or.inl ⟨(by decide), yM_2⟩) hi dX9_isLaid_25 ?_
  refine v_icmp_ge 58 dX9_isLaid_26 (by decide) h (fun h => ?_) (fun h => ?_)
  · refine v_lw [some (.ref (fm_ad w 0)), some (.int v1), some (.int v2)] rfl ⟨rfl, rfl, rfl, trivial⟩ ?_
    exact ke _ _ _ (Option.some.inj h).symm
  · refine v_iload_n 1 dX9_isLaid_29 rfl rfl ?_
    refine v_if_ne 46 dX9_isLaid_30 (by decide) h (fun h => ?_) (fun h => ?_)
    · refine v_lw [some (.ref (fm_ad w 0)), none, some (.int v2)] rfl ⟨rfl, rfl, trivial⟩ ?_
      exact t_X9_isLaid_46 hI v2 s _ h kb ke
    · refine v_aload_n 0 dX9_isLaid_33 rfl rfl ?_
      refine v_getr 4 g_X9_19 yM_0 (by decide) rfl dX9_isLaid_34 ?_
      refine v_bipush (18 : Int32) dX9_isLaid_37 (by decide) ?_
      refine v_iload_n 2 dX9_isLaid_39 rfl rfl ?_
      refine v_iadd dX9_isLaid_40 ?_
      obtain ⟨hi, h⟩ := fm_ift h
      refine v_iald (Or.inl ⟨(by decide), yM_4⟩) hi dX9_isLaid_41 ?_
      refine v_iconst (2 : Int32) dX9_isLaid_42 (by decide) ?_
      refine v_icmp_ne 50 dX9_isLaid_43 (by decide) h (fun h => ?_) (fun h => ?_)
      · refine v_iconst (0 : Int32) dX9_isLaid_50 (by decide) ?_
        refine v_lw [some (.ref (fm_ad w 0)), none, some (.int v2)] rfl ⟨rfl, rfl, trivial⟩ ?_
        exact t_X9_isLaid_51 hI v2 (0 : Int32) s _ h kb ke
      · refine v_lw [some (.ref (fm_ad w 0)), none, some (.int v2)] rfl ⟨rfl, rfl, trivial⟩ ?_
        exact t_X9_isLaid_46 hI v2 s _ h kb ke
set_option maxHeartbeats 4000000 in
theorem i_X9_isLaid_19 {w : fm_W} {l : Launch} {o : fm_O} (hI : fm_I w 11) (n : Nat) (s : fm_M) (v1 : Int32) (v2 : Int32) (q : fm_M × Int32 × Int32) (h : fm_it (fun s => f_X9_isLaid_19 s.1 s.2.1 s.2.2) n (s, v1, v2) = some q) (ke : ∀ (s : fm_M) (u1 : Int32) (u2 : Int32), q = (s, u1, u2) → fm_V w layM 11 l rm_X9_isLaid cX9_isLaid 3 RX9 (some .boolean) o 58 [some (.ref (fm_ad w 0)), some (.int u1), some (.int u2)] [] s) : fm_V w layM 11 l rm_X9_isLaid cX9_isLaid 3 RX9 (some .boolean) o 19 [some (.ref (fm_ad w 0)), some (.int v1), some (.int v2)] [] s :=
  fm_it_loop (body := (fun s => f_X9_isLaid_19 s.1 s.2.1 s.2.2)) (P := fun s => fm_V w layM 11 l rm_X9_isLaid cX9_isLaid 3 RX9 (some .boolean) o 19 [some (.ref (fm_ad w 0)), some (.int s.2.1), some (.int s.2.2)] [] s.1) (K := (fun q : fm_M × Int32 × Int32 => (∀ (s : fm_M) (u1 : Int32) (u2 : Int32), q = (s, u1, u2) → fm_V w layM 11 l rm_X9_isLaid cX9_isLaid 3 RX9 (some .boolean) o 58 [some (.ref (fm_ad w 0)), some (.int u1), some (.int u2)] [] s))) (fun s z hb kl kx => t_X9_isLaid_19 hI s.1 s.2.1 s.2.2 z hb (fun s u1 u2 e => kl _ e) (fun s u1 u2 e => (kx _ e) s u1 u2 rfl)) n (s, v1, v2) q h ke
def f_X9_isLaid_16 (sk0 : Int32) (s : fm_M) : Option (Int32 × fm_M) :=
  fm_op (fm_it (fun (yy : fm_M × Int32 × Int32) => f_X9_isLaid_19 yy.1 yy.2.1 yy.2.2) fm_fu (s, sk0, (0 : Int32))) (fun q1 => ((fun (s1 : fm_M) (x1_1 : Int32) (x1_2 : Int32) => if fm_b x1_1 = true then some (x1_1, s1) else none)) q1.1 q1.2.1 q1.2.2)
set_option maxHeartbeats 4000000 in
theorem t_X9_isLaid_16 {w : fm_W} {l : Launch} {o : fm_O} (hI : fm_I w 11) (sk0 : Int32) (s : fm_M) (z : Int32 × fm_M) (h : f_X9_isLaid_16 sk0 s = some z) (ho : ∀ (r : Int32) (s : fm_M), z = (r, s) → o = (some (.int r), s)) : fm_V w layM 11 l rm_X9_isLaid cX9_isLaid 3 RX9 (some .boolean) o 16 [some (.ref (fm_ad w 0)), none, none] [.int sk0] s := by
  unfold f_X9_isLaid_16 at h
  refine v_istore_n (lv' := [some (.ref (fm_ad w 0)), some (.int sk0), none]) 1 dX9_isLaid_16 rfl (by decide) rfl rfl ?_
  refine v_iconst (0 : Int32) dX9_isLaid_17 (by decide) ?_
  refine v_istore_n (lv' := [some (.ref (fm_ad w 0)), some (.int sk0), some (.int (0 : Int32))]) 2 dX9_isLaid_18 rfl (by decide) rfl rfl ?_
  obtain ⟨q1, h1, h⟩ := fm_ops h
  refine v_lw [some (.ref (fm_ad w 0)), some (.int sk0), some (.int (0 : Int32))] rfl ⟨rfl, rfl, rfl, trivial⟩ ?_
  refine i_X9_isLaid_19 hI _ _ _ _ _ h1 (fun s1 x1_1 x1_2 e => ?_)
  subst e
  dsimp only at h
  refine v_iload_n 1 dX9_isLaid_58 rfl rfl ?_
  obtain ⟨hb, h⟩ := fm_ift h
  exact v_zret rfl (fm_b_nar hb).1 (ho _ _ (Option.some.inj h).symm) dX9_isLaid_59
def f_X9_isLaid (s : fm_M) : Option (Int32 × fm_M) :=
  if fm_in (27 : Int32) 29 = true then if (s 4 (27 : Int32).toNatClampNeg) = (1 : Int32) then f_X9_isLaid_16 (1 : Int32) s else f_X9_isLaid_16 (0 : Int32) s else none
set_option maxHeartbeats 4000000 in
theorem e_X9_isLaid {w : fm_W} {l : Launch} {o : fm_O} (hI : fm_I w 11) (s : fm_M) (z : Int32 × fm_M) (h : f_X9_isLaid s = some z) (ho : ∀ (r : Int32) (s : fm_M), z = (r, s) → o = (some (.int r), s)) : fm_V w layM 11 l rm_X9_isLaid cX9_isLaid 3 RX9 (some .boolean) o 0 [some (.ref (fm_ad w 0)), none, none] [] s := by
  unfold f_X9_isLaid at h
  refine v_aload_n 0 dX9_isLaid_0 rfl rfl ?_
  refine v_getr 4 g_X9_19 yM_0 (by decide) rfl dX9_isLaid_1 ?_
  refine v_bipush (27 : Int32) dX9_isLaid_4 (by decide) ?_
  obtain ⟨hi, h⟩ := fm_ift h
  refine v_iald (Or.inl ⟨(by decide), yM_4⟩) hi dX9_isLaid_6 ?_
  refine v_iconst (1 : Int32) dX9_isLaid_7 (by decide) ?_
  refine v_icmp_ne 15 dX9_isLaid_8 (by decide) h (fun h => ?_) (fun h => ?_)
  · refine v_iconst (0 : Int32) dX9_isLaid_15 (by decide) ?_
    refine v_lw [some (.ref (fm_ad w 0)), none, none] rfl ⟨rfl, trivial⟩ ?_
    exact t_X9_isLaid_16 hI (0 : Int32) s _ h ho
  · refine v_iconst (1 : Int32) dX9_isLaid_11 (by decide) ?_
    refine v_goto 16 dX9_isLaid_12 (by decide) ?_
    refine v_lw [some (.ref (fm_ad w 0)), none, none] rfl ⟨rfl, trivial⟩ ?_
    exact t_X9_isLaid_16 hI (1 : Int32) s _ h ho
theorem c_X9_isLaid {w : fm_W} {l : Launch} (hI : fm_I w 11) {s : fm_M} {r : Int32} {s2 : fm_M} (h : f_X9_isLaid s = some (r, s2)) : fm_C w layM 11 l yX9_isLaid cX9_isLaid 3 (some .boolean) rm_X9_isLaid [.ref (fm_ad w 0)] s (some (.int r), s2) :=
  fm_of hI (by decide) rfl (Nat.le_of_ble_eq_true rfl) (e_X9_isLaid hI s _ h (fun r s e => by cases e; rfl))
-- X9_isSo
abbrev rm_X9_isSo : Room := { frames := 1, cells := 0, slots := 0, locals := 23 }
def f_X9_isSo_72 (v1 : Int32) (v2 : Int32) (v3 : Int32) (v5 : Int32) (sk0 : Int32) (s : fm_M) : Option ((fm_M × Int32 × Int32) ⊕ (fm_M × Int32 × Int32)) :=
  some (.inl (s, sk0, (v5 + (1 : Int32))))
set_option maxHeartbeats 4000000 in
theorem t_X9_isSo_72 {w : fm_W} {l : Launch} {o : fm_O} (hI : fm_I w 11) (v1 : Int32) (v2 : Int32) (v3 : Int32) (v5 : Int32) (sk0 : Int32) (s : fm_M) (z : (fm_M × Int32 × Int32) ⊕ (fm_M × Int32 × Int32)) (h : f_X9_isSo_72 v1 v2 v3 v5 sk0 s = some z) (kb : ∀ (s : fm_M) (u4 : Int32) (u5 : Int32), z = .inl (s, u4, u5) → fm_V w layM 11 l rm_X9_isSo cX9_isSo 7 RX9 (some .boolean) o 6 [some (.ref (fm_ad w 0)), some (.int v1), some (.int v2), some (.int v3), some (.int u4), some (.int u5), none] [] s) (ke : ∀ (s : fm_M) (u4 : Int32) (u5 : Int32), z = .inr (s, u4, u5) → fm_V w layM 11 l rm_X9_isSo cX9_isSo 7 RX9 (some .boolean) o 80 [some (.ref (fm_ad w 0)), some (.int v1), some (.int v2), some (.int v3), some (.int u4), some (.int u5), none] [] s) : fm_V w layM 11 l rm_X9_isSo cX9_isSo 7 RX9 (some .boolean) o 72 [some (.ref (fm_ad w 0)), some (.int v1), some (.int v2), some (.int v3), none, some (.int v5), none] [.int sk0] s := by
  unfold f_X9_isSo_72 at h
  refine v_istore (lv' := [some (.ref (fm_ad w 0)), some (.int v1), some (.int v2), some (.int v3), some (.int sk0), some (.int v5), none]) dX9_isSo_72 (by decide) rfl rfl ?_
  refine v_iinc (lv' := [some (.ref (fm_ad w 0)), some (.int v1), some (.int v2), some (.int v3), some (.int sk0), some (.int (v5 + (1 : Int32))), none]) (1 : Int32) dX9_isSo_74 rfl (by decide) (by decide) rfl rfl ?_
  refine v_goto 6 dX9_isSo_77 (by decide) ?_
  refine v_lw [some (.ref (fm_ad w 0)), some (.int v1), some (.int v2), some (.int v3), some (.int sk0), some (.int (v5 + (1 : Int32))), none] rfl ⟨rfl, rfl, rfl, rfl, rfl, rfl, trivial⟩ ?_
  exact kb _ _ _ (Option.some.inj h).symm
def f_X9_isSo_71 (v1 : Int32) (v2 : Int32) (v3 : Int32) (v5 : Int32) (s : fm_M) : Option ((fm_M × Int32 × Int32) ⊕ (fm_M × Int32 × Int32)) :=
  f_X9_isSo_72 v1 v2 v3 v5 (0 : Int32) s
set_option maxHeartbeats 4000000 in
theorem t_X9_isSo_71 {w : fm_W} {l : Launch} {o : fm_O} (hI : fm_I w 11) (v1 : Int32) (v2 : Int32) (v3 : Int32) (v5 : Int32) (s : fm_M) (z : (fm_M × Int32 × Int32) ⊕ (fm_M × Int32 × Int32)) (h : f_X9_isSo_71 v1 v2 v3 v5 s = some z) (kb : ∀ (s : fm_M) (u4 : Int32) (u5 : Int32), z = .inl (s, u4, u5) → fm_V w layM 11 l rm_X9_isSo cX9_isSo 7 RX9 (some .boolean) o 6 [some (.ref (fm_ad w 0)), some (.int v1), some (.int v2), some (.int v3), some (.int u4), some (.int u5), none] [] s) (ke : ∀ (s : fm_M) (u4 : Int32) (u5 : Int32), z = .inr (s, u4, u5) → fm_V w layM 11 l rm_X9_isSo cX9_isSo 7 RX9 (some .boolean) o 80 [some (.ref (fm_ad w 0)), some (.int v1), some (.int v2), some (.int v3), some (.int u4), some (.int u5), none] [] s) : fm_V w layM 11 l rm_X9_isSo cX9_isSo 7 RX9 (some .boolean) o 71 [some (.ref (fm_ad w 0)), some (.int v1), some (.int v2), some (.int v3), none, some (.int v5), none] [] s := by
  unfold f_X9_isSo_71 at h
  refine v_iconst (0 : Int32) dX9_isSo_71 (by decide) ?_
  refine v_lw [some (.ref (fm_ad w 0)), some (.int v1), some (.int v2), some (.int v3), none, some (.int v5), none] rfl ⟨rfl, rfl, rfl, rfl, rfl, trivial⟩ ?_
  exact t_X9_isSo_72 hI v1 v2 v3 v5 (0 : Int32) s _ h kb ke
def f_X9_isSo_67 (v1 : Int32) (v2 : Int32) (v3 : Int32) (v5 : Int32) (s : fm_M) : Option ((fm_M × Int32 × Int32) ⊕ (fm_M × Int32 × Int32)) :=
  f_X9_isSo_72 v1 v2 v3 v5 (1 : Int32) s
set_option maxHeartbeats 4000000 in
theorem t_X9_isSo_67 {w : fm_W} {l : Launch} {o : fm_O} (hI : fm_I w 11) (v1 : Int32) (v2 : Int32) (v3 : Int32) (v5 : Int32) (s : fm_M) (z : (fm_M × Int32 × Int32) ⊕ (fm_M × Int32 × Int32)) (h : f_X9_isSo_67 v1 v2 v3 v5 s = some z) (kb : ∀ (s : fm_M) (u4 : Int32) (u5 : Int32), z = .inl (s, u4, u5) → fm_V w layM 11 l rm_X9_isSo cX9_isSo 7 RX9 (some .boolean) o 6 [some (.ref (fm_ad w 0)), some (.int v1), some (.int v2), some (.int v3), some (.int u4), some (.int u5), none] [] s) (ke : ∀ (s : fm_M) (u4 : Int32) (u5 : Int32), z = .inr (s, u4, u5) → fm_V w layM 11 l rm_X9_isSo cX9_isSo 7 RX9 (some .boolean) o 80 [some (.ref (fm_ad w 0)), some (.int v1), some (.int v2), some (.int v3), some (.int u4), some (.int u5), none] [] s) : fm_V w layM 11 l rm_X9_isSo cX9_isSo 7 RX9 (some .boolean) o 67 [some (.ref (fm_ad w 0)), some (.int v1), some (.int v2), some (.int v3), none, some (.int v5), none] [] s := by
  unfold f_X9_isSo_67 at h
  refine v_iconst (1 : Int32) dX9_isSo_67 (by decide) ?_
  refine v_goto 72 dX9_isSo_68 (by decide) ?_
  refine v_lw [some (.ref (fm_ad w 0)), some (.int v1), some (.int v2), some (.int v3), none, some (.int v5), none] rfl ⟨rfl, rfl, rfl, rfl, rfl, trivial⟩ ?_
  exact t_X9_isSo_72 hI v1 v2 v3 v5 (1 : Int32) s _ h kb ke
def f_X9_isSo_6 (v1 : Int32) (v2 : Int32) (v3 : Int32) (s : fm_M) (v4 : Int32) (v5 : Int32) : Option ((fm_M × Int32 × Int32) ⊕ (fm_M × Int32 × Int32)) :=
  if (s 0 10) ≤ v5 then some (.inr (s, v4, v5)) else if fm_in v5 8 = true then if v4 = 0 then f_X9_isSo_71 v1 v2 v3 v5 s else if fm_in v5 8 = true then if ((s 7 v5.toNatClampNeg) / (100 : Int32)) = v1 then if fm_in v5 8 = true then fm_bd (f_X9_minutes v2 v3 ((s 7 v5.toNatClampNeg) - (s 7 v5.toNatClampNeg) / (2 : Int32) * (2 : Int32)) s) (fun r1 s1 => if r1 = (((s 7 v5.toNatClampNeg) - (s 7 v5.toNatClampNeg) / (100 : Int32) * (100 : Int32)) / (2 : Int32)) then f_X9_isSo_67 v1 v2 v3 v5 s1 else f_X9_isSo_71 v1 v2 v3 v5 s1) else none else f_X9_isSo_67 v1 v2 v3 v5 s else none else none
set_option maxHeartbeats 4000000 in
theorem t_X9_isSo_6 {w : fm_W} {l : Launch} {o : fm_O} (hI : fm_I w 11) (v1 : Int32) (v2 : Int32) (v3 : Int32) (s : fm_M) (v4 : Int32) (v5 : Int32) (z : (fm_M × Int32 × Int32) ⊕ (fm_M × Int32 × Int32)) (h : f_X9_isSo_6 v1 v2 v3 s v4 v5 = some z) (kb : ∀ (s : fm_M) (u4 : Int32) (u5 : Int32), z = .inl (s, u4, u5) → fm_V w layM 11 l rm_X9_isSo cX9_isSo 7 RX9 (some .boolean) o 6 [some (.ref (fm_ad w 0)), some (.int v1), some (.int v2), some (.int v3), some (.int u4), some (.int u5), none] [] s) (ke : ∀ (s : fm_M) (u4 : Int32) (u5 : Int32), z = .inr (s, u4, u5) → fm_V w layM 11 l rm_X9_isSo cX9_isSo 7 RX9 (some .boolean) o 80 [some (.ref (fm_ad w 0)), some (.int v1), some (.int v2), some (.int v3), some (.int u4), some (.int u5), none] [] s) : fm_V w layM 11 l rm_X9_isSo cX9_isSo 7 RX9 (some .boolean) o 6 [some (.ref (fm_ad w 0)), some (.int v1), some (.int v2), some (.int v3), some (.int v4), some (.int v5), none] [] s := by
  unfold f_X9_isSo_6 at h
  refine v_iload dX9_isSo_6 rfl ?_
  refine v_aload_n 0 dX9_isSo_8 rfl rfl ?_
  refine v_geti g_X9_93 yM_0 (by decide) rfl dX9_isSo_9 ?_
  refine v_icmp_ge 80 dX9_isSo_12 (by decide) h (fun h => ?_) (fun h => ?_)
  · refine v_lw [some (.ref (fm_ad w 0)), some (.int v1), some (.int v2), some (.int v3), some (.int v4), some (.int v5), none] rfl ⟨rfl, rfl, rfl, rfl, rfl, rfl, trivial⟩ ?_
    exact ke _ _ _ (Option.some.inj h).symm
  · refine v_aload_n 0 dX9_isSo_15 rfl rfl ?_
    refine v_getr 7 g_X9_28 yM_0 (by decide) rfl dX9_isSo_16 ?_
    refine v_iload dX9_isSo_19 rfl ?_
    obtain ⟨hi, h⟩ := fm_ift h
    refine v_iald (Or.inl ⟨(by decide), yM_7⟩) hi dX9_isSo_21 ?_
    refine v_bipush (100 : Int32) dX9_isSo_22 (by decide) ?_
    refine v_irem dX9_isSo_24 (by decide) ?_
    refine v_iconst (2 : Int32) dX9_isSo_25 (by decide) ?_
    refine v_idiv dX9_isSo_26 (by decide) ?_
    refine v_istore (lv' := [some (.ref (fm_ad w 0)), some (.int v1), some (.int v2), some (.int v3), some (.int v4), some (.int v5), some (.int (((s 7 v5.toNatClampNeg) - (s 7 v5.toNatClampNeg) / (100 : Int32) * (100 : Int32)) / (2 : Int32)))]) dX9_isSo_27 (by decide) rfl rfl ?_
    refine v_iload dX9_isSo_29 rfl ?_
    refine v_if_eq 71 dX9_isSo_31 (by decide) h (fun h => ?_) (fun h => ?_)
    · refine v_lw [some (.ref (fm_ad w 0)), some (.int v1), some (.int v2), some (.int v3), none, some (.int v5), none] rfl ⟨rfl, rfl, rfl, rfl, rfl, trivial⟩ ?_
      exact t_X9_isSo_71 hI v1 v2 v3 v5 s _ h kb ke
    · refine v_aload_n 0 dX9_isSo_34 rfl rfl ?_
      refine v_getr 7 g_X9_28 yM_0 (by decide) rfl dX9_isSo_35 ?_
      refine v_iload dX9_isSo_38 rfl ?_
      obtain ⟨hi, h⟩ := fm_ift h
      refine v_iald (Or.inl ⟨(by decide), yM_7⟩) hi dX9_isSo_40 ?_
      refine v_bipush (100 : Int32) dX9_isSo_41 (by decide) ?_
      refine v_idiv dX9_isSo_43 (by decide) ?_
      refine v_iload_n 1 dX9_isSo_44 rfl rfl ?_
      refine v_icmp_ne 67 dX9_isSo_45 (by decide) h (fun h => ?_) (fun h => ?_)
      · refine v_lw [some (.ref (fm_ad w 0)), some (.int v1), some (.int v2), some (.int v3), none, some (.int v5), none] rfl ⟨rfl, rfl, rfl, rfl, rfl, trivial⟩ ?_
        exact t_X9_isSo_67 hI v1 v2 v3 v5 s _ h kb ke
      · refine v_iload_n 2 dX9_isSo_48 rfl rfl ?_
        refine v_iload_n 3 dX9_isSo_49 rfl rfl ?_
        refine v_aload_n 0 dX9_isSo_50 rfl rfl ?_
        refine v_getr 7 g_X9_28 yM_0 (by decide) rfl dX9_isSo_51 ?_
        refine v_iload dX9_isSo_54 rfl ?_
        obtain ⟨hi, h⟩ := fm_ift h
        refine v_iald (Or.inl ⟨(by decide), yM_7⟩) hi dX9_isSo_56 ?_
        refine v_iconst (2 : Int32) dX9_isSo_57 (by decide) ?_
        refine v_irem dX9_isSo_58 (by decide) ?_
        obtain ⟨r1, s1, h1, h⟩ := fm_bds h
        refine v_cSi [.int v2, .int v3, .int ((s 7 v5.toNatClampNeg) - (s 7 v5.toNatClampNeg) / (2 : Int32) * (2 : Int32))] [] l_X9_96 (c_X9_minutes hI h1) rfl rfl ⟨rfl, rfl, by decide, by decide⟩ (Nat.le_of_ble_eq_true rfl) dX9_isSo_59 ?_
        refine v_iload dX9_isSo_62 rfl ?_
        refine v_icmp_ne 71 dX9_isSo_64 (by decide) h (fun h => ?_) (fun h => ?_)
        · refine v_lw [some (.ref (fm_ad w 0)), some (.int v1), some (.int v2), some (.int v3), none, some (.int v5), none] rfl ⟨rfl, rfl, rfl, rfl, rfl, trivial⟩ ?_
          exact t_X9_isSo_71 hI v1 v2 v3 v5 s1 _ h kb ke
        · refine v_lw [some (.ref (fm_ad w 0)), some (.int v1), some (.int v2), some (.int v3), none, some (.int v5), none] rfl ⟨rfl, rfl, rfl, rfl, rfl, trivial⟩ ?_
          exact t_X9_isSo_67 hI v1 v2 v3 v5 s1 _ h kb ke
set_option maxHeartbeats 4000000 in
theorem i_X9_isSo_6 {w : fm_W} {l : Launch} {o : fm_O} (hI : fm_I w 11) (v1 : Int32) (v2 : Int32) (v3 : Int32) (n : Nat) (s : fm_M) (v4 : Int32) (v5 : Int32) (q : fm_M × Int32 × Int32) (h : fm_it (fun s => f_X9_isSo_6 v1 v2 v3 s.1 s.2.1 s.2.2) n (s, v4, v5) = some q) (ke : ∀ (s : fm_M) (u4 : Int32) (u5 : Int32), q = (s, u4, u5) → fm_V w layM 11 l rm_X9_isSo cX9_isSo 7 RX9 (some .boolean) o 80 [some (.ref (fm_ad w 0)), some (.int v1), some (.int v2), some (.int v3), some (.int u4), some (.int u5), none] [] s) : fm_V w layM 11 l rm_X9_isSo cX9_isSo 7 RX9 (some .boolean) o 6 [some (.ref (fm_ad w 0)), some (.int v1), some (.int v2), some (.int v3), some (.int v4), some (.int v5), none] [] s :=
  fm_it_loop (body := (fun s => f_X9_isSo_6 v1 v2 v3 s.1 s.2.1 s.2.2)) (P := fun s => fm_V w layM 11 l rm_X9_isSo cX9_isSo 7 RX9 (some .boolean) o 6 [some (.ref (fm_ad w 0)), some (.int v1), some (.int v2), some (.int v3), some (.int s.2.1), some (.int s.2.2), none] [] s.1) (K := (fun q : fm_M × Int32 × Int32 => (∀ (s : fm_M) (u4 : Int32) (u5 : Int32), q = (s, u4, u5) → fm_V w layM 11 l rm_X9_isSo cX9_isSo 7 RX9 (some .boolean) o 80 [some (.ref (fm_ad w 0)), some (.int v1), some (.int v2), some (.int v3), some (.int u4), some (.int u5), none] [] s))) (fun s z hb kl kx => t_X9_isSo_6 hI v1 v2 v3 s.1 s.2.1 s.2.2 z hb (fun s u4 u5 e => kl _ e) (fun s u4 u5 e => (kx _ e) s u4 u5 rfl)) n (s, v4, v5) q h ke
def f_X9_isSo (v1 : Int32) (v2 : Int32) (v3 : Int32) (s : fm_M) : Option (Int32 × fm_M) :=
  fm_op (fm_it (fun (yy : fm_M × Int32 × Int32) => f_X9_isSo_6 v1 v2 v3 yy.1 yy.2.1 yy.2.2) fm_fu (s, (1 : Int32), (0 : Int32))) (fun q2 => ((fun (s2 : fm_M) (x2_4 : Int32) (x2_5 : Int32) => if fm_b x2_4 = true then some (x2_4, s2) else none)) q2.1 q2.2.1 q2.2.2)
set_option maxHeartbeats 4000000 in
theorem e_X9_isSo {w : fm_W} {l : Launch} {o : fm_O} (hI : fm_I w 11) (v1 : Int32) (v2 : Int32) (v3 : Int32) (s : fm_M) (z : Int32 × fm_M) (h : f_X9_isSo v1 v2 v3 s = some z) (ho : ∀ (r : Int32) (s : fm_M), z = (r, s) → o = (some (.int r), s)) : fm_V w layM 11 l rm_X9_isSo cX9_isSo 7 RX9 (some .boolean) o 0 [some (.ref (fm_ad w 0)), some (.int v1), some (.int v2), some (.int v3), none, none, none] [] s := by
  unfold f_X9_isSo at h
  refine v_iconst (1 : Int32) dX9_isSo_0 (by decide) ?_
  refine v_istore (lv' := [some (.ref (fm_ad w 0)), some (.int v1), some (.int v2), some (.int v3), some (.int (1 : Int32)), none, none]) dX9_isSo_1 (by decide) rfl rfl ?_
  refine v_iconst (0 : Int32) dX9_isSo_3 (by decide) ?_
  refine v_istore (lv' := [some (.ref (fm_ad w 0)), some (.int v1), some (.int v2), some (.int v3), some (.int (1 : Int32)), some (.int (0 : Int32)), none]) dX9_isSo_4 (by decide) rfl rfl ?_
  obtain ⟨q2, h2, h⟩ := fm_ops h
  refine v_lw [some (.ref (fm_ad w 0)), some (.int v1), some (.int v2), some (.int v3), some (.int (1 : Int32)), some (.int (0 : Int32)), none] rfl ⟨rfl, rfl, rfl, rfl, rfl, rfl, trivial⟩ ?_
  refine i_X9_isSo_6 hI v1 v2 v3 _ _ _ _ _ h2 (fun s2 x2_4 x2_5 e => ?_)
  subst e
  dsimp only at h
  refine v_iload dX9_isSo_80 rfl ?_
  obtain ⟨hb, h⟩ := fm_ift h
  exact v_zret rfl (fm_b_nar hb).1 (ho _ _ (Option.some.inj h).symm) dX9_isSo_82
theorem c_X9_isSo {w : fm_W} {l : Launch} (hI : fm_I w 11) {v1 : Int32} {v2 : Int32} {v3 : Int32} {s : fm_M} {r : Int32} {s2 : fm_M} (h : f_X9_isSo v1 v2 v3 s = some (r, s2)) : fm_C w layM 11 l yX9_isSo cX9_isSo 7 (some .boolean) rm_X9_isSo [.ref (fm_ad w 0), .int v1, .int v2, .int v3] s (some (.int r), s2) :=
  fm_of hI (by decide) rfl (Nat.le_of_ble_eq_true rfl) (e_X9_isSo hI v1 v2 v3 s _ h (fun r s e => by cases e; rfl))
-- X9_keep
abbrev rm_X9_keep : Room := { frames := 0, cells := 0, slots := 0, locals := 0 }
def f_X9_keep_13 (s : fm_M) (v1 : Int32) : Option ((fm_M × Int32) ⊕ (fm_M × Int32)) :=
  if (29 : Int32) ≤ v1 then some (.inr (s, v1)) else if fm_in v1 29 = true then if fm_in (((29 : Int32) * (s 0 8)) + v1) 58 = true then some (.inl ((fm_up s 6 (((29 : Int32) * (s 0 8)) + v1).toNatClampNeg (s 4 v1.toNatClampNeg)), (v1 + (1 : Int32)))) else none else none
set_option maxHeartbeats 4000000 in
theorem t_X9_keep_13 {w : fm_W} {l : Launch} {o : fm_O} (hI : fm_I w 11) (s : fm_M) (v1 : Int32) (z : (fm_M × Int32) ⊕ (fm_M × Int32)) (h : f_X9_keep_13 s v1 = some z) (kb : ∀ (s : fm_M) (u1 : Int32), z = .inl (s, u1) → fm_V w layM 11 l rm_X9_keep cX9_keep 2 RX9 (some .int) o 13 [some (.ref (fm_ad w 0)), some (.int u1)] [] s) (ke : ∀ (s : fm_M) (u1 : Int32), z = .inr (s, u1) → fm_V w layM 11 l rm_X9_keep cX9_keep 2 RX9 (some .int) o 45 [some (.ref (fm_ad w 0)), some (.int u1)] [] s) : fm_V w layM 11 l rm_X9_keep cX9_keep 2 RX9 (some .int) o 13 [some (.ref (fm_ad w 0)), some (.int v1)] [] s := by
  unfold f_X9_keep_13 at h
  refine v_iload_n 1 dX9_keep_13 rfl rfl ?_
  refine v_bipush (29 : Int32) dX9_keep_14 (by decide) ?_
  refine v_icmp_ge 45 dX9_keep_16 (by decide) h (fun h => ?_) (fun h => ?_)
  · refine v_lw [some (.ref (fm_ad w 0)), some (.int v1)] rfl ⟨rfl, rfl, trivial⟩ ?_
    exact ke _ _ (Option.some.inj h).symm
  · refine v_aload_n 0 dX9_keep_19 rfl rfl ?_
    refine v_getr 6 g_X9_25 yM_0 (by decide) rfl dX9_keep_20 ?_
    refine v_bipush (29 : Int32) dX9_keep_23 (by decide) ?_
    refine v_aload_n 0 dX9_keep_25 rfl rfl ?_
    refine v_geti g_X9_90 yM_0 (by decide) rfl dX9_keep_26 ?_
    refine v_imul dX9_keep_29 ?_
    refine v_iload_n 1 dX9_keep_30 rfl rfl ?_
    refine v_iadd dX9_keep_31 ?_
    refine v_aload_n 0 dX9_keep_32 rfl rfl ?_
    refine v_getr 4 g_X9_19 yM_0 (by decide) rfl dX9_keep_33 ?_
    refine v_iload_n 1 dX9_keep_36 rfl rfl ?_
    obtain ⟨hi, h⟩ := fm_ift h
    refine v_iald (Or.inl ⟨(by decide), yM_4⟩) hi dX9_keep_37 ?_
    obtain ⟨hi, h⟩ := fm_ift h
    refine v_iast (by decide) yM_6 hi dX9_keep_38 ?_
    refine v_iinc (lv' := [some (.ref (fm_ad w 0)), some (.int (v1 + (1 : Int32)))]) (1 : Int32) dX9_keep_39 rfl (by decide) (by decide) rfl rfl ?_
    refine v_goto 13 dX9_keep_42 (by decide) ?_
    refine v_lw [some (.ref (fm_ad w 0)), some (.int (v1 + (1 : Int32)))] rfl ⟨rfl, rfl, trivial⟩ ?_
    exact kb _ _ (Option.some.inj h).symm
set_option maxHeartbeats 4000000 in
theorem i_X9_keep_13 {w : fm_W} {l : Launch} {o : fm_O} (hI : fm_I w 11) (n : Nat) (s : fm_M) (v1 : Int32) (q : fm_M × Int32) (h : fm_it (fun s => f_X9_keep_13 s.1 s.2) n (s, v1) = some q) (ke : ∀ (s : fm_M) (u1 : Int32), q = (s, u1) → fm_V w layM 11 l rm_X9_keep cX9_keep 2 RX9 (some .int) o 45 [some (.ref (fm_ad w 0)), some (.int u1)] [] s) : fm_V w layM 11 l rm_X9_keep cX9_keep 2 RX9 (some .int) o 13 [some (.ref (fm_ad w 0)), some (.int v1)] [] s :=
  fm_it_loop (body := (fun s => f_X9_keep_13 s.1 s.2)) (P := fun s => fm_V w layM 11 l rm_X9_keep cX9_keep 2 RX9 (some .int) o 13 [some (.ref (fm_ad w 0)), some (.int s.2)] [] s.1) (K := (fun q : fm_M × Int32 => (∀ (s : fm_M) (u1 : Int32), q = (s, u1) → fm_V w layM 11 l rm_X9_keep cX9_keep 2 RX9 (some .int) o 45 [some (.ref (fm_ad w 0)), some (.int u1)] [] s))) (fun s z hb kl kx => t_X9_keep_13 hI s.1 s.2 z hb (fun s u1 e => kl _ e) (fun s u1 e => (kx _ e) s u1 rfl)) n (s, v1) q h ke
def f_X9_keep (s : fm_M) : Option (Int32 × fm_M) :=
  if (s 0 8) = (2 : Int32) then some ((-3 : Int32), s) else fm_op (fm_it (fun (yy : fm_M × Int32) => f_X9_keep_13 yy.1 yy.2) fm_fu (s, (0 : Int32))) (fun q1 => ((fun (s1 : fm_M) (x1_1 : Int32) => some (((fm_up s1 0 8 ((s1 0 8) + (1 : Int32))) 0 8), (fm_up s1 0 8 ((s1 0 8) + (1 : Int32)))))) q1.1 q1.2)
set_option maxHeartbeats 4000000 in
theorem e_X9_keep {w : fm_W} {l : Launch} {o : fm_O} (hI : fm_I w 11) (s : fm_M) (z : Int32 × fm_M) (h : f_X9_keep s = some z) (ho : ∀ (r : Int32) (s : fm_M), z = (r, s) → o = (some (.int r), s)) : fm_V w layM 11 l rm_X9_keep cX9_keep 2 RX9 (some .int) o 0 [some (.ref (fm_ad w 0)), none] [] s := by
  unfold f_X9_keep at h
  refine v_aload_n 0 dX9_keep_0 rfl rfl ?_
  refine v_geti g_X9_90 yM_0 (by decide) rfl dX9_keep_1 ?_
  refine v_iconst (2 : Int32) dX9_keep_4 (by decide) ?_
  refine v_icmp_ne 11 dX9_keep_5 (by decide) h (fun h => ?_) (fun h => ?_)
  · refine v_iconst (0 : Int32) dX9_keep_11 (by decide) ?_
    refine v_istore_n (lv' := [some (.ref (fm_ad w 0)), some (.int (0 : Int32))]) 1 dX9_keep_12 rfl (by decide) rfl rfl ?_
    obtain ⟨q1, h1, h⟩ := fm_ops h
    refine v_lw [some (.ref (fm_ad w 0)), some (.int (0 : Int32))] rfl ⟨rfl, rfl, trivial⟩ ?_
    refine i_X9_keep_13 hI _ _ _ _ h1 (fun s1 x1_1 e => ?_)
    subst e
    dsimp only at h
    refine v_aload_n 0 dX9_keep_45 rfl rfl ?_
    refine v_dup dX9_keep_46 rfl ?_
    refine v_geti g_X9_90 yM_0 (by decide) rfl dX9_keep_47 ?_
    refine v_iconst (1 : Int32) dX9_keep_50 (by decide) ?_
    refine v_iadd dX9_keep_51 ?_
    refine v_put p_X9_90 yM_0 (by decide) rfl ⟨rfl, rfl⟩ dX9_keep_52 ?_
    refine v_aload_n 0 dX9_keep_55 rfl rfl ?_
    refine v_geti g_X9_90 yM_0 (by decide) rfl dX9_keep_56 ?_
    exact v_iret rfl (ho _ _ (Option.some.inj h).symm) dX9_keep_59
  · refine v_bipush (-3 : Int32) dX9_keep_8 (by decide) ?_
    exact v_iret rfl (ho _ _ (Option.some.inj h).symm) dX9_keep_10
theorem c_X9_keep {w : fm_W} {l : Launch} (hI : fm_I w 11) {s : fm_M} {r : Int32} {s2 : fm_M} (h : f_X9_keep s = some (r, s2)) : fm_C w layM 11 l yX9_keep cX9_keep 2 (some .int) rm_X9_keep [.ref (fm_ad w 0)] s (some (.int r), s2) :=
  fm_of hI (by decide) rfl (Nat.le_of_ble_eq_true rfl) (e_X9_keep hI s _ h (fun r s e => by cases e; rfl))
-- X9_kinds
abbrev rm_X9_kinds : Room := { frames := 2, cells := 0, slots := 0, locals := 49 }
def f_X9_kinds_45 (v1 : Int32) (v3 : Int32) (sk0 : Int32) (sk1 : Int32) (s : fm_M) : Option ((fm_M × Int32 × Int32) ⊕ (fm_M × Int32 × Int32)) :=
  some (.inl (s, (sk1 ||| sk0), (v3 + (1 : Int32))))
set_option maxHeartbeats 4000000 in
theorem t_X9_kinds_45 {w : fm_W} {l : Launch} {o : fm_O} (hI : fm_I w 11) (v1 : Int32) (v3 : Int32) (sk0 : Int32) (sk1 : Int32) (s : fm_M) (z : (fm_M × Int32 × Int32) ⊕ (fm_M × Int32 × Int32)) (h : f_X9_kinds_45 v1 v3 sk0 sk1 s = some z) (kb : ∀ (s : fm_M) (u2 : Int32) (u3 : Int32), z = .inl (s, u2, u3) → fm_V w layM 11 l rm_X9_kinds cX9_kinds 4 RX9 (some .int) o 14 [some (.ref (fm_ad w 0)), some (.int v1), some (.int u2), some (.int u3)] [] s) (ke : ∀ (s : fm_M) (u2 : Int32) (u3 : Int32), z = .inr (s, u2, u3) → fm_V w layM 11 l rm_X9_kinds cX9_kinds 4 RX9 (some .int) o 53 [some (.ref (fm_ad w 0)), some (.int v1), some (.int u2), some (.int u3)] [] s) : fm_V w layM 11 l rm_X9_kinds cX9_kinds 4 RX9 (some .int) o 45 [some (.ref (fm_ad w 0)), some (.int v1), none, some (.int v3)] [.int sk0, .int sk1] s := by
  unfold f_X9_kinds_45 at h
  refine v_ior dX9_kinds_45 ?_
  refine v_istore_n (lv' := [some (.ref (fm_ad w 0)), some (.int v1), some (.int (sk1 ||| sk0)), some (.int v3)]) 2 dX9_kinds_46 rfl (by decide) rfl rfl ?_
  refine v_iinc (lv' := [some (.ref (fm_ad w 0)), some (.int v1), some (.int (sk1 ||| sk0)), some (.int (v3 + (1 : Int32)))]) (1 : Int32) dX9_kinds_47 rfl (by decide) (by decide) rfl rfl ?_
  refine v_goto 14 dX9_kinds_50 (by decide) ?_
  refine v_lw [some (.ref (fm_ad w 0)), some (.int v1), some (.int (sk1 ||| sk0)), some (.int (v3 + (1 : Int32)))] rfl ⟨rfl, rfl, rfl, rfl, trivial⟩ ?_
  exact kb _ _ _ (Option.some.inj h).symm
def f_X9_kinds_14 (v1 : Int32) (s : fm_M) (v2 : Int32) (v3 : Int32) : Option ((fm_M × Int32 × Int32) ⊕ (fm_M × Int32 × Int32)) :=
  if (4 : Int32) ≤ v3 then some (.inr (s, v2, v3)) else if fm_in ((11 : Int32) + v1) 17 = true then fm_bd (f_X9_isSo v1 v3 (s 2 ((11 : Int32) + v1).toNatClampNeg) s) (fun r2 s2 => if r2 = 0 then f_X9_kinds_45 v1 v3 (0 : Int32) v2 s2 else f_X9_kinds_45 v1 v3 ((1 : Int32) <<< (v3 &&& 31)) v2 s2) else none
set_option maxHeartbeats 4000000 in
theorem t_X9_kinds_14 {w : fm_W} {l : Launch} {o : fm_O} (hI : fm_I w 11) (v1 : Int32) (s : fm_M) (v2 : Int32) (v3 : Int32) (z : (fm_M × Int32 × Int32) ⊕ (fm_M × Int32 × Int32)) (h : f_X9_kinds_14 v1 s v2 v3 = some z) (kb : ∀ (s : fm_M) (u2 : Int32) (u3 : Int32), z = .inl (s, u2, u3) → fm_V w layM 11 l rm_X9_kinds cX9_kinds 4 RX9 (some .int) o 14 [some (.ref (fm_ad w 0)), some (.int v1), some (.int u2), some (.int u3)] [] s) (ke : ∀ (s : fm_M) (u2 : Int32) (u3 : Int32), z = .inr (s, u2, u3) → fm_V w layM 11 l rm_X9_kinds cX9_kinds 4 RX9 (some .int) o 53 [some (.ref (fm_ad w 0)), some (.int v1), some (.int u2), some (.int u3)] [] s) : fm_V w layM 11 l rm_X9_kinds cX9_kinds 4 RX9 (some .int) o 14 [some (.ref (fm_ad w 0)), some (.int v1), some (.int v2), some (.int v3)] [] s := by
  unfold f_X9_kinds_14 at h
  refine v_iload_n 3 dX9_kinds_14 rfl rfl ?_
  refine v_iconst (4 : Int32) dX9_kinds_15 (by decide) ?_
  refine v_icmp_ge 53 dX9_kinds_16 (by decide) h (fun h => ?_) (fun h => ?_)
  · refine v_lw [some (.ref (fm_ad w 0)), some (.int v1), some (.int v2), some (.int v3)] rfl ⟨rfl, rfl, rfl, rfl, trivial⟩ ?_
    exact ke _ _ _ (Option.some.inj h).symm
  · refine v_iload_n 2 dX9_kinds_19 rfl rfl ?_
    refine v_aload_n 0 dX9_kinds_20 rfl rfl ?_
    refine v_iload_n 1 dX9_kinds_21 rfl rfl ?_
    refine v_iload_n 3 dX9_kinds_22 rfl rfl ?_
    refine v_aload_n 0 dX9_kinds_23 rfl rfl ?_
    refine v_getr 2 g_X9_13 yM_0 (by decide) rfl dX9_kinds_24 ?_
    refine v_bipush (11 : Int32) dX9_kinds_27 (by decide) ?_
    refine v_iload_n 1 dX9_kinds_29 rfl rfl ?_
    refine v_iadd dX9_kinds_30 ?_
    obtain ⟨hi, h⟩ := fm_ift h
    refine v_iald (Or.inl ⟨(by decide), yM_2⟩) hi dX9_kinds_31 ?_
    obtain ⟨r2, s2, h2, h⟩ := fm_bds h
    refine v_cVi [.int v1, .int v3, .int (s 2 ((11 : Int32) + v1).toNatClampNeg)] [.int v2] l_X9_170 (c_X9_isSo hI h2) yM_0 (by decide) rfl rfl ⟨rfl, rfl, by decide, by decide⟩ (Nat.le_of_ble_eq_true rfl) dX9_kinds_32 ?_
    refine v_if_eq 44 dX9_kinds_35 (by decide) h (fun h => ?_) (fun h => ?_)
    · refine v_iconst (0 : Int32) dX9_kinds_44 (by decide) ?_
      refine v_lw [some (.ref (fm_ad w 0)), some (.int v1), none, some (.int v3)] rfl ⟨rfl, rfl, rfl, trivial⟩ ?_
      exact t_X9_kinds_45 hI v1 v3 (0 : Int32) v2 s2 _ h kb ke
    · refine v_iconst (1 : Int32) dX9_kinds_38 (by decide) ?_
      refine v_iload_n 3 dX9_kinds_39 rfl rfl ?_
      refine v_ishl dX9_kinds_40 ?_
      refine v_goto 45 dX9_kinds_41 (by decide) ?_
      refine v_lw [some (.ref (fm_ad w 0)), some (.int v1), none, some (.int v3)] rfl ⟨rfl, rfl, rfl, trivial⟩ ?_
      exact t_X9_kinds_45 hI v1 v3 ((1 : Int32) <<< (v3 &&& 31)) v2 s2 _ h kb ke
set_option maxHeartbeats 4000000 in
theorem i_X9_kinds_14 {w : fm_W} {l : Launch} {o : fm_O} (hI : fm_I w 11) (v1 : Int32) (n : Nat) (s : fm_M) (v2 : Int32) (v3 : Int32) (q : fm_M × Int32 × Int32) (h : fm_it (fun s => f_X9_kinds_14 v1 s.1 s.2.1 s.2.2) n (s, v2, v3) = some q) (ke : ∀ (s : fm_M) (u2 : Int32) (u3 : Int32), q = (s, u2, u3) → fm_V w layM 11 l rm_X9_kinds cX9_kinds 4 RX9 (some .int) o 53 [some (.ref (fm_ad w 0)), some (.int v1), some (.int u2), some (.int u3)] [] s) : fm_V w layM 11 l rm_X9_kinds cX9_kinds 4 RX9 (some .int) o 14 [some (.ref (fm_ad w 0)), some (.int v1), some (.int v2), some (.int v3)] [] s :=
  fm_it_loop (body := (fun s => f_X9_kinds_14 v1 s.1 s.2.1 s.2.2)) (P := fun s => fm_V w layM 11 l rm_X9_kinds cX9_kinds 4 RX9 (some .int) o 14 [some (.ref (fm_ad w 0)), some (.int v1), some (.int s.2.1), some (.int s.2.2)] [] s.1) (K := (fun q : fm_M × Int32 × Int32 => (∀ (s : fm_M) (u2 : Int32) (u3 : Int32), q = (s, u2, u3) → fm_V w layM 11 l rm_X9_kinds cX9_kinds 4 RX9 (some .int) o 53 [some (.ref (fm_ad w 0)), some (.int v1), some (.int u2), some (.int u3)] [] s))) (fun s z hb kl kx => t_X9_kinds_14 hI v1 s.1 s.2.1 s.2.2 z hb (fun s u2 u3 e => kl _ e) (fun s u2 u3 e => (kx _ e) s u2 u3 rfl)) n (s, v2, v3) q h ke
def f_X9_kinds (v1 : Int32) (s : fm_M) : Option (Int32 × fm_M) :=
  fm_bd (f_X9_isChild v1 s) (fun r1 s1 => if r1 = 0 then some ((-1 : Int32), s1) else fm_op (fm_it (fun (yy : fm_M × Int32 × Int32) => f_X9_kinds_14 v1 yy.1 yy.2.1 yy.2.2) fm_fu (s1, (0 : Int32), (0 : Int32))) (fun q3 => ((fun (s3 : fm_M) (x3_2 : Int32) (x3_3 : Int32) => some (x3_2, s3))) q3.1 q3.2.1 q3.2.2))
set_option maxHeartbeats 4000000 in
theorem e_X9_kinds {w : fm_W} {l : Launch} {o : fm_O} (hI : fm_I w 11) (v1 : Int32) (s : fm_M) (z : Int32 × fm_M) (h : f_X9_kinds v1 s = some z) (ho : ∀ (r : Int32) (s : fm_M), z = (r, s) → o = (some (.int r), s)) : fm_V w layM 11 l rm_X9_kinds cX9_kinds 4 RX9 (some .int) o 0 [some (.ref (fm_ad w 0)), some (.int v1), none, none] [] s := by
  unfold f_X9_kinds at h
  refine v_aload_n 0 dX9_kinds_0 rfl rfl ?_
  refine v_iload_n 1 dX9_kinds_1 rfl rfl ?_
  obtain ⟨r1, s1, h1, h⟩ := fm_bds h
  refine v_cVi [.int v1] [] l_X9_99 (c_X9_isChild hI h1) yM_0 (by decide) rfl rfl ⟨rfl, rfl, by decide, by decide⟩ (Nat.le_of_ble_eq_true rfl) dX9_kinds_2 ?_
  refine v_if_ne 10 dX9_kinds_5 (by decide) h (fun h => ?_) (fun h => ?_)
  · refine v_iconst (0 : Int32) dX9_kinds_10 (by decide) ?_
    refine v_istore_n (lv' := [some (.ref (fm_ad w 0)), some (.int v1), some (.int (0 : Int32)), none]) 2 dX9_kinds_11 rfl (by decide) rfl rfl ?_
    refine v_iconst (0 : Int32) dX9_kinds_12 (by decide) ?_
    refine v_istore_n (lv' := [some (.ref (fm_ad w 0)), some (.int v1), some (.int (0 : Int32)), some (.int (0 : Int32))]) 3 dX9_kinds_13 rfl (by decide) rfl rfl ?_
    obtain ⟨q3, h3, h⟩ := fm_ops h
    refine v_lw [some (.ref (fm_ad w 0)), some (.int v1), some (.int (0 : Int32)), some (.int (0 : Int32))] rfl ⟨rfl, rfl, rfl, rfl, trivial⟩ ?_
    refine i_X9_kinds_14 hI v1 _ _ _ _ _ h3 (fun s3 x3_2 x3_3 e => ?_)
    subst e
    dsimp only at h
    refine v_iload_n 2 dX9_kinds_53 rfl rfl ?_
    exact v_iret rfl (ho _ _ (Option.some.inj h).symm) dX9_kinds_54
  · refine v_iconst (-1 : Int32) dX9_kinds_8 (by decide) ?_
    exact v_iret rfl (ho _ _ (Option.some.inj h).symm) dX9_kinds_9
theorem c_X9_kinds {w : fm_W} {l : Launch} (hI : fm_I w 11) {v1 : Int32} {s : fm_M} {r : Int32} {s2 : fm_M} (h : f_X9_kinds v1 s = some (r, s2)) : fm_C w layM 11 l yX9_kinds cX9_kinds 4 (some .int) rm_X9_kinds [.ref (fm_ad w 0), .int v1] s (some (.int r), s2) :=
  fm_of hI (by decide) rfl (Nat.le_of_ble_eq_true rfl) (e_X9_kinds hI v1 s _ h (fun r s e => by cases e; rfl))
-- X9_last
abbrev rm_X9_last : Room := { frames := 6, cells := 0, slots := 0, locals := 133 }
def f_X9_last_43 (v2 : Int32) (sk0 : Int32) (sk1 : Int32) (s : fm_M) : Option ((fm_M × Int32 × Int32) ⊕ (fm_M × Int32 × Int32)) :=
  some (.inl (s, (sk1 ||| sk0), (v2 + (1 : Int32))))
set_option maxHeartbeats 4000000 in
theorem t_X9_last_43 {w : fm_W} {l : Launch} {o : fm_O} (hI : fm_I w 11) (v2 : Int32) (sk0 : Int32) (sk1 : Int32) (s : fm_M) (z : (fm_M × Int32 × Int32) ⊕ (fm_M × Int32 × Int32)) (h : f_X9_last_43 v2 sk0 sk1 s = some z) (kb : ∀ (s : fm_M) (u1 : Int32) (u2 : Int32), z = .inl (s, u1, u2) → fm_V w layM 11 l rm_X9_last cX9_last 3 RX9 (some .int) o 8 [some (.ref (fm_ad w 0)), some (.int u1), some (.int u2)] [] s) (ke : ∀ (s : fm_M) (u1 : Int32) (u2 : Int32), z = .inr (s, u1, u2) → fm_V w layM 11 l rm_X9_last cX9_last 3 RX9 (some .int) o 51 [some (.ref (fm_ad w 0)), some (.int u1), some (.int u2)] [] s) : fm_V w layM 11 l rm_X9_last cX9_last 3 RX9 (some .int) o 43 [some (.ref (fm_ad w 0)), none, some (.int v2)] [.int sk0, .int sk1] s := by
  unfold f_X9_last_43 at h
  refine v_ior dX9_last_43 ?_
  refine v_istore_n (lv' := [some (.ref (fm_ad w 0)), some (.int (sk1 ||| sk0)), some (.int v2)]) 1 dX9_last_44 rfl (by decide) rfl rfl ?_
  refine v_iinc (lv' := [some (.ref (fm_ad w 0)), some (.int (sk1 ||| sk0)), some (.int (v2 + (1 : Int32)))]) (1 : Int32) dX9_last_45 rfl (by decide) (by decide) rfl rfl ?_
  refine v_goto 8 dX9_last_48 (by decide) ?_
  refine v_lw [some (.ref (fm_ad w 0)), some (.int (sk1 ||| sk0)), some (.int (v2 + (1 : Int32)))] rfl ⟨rfl, rfl, rfl, trivial⟩ ?_
  exact kb _ _ _ (Option.some.inj h).symm
def f_X9_last_42 (v2 : Int32) (sk0 : Int32) (s : fm_M) : Option ((fm_M × Int32 × Int32) ⊕ (fm_M × Int32 × Int32)) :=
  f_X9_last_43 v2 (0 : Int32) sk0 s
set_option maxHeartbeats 4000000 in
theorem t_X9_last_42 {w : fm_W} {l : Launch} {o : fm_O} (hI : fm_I w 11) (v2 : Int32) (sk0 : Int32) (s : fm_M) (z : (fm_M × Int32 × Int32) ⊕ (fm_M × Int32 × Int32)) (h : f_X9_last_42 v2 sk0 s = some z) (kb : ∀ (s : fm_M) (u1 : Int32) (u2 : Int32), z = .inl (s, u1, u2) → fm_V w layM 11 l rm_X9_last cX9_last 3 RX9 (some .int) o 8 [some (.ref (fm_ad w 0)), some (.int u1), some (.int u2)] [] s) (ke : ∀ (s : fm_M) (u1 : Int32) (u2 : Int32), z = .inr (s, u1, u2) → fm_V w layM 11 l rm_X9_last cX9_last 3 RX9 (some .int) o 51 [some (.ref (fm_ad w 0)), some (.int u1), some (.int u2)] [] s) : fm_V w layM 11 l rm_X9_last cX9_last 3 RX9 (some .int) o 42 [some (.ref (fm_ad w 0)), none, some (.int v2)] [.int sk0] s := by
  unfold f_X9_last_42 at h
  refine v_iconst (0 : Int32) dX9_last_42 (by decide) ?_
  refine v_lw [some (.ref (fm_ad w 0)), none, some (.int v2)] rfl ⟨rfl, rfl, trivial⟩ ?_
  exact t_X9_last_43 hI v2 (0 : Int32) sk0 s _ h kb ke
def f_X9_last_8 (s : fm_M) (v1 : Int32) (v2 : Int32) : Option ((fm_M × Int32 × Int32) ⊕ (fm_M × Int32 × Int32)) :=
  if fm_in (0 : Int32) 17 = true then if (s 2 (0 : Int32).toNatClampNeg) ≤ v2 then some (.inr (s, v1, v2)) else fm_bd (f_X9_goesBut v2 s) (fun r2 s2 => if r2 = (-4 : Int32) then f_X9_last_42 v2 v1 s2 else if (s2 0 14) = 0 then f_X9_last_43 v2 ((1 : Int32) <<< (v2 &&& 31)) v1 s2 else f_X9_last_42 v2 v1 s2) else none
set_option maxHeartbeats 4000000 in
theorem t_X9_last_8 {w : fm_W} {l : Launch} {o : fm_O} (hI : fm_I w 11) (s : fm_M) (v1 : Int32) (v2 : Int32) (z : (fm_M × Int32 × Int32) ⊕ (fm_M × Int32 × Int32)) (h : f_X9_last_8 s v1 v2 = some z) (kb : ∀ (s : fm_M) (u1 : Int32) (u2 : Int32), z = .inl (s, u1, u2) → fm_V w layM 11 l rm_X9_last cX9_last 3 RX9 (some .int) o 8 [some (.ref (fm_ad w 0)), some (.int u1), some (.int u2)] [] s) (ke : ∀ (s : fm_M) (u1 : Int32) (u2 : Int32), z = .inr (s, u1, u2) → fm_V w layM 11 l rm_X9_last cX9_last 3 RX9 (some .int) o 51 [some (.ref (fm_ad w 0)), some (.int u1), some (.int u2)] [] s) : fm_V w layM 11 l rm_X9_last cX9_last 3 RX9 (some .int) o 8 [some (.ref (fm_ad w 0)), some (.int v1), some (.int v2)] [] s := by
  unfold f_X9_last_8 at h
  refine v_iload_n 2 dX9_last_8 rfl rfl ?_
  refine v_aload_n 0 dX9_last_9 rfl rfl ?_
  refine v_getr 2 g_X9_13 yM_0 (by decide) rfl dX9_last_10 ?_
  refine v_iconst (0 : Int32) dX9_last_13 (by decide) ?_
  obtain ⟨hi, h⟩ := fm_ift h
  refine v_iald (Or.inl ⟨(by decide), yM_2⟩) hi dX9_last_14 ?_
  refine v_icmp_ge 51 dX9_last_15 (by decide) h (fun h => ?_) (fun h => ?_)
  · refine v_lw [some (.ref (fm_ad w 0)), some (.int v1), some (.int v2)] rfl ⟨rfl, rfl, rfl, trivial⟩ ?_
    exact ke _ _ _ (Option.some.inj h).symm
  · refine v_iload_n 1 dX9_last_18 rfl rfl ?_
    refine v_aload_n 0 dX9_last_19 rfl rfl ?_
    refine v_iload_n 2 dX9_last_20 rfl rfl ?_
    obtain ⟨r2, s2, h2, h⟩ := fm_bds h
    refine v_cVi [.int v2] [.int v1] l_X9_161 (c_X9_goesBut hI h2) yM_0 (by decide) rfl rfl ⟨rfl, rfl, by decide, by decide⟩ (Nat.le_of_ble_eq_true rfl) dX9_last_21 ?_
    refine v_bipush (-4 : Int32) dX9_last_24 (by decide) ?_
    refine v_icmp_eq 42 dX9_last_26 (by decide) h (fun h => ?_) (fun h => ?_)
    · refine v_lw [some (.ref (fm_ad w 0)), none, some (.int v2)] rfl ⟨rfl, rfl, trivial⟩ ?_
      exact t_X9_last_42 hI v2 v1 s2 _ h kb ke
    · refine v_aload_n 0 dX9_last_29 rfl rfl ?_
      refine v_geti g_X9_143 yM_0 (by decide) rfl dX9_last_30 ?_
      refine v_if_ne 42 dX9_last_33 (by decide) h (fun h => ?_) (fun h => ?_)
      · refine v_lw [some (.ref (fm_ad w 0)), none, some (.int v2)] rfl ⟨rfl, rfl, trivial⟩ ?_
        exact t_X9_last_42 hI v2 v1 s2 _ h kb ke
      · refine v_iconst (1 : Int32) dX9_last_36 (by decide) ?_
        refine v_iload_n 2 dX9_last_37 rfl rfl ?_
        refine v_ishl dX9_last_38 ?_
        refine v_goto 43 dX9_last_39 (by decide) ?_
        refine v_lw [some (.ref (fm_ad w 0)), none, some (.int v2)] rfl ⟨rfl, rfl, trivial⟩ ?_
        exact t_X9_last_43 hI v2 ((1 : Int32) <<< (v2 &&& 31)) v1 s2 _ h kb ke
set_option maxHeartbeats 4000000 in
theorem i_X9_last_8 {w : fm_W} {l : Launch} {o : fm_O} (hI : fm_I w 11) (n : Nat) (s : fm_M) (v1 : Int32) (v2 : Int32) (q : fm_M × Int32 × Int32) (h : fm_it (fun s => f_X9_last_8 s.1 s.2.1 s.2.2) n (s, v1, v2) = some q) (ke : ∀ (s : fm_M) (u1 : Int32) (u2 : Int32), q = (s, u1, u2) → fm_V w layM 11 l rm_X9_last cX9_last 3 RX9 (some .int) o 51 [some (.ref (fm_ad w 0)), some (.int u1), some (.int u2)] [] s) : fm_V w layM 11 l rm_X9_last cX9_last 3 RX9 (some .int) o 8 [some (.ref (fm_ad w 0)), some (.int v1), some (.int v2)] [] s :=
  fm_it_loop (body := (fun s => f_X9_last_8 s.1 s.2.1 s.2.2)) (P := fun s => fm_V w layM 11 l rm_X9_last cX9_last 3 RX9 (some .int) o 8 [some (.ref (fm_ad w 0)), some (.int s.2.1), some (.int s.2.2)] [] s.1) (K := (fun q : fm_M × Int32 × Int32 => (∀ (s : fm_M) (u1 : Int32) (u2 : Int32), q = (s, u1, u2) → fm_V w layM 11 l rm_X9_last cX9_last 3 RX9 (some .int) o 51 [some (.ref (fm_ad w 0)), some (.int u1), some (.int u2)] [] s))) (fun s z hb kl kx => t_X9_last_8 hI s.1 s.2.1 s.2.2 z hb (fun s u1 u2 e => kl _ e) (fun s u1 u2 e => (kx _ e) s u1 u2 rfl)) n (s, v1, v2) q h ke
def f_X9_last (s : fm_M) : Option (Int32 × fm_M) :=
  fm_bd (f_X9_holds s) (fun r1 s1 => fm_op (fm_it (fun (yy : fm_M × Int32 × Int32) => f_X9_last_8 yy.1 yy.2.1 yy.2.2) fm_fu (s1, (0 : Int32), (0 : Int32))) (fun q3 => ((fun (s3 : fm_M) (x3_1 : Int32) (x3_2 : Int32) => some (x3_1, s3))) q3.1 q3.2.1 q3.2.2))
set_option maxHeartbeats 4000000 in
theorem e_X9_last {w : fm_W} {l : Launch} {o : fm_O} (hI : fm_I w 11) (s : fm_M) (z : Int32 × fm_M) (h : f_X9_last s = some z) (ho : ∀ (r : Int32) (s : fm_M), z = (r, s) → o = (some (.int r), s)) : fm_V w layM 11 l rm_X9_last cX9_last 3 RX9 (some .int) o 0 [some (.ref (fm_ad w 0)), none, none] [] s := by
  unfold f_X9_last at h
  refine v_aload_n 0 dX9_last_0 rfl rfl ?_
  obtain ⟨r1, s1, h1, h⟩ := fm_bds h
  refine v_cVv [] [] l_X9_158 (c_X9_holds hI h1) yM_0 (by decide) rfl rfl ⟨rfl, rfl, by decide, by decide⟩ (Nat.le_of_ble_eq_true rfl) dX9_last_1 ?_
  refine v_iconst (0 : Int32) dX9_last_4 (by decide) ?_
  refine v_istore_n (lv' := [some (.ref (fm_ad w 0)), some (.int (0 : Int32)), none]) 1 dX9_last_5 rfl (by decide) rfl rfl ?_
  refine v_iconst (0 : Int32) dX9_last_6 (by decide) ?_
  refine v_istore_n (lv' := [some (.ref (fm_ad w 0)), some (.int (0 : Int32)), some (.int (0 : Int32))]) 2 dX9_last_7 rfl (by decide) rfl rfl ?_
  obtain ⟨q3, h3, h⟩ := fm_ops h
  refine v_lw [some (.ref (fm_ad w 0)), some (.int (0 : Int32)), some (.int (0 : Int32))] rfl ⟨rfl, rfl, rfl, trivial⟩ ?_
  refine i_X9_last_8 hI _ _ _ _ _ h3 (fun s3 x3_1 x3_2 e => ?_)
  subst e
  dsimp only at h
  refine v_iload_n 1 dX9_last_51 rfl rfl ?_
  exact v_iret rfl (ho _ _ (Option.some.inj h).symm) dX9_last_52
theorem c_X9_last {w : fm_W} {l : Launch} (hI : fm_I w 11) {s : fm_M} {r : Int32} {s2 : fm_M} (h : f_X9_last s = some (r, s2)) : fm_C w layM 11 l yX9_last cX9_last 3 (some .int) rm_X9_last [.ref (fm_ad w 0)] s (some (.int r), s2) :=
  fm_of hI (by decide) rfl (Nat.le_of_ble_eq_true rfl) (e_X9_last hI s _ h (fun r s e => by cases e; rfl))
-- X9_starts
abbrev rm_X9_starts : Room := { frames := 0, cells := 0, slots := 0, locals := 0 }
def f_X9_starts_2 (s : fm_M) (v1 : Int32) : Option ((fm_M × Int32) ⊕ (fm_M × Int32)) :=
  if (29 : Int32) ≤ v1 then some (.inr (s, v1)) else if fm_in v1 29 = true then some (.inl ((fm_up s 4 v1.toNatClampNeg (0 : Int32)), (v1 + (1 : Int32)))) else none
set_option maxHeartbeats 4000000 in
theorem t_X9_starts_2 {w : fm_W} {l : Launch} {o : fm_O} (hI : fm_I w 11) (s : fm_M) (v1 : Int32) (z : (fm_M × Int32) ⊕ (fm_M × Int32)) (h : f_X9_starts_2 s v1 = some z) (kb : ∀ (s : fm_M) (u1 : Int32), z = .inl (s, u1) → fm_V w layM 11 l rm_X9_starts cX9_starts 2 RX9 none o 2 [some (.ref (fm_ad w 0)), some (.int u1)] [] s) (ke : ∀ (s : fm_M) (u1 : Int32), z = .inr (s, u1) → fm_V w layM 11 l rm_X9_starts cX9_starts 2 RX9 none o 21 [some (.ref (fm_ad w 0)), some (.int u1)] [] s) : fm_V w layM 11 l rm_X9_starts cX9_starts 2 RX9 none o 2 [some (.ref (fm_ad w 0)), some (.int v1)] [] s := by
  unfold f_X9_starts_2 at h
  refine v_iload_n 1 dX9_starts_2 rfl rfl ?_
  refine v_bipush (29 : Int32) dX9_starts_3 (by decide) ?_
  refine v_icmp_ge 21 dX9_starts_5 (by decide) h (fun h => ?_) (fun h => ?_)
  · refine v_lw [some (.ref (fm_ad w 0)), some (.int v1)] rfl ⟨rfl, rfl, trivial⟩ ?_
    exact ke _ _ (Option.some.inj h).symm
  · refine v_aload_n 0 dX9_starts_8 rfl rfl ?_
    refine v_getr 4 g_X9_19 yM_0 (by decide) rfl dX9_starts_9 ?_
    refine v_iload_n 1 dX9_starts_12 rfl rfl ?_
    refine v_iconst (0 : Int32) dX9_starts_13 (by decide) ?_
    obtain ⟨hi, h⟩ := fm_ift h
    refine v_iast (by decide) yM_4 hi dX9_starts_14 ?_
    refine v_iinc (lv' := [some (.ref (fm_ad w 0)), some (.int (v1 + (1 : Int32)))]) (1 : Int32) dX9_starts_15 rfl (by decide) (by decide) rfl rfl ?_
    refine v_goto 2 dX9_starts_18 (by decide) ?_
    refine v_lw [some (.ref (fm_ad w 0)), some (.int (v1 + (1 : Int32)))] rfl ⟨rfl, rfl, trivial⟩ ?_
    exact kb _ _ (Option.some.inj h).symm
set_option maxHeartbeats 4000000 in
theorem i_X9_starts_2 {w : fm_W} {l : Launch} {o : fm_O} (hI : fm_I w 11) (n : Nat) (s : fm_M) (v1 : Int32) (q : fm_M × Int32) (h : fm_it (fun s => f_X9_starts_2 s.1 s.2) n (s, v1) = some q) (ke : ∀ (s : fm_M) (u1 : Int32), q = (s, u1) → fm_V w layM 11 l rm_X9_starts cX9_starts 2 RX9 none o 21 [some (.ref (fm_ad w 0)), some (.int u1)] [] s) : fm_V w layM 11 l rm_X9_starts cX9_starts 2 RX9 none o 2 [some (.ref (fm_ad w 0)), some (.int v1)] [] s :=
  fm_it_loop (body := (fun s => f_X9_starts_2 s.1 s.2)) (P := fun s => fm_V w layM 11 l rm_X9_starts cX9_starts 2 RX9 none o 2 [some (.ref (fm_ad w 0)), some (.int s.2)] [] s.1) (K := (fun q : fm_M × Int32 => (∀ (s : fm_M) (u1 : Int32), q = (s, u1) → fm_V w layM 11 l rm_X9_starts cX9_starts 2 RX9 none o 21 [some (.ref (fm_ad w 0)), some (.int u1)] [] s))) (fun s z hb kl kx => t_X9_starts_2 hI s.1 s.2 z hb (fun s u1 e => kl _ e) (fun s u1 e => (kx _ e) s u1 rfl)) n (s, v1) q h ke
def f_X9_starts (s : fm_M) : Option (Int32 × fm_M) :=
  fm_op (fm_it (fun (yy : fm_M × Int32) => f_X9_starts_2 yy.1 yy.2) fm_fu (s, (0 : Int32))) (fun q1 => ((fun (s1 : fm_M) (x1_1 : Int32) => some (0, s1))) q1.1 q1.2)
set_option maxHeartbeats 4000000 in
theorem e_X9_starts {w : fm_W} {l : Launch} {o : fm_O} (hI : fm_I w 11) (s : fm_M) (z : Int32 × fm_M) (h : f_X9_starts s = some z) (ho : ∀ (r : Int32) (s : fm_M), z = (r, s) → o = (none, s)) : fm_V w layM 11 l rm_X9_starts cX9_starts 2 RX9 none o 0 [some (.ref (fm_ad w 0)), none] [] s := by
  unfold f_X9_starts at h
  refine v_iconst (0 : Int32) dX9_starts_0 (by decide) ?_
  refine v_istore_n (lv' := [some (.ref (fm_ad w 0)), some (.int (0 : Int32))]) 1 dX9_starts_1 rfl (by decide) rfl rfl ?_
  obtain ⟨q1, h1, h⟩ := fm_ops h
  refine v_lw [some (.ref (fm_ad w 0)), some (.int (0 : Int32))] rfl ⟨rfl, rfl, trivial⟩ ?_
  refine i_X9_starts_2 hI _ _ _ _ h1 (fun s1 x1_1 e => ?_)
  subst e
  dsimp only at h
  exact v_vret rfl (ho _ _ (Option.some.inj h).symm) dX9_starts_21
theorem c_X9_starts {w : fm_W} {l : Launch} (hI : fm_I w 11) {s : fm_M} {r : Int32} {s2 : fm_M} (h : f_X9_starts s = some (r, s2)) : fm_C w layM 11 l yX9_starts cX9_starts 2 none rm_X9_starts [.ref (fm_ad w 0)] s (none, s2) :=
  fm_of hI (by decide) rfl (Nat.le_of_ble_eq_true rfl) (e_X9_starts hI s _ h (fun r s e => by cases e; rfl))
-- X9_lays
abbrev rm_X9_lays : Room := { frames := 1, cells := 0, slots := 0, locals := 21 }
def f_X9_lays_2 (s : fm_M) (v1 : Int32) : Option ((fm_M × Int32) ⊕ (fm_M × Int32)) :=
  if (17 : Int32) ≤ v1 then some (.inr (s, v1)) else if fm_in v1 17 = true then if fm_in v1 17 = true then some (.inl ((fm_up s 2 v1.toNatClampNeg (s 3 v1.toNatClampNeg)), (v1 + (1 : Int32)))) else none else none
set_option maxHeartbeats 4000000 in
theorem t_X9_lays_2 {w : fm_W} {l : Launch} {o : fm_O} (hI : fm_I w 11) (s : fm_M) (v1 : Int32) (z : (fm_M × Int32) ⊕ (fm_M × Int32)) (h : f_X9_lays_2 s v1 = some z) (kb : ∀ (s : fm_M) (u1 : Int32), z = .inl (s, u1) → fm_V w layM 11 l rm_X9_lays cX9_lays 2 RX9 none o 2 [some (.ref (fm_ad w 0)), some (.int u1)] [] s) (ke : ∀ (s : fm_M) (u1 : Int32), z = .inr (s, u1) → fm_V w layM 11 l rm_X9_lays cX9_lays 2 RX9 none o 26 [some (.ref (fm_ad w 0)), some (.int u1)] [] s) : fm_V w layM 11 l rm_X9_lays cX9_lays 2 RX9 none o 2 [some (.ref (fm_ad w 0)), some (.int v1)] [] s := by
  unfold f_X9_lays_2 at h
  refine v_iload_n 1 dX9_lays_2 rfl rfl ?_
  refine v_bipush (17 : Int32) dX9_lays_3 (by decide) ?_
  refine v_icmp_ge 26 dX9_lays_5 (by decide) h (fun h => ?_) (fun h => ?_)
  · refine v_lw [some (.ref (fm_ad w 0)), some (.int v1)] rfl ⟨rfl, rfl, trivial⟩ ?_
    exact ke _ _ (Option.some.inj h).symm
  · refine v_aload_n 0 dX9_lays_8 rfl rfl ?_
    refine v_getr 2 g_X9_13 yM_0 (by decide) rfl dX9_lays_9 ?_
    refine v_iload_n 1 dX9_lays_12 rfl rfl ?_
    refine v_aload_n 0 dX9_lays_13 rfl rfl ?_
    refine v_getr 3 g_X9_16 yM_0 (by decide) rfl dX9_lays_14 ?_
    refine v_iload_n 1 dX9_lays_17 rfl rfl ?_
    obtain ⟨hi, h⟩ := fm_ift h
    refine v_iald (Or.inl ⟨(by decide), yM_3⟩) hi dX9_lays_18 ?_
    obtain ⟨hi, h⟩ := fm_ift h
    refine v_iast (by decide) yM_2 hi dX9_lays_19 ?_
    refine v_iinc (lv' := [some (.ref (fm_ad w 0)), some (.int (v1 + (1 : Int32)))]) (1 : Int32) dX9_lays_20 rfl (by decide) (by decide) rfl rfl ?_
    refine v_goto 2 dX9_lays_23 (by decide) ?_
    refine v_lw [some (.ref (fm_ad w 0)), some (.int (v1 + (1 : Int32)))] rfl ⟨rfl, rfl, trivial⟩ ?_
    exact kb _ _ (Option.some.inj h).symm
set_option maxHeartbeats 4000000 in
theorem i_X9_lays_2 {w : fm_W} {l : Launch} {o : fm_O} (hI : fm_I w 11) (n : Nat) (s : fm_M) (v1 : Int32) (q : fm_M × Int32) (h : fm_it (fun s => f_X9_lays_2 s.1 s.2) n (s, v1) = some q) (ke : ∀ (s : fm_M) (u1 : Int32), q = (s, u1) → fm_V w layM 11 l rm_X9_lays cX9_lays 2 RX9 none o 26 [some (.ref (fm_ad w 0)), some (.int u1)] [] s) : fm_V w layM 11 l rm_X9_lays cX9_lays 2 RX9 none o 2 [some (.ref (fm_ad w 0)), some (.int v1)] [] s :=
  fm_it_loop (body := (fun s => f_X9_lays_2 s.1 s.2)) (P := fun s => fm_V w layM 11 l rm_X9_lays cX9_lays 2 RX9 none o 2 [some (.ref (fm_ad w 0)), some (.int s.2)] [] s.1) (K := (fun q : fm_M × Int32 => (∀ (s : fm_M) (u1 : Int32), q = (s, u1) → fm_V w layM 11 l rm_X9_lays cX9_lays 2 RX9 none o 26 [some (.ref (fm_ad w 0)), some (.int u1)] [] s))) (fun s z hb kl kx => t_X9_lays_2 hI s.1 s.2 z hb (fun s u1 e => kl _ e) (fun s u1 e => (kx _ e) s u1 rfl)) n (s, v1) q h ke
def f_X9_lays (s : fm_M) : Option (Int32 × fm_M) :=
  fm_op (fm_it (fun (yy : fm_M × Int32) => f_X9_lays_2 yy.1 yy.2) fm_fu (s, (0 : Int32))) (fun q1 => ((fun (s1 : fm_M) (x1_1 : Int32) => fm_bd (f_X9_starts s1) (fun r2 s2 => some (0, (fm_up (fm_up (fm_up s2 0 6 (0 : Int32)) 0 8 (0 : Int32)) 0 10 (0 : Int32)))))) q1.1 q1.2)
set_option maxHeartbeats 4000000 in
theorem e_X9_lays {w : fm_W} {l : Launch} {o : fm_O} (hI : fm_I w 11) (s : fm_M) (z : Int32 × fm_M) (h : f_X9_lays s = some z) (ho : ∀ (r : Int32) (s : fm_M), z = (r, s) → o = (none, s)) : fm_V w layM 11 l rm_X9_lays cX9_lays 2 RX9 none o 0 [some (.ref (fm_ad w 0)), none] [] s := by
  unfold f_X9_lays at h
  refine v_iconst (0 : Int32) dX9_lays_0 (by decide) ?_
  refine v_istore_n (lv' := [some (.ref (fm_ad w 0)), some (.int (0 : Int32))]) 1 dX9_lays_1 rfl (by decide) rfl rfl ?_
  obtain ⟨q1, h1, h⟩ := fm_ops h
  refine v_lw [some (.ref (fm_ad w 0)), some (.int (0 : Int32))] rfl ⟨rfl, rfl, trivial⟩ ?_
  refine i_X9_lays_2 hI _ _ _ _ h1 (fun s1 x1_1 e => ?_)
  subst e
  dsimp only at h
  refine v_aload_n 0 dX9_lays_26 rfl rfl ?_
  obtain ⟨r2, s2, h2, h⟩ := fm_bds h
  refine v_cVv [] [] l_X9_84 (c_X9_starts hI h2) yM_0 (by decide) rfl rfl ⟨rfl, rfl, by decide, by decide⟩ (Nat.le_of_ble_eq_true rfl) dX9_lays_27 ?_
  refine v_aload_n 0 dX9_lays_30 rfl rfl ?_
  refine v_iconst (0 : Int32) dX9_lays_31 (by decide) ?_
  refine v_put p_X9_87 yM_0 (by decide) rfl ⟨rfl, rfl⟩ dX9_lays_32 ?_
  refine v_aload_n 0 dX9_lays_35 rfl rfl ?_
  refine v_iconst (0 : Int32) dX9_lays_36 (by decide) ?_
  refine v_put p_X9_90 yM_0 (by decide) rfl ⟨rfl, rfl⟩ dX9_lays_37 ?_
  refine v_aload_n 0 dX9_lays_40 rfl rfl ?_
  refine v_iconst (0 : Int32) dX9_lays_41 (by decide) ?_
  refine v_put p_X9_93 yM_0 (by decide) rfl ⟨rfl, rfl⟩ dX9_lays_42 ?_
  exact v_vret rfl (ho _ _ (Option.some.inj h).symm) dX9_lays_45
theorem c_X9_lays {w : fm_W} {l : Launch} (hI : fm_I w 11) {s : fm_M} {r : Int32} {s2 : fm_M} (h : f_X9_lays s = some (r, s2)) : fm_C w layM 11 l yX9_lays cX9_lays 2 none rm_X9_lays [.ref (fm_ad w 0)] s (none, s2) :=
  fm_of hI (by decide) rfl (Nat.le_of_ble_eq_true rfl) (e_X9_lays hI s _ h (fun r s e => by cases e; rfl))
-- X9_lay
abbrev rm_X9_lay : Room := { frames := 6, cells := 0, slots := 0, locals := 133 }
def f_X9_lay_18 (s : fm_M) : Option (Int32 × fm_M) :=
  some ((-2 : Int32), s)
set_option maxHeartbeats 4000000 in
theorem t_X9_lay_18 {w : fm_W} {l : Launch} {o : fm_O} (hI : fm_I w 11) (s : fm_M) (z : Int32 × fm_M) (h : f_X9_lay_18 s = some z) (ho : ∀ (r : Int32) (s : fm_M), z = (r, s) → o = (some (.int r), s)) : fm_V w layM 11 l rm_X9_lay cX9_lay 1 RX9 (some .int) o 18 [none] [] s := by
  unfold f_X9_lay_18 at h
  refine v_bipush (-2 : Int32) dX9_lay_18 (by decide) ?_
  exact v_iret rfl (ho _ _ (Option.some.inj h).symm) dX9_lay_20
def f_X9_lay (s : fm_M) : Option (Int32 × fm_M) :=
  fm_bd (f_X9_readsAll s) (fun r1 s1 => if r1 = (-4 : Int32) then if fm_in (0 : Int32) 17 = true then if (s1 3 (0 : Int32).toNatClampNeg) = 0 then f_X9_lay_18 s1 else fm_bd (f_X9_lays s1) (fun r2 s2 => if fm_in (0 : Int32) 17 = true then some ((s2 2 (0 : Int32).toNatClampNeg), s2) else none) else none else f_X9_lay_18 s1)
set_option maxHeartbeats 4000000 in
theorem e_X9_lay {w : fm_W} {l : Launch} {o : fm_O} (hI : fm_I w 11) (s : fm_M) (z : Int32 × fm_M) (h : f_X9_lay s = some z) (ho : ∀ (r : Int32) (s : fm_M), z = (r, s) → o = (some (.int r), s)) : fm_V w layM 11 l rm_X9_lay cX9_lay 1 RX9 (some .int) o 0 [some (.ref (fm_ad w 0))] [] s := by
  unfold f_X9_lay at h
  refine v_aload_n 0 dX9_lay_0 rfl rfl ?_
  obtain ⟨r1, s1, h1, h⟩ := fm_bds h
  refine v_cVi [] [] l_X9_80 (c_X9_readsAll hI h1) yM_0 (by decide) rfl rfl ⟨rfl, rfl, by decide, by decide⟩ (Nat.le_of_ble_eq_true rfl) dX9_lay_1 ?_
  refine v_bipush (-4 : Int32) dX9_lay_4 (by decide) ?_
  refine v_icmp_ne 18 dX9_lay_6 (by decide) h (fun h => ?_) (fun h => ?_)
  · refine v_lw [none] rfl trivial ?_
    exact t_X9_lay_18 hI s1 _ h ho
  · refine v_aload_n 0 dX9_lay_9 rfl rfl ?_
    refine v_getr 3 g_X9_16 yM_0 (by decide) rfl dX9_lay_10 ?_
    refine v_iconst (0 : Int32) dX9_lay_13 (by decide) ?_
    obtain ⟨hi, h⟩ := fm_ift h
    refine v_iald (Or.inl ⟨(by decide), yM_3⟩) hi dX9_lay_14 ?_
    refine v_if_ne 21 dX9_lay_15 (by decide) h (fun h => ?_) (fun h => ?_)
    · refine v_aload_n 0 dX9_lay_21 rfl rfl ?_
      obtain ⟨r2, s2, h2, h⟩ := fm_bds h
      refine v_cVv [] [] l_X9_47 (c_X9_lays hI h2) yM_0 (by decide) rfl rfl ⟨rfl, rfl, by decide, by decide⟩ (Nat.le_of_ble_eq_true rfl) dX9_lay_22 ?_
      refine v_aload_n 0 dX9_lay_25 rfl rfl ?_
      refine v_getr 2 g_X9_13 yM_0 (by decide) rfl dX9_lay_26 ?_
      refine v_iconst (0 : Int32) dX9_lay_29 (by decide) ?_
      obtain ⟨hi, h⟩ := fm_ift h
      refine v_iald (Or.inl ⟨(by decide), yM_2⟩) hi dX9_lay_30 ?_
      exact v_iret rfl (ho _ _ (Option.some.inj h).symm) dX9_lay_31
    · refine v_lw [none] rfl trivial ?_
      exact t_X9_lay_18 hI s1 _ h ho
theorem c_X9_lay {w : fm_W} {l : Launch} (hI : fm_I w 11) {s : fm_M} {r : Int32} {s2 : fm_M} (h : f_X9_lay s = some (r, s2)) : fm_C w layM 11 l yX9_lay cX9_lay 1 (some .int) rm_X9_lay [.ref (fm_ad w 0)] s (some (.int r), s2) :=
  fm_of hI (by decide) rfl (Nat.le_of_ble_eq_true rfl) (e_X9_lay hI s _ h (fun r s e => by cases e; rfl))
-- X9_layOut
abbrev rm_X9_layOut : Room := { frames := 2, cells := 0, slots := 0, locals := 43 }
def f_X9_layOut_29 (s : fm_M) : Option (Int32 × fm_M) :=
  some ((-2 : Int32), s)
set_option maxHeartbeats 4000000 in
theorem t_X9_layOut_29 {w : fm_W} {l : Launch} {o : fm_O} (hI : fm_I w 11) (s : fm_M) (z : Int32 × fm_M) (h : f_X9_layOut_29 s = some z) (ho : ∀ (r : Int32) (s : fm_M), z = (r, s) → o = (some (.int r), s)) : fm_V w layM 11 l rm_X9_layOut cX9_layOut 2 RX9 (some .int) o 29 [none, none] [] s := by
  unfold f_X9_layOut_29 at h
  refine v_bipush (-2 : Int32) dX9_layOut_29 (by decide) ?_
  exact v_iret rfl (ho _ _ (Option.some.inj h).symm) dX9_layOut_31
def f_X9_layOut (v1 : Int32) (s : fm_M) : Option (Int32 × fm_M) :=
  fm_bd (f_X9_isWoman v1 s) (fun r1 s1 => if r1 = 0 then some ((-1 : Int32), s1) else if fm_in ((18 : Int32) + v1) 29 = true then if (s1 4 ((18 : Int32) + v1).toNatClampNeg) = 0 then fm_bd (f_X9_isLaid s1) (fun r2 s2 => if r2 = 0 then fm_bd (f_X9_keeps s2) (fun r3 s3 => fm_bd (f_X9_begin v1 (2 : Int32) (3 : Int32) (0 : Int32) s3) (fun r4 s4 => some ((3 : Int32), s4))) else f_X9_layOut_29 s2) else f_X9_layOut_29 s1 else none)
set_option maxHeartbeats 4000000 in
theorem e_X9_layOut {w : fm_W} {l : Launch} {o : fm_O} (hI : fm_I w 11) (v1 : Int32) (s : fm_M) (z : Int32 × fm_M) (h : f_X9_layOut v1 s = some z) (ho : ∀ (r : Int32) (s : fm_M), z = (r, s) → o = (some (.int r), s)) : fm_V w layM 11 l rm_X9_layOut cX9_layOut 2 RX9 (some .int) o 0 [some (.ref (fm_ad w 0)), some (.int v1)] [] s := by
  unfold f_X9_layOut at h
  refine v_aload_n 0 dX9_layOut_0 rfl rfl ?_
  refine v_iload_n 1 dX9_layOut_1 rfl rfl ?_
  obtain ⟨r1, s1, h1, h⟩ := fm_bds h
  refine v_cVi [.int v1] [] l_X9_108 (c_X9_isWoman hI h1) yM_0 (by decide) rfl rfl ⟨rfl, rfl, by decide, by decide⟩ (Nat.le_of_ble_eq_true rfl) dX9_layOut_2 ?_
  refine v_if_ne 10 dX9_layOut_5 (by decide) h (fun h => ?_) (fun h => ?_)
  · refine v_aload_n 0 dX9_layOut_10 rfl rfl ?_
    refine v_getr 4 g_X9_19 yM_0 (by decide) rfl dX9_layOut_11 ?_
    refine v_bipush (18 : Int32) dX9_layOut_14 (by decide) ?_
    refine v_iload_n 1 dX9_layOut_16 rfl rfl ?_
    refine v_iadd dX9_layOut_17 ?_
    obtain ⟨hi, h⟩ := fm_ift h
    refine v_iald (Or.inl ⟨(by decide), yM_4⟩) hi dX9_layOut_18 ?_
    refine v_if_ne 29 dX9_layOut_19 (by decide) h (fun h => ?_) (fun h => ?_)
    · refine v_lw [none, none] rfl trivial ?_
      exact t_X9_layOut_29 hI s1 _ h ho
    · refine v_aload_n 0 dX9_layOut_22 rfl rfl ?_
      obtain ⟨r2, s2, h2, h⟩ := fm_bds h
      refine v_cVi [] [] l_X9_121 (c_X9_isLaid hI h2) yM_0 (by decide) rfl rfl ⟨rfl, rfl, by decide, by decide⟩ (Nat.le_of_ble_eq_true rfl) dX9_layOut_23 ?_
      refine v_if_eq 32 dX9_layOut_26 (by decide) h (fun h => ?_) (fun h => ?_)
      · refine v_aload_n 0 dX9_layOut_32 rfl rfl ?_
        obtain ⟨r3, s3, h3, h⟩ := fm_bds h
        refine v_cVv [] [] l_X9_115 (c_X9_keeps hI h3) yM_0 (by decide) rfl rfl ⟨rfl, rfl, by decide, by decide⟩ (Nat.le_of_ble_eq_true rfl) dX9_layOut_33 ?_
        refine v_aload_n 0 dX9_layOut_36 rfl rfl ?_
        refine v_iload_n 1 dX9_layOut_37 rfl rfl ?_
        refine v_iconst (2 : Int32) dX9_layOut_38 (by decide) ?_
        refine v_iconst (3 : Int32) dX9_layOut_39 (by decide) ?_
        refine v_iconst (0 : Int32) dX9_layOut_40 (by decide) ?_
        obtain ⟨r4, s4, h4, h⟩ := fm_bds h
        refine v_cVv [.int v1, .int (2 : Int32), .int (3 : Int32), .int (0 : Int32)] [] l_X9_111 (c_X9_begin hI h4) yM_0 (by decide) rfl rfl ⟨rfl, rfl, by decide, by decide⟩ (Nat.le_of_ble_eq_true rfl) dX9_layOut_41 ?_
        refine v_iconst (3 : Int32) dX9_layOut_44 (by decide) ?_
        exact v_iret rfl (ho _ _ (Option.some.inj h).symm) dX9_layOut_45
      · refine v_lw [none, none] rfl trivial ?_
        exact t_X9_layOut_29 hI s2 _ h ho
  · refine v_iconst (-1 : Int32) dX9_layOut_8 (by decide) ?_
    exact v_iret rfl (ho _ _ (Option.some.inj h).symm) dX9_layOut_9
theorem c_X9_layOut {w : fm_W} {l : Launch} (hI : fm_I w 11) {v1 : Int32} {s : fm_M} {r : Int32} {s2 : fm_M} (h : f_X9_layOut v1 s = some (r, s2)) : fm_C w layM 11 l yX9_layOut cX9_layOut 2 (some .int) rm_X9_layOut [.ref (fm_ad w 0), .int v1] s (some (.int r), s2) :=
  fm_of hI (by decide) rfl (Nat.le_of_ble_eq_true rfl) (e_X9_layOut hI v1 s _ h (fun r s e => by cases e; rfl))
-- X9_lowestFree
abbrev rm_X9_lowestFree : Room := { frames := 0, cells := 0, slots := 0, locals := 0 }
def f_X9_lowestFree_33 (v2 : Int32) (sk0 : Int32) (s : fm_M) : Option ((fm_M × Int32 × Int32) ⊕ (fm_M × Int32 × Int32)) :=
  some (.inl (s, sk0, (v2 + (-1 : Int32))))
set_option maxHeartbeats 4000000 in
theorem t_X9_lowestFree_33 {w : fm_W} {l : Launch} {o : fm_O} (hI : fm_I w 11) (v2 : Int32) (sk0 : Int32) (s : fm_M) (z : (fm_M × Int32 × Int32) ⊕ (fm_M × Int32 × Int32)) (h : f_X9_lowestFree_33 v2 sk0 s = some z) (kb : ∀ (s : fm_M) (u1 : Int32) (u2 : Int32), z = .inl (s, u1, u2) → fm_V w layM 11 l rm_X9_lowestFree cX9_lowestFree 3 RX9 (some .int) o 12 [some (.ref (fm_ad w 0)), some (.int u1), some (.int u2)] [] s) (ke : ∀ (s : fm_M) (u1 : Int32) (u2 : Int32), z = .inr (s, u1, u2) → fm_V w layM 11 l rm_X9_lowestFree cX9_lowestFree 3 RX9 (some .int) o 40 [some (.ref (fm_ad w 0)), some (.int u1), some (.int u2)] [] s) : fm_V w layM 11 l rm_X9_lowestFree cX9_lowestFree 3 RX9 (some .int) o 33 [some (.ref (fm_ad w 0)), none, some (.int v2)] [.int sk0] s := by
  unfold f_X9_lowestFree_33 at h
  refine v_istore_n (lv' := [some (.ref (fm_ad w 0)), some (.int sk0), some (.int v2)]) 1 dX9_lowestFree_33 rfl (by decide) rfl rfl ?_
  refine v_iinc (lv' := [some (.ref (fm_ad w 0)), some (.int sk0), some (.int (v2 + (-1 : Int32)))]) (-1 : Int32) dX9_lowestFree_34 rfl (by decide) (by decide) rfl rfl ?_
  refine v_goto 12 dX9_lowestFree_37 (by decide) ?_
  refine v_lw [some (.ref (fm_ad w 0)), some (.int sk0), some (.int (v2 + (-1 : Int32)))] rfl ⟨rfl, rfl, rfl, trivial⟩ ?_
  exact kb _ _ _ (Option.some.inj h).symm
def f_X9_lowestFree_12 (s : fm_M) (v1 : Int32) (v2 : Int32) : Option ((fm_M × Int32 × Int32) ⊕ (fm_M × Int32 × Int32)) :=
  if v2 < 0 then some (.inr (s, v1, v2)) else if fm_in ((18 : Int32) + v2) 29 = true then if (s 4 ((18 : Int32) + v2).toNatClampNeg) = 0 then f_X9_lowestFree_33 v2 v2 s else f_X9_lowestFree_33 v2 v1 s else none
set_option maxHeartbeats 4000000 in
theorem t_X9_lowestFree_12 {w : fm_W} {l : Launch} {o : fm_O} (hI : fm_I w 11) (s : fm_M) (v1 : Int32) (v2 : Int32) (z : (fm_M × Int32 × Int32) ⊕ (fm_M × Int32 × Int32)) (h : f_X9_lowestFree_12 s v1 v2 = some z) (kb : ∀ (s : fm_M) (u1 : Int32) (u2 : Int32), z = .inl (s, u1, u2) → fm_V w layM 11 l rm_X9_lowestFree cX9_lowestFree 3 RX9 (some .int) o 12 [some (.ref (fm_ad w 0)), some (.int u1), some (.int u2)] [] s) (ke : ∀ (s : fm_M) (u1 : Int32) (u2 : Int32), z = .inr (s, u1, u2) → fm_V w layM 11 l rm_X9_lowestFree cX9_lowestFree 3 RX9 (some .int) o 40 [some (.ref (fm_ad w 0)), some (.int u1), some (.int u2)] [] s) : fm_V w layM 11 l rm_X9_lowestFree cX9_lowestFree 3 RX9 (some .int) o 12 [some (.ref (fm_ad w 0)), some (.int v1), some (.int v2)] [] s := by
  unfold f_X9_lowestFree_12 at h
  refine v_iload_n 2 dX9_lowestFree_12 rfl rfl ?_
  refine v_if_lt 40 dX9_lowestFree_13 (by decide) h (fun h => ?_) (fun h => ?_)
  · refine v_lw [some (.ref (fm_ad w 0)), some (.int v1), some (.int v2)] rfl ⟨rfl, rfl, rfl, trivial⟩ ?_
    exact ke _ _ _ (Option.some.inj h).symm
  · refine v_aload_n 0 dX9_lowestFree_16 rfl rfl ?_
    refine v_getr 4 g_X9_19 yM_0 (by decide) rfl dX9_lowestFree_17 ?_
    refine v_bipush (18 : Int32) dX9_lowestFree_20 (by decide) ?_
    refine v_iload_n 2 dX9_lowestFree_22 rfl rfl ?_
    refine v_iadd dX9_lowestFree_23 ?_
    obtain ⟨hi, h⟩ := fm_ift h
    refine v_iald (Or.inl ⟨(by decide), yM_4⟩) hi dX9_lowestFree_24 ?_
    refine v_if_ne 32 dX9_lowestFree_25 (by decide) h (fun h => ?_) (fun h => ?_)
    · refine v_iload_n 1 dX9_lowestFree_32 rfl rfl ?_
      refine v_lw [some (.ref (fm_ad w 0)), none, some (.int v2)] rfl ⟨rfl, rfl, trivial⟩ ?_
      exact t_X9_lowestFree_33 hI v2 v1 s _ h kb ke
    · refine v_iload_n 2 dX9_lowestFree_28 rfl rfl ?_
      refine v_goto 33 dX9_lowestFree_29 (by decide) ?_
      refine v_lw [some (.ref (fm_ad w 0)), none, some (.int v2)] rfl ⟨rfl, rfl, trivial⟩ ?_
      exact t_X9_lowestFree_33 hI v2 v2 s _ h kb ke
set_option maxHeartbeats 4000000 in
theorem i_X9_lowestFree_12 {w : fm_W} {l : Launch} {o : fm_O} (hI : fm_I w 11) (n : Nat) (s : fm_M) (v1 : Int32) (v2 : Int32) (q : fm_M × Int32 × Int32) (h : fm_it (fun s => f_X9_lowestFree_12 s.1 s.2.1 s.2.2) n (s, v1, v2) = some q) (ke : ∀ (s : fm_M) (u1 : Int32) (u2 : Int32), q = (s, u1, u2) → fm_V w layM 11 l rm_X9_lowestFree cX9_lowestFree 3 RX9 (some .int) o 40 [some (.ref (fm_ad w 0)), some (.int u1), some (.int u2)] [] s) : fm_V w layM 11 l rm_X9_lowestFree cX9_lowestFree 3 RX9 (some .int) o 12 [some (.ref (fm_ad w 0)), some (.int v1), some (.int v2)] [] s :=
  fm_it_loop (body := (fun s => f_X9_lowestFree_12 s.1 s.2.1 s.2.2)) (P := fun s => fm_V w layM 11 l rm_X9_lowestFree cX9_lowestFree 3 RX9 (some .int) o 12 [some (.ref (fm_ad w 0)), some (.int s.2.1), some (.int s.2.2)] [] s.1) (K := (fun q : fm_M × Int32 × Int32 => (∀ (s : fm_M) (u1 : Int32) (u2 : Int32), q = (s, u1, u2) → fm_V w layM 11 l rm_X9_lowestFree cX9_lowestFree 3 RX9 (some .int) o 40 [some (.ref (fm_ad w 0)), some (.int u1), some (.int u2)] [] s))) (fun s z hb kl kx => t_X9_lowestFree_12 hI s.1 s.2.1 s.2.2 z hb (fun s u1 u2 e => kl _ e) (fun s u1 u2 e => (kx _ e) s u1 u2 rfl)) n (s, v1, v2) q h ke
def f_X9_lowestFree (s : fm_M) : Option (Int32 × fm_M) :=
  if fm_in (1 : Int32) 17 = true then fm_op (fm_it (fun (yy : fm_M × Int32 × Int32) => f_X9_lowestFree_12 yy.1 yy.2.1 yy.2.2) fm_fu (s, (-4 : Int32), ((s 2 (1 : Int32).toNatClampNeg) - (1 : Int32)))) (fun q1 => ((fun (s1 : fm_M) (x1_1 : Int32) (x1_2 : Int32) => some (x1_1, s1))) q1.1 q1.2.1 q1.2.2) else none
set_option maxHeartbeats 4000000 in
theorem e_X9_lowestFree {w : fm_W} {l : Launch} {o : fm_O} (hI : fm_I w 11) (s : fm_M) (z : Int32 × fm_M) (h : f_X9_lowestFree s = some z) (ho : ∀ (r : Int32) (s : fm_M), z = (r, s) → o = (some (.int r), s)) : fm_V w layM 11 l rm_X9_lowestFree cX9_lowestFree 3 RX9 (some .int) o 0 [some (.ref (fm_ad w 0)), none, none] [] s := by
  unfold f_X9_lowestFree at h
  refine v_bipush (-4 : Int32) dX9_lowestFree_0 (by decide) ?_
  refine v_istore_n (lv' := [some (.ref (fm_ad w 0)), some (.int (-4 : Int32)), none]) 1 dX9_lowestFree_2 rfl (by decide) rfl rfl ?_
  refine v_aload_n 0 dX9_lowestFree_3 rfl rfl ?_
  refine v_getr 2 g_X9_13 yM_0 (by decide) rfl dX9_lowestFree_4 ?_
  refine v_iconst (1 : Int32) dX9_lowestFree_7 (by decide) ?_
  obtain ⟨hi, h⟩ := fm_ift h
  refine v_iald (Or.inl ⟨(by decide), yM_2⟩) hi dX9_lowestFree_8 ?_
  refine v_iconst (1 : Int32) dX9_lowestFree_9 (by decide) ?_
  refine v_isub dX9_lowestFree_10 ?_
  refine v_istore_n (lv' := [some (.ref (fm_ad w 0)), some (.int (-4 : Int32)), some (.int ((s 2 (1 : Int32).toNatClampNeg) - (1 : Int32)))]) 2 dX9_lowestFree_11 rfl (by decide) rfl rfl ?_
  obtain ⟨q1, h1, h⟩ := fm_ops h
  refine v_lw [some (.ref (fm_ad w 0)), some (.int (-4 : Int32)), some (.int ((s 2 (1 : Int32).toNatClampNeg) - (1 : Int32)))] rfl ⟨rfl, rfl, rfl, trivial⟩ ?_
  refine i_X9_lowestFree_12 hI _ _ _ _ _ h1 (fun s1 x1_1 x1_2 e => ?_)
  subst e
  dsimp only at h
  refine v_iload_n 1 dX9_lowestFree_40 rfl rfl ?_
  exact v_iret rfl (ho _ _ (Option.some.inj h).symm) dX9_lowestFree_41
theorem c_X9_lowestFree {w : fm_W} {l : Launch} (hI : fm_I w 11) {s : fm_M} {r : Int32} {s2 : fm_M} (h : f_X9_lowestFree s = some (r, s2)) : fm_C w layM 11 l yX9_lowestFree cX9_lowestFree 3 (some .int) rm_X9_lowestFree [.ref (fm_ad w 0)] s (some (.int r), s2) :=
  fm_of hI (by decide) rfl (Nat.le_of_ble_eq_true rfl) (e_X9_lowestFree hI s _ h (fun r s e => by cases e; rfl))
-- X9_turn
abbrev rm_X9_turn : Room := { frames := 3, cells := 0, slots := 0, locals := 71 }
def f_X9_turn_79 (s : fm_M) : Option (Int32 × fm_M) :=
  fm_bd (f_X9_passes s) (fun r1 s1 => some (r1, s1))
set_option maxHeartbeats 4000000 in
theorem t_X9_turn_79 {w : fm_W} {l : Launch} {o : fm_O} (hI : fm_I w 11) (s : fm_M) (z : Int32 × fm_M) (h : f_X9_turn_79 s = some z) (ho : ∀ (r : Int32) (s : fm_M), z = (r, s) → o = (some (.int r), s)) : fm_V w layM 11 l rm_X9_turn cX9_turn 3 RX9 (some .int) o 79 [some (.ref (fm_ad w 0)), none, none] [] s := by
  unfold f_X9_turn_79 at h
  refine v_aload_n 0 dX9_turn_79 rfl rfl ?_
  obtain ⟨r1, s1, h1, h⟩ := fm_bds h
  refine v_cVi [] [] l_X9_137 (c_X9_passes hI h1) yM_0 (by decide) rfl rfl ⟨rfl, rfl, by decide, by decide⟩ (Nat.le_of_ble_eq_true rfl) dX9_turn_80 ?_
  exact v_iret rfl (ho _ _ (Option.some.inj h).symm) dX9_turn_83
def f_X9_turn_36 (v1 : Int32) (s : fm_M) : Option (Int32 × fm_M) :=
  if ((v1 / (8 : Int32)) - (v1 / (8 : Int32)) / (3 : Int32) * (3 : Int32)) = 0 then fm_bd (f_X9_highestFree s) (fun r2 s2 => if r2 = (-4 : Int32) then f_X9_turn_79 s2 else fm_bd (f_X9_notOut s2) (fun r3 s3 => if r3 ≤ (1 : Int32) then f_X9_turn_79 s3 else fm_bd (f_X9_children (2 : Int32) s3) (fun r4 s4 => if r4 ≤ 0 then f_X9_turn_79 s4 else fm_bd (f_X9_highestFree s4) (fun r5 s5 => fm_bd (f_X9_opens r5 s5) (fun r6 s6 => f_X9_turn_79 s6))))) else f_X9_turn_79 s
set_option maxHeartbeats 4000000 in
theorem t_X9_turn_36 {w : fm_W} {l : Launch} {o : fm_O} (hI : fm_I w 11) (v1 : Int32) (s : fm_M) (z : Int32 × fm_M) (h : f_X9_turn_36 v1 s = some z) (ho : ∀ (r : Int32) (s : fm_M), z = (r, s) → o = (some (.int r), s)) : fm_V w layM 11 l rm_X9_turn cX9_turn 3 RX9 (some .int) o 36 [some (.ref (fm_ad w 0)), some (.int v1), none] [] s := by
  unfold f_X9_turn_36 at h
  refine v_iload_n 1 dX9_turn_36 rfl rfl ?_
  refine v_bipush (8 : Int32) dX9_turn_37 (by decide) ?_
  refine v_idiv dX9_turn_39 (by decide) ?_
  refine v_iconst (3 : Int32) dX9_turn_40 (by decide) ?_
  refine v_irem dX9_turn_41 (by decide) ?_
  refine v_if_ne 79 dX9_turn_42 (by decide) h (fun h => ?_) (fun h => ?_)
  · refine v_lw [some (.ref (fm_ad w 0)), none, none] rfl ⟨rfl, trivial⟩ ?_
    exact t_X9_turn_79 hI s _ h ho
  · refine v_aload_n 0 dX9_turn_45 rfl rfl ?_
    obtain ⟨r2, s2, h2, h⟩ := fm_bds h
    refine v_cVi [] [] l_X9_140 (c_X9_highestFree hI h2) yM_0 (by decide) rfl rfl ⟨rfl, rfl, by decide, by decide⟩ (Nat.le_of_ble_eq_true rfl) dX9_turn_46 ?_
    refine v_bipush (-4 : Int32) dX9_turn_49 (by decide) ?_
    refine v_icmp_eq 79 dX9_turn_51 (by decide) h (fun h => ?_) (fun h => ?_)
    · refine v_lw [some (.ref (fm_ad w 0)), none, none] rfl ⟨rfl, trivial⟩ ?_
      exact t_X9_turn_79 hI s2 _ h ho
    · refine v_aload_n 0 dX9_turn_54 rfl rfl ?_
      obtain ⟨r3, s3, h3, h⟩ := fm_bds h
      refine v_cVi [] [] l_X9_128 (c_X9_notOut hI h3) yM_0 (by decide) rfl rfl ⟨rfl, rfl, by decide, by decide⟩ (Nat.le_of_ble_eq_true rfl) dX9_turn_55 ?_
      refine v_iconst (1 : Int32) dX9_turn_58 (by decide) ?_
      refine v_icmp_le 79 dX9_turn_59 (by decide) h (fun h => ?_) (fun h => ?_)
      · refine v_lw [some (.ref (fm_ad w 0)), none, none] rfl ⟨rfl, trivial⟩ ?_
        exact t_X9_turn_79 hI s3 _ h ho
      · refine v_aload_n 0 dX9_turn_62 rfl rfl ?_
        refine v_iconst (2 : Int32) dX9_turn_63 (by decide) ?_
        obtain ⟨r4, s4, h4, h⟩ := fm_bds h
        refine v_cVi [.int (2 : Int32)] [] l_X9_131 (c_X9_children hI h4) yM_0 (by decide) rfl rfl ⟨rfl, rfl, by decide, by decide⟩ (Nat.le_of_ble_eq_true rfl) dX9_turn_64 ?_
        refine v_if_le 79 dX9_turn_67 (by decide) h (fun h => ?_) (fun h => ?_)
        · refine v_lw [some (.ref (fm_ad w 0)), none, none] rfl ⟨rfl, trivial⟩ ?_
          exact t_X9_turn_79 hI s4 _ h ho
        · refine v_aload_n 0 dX9_turn_70 rfl rfl ?_
          refine v_aload_n 0 dX9_turn_71 rfl rfl ?_
          obtain ⟨r5, s5, h5, h⟩ := fm_bds h
          refine v_cVi [] [.ref (fm_ad w 0)] l_X9_140 (c_X9_highestFree hI h5) yM_0 (by decide) rfl rfl ⟨rfl, rfl, by decide, by decide⟩ (Nat.le_of_ble_eq_true rfl) dX9_turn_72 ?_
          obtain ⟨r6, s6, h6, h⟩ := fm_bds h
          refine v_cVi [.int r5] [] l_X9_134 (c_X9_opens hI h6) yM_0 (by decide) rfl rfl ⟨rfl, rfl, by decide, by decide⟩ (Nat.le_of_ble_eq_true rfl) dX9_turn_75 ?_
          refine v_pop dX9_turn_78 rfl ?_
          refine v_lw [some (.ref (fm_ad w 0)), none, none] rfl ⟨rfl, trivial⟩ ?_
          exact t_X9_turn_79 hI s6 _ h ho
def f_X9_turn (v1 : Int32) (s : fm_M) : Option (Int32 × fm_M) :=
  if fm_in (0 : Int32) 17 = true then if (s 2 (0 : Int32).toNatClampNeg) = 0 then none else if fm_in (v1 - v1 / (s 2 (0 : Int32).toNatClampNeg) * (s 2 (0 : Int32).toNatClampNeg)) 29 = true then if (s 4 (v1 - v1 / (s 2 (0 : Int32).toNatClampNeg) * (s 2 (0 : Int32).toNatClampNeg)).toNatClampNeg) = 0 then fm_bd (f_X9_lowestFree s) (fun r7 s7 => if r7 = (-4 : Int32) then f_X9_turn_36 v1 s7 else fm_bd (f_X9_lowestFree s7) (fun r8 s8 => fm_bd (f_X9_dresses r8 (v1 - v1 / (s 2 (0 : Int32).toNatClampNeg) * (s 2 (0 : Int32).toNatClampNeg)) s8) (fun r9 s9 => f_X9_turn_36 v1 s9))) else f_X9_turn_36 v1 s else none else none
set_option maxHeartbeats 4000000 in
theorem e_X9_turn {w : fm_W} {l : Launch} {o : fm_O} (hI : fm_I w 11) (v1 : Int32) (s : fm_M) (z : Int32 × fm_M) (h : f_X9_turn v1 s = some z) (ho : ∀ (r : Int32) (s : fm_M), z = (r, s) → o = (some (.int r), s)) : fm_V w layM 11 l rm_X9_turn cX9_turn 3 RX9 (some .int) o 0 [some (.ref (fm_ad w 0)), some (.int v1), none] [] s := by
  unfold f_X9_turn at h
  refine v_iload_n 1 dX9_turn_0 rfl rfl ?_
  refine v_aload_n 0 dX9_turn_1 rfl rfl ?_
  refine v_getr 2 g_X9_13 yM_0 (by decide) rfl dX9_turn_2 ?_
  refine v_iconst (0 : Int32) dX9_turn_5 (by decide) ?_
  obtain ⟨hi, h⟩ := fm_ift h
  refine v_iald (Or.inl ⟨(by decide), yM_2⟩) hi dX9_turn_6 ?_
  obtain ⟨hz, h⟩ := fm_ifz h
  refine v_irem dX9_turn_7 hz ?_
  refine v_istore_n (lv' := [some (.ref (fm_ad w 0)), some (.int v1), some (.int (v1 - v1 / (s 2 (0 : Int32).toNatClampNeg) * (s 2 (0 : Int32).toNatClampNeg)))]) 2 dX9_turn_8 rfl (by decide) rfl rfl ?_
  refine v_aload_n 0 dX9_turn_9 rfl rfl ?_
  refine v_getr 4 g_X9_19 yM_0 (by decide) rfl dX9_turn_10 ?_
  refine v_iload_n 2 dX9_turn_13 rfl rfl ?_
  obtain ⟨hi, h⟩ := fm_ift h
  refine v_iald (Or.inl ⟨(by decide), yM_4⟩) hi dX9_turn_14 ?_
  refine v_if_ne 36 dX9_turn_15 (by decide) h (fun h => ?_) (fun h => ?_)
  · refine v_lw [some (.ref (fm_ad w 0)), some (.int v1), none] rfl ⟨rfl, rfl, trivial⟩ ?_
    exact t_X9_turn_36 hI v1 s _ h ho
  · refine v_aload_n 0 dX9_turn_18 rfl rfl ?_
    obtain ⟨r7, s7, h7, h⟩ := fm_bds h
    refine v_cVi [] [] l_X9_167 (c_X9_lowestFree hI h7) yM_0 (by decide) rfl rfl ⟨rfl, rfl, by decide, by decide⟩ (Nat.le_of_ble_eq_true rfl) dX9_turn_19 ?_
    refine v_bipush (-4 : Int32) dX9_turn_22 (by decide) ?_
    refine v_icmp_eq 36 dX9_turn_24 (by decide) h (fun h => ?_) (fun h => ?_)
    · refine v_lw [some (.ref (fm_ad w 0)), some (.int v1), none] rfl ⟨rfl, rfl, trivial⟩ ?_
      exact t_X9_turn_36 hI v1 s7 _ h ho
    · refine v_aload_n 0 dX9_turn_27 rfl rfl ?_
      refine v_aload_n 0 dX9_turn_28 rfl rfl ?_
      obtain ⟨r8, s8, h8, h⟩ := fm_bds h
      refine v_cVi [] [.ref (fm_ad w 0)] l_X9_167 (c_X9_lowestFree hI h8) yM_0 (by decide) rfl rfl ⟨rfl, rfl, by decide, by decide⟩ (Nat.le_of_ble_eq_true rfl) dX9_turn_29 ?_
      refine v_iload_n 2 dX9_turn_32 rfl rfl ?_
      obtain ⟨r9, s9, h9, h⟩ := fm_bds h
      refine v_cVv [.int r8, .int (v1 - v1 / (s 2 (0 : Int32).toNatClampNeg) * (s 2 (0 : Int32).toNatClampNeg))] [] l_X9_118 (c_X9_dresses hI h9) yM_0 (by decide) rfl rfl ⟨rfl, rfl, by decide, by decide⟩ (Nat.le_of_ble_eq_true rfl) dX9_turn_33 ?_
      refine v_lw [some (.ref (fm_ad w 0)), some (.int v1), none] rfl ⟨rfl, rfl, trivial⟩ ?_
      exact t_X9_turn_36 hI v1 s9 _ h ho
theorem c_X9_turn {w : fm_W} {l : Launch} (hI : fm_I w 11) {v1 : Int32} {s : fm_M} {r : Int32} {s2 : fm_M} (h : f_X9_turn v1 s = some (r, s2)) : fm_C w layM 11 l yX9_turn cX9_turn 3 (some .int) rm_X9_turn [.ref (fm_ad w 0), .int v1] s (some (.int r), s2) :=
  fm_of hI (by decide) rfl (Nat.le_of_ble_eq_true rfl) (e_X9_turn hI v1 s _ h (fun r s e => by cases e; rfl))
-- X9_morning
abbrev rm_X9_morning : Room := { frames := 4, cells := 0, slots := 0, locals := 93 }
def f_X9_morning_30 (s : fm_M) : Option (Int32 × fm_M) :=
  some ((-1 : Int32), s)
set_option maxHeartbeats 4000000 in
theorem t_X9_morning_30 {w : fm_W} {l : Launch} {o : fm_O} (hI : fm_I w 11) (s : fm_M) (z : Int32 × fm_M) (h : f_X9_morning_30 s = some z) (ho : ∀ (r : Int32) (s : fm_M), z = (r, s) → o = (some (.int r), s)) : fm_V w layM 11 l rm_X9_morning cX9_morning 8 RX9 (some .int) o 30 [none, none, none, none, none, none, none, none] [] s := by
  unfold f_X9_morning_30 at h
  refine v_iconst (-1 : Int32) dX9_morning_30 (by decide) ?_
  exact v_iret rfl (ho _ _ (Option.some.inj h).symm) dX9_morning_31
def f_X9_morning_42 (v1 : Int32) (v2 : Int32) (v3 : Int32) (s : fm_M) (v4 : Int32) (v5 : Int32) : Option ((fm_M × Int32 × Int32) ⊕ (fm_M × Int32 × Int32)) :=
  if v2 ≤ v5 then some (.inr (s, v4, v5)) else fm_bd (f_X9_turn (((((((7919 : Int64) * v1.toInt64) + ((6151 : Int64) * v5.toInt64)) + (1 : Int64)) * ((((7919 : Int64) * v1.toInt64) + ((6151 : Int64) * v5.toInt64)) + (1 : Int64))) - (((((7919 : Int64) * v1.toInt64) + ((6151 : Int64) * v5.toInt64)) + (1 : Int64)) * ((((7919 : Int64) * v1.toInt64) + ((6151 : Int64) * v5.toInt64)) + (1 : Int64))) / (65521 : Int64) * (65521 : Int64)).toInt32 / (2 : Int32)) s) (fun r5 s5 => some (.inl (s5, (v4 + r5), (v5 + (1 : Int32)))))
set_option maxHeartbeats 4000000 in
theorem t_X9_morning_42 {w : fm_W} {l : Launch} {o : fm_O} (hI : fm_I w 11) (v1 : Int32) (v2 : Int32) (v3 : Int32) (s : fm_M) (v4 : Int32) (v5 : Int32) (z : (fm_M × Int32 × Int32) ⊕ (fm_M × Int32 × Int32)) (h : f_X9_morning_42 v1 v2 v3 s v4 v5 = some z) (kb : ∀ (s : fm_M) (u4 : Int32) (u5 : Int32), z = .inl (s, u4, u5) → fm_V w layM 11 l rm_X9_morning cX9_morning 8 RX9 (some .int) o 42 [some (.ref (fm_ad w 0)), some (.int v1), some (.int v2), some (.int v3), some (.int u4), some (.int u5), none, none] [] s) (ke : ∀ (s : fm_M) (u4 : Int32) (u5 : Int32), z = .inr (s, u4, u5) → fm_V w layM 11 l rm_X9_morning cX9_morning 8 RX9 (some .int) o 93 [some (.ref (fm_ad w 0)), some (.int v1), some (.int v2), some (.int v3), some (.int u4), some (.int u5), none, none] [] s) : fm_V w layM 11 l rm_X9_morning cX9_morning 8 RX9 (some .int) o 42 [some (.ref (fm_ad w 0)), some (.int v1), some (.int v2), some (.int v3), some (.int v4), some (.int v5), none, none] [] s := by
  unfold f_X9_morning_42 at h
  refine v_iload dX9_morning_42 rfl ?_
  refine v_iload_n 2 dX9_morning_44 rfl rfl ?_
  refine v_icmp_ge 93 dX9_morning_45 (by decide) h (fun h => ?_) (fun h => ?_)
  · refine v_lw [some (.ref (fm_ad w 0)), some (.int v1), some (.int v2), some (.int v3), some (.int v4), some (.int v5), none, none] rfl ⟨rfl, rfl, rfl, rfl, rfl, rfl, trivial⟩ ?_
    exact ke _ _ _ (Option.some.inj h).symm
  · refine v_ldc2 k_X9_173 dX9_morning_48 ?_
    refine v_iload_n 1 dX9_morning_51 rfl rfl ?_
    refine v_i2l dX9_morning_52 ?_
    refine v_lmul dX9_morning_53 ?_
    refine v_ldc2 k_X9_175 dX9_morning_54 ?_
    refine v_iload dX9_morning_57 rfl ?_
    refine v_i2l dX9_morning_59 ?_
    refine v_lmul dX9_morning_60 ?_
    refine v_ladd dX9_morning_61 ?_
    refine v_lconst (1 : Int64) dX9_morning_62 (by decide) ?_
    refine v_ladd dX9_morning_63 ?_
    refine v_lstore (lv' := [some (.ref (fm_ad w 0)), some (.int v1), some (.int v2), some (.int v3), some (.int v4), some (.int v5), some (.long ((((7919 : Int64) * v1.toInt64) + ((6151 : Int64) * v5.toInt64)) + (1 : Int64))), none]) dX9_morning_64 (by decide) rfl rfl ?_
    refine v_iload dX9_morning_66 rfl ?_
    refine v_aload_n 0 dX9_morning_68 rfl rfl ?_
    refine v_lload dX9_morning_69 rfl ?_
    refine v_lload dX9_morning_71 rfl ?_
    refine v_lmul dX9_morning_73 ?_
    refine v_ldc2 k_X9_177 dX9_morning_74 ?_
    refine v_lrem dX9_morning_77 (by decide) ?_
    refine v_l2i dX9_morning_78 ?_
    refine v_iconst (2 : Int32) dX9_morning_79 (by decide) ?_
    refine v_idiv dX9_morning_80 (by decide) ?_
    obtain ⟨r5, s5, h5, h⟩ := fm_bds h
    refine v_cVi [.int (((((((7919 : Int64) * v1.toInt64) + ((6151 : Int64) * v5.toInt64)) + (1 : Int64)) * ((((7919 : Int64) * v1.toInt64) + ((6151 : Int64) * v5.toInt64)) + (1 : Int64))) - (((((7919 : Int64) * v1.toInt64) + ((6151 : Int64) * v5.toInt64)) + (1 : Int64)) * ((((7919 : Int64) * v1.toInt64) + ((6151 : Int64) * v5.toInt64)) + (1 : Int64))) / (65521 : Int64) * (65521 : Int64)).toInt32 / (2 : Int32))] [.int v4] l_X9_179 (c_X9_turn hI h5) yM_0 (by decide) rfl rfl ⟨rfl, rfl, by decide, by decide⟩ (Nat.le_of_ble_eq_true rfl) dX9_morning_81 ?_
    refine v_iadd dX9_morning_84 ?_
    refine v_istore (lv' := [some (.ref (fm_ad w 0)), some (.int v1), some (.int v2), some (.int v3), some (.int (v4 + r5)), some (.int v5), some (.long ((((7919 : Int64) * v1.toInt64) + ((6151 : Int64) * v5.toInt64)) + (1 : Int64))), none]) dX9_morning_85 (by decide) rfl rfl ?_
    refine v_iinc (lv' := [some (.ref (fm_ad w 0)), some (.int v1), some (.int v2), some (.int v3), some (.int (v4 + r5)), some (.int (v5 + (1 : Int32))), some (.long ((((7919 : Int64) * v1.toInt64) + ((6151 : Int64) * v5.toInt64)) + (1 : Int64))), none]) (1 : Int32) dX9_morning_87 rfl (by decide) (by decide) rfl rfl ?_
    refine v_goto 42 dX9_morning_90 (by decide) ?_
    refine v_lw [some (.ref (fm_ad w 0)), some (.int v1), some (.int v2), some (.int v3), some (.int (v4 + r5)), some (.int (v5 + (1 : Int32))), none, none] rfl ⟨rfl, rfl, rfl, rfl, rfl, rfl, trivial⟩ ?_
    exact kb _ _ _ (Option.some.inj h).symm
set_option maxHeartbeats 4000000 in
theorem i_X9_morning_42 {w : fm_W} {l : Launch} {o : fm_O} (hI : fm_I w 11) (v1 : Int32) (v2 : Int32) (v3 : Int32) (n : Nat) (s : fm_M) (v4 : Int32) (v5 : Int32) (q : fm_M × Int32 × Int32) (h : fm_it (fun s => f_X9_morning_42 v1 v2 v3 s.1 s.2.1 s.2.2) n (s, v4, v5) = some q) (ke : ∀ (s : fm_M) (u4 : Int32) (u5 : Int32), q = (s, u4, u5) → fm_V w layM 11 l rm_X9_morning cX9_morning 8 RX9 (some .int) o 93 [some (.ref (fm_ad w 0)), some (.int v1), some (.int v2), some (.int v3), some (.int u4), some (.int u5), none, none] [] s) : fm_V w layM 11 l rm_X9_morning cX9_morning 8 RX9 (some .int) o 42 [some (.ref (fm_ad w 0)), some (.int v1), some (.int v2), some (.int v3), some (.int v4), some (.int v5), none, none] [] s :=
  fm_it_loop (body := (fun s => f_X9_morning_42 v1 v2 v3 s.1 s.2.1 s.2.2)) (P := fun s => fm_V w layM 11 l rm_X9_morning cX9_morning 8 RX9 (some .int) o 42 [some (.ref (fm_ad w 0)), some (.int v1), some (.int v2), some (.int v3), some (.int s.2.1), some (.int s.2.2), none, none] [] s.1) (K := (fun q : fm_M × Int32 × Int32 => (∀ (s : fm_M) (u4 : Int32) (u5 : Int32), q = (s, u4, u5) → fm_V w layM 11 l rm_X9_morning cX9_morning 8 RX9 (some .int) o 93 [some (.ref (fm_ad w 0)), some (.int v1), some (.int v2), some (.int v3), some (.int u4), some (.int u5), none, none] [] s))) (fun s z hb kl kx => t_X9_morning_42 hI v1 v2 v3 s.1 s.2.1 s.2.2 z hb (fun s u4 u5 e => kl _ e) (fun s u4 u5 e => (kx _ e) s u4 u5 rfl)) n (s, v4, v5) q h ke
def f_X9_morning_131 (v3 : Int32) (v4 : Int32) (v6 : Int32) (sk0 : Int32) (sk1 : Int32) (s : fm_M) : Option ((fm_M × Int32 × Int32) ⊕ (fm_M × Int32 × Int32)) :=
  some (.inl (s, (sk1 ||| sk0), (v6 + (1 : Int32))))
set_option maxHeartbeats 4000000 in
theorem t_X9_morning_131 {w : fm_W} {l : Launch} {o : fm_O} (hI : fm_I w 11) (v3 : Int32) (v4 : Int32) (v6 : Int32) (sk0 : Int32) (sk1 : Int32) (s : fm_M) (z : (fm_M × Int32 × Int32) ⊕ (fm_M × Int32 × Int32)) (h : f_X9_morning_131 v3 v4 v6 sk0 sk1 s = some z) (kb : ∀ (s : fm_M) (u5 : Int32) (u6 : Int32), z = .inl (s, u5, u6) → fm_V w layM 11 l rm_X9_morning cX9_morning 8 RX9 (some .int) o 99 [some (.ref (fm_ad w 0)), none, none, some (.int v3), some (.int v4), some (.int u5), some (.int u6), none] [] s) (ke : ∀ (s : fm_M) (u5 : Int32) (u6 : Int32), z = .inr (s, u5, u6) → fm_V w layM 11 l rm_X9_morning cX9_morning 8 RX9 (some .int) o 140 [some (.ref (fm_ad w 0)), none, none, some (.int v3), some (.int v4), some (.int u5), some (.int u6), none] [] s) : fm_V w layM 11 l rm_X9_morning cX9_morning 8 RX9 (some .int) o 131 [some (.ref (fm_ad w 0)), none, none, some (.int v3), some (.int v4), none, some (.int v6), none] [.int sk0, .int sk1] s := by
  unfold f_X9_morning_131 at h
  refine v_ior dX9_morning_131 ?_
  refine v_istore (lv' := [some (.ref (fm_ad w 0)), none, none, some (.int v3), some (.int v4), some (.int (sk1 ||| sk0)), some (.int v6), none]) dX9_morning_132 (by decide) rfl rfl ?_
  refine v_iinc (lv' := [some (.ref (fm_ad w 0)), none, none, some (.int v3), some (.int v4), some (.int (sk1 ||| sk0)), some (.int (v6 + (1 : Int32))), none]) (1 : Int32) dX9_morning_134 rfl (by decide) (by decide) rfl rfl ?_
  refine v_goto 99 dX9_morning_137 (by decide) ?_
  refine v_lw [some (.ref (fm_ad w 0)), none, none, some (.int v3), some (.int v4), some (.int (sk1 ||| sk0)), some (.int (v6 + (1 : Int32))), none] rfl ⟨rfl, rfl, rfl, rfl, rfl, trivial⟩ ?_
  exact kb _ _ _ (Option.some.inj h).symm
def f_X9_morning_99 (v3 : Int32) (v4 : Int32) (s : fm_M) (v5 : Int32) (v6 : Int32) : Option ((fm_M × Int32 × Int32) ⊕ (fm_M × Int32 × Int32)) :=
  if fm_in (0 : Int32) 17 = true then if (s 2 (0 : Int32).toNatClampNeg) ≤ v6 then some (.inr (s, v5, v6)) else if fm_in v6 29 = true then if (s 4 v6.toNatClampNeg) = (3 : Int32) then f_X9_morning_131 v3 v4 v6 ((1 : Int32) <<< (v6 &&& 31)) v5 s else f_X9_morning_131 v3 v4 v6 (0 : Int32) v5 s else none else none
set_option maxHeartbeats 4000000 in
theorem t_X9_morning_99 {w : fm_W} {l : Launch} {o : fm_O} (hI : fm_I w 11) (v3 : Int32) (v4 : Int32) (s : fm_M) (v5 : Int32) (v6 : Int32) (z : (fm_M × Int32 × Int32) ⊕ (fm_M × Int32 × Int32)) (h : f_X9_morning_99 v3 v4 s v5 v6 = some z) (kb : ∀ (s : fm_M) (u5 : Int32) (u6 : Int32), z = .inl (s, u5, u6) → fm_V w layM 11 l rm_X9_morning cX9_morning 8 RX9 (some .int) o 99 [some (.ref (fm_ad w 0)), none, none, some (.int v3), some (.int v4), some (.int u5), some (.int u6), none] [] s) (ke : ∀ (s : fm_M) (u5 : Int32) (u6 : Int32), z = .inr (s, u5, u6) → fm_V w layM 11 l rm_X9_morning cX9_morning 8 RX9 (some .int) o 140 [some (.ref (fm_ad w 0)), none, none, some (.int v3), some (.int v4), some (.int u5), some (.int u6), none] [] s) : fm_V w layM 11 l rm_X9_morning cX9_morning 8 RX9 (some .int) o 99 [some (.ref (fm_ad w 0)), none, none, some (.int v3), some (.int v4), some (.int v5), some (.int v6), none] [] s := by
  unfold f_X9_morning_99 at h
  refine v_iload dX9_morning_99 rfl ?_
  refine v_aload_n 0 dX9_morning_101 rfl rfl ?_
  refine v_getr 2 g_X9_13 yM_0 (by decide) rfl dX9_morning_102 ?_
  refine v_iconst (0 : Int32) dX9_morning_105 (by decide) ?_
  obtain ⟨hi, h⟩ := fm_ift h
  refine v_iald (Or.inl ⟨(by decide), yM_2⟩) hi dX9_morning_106 ?_
  refine v_icmp_ge 140 dX9_morning_107 (by decide) h (fun h => ?_) (fun h => ?_)
  · refine v_lw [some (.ref (fm_ad w 0)), none, none, some (.int v3), some (.int v4), some (.int v5), some (.int v6), none] rfl ⟨rfl, rfl, rfl, rfl, rfl, trivial⟩ ?_
    exact ke _ _ _ (Option.some.inj h).symm
  · refine v_iload dX9_morning_110 rfl ?_
    refine v_aload_n 0 dX9_morning_112 rfl rfl ?_
    refine v_getr 4 g_X9_19 yM_0 (by decide) rfl dX9_morning_113 ?_
    refine v_iload dX9_morning_116 rfl ?_
    obtain ⟨hi, h⟩ := fm_ift h
    refine v_iald (Or.inl ⟨(by decide), yM_4⟩) hi dX9_morning_118 ?_
    refine v_iconst (3 : Int32) dX9_morning_119 (by decide) ?_
    refine v_icmp_ne 130 dX9_morning_120 (by decide) h (fun h => ?_) (fun h => ?_)
    · refine v_iconst (0 : Int32) dX9_morning_130 (by decide) ?_
      refine v_lw [some (.ref (fm_ad w 0)), none, none, some (.int v3), some (.int v4), none, some (.int v6), none] rfl ⟨rfl, rfl, rfl, rfl, trivial⟩ ?_
      exact t_X9_morning_131 hI v3 v4 v6 (0 : Int32) v5 s _ h kb ke
    · refine v_iconst (1 : Int32) dX9_morning_123 (by decide) ?_
      refine v_iload dX9_morning_124 rfl ?_
      refine v_ishl dX9_morning_126 ?_
      refine v_goto 131 dX9_morning_127 (by decide) ?_
      refine v_lw [some (.ref (fm_ad w 0)), none, none, some (.int v3), some (.int v4), none, some (.int v6), none] rfl ⟨rfl, rfl, rfl, rfl, trivial⟩ ?_
      exact t_X9_morning_131 hI v3 v4 v6 ((1 : Int32) <<< (v6 &&& 31)) v5 s _ h kb ke
set_option maxHeartbeats 4000000 in
theorem i_X9_morning_99 {w : fm_W} {l : Launch} {o : fm_O} (hI : fm_I w 11) (v3 : Int32) (v4 : Int32) (n : Nat) (s : fm_M) (v5 : Int32) (v6 : Int32) (q : fm_M × Int32 × Int32) (h : fm_it (fun s => f_X9_morning_99 v3 v4 s.1 s.2.1 s.2.2) n (s, v5, v6) = some q) (ke : ∀ (s : fm_M) (u5 : Int32) (u6 : Int32), q = (s, u5, u6) → fm_V w layM 11 l rm_X9_morning cX9_morning 8 RX9 (some .int) o 140 [some (.ref (fm_ad w 0)), none, none, some (.int v3), some (.int v4), some (.int u5), some (.int u6), none] [] s) : fm_V w layM 11 l rm_X9_morning cX9_morning 8 RX9 (some .int) o 99 [some (.ref (fm_ad w 0)), none, none, some (.int v3), some (.int v4), some (.int v5), some (.int v6), none] [] s :=
  fm_it_loop (body := (fun s => f_X9_morning_99 v3 v4 s.1 s.2.1 s.2.2)) (P := fun s => fm_V w layM 11 l rm_X9_morning cX9_morning 8 RX9 (some .int) o 99 [some (.ref (fm_ad w 0)), none, none, some (.int v3), some (.int v4), some (.int s.2.1), some (.int s.2.2), none] [] s.1) (K := (fun q : fm_M × Int32 × Int32 => (∀ (s : fm_M) (u5 : Int32) (u6 : Int32), q = (s, u5, u6) → fm_V w layM 11 l rm_X9_morning cX9_morning 8 RX9 (some .int) o 140 [some (.ref (fm_ad w 0)), none, none, some (.int v3), some (.int v4), some (.int u5), some (.int u6), none] [] s))) (fun s z hb kl kx => t_X9_morning_99 hI v3 v4 s.1 s.2.1 s.2.2 z hb (fun s u5 u6 e => kl _ e) (fun s u5 u6 e => (kx _ e) s u5 u6 rfl)) n (s, v5, v6) q h ke
def f_X9_morning_155 (sk0 : Int32) (s : fm_M) : Option (Int32 × fm_M) :=
  some (sk0, s)
set_option maxHeartbeats 4000000 in
theorem t_X9_morning_155 {w : fm_W} {l : Launch} {o : fm_O} (hI : fm_I w 11) (sk0 : Int32) (s : fm_M) (z : Int32 × fm_M) (h : f_X9_morning_155 sk0 s = some z) (ho : ∀ (r : Int32) (s : fm_M), z = (r, s) → o = (some (.int r), s)) : fm_V w layM 11 l rm_X9_morning cX9_morning 8 RX9 (some .int) o 155 [none, none, none, none, none, none, none, none] [.int sk0] s := by
  unfold f_X9_morning_155 at h
  exact v_iret rfl (ho _ _ (Option.some.inj h).symm) dX9_morning_155
def f_X9_morning (v1 : Int32) (v2 : Int32) (v3 : Int32) (s : fm_M) : Option (Int32 × fm_M) :=
  fm_bd (f_X9_in v1 (0 : Int32) (9999 : Int32) s) (fun r1 s1 => if r1 = 0 then f_X9_morning_30 s1 else fm_bd (f_X9_in v2 (1 : Int32) (60 : Int32) s1) (fun r2 s2 => if r2 = 0 then f_X9_morning_30 s2 else fm_bd (f_X9_in v3 (0 : Int32) (1 : Int32) s2) (fun r3 s3 => if r3 = 0 then f_X9_morning_30 s3 else fm_bd (f_X9_holds s3) (fun r4 s4 => fm_op (fm_it (fun (yy : fm_M × Int32 × Int32) => f_X9_morning_42 v1 v2 v3 yy.1 yy.2.1 yy.2.2) fm_fu (s4, (0 : Int32), (0 : Int32))) (fun q6 => ((fun (s6 : fm_M) (x6_4 : Int32) (x6_5 : Int32) => fm_op (fm_it (fun (yy : fm_M × Int32 × Int32) => f_X9_morning_99 v3 x6_4 yy.1 yy.2.1 yy.2.2) fm_fu (s6, (0 : Int32), (0 : Int32))) (fun q7 => ((fun (s7 : fm_M) (x7_5 : Int32) (x7_6 : Int32) => fm_bd (f_X9_lets s7) (fun r8 s8 => if v3 = 0 then f_X9_morning_155 x7_5 s8 else f_X9_morning_155 x6_4 s8))) q7.1 q7.2.1 q7.2.2))) q6.1 q6.2.1 q6.2.2)))))
set_option maxHeartbeats 4000000 in
theorem e_X9_morning {w : fm_W} {l : Launch} {o : fm_O} (hI : fm_I w 11) (v1 : Int32) (v2 : Int32) (v3 : Int32) (s : fm_M) (z : Int32 × fm_M) (h : f_X9_morning v1 v2 v3 s = some z) (ho : ∀ (r : Int32) (s : fm_M), z = (r, s) → o = (some (.int r), s)) : fm_V w layM 11 l rm_X9_morning cX9_morning 8 RX9 (some .int) o 0 [some (.ref (fm_ad w 0)), some (.int v1), some (.int v2), some (.int v3), none, none, none, none] [] s := by
  unfold f_X9_morning at h
  refine v_iload_n 1 dX9_morning_0 rfl rfl ?_
  refine v_iconst (0 : Int32) dX9_morning_1 (by decide) ?_
  refine v_sipush (9999 : Int32) dX9_morning_2 (by decide) ?_
  obtain ⟨r1, s1, h1, h⟩ := fm_bds h
  refine v_cSi [.int v1, .int (0 : Int32), .int (9999 : Int32)] [] l_X9_50 (c_X9_in hI h1) rfl rfl ⟨rfl, rfl, by decide, by decide⟩ (Nat.le_of_ble_eq_true rfl) dX9_morning_5 ?_
  refine v_if_eq 30 dX9_morning_8 (by decide) h (fun h => ?_) (fun h => ?_)
  · refine v_lw [none, none, none, none, none, none, none, none] rfl trivial ?_
    exact t_X9_morning_30 hI s1 _ h ho
  · refine v_iload_n 2 dX9_morning_11 rfl rfl ?_
    refine v_iconst (1 : Int32) dX9_morning_12 (by decide) ?_
    refine v_bipush (60 : Int32) dX9_morning_13 (by decide) ?_
    obtain ⟨r2, s2, h2, h⟩ := fm_bds h
    refine v_cSi [.int v2, .int (1 : Int32), .int (60 : Int32)] [] l_X9_50 (c_X9_in hI h2) rfl rfl ⟨rfl, rfl, by decide, by decide⟩ (Nat.le_of_ble_eq_true rfl) dX9_morning_15 ?_
    refine v_if_eq 30 dX9_morning_18 (by decide) h (fun h => ?_) (fun h => ?_)
    · refine v_lw [none, none, none, none, none, none, none, none] rfl trivial ?_
      exact t_X9_morning_30 hI s2 _ h ho
    · refine v_iload_n 3 dX9_morning_21 rfl rfl ?_
      refine v_iconst (0 : Int32) dX9_morning_22 (by decide) ?_
      refine v_iconst (1 : Int32) dX9_morning_23 (by decide) ?_
      obtain ⟨r3, s3, h3, h⟩ := fm_bds h
      refine v_cSi [.int v3, .int (0 : Int32), .int (1 : Int32)] [] l_X9_50 (c_X9_in hI h3) rfl rfl ⟨rfl, rfl, by decide, by decide⟩ (Nat.le_of_ble_eq_true rfl) dX9_morning_24 ?_
      refine v_if_ne 32 dX9_morning_27 (by decide) h (fun h => ?_) (fun h => ?_)
      · refine v_aload_n 0 dX9_morning_32 rfl rfl ?_
        obtain ⟨r4, s4, h4, h⟩ := fm_bds h
        refine v_cVv [] [] l_X9_158 (c_X9_holds hI h4) yM_0 (by decide) rfl rfl ⟨rfl, rfl, by decide, by decide⟩ (Nat.le_of_ble_eq_true rfl) dX9_morning_33 ?_
        refine v_iconst (0 : Int32) dX9_morning_36 (by decide) ?_
        refine v_istore (lv' := [some (.ref (fm_ad w 0)), some (.int v1), some (.int v2), some (.int v3), some (.int (0 : Int32)), none, none, none]) dX9_morning_37 (by decide) rfl rfl ?_
        refine v_iconst (0 : Int32) dX9_morning_39 (by decide) ?_
        refine v_istore (lv' := [some (.ref (fm_ad w 0)), some (.int v1), some (.int v2), some (.int v3), some (.int (0 : Int32)), some (.int (0 : Int32)), none, none]) dX9_morning_40 (by decide) rfl rfl ?_
        obtain ⟨q6, h6, h⟩ := fm_ops h
        refine v_lw [some (.ref (fm_ad w 0)), some (.int v1), some (.int v2), some (.int v3), some (.int (0 : Int32)), some (.int (0 : Int32)), none, none] rfl ⟨rfl, rfl, rfl, rfl, rfl, rfl, trivial⟩ ?_
        refine i_X9_morning_42 hI v1 v2 v3 _ _ _ _ _ h6 (fun s6 x6_4 x6_5 e => ?_)
        subst e
        dsimp only at h
        refine v_iconst (0 : Int32) dX9_morning_93 (by decide) ?_
        refine v_istore (lv' := [some (.ref (fm_ad w 0)), some (.int v1), some (.int v2), some (.int v3), some (.int x6_4), some (.int (0 : Int32)), none, none]) dX9_morning_94 (by decide) rfl rfl ?_
        refine v_iconst (0 : Int32) dX9_morning_96 (by decide) ?_
        refine v_istore (lv' := [some (.ref (fm_ad w 0)), some (.int v1), some (.int v2), some (.int v3), some (.int x6_4), some (.int (0 : Int32)), some (.int (0 : Int32)), none]) dX9_morning_97 (by decide) rfl rfl ?_
        obtain ⟨q7, h7, h⟩ := fm_ops h
        refine v_lw [some (.ref (fm_ad w 0)), none, none, some (.int v3), some (.int x6_4), some (.int (0 : Int32)), some (.int (0 : Int32)), none] rfl ⟨rfl, rfl, rfl, rfl, rfl, trivial⟩ ?_
        refine i_X9_morning_99 hI v3 x6_4 _ _ _ _ _ h7 (fun s7 x7_5 x7_6 e => ?_)
        subst e
        dsimp only at h
        refine v_aload_n 0 dX9_morning_140 rfl rfl ?_
        obtain ⟨r8, s8, h8, h⟩ := fm_bds h
        refine v_cVv [] [] l_X9_155 (c_X9_lets hI h8) yM_0 (by decide) rfl rfl ⟨rfl, rfl, by decide, by decide⟩ (Nat.le_of_ble_eq_true rfl) dX9_morning_141 ?_
        refine v_iload_n 3 dX9_morning_144 rfl rfl ?_
        refine v_if_ne 153 dX9_morning_145 (by decide) h (fun h => ?_) (fun h => ?_)
        · refine v_iload dX9_morning_153 rfl ?_
          refine v_lw [none, none, none, none, none, none, none, none] rfl trivial ?_
          exact t_X9_morning_155 hI x6_4 s8 _ h ho
        · refine v_iload dX9_morning_148 rfl ?_
          refine v_goto 155 dX9_morning_150 (by decide) ?_
          refine v_lw [none, none, none, none, none, none, none, none] rfl trivial ?_
          exact t_X9_morning_155 hI x7_5 s8 _ h ho
      · refine v_lw [none, none, none, none, none, none, none, none] rfl trivial ?_
        exact t_X9_morning_30 hI s3 _ h ho
theorem c_X9_morning {w : fm_W} {l : Launch} (hI : fm_I w 11) {v1 : Int32} {v2 : Int32} {v3 : Int32} {s : fm_M} {r : Int32} {s2 : fm_M} (h : f_X9_morning v1 v2 v3 s = some (r, s2)) : fm_C w layM 11 l yX9_morning cX9_morning 8 (some .int) rm_X9_morning [.ref (fm_ad w 0), .int v1, .int v2, .int v3] s (some (.int r), s2) :=
  fm_of hI (by decide) rfl (Nat.le_of_ble_eq_true rfl) (e_X9_morning hI v1 v2 v3 s _ h (fun r s e => by cases e; rfl))
-- X9_must
abbrev rm_X9_must : Room := { frames := 2, cells := 0, slots := 0, locals := 46 }
def f_X9_must_29 (s : fm_M) : Option (Int32 × fm_M) :=
  some ((-1 : Int32), s)
set_option maxHeartbeats 4000000 in
theorem t_X9_must_29 {w : fm_W} {l : Launch} {o : fm_O} (hI : fm_I w 11) (s : fm_M) (z : Int32 × fm_M) (h : f_X9_must_29 s = some z) (ho : ∀ (r : Int32) (s : fm_M), z = (r, s) → o = (some (.int r), s)) : fm_V w layM 11 l rm_X9_must cX9_must 9 RX9 (some .int) o 29 [none, none, none, none, none, none, none, none, none] [] s := by
  unfold f_X9_must_29 at h
  refine v_iconst (-1 : Int32) dX9_must_29 (by decide) ?_
  exact v_iret rfl (ho _ _ (Option.some.inj h).symm) dX9_must_30
def f_X9_must_60 (v1 : Int32) (v2 : Int32) (v3 : Int32) (v4 : Int32) (v5 : Int32) (sk0 : Int32) (sk1 : Int32) (s : fm_M) : Option ((fm_M × Int32) ⊕ (fm_M × Int32)) :=
  if fm_in sk1 7 = true then some (.inl ((fm_up s 10 sk1.toNatClampNeg sk0), (v5 + (1 : Int32)))) else none
set_option maxHeartbeats 4000000 in
theorem t_X9_must_60 {w : fm_W} {l : Launch} {o : fm_O} (hI : fm_I w 11) (v1 : Int32) (v2 : Int32) (v3 : Int32) (v4 : Int32) (v5 : Int32) (sk0 : Int32) (sk1 : Int32) (s : fm_M) (z : (fm_M × Int32) ⊕ (fm_M × Int32)) (h : f_X9_must_60 v1 v2 v3 v4 v5 sk0 sk1 s = some z) (kb : ∀ (s : fm_M) (u5 : Int32), z = .inl (s, u5) → fm_V w layM 11 l rm_X9_must cX9_must 9 RX9 (some .int) o 37 [some (.ref (fm_ad w 0)), some (.int v1), some (.int v2), some (.int v3), some (.int v4), some (.int u5), none, none, none] [] s) (ke : ∀ (s : fm_M) (u5 : Int32), z = .inr (s, u5) → fm_V w layM 11 l rm_X9_must cX9_must 9 RX9 (some .int) o 67 [some (.ref (fm_ad w 0)), some (.int v1), some (.int v2), some (.int v3), some (.int v4), some (.int u5), none, none, none] [] s) : fm_V w layM 11 l rm_X9_must cX9_must 9 RX9 (some .int) o 60 [some (.ref (fm_ad w 0)), some (.int v1), some (.int v2), some (.int v3), some (.int v4), some (.int v5), none, none, none] [.int sk0, .int sk1, .ref (fm_ad w 10)] s := by
  unfold f_X9_must_60 at h
  obtain ⟨hi, h⟩ := fm_ift h
  refine v_iast (by decide) yM_10 hi dX9_must_60 ?_
  refine v_iinc (lv' := [some (.ref (fm_ad w 0)), some (.int v1), some (.int v2), some (.int v3), some (.int v4), some (.int (v5 + (1 : Int32))), none, none, none]) (1 : Int32) dX9_must_61 rfl (by decide) (by decide) rfl rfl ?_
  refine v_goto 37 dX9_must_64 (by decide) ?_
  refine v_lw [some (.ref (fm_ad w 0)), some (.int v1), some (.int v2), some (.int v3), some (.int v4), some (.int (v5 + (1 : Int32))), none, none, none] rfl ⟨rfl, rfl, rfl, rfl, rfl, rfl, trivial⟩ ?_
  exact kb _ _ (Option.some.inj h).symm
def f_X9_must_37 (v1 : Int32) (v2 : Int32) (v3 : Int32) (v4 : Int32) (s : fm_M) (v5 : Int32) : Option ((fm_M × Int32) ⊕ (fm_M × Int32)) :=
  if (7 : Int32) ≤ v5 then some (.inr (s, v5)) else if v5 = 0 then f_X9_must_60 v1 v2 v3 v4 v5 (1 : Int32) v5 s else f_X9_must_60 v1 v2 v3 v4 v5 (0 : Int32) v5 s
set_option maxHeartbeats 4000000 in
theorem t_X9_must_37 {w : fm_W} {l : Launch} {o : fm_O} (hI : fm_I w 11) (v1 : Int32) (v2 : Int32) (v3 : Int32) (v4 : Int32) (s : fm_M) (v5 : Int32) (z : (fm_M × Int32) ⊕ (fm_M × Int32)) (h : f_X9_must_37 v1 v2 v3 v4 s v5 = some z) (kb : ∀ (s : fm_M) (u5 : Int32), z = .inl (s, u5) → fm_V w layM 11 l rm_X9_must cX9_must 9 RX9 (some .int) o 37 [some (.ref (fm_ad w 0)), some (.int v1), some (.int v2), some (.int v3), some (.int v4), some (.int u5), none, none, none] [] s) (ke : ∀ (s : fm_M) (u5 : Int32), z = .inr (s, u5) → fm_V w layM 11 l rm_X9_must cX9_must 9 RX9 (some .int) o 67 [some (.ref (fm_ad w 0)), some (.int v1), some (.int v2), some (.int v3), some (.int v4), some (.int u5), none, none, none] [] s) : fm_V w layM 11 l rm_X9_must cX9_must 9 RX9 (some .int) o 37 [some (.ref (fm_ad w 0)), some (.int v1), some (.int v2), some (.int v3), some (.int v4), some (.int v5), none, none, none] [] s := by
  unfold f_X9_must_37 at h
  refine v_iload dX9_must_37 rfl ?_
  refine v_bipush (7 : Int32) dX9_must_39 (by decide) ?_
  refine v_icmp_ge 67 dX9_must_41 (by decide) h (fun h => ?_) (fun h => ?_)
  · refine v_lw [some (.ref (fm_ad w 0)), some (.int v1), some (.int v2), some (.int v3), some (.int v4), some (.int v5), none, none, none] rfl ⟨rfl, rfl, rfl, rfl, rfl, rfl, trivial⟩ ?_
    exact ke _ _ (Option.some.inj h).symm
  · refine v_aload_n 0 dX9_must_44 rfl rfl ?_
    refine v_getr 10 g_X9_37 yM_0 (by decide) rfl dX9_must_45 ?_
    refine v_iload dX9_must_48 rfl ?_
    refine v_iload dX9_must_50 rfl ?_
    refine v_if_ne 59 dX9_must_52 (by decide) h (fun h => ?_) (fun h => ?_)
    · refine v_iconst (0 : Int32) dX9_must_59 (by decide) ?_
      refine v_lw [some (.ref (fm_ad w 0)), some (.int v1), some (.int v2), some (.int v3), some (.int v4), some (.int v5), none, none, none] rfl ⟨rfl, rfl, rfl, rfl, rfl, rfl, trivial⟩ ?_
      exact t_X9_must_60 hI v1 v2 v3 v4 v5 (0 : Int32) v5 s _ h kb ke
    · refine v_iconst (1 : Int32) dX9_must_55 (by decide) ?_
      refine v_goto 60 dX9_must_56 (by decide) ?_
      refine v_lw [some (.ref (fm_ad w 0)), some (.int v1), some (.int v2), some (.int v3), some (.int v4), some (.int v5), none, none, none] rfl ⟨rfl, rfl, rfl, rfl, rfl, rfl, trivial⟩ ?_
      exact t_X9_must_60 hI v1 v2 v3 v4 v5 (1 : Int32) v5 s _ h kb ke
set_option maxHeartbeats 4000000 in
theorem i_X9_must_37 {w : fm_W} {l : Launch} {o : fm_O} (hI : fm_I w 11) (v1 : Int32) (v2 : Int32) (v3 : Int32) (v4 : Int32) (n : Nat) (s : fm_M) (v5 : Int32) (q : fm_M × Int32) (h : fm_it (fun s => f_X9_must_37 v1 v2 v3 v4 s.1 s.2) n (s, v5) = some q) (ke : ∀ (s : fm_M) (u5 : Int32), q = (s, u5) → fm_V w layM 11 l rm_X9_must cX9_must 9 RX9 (some .int) o 67 [some (.ref (fm_ad w 0)), some (.int v1), some (.int v2), some (.int v3), some (.int v4), some (.int u5), none, none, none] [] s) : fm_V w layM 11 l rm_X9_must cX9_must 9 RX9 (some .int) o 37 [some (.ref (fm_ad w 0)), some (.int v1), some (.int v2), some (.int v3), some (.int v4), some (.int v5), none, none, none] [] s :=
  fm_it_loop (body := (fun s => f_X9_must_37 v1 v2 v3 v4 s.1 s.2)) (P := fun s => fm_V w layM 11 l rm_X9_must cX9_must 9 RX9 (some .int) o 37 [some (.ref (fm_ad w 0)), some (.int v1), some (.int v2), some (.int v3), some (.int v4), some (.int s.2), none, none, none] [] s.1) (K := (fun q : fm_M × Int32 => (∀ (s : fm_M) (u5 : Int32), q = (s, u5) → fm_V w layM 11 l rm_X9_must cX9_must 9 RX9 (some .int) o 67 [some (.ref (fm_ad w 0)), some (.int v1), some (.int v2), some (.int v3), some (.int v4), some (.int u5), none, none, none] [] s))) (fun s z hb kl kx => t_X9_must_37 hI v1 v2 v3 v4 s.1 s.2 z hb (fun s u5 e => kl _ e) (fun s u5 e => (kx _ e) s u5 rfl)) n (s, v5) q h ke
def f_X9_must_134 (v1 : Int32) (v2 : Int32) (v3 : Int32) (v4 : Int32) (v5 : Int32) (v6 : Int32) (sk0 : Int32) (sk1 : Int32) (sk2 : Int32) (s : fm_M) : Option ((fm_M × Int32) ⊕ (fm_M × Int32)) :=
  if fm_in sk2 7 = true then some (.inl ((fm_up s 10 sk2.toNatClampNeg (sk1 + sk0)), (v6 + (-1 : Int32)))) else none
set_option maxHeartbeats 4000000 in
theorem t_X9_must_134 {w : fm_W} {l : Launch} {o : fm_O} (hI : fm_I w 11) (v1 : Int32) (v2 : Int32) (v3 : Int32) (v4 : Int32) (v5 : Int32) (v6 : Int32) (sk0 : Int32) (sk1 : Int32) (sk2 : Int32) (s : fm_M) (z : (fm_M × Int32) ⊕ (fm_M × Int32)) (h : f_X9_must_134 v1 v2 v3 v4 v5 v6 sk0 sk1 sk2 s = some z) (kb : ∀ (s : fm_M) (u6 : Int32), z = .inl (s, u6) → fm_V w layM 11 l rm_X9_must cX9_must 9 RX9 (some .int) o 91 [some (.ref (fm_ad w 0)), some (.int v1), some (.int v2), some (.int v3), some (.int v4), some (.int v5), some (.int u6), none, none] [] s) (ke : ∀ (s : fm_M) (u6 : Int32), z = .inr (s, u6) → fm_V w layM 11 l rm_X9_must cX9_must 9 RX9 (some .int) o 142 [some (.ref (fm_ad w 0)), some (.int v1), some (.int v2), some (.int v3), some (.int v4), some (.int v5), some (.int u6), none, none] [] s) : fm_V w layM 11 l rm_X9_must cX9_must 9 RX9 (some .int) o 134 [some (.ref (fm_ad w 0)), some (.int v1), some (.int v2), some (.int v3), some (.int v4), some (.int v5), some (.int v6), none, none] [.int sk0, .int sk1, .int sk2, .ref (fm_ad w 10)] s := by
  unfold f_X9_must_134 at h
  refine v_iadd dX9_must_134 ?_
  obtain ⟨hi, h⟩ := fm_ift h
  refine v_iast (by decide) yM_10 hi dX9_must_135 ?_
  refine v_iinc (lv' := [some (.ref (fm_ad w 0)), some (.int v1), some (.int v2), some (.int v3), some (.int v4), some (.int v5), some (.int (v6 + (-1 : Int32))), none, none]) (-1 : Int32) dX9_must_136 rfl (by decide) (by decide) rfl rfl ?_
  refine v_goto 91 dX9_must_139 (by decide) ?_
  refine v_lw [some (.ref (fm_ad w 0)), some (.int v1), some (.int v2), some (.int v3), some (.int v4), some (.int v5), some (.int (v6 + (-1 : Int32))), none, none] rfl ⟨rfl, rfl, rfl, rfl, rfl, rfl, rfl, trivial⟩ ?_
  exact kb _ _ (Option.some.inj h).symm
def f_X9_must_91 (v1 : Int32) (v2 : Int32) (v3 : Int32) (v4 : Int32) (v5 : Int32) (s : fm_M) (v6 : Int32) : Option ((fm_M × Int32) ⊕ (fm_M × Int32)) :=
  if v6 < 0 then some (.inr (s, v6)) else if fm_in v6 7 = true then if v6 = 0 then f_X9_must_134 v1 v2 v3 v4 v5 v6 (0 : Int32) ((s 10 v6.toNatClampNeg) * ((10 : Int32) - v2)) v6 s else if fm_in (v6 - (1 : Int32)) 7 = true then f_X9_must_134 v1 v2 v3 v4 v5 v6 ((s 10 (v6 - (1 : Int32)).toNatClampNeg) * v2) ((s 10 v6.toNatClampNeg) * ((10 : Int32) - v2)) v6 s else none else none
set_option maxHeartbeats 4000000 in
theorem t_X9_must_91 {w : fm_W} {l : Launch} {o : fm_O} (hI : fm_I w 11) (v1 : Int32) (v2 : Int32) (v3 : Int32) (v4 : Int32) (v5 : Int32) (s : fm_M) (v6 : Int32) (z : (fm_M × Int32) ⊕ (fm_M × Int32)) (h : f_X9_must_91 v1 v2 v3 v4 v5 s v6 = some z) (kb : ∀ (s : fm_M) (u6 : Int32), z = .inl (s, u6) → fm_V w layM 11 l rm_X9_must cX9_must 9 RX9 (some .int) o 91 [some (.ref (fm_ad w 0)), some (.int v1), some (.int v2), some (.int v3), some (.int v4), some (.int v5), some (.int u6), none, none] [] s) (ke : ∀ (s : fm_M) (u6 : Int32), z = .inr (s, u6) → fm_V w layM 11 l rm_X9_must cX9_must 9 RX9 (some .int) o 142 [some (.ref (fm_ad w 0)), some (.int v1), some (.int v2), some (.int v3), some (.int v4), some (.int v5), some (.int u6), none, none] [] s) : fm_V w layM 11 l rm_X9_must cX9_must 9 RX9 (some .int) o 91 [some (.ref (fm_ad w 0)), some (.int v1), some (.int v2), some (.int v3), some (.int v4), some (.int v5), some (.int v6), none, none] [] s := by
  unfold f_X9_must_91 at h
  refine v_iload dX9_must_91 rfl ?_
  refine v_if_lt 142 dX9_must_93 (by decide) h (fun h => ?_) (fun h => ?_)
  · refine v_lw [some (.ref (fm_ad w 0)), some (.int v1), some (.int v2), some (.int v3), some (.int v4), some (.int v5), some (.int v6), none, none] rfl ⟨rfl, rfl, rfl, rfl, rfl, rfl, rfl, trivial⟩ ?_
    exact ke _ _ (Option.some.inj h).symm
  · refine v_aload_n 0 dX9_must_96 rfl rfl ?_
    refine v_getr 10 g_X9_37 yM_0 (by decide) rfl dX9_must_97 ?_
    refine v_iload dX9_must_100 rfl ?_
    refine v_aload_n 0 dX9_must_102 rfl rfl ?_
    refine v_getr 10 g_X9_37 yM_0 (by decide) rfl dX9_must_103 ?_
    refine v_iload dX9_must_106 rfl ?_
    obtain ⟨hi, h⟩ := fm_ift h
    refine v_iald (Or.inl ⟨(by decide), yM_10⟩) hi dX9_must_108 ?_
    refine v_bipush (10 : Int32) dX9_must_109 (by decide) ?_
    refine v_iload_n 2 dX9_must_111 rfl rfl ?_
    refine v_isub dX9_must_112 ?_
    refine v_imul dX9_must_113 ?_
    refine v_iload dX9_must_114 rfl ?_
    refine v_if_ne 123 dX9_must_116 (by decide) h (fun h => ?_) (fun h => ?_)
    · refine v_aload_n 0 dX9_must_123 rfl rfl ?_
      refine v_getr 10 g_X9_37 yM_0 (by decide) rfl dX9_must_124 ?_
      refine v_iload dX9_must_127 rfl ?_
      refine v_iconst (1 : Int32) dX9_must_129 (by decide) ?_
      refine v_isub dX9_must_130 ?_
      obtain ⟨hi, h⟩ := fm_ift h
      refine v_iald (Or.inl ⟨(by decide), yM_10⟩) hi dX9_must_131 ?_
      refine v_iload_n 2 dX9_must_132 rfl rfl ?_
      refine v_imul dX9_must_133 ?_
      refine v_lw [some (.ref (fm_ad w 0)), some (.int v1), some (.int v2), some (.int v3), some (.int v4), some (.int v5), some (.int v6), none, none] rfl ⟨rfl, rfl, rfl, rfl, rfl, rfl, rfl, trivial⟩ ?_
      exact t_X9_must_134 hI v1 v2 v3 v4 v5 v6 ((s 10 (v6 - (1 : Int32)).toNatClampNeg) * v2) ((s 10 v6.toNatClampNeg) * ((10 : Int32) - v2)) v6 s _ h kb ke
    · refine v_iconst (0 : Int32) dX9_must_119 (by decide) ?_
      refine v_goto 134 dX9_must_120 (by decide) ?_
      refine v_lw [some (.ref (fm_ad w 0)), some (.int v1), some (.int v2), some (.int v3), some (.int v4), some (.int v5), some (.int v6), none, none] rfl ⟨rfl, rfl, rfl, rfl, rfl, rfl, rfl, trivial⟩ ?_
      exact t_X9_must_134 hI v1 v2 v3 v4 v5 v6 (0 : Int32) ((s 10 v6.toNatClampNeg) * ((10 : Int32) - v2)) v6 s _ h kb ke
set_option maxHeartbeats 4000000 in
theorem i_X9_must_91 {w : fm_W} {l : Launch} {o : fm_O} (hI : fm_I w 11) (v1 : Int32) (v2 : Int32) (v3 : Int32) (v4 : Int32) (v5 : Int32) (n : Nat) (s : fm_M) (v6 : Int32) (q : fm_M × Int32) (h : fm_it (fun s => f_X9_must_91 v1 v2 v3 v4 v5 s.1 s.2) n (s, v6) = some q) (ke : ∀ (s : fm_M) (u6 : Int32), q = (s, u6) → fm_V w layM 11 l rm_X9_must cX9_must 9 RX9 (some .int) o 142 [some (.ref (fm_ad w 0)), some (.int v1), some (.int v2), some (.int v3), some (.int v4), some (.int v5), some (.int u6), none, none] [] s) : fm_V w layM 11 l rm_X9_must cX9_must 9 RX9 (some .int) o 91 [some (.ref (fm_ad w 0)), some (.int v1), some (.int v2), some (.int v3), some (.int v4), some (.int v5), some (.int v6), none, none] [] s :=
  fm_it_loop (body := (fun s => f_X9_must_91 v1 v2 v3 v4 v5 s.1 s.2)) (P := fun s => fm_V w layM 11 l rm_X9_must cX9_must 9 RX9 (some .int) o 91 [some (.ref (fm_ad w 0)), some (.int v1), some (.int v2), some (.int v3), some (.int v4), some (.int v5), some (.int s.2), none, none] [] s.1) (K := (fun q : fm_M × Int32 => (∀ (s : fm_M) (u6 : Int32), q = (s, u6) → fm_V w layM 11 l rm_X9_must cX9_must 9 RX9 (some .int) o 142 [some (.ref (fm_ad w 0)), some (.int v1), some (.int v2), some (.int v3), some (.int v4), some (.int v5), some (.int u6), none, none] [] s))) (fun s z hb kl kx => t_X9_must_91 hI v1 v2 v3 v4 v5 s.1 s.2 z hb (fun s u6 e => kl _ e) (fun s u6 e => (kx _ e) s u6 rfl)) n (s, v6) q h ke
def f_X9_must_70 (v1 : Int32) (v2 : Int32) (v3 : Int32) (s : fm_M) (v4 : Int32) (v5 : Int32) : Option ((fm_M × Int32 × Int32) ⊕ (fm_M × Int32 × Int32)) :=
  fm_bd (f_X9_children (2 : Int32) s) (fun r5 s5 => if r5 ≤ v5 then some (.inr (s5, v4, v5)) else fm_op (fm_it (fun (yy : fm_M × Int32) => f_X9_must_91 v1 v2 v3 (v4 * (10 : Int32)) v5 yy.1 yy.2) fm_fu (s5, (6 : Int32))) (fun q6 => ((fun (s6 : fm_M) (x6_6 : Int32) => some (.inl (s6, (v4 * (10 : Int32)), (v5 + (1 : Int32)))))) q6.1 q6.2))
set_option maxHeartbeats 4000000 in
theorem t_X9_must_70 {w : fm_W} {l : Launch} {o : fm_O} (hI : fm_I w 11) (v1 : Int32) (v2 : Int32) (v3 : Int32) (s : fm_M) (v4 : Int32) (v5 : Int32) (z : (fm_M × Int32 × Int32) ⊕ (fm_M × Int32 × Int32)) (h : f_X9_must_70 v1 v2 v3 s v4 v5 = some z) (kb : ∀ (s : fm_M) (u4 : Int32) (u5 : Int32), z = .inl (s, u4, u5) → fm_V w layM 11 l rm_X9_must cX9_must 9 RX9 (some .int) o 70 [some (.ref (fm_ad w 0)), some (.int v1), some (.int v2), some (.int v3), some (.int u4), some (.int u5), none, none, none] [] s) (ke : ∀ (s : fm_M) (u4 : Int32) (u5 : Int32), z = .inr (s, u4, u5) → fm_V w layM 11 l rm_X9_must cX9_must 9 RX9 (some .int) o 148 [some (.ref (fm_ad w 0)), some (.int v1), some (.int v2), some (.int v3), some (.int u4), some (.int u5), none, none, none] [] s) : fm_V w layM 11 l rm_X9_must cX9_must 9 RX9 (some .int) o 70 [some (.ref (fm_ad w 0)), some (.int v1), some (.int v2), some (.int v3), some (.int v4), some (.int v5), none, none, none] [] s := by
  unfold f_X9_must_70 at h
  refine v_iload dX9_must_70 rfl ?_
  refine v_aload_n 0 dX9_must_72 rfl rfl ?_
  refine v_iconst (2 : Int32) dX9_must_73 (by decide) ?_
  obtain ⟨r5, s5, h5, h⟩ := fm_bds h
  refine v_cVi [.int (2 : Int32)] [.int v5] l_X9_131 (c_X9_children hI h5) yM_0 (by decide) rfl rfl ⟨rfl, rfl, by decide, by decide⟩ (Nat.le_of_ble_eq_true rfl) dX9_must_74 ?_
  refine v_icmp_ge 148 dX9_must_77 (by decide) h (fun h => ?_) (fun h => ?_)
  · refine v_lw [some (.ref (fm_ad w 0)), some (.int v1), some (.int v2), some (.int v3), some (.int v4), some (.int v5), none, none, none] rfl ⟨rfl, rfl, rfl, rfl, rfl, rfl, trivial⟩ ?_
    exact ke _ _ _ (Option.some.inj h).symm
  · refine v_iload dX9_must_80 rfl ?_
    refine v_bipush (10 : Int32) dX9_must_82 (by decide) ?_
    refine v_imul dX9_must_84 ?_
    refine v_istore (lv' := [some (.ref (fm_ad w 0)), some (.int v1), some (.int v2), some (.int v3), some (.int (v4 * (10 : Int32))), some (.int v5), none, none, none]) dX9_must_85 (by decide) rfl rfl ?_
    refine v_bipush (6 : Int32) dX9_must_87 (by decide) ?_
    refine v_istore (lv' := [some (.ref (fm_ad w 0)), some (.int v1), some (.int v2), some (.int v3), some (.int (v4 * (10 : Int32))), some (.int v5), some (.int (6 : Int32)), none, none]) dX9_must_89 (by decide) rfl rfl ?_
    obtain ⟨q6, h6, h⟩ := fm_ops h
    refine v_lw [some (.ref (fm_ad w 0)), some (.int v1), some (.int v2), some (.int v3), some (.int (v4 * (10 : Int32))), some (.int v5), some (.int (6 : Int32)), none, none] rfl ⟨rfl, rfl, rfl, rfl, rfl, rfl, rfl, trivial⟩ ?_
    refine i_X9_must_91 hI v1 v2 v3 (v4 * (10 : Int32)) v5 _ _ _ _ h6 (fun s6 x6_6 e => ?_)
    subst e
    dsimp only at h
    refine v_iinc (lv' := [some (.ref (fm_ad w 0)), some (.int v1), some (.int v2), some (.int v3), some (.int (v4 * (10 : Int32))), some (.int (v5 + (1 : Int32))), some (.int x6_6), none, none]) (1 : Int32) dX9_must_142 rfl (by decide) (by decide) rfl rfl ?_
    refine v_goto 70 dX9_must_145 (by decide) ?_
    refine v_lw [some (.ref (fm_ad w 0)), some (.int v1), some (.int v2), some (.int v3), some (.int (v4 * (10 : Int32))), some (.int (v5 + (1 : Int32))), none, none, none] rfl ⟨rfl, rfl, rfl, rfl, rfl, rfl, trivial⟩ ?_
    exact kb _ _ _ (Option.some.inj h).symm
set_option maxHeartbeats 4000000 in
theorem i_X9_must_70 {w : fm_W} {l : Launch} {o : fm_O} (hI : fm_I w 11) (v1 : Int32) (v2 : Int32) (v3 : Int32) (n : Nat) (s : fm_M) (v4 : Int32) (v5 : Int32) (q : fm_M × Int32 × Int32) (h : fm_it (fun s => f_X9_must_70 v1 v2 v3 s.1 s.2.1 s.2.2) n (s, v4, v5) = some q) (ke : ∀ (s : fm_M) (u4 : Int32) (u5 : Int32), q = (s, u4, u5) → fm_V w layM 11 l rm_X9_must cX9_must 9 RX9 (some .int) o 148 [some (.ref (fm_ad w 0)), some (.int v1), some (.int v2), some (.int v3), some (.int u4), some (.int u5), none, none, none] [] s) : fm_V w layM 11 l rm_X9_must cX9_must 9 RX9 (some .int) o 70 [some (.ref (fm_ad w 0)), some (.int v1), some (.int v2), some (.int v3), some (.int v4), some (.int v5), none, none, none] [] s :=
  fm_it_loop (body := (fun s => f_X9_must_70 v1 v2 v3 s.1 s.2.1 s.2.2)) (P := fun s => fm_V w layM 11 l rm_X9_must cX9_must 9 RX9 (some .int) o 70 [some (.ref (fm_ad w 0)), some (.int v1), some (.int v2), some (.int v3), some (.int s.2.1), some (.int s.2.2), none, none, none] [] s.1) (K := (fun q : fm_M × Int32 × Int32 => (∀ (s : fm_M) (u4 : Int32) (u5 : Int32), q = (s, u4, u5) → fm_V w layM 11 l rm_X9_must cX9_must 9 RX9 (some .int) o 148 [some (.ref (fm_ad w 0)), some (.int v1), some (.int v2), some (.int v3), some (.int u4), some (.int u5), none, none, none] [] s))) (fun s z hb kl kx => t_X9_must_70 hI v1 v2 v3 s.1 s.2.1 s.2.2 z hb (fun s u4 u5 e => kl _ e) (fun s u4 u5 e => (kx _ e) s u4 u5 rfl)) n (s, v4, v5) q h ke
def f_X9_must_154 (v3 : Int32) (v4 : Int32) (s : fm_M) (v5 : Int32) (v6 : Int32) : Option ((fm_M × Int32 × Int32) ⊕ (fm_M × Int32 × Int32)) :=
  if (7 : Int32) ≤ v6 then some (.inr (s, v5, v6)) else if fm_in v6 7 = true then some (.inl (s, (v5 + (s 10 v6.toNatClampNeg)), (v6 + (1 : Int32)))) else none
set_option maxHeartbeats 4000000 in
theorem t_X9_must_154 {w : fm_W} {l : Launch} {o : fm_O} (hI : fm_I w 11) (v3 : Int32) (v4 : Int32) (s : fm_M) (v5 : Int32) (v6 : Int32) (z : (fm_M × Int32 × Int32) ⊕ (fm_M × Int32 × Int32)) (h : f_X9_must_154 v3 v4 s v5 v6 = some z) (kb : ∀ (s : fm_M) (u5 : Int32) (u6 : Int32), z = .inl (s, u5, u6) → fm_V w layM 11 l rm_X9_must cX9_must 9 RX9 (some .int) o 154 [some (.ref (fm_ad w 0)), none, none, some (.int v3), some (.int v4), some (.int u5), some (.int u6), none, none] [] s) (ke : ∀ (s : fm_M) (u5 : Int32) (u6 : Int32), z = .inr (s, u5, u6) → fm_V w layM 11 l rm_X9_must cX9_must 9 RX9 (some .int) o 179 [some (.ref (fm_ad w 0)), none, none, some (.int v3), some (.int v4), some (.int u5), some (.int u6), none, none] [] s) : fm_V w layM 11 l rm_X9_must cX9_must 9 RX9 (some .int) o 154 [some (.ref (fm_ad w 0)), none, none, some (.int v3), some (.int v4), some (.int v5), some (.int v6), none, none] [] s := by
  unfold f_X9_must_154 at h
  refine v_iload dX9_must_154 rfl ?_
  refine v_bipush (7 : Int32) dX9_must_156 (by decide) ?_
  refine v_icmp_ge 179 dX9_must_158 (by decide) h (fun h => ?_) (fun h => ?_)
  · refine v_lw [some (.ref (fm_ad w 0)), none, none, some (.int v3), some (.int v4), some (.int v5), some (.int v6), none, none] rfl ⟨rfl, rfl, rfl, rfl, rfl, trivial⟩ ?_
    exact ke _ _ _ (Option.some.inj h).symm
  · refine v_iload dX9_must_161 rfl ?_
    refine v_aload_n 0 dX9_must_163 rfl rfl ?_
    refine v_getr 10 g_X9_37 yM_0 (by decide) rfl dX9_must_164 ?_
    refine v_iload dX9_must_167 rfl ?_
    obtain ⟨hi, h⟩ := fm_ift h
    refine v_iald (Or.inl ⟨(by decide), yM_10⟩) hi dX9_must_169 ?_
    refine v_iadd dX9_must_170 ?_
    refine v_istore (lv' := [some (.ref (fm_ad w 0)), none, none, some (.int v3), some (.int v4), some (.int (v5 + (s 10 v6.toNatClampNeg))), some (.int v6), none, none]) dX9_must_171 (by decide) rfl rfl ?_
    refine v_iinc (lv' := [some (.ref (fm_ad w 0)), none, none, some (.int v3), some (.int v4), some (.int (v5 + (s 10 v6.toNatClampNeg))), some (.int (v6 + (1 : Int32))), none, none]) (1 : Int32) dX9_must_173 rfl (by decide) (by decide) rfl rfl ?_
    refine v_goto 154 dX9_must_176 (by decide) ?_
    refine v_lw [some (.ref (fm_ad w 0)), none, none, some (.int v3), some (.int v4), some (.int (v5 + (s 10 v6.toNatClampNeg))), some (.int (v6 + (1 : Int32))), none, none] rfl ⟨rfl, rfl, rfl, rfl, rfl, trivial⟩ ?_
    exact kb _ _ _ (Option.some.inj h).symm
set_option maxHeartbeats 4000000 in
theorem i_X9_must_154 {w : fm_W} {l : Launch} {o : fm_O} (hI : fm_I w 11) (v3 : Int32) (v4 : Int32) (n : Nat) (s : fm_M) (v5 : Int32) (v6 : Int32) (q : fm_M × Int32 × Int32) (h : fm_it (fun s => f_X9_must_154 v3 v4 s.1 s.2.1 s.2.2) n (s, v5, v6) = some q) (ke : ∀ (s : fm_M) (u5 : Int32) (u6 : Int32), q = (s, u5, u6) → fm_V w layM 11 l rm_X9_must cX9_must 9 RX9 (some .int) o 179 [some (.ref (fm_ad w 0)), none, none, some (.int v3), some (.int v4), some (.int u5), some (.int u6), none, none] [] s) : fm_V w layM 11 l rm_X9_must cX9_must 9 RX9 (some .int) o 154 [some (.ref (fm_ad w 0)), none, none, some (.int v3), some (.int v4), some (.int v5), some (.int v6), none, none] [] s :=
  fm_it_loop (body := (fun s => f_X9_must_154 v3 v4 s.1 s.2.1 s.2.2)) (P := fun s => fm_V w layM 11 l rm_X9_must cX9_must 9 RX9 (some .int) o 154 [some (.ref (fm_ad w 0)), none, none, some (.int v3), some (.int v4), some (.int s.2.1), some (.int s.2.2), none, none] [] s.1) (K := (fun q : fm_M × Int32 × Int32 => (∀ (s : fm_M) (u5 : Int32) (u6 : Int32), q = (s, u5, u6) → fm_V w layM 11 l rm_X9_must cX9_must 9 RX9 (some .int) o 179 [some (.ref (fm_ad w 0)), none, none, some (.int v3), some (.int v4), some (.int u5), some (.int u6), none, none] [] s))) (fun s z hb kl kx => t_X9_must_154 hI v3 v4 s.1 s.2.1 s.2.2 z hb (fun s u5 u6 e => kl _ e) (fun s u5 u6 e => (kx _ e) s u5 u6 rfl)) n (s, v5, v6) q h ke
def f_X9_must_187 (v3 : Int32) (v4 : Int32) (v5 : Int32) (s : fm_M) (v6 : Int32) (v7 : Int32) : Option ((fm_M × Int32 × Int32) ⊕ (fm_M × Int32 × Int32)) :=
  if v7 ≤ 0 then some (.inr (s, v6, v7)) else if v7 = 0 then none else some (.inl (s, v7, (v6 - v6 / v7 * v7)))
set_option maxHeartbeats 4000000 in
theorem t_X9_must_187 {w : fm_W} {l : Launch} {o : fm_O} (hI : fm_I w 11) (v3 : Int32) (v4 : Int32) (v5 : Int32) (s : fm_M) (v6 : Int32) (v7 : Int32) (z : (fm_M × Int32 × Int32) ⊕ (fm_M × Int32 × Int32)) (h : f_X9_must_187 v3 v4 v5 s v6 v7 = some z) (kb : ∀ (s : fm_M) (u6 : Int32) (u7 : Int32), z = .inl (s, u6, u7) → fm_V w layM 11 l rm_X9_must cX9_must 9 RX9 (some .int) o 187 [none, none, none, some (.int v3), some (.int v4), some (.int v5), some (.int u6), some (.int u7), none] [] s) (ke : ∀ (s : fm_M) (u6 : Int32) (u7 : Int32), z = .inr (s, u6, u7) → fm_V w layM 11 l rm_X9_must cX9_must 9 RX9 (some .int) o 210 [none, none, none, some (.int v3), some (.int v4), some (.int v5), some (.int u6), some (.int u7), none] [] s) : fm_V w layM 11 l rm_X9_must cX9_must 9 RX9 (some .int) o 187 [none, none, none, some (.int v3), some (.int v4), some (.int v5), some (.int v6), some (.int v7), none] [] s := by
  unfold f_X9_must_187 at h
  refine v_iload dX9_must_187 rfl ?_
  refine v_if_le 210 dX9_must_189 (by decide) h (fun h => ?_) (fun h => ?_)
  · refine v_lw [none, none, none, some (.int v3), some (.int v4), some (.int v5), some (.int v6), some (.int v7), none] rfl ⟨rfl, rfl, rfl, rfl, rfl, trivial⟩ ?_
    exact ke _ _ _ (Option.some.inj h).symm
  · refine v_iload dX9_must_192 rfl ?_
    refine v_iload dX9_must_194 rfl ?_
    obtain ⟨hz, h⟩ := fm_ifz h
    refine v_irem dX9_must_196 hz ?_
    refine v_istore (lv' := [none, none, none, some (.int v3), some (.int v4), some (.int v5), some (.int v6), some (.int v7), some (.int (v6 - v6 / v7 * v7))]) dX9_must_197 (by decide) rfl rfl ?_
    refine v_iload dX9_must_199 rfl ?_
    refine v_istore (lv' := [none, none, none, some (.int v3), some (.int v4), some (.int v5), some (.int v7), some (.int v7), some (.int (v6 - v6 / v7 * v7))]) dX9_must_201 (by decide) rfl rfl ?_
    refine v_iload dX9_must_203 rfl ?_
    refine v_istore (lv' := [none, none, none, some (.int v3), some (.int v4), some (.int v5), some (.int v7), some (.int (v6 - v6 / v7 * v7)), some (.int (v6 - v6 / v7 * v7))]) dX9_must_205 (by decide) rfl rfl ?_
    refine v_goto 187 dX9_must_207 (by decide) ?_
    refine v_lw [none, none, none, some (.int v3), some (.int v4), some (.int v5), some (.int v7), some (.int (v6 - v6 / v7 * v7)), none] rfl ⟨rfl, rfl, rfl, rfl, rfl, trivial⟩ ?_
    exact kb _ _ _ (Option.some.inj h).symm
set_option maxHeartbeats 4000000 in
theorem i_X9_must_187 {w : fm_W} {l : Launch} {o : fm_O} (hI : fm_I w 11) (v3 : Int32) (v4 : Int32) (v5 : Int32) (n : Nat) (s : fm_M) (v6 : Int32) (v7 : Int32) (q : fm_M × Int32 × Int32) (h : fm_it (fun s => f_X9_must_187 v3 v4 v5 s.1 s.2.1 s.2.2) n (s, v6, v7) = some q) (ke : ∀ (s : fm_M) (u6 : Int32) (u7 : Int32), q = (s, u6, u7) → fm_V w layM 11 l rm_X9_must cX9_must 9 RX9 (some .int) o 210 [none, none, none, some (.int v3), some (.int v4), some (.int v5), some (.int u6), some (.int u7), none] [] s) : fm_V w layM 11 l rm_X9_must cX9_must 9 RX9 (some .int) o 187 [none, none, none, some (.int v3), some (.int v4), some (.int v5), some (.int v6), some (.int v7), none] [] s :=
  fm_it_loop (body := (fun s => f_X9_must_187 v3 v4 v5 s.1 s.2.1 s.2.2)) (P := fun s => fm_V w layM 11 l rm_X9_must cX9_must 9 RX9 (some .int) o 187 [none, none, none, some (.int v3), some (.int v4), some (.int v5), some (.int s.2.1), some (.int s.2.2), none] [] s.1) (K := (fun q : fm_M × Int32 × Int32 => (∀ (s : fm_M) (u6 : Int32) (u7 : Int32), q = (s, u6, u7) → fm_V w layM 11 l rm_X9_must cX9_must 9 RX9 (some .int) o 210 [none, none, none, some (.int v3), some (.int v4), some (.int v5), some (.int u6), some (.int u7), none] [] s))) (fun s z hb kl kx => t_X9_must_187 hI v3 v4 v5 s.1 s.2.1 s.2.2 z hb (fun s u6 u7 e => kl _ e) (fun s u6 u7 e => (kx _ e) s u6 u7 rfl)) n (s, v6, v7) q h ke
def f_X9_must_227 (sk0 : Int32) (s : fm_M) : Option (Int32 × fm_M) :=
  some (sk0, s)
set_option maxHeartbeats 4000000 in
theorem t_X9_must_227 {w : fm_W} {l : Launch} {o : fm_O} (hI : fm_I w 11) (sk0 : Int32) (s : fm_M) (z : Int32 × fm_M) (h : f_X9_must_227 sk0 s = some z) (ho : ∀ (r : Int32) (s : fm_M), z = (r, s) → o = (some (.int r), s)) : fm_V w layM 11 l rm_X9_must cX9_must 9 RX9 (some .int) o 227 [none, none, none, none, none, none, none, none, none] [.int sk0] s := by
  unfold f_X9_must_227 at h
  exact v_iret rfl (ho _ _ (Option.some.inj h).symm) dX9_must_227
def f_X9_must (v1 : Int32) (v2 : Int32) (v3 : Int32) (s : fm_M) : Option (Int32 × fm_M) :=
  fm_bd (f_X9_in v1 (0 : Int32) (6 : Int32) s) (fun r1 s1 => if r1 = 0 then f_X9_must_29 s1 else fm_bd (f_X9_in v2 (0 : Int32) (10 : Int32) s1) (fun r2 s2 => if r2 = 0 then f_X9_must_29 s2 else fm_bd (f_X9_in v3 (0 : Int32) (1 : Int32) s2) (fun r3 s3 => if r3 = 0 then f_X9_must_29 s3 else fm_op (fm_it (fun (yy : fm_M × Int32) => f_X9_must_37 v1 v2 v3 (1 : Int32) yy.1 yy.2) fm_fu (s3, (0 : Int32))) (fun q4 => ((fun (s4 : fm_M) (x4_5 : Int32) => fm_op (fm_it (fun (yy : fm_M × Int32 × Int32) => f_X9_must_70 v1 v2 v3 yy.1 yy.2.1 yy.2.2) fm_fu (s4, (1 : Int32), (0 : Int32))) (fun q7 => ((fun (s7 : fm_M) (x7_4 : Int32) (x7_5 : Int32) => fm_op (fm_it (fun (yy : fm_M × Int32 × Int32) => f_X9_must_154 v3 x7_4 yy.1 yy.2.1 yy.2.2) fm_fu (s7, (0 : Int32), v1)) (fun q8 => ((fun (s8 : fm_M) (x8_5 : Int32) (x8_6 : Int32) => fm_op (fm_it (fun (yy : fm_M × Int32 × Int32) => f_X9_must_187 v3 x7_4 x8_5 yy.1 yy.2.1 yy.2.2) fm_fu (s8, x8_5, x7_4)) (fun q9 => ((fun (s9 : fm_M) (x9_6 : Int32) (x9_7 : Int32) => if v3 = 0 then if x9_6 = 0 then none else f_X9_must_227 (x8_5 / x9_6) s9 else if x9_6 = 0 then none else f_X9_must_227 (x7_4 / x9_6) s9)) q9.1 q9.2.1 q9.2.2))) q8.1 q8.2.1 q8.2.2))) q7.1 q7.2.1 q7.2.2))) q4.1 q4.2))))
set_option maxHeartbeats 4000000 in
theorem e_X9_must {w : fm_W} {l : Launch} {o : fm_O} (hI : fm_I w 11) (v1 : Int32) (v2 : Int32) (v3 : Int32) (s : fm_M) (z : Int32 × fm_M) (h : f_X9_must v1 v2 v3 s = some z) (ho : ∀ (r : Int32) (s : fm_M), z = (r, s) → o = (some (.int r), s)) : fm_V w layM 11 l rm_X9_must cX9_must 9 RX9 (some .int) o 0 [some (.ref (fm_ad w 0)), some (.int v1), some (.int v2), some (.int v3), none, none, none, none, none] [] s := by
  unfold f_X9_must at h
  refine v_iload_n 1 dX9_must_0 rfl rfl ?_
  refine v_iconst (0 : Int32) dX9_must_1 (by decide) ?_
  refine v_bipush (6 : Int32) dX9_must_2 (by decide) ?_
  obtain ⟨r1, s1, h1, h⟩ := fm_bds h
  refine v_cSi [.int v1, .int (0 : Int32), .int (6 : Int32)] [] l_X9_50 (c_X9_in hI h1) rfl rfl ⟨rfl, rfl, by decide, by decide⟩ (Nat.le_of_ble_eq_true rfl) dX9_must_4 ?_
  refine v_if_eq 29 dX9_must_7 (by decide) h (fun h => ?_) (fun h => ?_)
  · refine v_lw [none, none, none, none, none, none, none, none, none] rfl trivial ?_
    exact t_X9_must_29 hI s1 _ h ho
  · refine v_iload_n 2 dX9_must_10 rfl rfl ?_
    refine v_iconst (0 : Int32) dX9_must_11 (by decide) ?_
    refine v_bipush (10 : Int32) dX9_must_12 (by decide) ?_
    obtain ⟨r2, s2, h2, h⟩ := fm_bds h
    refine v_cSi [.int v2, .int (0 : Int32), .int (10 : Int32)] [] l_X9_50 (c_X9_in hI h2) rfl rfl ⟨rfl, rfl, by decide, by decide⟩ (Nat.le_of_ble_eq_true rfl) dX9_must_14 ?_
    refine v_if_eq 29 dX9_must_17 (by decide) h (fun h => ?_) (fun h => ?_)
    · refine v_lw [none, none, none, none, none, none, none, none, none] rfl trivial ?_
      exact t_X9_must_29 hI s2 _ h ho
    · refine v_iload_n 3 dX9_must_20 rfl rfl ?_
      refine v_iconst (0 : Int32) dX9_must_21 (by decide) ?_
      refine v_iconst (1 : Int32) dX9_must_22 (by decide) ?_
      obtain ⟨r3, s3, h3, h⟩ := fm_bds h
      refine v_cSi [.int v3, .int (0 : Int32), .int (1 : Int32)] [] l_X9_50 (c_X9_in hI h3) rfl rfl ⟨rfl, rfl, by decide, by decide⟩ (Nat.le_of_ble_eq_true rfl) dX9_must_23 ?_
      refine v_if_ne 31 dX9_must_26 (by decide) h (fun h => ?_) (fun h => ?_)
      · refine v_iconst (1 : Int32) dX9_must_31 (by decide) ?_
        refine v_istore (lv' := [some (.ref (fm_ad w 0)), some (.int v1), some (.int v2), some (.int v3), some (.int (1 : Int32)), none, none, none, none]) dX9_must_32 (by decide) rfl rfl ?_
        refine v_iconst (0 : Int32) dX9_must_34 (by decide) ?_
        refine v_istore (lv' := [some (.ref (fm_ad w 0)), some (.int v1), some (.int v2), some (.int v3), some (.int (1 : Int32)), some (.int (0 : Int32)), none, none, none]) dX9_must_35 (by decide) rfl rfl ?_
        obtain ⟨q4, h4, h⟩ := fm_ops h
        refine v_lw [some (.ref (fm_ad w 0)), some (.int v1), some (.int v2), some (.int v3), some (.int (1 : Int32)), some (.int (0 : Int32)), none, none, none] rfl ⟨rfl, rfl, rfl, rfl, rfl, rfl, trivial⟩ ?_
        refine i_X9_must_37 hI v1 v2 v3 (1 : Int32) _ _ _ _ h4 (fun s4 x4_5 e => ?_)
        subst e
        dsimp only at h
        refine v_iconst (0 : Int32) dX9_must_67 (by decide) ?_
        refine v_istore (lv' := [some (.ref (fm_ad w 0)), some (.int v1), some (.int v2), some (.int v3), some (.int (1 : Int32)), some (.int (0 : Int32)), none, none, none]) dX9_must_68 (by decide) rfl rfl ?_
        obtain ⟨q7, h7, h⟩ := fm_ops h
        refine v_lw [some (.ref (fm_ad w 0)), some (.int v1), some (.int v2), some (.int v3), some (.int (1 : Int32)), some (.int (0 : Int32)), none, none, none] rfl ⟨rfl, rfl, rfl, rfl, rfl, rfl, trivial⟩ ?_
        refine i_X9_must_70 hI v1 v2 v3 _ _ _ _ _ h7 (fun s7 x7_4 x7_5 e => ?_)
        subst e
        dsimp only at h
        refine v_iconst (0 : Int32) dX9_must_148 (by decide) ?_
        refine v_istore (lv' := [some (.ref (fm_ad w 0)), some (.int v1), some (.int v2), some (.int v3), some (.int x7_4), some (.int (0 : Int32)), none, none, none]) dX9_must_149 (by decide) rfl rfl ?_
        refine v_iload_n 1 dX9_must_151 rfl rfl ?_
        refine v_istore (lv' := [some (.ref (fm_ad w 0)), some (.int v1), some (.int v2), some (.int v3), some (.int x7_4), some (.int (0 : Int32)), some (.int v1), none, none]) dX9_must_152 (by decide) rfl rfl ?_
        obtain ⟨q8, h8, h⟩ := fm_ops h
        refine v_lw [some (.ref (fm_ad w 0)), none, none, some (.int v3), some (.int x7_4), some (.int (0 : Int32)), some (.int v1), none, none] rfl ⟨rfl, rfl, rfl, rfl, rfl, trivial⟩ ?_
        refine i_X9_must_154 hI v3 x7_4 _ _ _ _ _ h8 (fun s8 x8_5 x8_6 e => ?_)
        subst e
        dsimp only at h
        refine v_iload dX9_must_179 rfl ?_
        refine v_istore (lv' := [some (.ref (fm_ad w 0)), none, none, some (.int v3), some (.int x7_4), some (.int x8_5), some (.int x8_5), none, none]) dX9_must_181 (by decide) rfl rfl ?_
        refine v_iload dX9_must_183 rfl ?_
        refine v_istore (lv' := [some (.ref (fm_ad w 0)), none, none, some (.int v3), some (.int x7_4), some (.int x8_5), some (.int x8_5), some (.int x7_4), none]) dX9_must_185 (by decide) rfl rfl ?_
        obtain ⟨q9, h9, h⟩ := fm_ops h
        refine v_lw [none, none, none, some (.int v3), some (.int x7_4), some (.int x8_5), some (.int x8_5), some (.int x7_4), none] rfl ⟨rfl, rfl, rfl, rfl, rfl, trivial⟩ ?_
        refine i_X9_must_187 hI v3 x7_4 x8_5 _ _ _ _ _ h9 (fun s9 x9_6 x9_7 e => ?_)
        subst e
        dsimp only at h
        refine v_iload_n 3 dX9_must_210 rfl rfl ?_
        refine v_if_ne 222 dX9_must_211 (by decide) h (fun h => ?_) (fun h => ?_)
        · refine v_iload dX9_must_222 rfl ?_
          refine v_iload dX9_must_224 rfl ?_
          obtain ⟨hz, h⟩ := fm_ifz h
          refine v_idiv dX9_must_226 hz ?_
          refine v_lw [none, none, none, none, none, none, none, none, none] rfl trivial ?_
          exact t_X9_must_227 hI (x7_4 / x9_6) s9 _ h ho
        · refine v_iload dX9_must_214 rfl ?_
          refine v_iload dX9_must_216 rfl ?_
          obtain ⟨hz, h⟩ := fm_ifz h
          refine v_idiv dX9_must_218 hz ?_
          refine v_goto 227 dX9_must_219 (by decide) ?_
          refine v_lw [none, none, none, none, none, none, none, none, none] rfl trivial ?_
          exact t_X9_must_227 hI (x8_5 / x9_6) s9 _ h ho
      · refine v_lw [none, none, none, none, none, none, none, none, none] rfl trivial ?_
        exact t_X9_must_29 hI s3 _ h ho
theorem c_X9_must {w : fm_W} {l : Launch} (hI : fm_I w 11) {v1 : Int32} {v2 : Int32} {v3 : Int32} {s : fm_M} {r : Int32} {s2 : fm_M} (h : f_X9_must v1 v2 v3 s = some (r, s2)) : fm_C w layM 11 l yX9_must cX9_must 9 (some .int) rm_X9_must [.ref (fm_ad w 0), .int v1, .int v2, .int v3] s (some (.int r), s2) :=
  fm_of hI (by decide) rfl (Nat.le_of_ble_eq_true rfl) (e_X9_must hI v1 v2 v3 s _ h (fun r s e => by cases e; rfl))
-- X9_pass
abbrev rm_X9_pass : Room := { frames := 2, cells := 0, slots := 0, locals := 47 }
def f_X9_pass_38 (v1 : Int32) (s : fm_M) (v2 : Int32) (v3 : Int32) : Option ((fm_M × Int32 × Int32) ⊕ (fm_M × Int32 × Int32)) :=
  if v1 ≤ v3 then some (.inr (s, v2, v3)) else fm_bd (f_X9_passes s) (fun r3 s3 => some (.inl (s3, (v2 + r3), (v3 + (1 : Int32)))))
set_option maxHeartbeats 4000000 in
theorem t_X9_pass_38 {w : fm_W} {l : Launch} {o : fm_O} (hI : fm_I w 11) (v1 : Int32) (s : fm_M) (v2 : Int32) (v3 : Int32) (z : (fm_M × Int32 × Int32) ⊕ (fm_M × Int32 × Int32)) (h : f_X9_pass_38 v1 s v2 v3 = some z) (kb : ∀ (s : fm_M) (u2 : Int32) (u3 : Int32), z = .inl (s, u2, u3) → fm_V w layM 11 l rm_X9_pass cX9_pass 4 RX9 (some .int) o 38 [some (.ref (fm_ad w 0)), some (.int v1), some (.int u2), some (.int u3)] [] s) (ke : ∀ (s : fm_M) (u2 : Int32) (u3 : Int32), z = .inr (s, u2, u3) → fm_V w layM 11 l rm_X9_pass cX9_pass 4 RX9 (some .int) o 56 [some (.ref (fm_ad w 0)), some (.int v1), some (.int u2), some (.int u3)] [] s) : fm_V w layM 11 l rm_X9_pass cX9_pass 4 RX9 (some .int) o 38 [some (.ref (fm_ad w 0)), some (.int v1), some (.int v2), some (.int v3)] [] s := by
  unfold f_X9_pass_38 at h
  refine v_iload_n 3 dX9_pass_38 rfl rfl ?_
  refine v_iload_n 1 dX9_pass_39 rfl rfl ?_
  refine v_icmp_ge 56 dX9_pass_40 (by decide) h (fun h => ?_) (fun h => ?_)
  · refine v_lw [some (.ref (fm_ad w 0)), some (.int v1), some (.int v2), some (.int v3)] rfl ⟨rfl, rfl, rfl, rfl, trivial⟩ ?_
    exact ke _ _ _ (Option.some.inj h).symm
  · refine v_iload_n 2 dX9_pass_43 rfl rfl ?_
    refine v_aload_n 0 dX9_pass_44 rfl rfl ?_
    obtain ⟨r3, s3, h3, h⟩ := fm_bds h
    refine v_cVi [] [.int v2] l_X9_137 (c_X9_passes hI h3) yM_0 (by decide) rfl rfl ⟨rfl, rfl, by decide, by decide⟩ (Nat.le_of_ble_eq_true rfl) dX9_pass_45 ?_
    refine v_iadd dX9_pass_48 ?_
    refine v_istore_n (lv' := [some (.ref (fm_ad w 0)), some (.int v1), some (.int (v2 + r3)), some (.int v3)]) 2 dX9_pass_49 rfl (by decide) rfl rfl ?_
    refine v_iinc (lv' := [some (.ref (fm_ad w 0)), some (.int v1), some (.int (v2 + r3)), some (.int (v3 + (1 : Int32)))]) (1 : Int32) dX9_pass_50 rfl (by decide) (by decide) rfl rfl ?_
    refine v_goto 38 dX9_pass_53 (by decide) ?_
    refine v_lw [some (.ref (fm_ad w 0)), some (.int v1), some (.int (v2 + r3)), some (.int (v3 + (1 : Int32)))] rfl ⟨rfl, rfl, rfl, rfl, trivial⟩ ?_
    exact kb _ _ _ (Option.some.inj h).symm
set_option maxHeartbeats 4000000 in
theorem i_X9_pass_38 {w : fm_W} {l : Launch} {o : fm_O} (hI : fm_I w 11) (v1 : Int32) (n : Nat) (s : fm_M) (v2 : Int32) (v3 : Int32) (q : fm_M × Int32 × Int32) (h : fm_it (fun s => f_X9_pass_38 v1 s.1 s.2.1 s.2.2) n (s, v2, v3) = some q) (ke : ∀ (s : fm_M) (u2 : Int32) (u3 : Int32), q = (s, u2, u3) → fm_V w layM 11 l rm_X9_pass cX9_pass 4 RX9 (some .int) o 56 [some (.ref (fm_ad w 0)), some (.int v1), some (.int u2), some (.int u3)] [] s) : fm_V w layM 11 l rm_X9_pass cX9_pass 4 RX9 (some .int) o 38 [some (.ref (fm_ad w 0)), some (.int v1), some (.int v2), some (.int v3)] [] s :=
  fm_it_loop (body := (fun s => f_X9_pass_38 v1 s.1 s.2.1 s.2.2)) (P := fun s => fm_V w layM 11 l rm_X9_pass cX9_pass 4 RX9 (some .int) o 38 [some (.ref (fm_ad w 0)), some (.int v1), some (.int s.2.1), some (.int s.2.2)] [] s.1) (K := (fun q : fm_M × Int32 × Int32 => (∀ (s : fm_M) (u2 : Int32) (u3 : Int32), q = (s, u2, u3) → fm_V w layM 11 l rm_X9_pass cX9_pass 4 RX9 (some .int) o 56 [some (.ref (fm_ad w 0)), some (.int v1), some (.int u2), some (.int u3)] [] s))) (fun s z hb kl kx => t_X9_pass_38 hI v1 s.1 s.2.1 s.2.2 z hb (fun s u2 u3 e => kl _ e) (fun s u2 u3 e => (kx _ e) s u2 u3 rfl)) n (s, v2, v3) q h ke
def f_X9_pass (v1 : Int32) (s : fm_M) : Option (Int32 × fm_M) :=
  fm_bd (f_X9_in v1 (1 : Int32) (40 : Int32) s) (fun r1 s1 => if r1 = 0 then some ((-1 : Int32), s1) else if fm_in (28 : Int32) 29 = true then if ((s1 4 (28 : Int32).toNatClampNeg) + v1) ≤ (999 : Int32) then fm_bd (f_X9_keeps s1) (fun r2 s2 => fm_op (fm_it (fun (yy : fm_M × Int32 × Int32) => f_X9_pass_38 v1 yy.1 yy.2.1 yy.2.2) fm_fu (s2, (0 : Int32), (0 : Int32))) (fun q4 => ((fun (s4 : fm_M) (x4_2 : Int32) (x4_3 : Int32) => some (x4_2, s4))) q4.1 q4.2.1 q4.2.2)) else some ((-2 : Int32), s1) else none)
set_option maxHeartbeats 4000000 in
theorem e_X9_pass {w : fm_W} {l : Launch} {o : fm_O} (hI : fm_I w 11) (v1 : Int32) (s : fm_M) (z : Int32 × fm_M) (h : f_X9_pass v1 s = some z) (ho : ∀ (r : Int32) (s : fm_M), z = (r, s) → o = (some (.int r), s)) : fm_V w layM 11 l rm_X9_pass cX9_pass 4 RX9 (some .int) o 0 [some (.ref (fm_ad w 0)), some (.int v1), none, none] [] s := by
  unfold f_X9_pass at h
  refine v_iload_n 1 dX9_pass_0 rfl rfl ?_
  refine v_iconst (1 : Int32) dX9_pass_1 (by decide) ?_
  refine v_bipush (40 : Int32) dX9_pass_2 (by decide) ?_
  obtain ⟨r1, s1, h1, h⟩ := fm_bds h
  refine v_cSi [.int v1, .int (1 : Int32), .int (40 : Int32)] [] l_X9_50 (c_X9_in hI h1) rfl rfl ⟨rfl, rfl, by decide, by decide⟩ (Nat.le_of_ble_eq_true rfl) dX9_pass_4 ?_
  refine v_if_ne 12 dX9_pass_7 (by decide) h (fun h => ?_) (fun h => ?_)
  · refine v_aload_n 0 dX9_pass_12 rfl rfl ?_
    refine v_getr 4 g_X9_19 yM_0 (by decide) rfl dX9_pass_13 ?_
    refine v_bipush (28 : Int32) dX9_pass_16 (by decide) ?_
    obtain ⟨hi, h⟩ := fm_ift h
    refine v_iald (Or.inl ⟨(by decide), yM_4⟩) hi dX9_pass_18 ?_
    refine v_iload_n 1 dX9_pass_19 rfl rfl ?_
    refine v_iadd dX9_pass_20 ?_
    refine v_sipush (999 : Int32) dX9_pass_21 (by decide) ?_
    refine v_icmp_le 30 dX9_pass_24 (by decide) h (fun h => ?_) (fun h => ?_)
    · refine v_aload_n 0 dX9_pass_30 rfl rfl ?_
      obtain ⟨r2, s2, h2, h⟩ := fm_bds h
      refine v_cVv [] [] l_X9_115 (c_X9_keeps hI h2) yM_0 (by decide) rfl rfl ⟨rfl, rfl, by decide, by decide⟩ (Nat.le_of_ble_eq_true rfl) dX9_pass_31 ?_
      refine v_iconst (0 : Int32) dX9_pass_34 (by decide) ?_
      refine v_istore_n (lv' := [some (.ref (fm_ad w 0)), some (.int v1), some (.int (0 : Int32)), none]) 2 dX9_pass_35 rfl (by decide) rfl rfl ?_
      refine v_iconst (0 : Int32) dX9_pass_36 (by decide) ?_
      refine v_istore_n (lv' := [some (.ref (fm_ad w 0)), some (.int v1), some (.int (0 : Int32)), some (.int (0 : Int32))]) 3 dX9_pass_37 rfl (by decide) rfl rfl ?_
      obtain ⟨q4, h4, h⟩ := fm_ops h
      refine v_lw [some (.ref (fm_ad w 0)), some (.int v1), some (.int (0 : Int32)), some (.int (0 : Int32))] rfl ⟨rfl, rfl, rfl, rfl, trivial⟩ ?_
      refine i_X9_pass_38 hI v1 _ _ _ _ _ h4 (fun s4 x4_2 x4_3 e => ?_)
      subst e
      dsimp only at h
      refine v_iload_n 2 dX9_pass_56 rfl rfl ?_
      exact v_iret rfl (ho _ _ (Option.some.inj h).symm) dX9_pass_57
    · refine v_bipush (-2 : Int32) dX9_pass_27 (by decide) ?_
      exact v_iret rfl (ho _ _ (Option.some.inj h).symm) dX9_pass_29
  · refine v_iconst (-1 : Int32) dX9_pass_10 (by decide) ?_
    exact v_iret rfl (ho _ _ (Option.some.inj h).symm) dX9_pass_11
theorem c_X9_pass {w : fm_W} {l : Launch} (hI : fm_I w 11) {v1 : Int32} {s : fm_M} {r : Int32} {s2 : fm_M} (h : f_X9_pass v1 s = some (r, s2)) : fm_C w layM 11 l yX9_pass cX9_pass 4 (some .int) rm_X9_pass [.ref (fm_ad w 0), .int v1] s (some (.int r), s2) :=
  fm_of hI (by decide) rfl (Nat.le_of_ble_eq_true rfl) (e_X9_pass hI v1 s _ h (fun r s e => by cases e; rfl))
-- X9_pays
abbrev rm_X9_pays : Room := { frames := 6, cells := 0, slots := 0, locals := 133 }
def f_X9_pays_29 (s : fm_M) : Option (Int32 × fm_M) :=
  some ((-4 : Int32), s)
set_option maxHeartbeats 4000000 in
theorem t_X9_pays_29 {w : fm_W} {l : Launch} {o : fm_O} (hI : fm_I w 11) (s : fm_M) (z : Int32 × fm_M) (h : f_X9_pays_29 s = some z) (ho : ∀ (r : Int32) (s : fm_M), z = (r, s) → o = (some (.int r), s)) : fm_V w layM 11 l rm_X9_pays cX9_pays 4 RX9 (some .int) o 29 [none, none, none, none] [] s := by
  unfold f_X9_pays_29 at h
  refine v_bipush (-4 : Int32) dX9_pays_29 (by decide) ?_
  exact v_iret rfl (ho _ _ (Option.some.inj h).symm) dX9_pays_31
def f_X9_pays_70 (sk0 : Int32) (s : fm_M) : Option (Int32 × fm_M) :=
  some (sk0, s)
set_option maxHeartbeats 4000000 in
theorem t_X9_pays_70 {w : fm_W} {l : Launch} {o : fm_O} (hI : fm_I w 11) (sk0 : Int32) (s : fm_M) (z : Int32 × fm_M) (h : f_X9_pays_70 sk0 s = some z) (ho : ∀ (r : Int32) (s : fm_M), z = (r, s) → o = (some (.int r), s)) : fm_V w layM 11 l rm_X9_pays cX9_pays 4 RX9 (some .int) o 70 [none, none, none, none] [.int sk0] s := by
  unfold f_X9_pays_70 at h
  exact v_iret rfl (ho _ _ (Option.some.inj h).symm) dX9_pays_70
def f_X9_pays_59 (s : fm_M) : Option (Int32 × fm_M) :=
  f_X9_pays_70 (-4 : Int32) s
set_option maxHeartbeats 4000000 in
theorem t_X9_pays_59 {w : fm_W} {l : Launch} {o : fm_O} (hI : fm_I w 11) (s : fm_M) (z : Int32 × fm_M) (h : f_X9_pays_59 s = some z) (ho : ∀ (r : Int32) (s : fm_M), z = (r, s) → o = (some (.int r), s)) : fm_V w layM 11 l rm_X9_pays cX9_pays 4 RX9 (some .int) o 59 [none, none, none, none] [] s := by
  unfold f_X9_pays_59 at h
  refine v_bipush (-4 : Int32) dX9_pays_59 (by decide) ?_
  refine v_goto 70 dX9_pays_61 (by decide) ?_
  refine v_lw [none, none, none, none] rfl trivial ?_
  exact t_X9_pays_70 hI (-4 : Int32) s _ h ho
def f_X9_pays (s : fm_M) : Option (Int32 × fm_M) :=
  fm_bd (f_X9_holds s) (fun r1 s1 => fm_bd (f_X9_goesBut (-4 : Int32) s1) (fun r2 s2 => fm_bd (f_X9_lowestFree s2) (fun r3 s3 => if r3 = (-4 : Int32) then f_X9_pays_29 s3 else fm_bd (f_X9_isLaid s3) (fun r4 s4 => if r4 = 0 then fm_bd (f_X9_begin r3 (2 : Int32) (3 : Int32) (0 : Int32) s4) (fun r5 s5 => fm_bd (f_X9_goesBut (-4 : Int32) s5) (fun r6 s6 => if r2 = (-4 : Int32) then f_X9_pays_59 s6 else if r6 = (-4 : Int32) then f_X9_pays_59 s6 else f_X9_pays_70 (((100 : Int32) + r2) - r6) s6)) else f_X9_pays_29 s4))))
set_option maxHeartbeats 4000000 in
theorem e_X9_pays {w : fm_W} {l : Launch} {o : fm_O} (hI : fm_I w 11) (s : fm_M) (z : Int32 × fm_M) (h : f_X9_pays s = some z) (ho : ∀ (r : Int32) (s : fm_M), z = (r, s) → o = (some (.int r), s)) : fm_V w layM 11 l rm_X9_pays cX9_pays 4 RX9 (some .int) o 0 [some (.ref (fm_ad w 0)), none, none, none] [] s := by
  unfold f_X9_pays at h
  refine v_aload_n 0 dX9_pays_0 rfl rfl ?_
  obtain ⟨r1, s1, h1, h⟩ := fm_bds h
  refine v_cVv [] [] l_X9_158 (c_X9_holds hI h1) yM_0 (by decide) rfl rfl ⟨rfl, rfl, by decide, by decide⟩ (Nat.le_of_ble_eq_true rfl) dX9_pays_1 ?_
  refine v_aload_n 0 dX9_pays_4 rfl rfl ?_
  refine v_bipush (-4 : Int32) dX9_pays_5 (by decide) ?_
  obtain ⟨r2, s2, h2, h⟩ := fm_bds h
  refine v_cVi [.int (-4 : Int32)] [] l_X9_161 (c_X9_goesBut hI h2) yM_0 (by decide) rfl rfl ⟨rfl, rfl, by decide, by decide⟩ (Nat.le_of_ble_eq_true rfl) dX9_pays_7 ?_
  refine v_istore_n (lv' := [some (.ref (fm_ad w 0)), some (.int r2), none, none]) 1 dX9_pays_10 rfl (by decide) rfl rfl ?_
  refine v_aload_n 0 dX9_pays_11 rfl rfl ?_
  obtain ⟨r3, s3, h3, h⟩ := fm_bds h
  refine v_cVi [] [] l_X9_167 (c_X9_lowestFree hI h3) yM_0 (by decide) rfl rfl ⟨rfl, rfl, by decide, by decide⟩ (Nat.le_of_ble_eq_true rfl) dX9_pays_12 ?_
  refine v_istore_n (lv' := [some (.ref (fm_ad w 0)), some (.int r2), some (.int r3), none]) 2 dX9_pays_15 rfl (by decide) rfl rfl ?_
  refine v_iload_n 2 dX9_pays_16 rfl rfl ?_
  refine v_bipush (-4 : Int32) dX9_pays_17 (by decide) ?_
  refine v_icmp_eq 29 dX9_pays_19 (by decide) h (fun h => ?_) (fun h => ?_)
  · refine v_lw [none, none, none, none] rfl trivial ?_
    exact t_X9_pays_29 hI s3 _ h ho
  · refine v_aload_n 0 dX9_pays_22 rfl rfl ?_
    obtain ⟨r4, s4, h4, h⟩ := fm_bds h
    refine v_cVi [] [] l_X9_121 (c_X9_isLaid hI h4) yM_0 (by decide) rfl rfl ⟨rfl, rfl, by decide, by decide⟩ (Nat.le_of_ble_eq_true rfl) dX9_pays_23 ?_
    refine v_if_eq 32 dX9_pays_26 (by decide) h (fun h => ?_) (fun h => ?_)
    · refine v_aload_n 0 dX9_pays_32 rfl rfl ?_
      refine v_iload_n 2 dX9_pays_33 rfl rfl ?_
      refine v_iconst (2 : Int32) dX9_pays_34 (by decide) ?_
      refine v_iconst (3 : Int32) dX9_pays_35 (by decide) ?_
      refine v_iconst (0 : Int32) dX9_pays_36 (by decide) ?_
      obtain ⟨r5, s5, h5, h⟩ := fm_bds h
      refine v_cVv [.int r3, .int (2 : Int32), .int (3 : Int32), .int (0 : Int32)] [] l_X9_111 (c_X9_begin hI h5) yM_0 (by decide) rfl rfl ⟨rfl, rfl, by decide, by decide⟩ (Nat.le_of_ble_eq_true rfl) dX9_pays_37 ?_
      refine v_aload_n 0 dX9_pays_40 rfl rfl ?_
      refine v_bipush (-4 : Int32) dX9_pays_41 (by decide) ?_
      obtain ⟨r6, s6, h6, h⟩ := fm_bds h
      refine v_cVi [.int (-4 : Int32)] [] l_X9_161 (c_X9_goesBut hI h6) yM_0 (by decide) rfl rfl ⟨rfl, rfl, by decide, by decide⟩ (Nat.le_of_ble_eq_true rfl) dX9_pays_43 ?_
      refine v_istore_n (lv' := [some (.ref (fm_ad w 0)), some (.int r2), some (.int r3), some (.int r6)]) 3 dX9_pays_46 rfl (by decide) rfl rfl ?_
      refine v_iload_n 1 dX9_pays_47 rfl rfl ?_
      refine v_bipush (-4 : Int32) dX9_pays_48 (by decide) ?_
      refine v_icmp_eq 59 dX9_pays_50 (by decide) h (fun h => ?_) (fun h => ?_)
      · refine v_lw [none, none, none, none] rfl trivial ?_
        exact t_X9_pays_59 hI s6 _ h ho
      · refine v_iload_n 3 dX9_pays_53 rfl rfl ?_
        refine v_bipush (-4 : Int32) dX9_pays_54 (by decide) ?_
        refine v_icmp_ne 64 dX9_pays_56 (by decide) h (fun h => ?_) (fun h => ?_)
        · refine v_bipush (100 : Int32) dX9_pays_64 (by decide) ?_
          refine v_iload_n 1 dX9_pays_66 rfl rfl ?_
          refine v_iadd dX9_pays_67 ?_
          refine v_iload_n 3 dX9_pays_68 rfl rfl ?_
          refine v_isub dX9_pays_69 ?_
          refine v_lw [none, none, none, none] rfl trivial ?_
          exact t_X9_pays_70 hI (((100 : Int32) + r2) - r6) s6 _ h ho
        · refine v_lw [none, none, none, none] rfl trivial ?_
          exact t_X9_pays_59 hI s6 _ h ho
    · refine v_lw [none, none, none, none] rfl trivial ?_
      exact t_X9_pays_29 hI s4 _ h ho
theorem c_X9_pays {w : fm_W} {l : Launch} (hI : fm_I w 11) {s : fm_M} {r : Int32} {s2 : fm_M} (h : f_X9_pays s = some (r, s2)) : fm_C w layM 11 l yX9_pays cX9_pays 4 (some .int) rm_X9_pays [.ref (fm_ad w 0)] s (some (.int r), s2) :=
  fm_of hI (by decide) rfl (Nat.le_of_ble_eq_true rfl) (e_X9_pays hI s _ h (fun r s e => by cases e; rfl))
-- X9_seen
abbrev rm_X9_seen : Room := { frames := 2, cells := 0, slots := 0, locals := 43 }
def f_X9_seen_27 (s : fm_M) : Option (Int32 × fm_M) :=
  some ((-1 : Int32), s)
set_option maxHeartbeats 4000000 in
theorem t_X9_seen_27 {w : fm_W} {l : Launch} {o : fm_O} (hI : fm_I w 11) (s : fm_M) (z : Int32 × fm_M) (h : f_X9_seen_27 s = some z) (ho : ∀ (r : Int32) (s : fm_M), z = (r, s) → o = (some (.int r), s)) : fm_V w layM 11 l rm_X9_seen cX9_seen 4 RX9 (some .int) o 27 [none, none, none, none] [] s := by
  unfold f_X9_seen_27 at h
  refine v_iconst (-1 : Int32) dX9_seen_27 (by decide) ?_
  exact v_iret rfl (ho _ _ (Option.some.inj h).symm) dX9_seen_28
def f_X9_seen (v1 : Int32) (v2 : Int32) (v3 : Int32) (s : fm_M) : Option (Int32 × fm_M) :=
  fm_bd (f_X9_isChild v1 s) (fun r1 s1 => if r1 = 0 then f_X9_seen_27 s1 else fm_bd (f_X9_in v2 (1 : Int32) (20 : Int32) s1) (fun r2 s2 => if r2 = 0 then f_X9_seen_27 s2 else fm_bd (f_X9_in v3 (0 : Int32) (1 : Int32) s2) (fun r3 s3 => if r3 = 0 then f_X9_seen_27 s3 else if (s3 0 10) = (8 : Int32) then some ((-3 : Int32), s3) else if fm_in (s3 0 10) 8 = true then some (((fm_up (fm_up s3 7 (s3 0 10).toNatClampNeg ((((100 : Int32) * v1) + ((2 : Int32) * v2)) + v3)) 0 10 (((fm_up s3 7 (s3 0 10).toNatClampNeg ((((100 : Int32) * v1) + ((2 : Int32) * v2)) + v3)) 0 10) + (1 : Int32))) 0 10), (fm_up (fm_up s3 7 (s3 0 10).toNatClampNeg ((((100 : Int32) * v1) + ((2 : Int32) * v2)) + v3)) 0 10 (((fm_up s3 7 (s3 0 10).toNatClampNeg ((((100 : Int32) * v1) + ((2 : Int32) * v2)) + v3)) 0 10) + (1 : Int32)))) else none)))
set_option maxHeartbeats 4000000 in
theorem e_X9_seen {w : fm_W} {l : Launch} {o : fm_O} (hI : fm_I w 11) (v1 : Int32) (v2 : Int32) (v3 : Int32) (s : fm_M) (z : Int32 × fm_M) (h : f_X9_seen v1 v2 v3 s = some z) (ho : ∀ (r : Int32) (s : fm_M), z = (r, s) → o = (some (.int r), s)) : fm_V w layM 11 l rm_X9_seen cX9_seen 4 RX9 (some .int) o 0 [some (.ref (fm_ad w 0)), some (.int v1), some (.int v2), some (.int v3)] [] s := by
  unfold f_X9_seen at h
  refine v_aload_n 0 dX9_seen_0 rfl rfl ?_
  refine v_iload_n 1 dX9_seen_1 rfl rfl ?_
  obtain ⟨r1, s1, h1, h⟩ := fm_bds h
  refine v_cVi [.int v1] [] l_X9_99 (c_X9_isChild hI h1) yM_0 (by decide) rfl rfl ⟨rfl, rfl, by decide, by decide⟩ (Nat.le_of_ble_eq_true rfl) dX9_seen_2 ?_
  refine v_if_eq 27 dX9_seen_5 (by decide) h (fun h => ?_) (fun h => ?_)
  · refine v_lw [none, none, none, none] rfl trivial ?_
    exact t_X9_seen_27 hI s1 _ h ho
  · refine v_iload_n 2 dX9_seen_8 rfl rfl ?_
    refine v_iconst (1 : Int32) dX9_seen_9 (by decide) ?_
    refine v_bipush (20 : Int32) dX9_seen_10 (by decide) ?_
    obtain ⟨r2, s2, h2, h⟩ := fm_bds h
    refine v_cSi [.int v2, .int (1 : Int32), .int (20 : Int32)] [] l_X9_50 (c_X9_in hI h2) rfl rfl ⟨rfl, rfl, by decide, by decide⟩ (Nat.le_of_ble_eq_true rfl) dX9_seen_12 ?_
    refine v_if_eq 27 dX9_seen_15 (by decide) h (fun h => ?_) (fun h => ?_)
    · refine v_lw [none, none, none, none] rfl trivial ?_
      exact t_X9_seen_27 hI s2 _ h ho
    · refine v_iload_n 3 dX9_seen_18 rfl rfl ?_
      refine v_iconst (0 : Int32) dX9_seen_19 (by decide) ?_
      refine v_iconst (1 : Int32) dX9_seen_20 (by decide) ?_
      obtain ⟨r3, s3, h3, h⟩ := fm_bds h
      refine v_cSi [.int v3, .int (0 : Int32), .int (1 : Int32)] [] l_X9_50 (c_X9_in hI h3) rfl rfl ⟨rfl, rfl, by decide, by decide⟩ (Nat.le_of_ble_eq_true rfl) dX9_seen_21 ?_
      refine v_if_ne 29 dX9_seen_24 (by decide) h (fun h => ?_) (fun h => ?_)
      · refine v_aload_n 0 dX9_seen_29 rfl rfl ?_
        refine v_geti g_X9_93 yM_0 (by decide) rfl dX9_seen_30 ?_
        refine v_bipush (8 : Int32) dX9_seen_33 (by decide) ?_
        refine v_icmp_ne 41 dX9_seen_35 (by decide) h (fun h => ?_) (fun h => ?_)
        · refine v_aload_n 0 dX9_seen_41 rfl rfl ?_
          refine v_getr 7 g_X9_28 yM_0 (by decide) rfl dX9_seen_42 ?_
          refine v_aload_n 0 dX9_seen_45 rfl rfl ?_
          refine v_geti g_X9_93 yM_0 (by decide) rfl dX9_seen_46 ?_
          refine v_bipush (100 : Int32) dX9_seen_49 (by decide) ?_
          refine v_iload_n 1 dX9_seen_51 rfl rfl ?_
          refine v_imul dX9_seen_52 ?_
          refine v_iconst (2 : Int32) dX9_seen_53 (by decide) ?_
          refine v_iload_n 2 dX9_seen_54 rfl rfl ?_
          refine v_imul dX9_seen_55 ?_
          refine v_iadd dX9_seen_56 ?_
          refine v_iload_n 3 dX9_seen_57 rfl rfl ?_
          refine v_iadd dX9_seen_58 ?_
          obtain ⟨hi, h⟩ := fm_ift h
          refine v_iast (by decide) yM_7 hi dX9_seen_59 ?_
          refine v_aload_n 0 dX9_seen_60 rfl rfl ?_
          refine v_dup dX9_seen_61 rfl ?_
          refine v_geti g_X9_93 yM_0 (by decide) rfl dX9_seen_62 ?_
          refine v_iconst (1 : Int32) dX9_seen_65 (by decide) ?_
          refine v_iadd dX9_seen_66 ?_
          refine v_put p_X9_93 yM_0 (by decide) rfl ⟨rfl, rfl⟩ dX9_seen_67 ?_
          refine v_aload_n 0 dX9_seen_70 rfl rfl ?_
          refine v_geti g_X9_93 yM_0 (by decide) rfl dX9_seen_71 ?_
          exact v_iret rfl (ho _ _ (Option.some.inj h).symm) dX9_seen_74
        · refine v_bipush (-3 : Int32) dX9_seen_38 (by decide) ?_
          exact v_iret rfl (ho _ _ (Option.some.inj h).symm) dX9_seen_40
      · refine v_lw [none, none, none, none] rfl trivial ?_
        exact t_X9_seen_27 hI s3 _ h ho
theorem c_X9_seen {w : fm_W} {l : Launch} (hI : fm_I w 11) {v1 : Int32} {v2 : Int32} {v3 : Int32} {s : fm_M} {r : Int32} {s2 : fm_M} (h : f_X9_seen v1 v2 v3 s = some (r, s2)) : fm_C w layM 11 l yX9_seen cX9_seen 4 (some .int) rm_X9_seen [.ref (fm_ad w 0), .int v1, .int v2, .int v3] s (some (.int r), s2) :=
  fm_of hI (by decide) rfl (Nat.le_of_ble_eq_true rfl) (e_X9_seen hI v1 v2 v3 s _ h (fun r s e => by cases e; rfl))
-- X9_take
abbrev rm_X9_take : Room := { frames := 3, cells := 0, slots := 0, locals := 66 }
def f_X9_take_16 (s : fm_M) : Option (Int32 × fm_M) :=
  some ((-1 : Int32), s)
set_option maxHeartbeats 4000000 in
theorem t_X9_take_16 {w : fm_W} {l : Launch} {o : fm_O} (hI : fm_I w 11) (s : fm_M) (z : Int32 × fm_M) (h : f_X9_take_16 s = some z) (ho : ∀ (r : Int32) (s : fm_M), z = (r, s) → o = (some (.int r), s)) : fm_V w layM 11 l rm_X9_take cX9_take 3 RX9 (some .int) o 16 [none, none, none] [] s := by
  unfold f_X9_take_16 at h
  refine v_iconst (-1 : Int32) dX9_take_16 (by decide) ?_
  exact v_iret rfl (ho _ _ (Option.some.inj h).symm) dX9_take_17
def f_X9_take_39 (s : fm_M) : Option (Int32 × fm_M) :=
  some ((-2 : Int32), s)
set_option maxHeartbeats 4000000 in
theorem t_X9_take_39 {w : fm_W} {l : Launch} {o : fm_O} (hI : fm_I w 11) (s : fm_M) (z : Int32 × fm_M) (h : f_X9_take_39 s = some z) (ho : ∀ (r : Int32) (s : fm_M), z = (r, s) → o = (some (.int r), s)) : fm_V w layM 11 l rm_X9_take cX9_take 3 RX9 (some .int) o 39 [none, none, none] [] s := by
  unfold f_X9_take_39 at h
  refine v_bipush (-2 : Int32) dX9_take_39 (by decide) ?_
  exact v_iret rfl (ho _ _ (Option.some.inj h).symm) dX9_take_41
def f_X9_take (v1 : Int32) (v2 : Int32) (s : fm_M) : Option (Int32 × fm_M) :=
  fm_bd (f_X9_isWoman v1 s) (fun r1 s1 => if r1 = 0 then f_X9_take_16 s1 else fm_bd (f_X9_isChild v2 s1) (fun r2 s2 => if r2 = 0 then f_X9_take_16 s2 else if fm_in ((18 : Int32) + v1) 29 = true then if (s2 4 ((18 : Int32) + v1).toNatClampNeg) = 0 then if fm_in v2 29 = true then if (s2 4 v2.toNatClampNeg) = 0 then fm_bd (f_X9_keeps s2) (fun r3 s3 => fm_bd (f_X9_dresses v1 v2 s3) (fun r4 s4 => if fm_in ((21 : Int32) + v1) 29 = true then some ((s4 4 ((21 : Int32) + v1).toNatClampNeg), s4) else none)) else f_X9_take_39 s2 else none else f_X9_take_39 s2 else none))
set_option maxHeartbeats 4000000 in
theorem e_X9_take {w : fm_W} {l : Launch} {o : fm_O} (hI : fm_I w 11) (v1 : Int32) (v2 : Int32) (s : fm_M) (z : Int32 × fm_M) (h : f_X9_take v1 v2 s = some z) (ho : ∀ (r : Int32) (s : fm_M), z = (r, s) → o = (some (.int r), s)) : fm_V w layM 11 l rm_X9_take cX9_take 3 RX9 (some .int) o 0 [some (.ref (fm_ad w 0)), some (.int v1), some (.int v2)] [] s := by
  unfold f_X9_take at h
  refine v_aload_n 0 dX9_take_0 rfl rfl ?_
  refine v_iload_n 1 dX9_take_1 rfl rfl ?_
  obtain ⟨r1, s1, h1, h⟩ := fm_bds h
  refine v_cVi [.int v1] [] l_X9_108 (c_X9_isWoman hI h1) yM_0 (by decide) rfl rfl ⟨rfl, rfl, by decide, by decide⟩ (Nat.le_of_ble_eq_true rfl) dX9_take_2 ?_
  refine v_if_eq 16 dX9_take_5 (by decide) h (fun h => ?_) (fun h => ?_)
  · refine v_lw [none, none, none] rfl trivial ?_
    exact t_X9_take_16 hI s1 _ h ho
  · refine v_aload_n 0 dX9_take_8 rfl rfl ?_
    refine v_iload_n 2 dX9_take_9 rfl rfl ?_
    obtain ⟨r2, s2, h2, h⟩ := fm_bds h
    refine v_cVi [.int v2] [] l_X9_99 (c_X9_isChild hI h2) yM_0 (by decide) rfl rfl ⟨rfl, rfl, by decide, by decide⟩ (Nat.le_of_ble_eq_true rfl) dX9_take_10 ?_
    refine v_if_ne 18 dX9_take_13 (by decide) h (fun h => ?_) (fun h => ?_)
    · refine v_aload_n 0 dX9_take_18 rfl rfl ?_
      refine v_getr 4 g_X9_19 yM_0 (by decide) rfl dX9_take_19 ?_
      refine v_bipush (18 : Int32) dX9_take_22 (by decide) ?_
      refine v_iload_n 1 dX9_take_24 rfl rfl ?_
      refine v_iadd dX9_take_25 ?_
      obtain ⟨hi, h⟩ := fm_ift h
      refine v_iald (Or.inl ⟨(by decide), yM_4⟩) hi dX9_take_26 ?_
      refine v_if_ne 39 dX9_take_27 (by decide) h (fun h => ?_) (fun h => ?_)
      · refine v_lw [none, none, none] rfl trivial ?_
        exact t_X9_take_39 hI s2 _ h ho
      · refine v_aload_n 0 dX9_take_30 rfl rfl ?_
        refine v_getr 4 g_X9_19 yM_0 (by decide) rfl dX9_take_31 ?_
        refine v_iload_n 2 dX9_take_34 rfl rfl ?_
        obtain ⟨hi, h⟩ := fm_ift h
        refine v_iald (Or.inl ⟨(by decide), yM_4⟩) hi dX9_take_35 ?_
        refine v_if_eq 42 dX9_take_36 (by decide) h (fun h => ?_) (fun h => ?_)
        · refine v_aload_n 0 dX9_take_42 rfl rfl ?_
          obtain ⟨r3, s3, h3, h⟩ := fm_bds h
          refine v_cVv [] [] l_X9_115 (c_X9_keeps hI h3) yM_0 (by decide) rfl rfl ⟨rfl, rfl, by decide, by decide⟩ (Nat.le_of_ble_eq_true rfl) dX9_take_43 ?_
          refine v_aload_n 0 dX9_take_46 rfl rfl ?_
          refine v_iload_n 1 dX9_take_47 rfl rfl ?_
          refine v_iload_n 2 dX9_take_48 rfl rfl ?_
          obtain ⟨r4, s4, h4, h⟩ := fm_bds h
          refine v_cVv [.int v1, .int v2] [] l_X9_118 (c_X9_dresses hI h4) yM_0 (by decide) rfl rfl ⟨rfl, rfl, by decide, by decide⟩ (Nat.le_of_ble_eq_true rfl) dX9_take_49 ?_
          refine v_aload_n 0 dX9_take_52 rfl rfl ?_
          refine v_getr 4 g_X9_19 yM_0 (by decide) rfl dX9_take_53 ?_
          refine v_bipush (21 : Int32) dX9_take_56 (by decide) ?_
          refine v_iload_n 1 dX9_take_58 rfl rfl ?_
          refine v_iadd dX9_take_59 ?_
          obtain ⟨hi, h⟩ := fm_ift h
          refine v_iald (Or.inl ⟨(by decide), yM_4⟩) hi dX9_take_60 ?_
          exact v_iret rfl (ho _ _ (Option.some.inj h).symm) dX9_take_61
        · refine v_lw [none, none, none] rfl trivial ?_
          exact t_X9_take_39 hI s2 _ h ho
    · refine v_lw [none, none, none] rfl trivial ?_
      exact t_X9_take_16 hI s2 _ h ho
theorem c_X9_take {w : fm_W} {l : Launch} (hI : fm_I w 11) {v1 : Int32} {v2 : Int32} {s : fm_M} {r : Int32} {s2 : fm_M} (h : f_X9_take v1 v2 s = some (r, s2)) : fm_C w layM 11 l yX9_take cX9_take 3 (some .int) rm_X9_take [.ref (fm_ad w 0), .int v1, .int v2] s (some (.int r), s2) :=
  fm_of hI (by decide) rfl (Nat.le_of_ble_eq_true rfl) (e_X9_take hI v1 v2 s _ h (fun r s e => by cases e; rfl))
-- X9_takes
abbrev rm_X9_takes : Room := { frames := 2, cells := 0, slots := 0, locals := 49 }
def f_X9_takes_17 (s : fm_M) : Option (Int32 × fm_M) :=
  some ((-1 : Int32), s)
set_option maxHeartbeats 4000000 in
theorem t_X9_takes_17 {w : fm_W} {l : Launch} {o : fm_O} (hI : fm_I w 11) (s : fm_M) (z : Int32 × fm_M) (h : f_X9_takes_17 s = some z) (ho : ∀ (r : Int32) (s : fm_M), z = (r, s) → o = (some (.int r), s)) : fm_V w layM 11 l rm_X9_takes cX9_takes 7 RX9 (some .int) o 17 [none, none, none, none, none, none, none] [] s := by
  unfold f_X9_takes_17 at h
  refine v_iconst (-1 : Int32) dX9_takes_17 (by decide) ?_
  exact v_iret rfl (ho _ _ (Option.some.inj h).symm) dX9_takes_18
def f_X9_takes_76 (v1 : Int32) (v2 : Int32) (v3 : Int32) (v5 : Int32) (sk0 : Int32) (s : fm_M) : Option ((fm_M × Int32 × Int32 × Int32) ⊕ (fm_M × Int32 × Int32 × Int32)) :=
  some (.inl (s, v3, sk0, (v5 + (-1 : Int32))))
set_option maxHeartbeats 4000000 in
theorem t_X9_takes_76 {w : fm_W} {l : Launch} {o : fm_O} (hI : fm_I w 11) (v1 : Int32) (v2 : Int32) (v3 : Int32) (v5 : Int32) (sk0 : Int32) (s : fm_M) (z : (fm_M × Int32 × Int32 × Int32) ⊕ (fm_M × Int32 × Int32 × Int32)) (h : f_X9_takes_76 v1 v2 v3 v5 sk0 s = some z) (kb : ∀ (s : fm_M) (u3 : Int32) (u4 : Int32) (u5 : Int32), z = .inl (s, u3, u4, u5) → fm_V w layM 11 l rm_X9_takes cX9_takes 7 RX9 (some .int) o 29 [some (.ref (fm_ad w 0)), some (.int v1), some (.int v2), some (.int u3), some (.int u4), some (.int u5), none] [] s) (ke : ∀ (s : fm_M) (u3 : Int32) (u4 : Int32) (u5 : Int32), z = .inr (s, u3, u4, u5) → fm_V w layM 11 l rm_X9_takes cX9_takes 7 RX9 (some .int) o 84 [some (.ref (fm_ad w 0)), some (.int v1), some (.int v2), some (.int u3), some (.int u4), some (.int u5), none] [] s) : fm_V w layM 11 l rm_X9_takes cX9_takes 7 RX9 (some .int) o 76 [some (.ref (fm_ad w 0)), some (.int v1), some (.int v2), some (.int v3), none, some (.int v5), none] [.int sk0] s := by
  unfold f_X9_takes_76 at h
  refine v_istore (lv' := [some (.ref (fm_ad w 0)), some (.int v1), some (.int v2), some (.int v3), some (.int sk0), some (.int v5), none]) dX9_takes_76 (by decide) rfl rfl ?_
  refine v_iinc (lv' := [some (.ref (fm_ad w 0)), some (.int v1), some (.int v2), some (.int v3), some (.int sk0), some (.int (v5 + (-1 : Int32))), none]) (-1 : Int32) dX9_takes_78 rfl (by decide) (by decide) rfl rfl ?_
  refine v_goto 29 dX9_takes_81 (by decide) ?_
  refine v_lw [some (.ref (fm_ad w 0)), some (.int v1), some (.int v2), some (.int v3), some (.int sk0), some (.int (v5 + (-1 : Int32))), none] rfl ⟨rfl, rfl, rfl, rfl, rfl, rfl, trivial⟩ ?_
  exact kb _ _ _ _ (Option.some.inj h).symm
def f_X9_takes_62 (v1 : Int32) (v2 : Int32) (v4 : Int32) (v5 : Int32) (v6 : Int32) (sk0 : Int32) (sk1 : Int32) (s : fm_M) : Option ((fm_M × Int32 × Int32 × Int32) ⊕ (fm_M × Int32 × Int32 × Int32)) :=
  if v6 = 0 then f_X9_takes_76 v1 v2 (sk1 + sk0) v5 v4 s else f_X9_takes_76 v1 v2 (sk1 + sk0) v5 v5 s
set_option maxHeartbeats 4000000 in
theorem t_X9_takes_62 {w : fm_W} {l : Launch} {o : fm_O} (hI : fm_I w 11) (v1 : Int32) (v2 : Int32) (v4 : Int32) (v5 : Int32) (v6 : Int32) (sk0 : Int32) (sk1 : Int32) (s : fm_M) (z : (fm_M × Int32 × Int32 × Int32) ⊕ (fm_M × Int32 × Int32 × Int32)) (h : f_X9_takes_62 v1 v2 v4 v5 v6 sk0 sk1 s = some z) (kb : ∀ (s : fm_M) (u3 : Int32) (u4 : Int32) (u5 : Int32), z = .inl (s, u3, u4, u5) → fm_V w layM 11 l rm_X9_takes cX9_takes 7 RX9 (some .int) o 29 [some (.ref (fm_ad w 0)), some (.int v1), some (.int v2), some (.int u3), some (.int u4), some (.int u5), none] [] s) (ke : ∀ (s : fm_M) (u3 : Int32) (u4 : Int32) (u5 : Int32), z = .inr (s, u3, u4, u5) → fm_V w layM 11 l rm_X9_takes cX9_takes 7 RX9 (some .int) o 84 [some (.ref (fm_ad w 0)), some (.int v1), some (.int v2), some (.int u3), some (.int u4), some (.int u5), none] [] s) : fm_V w layM 11 l rm_X9_takes cX9_takes 7 RX9 (some .int) o 62 [some (.ref (fm_ad w 0)), some (.int v1), some (.int v2), none, some (.int v4), some (.int v5), some (.int v6)] [.int sk0, .int sk1] s := by
  unfold f_X9_takes_62 at h
  refine v_iadd dX9_takes_62 ?_
  refine v_istore_n (lv' := [some (.ref (fm_ad w 0)), some (.int v1), some (.int v2), some (.int (sk1 + sk0)), some (.int v4), some (.int v5), some (.int v6)]) 3 dX9_takes_63 rfl (by decide) rfl rfl ?_
  refine v_iload dX9_takes_64 rfl ?_
  refine v_if_eq 74 dX9_takes_66 (by decide) h (fun h => ?_) (fun h => ?_)
  · refine v_iload dX9_takes_74 rfl ?_
    refine v_lw [some (.ref (fm_ad w 0)), some (.int v1), some (.int v2), some (.int (sk1 + sk0)), none, some (.int v5), none] rfl ⟨rfl, rfl, rfl, rfl, rfl, trivial⟩ ?_
    exact t_X9_takes_76 hI v1 v2 (sk1 + sk0) v5 v4 s _ h kb ke
  · refine v_iload dX9_takes_69 rfl ?_
    refine v_goto 76 dX9_takes_71 (by decide) ?_
    refine v_lw [some (.ref (fm_ad w 0)), some (.int v1), some (.int v2), some (.int (sk1 + sk0)), none, some (.int v5), none] rfl ⟨rfl, rfl, rfl, rfl, rfl, trivial⟩ ?_
    exact t_X9_takes_76 hI v1 v2 (sk1 + sk0) v5 v5 s _ h kb ke
def f_X9_takes_29 (v1 : Int32) (v2 : Int32) (s : fm_M) (v3 : Int32) (v4 : Int32) (v5 : Int32) : Option ((fm_M × Int32 × Int32 × Int32) ⊕ (fm_M × Int32 × Int32 × Int32)) :=
  if v5 ≤ 0 then some (.inr (s, v3, v4, v5)) else if fm_in ((5 : Int32) + v1) 17 = true then fm_bd (f_X9_isSo v1 (s 2 ((5 : Int32) + v1).toNatClampNeg) v5 s) (fun r3 s3 => if r3 = 0 then f_X9_takes_62 v1 v2 v4 v5 r3 (0 : Int32) v3 s3 else f_X9_takes_62 v1 v2 v4 v5 r3 (1 : Int32) v3 s3) else none
set_option maxHeartbeats 4000000 in
theorem t_X9_takes_29 {w : fm_W} {l : Launch} {o : fm_O} (hI : fm_I w 11) (v1 : Int32) (v2 : Int32) (s : fm_M) (v3 : Int32) (v4 : Int32) (v5 : Int32) (z : (fm_M × Int32 × Int32 × Int32) ⊕ (fm_M × Int32 × Int32 × Int32)) (h : f_X9_takes_29 v1 v2 s v3 v4 v5 = some z) (kb : ∀ (s : fm_M) (u3 : Int32) (u4 : Int32) (u5 : Int32), z = .inl (s, u3, u4, u5) → fm_V w layM 11 l rm_X9_takes cX9_takes 7 RX9 (some .int) o 29 [some (.ref (fm_ad w 0)), some (.int v1), some (.int v2), some (.int u3), some (.int u4), some (.int u5), none] [] s) (ke : ∀ (s : fm_M) (u3 : Int32) (u4 : Int32) (u5 : Int32), z = .inr (s, u3, u4, u5) → fm_V w layM 11 l rm_X9_takes cX9_takes 7 RX9 (some .int) o 84 [some (.ref (fm_ad w 0)), some (.int v1), some (.int v2), some (.int u3), some (.int u4), some (.int u5), none] [] s) : fm_V w layM 11 l rm_X9_takes cX9_takes 7 RX9 (some .int) o 29 [some (.ref (fm_ad w 0)), some (.int v1), some (.int v2), some (.int v3), some (.int v4), some (.int v5), none] [] s := by
  unfold f_X9_takes_29 at h
  refine v_iload dX9_takes_29 rfl ?_
  refine v_if_le 84 dX9_takes_31 (by decide) h (fun h => ?_) (fun h => ?_)
  · refine v_lw [some (.ref (fm_ad w 0)), some (.int v1), some (.int v2), some (.int v3), some (.int v4), some (.int v5), none] rfl ⟨rfl, rfl, rfl, rfl, rfl, rfl, trivial⟩ ?_
    exact ke _ _ _ _ (Option.some.inj h).symm
  · refine v_aload_n 0 dX9_takes_34 rfl rfl ?_
    refine v_iload_n 1 dX9_takes_35 rfl rfl ?_
    refine v_aload_n 0 dX9_takes_36 rfl rfl ?_
    refine v_getr 2 g_X9_13 yM_0 (by decide) rfl dX9_takes_37 ?_
    refine v_iconst (5 : Int32) dX9_takes_40 (by decide) ?_
    refine v_iload_n 1 dX9_takes_41 rfl rfl ?_
    refine v_iadd dX9_takes_42 ?_
    obtain ⟨hi, h⟩ := fm_ift h
    refine v_iald (Or.inl ⟨(by decide), yM_2⟩) hi dX9_takes_43 ?_
    refine v_iload dX9_takes_44 rfl ?_
    obtain ⟨r3, s3, h3, h⟩ := fm_bds h
    refine v_cVi [.int v1, .int (s 2 ((5 : Int32) + v1).toNatClampNeg), .int v5] [] l_X9_170 (c_X9_isSo hI h3) yM_0 (by decide) rfl rfl ⟨rfl, rfl, by decide, by decide⟩ (Nat.le_of_ble_eq_true rfl) dX9_takes_46 ?_
    refine v_istore (lv' := [some (.ref (fm_ad w 0)), some (.int v1), some (.int v2), some (.int v3), some (.int v4), some (.int v5), some (.int r3)]) dX9_takes_49 (by decide) rfl rfl ?_
    refine v_iload_n 3 dX9_takes_51 rfl rfl ?_
    refine v_iload dX9_takes_52 rfl ?_
    refine v_if_eq 61 dX9_takes_54 (by decide) h (fun h => ?_) (fun h => ?_)
    · refine v_iconst (0 : Int32) dX9_takes_61 (by decide) ?_
      refine v_lw [some (.ref (fm_ad w 0)), some (.int v1), some (.int v2), none, some (.int v4), some (.int v5), some (.int r3)] rfl ⟨rfl, rfl, rfl, rfl, rfl, rfl, trivial⟩ ?_
      exact t_X9_takes_62 hI v1 v2 v4 v5 r3 (0 : Int32) v3 s3 _ h kb ke
    · refine v_iconst (1 : Int32) dX9_takes_57 (by decide) ?_
      refine v_goto 62 dX9_takes_58 (by decide) ?_
      refine v_lw [some (.ref (fm_ad w 0)), some (.int v1), some (.int v2), none, some (.int v4), some (.int v5), some (.int r3)] rfl ⟨rfl, rfl, rfl, rfl, rfl, rfl, trivial⟩ ?_
      exact t_X9_takes_62 hI v1 v2 v4 v5 r3 (1 : Int32) v3 s3 _ h kb ke
set_option maxHeartbeats 4000000 in
theorem i_X9_takes_29 {w : fm_W} {l : Launch} {o : fm_O} (hI : fm_I w 11) (v1 : Int32) (v2 : Int32) (n : Nat) (s : fm_M) (v3 : Int32) (v4 : Int32) (v5 : Int32) (q : fm_M × Int32 × Int32 × Int32) (h : fm_it (fun s => f_X9_takes_29 v1 v2 s.1 s.2.1 s.2.2.1 s.2.2.2) n (s, v3, v4, v5) = some q) (ke : ∀ (s : fm_M) (u3 : Int32) (u4 : Int32) (u5 : Int32), q = (s, u3, u4, u5) → fm_V w layM 11 l rm_X9_takes cX9_takes 7 RX9 (some .int) o 84 [some (.ref (fm_ad w 0)), some (.int v1), some (.int v2), some (.int u3), some (.int u4), some (.int u5), none] [] s) : fm_V w layM 11 l rm_X9_takes cX9_takes 7 RX9 (some .int) o 29 [some (.ref (fm_ad w 0)), some (.int v1), some (.int v2), some (.int v3), some (.int v4), some (.int v5), none] [] s :=
  fm_it_loop (body := (fun s => f_X9_takes_29 v1 v2 s.1 s.2.1 s.2.2.1 s.2.2.2)) (P := fun s => fm_V w layM 11 l rm_X9_takes cX9_takes 7 RX9 (some .int) o 29 [some (.ref (fm_ad w 0)), some (.int v1), some (.int v2), some (.int s.2.1), some (.int s.2.2.1), some (.int s.2.2.2), none] [] s.1) (K := (fun q : fm_M × Int32 × Int32 × Int32 => (∀ (s : fm_M) (u3 : Int32) (u4 : Int32) (u5 : Int32), q = (s, u3, u4, u5) → fm_V w layM 11 l rm_X9_takes cX9_takes 7 RX9 (some .int) o 84 [some (.ref (fm_ad w 0)), some (.int v1), some (.int v2), some (.int u3), some (.int u4), some (.int u5), none] [] s))) (fun s z hb kl kx => t_X9_takes_29 hI v1 v2 s.1 s.2.1 s.2.2.1 s.2.2.2 z hb (fun s u3 u4 u5 e => kl _ e) (fun s u3 u4 u5 e => (kx _ e) s u3 u4 u5 rfl)) n (s, v3, v4, v5) q h ke
def f_X9_takes_94 (sk0 : Int32) (s : fm_M) : Option (Int32 × fm_M) :=
  some (sk0, s)
set_option maxHeartbeats 4000000 in
theorem t_X9_takes_94 {w : fm_W} {l : Launch} {o : fm_O} (hI : fm_I w 11) (sk0 : Int32) (s : fm_M) (z : Int32 × fm_M) (h : f_X9_takes_94 sk0 s = some z) (ho : ∀ (r : Int32) (s : fm_M), z = (r, s) → o = (some (.int r), s)) : fm_V w layM 11 l rm_X9_takes cX9_takes 7 RX9 (some .int) o 94 [none, none, none, none, none, none, none] [.int sk0] s := by
  unfold f_X9_takes_94 at h
  exact v_iret rfl (ho _ _ (Option.some.inj h).symm) dX9_takes_94
def f_X9_takes (v1 : Int32) (v2 : Int32) (s : fm_M) : Option (Int32 × fm_M) :=
  fm_bd (f_X9_isChild v1 s) (fun r1 s1 => if r1 = 0 then f_X9_takes_17 s1 else fm_bd (f_X9_in v2 (0 : Int32) (1 : Int32) s1) (fun r2 s2 => if r2 = 0 then f_X9_takes_17 s2 else fm_op (fm_it (fun (yy : fm_M × Int32 × Int32 × Int32) => f_X9_takes_29 v1 v2 yy.1 yy.2.1 yy.2.2.1 yy.2.2.2) fm_fu (s2, (0 : Int32), (-4 : Int32), (12 : Int32))) (fun q4 => ((fun (s4 : fm_M) (x4_3 : Int32) (x4_4 : Int32) (x4_5 : Int32) => if v2 = 0 then f_X9_takes_94 x4_3 s4 else f_X9_takes_94 x4_4 s4)) q4.1 q4.2.1 q4.2.2.1 q4.2.2.2)))
set_option maxHeartbeats 4000000 in
theorem e_X9_takes {w : fm_W} {l : Launch} {o : fm_O} (hI : fm_I w 11) (v1 : Int32) (v2 : Int32) (s : fm_M) (z : Int32 × fm_M) (h : f_X9_takes v1 v2 s = some z) (ho : ∀ (r : Int32) (s : fm_M), z = (r, s) → o = (some (.int r), s)) : fm_V w layM 11 l rm_X9_takes cX9_takes 7 RX9 (some .int) o 0 [some (.ref (fm_ad w 0)), some (.int v1), some (.int v2), none, none, none, none] [] s := by
  unfold f_X9_takes at h
  refine v_aload_n 0 dX9_takes_0 rfl rfl ?_
  refine v_iload_n 1 dX9_takes_1 rfl rfl ?_
  obtain ⟨r1, s1, h1, h⟩ := fm_bds h
  refine v_cVi [.int v1] [] l_X9_99 (c_X9_isChild hI h1) yM_0 (by decide) rfl rfl ⟨rfl, rfl, by decide, by decide⟩ (Nat.le_of_ble_eq_true rfl) dX9_takes_2 ?_
  refine v_if_eq 17 dX9_takes_5 (by decide) h (fun h => ?_) (fun h => ?_)
  · refine v_lw [none, none, none, none, none, none, none] rfl trivial ?_
    exact t_X9_takes_17 hI s1 _ h ho
  · refine v_iload_n 2 dX9_takes_8 rfl rfl ?_
    refine v_iconst (0 : Int32) dX9_takes_9 (by decide) ?_
    refine v_iconst (1 : Int32) dX9_takes_10 (by decide) ?_
    obtain ⟨r2, s2, h2, h⟩ := fm_bds h
    refine v_cSi [.int v2, .int (0 : Int32), .int (1 : Int32)] [] l_X9_50 (c_X9_in hI h2) rfl rfl ⟨rfl, rfl, by decide, by decide⟩ (Nat.le_of_ble_eq_true rfl) dX9_takes_11 ?_
    refine v_if_ne 19 dX9_takes_14 (by decide) h (fun h => ?_) (fun h => ?_)
    · refine v_iconst (0 : Int32) dX9_takes_19 (by decide) ?_
      refine v_istore_n (lv' := [some (.ref (fm_ad w 0)), some (.int v1), some (.int v2), some (.int (0 : Int32)), none, none, none]) 3 dX9_takes_20 rfl (by decide) rfl rfl ?_
      refine v_bipush (-4 : Int32) dX9_takes_21 (by decide) ?_
      refine v_istore (lv' := [some (.ref (fm_ad w 0)), some (.int v1), some (.int v2), some (.int (0 : Int32)), some (.int (-4 : Int32)), none, none]) dX9_takes_23 (by decide) rfl rfl ?_
      refine v_bipush (12 : Int32) dX9_takes_25 (by decide) ?_
      refine v_istore (lv' := [some (.ref (fm_ad w 0)), some (.int v1), some (.int v2), some (.int (0 : Int32)), some (.int (-4 : Int32)), some (.int (12 : Int32)), none]) dX9_takes_27 (by decide) rfl rfl ?_
      obtain ⟨q4, h4, h⟩ := fm_ops h
      refine v_lw [some (.ref (fm_ad w 0)), some (.int v1), some (.int v2), some (.int (0 : Int32)), some (.int (-4 : Int32)), some (.int (12 : Int32)), none] rfl ⟨rfl, rfl, rfl, rfl, rfl, rfl, trivial⟩ ?_
      refine i_X9_takes_29 hI v1 v2 _ _ _ _ _ _ h4 (fun s4 x4_3 x4_4 x4_5 e => ?_)
      subst e
      dsimp only at h
      refine v_iload_n 2 dX9_takes_84 rfl rfl ?_
      refine v_if_ne 92 dX9_takes_85 (by decide) h (fun h => ?_) (fun h => ?_)
      · refine v_iload dX9_takes_92 rfl ?_
        refine v_lw [none, none, none, none, none, none, none] rfl trivial ?_
        exact t_X9_takes_94 hI x4_4 s4 _ h ho
      · refine v_iload_n 3 dX9_takes_88 rfl rfl ?_
        refine v_goto 94 dX9_takes_89 (by decide) ?_
        refine v_lw [none, none, none, none, none, none, none] rfl trivial ?_
        exact t_X9_takes_94 hI x4_3 s4 _ h ho
    · refine v_lw [none, none, none, none, none, none, none] rfl trivial ?_
      exact t_X9_takes_17 hI s2 _ h ho
theorem c_X9_takes {w : fm_W} {l : Launch} (hI : fm_I w 11) {v1 : Int32} {v2 : Int32} {s : fm_M} {r : Int32} {s2 : fm_M} (h : f_X9_takes v1 v2 s = some (r, s2)) : fm_C w layM 11 l yX9_takes cX9_takes 7 (some .int) rm_X9_takes [.ref (fm_ad w 0), .int v1, .int v2] s (some (.int r), s2) :=
  fm_of hI (by decide) rfl (Nat.le_of_ble_eq_true rfl) (e_X9_takes hI v1 v2 s _ h (fun r s e => by cases e; rfl))
-- X9_undo
abbrev rm_X9_undo : Room := { frames := 0, cells := 0, slots := 0, locals := 0 }
def f_X9_undo_22 (s : fm_M) (v1 : Int32) : Option ((fm_M × Int32) ⊕ (fm_M × Int32)) :=
  if (29 : Int32) ≤ v1 then some (.inr (s, v1)) else if fm_in (((29 : Int32) * (s 0 6)) + v1) 232 = true then if fm_in v1 29 = true then some (.inl ((fm_up s 4 v1.toNatClampNeg (s 5 (((29 : Int32) * (s 0 6)) + v1).toNatClampNeg)), (v1 + (1 : Int32)))) else none else none
set_option maxHeartbeats 4000000 in
theorem t_X9_undo_22 {w : fm_W} {l : Launch} {o : fm_O} (hI : fm_I w 11) (s : fm_M) (v1 : Int32) (z : (fm_M × Int32) ⊕ (fm_M × Int32)) (h : f_X9_undo_22 s v1 = some z) (kb : ∀ (s : fm_M) (u1 : Int32), z = .inl (s, u1) → fm_V w layM 11 l rm_X9_undo cX9_undo 2 RX9 (some .int) o 22 [some (.ref (fm_ad w 0)), some (.int u1)] [] s) (ke : ∀ (s : fm_M) (u1 : Int32), z = .inr (s, u1) → fm_V w layM 11 l rm_X9_undo cX9_undo 2 RX9 (some .int) o 54 [some (.ref (fm_ad w 0)), some (.int u1)] [] s) : fm_V w layM 11 l rm_X9_undo cX9_undo 2 RX9 (some .int) o 22 [some (.ref (fm_ad w 0)), some (.int v1)] [] s := by
  unfold f_X9_undo_22 at h
  refine v_iload_n 1 dX9_undo_22 rfl rfl ?_
  refine v_bipush (29 : Int32) dX9_undo_23 (by decide) ?_
  refine v_icmp_ge 54 dX9_undo_25 (by decide) h (fun h => ?_) (fun h => ?_)
  · refine v_lw [some (.ref (fm_ad w 0)), some (.int v1)] rfl ⟨rfl, rfl, trivial⟩ ?_
    exact ke _ _ (Option.some.inj h).symm
  · refine v_aload_n 0 dX9_undo_28 rfl rfl ?_
    refine v_getr 4 g_X9_19 yM_0 (by decide) rfl dX9_undo_29 ?_
    refine v_iload_n 1 dX9_undo_32 rfl rfl ?_
    refine v_aload_n 0 dX9_undo_33 rfl rfl ?_
    refine v_getr 5 g_X9_22 yM_0 (by decide) rfl dX9_undo_34 ?_
    refine v_bipush (29 : Int32) dX9_undo_37 (by decide) ?_
    refine v_aload_n 0 dX9_undo_39 rfl rfl ?_
    refine v_geti g_X9_87 yM_0 (by decide) rfl dX9_undo_40 ?_
    refine v_imul dX9_undo_43 ?_
    refine v_iload_n 1 dX9_undo_44 rfl rfl ?_
    refine v_iadd dX9_undo_45 ?_
    obtain ⟨hi, h⟩ := fm_ift h
    refine v_iald (Or.inl ⟨(by decide), yM_5⟩) hi dX9_undo_46 ?_
    obtain ⟨hi, h⟩ := fm_ift h
    refine v_iast (by decide) yM_4 hi dX9_undo_47 ?_
    refine v_iinc (lv' := [some (.ref (fm_ad w 0)), some (.int (v1 + (1 : Int32)))]) (1 : Int32) dX9_undo_48 rfl (by decide) (by decide) rfl rfl ?_
    refine v_goto 22 dX9_undo_51 (by decide) ?_
    refine v_lw [some (.ref (fm_ad w 0)), some (.int (v1 + (1 : Int32)))] rfl ⟨rfl, rfl, trivial⟩ ?_
    exact kb _ _ (Option.some.inj h).symm
set_option maxHeartbeats 4000000 in
theorem i_X9_undo_22 {w : fm_W} {l : Launch} {o : fm_O} (hI : fm_I w 11) (n : Nat) (s : fm_M) (v1 : Int32) (q : fm_M × Int32) (h : fm_it (fun s => f_X9_undo_22 s.1 s.2) n (s, v1) = some q) (ke : ∀ (s : fm_M) (u1 : Int32), q = (s, u1) → fm_V w layM 11 l rm_X9_undo cX9_undo 2 RX9 (some .int) o 54 [some (.ref (fm_ad w 0)), some (.int u1)] [] s) : fm_V w layM 11 l rm_X9_undo cX9_undo 2 RX9 (some .int) o 22 [some (.ref (fm_ad w 0)), some (.int v1)] [] s :=
  fm_it_loop (body := (fun s => f_X9_undo_22 s.1 s.2)) (P := fun s => fm_V w layM 11 l rm_X9_undo cX9_undo 2 RX9 (some .int) o 22 [some (.ref (fm_ad w 0)), some (.int s.2)] [] s.1) (K := (fun q : fm_M × Int32 => (∀ (s : fm_M) (u1 : Int32), q = (s, u1) → fm_V w layM 11 l rm_X9_undo cX9_undo 2 RX9 (some .int) o 54 [some (.ref (fm_ad w 0)), some (.int u1)] [] s))) (fun s z hb kl kx => t_X9_undo_22 hI s.1 s.2 z hb (fun s u1 e => kl _ e) (fun s u1 e => (kx _ e) s u1 rfl)) n (s, v1) q h ke
def f_X9_undo (s : fm_M) : Option (Int32 × fm_M) :=
  if (s 0 6) = 0 then some ((-2 : Int32), s) else fm_op (fm_it (fun (yy : fm_M × Int32) => f_X9_undo_22 yy.1 yy.2) fm_fu ((fm_up s 0 6 ((s 0 6) - (1 : Int32))), (0 : Int32))) (fun q1 => ((fun (s1 : fm_M) (x1_1 : Int32) => some ((s1 0 6), s1))) q1.1 q1.2)
set_option maxHeartbeats 4000000 in
theorem e_X9_undo {w : fm_W} {l : Launch} {o : fm_O} (hI : fm_I w 11) (s : fm_M) (z : Int32 × fm_M) (h : f_X9_undo s = some z) (ho : ∀ (r : Int32) (s : fm_M), z = (r, s) → o = (some (.int r), s)) : fm_V w layM 11 l rm_X9_undo cX9_undo 2 RX9 (some .int) o 0 [some (.ref (fm_ad w 0)), none] [] s := by
  unfold f_X9_undo at h
  refine v_aload_n 0 dX9_undo_0 rfl rfl ?_
  refine v_geti g_X9_87 yM_0 (by decide) rfl dX9_undo_1 ?_
  refine v_if_ne 10 dX9_undo_4 (by decide) h (fun h => ?_) (fun h => ?_)
  · refine v_aload_n 0 dX9_undo_10 rfl rfl ?_
    refine v_dup dX9_undo_11 rfl ?_
    refine v_geti g_X9_87 yM_0 (by decide) rfl dX9_undo_12 ?_
    refine v_iconst (1 : Int32) dX9_undo_15 (by decide) ?_
    refine v_isub dX9_undo_16 ?_
    refine v_put p_X9_87 yM_0 (by decide) rfl ⟨rfl, rfl⟩ dX9_undo_17 ?_
    refine v_iconst (0 : Int32) dX9_undo_20 (by decide) ?_
    refine v_istore_n (lv' := [some (.ref (fm_ad w 0)), some (.int (0 : Int32))]) 1 dX9_undo_21 rfl (by decide) rfl rfl ?_
    obtain ⟨q1, h1, h⟩ := fm_ops h
    refine v_lw [some (.ref (fm_ad w 0)), some (.int (0 : Int32))] rfl ⟨rfl, rfl, trivial⟩ ?_
    refine i_X9_undo_22 hI _ _ _ _ h1 (fun s1 x1_1 e => ?_)
    subst e
    dsimp only at h
    refine v_aload_n 0 dX9_undo_54 rfl rfl ?_
    refine v_geti g_X9_87 yM_0 (by decide) rfl dX9_undo_55 ?_
    exact v_iret rfl (ho _ _ (Option.some.inj h).symm) dX9_undo_58
  · refine v_bipush (-2 : Int32) dX9_undo_7 (by decide) ?_
    exact v_iret rfl (ho _ _ (Option.some.inj h).symm) dX9_undo_9
theorem c_X9_undo {w : fm_W} {l : Launch} (hI : fm_I w 11) {s : fm_M} {r : Int32} {s2 : fm_M} (h : f_X9_undo s = some (r, s2)) : fm_C w layM 11 l yX9_undo cX9_undo 2 (some .int) rm_X9_undo [.ref (fm_ad w 0)] s (some (.int r), s2) :=
  fm_of hI (by decide) rfl (Nat.le_of_ble_eq_true rfl) (e_X9_undo hI s _ h (fun r s e => by cases e; rfl))
-- X9_wipe
abbrev rm_X9_wipe : Room := { frames := 0, cells := 0, slots := 0, locals := 0 }
def f_X9_wipe (s : fm_M) : Option (Int32 × fm_M) :=
  some ((s 0 1), (fm_up s 0 1 (0 : Int32)))
set_option maxHeartbeats 4000000 in
theorem e_X9_wipe {w : fm_W} {l : Launch} {o : fm_O} (hI : fm_I w 11) (s : fm_M) (z : Int32 × fm_M) (h : f_X9_wipe s = some z) (ho : ∀ (r : Int32) (s : fm_M), z = (r, s) → o = (some (.int r), s)) : fm_V w layM 11 l rm_X9_wipe cX9_wipe 2 RX9 (some .int) o 0 [some (.ref (fm_ad w 0)), none] [] s := by
  unfold f_X9_wipe at h
  refine v_aload_n 0 dX9_wipe_0 rfl rfl ?_
  refine v_geti g_X9_54 yM_0 (by decide) rfl dX9_wipe_1 ?_
  refine v_istore_n (lv' := [some (.ref (fm_ad w 0)), some (.int (s 0 1))]) 1 dX9_wipe_4 rfl (by decide) rfl rfl ?_
  refine v_aload_n 0 dX9_wipe_5 rfl rfl ?_
  refine v_iconst (0 : Int32) dX9_wipe_6 (by decide) ?_
  refine v_put p_X9_54 yM_0 (by decide) rfl ⟨rfl, rfl⟩ dX9_wipe_7 ?_
  refine v_iload_n 1 dX9_wipe_10 rfl rfl ?_
  exact v_iret rfl (ho _ _ (Option.some.inj h).symm) dX9_wipe_11
theorem c_X9_wipe {w : fm_W} {l : Launch} (hI : fm_I w 11) {s : fm_M} {r : Int32} {s2 : fm_M} (h : f_X9_wipe s = some (r, s2)) : fm_C w layM 11 l yX9_wipe cX9_wipe 2 (some .int) rm_X9_wipe [.ref (fm_ad w 0)] s (some (.int r), s2) :=
  fm_of hI (by decide) rfl (Nat.le_of_ble_eq_true rfl) (e_X9_wipe hI s _ h (fun r s e => by cases e; rfl))
-- X9_woman
abbrev rm_X9_woman : Room := { frames := 2, cells := 0, slots := 0, locals := 43 }
def f_X9_woman_39 (sk0 : Int32) (s : fm_M) : Option (Int32 × fm_M) :=
  some (sk0, s)
set_option maxHeartbeats 4000000 in
theorem t_X9_woman_39 {w : fm_W} {l : Launch} {o : fm_O} (hI : fm_I w 11) (sk0 : Int32) (s : fm_M) (z : Int32 × fm_M) (h : f_X9_woman_39 sk0 s = some z) (ho : ∀ (r : Int32) (s : fm_M), z = (r, s) → o = (some (.int r), s)) : fm_V w layM 11 l rm_X9_woman cX9_woman 3 RX9 (some .int) o 39 [none, none, none] [.int sk0] s := by
  unfold f_X9_woman_39 at h
  exact v_iret rfl (ho _ _ (Option.some.inj h).symm) dX9_woman_39
def f_X9_woman_17 (s : fm_M) : Option (Int32 × fm_M) :=
  f_X9_woman_39 (-1 : Int32) s
set_option maxHeartbeats 4000000 in
theorem t_X9_woman_17 {w : fm_W} {l : Launch} {o : fm_O} (hI : fm_I w 11) (s : fm_M) (z : Int32 × fm_M) (h : f_X9_woman_17 s = some z) (ho : ∀ (r : Int32) (s : fm_M), z = (r, s) → o = (some (.int r), s)) : fm_V w layM 11 l rm_X9_woman cX9_woman 3 RX9 (some .int) o 17 [none, none, none] [] s := by
  unfold f_X9_woman_17 at h
  refine v_iconst (-1 : Int32) dX9_woman_17 (by decide) ?_
  refine v_goto 39 dX9_woman_18 (by decide) ?_
  refine v_lw [none, none, none] rfl trivial ?_
  exact t_X9_woman_39 hI (-1 : Int32) s _ h ho
def f_X9_woman_36 (v1 : Int32) (sk0 : Int32) (s : fm_M) : Option (Int32 × fm_M) :=
  if fm_in (sk0 + v1) 29 = true then f_X9_woman_39 (s 4 (sk0 + v1).toNatClampNeg) s else none
set_option maxHeartbeats 4000000 in
theorem t_X9_woman_36 {w : fm_W} {l : Launch} {o : fm_O} (hI : fm_I w 11) (v1 : Int32) (sk0 : Int32) (s : fm_M) (z : Int32 × fm_M) (h : f_X9_woman_36 v1 sk0 s = some z) (ho : ∀ (r : Int32) (s : fm_M), z = (r, s) → o = (some (.int r), s)) : fm_V w layM 11 l rm_X9_woman cX9_woman 3 RX9 (some .int) o 36 [none, some (.int v1), none] [.int sk0, .ref (fm_ad w 4)] s := by
  unfold f_X9_woman_36 at h
  refine v_iload_n 1 dX9_woman_36 rfl rfl ?_
  refine v_iadd dX9_woman_37 ?_
  obtain ⟨hi, h⟩ := fm_ift h
  refine v_iald (Or.inl ⟨(by decide), yM_4⟩) hi dX9_woman_38 ?_
  refine v_lw [none, none, none] rfl trivial ?_
  exact t_X9_woman_39 hI (s 4 (sk0 + v1).toNatClampNeg) s _ h ho
def f_X9_woman (v1 : Int32) (v2 : Int32) (s : fm_M) : Option (Int32 × fm_M) :=
  fm_bd (f_X9_isWoman v1 s) (fun r1 s1 => if r1 = 0 then f_X9_woman_17 s1 else fm_bd (f_X9_in v2 (0 : Int32) (1 : Int32) s1) (fun r2 s2 => if r2 = 0 then f_X9_woman_17 s2 else if v2 = 0 then f_X9_woman_36 v1 (18 : Int32) s2 else f_X9_woman_36 v1 (21 : Int32) s2))
set_option maxHeartbeats 4000000 in
theorem e_X9_woman {w : fm_W} {l : Launch} {o : fm_O} (hI : fm_I w 11) (v1 : Int32) (v2 : Int32) (s : fm_M) (z : Int32 × fm_M) (h : f_X9_woman v1 v2 s = some z) (ho : ∀ (r : Int32) (s : fm_M), z = (r, s) → o = (some (.int r), s)) : fm_V w layM 11 l rm_X9_woman cX9_woman 3 RX9 (some .int) o 0 [some (.ref (fm_ad w 0)), some (.int v1), some (.int v2)] [] s := by
  unfold f_X9_woman at h
  refine v_aload_n 0 dX9_woman_0 rfl rfl ?_
  refine v_iload_n 1 dX9_woman_1 rfl rfl ?_
  obtain ⟨r1, s1, h1, h⟩ := fm_bds h
  refine v_cVi [.int v1] [] l_X9_108 (c_X9_isWoman hI h1) yM_0 (by decide) rfl rfl ⟨rfl, rfl, by decide, by decide⟩ (Nat.le_of_ble_eq_true rfl) dX9_woman_2 ?_
  refine v_if_eq 17 dX9_woman_5 (by decide) h (fun h => ?_) (fun h => ?_)
  · refine v_lw [none, none, none] rfl trivial ?_
    exact t_X9_woman_17 hI s1 _ h ho
  · refine v_iload_n 2 dX9_woman_8 rfl rfl ?_
    refine v_iconst (0 : Int32) dX9_woman_9 (by decide) ?_
    refine v_iconst (1 : Int32) dX9_woman_10 (by decide) ?_
    obtain ⟨r2, s2, h2, h⟩ := fm_bds h
    refine v_cSi [.int v2, .int (0 : Int32), .int (1 : Int32)] [] l_X9_50 (c_X9_in hI h2) rfl rfl ⟨rfl, rfl, by decide, by decide⟩ (Nat.le_of_ble_eq_true rfl) dX9_woman_11 ?_
    refine v_if_ne 21 dX9_woman_14 (by decide) h (fun h => ?_) (fun h => ?_)
    · refine v_aload_n 0 dX9_woman_21 rfl rfl ?_
      refine v_getr 4 g_X9_19 yM_0 (by decide) rfl dX9_woman_22 ?_
      refine v_iload_n 2 dX9_woman_25 rfl rfl ?_
      refine v_if_ne 34 dX9_woman_26 (by decide) h (fun h => ?_) (fun h => ?_)
      · refine v_bipush (21 : Int32) dX9_woman_34 (by decide) ?_
        refine v_lw [none, some (.int v1), none] rfl ⟨rfl, trivial⟩ ?_
        exact t_X9_woman_36 hI v1 (21 : Int32) s2 _ h ho
      · refine v_bipush (18 : Int32) dX9_woman_29 (by decide) ?_
        refine v_goto 36 dX9_woman_31 (by decide) ?_
        refine v_lw [none, some (.int v1), none] rfl ⟨rfl, trivial⟩ ?_
        exact t_X9_woman_36 hI v1 (18 : Int32) s2 _ h ho
    · refine v_lw [none, none, none] rfl trivial ?_
      exact t_X9_woman_17 hI s2 _ h ho
theorem c_X9_woman {w : fm_W} {l : Launch} (hI : fm_I w 11) {v1 : Int32} {v2 : Int32} {s : fm_M} {r : Int32} {s2 : fm_M} (h : f_X9_woman v1 v2 s = some (r, s2)) : fm_C w layM 11 l yX9_woman cX9_woman 3 (some .int) rm_X9_woman [.ref (fm_ad w 0), .int v1, .int v2] s (some (.int r), s2) :=
  fm_of hI (by decide) rfl (Nat.le_of_ble_eq_true rfl) (e_X9_woman hI v1 v2 s _ h (fun r s e => by cases e; rfl))
-- X9_women
abbrev rm_X9_women : Room := { frames := 6, cells := 0, slots := 0, locals := 133 }
def f_X9_women (v1 : Int32) (s : fm_M) : Option (Int32 × fm_M) :=
  fm_bd (f_X9_in v1 (1 : Int32) (3 : Int32) s) (fun r1 s1 => if r1 = 0 then some ((-1 : Int32), s1) else fm_bd (f_X9_holds s1) (fun r2 s2 => if fm_in (1 : Int32) 17 = true then fm_bd (f_X9_starts s2) (fun r3 s3 => if fm_in (1 : Int32) 17 = true then fm_bd (f_X9_goesBut (-4 : Int32) (fm_up s3 2 (1 : Int32).toNatClampNeg v1)) (fun r4 s4 => if fm_in (1 : Int32) 17 = true then some (r4, (fm_up s4 2 (1 : Int32).toNatClampNeg (s2 2 (1 : Int32).toNatClampNeg))) else none) else none) else none))
set_option maxHeartbeats 4000000 in
theorem e_X9_women {w : fm_W} {l : Launch} {o : fm_O} (hI : fm_I w 11) (v1 : Int32) (s : fm_M) (z : Int32 × fm_M) (h : f_X9_women v1 s = some z) (ho : ∀ (r : Int32) (s : fm_M), z = (r, s) → o = (some (.int r), s)) : fm_V w layM 11 l rm_X9_women cX9_women 4 RX9 (some .int) o 0 [some (.ref (fm_ad w 0)), some (.int v1), none, none] [] s := by
  unfold f_X9_women at h
  refine v_iload_n 1 dX9_women_0 rfl rfl ?_
  refine v_iconst (1 : Int32) dX9_women_1 (by decide) ?_
  refine v_iconst (3 : Int32) dX9_women_2 (by decide) ?_
  obtain ⟨r1, s1, h1, h⟩ := fm_bds h
  refine v_cSi [.int v1, .int (1 : Int32), .int (3 : Int32)] [] l_X9_50 (c_X9_in hI h1) rfl rfl ⟨rfl, rfl, by decide, by decide⟩ (Nat.le_of_ble_eq_true rfl) dX9_women_3 ?_
  refine v_if_ne 11 dX9_women_6 (by decide) h (fun h => ?_) (fun h => ?_)
  · refine v_aload_n 0 dX9_women_11 rfl rfl ?_
    obtain ⟨r2, s2, h2, h⟩ := fm_bds h
    refine v_cVv [] [] l_X9_158 (c_X9_holds hI h2) yM_0 (by decide) rfl rfl ⟨rfl, rfl, by decide, by decide⟩ (Nat.le_of_ble_eq_true rfl) dX9_women_12 ?_
    refine v_aload_n 0 dX9_women_15 rfl rfl ?_
    refine v_getr 2 g_X9_13 yM_0 (by decide) rfl dX9_women_16 ?_
    refine v_iconst (1 : Int32) dX9_women_19 (by decide) ?_
    obtain ⟨hi, h⟩ := fm_ift h
    refine v_iald (Or.inl ⟨(by decide), yM_2⟩) hi dX9_women_20 ?_
    refine v_istore_n (lv' := [some (.ref (fm_ad w 0)), some (.int v1), some (.int (s2 2 (1 : Int32).toNatClampNeg)), none]) 2 dX9_women_21 rfl (by decide) rfl rfl ?_
    refine v_aload_n 0 dX9_women_22 rfl rfl ?_
    obtain ⟨r3, s3, h3, h⟩ := fm_bds h
    refine v_cVv [] [] l_X9_84 (c_X9_starts hI h3) yM_0 (by decide) rfl rfl ⟨rfl, rfl, by decide, by decide⟩ (Nat.le_of_ble_eq_true rfl) dX9_women_23 ?_
    refine v_aload_n 0 dX9_women_26 rfl rfl ?_
    refine v_getr 2 g_X9_13 yM_0 (by decide) rfl dX9_women_27 ?_
    refine v_iconst (1 : Int32) dX9_women_30 (by decide) ?_
    refine v_iload_n 1 dX9_women_31 rfl rfl ?_
    obtain ⟨hi, h⟩ := fm_ift h
    refine v_iast (by decide) yM_2 hi dX9_women_32 ?_
    refine v_aload_n 0 dX9_women_33 rfl rfl ?_
    refine v_bipush (-4 : Int32) dX9_women_34 (by decide) ?_
    obtain ⟨r4, s4, h4, h⟩ := fm_bds h
    refine v_cVi [.int (-4 : Int32)] [] l_X9_161 (c_X9_goesBut hI h4) yM_0 (by decide) rfl rfl ⟨rfl, rfl, by decide, by decide⟩ (Nat.le_of_ble_eq_true rfl) dX9_women_36 ?_
    refine v_istore_n (lv' := [some (.ref (fm_ad w 0)), some (.int v1), some (.int (s2 2 (1 : Int32).toNatClampNeg)), some (.int r4)]) 3 dX9_women_39 rfl (by decide) rfl rfl ?_
    refine v_aload_n 0 dX9_women_40 rfl rfl ?_
    refine v_getr 2 g_X9_13 yM_0 (by decide) rfl dX9_women_41 ?_
    refine v_iconst (1 : Int32) dX9_women_44 (by decide) ?_
    refine v_iload_n 2 dX9_women_45 rfl rfl ?_
    obtain ⟨hi, h⟩ := fm_ift h
    refine v_iast (by decide) yM_2 hi dX9_women_46 ?_
    refine v_iload_n 3 dX9_women_47 rfl rfl ?_
    exact v_iret rfl (ho _ _ (Option.some.inj h).symm) dX9_women_48
  · refine v_iconst (-1 : Int32) dX9_women_9 (by decide) ?_
    exact v_iret rfl (ho _ _ (Option.some.inj h).symm) dX9_women_10
theorem c_X9_women {w : fm_W} {l : Launch} (hI : fm_I w 11) {v1 : Int32} {s : fm_M} {r : Int32} {s2 : fm_M} (h : f_X9_women v1 s = some (r, s2)) : fm_C w layM 11 l yX9_women cX9_women 4 (some .int) rm_X9_women [.ref (fm_ad w 0), .int v1] s (some (.int r), s2) :=
  fm_of hI (by decide) rfl (Nat.le_of_ble_eq_true rfl) (e_X9_women hI v1 s _ h (fun r s e => by cases e; rfl))
-- X9_write
abbrev rm_X9_write : Room := { frames := 1, cells := 0, slots := 0, locals := 22 }
def f_X9_write (v1 : Int32) (s : fm_M) : Option (Int32 × fm_M) :=
  fm_bd (f_X9_in v1 (32 : Int32) (126 : Int32) s) (fun r1 s1 => if r1 = 0 then some ((-1 : Int32), s1) else if (s1 0 1) = (200 : Int32) then some ((-3 : Int32), s1) else if fm_in (s1 0 1) 200 = true then some (((fm_up (fm_up s1 1 (s1 0 1).toNatClampNeg v1) 0 1 (((fm_up s1 1 (s1 0 1).toNatClampNeg v1) 0 1) + (1 : Int32))) 0 1), (fm_up (fm_up s1 1 (s1 0 1).toNatClampNeg v1) 0 1 (((fm_up s1 1 (s1 0 1).toNatClampNeg v1) 0 1) + (1 : Int32)))) else none)
set_option maxHeartbeats 4000000 in
theorem e_X9_write {w : fm_W} {l : Launch} {o : fm_O} (hI : fm_I w 11) (v1 : Int32) (s : fm_M) (z : Int32 × fm_M) (h : f_X9_write v1 s = some z) (ho : ∀ (r : Int32) (s : fm_M), z = (r, s) → o = (some (.int r), s)) : fm_V w layM 11 l rm_X9_write cX9_write 2 RX9 (some .int) o 0 [some (.ref (fm_ad w 0)), some (.int v1)] [] s := by
  unfold f_X9_write at h
  refine v_iload_n 1 dX9_write_0 rfl rfl ?_
  refine v_bipush (32 : Int32) dX9_write_1 (by decide) ?_
  refine v_bipush (126 : Int32) dX9_write_3 (by decide) ?_
  obtain ⟨r1, s1, h1, h⟩ := fm_bds h
  refine v_cSi [.int v1, .int (32 : Int32), .int (126 : Int32)] [] l_X9_50 (c_X9_in hI h1) rfl rfl ⟨rfl, rfl, by decide, by decide⟩ (Nat.le_of_ble_eq_true rfl) dX9_write_5 ?_
  refine v_if_ne 13 dX9_write_8 (by decide) h (fun h => ?_) (fun h => ?_)
  · refine v_aload_n 0 dX9_write_13 rfl rfl ?_
    refine v_geti g_X9_54 yM_0 (by decide) rfl dX9_write_14 ?_
    refine v_sipush (200 : Int32) dX9_write_17 (by decide) ?_
    refine v_icmp_ne 26 dX9_write_20 (by decide) h (fun h => ?_) (fun h => ?_)
    · refine v_aload_n 0 dX9_write_26 rfl rfl ?_
      refine v_getr 1 g_X9_7 yM_0 (by decide) rfl dX9_write_27 ?_
      refine v_aload_n 0 dX9_write_30 rfl rfl ?_
      refine v_geti g_X9_54 yM_0 (by decide) rfl dX9_write_31 ?_
      refine v_iload_n 1 dX9_write_34 rfl rfl ?_
      obtain ⟨hi, h⟩ := fm_ift h
      refine v_iast (by decide) yM_1 hi dX9_write_35 ?_
      refine v_aload_n 0 dX9_write_36 rfl rfl ?_
      refine v_dup dX9_write_37 rfl ?_
      refine v_geti g_X9_54 yM_0 (by decide) rfl dX9_write_38 ?_
      refine v_iconst (1 : Int32) dX9_write_41 (by decide) ?_
      refine v_iadd dX9_write_42 ?_
      refine v_put p_X9_54 yM_0 (by decide) rfl ⟨rfl, rfl⟩ dX9_write_43 ?_
      refine v_aload_n 0 dX9_write_46 rfl rfl ?_
      refine v_geti g_X9_54 yM_0 (by decide) rfl dX9_write_47 ?_
      exact v_iret rfl (ho _ _ (Option.some.inj h).symm) dX9_write_50
    · refine v_bipush (-3 : Int32) dX9_write_23 (by decide) ?_
      exact v_iret rfl (ho _ _ (Option.some.inj h).symm) dX9_write_25
  · refine v_iconst (-1 : Int32) dX9_write_11 (by decide) ?_
    exact v_iret rfl (ho _ _ (Option.some.inj h).symm) dX9_write_12
theorem c_X9_write {w : fm_W} {l : Launch} (hI : fm_I w 11) {v1 : Int32} {s : fm_M} {r : Int32} {s2 : fm_M} (h : f_X9_write v1 s = some (r, s2)) : fm_C w layM 11 l yX9_write cX9_write 2 (some .int) rm_X9_write [.ref (fm_ad w 0), .int v1] s (some (.int r), s2) :=
  fm_of hI (by decide) rfl (Nat.le_of_ble_eq_true rfl) (e_X9_write hI v1 s _ h (fun r s e => by cases e; rfl))
