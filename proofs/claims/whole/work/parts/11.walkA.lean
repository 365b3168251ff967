-- X0_choose
abbrev rm_X0_choose : Room := { frames := 0, cells := 0, slots := 0, locals := 0 }
def f_X0_choose_4 (v0 : Int32) (v1 : Int32) (s : fm_M) (v2 : Int32) (v3 : Int32) : Option ((fm_M × Int32 × Int32) ⊕ (fm_M × Int32 × Int32)) :=
  if v1 < v3 then some (.inr (s, v2, v3)) else if v3 = 0 then none else some (.inl (s, ((v2 * ((v0 - v3) + (1 : Int32))) / v3), (v3 + (1 : Int32))))
set_option maxHeartbeats 4000000 in
theorem t_X0_choose_4 {w : fm_W} {l : Launch} {o : fm_O} (hI : fm_I w 105) (v0 : Int32) (v1 : Int32) (s : fm_M) (v2 : Int32) (v3 : Int32) (z : (fm_M × Int32 × Int32) ⊕ (fm_M × Int32 × Int32)) (h : f_X0_choose_4 v0 v1 s v2 v3 = some z) (kb : ∀ (s : fm_M) (u2 : Int32) (u3 : Int32), z = .inl (s, u2, u3) → fm_V w layX 105 l rm_X0_choose cX0_choose 4 RX0 (some .int) o 4 [some (.int v0), some (.int v1), some (.int u2), some (.int u3)] [] s) (ke : ∀ (s : fm_M) (u2 : Int32) (u3 : Int32), z = .inr (s, u2, u3) → fm_V w layX 105 l rm_X0_choose cX0_choose 4 RX0 (some .int) o 25 [some (.int v0), some (.int v1), some (.int u2), some (.int u3)] [] s) : fm_V w layX 105 l rm_X0_choose cX0_choose 4 RX0 (some .int) o 4 [some (.int v0), some (.int v1), some (.int v2), some (.int v3)] [] s := by
  unfold f_X0_choose_4 at h
  refine v_iload_n 3 dX0_choose_4 rfl rfl ?_
  refine v_iload_n 1 dX0_choose_5 rfl rfl ?_
  refine v_icmp_gt 25 dX0_choose_6 (by decide) h (fun h => ?_) (fun h => ?_)
  · refine v_lw [some (.int v0), some (.int v1), some (.int v2), some (.int v3)] rfl ⟨rfl, rfl, rfl, rfl, trivial⟩ ?_
    exact ke _ _ _ (Option.some.inj h).symm
  · refine v_iload_n 2 dX0_choose_9 rfl rfl ?_
    refine v_iload_n 0 dX0_choose_10 rfl rfl ?_
    refine v_iload_n 3 dX0_choose_11 rfl rfl ?_
    refine v_isub dX0_choose_12 ?_
    refine v_iconst (1 : Int32) dX0_choose_13 (by decide) ?_
    refine v_iadd dX0_choose_14 ?_
    refine v_imul dX0_choose_15 ?_
    refine v_iload_n 3 dX0_choose_16 rfl rfl ?_
    obtain ⟨hz, h⟩ := fm_ifz h
    refine v_idiv dX0_choose_17 hz ?_
    refine v_istore_n (lv' := [some (.int v0), some (.int v1), some (.int ((v2 * ((v0 - v3) + (1 : Int32))) / v3)), some (.int v3)]) 2 dX0_choose_18 rfl (by decide) rfl rfl ?_
    refine v_iinc (lv' := [some (.int v0), some (.int v1), some (.int ((v2 * ((v0 - v3) + (1 : Int32))) / v3)), some (.int (v3 + (1 : Int32)))]) (1 : Int32) dX0_choose_19 rfl (by decide) (by decide) rfl rfl ?_
    refine v_goto 4 dX0_choose_22 (by decide) ?_
    refine v_lw [some (.int v0), some (.int v1), some (.int ((v2 * ((v0 - v3) + (1 : Int32))) / v3)), some (.int (v3 + (1 : Int32)))] rfl ⟨rfl, rfl, rfl, rfl, trivial⟩ ?_
    exact kb _ _ _ (Option.some.inj h).symm
set_option maxHeartbeats 4000000 in
theorem i_X0_choose_4 {w : fm_W} {l : Launch} {o : fm_O} (hI : fm_I w 105) (v0 : Int32) (v1 : Int32) (n : Nat) (s : fm_M) (v2 : Int32) (v3 : Int32) (q : fm_M × Int32 × Int32) (h : fm_it (fun s => f_X0_choose_4 v0 v1 s.1 s.2.1 s.2.2) n (s, v2, v3) = some q) (ke : ∀ (s : fm_M) (u2 : Int32) (u3 : Int32), q = (s, u2, u3) → fm_V w layX 105 l rm_X0_choose cX0_choose 4 RX0 (some .int) o 25 [some (.int v0), some (.int v1), some (.int u2), some (.int u3)] [] s) : fm_V w layX 105 l rm_X0_choose cX0_choose 4 RX0 (some .int) o 4 [some (.int v0), some (.int v1), some (.int v2), some (.int v3)] [] s :=
  fm_it_loop (body := (fun s => f_X0_choose_4 v0 v1 s.1 s.2.1 s.2.2)) (P := fun s => fm_V w layX 105 l rm_X0_choose cX0_choose 4 RX0 (some .int) o 4 [some (.int v0), some (.int v1), some (.int s.2.1), some (.int s.2.2)] [] s.1) (K := (fun q : fm_M × Int32 × Int32 => (∀ (s : fm_M) (u2 : Int32) (u3 : Int32), q = (s, u2, u3) → fm_V w layX 105 l rm_X0_choose cX0_choose 4 RX0 (some .int) o 25 [some (.int v0), some (.int v1), some (.int u2), some (.int u3)] [] s))) (fun s z hb kl kx => t_X0_choose_4 hI v0 v1 s.1 s.2.1 s.2.2 z hb (fun s u2 u3 e => kl _ e) (fun s u2 u3 e => (kx _ e) s u2 u3 rfl)) n (s, v2, v3) q h ke
def f_X0_choose (v0 : Int32) (v1 : Int32) (s : fm_M) : Option (Int32 × fm_M) :=
  fm_op (fm_it (fun (yy : fm_M × Int32 × Int32) => f_X0_choose_4 v0 v1 yy.1 yy.2.1 yy.2.2) fm_fu (s, (1 : Int32), (1 : Int32))) (fun q1 => ((fun (s1 : fm_M) (x1_2 : Int32) (x1_3 : Int32) => some (x1_2, s1))) q1.1 q1.2.1 q1.2.2)
set_option maxHeartbeats 4000000 in
theorem e_X0_choose {w : fm_W} {l : Launch} {o : fm_O} (hI : fm_I w 105) (v0 : Int32) (v1 : Int32) (s : fm_M) (z : Int32 × fm_M) (h : f_X0_choose v0 v1 s = some z) (ho : ∀ (r : Int32) (s : fm_M), z = (r, s) → o = (some (.int r), s)) : fm_V w layX 105 l rm_X0_choose cX0_choose 4 RX0 (some .int) o 0 [some (.int v0), some (.int v1), none, none] [] s := by
  unfold f_X0_choose at h
  refine v_iconst (1 : Int32) dX0_choose_0 (by decide) ?_
  refine v_istore_n (lv' := [some (.int v0), some (.int v1), some (.int (1 : Int32)), none]) 2 dX0_choose_1 rfl (by decide) rfl rfl ?_
  refine v_iconst (1 : Int32) dX0_choose_2 (by decide) ?_
  refine v_istore_n (lv' := [some (.int v0), some (.int v1), some (.int (1 : Int32)), some (.int (1 : Int32))]) 3 dX0_choose_3 rfl (by decide) rfl rfl ?_
  obtain ⟨q1, h1, h⟩ := fm_ops h
  refine v_lw [some (.int v0), some (.int v1), some (.int (1 : Int32)), some (.int (1 : Int32))] rfl ⟨rfl, rfl, rfl, rfl, trivial⟩ ?_
  refine i_X0_choose_4 hI v0 v1 _ _ _ _ _ h1 (fun s1 x1_2 x1_3 e => ?_)
  subst e
  dsimp only at h
  refine v_iload_n 2 dX0_choose_25 rfl rfl ?_
  exact v_iret rfl (ho _ _ (Option.some.inj h).symm) dX0_choose_26
theorem c_X0_choose {w : fm_W} {l : Launch} (hI : fm_I w 105) {v0 : Int32} {v1 : Int32} {s : fm_M} {r : Int32} {s2 : fm_M} (h : f_X0_choose v0 v1 s = some (r, s2)) : fm_C w layX 105 l yX0_choose cX0_choose 4 (some .int) rm_X0_choose [.int v0, .int v1] s (some (.int r), s2) :=
  fm_of hI (by decide) rfl (Nat.le_of_ble_eq_true rfl) (e_X0_choose hI v0 v1 s _ h (fun r s e => by cases e; rfl))
-- X0_commonDivisor
abbrev rm_X0_commonDivisor : Room := { frames := 0, cells := 0, slots := 0, locals := 0 }
def f_X0_commonDivisor_7 (s : fm_M) (v2 : Int32) (v3 : Int32) (v4 : Int32) : Option ((fm_M × Int32 × Int32 × Int32) ⊕ (fm_M × Int32 × Int32 × Int32)) :=
  if (50 : Int32) ≤ v4 then some (.inr (s, v2, v3, v4)) else if v3 = 0 then some (.inr (s, v2, v3, v4)) else if v3 = 0 then none else some (.inl (s, v3, (v2 - v2 / v3 * v3), (v4 + (1 : Int32))))
set_option maxHeartbeats 4000000 in
theorem t_X0_commonDivisor_7 {w : fm_W} {l : Launch} {o : fm_O} (hI : fm_I w 105) (s : fm_M) (v2 : Int32) (v3 : Int32) (v4 : Int32) (z : (fm_M × Int32 × Int32 × Int32) ⊕ (fm_M × Int32 × Int32 × Int32)) (h : f_X0_commonDivisor_7 s v2 v3 v4 = some z) (kb : ∀ (s : fm_M) (u2 : Int32) (u3 : Int32) (u4 : Int32), z = .inl (s, u2, u3, u4) → fm_V w layX 105 l rm_X0_commonDivisor cX0_commonDivisor 6 RX0 (some .int) o 7 [none, none, some (.int u2), some (.int u3), some (.int u4), none] [] s) (ke : ∀ (s : fm_M) (u2 : Int32) (u3 : Int32) (u4 : Int32), z = .inr (s, u2, u3, u4) → fm_V w layX 105 l rm_X0_commonDivisor cX0_commonDivisor 6 RX0 (some .int) o 34 [none, none, some (.int u2), some (.int u3), some (.int u4), none] [] s) : fm_V w layX 105 l rm_X0_commonDivisor cX0_commonDivisor 6 RX0 (some .int) o 7 [none, none, some (.int v2), some (.int v3), some (.int v4), none] [] s := by
  unfold f_X0_commonDivisor_7 at h
  refine v_iload dX0_commonDivisor_7 rfl ?_
  refine v_bipush (50 : Int32) dX0_commonDivisor_9 (by decide) ?_
  refine v_icmp_ge 34 dX0_commonDivisor_11 (by decide) h (fun h => ?_) (fun h => ?_)
  · refine v_lw [none, none, some (.int v2), some (.int v3), some (.int v4), none] rfl ⟨rfl, rfl, rfl, trivial⟩ ?_
    exact ke _ _ _ _ (Option.some.inj h).symm
  · refine v_iload_n 3 dX0_commonDivisor_14 rfl rfl ?_
    refine v_if_eq 34 dX0_commonDivisor_15 (by decide) h (fun h => ?_) (fun h => ?_)
    · refine v_lw [none, none, some (.int v2), some (.int v3), some (.int v4), none] rfl ⟨rfl, rfl, rfl, trivial⟩ ?_
      exact ke _ _ _ _ (Option.some.inj h).symm
    · refine v_iload_n 2 dX0_commonDivisor_18 rfl rfl ?_
      refine v_iload_n 3 dX0_commonDivisor_19 rfl rfl ?_
      obtain ⟨hz, h⟩ := fm_ifz h
      refine v_irem dX0_commonDivisor_20 hz ?_
      refine v_istore (lv' := [none, none, some (.int v2), some (.int v3), some (.int v4), some (.int (v2 - v2 / v3 * v3))]) dX0_commonDivisor_21 (by decide) rfl rfl ?_
      refine v_iload_n 3 dX0_commonDivisor_23 rfl rfl ?_
      refine v_istore_n (lv' := [none, none, some (.int v3), some (.int v3), some (.int v4), some (.int (v2 - v2 / v3 * v3))]) 2 dX0_commonDivisor_24 rfl (by decide) rfl rfl ?_
      refine v_iload dX0_commonDivisor_25 rfl ?_
      refine v_istore_n (lv' := [none, none, some (.int v3), some (.int (v2 - v2 / v3 * v3)), some (.int v4), some (.int (v2 - v2 / v3 * v3))]) 3 dX0_commonDivisor_27 rfl (by decide) rfl rfl ?_
      refine v_iinc (lv' := [none, none, some (.int v3), some (.int (v2 - v2 / v3 * v3)), some (.int (v4 + (1 : Int32))), some (.int (v2 - v2 / v3 * v3))]) (1 : Int32) dX0_commonDivisor_28 rfl (by decide) (by decide) rfl rfl ?_
      refine v_goto 7 dX0_commonDivisor_31 (by decide) ?_
      refine v_lw [none, none, some (.int v3), some (.int (v2 - v2 / v3 * v3)), some (.int (v4 + (1 : Int32))), none] rfl ⟨rfl, rfl, rfl, trivial⟩ ?_
      exact kb _ _ _ _ (Option.some.inj h).symm
set_option maxHeartbeats 4000000 in
theorem i_X0_commonDivisor_7 {w : fm_W} {l : Launch} {o : fm_O} (hI : fm_I w 105) (n : Nat) (s : fm_M) (v2 : Int32) (v3 : Int32) (v4 : Int32) (q : fm_M × Int32 × Int32 × Int32) (h : fm_it (fun s => f_X0_commonDivisor_7 s.1 s.2.1 s.2.2.1 s.2.2.2) n (s, v2, v3, v4) = some q) (ke : ∀ (s : fm_M) (u2 : Int32) (u3 : Int32) (u4 : Int32), q = (s, u2, u3, u4) → fm_V w layX 105 l rm_X0_commonDivisor cX0_commonDivisor 6 RX0 (some .int) o 34 [none, none, some (.int u2), some (.int u3), some (.int u4), none] [] s) : fm_V w layX 105 l rm_X0_commonDivisor cX0_commonDivisor 6 RX0 (some .int) o 7 [none, none, some (.int v2), some (.int v3), some (.int v4), none] [] s :=
  fm_it_loop (body := (fun s => f_X0_commonDivisor_7 s.1 s.2.1 s.2.2.1 s.2.2.2)) (P := fun s => fm_V w layX 105 l rm_X0_commonDivisor cX0_commonDivisor 6 RX0 (some .int) o 7 [none, none, some (.int s.2.1), some (.int s.2.2.1), some (.int s.2.2.2), none] [] s.1) (K := (fun q : fm_M × Int32 × Int32 × Int32 => (∀ (s : fm_M) (u2 : Int32) (u3 : Int32) (u4 : Int32), q = (s, u2, u3, u4) → fm_V w layX 105 l rm_X0_commonDivisor cX0_commonDivisor 6 RX0 (some .int) o 34 [none, none, some (.int u2), some (.int u3), some (.int u4), none] [] s))) (fun s z hb kl kx => t_X0_commonDivisor_7 hI s.1 s.2.1 s.2.2.1 s.2.2.2 z hb (fun s u2 u3 u4 e => kl _ e) (fun s u2 u3 u4 e => (kx _ e) s u2 u3 u4 rfl)) n (s, v2, v3, v4) q h ke
def f_X0_commonDivisor_34 (v2 : Int32) (s : fm_M) : Option (Int32 × fm_M) :=
  some (v2, s)
set_option maxHeartbeats 4000000 in
theorem t_X0_commonDivisor_34 {w : fm_W} {l : Launch} {o : fm_O} (hI : fm_I w 105) (v2 : Int32) (s : fm_M) (z : Int32 × fm_M) (h : f_X0_commonDivisor_34 v2 s = some z) (ho : ∀ (r : Int32) (s : fm_M), z = (r, s) → o = (some (.int r), s)) : fm_V w layX 105 l rm_X0_commonDivisor cX0_commonDivisor 6 RX0 (some .int) o 34 [none, none, some (.int v2), none, none, none] [] s := by
  unfold f_X0_commonDivisor_34 at h
  refine v_iload_n 2 dX0_commonDivisor_34 rfl rfl ?_
  exact v_iret rfl (ho _ _ (Option.some.inj h).symm) dX0_commonDivisor_35
def f_X0_commonDivisor (v0 : Int32) (v1 : Int32) (s : fm_M) : Option (Int32 × fm_M) :=
  fm_op (fm_it (fun (yy : fm_M × Int32 × Int32 × Int32) => f_X0_commonDivisor_7 yy.1 yy.2.1 yy.2.2.1 yy.2.2.2) fm_fu (s, v0, v1, (0 : Int32))) (fun q1 => ((fun (s1 : fm_M) (x1_2 : Int32) (x1_3 : Int32) (x1_4 : Int32) => f_X0_commonDivisor_34 x1_2 s1)) q1.1 q1.2.1 q1.2.2.1 q1.2.2.2)
set_option maxHeartbeats 4000000 in
theorem e_X0_commonDivisor {w : fm_W} {l : Launch} {o : fm_O} (hI : fm_I w 105) (v0 : Int32) (v1 : Int32) (s : fm_M) (z : Int32 × fm_M) (h : f_X0_commonDivisor v0 v1 s = some z) (ho : ∀ (r : Int32) (s : fm_M), z = (r, s) → o = (some (.int r), s)) : fm_V w layX 105 l rm_X0_commonDivisor cX0_commonDivisor 6 RX0 (some .int) o 0 [some (.int v0), some (.int v1), none, none, none, none] [] s := by
  unfold f_X0_commonDivisor at h
  refine v_iload_n 0 dX0_commonDivisor_0 rfl rfl ?_
  refine v_istore_n (lv' := [some (.int v0), some (.int v1), some (.int v0), none, none, none]) 2 dX0_commonDivisor_1 rfl (by decide) rfl rfl ?_
  refine v_iload_n 1 dX0_commonDivisor_2 rfl rfl ?_
  refine v_istore_n (lv' := [some (.int v0), some (.int v1), some (.int v0), some (.int v1), none, none]) 3 dX0_commonDivisor_3 rfl (by decide) rfl rfl ?_
  refine v_iconst (0 : Int32) dX0_commonDivisor_4 (by decide) ?_
  refine v_istore (lv' := [some (.int v0), some (.int v1), some (.int v0), some (.int v1), some (.int (0 : Int32)), none]) dX0_commonDivisor_5 (by decide) rfl rfl ?_
  obtain ⟨q1, h1, h⟩ := fm_ops h
  refine v_lw [none, none, some (.int v0), some (.int v1), some (.int (0 : Int32)), none] rfl ⟨rfl, rfl, rfl, trivial⟩ ?_
  refine i_X0_commonDivisor_7 hI _ _ _ _ _ _ h1 (fun s1 x1_2 x1_3 x1_4 e => ?_)
  subst e
  dsimp only at h
  refine v_lw [none, none, some (.int x1_2), none, none, none] rfl ⟨rfl, trivial⟩ ?_
  exact t_X0_commonDivisor_34 hI x1_2 s1 _ h ho
theorem c_X0_commonDivisor {w : fm_W} {l : Launch} (hI : fm_I w 105) {v0 : Int32} {v1 : Int32} {s : fm_M} {r : Int32} {s2 : fm_M} (h : f_X0_commonDivisor v0 v1 s = some (r, s2)) : fm_C w layX 105 l yX0_commonDivisor cX0_commonDivisor 6 (some .int) rm_X0_commonDivisor [.int v0, .int v1] s (some (.int r), s2) :=
  fm_of hI (by decide) rfl (Nat.le_of_ble_eq_true rfl) (e_X0_commonDivisor hI v0 v1 s _ h (fun r s e => by cases e; rfl))
-- X0_power
abbrev rm_X0_power : Room := { frames := 0, cells := 0, slots := 0, locals := 0 }
def f_X0_power_4 (v0 : Int32) (v1 : Int32) (s : fm_M) (v2 : Int32) (v3 : Int32) : Option ((fm_M × Int32 × Int32) ⊕ (fm_M × Int32 × Int32)) :=
  if v1 ≤ v3 then some (.inr (s, v2, v3)) else some (.inl (s, (v2 * v0), (v3 + (1 : Int32))))
set_option maxHeartbeats 4000000 in
theorem t_X0_power_4 {w : fm_W} {l : Launch} {o : fm_O} (hI : fm_I w 105) (v0 : Int32) (v1 : Int32) (s : fm_M) (v2 : Int32) (v3 : Int32) (z : (fm_M × Int32 × Int32) ⊕ (fm_M × Int32 × Int32)) (h : f_X0_power_4 v0 v1 s v2 v3 = some z) (kb : ∀ (s : fm_M) (u2 : Int32) (u3 : Int32), z = .inl (s, u2, u3) → fm_V w layX 105 l rm_X0_power cX0_power 4 RX0 (some .int) o 4 [some (.int v0), some (.int v1), some (.int u2), some (.int u3)] [] s) (ke : ∀ (s : fm_M) (u2 : Int32) (u3 : Int32), z = .inr (s, u2, u3) → fm_V w layX 105 l rm_X0_power cX0_power 4 RX0 (some .int) o 19 [some (.int v0), some (.int v1), some (.int u2), some (.int u3)] [] s) : fm_V w layX 105 l rm_X0_power cX0_power 4 RX0 (some .int) o 4 [some (.int v0), some (.int v1), some (.int v2), some (.int v3)] [] s := by
  unfold f_X0_power_4 at h
  refine v_iload_n 3 dX0_power_4 rfl rfl ?_
  refine v_iload_n 1 dX0_power_5 rfl rfl ?_
  refine v_icmp_ge 19 dX0_power_6 (by decide) h (fun h => ?_) (fun h => ?_)
  · refine v_lw [some (.int v0), some (.int v1), some (.int v2), some (.int v3)] rfl ⟨rfl, rfl, rfl, rfl, trivial⟩ ?_
    exact ke _ _ _ (Option.some.inj h).symm
  · refine v_iload_n 2 dX0_power_9 rfl rfl ?_
    refine v_iload_n 0 dX0_power_10 rfl rfl ?_
    refine v_imul dX0_power_11 ?_
    refine v_istore_n (lv' := [some (.int v0), some (.int v1), some (.int (v2 * v0)), some (.int v3)]) 2 dX0_power_12 rfl (by decide) rfl rfl ?_
    refine v_iinc (lv' := [some (.int v0), some (.int v1), some (.int (v2 * v0)), some (.int (v3 + (1 : Int32)))]) (1 : Int32) dX0_power_13 rfl (by decide) (by decide) rfl rfl ?_
    refine v_goto 4 dX0_power_16 (by decide) ?_
    refine v_lw [some (.int v0), some (.int v1), some (.int (v2 * v0)), some (.int (v3 + (1 : Int32)))] rfl ⟨rfl, rfl, rfl, rfl, trivial⟩ ?_
    exact kb _ _ _ (Option.some.inj h).symm
set_option maxHeartbeats 4000000 in
theorem i_X0_power_4 {w : fm_W} {l : Launch} {o : fm_O} (hI : fm_I w 105) (v0 : Int32) (v1 : Int32) (n : Nat) (s : fm_M) (v2 : Int32) (v3 : Int32) (q : fm_M × Int32 × Int32) (h : fm_it (fun s => f_X0_power_4 v0 v1 s.1 s.2.1 s.2.2) n (s, v2, v3) = some q) (ke : ∀ (s : fm_M) (u2 : Int32) (u3 : Int32), q = (s, u2, u3) → fm_V w layX 105 l rm_X0_power cX0_power 4 RX0 (some .int) o 19 [some (.int v0), some (.int v1), some (.int u2), some (.int u3)] [] s) : fm_V w layX 105 l rm_X0_power cX0_power 4 RX0 (some .int) o 4 [some (.int v0), some (.int v1), some (.int v2), some (.int v3)] [] s :=
  fm_it_loop (body := (fun s => f_X0_power_4 v0 v1 s.1 s.2.1 s.2.2)) (P := fun s => fm_V w layX 105 l rm_X0_power cX0_power 4 RX0 (some .int) o 4 [some (.int v0), some (.int v1), some (.int s.2.1), some (.int s.2.2)] [] s.1) (K := (fun q : fm_M × Int32 × Int32 => (∀ (s : fm_M) (u2 : Int32) (u3 : Int32), q = (s, u2, u3) → fm_V w layX 105 l rm_X0_power cX0_power 4 RX0 (some .int) o 19 [some (.int v0), some (.int v1), some (.int u2), some (.int u3)] [] s))) (fun s z hb kl kx => t_X0_power_4 hI v0 v1 s.1 s.2.1 s.2.2 z hb (fun s u2 u3 e => kl _ e) (fun s u2 u3 e => (kx _ e) s u2 u3 rfl)) n (s, v2, v3) q h ke
def f_X0_power (v0 : Int32) (v1 : Int32) (s : fm_M) : Option (Int32 × fm_M) :=
  fm_op (fm_it (fun (yy : fm_M × Int32 × Int32) => f_X0_power_4 v0 v1 yy.1 yy.2.1 yy.2.2) fm_fu (s, (1 : Int32), (0 : Int32))) (fun q1 => ((fun (s1 : fm_M) (x1_2 : Int32) (x1_3 : Int32) => some (x1_2, s1))) q1.1 q1.2.1 q1.2.2)
set_option maxHeartbeats 4000000 in
theorem e_X0_power {w : fm_W} {l : Launch} {o : fm_O} (hI : fm_I w 105) (v0 : Int32) (v1 : Int32) (s : fm_M) (z : Int32 × fm_M) (h : f_X0_power v0 v1 s = some z) (ho : ∀ (r : Int32) (s : fm_M), z = (r, s) → o = (some (.int r), s)) : fm_V w layX 105 l rm_X0_power cX0_power 4 RX0 (some .int) o 0 [some (.int v0), some (.int v1), none, none] [] s := by
  unfold f_X0_power at h
  refine v_iconst (1 : Int32) dX0_power_0 (by decide) ?_
  refine v_istore_n (lv' := [some (.int v0), some (.int v1), some (.int (1 : Int32)), none]) 2 dX0_power_1 rfl (by decide) rfl rfl ?_
  refine v_iconst (0 : Int32) dX0_power_2 (by decide) ?_
  refine v_istore_n (lv' := [some (.int v0), some (.int v1), some (.int (1 : Int32)), some (.int (0 : Int32))]) 3 dX0_power_3 rfl (by decide) rfl rfl ?_
  obtain ⟨q1, h1, h⟩ := fm_ops h
  refine v_lw [some (.int v0), some (.int v1), some (.int (1 : Int32)), some (.int (0 : Int32))] rfl ⟨rfl, rfl, rfl, rfl, trivial⟩ ?_
  refine i_X0_power_4 hI v0 v1 _ _ _ _ _ h1 (fun s1 x1_2 x1_3 e => ?_)
  subst e
  dsimp only at h
  refine v_iload_n 2 dX0_power_19 rfl rfl ?_
  exact v_iret rfl (ho _ _ (Option.some.inj h).symm) dX0_power_20
theorem c_X0_power {w : fm_W} {l : Launch} (hI : fm_I w 105) {v0 : Int32} {v1 : Int32} {s : fm_M} {r : Int32} {s2 : fm_M} (h : f_X0_power v0 v1 s = some (r, s2)) : fm_C w layX 105 l yX0_power cX0_power 4 (some .int) rm_X0_power [.int v0, .int v1] s (some (.int r), s2) :=
  fm_of hI (by decide) rfl (Nat.le_of_ble_eq_true rfl) (e_X0_power hI v0 v1 s _ h (fun r s e => by cases e; rfl))
-- X0_waysOfSoMany
abbrev rm_X0_waysOfSoMany : Room := { frames := 1, cells := 0, slots := 0, locals := 23 }
def f_X0_waysOfSoMany_5 (v0 : Int32) (v2 : Int32) (s : fm_M) (v3 : Int32) (v4 : Int32) : Option ((fm_M × Int32 × Int32) ⊕ (fm_M × Int32 × Int32)) :=
  if v0 < v4 then some (.inr (s, v3, v4)) else fm_bd (f_X0_choose v0 v4 s) (fun r1 s1 => fm_bd (f_X0_power v2 v4 s1) (fun r2 s2 => fm_bd (f_X0_power ((10 : Int32) - v2) (v0 - v4) s2) (fun r3 s3 => some (.inl (s3, (v3 + ((r1 * r2) * r3)), (v4 + (1 : Int32)))))))
set_option maxHeartbeats 4000000 in
theorem t_X0_waysOfSoMany_5 {w : fm_W} {l : Launch} {o : fm_O} (hI : fm_I w 105) (v0 : Int32) (v2 : Int32) (s : fm_M) (v3 : Int32) (v4 : Int32) (z : (fm_M × Int32 × Int32) ⊕ (fm_M × Int32 × Int32)) (h : f_X0_waysOfSoMany_5 v0 v2 s v3 v4 = some z) (kb : ∀ (s : fm_M) (u3 : Int32) (u4 : Int32), z = .inl (s, u3, u4) → fm_V w layX 105 l rm_X0_waysOfSoMany cX0_waysOfSoMany 5 RX0 (some .int) o 5 [some (.int v0), none, some (.int v2), some (.int u3), some (.int u4)] [] s) (ke : ∀ (s : fm_M) (u3 : Int32) (u4 : Int32), z = .inr (s, u3, u4) → fm_V w layX 105 l rm_X0_waysOfSoMany cX0_waysOfSoMany 5 RX0 (some .int) o 45 [some (.int v0), none, some (.int v2), some (.int u3), some (.int u4)] [] s) : fm_V w layX 105 l rm_X0_waysOfSoMany cX0_waysOfSoMany 5 RX0 (some .int) o 5 [some (.int v0), none, some (.int v2), some (.int v3), some (.int v4)] [] s := by
  unfold f_X0_waysOfSoMany_5 at h
  refine v_iload dX0_waysOfSoMany_5 rfl ?_
  refine v_iload_n 0 dX0_waysOfSoMany_7 rfl rfl ?_
  refine v_icmp_gt 45 dX0_waysOfSoMany_8 (by decide) h (fun h => ?_) (fun h => ?_)
  · refine v_lw [some (.int v0), none, some (.int v2), some (.int v3), some (.int v4)] rfl ⟨rfl, rfl, rfl, rfl, trivial⟩ ?_
    exact ke _ _ _ (Option.some.inj h).symm
  · refine v_iload_n 3 dX0_waysOfSoMany_11 rfl rfl ?_
    refine v_iload_n 0 dX0_waysOfSoMany_12 rfl rfl ?_
    refine v_iload dX0_waysOfSoMany_13 rfl ?_
    obtain ⟨r1, s1, h1, h⟩ := fm_bds h
    refine v_cSi [.int v0, .int v4] [.int v3] l_X0_7 (c_X0_choose hI h1) rfl rfl ⟨rfl, rfl, by decide, by decide⟩ (Nat.le_of_ble_eq_true rfl) dX0_waysOfSoMany_15 ?_
    refine v_iload_n 2 dX0_waysOfSoMany_18 rfl rfl ?_
    refine v_iload dX0_waysOfSoMany_19 rfl ?_
    obtain ⟨r2, s2, h2, h⟩ := fm_bds h
    refine v_cSi [.int v2, .int v4] [.int r1, .int v3] l_X0_13 (c_X0_power hI h2) rfl rfl ⟨rfl, rfl, by decide, by decide⟩ (Nat.le_of_ble_eq_true rfl) dX0_waysOfSoMany_21 ?_
    refine v_imul dX0_waysOfSoMany_24 ?_
    refine v_bipush (10 : Int32) dX0_waysOfSoMany_25 (by decide) ?_
    refine v_iload_n 2 dX0_waysOfSoMany_27 rfl rfl ?_
    refine v_isub dX0_waysOfSoMany_28 ?_
    refine v_iload_n 0 dX0_waysOfSoMany_29 rfl rfl ?_
    refine v_iload dX0_waysOfSoMany_30 rfl ?_
    refine v_isub dX0_waysOfSoMany_32 ?_
    obtain ⟨r3, s3, h3, h⟩ := fm_bds h
    refine v_cSi [.int ((10 : Int32) - v2), .int (v0 - v4)] [.int (r1 * r2), .int v3] l_X0_13 (c_X0_power hI h3) rfl rfl ⟨rfl, rfl, by decide, by decide⟩ (Nat.le_of_ble_eq_true rfl) dX0_waysOfSoMany_33 ?_
    refine v_imul dX0_waysOfSoMany_36 ?_
    refine v_iadd dX0_waysOfSoMany_37 ?_
    refine v_istore_n (lv' := [some (.int v0), none, some (.int v2), some (.int (v3 + ((r1 * r2) * r3))), some (.int v4)]) 3 dX0_waysOfSoMany_38 rfl (by decide) rfl rfl ?_
    refine v_iinc (lv' := [some (.int v0), none, some (.int v2), some (.int (v3 + ((r1 * r2) * r3))), some (.int (v4 + (1 : Int32)))]) (1 : Int32) dX0_waysOfSoMany_39 rfl (by decide) (by decide) rfl rfl ?_
    refine v_goto 5 dX0_waysOfSoMany_42 (by decide) ?_
    refine v_lw [some (.int v0), none, some (.int v2), some (.int (v3 + ((r1 * r2) * r3))), some (.int (v4 + (1 : Int32)))] rfl ⟨rfl, rfl, rfl, rfl, trivial⟩ ?_
    exact kb _ _ _ (Option.some.inj h).symm
set_option maxHeartbeats 4000000 in
theorem i_X0_waysOfSoMany_5 {w : fm_W} {l : Launch} {o : fm_O} (hI : fm_I w 105) (v0 : Int32) (v2 : Int32) (n : Nat) (s : fm_M) (v3 : Int32) (v4 : Int32) (q : fm_M × Int32 × Int32) (h : fm_it (fun s => f_X0_waysOfSoMany_5 v0 v2 s.1 s.2.1 s.2.2) n (s, v3, v4) = some q) (ke : ∀ (s : fm_M) (u3 : Int32) (u4 : Int32), q = (s, u3, u4) → fm_V w layX 105 l rm_X0_waysOfSoMany cX0_waysOfSoMany 5 RX0 (some .int) o 45 [some (.int v0), none, some (.int v2), some (.int u3), some (.int u4)] [] s) : fm_V w layX 105 l rm_X0_waysOfSoMany cX0_waysOfSoMany 5 RX0 (some .int) o 5 [some (.int v0), none, some (.int v2), some (.int v3), some (.int v4)] [] s :=
  fm_it_loop (body := (fun s => f_X0_waysOfSoMany_5 v0 v2 s.1 s.2.1 s.2.2)) (P := fun s => fm_V w layX 105 l rm_X0_waysOfSoMany cX0_waysOfSoMany 5 RX0 (some .int) o 5 [some (.int v0), none, some (.int v2), some (.int s.2.1), some (.int s.2.2)] [] s.1) (K := (fun q : fm_M × Int32 × Int32 => (∀ (s : fm_M) (u3 : Int32) (u4 : Int32), q = (s, u3, u4) → fm_V w layX 105 l rm_X0_waysOfSoMany cX0_waysOfSoMany 5 RX0 (some .int) o 45 [some (.int v0), none, some (.int v2), some (.int u3), some (.int u4)] [] s))) (fun s z hb kl kx => t_X0_waysOfSoMany_5 hI v0 v2 s.1 s.2.1 s.2.2 z hb (fun s u3 u4 e => kl _ e) (fun s u3 u4 e => (kx _ e) s u3 u4 rfl)) n (s, v3, v4) q h ke
def f_X0_waysOfSoMany (v0 : Int32) (v1 : Int32) (v2 : Int32) (s : fm_M) : Option (Int32 × fm_M) :=
  fm_op (fm_it (fun (yy : fm_M × Int32 × Int32) => f_X0_waysOfSoMany_5 v0 v2 yy.1 yy.2.1 yy.2.2) fm_fu (s, (0 : Int32), v1)) (fun q4 => ((fun (s4 : fm_M) (x4_3 : Int32) (x4_4 : Int32) => some (x4_3, s4))) q4.1 q4.2.1 q4.2.2)
set_option maxHeartbeats 4000000 in
theorem e_X0_waysOfSoMany {w : fm_W} {l : Launch} {o : fm_O} (hI : fm_I w 105) (v0 : Int32) (v1 : Int32) (v2 : Int32) (s : fm_M) (z : Int32 × fm_M) (h : f_X0_waysOfSoMany v0 v1 v2 s = some z) (ho : ∀ (r : Int32) (s : fm_M), z = (r, s) → o = (some (.int r), s)) : fm_V w layX 105 l rm_X0_waysOfSoMany cX0_waysOfSoMany 5 RX0 (some .int) o 0 [some (.int v0), some (.int v1), some (.int v2), none, none] [] s := by
  unfold f_X0_waysOfSoMany at h
  refine v_iconst (0 : Int32) dX0_waysOfSoMany_0 (by decide) ?_
  refine v_istore_n (lv' := [some (.int v0), some (.int v1), some (.int v2), some (.int (0 : Int32)), none]) 3 dX0_waysOfSoMany_1 rfl (by decide) rfl rfl ?_
  refine v_iload_n 1 dX0_waysOfSoMany_2 rfl rfl ?_
  refine v_istore (lv' := [some (.int v0), some (.int v1), some (.int v2), some (.int (0 : Int32)), some (.int v1)]) dX0_waysOfSoMany_3 (by decide) rfl rfl ?_
  obtain ⟨q4, h4, h⟩ := fm_ops h
  refine v_lw [some (.int v0), none, some (.int v2), some (.int (0 : Int32)), some (.int v1)] rfl ⟨rfl, rfl, rfl, rfl, trivial⟩ ?_
  refine i_X0_waysOfSoMany_5 hI v0 v2 _ _ _ _ _ h4 (fun s4 x4_3 x4_4 e => ?_)
  subst e
  dsimp only at h
  refine v_iload_n 3 dX0_waysOfSoMany_45 rfl rfl ?_
  exact v_iret rfl (ho _ _ (Option.some.inj h).symm) dX0_waysOfSoMany_46
theorem c_X0_waysOfSoMany {w : fm_W} {l : Launch} (hI : fm_I w 105) {v0 : Int32} {v1 : Int32} {v2 : Int32} {s : fm_M} {r : Int32} {s2 : fm_M} (h : f_X0_waysOfSoMany v0 v1 v2 s = some (r, s2)) : fm_C w layX 105 l yX0_waysOfSoMany cX0_waysOfSoMany 5 (some .int) rm_X0_waysOfSoMany [.int v0, .int v1, .int v2] s (some (.int r), s2) :=
  fm_of hI (by decide) rfl (Nat.le_of_ble_eq_true rfl) (e_X0_waysOfSoMany hI v0 v1 v2 s _ h (fun r s e => by cases e; rfl))
-- X4_hasChild
abbrev rm_X4_hasChild : Room := { frames := 0, cells := 0, slots := 0, locals := 0 }
def f_X4_hasChild_23 (pl : Nat) (sk0 : Int32) (s : fm_M) : Option (Int32 × fm_M) :=
  if fm_b sk0 = true then some (sk0, s) else none
set_option maxHeartbeats 4000000 in
theorem t_X4_hasChild_23 {w : fm_W} {l : Launch} {o : fm_O} (hI : fm_I w 105) {pl : Nat} (hpl : isPl pl) (sk0 : Int32) (s : fm_M) (z : Int32 × fm_M) (h : f_X4_hasChild_23 pl sk0 s = some z) (ho : ∀ (r : Int32) (s : fm_M), z = (r, s) → o = (some (.int r), s)) : fm_V w layX 105 l rm_X4_hasChild cX4_hasChild 2 RX4 (some .boolean) o 23 [none, none] [.int sk0] s := by
  unfold f_X4_hasChild_23 at h
  obtain ⟨hb, h⟩ := fm_ift h
  exact v_zret rfl (fm_b_nar hb).1 (ho _ _ (Option.some.inj h).symm) dX4_hasChild_23
def f_X4_hasChild_22 (pl : Nat) (s : fm_M) : Option (Int32 × fm_M) :=
  f_X4_hasChild_23 pl (0 : Int32) s
set_option maxHeartbeats 4000000 in
theorem t_X4_hasChild_22 {w : fm_W} {l : Launch} {o : fm_O} (hI : fm_I w 105) {pl : Nat} (hpl : isPl pl) (s : fm_M) (z : Int32 × fm_M) (h : f_X4_hasChild_22 pl s = some z) (ho : ∀ (r : Int32) (s : fm_M), z = (r, s) → o = (some (.int r), s)) : fm_V w layX 105 l rm_X4_hasChild cX4_hasChild 2 RX4 (some .boolean) o 22 [none, none] [] s := by
  unfold f_X4_hasChild_22 at h
  refine v_iconst (0 : Int32) dX4_hasChild_22 (by decide) ?_
  refine v_lw [none, none] rfl trivial ?_
  exact t_X4_hasChild_23 hI hpl (0 : Int32) s _ h ho
def f_X4_hasChild (pl : Nat) (v1 : Int32) (s : fm_M) : Option (Int32 × fm_M) :=
  if v1 < 0 then f_X4_hasChild_22 pl s else if (s pl 2) ≤ v1 then f_X4_hasChild_22 pl s else if (6 : Int32) ≤ v1 then f_X4_hasChild_22 pl s else f_X4_hasChild_23 pl (1 : Int32) s
set_option maxHeartbeats 4000000 in
theorem e_X4_hasChild {w : fm_W} {l : Launch} {o : fm_O} (hI : fm_I w 105) {pl : Nat} (hpl : isPl pl) (v1 : Int32) (s : fm_M) (z : Int32 × fm_M) (h : f_X4_hasChild pl v1 s = some z) (ho : ∀ (r : Int32) (s : fm_M), z = (r, s) → o = (some (.int r), s)) : fm_V w layX 105 l rm_X4_hasChild cX4_hasChild 2 RX4 (some .boolean) o 0 [some (.ref (fm_ad w pl)), some (.int v1)] [] s := by
  unfold f_X4_hasChild at h
  refine v_iload_n 1 dX4_hasChild_0 rfl rfl ?_
  refine v_if_lt 22 dX4_hasChild_1 (by decide) h (fun h => ?_) (fun h => ?_)
  · refine v_lw [none, none] rfl trivial ?_
    exact t_X4_hasChild_22 hI hpl s _ h ho
  · refine v_iload_n 1 dX4_hasChild_4 rfl rfl ?_
    refine v_aload_n 0 dX4_hasChild_5 rfl rfl ?_
    refine v_geti g_X4_18 hpl.1 (isPl.lt (j := 0) hpl (by decide)) rfl dX4_hasChild_6 ?_
    refine v_icmp_ge 22 dX4_hasChild_9 (by decide) h (fun h => ?_) (fun h => ?_)
    · refine v_lw [none, none] rfl trivial ?_
      exact t_X4_hasChild_22 hI hpl s _ h ho
    · refine v_iload_n 1 dX4_hasChild_12 rfl rfl ?_
      refine v_bipush (6 : Int32) dX4_hasChild_13 (by decide) ?_
      refine v_icmp_ge 22 dX4_hasChild_15 (by decide) h (fun h => ?_) (fun h => ?_)
      · refine v_lw [none, none] rfl trivial ?_
        exact t_X4_hasChild_22 hI hpl s _ h ho
      · refine v_iconst (1 : Int32) dX4_hasChild_18 (by decide) ?_
        refine v_goto 23 dX4_hasChild_19 (by decide) ?_
        refine v_lw [none, none] rfl trivial ?_
        exact t_X4_hasChild_23 hI hpl (1 : Int32) s _ h ho
theorem c_X4_hasChild {w : fm_W} {l : Launch} (hI : fm_I w 105) {pl : Nat} (hpl : isPl pl) {v1 : Int32} {s : fm_M} {r : Int32} {s2 : fm_M} (h : f_X4_hasChild pl v1 s = some (r, s2)) : fm_C w layX 105 l yX4_hasChild cX4_hasChild 2 (some .boolean) rm_X4_hasChild [.ref (fm_ad w pl), .int v1] s (some (.int r), s2) :=
  fm_of hI (by decide) rfl (Nat.le_of_ble_eq_true rfl) (e_X4_hasChild hI hpl v1 s _ h (fun r s e => by cases e; rfl))
-- X4_minutesFor
abbrev rm_X4_minutesFor : Room := { frames := 0, cells := 0, slots := 0, locals := 0 }
def f_X4_minutesFor_41 (sk0 : Int32) (s : fm_M) : Option (Int32 × fm_M) :=
  some (sk0, s)
set_option maxHeartbeats 4000000 in
theorem t_X4_minutesFor_41 {w : fm_W} {l : Launch} {o : fm_O} (hI : fm_I w 105) (sk0 : Int32) (s : fm_M) (z : Int32 × fm_M) (h : f_X4_minutesFor_41 sk0 s = some z) (ho : ∀ (r : Int32) (s : fm_M), z = (r, s) → o = (some (.int r), s)) : fm_V w layX 105 l rm_X4_minutesFor cX4_minutesFor 4 RX4 (some .int) o 41 [none, none, none, none] [.int sk0] s := by
  unfold f_X4_minutesFor_41 at h
  exact v_iret rfl (ho _ _ (Option.some.inj h).symm) dX4_minutesFor_41
def f_X4_minutesFor_40 (v3 : Int32) (s : fm_M) : Option (Int32 × fm_M) :=
  f_X4_minutesFor_41 v3 s
set_option maxHeartbeats 4000000 in
theorem t_X4_minutesFor_40 {w : fm_W} {l : Launch} {o : fm_O} (hI : fm_I w 105) (v3 : Int32) (s : fm_M) (z : Int32 × fm_M) (h : f_X4_minutesFor_40 v3 s = some z) (ho : ∀ (r : Int32) (s : fm_M), z = (r, s) → o = (some (.int r), s)) : fm_V w layX 105 l rm_X4_minutesFor cX4_minutesFor 4 RX4 (some .int) o 40 [none, none, none, some (.int v3)] [] s := by
  unfold f_X4_minutesFor_40 at h
  refine v_iload_n 3 dX4_minutesFor_40 rfl rfl ?_
  refine v_lw [none, none, none, none] rfl trivial ?_
  exact t_X4_minutesFor_41 hI v3 s _ h ho
def f_X4_minutesFor_25 (v2 : Int32) (v3 : Int32) (s : fm_M) : Option (Int32 × fm_M) :=
  if v2 = 0 then f_X4_minutesFor_40 v3 s else if v3 ≤ (1 : Int32) then f_X4_minutesFor_40 v3 s else f_X4_minutesFor_41 (v3 - (1 : Int32)) s
set_option maxHeartbeats 4000000 in
theorem t_X4_minutesFor_25 {w : fm_W} {l : Launch} {o : fm_O} (hI : fm_I w 105) (v2 : Int32) (v3 : Int32) (s : fm_M) (z : Int32 × fm_M) (h : f_X4_minutesFor_25 v2 v3 s = some z) (ho : ∀ (r : Int32) (s : fm_M), z = (r, s) → o = (some (.int r), s)) : fm_V w layX 105 l rm_X4_minutesFor cX4_minutesFor 4 RX4 (some .int) o 25 [none, none, some (.int v2), some (.int v3)] [] s := by
  unfold f_X4_minutesFor_25 at h
  refine v_iload_n 2 dX4_minutesFor_25 rfl rfl ?_
  refine v_if_eq 40 dX4_minutesFor_26 (by decide) h (fun h => ?_) (fun h => ?_)
  · refine v_lw [none, none, none, some (.int v3)] rfl ⟨rfl, trivial⟩ ?_
    exact t_X4_minutesFor_40 hI v3 s _ h ho
  · refine v_iload_n 3 dX4_minutesFor_29 rfl rfl ?_
    refine v_iconst (1 : Int32) dX4_minutesFor_30 (by decide) ?_
    refine v_icmp_le 40 dX4_minutesFor_31 (by decide) h (fun h => ?_) (fun h => ?_)
    · refine v_lw [none, none, none, some (.int v3)] rfl ⟨rfl, trivial⟩ ?_
      exact t_X4_minutesFor_40 hI v3 s _ h ho
    · refine v_iload_n 3 dX4_minutesFor_34 rfl rfl ?_
      refine v_iconst (1 : Int32) dX4_minutesFor_35 (by decide) ?_
      refine v_isub dX4_minutesFor_36 ?_
      refine v_goto 41 dX4_minutesFor_37 (by decide) ?_
      refine v_lw [none, none, none, none] rfl trivial ?_
      exact t_X4_minutesFor_41 hI (v3 - (1 : Int32)) s _ h ho
def f_X4_minutesFor (v0 : Int32) (v1 : Int32) (v2 : Int32) (s : fm_M) : Option (Int32 × fm_M) :=
  if v0 = (1 : Int32) then f_X4_minutesFor_25 v2 ((v1 + (1 : Int32)) / (2 : Int32)) s else if v0 = (3 : Int32) then f_X4_minutesFor_25 v2 (v1 + (2 : Int32)) s else f_X4_minutesFor_25 v2 v1 s
set_option maxHeartbeats 4000000 in
theorem e_X4_minutesFor {w : fm_W} {l : Launch} {o : fm_O} (hI : fm_I w 105) (v0 : Int32) (v1 : Int32) (v2 : Int32) (s : fm_M) (z : Int32 × fm_M) (h : f_X4_minutesFor v0 v1 v2 s = some z) (ho : ∀ (r : Int32) (s : fm_M), z = (r, s) → o = (some (.int r), s)) : fm_V w layX 105 l rm_X4_minutesFor cX4_minutesFor 4 RX4 (some .int) o 0 [some (.int v0), some (.int v1), some (.int v2), none] [] s := by
  unfold f_X4_minutesFor at h
  refine v_iload_n 1 dX4_minutesFor_0 rfl rfl ?_
  refine v_istore_n (lv' := [some (.int v0), some (.int v1), some (.int v2), some (.int v1)]) 3 dX4_minutesFor_1 rfl (by decide) rfl rfl ?_
  refine v_iload_n 0 dX4_minutesFor_2 rfl rfl ?_
  refine v_iconst (1 : Int32) dX4_minutesFor_3 (by decide) ?_
  refine v_icmp_ne 16 dX4_minutesFor_4 (by decide) h (fun h => ?_) (fun h => ?_)
  · refine v_iload_n 0 dX4_minutesFor_16 rfl rfl ?_
    refine v_iconst (3 : Int32) dX4_minutesFor_17 (by decide) ?_
    refine v_icmp_ne 25 dX4_minutesFor_18 (by decide) h (fun h => ?_) (fun h => ?_)
    · refine v_lw [none, none, some (.int v2), some (.int v1)] rfl ⟨rfl, rfl, trivial⟩ ?_
      exact t_X4_minutesFor_25 hI v2 v1 s _ h ho
    · refine v_iload_n 1 dX4_minutesFor_21 rfl rfl ?_
      refine v_iconst (2 : Int32) dX4_minutesFor_22 (by decide) ?_
      refine v_iadd dX4_minutesFor_23 ?_
      refine v_istore_n (lv' := [some (.int v0), some (.int v1), some (.int v2), some (.int (v1 + (2 : Int32)))]) 3 dX4_minutesFor_24 rfl (by decide) rfl rfl ?_
      refine v_lw [none, none, some (.int v2), some (.int (v1 + (2 : Int32)))] rfl ⟨rfl, rfl, trivial⟩ ?_
      exact t_X4_minutesFor_25 hI v2 (v1 + (2 : Int32)) s _ h ho
  · refine v_iload_n 1 dX4_minutesFor_7 rfl rfl ?_
    refine v_iconst (1 : Int32) dX4_minutesFor_8 (by decide) ?_
    refine v_iadd dX4_minutesFor_9 ?_
    refine v_iconst (2 : Int32) dX4_minutesFor_10 (by decide) ?_
    refine v_idiv dX4_minutesFor_11 (by decide) ?_
    refine v_istore_n (lv' := [some (.int v0), some (.int v1), some (.int v2), some (.int ((v1 + (1 : Int32)) / (2 : Int32)))]) 3 dX4_minutesFor_12 rfl (by decide) rfl rfl ?_
    refine v_goto 25 dX4_minutesFor_13 (by decide) ?_
    refine v_lw [none, none, some (.int v2), some (.int ((v1 + (1 : Int32)) / (2 : Int32)))] rfl ⟨rfl, rfl, trivial⟩ ?_
    exact t_X4_minutesFor_25 hI v2 ((v1 + (1 : Int32)) / (2 : Int32)) s _ h ho
theorem c_X4_minutesFor {w : fm_W} {l : Launch} (hI : fm_I w 105) {v0 : Int32} {v1 : Int32} {v2 : Int32} {s : fm_M} {r : Int32} {s2 : fm_M} (h : f_X4_minutesFor v0 v1 v2 s = some (r, s2)) : fm_C w layX 105 l yX4_minutesFor cX4_minutesFor 4 (some .int) rm_X4_minutesFor [.int v0, .int v1, .int v2] s (some (.int r), s2) :=
  fm_of hI (by decide) rfl (Nat.le_of_ble_eq_true rfl) (e_X4_minutesFor hI v0 v1 v2 s _ h (fun r s e => by cases e; rfl))
-- X4_clear
abbrev rm_X4_clear : Room := { frames := 0, cells := 0, slots := 0, locals := 0 }
def f_X4_clear (pl : Nat) (s : fm_M) : Option (Int32 × fm_M) :=
  some (0, (fm_up (fm_up (fm_up (fm_up (fm_up s pl 2 (0 : Int32)) pl 3 (2 : Int32)) pl 4 (9 : Int32)) pl 5 (3 : Int32)) pl 6 (60 : Int32)))
set_option maxHeartbeats 4000000 in
theorem e_X4_clear {w : fm_W} {l : Launch} {o : fm_O} (hI : fm_I w 105) {pl : Nat} (hpl : isPl pl) (s : fm_M) (z : Int32 × fm_M) (h : f_X4_clear pl s = some z) (ho : ∀ (r : Int32) (s : fm_M), z = (r, s) → o = (none, s)) : fm_V w layX 105 l rm_X4_clear cX4_clear 1 RX4 none o 0 [some (.ref (fm_ad w pl))] [] s := by
  unfold f_X4_clear at h
  refine v_aload_n 0 dX4_clear_0 rfl rfl ?_
  refine v_iconst (0 : Int32) dX4_clear_1 (by decide) ?_
  refine v_put p_X4_18 hpl.1 (isPl.lt (j := 0) hpl (by decide)) rfl ⟨rfl, rfl⟩ dX4_clear_2 ?_
  refine v_aload_n 0 dX4_clear_5 rfl rfl ?_
  refine v_iconst (2 : Int32) dX4_clear_6 (by decide) ?_
  refine v_put p_X4_22 hpl.1 (isPl.lt (j := 0) hpl (by decide)) rfl ⟨rfl, rfl⟩ dX4_clear_7 ?_
  refine v_aload_n 0 dX4_clear_10 rfl rfl ?_
  refine v_bipush (9 : Int32) dX4_clear_11 (by decide) ?_
  refine v_put p_X4_25 hpl.1 (isPl.lt (j := 0) hpl (by decide)) rfl ⟨rfl, rfl⟩ dX4_clear_13 ?_
  refine v_aload_n 0 dX4_clear_16 rfl rfl ?_
  refine v_iconst (3 : Int32) dX4_clear_17 (by decide) ?_
  refine v_put p_X4_28 hpl.1 (isPl.lt (j := 0) hpl (by decide)) rfl ⟨rfl, rfl⟩ dX4_clear_18 ?_
  refine v_aload_n 0 dX4_clear_21 rfl rfl ?_
  refine v_bipush (60 : Int32) dX4_clear_22 (by decide) ?_
  refine v_put p_X4_31 hpl.1 (isPl.lt (j := 0) hpl (by decide)) rfl ⟨rfl, rfl⟩ dX4_clear_24 ?_
  exact v_vret rfl (ho _ _ (Option.some.inj h).symm) dX4_clear_27
theorem c_X4_clear {w : fm_W} {l : Launch} (hI : fm_I w 105) {pl : Nat} (hpl : isPl pl) {s : fm_M} {r : Int32} {s2 : fm_M} (h : f_X4_clear pl s = some (r, s2)) : fm_C w layX 105 l yX4_clear cX4_clear 1 none rm_X4_clear [.ref (fm_ad w pl)] s (none, s2) :=
  fm_of hI (by decide) rfl (Nat.le_of_ble_eq_true rfl) (e_X4_clear hI hpl s _ h (fun r s e => by cases e; rfl))
-- X4_copyFrom
abbrev rm_X4_copyFrom : Room := { frames := 1, cells := 0, slots := 0, locals := 26 }
def f_X4_copyFrom (pl : Nat) (pt : Nat) (s : fm_M) : Option (Int32 × fm_M) :=
  some (0, (fm_up (fm_up (fm_up (fm_up (fm_up (fm_cp (fm_cp s (pt + 1) 0 (pl + 1) 0 6) (pt + 2) 0 (pl + 2) 0 6) pl 2 ((fm_cp (fm_cp s (pt + 1) 0 (pl + 1) 0 6) (pt + 2) 0 (pl + 2) 0 6) pt 2)) pl 3 ((fm_up (fm_cp (fm_cp s (pt + 1) 0 (pl + 1) 0 6) (pt + 2) 0 (pl + 2) 0 6) pl 2 ((fm_cp (fm_cp s (pt + 1) 0 (pl + 1) 0 6) (pt + 2) 0 (pl + 2) 0 6) pt 2)) pt 3)) pl 4 ((fm_up (fm_up (fm_cp (fm_cp s (pt + 1) 0 (pl + 1) 0 6) (pt + 2) 0 (pl + 2) 0 6) pl 2 ((fm_cp (fm_cp s (pt + 1) 0 (pl + 1) 0 6) (pt + 2) 0 (pl + 2) 0 6) pt 2)) pl 3 ((fm_up (fm_cp (fm_cp s (pt + 1) 0 (pl + 1) 0 6) (pt + 2) 0 (pl + 2) 0 6) pl 2 ((fm_cp (fm_cp s (pt + 1) 0 (pl + 1) 0 6) (pt + 2) 0 (pl + 2) 0 6) pt 2)) pt 3)) pt 4)) pl 5 ((fm_up (fm_up (fm_up (fm_cp (fm_cp s (pt + 1) 0 (pl + 1) 0 6) (pt + 2) 0 (pl + 2) 0 6) pl 2 ((fm_cp (fm_cp s (pt + 1) 0 (pl + 1) 0 6) (pt + 2) 0 (pl + 2) 0 6) pt 2)) pl 3 ((fm_up (fm_cp (fm_cp s (pt + 1) 0 (pl + 1) 0 6) (pt + 2) 0 (pl + 2) 0 6) pl 2 ((fm_cp (fm_cp s (pt + 1) 0 (pl + 1) 0 6) (pt + 2) 0 (pl + 2) 0 6) pt 2)) pt 3)) pl 4 ((fm_up (fm_up (fm_cp (fm_cp s (pt + 1) 0 (pl + 1) 0 6) (pt + 2) 0 (pl + 2) 0 6) pl 2 ((fm_cp (fm_cp s (pt + 1) 0 (pl + 1) 0 6) (pt + 2) 0 (pl + 2) 0 6) pt 2)) pl 3 ((fm_up (fm_cp (fm_cp s (pt + 1) 0 (pl + 1) 0 6) (pt + 2) 0 (pl + 2) 0 6) pl 2 ((fm_cp (fm_cp s (pt + 1) 0 (pl + 1) 0 6) (pt + 2) 0 (pl + 2) 0 6) pt 2)) pt 3)) pt 4)) pt 5)) pl 6 ((fm_up (fm_up (fm_up (fm_up (fm_cp (fm_cp s (pt + 1) 0 (pl + 1) 0 6) (pt + 2) 0 (pl + 2) 0 6) pl 2 ((fm_cp (fm_cp s (pt + 1) 0 (pl + 1) 0 6) (pt + 2) 0 (pl + 2) 0 6) pt 2)) pl 3 ((fm_up (fm_cp (fm_cp s (pt + 1) 0 (pl + 1) 0 6) (pt + 2) 0 (pl + 2) 0 6) pl 2 ((fm_cp (fm_cp s (pt + 1) 0 (pl + 1) 0 6) (pt + 2) 0 (pl + 2) 0 6) pt 2)) pt 3)) pl 4 ((fm_up (fm_up (fm_cp (fm_cp s (pt + 1) 0 (pl + 1) 0 6) (pt + 2) 0 (pl + 2) 0 6) pl 2 ((fm_cp (fm_cp s (pt + 1) 0 (pl + 1) 0 6) (pt + 2) 0 (pl + 2) 0 6) pt 2)) pl 3 ((fm_up (fm_cp (fm_cp s (pt + 1) 0 (pl + 1) 0 6) (pt + 2) 0 (pl + 2) 0 6) pl 2 ((fm_cp (fm_cp s (pt + 1) 0 (pl + 1) 0 6) (pt + 2) 0 (pl + 2) 0 6) pt 2)) pt 3)) pt 4)) pl 5 ((fm_up (fm_up (fm_up (fm_cp (fm_cp s (pt + 1) 0 (pl + 1) 0 6) (pt + 2) 0 (pl + 2) 0 6) pl 2 ((fm_cp (fm_cp s (pt + 1) 0 (pl + 1) 0 6) (pt + 2) 0 (pl + 2) 0 6) pt 2)) pl 3 ((fm_up (fm_cp (fm_cp s (pt + 1) 0 (pl + 1) 0 6) (pt + 2) 0 (pl + 2) 0 6) pl 2 ((fm_cp (fm_cp s (pt + 1) 0 (pl + 1) 0 6) (pt + 2) 0 (pl + 2) 0 6) pt 2)) pt 3)) pl 4 ((fm_up (fm_up (fm_cp (fm_cp s (pt + 1) 0 (pl + 1) 0 6) (pt + 2) 0 (pl + 2) 0 6) pl 2 ((fm_cp (fm_cp s (pt + 1) 0 (pl + 1) 0 6) (pt + 2) 0 (pl + 2) 0 6) pt 2)) pl 3 ((fm_up (fm_cp (fm_cp s (pt + 1) 0 (pl + 1) 0 6) (pt + 2) 0 (pl + 2) 0 6) pl 2 ((fm_cp (fm_cp s (pt + 1) 0 (pl + 1) 0 6) (pt + 2) 0 (pl + 2) 0 6) pt 2)) pt 3)) pt 4)) pt 5)) pt 6)))
set_option maxHeartbeats 4000000 in
theorem e_X4_copyFrom {w : fm_W} {l : Launch} {o : fm_O} (hI : fm_I w 105) {pl : Nat} (hpl : isPl pl) {pt : Nat} (hpt : isPl pt) (s : fm_M) (z : Int32 × fm_M) (h : f_X4_copyFrom pl pt s = some z) (ho : ∀ (r : Int32) (s : fm_M), z = (r, s) → o = (none, s)) : fm_V w layX 105 l rm_X4_copyFrom cX4_copyFrom 2 RX4 none o 0 [some (.ref (fm_ad w pl)), some (.ref (fm_ad w pt))] [] s := by
  unfold f_X4_copyFrom at h
  refine v_aload_n 1 dX4_copyFrom_0 rfl rfl ?_
  refine v_getr (pt + 1) g_X4_9 hpt.1 (isPl.lt (j := 0) hpt (by decide)) rfl dX4_copyFrom_1 ?_
  refine v_iconst (0 : Int32) dX4_copyFrom_4 (by decide) ?_
  refine v_aload_n 0 dX4_copyFrom_5 rfl rfl ?_
  refine v_getr (pl + 1) g_X4_9 hpl.1 (isPl.lt (j := 0) hpl (by decide)) rfl dX4_copyFrom_6 ?_
  refine v_iconst (0 : Int32) dX4_copyFrom_9 (by decide) ?_
  refine v_bipush (6 : Int32) dX4_copyFrom_10 (by decide) ?_
  refine v_copy 0 0 6 cp_X4_34 (isPl.lt (j := 1) hpt (by decide)) (isPl.lt (j := 1) hpl (by decide)) (isPl.a1 hpt) (isPl.a1 hpl) (by decide) (by decide) (by decide) (by decide) (by decide) (by decide) ⟨by decide, Nat.le_of_ble_eq_true rfl⟩ dX4_copyFrom_12 ?_
  refine v_aload_n 1 dX4_copyFrom_15 rfl rfl ?_
  refine v_getr (pt + 2) g_X4_15 hpt.1 (isPl.lt (j := 0) hpt (by decide)) rfl dX4_copyFrom_16 ?_
  refine v_iconst (0 : Int32) dX4_copyFrom_19 (by decide) ?_
  refine v_aload_n 0 dX4_copyFrom_20 rfl rfl ?_
  refine v_getr (pl + 2) g_X4_15 hpl.1 (isPl.lt (j := 0) hpl (by decide)) rfl dX4_copyFrom_21 ?_
  refine v_iconst (0 : Int32) dX4_copyFrom_24 (by decide) ?_
  refine v_bipush (6 : Int32) dX4_copyFrom_25 (by decide) ?_
  refine v_copy 0 0 6 cp_X4_34 (isPl.lt (j := 2) hpt (by decide)) (isPl.lt (j := 2) hpl (by decide)) (isPl.a2 hpt) (isPl.a2 hpl) (by decide) (by decide) (by decide) (by decide) (by decide) (by decide) ⟨by decide, Nat.le_of_ble_eq_true rfl⟩ dX4_copyFrom_27 ?_
  refine v_aload_n 0 dX4_copyFrom_30 rfl rfl ?_
  refine v_aload_n 1 dX4_copyFrom_31 rfl rfl ?_
  refine v_geti g_X4_18 hpt.1 (isPl.lt (j := 0) hpt (by decide)) rfl dX4_copyFrom_32 ?_
  refine v_put p_X4_18 hpl.1 (isPl.lt (j := 0) hpl (by decide)) rfl ⟨rfl, rfl⟩ dX4_copyFrom_35 ?_
  refine v_aload_n 0 dX4_copyFrom_38 rfl rfl ?_
  refine v_aload_n 1 dX4_copyFrom_39 rfl rfl ?_
  refine v_geti g_X4_22 hpt.1 (isPl.lt (j := 0) hpt (by decide)) rfl dX4_copyFrom_40 ?_
  refine v_put p_X4_22 hpl.1 (isPl.lt (j := 0) hpl (by decide)) rfl ⟨rfl, rfl⟩ dX4_copyFrom_43 ?_
  refine v_aload_n 0 dX4_copyFrom_46 rfl rfl ?_
  refine v_aload_n 1 dX4_copyFrom_47 rfl rfl ?_
  refine v_geti g_X4_25 hpt.1 (isPl.lt (j := 0) hpt (by decide)) rfl dX4_copyFrom_48 ?_
  refine v_put p_X4_25 hpl.1 (isPl.lt (j := 0) hpl (by decide)) rfl ⟨rfl, rfl⟩ dX4_copyFrom_51 ?_
  refine v_aload_n 0 dX4_copyFrom_54 rfl rfl ?_
  refine v_aload_n 1 dX4_copyFrom_55 rfl rfl ?_
  refine v_geti g_X4_28 hpt.1 (isPl.lt (j := 0) hpt (by decide)) rfl dX4_copyFrom_56 ?_
  refine v_put p_X4_28 hpl.1 (isPl.lt (j := 0) hpl (by decide)) rfl ⟨rfl, rfl⟩ dX4_copyFrom_59 ?_
  refine v_aload_n 0 dX4_copyFrom_62 rfl rfl ?_
  refine v_aload_n 1 dX4_copyFrom_63 rfl rfl ?_
  refine v_geti g_X4_31 hpt.1 (isPl.lt (j := 0) hpt (by decide)) rfl dX4_copyFrom_64 ?_
  refine v_put p_X4_31 hpl.1 (isPl.lt (j := 0) hpl (by decide)) rfl ⟨rfl, rfl⟩ dX4_copyFrom_67 ?_
  exact v_vret rfl (ho _ _ (Option.some.inj h).symm) dX4_copyFrom_70
theorem c_X4_copyFrom {w : fm_W} {l : Launch} (hI : fm_I w 105) {pl : Nat} (hpl : isPl pl) {pt : Nat} (hpt : isPl pt) {s : fm_M} {r : Int32} {s2 : fm_M} (h : f_X4_copyFrom pl pt s = some (r, s2)) : fm_C w layX 105 l yX4_copyFrom cX4_copyFrom 2 none rm_X4_copyFrom [.ref (fm_ad w pl), .ref (fm_ad w pt)] s (none, s2) :=
  fm_of hI (by decide) rfl (Nat.le_of_ble_eq_true rfl) (e_X4_copyFrom hI hpl hpt s _ h (fun r s e => by cases e; rfl))
-- X4_mostOf
abbrev rm_X4_mostOf : Room := { frames := 0, cells := 0, slots := 0, locals := 0 }
def f_X4_mostOf (v0 : Int32) (s : fm_M) : Option (Int32 × fm_M) :=
  if v0 = (103 : Int32) then some ((4 : Int32), s) else if v0 = (104 : Int32) then some ((20 : Int32), s) else if v0 = (108 : Int32) then some ((99 : Int32), s) else if v0 = (119 : Int32) then some ((3 : Int32), s) else some ((0 : Int32), s)
set_option maxHeartbeats 4000000 in
theorem e_X4_mostOf {w : fm_W} {l : Launch} {o : fm_O} (hI : fm_I w 105) (v0 : Int32) (s : fm_M) (z : Int32 × fm_M) (h : f_X4_mostOf v0 s = some z) (ho : ∀ (r : Int32) (s : fm_M), z = (r, s) → o = (some (.int r), s)) : fm_V w layX 105 l rm_X4_mostOf cX4_mostOf 1 RX4 (some .int) o 0 [some (.int v0)] [] s := by
  unfold f_X4_mostOf at h
  refine v_iload_n 0 dX4_mostOf_0 rfl rfl ?_
  by_cases hx0 : v0 = (103 : Int32)
  · rw [if_pos hx0] at h
    refine v_lookup (off := 48) 49 dX4_mostOf_1 (by decide) (by rw [hx0]; decide) (by decide) ?_
    refine v_iconst (4 : Int32) dX4_mostOf_49 (by decide) ?_
    exact v_iret rfl (ho _ _ (Option.some.inj h).symm) dX4_mostOf_50
  rw [if_neg hx0] at h
  by_cases hx1 : v0 = (104 : Int32)
  · rw [if_pos hx1] at h
    refine v_lookup (off := 45) 46 dX4_mostOf_1 (by decide) (by rw [hx1]; decide) (by decide) ?_
    refine v_bipush (20 : Int32) dX4_mostOf_46 (by decide) ?_
    exact v_iret rfl (ho _ _ (Option.some.inj h).symm) dX4_mostOf_48
  rw [if_neg hx1] at h
  by_cases hx2 : v0 = (108 : Int32)
  · rw [if_pos hx2] at h
    refine v_lookup (off := 50) 51 dX4_mostOf_1 (by decide) (by rw [hx2]; decide) (by decide) ?_
    refine v_bipush (99 : Int32) dX4_mostOf_51 (by decide) ?_
    exact v_iret rfl (ho _ _ (Option.some.inj h).symm) dX4_mostOf_53
  rw [if_neg hx2] at h
  by_cases hx3 : v0 = (119 : Int32)
  · rw [if_pos hx3] at h
    refine v_lookup (off := 43) 44 dX4_mostOf_1 (by decide) (by rw [hx3]; decide) (by decide) ?_
    refine v_iconst (3 : Int32) dX4_mostOf_44 (by decide) ?_
    exact v_iret rfl (ho _ _ (Option.some.inj h).symm) dX4_mostOf_45
  rw [if_neg hx3] at h
  refine v_lookup (off := 53) 54 dX4_mostOf_1 (by decide) ((lv_osw hx0 (by decide)).trans ((lv_osw hx1 (by decide)).trans ((lv_osw hx2 (by decide)).trans ((lv_osw hx3 (by decide)).trans rfl)))) (by decide) ?_
  refine v_iconst (0 : Int32) dX4_mostOf_54 (by decide) ?_
  exact v_iret rfl (ho _ _ (Option.some.inj h).symm) dX4_mostOf_55
theorem c_X4_mostOf {w : fm_W} {l : Launch} (hI : fm_I w 105) {v0 : Int32} {s : fm_M} {r : Int32} {s2 : fm_M} (h : f_X4_mostOf v0 s = some (r, s2)) : fm_C w layX 105 l yX4_mostOf cX4_mostOf 1 (some .int) rm_X4_mostOf [.int v0] s (some (.int r), s2) :=
  fm_of hI (by decide) rfl (Nat.le_of_ble_eq_true rfl) (e_X4_mostOf hI v0 s _ h (fun r s e => by cases e; rfl))
-- X4_tellChild
abbrev rm_X4_tellChild : Room := { frames := 0, cells := 0, slots := 0, locals := 0 }
def f_X4_tellChild_18 (pl : Nat) (s : fm_M) : Option (Int32 × fm_M) :=
  some ((0 : Int32), s)
set_option maxHeartbeats 4000000 in
theorem t_X4_tellChild_18 {w : fm_W} {l : Launch} {o : fm_O} (hI : fm_I w 105) {pl : Nat} (hpl : isPl pl) (s : fm_M) (z : Int32 × fm_M) (h : f_X4_tellChild_18 pl s = some z) (ho : ∀ (r : Int32) (s : fm_M), z = (r, s) → o = (some (.int r), s)) : fm_V w layX 105 l rm_X4_tellChild cX4_tellChild 3 RX4 (some .boolean) o 18 [none, none, none] [] s := by
  unfold f_X4_tellChild_18 at h
  refine v_iconst (0 : Int32) dX4_tellChild_18 (by decide) ?_
  exact v_zret rfl (by decide) (ho _ _ (Option.some.inj h).symm) dX4_tellChild_19
def f_X4_tellChild_31 (pl : Nat) (s : fm_M) : Option (Int32 × fm_M) :=
  some ((0 : Int32), s)
set_option maxHeartbeats 4000000 in
theorem t_X4_tellChild_31 {w : fm_W} {l : Launch} {o : fm_O} (hI : fm_I w 105) {pl : Nat} (hpl : isPl pl) (s : fm_M) (z : Int32 × fm_M) (h : f_X4_tellChild_31 pl s = some z) (ho : ∀ (r : Int32) (s : fm_M), z = (r, s) → o = (some (.int r), s)) : fm_V w layX 105 l rm_X4_tellChild cX4_tellChild 3 RX4 (some .boolean) o 31 [none, none, none] [] s := by
  unfold f_X4_tellChild_31 at h
  refine v_iconst (0 : Int32) dX4_tellChild_31 (by decide) ?_
  exact v_zret rfl (by decide) (ho _ _ (Option.some.inj h).symm) dX4_tellChild_32
def f_X4_tellChild (pl : Nat) (v1 : Int32) (v2 : Int32) (s : fm_M) : Option (Int32 × fm_M) :=
  if (6 : Int32) ≤ (s pl 2) then f_X4_tellChild_18 pl s else if v1 < 0 then f_X4_tellChild_18 pl s else if v1 ≤ (3 : Int32) then if v2 < (1 : Int32) then f_X4_tellChild_31 pl s else if v2 ≤ (12 : Int32) then if fm_in (s pl 2) 6 = true then if fm_in ((fm_up s (pl + 1) (s pl 2).toNatClampNeg v1) pl 2) 6 = true then some ((1 : Int32), (fm_up (fm_up (fm_up s (pl + 1) (s pl 2).toNatClampNeg v1) (pl + 2) ((fm_up s (pl + 1) (s pl 2).toNatClampNeg v1) pl 2).toNatClampNeg v2) pl 2 (((fm_up (fm_up s (pl + 1) (s pl 2).toNatClampNeg v1) (pl + 2) ((fm_up s (pl + 1) (s pl 2).toNatClampNeg v1) pl 2).toNatClampNeg v2) pl 2) + (1 : Int32)))) else none else none else f_X4_tellChild_31 pl s else f_X4_tellChild_18 pl s
set_option maxHeartbeats 4000000 in
theorem e_X4_tellChild {w : fm_W} {l : Launch} {o : fm_O} (hI : fm_I w 105) {pl : Nat} (hpl : isPl pl) (v1 : Int32) (v2 : Int32) (s : fm_M) (z : Int32 × fm_M) (h : f_X4_tellChild pl v1 v2 s = some z) (ho : ∀ (r : Int32) (s : fm_M), z = (r, s) → o = (some (.int r), s)) : fm_V w layX 105 l rm_X4_tellChild cX4_tellChild 3 RX4 (some .boolean) o 0 [some (.ref (fm_ad w pl)), some (.int v1), some (.int v2)] [] s := by
  unfold f_X4_tellChild at h
  refine v_aload_n 0 dX4_tellChild_0 rfl rfl ?_
  refine v_geti g_X4_18 hpl.1 (isPl.lt (j := 0) hpl (by decide)) rfl dX4_tellChild_1 ?_
  refine v_bipush (6 : Int32) dX4_tellChild_4 (by decide) ?_
  refine v_icmp_ge 18 dX4_tellChild_6 (by decide) h (fun h => ?_) (fun h => ?_)
  · refine v_lw [none, none, none] rfl trivial ?_
    exact t_X4_tellChild_18 hI hpl s _ h ho
  · refine v_iload_n 1 dX4_tellChild_9 rfl rfl ?_
    refine v_if_lt 18 dX4_tellChild_10 (by decide) h (fun h => ?_) (fun h => ?_)
    · refine v_lw [none, none, none] rfl trivial ?_
      exact t_X4_tellChild_18 hI hpl s _ h ho
    · refine v_iload_n 1 dX4_tellChild_13 rfl rfl ?_
      refine v_iconst (3 : Int32) dX4_tellChild_14 (by decide) ?_
      refine v_icmp_le 20 dX4_tellChild_15 (by decide) h (fun h => ?_) (fun h => ?_)
      · refine v_iload_n 2 dX4_tellChild_20 rfl rfl ?_
        refine v_iconst (1 : Int32) dX4_tellChild_21 (by decide) ?_
        refine v_icmp_lt 31 dX4_tellChild_22 (by decide) h (fun h => ?_) (fun h => ?_)
        · refine v_lw [none, none, none] rfl trivial ?_
          exact t_X4_tellChild_31 hI hpl s _ h ho
        · refine v_iload_n 2 dX4_tellChild_25 rfl rfl ?_
          refine v_bipush (12 : Int32) dX4_tellChild_26 (by decide) ?_
          refine v_icmp_le 33 dX4_tellChild_28 (by decide) h (fun h => ?_) (fun h => ?_)
          · refine v_aload_n 0 dX4_tellChild_33 rfl rfl ?_
            refine v_getr (pl + 1) g_X4_9 hpl.1 (isPl.lt (j := 0) hpl (by decide)) rfl dX4_tellChild_34 ?_
            refine v_aload_n 0 dX4_tellChild_37 rfl rfl ?_
            refine v_geti g_X4_18 hpl.1 (isPl.lt (j := 0) hpl (by decide)) rfl dX4_tellChild_38 ?_
            refine v_iload_n 1 dX4_tellChild_41 rfl rfl ?_
            obtain ⟨hi, h⟩ := fm_ift h
            refine v_iast (isPl.lt (j := 1) hpl (by decide)) (isPl.a1 hpl) hi dX4_tellChild_42 ?_
            refine v_aload_n 0 dX4_tellChild_43 rfl rfl ?_
            refine v_getr (pl + 2) g_X4_15 hpl.1 (isPl.lt (j := 0) hpl (by decide)) rfl dX4_tellChild_44 ?_
            refine v_aload_n 0 dX4_tellChild_47 rfl rfl ?_
            refine v_geti g_X4_18 hpl.1 (isPl.lt (j := 0) hpl (by decide)) rfl dX4_tellChild_48 ?_
            refine v_iload_n 2 dX4_tellChild_51 rfl rfl ?_
            obtain ⟨hi, h⟩ := fm_ift h
            refine v_iast (isPl.lt (j := 2) hpl (by decide)) (isPl.a2 hpl) hi dX4_tellChild_52 ?_
            refine v_aload_n 0 dX4_tellChild_53 rfl rfl ?_
            refine v_dup dX4_tellChild_54 rfl ?_
            refine v_geti g_X4_18 hpl.1 (isPl.lt (j := 0) hpl (by decide)) rfl dX4_tellChild_55 ?_
            refine v_iconst (1 : Int32) dX4_tellChild_58 (by decide) ?_
            refine v_iadd dX4_tellChild_59 ?_
            refine v_put p_X4_18 hpl.1 (isPl.lt (j := 0) hpl (by decide)) rfl ⟨rfl, rfl⟩ dX4_tellChild_60 ?_
            refine v_iconst (1 : Int32) dX4_tellChild_63 (by decide) ?_
            exact v_zret rfl (by decide) (ho _ _ (Option.some.inj h).symm) dX4_tellChild_64
          · refine v_lw [none, none, none] rfl trivial ?_
            exact t_X4_tellChild_31 hI hpl s _ h ho
      · refine v_lw [none, none, none] rfl trivial ?_
        exact t_X4_tellChild_18 hI hpl s _ h ho
theorem c_X4_tellChild {w : fm_W} {l : Launch} (hI : fm_I w 105) {pl : Nat} (hpl : isPl pl) {v1 : Int32} {v2 : Int32} {s : fm_M} {r : Int32} {s2 : fm_M} (h : f_X4_tellChild pl v1 v2 s = some (r, s2)) : fm_C w layX 105 l yX4_tellChild cX4_tellChild 3 (some .boolean) rm_X4_tellChild [.ref (fm_ad w pl), .int v1, .int v2] s (some (.int r), s2) :=
  fm_of hI (by decide) rfl (Nat.le_of_ble_eq_true rfl) (e_X4_tellChild hI hpl v1 v2 s _ h (fun r s e => by cases e; rfl))
-- X4_tellNumber
abbrev rm_X4_tellNumber : Room := { frames := 1, cells := 0, slots := 0, locals := 20 }
def f_X4_tellNumber_13 (pl : Nat) (s : fm_M) : Option (Int32 × fm_M) :=
  some ((0 : Int32), s)
set_option maxHeartbeats 4000000 in
theorem t_X4_tellNumber_13 {w : fm_W} {l : Launch} {o : fm_O} (hI : fm_I w 105) {pl : Nat} (hpl : isPl pl) (s : fm_M) (z : Int32 × fm_M) (h : f_X4_tellNumber_13 pl s = some z) (ho : ∀ (r : Int32) (s : fm_M), z = (r, s) → o = (some (.int r), s)) : fm_V w layX 105 l rm_X4_tellNumber cX4_tellNumber 3 RX4 (some .boolean) o 13 [none, none, none] [] s := by
  unfold f_X4_tellNumber_13 at h
  refine v_iconst (0 : Int32) dX4_tellNumber_13 (by decide) ?_
  exact v_zret rfl (by decide) (ho _ _ (Option.some.inj h).symm) dX4_tellNumber_14
def f_X4_tellNumber_81 (pl : Nat) (s : fm_M) : Option (Int32 × fm_M) :=
  some ((1 : Int32), s)
set_option maxHeartbeats 4000000 in
theorem t_X4_tellNumber_81 {w : fm_W} {l : Launch} {o : fm_O} (hI : fm_I w 105) {pl : Nat} (hpl : isPl pl) (s : fm_M) (z : Int32 × fm_M) (h : f_X4_tellNumber_81 pl s = some z) (ho : ∀ (r : Int32) (s : fm_M), z = (r, s) → o = (some (.int r), s)) : fm_V w layX 105 l rm_X4_tellNumber cX4_tellNumber 3 RX4 (some .boolean) o 81 [none, none, none] [] s := by
  unfold f_X4_tellNumber_81 at h
  refine v_iconst (1 : Int32) dX4_tellNumber_81 (by decide) ?_
  exact v_zret rfl (by decide) (ho _ _ (Option.some.inj h).symm) dX4_tellNumber_82
def f_X4_tellNumber (pl : Nat) (v1 : Int32) (v2 : Int32) (s : fm_M) : Option (Int32 × fm_M) :=
  if v2 < (1 : Int32) then f_X4_tellNumber_13 pl s else fm_bd (f_X4_mostOf v1 s) (fun r1 s1 => if v2 ≤ r1 then if v1 = (103 : Int32) then f_X4_tellNumber_81 pl (fm_up s1 pl 5 v2) else if v1 = (104 : Int32) then f_X4_tellNumber_81 pl (fm_up s1 pl 4 v2) else if v1 = (119 : Int32) then f_X4_tellNumber_81 pl (fm_up s1 pl 3 v2) else f_X4_tellNumber_81 pl (fm_up s1 pl 6 v2) else f_X4_tellNumber_13 pl s1)
set_option maxHeartbeats 4000000 in
theorem e_X4_tellNumber {w : fm_W} {l : Launch} {o : fm_O} (hI : fm_I w 105) {pl : Nat} (hpl : isPl pl) (v1 : Int32) (v2 : Int32) (s : fm_M) (z : Int32 × fm_M) (h : f_X4_tellNumber pl v1 v2 s = some z) (ho : ∀ (r : Int32) (s : fm_M), z = (r, s) → o = (some (.int r), s)) : fm_V w layX 105 l rm_X4_tellNumber cX4_tellNumber 3 RX4 (some .boolean) o 0 [some (.ref (fm_ad w pl)), some (.int v1), some (.int v2)] [] s := by
  unfold f_X4_tellNumber at h
  refine v_iload_n 2 dX4_tellNumber_0 rfl rfl ?_
  refine v_iconst (1 : Int32) dX4_tellNumber_1 (by decide) ?_
  refine v_icmp_lt 13 dX4_tellNumber_2 (by decide) h (fun h => ?_) (fun h => ?_)
  · refine v_lw [none, none, none] rfl trivial ?_
    exact t_X4_tellNumber_13 hI hpl s _ h ho
  · refine v_iload_n 2 dX4_tellNumber_5 rfl rfl ?_
    refine v_iload_n 1 dX4_tellNumber_6 rfl rfl ?_
    obtain ⟨r1, s1, h1, h⟩ := fm_bds h
    refine v_cSi [.int v1] [.int v2] l_X4_48 (c_X4_mostOf hI h1) rfl rfl ⟨rfl, rfl, by decide, by decide⟩ (Nat.le_of_ble_eq_true rfl) dX4_tellNumber_7 ?_
    refine v_icmp_le 15 dX4_tellNumber_10 (by decide) h (fun h => ?_) (fun h => ?_)
    · refine v_iload_n 1 dX4_tellNumber_15 rfl rfl ?_
      by_cases hx0 : v1 = (103 : Int32)
      · rw [if_pos hx0] at h
        refine v_lookup (off := 52) 68 dX4_tellNumber_16 (by decide) (by rw [hx0]; decide) (by decide) ?_
        refine v_aload_n 0 dX4_tellNumber_68 rfl rfl ?_
        refine v_iload_n 2 dX4_tellNumber_69 rfl rfl ?_
        refine v_put p_X4_28 hpl.1 (isPl.lt (j := 0) hpl (by decide)) rfl ⟨rfl, rfl⟩ dX4_tellNumber_70 ?_
        refine v_goto 81 dX4_tellNumber_73 (by decide) ?_
        refine v_lw [none, none, none] rfl trivial ?_
        exact t_X4_tellNumber_81 hI hpl (fm_up s1 pl 5 v2) _ h ho
      rw [if_neg hx0] at h
      by_cases hx1 : v1 = (104 : Int32)
      · rw [if_pos hx1] at h
        refine v_lookup (off := 44) 60 dX4_tellNumber_16 (by decide) (by rw [hx1]; decide) (by decide) ?_
        refine v_aload_n 0 dX4_tellNumber_60 rfl rfl ?_
        refine v_iload_n 2 dX4_tellNumber_61 rfl rfl ?_
        refine v_put p_X4_25 hpl.1 (isPl.lt (j := 0) hpl (by decide)) rfl ⟨rfl, rfl⟩ dX4_tellNumber_62 ?_
        refine v_goto 81 dX4_tellNumber_65 (by decide) ?_
        refine v_lw [none, none, none] rfl trivial ?_
        exact t_X4_tellNumber_81 hI hpl (fm_up s1 pl 4 v2) _ h ho
      rw [if_neg hx1] at h
      by_cases hx2 : v1 = (119 : Int32)
      · rw [if_pos hx2] at h
        refine v_lookup (off := 36) 52 dX4_tellNumber_16 (by decide) (by rw [hx2]; decide) (by decide) ?_
        refine v_aload_n 0 dX4_tellNumber_52 rfl rfl ?_
        refine v_iload_n 2 dX4_tellNumber_53 rfl rfl ?_
        refine v_put p_X4_22 hpl.1 (isPl.lt (j := 0) hpl (by decide)) rfl ⟨rfl, rfl⟩ dX4_tellNumber_54 ?_
        refine v_goto 81 dX4_tellNumber_57 (by decide) ?_
        refine v_lw [none, none, none] rfl trivial ?_
        exact t_X4_tellNumber_81 hI hpl (fm_up s1 pl 3 v2) _ h ho
      rw [if_neg hx2] at h
      refine v_lookup (off := 60) 76 dX4_tellNumber_16 (by decide) ((lv_osw hx0 (by decide)).trans ((lv_osw hx1 (by decide)).trans ((lv_osw hx2 (by decide)).trans rfl))) (by decide) ?_
      refine v_aload_n 0 dX4_tellNumber_76 rfl rfl ?_
      refine v_iload_n 2 dX4_tellNumber_77 rfl rfl ?_
      refine v_put p_X4_31 hpl.1 (isPl.lt (j := 0) hpl (by decide)) rfl ⟨rfl, rfl⟩ dX4_tellNumber_78 ?_
      refine v_lw [none, none, none] rfl trivial ?_
      exact t_X4_tellNumber_81 hI hpl (fm_up s1 pl 6 v2) _ h ho
    · refine v_lw [none, none, none] rfl trivial ?_
      exact t_X4_tellNumber_13 hI hpl s1 _ h ho
theorem c_X4_tellNumber {w : fm_W} {l : Launch} (hI : fm_I w 105) {pl : Nat} (hpl : isPl pl) {v1 : Int32} {v2 : Int32} {s : fm_M} {r : Int32} {s2 : fm_M} (h : f_X4_tellNumber pl v1 v2 s = some (r, s2)) : fm_C w layX 105 l yX4_tellNumber cX4_tellNumber 3 (some .boolean) rm_X4_tellNumber [.ref (fm_ad w pl), .int v1, .int v2] s (some (.int r), s2) :=
  fm_of hI (by decide) rfl (Nat.le_of_ble_eq_true rfl) (e_X4_tellNumber hI hpl v1 v2 s _ h (fun r s e => by cases e; rfl))
-- X4_tell
abbrev rm_X4_tell : Room := { frames := 2, cells := 0, slots := 0, locals := 42 }
def f_X4_tell_31 (pl : Nat) (sk0 : Int32) (s : fm_M) : Option (Int32 × fm_M) :=
  if fm_b sk0 = true then some (sk0, s) else none
set_option maxHeartbeats 4000000 in
theorem t_X4_tell_31 {w : fm_W} {l : Launch} {o : fm_O} (hI : fm_I w 105) {pl : Nat} (hpl : isPl pl) (sk0 : Int32) (s : fm_M) (z : Int32 × fm_M) (h : f_X4_tell_31 pl sk0 s = some z) (ho : ∀ (r : Int32) (s : fm_M), z = (r, s) → o = (some (.int r), s)) : fm_V w layX 105 l rm_X4_tell cX4_tell 4 RX4 (some .boolean) o 31 [none, none, none, none] [.int sk0] s := by
  unfold f_X4_tell_31 at h
  obtain ⟨hb, h⟩ := fm_ift h
  exact v_zret rfl (fm_b_nar hb).1 (ho _ _ (Option.some.inj h).symm) dX4_tell_31
def f_X4_tell_30 (pl : Nat) (s : fm_M) : Option (Int32 × fm_M) :=
  f_X4_tell_31 pl (0 : Int32) s
set_option maxHeartbeats 4000000 in
theorem t_X4_tell_30 {w : fm_W} {l : Launch} {o : fm_O} (hI : fm_I w 105) {pl : Nat} (hpl : isPl pl) (s : fm_M) (z : Int32 × fm_M) (h : f_X4_tell_30 pl s = some z) (ho : ∀ (r : Int32) (s : fm_M), z = (r, s) → o = (some (.int r), s)) : fm_V w layX 105 l rm_X4_tell cX4_tell 4 RX4 (some .boolean) o 30 [none, none, none, none] [] s := by
  unfold f_X4_tell_30 at h
  refine v_iconst (0 : Int32) dX4_tell_30 (by decide) ?_
  refine v_lw [none, none, none, none] rfl trivial ?_
  exact t_X4_tell_31 hI hpl (0 : Int32) s _ h ho
def f_X4_tell (pl : Nat) (v1 : Int32) (v2 : Int32) (v3 : Int32) (s : fm_M) : Option (Int32 × fm_M) :=
  if v1 = (99 : Int32) then fm_bd (f_X4_tellChild pl v2 v3 s) (fun r2 s2 => if fm_b r2 = true then some (r2, s2) else none) else if 0 ≤ v3 then f_X4_tell_30 pl s else fm_bd (f_X4_tellNumber pl v1 v2 s) (fun r1 s1 => if r1 = 0 then f_X4_tell_30 pl s1 else f_X4_tell_31 pl (1 : Int32) s1)
set_option maxHeartbeats 4000000 in
theorem e_X4_tell {w : fm_W} {l : Launch} {o : fm_O} (hI : fm_I w 105) {pl : Nat} (hpl : isPl pl) (v1 : Int32) (v2 : Int32) (v3 : Int32) (s : fm_M) (z : Int32 × fm_M) (h : f_X4_tell pl v1 v2 v3 s = some z) (ho : ∀ (r : Int32) (s : fm_M), z = (r, s) → o = (some (.int r), s)) : fm_V w layX 105 l rm_X4_tell cX4_tell 4 RX4 (some .boolean) o 0 [some (.ref (fm_ad w pl)), some (.int v1), some (.int v2), some (.int v3)] [] s := by
  unfold f_X4_tell at h
  refine v_iload_n 1 dX4_tell_0 rfl rfl ?_
  refine v_bipush (99 : Int32) dX4_tell_1 (by decide) ?_
  refine v_icmp_ne 13 dX4_tell_3 (by decide) h (fun h => ?_) (fun h => ?_)
  · refine v_iload_n 3 dX4_tell_13 rfl rfl ?_
    refine v_if_ge 30 dX4_tell_14 (by decide) h (fun h => ?_) (fun h => ?_)
    · refine v_lw [none, none, none, none] rfl trivial ?_
      exact t_X4_tell_30 hI hpl s _ h ho
    · refine v_aload_n 0 dX4_tell_17 rfl rfl ?_
      refine v_iload_n 1 dX4_tell_18 rfl rfl ?_
      refine v_iload_n 2 dX4_tell_19 rfl rfl ?_
      obtain ⟨r1, s1, h1, h⟩ := fm_bds h
      refine v_cVi [.int v1, .int v2] [] l_X4_44 (c_X4_tellNumber hI hpl h1) hpl.1 (isPl.lt (j := 0) hpl (by decide)) rfl rfl ⟨rfl, rfl, by decide, by decide⟩ (Nat.le_of_ble_eq_true rfl) dX4_tell_20 ?_
      refine v_if_eq 30 dX4_tell_23 (by decide) h (fun h => ?_) (fun h => ?_)
      · refine v_lw [none, none, none, none] rfl trivial ?_
        exact t_X4_tell_30 hI hpl s1 _ h ho
      · refine v_iconst (1 : Int32) dX4_tell_26 (by decide) ?_
        refine v_goto 31 dX4_tell_27 (by decide) ?_
        refine v_lw [none, none, none, none] rfl trivial ?_
        exact t_X4_tell_31 hI hpl (1 : Int32) s1 _ h ho
  · refine v_aload_n 0 dX4_tell_6 rfl rfl ?_
    refine v_iload_n 2 dX4_tell_7 rfl rfl ?_
    refine v_iload_n 3 dX4_tell_8 rfl rfl ?_
    obtain ⟨r2, s2, h2, h⟩ := fm_bds h
    refine v_cVi [.int v2, .int v3] [] l_X4_40 (c_X4_tellChild hI hpl h2) hpl.1 (isPl.lt (j := 0) hpl (by decide)) rfl rfl ⟨rfl, rfl, by decide, by decide⟩ (Nat.le_of_ble_eq_true rfl) dX4_tell_9 ?_
    obtain ⟨hb, h⟩ := fm_ift h
    exact v_zret rfl (fm_b_nar hb).1 (ho _ _ (Option.some.inj h).symm) dX4_tell_12
theorem c_X4_tell {w : fm_W} {l : Launch} (hI : fm_I w 105) {pl : Nat} (hpl : isPl pl) {v1 : Int32} {v2 : Int32} {v3 : Int32} {s : fm_M} {r : Int32} {s2 : fm_M} (h : f_X4_tell pl v1 v2 v3 s = some (r, s2)) : fm_C w layX 105 l yX4_tell cX4_tell 4 (some .boolean) rm_X4_tell [.ref (fm_ad w pl), .int v1, .int v2, .int v3] s (some (.int r), s2) :=
  fm_of hI (by decide) rfl (Nat.le_of_ble_eq_true rfl) (e_X4_tell hI hpl v1 v2 v3 s _ h (fun r s e => by cases e; rfl))
