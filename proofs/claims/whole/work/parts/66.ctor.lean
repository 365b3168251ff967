/-! the constructors -/
/-- the memory as the constructors leave it -/
def s0 : fm_M := fun c => if c = 98 then (fun k => if k = 6 then -4 else 0) else if c = 1000 then nI else fun _ => 0
theorem s0_z {n : Nat} (h : ¬ n = 98) (h2 : ¬ n = 1000) : s0 n = fun _ => 0 := by
  unfold s0
  rw [if_neg h, if_neg h2]
theorem s0_T (j : Nat) (_ : j < 6) : s0 1000 j = nI j := rfl
section CTR
variable {w : fm_W} {b0 : Nat} {l : Launch} {op0 : Nat → Option va_E}
theorem k_eqs {lay : Nat → fm_L} {σ : fm_M} {N : Nat} {R : Room} {cc : ByteArray} {nL : Nat} {own : String} {Qa : Array Value → State → Outcome → State → Prop} {mc ms n cells slots n1 c1 s1 : Nat} {op op1 : Nat → Option va_E} {pc : Nat} {lv lv1 : List (Option Value)} {st : List Value} (hn : n = n1) (hc : cells = c1) (hs : slots = s1) (ho : op = op1) (hl : lv = lv1) (k : mk_V w lay σ b0 N l R cc nL own Qa mc ms n1 c1 s1 op1 pc lv1 st) : mk_V w lay σ b0 N l R cc nL own Qa mc ms n cells slots op pc lv st := by
  subst hn hc hs ho hl
  exact k
abbrev rm_i7 : Room := { frames := 1, cells := 1, slots := 200, locals := 20 }
abbrev rm_i4 : Room := { frames := 1, cells := 2, slots := 12, locals := 20 }
abbrev rm_i2 : Room := { frames := 1, cells := 6, slots := 27, locals := 20 }
abbrev rm_i1 : Room := { frames := 2, cells := 7, slots := 38, locals := 41 }
abbrev rm_i3 (M : Nat) : Room := { frames := 2, cells := 1 + 7 * M, slots := 39 * M, locals := 41 }
abbrev rm_i5 : Room := { frames := 1, cells := 2, slots := 12, locals := 20 }
abbrev rm_i6 : Room := { frames := 1, cells := 3, slots := 24, locals := 20 }
theorem i_X7 (hB : mk_B w b0 105) (ho : ∀ c, 1 ≤ c → op0 c = none) : mk_C w layX s0 b0 105 l yX7_init cX7_init 1 rm_i7 [.ref (fm_ad w 1)] (2) (mk_op op0 1 (some (.inr (6, [.null, .int 0])))) (mk_Q w layX s0 b0 (3) op0) 1 200 := by
  refine mk_of hB (by decide) rfl (by simp [Value.category]) (by simp) ?_
  refine k_aload_n 0 dX7_init_0 rfl rfl ?_
  refine k_obj wo_X7 woi woc dX7_init_1 (by decide) (by decide) ?_
  refine k_aload_n 0 dX7_init_4 rfl rfl ?_
  refine k_sipush 200 dX7_init_5 (by decide) ?_
  refine k_newa (atype := .char) (ty := .char) (kt := 1) (M := 200) rfl (by decide) (fun _ => rfl) wa_char rfl (fun _ h => by cases h) (rfl) (rfl) (by rw [mk_op_ne (by omega)]; exact ho _ (by omega)) (by omega) (by decide) (by decide) (by decide) (by decide) (by decide) dX7_init_8 ?_
  refine j_putF q_X7_9 rfl rfl (by simp) (by omega) (by omega) dX7_init_10 ?_
  refine j_close (ho _ (Nat.le_refl _)) (by rw [fm_ce_obj yX_1]; rfl) ?_
  exact k_vret (by decide) (by decide) dX7_init_13
theorem i_X4 (hB : mk_B w b0 105) {a : Nat} (hp : isPl a) (h9 : a + 2 < 98) (ho : ∀ c, a ≤ c → op0 c = none) : mk_C w layX s0 b0 105 l yX4_init cX4_init 1 rm_i4 [.ref (fm_ad w a)] (a + 1) (mk_op op0 a (some (.inr (3, [.null, .null, .int 0, .int 0, .int 0, .int 0, .int 0])))) (mk_Q w layX s0 b0 (a + 3) op0) 2 12 := by
  refine mk_of hB (by decide) rfl (by simp [Value.category]) (by simp) ?_
  refine k_aload_n 0 dX4_init_0 rfl rfl ?_
  refine k_obj wo_X4 woi woc dX4_init_1 (by decide) (by decide) ?_
  refine k_aload_n 0 dX4_init_4 rfl rfl ?_
  refine k_bipush 6 dX4_init_5 (by decide) ?_
  refine j_newi 6 wa_int (hp.a1) (s0_z (by omega) (by omega)) (by rw [mk_op_ne (by omega)]; exact ho _ (by omega)) (by omega) (by decide) (by decide) (by decide) (by decide) (by decide) dX4_init_7 ?_
  refine j_putF q_X4_9 rfl rfl (by simp) (by omega) (by omega) dX4_init_9 ?_
  refine k_aload_n 0 dX4_init_12 rfl rfl ?_
  refine k_bipush 6 dX4_init_13 (by decide) ?_
  refine j_newi 6 wa_int (hp.a2) (s0_z (by omega) (by omega)) (by rw [mk_op_ne (by omega)]; exact ho _ (by omega)) (by omega) (by decide) (by decide) (by decide) (by decide) (by decide) dX4_init_15 ?_
  refine j_putF q_X4_15 rfl rfl (by simp) (by omega) (by omega) dX4_init_17 ?_
  refine j_close (ho _ (Nat.le_refl _)) (by rw [fm_ce_obj hp.1, s0_z (by omega) (by omega)]; rfl) ?_
  exact k_vret (by decide) (by decide) dX4_init_20
theorem i_X2 (hB : mk_B w b0 105) {a : Nat} (hh : isH a) (h9 : a + 6 < 98) (ho : ∀ c, a ≤ c → op0 c = none) : mk_C w layX s0 b0 105 l yX2_init cX2_init 2 rm_i2 [.ref (fm_ad w a), .ref (fm_ad w 6)] (a + 1) (mk_op op0 a (some (.inr (1, [.null, .null, .null, .null, .null, .null, .null, .int 0, .int 0, .int 0, .int 0])))) (mk_Q w layX s0 b0 (a + 7) op0) 6 27 := by
  refine mk_of hB (by decide) rfl (by simp [Value.category]) (by simp) ?_
  refine k_aload_n 0 dX2_init_0 rfl rfl ?_
  refine k_obj wo_X2 woi woc dX2_init_1 (by decide) (by decide) ?_
  refine k_aload_n 0 dX2_init_4 rfl rfl ?_
  refine k_bipush 6 dX2_init_5 (by decide) ?_
  refine j_newi 6 wa_int (hh.a1) (s0_z (by omega) (by omega)) (by rw [mk_op_ne (by omega)]; exact ho _ (by omega)) (by omega) (by decide) (by decide) (by decide) (by decide) (by decide) dX2_init_7 ?_
  refine j_putF q_X2_9 rfl rfl (by simp) (by omega) (by omega) dX2_init_9 ?_
  refine k_aload_n 0 dX2_init_12 rfl rfl ?_
  refine k_bipush 6 dX2_init_13 (by decide) ?_
  refine j_newi 6 wa_int (hh.a2) (s0_z (by omega) (by omega)) (by rw [mk_op_ne (by omega)]; exact ho _ (by omega)) (by omega) (by decide) (by decide) (by decide) (by decide) (by decide) dX2_init_15 ?_
  refine j_putF q_X2_15 rfl rfl (by simp) (by omega) (by omega) dX2_init_17 ?_
  refine k_aload_n 0 dX2_init_20 rfl rfl ?_
  refine k_bipush 6 dX2_init_21 (by decide) ?_
  refine j_newi 6 wa_int (hh.a3) (s0_z (by omega) (by omega)) (by rw [mk_op_ne (by omega)]; exact ho _ (by omega)) (by omega) (by decide) (by decide) (by decide) (by decide) (by decide) dX2_init_23 ?_
  refine j_putF q_X2_18 rfl rfl (by simp) (by omega) (by omega) dX2_init_25 ?_
  refine k_aload_n 0 dX2_init_28 rfl rfl ?_
  refine k_iconst 3 dX2_init_29 (by decide) ?_
  refine j_newi 3 wa_int (hh.a4) (s0_z (by omega) (by omega)) (by rw [mk_op_ne (by omega)]; exact ho _ (by omega)) (by omega) (by decide) (by decide) (by decide) (by decide) (by decide) dX2_init_30 ?_
  refine j_putF q_X2_21 rfl rfl (by simp) (by omega) (by omega) dX2_init_32 ?_
  refine k_aload_n 0 dX2_init_35 rfl rfl ?_
  refine k_iconst 3 dX2_init_36 (by decide) ?_
  refine j_newi 3 wa_int (hh.a5) (s0_z (by omega) (by omega)) (by rw [mk_op_ne (by omega)]; exact ho _ (by omega)) (by omega) (by decide) (by decide) (by decide) (by decide) (by decide) dX2_init_37 ?_
  refine j_putF q_X2_24 rfl rfl (by simp) (by omega) (by omega) dX2_init_39 ?_
  refine k_aload_n 0 dX2_init_42 rfl rfl ?_
  refine k_iconst 3 dX2_init_43 (by decide) ?_
  refine j_newi 3 wa_int (hh.a6) (s0_z (by omega) (by omega)) (by rw [mk_op_ne (by omega)]; exact ho _ (by omega)) (by omega) (by decide) (by decide) (by decide) (by decide) (by decide) dX2_init_44 ?_
  refine j_putF q_X2_27 rfl rfl (by simp) (by omega) (by omega) dX2_init_46 ?_
  refine k_aload_n 0 dX2_init_49 rfl rfl ?_
  refine k_aload_n 1 dX2_init_50 rfl rfl ?_
  refine j_putF q_X2_30 rfl rfl (by simp) (by omega) (by omega) dX2_init_51 ?_
  refine j_close (ho _ (Nat.le_refl _)) (by rw [fm_ce_obj hh.1, s0_z (by omega) (by omega)]; rfl) ?_
  exact k_vret (by decide) (by decide) dX2_init_54
theorem i_X5 (hB : mk_B w b0 105) (ho : ∀ c, 98 ≤ c → op0 c = none) : mk_C w layX s0 b0 105 l yX5_init cX5_init 3 rm_i5 [.ref (fm_ad w 98), .ref (fm_ad w 6), .ref (fm_ad w 90)] (99) (mk_op op0 98 (some (.inr (4, [.null, .null, .null, .null, .int 0, .int 0, .int 0])))) (mk_Q w layX s0 b0 (101) op0) 2 12 := by
  refine mk_of hB (by decide) rfl (by simp [Value.category]) (by simp) ?_
  refine k_aload_n 0 dX5_init_0 rfl rfl ?_
  refine k_obj wo_X5 woi woc dX5_init_1 (by decide) (by decide) ?_
  refine k_aload_n 0 dX5_init_4 rfl rfl ?_
  refine k_bipush 6 dX5_init_5 (by decide) ?_
  refine j_newi 6 wa_int (rfl) (rfl) (by rw [mk_op_ne (by omega)]; exact ho _ (by omega)) (by omega) (by decide) (by decide) (by decide) (by decide) (by decide) dX5_init_7 ?_
  refine j_putF q_X5_9 rfl rfl (by simp) (by omega) (by omega) dX5_init_9 ?_
  refine k_aload_n 0 dX5_init_12 rfl rfl ?_
  refine k_bipush 6 dX5_init_13 (by decide) ?_
  refine j_newi 6 wa_int (rfl) (rfl) (by rw [mk_op_ne (by omega)]; exact ho _ (by omega)) (by omega) (by decide) (by decide) (by decide) (by decide) (by decide) dX5_init_15 ?_
  refine j_putF q_X5_15 rfl rfl (by simp) (by omega) (by omega) dX5_init_17 ?_
  refine k_aload_n 0 dX5_init_20 rfl rfl ?_
  refine k_bipush (-4) dX5_init_21 (by decide) ?_
  refine j_put p_X5_18 rfl rfl (by simp) (by omega) (by omega) dX5_init_23 ?_
  refine k_aload_n 0 dX5_init_26 rfl rfl ?_
  refine k_aload_n 1 dX5_init_27 rfl rfl ?_
  refine j_putF q_X5_22 rfl rfl (by simp) (by omega) (by omega) dX5_init_28 ?_
  refine k_aload_n 0 dX5_init_31 rfl rfl ?_
  refine k_aload_n 2 dX5_init_32 rfl rfl ?_
  refine j_putF q_X5_26 rfl rfl (by simp) (by omega) (by omega) dX5_init_33 ?_
  refine j_close (ho _ (Nat.le_refl _)) (by rw [fm_ce_obj yX_98]; rfl) ?_
  exact k_vret (by decide) (by decide) dX5_init_36
theorem i_X6 (hB : mk_B w b0 105) (ho : ∀ c, 101 ≤ c → op0 c = none) : mk_C w layX s0 b0 105 l yX6_init cX6_init 1 rm_i6 [.ref (fm_ad w 101)] (102) (mk_op op0 101 (some (.inr (5, [.null, .null, .null, .int 0])))) (mk_Q w layX s0 b0 (105) op0) 3 24 := by
  refine mk_of hB (by decide) rfl (by simp [Value.category]) (by simp) ?_
  refine k_aload_n 0 dX6_init_0 rfl rfl ?_
  refine k_obj wo_X6 woi woc dX6_init_1 (by decide) (by decide) ?_
  refine k_aload_n 0 dX6_init_4 rfl rfl ?_
  refine k_bipush 8 dX6_init_5 (by decide) ?_
  refine j_newi 8 wa_int (rfl) (rfl) (by rw [mk_op_ne (by omega)]; exact ho _ (by omega)) (by omega) (by decide) (by decide) (by decide) (by decide) (by decide) dX6_init_7 ?_
  refine j_putF q_X6_9 rfl rfl (by simp) (by omega) (by omega) dX6_init_9 ?_
  refine k_aload_n 0 dX6_init_12 rfl rfl ?_
  refine k_bipush 8 dX6_init_13 (by decide) ?_
  refine j_newi 8 wa_int (rfl) (rfl) (by rw [mk_op_ne (by omega)]; exact ho _ (by omega)) (by omega) (by decide) (by decide) (by decide) (by decide) (by decide) dX6_init_15 ?_
  refine j_putF q_X6_13 rfl rfl (by simp) (by omega) (by omega) dX6_init_17 ?_
  refine k_aload_n 0 dX6_init_20 rfl rfl ?_
  refine k_bipush 8 dX6_init_21 (by decide) ?_
  refine k_newa (atype := .boolean) (ty := .boolean) (kt := 2) (M := 8) rfl (by decide) (fun _ => rfl) wa_boolean rfl (fun _ h => by cases h) (rfl) (rfl) (by rw [mk_op_ne (by omega)]; exact ho _ (by omega)) (by omega) (by decide) (by decide) (by decide) (by decide) (by decide) dX6_init_23 ?_
  refine j_putF q_X6_16 rfl rfl (by simp) (by omega) (by omega) dX6_init_25 ?_
  refine j_close (ho _ (Nat.le_refl _)) (by rw [fm_ce_obj yX_101]; rfl) ?_
  exact k_vret (by decide) (by decide) dX6_init_28
theorem i_X1 (hB : mk_B w b0 105) (ho : ∀ c, 90 ≤ c → op0 c = none) : mk_C w layX s0 b0 105 l yX1_init cX1_init 2 rm_i1 [.ref (fm_ad w 90), .ref (fm_ad w 6)] (91) (mk_op op0 90 (some (.inr (0, [.null, .null, .int 0, .int 0])))) (mk_Q w layX s0 b0 (98) op0) 7 38 := by
  refine mk_of hB (by decide) rfl (by simp [Value.category]) (by simp) ?_
  refine k_aload_n 0 dX1_init_0 rfl rfl ?_
  refine k_obj wo_X1 woi woc dX1_init_1 (by decide) (by decide) ?_
  refine k_aload_n 0 dX1_init_4 rfl rfl ?_
  refine k_aload_n 1 dX1_init_5 rfl rfl ?_
  refine j_putF q_X1_9 rfl rfl (by simp) (by omega) (by omega) dX1_init_6 ?_
  refine k_aload_n 0 dX1_init_9 rfl rfl ?_
  refine j_new nw_X1_15 (by omega) (by decide) (by decide) dX1_init_10 ?_
  refine k_dup dX1_init_13 rfl ?_
  refine k_aload_n 1 dX1_init_14 rfl rfl ?_
  refine k_call [.ref (fm_ad w 6)] [.ref (fm_ad w 91), .ref (fm_ad w 90)] lc_X1_17 wi_X2_init rfl (i_X2 hB isH_91 (by omega) (fun c hc => by rw [mk_op_ne (by omega)]; exact ho c (by omega))) rfl (by omega) rfl rfl ⟨rfl, rfl, by decide, by decide⟩ (by simp [Value.category]) ⟨by decide, by decide⟩ dX1_init_15 ?_
  refine j_putF q_X1_20 rfl rfl (by simp) (by omega) (by omega) dX1_init_18 ?_
  refine j_close (ho _ (Nat.le_refl _)) (by rw [fm_ce_obj yX_90]; rfl) ?_
  exact k_vret (by decide) (by decide) dX1_init_21
def opP (w : fm_W) (op0 : Nat → Option va_E) (a M : Nat) (f : Nat → Option Nat) : Nat → Option va_E := mk_op (mk_op op0 a (some (.inr (2, [.ref (fm_ad w (a + 1)), .int 0, .int 0])))) (a + 1) (some (.inl (w.2.1 3, M, .inr (.inr (.inr (.inr f))))))
theorem opP_a {a M : Nat} {f : Nat → Option Nat} : opP w op0 a M f a = some (.inr (2, [.ref (fm_ad w (a + 1)), .int 0, .int 0])) := by
  unfold opP
  rw [mk_op_ne (by omega), mk_op_eq]
theorem opP_b {a M : Nat} {f : Nat → Option Nat} : opP w op0 a M f (a + 1) = some (.inl (w.2.1 3, M, .inr (.inr (.inr (.inr f))))) := by
  unfold opP
  rw [mk_op_eq]
theorem opP_c {a M c : Nat} {f : Nat → Option Nat} (ho : ∀ c, a ≤ c → op0 c = none) (hc : a + 2 ≤ c) : opP w op0 a M f c = none := by
  unfold opP
  rw [mk_op_ne (by omega), mk_op_ne (by omega)]
  exact ho c (by omega)
theorem i_X3_loop (hB : mk_B w b0 105) {a M : Nat} (hp : isPi a M) (h9 : a + 1 + 7 * M < 98) (ho : ∀ c, a ≤ c → op0 c = none) : ∀ (d i : Nat), i + d = M → ∀ f : Nat → Option Nat, (∀ j, j < i → f j = some (fm_ad w (a + 1 + 1 + 7 * j))) →
    mk_V w layX s0 b0 105 l (rm_i3 M) cX3_init 4 RX3 (mk_Q w layX s0 b0 (a + 2 + 7 * M) op0) (1 + 7 * M) (39 * M) (a + 2 + 7 * i) (1 + 7 * i) (M + 38 * i) (opP w op0 a M f) 18 [some (.ref (fm_ad w a)), some (.int (nI M)), some (.ref (fm_ad w 6)), some (.int (nI i))] [] := by
  intro d
  induction d with
  | zero =>
    intro i hi f hf
    have hiM : i = M := by omega
    subst hiM
    refine k_iload_n 3 rfl rfl dX3_init_18 ?_
    refine k_aload_n 0 dX3_init_19 rfl rfl ?_
    refine k_get g_X3_15 (by omega) opP_a rfl dX3_init_20 ?_
    refine k_qlen (nI i) (by omega) opP_b rfl dX3_init_23 ?_
    refine k_icmp_ge 47 (by decide) dX3_init_24 (fun _ => ?_) (fun q => absurd (nI_le (Nat.le_refl i) (by omega)) q)
    refine k_closeq hp.2.2.1 (by omega) opP_b hf ?_
    refine k_eqs rfl rfl rfl (show _ = mk_op op0 a (some (.inr (2, [.ref (fm_ad w (a + 1)), .int 0, .int 0]))) from mk_op_no (by rw [mk_op_ne (by omega)]; exact ho _ (by omega))) rfl ?_
    refine j_close (ho _ (Nat.le_refl _)) (by rw [fm_ce_obj hp.1, s0_z (by omega) (by omega)]; rfl) ?_
    exact k_vret (by omega) (by omega) dX3_init_47
  | succ d ih =>
    intro i hi f hf
    have hiM : i < M := by omega
    have hH : isH (a + 1 + 1 + 7 * i) := hp.2.2.2 i hiM
    refine k_iload_n 3 rfl rfl dX3_init_18 ?_
    refine k_aload_n 0 dX3_init_19 rfl rfl ?_
    refine k_get g_X3_15 (by omega) opP_a rfl dX3_init_20 ?_
    refine k_qlen (nI M) (by omega) opP_b rfl dX3_init_23 ?_
    refine k_icmp_ge 47 (by decide) dX3_init_24 (fun q => absurd q (nI_ge hiM (by omega))) (fun _ => ?_)
    refine k_aload_n 0 dX3_init_27 rfl rfl ?_
    refine k_get g_X3_15 (by omega) opP_a rfl dX3_init_28 ?_
    refine k_iload_n 3 rfl rfl dX3_init_31 ?_
    refine j_new nw_X3_13 (by omega) (by show 1 + 7 * i + 1 ≤ 1 + 7 * M; omega) (by show M + 38 * i + 11 ≤ 39 * M; omega) dX3_init_32 ?_
    refine k_dup dX3_init_35 rfl ?_
    refine k_aload_n 2 dX3_init_36 rfl rfl ?_
    refine k_call [.ref (fm_ad w 6)] [.ref (fm_ad w (a + 2 + 7 * i)), .int (nI i), .ref (fm_ad w (a + 1))] lc_X3_21 wi_X2_init rfl (i_X2 hB hH (by omega) (fun c hc => opP_c ho (by omega))) (by omega) (by omega) rfl rfl ⟨rfl, rfl, Nat.le_of_ble_eq_true rfl, Nat.le_of_ble_eq_true rfl⟩ (by simp [Value.category]) ⟨by show 1 + 7 * i + 1 + 6 ≤ 1 + 7 * M; omega, by show M + 38 * i + 11 + 27 ≤ 39 * M; omega⟩ dX3_init_37 ?_
    refine k_astq (M := M) (f := f) (by omega) (by omega) opP_b (b := a + 2 + 7 * i) (by omega) (by rw [opP_c ho (by omega), Option.getD_none]; exact fm_ce_obj hH.1) (by rw [z_in (by omega)]; exact hiM) dX3_init_40 ?_
    refine k_iinc 1 dX3_init_41 rfl (by decide) (by decide) rfl rfl ?_
    refine k_goto 18 (by decide) dX3_init_44 ?_
    refine k_eqs (n1 := a + 2 + 7 * (i + 1)) (c1 := 1 + 7 * (i + 1)) (s1 := M + 38 * (i + 1)) (by omega) (by omega) (by omega) (show _ = opP w op0 a M (va_up f (nI i).toNatClampNeg (some (fm_ad w (a + 2 + 7 * i)))) from mk_op_op) (show _ = [some (.ref (fm_ad w a)), some (.int (nI M)), some (.ref (fm_ad w 6)), some (.int (nI (i + 1)))] from by rw [← nI_1]; rfl) ?_
    refine ih (i + 1) (by omega) _ (fun j hj => ?_)
    rw [nI_clamp (by omega)]
    unfold va_up
    by_cases e : j = i
    · subst e; rw [if_pos rfl]
    · rw [if_neg e]; exact hf j (by omega)
theorem i_X3 (hB : mk_B w b0 105) {a M : Nat} (hp : isPi a M) (hM1 : 1 ≤ M) (h9 : a + 1 + 7 * M < 98) (ho : ∀ c, a ≤ c → op0 c = none) : mk_C w layX s0 b0 105 l yX3_init cX3_init 4 (rm_i3 M) [.ref (fm_ad w a), .int (nI M), .ref (fm_ad w 6)] (a + 1) (mk_op op0 a (some (.inr (2, [.null, .int 0, .int 0])))) (mk_Q w layX s0 b0 (a + 2 + 7 * M) op0) (1 + 7 * M) (39 * M) := by
  refine mk_of hB (by decide) rfl (by simp [Value.category]) (by simp) ?_
  refine k_aload_n 0 dX3_init_0 rfl rfl ?_
  refine k_obj wo_X3 woi woc dX3_init_1 (Nat.le_of_ble_eq_true rfl) (Nat.le_of_ble_eq_true rfl) ?_
  refine k_aload_n 0 dX3_init_4 rfl rfl ?_
  refine k_iconst 1 dX3_init_5 (by decide) ?_
  refine k_iload_n 1 rfl rfl dX3_init_6 ?_
  refine k_mmax (nI M) mm_X3_7 (by
    by_cases q : M = 1
    · subst q; rfl
    · exact if_pos (nI_lt (a := 1) (b := M) (by omega) (by omega))) ⟨Nat.le_of_ble_eq_true rfl, by simp [Value.category]⟩ ⟨Nat.zero_le _, Nat.zero_le _⟩ dX3_init_7 ?_
  refine k_anew (M := M) wcl_X3_13 (by omega) (nI_pos (by omega)) (nI_clamp (by omega)) (by omega) (by show 0 + 1 ≤ 1 + 7 * M; omega) (by show 0 + M ≤ 39 * M; omega) dX3_init_10 ?_
  refine k_eqs rfl rfl rfl (mk_op_sw (by omega)) rfl ?_
  refine j_putF q_X3_15 rfl rfl (by simp) (by omega) (by omega) dX3_init_13 ?_
  refine k_iconst 0 dX3_init_16 (by decide) ?_
  refine k_istore_n 3 rfl (by decide) rfl rfl dX3_init_17 ?_
  refine k_eqs (n1 := a + 2 + 7 * 0) (c1 := 1 + 7 * 0) (s1 := M + 38 * 0) (by omega) (by omega) (by omega) (show _ = opP w op0 a M (fun _ => none) from mk_op_sw (by omega)) (show _ = [some (.ref (fm_ad w a)), some (.int (nI M)), some (.ref (fm_ad w 6)), some (.int (nI 0))] from rfl) ?_
  exact i_X3_loop hB hp h9 ho M 0 (by omega) _ (fun j hj => by omega)
end CTR
