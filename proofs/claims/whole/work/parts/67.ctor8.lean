/-! the constructors of the class and of the reference -/
section CT8
variable {w : fm_W} {b0 : Nat} {l : Launch}
theorem j_get2 {lay : Nat → fm_L} {σ : fm_M} {N : Nat} {R : Room} {cc : ByteArray} {nL : Nat} {own : String} {Qa : Array Value → State → Outcome → State → Prop} {mc ms n cells slots : Nat} {op0 : Nat → Option va_E} {pc : Nat} {lv : List (Option Value)} {st : List Value} {a b ci kf idx : Nat} {fs : List Value} {v : Value} {e : Option va_E} (hg : fm_gf own idx ci kf) (haN : a < n) (hab : ¬ a = b) (hv : fs[kf]? = some v)
    (hd : decode cc pc = .ok (.getfield idx, 3)) (k : mk_V w lay σ b0 N l R cc nL own Qa mc ms n cells slots (mk_op (mk_op op0 a (some (.inr (ci, fs)))) b e) (pc + 3) lv (v :: st)) : mk_V w lay σ b0 N l R cc nL own Qa mc ms n cells slots (mk_op (mk_op op0 a (some (.inr (ci, fs)))) b e) pc lv (.ref (fm_ad w a) :: st) := k_get hg haN (by rw [mk_op_ne hab, mk_op_eq]) hv hd k
abbrev rm_i8 : Room := { frames := 5, cells := 104, slots := 763, locals := 115 }
abbrev rm_i9 : Room := { frames := 2, cells := 10, slots := 603, locals := 42 }
def qX (w : fm_W) (b0 : Nat) : Array Value → State → Outcome → State → Prop := va_Qv (S := fm_M) (fun τ => XS pT zF tF 0 (fun _ => zF) 0 (fun _ => zF) 0 zF zF zF 0 1 τ) (fun τ t => fm_P w layX 105 τ t.heap) (mk_A b0)
def qM (w : fm_W) (b0 : Nat) : Array Value → State → Outcome → State → Prop := va_Qv (S := fm_M) (fun τ => MS pT zF tF 0 (fun _ => zF) 0 (fun _ => zF) 0 zF zF zF 0 τ) (fun τ t => fm_P w layM 11 τ t.heap) (mk_A b0)
theorem s0_XZ : XZ s0 := by
  refine ⟨fun c hc k hk => ?_, rfl, s0_T⟩
  by_cases e : c = 98
  · subst e
    show (if k = 6 then (-4 : Int32) else 0) = 0
    rw [if_neg (fun q => hk ⟨rfl, q⟩)]
  · rw [s0_z e (by omega)]
abbrev mX (w : fm_W) (b0 : Nat) (l : Launch) (τ : fm_M) (pc : Nat) (lv : List (Option Value)) (st : List Value) : Prop := mk_F w layX b0 105 l rm_i8 cX8_init 2 RX8 (qX w b0) 104 763 104 763 τ pc lv st
theorem i_X8_end (hB : mk_B w b0 105) {τ : fm_M} (h : XT 43 τ) : mX w b0 l τ 161 [some (.ref (fm_ad w 0)), some (.int (nI 43))] [] := by
  obtain ⟨r1, x1, x2, x3, h1, h2, h3, h4, h5⟩ := X_made h
  have hI := mk_I hB
  refine n_aload_n 0 rfl rfl dX8_init_161 ?_
  refine n_getr 1 g_X8_10 yX_0 (by decide) rfl dX8_init_162 ?_
  refine n_aload_n 0 rfl rfl dX8_init_165 ?_
  refine n_getr 6 g_X8_23 yX_0 (by decide) rfl dX8_init_166 ?_
  refine n_call [.ref (fm_ad w 6)] [] l_X8_86 (c_X7_readInto hI isPl_6 h1) yX_1 (by decide) rfl rfl ⟨rfl, rfl, by decide, by decide⟩ (by decide) ⟨by decide, by decide⟩ dX8_init_169 ?_
  refine n_pop (a := .int r1) rfl dX8_init_172 ?_
  refine n_aload_n 0 rfl rfl dX8_init_173 ?_
  refine n_getr 1 g_X8_10 yX_0 (by decide) rfl dX8_init_174 ?_
  refine n_call [] [] l_X8_90 (c_X7_clear hI h2) yX_1 (by decide) rfl rfl ⟨rfl, rfl, by decide, by decide⟩ (by decide) ⟨by decide, by decide⟩ dX8_init_177 ?_
  refine n_aload_n 0 rfl rfl dX8_init_180 ?_
  refine n_getr 9 g_X8_31 yX_0 (by decide) rfl dX8_init_181 ?_
  refine n_aload_n 0 rfl rfl dX8_init_184 ?_
  refine n_getr 6 g_X8_23 yX_0 (by decide) rfl dX8_init_185 ?_
  refine n_geti (nI 2) g_X8_93 yX_6 (by decide) rfl h3 dX8_init_188 ?_
  refine n_call [.int (nI 2)] [] l_X8_97 (c_X2_startAgain hI isH_9 h4) yX_9 (by decide) rfl rfl ⟨rfl, rfl, by decide, by decide⟩ (by decide) ⟨by decide, by decide⟩ dX8_init_191 ?_
  exact n_vret x3 h5 (fun t ht => ht) (by decide) (by decide) dX8_init_194
theorem i_X8_loop (hB : mk_B w b0 105) : ∀ (d i : Nat), i + d = 43 → ∀ τ : fm_M, XT i τ → mX w b0 l τ 132 [some (.ref (fm_ad w 0)), some (.int (nI i))] [] := by
  intro d
  induction d with
  | zero =>
    intro i hi τ h
    have e : i = 43 := by omega
    subst e
    refine n_iload_n 1 rfl rfl dX8_init_132 ?_
    refine n_strlen ⟨by decide, by decide⟩ ⟨by decide, by decide⟩ (by simp [Value.category]) dX8_init_133 dX8_init_135 ?_
    exact n_icmp_ge 161 (by decide) dX8_init_138 (fun _ => i_X8_end hB h) (fun q => absurd (by decide) q)
  | succ d ih =>
    intro i hi τ h
    obtain ⟨x', h1, h2⟩ := XT_s h (by omega)
    refine n_iload_n 1 rfl rfl dX8_init_132 ?_
    refine n_strlen ⟨by decide, by decide⟩ ⟨by decide, by decide⟩ (by simp [Value.category]) dX8_init_133 dX8_init_135 ?_
    refine n_icmp_ge 161 (by decide) dX8_init_138 (fun q => absurd q (nI_ge (b := 43) (by omega) (by omega))) (fun _ => ?_)
    refine n_aload_n 0 rfl rfl dX8_init_141 ?_
    refine n_getr 1 g_X8_10 yX_0 (by decide) rfl dX8_init_142 ?_
    refine n_strchr (i := i) (by omega) rfl ⟨by decide, by decide⟩ ⟨by decide, by decide⟩ (by simp [Value.category]) dX8_init_145 dX8_init_147 dX8_init_148 ?_
    refine n_call [.int (nI (tF i))] [] l_X8_82 (c_X7_add (mk_I hB) h1) yX_1 (by decide) rfl rfl ⟨rfl, rfl, by decide, by decide⟩ (by decide) ⟨by decide, by decide⟩ dX8_init_151 ?_
    refine n_pop (a := .int 1) rfl dX8_init_154 ?_
    refine n_iinc 1 dX8_init_155 rfl (by decide) (by decide) rfl (show _ = [some (.ref (fm_ad w 0)), some (.int (nI (i + 1)))] from by rw [← nI_1]; rfl) ?_
    refine n_goto 132 (by decide) dX8_init_158 ?_
    exact ih (i + 1) (by omega) x' h2
theorem i_X8 (hB : mk_B w b0 105) : mk_C w layX s0 b0 105 l yX8_init cX8_init 2 rm_i8 [.ref (fm_ad w 0)] 1 (mk_op (fun _ => none) 0 (some (.inr (7, [.null, .null, .null, .null, .null, .null, .null, .null, .null])))) (qX w b0) 104 763 := by
  refine mk_of hB (by decide) rfl (by simp [Value.category]) (by simp) ?_
  refine k_aload_n 0 dX8_init_0 rfl rfl ?_
  refine k_obj wo_X8 woi woc dX8_init_1 (by decide) (by decide) ?_
  refine k_aload_n 0 dX8_init_4 rfl rfl ?_
  refine j_new nw_X8_7 (by omega) (by decide) (by decide) dX8_init_5 ?_
  refine k_dup dX8_init_8 rfl ?_
  refine k_callN [] [.ref (fm_ad w 1), .ref (fm_ad w 0)] wc_X7_init wn_X7 lcn_X8_9 lcd_X8_9 wi_X7_init rfl (i_X7 hB (fun c hc => by rw [mk_op_ne (by omega)])) rfl (by omega) rfl rfl ⟨rfl, rfl, by decide, by decide⟩ (by simp [Value.category]) ⟨by decide, by decide⟩ dX8_init_9 ?_
  refine j_putF q_X8_10 rfl rfl (by simp) (by omega) (by omega) dX8_init_12 ?_
  refine k_aload_n 0 dX8_init_15 rfl rfl ?_
  refine j_new nw_X8_16 (by omega) (by decide) (by decide) dX8_init_16 ?_
  refine k_dup dX8_init_19 rfl ?_
  refine k_callN [] [.ref (fm_ad w 3), .ref (fm_ad w 0)] wc_X4_init wn_X4 lcn_X8_18 lcd_X8_18 wi_X4_init rfl (i_X4 hB isPl_3 (by omega) (fun c hc => by rw [mk_op_ne (by omega)])) rfl (by omega) rfl rfl ⟨rfl, rfl, by decide, by decide⟩ (by simp [Value.category]) ⟨by decide, by decide⟩ dX8_init_20 ?_
  refine j_putF q_X8_19 rfl rfl (by simp) (by omega) (by omega) dX8_init_23 ?_
  refine k_aload_n 0 dX8_init_26 rfl rfl ?_
  refine j_new nw_X8_16 (by omega) (by decide) (by decide) dX8_init_27 ?_
  refine k_dup dX8_init_30 rfl ?_
  refine k_callN [] [.ref (fm_ad w 6), .ref (fm_ad w 0)] wc_X4_init wn_X4 lcn_X8_18 lcd_X8_18 wi_X4_init rfl (i_X4 hB isPl_6 (by omega) (fun c hc => by rw [mk_op_ne (by omega)])) rfl (by omega) rfl rfl ⟨rfl, rfl, by decide, by decide⟩ (by simp [Value.category]) ⟨by decide, by decide⟩ dX8_init_31 ?_
  refine j_putF q_X8_23 rfl rfl (by simp) (by omega) (by omega) dX8_init_34 ?_
  refine k_aload_n 0 dX8_init_37 rfl rfl ?_
  refine j_new nw_X8_26 (by omega) (by decide) (by decide) dX8_init_38 ?_
  refine k_dup dX8_init_41 rfl ?_
  refine k_aload_n 0 dX8_init_42 rfl rfl ?_
  refine j_get2 (v := .ref (fm_ad w 6)) g_X8_23 (by omega) (by omega) rfl dX8_init_43 ?_
  refine k_call [.ref (fm_ad w 6)] [.ref (fm_ad w 9), .ref (fm_ad w 0)] lc_X8_28 wi_X2_init rfl (i_X2 hB isH_9 (by omega) (fun c hc => by rw [mk_op_ne (by omega)])) rfl (by omega) rfl rfl ⟨rfl, rfl, by decide, by decide⟩ (by simp [Value.category]) ⟨by decide, by decide⟩ dX8_init_46 ?_
  refine j_putF q_X8_31 rfl rfl (by simp) (by omega) (by omega) dX8_init_49 ?_
  refine k_aload_n 0 dX8_init_52 rfl rfl ?_
  refine j_new nw_X8_35 (by omega) (by decide) (by decide) dX8_init_53 ?_
  refine k_dup dX8_init_56 rfl ?_
  refine k_bipush (nI 8) dX8_init_57 (by decide) ?_
  refine k_aload_n 0 dX8_init_59 rfl rfl ?_
  refine j_get2 (v := .ref (fm_ad w 6)) g_X8_23 (by omega) (by omega) rfl dX8_init_60 ?_
  refine k_call [.int (nI 8), .ref (fm_ad w 6)] [.ref (fm_ad w 16), .ref (fm_ad w 0)] lc_X8_37 wi_X3_init rfl (i_X3 hB isPi_16 (by omega) (by omega) (fun c hc => by rw [mk_op_ne (by omega)])) rfl (by omega) rfl rfl ⟨rfl, rfl, by decide, by decide⟩ (by simp [Value.category]) ⟨by decide, by decide⟩ dX8_init_63 ?_
  refine j_putF q_X8_40 rfl rfl (by simp) (by omega) (by omega) dX8_init_66 ?_
  refine k_aload_n 0 dX8_init_69 rfl rfl ?_
  refine j_new nw_X8_35 (by omega) (by decide) (by decide) dX8_init_70 ?_
  refine k_dup dX8_init_73 rfl ?_
  refine k_iconst (nI 2) dX8_init_74 (by decide) ?_
  refine k_aload_n 0 dX8_init_75 rfl rfl ?_
  refine j_get2 (v := .ref (fm_ad w 6)) g_X8_23 (by omega) (by omega) rfl dX8_init_76 ?_
  refine k_call [.int (nI 2), .ref (fm_ad w 6)] [.ref (fm_ad w 74), .ref (fm_ad w 0)] lc_X8_37 wi_X3_init rfl (i_X3 hB isPi_74 (by omega) (by omega) (fun c hc => by rw [mk_op_ne (by omega)])) rfl (by omega) rfl rfl ⟨rfl, rfl, by decide, by decide⟩ (by simp [Value.category]) ⟨by decide, by decide⟩ dX8_init_79 ?_
  refine j_putF q_X8_44 rfl rfl (by simp) (by omega) (by omega) dX8_init_82 ?_
  refine k_aload_n 0 dX8_init_85 rfl rfl ?_
  refine j_new nw_X8_47 (by omega) (by decide) (by decide) dX8_init_86 ?_
  refine k_dup dX8_init_89 rfl ?_
  refine k_aload_n 0 dX8_init_90 rfl rfl ?_
  refine j_get2 (v := .ref (fm_ad w 6)) g_X8_23 (by omega) (by omega) rfl dX8_init_91 ?_
  refine k_call [.ref (fm_ad w 6)] [.ref (fm_ad w 90), .ref (fm_ad w 0)] lc_X8_49 wi_X1_init rfl (i_X1 hB (fun c hc => by rw [mk_op_ne (by omega)])) rfl (by omega) rfl rfl ⟨rfl, rfl, by decide, by decide⟩ (by simp [Value.category]) ⟨by decide, by decide⟩ dX8_init_94 ?_
  refine j_putF q_X8_50 rfl rfl (by simp) (by omega) (by omega) dX8_init_97 ?_
  refine k_aload_n 0 dX8_init_100 rfl rfl ?_
  refine j_new nw_X8_54 (by omega) (by decide) (by decide) dX8_init_101 ?_
  refine k_dup dX8_init_104 rfl ?_
  refine k_aload_n 0 dX8_init_105 rfl rfl ?_
  refine j_get2 (v := .ref (fm_ad w 6)) g_X8_23 (by omega) (by omega) rfl dX8_init_106 ?_
  refine k_aload_n 0 dX8_init_109 rfl rfl ?_
  refine j_get2 (v := .ref (fm_ad w 90)) g_X8_50 (by omega) (by omega) rfl dX8_init_110 ?_
  refine k_call [.ref (fm_ad w 6), .ref (fm_ad w 90)] [.ref (fm_ad w 98), .ref (fm_ad w 0)] lc_X8_56 wi_X5_init rfl (i_X5 hB (fun c hc => by rw [mk_op_ne (by omega)])) rfl (by omega) rfl rfl ⟨rfl, rfl, by decide, by decide⟩ (by simp [Value.category]) ⟨by decide, by decide⟩ dX8_init_113 ?_
  refine j_putF q_X8_59 rfl rfl (by simp) (by omega) (by omega) dX8_init_116 ?_
  refine k_aload_n 0 dX8_init_119 rfl rfl ?_
  refine j_new nw_X8_63 (by omega) (by decide) (by decide) dX8_init_120 ?_
  refine k_dup dX8_init_123 rfl ?_
  refine k_callN [] [.ref (fm_ad w 101), .ref (fm_ad w 0)] wc_X6_init wn_X6 lcn_X8_65 lcd_X8_65 wi_X6_init rfl (i_X6 hB (fun c hc => by rw [mk_op_ne (by omega)])) rfl (by omega) rfl rfl ⟨rfl, rfl, by decide, by decide⟩ (by simp [Value.category]) ⟨by decide, by decide⟩ dX8_init_124 ?_
  refine j_putF q_X8_66 rfl rfl (by simp) (by omega) (by omega) dX8_init_127 ?_
  refine j_close rfl (by rw [fm_ce_obj yX_0]; rfl) ?_
  refine k_full rfl rfl s0_T ?_
  refine n_iconst (nI 0) (by decide) dX8_init_130 ?_
  refine n_istore_n 1 rfl (by decide) rfl rfl dX8_init_131 ?_
  exact i_X8_loop hB 43 0 (by omega) s0 (XT_0 s0_XZ)
theorem i_X9 (hB : mk_B w b0 11) : mk_C w layM s0 b0 11 l yX9_init cX9_init 1 rm_i9 [.ref (fm_ad w 0)] 1 (mk_op (fun _ => none) 0 (some (.inr (8, [.null, .int 0, .null, .null, .null, .null, .int 0, .null, .int 0, .null, .int 0, .int 0, .null, .null, .int 0, .null])))) (qM w b0) 10 603 := by
  obtain ⟨m1, m2, m3, m4, m5, m6, m7, m8, e1, e2, e3, e4, e5, e6, e7, e8, e9⟩ := M_made (m := s0) (fun c hc k => by rw [s0_z (by omega) (by omega)])
  have hI := mk_I hB
  refine mk_of hB (by decide) rfl (by simp [Value.category]) (by simp) ?_
  refine k_aload_n 0 dX9_init_0 rfl rfl ?_
  refine k_obj wo_X9 woi woc dX9_init_1 (by decide) (by decide) ?_
  refine k_aload_n 0 dX9_init_4 rfl rfl ?_
  refine k_sipush 200 dX9_init_5 (by decide) ?_
  refine j_newi 200 wa_int yM_1 rfl (by rw [mk_op_ne (by omega)]) (by omega) (by decide) (by decide) (by decide) (by decide) (by decide) dX9_init_8 ?_
  refine j_putF q_X9_7 rfl rfl (by simp) (by omega) (by omega) dX9_init_10 ?_
  refine k_aload_n 0 dX9_init_13 rfl rfl ?_
  refine k_bipush 17 dX9_init_14 (by decide) ?_
  refine j_newi 17 wa_int yM_2 rfl (by rw [mk_op_ne (by omega)]) (by omega) (by decide) (by decide) (by decide) (by decide) (by decide) dX9_init_16 ?_
  refine j_putF q_X9_13 rfl rfl (by simp) (by omega) (by omega) dX9_init_18 ?_
  refine k_aload_n 0 dX9_init_21 rfl rfl ?_
  refine k_bipush 17 dX9_init_22 (by decide) ?_
  refine j_newi 17 wa_int yM_3 rfl (by rw [mk_op_ne (by omega)]) (by omega) (by decide) (by decide) (by decide) (by decide) (by decide) dX9_init_24 ?_
  refine j_putF q_X9_16 rfl rfl (by simp) (by omega) (by omega) dX9_init_26 ?_
  refine k_aload_n 0 dX9_init_29 rfl rfl ?_
  refine k_bipush 29 dX9_init_30 (by decide) ?_
  refine j_newi 29 wa_int yM_4 rfl (by rw [mk_op_ne (by omega)]) (by omega) (by decide) (by decide) (by decide) (by decide) (by decide) dX9_init_32 ?_
  refine j_putF q_X9_19 rfl rfl (by simp) (by omega) (by omega) dX9_init_34 ?_
  refine k_aload_n 0 dX9_init_37 rfl rfl ?_
  refine k_sipush 232 dX9_init_38 (by decide) ?_
  refine j_newi 232 wa_int yM_5 rfl (by rw [mk_op_ne (by omega)]) (by omega) (by decide) (by decide) (by decide) (by decide) (by decide) dX9_init_41 ?_
  refine j_putF q_X9_22 rfl rfl (by simp) (by omega) (by omega) dX9_init_43 ?_
  refine k_aload_n 0 dX9_init_46 rfl rfl ?_
  refine k_bipush 58 dX9_init_47 (by decide) ?_
  refine j_newi 58 wa_int yM_6 rfl (by rw [mk_op_ne (by omega)]) (by omega) (by decide) (by decide) (by decide) (by decide) (by decide) dX9_init_49 ?_
  refine j_putF q_X9_25 rfl rfl (by simp) (by omega) (by omega) dX9_init_51 ?_
  refine k_aload_n 0 dX9_init_54 rfl rfl ?_
  refine k_bipush 8 dX9_init_55 (by decide) ?_
  refine j_newi 8 wa_int yM_7 rfl (by rw [mk_op_ne (by omega)]) (by omega) (by decide) (by decide) (by decide) (by decide) (by decide) dX9_init_57 ?_
  refine j_putF q_X9_28 rfl rfl (by simp) (by omega) (by omega) dX9_init_59 ?_
  refine k_aload_n 0 dX9_init_62 rfl rfl ?_
  refine k_bipush 29 dX9_init_63 (by decide) ?_
  refine j_newi 29 wa_int yM_8 rfl (by rw [mk_op_ne (by omega)]) (by omega) (by decide) (by decide) (by decide) (by decide) (by decide) dX9_init_65 ?_
  refine j_putF q_X9_31 rfl rfl (by simp) (by omega) (by omega) dX9_init_67 ?_
  refine k_aload_n 0 dX9_init_70 rfl rfl ?_
  refine k_bipush 6 dX9_init_71 (by decide) ?_
  refine j_newi 6 wa_int yM_9 rfl (by rw [mk_op_ne (by omega)]) (by omega) (by decide) (by decide) (by decide) (by decide) (by decide) dX9_init_73 ?_
  refine j_putF q_X9_34 rfl rfl (by simp) (by omega) (by omega) dX9_init_75 ?_
  refine k_aload_n 0 dX9_init_78 rfl rfl ?_
  refine k_bipush 7 dX9_init_79 (by decide) ?_
  refine j_newi 7 wa_int yM_10 rfl (by rw [mk_op_ne (by omega)]) (by omega) (by decide) (by decide) (by decide) (by decide) (by decide) dX9_init_81 ?_
  refine j_putF q_X9_37 rfl rfl (by simp) (by omega) (by omega) dX9_init_83 ?_
  refine j_close rfl (by rw [fm_ce_obj yM_0]; rfl) ?_
  refine k_full rfl rfl s0_T ?_
  refine n_aload_n 0 rfl rfl dX9_init_86 ?_
  refine n_call [] [] l_X9_40 (c_X9_begins hI e1) yM_0 (by decide) rfl rfl ⟨rfl, rfl, by decide, by decide⟩ (by decide) ⟨by decide, by decide⟩ dX9_init_87 ?_
  refine n_aload_n 0 rfl rfl dX9_init_90 ?_
  refine n_iconst (nI 0) (by decide) dX9_init_91 ?_
  refine n_iconst (nI 4) (by decide) dX9_init_92 ?_
  refine n_call [.int (nI 0), .int (nI 4)] [] l_X9_43 (c_X9_childOf hI e2) yM_0 (by decide) rfl rfl ⟨rfl, rfl, by decide, by decide⟩ (by decide) ⟨by decide, by decide⟩ dX9_init_93 ?_
  refine n_aload_n 0 rfl rfl dX9_init_96 ?_
  refine n_iconst (nI 1) (by decide) dX9_init_97 ?_
  refine n_iconst (nI 5) (by decide) dX9_init_98 ?_
  refine n_call [.int (nI 1), .int (nI 5)] [] l_X9_43 (c_X9_childOf hI e3) yM_0 (by decide) rfl rfl ⟨rfl, rfl, by decide, by decide⟩ (by decide) ⟨by decide, by decide⟩ dX9_init_99 ?_
  refine n_aload_n 0 rfl rfl dX9_init_102 ?_
  refine n_iconst (nI 2) (by decide) dX9_init_103 ?_
  refine n_iconst (nI 3) (by decide) dX9_init_104 ?_
  refine n_call [.int (nI 2), .int (nI 3)] [] l_X9_43 (c_X9_childOf hI e4) yM_0 (by decide) rfl rfl ⟨rfl, rfl, by decide, by decide⟩ (by decide) ⟨by decide, by decide⟩ dX9_init_105 ?_
  refine n_aload_n 0 rfl rfl dX9_init_108 ?_
  refine n_iconst (nI 3) (by decide) dX9_init_109 ?_
  refine n_iconst (nI 4) (by decide) dX9_init_110 ?_
  refine n_call [.int (nI 3), .int (nI 4)] [] l_X9_43 (c_X9_childOf hI e5) yM_0 (by decide) rfl rfl ⟨rfl, rfl, by decide, by decide⟩ (by decide) ⟨by decide, by decide⟩ dX9_init_111 ?_
  refine n_aload_n 0 rfl rfl dX9_init_114 ?_
  refine n_iconst (nI 0) (by decide) dX9_init_115 ?_
  refine n_bipush (nI 6) (by decide) dX9_init_116 ?_
  refine n_call [.int (nI 0), .int (nI 6)] [] l_X9_43 (c_X9_childOf hI e6) yM_0 (by decide) rfl rfl ⟨rfl, rfl, by decide, by decide⟩ (by decide) ⟨by decide, by decide⟩ dX9_init_118 ?_
  refine n_aload_n 0 rfl rfl dX9_init_121 ?_
  refine n_iconst (nI 1) (by decide) dX9_init_122 ?_
  refine n_iconst (nI 3) (by decide) dX9_init_123 ?_
  refine n_call [.int (nI 1), .int (nI 3)] [] l_X9_43 (c_X9_childOf hI e7) yM_0 (by decide) rfl rfl ⟨rfl, rfl, by decide, by decide⟩ (by decide) ⟨by decide, by decide⟩ dX9_init_124 ?_
  refine n_aload_n 0 rfl rfl dX9_init_127 ?_
  refine n_getr 3 g_X9_16 yM_0 (by decide) rfl dX9_init_128 ?_
  refine n_iconst (nI 2) (by decide) dX9_init_131 ?_
  refine n_iconst (nI 5) (by decide) dX9_init_132 ?_
  refine n_iast (i0 := 2) (by decide) yM_3 (by decide) (by decide) dX9_init_133 ?_
  refine n_aload_n 0 rfl rfl dX9_init_134 ?_
  refine n_getr 3 g_X9_16 yM_0 (by decide) rfl dX9_init_135 ?_
  refine n_iconst (nI 4) (by decide) dX9_init_138 ?_
  refine n_bipush (nI 40) (by decide) dX9_init_139 ?_
  refine n_iast (i0 := 4) (by decide) yM_3 (by decide) (by decide) dX9_init_141 ?_
  refine n_aload_n 0 rfl rfl dX9_init_142 ?_
  refine n_call [] [] l_X9_47 (c_X9_lays hI e8) yM_0 (by decide) rfl rfl ⟨rfl, rfl, by decide, by decide⟩ (by decide) ⟨by decide, by decide⟩ dX9_init_143 ?_
  exact n_vret m8 e9 (fun t ht => ht) (by decide) (by decide) dX9_init_146
end CT8
