-- X5_isBetter
abbrev rm_X5_isBetter : Room := { frames := 0, cells := 0, slots := 0, locals := 0 }
def f_X5_isBetter_38 (sk0 : Int32) (s : fm_M) : Option (Int32 × fm_M) :=
  if fm_b sk0 = true then some (sk0, s) else none
set_option maxHeartbeats 4000000 in
theorem t_X5_isBetter_38 {w : fm_W} {l : Launch} {o : fm_O} (hI : fm_I w 105) (sk0 : Int32) (s : fm_M) (z : Int32 × fm_M) (h : f_X5_isBetter_38 sk0 s = some z) (ho : ∀ (r : Int32) (s : fm_M), z = (r, s) → o = (some (.int r), s)) : fm_V w layX 105 l rm_X5_isBetter cX5_isBetter 1 RX5 (some .boolean) o 38 [none] [.int sk0] s := by
  unfold f_X5_isBetter_38 at h
  obtain ⟨hb, h⟩ := fm_ift h
  exact v_zret rfl (fm_b_nar hb).1 (ho _ _ (Option.some.inj h).symm) dX5_isBetter_38
def f_X5_isBetter_21 (s : fm_M) : Option (Int32 × fm_M) :=
  if (s 90 2) = (-4 : Int32) then f_X5_isBetter_38 (0 : Int32) s else f_X5_isBetter_38 (1 : Int32) s
set_option maxHeartbeats 4000000 in
theorem t_X5_isBetter_21 {w : fm_W} {l : Launch} {o : fm_O} (hI : fm_I w 105) (s : fm_M) (z : Int32 × fm_M) (h : f_X5_isBetter_21 s = some z) (ho : ∀ (r : Int32) (s : fm_M), z = (r, s) → o = (some (.int r), s)) : fm_V w layX 105 l rm_X5_isBetter cX5_isBetter 1 RX5 (some .boolean) o 21 [some (.ref (fm_ad w 98))] [] s := by
  unfold f_X5_isBetter_21 at h
  refine v_aload_n 0 dX5_isBetter_21 rfl rfl ?_
  refine v_getr 90 g_X5_26 yX_98 (by decide) rfl dX5_isBetter_22 ?_
  refine v_geti g_X5_68 yX_90 (by decide) rfl dX5_isBetter_25 ?_
  refine v_bipush (-4 : Int32) dX5_isBetter_28 (by decide) ?_
  refine v_icmp_eq 37 dX5_isBetter_30 (by decide) h (fun h => ?_) (fun h => ?_)
  · refine v_iconst (0 : Int32) dX5_isBetter_37 (by decide) ?_
    refine v_lw [none] rfl trivial ?_
    exact t_X5_isBetter_38 hI (0 : Int32) s _ h ho
  · refine v_iconst (1 : Int32) dX5_isBetter_33 (by decide) ?_
    refine v_goto 38 dX5_isBetter_34 (by decide) ?_
    refine v_lw [none] rfl trivial ?_
    exact t_X5_isBetter_38 hI (1 : Int32) s _ h ho
def f_X5_isBetter_86 (sk0 : Int32) (s : fm_M) : Option (Int32 × fm_M) :=
  if fm_b sk0 = true then some (sk0, s) else none
set_option maxHeartbeats 4000000 in
theorem t_X5_isBetter_86 {w : fm_W} {l : Launch} {o : fm_O} (hI : fm_I w 105) (sk0 : Int32) (s : fm_M) (z : Int32 × fm_M) (h : f_X5_isBetter_86 sk0 s = some z) (ho : ∀ (r : Int32) (s : fm_M), z = (r, s) → o = (some (.int r), s)) : fm_V w layX 105 l rm_X5_isBetter cX5_isBetter 1 RX5 (some .boolean) o 86 [none] [.int sk0] s := by
  unfold f_X5_isBetter_86 at h
  obtain ⟨hb, h⟩ := fm_ift h
  exact v_zret rfl (fm_b_nar hb).1 (ho _ _ (Option.some.inj h).symm) dX5_isBetter_86
def f_X5_isBetter_81 (s : fm_M) : Option (Int32 × fm_M) :=
  f_X5_isBetter_86 (1 : Int32) s
set_option maxHeartbeats 4000000 in
theorem t_X5_isBetter_81 {w : fm_W} {l : Launch} {o : fm_O} (hI : fm_I w 105) (s : fm_M) (z : Int32 × fm_M) (h : f_X5_isBetter_81 s = some z) (ho : ∀ (r : Int32) (s : fm_M), z = (r, s) → o = (some (.int r), s)) : fm_V w layX 105 l rm_X5_isBetter cX5_isBetter 1 RX5 (some .boolean) o 81 [none] [] s := by
  unfold f_X5_isBetter_81 at h
  refine v_iconst (1 : Int32) dX5_isBetter_81 (by decide) ?_
  refine v_goto 86 dX5_isBetter_82 (by decide) ?_
  refine v_lw [none] rfl trivial ?_
  exact t_X5_isBetter_86 hI (1 : Int32) s _ h ho
def f_X5_isBetter_85 (s : fm_M) : Option (Int32 × fm_M) :=
  f_X5_isBetter_86 (0 : Int32) s
set_option maxHeartbeats 4000000 in
theorem t_X5_isBetter_85 {w : fm_W} {l : Launch} {o : fm_O} (hI : fm_I w 105) (s : fm_M) (z : Int32 × fm_M) (h : f_X5_isBetter_85 s = some z) (ho : ∀ (r : Int32) (s : fm_M), z = (r, s) → o = (some (.int r), s)) : fm_V w layX 105 l rm_X5_isBetter cX5_isBetter 1 RX5 (some .boolean) o 85 [none] [] s := by
  unfold f_X5_isBetter_85 at h
  refine v_iconst (0 : Int32) dX5_isBetter_85 (by decide) ?_
  refine v_lw [none] rfl trivial ?_
  exact t_X5_isBetter_86 hI (0 : Int32) s _ h ho
def f_X5_isBetter (s : fm_M) : Option (Int32 × fm_M) :=
  if (s 90 2) = (-4 : Int32) then f_X5_isBetter_21 s else if (s 98 4) = (-4 : Int32) then f_X5_isBetter_21 s else if (s 90 2) < (s 98 4) then f_X5_isBetter_81 s else if (s 90 2) = (s 98 4) then if (s 98 5) ≤ (s 90 3) then f_X5_isBetter_85 s else f_X5_isBetter_81 s else f_X5_isBetter_85 s
set_option maxHeartbeats 4000000 in
theorem e_X5_isBetter {w : fm_W} {l : Launch} {o : fm_O} (hI : fm_I w 105) (s : fm_M) (z : Int32 × fm_M) (h : f_X5_isBetter s = some z) (ho : ∀ (r : Int32) (s : fm_M), z = (r, s) → o = (some (.int r), s)) : fm_V w layX 105 l rm_X5_isBetter cX5_isBetter 1 RX5 (some .boolean) o 0 [some (.ref (fm_ad w 98))] [] s := by
  unfold f_X5_isBetter at h
  refine v_aload_n 0 dX5_isBetter_0 rfl rfl ?_
  refine v_getr 90 g_X5_26 yX_98 (by decide) rfl dX5_isBetter_1 ?_
  refine v_geti g_X5_68 yX_90 (by decide) rfl dX5_isBetter_4 ?_
  refine v_bipush (-4 : Int32) dX5_isBetter_7 (by decide) ?_
  refine v_icmp_eq 21 dX5_isBetter_9 (by decide) h (fun h => ?_) (fun h => ?_)
  · refine v_lw [some (.ref (fm_ad w 98))] rfl ⟨rfl, trivial⟩ ?_
    exact t_X5_isBetter_21 hI s _ h ho
  · refine v_aload_n 0 dX5_isBetter_12 rfl rfl ?_
    refine v_geti g_X5_35 yX_98 (by decide) rfl dX5_isBetter_13 ?_
    refine v_bipush (-4 : Int32) dX5_isBetter_16 (by decide) ?_
    refine v_icmp_ne 39 dX5_isBetter_18 (by decide) h (fun h => ?_) (fun h => ?_)
    · refine v_aload_n 0 dX5_isBetter_39 rfl rfl ?_
      refine v_getr 90 g_X5_26 yX_98 (by decide) rfl dX5_isBetter_40 ?_
      refine v_geti g_X5_68 yX_90 (by decide) rfl dX5_isBetter_43 ?_
      refine v_aload_n 0 dX5_isBetter_46 rfl rfl ?_
      refine v_geti g_X5_35 yX_98 (by decide) rfl dX5_isBetter_47 ?_
      refine v_icmp_lt 81 dX5_isBetter_50 (by decide) h (fun h => ?_) (fun h => ?_)
      · refine v_lw [none] rfl trivial ?_
        exact t_X5_isBetter_81 hI s _ h ho
      · refine v_aload_n 0 dX5_isBetter_53 rfl rfl ?_
        refine v_getr 90 g_X5_26 yX_98 (by decide) rfl dX5_isBetter_54 ?_
        refine v_geti g_X5_68 yX_90 (by decide) rfl dX5_isBetter_57 ?_
        refine v_aload_n 0 dX5_isBetter_60 rfl rfl ?_
        refine v_geti g_X5_35 yX_98 (by decide) rfl dX5_isBetter_61 ?_
        refine v_icmp_ne 85 dX5_isBetter_64 (by decide) h (fun h => ?_) (fun h => ?_)
        · refine v_lw [none] rfl trivial ?_
          exact t_X5_isBetter_85 hI s _ h ho
        · refine v_aload_n 0 dX5_isBetter_67 rfl rfl ?_
          refine v_getr 90 g_X5_26 yX_98 (by decide) rfl dX5_isBetter_68 ?_
          refine v_geti g_X5_69 yX_90 (by decide) rfl dX5_isBetter_71 ?_
          refine v_aload_n 0 dX5_isBetter_74 rfl rfl ?_
          refine v_geti g_X5_38 yX_98 (by decide) rfl dX5_isBetter_75 ?_
          refine v_icmp_ge 85 dX5_isBetter_78 (by decide) h (fun h => ?_) (fun h => ?_)
          · refine v_lw [none] rfl trivial ?_
            exact t_X5_isBetter_85 hI s _ h ho
          · refine v_lw [none] rfl trivial ?_
            exact t_X5_isBetter_81 hI s _ h ho
    · refine v_lw [some (.ref (fm_ad w 98))] rfl ⟨rfl, trivial⟩ ?_
      exact t_X5_isBetter_21 hI s _ h ho
theorem c_X5_isBetter {w : fm_W} {l : Launch} (hI : fm_I w 105) {s : fm_M} {r : Int32} {s2 : fm_M} (h : f_X5_isBetter s = some (r, s2)) : fm_C w layX 105 l yX5_isBetter cX5_isBetter 1 (some .boolean) rm_X5_isBetter [.ref (fm_ad w 98)] s (some (.int r), s2) :=
  fm_of hI (by decide) rfl (Nat.le_of_ble_eq_true rfl) (e_X5_isBetter hI s _ h (fun r s e => by cases e; rfl))
-- X5_makeRowWithLast
abbrev rm_X5_makeRowWithLast : Room := { frames := 1, cells := 0, slots := 0, locals := 26 }
def f_X5_makeRowWithLast_25 (v1 : Int32) (v2 : Int32) (sk0 : Int32) (sk1 : Int32) (s : fm_M) : Option ((fm_M × Int32) ⊕ (fm_M × Int32)) :=
  if fm_in sk1 6 = true then some (.inl ((fm_up s 99 sk1.toNatClampNeg sk0), (v2 + (1 : Int32)))) else none
set_option maxHeartbeats 4000000 in
theorem t_X5_makeRowWithLast_25 {w : fm_W} {l : Launch} {o : fm_O} (hI : fm_I w 105) (v1 : Int32) (v2 : Int32) (sk0 : Int32) (sk1 : Int32) (s : fm_M) (z : (fm_M × Int32) ⊕ (fm_M × Int32)) (h : f_X5_makeRowWithLast_25 v1 v2 sk0 sk1 s = some z) (kb : ∀ (s : fm_M) (u2 : Int32), z = .inl (s, u2) → fm_V w layX 105 l rm_X5_makeRowWithLast cX5_makeRowWithLast 3 RX5 none o 2 [some (.ref (fm_ad w 98)), some (.int v1), some (.int u2)] [] s) (ke : ∀ (s : fm_M) (u2 : Int32), z = .inr (s, u2) → fm_V w layX 105 l rm_X5_makeRowWithLast cX5_makeRowWithLast 3 RX5 none o 32 [some (.ref (fm_ad w 98)), some (.int v1), some (.int u2)] [] s) : fm_V w layX 105 l rm_X5_makeRowWithLast cX5_makeRowWithLast 3 RX5 none o 25 [some (.ref (fm_ad w 98)), some (.int v1), some (.int v2)] [.int sk0, .int sk1, .ref (fm_ad w 99)] s := by
  unfold f_X5_makeRowWithLast_25 at h
  obtain ⟨hi, h⟩ := fm_ift h
  refine v_iast (by decide) yX_99 hi dX5_makeRowWithLast_25 ?_
  refine v_iinc (lv' := [some (.ref (fm_ad w 98)), some (.int v1), some (.int (v2 + (1 : Int32)))]) (1 : Int32) dX5_makeRowWithLast_26 rfl (by decide) (by decide) rfl rfl ?_
  refine v_goto 2 dX5_makeRowWithLast_29 (by decide) ?_
  refine v_lw [some (.ref (fm_ad w 98)), some (.int v1), some (.int (v2 + (1 : Int32)))] rfl ⟨rfl, rfl, rfl, trivial⟩ ?_
  exact kb _ _ (Option.some.inj h).symm
def f_X5_makeRowWithLast_2 (v1 : Int32) (s : fm_M) (v2 : Int32) : Option ((fm_M × Int32) ⊕ (fm_M × Int32)) :=
  if (6 : Int32) ≤ v2 then some (.inr (s, v2)) else if v1 ≤ v2 then f_X5_makeRowWithLast_25 v1 v2 (v2 + (1 : Int32)) v2 s else f_X5_makeRowWithLast_25 v1 v2 v2 v2 s
set_option maxHeartbeats 4000000 in
theorem t_X5_makeRowWithLast_2 {w : fm_W} {l : Launch} {o : fm_O} (hI : fm_I w 105) (v1 : Int32) (s : fm_M) (v2 : Int32) (z : (fm_M × Int32) ⊕ (fm_M × Int32)) (h : f_X5_makeRowWithLast_2 v1 s v2 = some z) (kb : ∀ (s : fm_M) (u2 : Int32), z = .inl (s, u2) → fm_V w layX 105 l rm_X5_makeRowWithLast cX5_makeRowWithLast 3 RX5 none o 2 [some (.ref (fm_ad w 98)), some (.int v1), some (.int u2)] [] s) (ke : ∀ (s : fm_M) (u2 : Int32), z = .inr (s, u2) → fm_V w layX 105 l rm_X5_makeRowWithLast cX5_makeRowWithLast 3 RX5 none o 32 [some (.ref (fm_ad w 98)), some (.int v1), some (.int u2)] [] s) : fm_V w layX 105 l rm_X5_makeRowWithLast cX5_makeRowWithLast 3 RX5 none o 2 [some (.ref (fm_ad w 98)), some (.int v1), some (.int v2)] [] s := by
  unfold f_X5_makeRowWithLast_2 at h
  refine v_iload_n 2 dX5_makeRowWithLast_2 rfl rfl ?_
  refine v_bipush (6 : Int32) dX5_makeRowWithLast_3 (by decide) ?_
  refine v_icmp_ge 32 dX5_makeRowWithLast_5 (by decide) h (fun h => ?_) (fun h => ?_)
  · refine v_lw [some (.ref (fm_ad w 98)), some (.int v1), some (.int v2)] rfl ⟨rfl, rfl, rfl, trivial⟩ ?_
    exact ke _ _ (Option.some.inj h).symm
  · refine v_aload_n 0 dX5_makeRowWithLast_8 rfl rfl ?_
    refine v_getr 99 g_X5_9 yX_98 (by decide) rfl dX5_makeRowWithLast_9 ?_
    refine v_iload_n 2 dX5_makeRowWithLast_12 rfl rfl ?_
    refine v_iload_n 2 dX5_makeRowWithLast_13 rfl rfl ?_
    refine v_iload_n 1 dX5_makeRowWithLast_14 rfl rfl ?_
    refine v_icmp_ge 22 dX5_makeRowWithLast_15 (by decide) h (fun h => ?_) (fun h => ?_)
    · refine v_iload_n 2 dX5_makeRowWithLast_22 rfl rfl ?_
      refine v_iconst (1 : Int32) dX5_makeRowWithLast_23 (by decide) ?_
      refine v_iadd dX5_makeRowWithLast_24 ?_
      refine v_lw [some (.ref (fm_ad w 98)), some (.int v1), some (.int v2)] rfl ⟨rfl, rfl, rfl, trivial⟩ ?_
      exact t_X5_makeRowWithLast_25 hI v1 v2 (v2 + (1 : Int32)) v2 s _ h kb ke
    · refine v_iload_n 2 dX5_makeRowWithLast_18 rfl rfl ?_
      refine v_goto 25 dX5_makeRowWithLast_19 (by decide) ?_
      refine v_lw [some (.ref (fm_ad w 98)), some (.int v1), some (.int v2)] rfl ⟨rfl, rfl, rfl, trivial⟩ ?_
      exact t_X5_makeRowWithLast_25 hI v1 v2 v2 v2 s _ h kb ke
set_option maxHeartbeats 4000000 in
theorem i_X5_makeRowWithLast_2 {w : fm_W} {l : Launch} {o : fm_O} (hI : fm_I w 105) (v1 : Int32) (n : Nat) (s : fm_M) (v2 : Int32) (q : fm_M × Int32) (h : fm_it (fun s => f_X5_makeRowWithLast_2 v1 s.1 s.2) n (s, v2) = some q) (ke : ∀ (s : fm_M) (u2 : Int32), q = (s, u2) → fm_V w layX 105 l rm_X5_makeRowWithLast cX5_makeRowWithLast 3 RX5 none o 32 [some (.ref (fm_ad w 98)), some (.int v1), some (.int u2)] [] s) : fm_V w layX 105 l rm_X5_makeRowWithLast cX5_makeRowWithLast 3 RX5 none o 2 [some (.ref (fm_ad w 98)), some (.int v1), some (.int v2)] [] s :=
  fm_it_loop (body := (fun s => f_X5_makeRowWithLast_2 v1 s.1 s.2)) (P := fun s => fm_V w layX 105 l rm_X5_makeRowWithLast cX5_makeRowWithLast 3 RX5 none o 2 [some (.ref (fm_ad w 98)), some (.int v1), some (.int s.2)] [] s.1) (K := (fun q : fm_M × Int32 => (∀ (s : fm_M) (u2 : Int32), q = (s, u2) → fm_V w layX 105 l rm_X5_makeRowWithLast cX5_makeRowWithLast 3 RX5 none o 32 [some (.ref (fm_ad w 98)), some (.int v1), some (.int u2)] [] s))) (fun s z hb kl kx => t_X5_makeRowWithLast_2 hI v1 s.1 s.2 z hb (fun s u2 e => kl _ e) (fun s u2 e => (kx _ e) s u2 rfl)) n (s, v2) q h ke
def f_X5_makeRowWithLast_58 (s : fm_M) : Option (Int32 × fm_M) :=
  some (0, s)
set_option maxHeartbeats 4000000 in
theorem t_X5_makeRowWithLast_58 {w : fm_W} {l : Launch} {o : fm_O} (hI : fm_I w 105) (s : fm_M) (z : Int32 × fm_M) (h : f_X5_makeRowWithLast_58 s = some z) (ho : ∀ (r : Int32) (s : fm_M), z = (r, s) → o = (none, s)) : fm_V w layX 105 l rm_X5_makeRowWithLast cX5_makeRowWithLast 3 RX5 none o 58 [none, none, none] [] s := by
  unfold f_X5_makeRowWithLast_58 at h
  exact v_vret rfl (ho _ _ (Option.some.inj h).symm) dX5_makeRowWithLast_58
def f_X5_makeRowWithLast (v1 : Int32) (s : fm_M) : Option (Int32 × fm_M) :=
  fm_op (fm_it (fun (yy : fm_M × Int32) => f_X5_makeRowWithLast_2 v1 yy.1 yy.2) fm_fu (s, (0 : Int32))) (fun q1 => ((fun (s1 : fm_M) (x1_2 : Int32) => if (if (6 : Int32) < (s1 6 2) then (6 : Int32) else (s1 6 2)) ≤ 0 then f_X5_makeRowWithLast_58 s1 else if fm_in ((if (6 : Int32) < (s1 6 2) then (6 : Int32) else (s1 6 2)) - (1 : Int32)) 6 = true then f_X5_makeRowWithLast_58 (fm_up s1 99 ((if (6 : Int32) < (s1 6 2) then (6 : Int32) else (s1 6 2)) - (1 : Int32)).toNatClampNeg v1) else none)) q1.1 q1.2)
set_option maxHeartbeats 4000000 in
theorem e_X5_makeRowWithLast {w : fm_W} {l : Launch} {o : fm_O} (hI : fm_I w 105) (v1 : Int32) (s : fm_M) (z : Int32 × fm_M) (h : f_X5_makeRowWithLast v1 s = some z) (ho : ∀ (r : Int32) (s : fm_M), z = (r, s) → o = (none, s)) : fm_V w layX 105 l rm_X5_makeRowWithLast cX5_makeRowWithLast 3 RX5 none o 0 [some (.ref (fm_ad w 98)), some (.int v1), none] [] s := by
  unfold f_X5_makeRowWithLast at h
  refine v_iconst (0 : Int32) dX5_makeRowWithLast_0 (by decide) ?_
  refine v_istore_n (lv' := [some (.ref (fm_ad w 98)), some (.int v1), some (.int (0 : Int32))]) 2 dX5_makeRowWithLast_1 rfl (by decide) rfl rfl ?_
  obtain ⟨q1, h1, h⟩ := fm_ops h
  refine v_lw [some (.ref (fm_ad w 98)), some (.int v1), some (.int (0 : Int32))] rfl ⟨rfl, rfl, rfl, trivial⟩ ?_
  refine i_X5_makeRowWithLast_2 hI v1 _ _ _ _ h1 (fun s1 x1_2 e => ?_)
  subst e
  dsimp only at h
  refine v_aload_n 0 dX5_makeRowWithLast_32 rfl rfl ?_
  refine v_getr 6 g_X5_22 yX_98 (by decide) rfl dX5_makeRowWithLast_33 ?_
  refine v_geti g_X5_73 yX_6 (by decide) rfl dX5_makeRowWithLast_36 ?_
  refine v_bipush (6 : Int32) dX5_makeRowWithLast_39 (by decide) ?_
  refine v_mmin mm_X5_78 ⟨by decide, Nat.le_of_ble_eq_true rfl⟩ dX5_makeRowWithLast_41 ?_
  refine v_istore_n (lv' := [some (.ref (fm_ad w 98)), some (.int v1), some (.int (if (6 : Int32) < (s1 6 2) then (6 : Int32) else (s1 6 2)))]) 2 dX5_makeRowWithLast_44 rfl (by decide) rfl rfl ?_
  refine v_iload_n 2 dX5_makeRowWithLast_45 rfl rfl ?_
  refine v_if_le 58 dX5_makeRowWithLast_46 (by decide) h (fun h => ?_) (fun h => ?_)
  · refine v_lw [none, none, none] rfl trivial ?_
    exact t_X5_makeRowWithLast_58 hI s1 _ h ho
  · refine v_aload_n 0 dX5_makeRowWithLast_49 rfl rfl ?_
    refine v_getr 99 g_X5_9 yX_98 (by decide) rfl dX5_makeRowWithLast_50 ?_
    refine v_iload_n 2 dX5_makeRowWithLast_53 rfl rfl ?_
    refine v_iconst (1 : Int32) dX5_makeRowWithLast_54 (by decide) ?_
    refine v_isub dX5_makeRowWithLast_55 ?_
    refine v_iload_n 1 dX5_makeRowWithLast_56 rfl rfl ?_
    obtain ⟨hi, h⟩ := fm_ift h
    refine v_iast (by decide) yX_99 hi dX5_makeRowWithLast_57 ?_
    refine v_lw [none, none, none] rfl trivial ?_
    exact t_X5_makeRowWithLast_58 hI (fm_up s1 99 ((if (6 : Int32) < (s1 6 2) then (6 : Int32) else (s1 6 2)) - (1 : Int32)).toNatClampNeg v1) _ h ho
theorem c_X5_makeRowWithLast {w : fm_W} {l : Launch} (hI : fm_I w 105) {v1 : Int32} {s : fm_M} {r : Int32} {s2 : fm_M} (h : f_X5_makeRowWithLast v1 s = some (r, s2)) : fm_C w layX 105 l yX5_makeRowWithLast cX5_makeRowWithLast 3 none rm_X5_makeRowWithLast [.ref (fm_ad w 98), .int v1] s (none, s2) :=
  fm_of hI (by decide) rfl (Nat.le_of_ble_eq_true rfl) (e_X5_makeRowWithLast hI v1 s _ h (fun r s e => by cases e; rfl))
-- X5_swap
abbrev rm_X5_swap : Room := { frames := 1, cells := 0, slots := 0, locals := 26 }
def f_X5_swap_44 (s : fm_M) : Option (Int32 × fm_M) :=
  some (0, s)
set_option maxHeartbeats 4000000 in
theorem t_X5_swap_44 {w : fm_W} {l : Launch} {o : fm_O} (hI : fm_I w 105) (s : fm_M) (z : Int32 × fm_M) (h : f_X5_swap_44 s = some z) (ho : ∀ (r : Int32) (s : fm_M), z = (r, s) → o = (none, s)) : fm_V w layX 105 l rm_X5_swap cX5_swap 4 RX5 none o 44 [none, none, none, none] [] s := by
  unfold f_X5_swap_44 at h
  exact v_vret rfl (ho _ _ (Option.some.inj h).symm) dX5_swap_44
def f_X5_swap (v1 : Int32) (v2 : Int32) (s : fm_M) : Option (Int32 × fm_M) :=
  if (if v2 < v1 then v2 else v1) < 0 then f_X5_swap_44 s else if (6 : Int32) ≤ (if v1 < v2 then v2 else v1) then f_X5_swap_44 s else if fm_in v1 6 = true then if fm_in v2 6 = true then if fm_in v1 6 = true then if fm_in v2 6 = true then f_X5_swap_44 (fm_up (fm_up s 99 v1.toNatClampNeg (s 99 v2.toNatClampNeg)) 99 v2.toNatClampNeg (s 99 v1.toNatClampNeg)) else none else none else none else none
set_option maxHeartbeats 4000000 in
theorem e_X5_swap {w : fm_W} {l : Launch} {o : fm_O} (hI : fm_I w 105) (v1 : Int32) (v2 : Int32) (s : fm_M) (z : Int32 × fm_M) (h : f_X5_swap v1 v2 s = some z) (ho : ∀ (r : Int32) (s : fm_M), z = (r, s) → o = (none, s)) : fm_V w layX 105 l rm_X5_swap cX5_swap 4 RX5 none o 0 [some (.ref (fm_ad w 98)), some (.int v1), some (.int v2), none] [] s := by
  unfold f_X5_swap at h
  refine v_iload_n 1 dX5_swap_0 rfl rfl ?_
  refine v_iload_n 2 dX5_swap_1 rfl rfl ?_
  refine v_mmin mm_X5_78 ⟨by decide, Nat.le_of_ble_eq_true rfl⟩ dX5_swap_2 ?_
  refine v_if_lt 44 dX5_swap_5 (by decide) h (fun h => ?_) (fun h => ?_)
  · refine v_lw [none, none, none, none] rfl trivial ?_
    exact t_X5_swap_44 hI s _ h ho
  · refine v_iload_n 1 dX5_swap_8 rfl rfl ?_
    refine v_iload_n 2 dX5_swap_9 rfl rfl ?_
    refine v_mmax mm_X5_88 ⟨by decide, Nat.le_of_ble_eq_true rfl⟩ dX5_swap_10 ?_
    refine v_bipush (6 : Int32) dX5_swap_13 (by decide) ?_
    refine v_icmp_ge 44 dX5_swap_15 (by decide) h (fun h => ?_) (fun h => ?_)
    · refine v_lw [none, none, none, none] rfl trivial ?_
      exact t_X5_swap_44 hI s _ h ho
    · refine v_aload_n 0 dX5_swap_18 rfl rfl ?_
      refine v_getr 99 g_X5_9 yX_98 (by decide) rfl dX5_swap_19 ?_
      refine v_iload_n 1 dX5_swap_22 rfl rfl ?_
      obtain ⟨hi, h⟩ := fm_ift h
      refine v_iald (Or.inl ⟨(by decide), yX_99⟩) hi dX5_swap_23 ?_
      refine v_istore_n (lv' := [some (.ref (fm_ad w 98)), some (.int v1), some (.int v2), some (.int (s 99 v1.toNatClampNeg))]) 3 dX5_swap_24 rfl (by decide) rfl rfl ?_
      refine v_aload_n 0 dX5_swap_25 rfl rfl ?_
      refine v_getr 99 g_X5_9 yX_98 (by decide) rfl dX5_swap_26 ?_
      refine v_iload_n 1 dX5_swap_29 rfl rfl ?_
      refine v_aload_n 0 dX5_swap_30 rfl rfl ?_
      refine v_getr 99 g_X5_9 yX_98 (by decide) rfl dX5_swap_31 ?_
      refine v_iload_n 2 dX5_swap_34 rfl rfl ?_
      obtain ⟨hi, h⟩ := fm_ift h
      refine v_iald (Or.inl ⟨(by decide), yX_99⟩) hi dX5_swap_35 ?_
      obtain ⟨hi, h⟩ := fm_ift h
      refine v_iast (by decide) yX_99 hi dX5_swap_36 ?_
      refine v_aload_n 0 dX5_swap_37 rfl rfl ?_
      refine v_getr 99 g_X5_9 yX_98 (by decide) rfl dX5_swap_38 ?_
      refine v_iload_n 2 dX5_swap_41 rfl rfl ?_
      refine v_iload_n 3 dX5_swap_42 rfl rfl ?_
      obtain ⟨hi, h⟩ := fm_ift h
      refine v_iast (by decide) yX_99 hi dX5_swap_43 ?_
      refine v_lw [none, none, none, none] rfl trivial ?_
      exact t_X5_swap_44 hI (fm_up (fm_up s 99 v1.toNatClampNeg (s 99 v2.toNatClampNeg)) 99 v2.toNatClampNeg (s 99 v1.toNatClampNeg)) _ h ho
theorem c_X5_swap {w : fm_W} {l : Launch} (hI : fm_I w 105) {v1 : Int32} {v2 : Int32} {s : fm_M} {r : Int32} {s2 : fm_M} (h : f_X5_swap v1 v2 s = some (r, s2)) : fm_C w layX 105 l yX5_swap cX5_swap 4 none rm_X5_swap [.ref (fm_ad w 98), .int v1, .int v2] s (none, s2) :=
  fm_of hI (by decide) rfl (Nat.le_of_ble_eq_true rfl) (e_X5_swap hI v1 v2 s _ h (fun r s e => by cases e; rfl))
-- X5_nextRow
abbrev rm_X5_nextRow : Room := { frames := 2, cells := 0, slots := 0, locals := 49 }
def f_X5_nextRow_17 (v1 : Int32) (s : fm_M) (v2 : Int32) : Option ((fm_M × Int32) ⊕ (fm_M × Int32)) :=
  if v2 < 0 then some (.inr (s, v2)) else if fm_in v2 6 = true then if fm_in (v2 + (1 : Int32)) 6 = true then if (s 99 v2.toNatClampNeg) ≤ (s 99 (v2 + (1 : Int32)).toNatClampNeg) then some (.inr (s, v2)) else some (.inl (s, (v2 + (-1 : Int32)))) else none else none
set_option maxHeartbeats 4000000 in
theorem t_X5_nextRow_17 {w : fm_W} {l : Launch} {o : fm_O} (hI : fm_I w 105) (v1 : Int32) (s : fm_M) (v2 : Int32) (z : (fm_M × Int32) ⊕ (fm_M × Int32)) (h : f_X5_nextRow_17 v1 s v2 = some z) (kb : ∀ (s : fm_M) (u2 : Int32), z = .inl (s, u2) → fm_V w layX 105 l rm_X5_nextRow cX5_nextRow 6 RX5 (some .boolean) o 17 [some (.ref (fm_ad w 98)), some (.int v1), some (.int u2), none, none, none] [] s) (ke : ∀ (s : fm_M) (u2 : Int32), z = .inr (s, u2) → fm_V w layX 105 l rm_X5_nextRow cX5_nextRow 6 RX5 (some .boolean) o 44 [some (.ref (fm_ad w 98)), some (.int v1), some (.int u2), none, none, none] [] s) : fm_V w layX 105 l rm_X5_nextRow cX5_nextRow 6 RX5 (some .boolean) o 17 [some (.ref (fm_ad w 98)), some (.int v1), some (.int v2), none, none, none] [] s := by
  unfold f_X5_nextRow_17 at h
  refine v_iload_n 2 dX5_nextRow_17 rfl rfl ?_
  refine v_if_lt 44 dX5_nextRow_18 (by decide) h (fun h => ?_) (fun h => ?_)
  · refine v_lw [some (.ref (fm_ad w 98)), some (.int v1), some (.int v2), none, none, none] rfl ⟨rfl, rfl, rfl, trivial⟩ ?_
    exact ke _ _ (Option.some.inj h).symm
  · refine v_aload_n 0 dX5_nextRow_21 rfl rfl ?_
    refine v_getr 99 g_X5_9 yX_98 (by decide) rfl dX5_nextRow_22 ?_
    refine v_iload_n 2 dX5_nextRow_25 rfl rfl ?_
    obtain ⟨hi, h⟩ := fm_ift h
    refine v_iald (Or.inl ⟨(by decide), yX_99⟩) hi dX5_nextRow_26 ?_
    refine v_aload_n 0 dX5_nextRow_27 rfl rfl ?_
    refine v_getr 99 g_X5_9 yX_98 (by decide) rfl dX5_nextRow_28 ?_
    refine v_iload_n 2 dX5_nextRow_31 rfl rfl ?_
    refine v_iconst (1 : Int32) dX5_nextRow_32 (by decide) ?_
    refine v_iadd dX5_nextRow_33 ?_
    obtain ⟨hi, h⟩ := fm_ift h
    refine v_iald (Or.inl ⟨(by decide), yX_99⟩) hi dX5_nextRow_34 ?_
    refine v_icmp_le 44 dX5_nextRow_35 (by decide) h (fun h => ?_) (fun h => ?_)
    · refine v_lw [some (.ref (fm_ad w 98)), some (.int v1), some (.int v2), none, none, none] rfl ⟨rfl, rfl, rfl, trivial⟩ ?_
      exact ke _ _ (Option.some.inj h).symm
    · refine v_iinc (lv' := [some (.ref (fm_ad w 98)), some (.int v1), some (.int (v2 + (-1 : Int32))), none, none, none]) (-1 : Int32) dX5_nextRow_38 rfl (by decide) (by decide) rfl rfl ?_
      refine v_goto 17 dX5_nextRow_41 (by decide) ?_
      refine v_lw [some (.ref (fm_ad w 98)), some (.int v1), some (.int (v2 + (-1 : Int32))), none, none, none] rfl ⟨rfl, rfl, rfl, trivial⟩ ?_
      exact kb _ _ (Option.some.inj h).symm
set_option maxHeartbeats 4000000 in
theorem i_X5_nextRow_17 {w : fm_W} {l : Launch} {o : fm_O} (hI : fm_I w 105) (v1 : Int32) (n : Nat) (s : fm_M) (v2 : Int32) (q : fm_M × Int32) (h : fm_it (fun s => f_X5_nextRow_17 v1 s.1 s.2) n (s, v2) = some q) (ke : ∀ (s : fm_M) (u2 : Int32), q = (s, u2) → fm_V w layX 105 l rm_X5_nextRow cX5_nextRow 6 RX5 (some .boolean) o 44 [some (.ref (fm_ad w 98)), some (.int v1), some (.int u2), none, none, none] [] s) : fm_V w layX 105 l rm_X5_nextRow cX5_nextRow 6 RX5 (some .boolean) o 17 [some (.ref (fm_ad w 98)), some (.int v1), some (.int v2), none, none, none] [] s :=
  fm_it_loop (body := (fun s => f_X5_nextRow_17 v1 s.1 s.2)) (P := fun s => fm_V w layX 105 l rm_X5_nextRow cX5_nextRow 6 RX5 (some .boolean) o 17 [some (.ref (fm_ad w 98)), some (.int v1), some (.int s.2), none, none, none] [] s.1) (K := (fun q : fm_M × Int32 => (∀ (s : fm_M) (u2 : Int32), q = (s, u2) → fm_V w layX 105 l rm_X5_nextRow cX5_nextRow 6 RX5 (some .boolean) o 44 [some (.ref (fm_ad w 98)), some (.int v1), some (.int u2), none, none, none] [] s))) (fun s z hb kl kx => t_X5_nextRow_17 hI v1 s.1 s.2 z hb (fun s u2 e => kl _ e) (fun s u2 e => (kx _ e) s u2 rfl)) n (s, v2) q h ke
def f_X5_nextRow_54 (v1 : Int32) (v2 : Int32) (s : fm_M) (v3 : Int32) : Option ((fm_M × Int32) ⊕ (fm_M × Int32)) :=
  if v3 ≤ v2 then some (.inr (s, v3)) else if fm_in v3 6 = true then if fm_in v2 6 = true then if (s 99 v2.toNatClampNeg) ≤ (s 99 v3.toNatClampNeg) then some (.inr (s, v3)) else some (.inl (s, (v3 + (-1 : Int32)))) else none else none
set_option maxHeartbeats 4000000 in
theorem t_X5_nextRow_54 {w : fm_W} {l : Launch} {o : fm_O} (hI : fm_I w 105) (v1 : Int32) (v2 : Int32) (s : fm_M) (v3 : Int32) (z : (fm_M × Int32) ⊕ (fm_M × Int32)) (h : f_X5_nextRow_54 v1 v2 s v3 = some z) (kb : ∀ (s : fm_M) (u3 : Int32), z = .inl (s, u3) → fm_V w layX 105 l rm_X5_nextRow cX5_nextRow 6 RX5 (some .boolean) o 54 [some (.ref (fm_ad w 98)), some (.int v1), some (.int v2), some (.int u3), none, none] [] s) (ke : ∀ (s : fm_M) (u3 : Int32), z = .inr (s, u3) → fm_V w layX 105 l rm_X5_nextRow cX5_nextRow 6 RX5 (some .boolean) o 80 [some (.ref (fm_ad w 98)), some (.int v1), some (.int v2), some (.int u3), none, none] [] s) : fm_V w layX 105 l rm_X5_nextRow cX5_nextRow 6 RX5 (some .boolean) o 54 [some (.ref (fm_ad w 98)), some (.int v1), some (.int v2), some (.int v3), none, none] [] s := by
  unfold f_X5_nextRow_54 at h
  refine v_iload_n 3 dX5_nextRow_54 rfl rfl ?_
  refine v_iload_n 2 dX5_nextRow_55 rfl rfl ?_
  refine v_icmp_le 80 dX5_nextRow_56 (by decide) h (fun h => ?_) (fun h => ?_)
  · refine v_lw [some (.ref (fm_ad w 98)), some (.int v1), some (.int v2), some (.int v3), none, none] rfl ⟨rfl, rfl, rfl, rfl, trivial⟩ ?_
    exact ke _ _ (Option.some.inj h).symm
  · refine v_aload_n 0 dX5_nextRow_59 rfl rfl ?_
    refine v_getr 99 g_X5_9 yX_98 (by decide) rfl dX5_nextRow_60 ?_
    refine v_iload_n 3 dX5_nextRow_63 rfl rfl ?_
    obtain ⟨hi, h⟩ := fm_ift h
    refine v_iald (Or.inl ⟨(by decide), yX_99⟩) hi dX5_nextRow_64 ?_
    refine v_aload_n 0 dX5_nextRow_65 rfl rfl ?_
    refine v_getr 99 g_X5_9 yX_98 (by decide) rfl dX5_nextRow_66 ?_
    refine v_iload_n 2 dX5_nextRow_69 rfl rfl ?_
    obtain ⟨hi, h⟩ := fm_ift h
    refine v_iald (Or.inl ⟨(by decide), yX_99⟩) hi dX5_nextRow_70 ?_
    refine v_icmp_ge 80 dX5_nextRow_71 (by decide) h (fun h => ?_) (fun h => ?_)
    · refine v_lw [some (.ref (fm_ad w 98)), some (.int v1), some (.int v2), some (.int v3), none, none] rfl ⟨rfl, rfl, rfl, rfl, trivial⟩ ?_
      exact ke _ _ (Option.some.inj h).symm
    · refine v_iinc (lv' := [some (.ref (fm_ad w 98)), some (.int v1), some (.int v2), some (.int (v3 + (-1 : Int32))), none, none]) (-1 : Int32) dX5_nextRow_74 rfl (by decide) (by decide) rfl rfl ?_
      refine v_goto 54 dX5_nextRow_77 (by decide) ?_
      refine v_lw [some (.ref (fm_ad w 98)), some (.int v1), some (.int v2), some (.int (v3 + (-1 : Int32))), none, none] rfl ⟨rfl, rfl, rfl, rfl, trivial⟩ ?_
      exact kb _ _ (Option.some.inj h).symm
set_option maxHeartbeats 4000000 in
theorem i_X5_nextRow_54 {w : fm_W} {l : Launch} {o : fm_O} (hI : fm_I w 105) (v1 : Int32) (v2 : Int32) (n : Nat) (s : fm_M) (v3 : Int32) (q : fm_M × Int32) (h : fm_it (fun s => f_X5_nextRow_54 v1 v2 s.1 s.2) n (s, v3) = some q) (ke : ∀ (s : fm_M) (u3 : Int32), q = (s, u3) → fm_V w layX 105 l rm_X5_nextRow cX5_nextRow 6 RX5 (some .boolean) o 80 [some (.ref (fm_ad w 98)), some (.int v1), some (.int v2), some (.int u3), none, none] [] s) : fm_V w layX 105 l rm_X5_nextRow cX5_nextRow 6 RX5 (some .boolean) o 54 [some (.ref (fm_ad w 98)), some (.int v1), some (.int v2), some (.int v3), none, none] [] s :=
  fm_it_loop (body := (fun s => f_X5_nextRow_54 v1 v2 s.1 s.2)) (P := fun s => fm_V w layX 105 l rm_X5_nextRow cX5_nextRow 6 RX5 (some .boolean) o 54 [some (.ref (fm_ad w 98)), some (.int v1), some (.int v2), some (.int s.2), none, none] [] s.1) (K := (fun q : fm_M × Int32 => (∀ (s : fm_M) (u3 : Int32), q = (s, u3) → fm_V w layX 105 l rm_X5_nextRow cX5_nextRow 6 RX5 (some .boolean) o 80 [some (.ref (fm_ad w 98)), some (.int v1), some (.int v2), some (.int u3), none, none] [] s))) (fun s z hb kl kx => t_X5_nextRow_54 hI v1 v2 s.1 s.2 z hb (fun s u3 e => kl _ e) (fun s u3 e => (kx _ e) s u3 rfl)) n (s, v3) q h ke
def f_X5_nextRow_96 (s : fm_M) (v4 : Int32) (v5 : Int32) : Option ((fm_M × Int32 × Int32) ⊕ (fm_M × Int32 × Int32)) :=
  if v4 ≤ v5 then some (.inr (s, v4, v5)) else fm_bd (f_X5_swap v5 v4 s) (fun r4 s4 => some (.inl (s4, (v4 + (-1 : Int32)), (v5 + (1 : Int32)))))
set_option maxHeartbeats 4000000 in
theorem t_X5_nextRow_96 {w : fm_W} {l : Launch} {o : fm_O} (hI : fm_I w 105) (s : fm_M) (v4 : Int32) (v5 : Int32) (z : (fm_M × Int32 × Int32) ⊕ (fm_M × Int32 × Int32)) (h : f_X5_nextRow_96 s v4 v5 = some z) (kb : ∀ (s : fm_M) (u4 : Int32) (u5 : Int32), z = .inl (s, u4, u5) → fm_V w layX 105 l rm_X5_nextRow cX5_nextRow 6 RX5 (some .boolean) o 96 [some (.ref (fm_ad w 98)), none, none, none, some (.int u4), some (.int u5)] [] s) (ke : ∀ (s : fm_M) (u4 : Int32) (u5 : Int32), z = .inr (s, u4, u5) → fm_V w layX 105 l rm_X5_nextRow cX5_nextRow 6 RX5 (some .boolean) o 120 [some (.ref (fm_ad w 98)), none, none, none, some (.int u4), some (.int u5)] [] s) : fm_V w layX 105 l rm_X5_nextRow cX5_nextRow 6 RX5 (some .boolean) o 96 [some (.ref (fm_ad w 98)), none, none, none, some (.int v4), some (.int v5)] [] s := by
  unfold f_X5_nextRow_96 at h
  refine v_iload dX5_nextRow_96 rfl ?_
  refine v_iload dX5_nextRow_98 rfl ?_
  refine v_icmp_ge 120 dX5_nextRow_100 (by decide) h (fun h => ?_) (fun h => ?_)
  · refine v_lw [some (.ref (fm_ad w 98)), none, none, none, some (.int v4), some (.int v5)] rfl ⟨rfl, rfl, rfl, trivial⟩ ?_
    exact ke _ _ _ (Option.some.inj h).symm
  · refine v_aload_n 0 dX5_nextRow_103 rfl rfl ?_
    refine v_iload dX5_nextRow_104 rfl ?_
    refine v_iload dX5_nextRow_106 rfl ?_
    obtain ⟨r4, s4, h4, h⟩ := fm_bds h
    refine v_cVv [.int v5, .int v4] [] l_X5_84 (c_X5_swap hI h4) yX_98 (by decide) rfl rfl ⟨rfl, rfl, by decide, by decide⟩ (Nat.le_of_ble_eq_true rfl) dX5_nextRow_108 ?_
    refine v_iinc (lv' := [some (.ref (fm_ad w 98)), none, none, none, some (.int (v4 + (-1 : Int32))), some (.int v5)]) (-1 : Int32) dX5_nextRow_111 rfl (by decide) (by decide) rfl rfl ?_
    refine v_iinc (lv' := [some (.ref (fm_ad w 98)), none, none, none, some (.int (v4 + (-1 : Int32))), some (.int (v5 + (1 : Int32)))]) (1 : Int32) dX5_nextRow_114 rfl (by decide) (by decide) rfl rfl ?_
    refine v_goto 96 dX5_nextRow_117 (by decide) ?_
    refine v_lw [some (.ref (fm_ad w 98)), none, none, none, some (.int (v4 + (-1 : Int32))), some (.int (v5 + (1 : Int32)))] rfl ⟨rfl, rfl, rfl, trivial⟩ ?_
    exact kb _ _ _ (Option.some.inj h).symm
set_option maxHeartbeats 4000000 in
theorem i_X5_nextRow_96 {w : fm_W} {l : Launch} {o : fm_O} (hI : fm_I w 105) (n : Nat) (s : fm_M) (v4 : Int32) (v5 : Int32) (q : fm_M × Int32 × Int32) (h : fm_it (fun s => f_X5_nextRow_96 s.1 s.2.1 s.2.2) n (s, v4, v5) = some q) (ke : ∀ (s : fm_M) (u4 : Int32) (u5 : Int32), q = (s, u4, u5) → fm_V w layX 105 l rm_X5_nextRow cX5_nextRow 6 RX5 (some .boolean) o 120 [some (.ref (fm_ad w 98)), none, none, none, some (.int u4), some (.int u5)] [] s) : fm_V w layX 105 l rm_X5_nextRow cX5_nextRow 6 RX5 (some .boolean) o 96 [some (.ref (fm_ad w 98)), none, none, none, some (.int v4), some (.int v5)] [] s :=
  fm_it_loop (body := (fun s => f_X5_nextRow_96 s.1 s.2.1 s.2.2)) (P := fun s => fm_V w layX 105 l rm_X5_nextRow cX5_nextRow 6 RX5 (some .boolean) o 96 [some (.ref (fm_ad w 98)), none, none, none, some (.int s.2.1), some (.int s.2.2)] [] s.1) (K := (fun q : fm_M × Int32 × Int32 => (∀ (s : fm_M) (u4 : Int32) (u5 : Int32), q = (s, u4, u5) → fm_V w layX 105 l rm_X5_nextRow cX5_nextRow 6 RX5 (some .boolean) o 120 [some (.ref (fm_ad w 98)), none, none, none, some (.int u4), some (.int u5)] [] s))) (fun s z hb kl kx => t_X5_nextRow_96 hI s.1 s.2.1 s.2.2 z hb (fun s u4 u5 e => kl _ e) (fun s u4 u5 e => (kx _ e) s u4 u5 rfl)) n (s, v4, v5) q h ke
def f_X5_nextRow_80 (v1 : Int32) (v2 : Int32) (v3 : Int32) (s : fm_M) : Option (Int32 × fm_M) :=
  fm_bd (f_X5_swap v2 v3 s) (fun r3 s3 => fm_op (fm_it (fun (yy : fm_M × Int32 × Int32) => f_X5_nextRow_96 yy.1 yy.2.1 yy.2.2) fm_fu (s3, (v1 - (1 : Int32)), (v2 + (1 : Int32)))) (fun q5 => ((fun (s5 : fm_M) (x5_4 : Int32) (x5_5 : Int32) => some ((1 : Int32), s5))) q5.1 q5.2.1 q5.2.2))
set_option maxHeartbeats 4000000 in
theorem t_X5_nextRow_80 {w : fm_W} {l : Launch} {o : fm_O} (hI : fm_I w 105) (v1 : Int32) (v2 : Int32) (v3 : Int32) (s : fm_M) (z : Int32 × fm_M) (h : f_X5_nextRow_80 v1 v2 v3 s = some z) (ho : ∀ (r : Int32) (s : fm_M), z = (r, s) → o = (some (.int r), s)) : fm_V w layX 105 l rm_X5_nextRow cX5_nextRow 6 RX5 (some .boolean) o 80 [some (.ref (fm_ad w 98)), some (.int v1), some (.int v2), some (.int v3), none, none] [] s := by
  unfold f_X5_nextRow_80 at h
  refine v_aload_n 0 dX5_nextRow_80 rfl rfl ?_
  refine v_iload_n 2 dX5_nextRow_81 rfl rfl ?_
  refine v_iload_n 3 dX5_nextRow_82 rfl rfl ?_
  obtain ⟨r3, s3, h3, h⟩ := fm_bds h
  refine v_cVv [.int v2, .int v3] [] l_X5_84 (c_X5_swap hI h3) yX_98 (by decide) rfl rfl ⟨rfl, rfl, by decide, by decide⟩ (Nat.le_of_ble_eq_true rfl) dX5_nextRow_83 ?_
  refine v_iload_n 1 dX5_nextRow_86 rfl rfl ?_
  refine v_iconst (1 : Int32) dX5_nextRow_87 (by decide) ?_
  refine v_isub dX5_nextRow_88 ?_
  refine v_istore (lv' := [some (.ref (fm_ad w 98)), some (.int v1), some (.int v2), some (.int v3), some (.int (v1 - (1 : Int32))), none]) dX5_nextRow_89 (by decide) rfl rfl ?_
  refine v_iload_n 2 dX5_nextRow_91 rfl rfl ?_
  refine v_iconst (1 : Int32) dX5_nextRow_92 (by decide) ?_
  refine v_iadd dX5_nextRow_93 ?_
  refine v_istore (lv' := [some (.ref (fm_ad w 98)), some (.int v1), some (.int v2), some (.int v3), some (.int (v1 - (1 : Int32))), some (.int (v2 + (1 : Int32)))]) dX5_nextRow_94 (by decide) rfl rfl ?_
  obtain ⟨q5, h5, h⟩ := fm_ops h
  refine v_lw [some (.ref (fm_ad w 98)), none, none, none, some (.int (v1 - (1 : Int32))), some (.int (v2 + (1 : Int32)))] rfl ⟨rfl, rfl, rfl, trivial⟩ ?_
  refine i_X5_nextRow_96 hI _ _ _ _ _ h5 (fun s5 x5_4 x5_5 e => ?_)
  subst e
  dsimp only at h
  refine v_iconst (1 : Int32) dX5_nextRow_120 (by decide) ?_
  exact v_zret rfl (by decide) (ho _ _ (Option.some.inj h).symm) dX5_nextRow_121
def f_X5_nextRow_44 (v1 : Int32) (v2 : Int32) (s : fm_M) : Option (Int32 × fm_M) :=
  if 0 ≤ v2 then fm_op (fm_it (fun (yy : fm_M × Int32) => f_X5_nextRow_54 v1 v2 yy.1 yy.2) fm_fu (s, (v1 - (1 : Int32)))) (fun q2 => ((fun (s2 : fm_M) (x2_3 : Int32) => f_X5_nextRow_80 v1 v2 x2_3 s2)) q2.1 q2.2) else some ((0 : Int32), s)
set_option maxHeartbeats 4000000 in
theorem t_X5_nextRow_44 {w : fm_W} {l : Launch} {o : fm_O} (hI : fm_I w 105) (v1 : Int32) (v2 : Int32) (s : fm_M) (z : Int32 × fm_M) (h : f_X5_nextRow_44 v1 v2 s = some z) (ho : ∀ (r : Int32) (s : fm_M), z = (r, s) → o = (some (.int r), s)) : fm_V w layX 105 l rm_X5_nextRow cX5_nextRow 6 RX5 (some .boolean) o 44 [some (.ref (fm_ad w 98)), some (.int v1), some (.int v2), none, none, none] [] s := by
  unfold f_X5_nextRow_44 at h
  refine v_iload_n 2 dX5_nextRow_44 rfl rfl ?_
  refine v_if_ge 50 dX5_nextRow_45 (by decide) h (fun h => ?_) (fun h => ?_)
  · refine v_iload_n 1 dX5_nextRow_50 rfl rfl ?_
    refine v_iconst (1 : Int32) dX5_nextRow_51 (by decide) ?_
    refine v_isub dX5_nextRow_52 ?_
    refine v_istore_n (lv' := [some (.ref (fm_ad w 98)), some (.int v1), some (.int v2), some (.int (v1 - (1 : Int32))), none, none]) 3 dX5_nextRow_53 rfl (by decide) rfl rfl ?_
    obtain ⟨q2, h2, h⟩ := fm_ops h
    refine v_lw [some (.ref (fm_ad w 98)), some (.int v1), some (.int v2), some (.int (v1 - (1 : Int32))), none, none] rfl ⟨rfl, rfl, rfl, rfl, trivial⟩ ?_
    refine i_X5_nextRow_54 hI v1 v2 _ _ _ _ h2 (fun s2 x2_3 e => ?_)
    subst e
    dsimp only at h
    refine v_lw [some (.ref (fm_ad w 98)), some (.int v1), some (.int v2), some (.int x2_3), none, none] rfl ⟨rfl, rfl, rfl, rfl, trivial⟩ ?_
    exact t_X5_nextRow_80 hI v1 v2 x2_3 s2 _ h ho
  · refine v_iconst (0 : Int32) dX5_nextRow_48 (by decide) ?_
    exact v_zret rfl (by decide) (ho _ _ (Option.some.inj h).symm) dX5_nextRow_49
def f_X5_nextRow (s : fm_M) : Option (Int32 × fm_M) :=
  fm_op (fm_it (fun (yy : fm_M × Int32) => f_X5_nextRow_17 (if (6 : Int32) < (s 6 2) then (6 : Int32) else (s 6 2)) yy.1 yy.2) fm_fu (s, ((if (6 : Int32) < (s 6 2) then (6 : Int32) else (s 6 2)) - (2 : Int32)))) (fun q1 => ((fun (s1 : fm_M) (x1_2 : Int32) => f_X5_nextRow_44 (if (6 : Int32) < (s 6 2) then (6 : Int32) else (s 6 2)) x1_2 s1)) q1.1 q1.2)
set_option maxHeartbeats 4000000 in
theorem e_X5_nextRow {w : fm_W} {l : Launch} {o : fm_O} (hI : fm_I w 105) (s : fm_M) (z : Int32 × fm_M) (h : f_X5_nextRow s = some z) (ho : ∀ (r : Int32) (s : fm_M), z = (r, s) → o = (some (.int r), s)) : fm_V w layX 105 l rm_X5_nextRow cX5_nextRow 6 RX5 (some .boolean) o 0 [some (.ref (fm_ad w 98)), none, none, none, none, none] [] s := by
  unfold f_X5_nextRow at h
  refine v_aload_n 0 dX5_nextRow_0 rfl rfl ?_
  refine v_getr 6 g_X5_22 yX_98 (by decide) rfl dX5_nextRow_1 ?_
  refine v_geti g_X5_73 yX_6 (by decide) rfl dX5_nextRow_4 ?_
  refine v_bipush (6 : Int32) dX5_nextRow_7 (by decide) ?_
  refine v_mmin mm_X5_78 ⟨by decide, Nat.le_of_ble_eq_true rfl⟩ dX5_nextRow_9 ?_
  refine v_istore_n (lv' := [some (.ref (fm_ad w 98)), some (.int (if (6 : Int32) < (s 6 2) then (6 : Int32) else (s 6 2))), none, none, none, none]) 1 dX5_nextRow_12 rfl (by decide) rfl rfl ?_
  refine v_iload_n 1 dX5_nextRow_13 rfl rfl ?_
  refine v_iconst (2 : Int32) dX5_nextRow_14 (by decide) ?_
  refine v_isub dX5_nextRow_15 ?_
  refine v_istore_n (lv' := [some (.ref (fm_ad w 98)), some (.int (if (6 : Int32) < (s 6 2) then (6 : Int32) else (s 6 2))), some (.int ((if (6 : Int32) < (s 6 2) then (6 : Int32) else (s 6 2)) - (2 : Int32))), none, none, none]) 2 dX5_nextRow_16 rfl (by decide) rfl rfl ?_
  obtain ⟨q1, h1, h⟩ := fm_ops h
  refine v_lw [some (.ref (fm_ad w 98)), some (.int (if (6 : Int32) < (s 6 2) then (6 : Int32) else (s 6 2))), some (.int ((if (6 : Int32) < (s 6 2) then (6 : Int32) else (s 6 2)) - (2 : Int32))), none, none, none] rfl ⟨rfl, rfl, rfl, trivial⟩ ?_
  refine i_X5_nextRow_17 hI (if (6 : Int32) < (s 6 2) then (6 : Int32) else (s 6 2)) _ _ _ _ h1 (fun s1 x1_2 e => ?_)
  subst e
  dsimp only at h
  refine v_lw [some (.ref (fm_ad w 98)), some (.int (if (6 : Int32) < (s 6 2) then (6 : Int32) else (s 6 2))), some (.int x1_2), none, none, none] rfl ⟨rfl, rfl, rfl, trivial⟩ ?_
  exact t_X5_nextRow_44 hI (if (6 : Int32) < (s 6 2) then (6 : Int32) else (s 6 2)) x1_2 s1 _ h ho
theorem c_X5_nextRow {w : fm_W} {l : Launch} (hI : fm_I w 105) {s : fm_M} {r : Int32} {s2 : fm_M} (h : f_X5_nextRow s = some (r, s2)) : fm_C w layX 105 l yX5_nextRow cX5_nextRow 6 (some .boolean) rm_X5_nextRow [.ref (fm_ad w 98)] s (some (.int r), s2) :=
  fm_of hI (by decide) rfl (Nat.le_of_ble_eq_true rfl) (e_X5_nextRow hI s _ h (fun r s e => by cases e; rfl))
-- X5_tryAllRows
abbrev rm_X5_tryAllRows : Room := { frames := 5, cells := 0, slots := 0, locals := 113 }
def f_X5_tryAllRows_147 (ga : Nat) (v3 : Int32) (s : fm_M) : Option ((fm_M × Int32 × Int32) ⊕ (fm_M × Int32 × Int32)) :=
  fm_bd (f_X5_nextRow s) (fun r4 s4 => some (.inl (s4, r4, (v3 + (1 : Int32)))))
set_option maxHeartbeats 4000000 in
theorem t_X5_tryAllRows_147 {w : fm_W} {l : Launch} {o : fm_O} (hI : fm_I w 105) {ga : Nat} (hga : isH ga) (v3 : Int32) (s : fm_M) (z : (fm_M × Int32 × Int32) ⊕ (fm_M × Int32 × Int32)) (h : f_X5_tryAllRows_147 ga v3 s = some z) (kb : ∀ (s : fm_M) (u2 : Int32) (u3 : Int32), z = .inl (s, u2, u3) → fm_V w layX 105 l rm_X5_tryAllRows cX5_tryAllRows 4 RX5 none o 50 [some (.ref (fm_ad w 98)), some (.ref (fm_ad w ga)), some (.int u2), some (.int u3)] [] s) (ke : ∀ (s : fm_M) (u2 : Int32) (u3 : Int32), z = .inr (s, u2, u3) → fm_V w layX 105 l rm_X5_tryAllRows cX5_tryAllRows 4 RX5 none o 158 [some (.ref (fm_ad w 98)), some (.ref (fm_ad w ga)), some (.int u2), some (.int u3)] [] s) : fm_V w layX 105 l rm_X5_tryAllRows cX5_tryAllRows 4 RX5 none o 147 [some (.ref (fm_ad w 98)), some (.ref (fm_ad w ga)), none, some (.int v3)] [] s := by
  unfold f_X5_tryAllRows_147 at h
  refine v_aload_n 0 dX5_tryAllRows_147 rfl rfl ?_
  obtain ⟨r4, s4, h4, h⟩ := fm_bds h
  refine v_cVi [] [] l_X5_70 (c_X5_nextRow hI h4) yX_98 (by decide) rfl rfl ⟨rfl, rfl, by decide, by decide⟩ (Nat.le_of_ble_eq_true rfl) dX5_tryAllRows_148 ?_
  refine v_istore_n (lv' := [some (.ref (fm_ad w 98)), some (.ref (fm_ad w ga)), some (.int r4), some (.int v3)]) 2 dX5_tryAllRows_151 rfl (by decide) rfl rfl ?_
  refine v_iinc (lv' := [some (.ref (fm_ad w 98)), some (.ref (fm_ad w ga)), some (.int r4), some (.int (v3 + (1 : Int32)))]) (1 : Int32) dX5_tryAllRows_152 rfl (by decide) (by decide) rfl rfl ?_
  refine v_goto 50 dX5_tryAllRows_155 (by decide) ?_
  refine v_lw [some (.ref (fm_ad w 98)), some (.ref (fm_ad w ga)), some (.int r4), some (.int (v3 + (1 : Int32)))] rfl ⟨rfl, rfl, rfl, rfl, trivial⟩ ?_
  exact kb _ _ _ (Option.some.inj h).symm
def f_X5_tryAllRows_100 (ga : Nat) (v3 : Int32) (sk0 : Int32) (s : fm_M) : Option ((fm_M × Int32 × Int32) ⊕ (fm_M × Int32 × Int32)) :=
  fm_bd (f_X1_goOn 99 sk0 s) (fun r2 s2 => fm_bd (f_X5_isBetter s2) (fun r3 s3 => if r3 = 0 then f_X5_tryAllRows_147 ga v3 s3 else f_X5_tryAllRows_147 ga v3 (fm_cp (fm_up (fm_up s3 98 4 (s3 90 2)) 98 5 ((fm_up s3 98 4 (s3 90 2)) 90 3)) 99 0 100 0 6)))
set_option maxHeartbeats 4000000 in
theorem t_X5_tryAllRows_100 {w : fm_W} {l : Launch} {o : fm_O} (hI : fm_I w 105) {ga : Nat} (hga : isH ga) (v3 : Int32) (sk0 : Int32) (s : fm_M) (z : (fm_M × Int32 × Int32) ⊕ (fm_M × Int32 × Int32)) (h : f_X5_tryAllRows_100 ga v3 sk0 s = some z) (kb : ∀ (s : fm_M) (u2 : Int32) (u3 : Int32), z = .inl (s, u2, u3) → fm_V w layX 105 l rm_X5_tryAllRows cX5_tryAllRows 4 RX5 none o 50 [some (.ref (fm_ad w 98)), some (.ref (fm_ad w ga)), some (.int u2), some (.int u3)] [] s) (ke : ∀ (s : fm_M) (u2 : Int32) (u3 : Int32), z = .inr (s, u2, u3) → fm_V w layX 105 l rm_X5_tryAllRows cX5_tryAllRows 4 RX5 none o 158 [some (.ref (fm_ad w 98)), some (.ref (fm_ad w ga)), some (.int u2), some (.int u3)] [] s) : fm_V w layX 105 l rm_X5_tryAllRows cX5_tryAllRows 4 RX5 none o 100 [some (.ref (fm_ad w 98)), some (.ref (fm_ad w ga)), none, some (.int v3)] [.int sk0, .ref (fm_ad w 99), .ref (fm_ad w 90)] s := by
  unfold f_X5_tryAllRows_100 at h
  obtain ⟨r2, s2, h2, h⟩ := fm_bds h
  refine v_cVv [.ref (fm_ad w 99), .int sk0] [] l_X5_60 (c_X1_goOn hI (Or.inl ⟨(by decide), yX_99⟩) h2) yX_90 (by decide) rfl rfl ⟨rfl, rfl, by decide, by decide⟩ (Nat.le_of_ble_eq_true rfl) dX5_tryAllRows_100 ?_
  refine v_aload_n 0 dX5_tryAllRows_103 rfl rfl ?_
  obtain ⟨r3, s3, h3, h⟩ := fm_bds h
  refine v_cVi [] [] l_X5_64 (c_X5_isBetter hI h3) yX_98 (by decide) rfl rfl ⟨rfl, rfl, by decide, by decide⟩ (Nat.le_of_ble_eq_true rfl) dX5_tryAllRows_104 ?_
  refine v_if_eq 147 dX5_tryAllRows_107 (by decide) h (fun h => ?_) (fun h => ?_)
  · refine v_lw [some (.ref (fm_ad w 98)), some (.ref (fm_ad w ga)), none, some (.int v3)] rfl ⟨rfl, rfl, rfl, trivial⟩ ?_
    exact t_X5_tryAllRows_147 hI hga v3 s3 _ h kb ke
  · refine v_aload_n 0 dX5_tryAllRows_110 rfl rfl ?_
    refine v_aload_n 0 dX5_tryAllRows_111 rfl rfl ?_
    refine v_getr 90 g_X5_26 yX_98 (by decide) rfl dX5_tryAllRows_112 ?_
    refine v_geti g_X5_68 yX_90 (by decide) rfl dX5_tryAllRows_115 ?_
    refine v_put p_X5_35 yX_98 (by decide) rfl ⟨rfl, rfl⟩ dX5_tryAllRows_118 ?_
    refine v_aload_n 0 dX5_tryAllRows_121 rfl rfl ?_
    refine v_aload_n 0 dX5_tryAllRows_122 rfl rfl ?_
    refine v_getr 90 g_X5_26 yX_98 (by decide) rfl dX5_tryAllRows_123 ?_
    refine v_geti g_X5_69 yX_90 (by decide) rfl dX5_tryAllRows_126 ?_
    refine v_put p_X5_38 yX_98 (by decide) rfl ⟨rfl, rfl⟩ dX5_tryAllRows_129 ?_
    refine v_aload_n 0 dX5_tryAllRows_132 rfl rfl ?_
    refine v_getr 99 g_X5_9 yX_98 (by decide) rfl dX5_tryAllRows_133 ?_
    refine v_iconst (0 : Int32) dX5_tryAllRows_136 (by decide) ?_
    refine v_aload_n 0 dX5_tryAllRows_137 rfl rfl ?_
    refine v_getr 100 g_X5_15 yX_98 (by decide) rfl dX5_tryAllRows_138 ?_
    refine v_iconst (0 : Int32) dX5_tryAllRows_141 (by decide) ?_
    refine v_bipush (6 : Int32) dX5_tryAllRows_142 (by decide) ?_
    refine v_copy 0 0 6 cp_X5_44 (by decide) (by decide) yX_99 yX_100 (by decide) (by decide) (by decide) (by decide) (by decide) (by decide) ⟨by decide, Nat.le_of_ble_eq_true rfl⟩ dX5_tryAllRows_144 ?_
    refine v_lw [some (.ref (fm_ad w 98)), some (.ref (fm_ad w ga)), none, some (.int v3)] rfl ⟨rfl, rfl, rfl, trivial⟩ ?_
    exact t_X5_tryAllRows_147 hI hga v3 (fm_cp (fm_up (fm_up s3 98 4 (s3 90 2)) 98 5 ((fm_up s3 98 4 (s3 90 2)) 90 3)) 99 0 100 0 6) _ h kb ke
def f_X5_tryAllRows_50 (ga : Nat) (s : fm_M) (v2 : Int32) (v3 : Int32) : Option ((fm_M × Int32 × Int32) ⊕ (fm_M × Int32 × Int32)) :=
  if (720 : Int32) ≤ v3 then some (.inr (s, v2, v3)) else if v2 = 0 then some (.inr (s, v2, v3)) else fm_bd (f_X1_startFrom ga s) (fun r1 s1 => if (s1 98 4) = (-4 : Int32) then fm_bd (f_X1_minutesTillLunch s1) (fun r5 s5 => f_X5_tryAllRows_100 ga v3 r5 s5) else f_X5_tryAllRows_100 ga v3 (s1 98 4) s1)
set_option maxHeartbeats 4000000 in
theorem t_X5_tryAllRows_50 {w : fm_W} {l : Launch} {o : fm_O} (hI : fm_I w 105) {ga : Nat} (hga : isH ga) (s : fm_M) (v2 : Int32) (v3 : Int32) (z : (fm_M × Int32 × Int32) ⊕ (fm_M × Int32 × Int32)) (h : f_X5_tryAllRows_50 ga s v2 v3 = some z) (kb : ∀ (s : fm_M) (u2 : Int32) (u3 : Int32), z = .inl (s, u2, u3) → fm_V w layX 105 l rm_X5_tryAllRows cX5_tryAllRows 4 RX5 none o 50 [some (.ref (fm_ad w 98)), some (.ref (fm_ad w ga)), some (.int u2), some (.int u3)] [] s) (ke : ∀ (s : fm_M) (u2 : Int32) (u3 : Int32), z = .inr (s, u2, u3) → fm_V w layX 105 l rm_X5_tryAllRows cX5_tryAllRows 4 RX5 none o 158 [some (.ref (fm_ad w 98)), some (.ref (fm_ad w ga)), some (.int u2), some (.int u3)] [] s) : fm_V w layX 105 l rm_X5_tryAllRows cX5_tryAllRows 4 RX5 none o 50 [some (.ref (fm_ad w 98)), some (.ref (fm_ad w ga)), some (.int v2), some (.int v3)] [] s := by
  unfold f_X5_tryAllRows_50 at h
  refine v_iload_n 3 dX5_tryAllRows_50 rfl rfl ?_
  refine v_sipush (720 : Int32) dX5_tryAllRows_51 (by decide) ?_
  refine v_icmp_ge 158 dX5_tryAllRows_54 (by decide) h (fun h => ?_) (fun h => ?_)
  · refine v_lw [some (.ref (fm_ad w 98)), some (.ref (fm_ad w ga)), some (.int v2), some (.int v3)] rfl ⟨rfl, rfl, rfl, rfl, trivial⟩ ?_
    exact ke _ _ _ (Option.some.inj h).symm
  · refine v_iload_n 2 dX5_tryAllRows_57 rfl rfl ?_
    refine v_if_eq 158 dX5_tryAllRows_58 (by decide) h (fun h => ?_) (fun h => ?_)
    · refine v_lw [some (.ref (fm_ad w 98)), some (.ref (fm_ad w ga)), some (.int v2), some (.int v3)] rfl ⟨rfl, rfl, rfl, rfl, trivial⟩ ?_
      exact ke _ _ _ (Option.some.inj h).symm
    · refine v_aload_n 0 dX5_tryAllRows_61 rfl rfl ?_
      refine v_getr 90 g_X5_26 yX_98 (by decide) rfl dX5_tryAllRows_62 ?_
      refine v_aload_n 1 dX5_tryAllRows_65 rfl rfl ?_
      obtain ⟨r1, s1, h1, h⟩ := fm_bds h
      refine v_cVv [.ref (fm_ad w ga)] [] l_X5_50 (c_X1_startFrom hI hga h1) yX_90 (by decide) rfl rfl ⟨rfl, rfl, by decide, by decide⟩ (Nat.le_of_ble_eq_true rfl) dX5_tryAllRows_66 ?_
      refine v_aload_n 0 dX5_tryAllRows_69 rfl rfl ?_
      refine v_getr 90 g_X5_26 yX_98 (by decide) rfl dX5_tryAllRows_70 ?_
      refine v_aload_n 0 dX5_tryAllRows_73 rfl rfl ?_
      refine v_getr 99 g_X5_9 yX_98 (by decide) rfl dX5_tryAllRows_74 ?_
      refine v_aload_n 0 dX5_tryAllRows_77 rfl rfl ?_
      refine v_geti g_X5_35 yX_98 (by decide) rfl dX5_tryAllRows_78 ?_
      refine v_bipush (-4 : Int32) dX5_tryAllRows_81 (by decide) ?_
      refine v_icmp_ne 96 dX5_tryAllRows_83 (by decide) h (fun h => ?_) (fun h => ?_)
      · refine v_aload_n 0 dX5_tryAllRows_96 rfl rfl ?_
        refine v_geti g_X5_35 yX_98 (by decide) rfl dX5_tryAllRows_97 ?_
        refine v_lw [some (.ref (fm_ad w 98)), some (.ref (fm_ad w ga)), none, some (.int v3)] rfl ⟨rfl, rfl, rfl, trivial⟩ ?_
        exact t_X5_tryAllRows_100 hI hga v3 (s1 98 4) s1 _ h kb ke
      · refine v_aload_n 0 dX5_tryAllRows_86 rfl rfl ?_
        refine v_getr 90 g_X5_26 yX_98 (by decide) rfl dX5_tryAllRows_87 ?_
        obtain ⟨r5, s5, h5, h⟩ := fm_bds h
        refine v_cVi [] [.ref (fm_ad w 99), .ref (fm_ad w 90)] l_X5_56 (c_X1_minutesTillLunch hI h5) yX_90 (by decide) rfl rfl ⟨rfl, rfl, by decide, by decide⟩ (Nat.le_of_ble_eq_true rfl) dX5_tryAllRows_90 ?_
        refine v_goto 100 dX5_tryAllRows_93 (by decide) ?_
        refine v_lw [some (.ref (fm_ad w 98)), some (.ref (fm_ad w ga)), none, some (.int v3)] rfl ⟨rfl, rfl, rfl, trivial⟩ ?_
        exact t_X5_tryAllRows_100 hI hga v3 r5 s5 _ h kb ke
set_option maxHeartbeats 4000000 in
theorem i_X5_tryAllRows_50 {w : fm_W} {l : Launch} {o : fm_O} (hI : fm_I w 105) {ga : Nat} (hga : isH ga) (n : Nat) (s : fm_M) (v2 : Int32) (v3 : Int32) (q : fm_M × Int32 × Int32) (h : fm_it (fun s => f_X5_tryAllRows_50 ga s.1 s.2.1 s.2.2) n (s, v2, v3) = some q) (ke : ∀ (s : fm_M) (u2 : Int32) (u3 : Int32), q = (s, u2, u3) → fm_V w layX 105 l rm_X5_tryAllRows cX5_tryAllRows 4 RX5 none o 158 [some (.ref (fm_ad w 98)), some (.ref (fm_ad w ga)), some (.int u2), some (.int u3)] [] s) : fm_V w layX 105 l rm_X5_tryAllRows cX5_tryAllRows 4 RX5 none o 50 [some (.ref (fm_ad w 98)), some (.ref (fm_ad w ga)), some (.int v2), some (.int v3)] [] s :=
  fm_it_loop (body := (fun s => f_X5_tryAllRows_50 ga s.1 s.2.1 s.2.2)) (P := fun s => fm_V w layX 105 l rm_X5_tryAllRows cX5_tryAllRows 4 RX5 none o 50 [some (.ref (fm_ad w 98)), some (.ref (fm_ad w ga)), some (.int s.2.1), some (.int s.2.2)] [] s.1) (K := (fun q : fm_M × Int32 × Int32 => (∀ (s : fm_M) (u2 : Int32) (u3 : Int32), q = (s, u2, u3) → fm_V w layX 105 l rm_X5_tryAllRows cX5_tryAllRows 4 RX5 none o 158 [some (.ref (fm_ad w 98)), some (.ref (fm_ad w ga)), some (.int u2), some (.int u3)] [] s))) (fun s z hb kl kx => t_X5_tryAllRows_50 hI hga s.1 s.2.1 s.2.2 z hb (fun s u2 u3 e => kl _ e) (fun s u2 u3 e => (kx _ e) s u2 u3 rfl)) n (s, v2, v3) q h ke
def f_X5_tryAllRows_158 (ga : Nat) (s : fm_M) : Option (Int32 × fm_M) :=
  some (0, s)
set_option maxHeartbeats 4000000 in
theorem t_X5_tryAllRows_158 {w : fm_W} {l : Launch} {o : fm_O} (hI : fm_I w 105) {ga : Nat} (hga : isH ga) (s : fm_M) (z : Int32 × fm_M) (h : f_X5_tryAllRows_158 ga s = some z) (ho : ∀ (r : Int32) (s : fm_M), z = (r, s) → o = (none, s)) : fm_V w layX 105 l rm_X5_tryAllRows cX5_tryAllRows 4 RX5 none o 158 [none, none, none, none] [] s := by
  unfold f_X5_tryAllRows_158 at h
  exact v_vret rfl (ho _ _ (Option.some.inj h).symm) dX5_tryAllRows_158
def f_X5_tryAllRows (ga : Nat) (s : fm_M) : Option (Int32 × fm_M) :=
  if (s ga 10) = (s 98 6) then some (0, s) else fm_op (fm_it (fun (yy : fm_M × Int32 × Int32) => f_X5_tryAllRows_50 ga yy.1 yy.2.1 yy.2.2) fm_fu ((fm_cp (fm_up (fm_up (fm_up s 98 6 (s ga 10)) 98 4 (-4 : Int32)) 98 5 (-4 : Int32)) 1000 0 99 0 6), (1 : Int32), (0 : Int32))) (fun q6 => ((fun (s6 : fm_M) (x6_2 : Int32) (x6_3 : Int32) => f_X5_tryAllRows_158 ga s6)) q6.1 q6.2.1 q6.2.2)
set_option maxHeartbeats 4000000 in
theorem e_X5_tryAllRows {w : fm_W} {l : Launch} {o : fm_O} (hI : fm_I w 105) {ga : Nat} (hga : isH ga) (s : fm_M) (z : Int32 × fm_M) (h : f_X5_tryAllRows ga s = some z) (ho : ∀ (r : Int32) (s : fm_M), z = (r, s) → o = (none, s)) : fm_V w layX 105 l rm_X5_tryAllRows cX5_tryAllRows 4 RX5 none o 0 [some (.ref (fm_ad w 98)), some (.ref (fm_ad w ga)), none, none] [] s := by
  unfold f_X5_tryAllRows at h
  refine v_aload_n 1 dX5_tryAllRows_0 rfl rfl ?_
  refine v_geti g_X5_30 hga.1 (isH.lt (j := 0) hga (by decide)) rfl dX5_tryAllRows_1 ?_
  refine v_aload_n 0 dX5_tryAllRows_4 rfl rfl ?_
  refine v_geti g_X5_18 yX_98 (by decide) rfl dX5_tryAllRows_5 ?_
  refine v_icmp_ne 12 dX5_tryAllRows_8 (by decide) h (fun h => ?_) (fun h => ?_)
  · refine v_aload_n 0 dX5_tryAllRows_12 rfl rfl ?_
    refine v_aload_n 1 dX5_tryAllRows_13 rfl rfl ?_
    refine v_geti g_X5_30 hga.1 (isH.lt (j := 0) hga (by decide)) rfl dX5_tryAllRows_14 ?_
    refine v_put p_X5_18 yX_98 (by decide) rfl ⟨rfl, rfl⟩ dX5_tryAllRows_17 ?_
    refine v_aload_n 0 dX5_tryAllRows_20 rfl rfl ?_
    refine v_bipush (-4 : Int32) dX5_tryAllRows_21 (by decide) ?_
    refine v_put p_X5_35 yX_98 (by decide) rfl ⟨rfl, rfl⟩ dX5_tryAllRows_23 ?_
    refine v_aload_n 0 dX5_tryAllRows_26 rfl rfl ?_
    refine v_bipush (-4 : Int32) dX5_tryAllRows_27 (by decide) ?_
    refine v_put p_X5_38 yX_98 (by decide) rfl ⟨rfl, rfl⟩ dX5_tryAllRows_29 ?_
    refine v_getsN gs_X5_41 dX5_tryAllRows_32 ?_
    refine v_iconst (0 : Int32) dX5_tryAllRows_35 (by decide) ?_
    refine v_aload_n 0 dX5_tryAllRows_36 rfl rfl ?_
    refine v_getr 99 g_X5_9 yX_98 (by decide) rfl dX5_tryAllRows_37 ?_
    refine v_iconst (0 : Int32) dX5_tryAllRows_40 (by decide) ?_
    refine v_bipush (6 : Int32) dX5_tryAllRows_41 (by decide) ?_
    refine v_copyT cp_X5_44 (by decide) yX_99 (by decide) (by decide) (by decide) (by decide) (by decide) ⟨by decide, Nat.le_of_ble_eq_true rfl⟩ dX5_tryAllRows_43 ?_
    refine v_iconst (1 : Int32) dX5_tryAllRows_46 (by decide) ?_
    refine v_istore_n (lv' := [some (.ref (fm_ad w 98)), some (.ref (fm_ad w ga)), some (.int (1 : Int32)), none]) 2 dX5_tryAllRows_47 rfl (by decide) rfl rfl ?_
    refine v_iconst (0 : Int32) dX5_tryAllRows_48 (by decide) ?_
    refine v_istore_n (lv' := [some (.ref (fm_ad w 98)), some (.ref (fm_ad w ga)), some (.int (1 : Int32)), some (.int (0 : Int32))]) 3 dX5_tryAllRows_49 rfl (by decide) rfl rfl ?_
    obtain ⟨q6, h6, h⟩ := fm_ops h
    refine v_lw [some (.ref (fm_ad w 98)), some (.ref (fm_ad w ga)), some (.int (1 : Int32)), some (.int (0 : Int32))] rfl ⟨rfl, rfl, rfl, rfl, trivial⟩ ?_
    refine i_X5_tryAllRows_50 hI hga _ _ _ _ _ h6 (fun s6 x6_2 x6_3 e => ?_)
    subst e
    dsimp only at h
    refine v_lw [none, none, none, none] rfl trivial ?_
    exact t_X5_tryAllRows_158 hI hga s6 _ h ho
  · exact v_vret rfl (ho _ _ (Option.some.inj h).symm) dX5_tryAllRows_11
theorem c_X5_tryAllRows {w : fm_W} {l : Launch} (hI : fm_I w 105) {ga : Nat} (hga : isH ga) {s : fm_M} {r : Int32} {s2 : fm_M} (h : f_X5_tryAllRows ga s = some (r, s2)) : fm_C w layX 105 l yX5_tryAllRows cX5_tryAllRows 4 none rm_X5_tryAllRows [.ref (fm_ad w 98), .ref (fm_ad w ga)] s (none, s2) :=
  fm_of hI (by decide) rfl (Nat.le_of_ble_eq_true rfl) (e_X5_tryAllRows hI hga s _ h (fun r s e => by cases e; rfl))
-- X5_tryEachLast
abbrev rm_X5_tryEachLast : Room := { frames := 5, cells := 0, slots := 0, locals := 113 }
def f_X5_tryEachLast_74 (ga : Nat) (v2 : Int32) (v3 : Int32) (s : fm_M) : Option ((fm_M × Int32 × Int32) ⊕ (fm_M × Int32 × Int32)) :=
  some (.inl (s, v2, (v3 + (1 : Int32))))
set_option maxHeartbeats 4000000 in
theorem t_X5_tryEachLast_74 {w : fm_W} {l : Launch} {o : fm_O} (hI : fm_I w 105) {ga : Nat} (hga : isH ga) (v2 : Int32) (v3 : Int32) (s : fm_M) (z : (fm_M × Int32 × Int32) ⊕ (fm_M × Int32 × Int32)) (h : f_X5_tryEachLast_74 ga v2 v3 s = some z) (kb : ∀ (s : fm_M) (u2 : Int32) (u3 : Int32), z = .inl (s, u2, u3) → fm_V w layX 105 l rm_X5_tryEachLast cX5_tryEachLast 4 RX5 (some .int) o 4 [some (.ref (fm_ad w 98)), some (.ref (fm_ad w ga)), some (.int u2), some (.int u3)] [] s) (ke : ∀ (s : fm_M) (u2 : Int32) (u3 : Int32), z = .inr (s, u2, u3) → fm_V w layX 105 l rm_X5_tryEachLast cX5_tryEachLast 4 RX5 (some .int) o 80 [some (.ref (fm_ad w 98)), some (.ref (fm_ad w ga)), some (.int u2), some (.int u3)] [] s) : fm_V w layX 105 l rm_X5_tryEachLast cX5_tryEachLast 4 RX5 (some .int) o 74 [some (.ref (fm_ad w 98)), some (.ref (fm_ad w ga)), some (.int v2), some (.int v3)] [] s := by
  unfold f_X5_tryEachLast_74 at h
  refine v_iinc (lv' := [some (.ref (fm_ad w 98)), some (.ref (fm_ad w ga)), some (.int v2), some (.int (v3 + (1 : Int32)))]) (1 : Int32) dX5_tryEachLast_74 rfl (by decide) (by decide) rfl rfl ?_
  refine v_goto 4 dX5_tryEachLast_77 (by decide) ?_
  refine v_lw [some (.ref (fm_ad w 98)), some (.ref (fm_ad w ga)), some (.int v2), some (.int (v3 + (1 : Int32)))] rfl ⟨rfl, rfl, rfl, rfl, trivial⟩ ?_
  exact kb _ _ _ (Option.some.inj h).symm
def f_X5_tryEachLast_4 (ga : Nat) (s : fm_M) (v2 : Int32) (v3 : Int32) : Option ((fm_M × Int32 × Int32) ⊕ (fm_M × Int32 × Int32)) :=
  if (s 6 2) ≤ v3 then some (.inr (s, v2, v3)) else fm_bd (f_X5_makeRowWithLast v3 s) (fun r1 s1 => fm_bd (f_X1_startFrom ga s1) (fun r2 s2 => fm_bd (f_X1_minutesTillLunch s2) (fun r3 s3 => fm_bd (f_X1_goOn 99 r3 s3) (fun r4 s4 => if (s4 90 2) = (-4 : Int32) then f_X5_tryEachLast_74 ga v2 v3 s4 else if (s4 90 3) = 0 then f_X5_tryEachLast_74 ga (v2 ||| ((1 : Int32) <<< (v3 &&& 31))) v3 s4 else f_X5_tryEachLast_74 ga v2 v3 s4))))
set_option maxHeartbeats 4000000 in
theorem t_X5_tryEachLast_4 {w : fm_W} {l : Launch} {o : fm_O} (hI : fm_I w 105) {ga : Nat} (hga : isH ga) (s : fm_M) (v2 : Int32) (v3 : Int32) (z : (fm_M × Int32 × Int32) ⊕ (fm_M × Int32 × Int32)) (h : f_X5_tryEachLast_4 ga s v2 v3 = some z) (kb : ∀ (s : fm_M) (u2 : Int32) (u3 : Int32), z = .inl (s, u2, u3) → fm_V w layX 105 l rm_X5_tryEachLast cX5_tryEachLast 4 RX5 (some .int) o 4 [some (.ref (fm_ad w 98)), some (.ref (fm_ad w ga)), some (.int u2), some (.int u3)] [] s) (ke : ∀ (s : fm_M) (u2 : Int32) (u3 : Int32), z = .inr (s, u2, u3) → fm_V w layX 105 l rm_X5_tryEachLast cX5_tryEachLast 4 RX5 (some .int) o 80 [some (.ref (fm_ad w 98)), some (.ref (fm_ad w ga)), some (.int u2), some (.int u3)] [] s) : fm_V w layX 105 l rm_X5_tryEachLast cX5_tryEachLast 4 RX5 (some .int) o 4 [some (.ref (fm_ad w 98)), some (.ref (fm_ad w ga)), some (.int v2), some (.int v3)] [] s := by
  unfold f_X5_tryEachLast_4 at h
  refine v_iload_n 3 dX5_tryEachLast_4 rfl rfl ?_
  refine v_aload_n 0 dX5_tryEachLast_5 rfl rfl ?_
  refine v_getr 6 g_X5_22 yX_98 (by decide) rfl dX5_tryEachLast_6 ?_
  refine v_geti g_X5_73 yX_6 (by decide) rfl dX5_tryEachLast_9 ?_
  refine v_icmp_ge 80 dX5_tryEachLast_12 (by decide) h (fun h => ?_) (fun h => ?_)
  · refine v_lw [some (.ref (fm_ad w 98)), some (.ref (fm_ad w ga)), some (.int v2), some (.int v3)] rfl ⟨rfl, rfl, rfl, rfl, trivial⟩ ?_
    exact ke _ _ _ (Option.some.inj h).symm
  · refine v_aload_n 0 dX5_tryEachLast_15 rfl rfl ?_
    refine v_iload_n 3 dX5_tryEachLast_16 rfl rfl ?_
    obtain ⟨r1, s1, h1, h⟩ := fm_bds h
    refine v_cVv [.int v3] [] l_X5_91 (c_X5_makeRowWithLast hI h1) yX_98 (by decide) rfl rfl ⟨rfl, rfl, by decide, by decide⟩ (Nat.le_of_ble_eq_true rfl) dX5_tryEachLast_17 ?_
    refine v_aload_n 0 dX5_tryEachLast_20 rfl rfl ?_
    refine v_getr 90 g_X5_26 yX_98 (by decide) rfl dX5_tryEachLast_21 ?_
    refine v_aload_n 1 dX5_tryEachLast_24 rfl rfl ?_
    obtain ⟨r2, s2, h2, h⟩ := fm_bds h
    refine v_cVv [.ref (fm_ad w ga)] [] l_X5_50 (c_X1_startFrom hI hga h2) yX_90 (by decide) rfl rfl ⟨rfl, rfl, by decide, by decide⟩ (Nat.le_of_ble_eq_true rfl) dX5_tryEachLast_25 ?_
    refine v_aload_n 0 dX5_tryEachLast_28 rfl rfl ?_
    refine v_getr 90 g_X5_26 yX_98 (by decide) rfl dX5_tryEachLast_29 ?_
    refine v_aload_n 0 dX5_tryEachLast_32 rfl rfl ?_
    refine v_getr 99 g_X5_9 yX_98 (by decide) rfl dX5_tryEachLast_33 ?_
    refine v_aload_n 0 dX5_tryEachLast_36 rfl rfl ?_
    refine v_getr 90 g_X5_26 yX_98 (by decide) rfl dX5_tryEachLast_37 ?_
    obtain ⟨r3, s3, h3, h⟩ := fm_bds h
    refine v_cVi [] [.ref (fm_ad w 99), .ref (fm_ad w 90)] l_X5_56 (c_X1_minutesTillLunch hI h3) yX_90 (by decide) rfl rfl ⟨rfl, rfl, by decide, by decide⟩ (Nat.le_of_ble_eq_true rfl) dX5_tryEachLast_40 ?_
    obtain ⟨r4, s4, h4, h⟩ := fm_bds h
    refine v_cVv [.ref (fm_ad w 99), .int r3] [] l_X5_60 (c_X1_goOn hI (Or.inl ⟨(by decide), yX_99⟩) h4) yX_90 (by decide) rfl rfl ⟨rfl, rfl, by decide, by decide⟩ (Nat.le_of_ble_eq_true rfl) dX5_tryEachLast_43 ?_
    refine v_aload_n 0 dX5_tryEachLast_46 rfl rfl ?_
    refine v_getr 90 g_X5_26 yX_98 (by decide) rfl dX5_tryEachLast_47 ?_
    refine v_geti g_X5_68 yX_90 (by decide) rfl dX5_tryEachLast_50 ?_
    refine v_bipush (-4 : Int32) dX5_tryEachLast_53 (by decide) ?_
    refine v_icmp_eq 74 dX5_tryEachLast_55 (by decide) h (fun h => ?_) (fun h => ?_)
    · refine v_lw [some (.ref (fm_ad w 98)), some (.ref (fm_ad w ga)), some (.int v2), some (.int v3)] rfl ⟨rfl, rfl, rfl, rfl, trivial⟩ ?_
      exact t_X5_tryEachLast_74 hI hga v2 v3 s4 _ h kb ke
    · refine v_aload_n 0 dX5_tryEachLast_58 rfl rfl ?_
      refine v_getr 90 g_X5_26 yX_98 (by decide) rfl dX5_tryEachLast_59 ?_
      refine v_geti g_X5_69 yX_90 (by decide) rfl dX5_tryEachLast_62 ?_
      refine v_if_ne 74 dX5_tryEachLast_65 (by decide) h (fun h => ?_) (fun h => ?_)
      · refine v_lw [some (.ref (fm_ad w 98)), some (.ref (fm_ad w ga)), some (.int v2), some (.int v3)] rfl ⟨rfl, rfl, rfl, rfl, trivial⟩ ?_
        exact t_X5_tryEachLast_74 hI hga v2 v3 s4 _ h kb ke
      · refine v_iload_n 2 dX5_tryEachLast_68 rfl rfl ?_
        refine v_iconst (1 : Int32) dX5_tryEachLast_69 (by decide) ?_
        refine v_iload_n 3 dX5_tryEachLast_70 rfl rfl ?_
        refine v_ishl dX5_tryEachLast_71 ?_
        refine v_ior dX5_tryEachLast_72 ?_
        refine v_istore_n (lv' := [some (.ref (fm_ad w 98)), some (.ref (fm_ad w ga)), some (.int (v2 ||| ((1 : Int32) <<< (v3 &&& 31)))), some (.int v3)]) 2 dX5_tryEachLast_73 rfl (by decide) rfl rfl ?_
        refine v_lw [some (.ref (fm_ad w 98)), some (.ref (fm_ad w ga)), some (.int (v2 ||| ((1 : Int32) <<< (v3 &&& 31)))), some (.int v3)] rfl ⟨rfl, rfl, rfl, rfl, trivial⟩ ?_
        exact t_X5_tryEachLast_74 hI hga (v2 ||| ((1 : Int32) <<< (v3 &&& 31))) v3 s4 _ h kb ke
set_option maxHeartbeats 4000000 in
theorem i_X5_tryEachLast_4 {w : fm_W} {l : Launch} {o : fm_O} (hI : fm_I w 105) {ga : Nat} (hga : isH ga) (n : Nat) (s : fm_M) (v2 : Int32) (v3 : Int32) (q : fm_M × Int32 × Int32) (h : fm_it (fun s => f_X5_tryEachLast_4 ga s.1 s.2.1 s.2.2) n (s, v2, v3) = some q) (ke : ∀ (s : fm_M) (u2 : Int32) (u3 : Int32), q = (s, u2, u3) → fm_V w layX 105 l rm_X5_tryEachLast cX5_tryEachLast 4 RX5 (some .int) o 80 [some (.ref (fm_ad w 98)), some (.ref (fm_ad w ga)), some (.int u2), some (.int u3)] [] s) : fm_V w layX 105 l rm_X5_tryEachLast cX5_tryEachLast 4 RX5 (some .int) o 4 [some (.ref (fm_ad w 98)), some (.ref (fm_ad w ga)), some (.int v2), some (.int v3)] [] s :=
  fm_it_loop (body := (fun s => f_X5_tryEachLast_4 ga s.1 s.2.1 s.2.2)) (P := fun s => fm_V w layX 105 l rm_X5_tryEachLast cX5_tryEachLast 4 RX5 (some .int) o 4 [some (.ref (fm_ad w 98)), some (.ref (fm_ad w ga)), some (.int s.2.1), some (.int s.2.2)] [] s.1) (K := (fun q : fm_M × Int32 × Int32 => (∀ (s : fm_M) (u2 : Int32) (u3 : Int32), q = (s, u2, u3) → fm_V w layX 105 l rm_X5_tryEachLast cX5_tryEachLast 4 RX5 (some .int) o 80 [some (.ref (fm_ad w 98)), some (.ref (fm_ad w ga)), some (.int u2), some (.int u3)] [] s))) (fun s z hb kl kx => t_X5_tryEachLast_4 hI hga s.1 s.2.1 s.2.2 z hb (fun s u2 u3 e => kl _ e) (fun s u2 u3 e => (kx _ e) s u2 u3 rfl)) n (s, v2, v3) q h ke
def f_X5_tryEachLast (ga : Nat) (s : fm_M) : Option (Int32 × fm_M) :=
  fm_op (fm_it (fun (yy : fm_M × Int32 × Int32) => f_X5_tryEachLast_4 ga yy.1 yy.2.1 yy.2.2) fm_fu (s, (0 : Int32), (0 : Int32))) (fun q5 => ((fun (s5 : fm_M) (x5_2 : Int32) (x5_3 : Int32) => some (x5_2, s5))) q5.1 q5.2.1 q5.2.2)
set_option maxHeartbeats 4000000 in
theorem e_X5_tryEachLast {w : fm_W} {l : Launch} {o : fm_O} (hI : fm_I w 105) {ga : Nat} (hga : isH ga) (s : fm_M) (z : Int32 × fm_M) (h : f_X5_tryEachLast ga s = some z) (ho : ∀ (r : Int32) (s : fm_M), z = (r, s) → o = (some (.int r), s)) : fm_V w layX 105 l rm_X5_tryEachLast cX5_tryEachLast 4 RX5 (some .int) o 0 [some (.ref (fm_ad w 98)), some (.ref (fm_ad w ga)), none, none] [] s := by
  unfold f_X5_tryEachLast at h
  refine v_iconst (0 : Int32) dX5_tryEachLast_0 (by decide) ?_
  refine v_istore_n (lv' := [some (.ref (fm_ad w 98)), some (.ref (fm_ad w ga)), some (.int (0 : Int32)), none]) 2 dX5_tryEachLast_1 rfl (by decide) rfl rfl ?_
  refine v_iconst (0 : Int32) dX5_tryEachLast_2 (by decide) ?_
  refine v_istore_n (lv' := [some (.ref (fm_ad w 98)), some (.ref (fm_ad w ga)), some (.int (0 : Int32)), some (.int (0 : Int32))]) 3 dX5_tryEachLast_3 rfl (by decide) rfl rfl ?_
  obtain ⟨q5, h5, h⟩ := fm_ops h
  refine v_lw [some (.ref (fm_ad w 98)), some (.ref (fm_ad w ga)), some (.int (0 : Int32)), some (.int (0 : Int32))] rfl ⟨rfl, rfl, rfl, rfl, trivial⟩ ?_
  refine i_X5_tryEachLast_4 hI hga _ _ _ _ _ h5 (fun s5 x5_2 x5_3 e => ?_)
  subst e
  dsimp only at h
  refine v_iload_n 2 dX5_tryEachLast_80 rfl rfl ?_
  exact v_iret rfl (ho _ _ (Option.some.inj h).symm) dX5_tryEachLast_81
theorem c_X5_tryEachLast {w : fm_W} {l : Launch} (hI : fm_I w 105) {ga : Nat} (hga : isH ga) {s : fm_M} {r : Int32} {s2 : fm_M} (h : f_X5_tryEachLast ga s = some (r, s2)) : fm_C w layX 105 l yX5_tryEachLast cX5_tryEachLast 4 (some .int) rm_X5_tryEachLast [.ref (fm_ad w 98), .ref (fm_ad w ga)] s (some (.int r), s2) :=
  fm_of hI (by decide) rfl (Nat.le_of_ble_eq_true rfl) (e_X5_tryEachLast hI hga s _ h (fun r s e => by cases e; rfl))
