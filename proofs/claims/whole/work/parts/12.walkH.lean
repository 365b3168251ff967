-- X2_countChildren
abbrev rm_X2_countChildren : Room := { frames := 0, cells := 0, slots := 0, locals := 0 }
def f_X2_countChildren_34 (aa : Nat) (v1 : Int32) (v2 : Int32) (v3 : Int32) (s : fm_M) : Option ((fm_M × Int32 × Int32) ⊕ (fm_M × Int32 × Int32)) :=
  some (.inl (s, v2, (v3 + (1 : Int32))))
set_option maxHeartbeats 4000000 in
theorem t_X2_countChildren_34 {w : fm_W} {l : Launch} {o : fm_O} (hI : fm_I w 105) {aa : Nat} (haa : isH aa) (v1 : Int32) (v2 : Int32) (v3 : Int32) (s : fm_M) (z : (fm_M × Int32 × Int32) ⊕ (fm_M × Int32 × Int32)) (h : f_X2_countChildren_34 aa v1 v2 v3 s = some z) (kb : ∀ (s : fm_M) (u2 : Int32) (u3 : Int32), z = .inl (s, u2, u3) → fm_V w layX 105 l rm_X2_countChildren cX2_countChildren 4 RX2 (some .int) o 4 [some (.ref (fm_ad w aa)), some (.int v1), some (.int u2), some (.int u3)] [] s) (ke : ∀ (s : fm_M) (u2 : Int32) (u3 : Int32), z = .inr (s, u2, u3) → fm_V w layX 105 l rm_X2_countChildren cX2_countChildren 4 RX2 (some .int) o 40 [some (.ref (fm_ad w aa)), some (.int v1), some (.int u2), some (.int u3)] [] s) : fm_V w layX 105 l rm_X2_countChildren cX2_countChildren 4 RX2 (some .int) o 34 [some (.ref (fm_ad w aa)), some (.int v1), some (.int v2), some (.int v3)] [] s := by
  unfold f_X2_countChildren_34 at h
  refine v_iinc (lv' := [some (.ref (fm_ad w aa)), some (.int v1), some (.int v2), some (.int (v3 + (1 : Int32)))]) (1 : Int32) dX2_countChildren_34 rfl (by decide) (by decide) rfl rfl ?_
  refine v_goto 4 dX2_countChildren_37 (by decide) ?_
  refine v_lw [some (.ref (fm_ad w aa)), some (.int v1), some (.int v2), some (.int (v3 + (1 : Int32)))] rfl ⟨rfl, rfl, rfl, rfl, trivial⟩ ?_
  exact kb _ _ _ (Option.some.inj h).symm
def f_X2_countChildren_4 (aa : Nat) (v1 : Int32) (s : fm_M) (v2 : Int32) (v3 : Int32) : Option ((fm_M × Int32 × Int32) ⊕ (fm_M × Int32 × Int32)) :=
  if (s 6 2) ≤ v3 then some (.inr (s, v2, v3)) else if (6 : Int32) ≤ v3 then some (.inr (s, v2, v3)) else if fm_in v3 6 = true then if (s (aa + 1) v3.toNatClampNeg) = v1 then f_X2_countChildren_34 aa v1 (v2 + (1 : Int32)) v3 s else f_X2_countChildren_34 aa v1 v2 v3 s else none
set_option maxHeartbeats 4000000 in
theorem t_X2_countChildren_4 {w : fm_W} {l : Launch} {o : fm_O} (hI : fm_I w 105) {aa : Nat} (haa : isH aa) (v1 : Int32) (s : fm_M) (v2 : Int32) (v3 : Int32) (z : (fm_M × Int32 × Int32) ⊕ (fm_M × Int32 × Int32)) (h : f_X2_countChildren_4 aa v1 s v2 v3 = some z) (kb : ∀ (s : fm_M) (u2 : Int32) (u3 : Int32), z = .inl (s, u2, u3) → fm_V w layX 105 l rm_X2_countChildren cX2_countChildren 4 RX2 (some .int) o 4 [some (.ref (fm_ad w aa)), some (.int v1), some (.int u2), some (.int u3)] [] s) (ke : ∀ (s : fm_M) (u2 : Int32) (u3 : Int32), z = .inr (s, u2, u3) → fm_V w layX 105 l rm_X2_countChildren cX2_countChildren 4 RX2 (some .int) o 40 [some (.ref (fm_ad w aa)), some (.int v1), some (.int u2), some (.int u3)] [] s) : fm_V w layX 105 l rm_X2_countChildren cX2_countChildren 4 RX2 (some .int) o 4 [some (.ref (fm_ad w aa)), some (.int v1), some (.int v2), some (.int v3)] [] s := by
  unfold f_X2_countChildren_4 at h
  refine v_iload_n 3 dX2_countChildren_4 rfl rfl ?_
  refine v_aload_n 0 dX2_countChildren_5 rfl rfl ?_
  refine v_getr 6 g_X2_30 haa.1 (isH.lt (j := 0) haa (by decide)) rfl dX2_countChildren_6 ?_
  refine v_geti g_X2_54 yX_6 (by decide) rfl dX2_countChildren_9 ?_
  refine v_icmp_ge 40 dX2_countChildren_12 (by decide) h (fun h => ?_) (fun h => ?_)
  · refine v_lw [some (.ref (fm_ad w aa)), some (.int v1), some (.int v2), some (.int v3)] rfl ⟨rfl, rfl, rfl, rfl, trivial⟩ ?_
    exact ke _ _ _ (Option.some.inj h).symm
  · refine v_iload_n 3 dX2_countChildren_15 rfl rfl ?_
    refine v_bipush (6 : Int32) dX2_countChildren_16 (by decide) ?_
    refine v_icmp_ge 40 dX2_countChildren_18 (by decide) h (fun h => ?_) (fun h => ?_)
    · refine v_lw [some (.ref (fm_ad w aa)), some (.int v1), some (.int v2), some (.int v3)] rfl ⟨rfl, rfl, rfl, rfl, trivial⟩ ?_
      exact ke _ _ _ (Option.some.inj h).symm
    · refine v_aload_n 0 dX2_countChildren_21 rfl rfl ?_
      refine v_getr (aa + 1) g_X2_9 haa.1 (isH.lt (j := 0) haa (by decide)) rfl dX2_countChildren_22 ?_
      refine v_iload_n 3 dX2_countChildren_25 rfl rfl ?_
      obtain ⟨hi, h⟩ := fm_ift h
      refine v_iald (Or.inl ⟨(isH.lt (j := 1) haa (by decide)), (isH.a1 haa)⟩) hi dX2_countChildren_26 ?_
      refine v_iload_n 1 dX2_countChildren_27 rfl rfl ?_
      refine v_icmp_ne 34 dX2_countChildren_28 (by decide) h (fun h => ?_) (fun h => ?_)
      · refine v_lw [some (.ref (fm_ad w aa)), some (.int v1), some (.int v2), some (.int v3)] rfl ⟨rfl, rfl, rfl, rfl, trivial⟩ ?_
        exact t_X2_countChildren_34 hI haa v1 v2 v3 s _ h kb ke
      · refine v_iinc (lv' := [some (.ref (fm_ad w aa)), some (.int v1), some (.int (v2 + (1 : Int32))), some (.int v3)]) (1 : Int32) dX2_countChildren_31 rfl (by decide) (by decide) rfl rfl ?_
        refine v_lw [some (.ref (fm_ad w aa)), some (.int v1), some (.int (v2 + (1 : Int32))), some (.int v3)] rfl ⟨rfl, rfl, rfl, rfl, trivial⟩ ?_
        exact t_X2_countChildren_34 hI haa v1 (v2 + (1 : Int32)) v3 s _ h kb ke
set_option maxHeartbeats 4000000 in
theorem i_X2_countChildren_4 {w : fm_W} {l : Launch} {o : fm_O} (hI : fm_I w 105) {aa : Nat} (haa : isH aa) (v1 : Int32) (n : Nat) (s : fm_M) (v2 : Int32) (v3 : Int32) (q : fm_M × Int32 × Int32) (h : fm_it (fun s => f_X2_countChildren_4 aa v1 s.1 s.2.1 s.2.2) n (s, v2, v3) = some q) (ke : ∀ (s : fm_M) (u2 : Int32) (u3 : Int32), q = (s, u2, u3) → fm_V w layX 105 l rm_X2_countChildren cX2_countChildren 4 RX2 (some .int) o 40 [some (.ref (fm_ad w aa)), some (.int v1), some (.int u2), some (.int u3)] [] s) : fm_V w layX 105 l rm_X2_countChildren cX2_countChildren 4 RX2 (some .int) o 4 [some (.ref (fm_ad w aa)), some (.int v1), some (.int v2), some (.int v3)] [] s :=
  fm_it_loop (body := (fun s => f_X2_countChildren_4 aa v1 s.1 s.2.1 s.2.2)) (P := fun s => fm_V w layX 105 l rm_X2_countChildren cX2_countChildren 4 RX2 (some .int) o 4 [some (.ref (fm_ad w aa)), some (.int v1), some (.int s.2.1), some (.int s.2.2)] [] s.1) (K := (fun q : fm_M × Int32 × Int32 => (∀ (s : fm_M) (u2 : Int32) (u3 : Int32), q = (s, u2, u3) → fm_V w layX 105 l rm_X2_countChildren cX2_countChildren 4 RX2 (some .int) o 40 [some (.ref (fm_ad w aa)), some (.int v1), some (.int u2), some (.int u3)] [] s))) (fun s z hb kl kx => t_X2_countChildren_4 hI haa v1 s.1 s.2.1 s.2.2 z hb (fun s u2 u3 e => kl _ e) (fun s u2 u3 e => (kx _ e) s u2 u3 rfl)) n (s, v2, v3) q h ke
def f_X2_countChildren_40 (aa : Nat) (v2 : Int32) (s : fm_M) : Option (Int32 × fm_M) :=
  some (v2, s)
set_option maxHeartbeats 4000000 in
theorem t_X2_countChildren_40 {w : fm_W} {l : Launch} {o : fm_O} (hI : fm_I w 105) {aa : Nat} (haa : isH aa) (v2 : Int32) (s : fm_M) (z : Int32 × fm_M) (h : f_X2_countChildren_40 aa v2 s = some z) (ho : ∀ (r : Int32) (s : fm_M), z = (r, s) → o = (some (.int r), s)) : fm_V w layX 105 l rm_X2_countChildren cX2_countChildren 4 RX2 (some .int) o 40 [none, none, some (.int v2), none] [] s := by
  unfold f_X2_countChildren_40 at h
  refine v_iload_n 2 dX2_countChildren_40 rfl rfl ?_
  exact v_iret rfl (ho _ _ (Option.some.inj h).symm) dX2_countChildren_41
def f_X2_countChildren (aa : Nat) (v1 : Int32) (s : fm_M) : Option (Int32 × fm_M) :=
  fm_op (fm_it (fun (yy : fm_M × Int32 × Int32) => f_X2_countChildren_4 aa v1 yy.1 yy.2.1 yy.2.2) fm_fu (s, (0 : Int32), (0 : Int32))) (fun q1 => ((fun (s1 : fm_M) (x1_2 : Int32) (x1_3 : Int32) => f_X2_countChildren_40 aa x1_2 s1)) q1.1 q1.2.1 q1.2.2)
set_option maxHeartbeats 4000000 in
theorem e_X2_countChildren {w : fm_W} {l : Launch} {o : fm_O} (hI : fm_I w 105) {aa : Nat} (haa : isH aa) (v1 : Int32) (s : fm_M) (z : Int32 × fm_M) (h : f_X2_countChildren aa v1 s = some z) (ho : ∀ (r : Int32) (s : fm_M), z = (r, s) → o = (some (.int r), s)) : fm_V w layX 105 l rm_X2_countChildren cX2_countChildren 4 RX2 (some .int) o 0 [some (.ref (fm_ad w aa)), some (.int v1), none, none] [] s := by
  unfold f_X2_countChildren at h
  refine v_iconst (0 : Int32) dX2_countChildren_0 (by decide) ?_
  refine v_istore_n (lv' := [some (.ref (fm_ad w aa)), some (.int v1), some (.int (0 : Int32)), none]) 2 dX2_countChildren_1 rfl (by decide) rfl rfl ?_
  refine v_iconst (0 : Int32) dX2_countChildren_2 (by decide) ?_
  refine v_istore_n (lv' := [some (.ref (fm_ad w aa)), some (.int v1), some (.int (0 : Int32)), some (.int (0 : Int32))]) 3 dX2_countChildren_3 rfl (by decide) rfl rfl ?_
  obtain ⟨q1, h1, h⟩ := fm_ops h
  refine v_lw [some (.ref (fm_ad w aa)), some (.int v1), some (.int (0 : Int32)), some (.int (0 : Int32))] rfl ⟨rfl, rfl, rfl, rfl, trivial⟩ ?_
  refine i_X2_countChildren_4 hI haa v1 _ _ _ _ _ h1 (fun s1 x1_2 x1_3 e => ?_)
  subst e
  dsimp only at h
  refine v_lw [none, none, some (.int x1_2), none] rfl ⟨rfl, trivial⟩ ?_
  exact t_X2_countChildren_40 hI haa x1_2 s1 _ h ho
theorem c_X2_countChildren {w : fm_W} {l : Launch} (hI : fm_I w 105) {aa : Nat} (haa : isH aa) {v1 : Int32} {s : fm_M} {r : Int32} {s2 : fm_M} (h : f_X2_countChildren aa v1 s = some (r, s2)) : fm_C w layX 105 l yX2_countChildren cX2_countChildren 4 (some .int) rm_X2_countChildren [.ref (fm_ad w aa), .int v1] s (some (.int r), s2) :=
  fm_of hI (by decide) rfl (Nat.le_of_ble_eq_true rfl) (e_X2_countChildren hI haa v1 s _ h (fun r s e => by cases e; rfl))
-- X2_countWomen
abbrev rm_X2_countWomen : Room := { frames := 0, cells := 0, slots := 0, locals := 0 }
def f_X2_countWomen_30 (aa : Nat) (v1 : Int32) (v2 : Int32) (v3 : Int32) (s : fm_M) : Option ((fm_M × Int32 × Int32) ⊕ (fm_M × Int32 × Int32)) :=
  some (.inl (s, v2, (v3 + (1 : Int32))))
set_option maxHeartbeats 4000000 in
theorem t_X2_countWomen_30 {w : fm_W} {l : Launch} {o : fm_O} (hI : fm_I w 105) {aa : Nat} (haa : isH aa) (v1 : Int32) (v2 : Int32) (v3 : Int32) (s : fm_M) (z : (fm_M × Int32 × Int32) ⊕ (fm_M × Int32 × Int32)) (h : f_X2_countWomen_30 aa v1 v2 v3 s = some z) (kb : ∀ (s : fm_M) (u2 : Int32) (u3 : Int32), z = .inl (s, u2, u3) → fm_V w layX 105 l rm_X2_countWomen cX2_countWomen 4 RX2 (some .int) o 4 [some (.ref (fm_ad w aa)), some (.int v1), some (.int u2), some (.int u3)] [] s) (ke : ∀ (s : fm_M) (u2 : Int32) (u3 : Int32), z = .inr (s, u2, u3) → fm_V w layX 105 l rm_X2_countWomen cX2_countWomen 4 RX2 (some .int) o 36 [some (.ref (fm_ad w aa)), some (.int v1), some (.int u2), some (.int u3)] [] s) : fm_V w layX 105 l rm_X2_countWomen cX2_countWomen 4 RX2 (some .int) o 30 [some (.ref (fm_ad w aa)), some (.int v1), some (.int v2), some (.int v3)] [] s := by
  unfold f_X2_countWomen_30 at h
  refine v_iinc (lv' := [some (.ref (fm_ad w aa)), some (.int v1), some (.int v2), some (.int (v3 + (1 : Int32)))]) (1 : Int32) dX2_countWomen_30 rfl (by decide) (by decide) rfl rfl ?_
  refine v_goto 4 dX2_countWomen_33 (by decide) ?_
  refine v_lw [some (.ref (fm_ad w aa)), some (.int v1), some (.int v2), some (.int (v3 + (1 : Int32)))] rfl ⟨rfl, rfl, rfl, rfl, trivial⟩ ?_
  exact kb _ _ _ (Option.some.inj h).symm
def f_X2_countWomen_4 (aa : Nat) (v1 : Int32) (s : fm_M) (v2 : Int32) (v3 : Int32) : Option ((fm_M × Int32 × Int32) ⊕ (fm_M × Int32 × Int32)) :=
  if (s aa 7) ≤ v3 then some (.inr (s, v2, v3)) else if (3 : Int32) ≤ v3 then some (.inr (s, v2, v3)) else if fm_in v3 3 = true then if (s (aa + 4) v3.toNatClampNeg) = v1 then f_X2_countWomen_30 aa v1 (v2 + (1 : Int32)) v3 s else f_X2_countWomen_30 aa v1 v2 v3 s else none
set_option maxHeartbeats 4000000 in
theorem t_X2_countWomen_4 {w : fm_W} {l : Launch} {o : fm_O} (hI : fm_I w 105) {aa : Nat} (haa : isH aa) (v1 : Int32) (s : fm_M) (v2 : Int32) (v3 : Int32) (z : (fm_M × Int32 × Int32) ⊕ (fm_M × Int32 × Int32)) (h : f_X2_countWomen_4 aa v1 s v2 v3 = some z) (kb : ∀ (s : fm_M) (u2 : Int32) (u3 : Int32), z = .inl (s, u2, u3) → fm_V w layX 105 l rm_X2_countWomen cX2_countWomen 4 RX2 (some .int) o 4 [some (.ref (fm_ad w aa)), some (.int v1), some (.int u2), some (.int u3)] [] s) (ke : ∀ (s : fm_M) (u2 : Int32) (u3 : Int32), z = .inr (s, u2, u3) → fm_V w layX 105 l rm_X2_countWomen cX2_countWomen 4 RX2 (some .int) o 36 [some (.ref (fm_ad w aa)), some (.int v1), some (.int u2), some (.int u3)] [] s) : fm_V w layX 105 l rm_X2_countWomen cX2_countWomen 4 RX2 (some .int) o 4 [some (.ref (fm_ad w aa)), some (.int v1), some (.int v2), some (.int v3)] [] s := by
  unfold f_X2_countWomen_4 at h
  refine v_iload_n 3 dX2_countWomen_4 rfl rfl ?_
  refine v_aload_n 0 dX2_countWomen_5 rfl rfl ?_
  refine v_geti g_X2_34 haa.1 (isH.lt (j := 0) haa (by decide)) rfl dX2_countWomen_6 ?_
  refine v_icmp_ge 36 dX2_countWomen_9 (by decide) h (fun h => ?_) (fun h => ?_)
  · refine v_lw [some (.ref (fm_ad w aa)), some (.int v1), some (.int v2), some (.int v3)] rfl ⟨rfl, rfl, rfl, rfl, trivial⟩ ?_
    exact ke _ _ _ (Option.some.inj h).symm
  · refine v_iload_n 3 dX2_countWomen_12 rfl rfl ?_
    refine v_iconst (3 : Int32) dX2_countWomen_13 (by decide) ?_
    refine v_icmp_ge 36 dX2_countWomen_14 (by decide) h (fun h => ?_) (fun h => ?_)
    · refine v_lw [some (.ref (fm_ad w aa)), some (.int v1), some (.int v2), some (.int v3)] rfl ⟨rfl, rfl, rfl, rfl, trivial⟩ ?_
      exact ke _ _ _ (Option.some.inj h).symm
    · refine v_aload_n 0 dX2_countWomen_17 rfl rfl ?_
      refine v_getr (aa + 4) g_X2_21 haa.1 (isH.lt (j := 0) haa (by decide)) rfl dX2_countWomen_18 ?_
      refine v_iload_n 3 dX2_countWomen_21 rfl rfl ?_
      obtain ⟨hi, h⟩ := fm_ift h
      refine v_iald (Or.inl ⟨(isH.lt (j := 4) haa (by decide)), (isH.a4 haa)⟩) hi dX2_countWomen_22 ?_
      refine v_iload_n 1 dX2_countWomen_23 rfl rfl ?_
      refine v_icmp_ne 30 dX2_countWomen_24 (by decide) h (fun h => ?_) (fun h => ?_)
      · refine v_lw [some (.ref (fm_ad w aa)), some (.int v1), some (.int v2), some (.int v3)] rfl ⟨rfl, rfl, rfl, rfl, trivial⟩ ?_
        exact t_X2_countWomen_30 hI haa v1 v2 v3 s _ h kb ke
      · refine v_iinc (lv' := [some (.ref (fm_ad w aa)), some (.int v1), some (.int (v2 + (1 : Int32))), some (.int v3)]) (1 : Int32) dX2_countWomen_27 rfl (by decide) (by decide) rfl rfl ?_
        refine v_lw [some (.ref (fm_ad w aa)), some (.int v1), some (.int (v2 + (1 : Int32))), some (.int v3)] rfl ⟨rfl, rfl, rfl, rfl, trivial⟩ ?_
        exact t_X2_countWomen_30 hI haa v1 (v2 + (1 : Int32)) v3 s _ h kb ke
set_option maxHeartbeats 4000000 in
theorem i_X2_countWomen_4 {w : fm_W} {l : Launch} {o : fm_O} (hI : fm_I w 105) {aa : Nat} (haa : isH aa) (v1 : Int32) (n : Nat) (s : fm_M) (v2 : Int32) (v3 : Int32) (q : fm_M × Int32 × Int32) (h : fm_it (fun s => f_X2_countWomen_4 aa v1 s.1 s.2.1 s.2.2) n (s, v2, v3) = some q) (ke : ∀ (s : fm_M) (u2 : Int32) (u3 : Int32), q = (s, u2, u3) → fm_V w layX 105 l rm_X2_countWomen cX2_countWomen 4 RX2 (some .int) o 36 [some (.ref (fm_ad w aa)), some (.int v1), some (.int u2), some (.int u3)] [] s) : fm_V w layX 105 l rm_X2_countWomen cX2_countWomen 4 RX2 (some .int) o 4 [some (.ref (fm_ad w aa)), some (.int v1), some (.int v2), some (.int v3)] [] s :=
  fm_it_loop (body := (fun s => f_X2_countWomen_4 aa v1 s.1 s.2.1 s.2.2)) (P := fun s => fm_V w layX 105 l rm_X2_countWomen cX2_countWomen 4 RX2 (some .int) o 4 [some (.ref (fm_ad w aa)), some (.int v1), some (.int s.2.1), some (.int s.2.2)] [] s.1) (K := (fun q : fm_M × Int32 × Int32 => (∀ (s : fm_M) (u2 : Int32) (u3 : Int32), q = (s, u2, u3) → fm_V w layX 105 l rm_X2_countWomen cX2_countWomen 4 RX2 (some .int) o 36 [some (.ref (fm_ad w aa)), some (.int v1), some (.int u2), some (.int u3)] [] s))) (fun s z hb kl kx => t_X2_countWomen_4 hI haa v1 s.1 s.2.1 s.2.2 z hb (fun s u2 u3 e => kl _ e) (fun s u2 u3 e => (kx _ e) s u2 u3 rfl)) n (s, v2, v3) q h ke
def f_X2_countWomen_36 (aa : Nat) (v2 : Int32) (s : fm_M) : Option (Int32 × fm_M) :=
  some (v2, s)
set_option maxHeartbeats 4000000 in
theorem t_X2_countWomen_36 {w : fm_W} {l : Launch} {o : fm_O} (hI : fm_I w 105) {aa : Nat} (haa : isH aa) (v2 : Int32) (s : fm_M) (z : Int32 × fm_M) (h : f_X2_countWomen_36 aa v2 s = some z) (ho : ∀ (r : Int32) (s : fm_M), z = (r, s) → o = (some (.int r), s)) : fm_V w layX 105 l rm_X2_countWomen cX2_countWomen 4 RX2 (some .int) o 36 [none, none, some (.int v2), none] [] s := by
  unfold f_X2_countWomen_36 at h
  refine v_iload_n 2 dX2_countWomen_36 rfl rfl ?_
  exact v_iret rfl (ho _ _ (Option.some.inj h).symm) dX2_countWomen_37
def f_X2_countWomen (aa : Nat) (v1 : Int32) (s : fm_M) : Option (Int32 × fm_M) :=
  fm_op (fm_it (fun (yy : fm_M × Int32 × Int32) => f_X2_countWomen_4 aa v1 yy.1 yy.2.1 yy.2.2) fm_fu (s, (0 : Int32), (0 : Int32))) (fun q1 => ((fun (s1 : fm_M) (x1_2 : Int32) (x1_3 : Int32) => f_X2_countWomen_36 aa x1_2 s1)) q1.1 q1.2.1 q1.2.2)
set_option maxHeartbeats 4000000 in
theorem e_X2_countWomen {w : fm_W} {l : Launch} {o : fm_O} (hI : fm_I w 105) {aa : Nat} (haa : isH aa) (v1 : Int32) (s : fm_M) (z : Int32 × fm_M) (h : f_X2_countWomen aa v1 s = some z) (ho : ∀ (r : Int32) (s : fm_M), z = (r, s) → o = (some (.int r), s)) : fm_V w layX 105 l rm_X2_countWomen cX2_countWomen 4 RX2 (some .int) o 0 [some (.ref (fm_ad w aa)), some (.int v1), none, none] [] s := by
  unfold f_X2_countWomen at h
  refine v_iconst (0 : Int32) dX2_countWomen_0 (by decide) ?_
  refine v_istore_n (lv' := [some (.ref (fm_ad w aa)), some (.int v1), some (.int (0 : Int32)), none]) 2 dX2_countWomen_1 rfl (by decide) rfl rfl ?_
  refine v_iconst (0 : Int32) dX2_countWomen_2 (by decide) ?_
  refine v_istore_n (lv' := [some (.ref (fm_ad w aa)), some (.int v1), some (.int (0 : Int32)), some (.int (0 : Int32))]) 3 dX2_countWomen_3 rfl (by decide) rfl rfl ?_
  obtain ⟨q1, h1, h⟩ := fm_ops h
  refine v_lw [some (.ref (fm_ad w aa)), some (.int v1), some (.int (0 : Int32)), some (.int (0 : Int32))] rfl ⟨rfl, rfl, rfl, rfl, trivial⟩ ?_
  refine i_X2_countWomen_4 hI haa v1 _ _ _ _ _ h1 (fun s1 x1_2 x1_3 e => ?_)
  subst e
  dsimp only at h
  refine v_lw [none, none, some (.int x1_2), none] rfl ⟨rfl, trivial⟩ ?_
  exact t_X2_countWomen_36 hI haa x1_2 s1 _ h ho
theorem c_X2_countWomen {w : fm_W} {l : Launch} (hI : fm_I w 105) {aa : Nat} (haa : isH aa) {v1 : Int32} {s : fm_M} {r : Int32} {s2 : fm_M} (h : f_X2_countWomen aa v1 s = some (r, s2)) : fm_C w layX 105 l yX2_countWomen cX2_countWomen 4 (some .int) rm_X2_countWomen [.ref (fm_ad w aa), .int v1] s (some (.int r), s2) :=
  fm_of hI (by decide) rfl (Nat.le_of_ble_eq_true rfl) (e_X2_countWomen hI haa v1 s _ h (fun r s e => by cases e; rfl))
-- X2_oneWomanLeft
abbrev rm_X2_oneWomanLeft : Room := { frames := 1, cells := 0, slots := 0, locals := 23 }
def f_X2_oneWomanLeft_19 (aa : Nat) (sk0 : Int32) (s : fm_M) : Option (Int32 × fm_M) :=
  if fm_b sk0 = true then some (sk0, s) else none
set_option maxHeartbeats 4000000 in
theorem t_X2_oneWomanLeft_19 {w : fm_W} {l : Launch} {o : fm_O} (hI : fm_I w 105) {aa : Nat} (haa : isH aa) (sk0 : Int32) (s : fm_M) (z : Int32 × fm_M) (h : f_X2_oneWomanLeft_19 aa sk0 s = some z) (ho : ∀ (r : Int32) (s : fm_M), z = (r, s) → o = (some (.int r), s)) : fm_V w layX 105 l rm_X2_oneWomanLeft cX2_oneWomanLeft 1 RX2 (some .boolean) o 19 [none] [.int sk0] s := by
  unfold f_X2_oneWomanLeft_19 at h
  obtain ⟨hb, h⟩ := fm_ift h
  exact v_zret rfl (fm_b_nar hb).1 (ho _ _ (Option.some.inj h).symm) dX2_oneWomanLeft_19
def f_X2_oneWomanLeft (aa : Nat) (s : fm_M) : Option (Int32 × fm_M) :=
  fm_bd (f_X2_countWomen aa (3 : Int32) s) (fun r1 s1 => if r1 = ((s1 aa 7) - (1 : Int32)) then f_X2_oneWomanLeft_19 aa (1 : Int32) s1 else f_X2_oneWomanLeft_19 aa (0 : Int32) s1)
set_option maxHeartbeats 4000000 in
theorem e_X2_oneWomanLeft {w : fm_W} {l : Launch} {o : fm_O} (hI : fm_I w 105) {aa : Nat} (haa : isH aa) (s : fm_M) (z : Int32 × fm_M) (h : f_X2_oneWomanLeft aa s = some z) (ho : ∀ (r : Int32) (s : fm_M), z = (r, s) → o = (some (.int r), s)) : fm_V w layX 105 l rm_X2_oneWomanLeft cX2_oneWomanLeft 1 RX2 (some .boolean) o 0 [some (.ref (fm_ad w aa))] [] s := by
  unfold f_X2_oneWomanLeft at h
  refine v_aload_n 0 dX2_oneWomanLeft_0 rfl rfl ?_
  refine v_iconst (3 : Int32) dX2_oneWomanLeft_1 (by decide) ?_
  obtain ⟨r1, s1, h1, h⟩ := fm_bds h
  refine v_cVi [.int (3 : Int32)] [] l_X2_63 (c_X2_countWomen hI haa h1) haa.1 (isH.lt (j := 0) haa (by decide)) rfl rfl ⟨rfl, rfl, by decide, by decide⟩ (Nat.le_of_ble_eq_true rfl) dX2_oneWomanLeft_2 ?_
  refine v_aload_n 0 dX2_oneWomanLeft_5 rfl rfl ?_
  refine v_geti g_X2_34 haa.1 (isH.lt (j := 0) haa (by decide)) rfl dX2_oneWomanLeft_6 ?_
  refine v_iconst (1 : Int32) dX2_oneWomanLeft_9 (by decide) ?_
  refine v_isub dX2_oneWomanLeft_10 ?_
  refine v_icmp_ne 18 dX2_oneWomanLeft_11 (by decide) h (fun h => ?_) (fun h => ?_)
  · refine v_iconst (0 : Int32) dX2_oneWomanLeft_18 (by decide) ?_
    refine v_lw [none] rfl trivial ?_
    exact t_X2_oneWomanLeft_19 hI haa (0 : Int32) s1 _ h ho
  · refine v_iconst (1 : Int32) dX2_oneWomanLeft_14 (by decide) ?_
    refine v_goto 19 dX2_oneWomanLeft_15 (by decide) ?_
    refine v_lw [none] rfl trivial ?_
    exact t_X2_oneWomanLeft_19 hI haa (1 : Int32) s1 _ h ho
theorem c_X2_oneWomanLeft {w : fm_W} {l : Launch} (hI : fm_I w 105) {aa : Nat} (haa : isH aa) {s : fm_M} {r : Int32} {s2 : fm_M} (h : f_X2_oneWomanLeft aa s = some (r, s2)) : fm_C w layX 105 l yX2_oneWomanLeft cX2_oneWomanLeft 1 (some .boolean) rm_X2_oneWomanLeft [.ref (fm_ad w aa)] s (some (.int r), s2) :=
  fm_of hI (by decide) rfl (Nat.le_of_ble_eq_true rfl) (e_X2_oneWomanLeft hI haa s _ h (fun r s e => by cases e; rfl))
-- X2_isBare
abbrev rm_X2_isBare : Room := { frames := 0, cells := 0, slots := 0, locals := 0 }
def f_X2_isBare_35 (aa : Nat) (sk0 : Int32) (s : fm_M) : Option (Int32 × fm_M) :=
  if fm_b sk0 = true then some (sk0, s) else none
set_option maxHeartbeats 4000000 in
theorem t_X2_isBare_35 {w : fm_W} {l : Launch} {o : fm_O} (hI : fm_I w 105) {aa : Nat} (haa : isH aa) (sk0 : Int32) (s : fm_M) (z : Int32 × fm_M) (h : f_X2_isBare_35 aa sk0 s = some z) (ho : ∀ (r : Int32) (s : fm_M), z = (r, s) → o = (some (.int r), s)) : fm_V w layX 105 l rm_X2_isBare cX2_isBare 2 RX2 (some .boolean) o 35 [none, none] [.int sk0] s := by
  unfold f_X2_isBare_35 at h
  obtain ⟨hb, h⟩ := fm_ift h
  exact v_zret rfl (fm_b_nar hb).1 (ho _ _ (Option.some.inj h).symm) dX2_isBare_35
def f_X2_isBare_34 (aa : Nat) (s : fm_M) : Option (Int32 × fm_M) :=
  f_X2_isBare_35 aa (0 : Int32) s
set_option maxHeartbeats 4000000 in
theorem t_X2_isBare_34 {w : fm_W} {l : Launch} {o : fm_O} (hI : fm_I w 105) {aa : Nat} (haa : isH aa) (s : fm_M) (z : Int32 × fm_M) (h : f_X2_isBare_34 aa s = some z) (ho : ∀ (r : Int32) (s : fm_M), z = (r, s) → o = (some (.int r), s)) : fm_V w layX 105 l rm_X2_isBare cX2_isBare 2 RX2 (some .boolean) o 34 [none, none] [] s := by
  unfold f_X2_isBare_34 at h
  refine v_iconst (0 : Int32) dX2_isBare_34 (by decide) ?_
  refine v_lw [none, none] rfl trivial ?_
  exact t_X2_isBare_35 hI haa (0 : Int32) s _ h ho
def f_X2_isBare (aa : Nat) (v1 : Int32) (s : fm_M) : Option (Int32 × fm_M) :=
  if v1 < 0 then f_X2_isBare_34 aa s else if (s 6 2) ≤ v1 then f_X2_isBare_34 aa s else if (6 : Int32) ≤ v1 then f_X2_isBare_34 aa s else if fm_in v1 6 = true then if (s (aa + 1) v1.toNatClampNeg) = 0 then f_X2_isBare_35 aa (1 : Int32) s else f_X2_isBare_34 aa s else none
set_option maxHeartbeats 4000000 in
theorem e_X2_isBare {w : fm_W} {l : Launch} {o : fm_O} (hI : fm_I w 105) {aa : Nat} (haa : isH aa) (v1 : Int32) (s : fm_M) (z : Int32 × fm_M) (h : f_X2_isBare aa v1 s = some z) (ho : ∀ (r : Int32) (s : fm_M), z = (r, s) → o = (some (.int r), s)) : fm_V w layX 105 l rm_X2_isBare cX2_isBare 2 RX2 (some .boolean) o 0 [some (.ref (fm_ad w aa)), some (.int v1)] [] s := by
  unfold f_X2_isBare at h
  refine v_iload_n 1 dX2_isBare_0 rfl rfl ?_
  refine v_if_lt 34 dX2_isBare_1 (by decide) h (fun h => ?_) (fun h => ?_)
  · refine v_lw [none, none] rfl trivial ?_
    exact t_X2_isBare_34 hI haa s _ h ho
  · refine v_iload_n 1 dX2_isBare_4 rfl rfl ?_
    refine v_aload_n 0 dX2_isBare_5 rfl rfl ?_
    refine v_getr 6 g_X2_30 haa.1 (isH.lt (j := 0) haa (by decide)) rfl dX2_isBare_6 ?_
    refine v_geti g_X2_54 yX_6 (by decide) rfl dX2_isBare_9 ?_
    refine v_icmp_ge 34 dX2_isBare_12 (by decide) h (fun h => ?_) (fun h => ?_)
    · refine v_lw [none, none] rfl trivial ?_
      exact t_X2_isBare_34 hI haa s _ h ho
    · refine v_iload_n 1 dX2_isBare_15 rfl rfl ?_
      refine v_bipush (6 : Int32) dX2_isBare_16 (by decide) ?_
      refine v_icmp_ge 34 dX2_isBare_18 (by decide) h (fun h => ?_) (fun h => ?_)
      · refine v_lw [none, none] rfl trivial ?_
        exact t_X2_isBare_34 hI haa s _ h ho
      · refine v_aload_n 0 dX2_isBare_21 rfl rfl ?_
        refine v_getr (aa + 1) g_X2_9 haa.1 (isH.lt (j := 0) haa (by decide)) rfl dX2_isBare_22 ?_
        refine v_iload_n 1 dX2_isBare_25 rfl rfl ?_
        obtain ⟨hi, h⟩ := fm_ift h
        refine v_iald (Or.inl ⟨(isH.lt (j := 1) haa (by decide)), (isH.a1 haa)⟩) hi dX2_isBare_26 ?_
        refine v_if_ne 34 dX2_isBare_27 (by decide) h (fun h => ?_) (fun h => ?_)
        · refine v_lw [none, none] rfl trivial ?_
          exact t_X2_isBare_34 hI haa s _ h ho
        · refine v_iconst (1 : Int32) dX2_isBare_30 (by decide) ?_
          refine v_goto 35 dX2_isBare_31 (by decide) ?_
          refine v_lw [none, none] rfl trivial ?_
          exact t_X2_isBare_35 hI haa (1 : Int32) s _ h ho
theorem c_X2_isBare {w : fm_W} {l : Launch} (hI : fm_I w 105) {aa : Nat} (haa : isH aa) {v1 : Int32} {s : fm_M} {r : Int32} {s2 : fm_M} (h : f_X2_isBare aa v1 s = some (r, s2)) : fm_C w layX 105 l yX2_isBare cX2_isBare 2 (some .boolean) rm_X2_isBare [.ref (fm_ad w aa), .int v1] s (some (.int r), s2) :=
  fm_of hI (by decide) rfl (Nat.le_of_ble_eq_true rfl) (e_X2_isBare hI haa v1 s _ h (fun r s e => by cases e; rfl))
-- X2_isFree
abbrev rm_X2_isFree : Room := { frames := 0, cells := 0, slots := 0, locals := 0 }
def f_X2_isFree_31 (aa : Nat) (sk0 : Int32) (s : fm_M) : Option (Int32 × fm_M) :=
  if fm_b sk0 = true then some (sk0, s) else none
set_option maxHeartbeats 4000000 in
theorem t_X2_isFree_31 {w : fm_W} {l : Launch} {o : fm_O} (hI : fm_I w 105) {aa : Nat} (haa : isH aa) (sk0 : Int32) (s : fm_M) (z : Int32 × fm_M) (h : f_X2_isFree_31 aa sk0 s = some z) (ho : ∀ (r : Int32) (s : fm_M), z = (r, s) → o = (some (.int r), s)) : fm_V w layX 105 l rm_X2_isFree cX2_isFree 2 RX2 (some .boolean) o 31 [none, none] [.int sk0] s := by
  unfold f_X2_isFree_31 at h
  obtain ⟨hb, h⟩ := fm_ift h
  exact v_zret rfl (fm_b_nar hb).1 (ho _ _ (Option.some.inj h).symm) dX2_isFree_31
def f_X2_isFree_30 (aa : Nat) (s : fm_M) : Option (Int32 × fm_M) :=
  f_X2_isFree_31 aa (0 : Int32) s
set_option maxHeartbeats 4000000 in
theorem t_X2_isFree_30 {w : fm_W} {l : Launch} {o : fm_O} (hI : fm_I w 105) {aa : Nat} (haa : isH aa) (s : fm_M) (z : Int32 × fm_M) (h : f_X2_isFree_30 aa s = some z) (ho : ∀ (r : Int32) (s : fm_M), z = (r, s) → o = (some (.int r), s)) : fm_V w layX 105 l rm_X2_isFree cX2_isFree 2 RX2 (some .boolean) o 30 [none, none] [] s := by
  unfold f_X2_isFree_30 at h
  refine v_iconst (0 : Int32) dX2_isFree_30 (by decide) ?_
  refine v_lw [none, none] rfl trivial ?_
  exact t_X2_isFree_31 hI haa (0 : Int32) s _ h ho
def f_X2_isFree (aa : Nat) (v1 : Int32) (s : fm_M) : Option (Int32 × fm_M) :=
  if v1 < 0 then f_X2_isFree_30 aa s else if (s aa 7) ≤ v1 then f_X2_isFree_30 aa s else if (3 : Int32) ≤ v1 then f_X2_isFree_30 aa s else if fm_in v1 3 = true then if (s (aa + 4) v1.toNatClampNeg) = 0 then f_X2_isFree_31 aa (1 : Int32) s else f_X2_isFree_30 aa s else none
set_option maxHeartbeats 4000000 in
theorem e_X2_isFree {w : fm_W} {l : Launch} {o : fm_O} (hI : fm_I w 105) {aa : Nat} (haa : isH aa) (v1 : Int32) (s : fm_M) (z : Int32 × fm_M) (h : f_X2_isFree aa v1 s = some z) (ho : ∀ (r : Int32) (s : fm_M), z = (r, s) → o = (some (.int r), s)) : fm_V w layX 105 l rm_X2_isFree cX2_isFree 2 RX2 (some .boolean) o 0 [some (.ref (fm_ad w aa)), some (.int v1)] [] s := by
  unfold f_X2_isFree at h
  refine v_iload_n 1 dX2_isFree_0 rfl rfl ?_
  refine v_if_lt 30 dX2_isFree_1 (by decide) h (fun h => ?_) (fun h => ?_)
  · refine v_lw [none, none] rfl trivial ?_
    exact t_X2_isFree_30 hI haa s _ h ho
  · refine v_iload_n 1 dX2_isFree_4 rfl rfl ?_
    refine v_aload_n 0 dX2_isFree_5 rfl rfl ?_
    refine v_geti g_X2_34 haa.1 (isH.lt (j := 0) haa (by decide)) rfl dX2_isFree_6 ?_
    refine v_icmp_ge 30 dX2_isFree_9 (by decide) h (fun h => ?_) (fun h => ?_)
    · refine v_lw [none, none] rfl trivial ?_
      exact t_X2_isFree_30 hI haa s _ h ho
    · refine v_iload_n 1 dX2_isFree_12 rfl rfl ?_
      refine v_iconst (3 : Int32) dX2_isFree_13 (by decide) ?_
      refine v_icmp_ge 30 dX2_isFree_14 (by decide) h (fun h => ?_) (fun h => ?_)
      · refine v_lw [none, none] rfl trivial ?_
        exact t_X2_isFree_30 hI haa s _ h ho
      · refine v_aload_n 0 dX2_isFree_17 rfl rfl ?_
        refine v_getr (aa + 4) g_X2_21 haa.1 (isH.lt (j := 0) haa (by decide)) rfl dX2_isFree_18 ?_
        refine v_iload_n 1 dX2_isFree_21 rfl rfl ?_
        obtain ⟨hi, h⟩ := fm_ift h
        refine v_iald (Or.inl ⟨(isH.lt (j := 4) haa (by decide)), (isH.a4 haa)⟩) hi dX2_isFree_22 ?_
        refine v_if_ne 30 dX2_isFree_23 (by decide) h (fun h => ?_) (fun h => ?_)
        · refine v_lw [none, none] rfl trivial ?_
          exact t_X2_isFree_30 hI haa s _ h ho
        · refine v_iconst (1 : Int32) dX2_isFree_26 (by decide) ?_
          refine v_goto 31 dX2_isFree_27 (by decide) ?_
          refine v_lw [none, none] rfl trivial ?_
          exact t_X2_isFree_31 hI haa (1 : Int32) s _ h ho
theorem c_X2_isFree {w : fm_W} {l : Launch} (hI : fm_I w 105) {aa : Nat} (haa : isH aa) {v1 : Int32} {s : fm_M} {r : Int32} {s2 : fm_M} (h : f_X2_isFree aa v1 s = some (r, s2)) : fm_C w layX 105 l yX2_isFree cX2_isFree 2 (some .boolean) rm_X2_isFree [.ref (fm_ad w aa), .int v1] s (some (.int r), s2) :=
  fm_of hI (by decide) rfl (Nat.le_of_ble_eq_true rfl) (e_X2_isFree hI haa v1 s _ h (fun r s e => by cases e; rfl))
-- X2_canDress
abbrev rm_X2_canDress : Room := { frames := 1, cells := 0, slots := 0, locals := 21 }
def f_X2_canDress_21 (aa : Nat) (sk0 : Int32) (s : fm_M) : Option (Int32 × fm_M) :=
  if fm_b sk0 = true then some (sk0, s) else none
set_option maxHeartbeats 4000000 in
theorem t_X2_canDress_21 {w : fm_W} {l : Launch} {o : fm_O} (hI : fm_I w 105) {aa : Nat} (haa : isH aa) (sk0 : Int32) (s : fm_M) (z : Int32 × fm_M) (h : f_X2_canDress_21 aa sk0 s = some z) (ho : ∀ (r : Int32) (s : fm_M), z = (r, s) → o = (some (.int r), s)) : fm_V w layX 105 l rm_X2_canDress cX2_canDress 3 RX2 (some .boolean) o 21 [none, none, none] [.int sk0] s := by
  unfold f_X2_canDress_21 at h
  obtain ⟨hb, h⟩ := fm_ift h
  exact v_zret rfl (fm_b_nar hb).1 (ho _ _ (Option.some.inj h).symm) dX2_canDress_21
def f_X2_canDress_20 (aa : Nat) (s : fm_M) : Option (Int32 × fm_M) :=
  f_X2_canDress_21 aa (0 : Int32) s
set_option maxHeartbeats 4000000 in
theorem t_X2_canDress_20 {w : fm_W} {l : Launch} {o : fm_O} (hI : fm_I w 105) {aa : Nat} (haa : isH aa) (s : fm_M) (z : Int32 × fm_M) (h : f_X2_canDress_20 aa s = some z) (ho : ∀ (r : Int32) (s : fm_M), z = (r, s) → o = (some (.int r), s)) : fm_V w layX 105 l rm_X2_canDress cX2_canDress 3 RX2 (some .boolean) o 20 [none, none, none] [] s := by
  unfold f_X2_canDress_20 at h
  refine v_iconst (0 : Int32) dX2_canDress_20 (by decide) ?_
  refine v_lw [none, none, none] rfl trivial ?_
  exact t_X2_canDress_21 hI haa (0 : Int32) s _ h ho
def f_X2_canDress (aa : Nat) (v1 : Int32) (v2 : Int32) (s : fm_M) : Option (Int32 × fm_M) :=
  fm_bd (f_X2_isFree aa v1 s) (fun r1 s1 => if r1 = 0 then f_X2_canDress_20 aa s1 else fm_bd (f_X2_isBare aa v2 s1) (fun r2 s2 => if r2 = 0 then f_X2_canDress_20 aa s2 else f_X2_canDress_21 aa (1 : Int32) s2))
set_option maxHeartbeats 4000000 in
theorem e_X2_canDress {w : fm_W} {l : Launch} {o : fm_O} (hI : fm_I w 105) {aa : Nat} (haa : isH aa) (v1 : Int32) (v2 : Int32) (s : fm_M) (z : Int32 × fm_M) (h : f_X2_canDress aa v1 v2 s = some z) (ho : ∀ (r : Int32) (s : fm_M), z = (r, s) → o = (some (.int r), s)) : fm_V w layX 105 l rm_X2_canDress cX2_canDress 3 RX2 (some .boolean) o 0 [some (.ref (fm_ad w aa)), some (.int v1), some (.int v2)] [] s := by
  unfold f_X2_canDress at h
  refine v_aload_n 0 dX2_canDress_0 rfl rfl ?_
  refine v_iload_n 1 dX2_canDress_1 rfl rfl ?_
  obtain ⟨r1, s1, h1, h⟩ := fm_bds h
  refine v_cVi [.int v1] [] l_X2_59 (c_X2_isFree hI haa h1) haa.1 (isH.lt (j := 0) haa (by decide)) rfl rfl ⟨rfl, rfl, by decide, by decide⟩ (Nat.le_of_ble_eq_true rfl) dX2_canDress_2 ?_
  refine v_if_eq 20 dX2_canDress_5 (by decide) h (fun h => ?_) (fun h => ?_)
  · refine v_lw [none, none, none] rfl trivial ?_
    exact t_X2_canDress_20 hI haa s1 _ h ho
  · refine v_aload_n 0 dX2_canDress_8 rfl rfl ?_
    refine v_iload_n 2 dX2_canDress_9 rfl rfl ?_
    obtain ⟨r2, s2, h2, h⟩ := fm_bds h
    refine v_cVi [.int v2] [] l_X2_83 (c_X2_isBare hI haa h2) haa.1 (isH.lt (j := 0) haa (by decide)) rfl rfl ⟨rfl, rfl, by decide, by decide⟩ (Nat.le_of_ble_eq_true rfl) dX2_canDress_10 ?_
    refine v_if_eq 20 dX2_canDress_13 (by decide) h (fun h => ?_) (fun h => ?_)
    · refine v_lw [none, none, none] rfl trivial ?_
      exact t_X2_canDress_20 hI haa s2 _ h ho
    · refine v_iconst (1 : Int32) dX2_canDress_16 (by decide) ?_
      refine v_goto 21 dX2_canDress_17 (by decide) ?_
      refine v_lw [none, none, none] rfl trivial ?_
      exact t_X2_canDress_21 hI haa (1 : Int32) s2 _ h ho
theorem c_X2_canDress {w : fm_W} {l : Launch} (hI : fm_I w 105) {aa : Nat} (haa : isH aa) {v1 : Int32} {v2 : Int32} {s : fm_M} {r : Int32} {s2 : fm_M} (h : f_X2_canDress aa v1 v2 s = some (r, s2)) : fm_C w layX 105 l yX2_canDress cX2_canDress 3 (some .boolean) rm_X2_canDress [.ref (fm_ad w aa), .int v1, .int v2] s (some (.int r), s2) :=
  fm_of hI (by decide) rfl (Nat.le_of_ble_eq_true rfl) (e_X2_canDress hI haa v1 v2 s _ h (fun r s e => by cases e; rfl))
-- X2_minutesToDress
abbrev rm_X2_minutesToDress : Room := { frames := 1, cells := 0, slots := 0, locals := 23 }
def f_X2_minutesToDress_41 (aa : Nat) (sk0 : Int32) (s : fm_M) : Option (Int32 × fm_M) :=
  some (sk0, s)
set_option maxHeartbeats 4000000 in
theorem t_X2_minutesToDress_41 {w : fm_W} {l : Launch} {o : fm_O} (hI : fm_I w 105) {aa : Nat} (haa : isH aa) (sk0 : Int32) (s : fm_M) (z : Int32 × fm_M) (h : f_X2_minutesToDress_41 aa sk0 s = some z) (ho : ∀ (r : Int32) (s : fm_M), z = (r, s) → o = (some (.int r), s)) : fm_V w layX 105 l rm_X2_minutesToDress cX2_minutesToDress 2 RX2 (some .int) o 41 [none, none] [.int sk0] s := by
  unfold f_X2_minutesToDress_41 at h
  exact v_iret rfl (ho _ _ (Option.some.inj h).symm) dX2_minutesToDress_41
def f_X2_minutesToDress (aa : Nat) (v1 : Int32) (s : fm_M) : Option (Int32 × fm_M) :=
  fm_bd (f_X4_hasChild 6 v1 s) (fun r1 s1 => if r1 = 0 then f_X2_minutesToDress_41 aa (-4 : Int32) s1 else if fm_in v1 6 = true then if fm_in v1 6 = true then fm_bd (f_X4_minutesFor (s1 7 v1.toNatClampNeg) (s1 8 v1.toNatClampNeg) (s1 aa 9) s1) (fun r2 s2 => f_X2_minutesToDress_41 aa r2 s2) else none else none)
set_option maxHeartbeats 4000000 in
theorem e_X2_minutesToDress {w : fm_W} {l : Launch} {o : fm_O} (hI : fm_I w 105) {aa : Nat} (haa : isH aa) (v1 : Int32) (s : fm_M) (z : Int32 × fm_M) (h : f_X2_minutesToDress aa v1 s = some z) (ho : ∀ (r : Int32) (s : fm_M), z = (r, s) → o = (some (.int r), s)) : fm_V w layX 105 l rm_X2_minutesToDress cX2_minutesToDress 2 RX2 (some .int) o 0 [some (.ref (fm_ad w aa)), some (.int v1)] [] s := by
  unfold f_X2_minutesToDress at h
  refine v_aload_n 0 dX2_minutesToDress_0 rfl rfl ?_
  refine v_getr 6 g_X2_30 haa.1 (isH.lt (j := 0) haa (by decide)) rfl dX2_minutesToDress_1 ?_
  refine v_iload_n 1 dX2_minutesToDress_4 rfl rfl ?_
  obtain ⟨r1, s1, h1, h⟩ := fm_bds h
  refine v_cVi [.int v1] [] l_X2_70 (c_X4_hasChild hI isPl_6 h1) yX_6 (by decide) rfl rfl ⟨rfl, rfl, by decide, by decide⟩ (Nat.le_of_ble_eq_true rfl) dX2_minutesToDress_5 ?_
  refine v_if_eq 39 dX2_minutesToDress_8 (by decide) h (fun h => ?_) (fun h => ?_)
  · refine v_bipush (-4 : Int32) dX2_minutesToDress_39 (by decide) ?_
    refine v_lw [none, none] rfl trivial ?_
    exact t_X2_minutesToDress_41 hI haa (-4 : Int32) s1 _ h ho
  · refine v_aload_n 0 dX2_minutesToDress_11 rfl rfl ?_
    refine v_getr 6 g_X2_30 haa.1 (isH.lt (j := 0) haa (by decide)) rfl dX2_minutesToDress_12 ?_
    refine v_getr 7 g_X2_73 yX_6 (by decide) rfl dX2_minutesToDress_15 ?_
    refine v_iload_n 1 dX2_minutesToDress_18 rfl rfl ?_
    obtain ⟨hi, h⟩ := fm_ift h
    refine v_iald (Or.inl ⟨(by decide), yX_7⟩) hi dX2_minutesToDress_19 ?_
    refine v_aload_n 0 dX2_minutesToDress_20 rfl rfl ?_
    refine v_getr 6 g_X2_30 haa.1 (isH.lt (j := 0) haa (by decide)) rfl dX2_minutesToDress_21 ?_
    refine v_getr 8 g_X2_76 yX_6 (by decide) rfl dX2_minutesToDress_24 ?_
    refine v_iload_n 1 dX2_minutesToDress_27 rfl rfl ?_
    obtain ⟨hi, h⟩ := fm_ift h
    refine v_iald (Or.inl ⟨(by decide), yX_8⟩) hi dX2_minutesToDress_28 ?_
    refine v_aload_n 0 dX2_minutesToDress_29 rfl rfl ?_
    refine v_geti g_X2_41 haa.1 (isH.lt (j := 0) haa (by decide)) rfl dX2_minutesToDress_30 ?_
    obtain ⟨r2, s2, h2, h⟩ := fm_bds h
    refine v_cSi [.int (s1 7 v1.toNatClampNeg), .int (s1 8 v1.toNatClampNeg), .int (s1 aa 9)] [] l_X2_79 (c_X4_minutesFor hI h2) rfl rfl ⟨rfl, rfl, by decide, by decide⟩ (Nat.le_of_ble_eq_true rfl) dX2_minutesToDress_33 ?_
    refine v_goto 41 dX2_minutesToDress_36 (by decide) ?_
    refine v_lw [none, none] rfl trivial ?_
    exact t_X2_minutesToDress_41 hI haa r2 s2 _ h ho
theorem c_X2_minutesToDress {w : fm_W} {l : Launch} (hI : fm_I w 105) {aa : Nat} (haa : isH aa) {v1 : Int32} {s : fm_M} {r : Int32} {s2 : fm_M} (h : f_X2_minutesToDress aa v1 s = some (r, s2)) : fm_C w layX 105 l yX2_minutesToDress cX2_minutesToDress 2 (some .int) rm_X2_minutesToDress [.ref (fm_ad w aa), .int v1] s (some (.int r), s2) :=
  fm_of hI (by decide) rfl (Nat.le_of_ble_eq_true rfl) (e_X2_minutesToDress hI haa v1 s _ h (fun r s e => by cases e; rfl))
-- X2_dress
abbrev rm_X2_dress : Room := { frames := 2, cells := 0, slots := 0, locals := 44 }
def f_X2_dress (aa : Nat) (v1 : Int32) (v2 : Int32) (s : fm_M) : Option (Int32 × fm_M) :=
  fm_bd (f_X2_canDress aa v1 v2 s) (fun r1 s1 => if r1 = 0 then some ((-2 : Int32), s1) else if fm_in v1 3 = true then fm_bd (f_X2_minutesToDress aa v2 (fm_up s1 (aa + 4) v1.toNatClampNeg (1 : Int32))) (fun r2 s2 => if fm_in v1 3 = true then if fm_in v1 3 = true then if fm_in v2 6 = true then if fm_in v1 3 = true then some (((fm_up (fm_up (fm_up (fm_up s2 (aa + 5) v1.toNatClampNeg r2) (aa + 6) v1.toNatClampNeg v2) (aa + 1) v2.toNatClampNeg (1 : Int32)) aa 10 (((fm_up (fm_up (fm_up s2 (aa + 5) v1.toNatClampNeg r2) (aa + 6) v1.toNatClampNeg v2) (aa + 1) v2.toNatClampNeg (1 : Int32)) aa 10) + (1 : Int32))) (aa + 5) v1.toNatClampNeg), (fm_up (fm_up (fm_up (fm_up s2 (aa + 5) v1.toNatClampNeg r2) (aa + 6) v1.toNatClampNeg v2) (aa + 1) v2.toNatClampNeg (1 : Int32)) aa 10 (((fm_up (fm_up (fm_up s2 (aa + 5) v1.toNatClampNeg r2) (aa + 6) v1.toNatClampNeg v2) (aa + 1) v2.toNatClampNeg (1 : Int32)) aa 10) + (1 : Int32)))) else none else none else none else none) else none)
set_option maxHeartbeats 4000000 in
theorem e_X2_dress {w : fm_W} {l : Launch} {o : fm_O} (hI : fm_I w 105) {aa : Nat} (haa : isH aa) (v1 : Int32) (v2 : Int32) (s : fm_M) (z : Int32 × fm_M) (h : f_X2_dress aa v1 v2 s = some z) (ho : ∀ (r : Int32) (s : fm_M), z = (r, s) → o = (some (.int r), s)) : fm_V w layX 105 l rm_X2_dress cX2_dress 3 RX2 (some .int) o 0 [some (.ref (fm_ad w aa)), some (.int v1), some (.int v2)] [] s := by
  unfold f_X2_dress at h
  refine v_aload_n 0 dX2_dress_0 rfl rfl ?_
  refine v_iload_n 1 dX2_dress_1 rfl rfl ?_
  refine v_iload_n 2 dX2_dress_2 rfl rfl ?_
  obtain ⟨r1, s1, h1, h⟩ := fm_bds h
  refine v_cVi [.int v1, .int v2] [] l_X2_86 (c_X2_canDress hI haa h1) haa.1 (isH.lt (j := 0) haa (by decide)) rfl rfl ⟨rfl, rfl, by decide, by decide⟩ (Nat.le_of_ble_eq_true rfl) dX2_dress_3 ?_
  refine v_if_ne 12 dX2_dress_6 (by decide) h (fun h => ?_) (fun h => ?_)
  · refine v_aload_n 0 dX2_dress_12 rfl rfl ?_
    refine v_getr (aa + 4) g_X2_21 haa.1 (isH.lt (j := 0) haa (by decide)) rfl dX2_dress_13 ?_
    refine v_iload_n 1 dX2_dress_16 rfl rfl ?_
    refine v_iconst (1 : Int32) dX2_dress_17 (by decide) ?_
    obtain ⟨hi, h⟩ := fm_ift h
    refine v_iast (isH.lt (j := 4) haa (by decide)) (isH.a4 haa) hi dX2_dress_18 ?_
    refine v_aload_n 0 dX2_dress_19 rfl rfl ?_
    refine v_getr (aa + 5) g_X2_24 haa.1 (isH.lt (j := 0) haa (by decide)) rfl dX2_dress_20 ?_
    refine v_iload_n 1 dX2_dress_23 rfl rfl ?_
    refine v_aload_n 0 dX2_dress_24 rfl rfl ?_
    refine v_iload_n 2 dX2_dress_25 rfl rfl ?_
    obtain ⟨r2, s2, h2, h⟩ := fm_bds h
    refine v_cVi [.int v2] [.int v1, .ref (fm_ad w (aa + 5))] l_X2_90 (c_X2_minutesToDress hI haa h2) haa.1 (isH.lt (j := 0) haa (by decide)) rfl rfl ⟨rfl, rfl, by decide, by decide⟩ (Nat.le_of_ble_eq_true rfl) dX2_dress_26 ?_
    obtain ⟨hi, h⟩ := fm_ift h
    refine v_iast (isH.lt (j := 5) haa (by decide)) (isH.a5 haa) hi dX2_dress_29 ?_
    refine v_aload_n 0 dX2_dress_30 rfl rfl ?_
    refine v_getr (aa + 6) g_X2_27 haa.1 (isH.lt (j := 0) haa (by decide)) rfl dX2_dress_31 ?_
    refine v_iload_n 1 dX2_dress_34 rfl rfl ?_
    refine v_iload_n 2 dX2_dress_35 rfl rfl ?_
    obtain ⟨hi, h⟩ := fm_ift h
    refine v_iast (isH.lt (j := 6) haa (by decide)) (isH.a6 haa) hi dX2_dress_36 ?_
    refine v_aload_n 0 dX2_dress_37 rfl rfl ?_
    refine v_getr (aa + 1) g_X2_9 haa.1 (isH.lt (j := 0) haa (by decide)) rfl dX2_dress_38 ?_
    refine v_iload_n 2 dX2_dress_41 rfl rfl ?_
    refine v_iconst (1 : Int32) dX2_dress_42 (by decide) ?_
    obtain ⟨hi, h⟩ := fm_ift h
    refine v_iast (isH.lt (j := 1) haa (by decide)) (isH.a1 haa) hi dX2_dress_43 ?_
    refine v_aload_n 0 dX2_dress_44 rfl rfl ?_
    refine v_dup dX2_dress_45 rfl ?_
    refine v_geti g_X2_45 haa.1 (isH.lt (j := 0) haa (by decide)) rfl dX2_dress_46 ?_
    refine v_iconst (1 : Int32) dX2_dress_49 (by decide) ?_
    refine v_iadd dX2_dress_50 ?_
    refine v_put p_X2_45 haa.1 (isH.lt (j := 0) haa (by decide)) rfl ⟨rfl, rfl⟩ dX2_dress_51 ?_
    refine v_aload_n 0 dX2_dress_54 rfl rfl ?_
    refine v_getr (aa + 5) g_X2_24 haa.1 (isH.lt (j := 0) haa (by decide)) rfl dX2_dress_55 ?_
    refine v_iload_n 1 dX2_dress_58 rfl rfl ?_
    obtain ⟨hi, h⟩ := fm_ift h
    refine v_iald (Or.inl ⟨(isH.lt (j := 5) haa (by decide)), (isH.a5 haa)⟩) hi dX2_dress_59 ?_
    exact v_iret rfl (ho _ _ (Option.some.inj h).symm) dX2_dress_60
  · refine v_bipush (-2 : Int32) dX2_dress_9 (by decide) ?_
    exact v_iret rfl (ho _ _ (Option.some.inj h).symm) dX2_dress_11
theorem c_X2_dress {w : fm_W} {l : Launch} (hI : fm_I w 105) {aa : Nat} (haa : isH aa) {v1 : Int32} {v2 : Int32} {s : fm_M} {r : Int32} {s2 : fm_M} (h : f_X2_dress aa v1 v2 s = some (r, s2)) : fm_C w layX 105 l yX2_dress cX2_dress 3 (some .int) rm_X2_dress [.ref (fm_ad w aa), .int v1, .int v2] s (some (.int r), s2) :=
  fm_of hI (by decide) rfl (Nat.le_of_ble_eq_true rfl) (e_X2_dress hI haa v1 v2 s _ h (fun r s e => by cases e; rfl))
-- X2_heat
abbrev rm_X2_heat : Room := { frames := 0, cells := 0, slots := 0, locals := 0 }
def f_X2_heat_109 (aa : Nat) (v1 : Int32) (v2 : Int32) (s : fm_M) : Option ((fm_M × Int32 × Int32) ⊕ (fm_M × Int32 × Int32)) :=
  some (.inl (s, v1, (v2 + (1 : Int32))))
set_option maxHeartbeats 4000000 in
theorem t_X2_heat_109 {w : fm_W} {l : Launch} {o : fm_O} (hI : fm_I w 105) {aa : Nat} (haa : isH aa) (v1 : Int32) (v2 : Int32) (s : fm_M) (z : (fm_M × Int32 × Int32) ⊕ (fm_M × Int32 × Int32)) (h : f_X2_heat_109 aa v1 v2 s = some z) (kb : ∀ (s : fm_M) (u1 : Int32) (u2 : Int32), z = .inl (s, u1, u2) → fm_V w layX 105 l rm_X2_heat cX2_heat 4 RX2 (some .int) o 4 [some (.ref (fm_ad w aa)), some (.int u1), some (.int u2), none] [] s) (ke : ∀ (s : fm_M) (u1 : Int32) (u2 : Int32), z = .inr (s, u1, u2) → fm_V w layX 105 l rm_X2_heat cX2_heat 4 RX2 (some .int) o 115 [some (.ref (fm_ad w aa)), some (.int u1), some (.int u2), none] [] s) : fm_V w layX 105 l rm_X2_heat cX2_heat 4 RX2 (some .int) o 109 [some (.ref (fm_ad w aa)), some (.int v1), some (.int v2), none] [] s := by
  unfold f_X2_heat_109 at h
  refine v_iinc (lv' := [some (.ref (fm_ad w aa)), some (.int v1), some (.int (v2 + (1 : Int32))), none]) (1 : Int32) dX2_heat_109 rfl (by decide) (by decide) rfl rfl ?_
  refine v_goto 4 dX2_heat_112 (by decide) ?_
  refine v_lw [some (.ref (fm_ad w aa)), some (.int v1), some (.int (v2 + (1 : Int32))), none] rfl ⟨rfl, rfl, rfl, trivial⟩ ?_
  exact kb _ _ _ (Option.some.inj h).symm
def f_X2_heat_48 (aa : Nat) (v1 : Int32) (v2 : Int32) (sk0 : Int32) (s : fm_M) : Option ((fm_M × Int32 × Int32) ⊕ (fm_M × Int32 × Int32)) :=
  if fm_in v2 6 = true then if (s (aa + 1) v2.toNatClampNeg) = (2 : Int32) then if sk0 = 0 then if fm_in v2 6 = true then if fm_in v2 6 = true then if fm_in v2 6 = true then if ((fm_up s (aa + 2) v2.toNatClampNeg ((s (aa + 2) v2.toNatClampNeg) + (1 : Int32))) (aa + 2) v2.toNatClampNeg) ≤ ((fm_up s (aa + 2) v2.toNatClampNeg ((s (aa + 2) v2.toNatClampNeg) + (1 : Int32))) 6 4) then f_X2_heat_109 aa v1 v2 (fm_up s (aa + 2) v2.toNatClampNeg ((s (aa + 2) v2.toNatClampNeg) + (1 : Int32))) else if fm_in v2 6 = true then if fm_in v2 6 = true then if fm_in v2 6 = true then f_X2_heat_109 aa (v1 + (1 : Int32)) v2 (fm_up (fm_up (fm_up s (aa + 2) v2.toNatClampNeg ((s (aa + 2) v2.toNatClampNeg) + (1 : Int32))) (aa + 1) v2.toNatClampNeg (0 : Int32)) (aa + 3) v2.toNatClampNeg (((fm_up (fm_up s (aa + 2) v2.toNatClampNeg ((s (aa + 2) v2.toNatClampNeg) + (1 : Int32))) (aa + 1) v2.toNatClampNeg (0 : Int32)) (aa + 3) v2.toNatClampNeg) + (1 : Int32))) else none else none else none else none else none else none else f_X2_heat_109 aa v1 v2 s else f_X2_heat_109 aa v1 v2 s else none
set_option maxHeartbeats 4000000 in
theorem t_X2_heat_48 {w : fm_W} {l : Launch} {o : fm_O} (hI : fm_I w 105) {aa : Nat} (haa : isH aa) (v1 : Int32) (v2 : Int32) (sk0 : Int32) (s : fm_M) (z : (fm_M × Int32 × Int32) ⊕ (fm_M × Int32 × Int32)) (h : f_X2_heat_48 aa v1 v2 sk0 s = some z) (kb : ∀ (s : fm_M) (u1 : Int32) (u2 : Int32), z = .inl (s, u1, u2) → fm_V w layX 105 l rm_X2_heat cX2_heat 4 RX2 (some .int) o 4 [some (.ref (fm_ad w aa)), some (.int u1), some (.int u2), none] [] s) (ke : ∀ (s : fm_M) (u1 : Int32) (u2 : Int32), z = .inr (s, u1, u2) → fm_V w layX 105 l rm_X2_heat cX2_heat 4 RX2 (some .int) o 115 [some (.ref (fm_ad w aa)), some (.int u1), some (.int u2), none] [] s) : fm_V w layX 105 l rm_X2_heat cX2_heat 4 RX2 (some .int) o 48 [some (.ref (fm_ad w aa)), some (.int v1), some (.int v2), none] [.int sk0] s := by
  unfold f_X2_heat_48 at h
  refine v_istore_n (lv' := [some (.ref (fm_ad w aa)), some (.int v1), some (.int v2), some (.int sk0)]) 3 dX2_heat_48 rfl (by decide) rfl rfl ?_
  refine v_aload_n 0 dX2_heat_49 rfl rfl ?_
  refine v_getr (aa + 1) g_X2_9 haa.1 (isH.lt (j := 0) haa (by decide)) rfl dX2_heat_50 ?_
  refine v_iload_n 2 dX2_heat_53 rfl rfl ?_
  obtain ⟨hi, h⟩ := fm_ift h
  refine v_iald (Or.inl ⟨(isH.lt (j := 1) haa (by decide)), (isH.a1 haa)⟩) hi dX2_heat_54 ?_
  refine v_iconst (2 : Int32) dX2_heat_55 (by decide) ?_
  refine v_icmp_ne 109 dX2_heat_56 (by decide) h (fun h => ?_) (fun h => ?_)
  · refine v_lw [some (.ref (fm_ad w aa)), some (.int v1), some (.int v2), none] rfl ⟨rfl, rfl, rfl, trivial⟩ ?_
    exact t_X2_heat_109 hI haa v1 v2 s _ h kb ke
  · refine v_iload_n 3 dX2_heat_59 rfl rfl ?_
    refine v_if_ne 109 dX2_heat_60 (by decide) h (fun h => ?_) (fun h => ?_)
    · refine v_lw [some (.ref (fm_ad w aa)), some (.int v1), some (.int v2), none] rfl ⟨rfl, rfl, rfl, trivial⟩ ?_
      exact t_X2_heat_109 hI haa v1 v2 s _ h kb ke
    · refine v_aload_n 0 dX2_heat_63 rfl rfl ?_
      refine v_getr (aa + 2) g_X2_15 haa.1 (isH.lt (j := 0) haa (by decide)) rfl dX2_heat_64 ?_
      refine v_iload_n 2 dX2_heat_67 rfl rfl ?_
      refine v_dup2 dX2_heat_68 rfl rfl ?_
      obtain ⟨hi, h⟩ := fm_ift h
      refine v_iald (Or.inl ⟨(isH.lt (j := 2) haa (by decide)), (isH.a2 haa)⟩) hi dX2_heat_69 ?_
      refine v_iconst (1 : Int32) dX2_heat_70 (by decide) ?_
      refine v_iadd dX2_heat_71 ?_
      obtain ⟨hi, h⟩ := fm_ift h
      refine v_iast (isH.lt (j := 2) haa (by decide)) (isH.a2 haa) hi dX2_heat_72 ?_
      refine v_aload_n 0 dX2_heat_73 rfl rfl ?_
      refine v_getr (aa + 2) g_X2_15 haa.1 (isH.lt (j := 0) haa (by decide)) rfl dX2_heat_74 ?_
      refine v_iload_n 2 dX2_heat_77 rfl rfl ?_
      obtain ⟨hi, h⟩ := fm_ift h
      refine v_iald (Or.inl ⟨(isH.lt (j := 2) haa (by decide)), (isH.a2 haa)⟩) hi dX2_heat_78 ?_
      refine v_aload_n 0 dX2_heat_79 rfl rfl ?_
      refine v_getr 6 g_X2_30 haa.1 (isH.lt (j := 0) haa (by decide)) rfl dX2_heat_80 ?_
      refine v_geti g_X2_116 yX_6 (by decide) rfl dX2_heat_83 ?_
      refine v_icmp_le 109 dX2_heat_86 (by decide) h (fun h => ?_) (fun h => ?_)
      · refine v_lw [some (.ref (fm_ad w aa)), some (.int v1), some (.int v2), none] rfl ⟨rfl, rfl, rfl, trivial⟩ ?_
        exact t_X2_heat_109 hI haa v1 v2 (fm_up s (aa + 2) v2.toNatClampNeg ((s (aa + 2) v2.toNatClampNeg) + (1 : Int32))) _ h kb ke
      · refine v_aload_n 0 dX2_heat_89 rfl rfl ?_
        refine v_getr (aa + 1) g_X2_9 haa.1 (isH.lt (j := 0) haa (by decide)) rfl dX2_heat_90 ?_
        refine v_iload_n 2 dX2_heat_93 rfl rfl ?_
        refine v_iconst (0 : Int32) dX2_heat_94 (by decide) ?_
        obtain ⟨hi, h⟩ := fm_ift h
        refine v_iast (isH.lt (j := 1) haa (by decide)) (isH.a1 haa) hi dX2_heat_95 ?_
        refine v_aload_n 0 dX2_heat_96 rfl rfl ?_
        refine v_getr (aa + 3) g_X2_18 haa.1 (isH.lt (j := 0) haa (by decide)) rfl dX2_heat_97 ?_
        refine v_iload_n 2 dX2_heat_100 rfl rfl ?_
        refine v_dup2 dX2_heat_101 rfl rfl ?_
        obtain ⟨hi, h⟩ := fm_ift h
        refine v_iald (Or.inl ⟨(isH.lt (j := 3) haa (by decide)), (isH.a3 haa)⟩) hi dX2_heat_102 ?_
        refine v_iconst (1 : Int32) dX2_heat_103 (by decide) ?_
        refine v_iadd dX2_heat_104 ?_
        obtain ⟨hi, h⟩ := fm_ift h
        refine v_iast (isH.lt (j := 3) haa (by decide)) (isH.a3 haa) hi dX2_heat_105 ?_
        refine v_iinc (lv' := [some (.ref (fm_ad w aa)), some (.int (v1 + (1 : Int32))), some (.int v2), some (.int sk0)]) (1 : Int32) dX2_heat_106 rfl (by decide) (by decide) rfl rfl ?_
        refine v_lw [some (.ref (fm_ad w aa)), some (.int (v1 + (1 : Int32))), some (.int v2), none] rfl ⟨rfl, rfl, rfl, trivial⟩ ?_
        exact t_X2_heat_109 hI haa (v1 + (1 : Int32)) v2 (fm_up (fm_up (fm_up s (aa + 2) v2.toNatClampNeg ((s (aa + 2) v2.toNatClampNeg) + (1 : Int32))) (aa + 1) v2.toNatClampNeg (0 : Int32)) (aa + 3) v2.toNatClampNeg (((fm_up (fm_up s (aa + 2) v2.toNatClampNeg ((s (aa + 2) v2.toNatClampNeg) + (1 : Int32))) (aa + 1) v2.toNatClampNeg (0 : Int32)) (aa + 3) v2.toNatClampNeg) + (1 : Int32))) _ h kb ke
def f_X2_heat_47 (aa : Nat) (v1 : Int32) (v2 : Int32) (s : fm_M) : Option ((fm_M × Int32 × Int32) ⊕ (fm_M × Int32 × Int32)) :=
  f_X2_heat_48 aa v1 v2 (0 : Int32) s
set_option maxHeartbeats 4000000 in
theorem t_X2_heat_47 {w : fm_W} {l : Launch} {o : fm_O} (hI : fm_I w 105) {aa : Nat} (haa : isH aa) (v1 : Int32) (v2 : Int32) (s : fm_M) (z : (fm_M × Int32 × Int32) ⊕ (fm_M × Int32 × Int32)) (h : f_X2_heat_47 aa v1 v2 s = some z) (kb : ∀ (s : fm_M) (u1 : Int32) (u2 : Int32), z = .inl (s, u1, u2) → fm_V w layX 105 l rm_X2_heat cX2_heat 4 RX2 (some .int) o 4 [some (.ref (fm_ad w aa)), some (.int u1), some (.int u2), none] [] s) (ke : ∀ (s : fm_M) (u1 : Int32) (u2 : Int32), z = .inr (s, u1, u2) → fm_V w layX 105 l rm_X2_heat cX2_heat 4 RX2 (some .int) o 115 [some (.ref (fm_ad w aa)), some (.int u1), some (.int u2), none] [] s) : fm_V w layX 105 l rm_X2_heat cX2_heat 4 RX2 (some .int) o 47 [some (.ref (fm_ad w aa)), some (.int v1), some (.int v2), none] [] s := by
  unfold f_X2_heat_47 at h
  refine v_iconst (0 : Int32) dX2_heat_47 (by decide) ?_
  refine v_lw [some (.ref (fm_ad w aa)), some (.int v1), some (.int v2), none] rfl ⟨rfl, rfl, rfl, trivial⟩ ?_
  exact t_X2_heat_48 hI haa v1 v2 (0 : Int32) s _ h kb ke
def f_X2_heat_4 (aa : Nat) (s : fm_M) (v1 : Int32) (v2 : Int32) : Option ((fm_M × Int32 × Int32) ⊕ (fm_M × Int32 × Int32)) :=
  if (s 6 2) ≤ v2 then some (.inr (s, v1, v2)) else if (6 : Int32) ≤ v2 then some (.inr (s, v1, v2)) else if fm_in v2 6 = true then if (s 7 v2.toNatClampNeg) = (2 : Int32) then if ((s aa 8) - (s aa 8) / (2 : Int32) * (2 : Int32)) = 0 then f_X2_heat_47 aa v1 v2 s else f_X2_heat_48 aa v1 v2 (1 : Int32) s else f_X2_heat_47 aa v1 v2 s else none
set_option maxHeartbeats 4000000 in
theorem t_X2_heat_4 {w : fm_W} {l : Launch} {o : fm_O} (hI : fm_I w 105) {aa : Nat} (haa : isH aa) (s : fm_M) (v1 : Int32) (v2 : Int32) (z : (fm_M × Int32 × Int32) ⊕ (fm_M × Int32 × Int32)) (h : f_X2_heat_4 aa s v1 v2 = some z) (kb : ∀ (s : fm_M) (u1 : Int32) (u2 : Int32), z = .inl (s, u1, u2) → fm_V w layX 105 l rm_X2_heat cX2_heat 4 RX2 (some .int) o 4 [some (.ref (fm_ad w aa)), some (.int u1), some (.int u2), none] [] s) (ke : ∀ (s : fm_M) (u1 : Int32) (u2 : Int32), z = .inr (s, u1, u2) → fm_V w layX 105 l rm_X2_heat cX2_heat 4 RX2 (some .int) o 115 [some (.ref (fm_ad w aa)), some (.int u1), some (.int u2), none] [] s) : fm_V w layX 105 l rm_X2_heat cX2_heat 4 RX2 (some .int) o 4 [some (.ref (fm_ad w aa)), some (.int v1), some (.int v2), none] [] s := by
  unfold f_X2_heat_4 at h
  refine v_iload_n 2 dX2_heat_4 rfl rfl ?_
  refine v_aload_n 0 dX2_heat_5 rfl rfl ?_
  refine v_getr 6 g_X2_30 haa.1 (isH.lt (j := 0) haa (by decide)) rfl dX2_heat_6 ?_
  refine v_geti g_X2_54 yX_6 (by decide) rfl dX2_heat_9 ?_
  refine v_icmp_ge 115 dX2_heat_12 (by decide) h (fun h => ?_) (fun h => ?_)
  · refine v_lw [some (.ref (fm_ad w aa)), some (.int v1), some (.int v2), none] rfl ⟨rfl, rfl, rfl, trivial⟩ ?_
    exact ke _ _ _ (Option.some.inj h).symm
  · refine v_iload_n 2 dX2_heat_15 rfl rfl ?_
    refine v_bipush (6 : Int32) dX2_heat_16 (by decide) ?_
    refine v_icmp_ge 115 dX2_heat_18 (by decide) h (fun h => ?_) (fun h => ?_)
    · refine v_lw [some (.ref (fm_ad w aa)), some (.int v1), some (.int v2), none] rfl ⟨rfl, rfl, rfl, trivial⟩ ?_
      exact ke _ _ _ (Option.some.inj h).symm
    · refine v_aload_n 0 dX2_heat_21 rfl rfl ?_
      refine v_getr 6 g_X2_30 haa.1 (isH.lt (j := 0) haa (by decide)) rfl dX2_heat_22 ?_
      refine v_getr 7 g_X2_73 yX_6 (by decide) rfl dX2_heat_25 ?_
      refine v_iload_n 2 dX2_heat_28 rfl rfl ?_
      obtain ⟨hi, h⟩ := fm_ift h
      refine v_iald (Or.inl ⟨(by decide), yX_7⟩) hi dX2_heat_29 ?_
      refine v_iconst (2 : Int32) dX2_heat_30 (by decide) ?_
      refine v_icmp_ne 47 dX2_heat_31 (by decide) h (fun h => ?_) (fun h => ?_)
      · refine v_lw [some (.ref (fm_ad w aa)), some (.int v1), some (.int v2), none] rfl ⟨rfl, rfl, rfl, trivial⟩ ?_
        exact t_X2_heat_47 hI haa v1 v2 s _ h kb ke
      · refine v_aload_n 0 dX2_heat_34 rfl rfl ?_
        refine v_geti g_X2_38 haa.1 (isH.lt (j := 0) haa (by decide)) rfl dX2_heat_35 ?_
        refine v_iconst (2 : Int32) dX2_heat_38 (by decide) ?_
        refine v_irem dX2_heat_39 (by decide) ?_
        refine v_if_eq 47 dX2_heat_40 (by decide) h (fun h => ?_) (fun h => ?_)
        · refine v_lw [some (.ref (fm_ad w aa)), some (.int v1), some (.int v2), none] rfl ⟨rfl, rfl, rfl, trivial⟩ ?_
          exact t_X2_heat_47 hI haa v1 v2 s _ h kb ke
        · refine v_iconst (1 : Int32) dX2_heat_43 (by decide) ?_
          refine v_goto 48 dX2_heat_44 (by decide) ?_
          refine v_lw [some (.ref (fm_ad w aa)), some (.int v1), some (.int v2), none] rfl ⟨rfl, rfl, rfl, trivial⟩ ?_
          exact t_X2_heat_48 hI haa v1 v2 (1 : Int32) s _ h kb ke
set_option maxHeartbeats 4000000 in
theorem i_X2_heat_4 {w : fm_W} {l : Launch} {o : fm_O} (hI : fm_I w 105) {aa : Nat} (haa : isH aa) (n : Nat) (s : fm_M) (v1 : Int32) (v2 : Int32) (q : fm_M × Int32 × Int32) (h : fm_it (fun s => f_X2_heat_4 aa s.1 s.2.1 s.2.2) n (s, v1, v2) = some q) (ke : ∀ (s : fm_M) (u1 : Int32) (u2 : Int32), q = (s, u1, u2) → fm_V w layX 105 l rm_X2_heat cX2_heat 4 RX2 (some .int) o 115 [some (.ref (fm_ad w aa)), some (.int u1), some (.int u2), none] [] s) : fm_V w layX 105 l rm_X2_heat cX2_heat 4 RX2 (some .int) o 4 [some (.ref (fm_ad w aa)), some (.int v1), some (.int v2), none] [] s :=
  fm_it_loop (body := (fun s => f_X2_heat_4 aa s.1 s.2.1 s.2.2)) (P := fun s => fm_V w layX 105 l rm_X2_heat cX2_heat 4 RX2 (some .int) o 4 [some (.ref (fm_ad w aa)), some (.int s.2.1), some (.int s.2.2), none] [] s.1) (K := (fun q : fm_M × Int32 × Int32 => (∀ (s : fm_M) (u1 : Int32) (u2 : Int32), q = (s, u1, u2) → fm_V w layX 105 l rm_X2_heat cX2_heat 4 RX2 (some .int) o 115 [some (.ref (fm_ad w aa)), some (.int u1), some (.int u2), none] [] s))) (fun s z hb kl kx => t_X2_heat_4 hI haa s.1 s.2.1 s.2.2 z hb (fun s u1 u2 e => kl _ e) (fun s u1 u2 e => (kx _ e) s u1 u2 rfl)) n (s, v1, v2) q h ke
def f_X2_heat_115 (aa : Nat) (v1 : Int32) (s : fm_M) : Option (Int32 × fm_M) :=
  some (v1, s)
set_option maxHeartbeats 4000000 in
theorem t_X2_heat_115 {w : fm_W} {l : Launch} {o : fm_O} (hI : fm_I w 105) {aa : Nat} (haa : isH aa) (v1 : Int32) (s : fm_M) (z : Int32 × fm_M) (h : f_X2_heat_115 aa v1 s = some z) (ho : ∀ (r : Int32) (s : fm_M), z = (r, s) → o = (some (.int r), s)) : fm_V w layX 105 l rm_X2_heat cX2_heat 4 RX2 (some .int) o 115 [none, some (.int v1), none, none] [] s := by
  unfold f_X2_heat_115 at h
  refine v_iload_n 1 dX2_heat_115 rfl rfl ?_
  exact v_iret rfl (ho _ _ (Option.some.inj h).symm) dX2_heat_116
def f_X2_heat (aa : Nat) (s : fm_M) : Option (Int32 × fm_M) :=
  fm_op (fm_it (fun (yy : fm_M × Int32 × Int32) => f_X2_heat_4 aa yy.1 yy.2.1 yy.2.2) fm_fu (s, (0 : Int32), (0 : Int32))) (fun q1 => ((fun (s1 : fm_M) (x1_1 : Int32) (x1_2 : Int32) => f_X2_heat_115 aa x1_1 s1)) q1.1 q1.2.1 q1.2.2)
set_option maxHeartbeats 4000000 in
theorem e_X2_heat {w : fm_W} {l : Launch} {o : fm_O} (hI : fm_I w 105) {aa : Nat} (haa : isH aa) (s : fm_M) (z : Int32 × fm_M) (h : f_X2_heat aa s = some z) (ho : ∀ (r : Int32) (s : fm_M), z = (r, s) → o = (some (.int r), s)) : fm_V w layX 105 l rm_X2_heat cX2_heat 4 RX2 (some .int) o 0 [some (.ref (fm_ad w aa)), none, none, none] [] s := by
  unfold f_X2_heat at h
  refine v_iconst (0 : Int32) dX2_heat_0 (by decide) ?_
  refine v_istore_n (lv' := [some (.ref (fm_ad w aa)), some (.int (0 : Int32)), none, none]) 1 dX2_heat_1 rfl (by decide) rfl rfl ?_
  refine v_iconst (0 : Int32) dX2_heat_2 (by decide) ?_
  refine v_istore_n (lv' := [some (.ref (fm_ad w aa)), some (.int (0 : Int32)), some (.int (0 : Int32)), none]) 2 dX2_heat_3 rfl (by decide) rfl rfl ?_
  obtain ⟨q1, h1, h⟩ := fm_ops h
  refine v_lw [some (.ref (fm_ad w aa)), some (.int (0 : Int32)), some (.int (0 : Int32)), none] rfl ⟨rfl, rfl, rfl, trivial⟩ ?_
  refine i_X2_heat_4 hI haa _ _ _ _ _ h1 (fun s1 x1_1 x1_2 e => ?_)
  subst e
  dsimp only at h
  refine v_lw [none, some (.int x1_1), none, none] rfl ⟨rfl, trivial⟩ ?_
  exact t_X2_heat_115 hI haa x1_1 s1 _ h ho
theorem c_X2_heat {w : fm_W} {l : Launch} (hI : fm_I w 105) {aa : Nat} (haa : isH aa) {s : fm_M} {r : Int32} {s2 : fm_M} (h : f_X2_heat aa s = some (r, s2)) : fm_C w layX 105 l yX2_heat cX2_heat 4 (some .int) rm_X2_heat [.ref (fm_ad w aa)] s (some (.int r), s2) :=
  fm_of hI (by decide) rfl (Nat.le_of_ble_eq_true rfl) (e_X2_heat hI haa s _ h (fun r s e => by cases e; rfl))
-- X2_hasWoman
abbrev rm_X2_hasWoman : Room := { frames := 0, cells := 0, slots := 0, locals := 0 }
def f_X2_hasWoman_22 (aa : Nat) (sk0 : Int32) (s : fm_M) : Option (Int32 × fm_M) :=
  if fm_b sk0 = true then some (sk0, s) else none
set_option maxHeartbeats 4000000 in
theorem t_X2_hasWoman_22 {w : fm_W} {l : Launch} {o : fm_O} (hI : fm_I w 105) {aa : Nat} (haa : isH aa) (sk0 : Int32) (s : fm_M) (z : Int32 × fm_M) (h : f_X2_hasWoman_22 aa sk0 s = some z) (ho : ∀ (r : Int32) (s : fm_M), z = (r, s) → o = (some (.int r), s)) : fm_V w layX 105 l rm_X2_hasWoman cX2_hasWoman 2 RX2 (some .boolean) o 22 [none, none] [.int sk0] s := by
  unfold f_X2_hasWoman_22 at h
  obtain ⟨hb, h⟩ := fm_ift h
  exact v_zret rfl (fm_b_nar hb).1 (ho _ _ (Option.some.inj h).symm) dX2_hasWoman_22
def f_X2_hasWoman_21 (aa : Nat) (s : fm_M) : Option (Int32 × fm_M) :=
  f_X2_hasWoman_22 aa (0 : Int32) s
set_option maxHeartbeats 4000000 in
theorem t_X2_hasWoman_21 {w : fm_W} {l : Launch} {o : fm_O} (hI : fm_I w 105) {aa : Nat} (haa : isH aa) (s : fm_M) (z : Int32 × fm_M) (h : f_X2_hasWoman_21 aa s = some z) (ho : ∀ (r : Int32) (s : fm_M), z = (r, s) → o = (some (.int r), s)) : fm_V w layX 105 l rm_X2_hasWoman cX2_hasWoman 2 RX2 (some .boolean) o 21 [none, none] [] s := by
  unfold f_X2_hasWoman_21 at h
  refine v_iconst (0 : Int32) dX2_hasWoman_21 (by decide) ?_
  refine v_lw [none, none] rfl trivial ?_
  exact t_X2_hasWoman_22 hI haa (0 : Int32) s _ h ho
def f_X2_hasWoman (aa : Nat) (v1 : Int32) (s : fm_M) : Option (Int32 × fm_M) :=
  if v1 < 0 then f_X2_hasWoman_21 aa s else if (s aa 7) ≤ v1 then f_X2_hasWoman_21 aa s else if (3 : Int32) ≤ v1 then f_X2_hasWoman_21 aa s else f_X2_hasWoman_22 aa (1 : Int32) s
set_option maxHeartbeats 4000000 in
theorem e_X2_hasWoman {w : fm_W} {l : Launch} {o : fm_O} (hI : fm_I w 105) {aa : Nat} (haa : isH aa) (v1 : Int32) (s : fm_M) (z : Int32 × fm_M) (h : f_X2_hasWoman aa v1 s = some z) (ho : ∀ (r : Int32) (s : fm_M), z = (r, s) → o = (some (.int r), s)) : fm_V w layX 105 l rm_X2_hasWoman cX2_hasWoman 2 RX2 (some .boolean) o 0 [some (.ref (fm_ad w aa)), some (.int v1)] [] s := by
  unfold f_X2_hasWoman at h
  refine v_iload_n 1 dX2_hasWoman_0 rfl rfl ?_
  refine v_if_lt 21 dX2_hasWoman_1 (by decide) h (fun h => ?_) (fun h => ?_)
  · refine v_lw [none, none] rfl trivial ?_
    exact t_X2_hasWoman_21 hI haa s _ h ho
  · refine v_iload_n 1 dX2_hasWoman_4 rfl rfl ?_
    refine v_aload_n 0 dX2_hasWoman_5 rfl rfl ?_
    refine v_geti g_X2_34 haa.1 (isH.lt (j := 0) haa (by decide)) rfl dX2_hasWoman_6 ?_
    refine v_icmp_ge 21 dX2_hasWoman_9 (by decide) h (fun h => ?_) (fun h => ?_)
    · refine v_lw [none, none] rfl trivial ?_
      exact t_X2_hasWoman_21 hI haa s _ h ho
    · refine v_iload_n 1 dX2_hasWoman_12 rfl rfl ?_
      refine v_iconst (3 : Int32) dX2_hasWoman_13 (by decide) ?_
      refine v_icmp_ge 21 dX2_hasWoman_14 (by decide) h (fun h => ?_) (fun h => ?_)
      · refine v_lw [none, none] rfl trivial ?_
        exact t_X2_hasWoman_21 hI haa s _ h ho
      · refine v_iconst (1 : Int32) dX2_hasWoman_17 (by decide) ?_
        refine v_goto 22 dX2_hasWoman_18 (by decide) ?_
        refine v_lw [none, none] rfl trivial ?_
        exact t_X2_hasWoman_22 hI haa (1 : Int32) s _ h ho
theorem c_X2_hasWoman {w : fm_W} {l : Launch} (hI : fm_I w 105) {aa : Nat} (haa : isH aa) {v1 : Int32} {s : fm_M} {r : Int32} {s2 : fm_M} (h : f_X2_hasWoman aa v1 s = some (r, s2)) : fm_C w layX 105 l yX2_hasWoman cX2_hasWoman 2 (some .boolean) rm_X2_hasWoman [.ref (fm_ad w aa), .int v1] s (some (.int r), s2) :=
  fm_of hI (by decide) rfl (Nat.le_of_ble_eq_true rfl) (e_X2_hasWoman hI haa v1 s _ h (fun r s e => by cases e; rfl))
-- X2_finish
abbrev rm_X2_finish : Room := { frames := 1, cells := 0, slots := 0, locals := 21 }
def f_X2_finish_67 (aa : Nat) (v1 : Int32) (s : fm_M) : Option (Int32 × fm_M) :=
  if fm_in v1 3 = true then if fm_in v1 3 = true then some (0, (fm_up (fm_up s (aa + 4) v1.toNatClampNeg (0 : Int32)) (aa + 6) v1.toNatClampNeg (-4 : Int32))) else none else none
set_option maxHeartbeats 4000000 in
theorem t_X2_finish_67 {w : fm_W} {l : Launch} {o : fm_O} (hI : fm_I w 105) {aa : Nat} (haa : isH aa) (v1 : Int32) (s : fm_M) (z : Int32 × fm_M) (h : f_X2_finish_67 aa v1 s = some z) (ho : ∀ (r : Int32) (s : fm_M), z = (r, s) → o = (none, s)) : fm_V w layX 105 l rm_X2_finish cX2_finish 2 RX2 none o 67 [some (.ref (fm_ad w aa)), some (.int v1)] [] s := by
  unfold f_X2_finish_67 at h
  refine v_aload_n 0 dX2_finish_67 rfl rfl ?_
  refine v_getr (aa + 4) g_X2_21 haa.1 (isH.lt (j := 0) haa (by decide)) rfl dX2_finish_68 ?_
  refine v_iload_n 1 dX2_finish_71 rfl rfl ?_
  refine v_iconst (0 : Int32) dX2_finish_72 (by decide) ?_
  obtain ⟨hi, h⟩ := fm_ift h
  refine v_iast (isH.lt (j := 4) haa (by decide)) (isH.a4 haa) hi dX2_finish_73 ?_
  refine v_aload_n 0 dX2_finish_74 rfl rfl ?_
  refine v_getr (aa + 6) g_X2_27 haa.1 (isH.lt (j := 0) haa (by decide)) rfl dX2_finish_75 ?_
  refine v_iload_n 1 dX2_finish_78 rfl rfl ?_
  refine v_bipush (-4 : Int32) dX2_finish_79 (by decide) ?_
  obtain ⟨hi, h⟩ := fm_ift h
  refine v_iast (isH.lt (j := 6) haa (by decide)) (isH.a6 haa) hi dX2_finish_81 ?_
  exact v_vret rfl (ho _ _ (Option.some.inj h).symm) dX2_finish_82
def f_X2_finish (aa : Nat) (v1 : Int32) (s : fm_M) : Option (Int32 × fm_M) :=
  fm_bd (f_X2_hasWoman aa v1 s) (fun r1 s1 => if r1 = 0 then some (0, s1) else if fm_in v1 3 = true then if (s1 (aa + 4) v1.toNatClampNeg) = (2 : Int32) then f_X2_finish_67 aa v1 (fm_up s1 aa 9 (1 : Int32)) else if fm_in v1 3 = true then fm_bd (f_X4_hasChild 6 (s1 (aa + 6) v1.toNatClampNeg) s1) (fun r2 s2 => if r2 = 0 then f_X2_finish_67 aa v1 s2 else if fm_in v1 3 = true then if fm_in (s2 (aa + 6) v1.toNatClampNeg) 6 = true then if fm_in v1 3 = true then if fm_in ((fm_up s2 (aa + 1) (s2 (aa + 6) v1.toNatClampNeg).toNatClampNeg (2 : Int32)) (aa + 6) v1.toNatClampNeg) 6 = true then f_X2_finish_67 aa v1 (fm_up (fm_up s2 (aa + 1) (s2 (aa + 6) v1.toNatClampNeg).toNatClampNeg (2 : Int32)) (aa + 2) ((fm_up s2 (aa + 1) (s2 (aa + 6) v1.toNatClampNeg).toNatClampNeg (2 : Int32)) (aa + 6) v1.toNatClampNeg).toNatClampNeg (0 : Int32)) else none else none else none else none) else none else none)
set_option maxHeartbeats 4000000 in
theorem e_X2_finish {w : fm_W} {l : Launch} {o : fm_O} (hI : fm_I w 105) {aa : Nat} (haa : isH aa) (v1 : Int32) (s : fm_M) (z : Int32 × fm_M) (h : f_X2_finish aa v1 s = some z) (ho : ∀ (r : Int32) (s : fm_M), z = (r, s) → o = (none, s)) : fm_V w layX 105 l rm_X2_finish cX2_finish 2 RX2 none o 0 [some (.ref (fm_ad w aa)), some (.int v1)] [] s := by
  unfold f_X2_finish at h
  refine v_aload_n 0 dX2_finish_0 rfl rfl ?_
  refine v_iload_n 1 dX2_finish_1 rfl rfl ?_
  obtain ⟨r1, s1, h1, h⟩ := fm_bds h
  refine v_cVi [.int v1] [] l_X2_123 (c_X2_hasWoman hI haa h1) haa.1 (isH.lt (j := 0) haa (by decide)) rfl rfl ⟨rfl, rfl, by decide, by decide⟩ (Nat.le_of_ble_eq_true rfl) dX2_finish_2 ?_
  refine v_if_ne 9 dX2_finish_5 (by decide) h (fun h => ?_) (fun h => ?_)
  · refine v_aload_n 0 dX2_finish_9 rfl rfl ?_
    refine v_getr (aa + 4) g_X2_21 haa.1 (isH.lt (j := 0) haa (by decide)) rfl dX2_finish_10 ?_
    refine v_iload_n 1 dX2_finish_13 rfl rfl ?_
    obtain ⟨hi, h⟩ := fm_ift h
    refine v_iald (Or.inl ⟨(isH.lt (j := 4) haa (by decide)), (isH.a4 haa)⟩) hi dX2_finish_14 ?_
    refine v_iconst (2 : Int32) dX2_finish_15 (by decide) ?_
    refine v_icmp_ne 27 dX2_finish_16 (by decide) h (fun h => ?_) (fun h => ?_)
    · refine v_aload_n 0 dX2_finish_27 rfl rfl ?_
      refine v_getr 6 g_X2_30 haa.1 (isH.lt (j := 0) haa (by decide)) rfl dX2_finish_28 ?_
      refine v_aload_n 0 dX2_finish_31 rfl rfl ?_
      refine v_getr (aa + 6) g_X2_27 haa.1 (isH.lt (j := 0) haa (by decide)) rfl dX2_finish_32 ?_
      refine v_iload_n 1 dX2_finish_35 rfl rfl ?_
      obtain ⟨hi, h⟩ := fm_ift h
      refine v_iald (Or.inl ⟨(isH.lt (j := 6) haa (by decide)), (isH.a6 haa)⟩) hi dX2_finish_36 ?_
      obtain ⟨r2, s2, h2, h⟩ := fm_bds h
      refine v_cVi [.int (s1 (aa + 6) v1.toNatClampNeg)] [] l_X2_70 (c_X4_hasChild hI isPl_6 h2) yX_6 (by decide) rfl rfl ⟨rfl, rfl, by decide, by decide⟩ (Nat.le_of_ble_eq_true rfl) dX2_finish_37 ?_
      refine v_if_eq 67 dX2_finish_40 (by decide) h (fun h => ?_) (fun h => ?_)
      · refine v_lw [some (.ref (fm_ad w aa)), some (.int v1)] rfl ⟨rfl, rfl, trivial⟩ ?_
        exact t_X2_finish_67 hI haa v1 s2 _ h ho
      · refine v_aload_n 0 dX2_finish_43 rfl rfl ?_
        refine v_getr (aa + 1) g_X2_9 haa.1 (isH.lt (j := 0) haa (by decide)) rfl dX2_finish_44 ?_
        refine v_aload_n 0 dX2_finish_47 rfl rfl ?_
        refine v_getr (aa + 6) g_X2_27 haa.1 (isH.lt (j := 0) haa (by decide)) rfl dX2_finish_48 ?_
        refine v_iload_n 1 dX2_finish_51 rfl rfl ?_
        obtain ⟨hi, h⟩ := fm_ift h
        refine v_iald (Or.inl ⟨(isH.lt (j := 6) haa (by decide)), (isH.a6 haa)⟩) hi dX2_finish_52 ?_
        refine v_iconst (2 : Int32) dX2_finish_53 (by decide) ?_
        obtain ⟨hi, h⟩ := fm_ift h
        refine v_iast (isH.lt (j := 1) haa (by decide)) (isH.a1 haa) hi dX2_finish_54 ?_
        refine v_aload_n 0 dX2_finish_55 rfl rfl ?_
        refine v_getr (aa + 2) g_X2_15 haa.1 (isH.lt (j := 0) haa (by decide)) rfl dX2_finish_56 ?_
        refine v_aload_n 0 dX2_finish_59 rfl rfl ?_
        refine v_getr (aa + 6) g_X2_27 haa.1 (isH.lt (j := 0) haa (by decide)) rfl dX2_finish_60 ?_
        refine v_iload_n 1 dX2_finish_63 rfl rfl ?_
        obtain ⟨hi, h⟩ := fm_ift h
        refine v_iald (Or.inl ⟨(isH.lt (j := 6) haa (by decide)), (isH.a6 haa)⟩) hi dX2_finish_64 ?_
        refine v_iconst (0 : Int32) dX2_finish_65 (by decide) ?_
        obtain ⟨hi, h⟩ := fm_ift h
        refine v_iast (isH.lt (j := 2) haa (by decide)) (isH.a2 haa) hi dX2_finish_66 ?_
        refine v_lw [some (.ref (fm_ad w aa)), some (.int v1)] rfl ⟨rfl, rfl, trivial⟩ ?_
        exact t_X2_finish_67 hI haa v1 (fm_up (fm_up s2 (aa + 1) (s2 (aa + 6) v1.toNatClampNeg).toNatClampNeg (2 : Int32)) (aa + 2) ((fm_up s2 (aa + 1) (s2 (aa + 6) v1.toNatClampNeg).toNatClampNeg (2 : Int32)) (aa + 6) v1.toNatClampNeg).toNatClampNeg (0 : Int32)) _ h ho
    · refine v_aload_n 0 dX2_finish_19 rfl rfl ?_
      refine v_iconst (1 : Int32) dX2_finish_20 (by decide) ?_
      refine v_put p_X2_41 haa.1 (isH.lt (j := 0) haa (by decide)) rfl ⟨by decide, by decide⟩ dX2_finish_21 ?_
      refine v_goto 67 dX2_finish_24 (by decide) ?_
      refine v_lw [some (.ref (fm_ad w aa)), some (.int v1)] rfl ⟨rfl, rfl, trivial⟩ ?_
      exact t_X2_finish_67 hI haa v1 (fm_up s1 aa 9 (1 : Int32)) _ h ho
  · exact v_vret rfl (ho _ _ (Option.some.inj h).symm) dX2_finish_8
theorem c_X2_finish {w : fm_W} {l : Launch} (hI : fm_I w 105) {aa : Nat} (haa : isH aa) {v1 : Int32} {s : fm_M} {r : Int32} {s2 : fm_M} (h : f_X2_finish aa v1 s = some (r, s2)) : fm_C w layX 105 l yX2_finish cX2_finish 2 none rm_X2_finish [.ref (fm_ad w aa), .int v1] s (none, s2) :=
  fm_of hI (by decide) rfl (Nat.le_of_ble_eq_true rfl) (e_X2_finish hI haa v1 s _ h (fun r s e => by cases e; rfl))
-- X2_work
abbrev rm_X2_work : Room := { frames := 2, cells := 0, slots := 0, locals := 42 }
def f_X2_work_59 (aa : Nat) (v1 : Int32) (s : fm_M) : Option ((fm_M × Int32) ⊕ (fm_M × Int32)) :=
  some (.inl (s, (v1 + (1 : Int32))))
set_option maxHeartbeats 4000000 in
theorem t_X2_work_59 {w : fm_W} {l : Launch} {o : fm_O} (hI : fm_I w 105) {aa : Nat} (haa : isH aa) (v1 : Int32) (s : fm_M) (z : (fm_M × Int32) ⊕ (fm_M × Int32)) (h : f_X2_work_59 aa v1 s = some z) (kb : ∀ (s : fm_M) (u1 : Int32), z = .inl (s, u1) → fm_V w layX 105 l rm_X2_work cX2_work 2 RX2 none o 2 [some (.ref (fm_ad w aa)), some (.int u1)] [] s) (ke : ∀ (s : fm_M) (u1 : Int32), z = .inr (s, u1) → fm_V w layX 105 l rm_X2_work cX2_work 2 RX2 none o 65 [some (.ref (fm_ad w aa)), some (.int u1)] [] s) : fm_V w layX 105 l rm_X2_work cX2_work 2 RX2 none o 59 [some (.ref (fm_ad w aa)), some (.int v1)] [] s := by
  unfold f_X2_work_59 at h
  refine v_iinc (lv' := [some (.ref (fm_ad w aa)), some (.int (v1 + (1 : Int32)))]) (1 : Int32) dX2_work_59 rfl (by decide) (by decide) rfl rfl ?_
  refine v_goto 2 dX2_work_62 (by decide) ?_
  refine v_lw [some (.ref (fm_ad w aa)), some (.int (v1 + (1 : Int32)))] rfl ⟨rfl, rfl, trivial⟩ ?_
  exact kb _ _ (Option.some.inj h).symm
def f_X2_work_35 (aa : Nat) (v1 : Int32) (s : fm_M) : Option ((fm_M × Int32) ⊕ (fm_M × Int32)) :=
  if fm_in v1 3 = true then if fm_in v1 3 = true then if fm_in v1 3 = true then if 0 < ((fm_up s (aa + 5) v1.toNatClampNeg ((s (aa + 5) v1.toNatClampNeg) - (1 : Int32))) (aa + 5) v1.toNatClampNeg) then f_X2_work_59 aa v1 (fm_up s (aa + 5) v1.toNatClampNeg ((s (aa + 5) v1.toNatClampNeg) - (1 : Int32))) else fm_bd (f_X2_finish aa v1 (fm_up s (aa + 5) v1.toNatClampNeg ((s (aa + 5) v1.toNatClampNeg) - (1 : Int32)))) (fun r1 s1 => f_X2_work_59 aa v1 s1) else none else none else none
set_option maxHeartbeats 4000000 in
theorem t_X2_work_35 {w : fm_W} {l : Launch} {o : fm_O} (hI : fm_I w 105) {aa : Nat} (haa : isH aa) (v1 : Int32) (s : fm_M) (z : (fm_M × Int32) ⊕ (fm_M × Int32)) (h : f_X2_work_35 aa v1 s = some z) (kb : ∀ (s : fm_M) (u1 : Int32), z = .inl (s, u1) → fm_V w layX 105 l rm_X2_work cX2_work 2 RX2 none o 2 [some (.ref (fm_ad w aa)), some (.int u1)] [] s) (ke : ∀ (s : fm_M) (u1 : Int32), z = .inr (s, u1) → fm_V w layX 105 l rm_X2_work cX2_work 2 RX2 none o 65 [some (.ref (fm_ad w aa)), some (.int u1)] [] s) : fm_V w layX 105 l rm_X2_work cX2_work 2 RX2 none o 35 [some (.ref (fm_ad w aa)), some (.int v1)] [] s := by
  unfold f_X2_work_35 at h
  refine v_aload_n 0 dX2_work_35 rfl rfl ?_
  refine v_getr (aa + 5) g_X2_24 haa.1 (isH.lt (j := 0) haa (by decide)) rfl dX2_work_36 ?_
  refine v_iload_n 1 dX2_work_39 rfl rfl ?_
  refine v_dup2 dX2_work_40 rfl rfl ?_
  obtain ⟨hi, h⟩ := fm_ift h
  refine v_iald (Or.inl ⟨(isH.lt (j := 5) haa (by decide)), (isH.a5 haa)⟩) hi dX2_work_41 ?_
  refine v_iconst (1 : Int32) dX2_work_42 (by decide) ?_
  refine v_isub dX2_work_43 ?_
  obtain ⟨hi, h⟩ := fm_ift h
  refine v_iast (isH.lt (j := 5) haa (by decide)) (isH.a5 haa) hi dX2_work_44 ?_
  refine v_aload_n 0 dX2_work_45 rfl rfl ?_
  refine v_getr (aa + 5) g_X2_24 haa.1 (isH.lt (j := 0) haa (by decide)) rfl dX2_work_46 ?_
  refine v_iload_n 1 dX2_work_49 rfl rfl ?_
  obtain ⟨hi, h⟩ := fm_ift h
  refine v_iald (Or.inl ⟨(isH.lt (j := 5) haa (by decide)), (isH.a5 haa)⟩) hi dX2_work_50 ?_
  refine v_if_gt 59 dX2_work_51 (by decide) h (fun h => ?_) (fun h => ?_)
  · refine v_lw [some (.ref (fm_ad w aa)), some (.int v1)] rfl ⟨rfl, rfl, trivial⟩ ?_
    exact t_X2_work_59 hI haa v1 (fm_up s (aa + 5) v1.toNatClampNeg ((s (aa + 5) v1.toNatClampNeg) - (1 : Int32))) _ h kb ke
  · refine v_aload_n 0 dX2_work_54 rfl rfl ?_
    refine v_iload_n 1 dX2_work_55 rfl rfl ?_
    obtain ⟨r1, s1, h1, h⟩ := fm_bds h
    refine v_cVv [.int v1] [] l_X2_119 (c_X2_finish hI haa h1) haa.1 (isH.lt (j := 0) haa (by decide)) rfl rfl ⟨rfl, rfl, by decide, by decide⟩ (Nat.le_of_ble_eq_true rfl) dX2_work_56 ?_
    refine v_lw [some (.ref (fm_ad w aa)), some (.int v1)] rfl ⟨rfl, rfl, trivial⟩ ?_
    exact t_X2_work_59 hI haa v1 s1 _ h kb ke
def f_X2_work_2 (aa : Nat) (s : fm_M) (v1 : Int32) : Option ((fm_M × Int32) ⊕ (fm_M × Int32)) :=
  if (s aa 7) ≤ v1 then some (.inr (s, v1)) else if (3 : Int32) ≤ v1 then some (.inr (s, v1)) else if fm_in v1 3 = true then if (s (aa + 4) v1.toNatClampNeg) = (1 : Int32) then f_X2_work_35 aa v1 s else if fm_in v1 3 = true then if (s (aa + 4) v1.toNatClampNeg) = (2 : Int32) then f_X2_work_35 aa v1 s else f_X2_work_59 aa v1 s else none else none
set_option maxHeartbeats 4000000 in
theorem t_X2_work_2 {w : fm_W} {l : Launch} {o : fm_O} (hI : fm_I w 105) {aa : Nat} (haa : isH aa) (s : fm_M) (v1 : Int32) (z : (fm_M × Int32) ⊕ (fm_M × Int32)) (h : f_X2_work_2 aa s v1 = some z) (kb : ∀ (s : fm_M) (u1 : Int32), z = .inl (s, u1) → fm_V w layX 105 l rm_X2_work cX2_work 2 RX2 none o 2 [some (.ref (fm_ad w aa)), some (.int u1)] [] s) (ke : ∀ (s : fm_M) (u1 : Int32), z = .inr (s, u1) → fm_V w layX 105 l rm_X2_work cX2_work 2 RX2 none o 65 [some (.ref (fm_ad w aa)), some (.int u1)] [] s) : fm_V w layX 105 l rm_X2_work cX2_work 2 RX2 none o 2 [some (.ref (fm_ad w aa)), some (.int v1)] [] s := by
  unfold f_X2_work_2 at h
  refine v_iload_n 1 dX2_work_2 rfl rfl ?_
  refine v_aload_n 0 dX2_work_3 rfl rfl ?_
  refine v_geti g_X2_34 haa.1 (isH.lt (j := 0) haa (by decide)) rfl dX2_work_4 ?_
  refine v_icmp_ge 65 dX2_work_7 (by decide) h (fun h => ?_) (fun h => ?_)
  · refine v_lw [some (.ref (fm_ad w aa)), some (.int v1)] rfl ⟨rfl, rfl, trivial⟩ ?_
    exact ke _ _ (Option.some.inj h).symm
  · refine v_iload_n 1 dX2_work_10 rfl rfl ?_
    refine v_iconst (3 : Int32) dX2_work_11 (by decide) ?_
    refine v_icmp_ge 65 dX2_work_12 (by decide) h (fun h => ?_) (fun h => ?_)
    · refine v_lw [some (.ref (fm_ad w aa)), some (.int v1)] rfl ⟨rfl, rfl, trivial⟩ ?_
      exact ke _ _ (Option.some.inj h).symm
    · refine v_aload_n 0 dX2_work_15 rfl rfl ?_
      refine v_getr (aa + 4) g_X2_21 haa.1 (isH.lt (j := 0) haa (by decide)) rfl dX2_work_16 ?_
      refine v_iload_n 1 dX2_work_19 rfl rfl ?_
      obtain ⟨hi, h⟩ := fm_ift h
      refine v_iald (Or.inl ⟨(isH.lt (j := 4) haa (by decide)), (isH.a4 haa)⟩) hi dX2_work_20 ?_
      refine v_iconst (1 : Int32) dX2_work_21 (by decide) ?_
      refine v_icmp_eq 35 dX2_work_22 (by decide) h (fun h => ?_) (fun h => ?_)
      · refine v_lw [some (.ref (fm_ad w aa)), some (.int v1)] rfl ⟨rfl, rfl, trivial⟩ ?_
        exact t_X2_work_35 hI haa v1 s _ h kb ke
      · refine v_aload_n 0 dX2_work_25 rfl rfl ?_
        refine v_getr (aa + 4) g_X2_21 haa.1 (isH.lt (j := 0) haa (by decide)) rfl dX2_work_26 ?_
        refine v_iload_n 1 dX2_work_29 rfl rfl ?_
        obtain ⟨hi, h⟩ := fm_ift h
        refine v_iald (Or.inl ⟨(isH.lt (j := 4) haa (by decide)), (isH.a4 haa)⟩) hi dX2_work_30 ?_
        refine v_iconst (2 : Int32) dX2_work_31 (by decide) ?_
        refine v_icmp_ne 59 dX2_work_32 (by decide) h (fun h => ?_) (fun h => ?_)
        · refine v_lw [some (.ref (fm_ad w aa)), some (.int v1)] rfl ⟨rfl, rfl, trivial⟩ ?_
          exact t_X2_work_59 hI haa v1 s _ h kb ke
        · refine v_lw [some (.ref (fm_ad w aa)), some (.int v1)] rfl ⟨rfl, rfl, trivial⟩ ?_
          exact t_X2_work_35 hI haa v1 s _ h kb ke
set_option maxHeartbeats 4000000 in
theorem i_X2_work_2 {w : fm_W} {l : Launch} {o : fm_O} (hI : fm_I w 105) {aa : Nat} (haa : isH aa) (n : Nat) (s : fm_M) (v1 : Int32) (q : fm_M × Int32) (h : fm_it (fun s => f_X2_work_2 aa s.1 s.2) n (s, v1) = some q) (ke : ∀ (s : fm_M) (u1 : Int32), q = (s, u1) → fm_V w layX 105 l rm_X2_work cX2_work 2 RX2 none o 65 [some (.ref (fm_ad w aa)), some (.int u1)] [] s) : fm_V w layX 105 l rm_X2_work cX2_work 2 RX2 none o 2 [some (.ref (fm_ad w aa)), some (.int v1)] [] s :=
  fm_it_loop (body := (fun s => f_X2_work_2 aa s.1 s.2)) (P := fun s => fm_V w layX 105 l rm_X2_work cX2_work 2 RX2 none o 2 [some (.ref (fm_ad w aa)), some (.int s.2)] [] s.1) (K := (fun q : fm_M × Int32 => (∀ (s : fm_M) (u1 : Int32), q = (s, u1) → fm_V w layX 105 l rm_X2_work cX2_work 2 RX2 none o 65 [some (.ref (fm_ad w aa)), some (.int u1)] [] s))) (fun s z hb kl kx => t_X2_work_2 hI haa s.1 s.2 z hb (fun s u1 e => kl _ e) (fun s u1 e => (kx _ e) s u1 rfl)) n (s, v1) q h ke
def f_X2_work_65 (aa : Nat) (s : fm_M) : Option (Int32 × fm_M) :=
  some (0, s)
set_option maxHeartbeats 4000000 in
theorem t_X2_work_65 {w : fm_W} {l : Launch} {o : fm_O} (hI : fm_I w 105) {aa : Nat} (haa : isH aa) (s : fm_M) (z : Int32 × fm_M) (h : f_X2_work_65 aa s = some z) (ho : ∀ (r : Int32) (s : fm_M), z = (r, s) → o = (none, s)) : fm_V w layX 105 l rm_X2_work cX2_work 2 RX2 none o 65 [none, none] [] s := by
  unfold f_X2_work_65 at h
  exact v_vret rfl (ho _ _ (Option.some.inj h).symm) dX2_work_65
def f_X2_work (aa : Nat) (s : fm_M) : Option (Int32 × fm_M) :=
  fm_op (fm_it (fun (yy : fm_M × Int32) => f_X2_work_2 aa yy.1 yy.2) fm_fu (s, (0 : Int32))) (fun q2 => ((fun (s2 : fm_M) (x2_1 : Int32) => f_X2_work_65 aa s2)) q2.1 q2.2)
set_option maxHeartbeats 4000000 in
theorem e_X2_work {w : fm_W} {l : Launch} {o : fm_O} (hI : fm_I w 105) {aa : Nat} (haa : isH aa) (s : fm_M) (z : Int32 × fm_M) (h : f_X2_work aa s = some z) (ho : ∀ (r : Int32) (s : fm_M), z = (r, s) → o = (none, s)) : fm_V w layX 105 l rm_X2_work cX2_work 2 RX2 none o 0 [some (.ref (fm_ad w aa)), none] [] s := by
  unfold f_X2_work at h
  refine v_iconst (0 : Int32) dX2_work_0 (by decide) ?_
  refine v_istore_n (lv' := [some (.ref (fm_ad w aa)), some (.int (0 : Int32))]) 1 dX2_work_1 rfl (by decide) rfl rfl ?_
  obtain ⟨q2, h2, h⟩ := fm_ops h
  refine v_lw [some (.ref (fm_ad w aa)), some (.int (0 : Int32))] rfl ⟨rfl, rfl, trivial⟩ ?_
  refine i_X2_work_2 hI haa _ _ _ _ h2 (fun s2 x2_1 e => ?_)
  subst e
  dsimp only at h
  refine v_lw [none, none] rfl trivial ?_
  exact t_X2_work_65 hI haa s2 _ h ho
theorem c_X2_work {w : fm_W} {l : Launch} (hI : fm_I w 105) {aa : Nat} (haa : isH aa) {s : fm_M} {r : Int32} {s2 : fm_M} (h : f_X2_work aa s = some (r, s2)) : fm_C w layX 105 l yX2_work cX2_work 2 none rm_X2_work [.ref (fm_ad w aa)] s (none, s2) :=
  fm_of hI (by decide) rfl (Nat.le_of_ble_eq_true rfl) (e_X2_work hI haa s _ h (fun r s e => by cases e; rfl))
-- X2_goMinute
abbrev rm_X2_goMinute : Room := { frames := 3, cells := 0, slots := 0, locals := 63 }
def f_X2_goMinute (aa : Nat) (s : fm_M) : Option (Int32 × fm_M) :=
  fm_bd (f_X2_heat aa s) (fun r1 s1 => fm_bd (f_X2_work aa s1) (fun r2 s2 => some (r1, (fm_up (fm_up s2 aa 8 ((s2 aa 8) + (1 : Int32))) aa 10 (((fm_up s2 aa 8 ((s2 aa 8) + (1 : Int32))) aa 10) + (1 : Int32))))))
set_option maxHeartbeats 4000000 in
theorem e_X2_goMinute {w : fm_W} {l : Launch} {o : fm_O} (hI : fm_I w 105) {aa : Nat} (haa : isH aa) (s : fm_M) (z : Int32 × fm_M) (h : f_X2_goMinute aa s = some z) (ho : ∀ (r : Int32) (s : fm_M), z = (r, s) → o = (some (.int r), s)) : fm_V w layX 105 l rm_X2_goMinute cX2_goMinute 2 RX2 (some .int) o 0 [some (.ref (fm_ad w aa)), none] [] s := by
  unfold f_X2_goMinute at h
  refine v_aload_n 0 dX2_goMinute_0 rfl rfl ?_
  obtain ⟨r1, s1, h1, h⟩ := fm_bds h
  refine v_cVi [] [] l_X2_110 (c_X2_heat hI haa h1) haa.1 (isH.lt (j := 0) haa (by decide)) rfl rfl ⟨rfl, rfl, by decide, by decide⟩ (Nat.le_of_ble_eq_true rfl) dX2_goMinute_1 ?_
  refine v_istore_n (lv' := [some (.ref (fm_ad w aa)), some (.int r1)]) 1 dX2_goMinute_4 rfl (by decide) rfl rfl ?_
  refine v_aload_n 0 dX2_goMinute_5 rfl rfl ?_
  obtain ⟨r2, s2, h2, h⟩ := fm_bds h
  refine v_cVv [] [] l_X2_113 (c_X2_work hI haa h2) haa.1 (isH.lt (j := 0) haa (by decide)) rfl rfl ⟨rfl, rfl, by decide, by decide⟩ (Nat.le_of_ble_eq_true rfl) dX2_goMinute_6 ?_
  refine v_aload_n 0 dX2_goMinute_9 rfl rfl ?_
  refine v_dup dX2_goMinute_10 rfl ?_
  refine v_geti g_X2_38 haa.1 (isH.lt (j := 0) haa (by decide)) rfl dX2_goMinute_11 ?_
  refine v_iconst (1 : Int32) dX2_goMinute_14 (by decide) ?_
  refine v_iadd dX2_goMinute_15 ?_
  refine v_put p_X2_38 haa.1 (isH.lt (j := 0) haa (by decide)) rfl ⟨rfl, rfl⟩ dX2_goMinute_16 ?_
  refine v_aload_n 0 dX2_goMinute_19 rfl rfl ?_
  refine v_dup dX2_goMinute_20 rfl ?_
  refine v_geti g_X2_45 haa.1 (isH.lt (j := 0) haa (by decide)) rfl dX2_goMinute_21 ?_
  refine v_iconst (1 : Int32) dX2_goMinute_24 (by decide) ?_
  refine v_iadd dX2_goMinute_25 ?_
  refine v_put p_X2_45 haa.1 (isH.lt (j := 0) haa (by decide)) rfl ⟨rfl, rfl⟩ dX2_goMinute_26 ?_
  refine v_iload_n 1 dX2_goMinute_29 rfl rfl ?_
  exact v_iret rfl (ho _ _ (Option.some.inj h).symm) dX2_goMinute_30
theorem c_X2_goMinute {w : fm_W} {l : Launch} (hI : fm_I w 105) {aa : Nat} (haa : isH aa) {s : fm_M} {r : Int32} {s2 : fm_M} (h : f_X2_goMinute aa s = some (r, s2)) : fm_C w layX 105 l yX2_goMinute cX2_goMinute 2 (some .int) rm_X2_goMinute [.ref (fm_ad w aa)] s (some (.int r), s2) :=
  fm_of hI (by decide) rfl (Nat.le_of_ble_eq_true rfl) (e_X2_goMinute hI haa s _ h (fun r s e => by cases e; rfl))
-- X2_highestFree
abbrev rm_X2_highestFree : Room := { frames := 1, cells := 0, slots := 0, locals := 21 }
def f_X2_highestFree_7 (aa : Nat) (s : fm_M) (v1 : Int32) : Option ((fm_M × Int32) ⊕ ((Int32 × fm_M) ⊕ (fm_M × Int32))) :=
  if v1 < 0 then some (.inr (.inr (s, v1))) else fm_bd (f_X2_isFree aa v1 s) (fun r1 s1 => if r1 = 0 then some (.inl (s1, (v1 + (-1 : Int32)))) else some (.inr (.inl (v1, s1))))
set_option maxHeartbeats 4000000 in
theorem t_X2_highestFree_7 {w : fm_W} {l : Launch} {o : fm_O} (hI : fm_I w 105) {aa : Nat} (haa : isH aa) (s : fm_M) (v1 : Int32) (z : (fm_M × Int32) ⊕ ((Int32 × fm_M) ⊕ (fm_M × Int32))) (h : f_X2_highestFree_7 aa s v1 = some z) (kb : ∀ (s : fm_M) (u1 : Int32), z = .inl (s, u1) → fm_V w layX 105 l rm_X2_highestFree cX2_highestFree 2 RX2 (some .int) o 7 [some (.ref (fm_ad w aa)), some (.int u1)] [] s) (ke : ∀ (s : fm_M) (u1 : Int32), z = .inr (.inr (s, u1)) → fm_V w layX 105 l rm_X2_highestFree cX2_highestFree 2 RX2 (some .int) o 27 [some (.ref (fm_ad w aa)), some (.int u1)] [] s) (kr : ∀ (r : Int32) (s : fm_M), z = .inr (.inl (r, s)) → o = (some (.int r), s)) : fm_V w layX 105 l rm_X2_highestFree cX2_highestFree 2 RX2 (some .int) o 7 [some (.ref (fm_ad w aa)), some (.int v1)] [] s := by
  unfold f_X2_highestFree_7 at h
  refine v_iload_n 1 dX2_highestFree_7 rfl rfl ?_
  refine v_if_lt 27 dX2_highestFree_8 (by decide) h (fun h => ?_) (fun h => ?_)
  · refine v_lw [some (.ref (fm_ad w aa)), some (.int v1)] rfl ⟨rfl, rfl, trivial⟩ ?_
    exact ke _ _ (Option.some.inj h).symm
  · refine v_aload_n 0 dX2_highestFree_11 rfl rfl ?_
    refine v_iload_n 1 dX2_highestFree_12 rfl rfl ?_
    obtain ⟨r1, s1, h1, h⟩ := fm_bds h
    refine v_cVi [.int v1] [] l_X2_59 (c_X2_isFree hI haa h1) haa.1 (isH.lt (j := 0) haa (by decide)) rfl rfl ⟨rfl, rfl, by decide, by decide⟩ (Nat.le_of_ble_eq_true rfl) dX2_highestFree_13 ?_
    refine v_if_eq 21 dX2_highestFree_16 (by decide) h (fun h => ?_) (fun h => ?_)
    · refine v_iinc (lv' := [some (.ref (fm_ad w aa)), some (.int (v1 + (-1 : Int32)))]) (-1 : Int32) dX2_highestFree_21 rfl (by decide) (by decide) rfl rfl ?_
      refine v_goto 7 dX2_highestFree_24 (by decide) ?_
      refine v_lw [some (.ref (fm_ad w aa)), some (.int (v1 + (-1 : Int32)))] rfl ⟨rfl, rfl, trivial⟩ ?_
      exact kb _ _ (Option.some.inj h).symm
    · refine v_iload_n 1 dX2_highestFree_19 rfl rfl ?_
      exact v_iret rfl (kr _ _ (Option.some.inj h).symm) dX2_highestFree_20
set_option maxHeartbeats 4000000 in
theorem i_X2_highestFree_7 {w : fm_W} {l : Launch} {o : fm_O} (hI : fm_I w 105) {aa : Nat} (haa : isH aa) (n : Nat) (s : fm_M) (v1 : Int32) (q : (Int32 × fm_M) ⊕ (fm_M × Int32)) (h : fm_it (fun s => f_X2_highestFree_7 aa s.1 s.2) n (s, v1) = some q) (kr : ∀ (r : Int32) (s : fm_M), q = .inl (r, s) → o = (some (.int r), s)) (ke : ∀ (s : fm_M) (u1 : Int32), q = .inr (s, u1) → fm_V w layX 105 l rm_X2_highestFree cX2_highestFree 2 RX2 (some .int) o 27 [some (.ref (fm_ad w aa)), some (.int u1)] [] s) : fm_V w layX 105 l rm_X2_highestFree cX2_highestFree 2 RX2 (some .int) o 7 [some (.ref (fm_ad w aa)), some (.int v1)] [] s :=
  fm_it_loop (body := (fun s => f_X2_highestFree_7 aa s.1 s.2)) (P := fun s => fm_V w layX 105 l rm_X2_highestFree cX2_highestFree 2 RX2 (some .int) o 7 [some (.ref (fm_ad w aa)), some (.int s.2)] [] s.1) (K := (fun q : (Int32 × fm_M) ⊕ (fm_M × Int32) => (∀ (r : Int32) (s : fm_M), q = .inl (r, s) → o = (some (.int r), s)) ∧ (∀ (s : fm_M) (u1 : Int32), q = .inr (s, u1) → fm_V w layX 105 l rm_X2_highestFree cX2_highestFree 2 RX2 (some .int) o 27 [some (.ref (fm_ad w aa)), some (.int u1)] [] s))) (fun s z hb kl kx => t_X2_highestFree_7 hI haa s.1 s.2 z hb (fun s u1 e => kl _ e) (fun s u1 e => (kx _ e).2 s u1 rfl) (fun r s e => (kx _ e).1 r s rfl)) n (s, v1) q h ⟨kr, ke⟩
def f_X2_highestFree (aa : Nat) (s : fm_M) : Option (Int32 × fm_M) :=
  fm_op (fm_it (fun (yy : fm_M × Int32) => f_X2_highestFree_7 aa yy.1 yy.2) fm_fu (s, ((s aa 7) - (1 : Int32)))) (fun q2 => Sum.elim (fun r => some r) (fun t2 => ((fun (s2 : fm_M) (x2_1 : Int32) => some ((-4 : Int32), s2))) t2.1 t2.2) q2)
set_option maxHeartbeats 4000000 in
theorem e_X2_highestFree {w : fm_W} {l : Launch} {o : fm_O} (hI : fm_I w 105) {aa : Nat} (haa : isH aa) (s : fm_M) (z : Int32 × fm_M) (h : f_X2_highestFree aa s = some z) (ho : ∀ (r : Int32) (s : fm_M), z = (r, s) → o = (some (.int r), s)) : fm_V w layX 105 l rm_X2_highestFree cX2_highestFree 2 RX2 (some .int) o 0 [some (.ref (fm_ad w aa)), none] [] s := by
  unfold f_X2_highestFree at h
  refine v_aload_n 0 dX2_highestFree_0 rfl rfl ?_
  refine v_geti g_X2_34 haa.1 (isH.lt (j := 0) haa (by decide)) rfl dX2_highestFree_1 ?_
  refine v_iconst (1 : Int32) dX2_highestFree_4 (by decide) ?_
  refine v_isub dX2_highestFree_5 ?_
  refine v_istore_n (lv' := [some (.ref (fm_ad w aa)), some (.int ((s aa 7) - (1 : Int32)))]) 1 dX2_highestFree_6 rfl (by decide) rfl rfl ?_
  obtain ⟨q2, h2, h⟩ := fm_ops h
  refine v_lw [some (.ref (fm_ad w aa)), some (.int ((s aa 7) - (1 : Int32)))] rfl ⟨rfl, rfl, trivial⟩ ?_
  refine i_X2_highestFree_7 hI haa _ _ _ _ h2 (fun r s e => by subst e; exact ho r s (Option.some.inj h).symm) (fun s2 x2_1 e => ?_)
  subst e
  dsimp only [Sum.elim] at h
  refine v_bipush (-4 : Int32) dX2_highestFree_27 (by decide) ?_
  exact v_iret rfl (ho _ _ (Option.some.inj h).symm) dX2_highestFree_29
theorem c_X2_highestFree {w : fm_W} {l : Launch} (hI : fm_I w 105) {aa : Nat} (haa : isH aa) {s : fm_M} {r : Int32} {s2 : fm_M} (h : f_X2_highestFree aa s = some (r, s2)) : fm_C w layX 105 l yX2_highestFree cX2_highestFree 2 (some .int) rm_X2_highestFree [.ref (fm_ad w aa)] s (some (.int r), s2) :=
  fm_of hI (by decide) rfl (Nat.le_of_ble_eq_true rfl) (e_X2_highestFree hI haa s _ h (fun r s e => by cases e; rfl))
-- X2_lowestFree
abbrev rm_X2_lowestFree : Room := { frames := 1, cells := 0, slots := 0, locals := 21 }
def f_X2_lowestFree_2 (aa : Nat) (s : fm_M) (v1 : Int32) : Option ((fm_M × Int32) ⊕ ((Int32 × fm_M) ⊕ (fm_M × Int32))) :=
  if (s aa 7) ≤ v1 then some (.inr (.inr (s, v1))) else fm_bd (f_X2_isFree aa v1 s) (fun r1 s1 => if r1 = 0 then some (.inl (s1, (v1 + (1 : Int32)))) else some (.inr (.inl (v1, s1))))
set_option maxHeartbeats 4000000 in
theorem t_X2_lowestFree_2 {w : fm_W} {l : Launch} {o : fm_O} (hI : fm_I w 105) {aa : Nat} (haa : isH aa) (s : fm_M) (v1 : Int32) (z : (fm_M × Int32) ⊕ ((Int32 × fm_M) ⊕ (fm_M × Int32))) (h : f_X2_lowestFree_2 aa s v1 = some z) (kb : ∀ (s : fm_M) (u1 : Int32), z = .inl (s, u1) → fm_V w layX 105 l rm_X2_lowestFree cX2_lowestFree 2 RX2 (some .int) o 2 [some (.ref (fm_ad w aa)), some (.int u1)] [] s) (ke : ∀ (s : fm_M) (u1 : Int32), z = .inr (.inr (s, u1)) → fm_V w layX 105 l rm_X2_lowestFree cX2_lowestFree 2 RX2 (some .int) o 26 [some (.ref (fm_ad w aa)), some (.int u1)] [] s) (kr : ∀ (r : Int32) (s : fm_M), z = .inr (.inl (r, s)) → o = (some (.int r), s)) : fm_V w layX 105 l rm_X2_lowestFree cX2_lowestFree 2 RX2 (some .int) o 2 [some (.ref (fm_ad w aa)), some (.int v1)] [] s := by
  unfold f_X2_lowestFree_2 at h
  refine v_iload_n 1 dX2_lowestFree_2 rfl rfl ?_
  refine v_aload_n 0 dX2_lowestFree_3 rfl rfl ?_
  refine v_geti g_X2_34 haa.1 (isH.lt (j := 0) haa (by decide)) rfl dX2_lowestFree_4 ?_
  refine v_icmp_ge 26 dX2_lowestFree_7 (by decide) h (fun h => ?_) (fun h => ?_)
  · refine v_lw [some (.ref (fm_ad w aa)), some (.int v1)] rfl ⟨rfl, rfl, trivial⟩ ?_
    exact ke _ _ (Option.some.inj h).symm
  · refine v_aload_n 0 dX2_lowestFree_10 rfl rfl ?_
    refine v_iload_n 1 dX2_lowestFree_11 rfl rfl ?_
    obtain ⟨r1, s1, h1, h⟩ := fm_bds h
    refine v_cVi [.int v1] [] l_X2_59 (c_X2_isFree hI haa h1) haa.1 (isH.lt (j := 0) haa (by decide)) rfl rfl ⟨rfl, rfl, by decide, by decide⟩ (Nat.le_of_ble_eq_true rfl) dX2_lowestFree_12 ?_
    refine v_if_eq 20 dX2_lowestFree_15 (by decide) h (fun h => ?_) (fun h => ?_)
    · refine v_iinc (lv' := [some (.ref (fm_ad w aa)), some (.int (v1 + (1 : Int32)))]) (1 : Int32) dX2_lowestFree_20 rfl (by decide) (by decide) rfl rfl ?_
      refine v_goto 2 dX2_lowestFree_23 (by decide) ?_
      refine v_lw [some (.ref (fm_ad w aa)), some (.int (v1 + (1 : Int32)))] rfl ⟨rfl, rfl, trivial⟩ ?_
      exact kb _ _ (Option.some.inj h).symm
    · refine v_iload_n 1 dX2_lowestFree_18 rfl rfl ?_
      exact v_iret rfl (kr _ _ (Option.some.inj h).symm) dX2_lowestFree_19
set_option maxHeartbeats 4000000 in
theorem i_X2_lowestFree_2 {w : fm_W} {l : Launch} {o : fm_O} (hI : fm_I w 105) {aa : Nat} (haa : isH aa) (n : Nat) (s : fm_M) (v1 : Int32) (q : (Int32 × fm_M) ⊕ (fm_M × Int32)) (h : fm_it (fun s => f_X2_lowestFree_2 aa s.1 s.2) n (s, v1) = some q) (kr : ∀ (r : Int32) (s : fm_M), q = .inl (r, s) → o = (some (.int r), s)) (ke : ∀ (s : fm_M) (u1 : Int32), q = .inr (s, u1) → fm_V w layX 105 l rm_X2_lowestFree cX2_lowestFree 2 RX2 (some .int) o 26 [some (.ref (fm_ad w aa)), some (.int u1)] [] s) : fm_V w layX 105 l rm_X2_lowestFree cX2_lowestFree 2 RX2 (some .int) o 2 [some (.ref (fm_ad w aa)), some (.int v1)] [] s :=
  fm_it_loop (body := (fun s => f_X2_lowestFree_2 aa s.1 s.2)) (P := fun s => fm_V w layX 105 l rm_X2_lowestFree cX2_lowestFree 2 RX2 (some .int) o 2 [some (.ref (fm_ad w aa)), some (.int s.2)] [] s.1) (K := (fun q : (Int32 × fm_M) ⊕ (fm_M × Int32) => (∀ (r : Int32) (s : fm_M), q = .inl (r, s) → o = (some (.int r), s)) ∧ (∀ (s : fm_M) (u1 : Int32), q = .inr (s, u1) → fm_V w layX 105 l rm_X2_lowestFree cX2_lowestFree 2 RX2 (some .int) o 26 [some (.ref (fm_ad w aa)), some (.int u1)] [] s))) (fun s z hb kl kx => t_X2_lowestFree_2 hI haa s.1 s.2 z hb (fun s u1 e => kl _ e) (fun s u1 e => (kx _ e).2 s u1 rfl) (fun r s e => (kx _ e).1 r s rfl)) n (s, v1) q h ⟨kr, ke⟩
def f_X2_lowestFree (aa : Nat) (s : fm_M) : Option (Int32 × fm_M) :=
  fm_op (fm_it (fun (yy : fm_M × Int32) => f_X2_lowestFree_2 aa yy.1 yy.2) fm_fu (s, (0 : Int32))) (fun q2 => Sum.elim (fun r => some r) (fun t2 => ((fun (s2 : fm_M) (x2_1 : Int32) => some ((-4 : Int32), s2))) t2.1 t2.2) q2)
set_option maxHeartbeats 4000000 in
theorem e_X2_lowestFree {w : fm_W} {l : Launch} {o : fm_O} (hI : fm_I w 105) {aa : Nat} (haa : isH aa) (s : fm_M) (z : Int32 × fm_M) (h : f_X2_lowestFree aa s = some z) (ho : ∀ (r : Int32) (s : fm_M), z = (r, s) → o = (some (.int r), s)) : fm_V w layX 105 l rm_X2_lowestFree cX2_lowestFree 2 RX2 (some .int) o 0 [some (.ref (fm_ad w aa)), none] [] s := by
  unfold f_X2_lowestFree at h
  refine v_iconst (0 : Int32) dX2_lowestFree_0 (by decide) ?_
  refine v_istore_n (lv' := [some (.ref (fm_ad w aa)), some (.int (0 : Int32))]) 1 dX2_lowestFree_1 rfl (by decide) rfl rfl ?_
  obtain ⟨q2, h2, h⟩ := fm_ops h
  refine v_lw [some (.ref (fm_ad w aa)), some (.int (0 : Int32))] rfl ⟨rfl, rfl, trivial⟩ ?_
  refine i_X2_lowestFree_2 hI haa _ _ _ _ h2 (fun r s e => by subst e; exact ho r s (Option.some.inj h).symm) (fun s2 x2_1 e => ?_)
  subst e
  dsimp only [Sum.elim] at h
  refine v_bipush (-4 : Int32) dX2_lowestFree_26 (by decide) ?_
  exact v_iret rfl (ho _ _ (Option.some.inj h).symm) dX2_lowestFree_28
theorem c_X2_lowestFree {w : fm_W} {l : Launch} (hI : fm_I w 105) {aa : Nat} (haa : isH aa) {s : fm_M} {r : Int32} {s2 : fm_M} (h : f_X2_lowestFree aa s = some (r, s2)) : fm_C w layX 105 l yX2_lowestFree cX2_lowestFree 2 (some .int) rm_X2_lowestFree [.ref (fm_ad w aa)] s (some (.int r), s2) :=
  fm_of hI (by decide) rfl (Nat.le_of_ble_eq_true rfl) (e_X2_lowestFree hI haa s _ h (fun r s e => by cases e; rfl))
-- X2_canOpenDoor
abbrev rm_X2_canOpenDoor : Room := { frames := 1, cells := 0, slots := 0, locals := 23 }
def f_X2_canOpenDoor_21 (aa : Nat) (sk0 : Int32) (s : fm_M) : Option (Int32 × fm_M) :=
  if fm_b sk0 = true then some (sk0, s) else none
set_option maxHeartbeats 4000000 in
theorem t_X2_canOpenDoor_21 {w : fm_W} {l : Launch} {o : fm_O} (hI : fm_I w 105) {aa : Nat} (haa : isH aa) (sk0 : Int32) (s : fm_M) (z : Int32 × fm_M) (h : f_X2_canOpenDoor_21 aa sk0 s = some z) (ho : ∀ (r : Int32) (s : fm_M), z = (r, s) → o = (some (.int r), s)) : fm_V w layX 105 l rm_X2_canOpenDoor cX2_canOpenDoor 2 RX2 (some .boolean) o 21 [none, none] [.int sk0] s := by
  unfold f_X2_canOpenDoor_21 at h
  obtain ⟨hb, h⟩ := fm_ift h
  exact v_zret rfl (fm_b_nar hb).1 (ho _ _ (Option.some.inj h).symm) dX2_canOpenDoor_21
def f_X2_canOpenDoor_20 (aa : Nat) (s : fm_M) : Option (Int32 × fm_M) :=
  f_X2_canOpenDoor_21 aa (0 : Int32) s
set_option maxHeartbeats 4000000 in
theorem t_X2_canOpenDoor_20 {w : fm_W} {l : Launch} {o : fm_O} (hI : fm_I w 105) {aa : Nat} (haa : isH aa) (s : fm_M) (z : Int32 × fm_M) (h : f_X2_canOpenDoor_20 aa s = some z) (ho : ∀ (r : Int32) (s : fm_M), z = (r, s) → o = (some (.int r), s)) : fm_V w layX 105 l rm_X2_canOpenDoor cX2_canOpenDoor 2 RX2 (some .boolean) o 20 [none, none] [] s := by
  unfold f_X2_canOpenDoor_20 at h
  refine v_iconst (0 : Int32) dX2_canOpenDoor_20 (by decide) ?_
  refine v_lw [none, none] rfl trivial ?_
  exact t_X2_canOpenDoor_21 hI haa (0 : Int32) s _ h ho
def f_X2_canOpenDoor (aa : Nat) (v1 : Int32) (s : fm_M) : Option (Int32 × fm_M) :=
  fm_bd (f_X2_isFree aa v1 s) (fun r1 s1 => if r1 = 0 then f_X2_canOpenDoor_20 aa s1 else fm_bd (f_X2_countChildren aa (2 : Int32) s1) (fun r2 s2 => if r2 ≤ 0 then f_X2_canOpenDoor_20 aa s2 else f_X2_canOpenDoor_21 aa (1 : Int32) s2))
set_option maxHeartbeats 4000000 in
theorem e_X2_canOpenDoor {w : fm_W} {l : Launch} {o : fm_O} (hI : fm_I w 105) {aa : Nat} (haa : isH aa) (v1 : Int32) (s : fm_M) (z : Int32 × fm_M) (h : f_X2_canOpenDoor aa v1 s = some z) (ho : ∀ (r : Int32) (s : fm_M), z = (r, s) → o = (some (.int r), s)) : fm_V w layX 105 l rm_X2_canOpenDoor cX2_canOpenDoor 2 RX2 (some .boolean) o 0 [some (.ref (fm_ad w aa)), some (.int v1)] [] s := by
  unfold f_X2_canOpenDoor at h
  refine v_aload_n 0 dX2_canOpenDoor_0 rfl rfl ?_
  refine v_iload_n 1 dX2_canOpenDoor_1 rfl rfl ?_
  obtain ⟨r1, s1, h1, h⟩ := fm_bds h
  refine v_cVi [.int v1] [] l_X2_59 (c_X2_isFree hI haa h1) haa.1 (isH.lt (j := 0) haa (by decide)) rfl rfl ⟨rfl, rfl, by decide, by decide⟩ (Nat.le_of_ble_eq_true rfl) dX2_canOpenDoor_2 ?_
  refine v_if_eq 20 dX2_canOpenDoor_5 (by decide) h (fun h => ?_) (fun h => ?_)
  · refine v_lw [none, none] rfl trivial ?_
    exact t_X2_canOpenDoor_20 hI haa s1 _ h ho
  · refine v_aload_n 0 dX2_canOpenDoor_8 rfl rfl ?_
    refine v_iconst (2 : Int32) dX2_canOpenDoor_9 (by decide) ?_
    obtain ⟨r2, s2, h2, h⟩ := fm_bds h
    refine v_cVi [.int (2 : Int32)] [] l_X2_67 (c_X2_countChildren hI haa h2) haa.1 (isH.lt (j := 0) haa (by decide)) rfl rfl ⟨rfl, rfl, by decide, by decide⟩ (Nat.le_of_ble_eq_true rfl) dX2_canOpenDoor_10 ?_
    refine v_if_le 20 dX2_canOpenDoor_13 (by decide) h (fun h => ?_) (fun h => ?_)
    · refine v_lw [none, none] rfl trivial ?_
      exact t_X2_canOpenDoor_20 hI haa s2 _ h ho
    · refine v_iconst (1 : Int32) dX2_canOpenDoor_16 (by decide) ?_
      refine v_goto 21 dX2_canOpenDoor_17 (by decide) ?_
      refine v_lw [none, none] rfl trivial ?_
      exact t_X2_canOpenDoor_21 hI haa (1 : Int32) s2 _ h ho
theorem c_X2_canOpenDoor {w : fm_W} {l : Launch} (hI : fm_I w 105) {aa : Nat} (haa : isH aa) {v1 : Int32} {s : fm_M} {r : Int32} {s2 : fm_M} (h : f_X2_canOpenDoor aa v1 s = some (r, s2)) : fm_C w layX 105 l yX2_canOpenDoor cX2_canOpenDoor 2 (some .boolean) rm_X2_canOpenDoor [.ref (fm_ad w aa), .int v1] s (some (.int r), s2) :=
  fm_of hI (by decide) rfl (Nat.le_of_ble_eq_true rfl) (e_X2_canOpenDoor hI haa v1 s _ h (fun r s e => by cases e; rfl))
-- X2_hottest
abbrev rm_X2_hottest : Room := { frames := 0, cells := 0, slots := 0, locals := 0 }
def f_X2_hottest_53 (aa : Nat) (v1 : Int32) (v2 : Int32) (v3 : Int32) (s : fm_M) : Option ((fm_M × Int32 × Int32 × Int32) ⊕ (fm_M × Int32 × Int32 × Int32)) :=
  some (.inl (s, v1, v2, (v3 + (1 : Int32))))
set_option maxHeartbeats 4000000 in
theorem t_X2_hottest_53 {w : fm_W} {l : Launch} {o : fm_O} (hI : fm_I w 105) {aa : Nat} (haa : isH aa) (v1 : Int32) (v2 : Int32) (v3 : Int32) (s : fm_M) (z : (fm_M × Int32 × Int32 × Int32) ⊕ (fm_M × Int32 × Int32 × Int32)) (h : f_X2_hottest_53 aa v1 v2 v3 s = some z) (kb : ∀ (s : fm_M) (u1 : Int32) (u2 : Int32) (u3 : Int32), z = .inl (s, u1, u2, u3) → fm_V w layX 105 l rm_X2_hottest cX2_hottest 4 RX2 (some .int) o 7 [some (.ref (fm_ad w aa)), some (.int u1), some (.int u2), some (.int u3)] [] s) (ke : ∀ (s : fm_M) (u1 : Int32) (u2 : Int32) (u3 : Int32), z = .inr (s, u1, u2, u3) → fm_V w layX 105 l rm_X2_hottest cX2_hottest 4 RX2 (some .int) o 59 [some (.ref (fm_ad w aa)), some (.int u1), some (.int u2), some (.int u3)] [] s) : fm_V w layX 105 l rm_X2_hottest cX2_hottest 4 RX2 (some .int) o 53 [some (.ref (fm_ad w aa)), some (.int v1), some (.int v2), some (.int v3)] [] s := by
  unfold f_X2_hottest_53 at h
  refine v_iinc (lv' := [some (.ref (fm_ad w aa)), some (.int v1), some (.int v2), some (.int (v3 + (1 : Int32)))]) (1 : Int32) dX2_hottest_53 rfl (by decide) (by decide) rfl rfl ?_
  refine v_goto 7 dX2_hottest_56 (by decide) ?_
  refine v_lw [some (.ref (fm_ad w aa)), some (.int v1), some (.int v2), some (.int (v3 + (1 : Int32)))] rfl ⟨rfl, rfl, rfl, rfl, trivial⟩ ?_
  exact kb _ _ _ _ (Option.some.inj h).symm
def f_X2_hottest_7 (aa : Nat) (s : fm_M) (v1 : Int32) (v2 : Int32) (v3 : Int32) : Option ((fm_M × Int32 × Int32 × Int32) ⊕ (fm_M × Int32 × Int32 × Int32)) :=
  if (s 6 2) ≤ v3 then some (.inr (s, v1, v2, v3)) else if (6 : Int32) ≤ v3 then some (.inr (s, v1, v2, v3)) else if fm_in v3 6 = true then if (s (aa + 1) v3.toNatClampNeg) = (2 : Int32) then if fm_in v3 6 = true then if (s (aa + 2) v3.toNatClampNeg) ≤ v2 then f_X2_hottest_53 aa v1 v2 v3 s else if fm_in v3 6 = true then f_X2_hottest_53 aa v3 (s (aa + 2) v3.toNatClampNeg) v3 s else none else none else f_X2_hottest_53 aa v1 v2 v3 s else none
set_option maxHeartbeats 4000000 in
theorem t_X2_hottest_7 {w : fm_W} {l : Launch} {o : fm_O} (hI : fm_I w 105) {aa : Nat} (haa : isH aa) (s : fm_M) (v1 : Int32) (v2 : Int32) (v3 : Int32) (z : (fm_M × Int32 × Int32 × Int32) ⊕ (fm_M × Int32 × Int32 × Int32)) (h : f_X2_hottest_7 aa s v1 v2 v3 = some z) (kb : ∀ (s : fm_M) (u1 : Int32) (u2 : Int32) (u3 : Int32), z = .inl (s, u1, u2, u3) → fm_V w layX 105 l rm_X2_hottest cX2_hottest 4 RX2 (some .int) o 7 [some (.ref (fm_ad w aa)), some (.int u1), some (.int u2), some (.int u3)] [] s) (ke : ∀ (s : fm_M) (u1 : Int32) (u2 : Int32) (u3 : Int32), z = .inr (s, u1, u2, u3) → fm_V w layX 105 l rm_X2_hottest cX2_hottest 4 RX2 (some .int) o 59 [some (.ref (fm_ad w aa)), some (.int u1), some (.int u2), some (.int u3)] [] s) : fm_V w layX 105 l rm_X2_hottest cX2_hottest 4 RX2 (some .int) o 7 [some (.ref (fm_ad w aa)), some (.int v1), some (.int v2), some (.int v3)] [] s := by
  unfold f_X2_hottest_7 at h
  refine v_iload_n 3 dX2_hottest_7 rfl rfl ?_
  refine v_aload_n 0 dX2_hottest_8 rfl rfl ?_
  refine v_getr 6 g_X2_30 haa.1 (isH.lt (j := 0) haa (by decide)) rfl dX2_hottest_9 ?_
  refine v_geti g_X2_54 yX_6 (by decide) rfl dX2_hottest_12 ?_
  refine v_icmp_ge 59 dX2_hottest_15 (by decide) h (fun h => ?_) (fun h => ?_)
  · refine v_lw [some (.ref (fm_ad w aa)), some (.int v1), some (.int v2), some (.int v3)] rfl ⟨rfl, rfl, rfl, rfl, trivial⟩ ?_
    exact ke _ _ _ _ (Option.some.inj h).symm
  · refine v_iload_n 3 dX2_hottest_18 rfl rfl ?_
    refine v_bipush (6 : Int32) dX2_hottest_19 (by decide) ?_
    refine v_icmp_ge 59 dX2_hottest_21 (by decide) h (fun h => ?_) (fun h => ?_)
    · refine v_lw [some (.ref (fm_ad w aa)), some (.int v1), some (.int v2), some (.int v3)] rfl ⟨rfl, rfl, rfl, rfl, trivial⟩ ?_
      exact ke _ _ _ _ (Option.some.inj h).symm
    · refine v_aload_n 0 dX2_hottest_24 rfl rfl ?_
      refine v_getr (aa + 1) g_X2_9 haa.1 (isH.lt (j := 0) haa (by decide)) rfl dX2_hottest_25 ?_
      refine v_iload_n 3 dX2_hottest_28 rfl rfl ?_
      obtain ⟨hi, h⟩ := fm_ift h
      refine v_iald (Or.inl ⟨(isH.lt (j := 1) haa (by decide)), (isH.a1 haa)⟩) hi dX2_hottest_29 ?_
      refine v_iconst (2 : Int32) dX2_hottest_30 (by decide) ?_
      refine v_icmp_ne 53 dX2_hottest_31 (by decide) h (fun h => ?_) (fun h => ?_)
      · refine v_lw [some (.ref (fm_ad w aa)), some (.int v1), some (.int v2), some (.int v3)] rfl ⟨rfl, rfl, rfl, rfl, trivial⟩ ?_
        exact t_X2_hottest_53 hI haa v1 v2 v3 s _ h kb ke
      · refine v_aload_n 0 dX2_hottest_34 rfl rfl ?_
        refine v_getr (aa + 2) g_X2_15 haa.1 (isH.lt (j := 0) haa (by decide)) rfl dX2_hottest_35 ?_
        refine v_iload_n 3 dX2_hottest_38 rfl rfl ?_
        obtain ⟨hi, h⟩ := fm_ift h
        refine v_iald (Or.inl ⟨(isH.lt (j := 2) haa (by decide)), (isH.a2 haa)⟩) hi dX2_hottest_39 ?_
        refine v_iload_n 2 dX2_hottest_40 rfl rfl ?_
        refine v_icmp_le 53 dX2_hottest_41 (by decide) h (fun h => ?_) (fun h => ?_)
        · refine v_lw [some (.ref (fm_ad w aa)), some (.int v1), some (.int v2), some (.int v3)] rfl ⟨rfl, rfl, rfl, rfl, trivial⟩ ?_
          exact t_X2_hottest_53 hI haa v1 v2 v3 s _ h kb ke
        · refine v_iload_n 3 dX2_hottest_44 rfl rfl ?_
          refine v_istore_n (lv' := [some (.ref (fm_ad w aa)), some (.int v3), some (.int v2), some (.int v3)]) 1 dX2_hottest_45 rfl (by decide) rfl rfl ?_
          refine v_aload_n 0 dX2_hottest_46 rfl rfl ?_
          refine v_getr (aa + 2) g_X2_15 haa.1 (isH.lt (j := 0) haa (by decide)) rfl dX2_hottest_47 ?_
          refine v_iload_n 3 dX2_hottest_50 rfl rfl ?_
          obtain ⟨hi, h⟩ := fm_ift h
          refine v_iald (Or.inl ⟨(isH.lt (j := 2) haa (by decide)), (isH.a2 haa)⟩) hi dX2_hottest_51 ?_
          refine v_istore_n (lv' := [some (.ref (fm_ad w aa)), some (.int v3), some (.int (s (aa + 2) v3.toNatClampNeg)), some (.int v3)]) 2 dX2_hottest_52 rfl (by decide) rfl rfl ?_
          refine v_lw [some (.ref (fm_ad w aa)), some (.int v3), some (.int (s (aa + 2) v3.toNatClampNeg)), some (.int v3)] rfl ⟨rfl, rfl, rfl, rfl, trivial⟩ ?_
          exact t_X2_hottest_53 hI haa v3 (s (aa + 2) v3.toNatClampNeg) v3 s _ h kb ke
set_option maxHeartbeats 4000000 in
theorem i_X2_hottest_7 {w : fm_W} {l : Launch} {o : fm_O} (hI : fm_I w 105) {aa : Nat} (haa : isH aa) (n : Nat) (s : fm_M) (v1 : Int32) (v2 : Int32) (v3 : Int32) (q : fm_M × Int32 × Int32 × Int32) (h : fm_it (fun s => f_X2_hottest_7 aa s.1 s.2.1 s.2.2.1 s.2.2.2) n (s, v1, v2, v3) = some q) (ke : ∀ (s : fm_M) (u1 : Int32) (u2 : Int32) (u3 : Int32), q = (s, u1, u2, u3) → fm_V w layX 105 l rm_X2_hottest cX2_hottest 4 RX2 (some .int) o 59 [some (.ref (fm_ad w aa)), some (.int u1), some (.int u2), some (.int u3)] [] s) : fm_V w layX 105 l rm_X2_hottest cX2_hottest 4 RX2 (some .int) o 7 [some (.ref (fm_ad w aa)), some (.int v1), some (.int v2), some (.int v3)] [] s :=
  fm_it_loop (body := (fun s => f_X2_hottest_7 aa s.1 s.2.1 s.2.2.1 s.2.2.2)) (P := fun s => fm_V w layX 105 l rm_X2_hottest cX2_hottest 4 RX2 (some .int) o 7 [some (.ref (fm_ad w aa)), some (.int s.2.1), some (.int s.2.2.1), some (.int s.2.2.2)] [] s.1) (K := (fun q : fm_M × Int32 × Int32 × Int32 => (∀ (s : fm_M) (u1 : Int32) (u2 : Int32) (u3 : Int32), q = (s, u1, u2, u3) → fm_V w layX 105 l rm_X2_hottest cX2_hottest 4 RX2 (some .int) o 59 [some (.ref (fm_ad w aa)), some (.int u1), some (.int u2), some (.int u3)] [] s))) (fun s z hb kl kx => t_X2_hottest_7 hI haa s.1 s.2.1 s.2.2.1 s.2.2.2 z hb (fun s u1 u2 u3 e => kl _ e) (fun s u1 u2 u3 e => (kx _ e) s u1 u2 u3 rfl)) n (s, v1, v2, v3) q h ke
def f_X2_hottest_59 (aa : Nat) (v1 : Int32) (s : fm_M) : Option (Int32 × fm_M) :=
  some (v1, s)
set_option maxHeartbeats 4000000 in
theorem t_X2_hottest_59 {w : fm_W} {l : Launch} {o : fm_O} (hI : fm_I w 105) {aa : Nat} (haa : isH aa) (v1 : Int32) (s : fm_M) (z : Int32 × fm_M) (h : f_X2_hottest_59 aa v1 s = some z) (ho : ∀ (r : Int32) (s : fm_M), z = (r, s) → o = (some (.int r), s)) : fm_V w layX 105 l rm_X2_hottest cX2_hottest 4 RX2 (some .int) o 59 [none, some (.int v1), none, none] [] s := by
  unfold f_X2_hottest_59 at h
  refine v_iload_n 1 dX2_hottest_59 rfl rfl ?_
  exact v_iret rfl (ho _ _ (Option.some.inj h).symm) dX2_hottest_60
def f_X2_hottest (aa : Nat) (s : fm_M) : Option (Int32 × fm_M) :=
  fm_op (fm_it (fun (yy : fm_M × Int32 × Int32 × Int32) => f_X2_hottest_7 aa yy.1 yy.2.1 yy.2.2.1 yy.2.2.2) fm_fu (s, (-4 : Int32), (-1 : Int32), (0 : Int32))) (fun q1 => ((fun (s1 : fm_M) (x1_1 : Int32) (x1_2 : Int32) (x1_3 : Int32) => f_X2_hottest_59 aa x1_1 s1)) q1.1 q1.2.1 q1.2.2.1 q1.2.2.2)
set_option maxHeartbeats 4000000 in
theorem e_X2_hottest {w : fm_W} {l : Launch} {o : fm_O} (hI : fm_I w 105) {aa : Nat} (haa : isH aa) (s : fm_M) (z : Int32 × fm_M) (h : f_X2_hottest aa s = some z) (ho : ∀ (r : Int32) (s : fm_M), z = (r, s) → o = (some (.int r), s)) : fm_V w layX 105 l rm_X2_hottest cX2_hottest 4 RX2 (some .int) o 0 [some (.ref (fm_ad w aa)), none, none, none] [] s := by
  unfold f_X2_hottest at h
  refine v_bipush (-4 : Int32) dX2_hottest_0 (by decide) ?_
  refine v_istore_n (lv' := [some (.ref (fm_ad w aa)), some (.int (-4 : Int32)), none, none]) 1 dX2_hottest_2 rfl (by decide) rfl rfl ?_
  refine v_iconst (-1 : Int32) dX2_hottest_3 (by decide) ?_
  refine v_istore_n (lv' := [some (.ref (fm_ad w aa)), some (.int (-4 : Int32)), some (.int (-1 : Int32)), none]) 2 dX2_hottest_4 rfl (by decide) rfl rfl ?_
  refine v_iconst (0 : Int32) dX2_hottest_5 (by decide) ?_
  refine v_istore_n (lv' := [some (.ref (fm_ad w aa)), some (.int (-4 : Int32)), some (.int (-1 : Int32)), some (.int (0 : Int32))]) 3 dX2_hottest_6 rfl (by decide) rfl rfl ?_
  obtain ⟨q1, h1, h⟩ := fm_ops h
  refine v_lw [some (.ref (fm_ad w aa)), some (.int (-4 : Int32)), some (.int (-1 : Int32)), some (.int (0 : Int32))] rfl ⟨rfl, rfl, rfl, rfl, trivial⟩ ?_
  refine i_X2_hottest_7 hI haa _ _ _ _ _ _ h1 (fun s1 x1_1 x1_2 x1_3 e => ?_)
  subst e
  dsimp only at h
  refine v_lw [none, some (.int x1_1), none, none] rfl ⟨rfl, trivial⟩ ?_
  exact t_X2_hottest_59 hI haa x1_1 s1 _ h ho
theorem c_X2_hottest {w : fm_W} {l : Launch} (hI : fm_I w 105) {aa : Nat} (haa : isH aa) {s : fm_M} {r : Int32} {s2 : fm_M} (h : f_X2_hottest aa s = some (r, s2)) : fm_C w layX 105 l yX2_hottest cX2_hottest 4 (some .int) rm_X2_hottest [.ref (fm_ad w aa)] s (some (.int r), s2) :=
  fm_of hI (by decide) rfl (Nat.le_of_ble_eq_true rfl) (e_X2_hottest hI haa s _ h (fun r s e => by cases e; rfl))
-- X2_openDoor
abbrev rm_X2_openDoor : Room := { frames := 2, cells := 0, slots := 0, locals := 44 }
def f_X2_openDoor_92 (aa : Nat) (v2 : Int32) (v3 : Int32) (v4 : Int32) (s : fm_M) : Option ((fm_M × Int32 × Int32) ⊕ (fm_M × Int32 × Int32)) :=
  some (.inl (s, v3, (v4 + (1 : Int32))))
set_option maxHeartbeats 4000000 in
theorem t_X2_openDoor_92 {w : fm_W} {l : Launch} {o : fm_O} (hI : fm_I w 105) {aa : Nat} (haa : isH aa) (v2 : Int32) (v3 : Int32) (v4 : Int32) (s : fm_M) (z : (fm_M × Int32 × Int32) ⊕ (fm_M × Int32 × Int32)) (h : f_X2_openDoor_92 aa v2 v3 v4 s = some z) (kb : ∀ (s : fm_M) (u3 : Int32) (u4 : Int32), z = .inl (s, u3, u4) → fm_V w layX 105 l rm_X2_openDoor cX2_openDoor 6 RX2 (some .int) o 53 [some (.ref (fm_ad w aa)), none, some (.int v2), some (.int u3), some (.int u4), none] [] s) (ke : ∀ (s : fm_M) (u3 : Int32) (u4 : Int32), z = .inr (s, u3, u4) → fm_V w layX 105 l rm_X2_openDoor cX2_openDoor 6 RX2 (some .int) o 98 [some (.ref (fm_ad w aa)), none, some (.int v2), some (.int u3), some (.int u4), none] [] s) : fm_V w layX 105 l rm_X2_openDoor cX2_openDoor 6 RX2 (some .int) o 92 [some (.ref (fm_ad w aa)), none, some (.int v2), some (.int v3), some (.int v4), none] [] s := by
  unfold f_X2_openDoor_92 at h
  refine v_iinc (lv' := [some (.ref (fm_ad w aa)), none, some (.int v2), some (.int v3), some (.int (v4 + (1 : Int32))), none]) (1 : Int32) dX2_openDoor_92 rfl (by decide) (by decide) rfl rfl ?_
  refine v_goto 53 dX2_openDoor_95 (by decide) ?_
  refine v_lw [some (.ref (fm_ad w aa)), none, some (.int v2), some (.int v3), some (.int (v4 + (1 : Int32))), none] rfl ⟨rfl, rfl, rfl, rfl, trivial⟩ ?_
  exact kb _ _ _ (Option.some.inj h).symm
def f_X2_openDoor_53 (aa : Nat) (v2 : Int32) (s : fm_M) (v3 : Int32) (v4 : Int32) : Option ((fm_M × Int32 × Int32) ⊕ (fm_M × Int32 × Int32)) :=
  if v2 ≤ v4 then some (.inr (s, v3, v4)) else fm_bd (f_X2_hottest aa s) (fun r3 s3 => fm_bd (f_X4_hasChild 6 r3 s3) (fun r4 s4 => if r4 = 0 then f_X2_openDoor_92 aa v2 v3 v4 s4 else if fm_in r3 6 = true then f_X2_openDoor_92 aa v2 (v3 ||| ((1 : Int32) <<< (r3 &&& 31))) v4 (fm_up s4 (aa + 1) r3.toNatClampNeg (3 : Int32)) else none))
set_option maxHeartbeats 4000000 in
theorem t_X2_openDoor_53 {w : fm_W} {l : Launch} {o : fm_O} (hI : fm_I w 105) {aa : Nat} (haa : isH aa) (v2 : Int32) (s : fm_M) (v3 : Int32) (v4 : Int32) (z : (fm_M × Int32 × Int32) ⊕ (fm_M × Int32 × Int32)) (h : f_X2_openDoor_53 aa v2 s v3 v4 = some z) (kb : ∀ (s : fm_M) (u3 : Int32) (u4 : Int32), z = .inl (s, u3, u4) → fm_V w layX 105 l rm_X2_openDoor cX2_openDoor 6 RX2 (some .int) o 53 [some (.ref (fm_ad w aa)), none, some (.int v2), some (.int u3), some (.int u4), none] [] s) (ke : ∀ (s : fm_M) (u3 : Int32) (u4 : Int32), z = .inr (s, u3, u4) → fm_V w layX 105 l rm_X2_openDoor cX2_openDoor 6 RX2 (some .int) o 98 [some (.ref (fm_ad w aa)), none, some (.int v2), some (.int u3), some (.int u4), none] [] s) : fm_V w layX 105 l rm_X2_openDoor cX2_openDoor 6 RX2 (some .int) o 53 [some (.ref (fm_ad w aa)), none, some (.int v2), some (.int v3), some (.int v4), none] [] s := by
  unfold f_X2_openDoor_53 at h
  refine v_iload dX2_openDoor_53 rfl ?_
  refine v_iload_n 2 dX2_openDoor_55 rfl rfl ?_
  refine v_icmp_ge 98 dX2_openDoor_56 (by decide) h (fun h => ?_) (fun h => ?_)
  · refine v_lw [some (.ref (fm_ad w aa)), none, some (.int v2), some (.int v3), some (.int v4), none] rfl ⟨rfl, rfl, rfl, rfl, trivial⟩ ?_
    exact ke _ _ _ (Option.some.inj h).symm
  · refine v_aload_n 0 dX2_openDoor_59 rfl rfl ?_
    obtain ⟨r3, s3, h3, h⟩ := fm_bds h
    refine v_cVi [] [] l_X2_106 (c_X2_hottest hI haa h3) haa.1 (isH.lt (j := 0) haa (by decide)) rfl rfl ⟨rfl, rfl, by decide, by decide⟩ (Nat.le_of_ble_eq_true rfl) dX2_openDoor_60 ?_
    refine v_istore (lv' := [some (.ref (fm_ad w aa)), none, some (.int v2), some (.int v3), some (.int v4), some (.int r3)]) dX2_openDoor_63 (by decide) rfl rfl ?_
    refine v_aload_n 0 dX2_openDoor_65 rfl rfl ?_
    refine v_getr 6 g_X2_30 haa.1 (isH.lt (j := 0) haa (by decide)) rfl dX2_openDoor_66 ?_
    refine v_iload dX2_openDoor_69 rfl ?_
    obtain ⟨r4, s4, h4, h⟩ := fm_bds h
    refine v_cVi [.int r3] [] l_X2_70 (c_X4_hasChild hI isPl_6 h4) yX_6 (by decide) rfl rfl ⟨rfl, rfl, by decide, by decide⟩ (Nat.le_of_ble_eq_true rfl) dX2_openDoor_71 ?_
    refine v_if_eq 92 dX2_openDoor_74 (by decide) h (fun h => ?_) (fun h => ?_)
    · refine v_lw [some (.ref (fm_ad w aa)), none, some (.int v2), some (.int v3), some (.int v4), none] rfl ⟨rfl, rfl, rfl, rfl, trivial⟩ ?_
      exact t_X2_openDoor_92 hI haa v2 v3 v4 s4 _ h kb ke
    · refine v_aload_n 0 dX2_openDoor_77 rfl rfl ?_
      refine v_getr (aa + 1) g_X2_9 haa.1 (isH.lt (j := 0) haa (by decide)) rfl dX2_openDoor_78 ?_
      refine v_iload dX2_openDoor_81 rfl ?_
      refine v_iconst (3 : Int32) dX2_openDoor_83 (by decide) ?_
      obtain ⟨hi, h⟩ := fm_ift h
      refine v_iast (isH.lt (j := 1) haa (by decide)) (isH.a1 haa) hi dX2_openDoor_84 ?_
      refine v_iload_n 3 dX2_openDoor_85 rfl rfl ?_
      refine v_iconst (1 : Int32) dX2_openDoor_86 (by decide) ?_
      refine v_iload dX2_openDoor_87 rfl ?_
      refine v_ishl dX2_openDoor_89 ?_
      refine v_ior dX2_openDoor_90 ?_
      refine v_istore_n (lv' := [some (.ref (fm_ad w aa)), none, some (.int v2), some (.int (v3 ||| ((1 : Int32) <<< (r3 &&& 31)))), some (.int v4), some (.int r3)]) 3 dX2_openDoor_91 rfl (by decide) rfl rfl ?_
      refine v_lw [some (.ref (fm_ad w aa)), none, some (.int v2), some (.int (v3 ||| ((1 : Int32) <<< (r3 &&& 31)))), some (.int v4), none] rfl ⟨rfl, rfl, rfl, rfl, trivial⟩ ?_
      exact t_X2_openDoor_92 hI haa v2 (v3 ||| ((1 : Int32) <<< (r3 &&& 31))) v4 (fm_up s4 (aa + 1) r3.toNatClampNeg (3 : Int32)) _ h kb ke
set_option maxHeartbeats 4000000 in
theorem i_X2_openDoor_53 {w : fm_W} {l : Launch} {o : fm_O} (hI : fm_I w 105) {aa : Nat} (haa : isH aa) (v2 : Int32) (n : Nat) (s : fm_M) (v3 : Int32) (v4 : Int32) (q : fm_M × Int32 × Int32) (h : fm_it (fun s => f_X2_openDoor_53 aa v2 s.1 s.2.1 s.2.2) n (s, v3, v4) = some q) (ke : ∀ (s : fm_M) (u3 : Int32) (u4 : Int32), q = (s, u3, u4) → fm_V w layX 105 l rm_X2_openDoor cX2_openDoor 6 RX2 (some .int) o 98 [some (.ref (fm_ad w aa)), none, some (.int v2), some (.int u3), some (.int u4), none] [] s) : fm_V w layX 105 l rm_X2_openDoor cX2_openDoor 6 RX2 (some .int) o 53 [some (.ref (fm_ad w aa)), none, some (.int v2), some (.int v3), some (.int v4), none] [] s :=
  fm_it_loop (body := (fun s => f_X2_openDoor_53 aa v2 s.1 s.2.1 s.2.2)) (P := fun s => fm_V w layX 105 l rm_X2_openDoor cX2_openDoor 6 RX2 (some .int) o 53 [some (.ref (fm_ad w aa)), none, some (.int v2), some (.int s.2.1), some (.int s.2.2), none] [] s.1) (K := (fun q : fm_M × Int32 × Int32 => (∀ (s : fm_M) (u3 : Int32) (u4 : Int32), q = (s, u3, u4) → fm_V w layX 105 l rm_X2_openDoor cX2_openDoor 6 RX2 (some .int) o 98 [some (.ref (fm_ad w aa)), none, some (.int v2), some (.int u3), some (.int u4), none] [] s))) (fun s z hb kl kx => t_X2_openDoor_53 hI haa v2 s.1 s.2.1 s.2.2 z hb (fun s u3 u4 e => kl _ e) (fun s u3 u4 e => (kx _ e) s u3 u4 rfl)) n (s, v3, v4) q h ke
def f_X2_openDoor_30 (aa : Nat) (v1 : Int32) (sk0 : Int32) (s : fm_M) : Option (Int32 × fm_M) :=
  if fm_in v1 3 = true then fm_op (fm_it (fun (yy : fm_M × Int32 × Int32) => f_X2_openDoor_53 aa sk0 yy.1 yy.2.1 yy.2.2) fm_fu ((fm_up (fm_up s (aa + 4) v1.toNatClampNeg (3 : Int32)) aa 10 (((fm_up s (aa + 4) v1.toNatClampNeg (3 : Int32)) aa 10) + (1 : Int32))), (0 : Int32), (0 : Int32))) (fun q5 => ((fun (s5 : fm_M) (x5_3 : Int32) (x5_4 : Int32) => some (x5_3, s5))) q5.1 q5.2.1 q5.2.2) else none
set_option maxHeartbeats 4000000 in
theorem t_X2_openDoor_30 {w : fm_W} {l : Launch} {o : fm_O} (hI : fm_I w 105) {aa : Nat} (haa : isH aa) (v1 : Int32) (sk0 : Int32) (s : fm_M) (z : Int32 × fm_M) (h : f_X2_openDoor_30 aa v1 sk0 s = some z) (ho : ∀ (r : Int32) (s : fm_M), z = (r, s) → o = (some (.int r), s)) : fm_V w layX 105 l rm_X2_openDoor cX2_openDoor 6 RX2 (some .int) o 30 [some (.ref (fm_ad w aa)), some (.int v1), none, none, none, none] [.int sk0] s := by
  unfold f_X2_openDoor_30 at h
  refine v_istore_n (lv' := [some (.ref (fm_ad w aa)), some (.int v1), some (.int sk0), none, none, none]) 2 dX2_openDoor_30 rfl (by decide) rfl rfl ?_
  refine v_aload_n 0 dX2_openDoor_31 rfl rfl ?_
  refine v_getr (aa + 4) g_X2_21 haa.1 (isH.lt (j := 0) haa (by decide)) rfl dX2_openDoor_32 ?_
  refine v_iload_n 1 dX2_openDoor_35 rfl rfl ?_
  refine v_iconst (3 : Int32) dX2_openDoor_36 (by decide) ?_
  obtain ⟨hi, h⟩ := fm_ift h
  refine v_iast (isH.lt (j := 4) haa (by decide)) (isH.a4 haa) hi dX2_openDoor_37 ?_
  refine v_aload_n 0 dX2_openDoor_38 rfl rfl ?_
  refine v_dup dX2_openDoor_39 rfl ?_
  refine v_geti g_X2_45 haa.1 (isH.lt (j := 0) haa (by decide)) rfl dX2_openDoor_40 ?_
  refine v_iconst (1 : Int32) dX2_openDoor_43 (by decide) ?_
  refine v_iadd dX2_openDoor_44 ?_
  refine v_put p_X2_45 haa.1 (isH.lt (j := 0) haa (by decide)) rfl ⟨rfl, rfl⟩ dX2_openDoor_45 ?_
  refine v_iconst (0 : Int32) dX2_openDoor_48 (by decide) ?_
  refine v_istore_n (lv' := [some (.ref (fm_ad w aa)), some (.int v1), some (.int sk0), some (.int (0 : Int32)), none, none]) 3 dX2_openDoor_49 rfl (by decide) rfl rfl ?_
  refine v_iconst (0 : Int32) dX2_openDoor_50 (by decide) ?_
  refine v_istore (lv' := [some (.ref (fm_ad w aa)), some (.int v1), some (.int sk0), some (.int (0 : Int32)), some (.int (0 : Int32)), none]) dX2_openDoor_51 (by decide) rfl rfl ?_
  obtain ⟨q5, h5, h⟩ := fm_ops h
  refine v_lw [some (.ref (fm_ad w aa)), none, some (.int sk0), some (.int (0 : Int32)), some (.int (0 : Int32)), none] rfl ⟨rfl, rfl, rfl, rfl, trivial⟩ ?_
  refine i_X2_openDoor_53 hI haa sk0 _ _ _ _ _ h5 (fun s5 x5_3 x5_4 e => ?_)
  subst e
  dsimp only at h
  refine v_iload_n 3 dX2_openDoor_98 rfl rfl ?_
  exact v_iret rfl (ho _ _ (Option.some.inj h).symm) dX2_openDoor_99
def f_X2_openDoor (aa : Nat) (v1 : Int32) (s : fm_M) : Option (Int32 × fm_M) :=
  fm_bd (f_X2_canOpenDoor aa v1 s) (fun r1 s1 => if r1 = 0 then some ((-2 : Int32), s1) else fm_bd (f_X2_oneWomanLeft aa s1) (fun r2 s2 => if r2 = 0 then f_X2_openDoor_30 aa v1 (s2 6 5) s2 else f_X2_openDoor_30 aa v1 (6 : Int32) s2))
set_option maxHeartbeats 4000000 in
theorem e_X2_openDoor {w : fm_W} {l : Launch} {o : fm_O} (hI : fm_I w 105) {aa : Nat} (haa : isH aa) (v1 : Int32) (s : fm_M) (z : Int32 × fm_M) (h : f_X2_openDoor aa v1 s = some z) (ho : ∀ (r : Int32) (s : fm_M), z = (r, s) → o = (some (.int r), s)) : fm_V w layX 105 l rm_X2_openDoor cX2_openDoor 6 RX2 (some .int) o 0 [some (.ref (fm_ad w aa)), some (.int v1), none, none, none, none] [] s := by
  unfold f_X2_openDoor at h
  refine v_aload_n 0 dX2_openDoor_0 rfl rfl ?_
  refine v_iload_n 1 dX2_openDoor_1 rfl rfl ?_
  obtain ⟨r1, s1, h1, h⟩ := fm_bds h
  refine v_cVi [.int v1] [] l_X2_96 (c_X2_canOpenDoor hI haa h1) haa.1 (isH.lt (j := 0) haa (by decide)) rfl rfl ⟨rfl, rfl, by decide, by decide⟩ (Nat.le_of_ble_eq_true rfl) dX2_openDoor_2 ?_
  refine v_if_ne 11 dX2_openDoor_5 (by decide) h (fun h => ?_) (fun h => ?_)
  · refine v_aload_n 0 dX2_openDoor_11 rfl rfl ?_
    obtain ⟨r2, s2, h2, h⟩ := fm_bds h
    refine v_cVi [] [] l_X2_99 (c_X2_oneWomanLeft hI haa h2) haa.1 (isH.lt (j := 0) haa (by decide)) rfl rfl ⟨rfl, rfl, by decide, by decide⟩ (Nat.le_of_ble_eq_true rfl) dX2_openDoor_12 ?_
    refine v_if_eq 23 dX2_openDoor_15 (by decide) h (fun h => ?_) (fun h => ?_)
    · refine v_aload_n 0 dX2_openDoor_23 rfl rfl ?_
      refine v_getr 6 g_X2_30 haa.1 (isH.lt (j := 0) haa (by decide)) rfl dX2_openDoor_24 ?_
      refine v_geti g_X2_103 yX_6 (by decide) rfl dX2_openDoor_27 ?_
      refine v_lw [some (.ref (fm_ad w aa)), some (.int v1), none, none, none, none] rfl ⟨rfl, rfl, trivial⟩ ?_
      exact t_X2_openDoor_30 hI haa v1 (s2 6 5) s2 _ h ho
    · refine v_bipush (6 : Int32) dX2_openDoor_18 (by decide) ?_
      refine v_goto 30 dX2_openDoor_20 (by decide) ?_
      refine v_lw [some (.ref (fm_ad w aa)), some (.int v1), none, none, none, none] rfl ⟨rfl, rfl, trivial⟩ ?_
      exact t_X2_openDoor_30 hI haa v1 (6 : Int32) s2 _ h ho
  · refine v_bipush (-2 : Int32) dX2_openDoor_8 (by decide) ?_
    exact v_iret rfl (ho _ _ (Option.some.inj h).symm) dX2_openDoor_10
theorem c_X2_openDoor {w : fm_W} {l : Launch} (hI : fm_I w 105) {aa : Nat} (haa : isH aa) {v1 : Int32} {s : fm_M} {r : Int32} {s2 : fm_M} (h : f_X2_openDoor aa v1 s = some (r, s2)) : fm_C w layX 105 l yX2_openDoor cX2_openDoor 6 (some .int) rm_X2_openDoor [.ref (fm_ad w aa), .int v1] s (some (.int r), s2) :=
  fm_of hI (by decide) rfl (Nat.le_of_ble_eq_true rfl) (e_X2_openDoor hI haa v1 s _ h (fun r s e => by cases e; rfl))
-- X2_allAreOut
abbrev rm_X2_allAreOut : Room := { frames := 1, cells := 0, slots := 0, locals := 23 }
def f_X2_allAreOut_20 (aa : Nat) (sk0 : Int32) (s : fm_M) : Option (Int32 × fm_M) :=
  if fm_b sk0 = true then some (sk0, s) else none
set_option maxHeartbeats 4000000 in
theorem t_X2_allAreOut_20 {w : fm_W} {l : Launch} {o : fm_O} (hI : fm_I w 105) {aa : Nat} (haa : isH aa) (sk0 : Int32) (s : fm_M) (z : Int32 × fm_M) (h : f_X2_allAreOut_20 aa sk0 s = some z) (ho : ∀ (r : Int32) (s : fm_M), z = (r, s) → o = (some (.int r), s)) : fm_V w layX 105 l rm_X2_allAreOut cX2_allAreOut 1 RX2 (some .boolean) o 20 [none] [.int sk0] s := by
  unfold f_X2_allAreOut_20 at h
  obtain ⟨hb, h⟩ := fm_ift h
  exact v_zret rfl (fm_b_nar hb).1 (ho _ _ (Option.some.inj h).symm) dX2_allAreOut_20
def f_X2_allAreOut (aa : Nat) (s : fm_M) : Option (Int32 × fm_M) :=
  fm_bd (f_X2_countChildren aa (3 : Int32) s) (fun r1 s1 => if r1 = (s1 6 2) then f_X2_allAreOut_20 aa (1 : Int32) s1 else f_X2_allAreOut_20 aa (0 : Int32) s1)
set_option maxHeartbeats 4000000 in
theorem e_X2_allAreOut {w : fm_W} {l : Launch} {o : fm_O} (hI : fm_I w 105) {aa : Nat} (haa : isH aa) (s : fm_M) (z : Int32 × fm_M) (h : f_X2_allAreOut aa s = some z) (ho : ∀ (r : Int32) (s : fm_M), z = (r, s) → o = (some (.int r), s)) : fm_V w layX 105 l rm_X2_allAreOut cX2_allAreOut 1 RX2 (some .boolean) o 0 [some (.ref (fm_ad w aa))] [] s := by
  unfold f_X2_allAreOut at h
  refine v_aload_n 0 dX2_allAreOut_0 rfl rfl ?_
  refine v_iconst (3 : Int32) dX2_allAreOut_1 (by decide) ?_
  obtain ⟨r1, s1, h1, h⟩ := fm_bds h
  refine v_cVi [.int (3 : Int32)] [] l_X2_67 (c_X2_countChildren hI haa h1) haa.1 (isH.lt (j := 0) haa (by decide)) rfl rfl ⟨rfl, rfl, by decide, by decide⟩ (Nat.le_of_ble_eq_true rfl) dX2_allAreOut_2 ?_
  refine v_aload_n 0 dX2_allAreOut_5 rfl rfl ?_
  refine v_getr 6 g_X2_30 haa.1 (isH.lt (j := 0) haa (by decide)) rfl dX2_allAreOut_6 ?_
  refine v_geti g_X2_54 yX_6 (by decide) rfl dX2_allAreOut_9 ?_
  refine v_icmp_ne 19 dX2_allAreOut_12 (by decide) h (fun h => ?_) (fun h => ?_)
  · refine v_iconst (0 : Int32) dX2_allAreOut_19 (by decide) ?_
    refine v_lw [none] rfl trivial ?_
    exact t_X2_allAreOut_20 hI haa (0 : Int32) s1 _ h ho
  · refine v_iconst (1 : Int32) dX2_allAreOut_15 (by decide) ?_
    refine v_goto 20 dX2_allAreOut_16 (by decide) ?_
    refine v_lw [none] rfl trivial ?_
    exact t_X2_allAreOut_20 hI haa (1 : Int32) s1 _ h ho
theorem c_X2_allAreOut {w : fm_W} {l : Launch} (hI : fm_I w 105) {aa : Nat} (haa : isH aa) {s : fm_M} {r : Int32} {s2 : fm_M} (h : f_X2_allAreOut aa s = some (r, s2)) : fm_C w layX 105 l yX2_allAreOut cX2_allAreOut 1 (some .boolean) rm_X2_allAreOut [.ref (fm_ad w aa)] s (some (.int r), s2) :=
  fm_of hI (by decide) rfl (Nat.le_of_ble_eq_true rfl) (e_X2_allAreOut hI haa s _ h (fun r s e => by cases e; rfl))
-- X2_copyFrom
abbrev rm_X2_copyFrom : Room := { frames := 1, cells := 0, slots := 0, locals := 26 }
def f_X2_copyFrom (aa : Nat) (ga : Nat) (s : fm_M) : Option (Int32 × fm_M) :=
  if fm_b ((fm_up (fm_up (fm_cp (fm_cp (fm_cp (fm_cp (fm_cp (fm_cp s (ga + 1) 0 (aa + 1) 0 6) (ga + 2) 0 (aa + 2) 0 6) (ga + 3) 0 (aa + 3) 0 6) (ga + 4) 0 (aa + 4) 0 3) (ga + 5) 0 (aa + 5) 0 3) (ga + 6) 0 (aa + 6) 0 3) aa 7 ((fm_cp (fm_cp (fm_cp (fm_cp (fm_cp (fm_cp s (ga + 1) 0 (aa + 1) 0 6) (ga + 2) 0 (aa + 2) 0 6) (ga + 3) 0 (aa + 3) 0 6) (ga + 4) 0 (aa + 4) 0 3) (ga + 5) 0 (aa + 5) 0 3) (ga + 6) 0 (aa + 6) 0 3) ga 7)) aa 8 ((fm_up (fm_cp (fm_cp (fm_cp (fm_cp (fm_cp (fm_cp s (ga + 1) 0 (aa + 1) 0 6) (ga + 2) 0 (aa + 2) 0 6) (ga + 3) 0 (aa + 3) 0 6) (ga + 4) 0 (aa + 4) 0 3) (ga + 5) 0 (aa + 5) 0 3) (ga + 6) 0 (aa + 6) 0 3) aa 7 ((fm_cp (fm_cp (fm_cp (fm_cp (fm_cp (fm_cp s (ga + 1) 0 (aa + 1) 0 6) (ga + 2) 0 (aa + 2) 0 6) (ga + 3) 0 (aa + 3) 0 6) (ga + 4) 0 (aa + 4) 0 3) (ga + 5) 0 (aa + 5) 0 3) (ga + 6) 0 (aa + 6) 0 3) ga 7)) ga 8)) ga 9) = true then some (0, (fm_up (fm_up (fm_up (fm_up (fm_cp (fm_cp (fm_cp (fm_cp (fm_cp (fm_cp s (ga + 1) 0 (aa + 1) 0 6) (ga + 2) 0 (aa + 2) 0 6) (ga + 3) 0 (aa + 3) 0 6) (ga + 4) 0 (aa + 4) 0 3) (ga + 5) 0 (aa + 5) 0 3) (ga + 6) 0 (aa + 6) 0 3) aa 7 ((fm_cp (fm_cp (fm_cp (fm_cp (fm_cp (fm_cp s (ga + 1) 0 (aa + 1) 0 6) (ga + 2) 0 (aa + 2) 0 6) (ga + 3) 0 (aa + 3) 0 6) (ga + 4) 0 (aa + 4) 0 3) (ga + 5) 0 (aa + 5) 0 3) (ga + 6) 0 (aa + 6) 0 3) ga 7)) aa 8 ((fm_up (fm_cp (fm_cp (fm_cp (fm_cp (fm_cp (fm_cp s (ga + 1) 0 (aa + 1) 0 6) (ga + 2) 0 (aa + 2) 0 6) (ga + 3) 0 (aa + 3) 0 6) (ga + 4) 0 (aa + 4) 0 3) (ga + 5) 0 (aa + 5) 0 3) (ga + 6) 0 (aa + 6) 0 3) aa 7 ((fm_cp (fm_cp (fm_cp (fm_cp (fm_cp (fm_cp s (ga + 1) 0 (aa + 1) 0 6) (ga + 2) 0 (aa + 2) 0 6) (ga + 3) 0 (aa + 3) 0 6) (ga + 4) 0 (aa + 4) 0 3) (ga + 5) 0 (aa + 5) 0 3) (ga + 6) 0 (aa + 6) 0 3) ga 7)) ga 8)) aa 9 ((fm_up (fm_up (fm_cp (fm_cp (fm_cp (fm_cp (fm_cp (fm_cp s (ga + 1) 0 (aa + 1) 0 6) (ga + 2) 0 (aa + 2) 0 6) (ga + 3) 0 (aa + 3) 0 6) (ga + 4) 0 (aa + 4) 0 3) (ga + 5) 0 (aa + 5) 0 3) (ga + 6) 0 (aa + 6) 0 3) aa 7 ((fm_cp (fm_cp (fm_cp (fm_cp (fm_cp (fm_cp s (ga + 1) 0 (aa + 1) 0 6) (ga + 2) 0 (aa + 2) 0 6) (ga + 3) 0 (aa + 3) 0 6) (ga + 4) 0 (aa + 4) 0 3) (ga + 5) 0 (aa + 5) 0 3) (ga + 6) 0 (aa + 6) 0 3) ga 7)) aa 8 ((fm_up (fm_cp (fm_cp (fm_cp (fm_cp (fm_cp (fm_cp s (ga + 1) 0 (aa + 1) 0 6) (ga + 2) 0 (aa + 2) 0 6) (ga + 3) 0 (aa + 3) 0 6) (ga + 4) 0 (aa + 4) 0 3) (ga + 5) 0 (aa + 5) 0 3) (ga + 6) 0 (aa + 6) 0 3) aa 7 ((fm_cp (fm_cp (fm_cp (fm_cp (fm_cp (fm_cp s (ga + 1) 0 (aa + 1) 0 6) (ga + 2) 0 (aa + 2) 0 6) (ga + 3) 0 (aa + 3) 0 6) (ga + 4) 0 (aa + 4) 0 3) (ga + 5) 0 (aa + 5) 0 3) (ga + 6) 0 (aa + 6) 0 3) ga 7)) ga 8)) ga 9)) aa 10 (((fm_up (fm_up (fm_up (fm_cp (fm_cp (fm_cp (fm_cp (fm_cp (fm_cp s (ga + 1) 0 (aa + 1) 0 6) (ga + 2) 0 (aa + 2) 0 6) (ga + 3) 0 (aa + 3) 0 6) (ga + 4) 0 (aa + 4) 0 3) (ga + 5) 0 (aa + 5) 0 3) (ga + 6) 0 (aa + 6) 0 3) aa 7 ((fm_cp (fm_cp (fm_cp (fm_cp (fm_cp (fm_cp s (ga + 1) 0 (aa + 1) 0 6) (ga + 2) 0 (aa + 2) 0 6) (ga + 3) 0 (aa + 3) 0 6) (ga + 4) 0 (aa + 4) 0 3) (ga + 5) 0 (aa + 5) 0 3) (ga + 6) 0 (aa + 6) 0 3) ga 7)) aa 8 ((fm_up (fm_cp (fm_cp (fm_cp (fm_cp (fm_cp (fm_cp s (ga + 1) 0 (aa + 1) 0 6) (ga + 2) 0 (aa + 2) 0 6) (ga + 3) 0 (aa + 3) 0 6) (ga + 4) 0 (aa + 4) 0 3) (ga + 5) 0 (aa + 5) 0 3) (ga + 6) 0 (aa + 6) 0 3) aa 7 ((fm_cp (fm_cp (fm_cp (fm_cp (fm_cp (fm_cp s (ga + 1) 0 (aa + 1) 0 6) (ga + 2) 0 (aa + 2) 0 6) (ga + 3) 0 (aa + 3) 0 6) (ga + 4) 0 (aa + 4) 0 3) (ga + 5) 0 (aa + 5) 0 3) (ga + 6) 0 (aa + 6) 0 3) ga 7)) ga 8)) aa 9 ((fm_up (fm_up (fm_cp (fm_cp (fm_cp (fm_cp (fm_cp (fm_cp s (ga + 1) 0 (aa + 1) 0 6) (ga + 2) 0 (aa + 2) 0 6) (ga + 3) 0 (aa + 3) 0 6) (ga + 4) 0 (aa + 4) 0 3) (ga + 5) 0 (aa + 5) 0 3) (ga + 6) 0 (aa + 6) 0 3) aa 7 ((fm_cp (fm_cp (fm_cp (fm_cp (fm_cp (fm_cp s (ga + 1) 0 (aa + 1) 0 6) (ga + 2) 0 (aa + 2) 0 6) (ga + 3) 0 (aa + 3) 0 6) (ga + 4) 0 (aa + 4) 0 3) (ga + 5) 0 (aa + 5) 0 3) (ga + 6) 0 (aa + 6) 0 3) ga 7)) aa 8 ((fm_up (fm_cp (fm_cp (fm_cp (fm_cp (fm_cp (fm_cp s (ga + 1) 0 (aa + 1) 0 6) (ga + 2) 0 (aa + 2) 0 6) (ga + 3) 0 (aa + 3) 0 6) (ga + 4) 0 (aa + 4) 0 3) (ga + 5) 0 (aa + 5) 0 3) (ga + 6) 0 (aa + 6) 0 3) aa 7 ((fm_cp (fm_cp (fm_cp (fm_cp (fm_cp (fm_cp s (ga + 1) 0 (aa + 1) 0 6) (ga + 2) 0 (aa + 2) 0 6) (ga + 3) 0 (aa + 3) 0 6) (ga + 4) 0 (aa + 4) 0 3) (ga + 5) 0 (aa + 5) 0 3) (ga + 6) 0 (aa + 6) 0 3) ga 7)) ga 8)) ga 9)) aa 10) + (1 : Int32)))) else none
set_option maxHeartbeats 4000000 in
theorem e_X2_copyFrom {w : fm_W} {l : Launch} {o : fm_O} (hI : fm_I w 105) {aa : Nat} (haa : isH aa) {ga : Nat} (hga : isH ga) (s : fm_M) (z : Int32 × fm_M) (h : f_X2_copyFrom aa ga s = some z) (ho : ∀ (r : Int32) (s : fm_M), z = (r, s) → o = (none, s)) : fm_V w layX 105 l rm_X2_copyFrom cX2_copyFrom 2 RX2 none o 0 [some (.ref (fm_ad w aa)), some (.ref (fm_ad w ga))] [] s := by
  unfold f_X2_copyFrom at h
  refine v_aload_n 1 dX2_copyFrom_0 rfl rfl ?_
  refine v_getr (ga + 1) g_X2_9 hga.1 (isH.lt (j := 0) hga (by decide)) rfl dX2_copyFrom_1 ?_
  refine v_iconst (0 : Int32) dX2_copyFrom_4 (by decide) ?_
  refine v_aload_n 0 dX2_copyFrom_5 rfl rfl ?_
  refine v_getr (aa + 1) g_X2_9 haa.1 (isH.lt (j := 0) haa (by decide)) rfl dX2_copyFrom_6 ?_
  refine v_iconst (0 : Int32) dX2_copyFrom_9 (by decide) ?_
  refine v_bipush (6 : Int32) dX2_copyFrom_10 (by decide) ?_
  refine v_copy 0 0 6 cp_X2_48 (isH.lt (j := 1) hga (by decide)) (isH.lt (j := 1) haa (by decide)) (isH.a1 hga) (isH.a1 haa) (by decide) (by decide) (by decide) (by decide) (by decide) (by decide) ⟨by decide, Nat.le_of_ble_eq_true rfl⟩ dX2_copyFrom_12 ?_
  refine v_aload_n 1 dX2_copyFrom_15 rfl rfl ?_
  refine v_getr (ga + 2) g_X2_15 hga.1 (isH.lt (j := 0) hga (by decide)) rfl dX2_copyFrom_16 ?_
  refine v_iconst (0 : Int32) dX2_copyFrom_19 (by decide) ?_
  refine v_aload_n 0 dX2_copyFrom_20 rfl rfl ?_
  refine v_getr (aa + 2) g_X2_15 haa.1 (isH.lt (j := 0) haa (by decide)) rfl dX2_copyFrom_21 ?_
  refine v_iconst (0 : Int32) dX2_copyFrom_24 (by decide) ?_
  refine v_bipush (6 : Int32) dX2_copyFrom_25 (by decide) ?_
  refine v_copy 0 0 6 cp_X2_48 (isH.lt (j := 2) hga (by decide)) (isH.lt (j := 2) haa (by decide)) (isH.a2 hga) (isH.a2 haa) (by decide) (by decide) (by decide) (by decide) (by decide) (by decide) ⟨by decide, Nat.le_of_ble_eq_true rfl⟩ dX2_copyFrom_27 ?_
  refine v_aload_n 1 dX2_copyFrom_30 rfl rfl ?_
  refine v_getr (ga + 3) g_X2_18 hga.1 (isH.lt (j := 0) hga (by decide)) rfl dX2_copyFrom_31 ?_
  refine v_iconst (0 : Int32) dX2_copyFrom_34 (by decide) ?_
  refine v_aload_n 0 dX2_copyFrom_35 rfl rfl ?_
  refine v_getr (aa + 3) g_X2_18 haa.1 (isH.lt (j := 0) haa (by decide)) rfl dX2_copyFrom_36 ?_
  refine v_iconst (0 : Int32) dX2_copyFrom_39 (by decide) ?_
  refine v_bipush (6 : Int32) dX2_copyFrom_40 (by decide) ?_
  refine v_copy 0 0 6 cp_X2_48 (isH.lt (j := 3) hga (by decide)) (isH.lt (j := 3) haa (by decide)) (isH.a3 hga) (isH.a3 haa) (by decide) (by decide) (by decide) (by decide) (by decide) (by decide) ⟨by decide, Nat.le_of_ble_eq_true rfl⟩ dX2_copyFrom_42 ?_
  refine v_aload_n 1 dX2_copyFrom_45 rfl rfl ?_
  refine v_getr (ga + 4) g_X2_21 hga.1 (isH.lt (j := 0) hga (by decide)) rfl dX2_copyFrom_46 ?_
  refine v_iconst (0 : Int32) dX2_copyFrom_49 (by decide) ?_
  refine v_aload_n 0 dX2_copyFrom_50 rfl rfl ?_
  refine v_getr (aa + 4) g_X2_21 haa.1 (isH.lt (j := 0) haa (by decide)) rfl dX2_copyFrom_51 ?_
  refine v_iconst (0 : Int32) dX2_copyFrom_54 (by decide) ?_
  refine v_iconst (3 : Int32) dX2_copyFrom_55 (by decide) ?_
  refine v_copy 0 0 3 cp_X2_48 (isH.lt (j := 4) hga (by decide)) (isH.lt (j := 4) haa (by decide)) (isH.a4 hga) (isH.a4 haa) (by decide) (by decide) (by decide) (by decide) (by decide) (by decide) ⟨by decide, Nat.le_of_ble_eq_true rfl⟩ dX2_copyFrom_56 ?_
  refine v_aload_n 1 dX2_copyFrom_59 rfl rfl ?_
  refine v_getr (ga + 5) g_X2_24 hga.1 (isH.lt (j := 0) hga (by decide)) rfl dX2_copyFrom_60 ?_
  refine v_iconst (0 : Int32) dX2_copyFrom_63 (by decide) ?_
  refine v_aload_n 0 dX2_copyFrom_64 rfl rfl ?_
  refine v_getr (aa + 5) g_X2_24 haa.1 (isH.lt (j := 0) haa (by decide)) rfl dX2_copyFrom_65 ?_
  refine v_iconst (0 : Int32) dX2_copyFrom_68 (by decide) ?_
  refine v_iconst (3 : Int32) dX2_copyFrom_69 (by decide) ?_
  refine v_copy 0 0 3 cp_X2_48 (isH.lt (j := 5) hga (by decide)) (isH.lt (j := 5) haa (by decide)) (isH.a5 hga) (isH.a5 haa) (by decide) (by decide) (by decide) (by decide) (by decide) (by decide) ⟨by decide, Nat.le_of_ble_eq_true rfl⟩ dX2_copyFrom_70 ?_
  refine v_aload_n 1 dX2_copyFrom_73 rfl rfl ?_
  refine v_getr (ga + 6) g_X2_27 hga.1 (isH.lt (j := 0) hga (by decide)) rfl dX2_copyFrom_74 ?_
  refine v_iconst (0 : Int32) dX2_copyFrom_77 (by decide) ?_
  refine v_aload_n 0 dX2_copyFrom_78 rfl rfl ?_
  refine v_getr (aa + 6) g_X2_27 haa.1 (isH.lt (j := 0) haa (by decide)) rfl dX2_copyFrom_79 ?_
  refine v_iconst (0 : Int32) dX2_copyFrom_82 (by decide) ?_
  refine v_iconst (3 : Int32) dX2_copyFrom_83 (by decide) ?_
  refine v_copy 0 0 3 cp_X2_48 (isH.lt (j := 6) hga (by decide)) (isH.lt (j := 6) haa (by decide)) (isH.a6 hga) (isH.a6 haa) (by decide) (by decide) (by decide) (by decide) (by decide) (by decide) ⟨by decide, Nat.le_of_ble_eq_true rfl⟩ dX2_copyFrom_84 ?_
  refine v_aload_n 0 dX2_copyFrom_87 rfl rfl ?_
  refine v_aload_n 1 dX2_copyFrom_88 rfl rfl ?_
  refine v_geti g_X2_34 hga.1 (isH.lt (j := 0) hga (by decide)) rfl dX2_copyFrom_89 ?_
  refine v_put p_X2_34 haa.1 (isH.lt (j := 0) haa (by decide)) rfl ⟨rfl, rfl⟩ dX2_copyFrom_92 ?_
  refine v_aload_n 0 dX2_copyFrom_95 rfl rfl ?_
  refine v_aload_n 1 dX2_copyFrom_96 rfl rfl ?_
  refine v_geti g_X2_38 hga.1 (isH.lt (j := 0) hga (by decide)) rfl dX2_copyFrom_97 ?_
  refine v_put p_X2_38 haa.1 (isH.lt (j := 0) haa (by decide)) rfl ⟨rfl, rfl⟩ dX2_copyFrom_100 ?_
  refine v_aload_n 0 dX2_copyFrom_103 rfl rfl ?_
  refine v_aload_n 1 dX2_copyFrom_104 rfl rfl ?_
  refine v_geti g_X2_41 hga.1 (isH.lt (j := 0) hga (by decide)) rfl dX2_copyFrom_105 ?_
  obtain ⟨hb, h⟩ := fm_ift h
  refine v_put p_X2_41 haa.1 (isH.lt (j := 0) haa (by decide)) rfl (fm_b_nar hb) dX2_copyFrom_108 ?_
  refine v_aload_n 0 dX2_copyFrom_111 rfl rfl ?_
  refine v_dup dX2_copyFrom_112 rfl ?_
  refine v_geti g_X2_45 haa.1 (isH.lt (j := 0) haa (by decide)) rfl dX2_copyFrom_113 ?_
  refine v_iconst (1 : Int32) dX2_copyFrom_116 (by decide) ?_
  refine v_iadd dX2_copyFrom_117 ?_
  refine v_put p_X2_45 haa.1 (isH.lt (j := 0) haa (by decide)) rfl ⟨rfl, rfl⟩ dX2_copyFrom_118 ?_
  exact v_vret rfl (ho _ _ (Option.some.inj h).symm) dX2_copyFrom_121
theorem c_X2_copyFrom {w : fm_W} {l : Launch} (hI : fm_I w 105) {aa : Nat} (haa : isH aa) {ga : Nat} (hga : isH ga) {s : fm_M} {r : Int32} {s2 : fm_M} (h : f_X2_copyFrom aa ga s = some (r, s2)) : fm_C w layX 105 l yX2_copyFrom cX2_copyFrom 2 none rm_X2_copyFrom [.ref (fm_ad w aa), .ref (fm_ad w ga)] s (none, s2) :=
  fm_of hI (by decide) rfl (Nat.le_of_ble_eq_true rfl) (e_X2_copyFrom hI haa hga s _ h (fun r s e => by cases e; rfl))
-- X2_boiledInAll
abbrev rm_X2_boiledInAll : Room := { frames := 0, cells := 0, slots := 0, locals := 0 }
def f_X2_boiledInAll_4 (aa : Nat) (s : fm_M) (v1 : Int32) (v2 : Int32) : Option ((fm_M × Int32 × Int32) ⊕ (fm_M × Int32 × Int32)) :=
  if (6 : Int32) ≤ v2 then some (.inr (s, v1, v2)) else if fm_in v2 6 = true then some (.inl (s, (v1 + (s (aa + 3) v2.toNatClampNeg)), (v2 + (1 : Int32)))) else none
set_option maxHeartbeats 4000000 in
theorem t_X2_boiledInAll_4 {w : fm_W} {l : Launch} {o : fm_O} (hI : fm_I w 105) {aa : Nat} (haa : isH aa) (s : fm_M) (v1 : Int32) (v2 : Int32) (z : (fm_M × Int32 × Int32) ⊕ (fm_M × Int32 × Int32)) (h : f_X2_boiledInAll_4 aa s v1 v2 = some z) (kb : ∀ (s : fm_M) (u1 : Int32) (u2 : Int32), z = .inl (s, u1, u2) → fm_V w layX 105 l rm_X2_boiledInAll cX2_boiledInAll 3 RX2 (some .int) o 4 [some (.ref (fm_ad w aa)), some (.int u1), some (.int u2)] [] s) (ke : ∀ (s : fm_M) (u1 : Int32) (u2 : Int32), z = .inr (s, u1, u2) → fm_V w layX 105 l rm_X2_boiledInAll cX2_boiledInAll 3 RX2 (some .int) o 25 [some (.ref (fm_ad w aa)), some (.int u1), some (.int u2)] [] s) : fm_V w layX 105 l rm_X2_boiledInAll cX2_boiledInAll 3 RX2 (some .int) o 4 [some (.ref (fm_ad w aa)), some (.int v1), some (.int v2)] [] s := by
  unfold f_X2_boiledInAll_4 at h
  refine v_iload_n 2 dX2_boiledInAll_4 rfl rfl ?_
  refine v_bipush (6 : Int32) dX2_boiledInAll_5 (by decide) ?_
  refine v_icmp_ge 25 dX2_boiledInAll_7 (by decide) h (fun h => ?_) (fun h => ?_)
  · refine v_lw [some (.ref (fm_ad w aa)), some (.int v1), some (.int v2)] rfl ⟨rfl, rfl, rfl, trivial⟩ ?_
    exact ke _ _ _ (Option.some.inj h).symm
  · refine v_iload_n 1 dX2_boiledInAll_10 rfl rfl ?_
    refine v_aload_n 0 dX2_boiledInAll_11 rfl rfl ?_
    refine v_getr (aa + 3) g_X2_18 haa.1 (isH.lt (j := 0) haa (by decide)) rfl dX2_boiledInAll_12 ?_
    refine v_iload_n 2 dX2_boiledInAll_15 rfl rfl ?_
    obtain ⟨hi, h⟩ := fm_ift h
    refine v_iald (Or.inl ⟨(isH.lt (j := 3) haa (by decide)), (isH.a3 haa)⟩) hi dX2_boiledInAll_16 ?_
    refine v_iadd dX2_boiledInAll_17 ?_
    refine v_istore_n (lv' := [some (.ref (fm_ad w aa)), some (.int (v1 + (s (aa + 3) v2.toNatClampNeg))), some (.int v2)]) 1 dX2_boiledInAll_18 rfl (by decide) rfl rfl ?_
    refine v_iinc (lv' := [some (.ref (fm_ad w aa)), some (.int (v1 + (s (aa + 3) v2.toNatClampNeg))), some (.int (v2 + (1 : Int32)))]) (1 : Int32) dX2_boiledInAll_19 rfl (by decide) (by decide) rfl rfl ?_
    refine v_goto 4 dX2_boiledInAll_22 (by decide) ?_
    refine v_lw [some (.ref (fm_ad w aa)), some (.int (v1 + (s (aa + 3) v2.toNatClampNeg))), some (.int (v2 + (1 : Int32)))] rfl ⟨rfl, rfl, rfl, trivial⟩ ?_
    exact kb _ _ _ (Option.some.inj h).symm
set_option maxHeartbeats 4000000 in
theorem i_X2_boiledInAll_4 {w : fm_W} {l : Launch} {o : fm_O} (hI : fm_I w 105) {aa : Nat} (haa : isH aa) (n : Nat) (s : fm_M) (v1 : Int32) (v2 : Int32) (q : fm_M × Int32 × Int32) (h : fm_it (fun s => f_X2_boiledInAll_4 aa s.1 s.2.1 s.2.2) n (s, v1, v2) = some q) (ke : ∀ (s : fm_M) (u1 : Int32) (u2 : Int32), q = (s, u1, u2) → fm_V w layX 105 l rm_X2_boiledInAll cX2_boiledInAll 3 RX2 (some .int) o 25 [some (.ref (fm_ad w aa)), some (.int u1), some (.int u2)] [] s) : fm_V w layX 105 l rm_X2_boiledInAll cX2_boiledInAll 3 RX2 (some .int) o 4 [some (.ref (fm_ad w aa)), some (.int v1), some (.int v2)] [] s :=
  fm_it_loop (body := (fun s => f_X2_boiledInAll_4 aa s.1 s.2.1 s.2.2)) (P := fun s => fm_V w layX 105 l rm_X2_boiledInAll cX2_boiledInAll 3 RX2 (some .int) o 4 [some (.ref (fm_ad w aa)), some (.int s.2.1), some (.int s.2.2)] [] s.1) (K := (fun q : fm_M × Int32 × Int32 => (∀ (s : fm_M) (u1 : Int32) (u2 : Int32), q = (s, u1, u2) → fm_V w layX 105 l rm_X2_boiledInAll cX2_boiledInAll 3 RX2 (some .int) o 25 [some (.ref (fm_ad w aa)), some (.int u1), some (.int u2)] [] s))) (fun s z hb kl kx => t_X2_boiledInAll_4 hI haa s.1 s.2.1 s.2.2 z hb (fun s u1 u2 e => kl _ e) (fun s u1 u2 e => (kx _ e) s u1 u2 rfl)) n (s, v1, v2) q h ke
def f_X2_boiledInAll (aa : Nat) (s : fm_M) : Option (Int32 × fm_M) :=
  fm_op (fm_it (fun (yy : fm_M × Int32 × Int32) => f_X2_boiledInAll_4 aa yy.1 yy.2.1 yy.2.2) fm_fu (s, (0 : Int32), (0 : Int32))) (fun q1 => ((fun (s1 : fm_M) (x1_1 : Int32) (x1_2 : Int32) => some (x1_1, s1))) q1.1 q1.2.1 q1.2.2)
set_option maxHeartbeats 4000000 in
theorem e_X2_boiledInAll {w : fm_W} {l : Launch} {o : fm_O} (hI : fm_I w 105) {aa : Nat} (haa : isH aa) (s : fm_M) (z : Int32 × fm_M) (h : f_X2_boiledInAll aa s = some z) (ho : ∀ (r : Int32) (s : fm_M), z = (r, s) → o = (some (.int r), s)) : fm_V w layX 105 l rm_X2_boiledInAll cX2_boiledInAll 3 RX2 (some .int) o 0 [some (.ref (fm_ad w aa)), none, none] [] s := by
  unfold f_X2_boiledInAll at h
  refine v_iconst (0 : Int32) dX2_boiledInAll_0 (by decide) ?_
  refine v_istore_n (lv' := [some (.ref (fm_ad w aa)), some (.int (0 : Int32)), none]) 1 dX2_boiledInAll_1 rfl (by decide) rfl rfl ?_
  refine v_iconst (0 : Int32) dX2_boiledInAll_2 (by decide) ?_
  refine v_istore_n (lv' := [some (.ref (fm_ad w aa)), some (.int (0 : Int32)), some (.int (0 : Int32))]) 2 dX2_boiledInAll_3 rfl (by decide) rfl rfl ?_
  obtain ⟨q1, h1, h⟩ := fm_ops h
  refine v_lw [some (.ref (fm_ad w aa)), some (.int (0 : Int32)), some (.int (0 : Int32))] rfl ⟨rfl, rfl, rfl, trivial⟩ ?_
  refine i_X2_boiledInAll_4 hI haa _ _ _ _ _ h1 (fun s1 x1_1 x1_2 e => ?_)
  subst e
  dsimp only at h
  refine v_iload_n 1 dX2_boiledInAll_25 rfl rfl ?_
  exact v_iret rfl (ho _ _ (Option.some.inj h).symm) dX2_boiledInAll_26
theorem c_X2_boiledInAll {w : fm_W} {l : Launch} (hI : fm_I w 105) {aa : Nat} (haa : isH aa) {s : fm_M} {r : Int32} {s2 : fm_M} (h : f_X2_boiledInAll aa s = some (r, s2)) : fm_C w layX 105 l yX2_boiledInAll cX2_boiledInAll 3 (some .int) rm_X2_boiledInAll [.ref (fm_ad w aa)] s (some (.int r), s2) :=
  fm_of hI (by decide) rfl (Nat.le_of_ble_eq_true rfl) (e_X2_boiledInAll hI haa s _ h (fun r s e => by cases e; rfl))
-- X2_canLayThings
abbrev rm_X2_canLayThings : Room := { frames := 1, cells := 0, slots := 0, locals := 23 }
def f_X2_canLayThings_28 (aa : Nat) (sk0 : Int32) (s : fm_M) : Option (Int32 × fm_M) :=
  if fm_b sk0 = true then some (sk0, s) else none
set_option maxHeartbeats 4000000 in
theorem t_X2_canLayThings_28 {w : fm_W} {l : Launch} {o : fm_O} (hI : fm_I w 105) {aa : Nat} (haa : isH aa) (sk0 : Int32) (s : fm_M) (z : Int32 × fm_M) (h : f_X2_canLayThings_28 aa sk0 s = some z) (ho : ∀ (r : Int32) (s : fm_M), z = (r, s) → o = (some (.int r), s)) : fm_V w layX 105 l rm_X2_canLayThings cX2_canLayThings 2 RX2 (some .boolean) o 28 [none, none] [.int sk0] s := by
  unfold f_X2_canLayThings_28 at h
  obtain ⟨hb, h⟩ := fm_ift h
  exact v_zret rfl (fm_b_nar hb).1 (ho _ _ (Option.some.inj h).symm) dX2_canLayThings_28
def f_X2_canLayThings_27 (aa : Nat) (s : fm_M) : Option (Int32 × fm_M) :=
  f_X2_canLayThings_28 aa (0 : Int32) s
set_option maxHeartbeats 4000000 in
theorem t_X2_canLayThings_27 {w : fm_W} {l : Launch} {o : fm_O} (hI : fm_I w 105) {aa : Nat} (haa : isH aa) (s : fm_M) (z : Int32 × fm_M) (h : f_X2_canLayThings_27 aa s = some z) (ho : ∀ (r : Int32) (s : fm_M), z = (r, s) → o = (some (.int r), s)) : fm_V w layX 105 l rm_X2_canLayThings cX2_canLayThings 2 RX2 (some .boolean) o 27 [none, none] [] s := by
  unfold f_X2_canLayThings_27 at h
  refine v_iconst (0 : Int32) dX2_canLayThings_27 (by decide) ?_
  refine v_lw [none, none] rfl trivial ?_
  exact t_X2_canLayThings_28 hI haa (0 : Int32) s _ h ho
def f_X2_canLayThings (aa : Nat) (v1 : Int32) (s : fm_M) : Option (Int32 × fm_M) :=
  fm_bd (f_X2_isFree aa v1 s) (fun r1 s1 => if r1 = 0 then f_X2_canLayThings_27 aa s1 else if (s1 aa 9) = 0 then fm_bd (f_X2_countWomen aa (2 : Int32) s1) (fun r2 s2 => if r2 = 0 then f_X2_canLayThings_28 aa (1 : Int32) s2 else f_X2_canLayThings_27 aa s2) else f_X2_canLayThings_27 aa s1)
set_option maxHeartbeats 4000000 in
theorem e_X2_canLayThings {w : fm_W} {l : Launch} {o : fm_O} (hI : fm_I w 105) {aa : Nat} (haa : isH aa) (v1 : Int32) (s : fm_M) (z : Int32 × fm_M) (h : f_X2_canLayThings aa v1 s = some z) (ho : ∀ (r : Int32) (s : fm_M), z = (r, s) → o = (some (.int r), s)) : fm_V w layX 105 l rm_X2_canLayThings cX2_canLayThings 2 RX2 (some .boolean) o 0 [some (.ref (fm_ad w aa)), some (.int v1)] [] s := by
  unfold f_X2_canLayThings at h
  refine v_aload_n 0 dX2_canLayThings_0 rfl rfl ?_
  refine v_iload_n 1 dX2_canLayThings_1 rfl rfl ?_
  obtain ⟨r1, s1, h1, h⟩ := fm_bds h
  refine v_cVi [.int v1] [] l_X2_59 (c_X2_isFree hI haa h1) haa.1 (isH.lt (j := 0) haa (by decide)) rfl rfl ⟨rfl, rfl, by decide, by decide⟩ (Nat.le_of_ble_eq_true rfl) dX2_canLayThings_2 ?_
  refine v_if_eq 27 dX2_canLayThings_5 (by decide) h (fun h => ?_) (fun h => ?_)
  · refine v_lw [none, none] rfl trivial ?_
    exact t_X2_canLayThings_27 hI haa s1 _ h ho
  · refine v_aload_n 0 dX2_canLayThings_8 rfl rfl ?_
    refine v_geti g_X2_41 haa.1 (isH.lt (j := 0) haa (by decide)) rfl dX2_canLayThings_9 ?_
    refine v_if_ne 27 dX2_canLayThings_12 (by decide) h (fun h => ?_) (fun h => ?_)
    · refine v_lw [none, none] rfl trivial ?_
      exact t_X2_canLayThings_27 hI haa s1 _ h ho
    · refine v_aload_n 0 dX2_canLayThings_15 rfl rfl ?_
      refine v_iconst (2 : Int32) dX2_canLayThings_16 (by decide) ?_
      obtain ⟨r2, s2, h2, h⟩ := fm_bds h
      refine v_cVi [.int (2 : Int32)] [] l_X2_63 (c_X2_countWomen hI haa h2) haa.1 (isH.lt (j := 0) haa (by decide)) rfl rfl ⟨rfl, rfl, by decide, by decide⟩ (Nat.le_of_ble_eq_true rfl) dX2_canLayThings_17 ?_
      refine v_if_ne 27 dX2_canLayThings_20 (by decide) h (fun h => ?_) (fun h => ?_)
      · refine v_lw [none, none] rfl trivial ?_
        exact t_X2_canLayThings_27 hI haa s2 _ h ho
      · refine v_iconst (1 : Int32) dX2_canLayThings_23 (by decide) ?_
        refine v_goto 28 dX2_canLayThings_24 (by decide) ?_
        refine v_lw [none, none] rfl trivial ?_
        exact t_X2_canLayThings_28 hI haa (1 : Int32) s2 _ h ho
theorem c_X2_canLayThings {w : fm_W} {l : Launch} (hI : fm_I w 105) {aa : Nat} (haa : isH aa) {v1 : Int32} {s : fm_M} {r : Int32} {s2 : fm_M} (h : f_X2_canLayThings aa v1 s = some (r, s2)) : fm_C w layX 105 l yX2_canLayThings cX2_canLayThings 2 (some .boolean) rm_X2_canLayThings [.ref (fm_ad w aa), .int v1] s (some (.int r), s2) :=
  fm_of hI (by decide) rfl (Nat.le_of_ble_eq_true rfl) (e_X2_canLayThings hI haa v1 s _ h (fun r s e => by cases e; rfl))
-- X2_layThings
abbrev rm_X2_layThings : Room := { frames := 2, cells := 0, slots := 0, locals := 44 }
def f_X2_layThings (aa : Nat) (v1 : Int32) (s : fm_M) : Option (Int32 × fm_M) :=
  fm_bd (f_X2_canLayThings aa v1 s) (fun r1 s1 => if r1 = 0 then some ((-2 : Int32), s1) else if fm_in v1 3 = true then if fm_in v1 3 = true then if fm_in v1 3 = true then some (((fm_up (fm_up (fm_up s1 (aa + 4) v1.toNatClampNeg (2 : Int32)) (aa + 5) v1.toNatClampNeg (3 : Int32)) aa 10 (((fm_up (fm_up s1 (aa + 4) v1.toNatClampNeg (2 : Int32)) (aa + 5) v1.toNatClampNeg (3 : Int32)) aa 10) + (1 : Int32))) (aa + 5) v1.toNatClampNeg), (fm_up (fm_up (fm_up s1 (aa + 4) v1.toNatClampNeg (2 : Int32)) (aa + 5) v1.toNatClampNeg (3 : Int32)) aa 10 (((fm_up (fm_up s1 (aa + 4) v1.toNatClampNeg (2 : Int32)) (aa + 5) v1.toNatClampNeg (3 : Int32)) aa 10) + (1 : Int32)))) else none else none else none)
set_option maxHeartbeats 4000000 in
theorem e_X2_layThings {w : fm_W} {l : Launch} {o : fm_O} (hI : fm_I w 105) {aa : Nat} (haa : isH aa) (v1 : Int32) (s : fm_M) (z : Int32 × fm_M) (h : f_X2_layThings aa v1 s = some z) (ho : ∀ (r : Int32) (s : fm_M), z = (r, s) → o = (some (.int r), s)) : fm_V w layX 105 l rm_X2_layThings cX2_layThings 2 RX2 (some .int) o 0 [some (.ref (fm_ad w aa)), some (.int v1)] [] s := by
  unfold f_X2_layThings at h
  refine v_aload_n 0 dX2_layThings_0 rfl rfl ?_
  refine v_iload_n 1 dX2_layThings_1 rfl rfl ?_
  obtain ⟨r1, s1, h1, h⟩ := fm_bds h
  refine v_cVi [.int v1] [] l_X2_93 (c_X2_canLayThings hI haa h1) haa.1 (isH.lt (j := 0) haa (by decide)) rfl rfl ⟨rfl, rfl, by decide, by decide⟩ (Nat.le_of_ble_eq_true rfl) dX2_layThings_2 ?_
  refine v_if_ne 11 dX2_layThings_5 (by decide) h (fun h => ?_) (fun h => ?_)
  · refine v_aload_n 0 dX2_layThings_11 rfl rfl ?_
    refine v_getr (aa + 4) g_X2_21 haa.1 (isH.lt (j := 0) haa (by decide)) rfl dX2_layThings_12 ?_
    refine v_iload_n 1 dX2_layThings_15 rfl rfl ?_
    refine v_iconst (2 : Int32) dX2_layThings_16 (by decide) ?_
    obtain ⟨hi, h⟩ := fm_ift h
    refine v_iast (isH.lt (j := 4) haa (by decide)) (isH.a4 haa) hi dX2_layThings_17 ?_
    refine v_aload_n 0 dX2_layThings_18 rfl rfl ?_
    refine v_getr (aa + 5) g_X2_24 haa.1 (isH.lt (j := 0) haa (by decide)) rfl dX2_layThings_19 ?_
    refine v_iload_n 1 dX2_layThings_22 rfl rfl ?_
    refine v_iconst (3 : Int32) dX2_layThings_23 (by decide) ?_
    obtain ⟨hi, h⟩ := fm_ift h
    refine v_iast (isH.lt (j := 5) haa (by decide)) (isH.a5 haa) hi dX2_layThings_24 ?_
    refine v_aload_n 0 dX2_layThings_25 rfl rfl ?_
    refine v_dup dX2_layThings_26 rfl ?_
    refine v_geti g_X2_45 haa.1 (isH.lt (j := 0) haa (by decide)) rfl dX2_layThings_27 ?_
    refine v_iconst (1 : Int32) dX2_layThings_30 (by decide) ?_
    refine v_iadd dX2_layThings_31 ?_
    refine v_put p_X2_45 haa.1 (isH.lt (j := 0) haa (by decide)) rfl ⟨rfl, rfl⟩ dX2_layThings_32 ?_
    refine v_aload_n 0 dX2_layThings_35 rfl rfl ?_
    refine v_getr (aa + 5) g_X2_24 haa.1 (isH.lt (j := 0) haa (by decide)) rfl dX2_layThings_36 ?_
    refine v_iload_n 1 dX2_layThings_39 rfl rfl ?_
    obtain ⟨hi, h⟩ := fm_ift h
    refine v_iald (Or.inl ⟨(isH.lt (j := 5) haa (by decide)), (isH.a5 haa)⟩) hi dX2_layThings_40 ?_
    exact v_iret rfl (ho _ _ (Option.some.inj h).symm) dX2_layThings_41
  · refine v_bipush (-2 : Int32) dX2_layThings_8 (by decide) ?_
    exact v_iret rfl (ho _ _ (Option.some.inj h).symm) dX2_layThings_10
theorem c_X2_layThings {w : fm_W} {l : Launch} (hI : fm_I w 105) {aa : Nat} (haa : isH aa) {v1 : Int32} {s : fm_M} {r : Int32} {s2 : fm_M} (h : f_X2_layThings aa v1 s = some (r, s2)) : fm_C w layX 105 l yX2_layThings cX2_layThings 2 (some .int) rm_X2_layThings [.ref (fm_ad w aa), .int v1] s (some (.int r), s2) :=
  fm_of hI (by decide) rfl (Nat.le_of_ble_eq_true rfl) (e_X2_layThings hI haa v1 s _ h (fun r s e => by cases e; rfl))
-- X2_startAgain
abbrev rm_X2_startAgain : Room := { frames := 0, cells := 0, slots := 0, locals := 0 }
def f_X2_startAgain_2 (aa : Nat) (v1 : Int32) (s : fm_M) (v2 : Int32) : Option ((fm_M × Int32) ⊕ (fm_M × Int32)) :=
  if (6 : Int32) ≤ v2 then some (.inr (s, v2)) else if fm_in v2 6 = true then if fm_in v2 6 = true then if fm_in v2 6 = true then some (.inl ((fm_up (fm_up (fm_up s (aa + 1) v2.toNatClampNeg (0 : Int32)) (aa + 2) v2.toNatClampNeg (0 : Int32)) (aa + 3) v2.toNatClampNeg (0 : Int32)), (v2 + (1 : Int32)))) else none else none else none
set_option maxHeartbeats 4000000 in
theorem t_X2_startAgain_2 {w : fm_W} {l : Launch} {o : fm_O} (hI : fm_I w 105) {aa : Nat} (haa : isH aa) (v1 : Int32) (s : fm_M) (v2 : Int32) (z : (fm_M × Int32) ⊕ (fm_M × Int32)) (h : f_X2_startAgain_2 aa v1 s v2 = some z) (kb : ∀ (s : fm_M) (u2 : Int32), z = .inl (s, u2) → fm_V w layX 105 l rm_X2_startAgain cX2_startAgain 3 RX2 none o 2 [some (.ref (fm_ad w aa)), some (.int v1), some (.int u2)] [] s) (ke : ∀ (s : fm_M) (u2 : Int32), z = .inr (s, u2) → fm_V w layX 105 l rm_X2_startAgain cX2_startAgain 3 RX2 none o 35 [some (.ref (fm_ad w aa)), some (.int v1), some (.int u2)] [] s) : fm_V w layX 105 l rm_X2_startAgain cX2_startAgain 3 RX2 none o 2 [some (.ref (fm_ad w aa)), some (.int v1), some (.int v2)] [] s := by
  unfold f_X2_startAgain_2 at h
  refine v_iload_n 2 dX2_startAgain_2 rfl rfl ?_
  refine v_bipush (6 : Int32) dX2_startAgain_3 (by decide) ?_
  refine v_icmp_ge 35 dX2_startAgain_5 (by decide) h (fun h => ?_) (fun h => ?_)
  · refine v_lw [some (.ref (fm_ad w aa)), some (.int v1), some (.int v2)] rfl ⟨rfl, rfl, rfl, trivial⟩ ?_
    exact ke _ _ (Option.some.inj h).symm
  · refine v_aload_n 0 dX2_startAgain_8 rfl rfl ?_
    refine v_getr (aa + 1) g_X2_9 haa.1 (isH.lt (j := 0) haa (by decide)) rfl dX2_startAgain_9 ?_
    refine v_iload_n 2 dX2_startAgain_12 rfl rfl ?_
    refine v_iconst (0 : Int32) dX2_startAgain_13 (by decide) ?_
    obtain ⟨hi, h⟩ := fm_ift h
    refine v_iast (isH.lt (j := 1) haa (by decide)) (isH.a1 haa) hi dX2_startAgain_14 ?_
    refine v_aload_n 0 dX2_startAgain_15 rfl rfl ?_
    refine v_getr (aa + 2) g_X2_15 haa.1 (isH.lt (j := 0) haa (by decide)) rfl dX2_startAgain_16 ?_
    refine v_iload_n 2 dX2_startAgain_19 rfl rfl ?_
    refine v_iconst (0 : Int32) dX2_startAgain_20 (by decide) ?_
    obtain ⟨hi, h⟩ := fm_ift h
    refine v_iast (isH.lt (j := 2) haa (by decide)) (isH.a2 haa) hi dX2_startAgain_21 ?_
    refine v_aload_n 0 dX2_startAgain_22 rfl rfl ?_
    refine v_getr (aa + 3) g_X2_18 haa.1 (isH.lt (j := 0) haa (by decide)) rfl dX2_startAgain_23 ?_
    refine v_iload_n 2 dX2_startAgain_26 rfl rfl ?_
    refine v_iconst (0 : Int32) dX2_startAgain_27 (by decide) ?_
    obtain ⟨hi, h⟩ := fm_ift h
    refine v_iast (isH.lt (j := 3) haa (by decide)) (isH.a3 haa) hi dX2_startAgain_28 ?_
    refine v_iinc (lv' := [some (.ref (fm_ad w aa)), some (.int v1), some (.int (v2 + (1 : Int32)))]) (1 : Int32) dX2_startAgain_29 rfl (by decide) (by decide) rfl rfl ?_
    refine v_goto 2 dX2_startAgain_32 (by decide) ?_
    refine v_lw [some (.ref (fm_ad w aa)), some (.int v1), some (.int (v2 + (1 : Int32)))] rfl ⟨rfl, rfl, rfl, trivial⟩ ?_
    exact kb _ _ (Option.some.inj h).symm
set_option maxHeartbeats 4000000 in
theorem i_X2_startAgain_2 {w : fm_W} {l : Launch} {o : fm_O} (hI : fm_I w 105) {aa : Nat} (haa : isH aa) (v1 : Int32) (n : Nat) (s : fm_M) (v2 : Int32) (q : fm_M × Int32) (h : fm_it (fun s => f_X2_startAgain_2 aa v1 s.1 s.2) n (s, v2) = some q) (ke : ∀ (s : fm_M) (u2 : Int32), q = (s, u2) → fm_V w layX 105 l rm_X2_startAgain cX2_startAgain 3 RX2 none o 35 [some (.ref (fm_ad w aa)), some (.int v1), some (.int u2)] [] s) : fm_V w layX 105 l rm_X2_startAgain cX2_startAgain 3 RX2 none o 2 [some (.ref (fm_ad w aa)), some (.int v1), some (.int v2)] [] s :=
  fm_it_loop (body := (fun s => f_X2_startAgain_2 aa v1 s.1 s.2)) (P := fun s => fm_V w layX 105 l rm_X2_startAgain cX2_startAgain 3 RX2 none o 2 [some (.ref (fm_ad w aa)), some (.int v1), some (.int s.2)] [] s.1) (K := (fun q : fm_M × Int32 => (∀ (s : fm_M) (u2 : Int32), q = (s, u2) → fm_V w layX 105 l rm_X2_startAgain cX2_startAgain 3 RX2 none o 35 [some (.ref (fm_ad w aa)), some (.int v1), some (.int u2)] [] s))) (fun s z hb kl kx => t_X2_startAgain_2 hI haa v1 s.1 s.2 z hb (fun s u2 e => kl _ e) (fun s u2 e => (kx _ e) s u2 rfl)) n (s, v2) q h ke
def f_X2_startAgain_37 (aa : Nat) (v1 : Int32) (s : fm_M) (v2 : Int32) : Option ((fm_M × Int32) ⊕ (fm_M × Int32)) :=
  if (3 : Int32) ≤ v2 then some (.inr (s, v2)) else if fm_in v2 3 = true then if fm_in v2 3 = true then if fm_in v2 3 = true then some (.inl ((fm_up (fm_up (fm_up s (aa + 4) v2.toNatClampNeg (0 : Int32)) (aa + 5) v2.toNatClampNeg (0 : Int32)) (aa + 6) v2.toNatClampNeg (-4 : Int32)), (v2 + (1 : Int32)))) else none else none else none
set_option maxHeartbeats 4000000 in
theorem t_X2_startAgain_37 {w : fm_W} {l : Launch} {o : fm_O} (hI : fm_I w 105) {aa : Nat} (haa : isH aa) (v1 : Int32) (s : fm_M) (v2 : Int32) (z : (fm_M × Int32) ⊕ (fm_M × Int32)) (h : f_X2_startAgain_37 aa v1 s v2 = some z) (kb : ∀ (s : fm_M) (u2 : Int32), z = .inl (s, u2) → fm_V w layX 105 l rm_X2_startAgain cX2_startAgain 3 RX2 none o 37 [some (.ref (fm_ad w aa)), some (.int v1), some (.int u2)] [] s) (ke : ∀ (s : fm_M) (u2 : Int32), z = .inr (s, u2) → fm_V w layX 105 l rm_X2_startAgain cX2_startAgain 3 RX2 none o 70 [some (.ref (fm_ad w aa)), some (.int v1), some (.int u2)] [] s) : fm_V w layX 105 l rm_X2_startAgain cX2_startAgain 3 RX2 none o 37 [some (.ref (fm_ad w aa)), some (.int v1), some (.int v2)] [] s := by
  unfold f_X2_startAgain_37 at h
  refine v_iload_n 2 dX2_startAgain_37 rfl rfl ?_
  refine v_iconst (3 : Int32) dX2_startAgain_38 (by decide) ?_
  refine v_icmp_ge 70 dX2_startAgain_39 (by decide) h (fun h => ?_) (fun h => ?_)
  · refine v_lw [some (.ref (fm_ad w aa)), some (.int v1), some (.int v2)] rfl ⟨rfl, rfl, rfl, trivial⟩ ?_
    exact ke _ _ (Option.some.inj h).symm
  · refine v_aload_n 0 dX2_startAgain_42 rfl rfl ?_
    refine v_getr (aa + 4) g_X2_21 haa.1 (isH.lt (j := 0) haa (by decide)) rfl dX2_startAgain_43 ?_
    refine v_iload_n 2 dX2_startAgain_46 rfl rfl ?_
    refine v_iconst (0 : Int32) dX2_startAgain_47 (by decide) ?_
    obtain ⟨hi, h⟩ := fm_ift h
    refine v_iast (isH.lt (j := 4) haa (by decide)) (isH.a4 haa) hi dX2_startAgain_48 ?_
    refine v_aload_n 0 dX2_startAgain_49 rfl rfl ?_
    refine v_getr (aa + 5) g_X2_24 haa.1 (isH.lt (j := 0) haa (by decide)) rfl dX2_startAgain_50 ?_
    refine v_iload_n 2 dX2_startAgain_53 rfl rfl ?_
    refine v_iconst (0 : Int32) dX2_startAgain_54 (by decide) ?_
    obtain ⟨hi, h⟩ := fm_ift h
    refine v_iast (isH.lt (j := 5) haa (by decide)) (isH.a5 haa) hi dX2_startAgain_55 ?_
    refine v_aload_n 0 dX2_startAgain_56 rfl rfl ?_
    refine v_getr (aa + 6) g_X2_27 haa.1 (isH.lt (j := 0) haa (by decide)) rfl dX2_startAgain_57 ?_
    refine v_iload_n 2 dX2_startAgain_60 rfl rfl ?_
    refine v_bipush (-4 : Int32) dX2_startAgain_61 (by decide) ?_
    obtain ⟨hi, h⟩ := fm_ift h
    refine v_iast (isH.lt (j := 6) haa (by decide)) (isH.a6 haa) hi dX2_startAgain_63 ?_
    refine v_iinc (lv' := [some (.ref (fm_ad w aa)), some (.int v1), some (.int (v2 + (1 : Int32)))]) (1 : Int32) dX2_startAgain_64 rfl (by decide) (by decide) rfl rfl ?_
    refine v_goto 37 dX2_startAgain_67 (by decide) ?_
    refine v_lw [some (.ref (fm_ad w aa)), some (.int v1), some (.int (v2 + (1 : Int32)))] rfl ⟨rfl, rfl, rfl, trivial⟩ ?_
    exact kb _ _ (Option.some.inj h).symm
set_option maxHeartbeats 4000000 in
theorem i_X2_startAgain_37 {w : fm_W} {l : Launch} {o : fm_O} (hI : fm_I w 105) {aa : Nat} (haa : isH aa) (v1 : Int32) (n : Nat) (s : fm_M) (v2 : Int32) (q : fm_M × Int32) (h : fm_it (fun s => f_X2_startAgain_37 aa v1 s.1 s.2) n (s, v2) = some q) (ke : ∀ (s : fm_M) (u2 : Int32), q = (s, u2) → fm_V w layX 105 l rm_X2_startAgain cX2_startAgain 3 RX2 none o 70 [some (.ref (fm_ad w aa)), some (.int v1), some (.int u2)] [] s) : fm_V w layX 105 l rm_X2_startAgain cX2_startAgain 3 RX2 none o 37 [some (.ref (fm_ad w aa)), some (.int v1), some (.int v2)] [] s :=
  fm_it_loop (body := (fun s => f_X2_startAgain_37 aa v1 s.1 s.2)) (P := fun s => fm_V w layX 105 l rm_X2_startAgain cX2_startAgain 3 RX2 none o 37 [some (.ref (fm_ad w aa)), some (.int v1), some (.int s.2)] [] s.1) (K := (fun q : fm_M × Int32 => (∀ (s : fm_M) (u2 : Int32), q = (s, u2) → fm_V w layX 105 l rm_X2_startAgain cX2_startAgain 3 RX2 none o 70 [some (.ref (fm_ad w aa)), some (.int v1), some (.int u2)] [] s))) (fun s z hb kl kx => t_X2_startAgain_37 hI haa v1 s.1 s.2 z hb (fun s u2 e => kl _ e) (fun s u2 e => (kx _ e) s u2 rfl)) n (s, v2) q h ke
def f_X2_startAgain (aa : Nat) (v1 : Int32) (s : fm_M) : Option (Int32 × fm_M) :=
  fm_op (fm_it (fun (yy : fm_M × Int32) => f_X2_startAgain_2 aa v1 yy.1 yy.2) fm_fu (s, (0 : Int32))) (fun q1 => ((fun (s1 : fm_M) (x1_2 : Int32) => fm_op (fm_it (fun (yy : fm_M × Int32) => f_X2_startAgain_37 aa v1 yy.1 yy.2) fm_fu (s1, (0 : Int32))) (fun q2 => ((fun (s2 : fm_M) (x2_2 : Int32) => some (0, (fm_up (fm_up (fm_up (fm_up s2 aa 7 v1) aa 8 (0 : Int32)) aa 9 (0 : Int32)) aa 10 (((fm_up (fm_up (fm_up s2 aa 7 v1) aa 8 (0 : Int32)) aa 9 (0 : Int32)) aa 10) + (1 : Int32)))))) q2.1 q2.2))) q1.1 q1.2)
set_option maxHeartbeats 4000000 in
theorem e_X2_startAgain {w : fm_W} {l : Launch} {o : fm_O} (hI : fm_I w 105) {aa : Nat} (haa : isH aa) (v1 : Int32) (s : fm_M) (z : Int32 × fm_M) (h : f_X2_startAgain aa v1 s = some z) (ho : ∀ (r : Int32) (s : fm_M), z = (r, s) → o = (none, s)) : fm_V w layX 105 l rm_X2_startAgain cX2_startAgain 3 RX2 none o 0 [some (.ref (fm_ad w aa)), some (.int v1), none] [] s := by
  unfold f_X2_startAgain at h
  refine v_iconst (0 : Int32) dX2_startAgain_0 (by decide) ?_
  refine v_istore_n (lv' := [some (.ref (fm_ad w aa)), some (.int v1), some (.int (0 : Int32))]) 2 dX2_startAgain_1 rfl (by decide) rfl rfl ?_
  obtain ⟨q1, h1, h⟩ := fm_ops h
  refine v_lw [some (.ref (fm_ad w aa)), some (.int v1), some (.int (0 : Int32))] rfl ⟨rfl, rfl, rfl, trivial⟩ ?_
  refine i_X2_startAgain_2 hI haa v1 _ _ _ _ h1 (fun s1 x1_2 e => ?_)
  subst e
  dsimp only at h
  refine v_iconst (0 : Int32) dX2_startAgain_35 (by decide) ?_
  refine v_istore_n (lv' := [some (.ref (fm_ad w aa)), some (.int v1), some (.int (0 : Int32))]) 2 dX2_startAgain_36 rfl (by decide) rfl rfl ?_
  obtain ⟨q2, h2, h⟩ := fm_ops h
  refine v_lw [some (.ref (fm_ad w aa)), some (.int v1), some (.int (0 : Int32))] rfl ⟨rfl, rfl, rfl, trivial⟩ ?_
  refine i_X2_startAgain_37 hI haa v1 _ _ _ _ h2 (fun s2 x2_2 e => ?_)
  subst e
  dsimp only at h
  refine v_aload_n 0 dX2_startAgain_70 rfl rfl ?_
  refine v_iload_n 1 dX2_startAgain_71 rfl rfl ?_
  refine v_put p_X2_34 haa.1 (isH.lt (j := 0) haa (by decide)) rfl ⟨rfl, rfl⟩ dX2_startAgain_72 ?_
  refine v_aload_n 0 dX2_startAgain_75 rfl rfl ?_
  refine v_iconst (0 : Int32) dX2_startAgain_76 (by decide) ?_
  refine v_put p_X2_38 haa.1 (isH.lt (j := 0) haa (by decide)) rfl ⟨rfl, rfl⟩ dX2_startAgain_77 ?_
  refine v_aload_n 0 dX2_startAgain_80 rfl rfl ?_
  refine v_iconst (0 : Int32) dX2_startAgain_81 (by decide) ?_
  refine v_put p_X2_41 haa.1 (isH.lt (j := 0) haa (by decide)) rfl ⟨by decide, by decide⟩ dX2_startAgain_82 ?_
  refine v_aload_n 0 dX2_startAgain_85 rfl rfl ?_
  refine v_dup dX2_startAgain_86 rfl ?_
  refine v_geti g_X2_45 haa.1 (isH.lt (j := 0) haa (by decide)) rfl dX2_startAgain_87 ?_
  refine v_iconst (1 : Int32) dX2_startAgain_90 (by decide) ?_
  refine v_iadd dX2_startAgain_91 ?_
  refine v_put p_X2_45 haa.1 (isH.lt (j := 0) haa (by decide)) rfl ⟨rfl, rfl⟩ dX2_startAgain_92 ?_
  exact v_vret rfl (ho _ _ (Option.some.inj h).symm) dX2_startAgain_95
theorem c_X2_startAgain {w : fm_W} {l : Launch} (hI : fm_I w 105) {aa : Nat} (haa : isH aa) {v1 : Int32} {s : fm_M} {r : Int32} {s2 : fm_M} (h : f_X2_startAgain aa v1 s = some (r, s2)) : fm_C w layX 105 l yX2_startAgain cX2_startAgain 3 none rm_X2_startAgain [.ref (fm_ad w aa), .int v1] s (none, s2) :=
  fm_of hI (by decide) rfl (Nat.le_of_ble_eq_true rfl) (e_X2_startAgain hI haa v1 s _ h (fun r s e => by cases e; rfl))
-- X2_whoDresses
abbrev rm_X2_whoDresses : Room := { frames := 0, cells := 0, slots := 0, locals := 0 }
def f_X2_whoDresses_37 (aa : Nat) (v1 : Int32) (v2 : Int32) (s : fm_M) : Option ((fm_M × Int32) ⊕ ((Int32 × fm_M) ⊕ (fm_M × Int32))) :=
  some (.inl (s, (v2 + (1 : Int32))))
set_option maxHeartbeats 4000000 in
theorem t_X2_whoDresses_37 {w : fm_W} {l : Launch} {o : fm_O} (hI : fm_I w 105) {aa : Nat} (haa : isH aa) (v1 : Int32) (v2 : Int32) (s : fm_M) (z : (fm_M × Int32) ⊕ ((Int32 × fm_M) ⊕ (fm_M × Int32))) (h : f_X2_whoDresses_37 aa v1 v2 s = some z) (kb : ∀ (s : fm_M) (u2 : Int32), z = .inl (s, u2) → fm_V w layX 105 l rm_X2_whoDresses cX2_whoDresses 3 RX2 (some .int) o 2 [some (.ref (fm_ad w aa)), some (.int v1), some (.int u2)] [] s) (ke : ∀ (s : fm_M) (u2 : Int32), z = .inr (.inr (s, u2)) → fm_V w layX 105 l rm_X2_whoDresses cX2_whoDresses 3 RX2 (some .int) o 43 [some (.ref (fm_ad w aa)), some (.int v1), some (.int u2)] [] s) (kr : ∀ (r : Int32) (s : fm_M), z = .inr (.inl (r, s)) → o = (some (.int r), s)) : fm_V w layX 105 l rm_X2_whoDresses cX2_whoDresses 3 RX2 (some .int) o 37 [some (.ref (fm_ad w aa)), some (.int v1), some (.int v2)] [] s := by
  unfold f_X2_whoDresses_37 at h
  refine v_iinc (lv' := [some (.ref (fm_ad w aa)), some (.int v1), some (.int (v2 + (1 : Int32)))]) (1 : Int32) dX2_whoDresses_37 rfl (by decide) (by decide) rfl rfl ?_
  refine v_goto 2 dX2_whoDresses_40 (by decide) ?_
  refine v_lw [some (.ref (fm_ad w aa)), some (.int v1), some (.int (v2 + (1 : Int32)))] rfl ⟨rfl, rfl, rfl, trivial⟩ ?_
  exact kb _ _ (Option.some.inj h).symm
def f_X2_whoDresses_2 (aa : Nat) (v1 : Int32) (s : fm_M) (v2 : Int32) : Option ((fm_M × Int32) ⊕ ((Int32 × fm_M) ⊕ (fm_M × Int32))) :=
  if (s aa 7) ≤ v2 then some (.inr (.inr (s, v2))) else if (3 : Int32) ≤ v2 then some (.inr (.inr (s, v2))) else if fm_in v2 3 = true then if (s (aa + 4) v2.toNatClampNeg) = (1 : Int32) then if fm_in v2 3 = true then if (s (aa + 6) v2.toNatClampNeg) = v1 then some (.inr (.inl (v2, s))) else f_X2_whoDresses_37 aa v1 v2 s else none else f_X2_whoDresses_37 aa v1 v2 s else none
set_option maxHeartbeats 4000000 in
theorem t_X2_whoDresses_2 {w : fm_W} {l : Launch} {o : fm_O} (hI : fm_I w 105) {aa : Nat} (haa : isH aa) (v1 : Int32) (s : fm_M) (v2 : Int32) (z : (fm_M × Int32) ⊕ ((Int32 × fm_M) ⊕ (fm_M × Int32))) (h : f_X2_whoDresses_2 aa v1 s v2 = some z) (kb : ∀ (s : fm_M) (u2 : Int32), z = .inl (s, u2) → fm_V w layX 105 l rm_X2_whoDresses cX2_whoDresses 3 RX2 (some .int) o 2 [some (.ref (fm_ad w aa)), some (.int v1), some (.int u2)] [] s) (ke : ∀ (s : fm_M) (u2 : Int32), z = .inr (.inr (s, u2)) → fm_V w layX 105 l rm_X2_whoDresses cX2_whoDresses 3 RX2 (some .int) o 43 [some (.ref (fm_ad w aa)), some (.int v1), some (.int u2)] [] s) (kr : ∀ (r : Int32) (s : fm_M), z = .inr (.inl (r, s)) → o = (some (.int r), s)) : fm_V w layX 105 l rm_X2_whoDresses cX2_whoDresses 3 RX2 (some .int) o 2 [some (.ref (fm_ad w aa)), some (.int v1), some (.int v2)] [] s := by
  unfold f_X2_whoDresses_2 at h
  refine v_iload_n 2 dX2_whoDresses_2 rfl rfl ?_
  refine v_aload_n 0 dX2_whoDresses_3 rfl rfl ?_
  refine v_geti g_X2_34 haa.1 (isH.lt (j := 0) haa (by decide)) rfl dX2_whoDresses_4 ?_
  refine v_icmp_ge 43 dX2_whoDresses_7 (by decide) h (fun h => ?_) (fun h => ?_)
  · refine v_lw [some (.ref (fm_ad w aa)), some (.int v1), some (.int v2)] rfl ⟨rfl, rfl, rfl, trivial⟩ ?_
    exact ke _ _ (Option.some.inj h).symm
  · refine v_iload_n 2 dX2_whoDresses_10 rfl rfl ?_
    refine v_iconst (3 : Int32) dX2_whoDresses_11 (by decide) ?_
    refine v_icmp_ge 43 dX2_whoDresses_12 (by decide) h (fun h => ?_) (fun h => ?_)
    · refine v_lw [some (.ref (fm_ad w aa)), some (.int v1), some (.int v2)] rfl ⟨rfl, rfl, rfl, trivial⟩ ?_
      exact ke _ _ (Option.some.inj h).symm
    · refine v_aload_n 0 dX2_whoDresses_15 rfl rfl ?_
      refine v_getr (aa + 4) g_X2_21 haa.1 (isH.lt (j := 0) haa (by decide)) rfl dX2_whoDresses_16 ?_
      refine v_iload_n 2 dX2_whoDresses_19 rfl rfl ?_
      obtain ⟨hi, h⟩ := fm_ift h
      refine v_iald (Or.inl ⟨(isH.lt (j := 4) haa (by decide)), (isH.a4 haa)⟩) hi dX2_whoDresses_20 ?_
      refine v_iconst (1 : Int32) dX2_whoDresses_21 (by decide) ?_
      refine v_icmp_ne 37 dX2_whoDresses_22 (by decide) h (fun h => ?_) (fun h => ?_)
      · refine v_lw [some (.ref (fm_ad w aa)), some (.int v1), some (.int v2)] rfl ⟨rfl, rfl, rfl, trivial⟩ ?_
        exact t_X2_whoDresses_37 hI haa v1 v2 s _ h kb ke kr
      · refine v_aload_n 0 dX2_whoDresses_25 rfl rfl ?_
        refine v_getr (aa + 6) g_X2_27 haa.1 (isH.lt (j := 0) haa (by decide)) rfl dX2_whoDresses_26 ?_
        refine v_iload_n 2 dX2_whoDresses_29 rfl rfl ?_
        obtain ⟨hi, h⟩ := fm_ift h
        refine v_iald (Or.inl ⟨(isH.lt (j := 6) haa (by decide)), (isH.a6 haa)⟩) hi dX2_whoDresses_30 ?_
        refine v_iload_n 1 dX2_whoDresses_31 rfl rfl ?_
        refine v_icmp_ne 37 dX2_whoDresses_32 (by decide) h (fun h => ?_) (fun h => ?_)
        · refine v_lw [some (.ref (fm_ad w aa)), some (.int v1), some (.int v2)] rfl ⟨rfl, rfl, rfl, trivial⟩ ?_
          exact t_X2_whoDresses_37 hI haa v1 v2 s _ h kb ke kr
        · refine v_iload_n 2 dX2_whoDresses_35 rfl rfl ?_
          exact v_iret rfl (kr _ _ (Option.some.inj h).symm) dX2_whoDresses_36
set_option maxHeartbeats 4000000 in
theorem i_X2_whoDresses_2 {w : fm_W} {l : Launch} {o : fm_O} (hI : fm_I w 105) {aa : Nat} (haa : isH aa) (v1 : Int32) (n : Nat) (s : fm_M) (v2 : Int32) (q : (Int32 × fm_M) ⊕ (fm_M × Int32)) (h : fm_it (fun s => f_X2_whoDresses_2 aa v1 s.1 s.2) n (s, v2) = some q) (kr : ∀ (r : Int32) (s : fm_M), q = .inl (r, s) → o = (some (.int r), s)) (ke : ∀ (s : fm_M) (u2 : Int32), q = .inr (s, u2) → fm_V w layX 105 l rm_X2_whoDresses cX2_whoDresses 3 RX2 (some .int) o 43 [some (.ref (fm_ad w aa)), some (.int v1), some (.int u2)] [] s) : fm_V w layX 105 l rm_X2_whoDresses cX2_whoDresses 3 RX2 (some .int) o 2 [some (.ref (fm_ad w aa)), some (.int v1), some (.int v2)] [] s :=
  fm_it_loop (body := (fun s => f_X2_whoDresses_2 aa v1 s.1 s.2)) (P := fun s => fm_V w layX 105 l rm_X2_whoDresses cX2_whoDresses 3 RX2 (some .int) o 2 [some (.ref (fm_ad w aa)), some (.int v1), some (.int s.2)] [] s.1) (K := (fun q : (Int32 × fm_M) ⊕ (fm_M × Int32) => (∀ (r : Int32) (s : fm_M), q = .inl (r, s) → o = (some (.int r), s)) ∧ (∀ (s : fm_M) (u2 : Int32), q = .inr (s, u2) → fm_V w layX 105 l rm_X2_whoDresses cX2_whoDresses 3 RX2 (some .int) o 43 [some (.ref (fm_ad w aa)), some (.int v1), some (.int u2)] [] s))) (fun s z hb kl kx => t_X2_whoDresses_2 hI haa v1 s.1 s.2 z hb (fun s u2 e => kl _ e) (fun s u2 e => (kx _ e).2 s u2 rfl) (fun r s e => (kx _ e).1 r s rfl)) n (s, v2) q h ⟨kr, ke⟩
def f_X2_whoDresses_43 (aa : Nat) (s : fm_M) : Option (Int32 × fm_M) :=
  some ((-4 : Int32), s)
set_option maxHeartbeats 4000000 in
theorem t_X2_whoDresses_43 {w : fm_W} {l : Launch} {o : fm_O} (hI : fm_I w 105) {aa : Nat} (haa : isH aa) (s : fm_M) (z : Int32 × fm_M) (h : f_X2_whoDresses_43 aa s = some z) (ho : ∀ (r : Int32) (s : fm_M), z = (r, s) → o = (some (.int r), s)) : fm_V w layX 105 l rm_X2_whoDresses cX2_whoDresses 3 RX2 (some .int) o 43 [none, none, none] [] s := by
  unfold f_X2_whoDresses_43 at h
  refine v_bipush (-4 : Int32) dX2_whoDresses_43 (by decide) ?_
  exact v_iret rfl (ho _ _ (Option.some.inj h).symm) dX2_whoDresses_45
def f_X2_whoDresses (aa : Nat) (v1 : Int32) (s : fm_M) : Option (Int32 × fm_M) :=
  fm_op (fm_it (fun (yy : fm_M × Int32) => f_X2_whoDresses_2 aa v1 yy.1 yy.2) fm_fu (s, (0 : Int32))) (fun q1 => Sum.elim (fun r => some r) (fun t1 => ((fun (s1 : fm_M) (x1_2 : Int32) => f_X2_whoDresses_43 aa s1)) t1.1 t1.2) q1)
set_option maxHeartbeats 4000000 in
theorem e_X2_whoDresses {w : fm_W} {l : Launch} {o : fm_O} (hI : fm_I w 105) {aa : Nat} (haa : isH aa) (v1 : Int32) (s : fm_M) (z : Int32 × fm_M) (h : f_X2_whoDresses aa v1 s = some z) (ho : ∀ (r : Int32) (s : fm_M), z = (r, s) → o = (some (.int r), s)) : fm_V w layX 105 l rm_X2_whoDresses cX2_whoDresses 3 RX2 (some .int) o 0 [some (.ref (fm_ad w aa)), some (.int v1), none] [] s := by
  unfold f_X2_whoDresses at h
  refine v_iconst (0 : Int32) dX2_whoDresses_0 (by decide) ?_
  refine v_istore_n (lv' := [some (.ref (fm_ad w aa)), some (.int v1), some (.int (0 : Int32))]) 2 dX2_whoDresses_1 rfl (by decide) rfl rfl ?_
  obtain ⟨q1, h1, h⟩ := fm_ops h
  refine v_lw [some (.ref (fm_ad w aa)), some (.int v1), some (.int (0 : Int32))] rfl ⟨rfl, rfl, rfl, trivial⟩ ?_
  refine i_X2_whoDresses_2 hI haa v1 _ _ _ _ h1 (fun r s e => by subst e; exact ho r s (Option.some.inj h).symm) (fun s1 x1_2 e => ?_)
  subst e
  dsimp only [Sum.elim] at h
  refine v_lw [none, none, none] rfl trivial ?_
  exact t_X2_whoDresses_43 hI haa s1 _ h ho
theorem c_X2_whoDresses {w : fm_W} {l : Launch} (hI : fm_I w 105) {aa : Nat} (haa : isH aa) {v1 : Int32} {s : fm_M} {r : Int32} {s2 : fm_M} (h : f_X2_whoDresses aa v1 s = some (r, s2)) : fm_C w layX 105 l yX2_whoDresses cX2_whoDresses 3 (some .int) rm_X2_whoDresses [.ref (fm_ad w aa), .int v1] s (some (.int r), s2) :=
  fm_of hI (by decide) rfl (Nat.le_of_ble_eq_true rfl) (e_X2_whoDresses hI haa v1 s _ h (fun r s e => by cases e; rfl))
-- X2_whoIsOut
abbrev rm_X2_whoIsOut : Room := { frames := 0, cells := 0, slots := 0, locals := 0 }
def f_X2_whoIsOut_37 (aa : Nat) (v1 : Int32) (v2 : Int32) (s : fm_M) : Option ((fm_M × Int32 × Int32) ⊕ (fm_M × Int32 × Int32)) :=
  some (.inl (s, v1, (v2 + (1 : Int32))))
set_option maxHeartbeats 4000000 in
theorem t_X2_whoIsOut_37 {w : fm_W} {l : Launch} {o : fm_O} (hI : fm_I w 105) {aa : Nat} (haa : isH aa) (v1 : Int32) (v2 : Int32) (s : fm_M) (z : (fm_M × Int32 × Int32) ⊕ (fm_M × Int32 × Int32)) (h : f_X2_whoIsOut_37 aa v1 v2 s = some z) (kb : ∀ (s : fm_M) (u1 : Int32) (u2 : Int32), z = .inl (s, u1, u2) → fm_V w layX 105 l rm_X2_whoIsOut cX2_whoIsOut 3 RX2 (some .int) o 4 [some (.ref (fm_ad w aa)), some (.int u1), some (.int u2)] [] s) (ke : ∀ (s : fm_M) (u1 : Int32) (u2 : Int32), z = .inr (s, u1, u2) → fm_V w layX 105 l rm_X2_whoIsOut cX2_whoIsOut 3 RX2 (some .int) o 43 [some (.ref (fm_ad w aa)), some (.int u1), some (.int u2)] [] s) : fm_V w layX 105 l rm_X2_whoIsOut cX2_whoIsOut 3 RX2 (some .int) o 37 [some (.ref (fm_ad w aa)), some (.int v1), some (.int v2)] [] s := by
  unfold f_X2_whoIsOut_37 at h
  refine v_iinc (lv' := [some (.ref (fm_ad w aa)), some (.int v1), some (.int (v2 + (1 : Int32)))]) (1 : Int32) dX2_whoIsOut_37 rfl (by decide) (by decide) rfl rfl ?_
  refine v_goto 4 dX2_whoIsOut_40 (by decide) ?_
  refine v_lw [some (.ref (fm_ad w aa)), some (.int v1), some (.int (v2 + (1 : Int32)))] rfl ⟨rfl, rfl, rfl, trivial⟩ ?_
  exact kb _ _ _ (Option.some.inj h).symm
def f_X2_whoIsOut_4 (aa : Nat) (s : fm_M) (v1 : Int32) (v2 : Int32) : Option ((fm_M × Int32 × Int32) ⊕ (fm_M × Int32 × Int32)) :=
  if (s 6 2) ≤ v2 then some (.inr (s, v1, v2)) else if (6 : Int32) ≤ v2 then some (.inr (s, v1, v2)) else if fm_in v2 6 = true then if (s (aa + 1) v2.toNatClampNeg) = (3 : Int32) then f_X2_whoIsOut_37 aa (v1 ||| ((1 : Int32) <<< (v2 &&& 31))) v2 s else f_X2_whoIsOut_37 aa v1 v2 s else none
set_option maxHeartbeats 4000000 in
theorem t_X2_whoIsOut_4 {w : fm_W} {l : Launch} {o : fm_O} (hI : fm_I w 105) {aa : Nat} (haa : isH aa) (s : fm_M) (v1 : Int32) (v2 : Int32) (z : (fm_M × Int32 × Int32) ⊕ (fm_M × Int32 × Int32)) (h : f_X2_whoIsOut_4 aa s v1 v2 = some z) (kb : ∀ (s : fm_M) (u1 : Int32) (u2 : Int32), z = .inl (s, u1, u2) → fm_V w layX 105 l rm_X2_whoIsOut cX2_whoIsOut 3 RX2 (some .int) o 4 [some (.ref (fm_ad w aa)), some (.int u1), some (.int u2)] [] s) (ke : ∀ (s : fm_M) (u1 : Int32) (u2 : Int32), z = .inr (s, u1, u2) → fm_V w layX 105 l rm_X2_whoIsOut cX2_whoIsOut 3 RX2 (some .int) o 43 [some (.ref (fm_ad w aa)), some (.int u1), some (.int u2)] [] s) : fm_V w layX 105 l rm_X2_whoIsOut cX2_whoIsOut 3 RX2 (some .int) o 4 [some (.ref (fm_ad w aa)), some (.int v1), some (.int v2)] [] s := by
  unfold f_X2_whoIsOut_4 at h
  refine v_iload_n 2 dX2_whoIsOut_4 rfl rfl ?_
  refine v_aload_n 0 dX2_whoIsOut_5 rfl rfl ?_
  refine v_getr 6 g_X2_30 haa.1 (isH.lt (j := 0) haa (by decide)) rfl dX2_whoIsOut_6 ?_
  refine v_geti g_X2_54 yX_6 (by decide) rfl dX2_whoIsOut_9 ?_
  refine v_icmp_ge 43 dX2_whoIsOut_12 (by decide) h (fun h => ?_) (fun h => ?_)
  · refine v_lw [some (.ref (fm_ad w aa)), some (.int v1), some (.int v2)] rfl ⟨rfl, rfl, rfl, trivial⟩ ?_
    exact ke _ _ _ (Option.some.inj h).symm
  · refine v_iload_n 2 dX2_whoIsOut_15 rfl rfl ?_
    refine v_bipush (6 : Int32) dX2_whoIsOut_16 (by decide) ?_
    refine v_icmp_ge 43 dX2_whoIsOut_18 (by decide) h (fun h => ?_) (fun h => ?_)
    · refine v_lw [some (.ref (fm_ad w aa)), some (.int v1), some (.int v2)] rfl ⟨rfl, rfl, rfl, trivial⟩ ?_
      exact ke _ _ _ (Option.some.inj h).symm
    · refine v_aload_n 0 dX2_whoIsOut_21 rfl rfl ?_
      refine v_getr (aa + 1) g_X2_9 haa.1 (isH.lt (j := 0) haa (by decide)) rfl dX2_whoIsOut_22 ?_
      refine v_iload_n 2 dX2_whoIsOut_25 rfl rfl ?_
      obtain ⟨hi, h⟩ := fm_ift h
      refine v_iald (Or.inl ⟨(isH.lt (j := 1) haa (by decide)), (isH.a1 haa)⟩) hi dX2_whoIsOut_26 ?_
      refine v_iconst (3 : Int32) dX2_whoIsOut_27 (by decide) ?_
      refine v_icmp_ne 37 dX2_whoIsOut_28 (by decide) h (fun h => ?_) (fun h => ?_)
      · refine v_lw [some (.ref (fm_ad w aa)), some (.int v1), some (.int v2)] rfl ⟨rfl, rfl, rfl, trivial⟩ ?_
        exact t_X2_whoIsOut_37 hI haa v1 v2 s _ h kb ke
      · refine v_iload_n 1 dX2_whoIsOut_31 rfl rfl ?_
        refine v_iconst (1 : Int32) dX2_whoIsOut_32 (by decide) ?_
        refine v_iload_n 2 dX2_whoIsOut_33 rfl rfl ?_
        refine v_ishl dX2_whoIsOut_34 ?_
        refine v_ior dX2_whoIsOut_35 ?_
        refine v_istore_n (lv' := [some (.ref (fm_ad w aa)), some (.int (v1 ||| ((1 : Int32) <<< (v2 &&& 31)))), some (.int v2)]) 1 dX2_whoIsOut_36 rfl (by decide) rfl rfl ?_
        refine v_lw [some (.ref (fm_ad w aa)), some (.int (v1 ||| ((1 : Int32) <<< (v2 &&& 31)))), some (.int v2)] rfl ⟨rfl, rfl, rfl, trivial⟩ ?_
        exact t_X2_whoIsOut_37 hI haa (v1 ||| ((1 : Int32) <<< (v2 &&& 31))) v2 s _ h kb ke
set_option maxHeartbeats 4000000 in
theorem i_X2_whoIsOut_4 {w : fm_W} {l : Launch} {o : fm_O} (hI : fm_I w 105) {aa : Nat} (haa : isH aa) (n : Nat) (s : fm_M) (v1 : Int32) (v2 : Int32) (q : fm_M × Int32 × Int32) (h : fm_it (fun s => f_X2_whoIsOut_4 aa s.1 s.2.1 s.2.2) n (s, v1, v2) = some q) (ke : ∀ (s : fm_M) (u1 : Int32) (u2 : Int32), q = (s, u1, u2) → fm_V w layX 105 l rm_X2_whoIsOut cX2_whoIsOut 3 RX2 (some .int) o 43 [some (.ref (fm_ad w aa)), some (.int u1), some (.int u2)] [] s) : fm_V w layX 105 l rm_X2_whoIsOut cX2_whoIsOut 3 RX2 (some .int) o 4 [some (.ref (fm_ad w aa)), some (.int v1), some (.int v2)] [] s :=
  fm_it_loop (body := (fun s => f_X2_whoIsOut_4 aa s.1 s.2.1 s.2.2)) (P := fun s => fm_V w layX 105 l rm_X2_whoIsOut cX2_whoIsOut 3 RX2 (some .int) o 4 [some (.ref (fm_ad w aa)), some (.int s.2.1), some (.int s.2.2)] [] s.1) (K := (fun q : fm_M × Int32 × Int32 => (∀ (s : fm_M) (u1 : Int32) (u2 : Int32), q = (s, u1, u2) → fm_V w layX 105 l rm_X2_whoIsOut cX2_whoIsOut 3 RX2 (some .int) o 43 [some (.ref (fm_ad w aa)), some (.int u1), some (.int u2)] [] s))) (fun s z hb kl kx => t_X2_whoIsOut_4 hI haa s.1 s.2.1 s.2.2 z hb (fun s u1 u2 e => kl _ e) (fun s u1 u2 e => (kx _ e) s u1 u2 rfl)) n (s, v1, v2) q h ke
def f_X2_whoIsOut_43 (aa : Nat) (v1 : Int32) (s : fm_M) : Option (Int32 × fm_M) :=
  some (v1, s)
set_option maxHeartbeats 4000000 in
theorem t_X2_whoIsOut_43 {w : fm_W} {l : Launch} {o : fm_O} (hI : fm_I w 105) {aa : Nat} (haa : isH aa) (v1 : Int32) (s : fm_M) (z : Int32 × fm_M) (h : f_X2_whoIsOut_43 aa v1 s = some z) (ho : ∀ (r : Int32) (s : fm_M), z = (r, s) → o = (some (.int r), s)) : fm_V w layX 105 l rm_X2_whoIsOut cX2_whoIsOut 3 RX2 (some .int) o 43 [none, some (.int v1), none] [] s := by
  unfold f_X2_whoIsOut_43 at h
  refine v_iload_n 1 dX2_whoIsOut_43 rfl rfl ?_
  exact v_iret rfl (ho _ _ (Option.some.inj h).symm) dX2_whoIsOut_44
def f_X2_whoIsOut (aa : Nat) (s : fm_M) : Option (Int32 × fm_M) :=
  fm_op (fm_it (fun (yy : fm_M × Int32 × Int32) => f_X2_whoIsOut_4 aa yy.1 yy.2.1 yy.2.2) fm_fu (s, (0 : Int32), (0 : Int32))) (fun q1 => ((fun (s1 : fm_M) (x1_1 : Int32) (x1_2 : Int32) => f_X2_whoIsOut_43 aa x1_1 s1)) q1.1 q1.2.1 q1.2.2)
set_option maxHeartbeats 4000000 in
theorem e_X2_whoIsOut {w : fm_W} {l : Launch} {o : fm_O} (hI : fm_I w 105) {aa : Nat} (haa : isH aa) (s : fm_M) (z : Int32 × fm_M) (h : f_X2_whoIsOut aa s = some z) (ho : ∀ (r : Int32) (s : fm_M), z = (r, s) → o = (some (.int r), s)) : fm_V w layX 105 l rm_X2_whoIsOut cX2_whoIsOut 3 RX2 (some .int) o 0 [some (.ref (fm_ad w aa)), none, none] [] s := by
  unfold f_X2_whoIsOut at h
  refine v_iconst (0 : Int32) dX2_whoIsOut_0 (by decide) ?_
  refine v_istore_n (lv' := [some (.ref (fm_ad w aa)), some (.int (0 : Int32)), none]) 1 dX2_whoIsOut_1 rfl (by decide) rfl rfl ?_
  refine v_iconst (0 : Int32) dX2_whoIsOut_2 (by decide) ?_
  refine v_istore_n (lv' := [some (.ref (fm_ad w aa)), some (.int (0 : Int32)), some (.int (0 : Int32))]) 2 dX2_whoIsOut_3 rfl (by decide) rfl rfl ?_
  obtain ⟨q1, h1, h⟩ := fm_ops h
  refine v_lw [some (.ref (fm_ad w aa)), some (.int (0 : Int32)), some (.int (0 : Int32))] rfl ⟨rfl, rfl, rfl, trivial⟩ ?_
  refine i_X2_whoIsOut_4 hI haa _ _ _ _ _ h1 (fun s1 x1_1 x1_2 e => ?_)
  subst e
  dsimp only at h
  refine v_lw [none, some (.int x1_1), none] rfl ⟨rfl, trivial⟩ ?_
  exact t_X2_whoIsOut_43 hI haa x1_1 s1 _ h ho
theorem c_X2_whoIsOut {w : fm_W} {l : Launch} (hI : fm_I w 105) {aa : Nat} (haa : isH aa) {s : fm_M} {r : Int32} {s2 : fm_M} (h : f_X2_whoIsOut aa s = some (r, s2)) : fm_C w layX 105 l yX2_whoIsOut cX2_whoIsOut 3 (some .int) rm_X2_whoIsOut [.ref (fm_ad w aa)] s (some (.int r), s2) :=
  fm_of hI (by decide) rfl (Nat.le_of_ble_eq_true rfl) (e_X2_whoIsOut hI haa s _ h (fun r s e => by cases e; rfl))
