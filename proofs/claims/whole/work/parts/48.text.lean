/-! the text, read -/
def leF (t : Nat → Nat) (tn i : Nat) : Nat := if i < tn then t i else 0
def fgF (t : Nat → Nat) (tn i : Nat) : Bool := decide (48 ≤ leF t tn i ∧ leF t tn i ≤ 57)
def nfF (t : Nat → Nat) (tn i : Nat) : Nat := if fgF t tn i = true then (if fgF t tn (i + 1) = true then 2 else 1) else 0
def nuF (t : Nat → Nat) (tn i : Nat) : Nat := if nfF t tn i = 1 then leF t tn i - 48 else 10 * (leF t tn i - 48) + leF t tn (i + 1) - 48
theorem leF_b {t : Nat → Nat} {tn : Nat} (h : TI t tn) (i : Nat) : leF t tn i ≤ 126 := by
  unfold leF
  split
  · rename_i e; exact (h.2 i e).2
  · omega
theorem nfF_b (t : Nat → Nat) (tn i : Nat) : nfF t tn i ≤ 2 := by
  unfold nfF
  split
  · split <;> omega
  · omega
theorem fgF_i {t : Nat → Nat} {tn i : Nat} (h : fgF t tn i = true) : 48 ≤ leF t tn i ∧ leF t tn i ≤ 57 := of_decide_eq_true h
theorem nuF_b (t : Nat → Nat) (tn i : Nat) (h : 0 < nfF t tn i) : nuF t tn i ≤ 99 := by
  unfold nfF at h
  unfold nuF
  split at h
  · rename_i e
    have := fgF_i e
    split at h
    · rename_i e2
      have := fgF_i e2
      rw [if_neg (by unfold nfF; rw [if_pos e, if_pos e2]; omega)]
      omega
    · rename_i e2
      rw [if_pos (by unfold nfF; rw [if_pos e, if_neg e2])]
      omega
  · omega
theorem X_letterAt {t : Nat → Nat} {tn : Nat} {s : fm_M} (hT : TXc t tn s) (h : TI t tn) (i : Nat) (hi : i < 10000) : f_X7_letterAt (nI i) s = some (nI (leF t tn i), s) := by
  obtain ⟨e1, e2⟩ := hT
  have hb := leF_b h i
  have htn := h.1
  have hc : fm_ch (nI (leF t tn i)) = true := decide_eq_true (by rw [nI_toInt (by omega)]; omega)
  unfold f_X7_letterAt f_X7_letterAt_30 f_X7_letterAt_31
  rw [e1, if_neg (by rw [show (0 : Int32) = nI 0 from rfl, z_lt (by omega) (by omega)]; omega)]
  by_cases e : i < tn
  · rw [if_neg (by rw [z_le (by omega) (by omega)]; omega), if_neg (by rw [show (200 : Int32) = nI 200 from rfl, z_le (by omega) (by omega)]; omega), if_pos (by rw [z_in (by omega)]; omega), z_clamp (by omega), e2 i e]
    unfold leF at hc ⊢
    rw [if_pos e] at hc ⊢
    rw [if_pos hc]
  · rw [if_pos (by rw [z_le (by omega) (by omega)]; omega), if_pos (by decide)]
    unfold leF
    rw [if_neg e]
    rfl
theorem X_isFigure (a : Nat) (ha : a < 10000) (s : fm_M) : f_X7_isFigure (nI a) s = some (bI (decide (48 ≤ a ∧ a ≤ 57)), s) := by
  unfold f_X7_isFigure f_X7_isFigure_16 f_X7_isFigure_17
  rw [show (48 : Int32) = nI 48 from rfl, show (57 : Int32) = nI 57 from rfl]
  by_cases e1 : a < 48
  · rw [if_pos (by rw [z_lt (by omega) (by omega)]; exact e1), if_pos (by decide), decide_eq_false (by omega)]; rfl
  · rw [if_neg (by rw [z_lt (by omega) (by omega)]; exact e1)]
    by_cases e2 : 57 < a
    · rw [if_pos (by rw [z_lt (by omega) (by omega)]; exact e2), if_pos (by decide), decide_eq_false (by omega)]; rfl
    · rw [if_neg (by rw [z_lt (by omega) (by omega)]; exact e2), if_pos (by decide), decide_eq_true (by omega)]; rfl
theorem X_figuresAt {t : Nat → Nat} {tn : Nat} {s : fm_M} (hT : TXc t tn s) (h : TI t tn) (i : Nat) (hi : i < 9000) : f_X7_figuresAt (nI i) s = some (nI (nfF t tn i), s) := by
  have b1 := leF_b h i
  have b2 := leF_b h (i + 1)
  have a1 := X_letterAt hT h i (by omega)
  have a2 := X_letterAt hT h (i + 1) (by omega)
  have c1 : f_X7_isFigure (nI (leF t tn i)) s = some (bI (fgF t tn i), s) := X_isFigure _ (by omega) s
  have c2 : f_X7_isFigure (nI (leF t tn (i + 1))) s = some (bI (fgF t tn (i + 1)), s) := X_isFigure _ (by omega) s
  unfold f_X7_figuresAt f_X7_figuresAt_31 nfF
  rw [bd_some a1, bd_some c1]
  by_cases e1 : fgF t tn i = true
  · rw [e1, if_neg (by decide), if_pos rfl, show (1 : Int32) = nI 1 from rfl, z_add, bd_some a2, bd_some c2]
    by_cases e2 : fgF t tn (i + 1) = true
    · rw [e2, if_neg (by decide), if_pos rfl]; rfl
    · rw [Bool.eq_false_iff.mpr e2, if_pos (by decide)]; rfl
  · rw [Bool.eq_false_iff.mpr e1, if_pos (by decide)]; rfl
theorem X_numberAt {t : Nat → Nat} {tn : Nat} {s : fm_M} (hT : TXc t tn s) (h : TI t tn) (i : Nat) (hi : i < 9000) : f_X7_numberAt (nI i) s = some (if nfF t tn i = 0 then -1 else nI (nuF t tn i), s) := by
  have b1 := leF_b h i
  have b2 := leF_b h (i + 1)
  have a0 := X_figuresAt hT h i hi
  have a1 := X_letterAt hT h i (by omega)
  have a2 := X_letterAt hT h (i + 1) (by omega)
  have nb := nfF_b t tn i
  unfold f_X7_numberAt f_X7_numberAt_45
  rw [bd_some a0]
  by_cases e0 : nfF t tn i = 0
  · rw [e0, if_pos (by rfl), if_pos rfl]
  · rw [if_neg (by rw [show (0 : Int32) = nI 0 from rfl, z_eq (by omega) (by omega)]; exact e0), if_neg e0, bd_some a1]
    have g1 : fgF t tn i = true := by
      by_cases q : fgF t tn i = true
      · exact q
      · exact absurd (by unfold nfF; rw [if_neg q]) e0
    have l1 := fgF_i g1
    unfold nuF
    by_cases e1 : nfF t tn i = 1
    · rw [e1, if_pos (by rfl), if_pos rfl, show (48 : Int32) = nI 48 from rfl, z_sub (by omega)]
    · have g2 : fgF t tn (i + 1) = true := by
        by_cases q : fgF t tn (i + 1) = true
        · exact q
        · exact absurd (by unfold nfF; rw [if_pos g1, if_neg q]) e1
      have l2 := fgF_i g2
      rw [if_neg (by rw [show (1 : Int32) = nI 1 from rfl, z_eq (by omega) (by omega)]; exact e1), if_neg e1, show (1 : Int32) = nI 1 from rfl, z_add, bd_some a2, show (48 : Int32) = nI 48 from rfl, show (10 : Int32) = nI 10 from rfl, z_sub (by omega), z_mul, z_add, z_sub (by omega)]
-- the reference
def lmF (t : Nat → Nat) (tn i : Nat) : Int32 := if i < tn then nI (t i) else -1
theorem M_letterAt {t : Nat → Nat} {tn : Nat} {m : fm_M} (hT : TMc t tn m) (h : TI t tn) (i : Nat) (hi : i < 10000) : f_X9_letterAt (nI i) m = some (lmF t tn i, m) := by
  obtain ⟨e1, e2⟩ := hT
  have htn := h.1
  unfold f_X9_letterAt f_X9_letterAt_18 lmF
  rw [e1]
  by_cases e : i < tn
  · rw [if_neg (by rw [z_le (by omega) (by omega)]; omega), if_pos (by rw [z_in (by omega)]; omega), z_clamp (by omega), e2 i e, if_pos e]
  · rw [if_pos (by rw [z_le (by omega) (by omega)]; omega), if_neg e]
theorem lm_fg {t : Nat → Nat} {tn : Nat} (h : TI t tn) (i : Nat) : (decide ((48 : Int32) ≤ lmF t tn i) && decide (lmF t tn i ≤ 57)) = fgF t tn i := by
  unfold lmF fgF leF
  rw [show (48 : Int32) = nI 48 from rfl, show (57 : Int32) = nI 57 from rfl]
  by_cases e : i < tn
  · have := h.2 i e
    rw [if_pos e, if_pos e, Bool.decide_and]
    congr 1
    · exact decide_eq_decide.mpr (by rw [z_le (by omega) (by omega)])
    · exact decide_eq_decide.mpr (by rw [z_le (by omega) (by omega)])
  · rw [if_neg e, if_neg e]
    decide
theorem lm_eq {t : Nat → Nat} {tn : Nat} (h : TI t tn) (i e : Nat) (he : 1 ≤ e) (he2 : e < 200) : (lmF t tn i = nI e) = (leF t tn i = e) := by
  unfold lmF leF
  by_cases q : i < tn
  · have := h.2 i q
    rw [if_pos q, if_pos q, z_eq (by omega) (by omega)]
  · rw [if_neg q, if_neg q]
    refine propext ⟨fun z => ?_, fun z => by omega⟩
    have z' := congrArg Int32.toInt z
    rw [nI_toInt (by omega), show (-1 : Int32).toInt = -1 from by decide] at z'
    omega
theorem lm_fig {t : Nat → Nat} {tn : Nat} {i : Nat} (h : fgF t tn i = true) : lmF t tn i = nI (leF t tn i) := by
  have := fgF_i h
  unfold lmF leF at *
  by_cases q : i < tn
  · rw [if_pos q, if_pos q]
  · rw [if_neg q] at this; omega
theorem M_isFigure {t : Nat → Nat} {tn : Nat} (h : TI t tn) (i : Nat) (m : fm_M) : f_X9_isFigure (lmF t tn i) m = some (bI (fgF t tn i), m) := by
  unfold f_X9_isFigure
  have := M_in (lmF t tn i) 48 57 m
  rw [lm_fg h] at this
  rw [bd_some this, if_pos (by rw [bI_b]; trivial)]
def AF (m m' : fm_M) : Prop := (∀ c, ¬ c = 0 → m' c = m c) ∧ ∀ k, ¬ k = 11 → m' 0 k = m 0 k
theorem TMc.af {t : Nat → Nat} {tn : Nat} {m m' : fm_M} (h : TMc t tn m) (e : AF m m') : TMc t tn m' := by
  unfold TMc
  rw [e.2 1 (by omega), e.1 1 (by omega)]; exact h
theorem AF.up (m : fm_M) (v : Int32) : AF m (fm_up m 0 11 v) := ⟨fun _ h => m_up_ne h, fun k hk => by rw [m_up_eq, m_upd_ne hk]⟩
theorem AF.tr {a b c : fm_M} (h1 : AF a b) (h2 : AF b c) : AF a c := ⟨fun k hk => (h2.1 k hk).trans (h1.1 k hk), fun k hk => (h2.2 k hk).trans (h1.2 k hk)⟩
theorem AF.rf (m : fm_M) : AF m m := ⟨fun _ _ => rfl, fun _ _ => rfl⟩
def nrF (t : Nat → Nat) (tn i lo hi e : Nat) : Option Nat := if 0 < nfF t tn i ∧ leF t tn (i + nfF t tn i) = e ∧ lo ≤ nuF t tn i ∧ nuF t tn i ≤ hi then some (nuF t tn i) else none
theorem M_num82 {t : Nat → Nat} {tn : Nat} {m : fm_M} (hT : TMc t tn m) (h : TI t tn) (i lo hi e n : Nat) (hi' : i < 9000) (he : 1 ≤ e) (he2 : e < 200) (hn : n ≤ 99) (hl : lo ≤ 100) (hh : hi ≤ 100) (h11 : m 0 11 = nI i) : ∃ m', f_X9_number_82 (nI lo) (nI hi) (nI e) (nI n) m = some (if leF t tn i = e ∧ lo ≤ n ∧ n ≤ hi then nI n else -1, m') ∧ AF m m' ∧ m' 0 11 = nI (i + 1) := by
  have a1 := M_letterAt hT h i (by omega)
  have a2 := M_in (nI n) (nI lo) (nI hi) m
  refine ⟨fm_up m 0 11 (nI (i + 1)), ?_, AF.up m _, by rw [m_up_eq, m_upd_eq]⟩
  unfold f_X9_number_82 f_X9_number_108 f_X9_number_109 f_X9_number_132
  have z2 : nI i + 1 = nI (i + 1) := z_add i 1
  rw [h11, bd_some a1]
  by_cases e1 : leF t tn i = e
  · rw [if_pos (by rw [lm_eq h i e he he2]; exact e1), bd_some a2]
    by_cases e2 : lo ≤ n ∧ n ≤ hi
    · rw [show (decide (nI lo ≤ nI n) && decide (nI n ≤ nI hi)) = true by
        rw [decide_eq_true (by rw [z_le (by omega) (by omega)]; exact e2.1), decide_eq_true (by rw [z_le (by omega) (by omega)]; exact e2.2)]; rfl]
      rw [if_neg (by decide), if_neg (by decide), if_pos ⟨e1, e2.1, e2.2⟩, h11, z2]
    · rw [show (decide (nI lo ≤ nI n) && decide (nI n ≤ nI hi)) = false by
        rw [Bool.and_eq_false_iff, decide_eq_false_iff_not, decide_eq_false_iff_not, z_le (by omega) (by omega), z_le (by omega) (by omega)]; omega]
      rw [if_pos (by decide), if_pos rfl, if_neg (fun q => e2 q.2), h11, z2]
  · rw [if_neg (by rw [lm_eq h i e he he2]; exact e1), if_pos rfl, if_neg (fun q => e1 q.1), h11, z2]
theorem M_number {t : Nat → Nat} {tn : Nat} {m : fm_M} (hT : TMc t tn m) (h : TI t tn) (i lo hi e : Nat) (hi' : i < 8000) (he : 1 ≤ e) (he2 : e < 200) (hl : lo ≤ 100) (hh : hi ≤ 100) (h11 : m 0 11 = nI i) : ∃ m', f_X9_number (nI lo) (nI hi) (nI e) m = some (match nrF t tn i lo hi e with
    | none => -1
    | some n => nI n, m') ∧ AF m m' ∧ (0 < nfF t tn i → m' 0 11 = nI (i + nfF t tn i + 1)) := by
  have a1 := M_letterAt hT h i (by omega)
  have c1 := M_isFigure h i m
  unfold f_X9_number nrF
  rw [h11, bd_some a1, bd_some c1]
  by_cases e1 : fgF t tn i = true
  · have l1 := fgF_i e1
    have hT2 : TMc t tn (fm_up m 0 11 (nI (i + 1))) := hT.af (AF.up m _)
    have h112 : (fm_up m 0 11 (nI (i + 1))) 0 11 = nI (i + 1) := by rw [m_up_eq, m_upd_eq]
    have a2 := M_letterAt hT2 h (i + 1) (by omega)
    have c2 := M_isFigure h (i + 1) (fm_up m 0 11 (nI (i + 1)))
    rw [e1, if_neg (by decide), h11, bd_some a1, h11, show (1 : Int32) = nI 1 from rfl, z_add, h112, bd_some a2, bd_some c2, lm_fig e1, show (48 : Int32) = nI 48 from rfl, z_sub (by omega)]
    by_cases e2 : fgF t tn (i + 1) = true
    · have l2 := fgF_i e2
      have hnf : nfF t tn i = 2 := by unfold nfF; rw [if_pos e1, if_pos e2]
      have hnu : nuF t tn i = 10 * (leF t tn i - 48) + leF t tn (i + 1) - 48 := by unfold nuF; rw [hnf, if_neg (by omega)]
      have hnb := nuF_b t tn i (by omega)
      have hT3 : TMc t tn (fm_up (fm_up m 0 11 (nI (i + 1))) 0 11 (nI (i + 1 + 1))) := hT2.af (AF.up _ _)
      obtain ⟨m', g1, g2, g3⟩ := M_num82 hT3 h (i + 1 + 1) lo hi e (nuF t tn i) (by omega) he he2 hnb hl hh (by rw [m_up_eq, m_upd_eq])
      refine ⟨m', ?_, ((AF.up m _).tr (AF.up _ _)).tr g2, fun _ => by rw [g3, hnf]⟩
      rw [e2, if_neg (by decide), h112, bd_some a2, h112, show (10 : Int32) = nI 10 from rfl, lm_fig e2, z_mul, z_add, z_sub (by omega), z_add, ← hnu, g1, hnf]
      by_cases q : leF t tn (i + 1 + 1) = e ∧ lo ≤ nuF t tn i ∧ nuF t tn i ≤ hi
      · rw [if_pos q, if_pos ⟨by omega, q.1, q.2.1, q.2.2⟩]
      · rw [if_neg q, if_neg (fun z => q ⟨z.2.1, z.2.2.1, z.2.2.2⟩)]; rfl
    · have hnf : nfF t tn i = 1 := by unfold nfF; rw [if_pos e1, if_neg e2]
      have hnu : nuF t tn i = leF t tn i - 48 := by unfold nuF; rw [hnf, if_pos rfl]
      have hnb := nuF_b t tn i (by omega)
      obtain ⟨m', g1, g2, g3⟩ := M_num82 hT2 h (i + 1) lo hi e (nuF t tn i) (by omega) he he2 hnb hl hh h112
      refine ⟨m', ?_, (AF.up m _).tr g2, fun _ => by rw [g3, hnf]⟩
      rw [Bool.eq_false_iff.mpr e2, if_pos (by decide), ← hnu, g1, hnf]
      by_cases q : leF t tn (i + 1) = e ∧ lo ≤ nuF t tn i ∧ nuF t tn i ≤ hi
      · rw [if_pos q, if_pos ⟨by omega, q.1, q.2.1, q.2.2⟩]
      · rw [if_neg q, if_neg (fun z => q ⟨z.2.1, z.2.2.1, z.2.2.2⟩)]; rfl
  · have hnf : nfF t tn i = 0 := by unfold nfF; rw [if_neg e1]
    refine ⟨m, ?_, AF.rf m, fun q => by omega⟩
    rw [Bool.eq_false_iff.mpr e1, if_pos (by decide), if_neg (by omega)]
