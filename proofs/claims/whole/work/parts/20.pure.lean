/-! THE PURE LAYER, base: numbers, memory, loops -/
theorem z_lit (n : Nat) : (OfNat.ofNat n : Int32) = nI n := rfl
theorem z_le {a b : Nat} (ha : a < 2147483648) (hb : b < 2147483648) : (nI a ≤ nI b) = (a ≤ b) := propext (nI_leI ha hb)
theorem z_lt {a b : Nat} (ha : a < 2147483648) (hb : b < 2147483648) : (nI a < nI b) = (a < b) := propext (nI_ltI ha hb)
theorem z_eq {a b : Nat} (ha : a < 2147483648) (hb : b < 2147483648) : (nI a = nI b) = (a = b) := propext (nI_eq ha hb)
theorem z_add (a b : Nat) : nI a + nI b = nI (a + b) := nI_add a b
theorem z_mul (a b : Nat) : nI a * nI b = nI (a * b) := pk_mul a b
theorem z_sub {a b : Nat} (h : b ≤ a) : nI a - nI b = nI (a - b) := pk_sub h
theorem z_div {a d : Nat} (ha : a < 2147483648) (h0 : 0 < d) (hd : d < 2147483648) : nI a / nI d = nI (a / d) := pk_div ha h0 hd
theorem z_rem {a d : Nat} (ha : a < 2147483648) (h0 : 0 < d) (hd : d < 2147483648) : nI a - nI a / nI d * nI d = nI (a % d) := pk_rem ha h0 hd
theorem z_clamp {a : Nat} (h : a < 2147483648) : (nI a).toNatClampNeg = a := nI_clamp h
theorem z_toInt {a : Nat} (h : a < 2147483648) : (nI a).toInt = (a : Int) := nI_toInt h
theorem z_in {a n : Nat} (h : a < 2147483648) : (fm_in (nI a) n = true) = (a < n) := by
  apply propext
  unfold fm_in
  rw [decide_eq_true_eq, nI_toInt h]
  omega
theorem z_m4 {a : Nat} (h : a < 2147483648) : (nI a = -4) = False := by
  apply propext
  constructor
  · intro e
    have h1 : (nI a).toInt = (-4 : Int32).toInt := by rw [e]
    rw [nI_toInt h, show (-4 : Int32).toInt = -4 by decide] at h1
    omega
  · exact False.elim
theorem z_m4' {a : Nat} (h : a < 2147483648) : ((-4 : Int32) = nI a) = False := by
  apply propext
  exact ⟨fun e => by rw [← z_m4 h]; exact e.symm, False.elim⟩
theorem z_m1 {a : Nat} (h : a < 2147483648) : (nI a = -1) = False := by
  apply propext
  constructor
  · intro e
    have h1 : (nI a).toInt = (-1 : Int32).toInt := by rw [e]
    rw [nI_toInt h, show (-1 : Int32).toInt = -1 by decide] at h1
    omega
  · exact False.elim
theorem z_m4n {a : Nat} (h : a < 2147483648) : (nI a = -nI 4) = False := z_m4 h
theorem z_m1n {a : Nat} (h : a < 2147483648) : (nI a = -nI 1) = False := z_m1 h
theorem z_b0 : (fm_b (nI 0) = true) = True := by decide
theorem z_b1 : (fm_b (nI 1) = true) = True := by decide
theorem z_b {a : Nat} (h : a ≤ 1) : (fm_b (nI a) = true) = True := by
  rcases (show a = 0 ∨ a = 1 by omega) with rfl | rfl
  · exact z_b0
  · exact z_b1
/-- an int from outside: below 0, or a number -/
theorem z_cases (x : Int32) : (x.toInt < 0 ∧ x < 0) ∨ ∃ j : Nat, j < 2147483648 ∧ x = nI j := by
  by_cases h : x < 0
  · left
    refine ⟨?_, h⟩
    have := Int32.lt_iff_toInt_lt.mp h
    rwa [Int32.toInt_zero] at this
  · exact Or.inr (nI_of h)
theorem z_neg_in {x : Int32} (h : x.toInt < 0) (n : Nat) : (fm_in x n = true) = False := by
  apply propext
  unfold fm_in
  rw [decide_eq_true_eq]
  exact ⟨fun q => by omega, False.elim⟩
theorem z_neg_lt {x : Int32} (h : x.toInt < 0) {a : Nat} (ha : a < 2147483648) : (x < nI a) = True := by
  apply propext
  rw [Int32.lt_iff_toInt_lt, nI_toInt ha]
  exact ⟨fun _ => trivial, fun _ => by omega⟩
theorem z_neg_ge {x : Int32} (h : x.toInt < 0) {a : Nat} (ha : a < 2147483648) : (nI a ≤ x) = False := by
  apply propext
  rw [Int32.le_iff_toInt_le, nI_toInt ha]
  exact ⟨fun _ => by omega, False.elim⟩
theorem z_neg_eq {x : Int32} (h : x.toInt < 0) {a : Nat} (ha : a < 2147483648) : (x = nI a) = False := by
  apply propext
  constructor
  · intro e
    rw [e, nI_toInt ha] at h
    omega
  · exact False.elim
-- memory
theorem m_up_eq {s : fm_M} {c k : Nat} {v : Int32} : fm_up s c k v c = upd (s c) k v := by unfold fm_up; exact fm_st_eq
theorem m_up_ne {s : fm_M} {c k c' : Nat} {v : Int32} (h : ¬ c' = c) : fm_up s c k v c' = s c' := by unfold fm_up; exact fm_st_ne h
theorem m_upd_eq {f : Nat → Int32} {k : Nat} {v : Int32} : upd f k v k = v := by simp [upd]
theorem m_upd_ne {f : Nat → Int32} {k j : Nat} {v : Int32} (h : ¬ j = k) : upd f k v j = f j := by simp [upd, h]
def un (f : Nat → Nat) (k v : Nat) : Nat → Nat := fun j => if j = k then v else f j
theorem un_eq {f : Nat → Nat} {k v : Nat} : un f k v k = v := by simp [un]
theorem un_ne {f : Nat → Nat} {k v j : Nat} (h : ¬ j = k) : un f k v j = f j := by simp [un, h]
-- loops
theorem it_inv {S X : Type} {body : S → Option (S ⊕ X)} (I : Nat → S → Prop) (Q : X → Prop) (n : Nat) (hs : ∀ k s, k < n → I k s → (∃ t, body s = some (.inl t) ∧ I (k + 1) t) ∨ (∃ x, body s = some (.inr x) ∧ Q x)) (he : ∀ s, I n s → ∃ x, body s = some (.inr x) ∧ Q x) : ∀ (fu i : Nat) (s : S), i ≤ n → n - i < fu → I i s → ∃ x, fm_it body fu s = some x ∧ Q x := by
  intro fu
  induction fu with
  | zero => intro i s _ h; omega
  | succ m ih =>
    intro i s hi hf hI
    by_cases e : i = n
    · subst e
      obtain ⟨x, h1, h2⟩ := he s hI
      exact ⟨x, by unfold fm_it; rw [h1], h2⟩
    · rcases hs i s (by omega) hI with ⟨t, h1, h2⟩ | ⟨x, h1, h2⟩
      · obtain ⟨x, h3, h4⟩ := ih (i + 1) t (by omega) (by omega) h2
        exact ⟨x, by unfold fm_it; rw [h1]; exact h3, h4⟩
      · exact ⟨x, by unfold fm_it; rw [h1], h2⟩
theorem it_go {S X : Type} {body : S → Option (S ⊕ X)} (I : Nat → S → Prop) (Q : X → Prop) (n : Nat) (s : S) (hn : n < 100000) (h0 : I 0 s) (hs : ∀ k s, k < n → I k s → (∃ t, body s = some (.inl t) ∧ I (k + 1) t) ∨ (∃ x, body s = some (.inr x) ∧ Q x)) (he : ∀ s, I n s → ∃ x, body s = some (.inr x) ∧ Q x) : ∃ x, fm_it body fm_fu s = some x ∧ Q x :=
  it_inv I Q n hs he fm_fu 0 s (Nat.zero_le _) (by unfold fm_fu; omega) h0
theorem op_some {α β : Type} {o : Option α} {k : α → Option β} {a : α} (h : o = some a) : fm_op o k = k a := by rw [h]; rfl
theorem bd_some {α β : Type} {o : Option (α × fm_M)} {k : α → fm_M → Option β} {a : α} {s : fm_M} (h : o = some (a, s)) : fm_bd o k = k a s := by rw [h]; rfl
theorem bd_s {α β : Type} {k : α → fm_M → Option β} {a : α} {s : fm_M} : fm_bd (some (a, s)) k = k a s := rfl
theorem op_s2 {α β : Type} {k : α → Option β} {a : α} : fm_op (some a) k = k a := rfl
theorem zl0 : (0 : Int32) = nI 0 := rfl
theorem zl1 : (1 : Int32) = nI 1 := rfl
theorem zl2 : (2 : Int32) = nI 2 := rfl
theorem zl3 : (3 : Int32) = nI 3 := rfl
theorem zl4 : (4 : Int32) = nI 4 := rfl
theorem zl5 : (5 : Int32) = nI 5 := rfl
theorem zl6 : (6 : Int32) = nI 6 := rfl
theorem zl7 : (7 : Int32) = nI 7 := rfl
theorem zl8 : (8 : Int32) = nI 8 := rfl
theorem zl9 : (9 : Int32) = nI 9 := rfl
theorem zl10 : (10 : Int32) = nI 10 := rfl
theorem zl11 : (11 : Int32) = nI 11 := rfl
theorem zl12 : (12 : Int32) = nI 12 := rfl
theorem zl13 : (13 : Int32) = nI 13 := rfl
theorem zl17 : (17 : Int32) = nI 17 := rfl
theorem zl18 : (18 : Int32) = nI 18 := rfl
theorem zl19 : (19 : Int32) = nI 19 := rfl
theorem zl20 : (20 : Int32) = nI 20 := rfl
theorem zl21 : (21 : Int32) = nI 21 := rfl
theorem zl22 : (22 : Int32) = nI 22 := rfl
theorem zl23 : (23 : Int32) = nI 23 := rfl
theorem zl24 : (24 : Int32) = nI 24 := rfl
theorem zl25 : (25 : Int32) = nI 25 := rfl
theorem zl26 : (26 : Int32) = nI 26 := rfl
theorem zl27 : (27 : Int32) = nI 27 := rfl
theorem zl28 : (28 : Int32) = nI 28 := rfl
theorem zl29 : (29 : Int32) = nI 29 := rfl
theorem zl31 : (31 : Int32) = nI 31 := rfl
theorem zl32 : (32 : Int32) = nI 32 := rfl
theorem zl40 : (40 : Int32) = nI 40 := rfl
theorem zl42 : (42 : Int32) = nI 42 := rfl
theorem zl44 : (44 : Int32) = nI 44 := rfl
theorem zl48 : (48 : Int32) = nI 48 := rfl
theorem zl50 : (50 : Int32) = nI 50 := rfl
theorem zl57 : (57 : Int32) = nI 57 := rfl
theorem zl58 : (58 : Int32) = nI 58 := rfl
theorem zl59 : (59 : Int32) = nI 59 := rfl
theorem zl60 : (60 : Int32) = nI 60 := rfl
theorem zl65 : (65 : Int32) = nI 65 := rfl
theorem zl97 : (97 : Int32) = nI 97 := rfl
theorem zl98 : (98 : Int32) = nI 98 := rfl
theorem zl99 : (99 : Int32) = nI 99 := rfl
theorem zl100 : (100 : Int32) = nI 100 := rfl
theorem zl103 : (103 : Int32) = nI 103 := rfl
theorem zl104 : (104 : Int32) = nI 104 := rfl
theorem zl108 : (108 : Int32) = nI 108 := rfl
theorem zl119 : (119 : Int32) = nI 119 := rfl
theorem zl126 : (126 : Int32) = nI 126 := rfl
theorem zl200 : (200 : Int32) = nI 200 := rfl
theorem zl203 : (203 : Int32) = nI 203 := rfl
theorem zl255 : (255 : Int32) = nI 255 := rfl
theorem zl999 : (999 : Int32) = nI 999 := rfl
theorem zl9999 : (9999 : Int32) = nI 9999 := rfl
theorem zl720 : (720 : Int32) = nI 720 := rfl
theorem zl232 : (232 : Int32) = nI 232 := rfl
