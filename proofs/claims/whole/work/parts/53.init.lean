/-! what the constructors leave -/
def tL : List Nat := [99,48,44,52,59,99,49,44,53,59,99,50,44,51,59,99,51,44,52,59,99,48,44,54,59,99,49,44,51,59,119,50,59,104,53,59,103,51,59,108,52,48,59]
def tF (j : Nat) : Nat := tL.getD j 32
def pL : List Nat := [6, 2, 5, 3, 40, 0, 1, 2, 3, 0, 1, 4, 5, 3, 4, 6, 3]
def pT (j : Nat) : Nat := pL.getD j 0
theorem X_add1 {s : fm_M} {n v : Nat} (h : s 1 1 = nI n) (hn : n < 200) (hv : v < 65536) : f_X7_add (nI v) s = some (1, fm_up (fm_up s 2 n (nI v)) 1 1 (nI (n + 1))) := by
  unfold f_X7_add
  rw [h, if_neg (by rw [show (0 : Int32) = nI 0 from rfl, z_lt (by omega) (by omega)]; omega), if_pos (by rw [show (200 : Int32) = nI 200 from rfl, z_lt (by omega) (by omega)]; exact hn), if_pos (by rw [z_in (by omega)]; exact hn), z_clamp (by omega), z_narc hv, m_up_ne (by omega), h, show (1 : Int32) = nI 1 from rfl, z_add]
theorem TI_T : TI tF 43 := ⟨by omega, by decide⟩
def raT : Option Nat × (Nat → Nat) := raF tF 43 201 d0F 0
theorem raT_1 : (raF tF 43 201 d0F 0).1 = none := by decide +kernel
theorem raT_2 : ∀ j, j < 17 → (raF tF 43 201 d0F 0).2 j = pT j := by decide +kernel
theorem PI_T : PI pT := by
  refine ⟨by decide, by decide, by decide, by decide, by decide, by decide, by decide, by decide, by decide, by decide, by decide, ?_⟩
  intro c hc
  exact (show ∀ c, c < 6 → pT (5 + c) ≤ 3 ∧ 1 ≤ pT (11 + c) ∧ pT (11 + c) ≤ 12 by decide) c hc
/-- the class's cells as its constructor makes them -/
def XZ (x : fm_M) : Prop := (∀ c, c < 105 → ∀ k, ¬ (c = 98 ∧ k = 6) → x c k = 0) ∧ x 98 6 = -4 ∧ ∀ j, j < 6 → x 1000 j = nI j
/-- .. with the first text in them -/
def XT (n : Nat) (x : fm_M) : Prop := x 1 1 = nI n ∧ (∀ j, j < n → x 2 j = nI (tF j)) ∧ (∀ c, 3 ≤ c → c < 105 → ∀ k, ¬ (c = 98 ∧ k = 6) → x c k = 0) ∧ x 98 6 = -4 ∧ ∀ j, j < 6 → x 1000 j = nI j
theorem XT_0 {x : fm_M} (h : XZ x) : XT 0 x := ⟨h.1 1 (by omega) 1 (by omega), fun j hj => by omega, fun c _ h2 => h.1 c h2, h.2.1, h.2.2⟩
theorem XT_s {x : fm_M} {n : Nat} (h : XT n x) (hn : n < 43) : ∃ x', f_X7_add (nI (tF n)) x = some (1, x') ∧ XT (n + 1) x' := by
  have hb : tF n < 65536 := (show ∀ n, n < 43 → tF n < 65536 by decide) n hn
  refine ⟨_, X_add1 h.1 (by omega) hb, by rw [m_up_eq, m_upd_eq], fun j hj => ?_, fun c h1 h2 k hk => ?_, ?_, fun j hj => ?_⟩
  · rw [m_up_ne (by omega), m_up_eq]
    by_cases e : j = n
    · rw [e, m_upd_eq]
    · rw [m_upd_ne e]; exact h.2.1 j (by omega)
  · rw [m_up_ne (by omega), m_up_ne (by omega)]; exact h.2.2.1 c h1 h2 k hk
  · rw [m_up_ne (by omega), m_up_ne (by omega)]; exact h.2.2.2.1
  · rw [m_up_ne (by omega), m_up_ne (by omega)]; exact h.2.2.2.2 j hj
theorem XS_new {p t : Nat → Nat} {x : fm_M} (hP : RP p x) (h63 : x 6 3 = nI (p 1)) (hz : RH p zF x 9) (h11 : x 1 1 = nI 0) (h1 : x 16 1 = nI 0) (h2 : x 16 2 = nI 0) (h3 : x 74 1 = nI 0) (h4 : x 74 2 = nI 0) (h5 : x 101 3 = nI 0) (h6 : x 9 10 = nI 1) (h7 : x 98 6 = -4) (h8 : ∀ j, j < 6 → x 1000 j = nI j) : XS p zF t 0 (fun _ => zF) 0 (fun _ => zF) 0 zF zF zF 0 1 x := by
  refine ⟨⟨hP, h63⟩, hz, ⟨h11, fun j hj => by omega⟩, ⟨by omega, 0, by omega, h1, h2, fun j hj => by omega⟩, ⟨by omega, 0, by omega, h3, h4, fun j hj => by omega⟩, ⟨h5, fun j hj => by omega⟩, h6, fun q => ?_, Or.inl h7, h8⟩
  rw [h7, h6] at q
  have z := congrArg Int32.toInt q
  rw [nI_toInt (by omega), show (-4 : Int32).toInt = -4 from by decide] at z
  omega
/-- what the class holds when it is made -/
theorem X_made {x : fm_M} (h : XT 43 x) : ∃ r1 x1 x2 x3, f_X7_readInto 6 x = some (r1, x1) ∧ f_X7_clear x1 = some (0, x2) ∧ x2 6 3 = nI 2 ∧ f_X2_startAgain 9 (nI 2) x2 = some (0, x3) ∧ XS pT zF tF 0 (fun _ => zF) 0 (fun _ => zF) 0 zF zF zF 0 1 x3 := by
  obtain ⟨h1, h2, h3, h4, h5⟩ := h
  obtain ⟨x1, a1, a2, a3⟩ := X_readInto (pl := 6) (Or.inr rfl) (t := tF) (tn := 43) ⟨h1, h2⟩ TI_T
  obtain ⟨r2, r3, r4, r5, r6, rr⟩ := a2 raT_1
  rw [raT_2 0 (by omega)] at r2 rr
  rw [raT_2 1 (by omega)] at r3
  rw [raT_2 2 (by omega)] at r4
  rw [raT_2 3 (by omega)] at r5
  rw [raT_2 4 (by omega)] at r6
  obtain ⟨x2, hx2⟩ : ∃ x2, x2 = fm_up x1 1 1 (0 : Int32) := ⟨_, rfl⟩
  have f2 : ∀ c, ¬ c = 1 → x2 c = x1 c := fun c hc => by rw [hx2, m_up_ne hc]
  obtain ⟨x3, d1, d2, d3, d4, d5, d6, d7, d8⟩ := X_startAgain (s := x2) (a := 9) (k := 2)
  have f3 : ∀ c, c < 9 ∨ 15 < c → x3 c = x2 c := fun c hc => d7 c (by omega)
  have fx : ∀ c, 15 < c → x3 c = x c := fun c hc => by rw [f3 c (by omega), f2 c (by omega), a3 c (by omega)]
  have e9 : x3 9 10 = nI 1 := by rw [d8, f2 9 (by omega), a3 9 (by omega), h3 9 (by omega) (by omega) 10 (by omega)]; rfl
  refine ⟨_, x1, x2, x3, a1, by rw [hx2]; rfl, by rw [f2 6 (by omega)]; exact r3, d1, XS_new ⟨?_, ?_, ?_, ?_, fun c hc => ?_⟩ ?_ (RH_z PI_T d2 d3 d4 d5 d6) ?_ ?_ ?_ ?_ ?_ ?_ e9 ?_ (fun j hj => ?_)⟩
  · rw [f3 6 (by omega), f2 6 (by omega)]; exact r2
  · rw [f3 6 (by omega), f2 6 (by omega)]; exact r4
  · rw [f3 6 (by omega), f2 6 (by omega)]; exact r5
  · rw [f3 6 (by omega), f2 6 (by omega)]; exact r6
  · have h6 : pT 0 = 6 := rfl
    obtain ⟨q1, q2⟩ := rr c hc
    rw [raT_2 (5 + c) (by omega)] at q1
    rw [raT_2 (11 + c) (by omega)] at q2
    rw [f3 7 (by omega), f2 7 (by omega), f3 8 (by omega), f2 8 (by omega)]
    exact ⟨q1, q2⟩
  · rw [f3 6 (by omega), f2 6 (by omega)]; exact r3
  · rw [f3 1 (by omega), hx2, m_up_eq, m_upd_eq]; rfl
  · rw [fx 16 (by omega), h3 16 (by omega) (by omega) 1 (by omega)]; rfl
  · rw [fx 16 (by omega), h3 16 (by omega) (by omega) 2 (by omega)]; rfl
  · rw [fx 74 (by omega), h3 74 (by omega) (by omega) 1 (by omega)]; rfl
  · rw [fx 74 (by omega), h3 74 (by omega) (by omega) 2 (by omega)]; rfl
  · rw [fx 101 (by omega), h3 101 (by omega) (by omega) 3 (by omega)]; rfl
  · rw [fx 98 (by omega)]; exact h4
  · rw [fx 1000 (by omega)]; exact h5 j hj
def dC1 : Nat → Nat := chD d0F 0 4
def dC2 : Nat → Nat := chD dC1 1 5
def dC3 : Nat → Nat := chD dC2 2 3
def dC4 : Nat → Nat := chD dC3 3 4
def dC5 : Nat → Nat := chD dC4 0 6
def dC6 : Nat → Nat := chD dC5 1 3
theorem dC_0 : d0F 0 < 6 ∧ dC1 0 < 6 ∧ dC2 0 < 6 ∧ dC3 0 < 6 ∧ dC4 0 < 6 ∧ dC5 0 < 6 := by decide +kernel
theorem dC_T : ∀ j, j < 17 → ¬ j = 4 → ¬ j = 2 → dC6 j = pT j := by decide +kernel
theorem pT_24 : pT 4 = 40 ∧ pT 2 = 5 := by decide +kernel
/-- what the reference holds when it is made -/
theorem M_made {m : fm_M} (h : ∀ c, c < 11 → ∀ k, m c k = 0) : ∃ m1 m2 m3 m4 m5 m6 m7 m8, f_X9_begins m = some (0, m1) ∧ f_X9_childOf (nI 0) (nI 4) m1 = some (0, m2) ∧ f_X9_childOf (nI 1) (nI 5) m2 = some (0, m3) ∧ f_X9_childOf (nI 2) (nI 3) m3 = some (0, m4) ∧ f_X9_childOf (nI 3) (nI 4) m4 = some (0, m5) ∧ f_X9_childOf (nI 0) (nI 6) m5 = some (0, m6) ∧ f_X9_childOf (nI 1) (nI 3) m6 = some (0, m7) ∧ f_X9_lays (fm_up (fm_up m7 3 2 (nI 5)) 3 4 (nI 40)) = some (0, m8) ∧ MS pT zF tF 0 (fun _ => zF) 0 (fun _ => zF) 0 zF zF zF 0 m8 := by
  obtain ⟨m1, b1, b2, b3⟩ := M_begins m
  obtain ⟨z0, z1, z2, z3, z4, z5⟩ := dC_0
  obtain ⟨m2, c1, c2, c3, c4⟩ := M_childOf b3 z0 0 4
  obtain ⟨m3, d1, d2, d3, d4⟩ := M_childOf (d := dC1) c2 z1 1 5
  obtain ⟨m4, e1, e2, e3, e4⟩ := M_childOf (d := dC2) d2 z2 2 3
  obtain ⟨m5, f1, f2, f3, f4⟩ := M_childOf (d := dC3) e2 z3 3 4
  obtain ⟨m6, g1, g2, g3, g4⟩ := M_childOf (d := dC4) f2 z4 0 6
  obtain ⟨m7, i1, i2, i3, i4⟩ := M_childOf (d := dC5) g2 z5 1 3
  have i2' : ∀ j, j < 17 → m7 3 j = nI (dC6 j) := i2
  obtain ⟨m8, k1, k2, k3, k4, k5, k6, k7, k8⟩ := M_lays (fm_up (fm_up m7 3 2 (nI 5)) 3 4 (nI 40))
  have ht : ∀ j, j < 17 → (fm_up (fm_up m7 3 2 (nI 5)) 3 4 (nI 40)) 3 j = nI (pT j) := by
    intro j hj
    rw [m_up_eq]
    by_cases q4 : j = 4
    · rw [q4, m_upd_eq, pT_24.1]
    · rw [m_upd_ne q4, m_up_eq]
      by_cases q2 : j = 2
      · rw [q2, m_upd_eq, pT_24.2]
      · rw [m_upd_ne q2, i2' j hj, dC_T j hj q4 q2]
  refine ⟨m1, m2, m3, m4, m5, m6, m7, m8, b1, c1, d1, e1, f1, g1, i1, k1, ⟨fun j hj => by rw [k3 j hj]; exact ht j hj, fun j hj => k4 j hj⟩, ⟨?_, fun j hj => by omega⟩, ⟨by omega, k5, fun j hj => by omega⟩, ⟨by omega, k6, fun j hj => by omega⟩, ⟨k7, fun j hj => by omega⟩⟩
  rw [k8, m_up_ne (by omega), m_up_ne (by omega), i4, g4, f4, e4, d4, c4, b2 0 (by omega), h 0 (by omega)]
  rfl
theorem Rel_0 {x m : fm_M} (hX : XS pT zF tF 0 (fun _ => zF) 0 (fun _ => zF) 0 zF zF zF 0 1 x) (hM : MS pT zF tF 0 (fun _ => zF) 0 (fun _ => zF) 0 zF zF zF 0 m) : Rel 0 x m :=
  ⟨pT, zF, tF, 0, fun _ => zF, 0, fun _ => zF, 0, zF, zF, zF, 0, 1, ⟨PI_T, HI_z pT, Nat.zero_le 999, ⟨by omega, fun j hj => by omega⟩, fun j hj => by omega, fun j hj => by omega, ⟨by omega, fun j hj => by omega⟩, by omega, by omega⟩, hX, hM⟩
