/-! the rows in their order -/
def pvF (f : Nat → Nat) : Nat → Nat
  | 0 => 0
  | k + 1 => if f k ≤ f (k + 1) then k + 1 else pvF f k
def sjF (f : Nat → Nat) (i : Nat) : Nat → Nat
  | 0 => 0
  | k + 1 => if k + 1 ≤ i ∨ f i ≤ f (k + 1) then k + 1 else sjF f i k
def swF (f : Nat → Nat) (i j : Nat) : Nat → Nat := un (un f i (f j)) j (f i)
def rvF : Nat → (Nat → Nat) → Nat → Nat → Nat → Nat
  | 0, f, _, _ => f
  | u + 1, f, lo, hi => if hi ≤ lo then f else rvF u (swF f lo hi) (lo + 1) (hi - 1)
def nxP (n : Nat) (f : Nat → Nat) : Nat → Nat := rvF 6 (swF f (pvF f (n - 1) - 1) (sjF f (pvF f (n - 1) - 1) (n - 1))) (pvF f (n - 1) - 1 + 1) (n - 1)
def nxOk (n c c' : Nat) : Bool := decide (0 < pvF (rwF n c) (n - 1)) && (List.range n).all (fun k => nxP n (rwF n c) k == rwF n c' k)
def chC (n : Nat) : Nat → List Nat → Bool
  | c, [] => pvF (rwF n c) (n - 1) == 0
  | c, c' :: t => nxOk n c c' && chC n c' t
def chB (n : Nat) (l : List Nat) : Bool := match l with
  | [] => false
  | c :: t => (List.range n).all (fun k => rwF n c k == k) && Nat.ble t.length 719 && chC n c t
def okQ (c : Nat) : Bool := Nat.beq (Nat.lor (Nat.lor (Nat.lor (Nat.lor (Nat.lor (Nat.pow 2 (Nat.mod (Nat.div (Nat.div (Nat.div (Nat.div (Nat.div c 6) 6) 6) 6) 6) 6)) (Nat.pow 2 (Nat.mod (Nat.div (Nat.div (Nat.div (Nat.div c 6) 6) 6) 6) 6))) (Nat.pow 2 (Nat.mod (Nat.div (Nat.div (Nat.div c 6) 6) 6) 6))) (Nat.pow 2 (Nat.mod (Nat.div (Nat.div c 6) 6) 6))) (Nat.pow 2 (Nat.mod (Nat.div c 6) 6))) (Nat.pow 2 (Nat.mod c 6))) 63
theorem okQ_eq : okC 6 = okQ := by
  funext c
  show Nat.beq (mkC 6 6 c) 63 = okQ c
  simp only [mkC, Nat.zero_or]
  rfl
theorem ch6 : chB 6 ((List.range 46656).filter okQ) = true := by decide +kernel
theorem ch5 : ∀ n, n < 6 → 1 ≤ n → chB n (codesOf n) = true := by decide +kernel
theorem chB_ok {n : Nat} (h1 : 1 ≤ n) (h2 : n ≤ 6) : chB n (codesOf n) = true := by
  by_cases e : n = 6
  · subst e
    unfold codesOf
    rw [okQ_eq]
    exact ch6
  · exact ch5 n (by omega) h1
