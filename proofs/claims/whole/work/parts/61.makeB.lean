/-! the making: Object's own constructor, calls -/
section MKC
variable {w : fm_W} {lay : Nat → fm_L} {σ : fm_M} {b0 N : Nat} {l : Launch} {R : Room} {cc : ByteArray} {nL : Nat} {own : String} {n' : Nat} {op' : Nat → Option va_E} {mc ms n cells slots : Nat} {op : Nat → Option va_E} {pc : Nat} {lv lv' : List (Option Value)} {st : List Value}
theorem k_obj {idx a : Nat} (h1 : Cond.methodLink own idx objectInit ∈ gw) (h2 : Cond.instanceMethod objectInit ∈ gw) (h3 : Cond.code objectInit ⟨#[0xb1]⟩ 1 none ∈ gw) (hd : decode cc pc = .ok (.invokespecial idx, 3)) (hf : 1 ≤ R.frames) (hlo : 20 ≤ R.locals) (k : mk_V w lay σ b0 N l R cc nL own n' op' mc ms n cells slots op (pc + 3) lv []) : mk_V w lay σ b0 N l R cc nL own n' op' mc ms n cells slots op pc lv [.ref a] := by
  intro p e s m args below meth c X hz0 H locs ls hP hS h
  have hts := X.2.2.2.2.2.1
  refine W.objInit X.1 X.2.1 X.2.2.2.2.1 (hts _ h1) (hts _ h2) (hts _ h3) rfl (by rw [X.2.2.2.1]; exact h.1) rfl hd (by omega) (by
    have h0 : (F0 m pc ls [Value.ref a]).monitorRoom = 0 := rfl
    rw [h0]
    simp
    omega) ?_
  exact W.eq (g2 := F0 m (pc + 3) ls []) rfl (k p e s m args below meth c X hz0 H locs ls hP hS h)
end MKC
