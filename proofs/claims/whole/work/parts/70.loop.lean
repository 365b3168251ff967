/-! the law's loop -/
section LOOP
variable {w1 w2 : fm_W} {b0 b L : Nat} {xs : Nat → Int32} {l : Launch}
theorem lc_all {ξ μ : fm_M} (hI1 : fm_I w1 105) (hI2 : fm_I w2 11) (hL : L ≤ 256) {k q : Nat} (hk : 4 * k + 4 ≤ L) (hq : q < 1000) (h : Rel q ξ μ) (kk : ∀ ξ2 μ2, Rel (q + 1) ξ2 μ2 → lw_V w1 w2 b0 b L xs l ξ2 μ2 733 (lvL w1 w2 b k) []) (k0 : lw_V w1 w2 b0 b L xs l ξ μ 733 (lvL w1 w2 b k) []) (j : Nat) (hj : j < 32) : lw_V w1 w2 b0 b L xs l ξ μ 32 (lvL w1 w2 b k) [.int (nI j)] := by
  match j, hj with
  | 0, _ => exact u_tabIn (off := 116) (nI 0) 148 rfl (by decide) (by decide) dL_law_32 (lc_case_0 hI1 hI2 hL hk hq h kk)
  | 1, _ => exact u_tabIn (off := 139) (nI 1) 171 rfl (by decide) (by decide) dL_law_32 (lc_case_1 hI1 hI2 hL hk hq h kk)
  | 2, _ => exact u_tabIn (off := 152) (nI 2) 184 rfl (by decide) (by decide) dL_law_32 (lc_case_2 hI1 hI2 hL hk hq h kk)
  | 3, _ => exact u_tabIn (off := 165) (nI 3) 197 rfl (by decide) (by decide) dL_law_32 (lc_case_3 hI1 hI2 hL hk hq h kk)
  | 4, _ => exact u_tabIn (off := 178) (nI 4) 210 rfl (by decide) (by decide) dL_law_32 (lc_case_4 hI1 hI2 hL hk hq h kk)
  | 5, _ => exact u_tabIn (off := 211) (nI 5) 243 rfl (by decide) (by decide) dL_law_32 (lc_case_5 hI1 hI2 hL hk hq h kk)
  | 6, _ => exact u_tabIn (off := 244) (nI 6) 276 rfl (by decide) (by decide) dL_law_32 (lc_case_6 hI1 hI2 hL hk hq h kk)
  | 7, _ => exact u_tabIn (off := 277) (nI 7) 309 rfl (by decide) (by decide) dL_law_32 (lc_case_7 hI1 hI2 hL hk hq h kk)
  | 8, _ => exact u_tabIn (off := 300) (nI 8) 332 rfl (by decide) (by decide) dL_law_32 (lc_case_8 hI1 hI2 hL hk hq h kk)
  | 9, _ => exact u_tabIn (off := 323) (nI 9) 355 rfl (by decide) (by decide) dL_law_32 (lc_case_9 hI1 hI2 hL hk hq h kk)
  | 10, _ => exact u_tabIn (off := 346) (nI 10) 378 rfl (by decide) (by decide) dL_law_32 (lc_case_10 hI1 hI2 hL hk hq h kk)
  | 11, _ => exact u_tabIn (off := 359) (nI 11) 391 rfl (by decide) (by decide) dL_law_32 (lc_case_11 hI1 hI2 hL hk hq h kk)
  | 12, _ => exact u_tabIn (off := 382) (nI 12) 414 rfl (by decide) (by decide) dL_law_32 (lc_case_12 hI1 hI2 hL hk hq h kk)
  | 13, _ => exact u_tabIn (off := 405) (nI 13) 437 rfl (by decide) (by decide) dL_law_32 (lc_case_13 hI1 hI2 hL hk hq h kk)
  | 14, _ => exact u_tabIn (off := 418) (nI 14) 450 rfl (by decide) (by decide) dL_law_32 (lc_case_14 hI1 hI2 hL hk hq h kk)
  | 15, _ => exact u_tabIn (off := 431) (nI 15) 463 rfl (by decide) (by decide) dL_law_32 (lc_case_15 hI1 hI2 hL hk hq h kk)
  | 16, _ => exact u_tabIn (off := 454) (nI 16) 486 rfl (by decide) (by decide) dL_law_32 (lc_case_16 hI1 hI2 hL hk hq h kk)
  | 17, _ => exact u_tabIn (off := 497) (nI 17) 529 rfl (by decide) (by decide) dL_law_32 (lc_case_17 hI1 hI2 hL hk hq h kk)
  | 18, _ => exact u_tabIn (off := 510) (nI 18) 542 rfl (by decide) (by decide) dL_law_32 (lc_case_18 hI1 hI2 hL hk hq h kk)
  | 19, _ => exact u_tabIn (off := 533) (nI 19) 565 rfl (by decide) (by decide) dL_law_32 (lc_case_19 hI1 hI2 hL hk hq h kk)
  | 20, _ => exact u_tabIn (off := 566) (nI 20) 598 rfl (by decide) (by decide) dL_law_32 (lc_case_20 hI1 hI2 hL hk hq h kk)
  | 21, _ => exact u_tabIn (off := 609) (nI 21) 641 rfl (by decide) (by decide) dL_law_32 (lc_case_21 hI1 hI2 hL hk hq h kk)
  | 22, _ => exact u_tabIn (off := 652) (nI 22) 684 rfl (by decide) (by decide) dL_law_32 (lc_case_22 hI1 hI2 hL hk hq h kk)
  | 23, _ => exact u_tabIn (off := 665) (nI 23) 697 rfl (by decide) (by decide) dL_law_32 (lc_case_23 hI1 hI2 hL hk hq h kk)
  | 24, _ => exact u_tabIn (off := 678) (nI 24) 710 rfl (by decide) (by decide) dL_law_32 (lc_case_24 hI1 hI2 hL hk hq h kk)
  | n + 25, hj =>
    refine u_tabOut 733 (Or.inr ?_) (by decide) dL_law_32 k0
    rw [nI_toInt (by omega)]
    omega
theorem law_loop (hI1 : fm_I w1 105) (hI2 : fm_I w2 11) (hL : L ≤ 256) : ∀ (d k q : Nat) (ξ μ : fm_M), L < 4 * k + d → 4 * k ≤ L → q ≤ k → Rel q ξ μ → lw_V w1 w2 b0 b L xs l ξ μ 18 (lvL w1 w2 b k) [] := by
  intro d
  induction d with
  | zero => intro k q ξ μ h1 h2; omega
  | succ d ih =>
    intro k q ξ μ h1 h2 h3 h
    refine u_iload_n 3 rfl rfl dL_law_18 ?_
    refine u_aload_n 0 rfl rfl dL_law_19 ?_
    refine u_slen dL_law_20 ?_
    refine u_iconst (nI 4) rfl dL_law_21 ?_
    refine u_isub dL_law_22 ?_
    refine u_icmp_gt 739 (by decide) dL_law_23 (fun _ => ?_) (fun hn => ?_)
    · refine u_iconst 1 rfl dL_law_739 ?_
      exact u_ret dL_law_740
    · have hk : 4 * k + 4 ≤ L := by
        rw [Int32.lt_iff_toInt_lt, pk_sub_toInt (by omega) (by omega), nI_toInt (by omega)] at hn
        omega
      have nx : ∀ (q2 : Nat) (ξ2 μ2 : fm_M), q2 ≤ k + 1 → Rel q2 ξ2 μ2 → lw_V w1 w2 b0 b L xs l ξ2 μ2 733 (lvL w1 w2 b k) [] := by
        intro q2 ξ2 μ2 hq2 hR
        refine u_iinc (nI 4) dL_law_733 rfl (by decide) (by decide) rfl (show _ = lvL w1 w2 b (k + 1) from by rw [nI_add, show 4 * k + 4 = 4 * (k + 1) by omega]; rfl) ?_
        refine u_goto 18 (by decide) dL_law_736 ?_
        exact ih (k + 1) q2 ξ2 μ2 (by omega) (by omega) hq2 hR
      refine u_aload_n 0 rfl rfl dL_law_26 ?_
      refine u_iload_n 3 rfl rfl dL_law_27 ?_
      refine u_sld (4 * k) rfl hL (by omega) dL_law_28 ?_
      refine u_bipush 31 (by decide) dL_law_29 ?_
      refine u_iand dL_law_31 ?_
      obtain ⟨j, hj, ej⟩ := pk_andE (xs (4 * k)) (m := 31) 5 (by decide)
      rw [ej]
      exact lc_all hI1 hI2 hL hk (by omega) h (fun ξ2 μ2 hR => nx (q + 1) ξ2 μ2 (by omega) hR) (nx q ξ μ (by omega) h) j hj
end LOOP
