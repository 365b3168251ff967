/-! the words of the constructors and of the law -/
theorem wo_X8 : Cond.methodLink RX8 1 objectInit ∈ gw := (gw_t 22 (by decide +kernel) rfl)
theorem wo_X7 : Cond.methodLink RX7 3 objectInit ∈ gw := (gw_t 30 (by decide +kernel) rfl)
theorem wo_X4 : Cond.methodLink RX4 3 objectInit ∈ gw := (gw_t 45 (by decide +kernel) rfl)
theorem wo_X2 : Cond.methodLink RX2 3 objectInit ∈ gw := (gw_t 87 (by decide +kernel) rfl)
theorem wo_X3 : Cond.methodLink RX3 1 objectInit ∈ gw := (gw_t 138 (by decide +kernel) rfl)
theorem wo_X1 : Cond.methodLink RX1 3 objectInit ∈ gw := (gw_t 161 (by decide +kernel) rfl)
theorem wo_X5 : Cond.methodLink RX5 3 objectInit ∈ gw := (gw_t 187 (by decide +kernel) rfl)
theorem wo_X6 : Cond.methodLink RX6 1 objectInit ∈ gw := (gw_t 218 (by decide +kernel) rfl)
theorem wo_X9 : Cond.methodLink RX9 1 objectInit ∈ gw := (gw_t 713 (by decide +kernel) rfl)
theorem woi : Cond.instanceMethod objectInit ∈ gw := (gw_t 23 (by decide +kernel) rfl)
theorem woc : Cond.code objectInit ⟨#[0xb1]⟩ 1 none ∈ gw := (gw_t 24 (by decide +kernel) rfl)
theorem wa_char : Cond.arrayClass .char ∈ gw := (gw_t 39 (by decide +kernel) rfl)
theorem wa_int : Cond.arrayClass .int ∈ gw := (gw_t 81 (by decide +kernel) rfl)
theorem wa_boolean : Cond.arrayClass .boolean ∈ gw := (gw_t 233 (by decide +kernel) rfl)
theorem wa_byte : Cond.arrayClass .byte ∈ gw := (gw_t 365 (by decide +kernel) rfl)
theorem wn_X8 : Cond.initialized RX8 ∈ gw := (gw_t 1 (by decide +kernel) rfl)
theorem nw_L_7 : fm_nw RL 7 7 9 [.null, .null, .null, .null, .null, .null, .null, .null, .null] := ⟨RX8, TX8, tyX8, rfl, inX8g, tyX8_ok, (gw_t 17 (by decide +kernel) rfl), (gw_t 18 (by decide +kernel) rfl), wn_X8, fun j hj => by
  rcases (show j = 0 ∨ j = 1 ∨ j = 2 ∨ j = 3 ∨ j = 4 ∨ j = 5 ∨ j = 6 ∨ j = 7 ∨ j = 8 by omega) with rfl | rfl | rfl | rfl | rfl | rfl | rfl | rfl | rfl <;> rfl⟩
theorem nw_X8_7 : fm_nw RX8 7 6 2 [.null, .int 0] := ⟨RX7, TX7, tyX7, rfl, inX7g, tyX7_ok, (gw_t 25 (by decide +kernel) rfl), (gw_t 26 (by decide +kernel) rfl), wn_X7, fun j hj => by
  rcases (show j = 0 ∨ j = 1 by omega) with rfl | rfl <;> rfl⟩
theorem nw_X8_16 : fm_nw RX8 16 3 7 [.null, .null, .int 0, .int 0, .int 0, .int 0, .int 0] := ⟨RX4, TX4, tyX4, rfl, inX4g, tyX4_ok, (gw_t 40 (by decide +kernel) rfl), (gw_t 41 (by decide +kernel) rfl), wn_X4, fun j hj => by
  rcases (show j = 0 ∨ j = 1 ∨ j = 2 ∨ j = 3 ∨ j = 4 ∨ j = 5 ∨ j = 6 by omega) with rfl | rfl | rfl | rfl | rfl | rfl | rfl <;> rfl⟩
theorem nw_X8_26 : fm_nw RX8 26 1 11 [.null, .null, .null, .null, .null, .null, .null, .int 0, .int 0, .int 0, .int 0] := ⟨RX2, TX2, tyX2, rfl, inX2g, tyX2_ok, (gw_t 82 (by decide +kernel) rfl), (gw_t 83 (by decide +kernel) rfl), wn_X2, fun j hj => by
  rcases (show j = 0 ∨ j = 1 ∨ j = 2 ∨ j = 3 ∨ j = 4 ∨ j = 5 ∨ j = 6 ∨ j = 7 ∨ j = 8 ∨ j = 9 ∨ j = 10 by omega) with rfl | rfl | rfl | rfl | rfl | rfl | rfl | rfl | rfl | rfl | rfl <;> rfl⟩
theorem nw_X8_35 : fm_nw RX8 35 2 3 [.null, .int 0, .int 0] := ⟨RX3, TX3, tyX3, rfl, inX3g, tyX3_ok, (gw_t 133 (by decide +kernel) rfl), (gw_t 134 (by decide +kernel) rfl), wn_X3, fun j hj => by
  rcases (show j = 0 ∨ j = 1 ∨ j = 2 by omega) with rfl | rfl | rfl <;> rfl⟩
theorem nw_X3_13 : fm_nw RX3 13 1 11 [.null, .null, .null, .null, .null, .null, .null, .int 0, .int 0, .int 0, .int 0] := ⟨RX2, TX2, tyX2, rfl, inX2g, tyX2_ok, (gw_t 142 (by decide +kernel) rfl), (gw_t 83 (by decide +kernel) rfl), wn_X2, fun j hj => by
  rcases (show j = 0 ∨ j = 1 ∨ j = 2 ∨ j = 3 ∨ j = 4 ∨ j = 5 ∨ j = 6 ∨ j = 7 ∨ j = 8 ∨ j = 9 ∨ j = 10 by omega) with rfl | rfl | rfl | rfl | rfl | rfl | rfl | rfl | rfl | rfl | rfl <;> rfl⟩
theorem wcl_X3_13 : Cond.classLink RX3 13 "SnowSuits$Hall" ∈ gw := (gw_t 142 (by decide +kernel) rfl)
theorem nw_X8_47 : fm_nw RX8 47 0 4 [.null, .null, .int 0, .int 0] := ⟨RX1, TX1, tyX1, rfl, inX1g, tyX1_ok, (gw_t 156 (by decide +kernel) rfl), (gw_t 157 (by decide +kernel) rfl), wn_X1, fun j hj => by
  rcases (show j = 0 ∨ j = 1 ∨ j = 2 ∨ j = 3 by omega) with rfl | rfl | rfl | rfl <;> rfl⟩
theorem nw_X1_15 : fm_nw RX1 15 1 11 [.null, .null, .null, .null, .null, .null, .null, .int 0, .int 0, .int 0, .int 0] := ⟨RX2, TX2, tyX2, rfl, inX2g, tyX2_ok, (gw_t 162 (by decide +kernel) rfl), (gw_t 83 (by decide +kernel) rfl), wn_X2, fun j hj => by
  rcases (show j = 0 ∨ j = 1 ∨ j = 2 ∨ j = 3 ∨ j = 4 ∨ j = 5 ∨ j = 6 ∨ j = 7 ∨ j = 8 ∨ j = 9 ∨ j = 10 by omega) with rfl | rfl | rfl | rfl | rfl | rfl | rfl | rfl | rfl | rfl | rfl <;> rfl⟩
theorem nw_X8_54 : fm_nw RX8 54 4 7 [.null, .null, .null, .null, .int 0, .int 0, .int 0] := ⟨RX5, TX5, tyX5, rfl, inX5g, tyX5_ok, (gw_t 182 (by decide +kernel) rfl), (gw_t 183 (by decide +kernel) rfl), wn_X5, fun j hj => by
  rcases (show j = 0 ∨ j = 1 ∨ j = 2 ∨ j = 3 ∨ j = 4 ∨ j = 5 ∨ j = 6 by omega) with rfl | rfl | rfl | rfl | rfl | rfl | rfl <;> rfl⟩
theorem nw_X8_63 : fm_nw RX8 63 5 4 [.null, .null, .null, .int 0] := ⟨RX6, TX6, tyX6, rfl, inX6g, tyX6_ok, (gw_t 213 (by decide +kernel) rfl), (gw_t 214 (by decide +kernel) rfl), wn_X6, fun j hj => by
  rcases (show j = 0 ∨ j = 1 ∨ j = 2 ∨ j = 3 by omega) with rfl | rfl | rfl | rfl <;> rfl⟩
theorem nw_L_10 : fm_nw RL 10 8 16 [.null, .int 0, .null, .null, .null, .null, .int 0, .null, .int 0, .null, .int 0, .int 0, .null, .null, .int 0, .null] := ⟨RX9, TX9, tyX9, rfl, inX9g, tyX9_ok, (gw_t 708 (by decide +kernel) rfl), (gw_t 709 (by decide +kernel) rfl), wn_X9, fun j hj => by
  rcases (show j = 0 ∨ j = 1 ∨ j = 2 ∨ j = 3 ∨ j = 4 ∨ j = 5 ∨ j = 6 ∨ j = 7 ∨ j = 8 ∨ j = 9 ∨ j = 10 ∨ j = 11 ∨ j = 12 ∨ j = 13 ∨ j = 14 ∨ j = 15 by omega) with rfl | rfl | rfl | rfl | rfl | rfl | rfl | rfl | rfl | rfl | rfl | rfl | rfl | rfl | rfl | rfl <;> rfl⟩
theorem wis_X8 : Cond.instantiable RX8 9 ∈ gw := (gw_t 18 (by decide +kernel) rfl)
theorem wis_X7 : Cond.instantiable RX7 2 ∈ gw := (gw_t 26 (by decide +kernel) rfl)
theorem wis_X4 : Cond.instantiable RX4 7 ∈ gw := (gw_t 41 (by decide +kernel) rfl)
theorem wis_X2 : Cond.instantiable RX2 11 ∈ gw := (gw_t 83 (by decide +kernel) rfl)
theorem wis_X3 : Cond.instantiable RX3 3 ∈ gw := (gw_t 134 (by decide +kernel) rfl)
theorem wis_X1 : Cond.instantiable RX1 4 ∈ gw := (gw_t 157 (by decide +kernel) rfl)
theorem wis_X5 : Cond.instantiable RX5 7 ∈ gw := (gw_t 183 (by decide +kernel) rfl)
theorem wis_X6 : Cond.instantiable RX6 4 ∈ gw := (gw_t 214 (by decide +kernel) rfl)
theorem wis_X9 : Cond.instantiable RX9 16 ∈ gw := (gw_t 709 (by decide +kernel) rfl)
theorem q_X1_9 : fm_qf RX1 9 0 0 (.object "SnowSuits$Plan") := ⟨RX1, TX1, 4, tyX1, rfl, inX1g, by decide, (gw_t 164 (by decide +kernel) rfl), tyX1_ok, nmX1, rfl, rfl, by decide +kernel⟩
theorem q_X1_20 : fm_qf RX1 20 0 1 (.object "SnowSuits$Hall") := ⟨RX1, TX1, 4, tyX1, rfl, inX1g, by decide, (gw_t 165 (by decide +kernel) rfl), tyX1_ok, nmX1, rfl, rfl, by decide +kernel⟩
theorem q_X2_9 : fm_qf RX2 9 1 1 (.array .int) := ⟨RX2, TX2, 11, tyX2, rfl, inX2g, by decide, (gw_t 89 (by decide +kernel) rfl), tyX2_ok, nmX2, rfl, rfl, by decide +kernel⟩
theorem q_X2_15 : fm_qf RX2 15 1 2 (.array .int) := ⟨RX2, TX2, 11, tyX2, rfl, inX2g, by decide, (gw_t 91 (by decide +kernel) rfl), tyX2_ok, nmX2, rfl, rfl, by decide +kernel⟩
theorem q_X2_18 : fm_qf RX2 18 1 3 (.array .int) := ⟨RX2, TX2, 11, tyX2, rfl, inX2g, by decide, (gw_t 93 (by decide +kernel) rfl), tyX2_ok, nmX2, rfl, rfl, by decide +kernel⟩
theorem q_X2_21 : fm_qf RX2 21 1 4 (.array .int) := ⟨RX2, TX2, 11, tyX2, rfl, inX2g, by decide, (gw_t 95 (by decide +kernel) rfl), tyX2_ok, nmX2, rfl, rfl, by decide +kernel⟩
theorem q_X2_24 : fm_qf RX2 24 1 5 (.array .int) := ⟨RX2, TX2, 11, tyX2, rfl, inX2g, by decide, (gw_t 97 (by decide +kernel) rfl), tyX2_ok, nmX2, rfl, rfl, by decide +kernel⟩
theorem q_X2_27 : fm_qf RX2 27 1 6 (.array .int) := ⟨RX2, TX2, 11, tyX2, rfl, inX2g, by decide, (gw_t 99 (by decide +kernel) rfl), tyX2_ok, nmX2, rfl, rfl, by decide +kernel⟩
theorem q_X2_30 : fm_qf RX2 30 1 0 (.object "SnowSuits$Plan") := ⟨RX2, TX2, 11, tyX2, rfl, inX2g, by decide, (gw_t 88 (by decide +kernel) rfl), tyX2_ok, nmX2, rfl, rfl, by decide +kernel⟩
theorem q_X3_15 : fm_qf RX3 15 2 0 (.array (.object "SnowSuits$Hall")) := ⟨RX3, TX3, 3, tyX3, rfl, inX3g, by decide, (gw_t 145 (by decide +kernel) rfl), tyX3_ok, nmX3, rfl, rfl, by decide +kernel⟩
theorem q_X4_9 : fm_qf RX4 9 3 0 (.array .int) := ⟨RX4, TX4, 7, tyX4, rfl, inX4g, by decide, (gw_t 46 (by decide +kernel) rfl), tyX4_ok, nmX4, rfl, rfl, by decide +kernel⟩
theorem q_X4_15 : fm_qf RX4 15 3 1 (.array .int) := ⟨RX4, TX4, 7, tyX4, rfl, inX4g, by decide, (gw_t 49 (by decide +kernel) rfl), tyX4_ok, nmX4, rfl, rfl, by decide +kernel⟩
theorem q_X5_9 : fm_qf RX5 9 4 2 (.array .int) := ⟨RX5, TX5, 7, tyX5, rfl, inX5g, by decide, (gw_t 190 (by decide +kernel) rfl), tyX5_ok, nmX5, rfl, rfl, by decide +kernel⟩
theorem q_X5_15 : fm_qf RX5 15 4 3 (.array .int) := ⟨RX5, TX5, 7, tyX5, rfl, inX5g, by decide, (gw_t 191 (by decide +kernel) rfl), tyX5_ok, nmX5, rfl, rfl, by decide +kernel⟩
theorem q_X5_22 : fm_qf RX5 22 4 0 (.object "SnowSuits$Plan") := ⟨RX5, TX5, 7, tyX5, rfl, inX5g, by decide, (gw_t 188 (by decide +kernel) rfl), tyX5_ok, nmX5, rfl, rfl, by decide +kernel⟩
theorem q_X5_26 : fm_qf RX5 26 4 1 (.object "SnowSuits$Course") := ⟨RX5, TX5, 7, tyX5, rfl, inX5g, by decide, (gw_t 189 (by decide +kernel) rfl), tyX5_ok, nmX5, rfl, rfl, by decide +kernel⟩
theorem q_X6_9 : fm_qf RX6 9 5 0 (.array .int) := ⟨RX6, TX6, 4, tyX6, rfl, inX6g, by decide, (gw_t 219 (by decide +kernel) rfl), tyX6_ok, nmX6, rfl, rfl, by decide +kernel⟩
theorem q_X6_13 : fm_qf RX6 13 5 1 (.array .int) := ⟨RX6, TX6, 4, tyX6, rfl, inX6g, by decide, (gw_t 220 (by decide +kernel) rfl), tyX6_ok, nmX6, rfl, rfl, by decide +kernel⟩
theorem q_X6_16 : fm_qf RX6 16 5 2 (.array .boolean) := ⟨RX6, TX6, 4, tyX6, rfl, inX6g, by decide, (gw_t 221 (by decide +kernel) rfl), tyX6_ok, nmX6, rfl, rfl, by decide +kernel⟩
theorem q_X7_9 : fm_qf RX7 9 6 0 (.array .char) := ⟨RX7, TX7, 2, tyX7, rfl, inX7g, by decide, (gw_t 31 (by decide +kernel) rfl), tyX7_ok, nmX7, rfl, rfl, by decide +kernel⟩
theorem q_X8_10 : fm_qf RX8 10 7 0 (.object "SnowSuits$Text") := ⟨RX8, TX8, 9, tyX8, rfl, inX8g, by decide, (gw_t 337 (by decide +kernel) rfl), tyX8_ok, nmX8, rfl, rfl, by decide +kernel⟩
theorem q_X8_19 : fm_qf RX8 19 7 1 (.object "SnowSuits$Plan") := ⟨RX8, TX8, 9, tyX8, rfl, inX8g, by decide, (gw_t 338 (by decide +kernel) rfl), tyX8_ok, nmX8, rfl, rfl, by decide +kernel⟩
theorem q_X8_23 : fm_qf RX8 23 7 2 (.object "SnowSuits$Plan") := ⟨RX8, TX8, 9, tyX8, rfl, inX8g, by decide, (gw_t 339 (by decide +kernel) rfl), tyX8_ok, nmX8, rfl, rfl, by decide +kernel⟩
theorem q_X8_31 : fm_qf RX8 31 7 3 (.object "SnowSuits$Hall") := ⟨RX8, TX8, 9, tyX8, rfl, inX8g, by decide, (gw_t 340 (by decide +kernel) rfl), tyX8_ok, nmX8, rfl, rfl, by decide +kernel⟩
theorem q_X8_40 : fm_qf RX8 40 7 4 (.object "SnowSuits$Pile") := ⟨RX8, TX8, 9, tyX8, rfl, inX8g, by decide, (gw_t 341 (by decide +kernel) rfl), tyX8_ok, nmX8, rfl, rfl, by decide +kernel⟩
theorem q_X8_44 : fm_qf RX8 44 7 5 (.object "SnowSuits$Pile") := ⟨RX8, TX8, 9, tyX8, rfl, inX8g, by decide, (gw_t 342 (by decide +kernel) rfl), tyX8_ok, nmX8, rfl, rfl, by decide +kernel⟩
theorem q_X8_50 : fm_qf RX8 50 7 6 (.object "SnowSuits$Course") := ⟨RX8, TX8, 9, tyX8, rfl, inX8g, by decide, (gw_t 343 (by decide +kernel) rfl), tyX8_ok, nmX8, rfl, rfl, by decide +kernel⟩
theorem q_X8_59 : fm_qf RX8 59 7 7 (.object "SnowSuits$Search") := ⟨RX8, TX8, 9, tyX8, rfl, inX8g, by decide, (gw_t 344 (by decide +kernel) rfl), tyX8_ok, nmX8, rfl, rfl, by decide +kernel⟩
theorem q_X8_66 : fm_qf RX8 66 7 8 (.object "SnowSuits$Sights") := ⟨RX8, TX8, 9, tyX8, rfl, inX8g, by decide, (gw_t 345 (by decide +kernel) rfl), tyX8_ok, nmX8, rfl, rfl, by decide +kernel⟩
theorem q_X9_7 : fm_qf RX9 7 8 0 (.array .int) := ⟨RX9, TX9, 16, tyX9, rfl, inX9g, by decide, (gw_t 730 (by decide +kernel) rfl), tyX9_ok, nmX9, rfl, rfl, by decide +kernel⟩
theorem q_X9_13 : fm_qf RX9 13 8 2 (.array .int) := ⟨RX9, TX9, 16, tyX9, rfl, inX9g, by decide, (gw_t 732 (by decide +kernel) rfl), tyX9_ok, nmX9, rfl, rfl, by decide +kernel⟩
theorem q_X9_16 : fm_qf RX9 16 8 3 (.array .int) := ⟨RX9, TX9, 16, tyX9, rfl, inX9g, by decide, (gw_t 733 (by decide +kernel) rfl), tyX9_ok, nmX9, rfl, rfl, by decide +kernel⟩
theorem q_X9_19 : fm_qf RX9 19 8 4 (.array .int) := ⟨RX9, TX9, 16, tyX9, rfl, inX9g, by decide, (gw_t 734 (by decide +kernel) rfl), tyX9_ok, nmX9, rfl, rfl, by decide +kernel⟩
theorem q_X9_22 : fm_qf RX9 22 8 5 (.array .int) := ⟨RX9, TX9, 16, tyX9, rfl, inX9g, by decide, (gw_t 735 (by decide +kernel) rfl), tyX9_ok, nmX9, rfl, rfl, by decide +kernel⟩
theorem q_X9_25 : fm_qf RX9 25 8 7 (.array .int) := ⟨RX9, TX9, 16, tyX9, rfl, inX9g, by decide, (gw_t 737 (by decide +kernel) rfl), tyX9_ok, nmX9, rfl, rfl, by decide +kernel⟩
theorem q_X9_28 : fm_qf RX9 28 8 9 (.array .int) := ⟨RX9, TX9, 16, tyX9, rfl, inX9g, by decide, (gw_t 739 (by decide +kernel) rfl), tyX9_ok, nmX9, rfl, rfl, by decide +kernel⟩
theorem q_X9_31 : fm_qf RX9 31 8 12 (.array .int) := ⟨RX9, TX9, 16, tyX9, rfl, inX9g, by decide, (gw_t 742 (by decide +kernel) rfl), tyX9_ok, nmX9, rfl, rfl, by decide +kernel⟩
theorem q_X9_34 : fm_qf RX9 34 8 13 (.array .int) := ⟨RX9, TX9, 16, tyX9, rfl, inX9g, by decide, (gw_t 743 (by decide +kernel) rfl), tyX9_ok, nmX9, rfl, rfl, by decide +kernel⟩
theorem q_X9_37 : fm_qf RX9 37 8 15 (.array .int) := ⟨RX9, TX9, 16, tyX9, rfl, inX9g, by decide, (gw_t 745 (by decide +kernel) rfl), tyX9_ok, nmX9, rfl, rfl, by decide +kernel⟩
theorem lc_L_9 : fm_lw RL 9 yX8_init cX8_init 2 none 0 := ⟨(gw_t 21 (by decide +kernel) rfl), wn_X8, (gw_t 19 (by decide +kernel) rfl), by decide +kernel⟩
theorem wi_X8_init : Cond.instanceMethod yX8_init ∈ gw := (gw_t 20 (by decide +kernel) rfl)
theorem wc_X7_init : Cond.code yX7_init cX7_init 1 none ∈ gw := (gw_t 29 (by decide +kernel) rfl)
theorem lcn_X8_9 : Cond.methodLinkNest RX8 9 yX7_init "SnowSuits" ∈ fm_nest := fm_nest_t 27 (by decide +kernel) rfl
theorem lcd_X8_9 : yX7_init.cls ≠ "java/lang/invoke/MethodHandle" ∧ yX7_init.cls ≠ "java/lang/invoke/VarHandle" ∧ (parseMethodDescriptor yX7_init.desc).map (fun d => d.parameters.length) = some 0 := by decide +kernel
theorem wi_X7_init : Cond.instanceMethod yX7_init ∈ gw := (gw_t 28 (by decide +kernel) rfl)
theorem wc_X4_init : Cond.code yX4_init cX4_init 1 none ∈ gw := (gw_t 44 (by decide +kernel) rfl)
theorem lcn_X8_18 : Cond.methodLinkNest RX8 18 yX4_init "SnowSuits" ∈ fm_nest := fm_nest_t 42 (by decide +kernel) rfl
theorem lcd_X8_18 : yX4_init.cls ≠ "java/lang/invoke/MethodHandle" ∧ yX4_init.cls ≠ "java/lang/invoke/VarHandle" ∧ (parseMethodDescriptor yX4_init.desc).map (fun d => d.parameters.length) = some 0 := by decide +kernel
theorem wi_X4_init : Cond.instanceMethod yX4_init ∈ gw := (gw_t 43 (by decide +kernel) rfl)
theorem lc_X8_28 : fm_lw RX8 28 yX2_init cX2_init 2 none 1 := ⟨(gw_t 86 (by decide +kernel) rfl), wn_X2, (gw_t 84 (by decide +kernel) rfl), by decide +kernel⟩
theorem wi_X2_init : Cond.instanceMethod yX2_init ∈ gw := (gw_t 85 (by decide +kernel) rfl)
theorem lc_X8_37 : fm_lw RX8 37 yX3_init cX3_init 4 none 2 := ⟨(gw_t 137 (by decide +kernel) rfl), wn_X3, (gw_t 135 (by decide +kernel) rfl), by decide +kernel⟩
theorem wi_X3_init : Cond.instanceMethod yX3_init ∈ gw := (gw_t 136 (by decide +kernel) rfl)
theorem lc_X3_21 : fm_lw RX3 21 yX2_init cX2_init 2 none 1 := ⟨(gw_t 86 (by decide +kernel) rfl), wn_X2, (gw_t 144 (by decide +kernel) rfl), by decide +kernel⟩
theorem lc_X8_49 : fm_lw RX8 49 yX1_init cX1_init 2 none 1 := ⟨(gw_t 160 (by decide +kernel) rfl), wn_X1, (gw_t 158 (by decide +kernel) rfl), by decide +kernel⟩
theorem wi_X1_init : Cond.instanceMethod yX1_init ∈ gw := (gw_t 159 (by decide +kernel) rfl)
theorem lc_X1_17 : fm_lw RX1 17 yX2_init cX2_init 2 none 1 := ⟨(gw_t 86 (by decide +kernel) rfl), wn_X2, (gw_t 163 (by decide +kernel) rfl), by decide +kernel⟩
theorem lc_X8_56 : fm_lw RX8 56 yX5_init cX5_init 3 none 2 := ⟨(gw_t 186 (by decide +kernel) rfl), wn_X5, (gw_t 184 (by decide +kernel) rfl), by decide +kernel⟩
theorem wi_X5_init : Cond.instanceMethod yX5_init ∈ gw := (gw_t 185 (by decide +kernel) rfl)
theorem wc_X6_init : Cond.code yX6_init cX6_init 1 none ∈ gw := (gw_t 217 (by decide +kernel) rfl)
theorem lcn_X8_65 : Cond.methodLinkNest RX8 65 yX6_init "SnowSuits" ∈ fm_nest := fm_nest_t 215 (by decide +kernel) rfl
theorem lcd_X8_65 : yX6_init.cls ≠ "java/lang/invoke/MethodHandle" ∧ yX6_init.cls ≠ "java/lang/invoke/VarHandle" ∧ (parseMethodDescriptor yX6_init.desc).map (fun d => d.parameters.length) = some 0 := by decide +kernel
theorem wi_X6_init : Cond.instanceMethod yX6_init ∈ gw := (gw_t 216 (by decide +kernel) rfl)
theorem lc_L_12 : fm_lw RL 12 yX9_init cX9_init 1 none 0 := ⟨(gw_t 712 (by decide +kernel) rfl), wn_X9, (gw_t 710 (by decide +kernel) rfl), by decide +kernel⟩
theorem wi_X9_init : Cond.instanceMethod yX9_init ∈ gw := (gw_t 711 (by decide +kernel) rfl)
theorem mm_X3_7 : fm_mmw RX3 7 Lib.Math.max.name Lib.Math.max.code := ⟨(gw_t 139 (by decide +kernel) rfl), (gw_t 140 (by decide +kernel) rfl), (gw_t 6 (by decide +kernel) rfl), (gw_t 141 (by decide +kernel) rfl)⟩
theorem l_L_13 : fm_lV RL 13 yX8_write cX8_write 2 (some .int) 1 7 := ⟨⟨(gw_t 369 (by decide +kernel) rfl), wn_X8, (gw_t 366 (by decide +kernel) rfl), by decide +kernel⟩, (gw_t 367 (by decide +kernel) rfl), (gw_t 368 (by decide +kernel) rfl), TX8, 9, rfl⟩
theorem l_L_17 : fm_lV RL 17 yX9_write cX9_write 2 (some .int) 1 8 := ⟨⟨(gw_t 782 (by decide +kernel) rfl), wn_X9, (gw_t 779 (by decide +kernel) rfl), by decide +kernel⟩, (gw_t 780 (by decide +kernel) rfl), (gw_t 781 (by decide +kernel) rfl), TX9, 16, rfl⟩
theorem l_L_18 : fm_lV RL 18 yX8_wipe cX8_wipe 2 (some .int) 0 7 := ⟨⟨(gw_t 373 (by decide +kernel) rfl), wn_X8, (gw_t 370 (by decide +kernel) rfl), by decide +kernel⟩, (gw_t 371 (by decide +kernel) rfl), (gw_t 372 (by decide +kernel) rfl), TX8, 9, rfl⟩
theorem l_L_22 : fm_lV RL 22 yX9_wipe cX9_wipe 2 (some .int) 0 8 := ⟨⟨(gw_t 789 (by decide +kernel) rfl), wn_X9, (gw_t 786 (by decide +kernel) rfl), by decide +kernel⟩, (gw_t 787 (by decide +kernel) rfl), (gw_t 788 (by decide +kernel) rfl), TX9, 16, rfl⟩
theorem l_L_23 : fm_lV RL 23 yX8_fault cX8_fault 1 (some .int) 0 7 := ⟨⟨(gw_t 377 (by decide +kernel) rfl), wn_X8, (gw_t 374 (by decide +kernel) rfl), by decide +kernel⟩, (gw_t 375 (by decide +kernel) rfl), (gw_t 376 (by decide +kernel) rfl), TX8, 9, rfl⟩
theorem l_L_26 : fm_lV RL 26 yX9_fault cX9_fault 1 (some .int) 0 8 := ⟨⟨(gw_t 793 (by decide +kernel) rfl), wn_X9, (gw_t 790 (by decide +kernel) rfl), by decide +kernel⟩, (gw_t 791 (by decide +kernel) rfl), (gw_t 792 (by decide +kernel) rfl), TX9, 16, rfl⟩
theorem l_L_27 : fm_lV RL 27 yX8_lay cX8_lay 1 (some .int) 0 7 := ⟨⟨(gw_t 381 (by decide +kernel) rfl), wn_X8, (gw_t 378 (by decide +kernel) rfl), by decide +kernel⟩, (gw_t 379 (by decide +kernel) rfl), (gw_t 380 (by decide +kernel) rfl), TX8, 9, rfl⟩
theorem l_L_30 : fm_lV RL 30 yX9_lay cX9_lay 1 (some .int) 0 8 := ⟨⟨(gw_t 820 (by decide +kernel) rfl), wn_X9, (gw_t 817 (by decide +kernel) rfl), by decide +kernel⟩, (gw_t 818 (by decide +kernel) rfl), (gw_t 819 (by decide +kernel) rfl), TX9, 16, rfl⟩
theorem l_L_31 : fm_lV RL 31 yX8_child cX8_child 3 (some .int) 2 7 := ⟨⟨(gw_t 396 (by decide +kernel) rfl), wn_X8, (gw_t 393 (by decide +kernel) rfl), by decide +kernel⟩, (gw_t 394 (by decide +kernel) rfl), (gw_t 395 (by decide +kernel) rfl), TX8, 9, rfl⟩
theorem l_L_35 : fm_lV RL 35 yX9_child cX9_child 3 (some .int) 2 8 := ⟨⟨(gw_t 824 (by decide +kernel) rfl), wn_X9, (gw_t 821 (by decide +kernel) rfl), by decide +kernel⟩, (gw_t 822 (by decide +kernel) rfl), (gw_t 823 (by decide +kernel) rfl), TX9, 16, rfl⟩
theorem l_L_36 : fm_lV RL 36 yX8_woman cX8_woman 3 (some .int) 2 7 := ⟨⟨(gw_t 416 (by decide +kernel) rfl), wn_X8, (gw_t 413 (by decide +kernel) rfl), by decide +kernel⟩, (gw_t 414 (by decide +kernel) rfl), (gw_t 415 (by decide +kernel) rfl), TX8, 9, rfl⟩
theorem l_L_39 : fm_lV RL 39 yX9_woman cX9_woman 3 (some .int) 2 8 := ⟨⟨(gw_t 843 (by decide +kernel) rfl), wn_X9, (gw_t 840 (by decide +kernel) rfl), by decide +kernel⟩, (gw_t 841 (by decide +kernel) rfl), (gw_t 842 (by decide +kernel) rfl), TX9, 16, rfl⟩
theorem l_L_40 : fm_lV RL 40 yX8_take cX8_take 3 (some .int) 2 7 := ⟨⟨(gw_t 424 (by decide +kernel) rfl), wn_X8, (gw_t 421 (by decide +kernel) rfl), by decide +kernel⟩, (gw_t 422 (by decide +kernel) rfl), (gw_t 423 (by decide +kernel) rfl), TX8, 9, rfl⟩
theorem l_L_43 : fm_lV RL 43 yX9_take cX9_take 3 (some .int) 2 8 := ⟨⟨(gw_t 851 (by decide +kernel) rfl), wn_X9, (gw_t 848 (by decide +kernel) rfl), by decide +kernel⟩, (gw_t 849 (by decide +kernel) rfl), (gw_t 850 (by decide +kernel) rfl), TX9, 16, rfl⟩
theorem l_L_44 : fm_lV RL 44 yX8_layOut cX8_layOut 2 (some .int) 1 7 := ⟨⟨(gw_t 458 (by decide +kernel) rfl), wn_X8, (gw_t 455 (by decide +kernel) rfl), by decide +kernel⟩, (gw_t 456 (by decide +kernel) rfl), (gw_t 457 (by decide +kernel) rfl), TX8, 9, rfl⟩
theorem l_L_47 : fm_lV RL 47 yX9_layOut cX9_layOut 2 (some .int) 1 8 := ⟨⟨(gw_t 867 (by decide +kernel) rfl), wn_X9, (gw_t 864 (by decide +kernel) rfl), by decide +kernel⟩, (gw_t 865 (by decide +kernel) rfl), (gw_t 866 (by decide +kernel) rfl), TX9, 16, rfl⟩
theorem l_L_48 : fm_lV RL 48 yX8_door cX8_door 2 (some .int) 1 7 := ⟨⟨(gw_t 475 (by decide +kernel) rfl), wn_X8, (gw_t 472 (by decide +kernel) rfl), by decide +kernel⟩, (gw_t 473 (by decide +kernel) rfl), (gw_t 474 (by decide +kernel) rfl), TX8, 9, rfl⟩
theorem l_L_51 : fm_lV RL 51 yX9_door cX9_door 2 (some .int) 1 8 := ⟨⟨(gw_t 875 (by decide +kernel) rfl), wn_X9, (gw_t 872 (by decide +kernel) rfl), by decide +kernel⟩, (gw_t 873 (by decide +kernel) rfl), (gw_t 874 (by decide +kernel) rfl), TX9, 16, rfl⟩
theorem l_L_52 : fm_lV RL 52 yX8_pass cX8_pass 4 (some .int) 1 7 := ⟨⟨(gw_t 500 (by decide +kernel) rfl), wn_X8, (gw_t 497 (by decide +kernel) rfl), by decide +kernel⟩, (gw_t 498 (by decide +kernel) rfl), (gw_t 499 (by decide +kernel) rfl), TX8, 9, rfl⟩
theorem l_L_55 : fm_lV RL 55 yX9_pass cX9_pass 4 (some .int) 1 8 := ⟨⟨(gw_t 895 (by decide +kernel) rfl), wn_X9, (gw_t 892 (by decide +kernel) rfl), by decide +kernel⟩, (gw_t 893 (by decide +kernel) rfl), (gw_t 894 (by decide +kernel) rfl), TX9, 16, rfl⟩
theorem l_L_56 : fm_lV RL 56 yX8_undo cX8_undo 1 (some .int) 0 7 := ⟨⟨(gw_t 521 (by decide +kernel) rfl), wn_X8, (gw_t 518 (by decide +kernel) rfl), by decide +kernel⟩, (gw_t 519 (by decide +kernel) rfl), (gw_t 520 (by decide +kernel) rfl), TX8, 9, rfl⟩
theorem l_L_59 : fm_lV RL 59 yX9_undo cX9_undo 2 (some .int) 0 8 := ⟨⟨(gw_t 903 (by decide +kernel) rfl), wn_X9, (gw_t 900 (by decide +kernel) rfl), by decide +kernel⟩, (gw_t 901 (by decide +kernel) rfl), (gw_t 902 (by decide +kernel) rfl), TX9, 16, rfl⟩
theorem l_L_60 : fm_lV RL 60 yX8_asTold cX8_asTold 2 (some .int) 1 7 := ⟨⟨(gw_t 529 (by decide +kernel) rfl), wn_X8, (gw_t 526 (by decide +kernel) rfl), by decide +kernel⟩, (gw_t 527 (by decide +kernel) rfl), (gw_t 528 (by decide +kernel) rfl), TX8, 9, rfl⟩
theorem l_L_63 : fm_lV RL 63 yX9_asTold cX9_asTold 3 (some .int) 1 8 := ⟨⟨(gw_t 907 (by decide +kernel) rfl), wn_X9, (gw_t 904 (by decide +kernel) rfl), by decide +kernel⟩, (gw_t 905 (by decide +kernel) rfl), (gw_t 906 (by decide +kernel) rfl), TX9, 16, rfl⟩
theorem l_L_64 : fm_lV RL 64 yX8_best cX8_best 2 (some .int) 1 7 := ⟨⟨(gw_t 580 (by decide +kernel) rfl), wn_X8, (gw_t 577 (by decide +kernel) rfl), by decide +kernel⟩, (gw_t 578 (by decide +kernel) rfl), (gw_t 579 (by decide +kernel) rfl), TX8, 9, rfl⟩
theorem l_L_67 : fm_lV RL 67 yX9_best cX9_best 8 (some .int) 1 8 := ⟨⟨(gw_t 939 (by decide +kernel) rfl), wn_X9, (gw_t 936 (by decide +kernel) rfl), by decide +kernel⟩, (gw_t 937 (by decide +kernel) rfl), (gw_t 938 (by decide +kernel) rfl), TX9, 16, rfl⟩
theorem l_L_68 : fm_lV RL 68 yX8_last cX8_last 1 (some .int) 0 7 := ⟨⟨(gw_t 607 (by decide +kernel) rfl), wn_X8, (gw_t 604 (by decide +kernel) rfl), by decide +kernel⟩, (gw_t 605 (by decide +kernel) rfl), (gw_t 606 (by decide +kernel) rfl), TX8, 9, rfl⟩
theorem l_L_71 : fm_lV RL 71 yX9_last cX9_last 3 (some .int) 0 8 := ⟨⟨(gw_t 947 (by decide +kernel) rfl), wn_X9, (gw_t 944 (by decide +kernel) rfl), by decide +kernel⟩, (gw_t 945 (by decide +kernel) rfl), (gw_t 946 (by decide +kernel) rfl), TX9, 16, rfl⟩
theorem l_L_72 : fm_lV RL 72 yX8_pays cX8_pays 3 (some .int) 0 7 := ⟨⟨(gw_t 619 (by decide +kernel) rfl), wn_X8, (gw_t 616 (by decide +kernel) rfl), by decide +kernel⟩, (gw_t 617 (by decide +kernel) rfl), (gw_t 618 (by decide +kernel) rfl), TX8, 9, rfl⟩
theorem l_L_75 : fm_lV RL 75 yX9_pays cX9_pays 4 (some .int) 0 8 := ⟨⟨(gw_t 951 (by decide +kernel) rfl), wn_X9, (gw_t 948 (by decide +kernel) rfl), by decide +kernel⟩, (gw_t 949 (by decide +kernel) rfl), (gw_t 950 (by decide +kernel) rfl), TX9, 16, rfl⟩
theorem l_L_76 : fm_lV RL 76 yX8_women cX8_women 2 (some .int) 1 7 := ⟨⟨(gw_t 627 (by decide +kernel) rfl), wn_X8, (gw_t 624 (by decide +kernel) rfl), by decide +kernel⟩, (gw_t 625 (by decide +kernel) rfl), (gw_t 626 (by decide +kernel) rfl), TX8, 9, rfl⟩
theorem l_L_79 : fm_lV RL 79 yX9_women cX9_women 4 (some .int) 1 8 := ⟨⟨(gw_t 959 (by decide +kernel) rfl), wn_X9, (gw_t 956 (by decide +kernel) rfl), by decide +kernel⟩, (gw_t 957 (by decide +kernel) rfl), (gw_t 958 (by decide +kernel) rfl), TX9, 16, rfl⟩
theorem l_L_80 : fm_lV RL 80 yX8_seen cX8_seen 4 (some .int) 3 7 := ⟨⟨(gw_t 631 (by decide +kernel) rfl), wn_X8, (gw_t 628 (by decide +kernel) rfl), by decide +kernel⟩, (gw_t 629 (by decide +kernel) rfl), (gw_t 630 (by decide +kernel) rfl), TX8, 9, rfl⟩
theorem l_L_84 : fm_lV RL 84 yX9_seen cX9_seen 4 (some .int) 3 8 := ⟨⟨(gw_t 963 (by decide +kernel) rfl), wn_X9, (gw_t 960 (by decide +kernel) rfl), by decide +kernel⟩, (gw_t 961 (by decide +kernel) rfl), (gw_t 962 (by decide +kernel) rfl), TX9, 16, rfl⟩
theorem l_L_85 : fm_lV RL 85 yX8_forget cX8_forget 2 (some .int) 0 7 := ⟨⟨(gw_t 639 (by decide +kernel) rfl), wn_X8, (gw_t 636 (by decide +kernel) rfl), by decide +kernel⟩, (gw_t 637 (by decide +kernel) rfl), (gw_t 638 (by decide +kernel) rfl), TX8, 9, rfl⟩
theorem l_L_88 : fm_lV RL 88 yX9_forget cX9_forget 2 (some .int) 0 8 := ⟨⟨(gw_t 967 (by decide +kernel) rfl), wn_X9, (gw_t 964 (by decide +kernel) rfl), by decide +kernel⟩, (gw_t 965 (by decide +kernel) rfl), (gw_t 966 (by decide +kernel) rfl), TX9, 16, rfl⟩
theorem l_L_89 : fm_lV RL 89 yX8_kinds cX8_kinds 4 (some .int) 1 7 := ⟨⟨(gw_t 643 (by decide +kernel) rfl), wn_X8, (gw_t 640 (by decide +kernel) rfl), by decide +kernel⟩, (gw_t 641 (by decide +kernel) rfl), (gw_t 642 (by decide +kernel) rfl), TX8, 9, rfl⟩
theorem l_L_92 : fm_lV RL 92 yX9_kinds cX9_kinds 4 (some .int) 1 8 := ⟨⟨(gw_t 971 (by decide +kernel) rfl), wn_X9, (gw_t 968 (by decide +kernel) rfl), by decide +kernel⟩, (gw_t 969 (by decide +kernel) rfl), (gw_t 970 (by decide +kernel) rfl), TX9, 16, rfl⟩
theorem l_L_93 : fm_lV RL 93 yX8_takes cX8_takes 6 (some .int) 2 7 := ⟨⟨(gw_t 652 (by decide +kernel) rfl), wn_X8, (gw_t 649 (by decide +kernel) rfl), by decide +kernel⟩, (gw_t 650 (by decide +kernel) rfl), (gw_t 651 (by decide +kernel) rfl), TX8, 9, rfl⟩
theorem l_L_96 : fm_lV RL 96 yX9_takes cX9_takes 7 (some .int) 2 8 := ⟨⟨(gw_t 979 (by decide +kernel) rfl), wn_X9, (gw_t 976 (by decide +kernel) rfl), by decide +kernel⟩, (gw_t 977 (by decide +kernel) rfl), (gw_t 978 (by decide +kernel) rfl), TX9, 16, rfl⟩
theorem l_L_97 : fm_lV RL 97 yX8_must cX8_must 8 (some .int) 3 7 := ⟨⟨(gw_t 656 (by decide +kernel) rfl), wn_X8, (gw_t 653 (by decide +kernel) rfl), by decide +kernel⟩, (gw_t 654 (by decide +kernel) rfl), (gw_t 655 (by decide +kernel) rfl), TX8, 9, rfl⟩
theorem l_L_100 : fm_lV RL 100 yX9_must cX9_must 9 (some .int) 3 8 := ⟨⟨(gw_t 983 (by decide +kernel) rfl), wn_X9, (gw_t 980 (by decide +kernel) rfl), by decide +kernel⟩, (gw_t 981 (by decide +kernel) rfl), (gw_t 982 (by decide +kernel) rfl), TX9, 16, rfl⟩
theorem l_L_101 : fm_lV RL 101 yX8_morning cX8_morning 4 (some .int) 3 7 := ⟨⟨(gw_t 674 (by decide +kernel) rfl), wn_X8, (gw_t 671 (by decide +kernel) rfl), by decide +kernel⟩, (gw_t 672 (by decide +kernel) rfl), (gw_t 673 (by decide +kernel) rfl), TX8, 9, rfl⟩
theorem l_L_104 : fm_lV RL 104 yX9_morning cX9_morning 8 (some .int) 3 8 := ⟨⟨(gw_t 987 (by decide +kernel) rfl), wn_X9, (gw_t 984 (by decide +kernel) rfl), by decide +kernel⟩, (gw_t 985 (by decide +kernel) rfl), (gw_t 986 (by decide +kernel) rfl), TX9, 16, rfl⟩
theorem l_L_105 : fm_lV RL 105 yX8_keep cX8_keep 1 (some .int) 0 7 := ⟨⟨(gw_t 694 (by decide +kernel) rfl), wn_X8, (gw_t 691 (by decide +kernel) rfl), by decide +kernel⟩, (gw_t 692 (by decide +kernel) rfl), (gw_t 693 (by decide +kernel) rfl), TX8, 9, rfl⟩
theorem l_L_108 : fm_lV RL 108 yX9_keep cX9_keep 2 (some .int) 0 8 := ⟨⟨(gw_t 998 (by decide +kernel) rfl), wn_X9, (gw_t 995 (by decide +kernel) rfl), by decide +kernel⟩, (gw_t 996 (by decide +kernel) rfl), (gw_t 997 (by decide +kernel) rfl), TX9, 16, rfl⟩
theorem l_L_109 : fm_lV RL 109 yX8_back cX8_back 1 (some .int) 0 7 := ⟨⟨(gw_t 698 (by decide +kernel) rfl), wn_X8, (gw_t 695 (by decide +kernel) rfl), by decide +kernel⟩, (gw_t 696 (by decide +kernel) rfl), (gw_t 697 (by decide +kernel) rfl), TX8, 9, rfl⟩
theorem l_L_112 : fm_lV RL 112 yX9_back cX9_back 2 (some .int) 0 8 := ⟨⟨(gw_t 1002 (by decide +kernel) rfl), wn_X9, (gw_t 999 (by decide +kernel) rfl), by decide +kernel⟩, (gw_t 1000 (by decide +kernel) rfl), (gw_t 1001 (by decide +kernel) rfl), TX9, 16, rfl⟩
theorem l_L_113 : fm_lV RL 113 yX8_count cX8_count 2 (some .int) 1 7 := ⟨⟨(gw_t 702 (by decide +kernel) rfl), wn_X8, (gw_t 699 (by decide +kernel) rfl), by decide +kernel⟩, (gw_t 700 (by decide +kernel) rfl), (gw_t 701 (by decide +kernel) rfl), TX8, 9, rfl⟩
theorem l_L_116 : fm_lV RL 116 yX9_count cX9_count 4 (some .int) 1 8 := ⟨⟨(gw_t 1006 (by decide +kernel) rfl), wn_X9, (gw_t 1003 (by decide +kernel) rfl), by decide +kernel⟩, (gw_t 1004 (by decide +kernel) rfl), (gw_t 1005 (by decide +kernel) rfl), TX9, 16, rfl⟩
