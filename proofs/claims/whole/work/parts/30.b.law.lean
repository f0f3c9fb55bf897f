section LIB
variable {p : Program} {l : Launch} {e : Env} {R : Room} {s : State} {m : MethodId} {args : Array Value} {below : List Frame} {meth : Method} {c : Code} {H : Heap} {locs : List Loc} {Q : State → Prop}
variable {cc : ByteArray} {nL pc : Nat} {ret : Option FieldType} {d : CD} {A : Nat → Prop} {ls : Array Slot} {rest : List Value} {q : Nat → Nat} {σ σ1 : ST} {j : Nat}
theorem yc_X6_row : Cond.code yX6_row cX6_row 3 (some .int) ∈ tb := tb_at 306 (by decide +kernel) rfl
theorem yd_X6_row : ydn yX6_row 2 := by decide +kernel
theorem yv_X6_row : Cond.instanceMethod yX6_row ∈ tb ∧ Cond.selects yX6_row.cls yX6_row yX6_row ∈ tb := ⟨tb_at 304 (by decide +kernel) rfl, tb_at 305 (by decide +kernel) rfl⟩
theorem iv_L_13 : inV RL 13 yX6_row cX6_row 3 (some .int) 2 := ⟨⟨tb_at 303 (by decide +kernel) rfl, yv_X6_row.1, yv_X6_row.2, yi_X6, yc_X6_row⟩, yd_X6_row⟩
theorem yc_X7_row : Cond.code yX7_row cX7_row 3 (some .int) ∈ tb := tb_at 1048 (by decide +kernel) rfl
theorem yd_X7_row : ydn yX7_row 2 := by decide +kernel
theorem yv_X7_row : Cond.instanceMethod yX7_row ∈ tb ∧ Cond.selects yX7_row.cls yX7_row yX7_row ∈ tb := ⟨tb_at 1046 (by decide +kernel) rfl, tb_at 1047 (by decide +kernel) rfl⟩
theorem iv_L_17 : inV RL 17 yX7_row cX7_row 3 (some .int) 2 := ⟨⟨tb_at 1045 (by decide +kernel) rfl, yv_X7_row.1, yv_X7_row.2, yi_X7, yc_X7_row⟩, yd_X7_row⟩
theorem yc_X6_lay : Cond.code yX6_lay cX6_lay 5 (some .int) ∈ tb := tb_at 327 (by decide +kernel) rfl
theorem yd_X6_lay : ydn yX6_lay 3 := by decide +kernel
theorem yv_X6_lay : Cond.instanceMethod yX6_lay ∈ tb ∧ Cond.selects yX6_lay.cls yX6_lay yX6_lay ∈ tb := ⟨tb_at 325 (by decide +kernel) rfl, tb_at 326 (by decide +kernel) rfl⟩
theorem iv_L_18 : inV RL 18 yX6_lay cX6_lay 5 (some .int) 3 := ⟨⟨tb_at 324 (by decide +kernel) rfl, yv_X6_lay.1, yv_X6_lay.2, yi_X6, yc_X6_lay⟩, yd_X6_lay⟩
theorem yc_X7_lay : Cond.code yX7_lay cX7_lay 6 (some .int) ∈ tb := tb_at 1067 (by decide +kernel) rfl
theorem yd_X7_lay : ydn yX7_lay 3 := by decide +kernel
theorem yv_X7_lay : Cond.instanceMethod yX7_lay ∈ tb ∧ Cond.selects yX7_lay.cls yX7_lay yX7_lay ∈ tb := ⟨tb_at 1065 (by decide +kernel) rfl, tb_at 1066 (by decide +kernel) rfl⟩
theorem iv_L_22 : inV RL 22 yX7_lay cX7_lay 6 (some .int) 3 := ⟨⟨tb_at 1064 (by decide +kernel) rfl, yv_X7_lay.1, yv_X7_lay.2, yi_X7, yc_X7_lay⟩, yd_X7_lay⟩
theorem yc_X6_at : Cond.code yX6_at cX6_at 4 (some .int) ∈ tb := tb_at 357 (by decide +kernel) rfl
theorem yd_X6_at : ydn yX6_at 2 := by decide +kernel
theorem yv_X6_at : Cond.instanceMethod yX6_at ∈ tb ∧ Cond.selects yX6_at.cls yX6_at yX6_at ∈ tb := ⟨tb_at 355 (by decide +kernel) rfl, tb_at 356 (by decide +kernel) rfl⟩
theorem iv_L_23 : inV RL 23 yX6_at cX6_at 4 (some .int) 2 := ⟨⟨tb_at 354 (by decide +kernel) rfl, yv_X6_at.1, yv_X6_at.2, yi_X6, yc_X6_at⟩, yd_X6_at⟩
theorem yc_X7_at : Cond.code yX7_at cX7_at 4 (some .int) ∈ tb := tb_at 1079 (by decide +kernel) rfl
theorem yd_X7_at : ydn yX7_at 2 := by decide +kernel
theorem yv_X7_at : Cond.instanceMethod yX7_at ∈ tb ∧ Cond.selects yX7_at.cls yX7_at yX7_at ∈ tb := ⟨tb_at 1077 (by decide +kernel) rfl, tb_at 1078 (by decide +kernel) rfl⟩
theorem iv_L_26 : inV RL 26 yX7_at cX7_at 4 (some .int) 2 := ⟨⟨tb_at 1076 (by decide +kernel) rfl, yv_X7_at.1, yv_X7_at.2, yi_X7, yc_X7_at⟩, yd_X7_at⟩
theorem yc_X6_tear : Cond.code yX6_tear cX6_tear 3 (some .int) ∈ tb := tb_at 361 (by decide +kernel) rfl
theorem yd_X6_tear : ydn yX6_tear 1 := by decide +kernel
theorem yv_X6_tear : Cond.instanceMethod yX6_tear ∈ tb ∧ Cond.selects yX6_tear.cls yX6_tear yX6_tear ∈ tb := ⟨tb_at 359 (by decide +kernel) rfl, tb_at 360 (by decide +kernel) rfl⟩
theorem iv_L_27 : inV RL 27 yX6_tear cX6_tear 3 (some .int) 1 := ⟨⟨tb_at 358 (by decide +kernel) rfl, yv_X6_tear.1, yv_X6_tear.2, yi_X6, yc_X6_tear⟩, yd_X6_tear⟩
theorem yc_X7_tear : Cond.code yX7_tear cX7_tear 2 (some .int) ∈ tb := tb_at 1083 (by decide +kernel) rfl
theorem yd_X7_tear : ydn yX7_tear 1 := by decide +kernel
theorem yv_X7_tear : Cond.instanceMethod yX7_tear ∈ tb ∧ Cond.selects yX7_tear.cls yX7_tear yX7_tear ∈ tb := ⟨tb_at 1081 (by decide +kernel) rfl, tb_at 1082 (by decide +kernel) rfl⟩
theorem iv_L_31 : inV RL 31 yX7_tear cX7_tear 2 (some .int) 1 := ⟨⟨tb_at 1080 (by decide +kernel) rfl, yv_X7_tear.1, yv_X7_tear.2, yi_X7, yc_X7_tear⟩, yd_X7_tear⟩
theorem yc_X6_copy : Cond.code yX6_copy cX6_copy 6 (some .int) ∈ tb := tb_at 369 (by decide +kernel) rfl
theorem yd_X6_copy : ydn yX6_copy 5 := by decide +kernel
theorem yv_X6_copy : Cond.instanceMethod yX6_copy ∈ tb ∧ Cond.selects yX6_copy.cls yX6_copy yX6_copy ∈ tb := ⟨tb_at 367 (by decide +kernel) rfl, tb_at 368 (by decide +kernel) rfl⟩
theorem iv_L_32 : inV RL 32 yX6_copy cX6_copy 6 (some .int) 5 := ⟨⟨tb_at 366 (by decide +kernel) rfl, yv_X6_copy.1, yv_X6_copy.2, yi_X6, yc_X6_copy⟩, yd_X6_copy⟩
theorem yc_X7_copy : Cond.code yX7_copy cX7_copy 9 (some .int) ∈ tb := tb_at 1087 (by decide +kernel) rfl
theorem yd_X7_copy : ydn yX7_copy 5 := by decide +kernel
theorem yv_X7_copy : Cond.instanceMethod yX7_copy ∈ tb ∧ Cond.selects yX7_copy.cls yX7_copy yX7_copy ∈ tb := ⟨tb_at 1085 (by decide +kernel) rfl, tb_at 1086 (by decide +kernel) rfl⟩
theorem iv_L_36 : inV RL 36 yX7_copy cX7_copy 9 (some .int) 5 := ⟨⟨tb_at 1084 (by decide +kernel) rfl, yv_X7_copy.1, yv_X7_copy.2, yi_X7, yc_X7_copy⟩, yd_X7_copy⟩
theorem yc_X6_mean : Cond.code yX6_mean cX6_mean 4 (some .int) ∈ tb := tb_at 385 (by decide +kernel) rfl
theorem yd_X6_mean : ydn yX6_mean 1 := by decide +kernel
theorem yv_X6_mean : Cond.instanceMethod yX6_mean ∈ tb ∧ Cond.selects yX6_mean.cls yX6_mean yX6_mean ∈ tb := ⟨tb_at 383 (by decide +kernel) rfl, tb_at 384 (by decide +kernel) rfl⟩
theorem iv_L_37 : inV RL 37 yX6_mean cX6_mean 4 (some .int) 1 := ⟨⟨tb_at 382 (by decide +kernel) rfl, yv_X6_mean.1, yv_X6_mean.2, yi_X6, yc_X6_mean⟩, yd_X6_mean⟩
theorem yc_X7_mean : Cond.code yX7_mean cX7_mean 5 (some .int) ∈ tb := tb_at 1095 (by decide +kernel) rfl
theorem yd_X7_mean : ydn yX7_mean 1 := by decide +kernel
theorem yv_X7_mean : Cond.instanceMethod yX7_mean ∈ tb ∧ Cond.selects yX7_mean.cls yX7_mean yX7_mean ∈ tb := ⟨tb_at 1093 (by decide +kernel) rfl, tb_at 1094 (by decide +kernel) rfl⟩
theorem iv_L_40 : inV RL 40 yX7_mean cX7_mean 5 (some .int) 1 := ⟨⟨tb_at 1092 (by decide +kernel) rfl, yv_X7_mean.1, yv_X7_mean.2, yi_X7, yc_X7_mean⟩, yd_X7_mean⟩
theorem yc_X6_text : Cond.code yX6_text cX6_text 3 (some .int) ∈ tb := tb_at 399 (by decide +kernel) rfl
theorem yd_X6_text : ydn yX6_text 2 := by decide +kernel
theorem yv_X6_text : Cond.instanceMethod yX6_text ∈ tb ∧ Cond.selects yX6_text.cls yX6_text yX6_text ∈ tb := ⟨tb_at 397 (by decide +kernel) rfl, tb_at 398 (by decide +kernel) rfl⟩
theorem iv_L_41 : inV RL 41 yX6_text cX6_text 3 (some .int) 2 := ⟨⟨tb_at 396 (by decide +kernel) rfl, yv_X6_text.1, yv_X6_text.2, yi_X6, yc_X6_text⟩, yd_X6_text⟩
theorem yc_X7_text : Cond.code yX7_text cX7_text 4 (some .int) ∈ tb := tb_at 1099 (by decide +kernel) rfl
theorem yd_X7_text : ydn yX7_text 2 := by decide +kernel
theorem yv_X7_text : Cond.instanceMethod yX7_text ∈ tb ∧ Cond.selects yX7_text.cls yX7_text yX7_text ∈ tb := ⟨tb_at 1097 (by decide +kernel) rfl, tb_at 1098 (by decide +kernel) rfl⟩
theorem iv_L_44 : inV RL 44 yX7_text cX7_text 4 (some .int) 2 := ⟨⟨tb_at 1096 (by decide +kernel) rfl, yv_X7_text.1, yv_X7_text.2, yi_X7, yc_X7_text⟩, yd_X7_text⟩
theorem yc_X6_put : Cond.code yX6_put cX6_put 6 (some .int) ∈ tb := tb_at 403 (by decide +kernel) rfl
theorem yd_X6_put : ydn yX6_put 3 := by decide +kernel
theorem yv_X6_put : Cond.instanceMethod yX6_put ∈ tb ∧ Cond.selects yX6_put.cls yX6_put yX6_put ∈ tb := ⟨tb_at 401 (by decide +kernel) rfl, tb_at 402 (by decide +kernel) rfl⟩
theorem iv_L_45 : inV RL 45 yX6_put cX6_put 6 (some .int) 3 := ⟨⟨tb_at 400 (by decide +kernel) rfl, yv_X6_put.1, yv_X6_put.2, yi_X6, yc_X6_put⟩, yd_X6_put⟩
theorem yc_X7_put : Cond.code yX7_put cX7_put 5 (some .int) ∈ tb := tb_at 1107 (by decide +kernel) rfl
theorem yd_X7_put : ydn yX7_put 3 := by decide +kernel
theorem yv_X7_put : Cond.instanceMethod yX7_put ∈ tb ∧ Cond.selects yX7_put.cls yX7_put yX7_put ∈ tb := ⟨tb_at 1105 (by decide +kernel) rfl, tb_at 1106 (by decide +kernel) rfl⟩
theorem iv_L_48 : inV RL 48 yX7_put cX7_put 5 (some .int) 3 := ⟨⟨tb_at 1104 (by decide +kernel) rfl, yv_X7_put.1, yv_X7_put.2, yi_X7, yc_X7_put⟩, yd_X7_put⟩
theorem yc_X6_fault : Cond.code yX6_fault cX6_fault 3 (some .int) ∈ tb := tb_at 407 (by decide +kernel) rfl
theorem yd_X6_fault : ydn yX6_fault 1 := by decide +kernel
theorem yv_X6_fault : Cond.instanceMethod yX6_fault ∈ tb ∧ Cond.selects yX6_fault.cls yX6_fault yX6_fault ∈ tb := ⟨tb_at 405 (by decide +kernel) rfl, tb_at 406 (by decide +kernel) rfl⟩
theorem iv_L_49 : inV RL 49 yX6_fault cX6_fault 3 (some .int) 1 := ⟨⟨tb_at 404 (by decide +kernel) rfl, yv_X6_fault.1, yv_X6_fault.2, yi_X6, yc_X6_fault⟩, yd_X6_fault⟩
theorem yc_X7_fault : Cond.code yX7_fault cX7_fault 2 (some .int) ∈ tb := tb_at 1111 (by decide +kernel) rfl
theorem yd_X7_fault : ydn yX7_fault 1 := by decide +kernel
theorem yv_X7_fault : Cond.instanceMethod yX7_fault ∈ tb ∧ Cond.selects yX7_fault.cls yX7_fault yX7_fault ∈ tb := ⟨tb_at 1109 (by decide +kernel) rfl, tb_at 1110 (by decide +kernel) rfl⟩
theorem iv_L_52 : inV RL 52 yX7_fault cX7_fault 2 (some .int) 1 := ⟨⟨tb_at 1108 (by decide +kernel) rfl, yv_X7_fault.1, yv_X7_fault.2, yi_X7, yc_X7_fault⟩, yd_X7_fault⟩
theorem yc_X6_well : Cond.code yX6_well cX6_well 4 (some .int) ∈ tb := tb_at 518 (by decide +kernel) rfl
theorem yd_X6_well : ydn yX6_well 1 := by decide +kernel
theorem yv_X6_well : Cond.instanceMethod yX6_well ∈ tb ∧ Cond.selects yX6_well.cls yX6_well yX6_well ∈ tb := ⟨tb_at 516 (by decide +kernel) rfl, tb_at 517 (by decide +kernel) rfl⟩
theorem iv_L_53 : inV RL 53 yX6_well cX6_well 4 (some .int) 1 := ⟨⟨tb_at 515 (by decide +kernel) rfl, yv_X6_well.1, yv_X6_well.2, yi_X6, yc_X6_well⟩, yd_X6_well⟩
theorem yc_X7_well : Cond.code yX7_well cX7_well 3 (some .int) ∈ tb := tb_at 1149 (by decide +kernel) rfl
theorem yd_X7_well : ydn yX7_well 1 := by decide +kernel
theorem yv_X7_well : Cond.instanceMethod yX7_well ∈ tb ∧ Cond.selects yX7_well.cls yX7_well yX7_well ∈ tb := ⟨tb_at 1147 (by decide +kernel) rfl, tb_at 1148 (by decide +kernel) rfl⟩
theorem iv_L_56 : inV RL 56 yX7_well cX7_well 3 (some .int) 1 := ⟨⟨tb_at 1146 (by decide +kernel) rfl, yv_X7_well.1, yv_X7_well.2, yi_X7, yc_X7_well⟩, yd_X7_well⟩
theorem yc_X6_house : Cond.code yX6_house cX6_house 3 (some .int) ∈ tb := tb_at 568 (by decide +kernel) rfl
theorem yd_X6_house : ydn yX6_house 2 := by decide +kernel
theorem yv_X6_house : Cond.instanceMethod yX6_house ∈ tb ∧ Cond.selects yX6_house.cls yX6_house yX6_house ∈ tb := ⟨tb_at 566 (by decide +kernel) rfl, tb_at 567 (by decide +kernel) rfl⟩
theorem iv_L_57 : inV RL 57 yX6_house cX6_house 3 (some .int) 2 := ⟨⟨tb_at 565 (by decide +kernel) rfl, yv_X6_house.1, yv_X6_house.2, yi_X6, yc_X6_house⟩, yd_X6_house⟩
theorem yc_X7_house : Cond.code yX7_house cX7_house 3 (some .int) ∈ tb := tb_at 1153 (by decide +kernel) rfl
theorem yd_X7_house : ydn yX7_house 2 := by decide +kernel
theorem yv_X7_house : Cond.instanceMethod yX7_house ∈ tb ∧ Cond.selects yX7_house.cls yX7_house yX7_house ∈ tb := ⟨tb_at 1151 (by decide +kernel) rfl, tb_at 1152 (by decide +kernel) rfl⟩
theorem iv_L_60 : inV RL 60 yX7_house cX7_house 3 (some .int) 2 := ⟨⟨tb_at 1150 (by decide +kernel) rfl, yv_X7_house.1, yv_X7_house.2, yi_X7, yc_X7_house⟩, yd_X7_house⟩
theorem yc_X6_mark : Cond.code yX6_mark cX6_mark 3 (some .int) ∈ tb := tb_at 584 (by decide +kernel) rfl
theorem yd_X6_mark : ydn yX6_mark 2 := by decide +kernel
theorem yv_X6_mark : Cond.instanceMethod yX6_mark ∈ tb ∧ Cond.selects yX6_mark.cls yX6_mark yX6_mark ∈ tb := ⟨tb_at 582 (by decide +kernel) rfl, tb_at 583 (by decide +kernel) rfl⟩
theorem iv_L_61 : inV RL 61 yX6_mark cX6_mark 3 (some .int) 2 := ⟨⟨tb_at 581 (by decide +kernel) rfl, yv_X6_mark.1, yv_X6_mark.2, yi_X6, yc_X6_mark⟩, yd_X6_mark⟩
theorem yc_X7_mark : Cond.code yX7_mark cX7_mark 3 (some .int) ∈ tb := tb_at 1170 (by decide +kernel) rfl
theorem yd_X7_mark : ydn yX7_mark 2 := by decide +kernel
theorem yv_X7_mark : Cond.instanceMethod yX7_mark ∈ tb ∧ Cond.selects yX7_mark.cls yX7_mark yX7_mark ∈ tb := ⟨tb_at 1168 (by decide +kernel) rfl, tb_at 1169 (by decide +kernel) rfl⟩
theorem iv_L_64 : inV RL 64 yX7_mark cX7_mark 3 (some .int) 2 := ⟨⟨tb_at 1167 (by decide +kernel) rfl, yv_X7_mark.1, yv_X7_mark.2, yi_X7, yc_X7_mark⟩, yd_X7_mark⟩
theorem yc_X6_meet : Cond.code yX6_meet cX6_meet 4 (some .int) ∈ tb := tb_at 623 (by decide +kernel) rfl
theorem yd_X6_meet : ydn yX6_meet 1 := by decide +kernel
theorem yv_X6_meet : Cond.instanceMethod yX6_meet ∈ tb ∧ Cond.selects yX6_meet.cls yX6_meet yX6_meet ∈ tb := ⟨tb_at 621 (by decide +kernel) rfl, tb_at 622 (by decide +kernel) rfl⟩
theorem iv_L_65 : inV RL 65 yX6_meet cX6_meet 4 (some .int) 1 := ⟨⟨tb_at 620 (by decide +kernel) rfl, yv_X6_meet.1, yv_X6_meet.2, yi_X6, yc_X6_meet⟩, yd_X6_meet⟩
theorem yc_X7_meet : Cond.code yX7_meet cX7_meet 5 (some .int) ∈ tb := tb_at 1206 (by decide +kernel) rfl
theorem yd_X7_meet : ydn yX7_meet 1 := by decide +kernel
theorem yv_X7_meet : Cond.instanceMethod yX7_meet ∈ tb ∧ Cond.selects yX7_meet.cls yX7_meet yX7_meet ∈ tb := ⟨tb_at 1204 (by decide +kernel) rfl, tb_at 1205 (by decide +kernel) rfl⟩
theorem iv_L_68 : inV RL 68 yX7_meet cX7_meet 5 (some .int) 1 := ⟨⟨tb_at 1203 (by decide +kernel) rfl, yv_X7_meet.1, yv_X7_meet.2, yi_X7, yc_X7_meet⟩, yd_X7_meet⟩
theorem yc_X6_pledge : Cond.code yX6_pledge cX6_pledge 4 (some .int) ∈ tb := tb_at 652 (by decide +kernel) rfl
theorem yd_X6_pledge : ydn yX6_pledge 2 := by decide +kernel
theorem yv_X6_pledge : Cond.instanceMethod yX6_pledge ∈ tb ∧ Cond.selects yX6_pledge.cls yX6_pledge yX6_pledge ∈ tb := ⟨tb_at 650 (by decide +kernel) rfl, tb_at 651 (by decide +kernel) rfl⟩
theorem iv_L_69 : inV RL 69 yX6_pledge cX6_pledge 4 (some .int) 2 := ⟨⟨tb_at 649 (by decide +kernel) rfl, yv_X6_pledge.1, yv_X6_pledge.2, yi_X6, yc_X6_pledge⟩, yd_X6_pledge⟩
theorem yc_X7_pledge : Cond.code yX7_pledge cX7_pledge 4 (some .int) ∈ tb := tb_at 1226 (by decide +kernel) rfl
theorem yd_X7_pledge : ydn yX7_pledge 2 := by decide +kernel
theorem yv_X7_pledge : Cond.instanceMethod yX7_pledge ∈ tb ∧ Cond.selects yX7_pledge.cls yX7_pledge yX7_pledge ∈ tb := ⟨tb_at 1224 (by decide +kernel) rfl, tb_at 1225 (by decide +kernel) rfl⟩
theorem iv_L_72 : inV RL 72 yX7_pledge cX7_pledge 4 (some .int) 2 := ⟨⟨tb_at 1223 (by decide +kernel) rfl, yv_X7_pledge.1, yv_X7_pledge.2, yi_X7, yc_X7_pledge⟩, yd_X7_pledge⟩
theorem yc_X6_day : Cond.code yX6_day cX6_day 1 (some .int) ∈ tb := tb_at 659 (by decide +kernel) rfl
theorem yd_X6_day : ydn yX6_day 0 := by decide +kernel
theorem yv_X6_day : Cond.instanceMethod yX6_day ∈ tb ∧ Cond.selects yX6_day.cls yX6_day yX6_day ∈ tb := ⟨tb_at 657 (by decide +kernel) rfl, tb_at 658 (by decide +kernel) rfl⟩
theorem iv_L_73 : inV RL 73 yX6_day cX6_day 1 (some .int) 0 := ⟨⟨tb_at 656 (by decide +kernel) rfl, yv_X6_day.1, yv_X6_day.2, yi_X6, yc_X6_day⟩, yd_X6_day⟩
theorem yc_X7_day : Cond.code yX7_day cX7_day 1 (some .int) ∈ tb := tb_at 1230 (by decide +kernel) rfl
theorem yd_X7_day : ydn yX7_day 0 := by decide +kernel
theorem yv_X7_day : Cond.instanceMethod yX7_day ∈ tb ∧ Cond.selects yX7_day.cls yX7_day yX7_day ∈ tb := ⟨tb_at 1228 (by decide +kernel) rfl, tb_at 1229 (by decide +kernel) rfl⟩
theorem iv_L_77 : inV RL 77 yX7_day cX7_day 1 (some .int) 0 := ⟨⟨tb_at 1227 (by decide +kernel) rfl, yv_X7_day.1, yv_X7_day.2, yi_X7, yc_X7_day⟩, yd_X7_day⟩
theorem yc_X6_undo : Cond.code yX6_undo cX6_undo 3 (some .int) ∈ tb := tb_at 663 (by decide +kernel) rfl
theorem yd_X6_undo : ydn yX6_undo 1 := by decide +kernel
theorem yv_X6_undo : Cond.instanceMethod yX6_undo ∈ tb ∧ Cond.selects yX6_undo.cls yX6_undo yX6_undo ∈ tb := ⟨tb_at 661 (by decide +kernel) rfl, tb_at 662 (by decide +kernel) rfl⟩
theorem iv_L_78 : inV RL 78 yX6_undo cX6_undo 3 (some .int) 1 := ⟨⟨tb_at 660 (by decide +kernel) rfl, yv_X6_undo.1, yv_X6_undo.2, yi_X6, yc_X6_undo⟩, yd_X6_undo⟩
theorem yc_X7_undo : Cond.code yX7_undo cX7_undo 4 (some .int) ∈ tb := tb_at 1238 (by decide +kernel) rfl
theorem yd_X7_undo : ydn yX7_undo 1 := by decide +kernel
theorem yv_X7_undo : Cond.instanceMethod yX7_undo ∈ tb ∧ Cond.selects yX7_undo.cls yX7_undo yX7_undo ∈ tb := ⟨tb_at 1236 (by decide +kernel) rfl, tb_at 1237 (by decide +kernel) rfl⟩
theorem iv_L_81 : inV RL 81 yX7_undo cX7_undo 4 (some .int) 1 := ⟨⟨tb_at 1235 (by decide +kernel) rfl, yv_X7_undo.1, yv_X7_undo.2, yi_X7, yc_X7_undo⟩, yd_X7_undo⟩
theorem yc_X6_keep : Cond.code yX6_keep cX6_keep 2 (some .int) ∈ tb := tb_at 668 (by decide +kernel) rfl
theorem yd_X6_keep : ydn yX6_keep 1 := by decide +kernel
theorem yv_X6_keep : Cond.instanceMethod yX6_keep ∈ tb ∧ Cond.selects yX6_keep.cls yX6_keep yX6_keep ∈ tb := ⟨tb_at 666 (by decide +kernel) rfl, tb_at 667 (by decide +kernel) rfl⟩
theorem iv_L_82 : inV RL 82 yX6_keep cX6_keep 2 (some .int) 1 := ⟨⟨tb_at 665 (by decide +kernel) rfl, yv_X6_keep.1, yv_X6_keep.2, yi_X6, yc_X6_keep⟩, yd_X6_keep⟩
theorem yc_X7_keep : Cond.code yX7_keep cX7_keep 2 (some .int) ∈ tb := tb_at 1242 (by decide +kernel) rfl
theorem yd_X7_keep : ydn yX7_keep 1 := by decide +kernel
theorem yv_X7_keep : Cond.instanceMethod yX7_keep ∈ tb ∧ Cond.selects yX7_keep.cls yX7_keep yX7_keep ∈ tb := ⟨tb_at 1240 (by decide +kernel) rfl, tb_at 1241 (by decide +kernel) rfl⟩
theorem iv_L_85 : inV RL 85 yX7_keep cX7_keep 2 (some .int) 1 := ⟨⟨tb_at 1239 (by decide +kernel) rfl, yv_X7_keep.1, yv_X7_keep.2, yi_X7, yc_X7_keep⟩, yd_X7_keep⟩
theorem yc_X6_on : Cond.code yX6_on cX6_on 2 (some .int) ∈ tb := tb_at 677 (by decide +kernel) rfl
theorem yd_X6_on : ydn yX6_on 1 := by decide +kernel
theorem yv_X6_on : Cond.instanceMethod yX6_on ∈ tb ∧ Cond.selects yX6_on.cls yX6_on yX6_on ∈ tb := ⟨tb_at 675 (by decide +kernel) rfl, tb_at 676 (by decide +kernel) rfl⟩
theorem iv_L_86 : inV RL 86 yX6_on cX6_on 2 (some .int) 1 := ⟨⟨tb_at 674 (by decide +kernel) rfl, yv_X6_on.1, yv_X6_on.2, yi_X6, yc_X6_on⟩, yd_X6_on⟩
theorem yc_X7_on : Cond.code yX7_on cX7_on 2 (some .int) ∈ tb := tb_at 1251 (by decide +kernel) rfl
theorem yd_X7_on : ydn yX7_on 1 := by decide +kernel
theorem yv_X7_on : Cond.instanceMethod yX7_on ∈ tb ∧ Cond.selects yX7_on.cls yX7_on yX7_on ∈ tb := ⟨tb_at 1249 (by decide +kernel) rfl, tb_at 1250 (by decide +kernel) rfl⟩
theorem iv_L_89 : inV RL 89 yX7_on cX7_on 2 (some .int) 1 := ⟨⟨tb_at 1248 (by decide +kernel) rfl, yv_X7_on.1, yv_X7_on.2, yi_X7, yc_X7_on⟩, yd_X7_on⟩
theorem yc_X6_weight : Cond.code yX6_weight cX6_weight 2 (some .int) ∈ tb := tb_at 681 (by decide +kernel) rfl
theorem yd_X6_weight : ydn yX6_weight 1 := by decide +kernel
theorem yv_X6_weight : Cond.instanceMethod yX6_weight ∈ tb ∧ Cond.selects yX6_weight.cls yX6_weight yX6_weight ∈ tb := ⟨tb_at 679 (by decide +kernel) rfl, tb_at 680 (by decide +kernel) rfl⟩
theorem iv_L_90 : inV RL 90 yX6_weight cX6_weight 2 (some .int) 1 := ⟨⟨tb_at 678 (by decide +kernel) rfl, yv_X6_weight.1, yv_X6_weight.2, yi_X6, yc_X6_weight⟩, yd_X6_weight⟩
theorem yc_X7_weight : Cond.code yX7_weight cX7_weight 2 (some .int) ∈ tb := tb_at 1255 (by decide +kernel) rfl
theorem yd_X7_weight : ydn yX7_weight 1 := by decide +kernel
theorem yv_X7_weight : Cond.instanceMethod yX7_weight ∈ tb ∧ Cond.selects yX7_weight.cls yX7_weight yX7_weight ∈ tb := ⟨tb_at 1253 (by decide +kernel) rfl, tb_at 1254 (by decide +kernel) rfl⟩
theorem iv_L_93 : inV RL 93 yX7_weight cX7_weight 2 (some .int) 1 := ⟨⟨tb_at 1252 (by decide +kernel) rfl, yv_X7_weight.1, yv_X7_weight.2, yi_X7, yc_X7_weight⟩, yd_X7_weight⟩
theorem yc_X6_opens : Cond.code yX6_opens cX6_opens 1 (some .int) ∈ tb := tb_at 690 (by decide +kernel) rfl
theorem yd_X6_opens : ydn yX6_opens 0 := by decide +kernel
theorem yv_X6_opens : Cond.instanceMethod yX6_opens ∈ tb ∧ Cond.selects yX6_opens.cls yX6_opens yX6_opens ∈ tb := ⟨tb_at 688 (by decide +kernel) rfl, tb_at 689 (by decide +kernel) rfl⟩
theorem iv_L_94 : inV RL 94 yX6_opens cX6_opens 1 (some .int) 0 := ⟨⟨tb_at 687 (by decide +kernel) rfl, yv_X6_opens.1, yv_X6_opens.2, yi_X6, yc_X6_opens⟩, yd_X6_opens⟩
theorem yc_X7_opens : Cond.code yX7_opens cX7_opens 4 (some .int) ∈ tb := tb_at 1263 (by decide +kernel) rfl
theorem yd_X7_opens : ydn yX7_opens 0 := by decide +kernel
theorem yv_X7_opens : Cond.instanceMethod yX7_opens ∈ tb ∧ Cond.selects yX7_opens.cls yX7_opens yX7_opens ∈ tb := ⟨tb_at 1261 (by decide +kernel) rfl, tb_at 1262 (by decide +kernel) rfl⟩
theorem iv_L_97 : inV RL 97 yX7_opens cX7_opens 4 (some .int) 0 := ⟨⟨tb_at 1260 (by decide +kernel) rfl, yv_X7_opens.1, yv_X7_opens.2, yi_X7, yc_X7_opens⟩, yd_X7_opens⟩
theorem yc_X6_must : Cond.code yX6_must cX6_must 1 (some .int) ∈ tb := tb_at 722 (by decide +kernel) rfl
theorem yd_X6_must : ydn yX6_must 0 := by decide +kernel
theorem yv_X6_must : Cond.instanceMethod yX6_must ∈ tb ∧ Cond.selects yX6_must.cls yX6_must yX6_must ∈ tb := ⟨tb_at 720 (by decide +kernel) rfl, tb_at 721 (by decide +kernel) rfl⟩
theorem iv_L_98 : inV RL 98 yX6_must cX6_must 1 (some .int) 0 := ⟨⟨tb_at 719 (by decide +kernel) rfl, yv_X6_must.1, yv_X6_must.2, yi_X6, yc_X6_must⟩, yd_X6_must⟩
theorem yc_X7_must : Cond.code yX7_must cX7_must 5 (some .int) ∈ tb := tb_at 1274 (by decide +kernel) rfl
theorem yd_X7_must : ydn yX7_must 0 := by decide +kernel
theorem yv_X7_must : Cond.instanceMethod yX7_must ∈ tb ∧ Cond.selects yX7_must.cls yX7_must yX7_must ∈ tb := ⟨tb_at 1272 (by decide +kernel) rfl, tb_at 1273 (by decide +kernel) rfl⟩
theorem iv_L_101 : inV RL 101 yX7_must cX7_must 5 (some .int) 0 := ⟨⟨tb_at 1271 (by decide +kernel) rfl, yv_X7_must.1, yv_X7_must.2, yi_X7, yc_X7_must⟩, yd_X7_must⟩
theorem yc_X6_holds : Cond.code yX6_holds cX6_holds 2 (some .int) ∈ tb := tb_at 734 (by decide +kernel) rfl
theorem yd_X6_holds : ydn yX6_holds 1 := by decide +kernel
theorem yv_X6_holds : Cond.instanceMethod yX6_holds ∈ tb ∧ Cond.selects yX6_holds.cls yX6_holds yX6_holds ∈ tb := ⟨tb_at 732 (by decide +kernel) rfl, tb_at 733 (by decide +kernel) rfl⟩
theorem iv_L_102 : inV RL 102 yX6_holds cX6_holds 2 (some .int) 1 := ⟨⟨tb_at 731 (by decide +kernel) rfl, yv_X6_holds.1, yv_X6_holds.2, yi_X6, yc_X6_holds⟩, yd_X6_holds⟩
theorem yc_X7_holds : Cond.code yX7_holds cX7_holds 4 (some .int) ∈ tb := tb_at 1278 (by decide +kernel) rfl
theorem yd_X7_holds : ydn yX7_holds 1 := by decide +kernel
theorem yv_X7_holds : Cond.instanceMethod yX7_holds ∈ tb ∧ Cond.selects yX7_holds.cls yX7_holds yX7_holds ∈ tb := ⟨tb_at 1276 (by decide +kernel) rfl, tb_at 1277 (by decide +kernel) rfl⟩
theorem iv_L_105 : inV RL 105 yX7_holds cX7_holds 4 (some .int) 1 := ⟨⟨tb_at 1275 (by decide +kernel) rfl, yv_X7_holds.1, yv_X7_holds.2, yi_X7, yc_X7_holds⟩, yd_X7_holds⟩
theorem yc_X6_part : Cond.code yX6_part cX6_part 2 (some .int) ∈ tb := tb_at 743 (by decide +kernel) rfl
theorem yd_X6_part : ydn yX6_part 1 := by decide +kernel
theorem yv_X6_part : Cond.instanceMethod yX6_part ∈ tb ∧ Cond.selects yX6_part.cls yX6_part yX6_part ∈ tb := ⟨tb_at 741 (by decide +kernel) rfl, tb_at 742 (by decide +kernel) rfl⟩
theorem iv_L_106 : inV RL 106 yX6_part cX6_part 2 (some .int) 1 := ⟨⟨tb_at 740 (by decide +kernel) rfl, yv_X6_part.1, yv_X6_part.2, yi_X6, yc_X6_part⟩, yd_X6_part⟩
theorem yc_X7_part : Cond.code yX7_part cX7_part 6 (some .int) ∈ tb := tb_at 1282 (by decide +kernel) rfl
theorem yd_X7_part : ydn yX7_part 1 := by decide +kernel
theorem yv_X7_part : Cond.instanceMethod yX7_part ∈ tb ∧ Cond.selects yX7_part.cls yX7_part yX7_part ∈ tb := ⟨tb_at 1280 (by decide +kernel) rfl, tb_at 1281 (by decide +kernel) rfl⟩
theorem iv_L_109 : inV RL 109 yX7_part cX7_part 6 (some .int) 1 := ⟨⟨tb_at 1279 (by decide +kernel) rfl, yv_X7_part.1, yv_X7_part.2, yi_X7, yc_X7_part⟩, yd_X7_part⟩
theorem yc_X6_drink : Cond.code yX6_drink cX6_drink 4 (some .int) ∈ tb := tb_at 756 (by decide +kernel) rfl
theorem yd_X6_drink : ydn yX6_drink 1 := by decide +kernel
theorem yv_X6_drink : Cond.instanceMethod yX6_drink ∈ tb ∧ Cond.selects yX6_drink.cls yX6_drink yX6_drink ∈ tb := ⟨tb_at 754 (by decide +kernel) rfl, tb_at 755 (by decide +kernel) rfl⟩
theorem iv_L_110 : inV RL 110 yX6_drink cX6_drink 4 (some .int) 1 := ⟨⟨tb_at 753 (by decide +kernel) rfl, yv_X6_drink.1, yv_X6_drink.2, yi_X6, yc_X6_drink⟩, yd_X6_drink⟩
theorem yc_X7_drink : Cond.code yX7_drink cX7_drink 6 (some .int) ∈ tb := tb_at 1293 (by decide +kernel) rfl
theorem yd_X7_drink : ydn yX7_drink 1 := by decide +kernel
theorem yv_X7_drink : Cond.instanceMethod yX7_drink ∈ tb ∧ Cond.selects yX7_drink.cls yX7_drink yX7_drink ∈ tb := ⟨tb_at 1291 (by decide +kernel) rfl, tb_at 1292 (by decide +kernel) rfl⟩
theorem iv_L_113 : inV RL 113 yX7_drink cX7_drink 6 (some .int) 1 := ⟨⟨tb_at 1290 (by decide +kernel) rfl, yv_X7_drink.1, yv_X7_drink.2, yi_X7, yc_X7_drink⟩, yd_X7_drink⟩
theorem yc_X6_best : Cond.code yX6_best cX6_best 3 (some .int) ∈ tb := tb_at 782 (by decide +kernel) rfl
theorem yd_X6_best : ydn yX6_best 2 := by decide +kernel
theorem yv_X6_best : Cond.instanceMethod yX6_best ∈ tb ∧ Cond.selects yX6_best.cls yX6_best yX6_best ∈ tb := ⟨tb_at 780 (by decide +kernel) rfl, tb_at 781 (by decide +kernel) rfl⟩
theorem iv_L_114 : inV RL 114 yX6_best cX6_best 3 (some .int) 2 := ⟨⟨tb_at 779 (by decide +kernel) rfl, yv_X6_best.1, yv_X6_best.2, yi_X6, yc_X6_best⟩, yd_X6_best⟩
theorem yc_X7_best : Cond.code yX7_best cX7_best 8 (some .int) ∈ tb := tb_at 1309 (by decide +kernel) rfl
theorem yd_X7_best : ydn yX7_best 2 := by decide +kernel
theorem yv_X7_best : Cond.instanceMethod yX7_best ∈ tb ∧ Cond.selects yX7_best.cls yX7_best yX7_best ∈ tb := ⟨tb_at 1307 (by decide +kernel) rfl, tb_at 1308 (by decide +kernel) rfl⟩
theorem iv_L_117 : inV RL 117 yX7_best cX7_best 8 (some .int) 2 := ⟨⟨tb_at 1306 (by decide +kernel) rfl, yv_X7_best.1, yv_X7_best.2, yi_X7, yc_X7_best⟩, yd_X7_best⟩
theorem yc_X6_ration : Cond.code yX6_ration cX6_ration 2 (some .int) ∈ tb := tb_at 802 (by decide +kernel) rfl
theorem yd_X6_ration : ydn yX6_ration 0 := by decide +kernel
theorem yv_X6_ration : Cond.instanceMethod yX6_ration ∈ tb ∧ Cond.selects yX6_ration.cls yX6_ration yX6_ration ∈ tb := ⟨tb_at 800 (by decide +kernel) rfl, tb_at 801 (by decide +kernel) rfl⟩
theorem iv_L_118 : inV RL 118 yX6_ration cX6_ration 2 (some .int) 0 := ⟨⟨tb_at 799 (by decide +kernel) rfl, yv_X6_ration.1, yv_X6_ration.2, yi_X6, yc_X6_ration⟩, yd_X6_ration⟩
theorem yc_X7_ration : Cond.code yX7_ration cX7_ration 3 (some .int) ∈ tb := tb_at 1321 (by decide +kernel) rfl
theorem yd_X7_ration : ydn yX7_ration 0 := by decide +kernel
theorem yv_X7_ration : Cond.instanceMethod yX7_ration ∈ tb ∧ Cond.selects yX7_ration.cls yX7_ration yX7_ration ∈ tb := ⟨tb_at 1319 (by decide +kernel) rfl, tb_at 1320 (by decide +kernel) rfl⟩
theorem iv_L_121 : inV RL 121 yX7_ration cX7_ration 3 (some .int) 0 := ⟨⟨tb_at 1318 (by decide +kernel) rfl, yv_X7_ration.1, yv_X7_ration.2, yi_X7, yc_X7_ration⟩, yd_X7_ration⟩
theorem yc_X6_frogs : Cond.code yX6_frogs cX6_frogs 3 (some .int) ∈ tb := tb_at 810 (by decide +kernel) rfl
theorem yd_X6_frogs : ydn yX6_frogs 1 := by decide +kernel
theorem yv_X6_frogs : Cond.instanceMethod yX6_frogs ∈ tb ∧ Cond.selects yX6_frogs.cls yX6_frogs yX6_frogs ∈ tb := ⟨tb_at 808 (by decide +kernel) rfl, tb_at 809 (by decide +kernel) rfl⟩
theorem iv_L_122 : inV RL 122 yX6_frogs cX6_frogs 3 (some .int) 1 := ⟨⟨tb_at 807 (by decide +kernel) rfl, yv_X6_frogs.1, yv_X6_frogs.2, yi_X6, yc_X6_frogs⟩, yd_X6_frogs⟩
theorem yc_X7_frogs : Cond.code yX7_frogs cX7_frogs 6 (some .int) ∈ tb := tb_at 1329 (by decide +kernel) rfl
theorem yd_X7_frogs : ydn yX7_frogs 1 := by decide +kernel
theorem yv_X7_frogs : Cond.instanceMethod yX7_frogs ∈ tb ∧ Cond.selects yX7_frogs.cls yX7_frogs yX7_frogs ∈ tb := ⟨tb_at 1327 (by decide +kernel) rfl, tb_at 1328 (by decide +kernel) rfl⟩
theorem iv_L_125 : inV RL 125 yX7_frogs cX7_frogs 6 (some .int) 1 := ⟨⟨tb_at 1326 (by decide +kernel) rfl, yv_X7_frogs.1, yv_X7_frogs.2, yi_X7, yc_X7_frogs⟩, yd_X7_frogs⟩
theorem yc_X6_twice : Cond.code yX6_twice cX6_twice 5 (some .int) ∈ tb := tb_at 822 (by decide +kernel) rfl
theorem yd_X6_twice : ydn yX6_twice 1 := by decide +kernel
theorem yv_X6_twice : Cond.instanceMethod yX6_twice ∈ tb ∧ Cond.selects yX6_twice.cls yX6_twice yX6_twice ∈ tb := ⟨tb_at 820 (by decide +kernel) rfl, tb_at 821 (by decide +kernel) rfl⟩
theorem iv_L_126 : inV RL 126 yX6_twice cX6_twice 5 (some .int) 1 := ⟨⟨tb_at 819 (by decide +kernel) rfl, yv_X6_twice.1, yv_X6_twice.2, yi_X6, yc_X6_twice⟩, yd_X6_twice⟩
theorem yc_X7_twice : Cond.code yX7_twice cX7_twice 8 (some .int) ∈ tb := tb_at 1338 (by decide +kernel) rfl
theorem yd_X7_twice : ydn yX7_twice 1 := by decide +kernel
theorem yv_X7_twice : Cond.instanceMethod yX7_twice ∈ tb ∧ Cond.selects yX7_twice.cls yX7_twice yX7_twice ∈ tb := ⟨tb_at 1336 (by decide +kernel) rfl, tb_at 1337 (by decide +kernel) rfl⟩
theorem iv_L_129 : inV RL 129 yX7_twice cX7_twice 8 (some .int) 1 := ⟨⟨tb_at 1335 (by decide +kernel) rfl, yv_X7_twice.1, yv_X7_twice.2, yi_X7, yc_X7_twice⟩, yd_X7_twice⟩
theorem yc_X6_quorum : Cond.code yX6_quorum cX6_quorum 5 (some .int) ∈ tb := tb_at 835 (by decide +kernel) rfl
theorem yd_X6_quorum : ydn yX6_quorum 1 := by decide +kernel
theorem yv_X6_quorum : Cond.instanceMethod yX6_quorum ∈ tb ∧ Cond.selects yX6_quorum.cls yX6_quorum yX6_quorum ∈ tb := ⟨tb_at 833 (by decide +kernel) rfl, tb_at 834 (by decide +kernel) rfl⟩
theorem iv_L_130 : inV RL 130 yX6_quorum cX6_quorum 5 (some .int) 1 := ⟨⟨tb_at 832 (by decide +kernel) rfl, yv_X6_quorum.1, yv_X6_quorum.2, yi_X6, yc_X6_quorum⟩, yd_X6_quorum⟩
theorem yc_X7_quorum : Cond.code yX7_quorum cX7_quorum 8 (some .int) ∈ tb := tb_at 1346 (by decide +kernel) rfl
theorem yd_X7_quorum : ydn yX7_quorum 1 := by decide +kernel
theorem yv_X7_quorum : Cond.instanceMethod yX7_quorum ∈ tb ∧ Cond.selects yX7_quorum.cls yX7_quorum yX7_quorum ∈ tb := ⟨tb_at 1344 (by decide +kernel) rfl, tb_at 1345 (by decide +kernel) rfl⟩
theorem iv_L_133 : inV RL 133 yX7_quorum cX7_quorum 8 (some .int) 1 := ⟨⟨tb_at 1343 (by decide +kernel) rfl, yv_X7_quorum.1, yv_X7_quorum.2, yi_X7, yc_X7_quorum⟩, yd_X7_quorum⟩
theorem yc_X6_call : Cond.code yX6_call cX6_call 1 (some .int) ∈ tb := tb_at 843 (by decide +kernel) rfl
theorem yd_X6_call : ydn yX6_call 0 := by decide +kernel
theorem yv_X6_call : Cond.instanceMethod yX6_call ∈ tb ∧ Cond.selects yX6_call.cls yX6_call yX6_call ∈ tb := ⟨tb_at 841 (by decide +kernel) rfl, tb_at 842 (by decide +kernel) rfl⟩
theorem iv_L_134 : inV RL 134 yX6_call cX6_call 1 (some .int) 0 := ⟨⟨tb_at 840 (by decide +kernel) rfl, yv_X6_call.1, yv_X6_call.2, yi_X6, yc_X6_call⟩, yd_X6_call⟩
theorem yc_X7_call : Cond.code yX7_call cX7_call 1 (some .int) ∈ tb := tb_at 1350 (by decide +kernel) rfl
theorem yd_X7_call : ydn yX7_call 0 := by decide +kernel
theorem yv_X7_call : Cond.instanceMethod yX7_call ∈ tb ∧ Cond.selects yX7_call.cls yX7_call yX7_call ∈ tb := ⟨tb_at 1348 (by decide +kernel) rfl, tb_at 1349 (by decide +kernel) rfl⟩
theorem iv_L_137 : inV RL 137 yX7_call cX7_call 1 (some .int) 0 := ⟨⟨tb_at 1347 (by decide +kernel) rfl, yv_X7_call.1, yv_X7_call.2, yi_X7, yc_X7_call⟩, yd_X7_call⟩
theorem yc_X6_first : Cond.code yX6_first cX6_first 1 (some .int) ∈ tb := tb_at 856 (by decide +kernel) rfl
theorem yd_X6_first : ydn yX6_first 0 := by decide +kernel
theorem yv_X6_first : Cond.instanceMethod yX6_first ∈ tb ∧ Cond.selects yX6_first.cls yX6_first yX6_first ∈ tb := ⟨tb_at 854 (by decide +kernel) rfl, tb_at 855 (by decide +kernel) rfl⟩
theorem iv_L_138 : inV RL 138 yX6_first cX6_first 1 (some .int) 0 := ⟨⟨tb_at 853 (by decide +kernel) rfl, yv_X6_first.1, yv_X6_first.2, yi_X6, yc_X6_first⟩, yd_X6_first⟩
theorem yc_X7_first : Cond.code yX7_first cX7_first 2 (some .int) ∈ tb := tb_at 1361 (by decide +kernel) rfl
theorem yd_X7_first : ydn yX7_first 0 := by decide +kernel
theorem yv_X7_first : Cond.instanceMethod yX7_first ∈ tb ∧ Cond.selects yX7_first.cls yX7_first yX7_first ∈ tb := ⟨tb_at 1359 (by decide +kernel) rfl, tb_at 1360 (by decide +kernel) rfl⟩
theorem iv_L_141 : inV RL 141 yX7_first cX7_first 2 (some .int) 0 := ⟨⟨tb_at 1358 (by decide +kernel) rfl, yv_X7_first.1, yv_X7_first.2, yi_X7, yc_X7_first⟩, yd_X7_first⟩
theorem yc_X6_odds : Cond.code yX6_odds cX6_odds 3 (some .int) ∈ tb := tb_at 860 (by decide +kernel) rfl
theorem yd_X6_odds : ydn yX6_odds 1 := by decide +kernel
theorem yv_X6_odds : Cond.instanceMethod yX6_odds ∈ tb ∧ Cond.selects yX6_odds.cls yX6_odds yX6_odds ∈ tb := ⟨tb_at 858 (by decide +kernel) rfl, tb_at 859 (by decide +kernel) rfl⟩
theorem iv_L_142 : inV RL 142 yX6_odds cX6_odds 3 (some .int) 1 := ⟨⟨tb_at 857 (by decide +kernel) rfl, yv_X6_odds.1, yv_X6_odds.2, yi_X6, yc_X6_odds⟩, yd_X6_odds⟩
theorem yc_X7_odds : Cond.code yX7_odds cX7_odds 2 (some .int) ∈ tb := tb_at 1365 (by decide +kernel) rfl
theorem yd_X7_odds : ydn yX7_odds 1 := by decide +kernel
theorem yv_X7_odds : Cond.instanceMethod yX7_odds ∈ tb ∧ Cond.selects yX7_odds.cls yX7_odds yX7_odds ∈ tb := ⟨tb_at 1363 (by decide +kernel) rfl, tb_at 1364 (by decide +kernel) rfl⟩
theorem iv_L_145 : inV RL 145 yX7_odds cX7_odds 2 (some .int) 1 := ⟨⟨tb_at 1362 (by decide +kernel) rfl, yv_X7_odds.1, yv_X7_odds.2, yi_X7, yc_X7_odds⟩, yd_X7_odds⟩
theorem yc_X6_mid : Cond.code yX6_mid cX6_mid 3 (some .int) ∈ tb := tb_at 880 (by decide +kernel) rfl
theorem yd_X6_mid : ydn yX6_mid 1 := by decide +kernel
theorem yv_X6_mid : Cond.instanceMethod yX6_mid ∈ tb ∧ Cond.selects yX6_mid.cls yX6_mid yX6_mid ∈ tb := ⟨tb_at 878 (by decide +kernel) rfl, tb_at 879 (by decide +kernel) rfl⟩
theorem iv_L_146 : inV RL 146 yX6_mid cX6_mid 3 (some .int) 1 := ⟨⟨tb_at 877 (by decide +kernel) rfl, yv_X6_mid.1, yv_X6_mid.2, yi_X6, yc_X6_mid⟩, yd_X6_mid⟩
theorem yc_X7_mid : Cond.code yX7_mid cX7_mid 2 (some .int) ∈ tb := tb_at 1374 (by decide +kernel) rfl
theorem yd_X7_mid : ydn yX7_mid 1 := by decide +kernel
theorem yv_X7_mid : Cond.instanceMethod yX7_mid ∈ tb ∧ Cond.selects yX7_mid.cls yX7_mid yX7_mid ∈ tb := ⟨tb_at 1372 (by decide +kernel) rfl, tb_at 1373 (by decide +kernel) rfl⟩
theorem iv_L_149 : inV RL 149 yX7_mid cX7_mid 2 (some .int) 1 := ⟨⟨tb_at 1371 (by decide +kernel) rfl, yv_X7_mid.1, yv_X7_mid.2, yi_X7, yc_X7_mid⟩, yd_X7_mid⟩
theorem yc_X6_lots : Cond.code yX6_lots cX6_lots 8 (some .int) ∈ tb := tb_at 888 (by decide +kernel) rfl
theorem yd_X6_lots : ydn yX6_lots 2 := by decide +kernel
theorem yv_X6_lots : Cond.instanceMethod yX6_lots ∈ tb ∧ Cond.selects yX6_lots.cls yX6_lots yX6_lots ∈ tb := ⟨tb_at 886 (by decide +kernel) rfl, tb_at 887 (by decide +kernel) rfl⟩
theorem iv_L_150 : inV RL 150 yX6_lots cX6_lots 8 (some .int) 2 := ⟨⟨tb_at 885 (by decide +kernel) rfl, yv_X6_lots.1, yv_X6_lots.2, yi_X6, yc_X6_lots⟩, yd_X6_lots⟩
theorem yc_X7_lots : Cond.code yX7_lots cX7_lots 7 (some .int) ∈ tb := tb_at 1378 (by decide +kernel) rfl
theorem yd_X7_lots : ydn yX7_lots 2 := by decide +kernel
theorem yv_X7_lots : Cond.instanceMethod yX7_lots ∈ tb ∧ Cond.selects yX7_lots.cls yX7_lots yX7_lots ∈ tb := ⟨tb_at 1376 (by decide +kernel) rfl, tb_at 1377 (by decide +kernel) rfl⟩
theorem iv_L_153 : inV RL 153 yX7_lots cX7_lots 7 (some .int) 2 := ⟨⟨tb_at 1375 (by decide +kernel) rfl, yv_X7_lots.1, yv_X7_lots.2, yi_X7, yc_X7_lots⟩, yd_X7_lots⟩
theorem yc_X6_asked : Cond.code yX6_asked cX6_asked 1 (some .int) ∈ tb := tb_at 899 (by decide +kernel) rfl
theorem yd_X6_asked : ydn yX6_asked 0 := by decide +kernel
theorem yv_X6_asked : Cond.instanceMethod yX6_asked ∈ tb ∧ Cond.selects yX6_asked.cls yX6_asked yX6_asked ∈ tb := ⟨tb_at 897 (by decide +kernel) rfl, tb_at 898 (by decide +kernel) rfl⟩
theorem iv_L_154 : inV RL 154 yX6_asked cX6_asked 1 (some .int) 0 := ⟨⟨tb_at 896 (by decide +kernel) rfl, yv_X6_asked.1, yv_X6_asked.2, yi_X6, yc_X6_asked⟩, yd_X6_asked⟩
theorem yc_X7_asked : Cond.code yX7_asked cX7_asked 1 (some .int) ∈ tb := tb_at 1391 (by decide +kernel) rfl
theorem yd_X7_asked : ydn yX7_asked 0 := by decide +kernel
theorem yv_X7_asked : Cond.instanceMethod yX7_asked ∈ tb ∧ Cond.selects yX7_asked.cls yX7_asked yX7_asked ∈ tb := ⟨tb_at 1389 (by decide +kernel) rfl, tb_at 1390 (by decide +kernel) rfl⟩
theorem iv_L_157 : inV RL 157 yX7_asked cX7_asked 1 (some .int) 0 := ⟨⟨tb_at 1388 (by decide +kernel) rfl, yv_X7_asked.1, yv_X7_asked.2, yi_X7, yc_X7_asked⟩, yd_X7_asked⟩
theorem yc_X6_upper : Cond.code yX6_upper cX6_upper 1 (some .long) ∈ tb := tb_at 903 (by decide +kernel) rfl
theorem yd_X6_upper : ydn yX6_upper 0 := by decide +kernel
theorem yv_X6_upper : Cond.instanceMethod yX6_upper ∈ tb ∧ Cond.selects yX6_upper.cls yX6_upper yX6_upper ∈ tb := ⟨tb_at 901 (by decide +kernel) rfl, tb_at 902 (by decide +kernel) rfl⟩
theorem iv_L_158 : inV RL 158 yX6_upper cX6_upper 1 (some .long) 0 := ⟨⟨tb_at 900 (by decide +kernel) rfl, yv_X6_upper.1, yv_X6_upper.2, yi_X6, yc_X6_upper⟩, yd_X6_upper⟩
theorem yc_X7_upper : Cond.code yX7_upper cX7_upper 1 (some .long) ∈ tb := tb_at 1395 (by decide +kernel) rfl
theorem yd_X7_upper : ydn yX7_upper 0 := by decide +kernel
theorem yv_X7_upper : Cond.instanceMethod yX7_upper ∈ tb ∧ Cond.selects yX7_upper.cls yX7_upper yX7_upper ∈ tb := ⟨tb_at 1393 (by decide +kernel) rfl, tb_at 1394 (by decide +kernel) rfl⟩
theorem iv_L_162 : inV RL 162 yX7_upper cX7_upper 1 (some .long) 0 := ⟨⟨tb_at 1392 (by decide +kernel) rfl, yv_X7_upper.1, yv_X7_upper.2, yi_X7, yc_X7_upper⟩, yd_X7_upper⟩
theorem yc_X6_lower : Cond.code yX6_lower cX6_lower 1 (some .long) ∈ tb := tb_at 907 (by decide +kernel) rfl
theorem yd_X6_lower : ydn yX6_lower 0 := by decide +kernel
theorem yv_X6_lower : Cond.instanceMethod yX6_lower ∈ tb ∧ Cond.selects yX6_lower.cls yX6_lower yX6_lower ∈ tb := ⟨tb_at 905 (by decide +kernel) rfl, tb_at 906 (by decide +kernel) rfl⟩
theorem iv_L_163 : inV RL 163 yX6_lower cX6_lower 1 (some .long) 0 := ⟨⟨tb_at 904 (by decide +kernel) rfl, yv_X6_lower.1, yv_X6_lower.2, yi_X6, yc_X6_lower⟩, yd_X6_lower⟩
theorem yc_X7_lower : Cond.code yX7_lower cX7_lower 1 (some .long) ∈ tb := tb_at 1399 (by decide +kernel) rfl
theorem yd_X7_lower : ydn yX7_lower 0 := by decide +kernel
theorem yv_X7_lower : Cond.instanceMethod yX7_lower ∈ tb ∧ Cond.selects yX7_lower.cls yX7_lower yX7_lower ∈ tb := ⟨tb_at 1397 (by decide +kernel) rfl, tb_at 1398 (by decide +kernel) rfl⟩
theorem iv_L_166 : inV RL 166 yX7_lower cX7_lower 1 (some .long) 0 := ⟨⟨tb_at 1396 (by decide +kernel) rfl, yv_X7_lower.1, yv_X7_lower.2, yi_X7, yc_X7_lower⟩, yd_X7_lower⟩
theorem yc_X6_count : Cond.code yX6_count cX6_count 2 (some .int) ∈ tb := tb_at 911 (by decide +kernel) rfl
theorem yd_X6_count : ydn yX6_count 1 := by decide +kernel
theorem yv_X6_count : Cond.instanceMethod yX6_count ∈ tb ∧ Cond.selects yX6_count.cls yX6_count yX6_count ∈ tb := ⟨tb_at 909 (by decide +kernel) rfl, tb_at 910 (by decide +kernel) rfl⟩
theorem iv_L_167 : inV RL 167 yX6_count cX6_count 2 (some .int) 1 := ⟨⟨tb_at 908 (by decide +kernel) rfl, yv_X6_count.1, yv_X6_count.2, yi_X6, yc_X6_count⟩, yd_X6_count⟩
theorem yc_X7_count : Cond.code yX7_count cX7_count 2 (some .int) ∈ tb := tb_at 1403 (by decide +kernel) rfl
theorem yd_X7_count : ydn yX7_count 1 := by decide +kernel
theorem yv_X7_count : Cond.instanceMethod yX7_count ∈ tb ∧ Cond.selects yX7_count.cls yX7_count yX7_count ∈ tb := ⟨tb_at 1401 (by decide +kernel) rfl, tb_at 1402 (by decide +kernel) rfl⟩
theorem iv_L_170 : inV RL 170 yX7_count cX7_count 2 (some .int) 1 := ⟨⟨tb_at 1400 (by decide +kernel) rfl, yv_X7_count.1, yv_X7_count.2, yi_X7, yc_X7_count⟩, yd_X7_count⟩
theorem yc_X6_finding : Cond.code yX6_finding cX6_finding 1 (some .int) ∈ tb := tb_at 932 (by decide +kernel) rfl
theorem yd_X6_finding : ydn yX6_finding 0 := by decide +kernel
theorem yv_X6_finding : Cond.instanceMethod yX6_finding ∈ tb ∧ Cond.selects yX6_finding.cls yX6_finding yX6_finding ∈ tb := ⟨tb_at 930 (by decide +kernel) rfl, tb_at 931 (by decide +kernel) rfl⟩
theorem iv_L_171 : inV RL 171 yX6_finding cX6_finding 1 (some .int) 0 := ⟨⟨tb_at 929 (by decide +kernel) rfl, yv_X6_finding.1, yv_X6_finding.2, yi_X6, yc_X6_finding⟩, yd_X6_finding⟩
theorem yc_X7_finding : Cond.code yX7_finding cX7_finding 1 (some .int) ∈ tb := tb_at 1420 (by decide +kernel) rfl
theorem yd_X7_finding : ydn yX7_finding 0 := by decide +kernel
theorem yv_X7_finding : Cond.instanceMethod yX7_finding ∈ tb ∧ Cond.selects yX7_finding.cls yX7_finding yX7_finding ∈ tb := ⟨tb_at 1418 (by decide +kernel) rfl, tb_at 1419 (by decide +kernel) rfl⟩
theorem iv_L_174 : inV RL 174 yX7_finding cX7_finding 1 (some .int) 0 := ⟨⟨tb_at 1417 (by decide +kernel) rfl, yv_X7_finding.1, yv_X7_finding.2, yi_X7, yc_X7_finding⟩, yd_X7_finding⟩
theorem yc_X6_findings : Cond.code yX6_findings cX6_findings 2 (some .int) ∈ tb := tb_at 936 (by decide +kernel) rfl
theorem yd_X6_findings : ydn yX6_findings 1 := by decide +kernel
theorem yv_X6_findings : Cond.instanceMethod yX6_findings ∈ tb ∧ Cond.selects yX6_findings.cls yX6_findings yX6_findings ∈ tb := ⟨tb_at 934 (by decide +kernel) rfl, tb_at 935 (by decide +kernel) rfl⟩
theorem iv_L_175 : inV RL 175 yX6_findings cX6_findings 2 (some .int) 1 := ⟨⟨tb_at 933 (by decide +kernel) rfl, yv_X6_findings.1, yv_X6_findings.2, yi_X6, yc_X6_findings⟩, yd_X6_findings⟩
theorem yc_X7_findings : Cond.code yX7_findings cX7_findings 2 (some .int) ∈ tb := tb_at 1424 (by decide +kernel) rfl
theorem yd_X7_findings : ydn yX7_findings 1 := by decide +kernel
theorem yv_X7_findings : Cond.instanceMethod yX7_findings ∈ tb ∧ Cond.selects yX7_findings.cls yX7_findings yX7_findings ∈ tb := ⟨tb_at 1422 (by decide +kernel) rfl, tb_at 1423 (by decide +kernel) rfl⟩
theorem iv_L_178 : inV RL 178 yX7_findings cX7_findings 2 (some .int) 1 := ⟨⟨tb_at 1421 (by decide +kernel) rfl, yv_X7_findings.1, yv_X7_findings.2, yi_X7, yc_X7_findings⟩, yd_X7_findings⟩
theorem yc_X6_digest : Cond.code yX6_digest cX6_digest 5 (some .long) ∈ tb := tb_at 940 (by decide +kernel) rfl
theorem yd_X6_digest : ydn yX6_digest 0 := by decide +kernel
theorem yv_X6_digest : Cond.instanceMethod yX6_digest ∈ tb ∧ Cond.selects yX6_digest.cls yX6_digest yX6_digest ∈ tb := ⟨tb_at 938 (by decide +kernel) rfl, tb_at 939 (by decide +kernel) rfl⟩
theorem iv_L_179 : inV RL 179 yX6_digest cX6_digest 5 (some .long) 0 := ⟨⟨tb_at 937 (by decide +kernel) rfl, yv_X6_digest.1, yv_X6_digest.2, yi_X6, yc_X6_digest⟩, yd_X6_digest⟩
theorem yc_X7_digest : Cond.code yX7_digest cX7_digest 5 (some .long) ∈ tb := tb_at 1428 (by decide +kernel) rfl
theorem yd_X7_digest : ydn yX7_digest 0 := by decide +kernel
theorem yv_X7_digest : Cond.instanceMethod yX7_digest ∈ tb ∧ Cond.selects yX7_digest.cls yX7_digest yX7_digest ∈ tb := ⟨tb_at 1426 (by decide +kernel) rfl, tb_at 1427 (by decide +kernel) rfl⟩
theorem iv_L_182 : inV RL 182 yX7_digest cX7_digest 5 (some .long) 0 := ⟨⟨tb_at 1425 (by decide +kernel) rfl, yv_X7_digest.1, yv_X7_digest.2, yi_X7, yc_X7_digest⟩, yd_X7_digest⟩
end LIB
def P_row (Rel : ST → ST → Prop) : Prop := ∀ (σ τ : ST) (a1 a2 : Int32), Rel σ τ → ∃ (r : Int32) (σ1 : ST) (τ1 : ST), M_X6_row σ a1 a2 = some (r, σ1) ∧ M_X7_row τ a1 a2 = some (r, τ1) ∧ Rel σ1 τ1
def P_lay (Rel : ST → ST → Prop) : Prop := ∀ (σ τ : ST) (a1 a2 a3 : Int32), Rel σ τ → ∃ (r : Int32) (σ1 : ST) (τ1 : ST), M_X6_lay σ a1 a2 a3 = some (r, σ1) ∧ M_X7_lay τ a1 a2 a3 = some (r, τ1) ∧ Rel σ1 τ1
def P_at (Rel : ST → ST → Prop) : Prop := ∀ (σ τ : ST) (a1 a2 : Int32), Rel σ τ → ∃ (r : Int32) (σ1 : ST) (τ1 : ST), M_X6_at σ a1 a2 = some (r, σ1) ∧ M_X7_at τ a1 a2 = some (r, τ1) ∧ Rel σ1 τ1
def P_tear (Rel : ST → ST → Prop) : Prop := ∀ (σ τ : ST) (a1 : Int32), Rel σ τ → ∃ (r : Int32) (σ1 : ST) (τ1 : ST), M_X6_tear σ a1 = some (r, σ1) ∧ M_X7_tear τ a1 = some (r, τ1) ∧ Rel σ1 τ1
def P_copy (Rel : ST → ST → Prop) : Prop := ∀ (σ τ : ST) (a1 a2 a3 a4 a5 : Int32), Rel σ τ → ∃ (r : Int32) (σ1 : ST) (τ1 : ST), M_X6_copy σ a1 a2 a3 a4 a5 = some (r, σ1) ∧ M_X7_copy τ a1 a2 a3 a4 a5 = some (r, τ1) ∧ Rel σ1 τ1
def P_mean (Rel : ST → ST → Prop) : Prop := ∀ (σ τ : ST) (a1 : Int32), Rel σ τ → ∃ (r : Int32) (σ1 : ST) (τ1 : ST), M_X6_mean σ a1 = some (r, σ1) ∧ M_X7_mean τ a1 = some (r, τ1) ∧ Rel σ1 τ1
def P_text (Rel : ST → ST → Prop) : Prop := ∀ (σ τ : ST) (a1 a2 : Int32), Rel σ τ → ∃ (r : Int32) (σ1 : ST) (τ1 : ST), M_X6_text σ a1 a2 = some (r, σ1) ∧ M_X7_text τ a1 a2 = some (r, τ1) ∧ Rel σ1 τ1
def P_put (Rel : ST → ST → Prop) : Prop := ∀ (σ τ : ST) (a1 a2 a3 : Int32), Rel σ τ → ∃ (r : Int32) (σ1 : ST) (τ1 : ST), M_X6_put σ a1 a2 a3 = some (r, σ1) ∧ M_X7_put τ a1 a2 a3 = some (r, τ1) ∧ Rel σ1 τ1
def P_fault (Rel : ST → ST → Prop) : Prop := ∀ (σ τ : ST) (a1 : Int32), Rel σ τ → ∃ (r : Int32) (σ1 : ST) (τ1 : ST), M_X6_fault σ a1 = some (r, σ1) ∧ M_X7_fault τ a1 = some (r, τ1) ∧ Rel σ1 τ1
def P_well (Rel : ST → ST → Prop) : Prop := ∀ (σ τ : ST) (a1 : Int32), Rel σ τ → ∃ (r : Int32) (σ1 : ST) (fl : Bool) (τ1 : ST), M_X6_well σ a1 = some (r, σ1, fl) ∧ M_X7_well τ a1 = some (r, τ1) ∧ Rel σ1 τ1
def P_house (Rel : ST → ST → Prop) : Prop := ∀ (σ τ : ST) (a1 a2 : Int32), Rel σ τ → ∃ (r : Int32) (σ1 : ST) (τ1 : ST), M_X6_house σ a1 a2 = some (r, σ1) ∧ M_X7_house τ a1 a2 = some (r, τ1) ∧ Rel σ1 τ1
def P_mark (Rel : ST → ST → Prop) : Prop := ∀ (σ τ : ST) (a1 a2 : Int32), Rel σ τ → ∃ (r : Int32) (σ1 : ST) (τ1 : ST), M_X6_mark σ a1 a2 = some (r, σ1) ∧ M_X7_mark τ a1 a2 = some (r, τ1) ∧ Rel σ1 τ1
def P_meet (Rel : ST → ST → Prop) : Prop := ∀ (σ τ : ST) (a1 : Int32), Rel σ τ → ∃ (r : Int32) (σ1 : ST) (τ1 : ST), M_X6_meet σ a1 = some (r, σ1) ∧ M_X7_meet τ a1 = some (r, τ1) ∧ Rel σ1 τ1
def P_pledge (Rel : ST → ST → Prop) : Prop := ∀ (σ τ : ST) (a1 a2 : Int32), Rel σ τ → ∃ (r : Int32) (σ1 : ST) (τ1 : ST), M_X6_pledge σ a1 a2 = some (r, σ1) ∧ M_X7_pledge τ a1 a2 = some (r, τ1) ∧ Rel σ1 τ1
def P_day (Rel : ST → ST → Prop) : Prop := ∀ (σ τ : ST), Rel σ τ → ∃ (r : Int32) (σ1 : ST) (τ1 : ST), M_X6_day σ = some (r, σ1) ∧ M_X7_day τ = some (r, τ1) ∧ Rel σ1 τ1
def P_undo (Rel : ST → ST → Prop) : Prop := ∀ (σ τ : ST) (a1 : Int32), Rel σ τ → ∃ (r : Int32) (σ1 : ST) (τ1 : ST), M_X6_undo σ a1 = some (r, σ1) ∧ M_X7_undo τ a1 = some (r, τ1) ∧ Rel σ1 τ1
def P_keep (Rel : ST → ST → Prop) : Prop := ∀ (σ τ : ST) (a1 : Int32), Rel σ τ → ∃ (r : Int32) (σ1 : ST) (τ1 : ST), M_X6_keep σ a1 = some (r, σ1) ∧ M_X7_keep τ a1 = some (r, τ1) ∧ Rel σ1 τ1
def P_on (Rel : ST → ST → Prop) : Prop := ∀ (σ τ : ST) (a1 : Int32), Rel σ τ → ∃ (r : Int32) (σ1 : ST) (τ1 : ST), M_X6_on σ a1 = some (r, σ1) ∧ M_X7_on τ a1 = some (r, τ1) ∧ Rel σ1 τ1
def P_weight (Rel : ST → ST → Prop) : Prop := ∀ (σ τ : ST) (a1 : Int32), Rel σ τ → ∃ (r : Int32) (σ1 : ST) (τ1 : ST), M_X6_weight σ a1 = some (r, σ1) ∧ M_X7_weight τ a1 = some (r, τ1) ∧ Rel σ1 τ1
def P_opens (Rel : ST → ST → Prop) : Prop := ∀ (σ τ : ST), Rel σ τ → ∃ (r : Int32) (σ1 : ST) (τ1 : ST), M_X6_opens σ = some (r, σ1) ∧ M_X7_opens τ = some (r, τ1) ∧ Rel σ1 τ1
def P_must (Rel : ST → ST → Prop) : Prop := ∀ (σ τ : ST), Rel σ τ → ∃ (r : Int32) (σ1 : ST) (τ1 : ST), M_X6_must σ = some (r, σ1) ∧ M_X7_must τ = some (r, τ1) ∧ Rel σ1 τ1
def P_holds (Rel : ST → ST → Prop) : Prop := ∀ (σ τ : ST) (a1 : Int32), Rel σ τ → ∃ (r : Int32) (σ1 : ST), M_X6_holds σ a1 = some (r, σ1) ∧ M_X7_holds τ a1 = some r ∧ Rel σ1 τ
def P_part (Rel : ST → ST → Prop) : Prop := ∀ (σ τ : ST) (a1 : Int32), Rel σ τ → ∃ (r : Int32) (σ1 : ST) (τ1 : ST), M_X6_part σ a1 = some (r, σ1) ∧ M_X7_part τ a1 = some (r, τ1) ∧ Rel σ1 τ1
def P_drink (Rel : ST → ST → Prop) : Prop := ∀ (σ τ : ST) (a1 : Int32), Rel σ τ → ∃ (r : Int32) (σ1 : ST) (τ1 : ST), M_X6_drink σ a1 = some (r, σ1) ∧ M_X7_drink τ a1 = some (r, τ1) ∧ Rel σ1 τ1
def P_best (Rel : ST → ST → Prop) : Prop := ∀ (σ τ : ST) (a1 a2 : Int32), Rel σ τ → ∃ (r : Int32) (σ1 : ST) (τ1 : ST), M_X6_best σ a1 a2 = some (r, σ1) ∧ M_X7_best τ a1 a2 = some (r, τ1) ∧ Rel σ1 τ1
def P_ration (Rel : ST → ST → Prop) : Prop := ∀ (σ τ : ST), Rel σ τ → ∃ (r : Int32) (σ1 : ST) (τ1 : ST), M_X6_ration σ = some (r, σ1) ∧ M_X7_ration τ = some (r, τ1) ∧ Rel σ1 τ1
def P_frogs (Rel : ST → ST → Prop) : Prop := ∀ (σ τ : ST) (a1 : Int32), Rel σ τ → ∃ (r : Int32) (σ1 : ST) (τ1 : ST), M_X6_frogs σ a1 = some (r, σ1) ∧ M_X7_frogs τ a1 = some (r, τ1) ∧ Rel σ1 τ1
def P_twice (Rel : ST → ST → Prop) : Prop := ∀ (σ τ : ST) (a1 : Int32), Rel σ τ → ∃ (r : Int32) (σ1 : ST) (τ1 : ST), M_X6_twice σ a1 = some (r, σ1) ∧ M_X7_twice τ a1 = some (r, τ1) ∧ Rel σ1 τ1
def P_quorum (Rel : ST → ST → Prop) : Prop := ∀ (σ τ : ST) (a1 : Int32), Rel σ τ → ∃ (r : Int32) (σ1 : ST) (τ1 : ST), M_X6_quorum σ a1 = some (r, σ1) ∧ M_X7_quorum τ a1 = some (r, τ1) ∧ Rel σ1 τ1
def P_call (Rel : ST → ST → Prop) : Prop := ∀ (σ τ : ST), Rel σ τ → ∃ (r : Int32) (σ1 : ST) (τ1 : ST), M_X6_call σ = some (r, σ1) ∧ M_X7_call τ = some (r, τ1) ∧ Rel σ1 τ1
def P_first (Rel : ST → ST → Prop) : Prop := ∀ (σ τ : ST), Rel σ τ → ∃ (r : Int32) (σ1 : ST) (τ1 : ST), M_X6_first σ = some (r, σ1) ∧ M_X7_first τ = some (r, τ1) ∧ Rel σ1 τ1
def P_odds (Rel : ST → ST → Prop) : Prop := ∀ (σ τ : ST) (a1 : Int32), Rel σ τ → ∃ (r : Int32) (σ1 : ST) (τ1 : ST), M_X6_odds σ a1 = some (r, σ1) ∧ M_X7_odds τ a1 = some (r, τ1) ∧ Rel σ1 τ1
def P_mid (Rel : ST → ST → Prop) : Prop := ∀ (σ τ : ST) (a1 : Int32), Rel σ τ → ∃ (r : Int32) (σ1 : ST) (τ1 : ST), M_X6_mid σ a1 = some (r, σ1) ∧ M_X7_mid τ a1 = some (r, τ1) ∧ Rel σ1 τ1
def P_lots (Rel : ST → ST → Prop) : Prop := ∀ (σ τ : ST) (a1 a2 : Int32), Rel σ τ → ∃ (r : Int32) (σ1 : ST) (τ1 : ST), M_X6_lots σ a1 a2 = some (r, σ1) ∧ M_X7_lots τ a1 a2 = some (r, τ1) ∧ Rel σ1 τ1
def P_asked (Rel : ST → ST → Prop) : Prop := ∀ (σ τ : ST), Rel σ τ → ∃ (r : Int32), M_X6_asked σ = some r ∧ M_X7_asked τ = some r
def P_upper (Rel : ST → ST → Prop) : Prop := ∀ (σ τ : ST), Rel σ τ → ∃ (r : Int64), M_X6_upper σ = some r ∧ M_X7_upper τ = some r
def P_lower (Rel : ST → ST → Prop) : Prop := ∀ (σ τ : ST), Rel σ τ → ∃ (r : Int64), M_X6_lower σ = some r ∧ M_X7_lower τ = some r
def P_count (Rel : ST → ST → Prop) : Prop := ∀ (σ τ : ST) (a1 : Int32), Rel σ τ → ∃ (r : Int32), M_X6_count σ a1 = some r ∧ M_X7_count τ a1 = some r
def P_finding (Rel : ST → ST → Prop) : Prop := ∀ (σ τ : ST), Rel σ τ → ∃ (r : Int32), M_X6_finding σ = some r ∧ M_X7_finding τ = some r
def P_findings (Rel : ST → ST → Prop) : Prop := ∀ (σ τ : ST) (a1 : Int32), Rel σ τ → ∃ (r : Int32), M_X6_findings σ a1 = some r ∧ M_X7_findings τ a1 = some r
def P_digest (Rel : ST → ST → Prop) : Prop := ∀ (σ τ : ST), Rel σ τ → ∃ (r : Int64), M_X6_digest σ = some r ∧ M_X7_digest τ = some r
set_option maxRecDepth 100000 in
set_option maxHeartbeats 4000000 in
theorem law_row {Rel : ST → ST → Prop} (hPu : P_row Rel) {p : Program} {l : Launch} {e : Env} {s : State} {m : MethodId} {below : List Frame} {meth : Method} {c : Code} {b L i : Nat} {xs : Nat → Int32} {d : CD} {q q' : Nat → Nat} {σ τ : ST} {H : Heap} {locs : List Loc} {ls : Array Slot} (C : CX p s m #[Value.ref b] meth c RL code 4 ret d (fun q => s.heap.size ≤ q)) (hX : va_X b L xs s s.heap) (hbl : b < s.heap.size) (hL : L ≤ 384) (hi : i + 6 ≤ L) (hR : Rel σ τ) (h2 : HS2 d (fun q => s.heap.size ≤ q) s.heap H locs (cw q d σ) (mw q' d τ)) (hl : lv_has ls 4 [(0, .ref b), (1, .ref (q 0)), (2, .ref (q' 0)), (3, .int (nI i))]) (ck : xs (nI i).toNatClampNeg &&& 63 = 0)
    (ih : ∀ (q q' : Nat → Nat) (σ τ : ST) (H : Heap) (locs : List Loc) (ls : Array Slot), Rel σ τ → HS2 d (fun q => s.heap.size ≤ q) s.heap H locs (cw q d σ) (mw q' d τ) → lv_has ls 4 [(0, .ref b), (1, .ref (q 0)), (2, .ref (q' 0)), (3, .int (nI (i + 6)))] → W p l e room_1 s m #[Value.ref b] below meth c H locs 600000 7302250 (lw_Z below #[Value.ref b] s) (F0 m 18 ls [])) : W p l e room_1 s m #[Value.ref b] below meth c H locs 600000 7302250 (lw_Z below #[Value.ref b] s) (F0 m 33 ls [.int (xs (nI i).toNatClampNeg &&& 63)]) := by
  obtain ⟨hx, hb, hml, hown, hts, -⟩ := id C
  have hbA : ¬ (fun q => s.heap.size ≤ q) b := Nat.not_le.mpr hbl
  have hv0 : vp_in (nI i) L := vp_in_nI (by omega) (by omega)
  have hv1 : vp_in (nI i + 1) L := by rw [show nI i + 1 = nI (i + 1) from nI_add i 1]; exact vp_in_nI (by omega) (by omega)
  have hv2 : vp_in (nI i + 2) L := by rw [show nI i + 2 = nI (i + 2) from nI_add i 2]; exact vp_in_nI (by omega) (by omega)
  obtain ⟨r, σ1, τ1, ec, er, hR1⟩ := hPu σ τ (xs (nI i + 1).toNatClampNeg) (xs (nI i + 2).toNatClampNeg) hR
  refine lv_tableIn (off := 179) (tgt := 212) hx hb dL_law_33 (by rw [ck]; decide) (by rw [ck]; decide) (by rw [ck]; rfl) (by decide) ?_
  refine lv_aload_n hx hb dL_law_212 rfl (lv_at hl 1 rfl) ?_
  refine lv_aload_n hx hb dL_law_213 rfl (lv_at hl 0 rfl) ?_
  refine lv_iload_n hx hb dL_law_214 rfl (lv_at hl 3 rfl) ?_
  refine lv_iconst (v := 1) hx hb dL_law_215 (by decide) ?_
  refine lv_iadd hx hb dL_law_216 ?_
  refine va_sld hx hb hX hbl hbA h2.2.2.2.2.2 hv1 dL_law_217 ?_
  refine lv_aload_n hx hb dL_law_218 rfl (lv_at hl 0 rfl) ?_
  refine lv_iload_n hx hb dL_law_219 rfl (lv_at hl 3 rfl) ?_
  refine lv_iconst (v := 2) hx hb dL_law_220 (by decide) ?_
  refine lv_iadd hx hb dL_law_221 ?_
  refine va_sld hx hb hX hbl hbA h2.2.2.2.2.2 hv2 dL_law_222 ?_
  refine call2i (r := r) (w1' := cw q d σ1) (rest := []) (As := [.int (xs (nI i + 1).toNatClampNeg), .int (xs (nI i + 2).toNatClampNeg)]) C h2 (c_X6_row l d q σ (xs (nI i + 1).toNatClampNeg) (xs (nI i + 2).toNatClampNeg) (r, σ1) ec) iv_L_13 ⟨rfl, rfl, Nat.le_of_ble_eq_true rfl, Nat.le_of_ble_eq_true rfl⟩ cw_o0 rfl rfl rfl hl.1 (Nat.le_of_ble_eq_true rfl) ⟨Nat.le_refl _, Nat.le_refl _⟩ dL_law_223 (fun H locs h2 => ?_)
  replace h2 := h2.symm
  replace h2 : HS2 d (fun q => s.heap.size ≤ q) s.heap H locs (mw q' d τ) (cw q d σ1) := h2
  refine lv_aload_n hx hb dL_law_226 rfl (lv_at hl 2 rfl) ?_
  refine lv_aload_n hx hb dL_law_227 rfl (lv_at hl 0 rfl) ?_
  refine lv_iload_n hx hb dL_law_228 rfl (lv_at hl 3 rfl) ?_
  refine lv_iconst (v := 1) hx hb dL_law_229 (by decide) ?_
  refine lv_iadd hx hb dL_law_230 ?_
  refine va_sld hx hb hX hbl hbA h2.2.2.2.2.2 hv1 dL_law_231 ?_
  refine lv_aload_n hx hb dL_law_232 rfl (lv_at hl 0 rfl) ?_
  refine lv_iload_n hx hb dL_law_233 rfl (lv_at hl 3 rfl) ?_
  refine lv_iconst (v := 2) hx hb dL_law_234 (by decide) ?_
  refine lv_iadd hx hb dL_law_235 ?_
  refine va_sld hx hb hX hbl hbA h2.2.2.2.2.2 hv2 dL_law_236 ?_
  refine call2i (r := r) (w1' := mw q' d τ1) (rest := [.int r]) (As := [.int (xs (nI i + 1).toNatClampNeg), .int (xs (nI i + 2).toNatClampNeg)]) C h2 (c_X7_row l d q' τ (xs (nI i + 1).toNatClampNeg) (xs (nI i + 2).toNatClampNeg) (r, τ1) er) iv_L_17 ⟨rfl, rfl, Nat.le_of_ble_eq_true rfl, Nat.le_of_ble_eq_true rfl⟩ mw_o0 rfl rfl rfl hl.1 (Nat.le_of_ble_eq_true rfl) ⟨Nat.le_refl _, Nat.le_refl _⟩ dL_law_237 (fun H locs h2 => ?_)
  replace h2 := h2.symm
  refine lv_icmp_eq (tgt := 1208) hx hb dL_law_240 (by decide) (fun _ => ?_) (fun h => absurd rfl h)
  refine lv_iinc (v := nI i + 6) (lv' := [(3, .int (nI i + 6)), (0, .ref b), (1, .ref (q 0)), (2, .ref (q' 0))]) hx hb dL_law_1208 hl (k := 3) rfl rfl (by decide) rfl (fun ls hl => ?_)
  refine lv_goto (tgt := 18) hx hb dL_law_1211 (by decide) ?_
  rw [show nI i + 6 = nI (i + 6) from nI_add i 6] at hl
  exact ih q q' σ1 τ1 _ _ _ hR1 h2 (lv_sub hl [1, 2, 3, 0] rfl)
set_option maxRecDepth 100000 in
set_option maxHeartbeats 4000000 in
theorem law_lay {Rel : ST → ST → Prop} (hPu : P_lay Rel) {p : Program} {l : Launch} {e : Env} {s : State} {m : MethodId} {below : List Frame} {meth : Method} {c : Code} {b L i : Nat} {xs : Nat → Int32} {d : CD} {q q' : Nat → Nat} {σ τ : ST} {H : Heap} {locs : List Loc} {ls : Array Slot} (C : CX p s m #[Value.ref b] meth c RL code 4 ret d (fun q => s.heap.size ≤ q)) (hX : va_X b L xs s s.heap) (hbl : b < s.heap.size) (hL : L ≤ 384) (hi : i + 6 ≤ L) (hR : Rel σ τ) (h2 : HS2 d (fun q => s.heap.size ≤ q) s.heap H locs (cw q d σ) (mw q' d τ)) (hl : lv_has ls 4 [(0, .ref b), (1, .ref (q 0)), (2, .ref (q' 0)), (3, .int (nI i))]) (ck : xs (nI i).toNatClampNeg &&& 63 = 1)
    (ih : ∀ (q q' : Nat → Nat) (σ τ : ST) (H : Heap) (locs : List Loc) (ls : Array Slot), Rel σ τ → HS2 d (fun q => s.heap.size ≤ q) s.heap H locs (cw q d σ) (mw q' d τ) → lv_has ls 4 [(0, .ref b), (1, .ref (q 0)), (2, .ref (q' 0)), (3, .int (nI (i + 6)))] → W p l e room_1 s m #[Value.ref b] below meth c H locs 600000 7302250 (lw_Z below #[Value.ref b] s) (F0 m 18 ls [])) : W p l e room_1 s m #[Value.ref b] below meth c H locs 600000 7302250 (lw_Z below #[Value.ref b] s) (F0 m 33 ls [.int (xs (nI i).toNatClampNeg &&& 63)]) := by
  obtain ⟨hx, hb, hml, hown, hts, -⟩ := id C
  have hbA : ¬ (fun q => s.heap.size ≤ q) b := Nat.not_le.mpr hbl
  have hv0 : vp_in (nI i) L := vp_in_nI (by omega) (by omega)
  have hv1 : vp_in (nI i + 1) L := by rw [show nI i + 1 = nI (i + 1) from nI_add i 1]; exact vp_in_nI (by omega) (by omega)
  have hv2 : vp_in (nI i + 2) L := by rw [show nI i + 2 = nI (i + 2) from nI_add i 2]; exact vp_in_nI (by omega) (by omega)
  have hv3 : vp_in (nI i + 3) L := by rw [show nI i + 3 = nI (i + 3) from nI_add i 3]; exact vp_in_nI (by omega) (by omega)
  obtain ⟨r, σ1, τ1, ec, er, hR1⟩ := hPu σ τ (xs (nI i + 1).toNatClampNeg) (xs (nI i + 2).toNatClampNeg) (xs (nI i + 3).toNatClampNeg) hR
  refine lv_tableIn (off := 212) (tgt := 245) hx hb dL_law_33 (by rw [ck]; decide) (by rw [ck]; decide) (by rw [ck]; rfl) (by decide) ?_
  refine lv_aload_n hx hb dL_law_245 rfl (lv_at hl 1 rfl) ?_
  refine lv_aload_n hx hb dL_law_246 rfl (lv_at hl 0 rfl) ?_
  refine lv_iload_n hx hb dL_law_247 rfl (lv_at hl 3 rfl) ?_
  refine lv_iconst (v := 1) hx hb dL_law_248 (by decide) ?_
  refine lv_iadd hx hb dL_law_249 ?_
  refine va_sld hx hb hX hbl hbA h2.2.2.2.2.2 hv1 dL_law_250 ?_
  refine lv_aload_n hx hb dL_law_251 rfl (lv_at hl 0 rfl) ?_
  refine lv_iload_n hx hb dL_law_252 rfl (lv_at hl 3 rfl) ?_
  refine lv_iconst (v := 2) hx hb dL_law_253 (by decide) ?_
  refine lv_iadd hx hb dL_law_254 ?_
  refine va_sld hx hb hX hbl hbA h2.2.2.2.2.2 hv2 dL_law_255 ?_
  refine lv_aload_n hx hb dL_law_256 rfl (lv_at hl 0 rfl) ?_
  refine lv_iload_n hx hb dL_law_257 rfl (lv_at hl 3 rfl) ?_
  refine lv_iconst (v := 3) hx hb dL_law_258 (by decide) ?_
  refine lv_iadd hx hb dL_law_259 ?_
  refine va_sld hx hb hX hbl hbA h2.2.2.2.2.2 hv3 dL_law_260 ?_
  refine call2i (r := r) (w1' := cw q d σ1) (rest := []) (As := [.int (xs (nI i + 1).toNatClampNeg), .int (xs (nI i + 2).toNatClampNeg), .int (xs (nI i + 3).toNatClampNeg)]) C h2 (c_X6_lay l d q σ (xs (nI i + 1).toNatClampNeg) (xs (nI i + 2).toNatClampNeg) (xs (nI i + 3).toNatClampNeg) (r, σ1) ec) iv_L_18 ⟨rfl, rfl, Nat.le_of_ble_eq_true rfl, Nat.le_of_ble_eq_true rfl⟩ cw_o0 rfl rfl rfl hl.1 (Nat.le_of_ble_eq_true rfl) ⟨Nat.le_refl _, Nat.le_refl _⟩ dL_law_261 (fun H locs h2 => ?_)
  replace h2 := h2.symm
  replace h2 : HS2 d (fun q => s.heap.size ≤ q) s.heap H locs (mw q' d τ) (cw q d σ1) := h2
  refine lv_aload_n hx hb dL_law_264 rfl (lv_at hl 2 rfl) ?_
  refine lv_aload_n hx hb dL_law_265 rfl (lv_at hl 0 rfl) ?_
  refine lv_iload_n hx hb dL_law_266 rfl (lv_at hl 3 rfl) ?_
  refine lv_iconst (v := 1) hx hb dL_law_267 (by decide) ?_
  refine lv_iadd hx hb dL_law_268 ?_
  refine va_sld hx hb hX hbl hbA h2.2.2.2.2.2 hv1 dL_law_269 ?_
  refine lv_aload_n hx hb dL_law_270 rfl (lv_at hl 0 rfl) ?_
  refine lv_iload_n hx hb dL_law_271 rfl (lv_at hl 3 rfl) ?_
  refine lv_iconst (v := 2) hx hb dL_law_272 (by decide) ?_
  refine lv_iadd hx hb dL_law_273 ?_
  refine va_sld hx hb hX hbl hbA h2.2.2.2.2.2 hv2 dL_law_274 ?_
  refine lv_aload_n hx hb dL_law_275 rfl (lv_at hl 0 rfl) ?_
  refine lv_iload_n hx hb dL_law_276 rfl (lv_at hl 3 rfl) ?_
  refine lv_iconst (v := 3) hx hb dL_law_277 (by decide) ?_
  refine lv_iadd hx hb dL_law_278 ?_
  refine va_sld hx hb hX hbl hbA h2.2.2.2.2.2 hv3 dL_law_279 ?_
  refine call2i (r := r) (w1' := mw q' d τ1) (rest := [.int r]) (As := [.int (xs (nI i + 1).toNatClampNeg), .int (xs (nI i + 2).toNatClampNeg), .int (xs (nI i + 3).toNatClampNeg)]) C h2 (c_X7_lay l d q' τ (xs (nI i + 1).toNatClampNeg) (xs (nI i + 2).toNatClampNeg) (xs (nI i + 3).toNatClampNeg) (r, τ1) er) iv_L_22 ⟨rfl, rfl, Nat.le_of_ble_eq_true rfl, Nat.le_of_ble_eq_true rfl⟩ mw_o0 rfl rfl rfl hl.1 (Nat.le_of_ble_eq_true rfl) ⟨Nat.le_refl _, Nat.le_refl _⟩ dL_law_280 (fun H locs h2 => ?_)
  replace h2 := h2.symm
  refine lv_icmp_eq (tgt := 1208) hx hb dL_law_283 (by decide) (fun _ => ?_) (fun h => absurd rfl h)
  refine lv_iinc (v := nI i + 6) (lv' := [(3, .int (nI i + 6)), (0, .ref b), (1, .ref (q 0)), (2, .ref (q' 0))]) hx hb dL_law_1208 hl (k := 3) rfl rfl (by decide) rfl (fun ls hl => ?_)
  refine lv_goto (tgt := 18) hx hb dL_law_1211 (by decide) ?_
  rw [show nI i + 6 = nI (i + 6) from nI_add i 6] at hl
  exact ih q q' σ1 τ1 _ _ _ hR1 h2 (lv_sub hl [1, 2, 3, 0] rfl)
set_option maxRecDepth 100000 in
set_option maxHeartbeats 4000000 in
theorem law_at {Rel : ST → ST → Prop} (hPu : P_at Rel) {p : Program} {l : Launch} {e : Env} {s : State} {m : MethodId} {below : List Frame} {meth : Method} {c : Code} {b L i : Nat} {xs : Nat → Int32} {d : CD} {q q' : Nat → Nat} {σ τ : ST} {H : Heap} {locs : List Loc} {ls : Array Slot} (C : CX p s m #[Value.ref b] meth c RL code 4 ret d (fun q => s.heap.size ≤ q)) (hX : va_X b L xs s s.heap) (hbl : b < s.heap.size) (hL : L ≤ 384) (hi : i + 6 ≤ L) (hR : Rel σ τ) (h2 : HS2 d (fun q => s.heap.size ≤ q) s.heap H locs (cw q d σ) (mw q' d τ)) (hl : lv_has ls 4 [(0, .ref b), (1, .ref (q 0)), (2, .ref (q' 0)), (3, .int (nI i))]) (ck : xs (nI i).toNatClampNeg &&& 63 = 2)
    (ih : ∀ (q q' : Nat → Nat) (σ τ : ST) (H : Heap) (locs : List Loc) (ls : Array Slot), Rel σ τ → HS2 d (fun q => s.heap.size ≤ q) s.heap H locs (cw q d σ) (mw q' d τ) → lv_has ls 4 [(0, .ref b), (1, .ref (q 0)), (2, .ref (q' 0)), (3, .int (nI (i + 6)))] → W p l e room_1 s m #[Value.ref b] below meth c H locs 600000 7302250 (lw_Z below #[Value.ref b] s) (F0 m 18 ls [])) : W p l e room_1 s m #[Value.ref b] below meth c H locs 600000 7302250 (lw_Z below #[Value.ref b] s) (F0 m 33 ls [.int (xs (nI i).toNatClampNeg &&& 63)]) := by
  obtain ⟨hx, hb, hml, hown, hts, -⟩ := id C
  have hbA : ¬ (fun q => s.heap.size ≤ q) b := Nat.not_le.mpr hbl
  have hv0 : vp_in (nI i) L := vp_in_nI (by omega) (by omega)
  have hv1 : vp_in (nI i + 1) L := by rw [show nI i + 1 = nI (i + 1) from nI_add i 1]; exact vp_in_nI (by omega) (by omega)
  have hv2 : vp_in (nI i + 2) L := by rw [show nI i + 2 = nI (i + 2) from nI_add i 2]; exact vp_in_nI (by omega) (by omega)
  obtain ⟨r, σ1, τ1, ec, er, hR1⟩ := hPu σ τ (xs (nI i + 1).toNatClampNeg) (xs (nI i + 2).toNatClampNeg) hR
  refine lv_tableIn (off := 255) (tgt := 288) hx hb dL_law_33 (by rw [ck]; decide) (by rw [ck]; decide) (by rw [ck]; rfl) (by decide) ?_
  refine lv_aload_n hx hb dL_law_288 rfl (lv_at hl 1 rfl) ?_
  refine lv_aload_n hx hb dL_law_289 rfl (lv_at hl 0 rfl) ?_
  refine lv_iload_n hx hb dL_law_290 rfl (lv_at hl 3 rfl) ?_
  refine lv_iconst (v := 1) hx hb dL_law_291 (by decide) ?_
  refine lv_iadd hx hb dL_law_292 ?_
  refine va_sld hx hb hX hbl hbA h2.2.2.2.2.2 hv1 dL_law_293 ?_
  refine lv_aload_n hx hb dL_law_294 rfl (lv_at hl 0 rfl) ?_
  refine lv_iload_n hx hb dL_law_295 rfl (lv_at hl 3 rfl) ?_
  refine lv_iconst (v := 2) hx hb dL_law_296 (by decide) ?_
  refine lv_iadd hx hb dL_law_297 ?_
  refine va_sld hx hb hX hbl hbA h2.2.2.2.2.2 hv2 dL_law_298 ?_
  refine call2i (r := r) (w1' := cw q d σ1) (rest := []) (As := [.int (xs (nI i + 1).toNatClampNeg), .int (xs (nI i + 2).toNatClampNeg)]) C h2 (c_X6_at l d q σ (xs (nI i + 1).toNatClampNeg) (xs (nI i + 2).toNatClampNeg) (r, σ1) ec) iv_L_23 ⟨rfl, rfl, Nat.le_of_ble_eq_true rfl, Nat.le_of_ble_eq_true rfl⟩ cw_o0 rfl rfl rfl hl.1 (Nat.le_of_ble_eq_true rfl) ⟨Nat.le_refl _, Nat.le_refl _⟩ dL_law_299 (fun H locs h2 => ?_)
  replace h2 := h2.symm
  replace h2 : HS2 d (fun q => s.heap.size ≤ q) s.heap H locs (mw q' d τ) (cw q d σ1) := h2
  refine lv_aload_n hx hb dL_law_302 rfl (lv_at hl 2 rfl) ?_
  refine lv_aload_n hx hb dL_law_303 rfl (lv_at hl 0 rfl) ?_
  refine lv_iload_n hx hb dL_law_304 rfl (lv_at hl 3 rfl) ?_
  refine lv_iconst (v := 1) hx hb dL_law_305 (by decide) ?_
  refine lv_iadd hx hb dL_law_306 ?_
  refine va_sld hx hb hX hbl hbA h2.2.2.2.2.2 hv1 dL_law_307 ?_
  refine lv_aload_n hx hb dL_law_308 rfl (lv_at hl 0 rfl) ?_
  refine lv_iload_n hx hb dL_law_309 rfl (lv_at hl 3 rfl) ?_
  refine lv_iconst (v := 2) hx hb dL_law_310 (by decide) ?_
  refine lv_iadd hx hb dL_law_311 ?_
  refine va_sld hx hb hX hbl hbA h2.2.2.2.2.2 hv2 dL_law_312 ?_
  refine call2i (r := r) (w1' := mw q' d τ1) (rest := [.int r]) (As := [.int (xs (nI i + 1).toNatClampNeg), .int (xs (nI i + 2).toNatClampNeg)]) C h2 (c_X7_at l d q' τ (xs (nI i + 1).toNatClampNeg) (xs (nI i + 2).toNatClampNeg) (r, τ1) er) iv_L_26 ⟨rfl, rfl, Nat.le_of_ble_eq_true rfl, Nat.le_of_ble_eq_true rfl⟩ mw_o0 rfl rfl rfl hl.1 (Nat.le_of_ble_eq_true rfl) ⟨Nat.le_refl _, Nat.le_refl _⟩ dL_law_313 (fun H locs h2 => ?_)
  replace h2 := h2.symm
  refine lv_icmp_eq (tgt := 1208) hx hb dL_law_316 (by decide) (fun _ => ?_) (fun h => absurd rfl h)
  refine lv_iinc (v := nI i + 6) (lv' := [(3, .int (nI i + 6)), (0, .ref b), (1, .ref (q 0)), (2, .ref (q' 0))]) hx hb dL_law_1208 hl (k := 3) rfl rfl (by decide) rfl (fun ls hl => ?_)
  refine lv_goto (tgt := 18) hx hb dL_law_1211 (by decide) ?_
  rw [show nI i + 6 = nI (i + 6) from nI_add i 6] at hl
  exact ih q q' σ1 τ1 _ _ _ hR1 h2 (lv_sub hl [1, 2, 3, 0] rfl)
set_option maxRecDepth 100000 in
set_option maxHeartbeats 4000000 in
theorem law_tear {Rel : ST → ST → Prop} (hPu : P_tear Rel) {p : Program} {l : Launch} {e : Env} {s : State} {m : MethodId} {below : List Frame} {meth : Method} {c : Code} {b L i : Nat} {xs : Nat → Int32} {d : CD} {q q' : Nat → Nat} {σ τ : ST} {H : Heap} {locs : List Loc} {ls : Array Slot} (C : CX p s m #[Value.ref b] meth c RL code 4 ret d (fun q => s.heap.size ≤ q)) (hX : va_X b L xs s s.heap) (hbl : b < s.heap.size) (hL : L ≤ 384) (hi : i + 6 ≤ L) (hR : Rel σ τ) (h2 : HS2 d (fun q => s.heap.size ≤ q) s.heap H locs (cw q d σ) (mw q' d τ)) (hl : lv_has ls 4 [(0, .ref b), (1, .ref (q 0)), (2, .ref (q' 0)), (3, .int (nI i))]) (ck : xs (nI i).toNatClampNeg &&& 63 = 3)
    (ih : ∀ (q q' : Nat → Nat) (σ τ : ST) (H : Heap) (locs : List Loc) (ls : Array Slot), Rel σ τ → HS2 d (fun q => s.heap.size ≤ q) s.heap H locs (cw q d σ) (mw q' d τ) → lv_has ls 4 [(0, .ref b), (1, .ref (q 0)), (2, .ref (q' 0)), (3, .int (nI (i + 6)))] → W p l e room_1 s m #[Value.ref b] below meth c H locs 600000 7302250 (lw_Z below #[Value.ref b] s) (F0 m 18 ls [])) : W p l e room_1 s m #[Value.ref b] below meth c H locs 600000 7302250 (lw_Z below #[Value.ref b] s) (F0 m 33 ls [.int (xs (nI i).toNatClampNeg &&& 63)]) := by
  obtain ⟨hx, hb, hml, hown, hts, -⟩ := id C
  have hbA : ¬ (fun q => s.heap.size ≤ q) b := Nat.not_le.mpr hbl
  have hv0 : vp_in (nI i) L := vp_in_nI (by omega) (by omega)
  have hv1 : vp_in (nI i + 1) L := by rw [show nI i + 1 = nI (i + 1) from nI_add i 1]; exact vp_in_nI (by omega) (by omega)
  obtain ⟨r, σ1, τ1, ec, er, hR1⟩ := hPu σ τ (xs (nI i + 1).toNatClampNeg) hR
  refine lv_tableIn (off := 288) (tgt := 321) hx hb dL_law_33 (by rw [ck]; decide) (by rw [ck]; decide) (by rw [ck]; rfl) (by decide) ?_
  refine lv_aload_n hx hb dL_law_321 rfl (lv_at hl 1 rfl) ?_
  refine lv_aload_n hx hb dL_law_322 rfl (lv_at hl 0 rfl) ?_
  refine lv_iload_n hx hb dL_law_323 rfl (lv_at hl 3 rfl) ?_
  refine lv_iconst (v := 1) hx hb dL_law_324 (by decide) ?_
  refine lv_iadd hx hb dL_law_325 ?_
  refine va_sld hx hb hX hbl hbA h2.2.2.2.2.2 hv1 dL_law_326 ?_
  refine call2i (r := r) (w1' := cw q d σ1) (rest := []) (As := [.int (xs (nI i + 1).toNatClampNeg)]) C h2 (c_X6_tear l d q σ (xs (nI i + 1).toNatClampNeg) (r, σ1) ec) iv_L_27 ⟨rfl, rfl, Nat.le_of_ble_eq_true rfl, Nat.le_of_ble_eq_true rfl⟩ cw_o0 rfl rfl rfl hl.1 (Nat.le_of_ble_eq_true rfl) ⟨Nat.le_refl _, Nat.le_refl _⟩ dL_law_327 (fun H locs h2 => ?_)
  replace h2 := h2.symm
  replace h2 : HS2 d (fun q => s.heap.size ≤ q) s.heap H locs (mw q' d τ) (cw q d σ1) := h2
  refine lv_aload_n hx hb dL_law_330 rfl (lv_at hl 2 rfl) ?_
  refine lv_aload_n hx hb dL_law_331 rfl (lv_at hl 0 rfl) ?_
  refine lv_iload_n hx hb dL_law_332 rfl (lv_at hl 3 rfl) ?_
  refine lv_iconst (v := 1) hx hb dL_law_333 (by decide) ?_
  refine lv_iadd hx hb dL_law_334 ?_
  refine va_sld hx hb hX hbl hbA h2.2.2.2.2.2 hv1 dL_law_335 ?_
  refine call2i (r := r) (w1' := mw q' d τ1) (rest := [.int r]) (As := [.int (xs (nI i + 1).toNatClampNeg)]) C h2 (c_X7_tear l d q' τ (xs (nI i + 1).toNatClampNeg) (r, τ1) er) iv_L_31 ⟨rfl, rfl, Nat.le_of_ble_eq_true rfl, Nat.le_of_ble_eq_true rfl⟩ mw_o0 rfl rfl rfl hl.1 (Nat.le_of_ble_eq_true rfl) ⟨Nat.le_refl _, Nat.le_refl _⟩ dL_law_336 (fun H locs h2 => ?_)
  replace h2 := h2.symm
  refine lv_icmp_eq (tgt := 1208) hx hb dL_law_339 (by decide) (fun _ => ?_) (fun h => absurd rfl h)
  refine lv_iinc (v := nI i + 6) (lv' := [(3, .int (nI i + 6)), (0, .ref b), (1, .ref (q 0)), (2, .ref (q' 0))]) hx hb dL_law_1208 hl (k := 3) rfl rfl (by decide) rfl (fun ls hl => ?_)
  refine lv_goto (tgt := 18) hx hb dL_law_1211 (by decide) ?_
  rw [show nI i + 6 = nI (i + 6) from nI_add i 6] at hl
  exact ih q q' σ1 τ1 _ _ _ hR1 h2 (lv_sub hl [1, 2, 3, 0] rfl)
set_option maxRecDepth 100000 in
set_option maxHeartbeats 4000000 in
theorem law_copy {Rel : ST → ST → Prop} (hPu : P_copy Rel) {p : Program} {l : Launch} {e : Env} {s : State} {m : MethodId} {below : List Frame} {meth : Method} {c : Code} {b L i : Nat} {xs : Nat → Int32} {d : CD} {q q' : Nat → Nat} {σ τ : ST} {H : Heap} {locs : List Loc} {ls : Array Slot} (C : CX p s m #[Value.ref b] meth c RL code 4 ret d (fun q => s.heap.size ≤ q)) (hX : va_X b L xs s s.heap) (hbl : b < s.heap.size) (hL : L ≤ 384) (hi : i + 6 ≤ L) (hR : Rel σ τ) (h2 : HS2 d (fun q => s.heap.size ≤ q) s.heap H locs (cw q d σ) (mw q' d τ)) (hl : lv_has ls 4 [(0, .ref b), (1, .ref (q 0)), (2, .ref (q' 0)), (3, .int (nI i))]) (ck : xs (nI i).toNatClampNeg &&& 63 = 4)
    (ih : ∀ (q q' : Nat → Nat) (σ τ : ST) (H : Heap) (locs : List Loc) (ls : Array Slot), Rel σ τ → HS2 d (fun q => s.heap.size ≤ q) s.heap H locs (cw q d σ) (mw q' d τ) → lv_has ls 4 [(0, .ref b), (1, .ref (q 0)), (2, .ref (q' 0)), (3, .int (nI (i + 6)))] → W p l e room_1 s m #[Value.ref b] below meth c H locs 600000 7302250 (lw_Z below #[Value.ref b] s) (F0 m 18 ls [])) : W p l e room_1 s m #[Value.ref b] below meth c H locs 600000 7302250 (lw_Z below #[Value.ref b] s) (F0 m 33 ls [.int (xs (nI i).toNatClampNeg &&& 63)]) := by
  obtain ⟨hx, hb, hml, hown, hts, -⟩ := id C
  have hbA : ¬ (fun q => s.heap.size ≤ q) b := Nat.not_le.mpr hbl
  have hv0 : vp_in (nI i) L := vp_in_nI (by omega) (by omega)
  have hv1 : vp_in (nI i + 1) L := by rw [show nI i + 1 = nI (i + 1) from nI_add i 1]; exact vp_in_nI (by omega) (by omega)
  have hv2 : vp_in (nI i + 2) L := by rw [show nI i + 2 = nI (i + 2) from nI_add i 2]; exact vp_in_nI (by omega) (by omega)
  have hv3 : vp_in (nI i + 3) L := by rw [show nI i + 3 = nI (i + 3) from nI_add i 3]; exact vp_in_nI (by omega) (by omega)
  have hv4 : vp_in (nI i + 4) L := by rw [show nI i + 4 = nI (i + 4) from nI_add i 4]; exact vp_in_nI (by omega) (by omega)
  have hv5 : vp_in (nI i + 5) L := by rw [show nI i + 5 = nI (i + 5) from nI_add i 5]; exact vp_in_nI (by omega) (by omega)
  obtain ⟨r, σ1, τ1, ec, er, hR1⟩ := hPu σ τ (xs (nI i + 1).toNatClampNeg) (xs (nI i + 2).toNatClampNeg) (xs (nI i + 3).toNatClampNeg) (xs (nI i + 4).toNatClampNeg) (xs (nI i + 5).toNatClampNeg) hR
  refine lv_tableIn (off := 311) (tgt := 344) hx hb dL_law_33 (by rw [ck]; decide) (by rw [ck]; decide) (by rw [ck]; rfl) (by decide) ?_
  refine lv_aload_n hx hb dL_law_344 rfl (lv_at hl 1 rfl) ?_
  refine lv_aload_n hx hb dL_law_345 rfl (lv_at hl 0 rfl) ?_
  refine lv_iload_n hx hb dL_law_346 rfl (lv_at hl 3 rfl) ?_
  refine lv_iconst (v := 1) hx hb dL_law_347 (by decide) ?_
  refine lv_iadd hx hb dL_law_348 ?_
  refine va_sld hx hb hX hbl hbA h2.2.2.2.2.2 hv1 dL_law_349 ?_
  refine lv_aload_n hx hb dL_law_350 rfl (lv_at hl 0 rfl) ?_
  refine lv_iload_n hx hb dL_law_351 rfl (lv_at hl 3 rfl) ?_
  refine lv_iconst (v := 2) hx hb dL_law_352 (by decide) ?_
  refine lv_iadd hx hb dL_law_353 ?_
  refine va_sld hx hb hX hbl hbA h2.2.2.2.2.2 hv2 dL_law_354 ?_
  refine lv_aload_n hx hb dL_law_355 rfl (lv_at hl 0 rfl) ?_
  refine lv_iload_n hx hb dL_law_356 rfl (lv_at hl 3 rfl) ?_
  refine lv_iconst (v := 3) hx hb dL_law_357 (by decide) ?_
  refine lv_iadd hx hb dL_law_358 ?_
  refine va_sld hx hb hX hbl hbA h2.2.2.2.2.2 hv3 dL_law_359 ?_
  refine lv_aload_n hx hb dL_law_360 rfl (lv_at hl 0 rfl) ?_
  refine lv_iload_n hx hb dL_law_361 rfl (lv_at hl 3 rfl) ?_
  refine lv_iconst (v := 4) hx hb dL_law_362 (by decide) ?_
  refine lv_iadd hx hb dL_law_363 ?_
  refine va_sld hx hb hX hbl hbA h2.2.2.2.2.2 hv4 dL_law_364 ?_
  refine lv_aload_n hx hb dL_law_365 rfl (lv_at hl 0 rfl) ?_
  refine lv_iload_n hx hb dL_law_366 rfl (lv_at hl 3 rfl) ?_
  refine lv_iconst (v := 5) hx hb dL_law_367 (by decide) ?_
  refine lv_iadd hx hb dL_law_368 ?_
  refine va_sld hx hb hX hbl hbA h2.2.2.2.2.2 hv5 dL_law_369 ?_
  refine call2i (r := r) (w1' := cw q d σ1) (rest := []) (As := [.int (xs (nI i + 1).toNatClampNeg), .int (xs (nI i + 2).toNatClampNeg), .int (xs (nI i + 3).toNatClampNeg), .int (xs (nI i + 4).toNatClampNeg), .int (xs (nI i + 5).toNatClampNeg)]) C h2 (c_X6_copy l d q σ (xs (nI i + 1).toNatClampNeg) (xs (nI i + 2).toNatClampNeg) (xs (nI i + 3).toNatClampNeg) (xs (nI i + 4).toNatClampNeg) (xs (nI i + 5).toNatClampNeg) (r, σ1) ec) iv_L_32 ⟨rfl, rfl, Nat.le_of_ble_eq_true rfl, Nat.le_of_ble_eq_true rfl⟩ cw_o0 rfl rfl rfl hl.1 (Nat.le_of_ble_eq_true rfl) ⟨Nat.le_refl _, Nat.le_refl _⟩ dL_law_370 (fun H locs h2 => ?_)
  replace h2 := h2.symm
  replace h2 : HS2 d (fun q => s.heap.size ≤ q) s.heap H locs (mw q' d τ) (cw q d σ1) := h2
  refine lv_aload_n hx hb dL_law_373 rfl (lv_at hl 2 rfl) ?_
  refine lv_aload_n hx hb dL_law_374 rfl (lv_at hl 0 rfl) ?_
  refine lv_iload_n hx hb dL_law_375 rfl (lv_at hl 3 rfl) ?_
  refine lv_iconst (v := 1) hx hb dL_law_376 (by decide) ?_
  refine lv_iadd hx hb dL_law_377 ?_
  refine va_sld hx hb hX hbl hbA h2.2.2.2.2.2 hv1 dL_law_378 ?_
  refine lv_aload_n hx hb dL_law_379 rfl (lv_at hl 0 rfl) ?_
  refine lv_iload_n hx hb dL_law_380 rfl (lv_at hl 3 rfl) ?_
  refine lv_iconst (v := 2) hx hb dL_law_381 (by decide) ?_
  refine lv_iadd hx hb dL_law_382 ?_
  refine va_sld hx hb hX hbl hbA h2.2.2.2.2.2 hv2 dL_law_383 ?_
  refine lv_aload_n hx hb dL_law_384 rfl (lv_at hl 0 rfl) ?_
  refine lv_iload_n hx hb dL_law_385 rfl (lv_at hl 3 rfl) ?_
  refine lv_iconst (v := 3) hx hb dL_law_386 (by decide) ?_
  refine lv_iadd hx hb dL_law_387 ?_
  refine va_sld hx hb hX hbl hbA h2.2.2.2.2.2 hv3 dL_law_388 ?_
  refine lv_aload_n hx hb dL_law_389 rfl (lv_at hl 0 rfl) ?_
  refine lv_iload_n hx hb dL_law_390 rfl (lv_at hl 3 rfl) ?_
  refine lv_iconst (v := 4) hx hb dL_law_391 (by decide) ?_
  refine lv_iadd hx hb dL_law_392 ?_
  refine va_sld hx hb hX hbl hbA h2.2.2.2.2.2 hv4 dL_law_393 ?_
  refine lv_aload_n hx hb dL_law_394 rfl (lv_at hl 0 rfl) ?_
  refine lv_iload_n hx hb dL_law_395 rfl (lv_at hl 3 rfl) ?_
  refine lv_iconst (v := 5) hx hb dL_law_396 (by decide) ?_
  refine lv_iadd hx hb dL_law_397 ?_
  refine va_sld hx hb hX hbl hbA h2.2.2.2.2.2 hv5 dL_law_398 ?_
  refine call2i (r := r) (w1' := mw q' d τ1) (rest := [.int r]) (As := [.int (xs (nI i + 1).toNatClampNeg), .int (xs (nI i + 2).toNatClampNeg), .int (xs (nI i + 3).toNatClampNeg), .int (xs (nI i + 4).toNatClampNeg), .int (xs (nI i + 5).toNatClampNeg)]) C h2 (c_X7_copy l d q' τ (xs (nI i + 1).toNatClampNeg) (xs (nI i + 2).toNatClampNeg) (xs (nI i + 3).toNatClampNeg) (xs (nI i + 4).toNatClampNeg) (xs (nI i + 5).toNatClampNeg) (r, τ1) er) iv_L_36 ⟨rfl, rfl, Nat.le_of_ble_eq_true rfl, Nat.le_of_ble_eq_true rfl⟩ mw_o0 rfl rfl rfl hl.1 (Nat.le_of_ble_eq_true rfl) ⟨Nat.le_refl _, Nat.le_refl _⟩ dL_law_399 (fun H locs h2 => ?_)
  replace h2 := h2.symm
  refine lv_icmp_eq (tgt := 1208) hx hb dL_law_402 (by decide) (fun _ => ?_) (fun h => absurd rfl h)
  refine lv_iinc (v := nI i + 6) (lv' := [(3, .int (nI i + 6)), (0, .ref b), (1, .ref (q 0)), (2, .ref (q' 0))]) hx hb dL_law_1208 hl (k := 3) rfl rfl (by decide) rfl (fun ls hl => ?_)
  refine lv_goto (tgt := 18) hx hb dL_law_1211 (by decide) ?_
  rw [show nI i + 6 = nI (i + 6) from nI_add i 6] at hl
  exact ih q q' σ1 τ1 _ _ _ hR1 h2 (lv_sub hl [1, 2, 3, 0] rfl)
set_option maxRecDepth 100000 in
set_option maxHeartbeats 4000000 in
theorem law_mean {Rel : ST → ST → Prop} (hPu : P_mean Rel) {p : Program} {l : Launch} {e : Env} {s : State} {m : MethodId} {below : List Frame} {meth : Method} {c : Code} {b L i : Nat} {xs : Nat → Int32} {d : CD} {q q' : Nat → Nat} {σ τ : ST} {H : Heap} {locs : List Loc} {ls : Array Slot} (C : CX p s m #[Value.ref b] meth c RL code 4 ret d (fun q => s.heap.size ≤ q)) (hX : va_X b L xs s s.heap) (hbl : b < s.heap.size) (hL : L ≤ 384) (hi : i + 6 ≤ L) (hR : Rel σ τ) (h2 : HS2 d (fun q => s.heap.size ≤ q) s.heap H locs (cw q d σ) (mw q' d τ)) (hl : lv_has ls 4 [(0, .ref b), (1, .ref (q 0)), (2, .ref (q' 0)), (3, .int (nI i))]) (ck : xs (nI i).toNatClampNeg &&& 63 = 5)
    (ih : ∀ (q q' : Nat → Nat) (σ τ : ST) (H : Heap) (locs : List Loc) (ls : Array Slot), Rel σ τ → HS2 d (fun q => s.heap.size ≤ q) s.heap H locs (cw q d σ) (mw q' d τ) → lv_has ls 4 [(0, .ref b), (1, .ref (q 0)), (2, .ref (q' 0)), (3, .int (nI (i + 6)))] → W p l e room_1 s m #[Value.ref b] below meth c H locs 600000 7302250 (lw_Z below #[Value.ref b] s) (F0 m 18 ls [])) : W p l e room_1 s m #[Value.ref b] below meth c H locs 600000 7302250 (lw_Z below #[Value.ref b] s) (F0 m 33 ls [.int (xs (nI i).toNatClampNeg &&& 63)]) := by
  obtain ⟨hx, hb, hml, hown, hts, -⟩ := id C
  have hbA : ¬ (fun q => s.heap.size ≤ q) b := Nat.not_le.mpr hbl
  have hv0 : vp_in (nI i) L := vp_in_nI (by omega) (by omega)
  have hv1 : vp_in (nI i + 1) L := by rw [show nI i + 1 = nI (i + 1) from nI_add i 1]; exact vp_in_nI (by omega) (by omega)
  obtain ⟨r, σ1, τ1, ec, er, hR1⟩ := hPu σ τ (xs (nI i + 1).toNatClampNeg) hR
  refine lv_tableIn (off := 374) (tgt := 407) hx hb dL_law_33 (by rw [ck]; decide) (by rw [ck]; decide) (by rw [ck]; rfl) (by decide) ?_
  refine lv_aload_n hx hb dL_law_407 rfl (lv_at hl 1 rfl) ?_
  refine lv_aload_n hx hb dL_law_408 rfl (lv_at hl 0 rfl) ?_
  refine lv_iload_n hx hb dL_law_409 rfl (lv_at hl 3 rfl) ?_
  refine lv_iconst (v := 1) hx hb dL_law_410 (by decide) ?_
  refine lv_iadd hx hb dL_law_411 ?_
  refine va_sld hx hb hX hbl hbA h2.2.2.2.2.2 hv1 dL_law_412 ?_
  refine call2i (r := r) (w1' := cw q d σ1) (rest := []) (As := [.int (xs (nI i + 1).toNatClampNeg)]) C h2 (c_X6_mean l d q σ (xs (nI i + 1).toNatClampNeg) (r, σ1) ec) iv_L_37 ⟨rfl, rfl, Nat.le_of_ble_eq_true rfl, Nat.le_of_ble_eq_true rfl⟩ cw_o0 rfl rfl rfl hl.1 (Nat.le_of_ble_eq_true rfl) ⟨Nat.le_refl _, Nat.le_refl _⟩ dL_law_413 (fun H locs h2 => ?_)
  replace h2 := h2.symm
  replace h2 : HS2 d (fun q => s.heap.size ≤ q) s.heap H locs (mw q' d τ) (cw q d σ1) := h2
  refine lv_aload_n hx hb dL_law_416 rfl (lv_at hl 2 rfl) ?_
  refine lv_aload_n hx hb dL_law_417 rfl (lv_at hl 0 rfl) ?_
  refine lv_iload_n hx hb dL_law_418 rfl (lv_at hl 3 rfl) ?_
  refine lv_iconst (v := 1) hx hb dL_law_419 (by decide) ?_
  refine lv_iadd hx hb dL_law_420 ?_
  refine va_sld hx hb hX hbl hbA h2.2.2.2.2.2 hv1 dL_law_421 ?_
  refine call2i (r := r) (w1' := mw q' d τ1) (rest := [.int r]) (As := [.int (xs (nI i + 1).toNatClampNeg)]) C h2 (c_X7_mean l d q' τ (xs (nI i + 1).toNatClampNeg) (r, τ1) er) iv_L_40 ⟨rfl, rfl, Nat.le_of_ble_eq_true rfl, Nat.le_of_ble_eq_true rfl⟩ mw_o0 rfl rfl rfl hl.1 (Nat.le_of_ble_eq_true rfl) ⟨Nat.le_refl _, Nat.le_refl _⟩ dL_law_422 (fun H locs h2 => ?_)
  replace h2 := h2.symm
  refine lv_icmp_eq (tgt := 1208) hx hb dL_law_425 (by decide) (fun _ => ?_) (fun h => absurd rfl h)
  refine lv_iinc (v := nI i + 6) (lv' := [(3, .int (nI i + 6)), (0, .ref b), (1, .ref (q 0)), (2, .ref (q' 0))]) hx hb dL_law_1208 hl (k := 3) rfl rfl (by decide) rfl (fun ls hl => ?_)
  refine lv_goto (tgt := 18) hx hb dL_law_1211 (by decide) ?_
  rw [show nI i + 6 = nI (i + 6) from nI_add i 6] at hl
  exact ih q q' σ1 τ1 _ _ _ hR1 h2 (lv_sub hl [1, 2, 3, 0] rfl)
set_option maxRecDepth 100000 in
set_option maxHeartbeats 4000000 in
theorem law_text {Rel : ST → ST → Prop} (hPu : P_text Rel) {p : Program} {l : Launch} {e : Env} {s : State} {m : MethodId} {below : List Frame} {meth : Method} {c : Code} {b L i : Nat} {xs : Nat → Int32} {d : CD} {q q' : Nat → Nat} {σ τ : ST} {H : Heap} {locs : List Loc} {ls : Array Slot} (C : CX p s m #[Value.ref b] meth c RL code 4 ret d (fun q => s.heap.size ≤ q)) (hX : va_X b L xs s s.heap) (hbl : b < s.heap.size) (hL : L ≤ 384) (hi : i + 6 ≤ L) (hR : Rel σ τ) (h2 : HS2 d (fun q => s.heap.size ≤ q) s.heap H locs (cw q d σ) (mw q' d τ)) (hl : lv_has ls 4 [(0, .ref b), (1, .ref (q 0)), (2, .ref (q' 0)), (3, .int (nI i))]) (ck : xs (nI i).toNatClampNeg &&& 63 = 6)
    (ih : ∀ (q q' : Nat → Nat) (σ τ : ST) (H : Heap) (locs : List Loc) (ls : Array Slot), Rel σ τ → HS2 d (fun q => s.heap.size ≤ q) s.heap H locs (cw q d σ) (mw q' d τ) → lv_has ls 4 [(0, .ref b), (1, .ref (q 0)), (2, .ref (q' 0)), (3, .int (nI (i + 6)))] → W p l e room_1 s m #[Value.ref b] below meth c H locs 600000 7302250 (lw_Z below #[Value.ref b] s) (F0 m 18 ls [])) : W p l e room_1 s m #[Value.ref b] below meth c H locs 600000 7302250 (lw_Z below #[Value.ref b] s) (F0 m 33 ls [.int (xs (nI i).toNatClampNeg &&& 63)]) := by
  obtain ⟨hx, hb, hml, hown, hts, -⟩ := id C
  have hbA : ¬ (fun q => s.heap.size ≤ q) b := Nat.not_le.mpr hbl
  have hv0 : vp_in (nI i) L := vp_in_nI (by omega) (by omega)
  have hv1 : vp_in (nI i + 1) L := by rw [show nI i + 1 = nI (i + 1) from nI_add i 1]; exact vp_in_nI (by omega) (by omega)
  have hv2 : vp_in (nI i + 2) L := by rw [show nI i + 2 = nI (i + 2) from nI_add i 2]; exact vp_in_nI (by omega) (by omega)
  obtain ⟨r, σ1, τ1, ec, er, hR1⟩ := hPu σ τ (xs (nI i + 1).toNatClampNeg) (xs (nI i + 2).toNatClampNeg) hR
  refine lv_tableIn (off := 397) (tgt := 430) hx hb dL_law_33 (by rw [ck]; decide) (by rw [ck]; decide) (by rw [ck]; rfl) (by decide) ?_
  refine lv_aload_n hx hb dL_law_430 rfl (lv_at hl 1 rfl) ?_
  refine lv_aload_n hx hb dL_law_431 rfl (lv_at hl 0 rfl) ?_
  refine lv_iload_n hx hb dL_law_432 rfl (lv_at hl 3 rfl) ?_
  refine lv_iconst (v := 1) hx hb dL_law_433 (by decide) ?_
  refine lv_iadd hx hb dL_law_434 ?_
  refine va_sld hx hb hX hbl hbA h2.2.2.2.2.2 hv1 dL_law_435 ?_
  refine lv_aload_n hx hb dL_law_436 rfl (lv_at hl 0 rfl) ?_
  refine lv_iload_n hx hb dL_law_437 rfl (lv_at hl 3 rfl) ?_
  refine lv_iconst (v := 2) hx hb dL_law_438 (by decide) ?_
  refine lv_iadd hx hb dL_law_439 ?_
  refine va_sld hx hb hX hbl hbA h2.2.2.2.2.2 hv2 dL_law_440 ?_
  refine call2i (r := r) (w1' := cw q d σ1) (rest := []) (As := [.int (xs (nI i + 1).toNatClampNeg), .int (xs (nI i + 2).toNatClampNeg)]) C h2 (c_X6_text l d q σ (xs (nI i + 1).toNatClampNeg) (xs (nI i + 2).toNatClampNeg) (r, σ1) ec) iv_L_41 ⟨rfl, rfl, Nat.le_of_ble_eq_true rfl, Nat.le_of_ble_eq_true rfl⟩ cw_o0 rfl rfl rfl hl.1 (Nat.le_of_ble_eq_true rfl) ⟨Nat.le_refl _, Nat.le_refl _⟩ dL_law_441 (fun H locs h2 => ?_)
  replace h2 := h2.symm
  replace h2 : HS2 d (fun q => s.heap.size ≤ q) s.heap H locs (mw q' d τ) (cw q d σ1) := h2
  refine lv_aload_n hx hb dL_law_444 rfl (lv_at hl 2 rfl) ?_
  refine lv_aload_n hx hb dL_law_445 rfl (lv_at hl 0 rfl) ?_
  refine lv_iload_n hx hb dL_law_446 rfl (lv_at hl 3 rfl) ?_
  refine lv_iconst (v := 1) hx hb dL_law_447 (by decide) ?_
  refine lv_iadd hx hb dL_law_448 ?_
  refine va_sld hx hb hX hbl hbA h2.2.2.2.2.2 hv1 dL_law_449 ?_
  refine lv_aload_n hx hb dL_law_450 rfl (lv_at hl 0 rfl) ?_
  refine lv_iload_n hx hb dL_law_451 rfl (lv_at hl 3 rfl) ?_
  refine lv_iconst (v := 2) hx hb dL_law_452 (by decide) ?_
  refine lv_iadd hx hb dL_law_453 ?_
  refine va_sld hx hb hX hbl hbA h2.2.2.2.2.2 hv2 dL_law_454 ?_
  refine call2i (r := r) (w1' := mw q' d τ1) (rest := [.int r]) (As := [.int (xs (nI i + 1).toNatClampNeg), .int (xs (nI i + 2).toNatClampNeg)]) C h2 (c_X7_text l d q' τ (xs (nI i + 1).toNatClampNeg) (xs (nI i + 2).toNatClampNeg) (r, τ1) er) iv_L_44 ⟨rfl, rfl, Nat.le_of_ble_eq_true rfl, Nat.le_of_ble_eq_true rfl⟩ mw_o0 rfl rfl rfl hl.1 (Nat.le_of_ble_eq_true rfl) ⟨Nat.le_refl _, Nat.le_refl _⟩ dL_law_455 (fun H locs h2 => ?_)
  replace h2 := h2.symm
  refine lv_icmp_eq (tgt := 1208) hx hb dL_law_458 (by decide) (fun _ => ?_) (fun h => absurd rfl h)
  refine lv_iinc (v := nI i + 6) (lv' := [(3, .int (nI i + 6)), (0, .ref b), (1, .ref (q 0)), (2, .ref (q' 0))]) hx hb dL_law_1208 hl (k := 3) rfl rfl (by decide) rfl (fun ls hl => ?_)
  refine lv_goto (tgt := 18) hx hb dL_law_1211 (by decide) ?_
  rw [show nI i + 6 = nI (i + 6) from nI_add i 6] at hl
  exact ih q q' σ1 τ1 _ _ _ hR1 h2 (lv_sub hl [1, 2, 3, 0] rfl)
set_option maxRecDepth 100000 in
set_option maxHeartbeats 4000000 in
theorem law_put {Rel : ST → ST → Prop} (hPu : P_put Rel) {p : Program} {l : Launch} {e : Env} {s : State} {m : MethodId} {below : List Frame} {meth : Method} {c : Code} {b L i : Nat} {xs : Nat → Int32} {d : CD} {q q' : Nat → Nat} {σ τ : ST} {H : Heap} {locs : List Loc} {ls : Array Slot} (C : CX p s m #[Value.ref b] meth c RL code 4 ret d (fun q => s.heap.size ≤ q)) (hX : va_X b L xs s s.heap) (hbl : b < s.heap.size) (hL : L ≤ 384) (hi : i + 6 ≤ L) (hR : Rel σ τ) (h2 : HS2 d (fun q => s.heap.size ≤ q) s.heap H locs (cw q d σ) (mw q' d τ)) (hl : lv_has ls 4 [(0, .ref b), (1, .ref (q 0)), (2, .ref (q' 0)), (3, .int (nI i))]) (ck : xs (nI i).toNatClampNeg &&& 63 = 7)
    (ih : ∀ (q q' : Nat → Nat) (σ τ : ST) (H : Heap) (locs : List Loc) (ls : Array Slot), Rel σ τ → HS2 d (fun q => s.heap.size ≤ q) s.heap H locs (cw q d σ) (mw q' d τ) → lv_has ls 4 [(0, .ref b), (1, .ref (q 0)), (2, .ref (q' 0)), (3, .int (nI (i + 6)))] → W p l e room_1 s m #[Value.ref b] below meth c H locs 600000 7302250 (lw_Z below #[Value.ref b] s) (F0 m 18 ls [])) : W p l e room_1 s m #[Value.ref b] below meth c H locs 600000 7302250 (lw_Z below #[Value.ref b] s) (F0 m 33 ls [.int (xs (nI i).toNatClampNeg &&& 63)]) := by
  obtain ⟨hx, hb, hml, hown, hts, -⟩ := id C
  have hbA : ¬ (fun q => s.heap.size ≤ q) b := Nat.not_le.mpr hbl
  have hv0 : vp_in (nI i) L := vp_in_nI (by omega) (by omega)
  have hv1 : vp_in (nI i + 1) L := by rw [show nI i + 1 = nI (i + 1) from nI_add i 1]; exact vp_in_nI (by omega) (by omega)
  have hv2 : vp_in (nI i + 2) L := by rw [show nI i + 2 = nI (i + 2) from nI_add i 2]; exact vp_in_nI (by omega) (by omega)
  have hv3 : vp_in (nI i + 3) L := by rw [show nI i + 3 = nI (i + 3) from nI_add i 3]; exact vp_in_nI (by omega) (by omega)
  obtain ⟨r, σ1, τ1, ec, er, hR1⟩ := hPu σ τ (xs (nI i + 1).toNatClampNeg) (xs (nI i + 2).toNatClampNeg) (xs (nI i + 3).toNatClampNeg) hR
  refine lv_tableIn (off := 430) (tgt := 463) hx hb dL_law_33 (by rw [ck]; decide) (by rw [ck]; decide) (by rw [ck]; rfl) (by decide) ?_
  refine lv_aload_n hx hb dL_law_463 rfl (lv_at hl 1 rfl) ?_
  refine lv_aload_n hx hb dL_law_464 rfl (lv_at hl 0 rfl) ?_
  refine lv_iload_n hx hb dL_law_465 rfl (lv_at hl 3 rfl) ?_
  refine lv_iconst (v := 1) hx hb dL_law_466 (by decide) ?_
  refine lv_iadd hx hb dL_law_467 ?_
  refine va_sld hx hb hX hbl hbA h2.2.2.2.2.2 hv1 dL_law_468 ?_
  refine lv_aload_n hx hb dL_law_469 rfl (lv_at hl 0 rfl) ?_
  refine lv_iload_n hx hb dL_law_470 rfl (lv_at hl 3 rfl) ?_
  refine lv_iconst (v := 2) hx hb dL_law_471 (by decide) ?_
  refine lv_iadd hx hb dL_law_472 ?_
  refine va_sld hx hb hX hbl hbA h2.2.2.2.2.2 hv2 dL_law_473 ?_
  refine lv_aload_n hx hb dL_law_474 rfl (lv_at hl 0 rfl) ?_
  refine lv_iload_n hx hb dL_law_475 rfl (lv_at hl 3 rfl) ?_
  refine lv_iconst (v := 3) hx hb dL_law_476 (by decide) ?_
  refine lv_iadd hx hb dL_law_477 ?_
  refine va_sld hx hb hX hbl hbA h2.2.2.2.2.2 hv3 dL_law_478 ?_
  refine call2i (r := r) (w1' := cw q d σ1) (rest := []) (As := [.int (xs (nI i + 1).toNatClampNeg), .int (xs (nI i + 2).toNatClampNeg), .int (xs (nI i + 3).toNatClampNeg)]) C h2 (c_X6_put l d q σ (xs (nI i + 1).toNatClampNeg) (xs (nI i + 2).toNatClampNeg) (xs (nI i + 3).toNatClampNeg) (r, σ1) ec) iv_L_45 ⟨rfl, rfl, Nat.le_of_ble_eq_true rfl, Nat.le_of_ble_eq_true rfl⟩ cw_o0 rfl rfl rfl hl.1 (Nat.le_of_ble_eq_true rfl) ⟨Nat.le_refl _, Nat.le_refl _⟩ dL_law_479 (fun H locs h2 => ?_)
  replace h2 := h2.symm
  replace h2 : HS2 d (fun q => s.heap.size ≤ q) s.heap H locs (mw q' d τ) (cw q d σ1) := h2
  refine lv_aload_n hx hb dL_law_482 rfl (lv_at hl 2 rfl) ?_
  refine lv_aload_n hx hb dL_law_483 rfl (lv_at hl 0 rfl) ?_
  refine lv_iload_n hx hb dL_law_484 rfl (lv_at hl 3 rfl) ?_
  refine lv_iconst (v := 1) hx hb dL_law_485 (by decide) ?_
  refine lv_iadd hx hb dL_law_486 ?_
  refine va_sld hx hb hX hbl hbA h2.2.2.2.2.2 hv1 dL_law_487 ?_
  refine lv_aload_n hx hb dL_law_488 rfl (lv_at hl 0 rfl) ?_
  refine lv_iload_n hx hb dL_law_489 rfl (lv_at hl 3 rfl) ?_
  refine lv_iconst (v := 2) hx hb dL_law_490 (by decide) ?_
  refine lv_iadd hx hb dL_law_491 ?_
  refine va_sld hx hb hX hbl hbA h2.2.2.2.2.2 hv2 dL_law_492 ?_
  refine lv_aload_n hx hb dL_law_493 rfl (lv_at hl 0 rfl) ?_
  refine lv_iload_n hx hb dL_law_494 rfl (lv_at hl 3 rfl) ?_
  refine lv_iconst (v := 3) hx hb dL_law_495 (by decide) ?_
  refine lv_iadd hx hb dL_law_496 ?_
  refine va_sld hx hb hX hbl hbA h2.2.2.2.2.2 hv3 dL_law_497 ?_
  refine call2i (r := r) (w1' := mw q' d τ1) (rest := [.int r]) (As := [.int (xs (nI i + 1).toNatClampNeg), .int (xs (nI i + 2).toNatClampNeg), .int (xs (nI i + 3).toNatClampNeg)]) C h2 (c_X7_put l d q' τ (xs (nI i + 1).toNatClampNeg) (xs (nI i + 2).toNatClampNeg) (xs (nI i + 3).toNatClampNeg) (r, τ1) er) iv_L_48 ⟨rfl, rfl, Nat.le_of_ble_eq_true rfl, Nat.le_of_ble_eq_true rfl⟩ mw_o0 rfl rfl rfl hl.1 (Nat.le_of_ble_eq_true rfl) ⟨Nat.le_refl _, Nat.le_refl _⟩ dL_law_498 (fun H locs h2 => ?_)
  replace h2 := h2.symm
  refine lv_icmp_eq (tgt := 1208) hx hb dL_law_501 (by decide) (fun _ => ?_) (fun h => absurd rfl h)
  refine lv_iinc (v := nI i + 6) (lv' := [(3, .int (nI i + 6)), (0, .ref b), (1, .ref (q 0)), (2, .ref (q' 0))]) hx hb dL_law_1208 hl (k := 3) rfl rfl (by decide) rfl (fun ls hl => ?_)
  refine lv_goto (tgt := 18) hx hb dL_law_1211 (by decide) ?_
  rw [show nI i + 6 = nI (i + 6) from nI_add i 6] at hl
  exact ih q q' σ1 τ1 _ _ _ hR1 h2 (lv_sub hl [1, 2, 3, 0] rfl)
set_option maxRecDepth 100000 in
set_option maxHeartbeats 4000000 in
theorem law_fault {Rel : ST → ST → Prop} (hPu : P_fault Rel) {p : Program} {l : Launch} {e : Env} {s : State} {m : MethodId} {below : List Frame} {meth : Method} {c : Code} {b L i : Nat} {xs : Nat → Int32} {d : CD} {q q' : Nat → Nat} {σ τ : ST} {H : Heap} {locs : List Loc} {ls : Array Slot} (C : CX p s m #[Value.ref b] meth c RL code 4 ret d (fun q => s.heap.size ≤ q)) (hX : va_X b L xs s s.heap) (hbl : b < s.heap.size) (hL : L ≤ 384) (hi : i + 6 ≤ L) (hR : Rel σ τ) (h2 : HS2 d (fun q => s.heap.size ≤ q) s.heap H locs (cw q d σ) (mw q' d τ)) (hl : lv_has ls 4 [(0, .ref b), (1, .ref (q 0)), (2, .ref (q' 0)), (3, .int (nI i))]) (ck : xs (nI i).toNatClampNeg &&& 63 = 8)
    (ih : ∀ (q q' : Nat → Nat) (σ τ : ST) (H : Heap) (locs : List Loc) (ls : Array Slot), Rel σ τ → HS2 d (fun q => s.heap.size ≤ q) s.heap H locs (cw q d σ) (mw q' d τ) → lv_has ls 4 [(0, .ref b), (1, .ref (q 0)), (2, .ref (q' 0)), (3, .int (nI (i + 6)))] → W p l e room_1 s m #[Value.ref b] below meth c H locs 600000 7302250 (lw_Z below #[Value.ref b] s) (F0 m 18 ls [])) : W p l e room_1 s m #[Value.ref b] below meth c H locs 600000 7302250 (lw_Z below #[Value.ref b] s) (F0 m 33 ls [.int (xs (nI i).toNatClampNeg &&& 63)]) := by
  obtain ⟨hx, hb, hml, hown, hts, -⟩ := id C
  have hbA : ¬ (fun q => s.heap.size ≤ q) b := Nat.not_le.mpr hbl
  have hv0 : vp_in (nI i) L := vp_in_nI (by omega) (by omega)
  have hv1 : vp_in (nI i + 1) L := by rw [show nI i + 1 = nI (i + 1) from nI_add i 1]; exact vp_in_nI (by omega) (by omega)
  obtain ⟨r, σ1, τ1, ec, er, hR1⟩ := hPu σ τ (xs (nI i + 1).toNatClampNeg) hR
  refine lv_tableIn (off := 473) (tgt := 506) hx hb dL_law_33 (by rw [ck]; decide) (by rw [ck]; decide) (by rw [ck]; rfl) (by decide) ?_
  refine lv_aload_n hx hb dL_law_506 rfl (lv_at hl 1 rfl) ?_
  refine lv_aload_n hx hb dL_law_507 rfl (lv_at hl 0 rfl) ?_
  refine lv_iload_n hx hb dL_law_508 rfl (lv_at hl 3 rfl) ?_
  refine lv_iconst (v := 1) hx hb dL_law_509 (by decide) ?_
  refine lv_iadd hx hb dL_law_510 ?_
  refine va_sld hx hb hX hbl hbA h2.2.2.2.2.2 hv1 dL_law_511 ?_
  refine call2i (r := r) (w1' := cw q d σ1) (rest := []) (As := [.int (xs (nI i + 1).toNatClampNeg)]) C h2 (c_X6_fault l d q σ (xs (nI i + 1).toNatClampNeg) (r, σ1) ec) iv_L_49 ⟨rfl, rfl, Nat.le_of_ble_eq_true rfl, Nat.le_of_ble_eq_true rfl⟩ cw_o0 rfl rfl rfl hl.1 (Nat.le_of_ble_eq_true rfl) ⟨Nat.le_refl _, Nat.le_refl _⟩ dL_law_512 (fun H locs h2 => ?_)
  replace h2 := h2.symm
  replace h2 : HS2 d (fun q => s.heap.size ≤ q) s.heap H locs (mw q' d τ) (cw q d σ1) := h2
  refine lv_aload_n hx hb dL_law_515 rfl (lv_at hl 2 rfl) ?_
  refine lv_aload_n hx hb dL_law_516 rfl (lv_at hl 0 rfl) ?_
  refine lv_iload_n hx hb dL_law_517 rfl (lv_at hl 3 rfl) ?_
  refine lv_iconst (v := 1) hx hb dL_law_518 (by decide) ?_
  refine lv_iadd hx hb dL_law_519 ?_
  refine va_sld hx hb hX hbl hbA h2.2.2.2.2.2 hv1 dL_law_520 ?_
  refine call2i (r := r) (w1' := mw q' d τ1) (rest := [.int r]) (As := [.int (xs (nI i + 1).toNatClampNeg)]) C h2 (c_X7_fault l d q' τ (xs (nI i + 1).toNatClampNeg) (r, τ1) er) iv_L_52 ⟨rfl, rfl, Nat.le_of_ble_eq_true rfl, Nat.le_of_ble_eq_true rfl⟩ mw_o0 rfl rfl rfl hl.1 (Nat.le_of_ble_eq_true rfl) ⟨Nat.le_refl _, Nat.le_refl _⟩ dL_law_521 (fun H locs h2 => ?_)
  replace h2 := h2.symm
  refine lv_icmp_eq (tgt := 1208) hx hb dL_law_524 (by decide) (fun _ => ?_) (fun h => absurd rfl h)
  refine lv_iinc (v := nI i + 6) (lv' := [(3, .int (nI i + 6)), (0, .ref b), (1, .ref (q 0)), (2, .ref (q' 0))]) hx hb dL_law_1208 hl (k := 3) rfl rfl (by decide) rfl (fun ls hl => ?_)
  refine lv_goto (tgt := 18) hx hb dL_law_1211 (by decide) ?_
  rw [show nI i + 6 = nI (i + 6) from nI_add i 6] at hl
  exact ih q q' σ1 τ1 _ _ _ hR1 h2 (lv_sub hl [1, 2, 3, 0] rfl)
set_option maxRecDepth 100000 in
set_option maxHeartbeats 4000000 in
theorem law_well {Rel : ST → ST → Prop} (hPu : P_well Rel) {p : Program} {l : Launch} {e : Env} {s : State} {m : MethodId} {below : List Frame} {meth : Method} {c : Code} {b L i : Nat} {xs : Nat → Int32} {d : CD} {q q' : Nat → Nat} {σ τ : ST} {H : Heap} {locs : List Loc} {ls : Array Slot} (C : CX p s m #[Value.ref b] meth c RL code 4 ret d (fun q => s.heap.size ≤ q)) (hX : va_X b L xs s s.heap) (hbl : b < s.heap.size) (hL : L ≤ 384) (hi : i + 6 ≤ L) (hR : Rel σ τ) (h2 : HS2 d (fun q => s.heap.size ≤ q) s.heap H locs (cw q d σ) (mw q' d τ)) (hl : lv_has ls 4 [(0, .ref b), (1, .ref (q 0)), (2, .ref (q' 0)), (3, .int (nI i))]) (ck : xs (nI i).toNatClampNeg &&& 63 = 9)
    (ih : ∀ (q q' : Nat → Nat) (σ τ : ST) (H : Heap) (locs : List Loc) (ls : Array Slot), Rel σ τ → HS2 d (fun q => s.heap.size ≤ q) s.heap H locs (cw q d σ) (mw q' d τ) → lv_has ls 4 [(0, .ref b), (1, .ref (q 0)), (2, .ref (q' 0)), (3, .int (nI (i + 6)))] → W p l e room_1 s m #[Value.ref b] below meth c H locs 600000 7302250 (lw_Z below #[Value.ref b] s) (F0 m 18 ls [])) : W p l e room_1 s m #[Value.ref b] below meth c H locs 600000 7302250 (lw_Z below #[Value.ref b] s) (F0 m 33 ls [.int (xs (nI i).toNatClampNeg &&& 63)]) := by
  obtain ⟨hx, hb, hml, hown, hts, -⟩ := id C
  have hbA : ¬ (fun q => s.heap.size ≤ q) b := Nat.not_le.mpr hbl
  have hv0 : vp_in (nI i) L := vp_in_nI (by omega) (by omega)
  have hv1 : vp_in (nI i + 1) L := by rw [show nI i + 1 = nI (i + 1) from nI_add i 1]; exact vp_in_nI (by omega) (by omega)
  obtain ⟨r, σ1, fl, τ1, ec, er, hR1⟩ := hPu σ τ (xs (nI i + 1).toNatClampNeg) hR
  refine lv_tableIn (off := 496) (tgt := 529) hx hb dL_law_33 (by rw [ck]; decide) (by rw [ck]; decide) (by rw [ck]; rfl) (by decide) ?_
  refine lv_aload_n hx hb dL_law_529 rfl (lv_at hl 1 rfl) ?_
  refine lv_aload_n hx hb dL_law_530 rfl (lv_at hl 0 rfl) ?_
  refine lv_iload_n hx hb dL_law_531 rfl (lv_at hl 3 rfl) ?_
  refine lv_iconst (v := 1) hx hb dL_law_532 (by decide) ?_
  refine lv_iadd hx hb dL_law_533 ?_
  refine va_sld hx hb hX hbl hbA h2.2.2.2.2.2 hv1 dL_law_534 ?_
  refine call2i (r := r) (w1' := cw (cond fl (swq q) q) d σ1) (rest := []) (As := [.int (xs (nI i + 1).toNatClampNeg)]) C h2 (c_X6_well l d q σ (xs (nI i + 1).toNatClampNeg) (r, σ1, fl) ec) iv_L_53 ⟨rfl, rfl, Nat.le_of_ble_eq_true rfl, Nat.le_of_ble_eq_true rfl⟩ cw_o0 rfl rfl rfl hl.1 (Nat.le_of_ble_eq_true rfl) ⟨Nat.le_refl _, Nat.le_refl _⟩ dL_law_535 (fun H locs h2 => ?_)
  replace h2 := h2.symm
  replace h2 : HS2 d (fun q => s.heap.size ≤ q) s.heap H locs (mw q' d τ) (cw (cond fl (swq q) q) d σ1) := h2
  refine lv_aload_n hx hb dL_law_538 rfl (lv_at hl 2 rfl) ?_
  refine lv_aload_n hx hb dL_law_539 rfl (lv_at hl 0 rfl) ?_
  refine lv_iload_n hx hb dL_law_540 rfl (lv_at hl 3 rfl) ?_
  refine lv_iconst (v := 1) hx hb dL_law_541 (by decide) ?_
  refine lv_iadd hx hb dL_law_542 ?_
  refine va_sld hx hb hX hbl hbA h2.2.2.2.2.2 hv1 dL_law_543 ?_
  refine call2i (r := r) (w1' := mw q' d τ1) (rest := [.int r]) (As := [.int (xs (nI i + 1).toNatClampNeg)]) C h2 (c_X7_well l d q' τ (xs (nI i + 1).toNatClampNeg) (r, τ1) er) iv_L_56 ⟨rfl, rfl, Nat.le_of_ble_eq_true rfl, Nat.le_of_ble_eq_true rfl⟩ mw_o0 rfl rfl rfl hl.1 (Nat.le_of_ble_eq_true rfl) ⟨Nat.le_refl _, Nat.le_refl _⟩ dL_law_544 (fun H locs h2 => ?_)
  replace h2 := h2.symm
  refine lv_icmp_eq (tgt := 1208) hx hb dL_law_547 (by decide) (fun _ => ?_) (fun h => absurd rfl h)
  refine lv_iinc (v := nI i + 6) (lv' := [(3, .int (nI i + 6)), (0, .ref b), (1, .ref (q 0)), (2, .ref (q' 0))]) hx hb dL_law_1208 hl (k := 3) rfl rfl (by decide) rfl (fun ls hl => ?_)
  refine lv_goto (tgt := 18) hx hb dL_law_1211 (by decide) ?_
  rw [show nI i + 6 = nI (i + 6) from nI_add i 6] at hl
  have e0 : (cond fl (swq q) q) 0 = q 0 := by cases fl <;> rfl
  rw [← e0] at hl
  exact ih (cond fl (swq q) q) q' σ1 τ1 _ _ _ hR1 h2 (lv_sub hl [1, 2, 3, 0] rfl)
set_option maxRecDepth 100000 in
set_option maxHeartbeats 4000000 in
theorem law_house {Rel : ST → ST → Prop} (hPu : P_house Rel) {p : Program} {l : Launch} {e : Env} {s : State} {m : MethodId} {below : List Frame} {meth : Method} {c : Code} {b L i : Nat} {xs : Nat → Int32} {d : CD} {q q' : Nat → Nat} {σ τ : ST} {H : Heap} {locs : List Loc} {ls : Array Slot} (C : CX p s m #[Value.ref b] meth c RL code 4 ret d (fun q => s.heap.size ≤ q)) (hX : va_X b L xs s s.heap) (hbl : b < s.heap.size) (hL : L ≤ 384) (hi : i + 6 ≤ L) (hR : Rel σ τ) (h2 : HS2 d (fun q => s.heap.size ≤ q) s.heap H locs (cw q d σ) (mw q' d τ)) (hl : lv_has ls 4 [(0, .ref b), (1, .ref (q 0)), (2, .ref (q' 0)), (3, .int (nI i))]) (ck : xs (nI i).toNatClampNeg &&& 63 = 10)
    (ih : ∀ (q q' : Nat → Nat) (σ τ : ST) (H : Heap) (locs : List Loc) (ls : Array Slot), Rel σ τ → HS2 d (fun q => s.heap.size ≤ q) s.heap H locs (cw q d σ) (mw q' d τ) → lv_has ls 4 [(0, .ref b), (1, .ref (q 0)), (2, .ref (q' 0)), (3, .int (nI (i + 6)))] → W p l e room_1 s m #[Value.ref b] below meth c H locs 600000 7302250 (lw_Z below #[Value.ref b] s) (F0 m 18 ls [])) : W p l e room_1 s m #[Value.ref b] below meth c H locs 600000 7302250 (lw_Z below #[Value.ref b] s) (F0 m 33 ls [.int (xs (nI i).toNatClampNeg &&& 63)]) := by
  obtain ⟨hx, hb, hml, hown, hts, -⟩ := id C
  have hbA : ¬ (fun q => s.heap.size ≤ q) b := Nat.not_le.mpr hbl
  have hv0 : vp_in (nI i) L := vp_in_nI (by omega) (by omega)
  have hv1 : vp_in (nI i + 1) L := by rw [show nI i + 1 = nI (i + 1) from nI_add i 1]; exact vp_in_nI (by omega) (by omega)
  have hv2 : vp_in (nI i + 2) L := by rw [show nI i + 2 = nI (i + 2) from nI_add i 2]; exact vp_in_nI (by omega) (by omega)
  obtain ⟨r, σ1, τ1, ec, er, hR1⟩ := hPu σ τ (xs (nI i + 1).toNatClampNeg) (xs (nI i + 2).toNatClampNeg) hR
  refine lv_tableIn (off := 519) (tgt := 552) hx hb dL_law_33 (by rw [ck]; decide) (by rw [ck]; decide) (by rw [ck]; rfl) (by decide) ?_
  refine lv_aload_n hx hb dL_law_552 rfl (lv_at hl 1 rfl) ?_
  refine lv_aload_n hx hb dL_law_553 rfl (lv_at hl 0 rfl) ?_
  refine lv_iload_n hx hb dL_law_554 rfl (lv_at hl 3 rfl) ?_
  refine lv_iconst (v := 1) hx hb dL_law_555 (by decide) ?_
  refine lv_iadd hx hb dL_law_556 ?_
  refine va_sld hx hb hX hbl hbA h2.2.2.2.2.2 hv1 dL_law_557 ?_
  refine lv_aload_n hx hb dL_law_558 rfl (lv_at hl 0 rfl) ?_
  refine lv_iload_n hx hb dL_law_559 rfl (lv_at hl 3 rfl) ?_
  refine lv_iconst (v := 2) hx hb dL_law_560 (by decide) ?_
  refine lv_iadd hx hb dL_law_561 ?_
  refine va_sld hx hb hX hbl hbA h2.2.2.2.2.2 hv2 dL_law_562 ?_
  refine call2i (r := r) (w1' := cw q d σ1) (rest := []) (As := [.int (xs (nI i + 1).toNatClampNeg), .int (xs (nI i + 2).toNatClampNeg)]) C h2 (c_X6_house l d q σ (xs (nI i + 1).toNatClampNeg) (xs (nI i + 2).toNatClampNeg) (r, σ1) ec) iv_L_57 ⟨rfl, rfl, Nat.le_of_ble_eq_true rfl, Nat.le_of_ble_eq_true rfl⟩ cw_o0 rfl rfl rfl hl.1 (Nat.le_of_ble_eq_true rfl) ⟨Nat.le_refl _, Nat.le_refl _⟩ dL_law_563 (fun H locs h2 => ?_)
  replace h2 := h2.symm
  replace h2 : HS2 d (fun q => s.heap.size ≤ q) s.heap H locs (mw q' d τ) (cw q d σ1) := h2
  refine lv_aload_n hx hb dL_law_566 rfl (lv_at hl 2 rfl) ?_
  refine lv_aload_n hx hb dL_law_567 rfl (lv_at hl 0 rfl) ?_
  refine lv_iload_n hx hb dL_law_568 rfl (lv_at hl 3 rfl) ?_
  refine lv_iconst (v := 1) hx hb dL_law_569 (by decide) ?_
  refine lv_iadd hx hb dL_law_570 ?_
  refine va_sld hx hb hX hbl hbA h2.2.2.2.2.2 hv1 dL_law_571 ?_
  refine lv_aload_n hx hb dL_law_572 rfl (lv_at hl 0 rfl) ?_
  refine lv_iload_n hx hb dL_law_573 rfl (lv_at hl 3 rfl) ?_
  refine lv_iconst (v := 2) hx hb dL_law_574 (by decide) ?_
  refine lv_iadd hx hb dL_law_575 ?_
  refine va_sld hx hb hX hbl hbA h2.2.2.2.2.2 hv2 dL_law_576 ?_
  refine call2i (r := r) (w1' := mw q' d τ1) (rest := [.int r]) (As := [.int (xs (nI i + 1).toNatClampNeg), .int (xs (nI i + 2).toNatClampNeg)]) C h2 (c_X7_house l d q' τ (xs (nI i + 1).toNatClampNeg) (xs (nI i + 2).toNatClampNeg) (r, τ1) er) iv_L_60 ⟨rfl, rfl, Nat.le_of_ble_eq_true rfl, Nat.le_of_ble_eq_true rfl⟩ mw_o0 rfl rfl rfl hl.1 (Nat.le_of_ble_eq_true rfl) ⟨Nat.le_refl _, Nat.le_refl _⟩ dL_law_577 (fun H locs h2 => ?_)
  replace h2 := h2.symm
  refine lv_icmp_eq (tgt := 1208) hx hb dL_law_580 (by decide) (fun _ => ?_) (fun h => absurd rfl h)
  refine lv_iinc (v := nI i + 6) (lv' := [(3, .int (nI i + 6)), (0, .ref b), (1, .ref (q 0)), (2, .ref (q' 0))]) hx hb dL_law_1208 hl (k := 3) rfl rfl (by decide) rfl (fun ls hl => ?_)
  refine lv_goto (tgt := 18) hx hb dL_law_1211 (by decide) ?_
  rw [show nI i + 6 = nI (i + 6) from nI_add i 6] at hl
  exact ih q q' σ1 τ1 _ _ _ hR1 h2 (lv_sub hl [1, 2, 3, 0] rfl)
set_option maxRecDepth 100000 in
set_option maxHeartbeats 4000000 in
theorem law_mark {Rel : ST → ST → Prop} (hPu : P_mark Rel) {p : Program} {l : Launch} {e : Env} {s : State} {m : MethodId} {below : List Frame} {meth : Method} {c : Code} {b L i : Nat} {xs : Nat → Int32} {d : CD} {q q' : Nat → Nat} {σ τ : ST} {H : Heap} {locs : List Loc} {ls : Array Slot} (C : CX p s m #[Value.ref b] meth c RL code 4 ret d (fun q => s.heap.size ≤ q)) (hX : va_X b L xs s s.heap) (hbl : b < s.heap.size) (hL : L ≤ 384) (hi : i + 6 ≤ L) (hR : Rel σ τ) (h2 : HS2 d (fun q => s.heap.size ≤ q) s.heap H locs (cw q d σ) (mw q' d τ)) (hl : lv_has ls 4 [(0, .ref b), (1, .ref (q 0)), (2, .ref (q' 0)), (3, .int (nI i))]) (ck : xs (nI i).toNatClampNeg &&& 63 = 11)
    (ih : ∀ (q q' : Nat → Nat) (σ τ : ST) (H : Heap) (locs : List Loc) (ls : Array Slot), Rel σ τ → HS2 d (fun q => s.heap.size ≤ q) s.heap H locs (cw q d σ) (mw q' d τ) → lv_has ls 4 [(0, .ref b), (1, .ref (q 0)), (2, .ref (q' 0)), (3, .int (nI (i + 6)))] → W p l e room_1 s m #[Value.ref b] below meth c H locs 600000 7302250 (lw_Z below #[Value.ref b] s) (F0 m 18 ls [])) : W p l e room_1 s m #[Value.ref b] below meth c H locs 600000 7302250 (lw_Z below #[Value.ref b] s) (F0 m 33 ls [.int (xs (nI i).toNatClampNeg &&& 63)]) := by
  obtain ⟨hx, hb, hml, hown, hts, -⟩ := id C
  have hbA : ¬ (fun q => s.heap.size ≤ q) b := Nat.not_le.mpr hbl
  have hv0 : vp_in (nI i) L := vp_in_nI (by omega) (by omega)
  have hv1 : vp_in (nI i + 1) L := by rw [show nI i + 1 = nI (i + 1) from nI_add i 1]; exact vp_in_nI (by omega) (by omega)
  have hv2 : vp_in (nI i + 2) L := by rw [show nI i + 2 = nI (i + 2) from nI_add i 2]; exact vp_in_nI (by omega) (by omega)
  obtain ⟨r, σ1, τ1, ec, er, hR1⟩ := hPu σ τ (xs (nI i + 1).toNatClampNeg) (xs (nI i + 2).toNatClampNeg) hR
  refine lv_tableIn (off := 552) (tgt := 585) hx hb dL_law_33 (by rw [ck]; decide) (by rw [ck]; decide) (by rw [ck]; rfl) (by decide) ?_
  refine lv_aload_n hx hb dL_law_585 rfl (lv_at hl 1 rfl) ?_
  refine lv_aload_n hx hb dL_law_586 rfl (lv_at hl 0 rfl) ?_
  refine lv_iload_n hx hb dL_law_587 rfl (lv_at hl 3 rfl) ?_
  refine lv_iconst (v := 1) hx hb dL_law_588 (by decide) ?_
  refine lv_iadd hx hb dL_law_589 ?_
  refine va_sld hx hb hX hbl hbA h2.2.2.2.2.2 hv1 dL_law_590 ?_
  refine lv_aload_n hx hb dL_law_591 rfl (lv_at hl 0 rfl) ?_
  refine lv_iload_n hx hb dL_law_592 rfl (lv_at hl 3 rfl) ?_
  refine lv_iconst (v := 2) hx hb dL_law_593 (by decide) ?_
  refine lv_iadd hx hb dL_law_594 ?_
  refine va_sld hx hb hX hbl hbA h2.2.2.2.2.2 hv2 dL_law_595 ?_
  refine call2i (r := r) (w1' := cw q d σ1) (rest := []) (As := [.int (xs (nI i + 1).toNatClampNeg), .int (xs (nI i + 2).toNatClampNeg)]) C h2 (c_X6_mark l d q σ (xs (nI i + 1).toNatClampNeg) (xs (nI i + 2).toNatClampNeg) (r, σ1) ec) iv_L_61 ⟨rfl, rfl, Nat.le_of_ble_eq_true rfl, Nat.le_of_ble_eq_true rfl⟩ cw_o0 rfl rfl rfl hl.1 (Nat.le_of_ble_eq_true rfl) ⟨Nat.le_refl _, Nat.le_refl _⟩ dL_law_596 (fun H locs h2 => ?_)
  replace h2 := h2.symm
  replace h2 : HS2 d (fun q => s.heap.size ≤ q) s.heap H locs (mw q' d τ) (cw q d σ1) := h2
  refine lv_aload_n hx hb dL_law_599 rfl (lv_at hl 2 rfl) ?_
  refine lv_aload_n hx hb dL_law_600 rfl (lv_at hl 0 rfl) ?_
  refine lv_iload_n hx hb dL_law_601 rfl (lv_at hl 3 rfl) ?_
  refine lv_iconst (v := 1) hx hb dL_law_602 (by decide) ?_
  refine lv_iadd hx hb dL_law_603 ?_
  refine va_sld hx hb hX hbl hbA h2.2.2.2.2.2 hv1 dL_law_604 ?_
  refine lv_aload_n hx hb dL_law_605 rfl (lv_at hl 0 rfl) ?_
  refine lv_iload_n hx hb dL_law_606 rfl (lv_at hl 3 rfl) ?_
  refine lv_iconst (v := 2) hx hb dL_law_607 (by decide) ?_
  refine lv_iadd hx hb dL_law_608 ?_
  refine va_sld hx hb hX hbl hbA h2.2.2.2.2.2 hv2 dL_law_609 ?_
  refine call2i (r := r) (w1' := mw q' d τ1) (rest := [.int r]) (As := [.int (xs (nI i + 1).toNatClampNeg), .int (xs (nI i + 2).toNatClampNeg)]) C h2 (c_X7_mark l d q' τ (xs (nI i + 1).toNatClampNeg) (xs (nI i + 2).toNatClampNeg) (r, τ1) er) iv_L_64 ⟨rfl, rfl, Nat.le_of_ble_eq_true rfl, Nat.le_of_ble_eq_true rfl⟩ mw_o0 rfl rfl rfl hl.1 (Nat.le_of_ble_eq_true rfl) ⟨Nat.le_refl _, Nat.le_refl _⟩ dL_law_610 (fun H locs h2 => ?_)
  replace h2 := h2.symm
  refine lv_icmp_eq (tgt := 1208) hx hb dL_law_613 (by decide) (fun _ => ?_) (fun h => absurd rfl h)
  refine lv_iinc (v := nI i + 6) (lv' := [(3, .int (nI i + 6)), (0, .ref b), (1, .ref (q 0)), (2, .ref (q' 0))]) hx hb dL_law_1208 hl (k := 3) rfl rfl (by decide) rfl (fun ls hl => ?_)
  refine lv_goto (tgt := 18) hx hb dL_law_1211 (by decide) ?_
  rw [show nI i + 6 = nI (i + 6) from nI_add i 6] at hl
  exact ih q q' σ1 τ1 _ _ _ hR1 h2 (lv_sub hl [1, 2, 3, 0] rfl)
set_option maxRecDepth 100000 in
set_option maxHeartbeats 4000000 in
theorem law_meet {Rel : ST → ST → Prop} (hPu : P_meet Rel) {p : Program} {l : Launch} {e : Env} {s : State} {m : MethodId} {below : List Frame} {meth : Method} {c : Code} {b L i : Nat} {xs : Nat → Int32} {d : CD} {q q' : Nat → Nat} {σ τ : ST} {H : Heap} {locs : List Loc} {ls : Array Slot} (C : CX p s m #[Value.ref b] meth c RL code 4 ret d (fun q => s.heap.size ≤ q)) (hX : va_X b L xs s s.heap) (hbl : b < s.heap.size) (hL : L ≤ 384) (hi : i + 6 ≤ L) (hR : Rel σ τ) (h2 : HS2 d (fun q => s.heap.size ≤ q) s.heap H locs (cw q d σ) (mw q' d τ)) (hl : lv_has ls 4 [(0, .ref b), (1, .ref (q 0)), (2, .ref (q' 0)), (3, .int (nI i))]) (ck : xs (nI i).toNatClampNeg &&& 63 = 12)
    (ih : ∀ (q q' : Nat → Nat) (σ τ : ST) (H : Heap) (locs : List Loc) (ls : Array Slot), Rel σ τ → HS2 d (fun q => s.heap.size ≤ q) s.heap H locs (cw q d σ) (mw q' d τ) → lv_has ls 4 [(0, .ref b), (1, .ref (q 0)), (2, .ref (q' 0)), (3, .int (nI (i + 6)))] → W p l e room_1 s m #[Value.ref b] below meth c H locs 600000 7302250 (lw_Z below #[Value.ref b] s) (F0 m 18 ls [])) : W p l e room_1 s m #[Value.ref b] below meth c H locs 600000 7302250 (lw_Z below #[Value.ref b] s) (F0 m 33 ls [.int (xs (nI i).toNatClampNeg &&& 63)]) := by
  obtain ⟨hx, hb, hml, hown, hts, -⟩ := id C
  have hbA : ¬ (fun q => s.heap.size ≤ q) b := Nat.not_le.mpr hbl
  have hv0 : vp_in (nI i) L := vp_in_nI (by omega) (by omega)
  have hv1 : vp_in (nI i + 1) L := by rw [show nI i + 1 = nI (i + 1) from nI_add i 1]; exact vp_in_nI (by omega) (by omega)
  obtain ⟨r, σ1, τ1, ec, er, hR1⟩ := hPu σ τ (xs (nI i + 1).toNatClampNeg) hR
  refine lv_tableIn (off := 585) (tgt := 618) hx hb dL_law_33 (by rw [ck]; decide) (by rw [ck]; decide) (by rw [ck]; rfl) (by decide) ?_
  refine lv_aload_n hx hb dL_law_618 rfl (lv_at hl 1 rfl) ?_
  refine lv_aload_n hx hb dL_law_619 rfl (lv_at hl 0 rfl) ?_
  refine lv_iload_n hx hb dL_law_620 rfl (lv_at hl 3 rfl) ?_
  refine lv_iconst (v := 1) hx hb dL_law_621 (by decide) ?_
  refine lv_iadd hx hb dL_law_622 ?_
  refine va_sld hx hb hX hbl hbA h2.2.2.2.2.2 hv1 dL_law_623 ?_
  refine call2i (r := r) (w1' := cw q d σ1) (rest := []) (As := [.int (xs (nI i + 1).toNatClampNeg)]) C h2 (c_X6_meet l d q σ (xs (nI i + 1).toNatClampNeg) (r, σ1) ec) iv_L_65 ⟨rfl, rfl, Nat.le_of_ble_eq_true rfl, Nat.le_of_ble_eq_true rfl⟩ cw_o0 rfl rfl rfl hl.1 (Nat.le_of_ble_eq_true rfl) ⟨Nat.le_refl _, Nat.le_refl _⟩ dL_law_624 (fun H locs h2 => ?_)
  replace h2 := h2.symm
  replace h2 : HS2 d (fun q => s.heap.size ≤ q) s.heap H locs (mw q' d τ) (cw q d σ1) := h2
  refine lv_aload_n hx hb dL_law_627 rfl (lv_at hl 2 rfl) ?_
  refine lv_aload_n hx hb dL_law_628 rfl (lv_at hl 0 rfl) ?_
  refine lv_iload_n hx hb dL_law_629 rfl (lv_at hl 3 rfl) ?_
  refine lv_iconst (v := 1) hx hb dL_law_630 (by decide) ?_
  refine lv_iadd hx hb dL_law_631 ?_
  refine va_sld hx hb hX hbl hbA h2.2.2.2.2.2 hv1 dL_law_632 ?_
  refine call2i (r := r) (w1' := mw q' d τ1) (rest := [.int r]) (As := [.int (xs (nI i + 1).toNatClampNeg)]) C h2 (c_X7_meet l d q' τ (xs (nI i + 1).toNatClampNeg) (r, τ1) er) iv_L_68 ⟨rfl, rfl, Nat.le_of_ble_eq_true rfl, Nat.le_of_ble_eq_true rfl⟩ mw_o0 rfl rfl rfl hl.1 (Nat.le_of_ble_eq_true rfl) ⟨Nat.le_refl _, Nat.le_refl _⟩ dL_law_633 (fun H locs h2 => ?_)
  replace h2 := h2.symm
  refine lv_icmp_eq (tgt := 1208) hx hb dL_law_636 (by decide) (fun _ => ?_) (fun h => absurd rfl h)
  refine lv_iinc (v := nI i + 6) (lv' := [(3, .int (nI i + 6)), (0, .ref b), (1, .ref (q 0)), (2, .ref (q' 0))]) hx hb dL_law_1208 hl (k := 3) rfl rfl (by decide) rfl (fun ls hl => ?_)
  refine lv_goto (tgt := 18) hx hb dL_law_1211 (by decide) ?_
  rw [show nI i + 6 = nI (i + 6) from nI_add i 6] at hl
  exact ih q q' σ1 τ1 _ _ _ hR1 h2 (lv_sub hl [1, 2, 3, 0] rfl)
set_option maxRecDepth 100000 in
set_option maxHeartbeats 4000000 in
theorem law_pledge {Rel : ST → ST → Prop} (hPu : P_pledge Rel) {p : Program} {l : Launch} {e : Env} {s : State} {m : MethodId} {below : List Frame} {meth : Method} {c : Code} {b L i : Nat} {xs : Nat → Int32} {d : CD} {q q' : Nat → Nat} {σ τ : ST} {H : Heap} {locs : List Loc} {ls : Array Slot} (C : CX p s m #[Value.ref b] meth c RL code 4 ret d (fun q => s.heap.size ≤ q)) (hX : va_X b L xs s s.heap) (hbl : b < s.heap.size) (hL : L ≤ 384) (hi : i + 6 ≤ L) (hR : Rel σ τ) (h2 : HS2 d (fun q => s.heap.size ≤ q) s.heap H locs (cw q d σ) (mw q' d τ)) (hl : lv_has ls 4 [(0, .ref b), (1, .ref (q 0)), (2, .ref (q' 0)), (3, .int (nI i))]) (ck : xs (nI i).toNatClampNeg &&& 63 = 13)
    (ih : ∀ (q q' : Nat → Nat) (σ τ : ST) (H : Heap) (locs : List Loc) (ls : Array Slot), Rel σ τ → HS2 d (fun q => s.heap.size ≤ q) s.heap H locs (cw q d σ) (mw q' d τ) → lv_has ls 4 [(0, .ref b), (1, .ref (q 0)), (2, .ref (q' 0)), (3, .int (nI (i + 6)))] → W p l e room_1 s m #[Value.ref b] below meth c H locs 600000 7302250 (lw_Z below #[Value.ref b] s) (F0 m 18 ls [])) : W p l e room_1 s m #[Value.ref b] below meth c H locs 600000 7302250 (lw_Z below #[Value.ref b] s) (F0 m 33 ls [.int (xs (nI i).toNatClampNeg &&& 63)]) := by
  obtain ⟨hx, hb, hml, hown, hts, -⟩ := id C
  have hbA : ¬ (fun q => s.heap.size ≤ q) b := Nat.not_le.mpr hbl
  have hv0 : vp_in (nI i) L := vp_in_nI (by omega) (by omega)
  have hv1 : vp_in (nI i + 1) L := by rw [show nI i + 1 = nI (i + 1) from nI_add i 1]; exact vp_in_nI (by omega) (by omega)
  have hv2 : vp_in (nI i + 2) L := by rw [show nI i + 2 = nI (i + 2) from nI_add i 2]; exact vp_in_nI (by omega) (by omega)
  obtain ⟨r, σ1, τ1, ec, er, hR1⟩ := hPu σ τ (xs (nI i + 1).toNatClampNeg) (xs (nI i + 2).toNatClampNeg) hR
  refine lv_tableIn (off := 608) (tgt := 641) hx hb dL_law_33 (by rw [ck]; decide) (by rw [ck]; decide) (by rw [ck]; rfl) (by decide) ?_
  refine lv_aload_n hx hb dL_law_641 rfl (lv_at hl 1 rfl) ?_
  refine lv_aload_n hx hb dL_law_642 rfl (lv_at hl 0 rfl) ?_
  refine lv_iload_n hx hb dL_law_643 rfl (lv_at hl 3 rfl) ?_
  refine lv_iconst (v := 1) hx hb dL_law_644 (by decide) ?_
  refine lv_iadd hx hb dL_law_645 ?_
  refine va_sld hx hb hX hbl hbA h2.2.2.2.2.2 hv1 dL_law_646 ?_
  refine lv_aload_n hx hb dL_law_647 rfl (lv_at hl 0 rfl) ?_
  refine lv_iload_n hx hb dL_law_648 rfl (lv_at hl 3 rfl) ?_
  refine lv_iconst (v := 2) hx hb dL_law_649 (by decide) ?_
  refine lv_iadd hx hb dL_law_650 ?_
  refine va_sld hx hb hX hbl hbA h2.2.2.2.2.2 hv2 dL_law_651 ?_
  refine call2i (r := r) (w1' := cw q d σ1) (rest := []) (As := [.int (xs (nI i + 1).toNatClampNeg), .int (xs (nI i + 2).toNatClampNeg)]) C h2 (c_X6_pledge l d q σ (xs (nI i + 1).toNatClampNeg) (xs (nI i + 2).toNatClampNeg) (r, σ1) ec) iv_L_69 ⟨rfl, rfl, Nat.le_of_ble_eq_true rfl, Nat.le_of_ble_eq_true rfl⟩ cw_o0 rfl rfl rfl hl.1 (Nat.le_of_ble_eq_true rfl) ⟨Nat.le_refl _, Nat.le_refl _⟩ dL_law_652 (fun H locs h2 => ?_)
  replace h2 := h2.symm
  replace h2 : HS2 d (fun q => s.heap.size ≤ q) s.heap H locs (mw q' d τ) (cw q d σ1) := h2
  refine lv_aload_n hx hb dL_law_655 rfl (lv_at hl 2 rfl) ?_
  refine lv_aload_n hx hb dL_law_656 rfl (lv_at hl 0 rfl) ?_
  refine lv_iload_n hx hb dL_law_657 rfl (lv_at hl 3 rfl) ?_
  refine lv_iconst (v := 1) hx hb dL_law_658 (by decide) ?_
  refine lv_iadd hx hb dL_law_659 ?_
  refine va_sld hx hb hX hbl hbA h2.2.2.2.2.2 hv1 dL_law_660 ?_
  refine lv_aload_n hx hb dL_law_661 rfl (lv_at hl 0 rfl) ?_
  refine lv_iload_n hx hb dL_law_662 rfl (lv_at hl 3 rfl) ?_
  refine lv_iconst (v := 2) hx hb dL_law_663 (by decide) ?_
  refine lv_iadd hx hb dL_law_664 ?_
  refine va_sld hx hb hX hbl hbA h2.2.2.2.2.2 hv2 dL_law_665 ?_
  refine call2i (r := r) (w1' := mw q' d τ1) (rest := [.int r]) (As := [.int (xs (nI i + 1).toNatClampNeg), .int (xs (nI i + 2).toNatClampNeg)]) C h2 (c_X7_pledge l d q' τ (xs (nI i + 1).toNatClampNeg) (xs (nI i + 2).toNatClampNeg) (r, τ1) er) iv_L_72 ⟨rfl, rfl, Nat.le_of_ble_eq_true rfl, Nat.le_of_ble_eq_true rfl⟩ mw_o0 rfl rfl rfl hl.1 (Nat.le_of_ble_eq_true rfl) ⟨Nat.le_refl _, Nat.le_refl _⟩ dL_law_666 (fun H locs h2 => ?_)
  replace h2 := h2.symm
  refine lv_icmp_eq (tgt := 1208) hx hb dL_law_669 (by decide) (fun _ => ?_) (fun h => absurd rfl h)
  refine lv_iinc (v := nI i + 6) (lv' := [(3, .int (nI i + 6)), (0, .ref b), (1, .ref (q 0)), (2, .ref (q' 0))]) hx hb dL_law_1208 hl (k := 3) rfl rfl (by decide) rfl (fun ls hl => ?_)
  refine lv_goto (tgt := 18) hx hb dL_law_1211 (by decide) ?_
  rw [show nI i + 6 = nI (i + 6) from nI_add i 6] at hl
  exact ih q q' σ1 τ1 _ _ _ hR1 h2 (lv_sub hl [1, 2, 3, 0] rfl)
set_option maxRecDepth 100000 in
set_option maxHeartbeats 4000000 in
theorem law_day {Rel : ST → ST → Prop} (hPu : P_day Rel) {p : Program} {l : Launch} {e : Env} {s : State} {m : MethodId} {below : List Frame} {meth : Method} {c : Code} {b L i : Nat} {xs : Nat → Int32} {d : CD} {q q' : Nat → Nat} {σ τ : ST} {H : Heap} {locs : List Loc} {ls : Array Slot} (C : CX p s m #[Value.ref b] meth c RL code 4 ret d (fun q => s.heap.size ≤ q)) (hX : va_X b L xs s s.heap) (hbl : b < s.heap.size) (hL : L ≤ 384) (hi : i + 6 ≤ L) (hR : Rel σ τ) (h2 : HS2 d (fun q => s.heap.size ≤ q) s.heap H locs (cw q d σ) (mw q' d τ)) (hl : lv_has ls 4 [(0, .ref b), (1, .ref (q 0)), (2, .ref (q' 0)), (3, .int (nI i))]) (ck : xs (nI i).toNatClampNeg &&& 63 = 14)
    (ih : ∀ (q q' : Nat → Nat) (σ τ : ST) (H : Heap) (locs : List Loc) (ls : Array Slot), Rel σ τ → HS2 d (fun q => s.heap.size ≤ q) s.heap H locs (cw q d σ) (mw q' d τ) → lv_has ls 4 [(0, .ref b), (1, .ref (q 0)), (2, .ref (q' 0)), (3, .int (nI (i + 6)))] → W p l e room_1 s m #[Value.ref b] below meth c H locs 600000 7302250 (lw_Z below #[Value.ref b] s) (F0 m 18 ls [])) : W p l e room_1 s m #[Value.ref b] below meth c H locs 600000 7302250 (lw_Z below #[Value.ref b] s) (F0 m 33 ls [.int (xs (nI i).toNatClampNeg &&& 63)]) := by
  obtain ⟨hx, hb, hml, hown, hts, -⟩ := id C
  have hbA : ¬ (fun q => s.heap.size ≤ q) b := Nat.not_le.mpr hbl
  have hv0 : vp_in (nI i) L := vp_in_nI (by omega) (by omega)
  obtain ⟨r, σ1, τ1, ec, er, hR1⟩ := hPu σ τ hR
  refine lv_tableIn (off := 641) (tgt := 674) hx hb dL_law_33 (by rw [ck]; decide) (by rw [ck]; decide) (by rw [ck]; rfl) (by decide) ?_
  refine lv_aload_n hx hb dL_law_674 rfl (lv_at hl 1 rfl) ?_
  refine call2i (r := r) (w1' := cw q d σ1) (rest := []) (As := []) C h2 (c_X6_day l d q σ (r, σ1) ec) iv_L_73 ⟨rfl, rfl, Nat.le_of_ble_eq_true rfl, Nat.le_of_ble_eq_true rfl⟩ cw_o0 rfl rfl rfl hl.1 (Nat.le_of_ble_eq_true rfl) ⟨Nat.le_refl _, Nat.le_refl _⟩ dL_law_675 (fun H locs h2 => ?_)
  replace h2 := h2.symm
  replace h2 : HS2 d (fun q => s.heap.size ≤ q) s.heap H locs (mw q' d τ) (cw q d σ1) := h2
  refine lv_aload_n hx hb dL_law_678 rfl (lv_at hl 2 rfl) ?_
  refine call2i (r := r) (w1' := mw q' d τ1) (rest := [.int r]) (As := []) C h2 (c_X7_day l d q' τ (r, τ1) er) iv_L_77 ⟨rfl, rfl, Nat.le_of_ble_eq_true rfl, Nat.le_of_ble_eq_true rfl⟩ mw_o0 rfl rfl rfl hl.1 (Nat.le_of_ble_eq_true rfl) ⟨Nat.le_refl _, Nat.le_refl _⟩ dL_law_679 (fun H locs h2 => ?_)
  replace h2 := h2.symm
  refine lv_icmp_eq (tgt := 1208) hx hb dL_law_682 (by decide) (fun _ => ?_) (fun h => absurd rfl h)
  refine lv_iinc (v := nI i + 6) (lv' := [(3, .int (nI i + 6)), (0, .ref b), (1, .ref (q 0)), (2, .ref (q' 0))]) hx hb dL_law_1208 hl (k := 3) rfl rfl (by decide) rfl (fun ls hl => ?_)
  refine lv_goto (tgt := 18) hx hb dL_law_1211 (by decide) ?_
  rw [show nI i + 6 = nI (i + 6) from nI_add i 6] at hl
  exact ih q q' σ1 τ1 _ _ _ hR1 h2 (lv_sub hl [1, 2, 3, 0] rfl)
set_option maxRecDepth 100000 in
set_option maxHeartbeats 4000000 in
theorem law_undo {Rel : ST → ST → Prop} (hPu : P_undo Rel) {p : Program} {l : Launch} {e : Env} {s : State} {m : MethodId} {below : List Frame} {meth : Method} {c : Code} {b L i : Nat} {xs : Nat → Int32} {d : CD} {q q' : Nat → Nat} {σ τ : ST} {H : Heap} {locs : List Loc} {ls : Array Slot} (C : CX p s m #[Value.ref b] meth c RL code 4 ret d (fun q => s.heap.size ≤ q)) (hX : va_X b L xs s s.heap) (hbl : b < s.heap.size) (hL : L ≤ 384) (hi : i + 6 ≤ L) (hR : Rel σ τ) (h2 : HS2 d (fun q => s.heap.size ≤ q) s.heap H locs (cw q d σ) (mw q' d τ)) (hl : lv_has ls 4 [(0, .ref b), (1, .ref (q 0)), (2, .ref (q' 0)), (3, .int (nI i))]) (ck : xs (nI i).toNatClampNeg &&& 63 = 15)
    (ih : ∀ (q q' : Nat → Nat) (σ τ : ST) (H : Heap) (locs : List Loc) (ls : Array Slot), Rel σ τ → HS2 d (fun q => s.heap.size ≤ q) s.heap H locs (cw q d σ) (mw q' d τ) → lv_has ls 4 [(0, .ref b), (1, .ref (q 0)), (2, .ref (q' 0)), (3, .int (nI (i + 6)))] → W p l e room_1 s m #[Value.ref b] below meth c H locs 600000 7302250 (lw_Z below #[Value.ref b] s) (F0 m 18 ls [])) : W p l e room_1 s m #[Value.ref b] below meth c H locs 600000 7302250 (lw_Z below #[Value.ref b] s) (F0 m 33 ls [.int (xs (nI i).toNatClampNeg &&& 63)]) := by
  obtain ⟨hx, hb, hml, hown, hts, -⟩ := id C
  have hbA : ¬ (fun q => s.heap.size ≤ q) b := Nat.not_le.mpr hbl
  have hv0 : vp_in (nI i) L := vp_in_nI (by omega) (by omega)
  have hv1 : vp_in (nI i + 1) L := by rw [show nI i + 1 = nI (i + 1) from nI_add i 1]; exact vp_in_nI (by omega) (by omega)
  obtain ⟨r, σ1, τ1, ec, er, hR1⟩ := hPu σ τ (xs (nI i + 1).toNatClampNeg) hR
  refine lv_tableIn (off := 654) (tgt := 687) hx hb dL_law_33 (by rw [ck]; decide) (by rw [ck]; decide) (by rw [ck]; rfl) (by decide) ?_
  refine lv_aload_n hx hb dL_law_687 rfl (lv_at hl 1 rfl) ?_
  refine lv_aload_n hx hb dL_law_688 rfl (lv_at hl 0 rfl) ?_
  refine lv_iload_n hx hb dL_law_689 rfl (lv_at hl 3 rfl) ?_
  refine lv_iconst (v := 1) hx hb dL_law_690 (by decide) ?_
  refine lv_iadd hx hb dL_law_691 ?_
  refine va_sld hx hb hX hbl hbA h2.2.2.2.2.2 hv1 dL_law_692 ?_
  refine call2i (r := r) (w1' := cw q d σ1) (rest := []) (As := [.int (xs (nI i + 1).toNatClampNeg)]) C h2 (c_X6_undo l d q σ (xs (nI i + 1).toNatClampNeg) (r, σ1) ec) iv_L_78 ⟨rfl, rfl, Nat.le_of_ble_eq_true rfl, Nat.le_of_ble_eq_true rfl⟩ cw_o0 rfl rfl rfl hl.1 (Nat.le_of_ble_eq_true rfl) ⟨Nat.le_refl _, Nat.le_refl _⟩ dL_law_693 (fun H locs h2 => ?_)
  replace h2 := h2.symm
  replace h2 : HS2 d (fun q => s.heap.size ≤ q) s.heap H locs (mw q' d τ) (cw q d σ1) := h2
  refine lv_aload_n hx hb dL_law_696 rfl (lv_at hl 2 rfl) ?_
  refine lv_aload_n hx hb dL_law_697 rfl (lv_at hl 0 rfl) ?_
  refine lv_iload_n hx hb dL_law_698 rfl (lv_at hl 3 rfl) ?_
  refine lv_iconst (v := 1) hx hb dL_law_699 (by decide) ?_
  refine lv_iadd hx hb dL_law_700 ?_
  refine va_sld hx hb hX hbl hbA h2.2.2.2.2.2 hv1 dL_law_701 ?_
  refine call2i (r := r) (w1' := mw q' d τ1) (rest := [.int r]) (As := [.int (xs (nI i + 1).toNatClampNeg)]) C h2 (c_X7_undo l d q' τ (xs (nI i + 1).toNatClampNeg) (r, τ1) er) iv_L_81 ⟨rfl, rfl, Nat.le_of_ble_eq_true rfl, Nat.le_of_ble_eq_true rfl⟩ mw_o0 rfl rfl rfl hl.1 (Nat.le_of_ble_eq_true rfl) ⟨Nat.le_refl _, Nat.le_refl _⟩ dL_law_702 (fun H locs h2 => ?_)
  replace h2 := h2.symm
  refine lv_icmp_eq (tgt := 1208) hx hb dL_law_705 (by decide) (fun _ => ?_) (fun h => absurd rfl h)
  refine lv_iinc (v := nI i + 6) (lv' := [(3, .int (nI i + 6)), (0, .ref b), (1, .ref (q 0)), (2, .ref (q' 0))]) hx hb dL_law_1208 hl (k := 3) rfl rfl (by decide) rfl (fun ls hl => ?_)
  refine lv_goto (tgt := 18) hx hb dL_law_1211 (by decide) ?_
  rw [show nI i + 6 = nI (i + 6) from nI_add i 6] at hl
  exact ih q q' σ1 τ1 _ _ _ hR1 h2 (lv_sub hl [1, 2, 3, 0] rfl)
set_option maxRecDepth 100000 in
set_option maxHeartbeats 4000000 in
theorem law_keep {Rel : ST → ST → Prop} (hPu : P_keep Rel) {p : Program} {l : Launch} {e : Env} {s : State} {m : MethodId} {below : List Frame} {meth : Method} {c : Code} {b L i : Nat} {xs : Nat → Int32} {d : CD} {q q' : Nat → Nat} {σ τ : ST} {H : Heap} {locs : List Loc} {ls : Array Slot} (C : CX p s m #[Value.ref b] meth c RL code 4 ret d (fun q => s.heap.size ≤ q)) (hX : va_X b L xs s s.heap) (hbl : b < s.heap.size) (hL : L ≤ 384) (hi : i + 6 ≤ L) (hR : Rel σ τ) (h2 : HS2 d (fun q => s.heap.size ≤ q) s.heap H locs (cw q d σ) (mw q' d τ)) (hl : lv_has ls 4 [(0, .ref b), (1, .ref (q 0)), (2, .ref (q' 0)), (3, .int (nI i))]) (ck : xs (nI i).toNatClampNeg &&& 63 = 16)
    (ih : ∀ (q q' : Nat → Nat) (σ τ : ST) (H : Heap) (locs : List Loc) (ls : Array Slot), Rel σ τ → HS2 d (fun q => s.heap.size ≤ q) s.heap H locs (cw q d σ) (mw q' d τ) → lv_has ls 4 [(0, .ref b), (1, .ref (q 0)), (2, .ref (q' 0)), (3, .int (nI (i + 6)))] → W p l e room_1 s m #[Value.ref b] below meth c H locs 600000 7302250 (lw_Z below #[Value.ref b] s) (F0 m 18 ls [])) : W p l e room_1 s m #[Value.ref b] below meth c H locs 600000 7302250 (lw_Z below #[Value.ref b] s) (F0 m 33 ls [.int (xs (nI i).toNatClampNeg &&& 63)]) := by
  obtain ⟨hx, hb, hml, hown, hts, -⟩ := id C
  have hbA : ¬ (fun q => s.heap.size ≤ q) b := Nat.not_le.mpr hbl
  have hv0 : vp_in (nI i) L := vp_in_nI (by omega) (by omega)
  have hv1 : vp_in (nI i + 1) L := by rw [show nI i + 1 = nI (i + 1) from nI_add i 1]; exact vp_in_nI (by omega) (by omega)
  obtain ⟨r, σ1, τ1, ec, er, hR1⟩ := hPu σ τ (xs (nI i + 1).toNatClampNeg) hR
  refine lv_tableIn (off := 677) (tgt := 710) hx hb dL_law_33 (by rw [ck]; decide) (by rw [ck]; decide) (by rw [ck]; rfl) (by decide) ?_
  refine lv_aload_n hx hb dL_law_710 rfl (lv_at hl 1 rfl) ?_
  refine lv_aload_n hx hb dL_law_711 rfl (lv_at hl 0 rfl) ?_
  refine lv_iload_n hx hb dL_law_712 rfl (lv_at hl 3 rfl) ?_
  refine lv_iconst (v := 1) hx hb dL_law_713 (by decide) ?_
  refine lv_iadd hx hb dL_law_714 ?_
  refine va_sld hx hb hX hbl hbA h2.2.2.2.2.2 hv1 dL_law_715 ?_
  refine call2i (r := r) (w1' := cw q d σ1) (rest := []) (As := [.int (xs (nI i + 1).toNatClampNeg)]) C h2 (c_X6_keep l d q σ (xs (nI i + 1).toNatClampNeg) (r, σ1) ec) iv_L_82 ⟨rfl, rfl, Nat.le_of_ble_eq_true rfl, Nat.le_of_ble_eq_true rfl⟩ cw_o0 rfl rfl rfl hl.1 (Nat.le_of_ble_eq_true rfl) ⟨Nat.le_refl _, Nat.le_refl _⟩ dL_law_716 (fun H locs h2 => ?_)
  replace h2 := h2.symm
  replace h2 : HS2 d (fun q => s.heap.size ≤ q) s.heap H locs (mw q' d τ) (cw q d σ1) := h2
  refine lv_aload_n hx hb dL_law_719 rfl (lv_at hl 2 rfl) ?_
  refine lv_aload_n hx hb dL_law_720 rfl (lv_at hl 0 rfl) ?_
  refine lv_iload_n hx hb dL_law_721 rfl (lv_at hl 3 rfl) ?_
  refine lv_iconst (v := 1) hx hb dL_law_722 (by decide) ?_
  refine lv_iadd hx hb dL_law_723 ?_
  refine va_sld hx hb hX hbl hbA h2.2.2.2.2.2 hv1 dL_law_724 ?_
  refine call2i (r := r) (w1' := mw q' d τ1) (rest := [.int r]) (As := [.int (xs (nI i + 1).toNatClampNeg)]) C h2 (c_X7_keep l d q' τ (xs (nI i + 1).toNatClampNeg) (r, τ1) er) iv_L_85 ⟨rfl, rfl, Nat.le_of_ble_eq_true rfl, Nat.le_of_ble_eq_true rfl⟩ mw_o0 rfl rfl rfl hl.1 (Nat.le_of_ble_eq_true rfl) ⟨Nat.le_refl _, Nat.le_refl _⟩ dL_law_725 (fun H locs h2 => ?_)
  replace h2 := h2.symm
  refine lv_icmp_eq (tgt := 1208) hx hb dL_law_728 (by decide) (fun _ => ?_) (fun h => absurd rfl h)
  refine lv_iinc (v := nI i + 6) (lv' := [(3, .int (nI i + 6)), (0, .ref b), (1, .ref (q 0)), (2, .ref (q' 0))]) hx hb dL_law_1208 hl (k := 3) rfl rfl (by decide) rfl (fun ls hl => ?_)
  refine lv_goto (tgt := 18) hx hb dL_law_1211 (by decide) ?_
  rw [show nI i + 6 = nI (i + 6) from nI_add i 6] at hl
  exact ih q q' σ1 τ1 _ _ _ hR1 h2 (lv_sub hl [1, 2, 3, 0] rfl)
set_option maxRecDepth 100000 in
set_option maxHeartbeats 4000000 in
theorem law_on {Rel : ST → ST → Prop} (hPu : P_on Rel) {p : Program} {l : Launch} {e : Env} {s : State} {m : MethodId} {below : List Frame} {meth : Method} {c : Code} {b L i : Nat} {xs : Nat → Int32} {d : CD} {q q' : Nat → Nat} {σ τ : ST} {H : Heap} {locs : List Loc} {ls : Array Slot} (C : CX p s m #[Value.ref b] meth c RL code 4 ret d (fun q => s.heap.size ≤ q)) (hX : va_X b L xs s s.heap) (hbl : b < s.heap.size) (hL : L ≤ 384) (hi : i + 6 ≤ L) (hR : Rel σ τ) (h2 : HS2 d (fun q => s.heap.size ≤ q) s.heap H locs (cw q d σ) (mw q' d τ)) (hl : lv_has ls 4 [(0, .ref b), (1, .ref (q 0)), (2, .ref (q' 0)), (3, .int (nI i))]) (ck : xs (nI i).toNatClampNeg &&& 63 = 17)
    (ih : ∀ (q q' : Nat → Nat) (σ τ : ST) (H : Heap) (locs : List Loc) (ls : Array Slot), Rel σ τ → HS2 d (fun q => s.heap.size ≤ q) s.heap H locs (cw q d σ) (mw q' d τ) → lv_has ls 4 [(0, .ref b), (1, .ref (q 0)), (2, .ref (q' 0)), (3, .int (nI (i + 6)))] → W p l e room_1 s m #[Value.ref b] below meth c H locs 600000 7302250 (lw_Z below #[Value.ref b] s) (F0 m 18 ls [])) : W p l e room_1 s m #[Value.ref b] below meth c H locs 600000 7302250 (lw_Z below #[Value.ref b] s) (F0 m 33 ls [.int (xs (nI i).toNatClampNeg &&& 63)]) := by
  obtain ⟨hx, hb, hml, hown, hts, -⟩ := id C
  have hbA : ¬ (fun q => s.heap.size ≤ q) b := Nat.not_le.mpr hbl
  have hv0 : vp_in (nI i) L := vp_in_nI (by omega) (by omega)
  have hv1 : vp_in (nI i + 1) L := by rw [show nI i + 1 = nI (i + 1) from nI_add i 1]; exact vp_in_nI (by omega) (by omega)
  obtain ⟨r, σ1, τ1, ec, er, hR1⟩ := hPu σ τ (xs (nI i + 1).toNatClampNeg) hR
  refine lv_tableIn (off := 700) (tgt := 733) hx hb dL_law_33 (by rw [ck]; decide) (by rw [ck]; decide) (by rw [ck]; rfl) (by decide) ?_
  refine lv_aload_n hx hb dL_law_733 rfl (lv_at hl 1 rfl) ?_
  refine lv_aload_n hx hb dL_law_734 rfl (lv_at hl 0 rfl) ?_
  refine lv_iload_n hx hb dL_law_735 rfl (lv_at hl 3 rfl) ?_
  refine lv_iconst (v := 1) hx hb dL_law_736 (by decide) ?_
  refine lv_iadd hx hb dL_law_737 ?_
  refine va_sld hx hb hX hbl hbA h2.2.2.2.2.2 hv1 dL_law_738 ?_
  refine call2i (r := r) (w1' := cw q d σ1) (rest := []) (As := [.int (xs (nI i + 1).toNatClampNeg)]) C h2 (c_X6_on l d q σ (xs (nI i + 1).toNatClampNeg) (r, σ1) ec) iv_L_86 ⟨rfl, rfl, Nat.le_of_ble_eq_true rfl, Nat.le_of_ble_eq_true rfl⟩ cw_o0 rfl rfl rfl hl.1 (Nat.le_of_ble_eq_true rfl) ⟨Nat.le_refl _, Nat.le_refl _⟩ dL_law_739 (fun H locs h2 => ?_)
  replace h2 := h2.symm
  replace h2 : HS2 d (fun q => s.heap.size ≤ q) s.heap H locs (mw q' d τ) (cw q d σ1) := h2
  refine lv_aload_n hx hb dL_law_742 rfl (lv_at hl 2 rfl) ?_
  refine lv_aload_n hx hb dL_law_743 rfl (lv_at hl 0 rfl) ?_
  refine lv_iload_n hx hb dL_law_744 rfl (lv_at hl 3 rfl) ?_
  refine lv_iconst (v := 1) hx hb dL_law_745 (by decide) ?_
  refine lv_iadd hx hb dL_law_746 ?_
  refine va_sld hx hb hX hbl hbA h2.2.2.2.2.2 hv1 dL_law_747 ?_
  refine call2i (r := r) (w1' := mw q' d τ1) (rest := [.int r]) (As := [.int (xs (nI i + 1).toNatClampNeg)]) C h2 (c_X7_on l d q' τ (xs (nI i + 1).toNatClampNeg) (r, τ1) er) iv_L_89 ⟨rfl, rfl, Nat.le_of_ble_eq_true rfl, Nat.le_of_ble_eq_true rfl⟩ mw_o0 rfl rfl rfl hl.1 (Nat.le_of_ble_eq_true rfl) ⟨Nat.le_refl _, Nat.le_refl _⟩ dL_law_748 (fun H locs h2 => ?_)
  replace h2 := h2.symm
  refine lv_icmp_eq (tgt := 1208) hx hb dL_law_751 (by decide) (fun _ => ?_) (fun h => absurd rfl h)
  refine lv_iinc (v := nI i + 6) (lv' := [(3, .int (nI i + 6)), (0, .ref b), (1, .ref (q 0)), (2, .ref (q' 0))]) hx hb dL_law_1208 hl (k := 3) rfl rfl (by decide) rfl (fun ls hl => ?_)
  refine lv_goto (tgt := 18) hx hb dL_law_1211 (by decide) ?_
  rw [show nI i + 6 = nI (i + 6) from nI_add i 6] at hl
  exact ih q q' σ1 τ1 _ _ _ hR1 h2 (lv_sub hl [1, 2, 3, 0] rfl)
set_option maxRecDepth 100000 in
set_option maxHeartbeats 4000000 in
theorem law_weight {Rel : ST → ST → Prop} (hPu : P_weight Rel) {p : Program} {l : Launch} {e : Env} {s : State} {m : MethodId} {below : List Frame} {meth : Method} {c : Code} {b L i : Nat} {xs : Nat → Int32} {d : CD} {q q' : Nat → Nat} {σ τ : ST} {H : Heap} {locs : List Loc} {ls : Array Slot} (C : CX p s m #[Value.ref b] meth c RL code 4 ret d (fun q => s.heap.size ≤ q)) (hX : va_X b L xs s s.heap) (hbl : b < s.heap.size) (hL : L ≤ 384) (hi : i + 6 ≤ L) (hR : Rel σ τ) (h2 : HS2 d (fun q => s.heap.size ≤ q) s.heap H locs (cw q d σ) (mw q' d τ)) (hl : lv_has ls 4 [(0, .ref b), (1, .ref (q 0)), (2, .ref (q' 0)), (3, .int (nI i))]) (ck : xs (nI i).toNatClampNeg &&& 63 = 18)
    (ih : ∀ (q q' : Nat → Nat) (σ τ : ST) (H : Heap) (locs : List Loc) (ls : Array Slot), Rel σ τ → HS2 d (fun q => s.heap.size ≤ q) s.heap H locs (cw q d σ) (mw q' d τ) → lv_has ls 4 [(0, .ref b), (1, .ref (q 0)), (2, .ref (q' 0)), (3, .int (nI (i + 6)))] → W p l e room_1 s m #[Value.ref b] below meth c H locs 600000 7302250 (lw_Z below #[Value.ref b] s) (F0 m 18 ls [])) : W p l e room_1 s m #[Value.ref b] below meth c H locs 600000 7302250 (lw_Z below #[Value.ref b] s) (F0 m 33 ls [.int (xs (nI i).toNatClampNeg &&& 63)]) := by
  obtain ⟨hx, hb, hml, hown, hts, -⟩ := id C
  have hbA : ¬ (fun q => s.heap.size ≤ q) b := Nat.not_le.mpr hbl
  have hv0 : vp_in (nI i) L := vp_in_nI (by omega) (by omega)
  have hv1 : vp_in (nI i + 1) L := by rw [show nI i + 1 = nI (i + 1) from nI_add i 1]; exact vp_in_nI (by omega) (by omega)
  obtain ⟨r, σ1, τ1, ec, er, hR1⟩ := hPu σ τ (xs (nI i + 1).toNatClampNeg) hR
  refine lv_tableIn (off := 723) (tgt := 756) hx hb dL_law_33 (by rw [ck]; decide) (by rw [ck]; decide) (by rw [ck]; rfl) (by decide) ?_
  refine lv_aload_n hx hb dL_law_756 rfl (lv_at hl 1 rfl) ?_
  refine lv_aload_n hx hb dL_law_757 rfl (lv_at hl 0 rfl) ?_
  refine lv_iload_n hx hb dL_law_758 rfl (lv_at hl 3 rfl) ?_
  refine lv_iconst (v := 1) hx hb dL_law_759 (by decide) ?_
  refine lv_iadd hx hb dL_law_760 ?_
  refine va_sld hx hb hX hbl hbA h2.2.2.2.2.2 hv1 dL_law_761 ?_
  refine call2i (r := r) (w1' := cw q d σ1) (rest := []) (As := [.int (xs (nI i + 1).toNatClampNeg)]) C h2 (c_X6_weight l d q σ (xs (nI i + 1).toNatClampNeg) (r, σ1) ec) iv_L_90 ⟨rfl, rfl, Nat.le_of_ble_eq_true rfl, Nat.le_of_ble_eq_true rfl⟩ cw_o0 rfl rfl rfl hl.1 (Nat.le_of_ble_eq_true rfl) ⟨Nat.le_refl _, Nat.le_refl _⟩ dL_law_762 (fun H locs h2 => ?_)
  replace h2 := h2.symm
  replace h2 : HS2 d (fun q => s.heap.size ≤ q) s.heap H locs (mw q' d τ) (cw q d σ1) := h2
  refine lv_aload_n hx hb dL_law_765 rfl (lv_at hl 2 rfl) ?_
  refine lv_aload_n hx hb dL_law_766 rfl (lv_at hl 0 rfl) ?_
  refine lv_iload_n hx hb dL_law_767 rfl (lv_at hl 3 rfl) ?_
  refine lv_iconst (v := 1) hx hb dL_law_768 (by decide) ?_
  refine lv_iadd hx hb dL_law_769 ?_
  refine va_sld hx hb hX hbl hbA h2.2.2.2.2.2 hv1 dL_law_770 ?_
  refine call2i (r := r) (w1' := mw q' d τ1) (rest := [.int r]) (As := [.int (xs (nI i + 1).toNatClampNeg)]) C h2 (c_X7_weight l d q' τ (xs (nI i + 1).toNatClampNeg) (r, τ1) er) iv_L_93 ⟨rfl, rfl, Nat.le_of_ble_eq_true rfl, Nat.le_of_ble_eq_true rfl⟩ mw_o0 rfl rfl rfl hl.1 (Nat.le_of_ble_eq_true rfl) ⟨Nat.le_refl _, Nat.le_refl _⟩ dL_law_771 (fun H locs h2 => ?_)
  replace h2 := h2.symm
  refine lv_icmp_eq (tgt := 1208) hx hb dL_law_774 (by decide) (fun _ => ?_) (fun h => absurd rfl h)
  refine lv_iinc (v := nI i + 6) (lv' := [(3, .int (nI i + 6)), (0, .ref b), (1, .ref (q 0)), (2, .ref (q' 0))]) hx hb dL_law_1208 hl (k := 3) rfl rfl (by decide) rfl (fun ls hl => ?_)
  refine lv_goto (tgt := 18) hx hb dL_law_1211 (by decide) ?_
  rw [show nI i + 6 = nI (i + 6) from nI_add i 6] at hl
  exact ih q q' σ1 τ1 _ _ _ hR1 h2 (lv_sub hl [1, 2, 3, 0] rfl)
set_option maxRecDepth 100000 in
set_option maxHeartbeats 4000000 in
theorem law_opens {Rel : ST → ST → Prop} (hPu : P_opens Rel) {p : Program} {l : Launch} {e : Env} {s : State} {m : MethodId} {below : List Frame} {meth : Method} {c : Code} {b L i : Nat} {xs : Nat → Int32} {d : CD} {q q' : Nat → Nat} {σ τ : ST} {H : Heap} {locs : List Loc} {ls : Array Slot} (C : CX p s m #[Value.ref b] meth c RL code 4 ret d (fun q => s.heap.size ≤ q)) (hX : va_X b L xs s s.heap) (hbl : b < s.heap.size) (hL : L ≤ 384) (hi : i + 6 ≤ L) (hR : Rel σ τ) (h2 : HS2 d (fun q => s.heap.size ≤ q) s.heap H locs (cw q d σ) (mw q' d τ)) (hl : lv_has ls 4 [(0, .ref b), (1, .ref (q 0)), (2, .ref (q' 0)), (3, .int (nI i))]) (ck : xs (nI i).toNatClampNeg &&& 63 = 19)
    (ih : ∀ (q q' : Nat → Nat) (σ τ : ST) (H : Heap) (locs : List Loc) (ls : Array Slot), Rel σ τ → HS2 d (fun q => s.heap.size ≤ q) s.heap H locs (cw q d σ) (mw q' d τ) → lv_has ls 4 [(0, .ref b), (1, .ref (q 0)), (2, .ref (q' 0)), (3, .int (nI (i + 6)))] → W p l e room_1 s m #[Value.ref b] below meth c H locs 600000 7302250 (lw_Z below #[Value.ref b] s) (F0 m 18 ls [])) : W p l e room_1 s m #[Value.ref b] below meth c H locs 600000 7302250 (lw_Z below #[Value.ref b] s) (F0 m 33 ls [.int (xs (nI i).toNatClampNeg &&& 63)]) := by
  obtain ⟨hx, hb, hml, hown, hts, -⟩ := id C
  have hbA : ¬ (fun q => s.heap.size ≤ q) b := Nat.not_le.mpr hbl
  have hv0 : vp_in (nI i) L := vp_in_nI (by omega) (by omega)
  obtain ⟨r, σ1, τ1, ec, er, hR1⟩ := hPu σ τ hR
  refine lv_tableIn (off := 746) (tgt := 779) hx hb dL_law_33 (by rw [ck]; decide) (by rw [ck]; decide) (by rw [ck]; rfl) (by decide) ?_
  refine lv_aload_n hx hb dL_law_779 rfl (lv_at hl 1 rfl) ?_
  refine call2i (r := r) (w1' := cw q d σ1) (rest := []) (As := []) C h2 (c_X6_opens l d q σ (r, σ1) ec) iv_L_94 ⟨rfl, rfl, Nat.le_of_ble_eq_true rfl, Nat.le_of_ble_eq_true rfl⟩ cw_o0 rfl rfl rfl hl.1 (Nat.le_of_ble_eq_true rfl) ⟨Nat.le_refl _, Nat.le_refl _⟩ dL_law_780 (fun H locs h2 => ?_)
  replace h2 := h2.symm
  replace h2 : HS2 d (fun q => s.heap.size ≤ q) s.heap H locs (mw q' d τ) (cw q d σ1) := h2
  refine lv_aload_n hx hb dL_law_783 rfl (lv_at hl 2 rfl) ?_
  refine call2i (r := r) (w1' := mw q' d τ1) (rest := [.int r]) (As := []) C h2 (c_X7_opens l d q' τ (r, τ1) er) iv_L_97 ⟨rfl, rfl, Nat.le_of_ble_eq_true rfl, Nat.le_of_ble_eq_true rfl⟩ mw_o0 rfl rfl rfl hl.1 (Nat.le_of_ble_eq_true rfl) ⟨Nat.le_refl _, Nat.le_refl _⟩ dL_law_784 (fun H locs h2 => ?_)
  replace h2 := h2.symm
  refine lv_icmp_eq (tgt := 1208) hx hb dL_law_787 (by decide) (fun _ => ?_) (fun h => absurd rfl h)
  refine lv_iinc (v := nI i + 6) (lv' := [(3, .int (nI i + 6)), (0, .ref b), (1, .ref (q 0)), (2, .ref (q' 0))]) hx hb dL_law_1208 hl (k := 3) rfl rfl (by decide) rfl (fun ls hl => ?_)
  refine lv_goto (tgt := 18) hx hb dL_law_1211 (by decide) ?_
  rw [show nI i + 6 = nI (i + 6) from nI_add i 6] at hl
  exact ih q q' σ1 τ1 _ _ _ hR1 h2 (lv_sub hl [1, 2, 3, 0] rfl)
set_option maxRecDepth 100000 in
set_option maxHeartbeats 4000000 in
theorem law_must {Rel : ST → ST → Prop} (hPu : P_must Rel) {p : Program} {l : Launch} {e : Env} {s : State} {m : MethodId} {below : List Frame} {meth : Method} {c : Code} {b L i : Nat} {xs : Nat → Int32} {d : CD} {q q' : Nat → Nat} {σ τ : ST} {H : Heap} {locs : List Loc} {ls : Array Slot} (C : CX p s m #[Value.ref b] meth c RL code 4 ret d (fun q => s.heap.size ≤ q)) (hX : va_X b L xs s s.heap) (hbl : b < s.heap.size) (hL : L ≤ 384) (hi : i + 6 ≤ L) (hR : Rel σ τ) (h2 : HS2 d (fun q => s.heap.size ≤ q) s.heap H locs (cw q d σ) (mw q' d τ)) (hl : lv_has ls 4 [(0, .ref b), (1, .ref (q 0)), (2, .ref (q' 0)), (3, .int (nI i))]) (ck : xs (nI i).toNatClampNeg &&& 63 = 20)
    (ih : ∀ (q q' : Nat → Nat) (σ τ : ST) (H : Heap) (locs : List Loc) (ls : Array Slot), Rel σ τ → HS2 d (fun q => s.heap.size ≤ q) s.heap H locs (cw q d σ) (mw q' d τ) → lv_has ls 4 [(0, .ref b), (1, .ref (q 0)), (2, .ref (q' 0)), (3, .int (nI (i + 6)))] → W p l e room_1 s m #[Value.ref b] below meth c H locs 600000 7302250 (lw_Z below #[Value.ref b] s) (F0 m 18 ls [])) : W p l e room_1 s m #[Value.ref b] below meth c H locs 600000 7302250 (lw_Z below #[Value.ref b] s) (F0 m 33 ls [.int (xs (nI i).toNatClampNeg &&& 63)]) := by
  obtain ⟨hx, hb, hml, hown, hts, -⟩ := id C
  have hbA : ¬ (fun q => s.heap.size ≤ q) b := Nat.not_le.mpr hbl
  have hv0 : vp_in (nI i) L := vp_in_nI (by omega) (by omega)
  obtain ⟨r, σ1, τ1, ec, er, hR1⟩ := hPu σ τ hR
  refine lv_tableIn (off := 759) (tgt := 792) hx hb dL_law_33 (by rw [ck]; decide) (by rw [ck]; decide) (by rw [ck]; rfl) (by decide) ?_
  refine lv_aload_n hx hb dL_law_792 rfl (lv_at hl 1 rfl) ?_
  refine call2i (r := r) (w1' := cw q d σ1) (rest := []) (As := []) C h2 (c_X6_must l d q σ (r, σ1) ec) iv_L_98 ⟨rfl, rfl, Nat.le_of_ble_eq_true rfl, Nat.le_of_ble_eq_true rfl⟩ cw_o0 rfl rfl rfl hl.1 (Nat.le_of_ble_eq_true rfl) ⟨Nat.le_refl _, Nat.le_refl _⟩ dL_law_793 (fun H locs h2 => ?_)
  replace h2 := h2.symm
  replace h2 : HS2 d (fun q => s.heap.size ≤ q) s.heap H locs (mw q' d τ) (cw q d σ1) := h2
  refine lv_aload_n hx hb dL_law_796 rfl (lv_at hl 2 rfl) ?_
  refine call2i (r := r) (w1' := mw q' d τ1) (rest := [.int r]) (As := []) C h2 (c_X7_must l d q' τ (r, τ1) er) iv_L_101 ⟨rfl, rfl, Nat.le_of_ble_eq_true rfl, Nat.le_of_ble_eq_true rfl⟩ mw_o0 rfl rfl rfl hl.1 (Nat.le_of_ble_eq_true rfl) ⟨Nat.le_refl _, Nat.le_refl _⟩ dL_law_797 (fun H locs h2 => ?_)
  replace h2 := h2.symm
  refine lv_icmp_eq (tgt := 1208) hx hb dL_law_800 (by decide) (fun _ => ?_) (fun h => absurd rfl h)
  refine lv_iinc (v := nI i + 6) (lv' := [(3, .int (nI i + 6)), (0, .ref b), (1, .ref (q 0)), (2, .ref (q' 0))]) hx hb dL_law_1208 hl (k := 3) rfl rfl (by decide) rfl (fun ls hl => ?_)
  refine lv_goto (tgt := 18) hx hb dL_law_1211 (by decide) ?_
  rw [show nI i + 6 = nI (i + 6) from nI_add i 6] at hl
  exact ih q q' σ1 τ1 _ _ _ hR1 h2 (lv_sub hl [1, 2, 3, 0] rfl)
set_option maxRecDepth 100000 in
set_option maxHeartbeats 4000000 in
theorem law_holds {Rel : ST → ST → Prop} (hPu : P_holds Rel) {p : Program} {l : Launch} {e : Env} {s : State} {m : MethodId} {below : List Frame} {meth : Method} {c : Code} {b L i : Nat} {xs : Nat → Int32} {d : CD} {q q' : Nat → Nat} {σ τ : ST} {H : Heap} {locs : List Loc} {ls : Array Slot} (C : CX p s m #[Value.ref b] meth c RL code 4 ret d (fun q => s.heap.size ≤ q)) (hX : va_X b L xs s s.heap) (hbl : b < s.heap.size) (hL : L ≤ 384) (hi : i + 6 ≤ L) (hR : Rel σ τ) (h2 : HS2 d (fun q => s.heap.size ≤ q) s.heap H locs (cw q d σ) (mw q' d τ)) (hl : lv_has ls 4 [(0, .ref b), (1, .ref (q 0)), (2, .ref (q' 0)), (3, .int (nI i))]) (ck : xs (nI i).toNatClampNeg &&& 63 = 21)
    (ih : ∀ (q q' : Nat → Nat) (σ τ : ST) (H : Heap) (locs : List Loc) (ls : Array Slot), Rel σ τ → HS2 d (fun q => s.heap.size ≤ q) s.heap H locs (cw q d σ) (mw q' d τ) → lv_has ls 4 [(0, .ref b), (1, .ref (q 0)), (2, .ref (q' 0)), (3, .int (nI (i + 6)))] → W p l e room_1 s m #[Value.ref b] below meth c H locs 600000 7302250 (lw_Z below #[Value.ref b] s) (F0 m 18 ls [])) : W p l e room_1 s m #[Value.ref b] below meth c H locs 600000 7302250 (lw_Z below #[Value.ref b] s) (F0 m 33 ls [.int (xs (nI i).toNatClampNeg &&& 63)]) := by
  obtain ⟨hx, hb, hml, hown, hts, -⟩ := id C
  have hbA : ¬ (fun q => s.heap.size ≤ q) b := Nat.not_le.mpr hbl
  have hv0 : vp_in (nI i) L := vp_in_nI (by omega) (by omega)
  have hv1 : vp_in (nI i + 1) L := by rw [show nI i + 1 = nI (i + 1) from nI_add i 1]; exact vp_in_nI (by omega) (by omega)
  obtain ⟨r, σ1, ec, er, hR1⟩ := hPu σ τ (xs (nI i + 1).toNatClampNeg) hR
  refine lv_tableIn (off := 772) (tgt := 805) hx hb dL_law_33 (by rw [ck]; decide) (by rw [ck]; decide) (by rw [ck]; rfl) (by decide) ?_
  refine lv_aload_n hx hb dL_law_805 rfl (lv_at hl 1 rfl) ?_
  refine lv_aload_n hx hb dL_law_806 rfl (lv_at hl 0 rfl) ?_
  refine lv_iload_n hx hb dL_law_807 rfl (lv_at hl 3 rfl) ?_
  refine lv_iconst (v := 1) hx hb dL_law_808 (by decide) ?_
  refine lv_iadd hx hb dL_law_809 ?_
  refine va_sld hx hb hX hbl hbA h2.2.2.2.2.2 hv1 dL_law_810 ?_
  refine call2i (r := r) (w1' := cw q d σ1) (rest := []) (As := [.int (xs (nI i + 1).toNatClampNeg)]) C h2 (c_X6_holds l d q σ (xs (nI i + 1).toNatClampNeg) (r, σ1) ec) iv_L_102 ⟨rfl, rfl, Nat.le_of_ble_eq_true rfl, Nat.le_of_ble_eq_true rfl⟩ cw_o0 rfl rfl rfl hl.1 (Nat.le_of_ble_eq_true rfl) ⟨Nat.le_refl _, Nat.le_refl _⟩ dL_law_811 (fun H locs h2 => ?_)
  replace h2 := h2.symm
  replace h2 : HS2 d (fun q => s.heap.size ≤ q) s.heap H locs (mw q' d τ) (cw q d σ1) := h2
  refine lv_aload_n hx hb dL_law_814 rfl (lv_at hl 2 rfl) ?_
  refine lv_aload_n hx hb dL_law_815 rfl (lv_at hl 0 rfl) ?_
  refine lv_iload_n hx hb dL_law_816 rfl (lv_at hl 3 rfl) ?_
  refine lv_iconst (v := 1) hx hb dL_law_817 (by decide) ?_
  refine lv_iadd hx hb dL_law_818 ?_
  refine va_sld hx hb hX hbl hbA h2.2.2.2.2.2 hv1 dL_law_819 ?_
  refine call2i (r := r) (w1' := mw q' d τ) (rest := [.int r]) (As := [.int (xs (nI i + 1).toNatClampNeg)]) C h2 (c_X7_holds l d q' τ (xs (nI i + 1).toNatClampNeg) r er) iv_L_105 ⟨rfl, rfl, Nat.le_of_ble_eq_true rfl, Nat.le_of_ble_eq_true rfl⟩ mw_o0 rfl rfl rfl hl.1 (Nat.le_of_ble_eq_true rfl) ⟨Nat.le_refl _, Nat.le_refl _⟩ dL_law_820 (fun H locs h2 => ?_)
  replace h2 := h2.symm
  refine lv_icmp_eq (tgt := 1208) hx hb dL_law_823 (by decide) (fun _ => ?_) (fun h => absurd rfl h)
  refine lv_iinc (v := nI i + 6) (lv' := [(3, .int (nI i + 6)), (0, .ref b), (1, .ref (q 0)), (2, .ref (q' 0))]) hx hb dL_law_1208 hl (k := 3) rfl rfl (by decide) rfl (fun ls hl => ?_)
  refine lv_goto (tgt := 18) hx hb dL_law_1211 (by decide) ?_
  rw [show nI i + 6 = nI (i + 6) from nI_add i 6] at hl
  exact ih q q' σ1 τ _ _ _ hR1 h2 (lv_sub hl [1, 2, 3, 0] rfl)
set_option maxRecDepth 100000 in
set_option maxHeartbeats 4000000 in
theorem law_part {Rel : ST → ST → Prop} (hPu : P_part Rel) {p : Program} {l : Launch} {e : Env} {s : State} {m : MethodId} {below : List Frame} {meth : Method} {c : Code} {b L i : Nat} {xs : Nat → Int32} {d : CD} {q q' : Nat → Nat} {σ τ : ST} {H : Heap} {locs : List Loc} {ls : Array Slot} (C : CX p s m #[Value.ref b] meth c RL code 4 ret d (fun q => s.heap.size ≤ q)) (hX : va_X b L xs s s.heap) (hbl : b < s.heap.size) (hL : L ≤ 384) (hi : i + 6 ≤ L) (hR : Rel σ τ) (h2 : HS2 d (fun q => s.heap.size ≤ q) s.heap H locs (cw q d σ) (mw q' d τ)) (hl : lv_has ls 4 [(0, .ref b), (1, .ref (q 0)), (2, .ref (q' 0)), (3, .int (nI i))]) (ck : xs (nI i).toNatClampNeg &&& 63 = 22)
    (ih : ∀ (q q' : Nat → Nat) (σ τ : ST) (H : Heap) (locs : List Loc) (ls : Array Slot), Rel σ τ → HS2 d (fun q => s.heap.size ≤ q) s.heap H locs (cw q d σ) (mw q' d τ) → lv_has ls 4 [(0, .ref b), (1, .ref (q 0)), (2, .ref (q' 0)), (3, .int (nI (i + 6)))] → W p l e room_1 s m #[Value.ref b] below meth c H locs 600000 7302250 (lw_Z below #[Value.ref b] s) (F0 m 18 ls [])) : W p l e room_1 s m #[Value.ref b] below meth c H locs 600000 7302250 (lw_Z below #[Value.ref b] s) (F0 m 33 ls [.int (xs (nI i).toNatClampNeg &&& 63)]) := by
  obtain ⟨hx, hb, hml, hown, hts, -⟩ := id C
  have hbA : ¬ (fun q => s.heap.size ≤ q) b := Nat.not_le.mpr hbl
  have hv0 : vp_in (nI i) L := vp_in_nI (by omega) (by omega)
  have hv1 : vp_in (nI i + 1) L := by rw [show nI i + 1 = nI (i + 1) from nI_add i 1]; exact vp_in_nI (by omega) (by omega)
  obtain ⟨r, σ1, τ1, ec, er, hR1⟩ := hPu σ τ (xs (nI i + 1).toNatClampNeg) hR
  refine lv_tableIn (off := 795) (tgt := 828) hx hb dL_law_33 (by rw [ck]; decide) (by rw [ck]; decide) (by rw [ck]; rfl) (by decide) ?_
  refine lv_aload_n hx hb dL_law_828 rfl (lv_at hl 1 rfl) ?_
  refine lv_aload_n hx hb dL_law_829 rfl (lv_at hl 0 rfl) ?_
  refine lv_iload_n hx hb dL_law_830 rfl (lv_at hl 3 rfl) ?_
  refine lv_iconst (v := 1) hx hb dL_law_831 (by decide) ?_
  refine lv_iadd hx hb dL_law_832 ?_
  refine va_sld hx hb hX hbl hbA h2.2.2.2.2.2 hv1 dL_law_833 ?_
  refine call2i (r := r) (w1' := cw q d σ1) (rest := []) (As := [.int (xs (nI i + 1).toNatClampNeg)]) C h2 (c_X6_part l d q σ (xs (nI i + 1).toNatClampNeg) (r, σ1) ec) iv_L_106 ⟨rfl, rfl, Nat.le_of_ble_eq_true rfl, Nat.le_of_ble_eq_true rfl⟩ cw_o0 rfl rfl rfl hl.1 (Nat.le_of_ble_eq_true rfl) ⟨Nat.le_refl _, Nat.le_refl _⟩ dL_law_834 (fun H locs h2 => ?_)
  replace h2 := h2.symm
  replace h2 : HS2 d (fun q => s.heap.size ≤ q) s.heap H locs (mw q' d τ) (cw q d σ1) := h2
  refine lv_aload_n hx hb dL_law_837 rfl (lv_at hl 2 rfl) ?_
  refine lv_aload_n hx hb dL_law_838 rfl (lv_at hl 0 rfl) ?_
  refine lv_iload_n hx hb dL_law_839 rfl (lv_at hl 3 rfl) ?_
  refine lv_iconst (v := 1) hx hb dL_law_840 (by decide) ?_
  refine lv_iadd hx hb dL_law_841 ?_
  refine va_sld hx hb hX hbl hbA h2.2.2.2.2.2 hv1 dL_law_842 ?_
  refine call2i (r := r) (w1' := mw q' d τ1) (rest := [.int r]) (As := [.int (xs (nI i + 1).toNatClampNeg)]) C h2 (c_X7_part l d q' τ (xs (nI i + 1).toNatClampNeg) (r, τ1) er) iv_L_109 ⟨rfl, rfl, Nat.le_of_ble_eq_true rfl, Nat.le_of_ble_eq_true rfl⟩ mw_o0 rfl rfl rfl hl.1 (Nat.le_of_ble_eq_true rfl) ⟨Nat.le_refl _, Nat.le_refl _⟩ dL_law_843 (fun H locs h2 => ?_)
  replace h2 := h2.symm
  refine lv_icmp_eq (tgt := 1208) hx hb dL_law_846 (by decide) (fun _ => ?_) (fun h => absurd rfl h)
  refine lv_iinc (v := nI i + 6) (lv' := [(3, .int (nI i + 6)), (0, .ref b), (1, .ref (q 0)), (2, .ref (q' 0))]) hx hb dL_law_1208 hl (k := 3) rfl rfl (by decide) rfl (fun ls hl => ?_)
  refine lv_goto (tgt := 18) hx hb dL_law_1211 (by decide) ?_
  rw [show nI i + 6 = nI (i + 6) from nI_add i 6] at hl
  exact ih q q' σ1 τ1 _ _ _ hR1 h2 (lv_sub hl [1, 2, 3, 0] rfl)
set_option maxRecDepth 100000 in
set_option maxHeartbeats 4000000 in
theorem law_drink {Rel : ST → ST → Prop} (hPu : P_drink Rel) {p : Program} {l : Launch} {e : Env} {s : State} {m : MethodId} {below : List Frame} {meth : Method} {c : Code} {b L i : Nat} {xs : Nat → Int32} {d : CD} {q q' : Nat → Nat} {σ τ : ST} {H : Heap} {locs : List Loc} {ls : Array Slot} (C : CX p s m #[Value.ref b] meth c RL code 4 ret d (fun q => s.heap.size ≤ q)) (hX : va_X b L xs s s.heap) (hbl : b < s.heap.size) (hL : L ≤ 384) (hi : i + 6 ≤ L) (hR : Rel σ τ) (h2 : HS2 d (fun q => s.heap.size ≤ q) s.heap H locs (cw q d σ) (mw q' d τ)) (hl : lv_has ls 4 [(0, .ref b), (1, .ref (q 0)), (2, .ref (q' 0)), (3, .int (nI i))]) (ck : xs (nI i).toNatClampNeg &&& 63 = 23)
    (ih : ∀ (q q' : Nat → Nat) (σ τ : ST) (H : Heap) (locs : List Loc) (ls : Array Slot), Rel σ τ → HS2 d (fun q => s.heap.size ≤ q) s.heap H locs (cw q d σ) (mw q' d τ) → lv_has ls 4 [(0, .ref b), (1, .ref (q 0)), (2, .ref (q' 0)), (3, .int (nI (i + 6)))] → W p l e room_1 s m #[Value.ref b] below meth c H locs 600000 7302250 (lw_Z below #[Value.ref b] s) (F0 m 18 ls [])) : W p l e room_1 s m #[Value.ref b] below meth c H locs 600000 7302250 (lw_Z below #[Value.ref b] s) (F0 m 33 ls [.int (xs (nI i).toNatClampNeg &&& 63)]) := by
  obtain ⟨hx, hb, hml, hown, hts, -⟩ := id C
  have hbA : ¬ (fun q => s.heap.size ≤ q) b := Nat.not_le.mpr hbl
  have hv0 : vp_in (nI i) L := vp_in_nI (by omega) (by omega)
  have hv1 : vp_in (nI i + 1) L := by rw [show nI i + 1 = nI (i + 1) from nI_add i 1]; exact vp_in_nI (by omega) (by omega)
  obtain ⟨r, σ1, τ1, ec, er, hR1⟩ := hPu σ τ (xs (nI i + 1).toNatClampNeg) hR
  refine lv_tableIn (off := 818) (tgt := 851) hx hb dL_law_33 (by rw [ck]; decide) (by rw [ck]; decide) (by rw [ck]; rfl) (by decide) ?_
  refine lv_aload_n hx hb dL_law_851 rfl (lv_at hl 1 rfl) ?_
  refine lv_aload_n hx hb dL_law_852 rfl (lv_at hl 0 rfl) ?_
  refine lv_iload_n hx hb dL_law_853 rfl (lv_at hl 3 rfl) ?_
  refine lv_iconst (v := 1) hx hb dL_law_854 (by decide) ?_
  refine lv_iadd hx hb dL_law_855 ?_
  refine va_sld hx hb hX hbl hbA h2.2.2.2.2.2 hv1 dL_law_856 ?_
  refine call2i (r := r) (w1' := cw q d σ1) (rest := []) (As := [.int (xs (nI i + 1).toNatClampNeg)]) C h2 (c_X6_drink l d q σ (xs (nI i + 1).toNatClampNeg) (r, σ1) ec) iv_L_110 ⟨rfl, rfl, Nat.le_of_ble_eq_true rfl, Nat.le_of_ble_eq_true rfl⟩ cw_o0 rfl rfl rfl hl.1 (Nat.le_of_ble_eq_true rfl) ⟨Nat.le_refl _, Nat.le_refl _⟩ dL_law_857 (fun H locs h2 => ?_)
  replace h2 := h2.symm
  replace h2 : HS2 d (fun q => s.heap.size ≤ q) s.heap H locs (mw q' d τ) (cw q d σ1) := h2
  refine lv_aload_n hx hb dL_law_860 rfl (lv_at hl 2 rfl) ?_
  refine lv_aload_n hx hb dL_law_861 rfl (lv_at hl 0 rfl) ?_
  refine lv_iload_n hx hb dL_law_862 rfl (lv_at hl 3 rfl) ?_
  refine lv_iconst (v := 1) hx hb dL_law_863 (by decide) ?_
  refine lv_iadd hx hb dL_law_864 ?_
  refine va_sld hx hb hX hbl hbA h2.2.2.2.2.2 hv1 dL_law_865 ?_
  refine call2i (r := r) (w1' := mw q' d τ1) (rest := [.int r]) (As := [.int (xs (nI i + 1).toNatClampNeg)]) C h2 (c_X7_drink l d q' τ (xs (nI i + 1).toNatClampNeg) (r, τ1) er) iv_L_113 ⟨rfl, rfl, Nat.le_of_ble_eq_true rfl, Nat.le_of_ble_eq_true rfl⟩ mw_o0 rfl rfl rfl hl.1 (Nat.le_of_ble_eq_true rfl) ⟨Nat.le_refl _, Nat.le_refl _⟩ dL_law_866 (fun H locs h2 => ?_)
  replace h2 := h2.symm
  refine lv_icmp_eq (tgt := 1208) hx hb dL_law_869 (by decide) (fun _ => ?_) (fun h => absurd rfl h)
  refine lv_iinc (v := nI i + 6) (lv' := [(3, .int (nI i + 6)), (0, .ref b), (1, .ref (q 0)), (2, .ref (q' 0))]) hx hb dL_law_1208 hl (k := 3) rfl rfl (by decide) rfl (fun ls hl => ?_)
  refine lv_goto (tgt := 18) hx hb dL_law_1211 (by decide) ?_
  rw [show nI i + 6 = nI (i + 6) from nI_add i 6] at hl
  exact ih q q' σ1 τ1 _ _ _ hR1 h2 (lv_sub hl [1, 2, 3, 0] rfl)
set_option maxRecDepth 100000 in
set_option maxHeartbeats 4000000 in
theorem law_best {Rel : ST → ST → Prop} (hPu : P_best Rel) {p : Program} {l : Launch} {e : Env} {s : State} {m : MethodId} {below : List Frame} {meth : Method} {c : Code} {b L i : Nat} {xs : Nat → Int32} {d : CD} {q q' : Nat → Nat} {σ τ : ST} {H : Heap} {locs : List Loc} {ls : Array Slot} (C : CX p s m #[Value.ref b] meth c RL code 4 ret d (fun q => s.heap.size ≤ q)) (hX : va_X b L xs s s.heap) (hbl : b < s.heap.size) (hL : L ≤ 384) (hi : i + 6 ≤ L) (hR : Rel σ τ) (h2 : HS2 d (fun q => s.heap.size ≤ q) s.heap H locs (cw q d σ) (mw q' d τ)) (hl : lv_has ls 4 [(0, .ref b), (1, .ref (q 0)), (2, .ref (q' 0)), (3, .int (nI i))]) (ck : xs (nI i).toNatClampNeg &&& 63 = 24)
    (ih : ∀ (q q' : Nat → Nat) (σ τ : ST) (H : Heap) (locs : List Loc) (ls : Array Slot), Rel σ τ → HS2 d (fun q => s.heap.size ≤ q) s.heap H locs (cw q d σ) (mw q' d τ) → lv_has ls 4 [(0, .ref b), (1, .ref (q 0)), (2, .ref (q' 0)), (3, .int (nI (i + 6)))] → W p l e room_1 s m #[Value.ref b] below meth c H locs 600000 7302250 (lw_Z below #[Value.ref b] s) (F0 m 18 ls [])) : W p l e room_1 s m #[Value.ref b] below meth c H locs 600000 7302250 (lw_Z below #[Value.ref b] s) (F0 m 33 ls [.int (xs (nI i).toNatClampNeg &&& 63)]) := by
  obtain ⟨hx, hb, hml, hown, hts, -⟩ := id C
  have hbA : ¬ (fun q => s.heap.size ≤ q) b := Nat.not_le.mpr hbl
  have hv0 : vp_in (nI i) L := vp_in_nI (by omega) (by omega)
  have hv1 : vp_in (nI i + 1) L := by rw [show nI i + 1 = nI (i + 1) from nI_add i 1]; exact vp_in_nI (by omega) (by omega)
  have hv2 : vp_in (nI i + 2) L := by rw [show nI i + 2 = nI (i + 2) from nI_add i 2]; exact vp_in_nI (by omega) (by omega)
  obtain ⟨r, σ1, τ1, ec, er, hR1⟩ := hPu σ τ (xs (nI i + 1).toNatClampNeg) (xs (nI i + 2).toNatClampNeg) hR
  refine lv_tableIn (off := 841) (tgt := 874) hx hb dL_law_33 (by rw [ck]; decide) (by rw [ck]; decide) (by rw [ck]; rfl) (by decide) ?_
  refine lv_aload_n hx hb dL_law_874 rfl (lv_at hl 1 rfl) ?_
  refine lv_aload_n hx hb dL_law_875 rfl (lv_at hl 0 rfl) ?_
  refine lv_iload_n hx hb dL_law_876 rfl (lv_at hl 3 rfl) ?_
  refine lv_iconst (v := 1) hx hb dL_law_877 (by decide) ?_
  refine lv_iadd hx hb dL_law_878 ?_
  refine va_sld hx hb hX hbl hbA h2.2.2.2.2.2 hv1 dL_law_879 ?_
  refine lv_aload_n hx hb dL_law_880 rfl (lv_at hl 0 rfl) ?_
  refine lv_iload_n hx hb dL_law_881 rfl (lv_at hl 3 rfl) ?_
  refine lv_iconst (v := 2) hx hb dL_law_882 (by decide) ?_
  refine lv_iadd hx hb dL_law_883 ?_
  refine va_sld hx hb hX hbl hbA h2.2.2.2.2.2 hv2 dL_law_884 ?_
  refine call2i (r := r) (w1' := cw q d σ1) (rest := []) (As := [.int (xs (nI i + 1).toNatClampNeg), .int (xs (nI i + 2).toNatClampNeg)]) C h2 (c_X6_best l d q σ (xs (nI i + 1).toNatClampNeg) (xs (nI i + 2).toNatClampNeg) (r, σ1) ec) iv_L_114 ⟨rfl, rfl, Nat.le_of_ble_eq_true rfl, Nat.le_of_ble_eq_true rfl⟩ cw_o0 rfl rfl rfl hl.1 (Nat.le_of_ble_eq_true rfl) ⟨Nat.le_refl _, Nat.le_refl _⟩ dL_law_885 (fun H locs h2 => ?_)
  replace h2 := h2.symm
  replace h2 : HS2 d (fun q => s.heap.size ≤ q) s.heap H locs (mw q' d τ) (cw q d σ1) := h2
  refine lv_aload_n hx hb dL_law_888 rfl (lv_at hl 2 rfl) ?_
  refine lv_aload_n hx hb dL_law_889 rfl (lv_at hl 0 rfl) ?_
  refine lv_iload_n hx hb dL_law_890 rfl (lv_at hl 3 rfl) ?_
  refine lv_iconst (v := 1) hx hb dL_law_891 (by decide) ?_
  refine lv_iadd hx hb dL_law_892 ?_
  refine va_sld hx hb hX hbl hbA h2.2.2.2.2.2 hv1 dL_law_893 ?_
  refine lv_aload_n hx hb dL_law_894 rfl (lv_at hl 0 rfl) ?_
  refine lv_iload_n hx hb dL_law_895 rfl (lv_at hl 3 rfl) ?_
  refine lv_iconst (v := 2) hx hb dL_law_896 (by decide) ?_
  refine lv_iadd hx hb dL_law_897 ?_
  refine va_sld hx hb hX hbl hbA h2.2.2.2.2.2 hv2 dL_law_898 ?_
  refine call2i (r := r) (w1' := mw q' d τ1) (rest := [.int r]) (As := [.int (xs (nI i + 1).toNatClampNeg), .int (xs (nI i + 2).toNatClampNeg)]) C h2 (c_X7_best l d q' τ (xs (nI i + 1).toNatClampNeg) (xs (nI i + 2).toNatClampNeg) (r, τ1) er) iv_L_117 ⟨rfl, rfl, Nat.le_of_ble_eq_true rfl, Nat.le_of_ble_eq_true rfl⟩ mw_o0 rfl rfl rfl hl.1 (Nat.le_of_ble_eq_true rfl) ⟨Nat.le_refl _, Nat.le_refl _⟩ dL_law_899 (fun H locs h2 => ?_)
  replace h2 := h2.symm
  refine lv_icmp_eq (tgt := 1208) hx hb dL_law_902 (by decide) (fun _ => ?_) (fun h => absurd rfl h)
  refine lv_iinc (v := nI i + 6) (lv' := [(3, .int (nI i + 6)), (0, .ref b), (1, .ref (q 0)), (2, .ref (q' 0))]) hx hb dL_law_1208 hl (k := 3) rfl rfl (by decide) rfl (fun ls hl => ?_)
  refine lv_goto (tgt := 18) hx hb dL_law_1211 (by decide) ?_
  rw [show nI i + 6 = nI (i + 6) from nI_add i 6] at hl
  exact ih q q' σ1 τ1 _ _ _ hR1 h2 (lv_sub hl [1, 2, 3, 0] rfl)
set_option maxRecDepth 100000 in
set_option maxHeartbeats 4000000 in
theorem law_ration {Rel : ST → ST → Prop} (hPu : P_ration Rel) {p : Program} {l : Launch} {e : Env} {s : State} {m : MethodId} {below : List Frame} {meth : Method} {c : Code} {b L i : Nat} {xs : Nat → Int32} {d : CD} {q q' : Nat → Nat} {σ τ : ST} {H : Heap} {locs : List Loc} {ls : Array Slot} (C : CX p s m #[Value.ref b] meth c RL code 4 ret d (fun q => s.heap.size ≤ q)) (hX : va_X b L xs s s.heap) (hbl : b < s.heap.size) (hL : L ≤ 384) (hi : i + 6 ≤ L) (hR : Rel σ τ) (h2 : HS2 d (fun q => s.heap.size ≤ q) s.heap H locs (cw q d σ) (mw q' d τ)) (hl : lv_has ls 4 [(0, .ref b), (1, .ref (q 0)), (2, .ref (q' 0)), (3, .int (nI i))]) (ck : xs (nI i).toNatClampNeg &&& 63 = 25)
    (ih : ∀ (q q' : Nat → Nat) (σ τ : ST) (H : Heap) (locs : List Loc) (ls : Array Slot), Rel σ τ → HS2 d (fun q => s.heap.size ≤ q) s.heap H locs (cw q d σ) (mw q' d τ) → lv_has ls 4 [(0, .ref b), (1, .ref (q 0)), (2, .ref (q' 0)), (3, .int (nI (i + 6)))] → W p l e room_1 s m #[Value.ref b] below meth c H locs 600000 7302250 (lw_Z below #[Value.ref b] s) (F0 m 18 ls [])) : W p l e room_1 s m #[Value.ref b] below meth c H locs 600000 7302250 (lw_Z below #[Value.ref b] s) (F0 m 33 ls [.int (xs (nI i).toNatClampNeg &&& 63)]) := by
  obtain ⟨hx, hb, hml, hown, hts, -⟩ := id C
  have hbA : ¬ (fun q => s.heap.size ≤ q) b := Nat.not_le.mpr hbl
  have hv0 : vp_in (nI i) L := vp_in_nI (by omega) (by omega)
  obtain ⟨r, σ1, τ1, ec, er, hR1⟩ := hPu σ τ hR
  refine lv_tableIn (off := 874) (tgt := 907) hx hb dL_law_33 (by rw [ck]; decide) (by rw [ck]; decide) (by rw [ck]; rfl) (by decide) ?_
  refine lv_aload_n hx hb dL_law_907 rfl (lv_at hl 1 rfl) ?_
  refine call2i (r := r) (w1' := cw q d σ1) (rest := []) (As := []) C h2 (c_X6_ration l d q σ (r, σ1) ec) iv_L_118 ⟨rfl, rfl, Nat.le_of_ble_eq_true rfl, Nat.le_of_ble_eq_true rfl⟩ cw_o0 rfl rfl rfl hl.1 (Nat.le_of_ble_eq_true rfl) ⟨Nat.le_refl _, Nat.le_refl _⟩ dL_law_908 (fun H locs h2 => ?_)
  replace h2 := h2.symm
  replace h2 : HS2 d (fun q => s.heap.size ≤ q) s.heap H locs (mw q' d τ) (cw q d σ1) := h2
  refine lv_aload_n hx hb dL_law_911 rfl (lv_at hl 2 rfl) ?_
  refine call2i (r := r) (w1' := mw q' d τ1) (rest := [.int r]) (As := []) C h2 (c_X7_ration l d q' τ (r, τ1) er) iv_L_121 ⟨rfl, rfl, Nat.le_of_ble_eq_true rfl, Nat.le_of_ble_eq_true rfl⟩ mw_o0 rfl rfl rfl hl.1 (Nat.le_of_ble_eq_true rfl) ⟨Nat.le_refl _, Nat.le_refl _⟩ dL_law_912 (fun H locs h2 => ?_)
  replace h2 := h2.symm
  refine lv_icmp_eq (tgt := 1208) hx hb dL_law_915 (by decide) (fun _ => ?_) (fun h => absurd rfl h)
  refine lv_iinc (v := nI i + 6) (lv' := [(3, .int (nI i + 6)), (0, .ref b), (1, .ref (q 0)), (2, .ref (q' 0))]) hx hb dL_law_1208 hl (k := 3) rfl rfl (by decide) rfl (fun ls hl => ?_)
  refine lv_goto (tgt := 18) hx hb dL_law_1211 (by decide) ?_
  rw [show nI i + 6 = nI (i + 6) from nI_add i 6] at hl
  exact ih q q' σ1 τ1 _ _ _ hR1 h2 (lv_sub hl [1, 2, 3, 0] rfl)
set_option maxRecDepth 100000 in
set_option maxHeartbeats 4000000 in
theorem law_frogs {Rel : ST → ST → Prop} (hPu : P_frogs Rel) {p : Program} {l : Launch} {e : Env} {s : State} {m : MethodId} {below : List Frame} {meth : Method} {c : Code} {b L i : Nat} {xs : Nat → Int32} {d : CD} {q q' : Nat → Nat} {σ τ : ST} {H : Heap} {locs : List Loc} {ls : Array Slot} (C : CX p s m #[Value.ref b] meth c RL code 4 ret d (fun q => s.heap.size ≤ q)) (hX : va_X b L xs s s.heap) (hbl : b < s.heap.size) (hL : L ≤ 384) (hi : i + 6 ≤ L) (hR : Rel σ τ) (h2 : HS2 d (fun q => s.heap.size ≤ q) s.heap H locs (cw q d σ) (mw q' d τ)) (hl : lv_has ls 4 [(0, .ref b), (1, .ref (q 0)), (2, .ref (q' 0)), (3, .int (nI i))]) (ck : xs (nI i).toNatClampNeg &&& 63 = 26)
    (ih : ∀ (q q' : Nat → Nat) (σ τ : ST) (H : Heap) (locs : List Loc) (ls : Array Slot), Rel σ τ → HS2 d (fun q => s.heap.size ≤ q) s.heap H locs (cw q d σ) (mw q' d τ) → lv_has ls 4 [(0, .ref b), (1, .ref (q 0)), (2, .ref (q' 0)), (3, .int (nI (i + 6)))] → W p l e room_1 s m #[Value.ref b] below meth c H locs 600000 7302250 (lw_Z below #[Value.ref b] s) (F0 m 18 ls [])) : W p l e room_1 s m #[Value.ref b] below meth c H locs 600000 7302250 (lw_Z below #[Value.ref b] s) (F0 m 33 ls [.int (xs (nI i).toNatClampNeg &&& 63)]) := by
  obtain ⟨hx, hb, hml, hown, hts, -⟩ := id C
  have hbA : ¬ (fun q => s.heap.size ≤ q) b := Nat.not_le.mpr hbl
  have hv0 : vp_in (nI i) L := vp_in_nI (by omega) (by omega)
  have hv1 : vp_in (nI i + 1) L := by rw [show nI i + 1 = nI (i + 1) from nI_add i 1]; exact vp_in_nI (by omega) (by omega)
  obtain ⟨r, σ1, τ1, ec, er, hR1⟩ := hPu σ τ (xs (nI i + 1).toNatClampNeg) hR
  refine lv_tableIn (off := 887) (tgt := 920) hx hb dL_law_33 (by rw [ck]; decide) (by rw [ck]; decide) (by rw [ck]; rfl) (by decide) ?_
  refine lv_aload_n hx hb dL_law_920 rfl (lv_at hl 1 rfl) ?_
  refine lv_aload_n hx hb dL_law_921 rfl (lv_at hl 0 rfl) ?_
  refine lv_iload_n hx hb dL_law_922 rfl (lv_at hl 3 rfl) ?_
  refine lv_iconst (v := 1) hx hb dL_law_923 (by decide) ?_
  refine lv_iadd hx hb dL_law_924 ?_
  refine va_sld hx hb hX hbl hbA h2.2.2.2.2.2 hv1 dL_law_925 ?_
  refine call2i (r := r) (w1' := cw q d σ1) (rest := []) (As := [.int (xs (nI i + 1).toNatClampNeg)]) C h2 (c_X6_frogs l d q σ (xs (nI i + 1).toNatClampNeg) (r, σ1) ec) iv_L_122 ⟨rfl, rfl, Nat.le_of_ble_eq_true rfl, Nat.le_of_ble_eq_true rfl⟩ cw_o0 rfl rfl rfl hl.1 (Nat.le_of_ble_eq_true rfl) ⟨Nat.le_refl _, Nat.le_refl _⟩ dL_law_926 (fun H locs h2 => ?_)
  replace h2 := h2.symm
  replace h2 : HS2 d (fun q => s.heap.size ≤ q) s.heap H locs (mw q' d τ) (cw q d σ1) := h2
  refine lv_aload_n hx hb dL_law_929 rfl (lv_at hl 2 rfl) ?_
  refine lv_aload_n hx hb dL_law_930 rfl (lv_at hl 0 rfl) ?_
  refine lv_iload_n hx hb dL_law_931 rfl (lv_at hl 3 rfl) ?_
  refine lv_iconst (v := 1) hx hb dL_law_932 (by decide) ?_
  refine lv_iadd hx hb dL_law_933 ?_
  refine va_sld hx hb hX hbl hbA h2.2.2.2.2.2 hv1 dL_law_934 ?_
  refine call2i (r := r) (w1' := mw q' d τ1) (rest := [.int r]) (As := [.int (xs (nI i + 1).toNatClampNeg)]) C h2 (c_X7_frogs l d q' τ (xs (nI i + 1).toNatClampNeg) (r, τ1) er) iv_L_125 ⟨rfl, rfl, Nat.le_of_ble_eq_true rfl, Nat.le_of_ble_eq_true rfl⟩ mw_o0 rfl rfl rfl hl.1 (Nat.le_of_ble_eq_true rfl) ⟨Nat.le_refl _, Nat.le_refl _⟩ dL_law_935 (fun H locs h2 => ?_)
  replace h2 := h2.symm
  refine lv_icmp_eq (tgt := 1208) hx hb dL_law_938 (by decide) (fun _ => ?_) (fun h => absurd rfl h)
  refine lv_iinc (v := nI i + 6) (lv' := [(3, .int (nI i + 6)), (0, .ref b), (1, .ref (q 0)), (2, .ref (q' 0))]) hx hb dL_law_1208 hl (k := 3) rfl rfl (by decide) rfl (fun ls hl => ?_)
  refine lv_goto (tgt := 18) hx hb dL_law_1211 (by decide) ?_
  rw [show nI i + 6 = nI (i + 6) from nI_add i 6] at hl
  exact ih q q' σ1 τ1 _ _ _ hR1 h2 (lv_sub hl [1, 2, 3, 0] rfl)
set_option maxRecDepth 100000 in
set_option maxHeartbeats 4000000 in
theorem law_twice {Rel : ST → ST → Prop} (hPu : P_twice Rel) {p : Program} {l : Launch} {e : Env} {s : State} {m : MethodId} {below : List Frame} {meth : Method} {c : Code} {b L i : Nat} {xs : Nat → Int32} {d : CD} {q q' : Nat → Nat} {σ τ : ST} {H : Heap} {locs : List Loc} {ls : Array Slot} (C : CX p s m #[Value.ref b] meth c RL code 4 ret d (fun q => s.heap.size ≤ q)) (hX : va_X b L xs s s.heap) (hbl : b < s.heap.size) (hL : L ≤ 384) (hi : i + 6 ≤ L) (hR : Rel σ τ) (h2 : HS2 d (fun q => s.heap.size ≤ q) s.heap H locs (cw q d σ) (mw q' d τ)) (hl : lv_has ls 4 [(0, .ref b), (1, .ref (q 0)), (2, .ref (q' 0)), (3, .int (nI i))]) (ck : xs (nI i).toNatClampNeg &&& 63 = 27)
    (ih : ∀ (q q' : Nat → Nat) (σ τ : ST) (H : Heap) (locs : List Loc) (ls : Array Slot), Rel σ τ → HS2 d (fun q => s.heap.size ≤ q) s.heap H locs (cw q d σ) (mw q' d τ) → lv_has ls 4 [(0, .ref b), (1, .ref (q 0)), (2, .ref (q' 0)), (3, .int (nI (i + 6)))] → W p l e room_1 s m #[Value.ref b] below meth c H locs 600000 7302250 (lw_Z below #[Value.ref b] s) (F0 m 18 ls [])) : W p l e room_1 s m #[Value.ref b] below meth c H locs 600000 7302250 (lw_Z below #[Value.ref b] s) (F0 m 33 ls [.int (xs (nI i).toNatClampNeg &&& 63)]) := by
  obtain ⟨hx, hb, hml, hown, hts, -⟩ := id C
  have hbA : ¬ (fun q => s.heap.size ≤ q) b := Nat.not_le.mpr hbl
  have hv0 : vp_in (nI i) L := vp_in_nI (by omega) (by omega)
  have hv1 : vp_in (nI i + 1) L := by rw [show nI i + 1 = nI (i + 1) from nI_add i 1]; exact vp_in_nI (by omega) (by omega)
  obtain ⟨r, σ1, τ1, ec, er, hR1⟩ := hPu σ τ (xs (nI i + 1).toNatClampNeg) hR
  refine lv_tableIn (off := 910) (tgt := 943) hx hb dL_law_33 (by rw [ck]; decide) (by rw [ck]; decide) (by rw [ck]; rfl) (by decide) ?_
  refine lv_aload_n hx hb dL_law_943 rfl (lv_at hl 1 rfl) ?_
  refine lv_aload_n hx hb dL_law_944 rfl (lv_at hl 0 rfl) ?_
  refine lv_iload_n hx hb dL_law_945 rfl (lv_at hl 3 rfl) ?_
  refine lv_iconst (v := 1) hx hb dL_law_946 (by decide) ?_
  refine lv_iadd hx hb dL_law_947 ?_
  refine va_sld hx hb hX hbl hbA h2.2.2.2.2.2 hv1 dL_law_948 ?_
  refine call2i (r := r) (w1' := cw q d σ1) (rest := []) (As := [.int (xs (nI i + 1).toNatClampNeg)]) C h2 (c_X6_twice l d q σ (xs (nI i + 1).toNatClampNeg) (r, σ1) ec) iv_L_126 ⟨rfl, rfl, Nat.le_of_ble_eq_true rfl, Nat.le_of_ble_eq_true rfl⟩ cw_o0 rfl rfl rfl hl.1 (Nat.le_of_ble_eq_true rfl) ⟨Nat.le_refl _, Nat.le_refl _⟩ dL_law_949 (fun H locs h2 => ?_)
  replace h2 := h2.symm
  replace h2 : HS2 d (fun q => s.heap.size ≤ q) s.heap H locs (mw q' d τ) (cw q d σ1) := h2
  refine lv_aload_n hx hb dL_law_952 rfl (lv_at hl 2 rfl) ?_
  refine lv_aload_n hx hb dL_law_953 rfl (lv_at hl 0 rfl) ?_
  refine lv_iload_n hx hb dL_law_954 rfl (lv_at hl 3 rfl) ?_
  refine lv_iconst (v := 1) hx hb dL_law_955 (by decide) ?_
  refine lv_iadd hx hb dL_law_956 ?_
  refine va_sld hx hb hX hbl hbA h2.2.2.2.2.2 hv1 dL_law_957 ?_
  refine call2i (r := r) (w1' := mw q' d τ1) (rest := [.int r]) (As := [.int (xs (nI i + 1).toNatClampNeg)]) C h2 (c_X7_twice l d q' τ (xs (nI i + 1).toNatClampNeg) (r, τ1) er) iv_L_129 ⟨rfl, rfl, Nat.le_of_ble_eq_true rfl, Nat.le_of_ble_eq_true rfl⟩ mw_o0 rfl rfl rfl hl.1 (Nat.le_of_ble_eq_true rfl) ⟨Nat.le_refl _, Nat.le_refl _⟩ dL_law_958 (fun H locs h2 => ?_)
  replace h2 := h2.symm
  refine lv_icmp_eq (tgt := 1208) hx hb dL_law_961 (by decide) (fun _ => ?_) (fun h => absurd rfl h)
  refine lv_iinc (v := nI i + 6) (lv' := [(3, .int (nI i + 6)), (0, .ref b), (1, .ref (q 0)), (2, .ref (q' 0))]) hx hb dL_law_1208 hl (k := 3) rfl rfl (by decide) rfl (fun ls hl => ?_)
  refine lv_goto (tgt := 18) hx hb dL_law_1211 (by decide) ?_
  rw [show nI i + 6 = nI (i + 6) from nI_add i 6] at hl
  exact ih q q' σ1 τ1 _ _ _ hR1 h2 (lv_sub hl [1, 2, 3, 0] rfl)
set_option maxRecDepth 100000 in
set_option maxHeartbeats 4000000 in
theorem law_quorum {Rel : ST → ST → Prop} (hPu : P_quorum Rel) {p : Program} {l : Launch} {e : Env} {s : State} {m : MethodId} {below : List Frame} {meth : Method} {c : Code} {b L i : Nat} {xs : Nat → Int32} {d : CD} {q q' : Nat → Nat} {σ τ : ST} {H : Heap} {locs : List Loc} {ls : Array Slot} (C : CX p s m #[Value.ref b] meth c RL code 4 ret d (fun q => s.heap.size ≤ q)) (hX : va_X b L xs s s.heap) (hbl : b < s.heap.size) (hL : L ≤ 384) (hi : i + 6 ≤ L) (hR : Rel σ τ) (h2 : HS2 d (fun q => s.heap.size ≤ q) s.heap H locs (cw q d σ) (mw q' d τ)) (hl : lv_has ls 4 [(0, .ref b), (1, .ref (q 0)), (2, .ref (q' 0)), (3, .int (nI i))]) (ck : xs (nI i).toNatClampNeg &&& 63 = 28)
    (ih : ∀ (q q' : Nat → Nat) (σ τ : ST) (H : Heap) (locs : List Loc) (ls : Array Slot), Rel σ τ → HS2 d (fun q => s.heap.size ≤ q) s.heap H locs (cw q d σ) (mw q' d τ) → lv_has ls 4 [(0, .ref b), (1, .ref (q 0)), (2, .ref (q' 0)), (3, .int (nI (i + 6)))] → W p l e room_1 s m #[Value.ref b] below meth c H locs 600000 7302250 (lw_Z below #[Value.ref b] s) (F0 m 18 ls [])) : W p l e room_1 s m #[Value.ref b] below meth c H locs 600000 7302250 (lw_Z below #[Value.ref b] s) (F0 m 33 ls [.int (xs (nI i).toNatClampNeg &&& 63)]) := by
  obtain ⟨hx, hb, hml, hown, hts, -⟩ := id C
  have hbA : ¬ (fun q => s.heap.size ≤ q) b := Nat.not_le.mpr hbl
  have hv0 : vp_in (nI i) L := vp_in_nI (by omega) (by omega)
  have hv1 : vp_in (nI i + 1) L := by rw [show nI i + 1 = nI (i + 1) from nI_add i 1]; exact vp_in_nI (by omega) (by omega)
  obtain ⟨r, σ1, τ1, ec, er, hR1⟩ := hPu σ τ (xs (nI i + 1).toNatClampNeg) hR
  refine lv_tableIn (off := 933) (tgt := 966) hx hb dL_law_33 (by rw [ck]; decide) (by rw [ck]; decide) (by rw [ck]; rfl) (by decide) ?_
  refine lv_aload_n hx hb dL_law_966 rfl (lv_at hl 1 rfl) ?_
  refine lv_aload_n hx hb dL_law_967 rfl (lv_at hl 0 rfl) ?_
  refine lv_iload_n hx hb dL_law_968 rfl (lv_at hl 3 rfl) ?_
  refine lv_iconst (v := 1) hx hb dL_law_969 (by decide) ?_
  refine lv_iadd hx hb dL_law_970 ?_
  refine va_sld hx hb hX hbl hbA h2.2.2.2.2.2 hv1 dL_law_971 ?_
  refine call2i (r := r) (w1' := cw q d σ1) (rest := []) (As := [.int (xs (nI i + 1).toNatClampNeg)]) C h2 (c_X6_quorum l d q σ (xs (nI i + 1).toNatClampNeg) (r, σ1) ec) iv_L_130 ⟨rfl, rfl, Nat.le_of_ble_eq_true rfl, Nat.le_of_ble_eq_true rfl⟩ cw_o0 rfl rfl rfl hl.1 (Nat.le_of_ble_eq_true rfl) ⟨Nat.le_refl _, Nat.le_refl _⟩ dL_law_972 (fun H locs h2 => ?_)
  replace h2 := h2.symm
  replace h2 : HS2 d (fun q => s.heap.size ≤ q) s.heap H locs (mw q' d τ) (cw q d σ1) := h2
  refine lv_aload_n hx hb dL_law_975 rfl (lv_at hl 2 rfl) ?_
  refine lv_aload_n hx hb dL_law_976 rfl (lv_at hl 0 rfl) ?_
  refine lv_iload_n hx hb dL_law_977 rfl (lv_at hl 3 rfl) ?_
  refine lv_iconst (v := 1) hx hb dL_law_978 (by decide) ?_
  refine lv_iadd hx hb dL_law_979 ?_
  refine va_sld hx hb hX hbl hbA h2.2.2.2.2.2 hv1 dL_law_980 ?_
  refine call2i (r := r) (w1' := mw q' d τ1) (rest := [.int r]) (As := [.int (xs (nI i + 1).toNatClampNeg)]) C h2 (c_X7_quorum l d q' τ (xs (nI i + 1).toNatClampNeg) (r, τ1) er) iv_L_133 ⟨rfl, rfl, Nat.le_of_ble_eq_true rfl, Nat.le_of_ble_eq_true rfl⟩ mw_o0 rfl rfl rfl hl.1 (Nat.le_of_ble_eq_true rfl) ⟨Nat.le_refl _, Nat.le_refl _⟩ dL_law_981 (fun H locs h2 => ?_)
  replace h2 := h2.symm
  refine lv_icmp_eq (tgt := 1208) hx hb dL_law_984 (by decide) (fun _ => ?_) (fun h => absurd rfl h)
  refine lv_iinc (v := nI i + 6) (lv' := [(3, .int (nI i + 6)), (0, .ref b), (1, .ref (q 0)), (2, .ref (q' 0))]) hx hb dL_law_1208 hl (k := 3) rfl rfl (by decide) rfl (fun ls hl => ?_)
  refine lv_goto (tgt := 18) hx hb dL_law_1211 (by decide) ?_
  rw [show nI i + 6 = nI (i + 6) from nI_add i 6] at hl
  exact ih q q' σ1 τ1 _ _ _ hR1 h2 (lv_sub hl [1, 2, 3, 0] rfl)
set_option maxRecDepth 100000 in
set_option maxHeartbeats 4000000 in
theorem law_call {Rel : ST → ST → Prop} (hPu : P_call Rel) {p : Program} {l : Launch} {e : Env} {s : State} {m : MethodId} {below : List Frame} {meth : Method} {c : Code} {b L i : Nat} {xs : Nat → Int32} {d : CD} {q q' : Nat → Nat} {σ τ : ST} {H : Heap} {locs : List Loc} {ls : Array Slot} (C : CX p s m #[Value.ref b] meth c RL code 4 ret d (fun q => s.heap.size ≤ q)) (hX : va_X b L xs s s.heap) (hbl : b < s.heap.size) (hL : L ≤ 384) (hi : i + 6 ≤ L) (hR : Rel σ τ) (h2 : HS2 d (fun q => s.heap.size ≤ q) s.heap H locs (cw q d σ) (mw q' d τ)) (hl : lv_has ls 4 [(0, .ref b), (1, .ref (q 0)), (2, .ref (q' 0)), (3, .int (nI i))]) (ck : xs (nI i).toNatClampNeg &&& 63 = 29)
    (ih : ∀ (q q' : Nat → Nat) (σ τ : ST) (H : Heap) (locs : List Loc) (ls : Array Slot), Rel σ τ → HS2 d (fun q => s.heap.size ≤ q) s.heap H locs (cw q d σ) (mw q' d τ) → lv_has ls 4 [(0, .ref b), (1, .ref (q 0)), (2, .ref (q' 0)), (3, .int (nI (i + 6)))] → W p l e room_1 s m #[Value.ref b] below meth c H locs 600000 7302250 (lw_Z below #[Value.ref b] s) (F0 m 18 ls [])) : W p l e room_1 s m #[Value.ref b] below meth c H locs 600000 7302250 (lw_Z below #[Value.ref b] s) (F0 m 33 ls [.int (xs (nI i).toNatClampNeg &&& 63)]) := by
  obtain ⟨hx, hb, hml, hown, hts, -⟩ := id C
  have hbA : ¬ (fun q => s.heap.size ≤ q) b := Nat.not_le.mpr hbl
  have hv0 : vp_in (nI i) L := vp_in_nI (by omega) (by omega)
  obtain ⟨r, σ1, τ1, ec, er, hR1⟩ := hPu σ τ hR
  refine lv_tableIn (off := 956) (tgt := 989) hx hb dL_law_33 (by rw [ck]; decide) (by rw [ck]; decide) (by rw [ck]; rfl) (by decide) ?_
  refine lv_aload_n hx hb dL_law_989 rfl (lv_at hl 1 rfl) ?_
  refine call2i (r := r) (w1' := cw q d σ1) (rest := []) (As := []) C h2 (c_X6_call l d q σ (r, σ1) ec) iv_L_134 ⟨rfl, rfl, Nat.le_of_ble_eq_true rfl, Nat.le_of_ble_eq_true rfl⟩ cw_o0 rfl rfl rfl hl.1 (Nat.le_of_ble_eq_true rfl) ⟨Nat.le_refl _, Nat.le_refl _⟩ dL_law_990 (fun H locs h2 => ?_)
  replace h2 := h2.symm
  replace h2 : HS2 d (fun q => s.heap.size ≤ q) s.heap H locs (mw q' d τ) (cw q d σ1) := h2
  refine lv_aload_n hx hb dL_law_993 rfl (lv_at hl 2 rfl) ?_
  refine call2i (r := r) (w1' := mw q' d τ1) (rest := [.int r]) (As := []) C h2 (c_X7_call l d q' τ (r, τ1) er) iv_L_137 ⟨rfl, rfl, Nat.le_of_ble_eq_true rfl, Nat.le_of_ble_eq_true rfl⟩ mw_o0 rfl rfl rfl hl.1 (Nat.le_of_ble_eq_true rfl) ⟨Nat.le_refl _, Nat.le_refl _⟩ dL_law_994 (fun H locs h2 => ?_)
  replace h2 := h2.symm
  refine lv_icmp_eq (tgt := 1208) hx hb dL_law_997 (by decide) (fun _ => ?_) (fun h => absurd rfl h)
  refine lv_iinc (v := nI i + 6) (lv' := [(3, .int (nI i + 6)), (0, .ref b), (1, .ref (q 0)), (2, .ref (q' 0))]) hx hb dL_law_1208 hl (k := 3) rfl rfl (by decide) rfl (fun ls hl => ?_)
  refine lv_goto (tgt := 18) hx hb dL_law_1211 (by decide) ?_
  rw [show nI i + 6 = nI (i + 6) from nI_add i 6] at hl
  exact ih q q' σ1 τ1 _ _ _ hR1 h2 (lv_sub hl [1, 2, 3, 0] rfl)
set_option maxRecDepth 100000 in
set_option maxHeartbeats 4000000 in
theorem law_first {Rel : ST → ST → Prop} (hPu : P_first Rel) {p : Program} {l : Launch} {e : Env} {s : State} {m : MethodId} {below : List Frame} {meth : Method} {c : Code} {b L i : Nat} {xs : Nat → Int32} {d : CD} {q q' : Nat → Nat} {σ τ : ST} {H : Heap} {locs : List Loc} {ls : Array Slot} (C : CX p s m #[Value.ref b] meth c RL code 4 ret d (fun q => s.heap.size ≤ q)) (hX : va_X b L xs s s.heap) (hbl : b < s.heap.size) (hL : L ≤ 384) (hi : i + 6 ≤ L) (hR : Rel σ τ) (h2 : HS2 d (fun q => s.heap.size ≤ q) s.heap H locs (cw q d σ) (mw q' d τ)) (hl : lv_has ls 4 [(0, .ref b), (1, .ref (q 0)), (2, .ref (q' 0)), (3, .int (nI i))]) (ck : xs (nI i).toNatClampNeg &&& 63 = 30)
    (ih : ∀ (q q' : Nat → Nat) (σ τ : ST) (H : Heap) (locs : List Loc) (ls : Array Slot), Rel σ τ → HS2 d (fun q => s.heap.size ≤ q) s.heap H locs (cw q d σ) (mw q' d τ) → lv_has ls 4 [(0, .ref b), (1, .ref (q 0)), (2, .ref (q' 0)), (3, .int (nI (i + 6)))] → W p l e room_1 s m #[Value.ref b] below meth c H locs 600000 7302250 (lw_Z below #[Value.ref b] s) (F0 m 18 ls [])) : W p l e room_1 s m #[Value.ref b] below meth c H locs 600000 7302250 (lw_Z below #[Value.ref b] s) (F0 m 33 ls [.int (xs (nI i).toNatClampNeg &&& 63)]) := by
  obtain ⟨hx, hb, hml, hown, hts, -⟩ := id C
  have hbA : ¬ (fun q => s.heap.size ≤ q) b := Nat.not_le.mpr hbl
  have hv0 : vp_in (nI i) L := vp_in_nI (by omega) (by omega)
  obtain ⟨r, σ1, τ1, ec, er, hR1⟩ := hPu σ τ hR
  refine lv_tableIn (off := 969) (tgt := 1002) hx hb dL_law_33 (by rw [ck]; decide) (by rw [ck]; decide) (by rw [ck]; rfl) (by decide) ?_
  refine lv_aload_n hx hb dL_law_1002 rfl (lv_at hl 1 rfl) ?_
  refine call2i (r := r) (w1' := cw q d σ1) (rest := []) (As := []) C h2 (c_X6_first l d q σ (r, σ1) ec) iv_L_138 ⟨rfl, rfl, Nat.le_of_ble_eq_true rfl, Nat.le_of_ble_eq_true rfl⟩ cw_o0 rfl rfl rfl hl.1 (Nat.le_of_ble_eq_true rfl) ⟨Nat.le_refl _, Nat.le_refl _⟩ dL_law_1003 (fun H locs h2 => ?_)
  replace h2 := h2.symm
  replace h2 : HS2 d (fun q => s.heap.size ≤ q) s.heap H locs (mw q' d τ) (cw q d σ1) := h2
  refine lv_aload_n hx hb dL_law_1006 rfl (lv_at hl 2 rfl) ?_
  refine call2i (r := r) (w1' := mw q' d τ1) (rest := [.int r]) (As := []) C h2 (c_X7_first l d q' τ (r, τ1) er) iv_L_141 ⟨rfl, rfl, Nat.le_of_ble_eq_true rfl, Nat.le_of_ble_eq_true rfl⟩ mw_o0 rfl rfl rfl hl.1 (Nat.le_of_ble_eq_true rfl) ⟨Nat.le_refl _, Nat.le_refl _⟩ dL_law_1007 (fun H locs h2 => ?_)
  replace h2 := h2.symm
  refine lv_icmp_eq (tgt := 1208) hx hb dL_law_1010 (by decide) (fun _ => ?_) (fun h => absurd rfl h)
  refine lv_iinc (v := nI i + 6) (lv' := [(3, .int (nI i + 6)), (0, .ref b), (1, .ref (q 0)), (2, .ref (q' 0))]) hx hb dL_law_1208 hl (k := 3) rfl rfl (by decide) rfl (fun ls hl => ?_)
  refine lv_goto (tgt := 18) hx hb dL_law_1211 (by decide) ?_
  rw [show nI i + 6 = nI (i + 6) from nI_add i 6] at hl
  exact ih q q' σ1 τ1 _ _ _ hR1 h2 (lv_sub hl [1, 2, 3, 0] rfl)
set_option maxRecDepth 100000 in
set_option maxHeartbeats 4000000 in
theorem law_odds {Rel : ST → ST → Prop} (hPu : P_odds Rel) {p : Program} {l : Launch} {e : Env} {s : State} {m : MethodId} {below : List Frame} {meth : Method} {c : Code} {b L i : Nat} {xs : Nat → Int32} {d : CD} {q q' : Nat → Nat} {σ τ : ST} {H : Heap} {locs : List Loc} {ls : Array Slot} (C : CX p s m #[Value.ref b] meth c RL code 4 ret d (fun q => s.heap.size ≤ q)) (hX : va_X b L xs s s.heap) (hbl : b < s.heap.size) (hL : L ≤ 384) (hi : i + 6 ≤ L) (hR : Rel σ τ) (h2 : HS2 d (fun q => s.heap.size ≤ q) s.heap H locs (cw q d σ) (mw q' d τ)) (hl : lv_has ls 4 [(0, .ref b), (1, .ref (q 0)), (2, .ref (q' 0)), (3, .int (nI i))]) (ck : xs (nI i).toNatClampNeg &&& 63 = 31)
    (ih : ∀ (q q' : Nat → Nat) (σ τ : ST) (H : Heap) (locs : List Loc) (ls : Array Slot), Rel σ τ → HS2 d (fun q => s.heap.size ≤ q) s.heap H locs (cw q d σ) (mw q' d τ) → lv_has ls 4 [(0, .ref b), (1, .ref (q 0)), (2, .ref (q' 0)), (3, .int (nI (i + 6)))] → W p l e room_1 s m #[Value.ref b] below meth c H locs 600000 7302250 (lw_Z below #[Value.ref b] s) (F0 m 18 ls [])) : W p l e room_1 s m #[Value.ref b] below meth c H locs 600000 7302250 (lw_Z below #[Value.ref b] s) (F0 m 33 ls [.int (xs (nI i).toNatClampNeg &&& 63)]) := by
  obtain ⟨hx, hb, hml, hown, hts, -⟩ := id C
  have hbA : ¬ (fun q => s.heap.size ≤ q) b := Nat.not_le.mpr hbl
  have hv0 : vp_in (nI i) L := vp_in_nI (by omega) (by omega)
  have hv1 : vp_in (nI i + 1) L := by rw [show nI i + 1 = nI (i + 1) from nI_add i 1]; exact vp_in_nI (by omega) (by omega)
  obtain ⟨r, σ1, τ1, ec, er, hR1⟩ := hPu σ τ (xs (nI i + 1).toNatClampNeg) hR
  refine lv_tableIn (off := 982) (tgt := 1015) hx hb dL_law_33 (by rw [ck]; decide) (by rw [ck]; decide) (by rw [ck]; rfl) (by decide) ?_
  refine lv_aload_n hx hb dL_law_1015 rfl (lv_at hl 1 rfl) ?_
  refine lv_aload_n hx hb dL_law_1016 rfl (lv_at hl 0 rfl) ?_
  refine lv_iload_n hx hb dL_law_1017 rfl (lv_at hl 3 rfl) ?_
  refine lv_iconst (v := 1) hx hb dL_law_1018 (by decide) ?_
  refine lv_iadd hx hb dL_law_1019 ?_
  refine va_sld hx hb hX hbl hbA h2.2.2.2.2.2 hv1 dL_law_1020 ?_
  refine call2i (r := r) (w1' := cw q d σ1) (rest := []) (As := [.int (xs (nI i + 1).toNatClampNeg)]) C h2 (c_X6_odds l d q σ (xs (nI i + 1).toNatClampNeg) (r, σ1) ec) iv_L_142 ⟨rfl, rfl, Nat.le_of_ble_eq_true rfl, Nat.le_of_ble_eq_true rfl⟩ cw_o0 rfl rfl rfl hl.1 (Nat.le_of_ble_eq_true rfl) ⟨Nat.le_refl _, Nat.le_refl _⟩ dL_law_1021 (fun H locs h2 => ?_)
  replace h2 := h2.symm
  replace h2 : HS2 d (fun q => s.heap.size ≤ q) s.heap H locs (mw q' d τ) (cw q d σ1) := h2
  refine lv_aload_n hx hb dL_law_1024 rfl (lv_at hl 2 rfl) ?_
  refine lv_aload_n hx hb dL_law_1025 rfl (lv_at hl 0 rfl) ?_
  refine lv_iload_n hx hb dL_law_1026 rfl (lv_at hl 3 rfl) ?_
  refine lv_iconst (v := 1) hx hb dL_law_1027 (by decide) ?_
  refine lv_iadd hx hb dL_law_1028 ?_
  refine va_sld hx hb hX hbl hbA h2.2.2.2.2.2 hv1 dL_law_1029 ?_
  refine call2i (r := r) (w1' := mw q' d τ1) (rest := [.int r]) (As := [.int (xs (nI i + 1).toNatClampNeg)]) C h2 (c_X7_odds l d q' τ (xs (nI i + 1).toNatClampNeg) (r, τ1) er) iv_L_145 ⟨rfl, rfl, Nat.le_of_ble_eq_true rfl, Nat.le_of_ble_eq_true rfl⟩ mw_o0 rfl rfl rfl hl.1 (Nat.le_of_ble_eq_true rfl) ⟨Nat.le_refl _, Nat.le_refl _⟩ dL_law_1030 (fun H locs h2 => ?_)
  replace h2 := h2.symm
  refine lv_icmp_eq (tgt := 1208) hx hb dL_law_1033 (by decide) (fun _ => ?_) (fun h => absurd rfl h)
  refine lv_iinc (v := nI i + 6) (lv' := [(3, .int (nI i + 6)), (0, .ref b), (1, .ref (q 0)), (2, .ref (q' 0))]) hx hb dL_law_1208 hl (k := 3) rfl rfl (by decide) rfl (fun ls hl => ?_)
  refine lv_goto (tgt := 18) hx hb dL_law_1211 (by decide) ?_
  rw [show nI i + 6 = nI (i + 6) from nI_add i 6] at hl
  exact ih q q' σ1 τ1 _ _ _ hR1 h2 (lv_sub hl [1, 2, 3, 0] rfl)
set_option maxRecDepth 100000 in
set_option maxHeartbeats 4000000 in
theorem law_mid {Rel : ST → ST → Prop} (hPu : P_mid Rel) {p : Program} {l : Launch} {e : Env} {s : State} {m : MethodId} {below : List Frame} {meth : Method} {c : Code} {b L i : Nat} {xs : Nat → Int32} {d : CD} {q q' : Nat → Nat} {σ τ : ST} {H : Heap} {locs : List Loc} {ls : Array Slot} (C : CX p s m #[Value.ref b] meth c RL code 4 ret d (fun q => s.heap.size ≤ q)) (hX : va_X b L xs s s.heap) (hbl : b < s.heap.size) (hL : L ≤ 384) (hi : i + 6 ≤ L) (hR : Rel σ τ) (h2 : HS2 d (fun q => s.heap.size ≤ q) s.heap H locs (cw q d σ) (mw q' d τ)) (hl : lv_has ls 4 [(0, .ref b), (1, .ref (q 0)), (2, .ref (q' 0)), (3, .int (nI i))]) (ck : xs (nI i).toNatClampNeg &&& 63 = 32)
    (ih : ∀ (q q' : Nat → Nat) (σ τ : ST) (H : Heap) (locs : List Loc) (ls : Array Slot), Rel σ τ → HS2 d (fun q => s.heap.size ≤ q) s.heap H locs (cw q d σ) (mw q' d τ) → lv_has ls 4 [(0, .ref b), (1, .ref (q 0)), (2, .ref (q' 0)), (3, .int (nI (i + 6)))] → W p l e room_1 s m #[Value.ref b] below meth c H locs 600000 7302250 (lw_Z below #[Value.ref b] s) (F0 m 18 ls [])) : W p l e room_1 s m #[Value.ref b] below meth c H locs 600000 7302250 (lw_Z below #[Value.ref b] s) (F0 m 33 ls [.int (xs (nI i).toNatClampNeg &&& 63)]) := by
  obtain ⟨hx, hb, hml, hown, hts, -⟩ := id C
  have hbA : ¬ (fun q => s.heap.size ≤ q) b := Nat.not_le.mpr hbl
  have hv0 : vp_in (nI i) L := vp_in_nI (by omega) (by omega)
  have hv1 : vp_in (nI i + 1) L := by rw [show nI i + 1 = nI (i + 1) from nI_add i 1]; exact vp_in_nI (by omega) (by omega)
  obtain ⟨r, σ1, τ1, ec, er, hR1⟩ := hPu σ τ (xs (nI i + 1).toNatClampNeg) hR
  refine lv_tableIn (off := 1005) (tgt := 1038) hx hb dL_law_33 (by rw [ck]; decide) (by rw [ck]; decide) (by rw [ck]; rfl) (by decide) ?_
  refine lv_aload_n hx hb dL_law_1038 rfl (lv_at hl 1 rfl) ?_
  refine lv_aload_n hx hb dL_law_1039 rfl (lv_at hl 0 rfl) ?_
  refine lv_iload_n hx hb dL_law_1040 rfl (lv_at hl 3 rfl) ?_
  refine lv_iconst (v := 1) hx hb dL_law_1041 (by decide) ?_
  refine lv_iadd hx hb dL_law_1042 ?_
  refine va_sld hx hb hX hbl hbA h2.2.2.2.2.2 hv1 dL_law_1043 ?_
  refine call2i (r := r) (w1' := cw q d σ1) (rest := []) (As := [.int (xs (nI i + 1).toNatClampNeg)]) C h2 (c_X6_mid l d q σ (xs (nI i + 1).toNatClampNeg) (r, σ1) ec) iv_L_146 ⟨rfl, rfl, Nat.le_of_ble_eq_true rfl, Nat.le_of_ble_eq_true rfl⟩ cw_o0 rfl rfl rfl hl.1 (Nat.le_of_ble_eq_true rfl) ⟨Nat.le_refl _, Nat.le_refl _⟩ dL_law_1044 (fun H locs h2 => ?_)
  replace h2 := h2.symm
  replace h2 : HS2 d (fun q => s.heap.size ≤ q) s.heap H locs (mw q' d τ) (cw q d σ1) := h2
  refine lv_aload_n hx hb dL_law_1047 rfl (lv_at hl 2 rfl) ?_
  refine lv_aload_n hx hb dL_law_1048 rfl (lv_at hl 0 rfl) ?_
  refine lv_iload_n hx hb dL_law_1049 rfl (lv_at hl 3 rfl) ?_
  refine lv_iconst (v := 1) hx hb dL_law_1050 (by decide) ?_
  refine lv_iadd hx hb dL_law_1051 ?_
  refine va_sld hx hb hX hbl hbA h2.2.2.2.2.2 hv1 dL_law_1052 ?_
  refine call2i (r := r) (w1' := mw q' d τ1) (rest := [.int r]) (As := [.int (xs (nI i + 1).toNatClampNeg)]) C h2 (c_X7_mid l d q' τ (xs (nI i + 1).toNatClampNeg) (r, τ1) er) iv_L_149 ⟨rfl, rfl, Nat.le_of_ble_eq_true rfl, Nat.le_of_ble_eq_true rfl⟩ mw_o0 rfl rfl rfl hl.1 (Nat.le_of_ble_eq_true rfl) ⟨Nat.le_refl _, Nat.le_refl _⟩ dL_law_1053 (fun H locs h2 => ?_)
  replace h2 := h2.symm
  refine lv_icmp_eq (tgt := 1208) hx hb dL_law_1056 (by decide) (fun _ => ?_) (fun h => absurd rfl h)
  refine lv_iinc (v := nI i + 6) (lv' := [(3, .int (nI i + 6)), (0, .ref b), (1, .ref (q 0)), (2, .ref (q' 0))]) hx hb dL_law_1208 hl (k := 3) rfl rfl (by decide) rfl (fun ls hl => ?_)
  refine lv_goto (tgt := 18) hx hb dL_law_1211 (by decide) ?_
  rw [show nI i + 6 = nI (i + 6) from nI_add i 6] at hl
  exact ih q q' σ1 τ1 _ _ _ hR1 h2 (lv_sub hl [1, 2, 3, 0] rfl)
set_option maxRecDepth 100000 in
set_option maxHeartbeats 4000000 in
theorem law_lots {Rel : ST → ST → Prop} (hPu : P_lots Rel) {p : Program} {l : Launch} {e : Env} {s : State} {m : MethodId} {below : List Frame} {meth : Method} {c : Code} {b L i : Nat} {xs : Nat → Int32} {d : CD} {q q' : Nat → Nat} {σ τ : ST} {H : Heap} {locs : List Loc} {ls : Array Slot} (C : CX p s m #[Value.ref b] meth c RL code 4 ret d (fun q => s.heap.size ≤ q)) (hX : va_X b L xs s s.heap) (hbl : b < s.heap.size) (hL : L ≤ 384) (hi : i + 6 ≤ L) (hR : Rel σ τ) (h2 : HS2 d (fun q => s.heap.size ≤ q) s.heap H locs (cw q d σ) (mw q' d τ)) (hl : lv_has ls 4 [(0, .ref b), (1, .ref (q 0)), (2, .ref (q' 0)), (3, .int (nI i))]) (ck : xs (nI i).toNatClampNeg &&& 63 = 33)
    (ih : ∀ (q q' : Nat → Nat) (σ τ : ST) (H : Heap) (locs : List Loc) (ls : Array Slot), Rel σ τ → HS2 d (fun q => s.heap.size ≤ q) s.heap H locs (cw q d σ) (mw q' d τ) → lv_has ls 4 [(0, .ref b), (1, .ref (q 0)), (2, .ref (q' 0)), (3, .int (nI (i + 6)))] → W p l e room_1 s m #[Value.ref b] below meth c H locs 600000 7302250 (lw_Z below #[Value.ref b] s) (F0 m 18 ls [])) : W p l e room_1 s m #[Value.ref b] below meth c H locs 600000 7302250 (lw_Z below #[Value.ref b] s) (F0 m 33 ls [.int (xs (nI i).toNatClampNeg &&& 63)]) := by
  obtain ⟨hx, hb, hml, hown, hts, -⟩ := id C
  have hbA : ¬ (fun q => s.heap.size ≤ q) b := Nat.not_le.mpr hbl
  have hv0 : vp_in (nI i) L := vp_in_nI (by omega) (by omega)
  have hv1 : vp_in (nI i + 1) L := by rw [show nI i + 1 = nI (i + 1) from nI_add i 1]; exact vp_in_nI (by omega) (by omega)
  have hv2 : vp_in (nI i + 2) L := by rw [show nI i + 2 = nI (i + 2) from nI_add i 2]; exact vp_in_nI (by omega) (by omega)
  obtain ⟨r, σ1, τ1, ec, er, hR1⟩ := hPu σ τ (xs (nI i + 1).toNatClampNeg) (xs (nI i + 2).toNatClampNeg) hR
  refine lv_tableIn (off := 1028) (tgt := 1061) hx hb dL_law_33 (by rw [ck]; decide) (by rw [ck]; decide) (by rw [ck]; rfl) (by decide) ?_
  refine lv_aload_n hx hb dL_law_1061 rfl (lv_at hl 1 rfl) ?_
  refine lv_aload_n hx hb dL_law_1062 rfl (lv_at hl 0 rfl) ?_
  refine lv_iload_n hx hb dL_law_1063 rfl (lv_at hl 3 rfl) ?_
  refine lv_iconst (v := 1) hx hb dL_law_1064 (by decide) ?_
  refine lv_iadd hx hb dL_law_1065 ?_
  refine va_sld hx hb hX hbl hbA h2.2.2.2.2.2 hv1 dL_law_1066 ?_
  refine lv_aload_n hx hb dL_law_1067 rfl (lv_at hl 0 rfl) ?_
  refine lv_iload_n hx hb dL_law_1068 rfl (lv_at hl 3 rfl) ?_
  refine lv_iconst (v := 2) hx hb dL_law_1069 (by decide) ?_
  refine lv_iadd hx hb dL_law_1070 ?_
  refine va_sld hx hb hX hbl hbA h2.2.2.2.2.2 hv2 dL_law_1071 ?_
  refine call2i (r := r) (w1' := cw q d σ1) (rest := []) (As := [.int (xs (nI i + 1).toNatClampNeg), .int (xs (nI i + 2).toNatClampNeg)]) C h2 (c_X6_lots l d q σ (xs (nI i + 1).toNatClampNeg) (xs (nI i + 2).toNatClampNeg) (r, σ1) ec) iv_L_150 ⟨rfl, rfl, Nat.le_of_ble_eq_true rfl, Nat.le_of_ble_eq_true rfl⟩ cw_o0 rfl rfl rfl hl.1 (Nat.le_of_ble_eq_true rfl) ⟨Nat.le_refl _, Nat.le_refl _⟩ dL_law_1072 (fun H locs h2 => ?_)
  replace h2 := h2.symm
  replace h2 : HS2 d (fun q => s.heap.size ≤ q) s.heap H locs (mw q' d τ) (cw q d σ1) := h2
  refine lv_aload_n hx hb dL_law_1075 rfl (lv_at hl 2 rfl) ?_
  refine lv_aload_n hx hb dL_law_1076 rfl (lv_at hl 0 rfl) ?_
  refine lv_iload_n hx hb dL_law_1077 rfl (lv_at hl 3 rfl) ?_
  refine lv_iconst (v := 1) hx hb dL_law_1078 (by decide) ?_
  refine lv_iadd hx hb dL_law_1079 ?_
  refine va_sld hx hb hX hbl hbA h2.2.2.2.2.2 hv1 dL_law_1080 ?_
  refine lv_aload_n hx hb dL_law_1081 rfl (lv_at hl 0 rfl) ?_
  refine lv_iload_n hx hb dL_law_1082 rfl (lv_at hl 3 rfl) ?_
  refine lv_iconst (v := 2) hx hb dL_law_1083 (by decide) ?_
  refine lv_iadd hx hb dL_law_1084 ?_
  refine va_sld hx hb hX hbl hbA h2.2.2.2.2.2 hv2 dL_law_1085 ?_
  refine call2i (r := r) (w1' := mw q' d τ1) (rest := [.int r]) (As := [.int (xs (nI i + 1).toNatClampNeg), .int (xs (nI i + 2).toNatClampNeg)]) C h2 (c_X7_lots l d q' τ (xs (nI i + 1).toNatClampNeg) (xs (nI i + 2).toNatClampNeg) (r, τ1) er) iv_L_153 ⟨rfl, rfl, Nat.le_of_ble_eq_true rfl, Nat.le_of_ble_eq_true rfl⟩ mw_o0 rfl rfl rfl hl.1 (Nat.le_of_ble_eq_true rfl) ⟨Nat.le_refl _, Nat.le_refl _⟩ dL_law_1086 (fun H locs h2 => ?_)
  replace h2 := h2.symm
  refine lv_icmp_eq (tgt := 1208) hx hb dL_law_1089 (by decide) (fun _ => ?_) (fun h => absurd rfl h)
  refine lv_iinc (v := nI i + 6) (lv' := [(3, .int (nI i + 6)), (0, .ref b), (1, .ref (q 0)), (2, .ref (q' 0))]) hx hb dL_law_1208 hl (k := 3) rfl rfl (by decide) rfl (fun ls hl => ?_)
  refine lv_goto (tgt := 18) hx hb dL_law_1211 (by decide) ?_
  rw [show nI i + 6 = nI (i + 6) from nI_add i 6] at hl
  exact ih q q' σ1 τ1 _ _ _ hR1 h2 (lv_sub hl [1, 2, 3, 0] rfl)
set_option maxRecDepth 100000 in
set_option maxHeartbeats 4000000 in
theorem law_asked {Rel : ST → ST → Prop} (hPu : P_asked Rel) {p : Program} {l : Launch} {e : Env} {s : State} {m : MethodId} {below : List Frame} {meth : Method} {c : Code} {b L i : Nat} {xs : Nat → Int32} {d : CD} {q q' : Nat → Nat} {σ τ : ST} {H : Heap} {locs : List Loc} {ls : Array Slot} (C : CX p s m #[Value.ref b] meth c RL code 4 ret d (fun q => s.heap.size ≤ q)) (hX : va_X b L xs s s.heap) (hbl : b < s.heap.size) (hL : L ≤ 384) (hi : i + 6 ≤ L) (hR : Rel σ τ) (h2 : HS2 d (fun q => s.heap.size ≤ q) s.heap H locs (cw q d σ) (mw q' d τ)) (hl : lv_has ls 4 [(0, .ref b), (1, .ref (q 0)), (2, .ref (q' 0)), (3, .int (nI i))]) (ck : xs (nI i).toNatClampNeg &&& 63 = 34)
    (ih : ∀ (q q' : Nat → Nat) (σ τ : ST) (H : Heap) (locs : List Loc) (ls : Array Slot), Rel σ τ → HS2 d (fun q => s.heap.size ≤ q) s.heap H locs (cw q d σ) (mw q' d τ) → lv_has ls 4 [(0, .ref b), (1, .ref (q 0)), (2, .ref (q' 0)), (3, .int (nI (i + 6)))] → W p l e room_1 s m #[Value.ref b] below meth c H locs 600000 7302250 (lw_Z below #[Value.ref b] s) (F0 m 18 ls [])) : W p l e room_1 s m #[Value.ref b] below meth c H locs 600000 7302250 (lw_Z below #[Value.ref b] s) (F0 m 33 ls [.int (xs (nI i).toNatClampNeg &&& 63)]) := by
  obtain ⟨hx, hb, hml, hown, hts, -⟩ := id C
  have hbA : ¬ (fun q => s.heap.size ≤ q) b := Nat.not_le.mpr hbl
  have hv0 : vp_in (nI i) L := vp_in_nI (by omega) (by omega)
  obtain ⟨r, ec, er⟩ := hPu σ τ hR
  refine lv_tableIn (off := 1061) (tgt := 1094) hx hb dL_law_33 (by rw [ck]; decide) (by rw [ck]; decide) (by rw [ck]; rfl) (by decide) ?_
  refine lv_aload_n hx hb dL_law_1094 rfl (lv_at hl 1 rfl) ?_
  refine call2i (r := r) (w1' := cw q d σ) (rest := []) (As := []) C h2 (c_X6_asked l d q σ r ec) iv_L_154 ⟨rfl, rfl, Nat.le_of_ble_eq_true rfl, Nat.le_of_ble_eq_true rfl⟩ cw_o0 rfl rfl rfl hl.1 (Nat.le_of_ble_eq_true rfl) ⟨Nat.le_refl _, Nat.le_refl _⟩ dL_law_1095 (fun H locs h2 => ?_)
  replace h2 := h2.symm
  replace h2 : HS2 d (fun q => s.heap.size ≤ q) s.heap H locs (mw q' d τ) (cw q d σ) := h2
  refine lv_aload_n hx hb dL_law_1098 rfl (lv_at hl 2 rfl) ?_
  refine call2i (r := r) (w1' := mw q' d τ) (rest := [.int r]) (As := []) C h2 (c_X7_asked l d q' τ r er) iv_L_157 ⟨rfl, rfl, Nat.le_of_ble_eq_true rfl, Nat.le_of_ble_eq_true rfl⟩ mw_o0 rfl rfl rfl hl.1 (Nat.le_of_ble_eq_true rfl) ⟨Nat.le_refl _, Nat.le_refl _⟩ dL_law_1099 (fun H locs h2 => ?_)
  replace h2 := h2.symm
  refine lv_icmp_eq (tgt := 1208) hx hb dL_law_1102 (by decide) (fun _ => ?_) (fun h => absurd rfl h)
  refine lv_iinc (v := nI i + 6) (lv' := [(3, .int (nI i + 6)), (0, .ref b), (1, .ref (q 0)), (2, .ref (q' 0))]) hx hb dL_law_1208 hl (k := 3) rfl rfl (by decide) rfl (fun ls hl => ?_)
  refine lv_goto (tgt := 18) hx hb dL_law_1211 (by decide) ?_
  rw [show nI i + 6 = nI (i + 6) from nI_add i 6] at hl
  exact ih q q' σ τ _ _ _ hR h2 (lv_sub hl [1, 2, 3, 0] rfl)
set_option maxRecDepth 100000 in
set_option maxHeartbeats 4000000 in
theorem law_upper {Rel : ST → ST → Prop} (hPu : P_upper Rel) {p : Program} {l : Launch} {e : Env} {s : State} {m : MethodId} {below : List Frame} {meth : Method} {c : Code} {b L i : Nat} {xs : Nat → Int32} {d : CD} {q q' : Nat → Nat} {σ τ : ST} {H : Heap} {locs : List Loc} {ls : Array Slot} (C : CX p s m #[Value.ref b] meth c RL code 4 ret d (fun q => s.heap.size ≤ q)) (hX : va_X b L xs s s.heap) (hbl : b < s.heap.size) (hL : L ≤ 384) (hi : i + 6 ≤ L) (hR : Rel σ τ) (h2 : HS2 d (fun q => s.heap.size ≤ q) s.heap H locs (cw q d σ) (mw q' d τ)) (hl : lv_has ls 4 [(0, .ref b), (1, .ref (q 0)), (2, .ref (q' 0)), (3, .int (nI i))]) (ck : xs (nI i).toNatClampNeg &&& 63 = 35)
    (ih : ∀ (q q' : Nat → Nat) (σ τ : ST) (H : Heap) (locs : List Loc) (ls : Array Slot), Rel σ τ → HS2 d (fun q => s.heap.size ≤ q) s.heap H locs (cw q d σ) (mw q' d τ) → lv_has ls 4 [(0, .ref b), (1, .ref (q 0)), (2, .ref (q' 0)), (3, .int (nI (i + 6)))] → W p l e room_1 s m #[Value.ref b] below meth c H locs 600000 7302250 (lw_Z below #[Value.ref b] s) (F0 m 18 ls [])) : W p l e room_1 s m #[Value.ref b] below meth c H locs 600000 7302250 (lw_Z below #[Value.ref b] s) (F0 m 33 ls [.int (xs (nI i).toNatClampNeg &&& 63)]) := by
  obtain ⟨hx, hb, hml, hown, hts, -⟩ := id C
  have hbA : ¬ (fun q => s.heap.size ≤ q) b := Nat.not_le.mpr hbl
  have hv0 : vp_in (nI i) L := vp_in_nI (by omega) (by omega)
  obtain ⟨r, ec, er⟩ := hPu σ τ hR
  refine lv_tableIn (off := 1074) (tgt := 1107) hx hb dL_law_33 (by rw [ck]; decide) (by rw [ck]; decide) (by rw [ck]; rfl) (by decide) ?_
  refine lv_aload_n hx hb dL_law_1107 rfl (lv_at hl 1 rfl) ?_
  refine call2l (r := r) (w1' := cw q d σ) (rest := []) (As := []) C h2 (c_X6_upper l d q σ r ec) iv_L_158 ⟨rfl, rfl, Nat.le_of_ble_eq_true rfl, Nat.le_of_ble_eq_true rfl⟩ cw_o0 rfl rfl rfl hl.1 (Nat.le_of_ble_eq_true rfl) ⟨Nat.le_refl _, Nat.le_refl _⟩ dL_law_1108 (fun H locs h2 => ?_)
  replace h2 := h2.symm
  replace h2 : HS2 d (fun q => s.heap.size ≤ q) s.heap H locs (mw q' d τ) (cw q d σ) := h2
  refine lv_aload_n hx hb dL_law_1111 rfl (lv_at hl 2 rfl) ?_
  refine call2l (r := r) (w1' := mw q' d τ) (rest := [.long r]) (As := []) C h2 (c_X7_upper l d q' τ r er) iv_L_162 ⟨rfl, rfl, Nat.le_of_ble_eq_true rfl, Nat.le_of_ble_eq_true rfl⟩ mw_o0 rfl rfl rfl hl.1 (Nat.le_of_ble_eq_true rfl) ⟨Nat.le_refl _, Nat.le_refl _⟩ dL_law_1112 (fun H locs h2 => ?_)
  replace h2 := h2.symm
  refine W.lcmp hx hb dL_law_1115 ?_
  rw [lg_cmp_self]
  refine lv_if_eq (tgt := 1208) hx hb dL_law_1116 (by decide) (fun _ => ?_) (fun h => absurd rfl h)
  refine lv_iinc (v := nI i + 6) (lv' := [(3, .int (nI i + 6)), (0, .ref b), (1, .ref (q 0)), (2, .ref (q' 0))]) hx hb dL_law_1208 hl (k := 3) rfl rfl (by decide) rfl (fun ls hl => ?_)
  refine lv_goto (tgt := 18) hx hb dL_law_1211 (by decide) ?_
  rw [show nI i + 6 = nI (i + 6) from nI_add i 6] at hl
  exact ih q q' σ τ _ _ _ hR h2 (lv_sub hl [1, 2, 3, 0] rfl)
set_option maxRecDepth 100000 in
set_option maxHeartbeats 4000000 in
theorem law_lower {Rel : ST → ST → Prop} (hPu : P_lower Rel) {p : Program} {l : Launch} {e : Env} {s : State} {m : MethodId} {below : List Frame} {meth : Method} {c : Code} {b L i : Nat} {xs : Nat → Int32} {d : CD} {q q' : Nat → Nat} {σ τ : ST} {H : Heap} {locs : List Loc} {ls : Array Slot} (C : CX p s m #[Value.ref b] meth c RL code 4 ret d (fun q => s.heap.size ≤ q)) (hX : va_X b L xs s s.heap) (hbl : b < s.heap.size) (hL : L ≤ 384) (hi : i + 6 ≤ L) (hR : Rel σ τ) (h2 : HS2 d (fun q => s.heap.size ≤ q) s.heap H locs (cw q d σ) (mw q' d τ)) (hl : lv_has ls 4 [(0, .ref b), (1, .ref (q 0)), (2, .ref (q' 0)), (3, .int (nI i))]) (ck : xs (nI i).toNatClampNeg &&& 63 = 36)
    (ih : ∀ (q q' : Nat → Nat) (σ τ : ST) (H : Heap) (locs : List Loc) (ls : Array Slot), Rel σ τ → HS2 d (fun q => s.heap.size ≤ q) s.heap H locs (cw q d σ) (mw q' d τ) → lv_has ls 4 [(0, .ref b), (1, .ref (q 0)), (2, .ref (q' 0)), (3, .int (nI (i + 6)))] → W p l e room_1 s m #[Value.ref b] below meth c H locs 600000 7302250 (lw_Z below #[Value.ref b] s) (F0 m 18 ls [])) : W p l e room_1 s m #[Value.ref b] below meth c H locs 600000 7302250 (lw_Z below #[Value.ref b] s) (F0 m 33 ls [.int (xs (nI i).toNatClampNeg &&& 63)]) := by
  obtain ⟨hx, hb, hml, hown, hts, -⟩ := id C
  have hbA : ¬ (fun q => s.heap.size ≤ q) b := Nat.not_le.mpr hbl
  have hv0 : vp_in (nI i) L := vp_in_nI (by omega) (by omega)
  obtain ⟨r, ec, er⟩ := hPu σ τ hR
  refine lv_tableIn (off := 1088) (tgt := 1121) hx hb dL_law_33 (by rw [ck]; decide) (by rw [ck]; decide) (by rw [ck]; rfl) (by decide) ?_
  refine lv_aload_n hx hb dL_law_1121 rfl (lv_at hl 1 rfl) ?_
  refine call2l (r := r) (w1' := cw q d σ) (rest := []) (As := []) C h2 (c_X6_lower l d q σ r ec) iv_L_163 ⟨rfl, rfl, Nat.le_of_ble_eq_true rfl, Nat.le_of_ble_eq_true rfl⟩ cw_o0 rfl rfl rfl hl.1 (Nat.le_of_ble_eq_true rfl) ⟨Nat.le_refl _, Nat.le_refl _⟩ dL_law_1122 (fun H locs h2 => ?_)
  replace h2 := h2.symm
  replace h2 : HS2 d (fun q => s.heap.size ≤ q) s.heap H locs (mw q' d τ) (cw q d σ) := h2
  refine lv_aload_n hx hb dL_law_1125 rfl (lv_at hl 2 rfl) ?_
  refine call2l (r := r) (w1' := mw q' d τ) (rest := [.long r]) (As := []) C h2 (c_X7_lower l d q' τ r er) iv_L_166 ⟨rfl, rfl, Nat.le_of_ble_eq_true rfl, Nat.le_of_ble_eq_true rfl⟩ mw_o0 rfl rfl rfl hl.1 (Nat.le_of_ble_eq_true rfl) ⟨Nat.le_refl _, Nat.le_refl _⟩ dL_law_1126 (fun H locs h2 => ?_)
  replace h2 := h2.symm
  refine W.lcmp hx hb dL_law_1129 ?_
  rw [lg_cmp_self]
  refine lv_if_eq (tgt := 1208) hx hb dL_law_1130 (by decide) (fun _ => ?_) (fun h => absurd rfl h)
  refine lv_iinc (v := nI i + 6) (lv' := [(3, .int (nI i + 6)), (0, .ref b), (1, .ref (q 0)), (2, .ref (q' 0))]) hx hb dL_law_1208 hl (k := 3) rfl rfl (by decide) rfl (fun ls hl => ?_)
  refine lv_goto (tgt := 18) hx hb dL_law_1211 (by decide) ?_
  rw [show nI i + 6 = nI (i + 6) from nI_add i 6] at hl
  exact ih q q' σ τ _ _ _ hR h2 (lv_sub hl [1, 2, 3, 0] rfl)
set_option maxRecDepth 100000 in
set_option maxHeartbeats 4000000 in
theorem law_count {Rel : ST → ST → Prop} (hPu : P_count Rel) {p : Program} {l : Launch} {e : Env} {s : State} {m : MethodId} {below : List Frame} {meth : Method} {c : Code} {b L i : Nat} {xs : Nat → Int32} {d : CD} {q q' : Nat → Nat} {σ τ : ST} {H : Heap} {locs : List Loc} {ls : Array Slot} (C : CX p s m #[Value.ref b] meth c RL code 4 ret d (fun q => s.heap.size ≤ q)) (hX : va_X b L xs s s.heap) (hbl : b < s.heap.size) (hL : L ≤ 384) (hi : i + 6 ≤ L) (hR : Rel σ τ) (h2 : HS2 d (fun q => s.heap.size ≤ q) s.heap H locs (cw q d σ) (mw q' d τ)) (hl : lv_has ls 4 [(0, .ref b), (1, .ref (q 0)), (2, .ref (q' 0)), (3, .int (nI i))]) (ck : xs (nI i).toNatClampNeg &&& 63 = 37)
    (ih : ∀ (q q' : Nat → Nat) (σ τ : ST) (H : Heap) (locs : List Loc) (ls : Array Slot), Rel σ τ → HS2 d (fun q => s.heap.size ≤ q) s.heap H locs (cw q d σ) (mw q' d τ) → lv_has ls 4 [(0, .ref b), (1, .ref (q 0)), (2, .ref (q' 0)), (3, .int (nI (i + 6)))] → W p l e room_1 s m #[Value.ref b] below meth c H locs 600000 7302250 (lw_Z below #[Value.ref b] s) (F0 m 18 ls [])) : W p l e room_1 s m #[Value.ref b] below meth c H locs 600000 7302250 (lw_Z below #[Value.ref b] s) (F0 m 33 ls [.int (xs (nI i).toNatClampNeg &&& 63)]) := by
  obtain ⟨hx, hb, hml, hown, hts, -⟩ := id C
  have hbA : ¬ (fun q => s.heap.size ≤ q) b := Nat.not_le.mpr hbl
  have hv0 : vp_in (nI i) L := vp_in_nI (by omega) (by omega)
  have hv1 : vp_in (nI i + 1) L := by rw [show nI i + 1 = nI (i + 1) from nI_add i 1]; exact vp_in_nI (by omega) (by omega)
  obtain ⟨r, ec, er⟩ := hPu σ τ (xs (nI i + 1).toNatClampNeg) hR
  refine lv_tableIn (off := 1102) (tgt := 1135) hx hb dL_law_33 (by rw [ck]; decide) (by rw [ck]; decide) (by rw [ck]; rfl) (by decide) ?_
  refine lv_aload_n hx hb dL_law_1135 rfl (lv_at hl 1 rfl) ?_
  refine lv_aload_n hx hb dL_law_1136 rfl (lv_at hl 0 rfl) ?_
  refine lv_iload_n hx hb dL_law_1137 rfl (lv_at hl 3 rfl) ?_
  refine lv_iconst (v := 1) hx hb dL_law_1138 (by decide) ?_
  refine lv_iadd hx hb dL_law_1139 ?_
  refine va_sld hx hb hX hbl hbA h2.2.2.2.2.2 hv1 dL_law_1140 ?_
  refine call2i (r := r) (w1' := cw q d σ) (rest := []) (As := [.int (xs (nI i + 1).toNatClampNeg)]) C h2 (c_X6_count l d q σ (xs (nI i + 1).toNatClampNeg) r ec) iv_L_167 ⟨rfl, rfl, Nat.le_of_ble_eq_true rfl, Nat.le_of_ble_eq_true rfl⟩ cw_o0 rfl rfl rfl hl.1 (Nat.le_of_ble_eq_true rfl) ⟨Nat.le_refl _, Nat.le_refl _⟩ dL_law_1141 (fun H locs h2 => ?_)
  replace h2 := h2.symm
  replace h2 : HS2 d (fun q => s.heap.size ≤ q) s.heap H locs (mw q' d τ) (cw q d σ) := h2
  refine lv_aload_n hx hb dL_law_1144 rfl (lv_at hl 2 rfl) ?_
  refine lv_aload_n hx hb dL_law_1145 rfl (lv_at hl 0 rfl) ?_
  refine lv_iload_n hx hb dL_law_1146 rfl (lv_at hl 3 rfl) ?_
  refine lv_iconst (v := 1) hx hb dL_law_1147 (by decide) ?_
  refine lv_iadd hx hb dL_law_1148 ?_
  refine va_sld hx hb hX hbl hbA h2.2.2.2.2.2 hv1 dL_law_1149 ?_
  refine call2i (r := r) (w1' := mw q' d τ) (rest := [.int r]) (As := [.int (xs (nI i + 1).toNatClampNeg)]) C h2 (c_X7_count l d q' τ (xs (nI i + 1).toNatClampNeg) r er) iv_L_170 ⟨rfl, rfl, Nat.le_of_ble_eq_true rfl, Nat.le_of_ble_eq_true rfl⟩ mw_o0 rfl rfl rfl hl.1 (Nat.le_of_ble_eq_true rfl) ⟨Nat.le_refl _, Nat.le_refl _⟩ dL_law_1150 (fun H locs h2 => ?_)
  replace h2 := h2.symm
  refine lv_icmp_eq (tgt := 1208) hx hb dL_law_1153 (by decide) (fun _ => ?_) (fun h => absurd rfl h)
  refine lv_iinc (v := nI i + 6) (lv' := [(3, .int (nI i + 6)), (0, .ref b), (1, .ref (q 0)), (2, .ref (q' 0))]) hx hb dL_law_1208 hl (k := 3) rfl rfl (by decide) rfl (fun ls hl => ?_)
  refine lv_goto (tgt := 18) hx hb dL_law_1211 (by decide) ?_
  rw [show nI i + 6 = nI (i + 6) from nI_add i 6] at hl
  exact ih q q' σ τ _ _ _ hR h2 (lv_sub hl [1, 2, 3, 0] rfl)
set_option maxRecDepth 100000 in
set_option maxHeartbeats 4000000 in
theorem law_finding {Rel : ST → ST → Prop} (hPu : P_finding Rel) {p : Program} {l : Launch} {e : Env} {s : State} {m : MethodId} {below : List Frame} {meth : Method} {c : Code} {b L i : Nat} {xs : Nat → Int32} {d : CD} {q q' : Nat → Nat} {σ τ : ST} {H : Heap} {locs : List Loc} {ls : Array Slot} (C : CX p s m #[Value.ref b] meth c RL code 4 ret d (fun q => s.heap.size ≤ q)) (hX : va_X b L xs s s.heap) (hbl : b < s.heap.size) (hL : L ≤ 384) (hi : i + 6 ≤ L) (hR : Rel σ τ) (h2 : HS2 d (fun q => s.heap.size ≤ q) s.heap H locs (cw q d σ) (mw q' d τ)) (hl : lv_has ls 4 [(0, .ref b), (1, .ref (q 0)), (2, .ref (q' 0)), (3, .int (nI i))]) (ck : xs (nI i).toNatClampNeg &&& 63 = 38)
    (ih : ∀ (q q' : Nat → Nat) (σ τ : ST) (H : Heap) (locs : List Loc) (ls : Array Slot), Rel σ τ → HS2 d (fun q => s.heap.size ≤ q) s.heap H locs (cw q d σ) (mw q' d τ) → lv_has ls 4 [(0, .ref b), (1, .ref (q 0)), (2, .ref (q' 0)), (3, .int (nI (i + 6)))] → W p l e room_1 s m #[Value.ref b] below meth c H locs 600000 7302250 (lw_Z below #[Value.ref b] s) (F0 m 18 ls [])) : W p l e room_1 s m #[Value.ref b] below meth c H locs 600000 7302250 (lw_Z below #[Value.ref b] s) (F0 m 33 ls [.int (xs (nI i).toNatClampNeg &&& 63)]) := by
  obtain ⟨hx, hb, hml, hown, hts, -⟩ := id C
  have hbA : ¬ (fun q => s.heap.size ≤ q) b := Nat.not_le.mpr hbl
  have hv0 : vp_in (nI i) L := vp_in_nI (by omega) (by omega)
  obtain ⟨r, ec, er⟩ := hPu σ τ hR
  refine lv_tableIn (off := 1125) (tgt := 1158) hx hb dL_law_33 (by rw [ck]; decide) (by rw [ck]; decide) (by rw [ck]; rfl) (by decide) ?_
  refine lv_aload_n hx hb dL_law_1158 rfl (lv_at hl 1 rfl) ?_
  refine call2i (r := r) (w1' := cw q d σ) (rest := []) (As := []) C h2 (c_X6_finding l d q σ r ec) iv_L_171 ⟨rfl, rfl, Nat.le_of_ble_eq_true rfl, Nat.le_of_ble_eq_true rfl⟩ cw_o0 rfl rfl rfl hl.1 (Nat.le_of_ble_eq_true rfl) ⟨Nat.le_refl _, Nat.le_refl _⟩ dL_law_1159 (fun H locs h2 => ?_)
  replace h2 := h2.symm
  replace h2 : HS2 d (fun q => s.heap.size ≤ q) s.heap H locs (mw q' d τ) (cw q d σ) := h2
  refine lv_aload_n hx hb dL_law_1162 rfl (lv_at hl 2 rfl) ?_
  refine call2i (r := r) (w1' := mw q' d τ) (rest := [.int r]) (As := []) C h2 (c_X7_finding l d q' τ r er) iv_L_174 ⟨rfl, rfl, Nat.le_of_ble_eq_true rfl, Nat.le_of_ble_eq_true rfl⟩ mw_o0 rfl rfl rfl hl.1 (Nat.le_of_ble_eq_true rfl) ⟨Nat.le_refl _, Nat.le_refl _⟩ dL_law_1163 (fun H locs h2 => ?_)
  replace h2 := h2.symm
  refine lv_icmp_eq (tgt := 1208) hx hb dL_law_1166 (by decide) (fun _ => ?_) (fun h => absurd rfl h)
  refine lv_iinc (v := nI i + 6) (lv' := [(3, .int (nI i + 6)), (0, .ref b), (1, .ref (q 0)), (2, .ref (q' 0))]) hx hb dL_law_1208 hl (k := 3) rfl rfl (by decide) rfl (fun ls hl => ?_)
  refine lv_goto (tgt := 18) hx hb dL_law_1211 (by decide) ?_
  rw [show nI i + 6 = nI (i + 6) from nI_add i 6] at hl
  exact ih q q' σ τ _ _ _ hR h2 (lv_sub hl [1, 2, 3, 0] rfl)
set_option maxRecDepth 100000 in
set_option maxHeartbeats 4000000 in
theorem law_findings {Rel : ST → ST → Prop} (hPu : P_findings Rel) {p : Program} {l : Launch} {e : Env} {s : State} {m : MethodId} {below : List Frame} {meth : Method} {c : Code} {b L i : Nat} {xs : Nat → Int32} {d : CD} {q q' : Nat → Nat} {σ τ : ST} {H : Heap} {locs : List Loc} {ls : Array Slot} (C : CX p s m #[Value.ref b] meth c RL code 4 ret d (fun q => s.heap.size ≤ q)) (hX : va_X b L xs s s.heap) (hbl : b < s.heap.size) (hL : L ≤ 384) (hi : i + 6 ≤ L) (hR : Rel σ τ) (h2 : HS2 d (fun q => s.heap.size ≤ q) s.heap H locs (cw q d σ) (mw q' d τ)) (hl : lv_has ls 4 [(0, .ref b), (1, .ref (q 0)), (2, .ref (q' 0)), (3, .int (nI i))]) (ck : xs (nI i).toNatClampNeg &&& 63 = 39)
    (ih : ∀ (q q' : Nat → Nat) (σ τ : ST) (H : Heap) (locs : List Loc) (ls : Array Slot), Rel σ τ → HS2 d (fun q => s.heap.size ≤ q) s.heap H locs (cw q d σ) (mw q' d τ) → lv_has ls 4 [(0, .ref b), (1, .ref (q 0)), (2, .ref (q' 0)), (3, .int (nI (i + 6)))] → W p l e room_1 s m #[Value.ref b] below meth c H locs 600000 7302250 (lw_Z below #[Value.ref b] s) (F0 m 18 ls [])) : W p l e room_1 s m #[Value.ref b] below meth c H locs 600000 7302250 (lw_Z below #[Value.ref b] s) (F0 m 33 ls [.int (xs (nI i).toNatClampNeg &&& 63)]) := by
  obtain ⟨hx, hb, hml, hown, hts, -⟩ := id C
  have hbA : ¬ (fun q => s.heap.size ≤ q) b := Nat.not_le.mpr hbl
  have hv0 : vp_in (nI i) L := vp_in_nI (by omega) (by omega)
  have hv1 : vp_in (nI i + 1) L := by rw [show nI i + 1 = nI (i + 1) from nI_add i 1]; exact vp_in_nI (by omega) (by omega)
  obtain ⟨r, ec, er⟩ := hPu σ τ (xs (nI i + 1).toNatClampNeg) hR
  refine lv_tableIn (off := 1138) (tgt := 1171) hx hb dL_law_33 (by rw [ck]; decide) (by rw [ck]; decide) (by rw [ck]; rfl) (by decide) ?_
  refine lv_aload_n hx hb dL_law_1171 rfl (lv_at hl 1 rfl) ?_
  refine lv_aload_n hx hb dL_law_1172 rfl (lv_at hl 0 rfl) ?_
  refine lv_iload_n hx hb dL_law_1173 rfl (lv_at hl 3 rfl) ?_
  refine lv_iconst (v := 1) hx hb dL_law_1174 (by decide) ?_
  refine lv_iadd hx hb dL_law_1175 ?_
  refine va_sld hx hb hX hbl hbA h2.2.2.2.2.2 hv1 dL_law_1176 ?_
  refine call2i (r := r) (w1' := cw q d σ) (rest := []) (As := [.int (xs (nI i + 1).toNatClampNeg)]) C h2 (c_X6_findings l d q σ (xs (nI i + 1).toNatClampNeg) r ec) iv_L_175 ⟨rfl, rfl, Nat.le_of_ble_eq_true rfl, Nat.le_of_ble_eq_true rfl⟩ cw_o0 rfl rfl rfl hl.1 (Nat.le_of_ble_eq_true rfl) ⟨Nat.le_refl _, Nat.le_refl _⟩ dL_law_1177 (fun H locs h2 => ?_)
  replace h2 := h2.symm
  replace h2 : HS2 d (fun q => s.heap.size ≤ q) s.heap H locs (mw q' d τ) (cw q d σ) := h2
  refine lv_aload_n hx hb dL_law_1180 rfl (lv_at hl 2 rfl) ?_
  refine lv_aload_n hx hb dL_law_1181 rfl (lv_at hl 0 rfl) ?_
  refine lv_iload_n hx hb dL_law_1182 rfl (lv_at hl 3 rfl) ?_
  refine lv_iconst (v := 1) hx hb dL_law_1183 (by decide) ?_
  refine lv_iadd hx hb dL_law_1184 ?_
  refine va_sld hx hb hX hbl hbA h2.2.2.2.2.2 hv1 dL_law_1185 ?_
  refine call2i (r := r) (w1' := mw q' d τ) (rest := [.int r]) (As := [.int (xs (nI i + 1).toNatClampNeg)]) C h2 (c_X7_findings l d q' τ (xs (nI i + 1).toNatClampNeg) r er) iv_L_178 ⟨rfl, rfl, Nat.le_of_ble_eq_true rfl, Nat.le_of_ble_eq_true rfl⟩ mw_o0 rfl rfl rfl hl.1 (Nat.le_of_ble_eq_true rfl) ⟨Nat.le_refl _, Nat.le_refl _⟩ dL_law_1186 (fun H locs h2 => ?_)
  replace h2 := h2.symm
  refine lv_icmp_eq (tgt := 1208) hx hb dL_law_1189 (by decide) (fun _ => ?_) (fun h => absurd rfl h)
  refine lv_iinc (v := nI i + 6) (lv' := [(3, .int (nI i + 6)), (0, .ref b), (1, .ref (q 0)), (2, .ref (q' 0))]) hx hb dL_law_1208 hl (k := 3) rfl rfl (by decide) rfl (fun ls hl => ?_)
  refine lv_goto (tgt := 18) hx hb dL_law_1211 (by decide) ?_
  rw [show nI i + 6 = nI (i + 6) from nI_add i 6] at hl
  exact ih q q' σ τ _ _ _ hR h2 (lv_sub hl [1, 2, 3, 0] rfl)
set_option maxRecDepth 100000 in
set_option maxHeartbeats 4000000 in
theorem law_digest {Rel : ST → ST → Prop} (hPu : P_digest Rel) {p : Program} {l : Launch} {e : Env} {s : State} {m : MethodId} {below : List Frame} {meth : Method} {c : Code} {b L i : Nat} {xs : Nat → Int32} {d : CD} {q q' : Nat → Nat} {σ τ : ST} {H : Heap} {locs : List Loc} {ls : Array Slot} (C : CX p s m #[Value.ref b] meth c RL code 4 ret d (fun q => s.heap.size ≤ q)) (hX : va_X b L xs s s.heap) (hbl : b < s.heap.size) (hL : L ≤ 384) (hi : i + 6 ≤ L) (hR : Rel σ τ) (h2 : HS2 d (fun q => s.heap.size ≤ q) s.heap H locs (cw q d σ) (mw q' d τ)) (hl : lv_has ls 4 [(0, .ref b), (1, .ref (q 0)), (2, .ref (q' 0)), (3, .int (nI i))]) (ck : xs (nI i).toNatClampNeg &&& 63 = 40)
    (ih : ∀ (q q' : Nat → Nat) (σ τ : ST) (H : Heap) (locs : List Loc) (ls : Array Slot), Rel σ τ → HS2 d (fun q => s.heap.size ≤ q) s.heap H locs (cw q d σ) (mw q' d τ) → lv_has ls 4 [(0, .ref b), (1, .ref (q 0)), (2, .ref (q' 0)), (3, .int (nI (i + 6)))] → W p l e room_1 s m #[Value.ref b] below meth c H locs 600000 7302250 (lw_Z below #[Value.ref b] s) (F0 m 18 ls [])) : W p l e room_1 s m #[Value.ref b] below meth c H locs 600000 7302250 (lw_Z below #[Value.ref b] s) (F0 m 33 ls [.int (xs (nI i).toNatClampNeg &&& 63)]) := by
  obtain ⟨hx, hb, hml, hown, hts, -⟩ := id C
  have hbA : ¬ (fun q => s.heap.size ≤ q) b := Nat.not_le.mpr hbl
  have hv0 : vp_in (nI i) L := vp_in_nI (by omega) (by omega)
  obtain ⟨r, ec, er⟩ := hPu σ τ hR
  refine lv_tableIn (off := 1161) (tgt := 1194) hx hb dL_law_33 (by rw [ck]; decide) (by rw [ck]; decide) (by rw [ck]; rfl) (by decide) ?_
  refine lv_aload_n hx hb dL_law_1194 rfl (lv_at hl 1 rfl) ?_
  refine call2l (r := r) (w1' := cw q d σ) (rest := []) (As := []) C h2 (c_X6_digest l d q σ r ec) iv_L_179 ⟨rfl, rfl, Nat.le_of_ble_eq_true rfl, Nat.le_of_ble_eq_true rfl⟩ cw_o0 rfl rfl rfl hl.1 (Nat.le_of_ble_eq_true rfl) ⟨Nat.le_refl _, Nat.le_refl _⟩ dL_law_1195 (fun H locs h2 => ?_)
  replace h2 := h2.symm
  replace h2 : HS2 d (fun q => s.heap.size ≤ q) s.heap H locs (mw q' d τ) (cw q d σ) := h2
  refine lv_aload_n hx hb dL_law_1198 rfl (lv_at hl 2 rfl) ?_
  refine call2l (r := r) (w1' := mw q' d τ) (rest := [.long r]) (As := []) C h2 (c_X7_digest l d q' τ r er) iv_L_182 ⟨rfl, rfl, Nat.le_of_ble_eq_true rfl, Nat.le_of_ble_eq_true rfl⟩ mw_o0 rfl rfl rfl hl.1 (Nat.le_of_ble_eq_true rfl) ⟨Nat.le_refl _, Nat.le_refl _⟩ dL_law_1199 (fun H locs h2 => ?_)
  replace h2 := h2.symm
  refine W.lcmp hx hb dL_law_1202 ?_
  rw [lg_cmp_self]
  refine lv_if_eq (tgt := 1208) hx hb dL_law_1203 (by decide) (fun _ => ?_) (fun h => absurd rfl h)
  refine lv_iinc (v := nI i + 6) (lv' := [(3, .int (nI i + 6)), (0, .ref b), (1, .ref (q 0)), (2, .ref (q' 0))]) hx hb dL_law_1208 hl (k := 3) rfl rfl (by decide) rfl (fun ls hl => ?_)
  refine lv_goto (tgt := 18) hx hb dL_law_1211 (by decide) ?_
  rw [show nI i + 6 = nI (i + 6) from nI_add i 6] at hl
  exact ih q q' σ τ _ _ _ hR h2 (lv_sub hl [1, 2, 3, 0] rfl)
