section LIB
variable {p : Program} {l : Launch} {e : Env} {R : Room} {s : State} {m : MethodId} {args : Array Value} {below : List Frame} {meth : Method} {c : Code} {H : Heap} {locs : List Loc} {Q : State → Prop}
variable {cc : ByteArray} {nL pc : Nat} {ret : Option FieldType} {d : CD} {A : Nat → Prop} {ls : Array Slot} {rest : List Value} {q : Nat → Nat} {σ σ1 : ST} {j : Nat}
theorem yc_J3_checkIndex_8e157 : Cond.code yJ3_checkIndex_8e157 cJ3_checkIndex_8e157 3 (some .int) ∈ tb := tb_at 490 (by decide +kernel) rfl
theorem yd_J3_checkIndex_8e157 : ydn yJ3_checkIndex_8e157 3 := by decide +kernel
theorem yi_J3 : Cond.initialized "jdk/internal/util/Preconditions" ∈ tb := tb_at 92 (by decide +kernel) rfl
theorem ys_J3_checkIndex_8e157 : Cond.static yJ3_checkIndex_8e157 ∈ tb := tb_at 489 (by decide +kernel) rfl
theorem is_J0_1059 : inS RJ0 1059 yJ3_checkIndex_8e157 cJ3_checkIndex_8e157 3 (some .int) 3 := ⟨⟨tb_at 488 (by decide +kernel) rfl, ys_J3_checkIndex_8e157, yi_J3, yc_J3_checkIndex_8e157⟩, yd_J3_checkIndex_8e157⟩
theorem yc_J0_checkIndex_df160 : Cond.code yJ0_checkIndex_df160 cJ0_checkIndex_df160 2 (none) ∈ tb := tb_at 485 (by decide +kernel) rfl
theorem yd_J0_checkIndex_df160 : ydn yJ0_checkIndex_df160 2 := by decide +kernel
theorem yi_J0 : Cond.initialized "java/lang/String" ∈ tb := tb_at 90 (by decide +kernel) rfl
theorem ys_J0_checkIndex_df160 : Cond.static yJ0_checkIndex_df160 ∈ tb := tb_at 484 (by decide +kernel) rfl
theorem is_J1_9 : inS RJ1 9 yJ0_checkIndex_df160 cJ0_checkIndex_df160 2 (none) 2 := ⟨⟨tb_at 483 (by decide +kernel) rfl, ys_J0_checkIndex_df160, yi_J0, yc_J0_checkIndex_df160⟩, yd_J0_checkIndex_df160⟩
theorem yc_J0_isLatin1_aae02 : Cond.code yJ0_isLatin1_aae02 cJ0_isLatin1_aae02 1 (some .boolean) ∈ tb := tb_at 477 (by decide +kernel) rfl
theorem yd_J0_isLatin1_aae02 : ydn yJ0_isLatin1_aae02 0 := by decide +kernel
theorem yv_J0_isLatin1_aae02 : Cond.instanceMethod yJ0_isLatin1_aae02 ∈ tb ∧ Cond.selects yJ0_isLatin1_aae02.cls yJ0_isLatin1_aae02 yJ0_isLatin1_aae02 ∈ tb := ⟨tb_at 475 (by decide +kernel) rfl, tb_at 476 (by decide +kernel) rfl⟩
theorem iv_J0_492 : inV RJ0 492 yJ0_isLatin1_aae02 cJ0_isLatin1_aae02 1 (some .boolean) 0 := ⟨⟨tb_at 474 (by decide +kernel) rfl, yv_J0_isLatin1_aae02.1, yv_J0_isLatin1_aae02.2, yi_J0, yc_J0_isLatin1_aae02⟩, yd_J0_isLatin1_aae02⟩
theorem yc_J1_charAt_3b067 : Cond.code yJ1_charAt_3b067 cJ1_charAt_3b067 2 (some .char) ∈ tb := tb_at 482 (by decide +kernel) rfl
theorem yd_J1_charAt_3b067 : ydn yJ1_charAt_3b067 2 := by decide +kernel
theorem yi_J1 : Cond.initialized "java/lang/StringLatin1" ∈ tb := tb_at 91 (by decide +kernel) rfl
theorem ys_J1_charAt_3b067 : Cond.static yJ1_charAt_3b067 ∈ tb := tb_at 481 (by decide +kernel) rfl
theorem is_J0_495 : inS RJ0 495 yJ1_charAt_3b067 cJ1_charAt_3b067 2 (some .char) 2 := ⟨⟨tb_at 480 (by decide +kernel) rfl, ys_J1_charAt_3b067, yi_J1, yc_J1_charAt_3b067⟩, yd_J1_charAt_3b067⟩
theorem inX6 : ∀ x ∈ u_ws RX6 TX6 11, x ∈ tb := fun x h => by
  have e : u_ws RX6 TX6 11 = [280, 282, 284, 286, 288, 290, 292, 294, 296, 298, 300].filterMap (fun i => lw_tbl[i]?) := by decide +kernel
  rw [e] at h
  obtain ⟨i, -, hi⟩ := List.mem_filterMap.mp h
  refine List.mem_filter.mpr ⟨List.mem_of_getElem? hi, ?_⟩
  have g : (u_ws RX6 TX6 11).all goodWord = true := by decide +kernel
  rw [e] at g
  exact List.all_eq_true.mp g x h
theorem cw_o0 {q : Nat → Nat} {d : CD} {σ : ST} : (cw q d σ)[0]? = some (q 0, .inr (6, [.ref (q 1), .ref (q 10), .ref (q 17), .ref (q 22), .ref (q 32), .ref (q 35), .ref (q 42), .int (σ.1 7), .int (σ.1 8), .long (σ.2.1 9), .long (σ.2.1 10)])) := rfl
theorem g_6_14_0 (C : CX p s m args meth c RX6 cc nL ret d A) (hS : HS d A s.heap H locs (cw q d σ)) (hdg : decode cc pc = .ok (.getfield 14, 3)) (kk : W p l e R s m args below meth c H locs 0 0 Q (F0 m (pc + 3) ls (.ref (q 1) :: rest))) : W p l e R s m args below meth c H locs 0 0 Q (F0 m pc ls (.ref (q 0) :: rest)) := gf (j := 0) C hS cw_o0 rfl inX6 (by decide) (tb_at 269 (by decide +kernel) rfl) rfl hdg kk
theorem inX3 : ∀ x ∈ u_ws RX3 TX3 3, x ∈ tb := fun x h => by
  have e : u_ws RX3 TX3 3 = [118, 120, 122].filterMap (fun i => lw_tbl[i]?) := by decide +kernel
  rw [e] at h
  obtain ⟨i, -, hi⟩ := List.mem_filterMap.mp h
  refine List.mem_filter.mpr ⟨List.mem_of_getElem? hi, ?_⟩
  have g : (u_ws RX3 TX3 3).all goodWord = true := by decide +kernel
  rw [e] at g
  exact List.all_eq_true.mp g x h
theorem cw_o1 {q : Nat → Nat} {d : CD} {σ : ST} : (cw q d σ)[1]? = some (q 1, .inr (3, [.int 40, .ref (q 2), .ref (q 3)])) := rfl
theorem g_3_20_1 (C : CX p s m args meth c RX3 cc nL ret d A) (hS : HS d A s.heap H locs (cw q d σ)) (hdg : decode cc pc = .ok (.getfield 20, 3)) (kk : W p l e R s m args below meth c H locs 0 0 Q (F0 m (pc + 3) ls (.ref (q 3) :: rest))) : W p l e R s m args below meth c H locs 0 0 Q (F0 m pc ls (.ref (q 1) :: rest)) := gf (j := 2) C hS cw_o1 rfl inX3 (by decide) (tb_at 117 (by decide +kernel) rfl) rfl hdg kk
theorem cw_a3 {q : Nat → Nat} {d : CD} {σ : ST} : (cw q d σ)[3]? = some (q 3, .inl (d.2.1, 6, .inl (σ.2.2 3))) := rfl
theorem cw_s3 {q : Nat → Nat} {d : CD} {σ : ST} (f : Nat → Int32) : (cw q d σ).set 3 (q 3, .inl (d.2.1, 6, .inl f)) = cw q d (setA σ 3 f) := rfl
theorem yc_X3_isNumber : Cond.code yX3_isNumber cX3_isNumber 2 (some .boolean) ∈ tb := tb_at 314 (by decide +kernel) rfl
theorem yd_X3_isNumber : ydn yX3_isNumber 1 := by decide +kernel
theorem yi_X3 : Cond.initialized "WellLocks$Shelf" ∈ tb := tb_at 80 (by decide +kernel) rfl
theorem yv_X3_isNumber : Cond.instanceMethod yX3_isNumber ∈ tb ∧ Cond.selects yX3_isNumber.cls yX3_isNumber yX3_isNumber ∈ tb := ⟨tb_at 312 (by decide +kernel) rfl, tb_at 313 (by decide +kernel) rfl⟩
theorem iv_6_96 : inV RX6 96 yX3_isNumber cX3_isNumber 2 (some .boolean) 1 := ⟨⟨tb_at 311 (by decide +kernel) rfl, yv_X3_isNumber.1, yv_X3_isNumber.2, yi_X3, yc_X3_isNumber⟩, yd_X3_isNumber⟩
theorem g_6_312_1 (C : CX p s m args meth c RX6 cc nL ret d A) (hS : HS d A s.heap H locs (cw q d σ)) (hdg : decode cc pc = .ok (.getfield 312, 3)) (kk : W p l e R s m args below meth c H locs 0 0 Q (F0 m (pc + 3) ls (.int 40 :: rest))) : W p l e R s m args below meth c H locs 0 0 Q (F0 m pc ls (.ref (q 1) :: rest)) := gfN (host := "WellLocks") (j := 0) C hS cw_o1 rfl inX3 (by decide) (by decide +kernel) rfl hdg kk
theorem iv_3_30 : inV RX3 30 yX3_isNumber cX3_isNumber 2 (some .boolean) 1 := ⟨⟨tb_at 323 (by decide +kernel) rfl, yv_X3_isNumber.1, yv_X3_isNumber.2, yi_X3, yc_X3_isNumber⟩, yd_X3_isNumber⟩
theorem g_3_9_1 (C : CX p s m args meth c RX3 cc nL ret d A) (hS : HS d A s.heap H locs (cw q d σ)) (hdg : decode cc pc = .ok (.getfield 9, 3)) (kk : W p l e R s m args below meth c H locs 0 0 Q (F0 m (pc + 3) ls (.int 40 :: rest))) : W p l e R s m args below meth c H locs 0 0 Q (F0 m pc ls (.ref (q 1) :: rest)) := gf (j := 0) C hS cw_o1 rfl inX3 (by decide) (tb_at 114 (by decide +kernel) rfl) rfl hdg kk
theorem g_3_17_1 (C : CX p s m args meth c RX3 cc nL ret d A) (hS : HS d A s.heap H locs (cw q d σ)) (hdg : decode cc pc = .ok (.getfield 17, 3)) (kk : W p l e R s m args below meth c H locs 0 0 Q (F0 m (pc + 3) ls (.ref (q 2) :: rest))) : W p l e R s m args below meth c H locs 0 0 Q (F0 m pc ls (.ref (q 1) :: rest)) := gf (j := 1) C hS cw_o1 rfl inX3 (by decide) (tb_at 116 (by decide +kernel) rfl) rfl hdg kk
theorem cw_r2 {q : Nat → Nat} {d : CD} {σ : ST} : (cw q d σ)[2]? = some (q 2, .inl (d.2.2.2.2.1, 6, .inr (.inr (.inr (.inr (fun j => if j < 6 then some (q (4 + j)) else none)))))) := rfl
theorem yc_J7_fill_53178 : Cond.code yJ7_fill_53178 cJ7_fill_53178 4 (none) ∈ tb := tb_at 113 (by decide +kernel) rfl
theorem yd_J7_fill_53178 : ydn yJ7_fill_53178 2 := by decide +kernel
theorem yi_J7 : Cond.initialized "java/util/Arrays" ∈ tb := tb_at 81 (by decide +kernel) rfl
theorem ys_J7_fill_53178 : Cond.static yJ7_fill_53178 ∈ tb := tb_at 112 (by decide +kernel) rfl
theorem is_3_24 : inS RX3 24 yJ7_fill_53178 cJ7_fill_53178 4 (none) 2 := ⟨⟨tb_at 111 (by decide +kernel) rfl, ys_J7_fill_53178, yi_J7, yc_J7_fill_53178⟩, yd_J7_fill_53178⟩
theorem cw_af4 {q : Nat → Nat} {d : CD} {σ : ST} {j : Nat} (h : j < 6) : (cw q d σ)[4 + j]? = some (q (4 + j), .inl (d.2.1, 40, .inl (σ.2.2 (4 + j)))) := by
  match j, h with
  | 0, _ => rfl
  | 1, _ => rfl
  | 2, _ => rfl
  | 3, _ => rfl
  | 4, _ => rfl
  | 5, _ => rfl
theorem cw_sf4 {q : Nat → Nat} {d : CD} {σ : ST} {j : Nat} (h : j < 6) (f : Nat → Int32) : (cw q d σ).set (4 + j) (q (4 + j), .inl (d.2.1, 40, .inl f)) = cw q d (setA σ (4 + j) f) := by
  match j, h with
  | 0, _ => rfl
  | 1, _ => rfl
  | 2, _ => rfl
  | 3, _ => rfl
  | 4, _ => rfl
  | 5, _ => rfl
theorem yc_X3_make : Cond.code yX3_make cX3_make 4 (none) ∈ tb := tb_at 322 (by decide +kernel) rfl
theorem yd_X3_make : ydn yX3_make 3 := by decide +kernel
theorem yv_X3_make : Cond.instanceMethod yX3_make ∈ tb ∧ Cond.selects yX3_make.cls yX3_make yX3_make ∈ tb := ⟨tb_at 320 (by decide +kernel) rfl, tb_at 321 (by decide +kernel) rfl⟩
theorem iv_6_237 : inV RX6 237 yX3_make cX3_make 4 (none) 3 := ⟨⟨tb_at 319 (by decide +kernel) rfl, yv_X3_make.1, yv_X3_make.2, yi_X3, yc_X3_make⟩, yd_X3_make⟩
theorem p_6_56_0 {x : Int32} (C : CX p s m args meth c RX6 cc nL ret d A) (hS : HS d A s.heap H locs (cw q d σ)) (e1 : some (setI σ 7 x) = some σ1) (hdg : decode cc pc = .ok (.putfield 56, 3)) (kk : ∀ (H1 : Heap) (locs1 : List Loc), HS d A s.heap H1 locs1 (cw q d σ1) → W p l e R s m args below meth c H1 locs1 0 0 Q (F0 m (pc + 3) ls rest)) : W p l e R s m args below meth c H locs 0 0 Q (F0 m pc ls (.int x :: .ref (q 0) :: rest)) := by
  cases e1
  exact pf (j := 7) (ty := .int) tyX6 tyX6_ok nmX6 C hS cw_o0 rfl inX6 (by decide) (tb_at 276 (by decide +kernel) rfl) rfl (by decide +kernel) rfl rfl (Nat.le_of_ble_eq_true rfl) rfl hdg kk
theorem g_6_52_0 (C : CX p s m args meth c RX6 cc nL ret d A) (hS : HS d A s.heap H locs (cw q d σ)) (hdg : decode cc pc = .ok (.getfield 52, 3)) (kk : W p l e R s m args below meth c H locs 0 0 Q (F0 m (pc + 3) ls (.ref (q 42) :: rest))) : W p l e R s m args below meth c H locs 0 0 Q (F0 m pc ls (.ref (q 0) :: rest)) := gf (j := 6) C hS cw_o0 rfl inX6 (by decide) (tb_at 275 (by decide +kernel) rfl) rfl hdg kk
theorem cw_a42 {q : Nat → Nat} {d : CD} {σ : ST} : (cw q d σ)[42]? = some (q 42, .inl (d.2.1, 6, .inl (σ.2.2 42))) := rfl
theorem cw_s42 {q : Nat → Nat} {d : CD} {σ : ST} (f : Nat → Int32) : (cw q d σ).set 42 (q 42, .inl (d.2.1, 6, .inl f)) = cw q d (setA σ 42 f) := rfl
theorem yc_X6_refuse : Cond.code yX6_refuse cX6_refuse 2 (some .int) ∈ tb := tb_at 318 (by decide +kernel) rfl
theorem yd_X6_refuse : ydn yX6_refuse 1 := by decide +kernel
theorem yi_X6 : Cond.initialized "WellLocks" ∈ tb := tb_at 79 (by decide +kernel) rfl
theorem yv_X6_refuse : Cond.instanceMethod yX6_refuse ∈ tb ∧ Cond.selects yX6_refuse.cls yX6_refuse yX6_refuse ∈ tb := ⟨tb_at 317 (by decide +kernel) rfl, tb_at 1 (by decide +kernel) rfl⟩
theorem iv_6_100 : inV RX6 100 yX6_refuse cX6_refuse 2 (some .int) 1 := ⟨⟨tb_at 315 (by decide +kernel) rfl, yv_X6_refuse.1, yv_X6_refuse.2, yi_X6, yc_X6_refuse⟩, yd_X6_refuse⟩
theorem yc_X6_makeOn : Cond.code yX6_makeOn cX6_makeOn 5 (some .int) ∈ tb := tb_at 310 (by decide +kernel) rfl
theorem yd_X6_makeOn : ydn yX6_makeOn 4 := by decide +kernel
theorem yv_X6_makeOn : Cond.instanceMethod yX6_makeOn ∈ tb ∧ Cond.selects yX6_makeOn.cls yX6_makeOn yX6_makeOn ∈ tb := ⟨tb_at 309 (by decide +kernel) rfl, tb_at 0 (by decide +kernel) rfl⟩
theorem iv_6_73 : inV RX6 73 yX6_makeOn cX6_makeOn 5 (some .int) 4 := ⟨⟨tb_at 307 (by decide +kernel) rfl, yv_X6_makeOn.1, yv_X6_makeOn.2, yi_X6, yc_X6_makeOn⟩, yd_X6_makeOn⟩
theorem yc_X3_isThere : Cond.code yX3_isThere cX3_isThere 2 (some .boolean) ∈ tb := tb_at 339 (by decide +kernel) rfl
theorem yd_X3_isThere : ydn yX3_isThere 1 := by decide +kernel
theorem yv_X3_isThere : Cond.instanceMethod yX3_isThere ∈ tb ∧ Cond.selects yX3_isThere.cls yX3_isThere yX3_isThere ∈ tb := ⟨tb_at 337 (by decide +kernel) rfl, tb_at 338 (by decide +kernel) rfl⟩
theorem iv_6_104 : inV RX6 104 yX3_isThere cX3_isThere 2 (some .boolean) 1 := ⟨⟨tb_at 336 (by decide +kernel) rfl, yv_X3_isThere.1, yv_X3_isThere.2, yi_X3, yc_X3_isThere⟩, yd_X3_isThere⟩
theorem yc_X6_refusalOf : Cond.code yX6_refusalOf cX6_refusalOf 3 (some .int) ∈ tb := tb_at 335 (by decide +kernel) rfl
theorem yd_X6_refusalOf : ydn yX6_refusalOf 2 := by decide +kernel
theorem yv_X6_refusalOf : Cond.instanceMethod yX6_refusalOf ∈ tb ∧ Cond.selects yX6_refusalOf.cls yX6_refusalOf yX6_refusalOf ∈ tb := ⟨tb_at 334 (by decide +kernel) rfl, tb_at 3 (by decide +kernel) rfl⟩
theorem iv_6_89 : inV RX6 89 yX6_refusalOf cX6_refusalOf 3 (some .int) 2 := ⟨⟨tb_at 332 (by decide +kernel) rfl, yv_X6_refusalOf.1, yv_X6_refusalOf.2, yi_X6, yc_X6_refusalOf⟩, yd_X6_refusalOf⟩
theorem iv_3_34 : inV RX3 34 yX3_isThere cX3_isThere 2 (some .boolean) 1 := ⟨⟨tb_at 344 (by decide +kernel) rfl, yv_X3_isThere.1, yv_X3_isThere.2, yi_X3, yc_X3_isThere⟩, yd_X3_isThere⟩
theorem yc_X3_isPlace : Cond.code yX3_isPlace cX3_isPlace 3 (some .boolean) ∈ tb := tb_at 343 (by decide +kernel) rfl
theorem yd_X3_isPlace : ydn yX3_isPlace 2 := by decide +kernel
theorem yv_X3_isPlace : Cond.instanceMethod yX3_isPlace ∈ tb ∧ Cond.selects yX3_isPlace.cls yX3_isPlace yX3_isPlace ∈ tb := ⟨tb_at 341 (by decide +kernel) rfl, tb_at 342 (by decide +kernel) rfl⟩
theorem iv_6_309 : inV RX6 309 yX3_isPlace cX3_isPlace 3 (some .boolean) 2 := ⟨⟨tb_at 340 (by decide +kernel) rfl, yv_X3_isPlace.1, yv_X3_isPlace.2, yi_X3, yc_X3_isPlace⟩, yd_X3_isPlace⟩
theorem yc_X6_refusalOfPlace : Cond.code yX6_refusalOfPlace cX6_refusalOfPlace 5 (some .int) ∈ tb := tb_at 331 (by decide +kernel) rfl
theorem yd_X6_refusalOfPlace : ydn yX6_refusalOfPlace 3 := by decide +kernel
theorem yv_X6_refusalOfPlace : Cond.instanceMethod yX6_refusalOfPlace ∈ tb ∧ Cond.selects yX6_refusalOfPlace.cls yX6_refusalOfPlace yX6_refusalOfPlace ∈ tb := ⟨tb_at 330 (by decide +kernel) rfl, tb_at 2 (by decide +kernel) rfl⟩
theorem iv_6_77 : inV RX6 77 yX6_refusalOfPlace cX6_refusalOfPlace 5 (some .int) 3 := ⟨⟨tb_at 328 (by decide +kernel) rfl, yv_X6_refusalOfPlace.1, yv_X6_refusalOfPlace.2, yi_X6, yc_X6_refusalOfPlace⟩, yd_X6_refusalOfPlace⟩
theorem iv_3_37 : inV RX3 37 yX3_isPlace cX3_isPlace 3 (some .boolean) 2 := ⟨⟨tb_at 349 (by decide +kernel) rfl, yv_X3_isPlace.1, yv_X3_isPlace.2, yi_X3, yc_X3_isPlace⟩, yd_X3_isPlace⟩
theorem yc_X3_get : Cond.code yX3_get cX3_get 3 (some .int) ∈ tb := tb_at 348 (by decide +kernel) rfl
theorem yd_X3_get : ydn yX3_get 2 := by decide +kernel
theorem yv_X3_get : Cond.instanceMethod yX3_get ∈ tb ∧ Cond.selects yX3_get.cls yX3_get yX3_get ∈ tb := ⟨tb_at 346 (by decide +kernel) rfl, tb_at 347 (by decide +kernel) rfl⟩
theorem iv_6_81 : inV RX6 81 yX3_get cX3_get 3 (some .int) 2 := ⟨⟨tb_at 345 (by decide +kernel) rfl, yv_X3_get.1, yv_X3_get.2, yi_X3, yc_X3_get⟩, yd_X3_get⟩
theorem p_6_60_0 {x : Int32} (C : CX p s m args meth c RX6 cc nL ret d A) (hS : HS d A s.heap H locs (cw q d σ)) (e1 : some (setI σ 8 x) = some σ1) (hdg : decode cc pc = .ok (.putfield 60, 3)) (kk : ∀ (H1 : Heap) (locs1 : List Loc), HS d A s.heap H1 locs1 (cw q d σ1) → W p l e R s m args below meth c H1 locs1 0 0 Q (F0 m (pc + 3) ls rest)) : W p l e R s m args below meth c H locs 0 0 Q (F0 m pc ls (.int x :: .ref (q 0) :: rest)) := by
  cases e1
  exact pf (j := 8) (ty := .int) tyX6 tyX6_ok nmX6 C hS cw_o0 rfl inX6 (by decide) (tb_at 277 (by decide +kernel) rfl) rfl (by decide +kernel) rfl rfl (Nat.le_of_ble_eq_true rfl) rfl hdg kk
theorem yc_X3_set : Cond.code yX3_set cX3_set 4 (none) ∈ tb := tb_at 353 (by decide +kernel) rfl
theorem yd_X3_set : ydn yX3_set 3 := by decide +kernel
theorem yv_X3_set : Cond.instanceMethod yX3_set ∈ tb ∧ Cond.selects yX3_set.cls yX3_set yX3_set ∈ tb := ⟨tb_at 351 (by decide +kernel) rfl, tb_at 352 (by decide +kernel) rfl⟩
theorem iv_6_85 : inV RX6 85 yX3_set cX3_set 4 (none) 3 := ⟨⟨tb_at 350 (by decide +kernel) rfl, yv_X3_set.1, yv_X3_set.2, yi_X3, yc_X3_set⟩, yd_X3_set⟩
theorem yc_X3_drop : Cond.code yX3_drop cX3_drop 2 (none) ∈ tb := tb_at 365 (by decide +kernel) rfl
theorem yd_X3_drop : ydn yX3_drop 1 := by decide +kernel
theorem yv_X3_drop : Cond.instanceMethod yX3_drop ∈ tb ∧ Cond.selects yX3_drop.cls yX3_drop yX3_drop ∈ tb := ⟨tb_at 363 (by decide +kernel) rfl, tb_at 364 (by decide +kernel) rfl⟩
theorem iv_6_93 : inV RX6 93 yX3_drop cX3_drop 2 (none) 1 := ⟨⟨tb_at 362 (by decide +kernel) rfl, yv_X3_drop.1, yv_X3_drop.2, yi_X3, yc_X3_drop⟩, yd_X3_drop⟩
theorem yc_X3_hasRun : Cond.code yX3_hasRun cX3_hasRun 4 (some .boolean) ∈ tb := tb_at 373 (by decide +kernel) rfl
theorem yd_X3_hasRun : ydn yX3_hasRun 3 := by decide +kernel
theorem yv_X3_hasRun : Cond.instanceMethod yX3_hasRun ∈ tb ∧ Cond.selects yX3_hasRun.cls yX3_hasRun yX3_hasRun ∈ tb := ⟨tb_at 371 (by decide +kernel) rfl, tb_at 372 (by decide +kernel) rfl⟩
theorem iv_6_107 : inV RX6 107 yX3_hasRun cX3_hasRun 4 (some .boolean) 3 := ⟨⟨tb_at 370 (by decide +kernel) rfl, yv_X3_hasRun.1, yv_X3_hasRun.2, yi_X3, yc_X3_hasRun⟩, yd_X3_hasRun⟩
theorem iv_3_41 : inV RX3 41 yX3_hasRun cX3_hasRun 4 (some .boolean) 3 := ⟨⟨tb_at 378 (by decide +kernel) rfl, yv_X3_hasRun.1, yv_X3_hasRun.2, yi_X3, yc_X3_hasRun⟩, yd_X3_hasRun⟩
theorem ac_X3_45 : Cond.methodLink RX3 45 arraycopyName ∈ tb ∧ Cond.native arraycopyName ∈ tb ∧ Cond.static arraycopyName ∈ tb ∧ Cond.initialized "java/lang/System" ∈ tb := ⟨tb_at 379 (by decide +kernel) rfl, tb_at 381 (by decide +kernel) rfl, tb_at 380 (by decide +kernel) rfl, tb_at 88 (by decide +kernel) rfl⟩
theorem yc_X3_move : Cond.code yX3_move cX3_move 6 (none) ∈ tb := tb_at 377 (by decide +kernel) rfl
theorem yd_X3_move : ydn yX3_move 5 := by decide +kernel
theorem yv_X3_move : Cond.instanceMethod yX3_move ∈ tb ∧ Cond.selects yX3_move.cls yX3_move yX3_move ∈ tb := ⟨tb_at 375 (by decide +kernel) rfl, tb_at 376 (by decide +kernel) rfl⟩
theorem iv_6_111 : inV RX6 111 yX3_move cX3_move 6 (none) 5 := ⟨⟨tb_at 374 (by decide +kernel) rfl, yv_X3_move.1, yv_X3_move.2, yi_X3, yc_X3_move⟩, yd_X3_move⟩
theorem yc_X3_sizeOf : Cond.code yX3_sizeOf cX3_sizeOf 2 (some .int) ∈ tb := tb_at 389 (by decide +kernel) rfl
theorem yd_X3_sizeOf : ydn yX3_sizeOf 1 := by decide +kernel
theorem yv_X3_sizeOf : Cond.instanceMethod yX3_sizeOf ∈ tb ∧ Cond.selects yX3_sizeOf.cls yX3_sizeOf yX3_sizeOf ∈ tb := ⟨tb_at 387 (by decide +kernel) rfl, tb_at 388 (by decide +kernel) rfl⟩
theorem iv_6_115 : inV RX6 115 yX3_sizeOf cX3_sizeOf 2 (some .int) 1 := ⟨⟨tb_at 386 (by decide +kernel) rfl, yv_X3_sizeOf.1, yv_X3_sizeOf.2, yi_X3, yc_X3_sizeOf⟩, yd_X3_sizeOf⟩
theorem iv_3_51 : inV RX3 51 yX3_sizeOf cX3_sizeOf 2 (some .int) 1 := ⟨⟨tb_at 394 (by decide +kernel) rfl, yv_X3_sizeOf.1, yv_X3_sizeOf.2, yi_X3, yc_X3_sizeOf⟩, yd_X3_sizeOf⟩
theorem iv_3_64 : inV RX3 64 yX3_get cX3_get 3 (some .int) 2 := ⟨⟨tb_at 395 (by decide +kernel) rfl, yv_X3_get.1, yv_X3_get.2, yi_X3, yc_X3_get⟩, yd_X3_get⟩
theorem yc_X3_sumOf : Cond.code yX3_sumOf cX3_sumOf 5 (some .long) ∈ tb := tb_at 393 (by decide +kernel) rfl
theorem yd_X3_sumOf : ydn yX3_sumOf 1 := by decide +kernel
theorem yv_X3_sumOf : Cond.instanceMethod yX3_sumOf ∈ tb ∧ Cond.selects yX3_sumOf.cls yX3_sumOf yX3_sumOf ∈ tb := ⟨tb_at 391 (by decide +kernel) rfl, tb_at 392 (by decide +kernel) rfl⟩
theorem iv_6_118 : inV RX6 118 yX3_sumOf cX3_sumOf 5 (some .long) 1 := ⟨⟨tb_at 390 (by decide +kernel) rfl, yv_X3_sumOf.1, yv_X3_sumOf.2, yi_X3, yc_X3_sumOf⟩, yd_X3_sumOf⟩
theorem g_6_18_0 (C : CX p s m args meth c RX6 cc nL ret d A) (hS : HS d A s.heap H locs (cw q d σ)) (hdg : decode cc pc = .ok (.getfield 18, 3)) (kk : W p l e R s m args below meth c H locs 0 0 Q (F0 m (pc + 3) ls (.ref (q 10) :: rest))) : W p l e R s m args below meth c H locs 0 0 Q (F0 m pc ls (.ref (q 0) :: rest)) := gf (j := 1) C hS cw_o0 rfl inX6 (by decide) (tb_at 270 (by decide +kernel) rfl) rfl hdg kk
theorem cw_o10 {q : Nat → Nat} {d : CD} {σ : ST} : (cw q d σ)[10]? = some (q 10, .inr (3, [.int 80, .ref (q 11), .ref (q 12)])) := rfl
theorem g_3_20_10 (C : CX p s m args meth c RX3 cc nL ret d A) (hS : HS d A s.heap H locs (cw q d σ)) (hdg : decode cc pc = .ok (.getfield 20, 3)) (kk : W p l e R s m args below meth c H locs 0 0 Q (F0 m (pc + 3) ls (.ref (q 12) :: rest))) : W p l e R s m args below meth c H locs 0 0 Q (F0 m pc ls (.ref (q 10) :: rest)) := gf (j := 2) C hS cw_o10 rfl inX3 (by decide) (tb_at 117 (by decide +kernel) rfl) rfl hdg kk
theorem cw_a12 {q : Nat → Nat} {d : CD} {σ : ST} : (cw q d σ)[12]? = some (q 12, .inl (d.2.1, 4, .inl (σ.2.2 12))) := rfl
theorem cw_s12 {q : Nat → Nat} {d : CD} {σ : ST} (f : Nat → Int32) : (cw q d σ).set 12 (q 12, .inl (d.2.1, 4, .inl f)) = cw q d (setA σ 12 f) := rfl
theorem g_6_312_10 (C : CX p s m args meth c RX6 cc nL ret d A) (hS : HS d A s.heap H locs (cw q d σ)) (hdg : decode cc pc = .ok (.getfield 312, 3)) (kk : W p l e R s m args below meth c H locs 0 0 Q (F0 m (pc + 3) ls (.int 80 :: rest))) : W p l e R s m args below meth c H locs 0 0 Q (F0 m pc ls (.ref (q 10) :: rest)) := gfN (host := "WellLocks") (j := 0) C hS cw_o10 rfl inX3 (by decide) (by decide +kernel) rfl hdg kk
theorem g_3_9_10 (C : CX p s m args meth c RX3 cc nL ret d A) (hS : HS d A s.heap H locs (cw q d σ)) (hdg : decode cc pc = .ok (.getfield 9, 3)) (kk : W p l e R s m args below meth c H locs 0 0 Q (F0 m (pc + 3) ls (.int 80 :: rest))) : W p l e R s m args below meth c H locs 0 0 Q (F0 m pc ls (.ref (q 10) :: rest)) := gf (j := 0) C hS cw_o10 rfl inX3 (by decide) (tb_at 114 (by decide +kernel) rfl) rfl hdg kk
theorem g_3_17_10 (C : CX p s m args meth c RX3 cc nL ret d A) (hS : HS d A s.heap H locs (cw q d σ)) (hdg : decode cc pc = .ok (.getfield 17, 3)) (kk : W p l e R s m args below meth c H locs 0 0 Q (F0 m (pc + 3) ls (.ref (q 11) :: rest))) : W p l e R s m args below meth c H locs 0 0 Q (F0 m pc ls (.ref (q 10) :: rest)) := gf (j := 1) C hS cw_o10 rfl inX3 (by decide) (tb_at 116 (by decide +kernel) rfl) rfl hdg kk
theorem cw_r11 {q : Nat → Nat} {d : CD} {σ : ST} : (cw q d σ)[11]? = some (q 11, .inl (d.2.2.2.2.1, 4, .inr (.inr (.inr (.inr (fun j => if j < 4 then some (q (13 + j)) else none)))))) := rfl
theorem cw_af13 {q : Nat → Nat} {d : CD} {σ : ST} {j : Nat} (h : j < 4) : (cw q d σ)[13 + j]? = some (q (13 + j), .inl (d.2.1, 80, .inl (σ.2.2 (13 + j)))) := by
  match j, h with
  | 0, _ => rfl
  | 1, _ => rfl
  | 2, _ => rfl
  | 3, _ => rfl
theorem cw_sf13 {q : Nat → Nat} {d : CD} {σ : ST} {j : Nat} (h : j < 4) (f : Nat → Int32) : (cw q d σ).set (13 + j) (q (13 + j), .inl (d.2.1, 80, .inl f)) = cw q d (setA σ (13 + j) f) := by
  match j, h with
  | 0, _ => rfl
  | 1, _ => rfl
  | 2, _ => rfl
  | 3, _ => rfl
theorem g_6_26_0 (C : CX p s m args meth c RX6 cc nL ret d A) (hS : HS d A s.heap H locs (cw q d σ)) (hdg : decode cc pc = .ok (.getfield 26, 3)) (kk : W p l e R s m args below meth c H locs 0 0 Q (F0 m (pc + 3) ls (.ref (q 17) :: rest))) : W p l e R s m args below meth c H locs 0 0 Q (F0 m pc ls (.ref (q 0) :: rest)) := gf (j := 2) C hS cw_o0 rfl inX6 (by decide) (tb_at 271 (by decide +kernel) rfl) rfl hdg kk
theorem inX2 : ∀ x ∈ u_ws RX2 TX2 5, x ∈ tb := fun x h => by
  have e : u_ws RX2 TX2 5 = [184, 186, 188, 190, 192].filterMap (fun i => lw_tbl[i]?) := by decide +kernel
  rw [e] at h
  obtain ⟨i, -, hi⟩ := List.mem_filterMap.mp h
  refine List.mem_filter.mpr ⟨List.mem_of_getElem? hi, ?_⟩
  have g : (u_ws RX2 TX2 5).all goodWord = true := by decide +kernel
  rw [e] at g
  exact List.all_eq_true.mp g x h
theorem cw_o17 {q : Nat → Nat} {d : CD} {σ : ST} : (cw q d σ)[17]? = some (q 17, .inr (2, [.ref (q 10), .ref (q 43), .ref (q 18), .int (σ.1 12), .int (σ.1 13)])) := rfl
theorem g_2_36_17 (C : CX p s m args meth c RX2 cc nL ret d A) (hS : HS d A s.heap H locs (cw q d σ)) (hdg : decode cc pc = .ok (.getfield 36, 3)) (kk : W p l e R s m args below meth c H locs 0 0 Q (F0 m (pc + 3) ls (.int (σ.1 13) :: rest))) : W p l e R s m args below meth c H locs 0 0 Q (F0 m pc ls (.ref (q 17) :: rest)) := gf (j := 4) C hS cw_o17 rfl inX2 (by decide) (tb_at 183 (by decide +kernel) rfl) rfl hdg kk
theorem g_2_32_17 (C : CX p s m args meth c RX2 cc nL ret d A) (hS : HS d A s.heap H locs (cw q d σ)) (hdg : decode cc pc = .ok (.getfield 32, 3)) (kk : W p l e R s m args below meth c H locs 0 0 Q (F0 m (pc + 3) ls (.int (σ.1 12) :: rest))) : W p l e R s m args below meth c H locs 0 0 Q (F0 m pc ls (.ref (q 17) :: rest)) := gf (j := 3) C hS cw_o17 rfl inX2 (by decide) (tb_at 182 (by decide +kernel) rfl) rfl hdg kk
theorem g_2_9_17 (C : CX p s m args meth c RX2 cc nL ret d A) (hS : HS d A s.heap H locs (cw q d σ)) (hdg : decode cc pc = .ok (.getfield 9, 3)) (kk : W p l e R s m args below meth c H locs 0 0 Q (F0 m (pc + 3) ls (.ref (q 43) :: rest))) : W p l e R s m args below meth c H locs 0 0 Q (F0 m pc ls (.ref (q 17) :: rest)) := gf (j := 1) C hS cw_o17 rfl inX2 (by decide) (tb_at 180 (by decide +kernel) rfl) rfl hdg kk
theorem cw_a43 {q : Nat → Nat} {d : CD} {σ : ST} : (cw q d σ)[43]? = some (q 43, .inl (d.2.1, 80, .inl (σ.2.2 43))) := rfl
theorem cw_s43 {q : Nat → Nat} {d : CD} {σ : ST} (f : Nat → Int32) : (cw q d σ).set 43 (q 43, .inl (d.2.1, 80, .inl f)) = cw q d (setA σ 43 f) := rfl
theorem yc_X2_sign : Cond.code yX2_sign cX2_sign 1 (some .int) ∈ tb := tb_at 434 (by decide +kernel) rfl
theorem yd_X2_sign : ydn yX2_sign 0 := by decide +kernel
theorem yi_X2 : Cond.initialized "WellLocks$Reader" ∈ tb := tb_at 82 (by decide +kernel) rfl
theorem yv_X2_sign : Cond.instanceMethod yX2_sign ∈ tb ∧ Cond.selects yX2_sign.cls yX2_sign yX2_sign ∈ tb := ⟨tb_at 433 (by decide +kernel) rfl, tb_at 5 (by decide +kernel) rfl⟩
theorem iv_2_49 : inV RX2 49 yX2_sign cX2_sign 1 (some .int) 0 := ⟨⟨tb_at 431 (by decide +kernel) rfl, yv_X2_sign.1, yv_X2_sign.2, yi_X2, yc_X2_sign⟩, yd_X2_sign⟩
theorem p_2_36_17 {x : Int32} (C : CX p s m args meth c RX2 cc nL ret d A) (hS : HS d A s.heap H locs (cw q d σ)) (e1 : some (setI σ 13 x) = some σ1) (hdg : decode cc pc = .ok (.putfield 36, 3)) (kk : ∀ (H1 : Heap) (locs1 : List Loc), HS d A s.heap H1 locs1 (cw q d σ1) → W p l e R s m args below meth c H1 locs1 0 0 Q (F0 m (pc + 3) ls rest)) : W p l e R s m args below meth c H locs 0 0 Q (F0 m pc ls (.int x :: .ref (q 17) :: rest)) := by
  cases e1
  exact pf (j := 4) (ty := .int) tyX2 tyX2_ok nmX2 C hS cw_o17 rfl inX2 (by decide) (tb_at 183 (by decide +kernel) rfl) rfl (by decide +kernel) rfl rfl (Nat.le_of_ble_eq_true rfl) rfl hdg kk
theorem yc_X2_skipBlanks : Cond.code yX2_skipBlanks cX2_skipBlanks 1 (none) ∈ tb := tb_at 430 (by decide +kernel) rfl
theorem yd_X2_skipBlanks : ydn yX2_skipBlanks 0 := by decide +kernel
theorem yv_X2_skipBlanks : Cond.instanceMethod yX2_skipBlanks ∈ tb ∧ Cond.selects yX2_skipBlanks.cls yX2_skipBlanks yX2_skipBlanks ∈ tb := ⟨tb_at 429 (by decide +kernel) rfl, tb_at 4 (by decide +kernel) rfl⟩
theorem iv_2_42 : inV RX2 42 yX2_skipBlanks cX2_skipBlanks 1 (none) 0 := ⟨⟨tb_at 427 (by decide +kernel) rfl, yv_X2_skipBlanks.1, yv_X2_skipBlanks.2, yi_X2, yc_X2_skipBlanks⟩, yd_X2_skipBlanks⟩
theorem yc_J0_charAt_5068e : Cond.code yJ0_charAt_5068e cJ0_charAt_5068e 2 (some .char) ∈ tb := tb_at 473 (by decide +kernel) rfl
theorem yd_J0_charAt_5068e : ydn yJ0_charAt_5068e 1 := by decide +kernel
theorem yv_J0_charAt_5068e : Cond.instanceMethod yJ0_charAt_5068e ∈ tb ∧ Cond.selects yJ0_charAt_5068e.cls yJ0_charAt_5068e yJ0_charAt_5068e ∈ tb := ⟨tb_at 471 (by decide +kernel) rfl, tb_at 472 (by decide +kernel) rfl⟩
theorem iv_2_104 : inV RX2 104 yJ0_charAt_5068e cJ0_charAt_5068e 2 (some .char) 1 := ⟨⟨tb_at 470 (by decide +kernel) rfl, yv_J0_charAt_5068e.1, yv_J0_charAt_5068e.2, yi_J0, yc_J0_charAt_5068e⟩, yd_J0_charAt_5068e⟩
theorem yc_X2_kindOf : Cond.code yX2_kindOf cX2_kindOf 2 (some .int) ∈ tb := tb_at 468 (by decide +kernel) rfl
theorem yd_X2_kindOf : ydn yX2_kindOf 1 := by decide +kernel
theorem ys_X2_kindOf : Cond.static yX2_kindOf ∈ tb := tb_at 467 (by decide +kernel) rfl
theorem is_2_81 : inS RX2 81 yX2_kindOf cX2_kindOf 2 (some .int) 1 := ⟨⟨tb_at 466 (by decide +kernel) rfl, ys_X2_kindOf, yi_X2, yc_X2_kindOf⟩, yd_X2_kindOf⟩
theorem g_2_18_17 (C : CX p s m args meth c RX2 cc nL ret d A) (hS : HS d A s.heap H locs (cw q d σ)) (hdg : decode cc pc = .ok (.getfield 18, 3)) (kk : W p l e R s m args below meth c H locs 0 0 Q (F0 m (pc + 3) ls (.ref (q 18) :: rest))) : W p l e R s m args below meth c H locs 0 0 Q (F0 m pc ls (.ref (q 17) :: rest)) := gf (j := 2) C hS cw_o17 rfl inX2 (by decide) (tb_at 181 (by decide +kernel) rfl) rfl hdg kk
theorem inX0 : ∀ x ∈ u_ws RX0 TX0 8, x ∈ tb := fun x h => by
  have e : u_ws RX0 TX0 8 = [162, 164, 166, 168, 170, 172, 174, 176].filterMap (fun i => lw_tbl[i]?) := by decide +kernel
  rw [e] at h
  obtain ⟨i, -, hi⟩ := List.mem_filterMap.mp h
  refine List.mem_filter.mpr ⟨List.mem_of_getElem? hi, ?_⟩
  have g : (u_ws RX0 TX0 8).all goodWord = true := by decide +kernel
  rw [e] at g
  exact List.all_eq_true.mp g x h
theorem cw_o18 {q : Nat → Nat} {d : CD} {σ : ST} : (cw q d σ)[18]? = some (q 18, .inr (0, [.int (σ.1 20), .int (σ.1 21), .int (σ.1 22), .int (σ.1 23), .int (σ.1 24), .ref (q 19), .ref (q 20), .ref (q 21)])) := rfl
theorem g_2_53_18 (C : CX p s m args meth c RX2 cc nL ret d A) (hS : HS d A s.heap H locs (cw q d σ)) (hdg : decode cc pc = .ok (.getfield 53, 3)) (kk : W p l e R s m args below meth c H locs 0 0 Q (F0 m (pc + 3) ls (.int (σ.1 23) :: rest))) : W p l e R s m args below meth c H locs 0 0 Q (F0 m pc ls (.ref (q 18) :: rest)) := gfN (host := "WellLocks") (j := 3) C hS cw_o18 rfl inX0 (by decide) (by decide +kernel) rfl hdg kk
theorem g_2_85_18 (C : CX p s m args meth c RX2 cc nL ret d A) (hS : HS d A s.heap H locs (cw q d σ)) (hdg : decode cc pc = .ok (.getfield 85, 3)) (kk : W p l e R s m args below meth c H locs 0 0 Q (F0 m (pc + 3) ls (.int (σ.1 24) :: rest))) : W p l e R s m args below meth c H locs 0 0 Q (F0 m pc ls (.ref (q 18) :: rest)) := gfN (host := "WellLocks") (j := 4) C hS cw_o18 rfl inX0 (by decide) (by decide +kernel) rfl hdg kk
theorem yc_X2_figure : Cond.code yX2_figure cX2_figure 4 (some .int) ∈ tb := tb_at 446 (by decide +kernel) rfl
theorem yd_X2_figure : ydn yX2_figure 2 := by decide +kernel
theorem yv_X2_figure : Cond.instanceMethod yX2_figure ∈ tb ∧ Cond.selects yX2_figure.cls yX2_figure yX2_figure ∈ tb := ⟨tb_at 445 (by decide +kernel) rfl, tb_at 8 (by decide +kernel) rfl⟩
theorem iv_2_59 : inV RX2 59 yX2_figure cX2_figure 4 (some .int) 2 := ⟨⟨tb_at 443 (by decide +kernel) rfl, yv_X2_figure.1, yv_X2_figure.2, yi_X2, yc_X2_figure⟩, yd_X2_figure⟩
theorem yc_X2_takeFigure : Cond.code yX2_takeFigure cX2_takeFigure 4 (some .int) ∈ tb := tb_at 442 (by decide +kernel) rfl
theorem yd_X2_takeFigure : ydn yX2_takeFigure 2 := by decide +kernel
theorem yv_X2_takeFigure : Cond.instanceMethod yX2_takeFigure ∈ tb ∧ Cond.selects yX2_takeFigure.cls yX2_takeFigure yX2_takeFigure ∈ tb := ⟨tb_at 441 (by decide +kernel) rfl, tb_at 7 (by decide +kernel) rfl⟩
theorem iv_2_63 : inV RX2 63 yX2_takeFigure cX2_takeFigure 4 (some .int) 2 := ⟨⟨tb_at 439 (by decide +kernel) rfl, yv_X2_takeFigure.1, yv_X2_takeFigure.2, yi_X2, yc_X2_takeFigure⟩, yd_X2_takeFigure⟩
theorem g_0_31_18 (C : CX p s m args meth c RX0 cc nL ret d A) (hS : HS d A s.heap H locs (cw q d σ)) (hdg : decode cc pc = .ok (.getfield 31, 3)) (kk : W p l e R s m args below meth c H locs 0 0 Q (F0 m (pc + 3) ls (.int (σ.1 23) :: rest))) : W p l e R s m args below meth c H locs 0 0 Q (F0 m pc ls (.ref (q 18) :: rest)) := gf (j := 3) C hS cw_o18 rfl inX0 (by decide) (tb_at 148 (by decide +kernel) rfl) rfl hdg kk
theorem g_0_9_18 (C : CX p s m args meth c RX0 cc nL ret d A) (hS : HS d A s.heap H locs (cw q d σ)) (hdg : decode cc pc = .ok (.getfield 9, 3)) (kk : W p l e R s m args below meth c H locs 0 0 Q (F0 m (pc + 3) ls (.ref (q 19) :: rest))) : W p l e R s m args below meth c H locs 0 0 Q (F0 m pc ls (.ref (q 18) :: rest)) := gf (j := 5) C hS cw_o18 rfl inX0 (by decide) (tb_at 154 (by decide +kernel) rfl) rfl hdg kk
theorem cw_a19 {q : Nat → Nat} {d : CD} {σ : ST} : (cw q d σ)[19]? = some (q 19, .inl (d.2.1, 7, .inl (σ.2.2 19))) := rfl
theorem cw_s19 {q : Nat → Nat} {d : CD} {σ : ST} (f : Nat → Int32) : (cw q d σ).set 19 (q 19, .inl (d.2.1, 7, .inl f)) = cw q d (setA σ 19 f) := rfl
theorem g_0_15_18 (C : CX p s m args meth c RX0 cc nL ret d A) (hS : HS d A s.heap H locs (cw q d σ)) (hdg : decode cc pc = .ok (.getfield 15, 3)) (kk : W p l e R s m args below meth c H locs 0 0 Q (F0 m (pc + 3) ls (.ref (q 20) :: rest))) : W p l e R s m args below meth c H locs 0 0 Q (F0 m pc ls (.ref (q 18) :: rest)) := gf (j := 6) C hS cw_o18 rfl inX0 (by decide) (tb_at 157 (by decide +kernel) rfl) rfl hdg kk
theorem cw_a20 {q : Nat → Nat} {d : CD} {σ : ST} : (cw q d σ)[20]? = some (q 20, .inl (d.2.1, 7, .inl (σ.2.2 20))) := rfl
theorem cw_s20 {q : Nat → Nat} {d : CD} {σ : ST} (f : Nat → Int32) : (cw q d σ).set 20 (q 20, .inl (d.2.1, 7, .inl f)) = cw q d (setA σ 20 f) := rfl
theorem p_0_31_18 {x : Int32} (C : CX p s m args meth c RX0 cc nL ret d A) (hS : HS d A s.heap H locs (cw q d σ)) (e1 : some (setI σ 23 x) = some σ1) (hdg : decode cc pc = .ok (.putfield 31, 3)) (kk : ∀ (H1 : Heap) (locs1 : List Loc), HS d A s.heap H1 locs1 (cw q d σ1) → W p l e R s m args below meth c H1 locs1 0 0 Q (F0 m (pc + 3) ls rest)) : W p l e R s m args below meth c H locs 0 0 Q (F0 m pc ls (.int x :: .ref (q 18) :: rest)) := by
  cases e1
  exact pf (j := 3) (ty := .int) tyX0 tyX0_ok nmX0 C hS cw_o18 rfl inX0 (by decide) (tb_at 148 (by decide +kernel) rfl) rfl (by decide +kernel) rfl rfl (Nat.le_of_ble_eq_true rfl) rfl hdg kk
theorem yc_X0_addHouse : Cond.code yX0_addHouse cX0_addHouse 3 (none) ∈ tb := tb_at 513 (by decide +kernel) rfl
theorem yd_X0_addHouse : ydn yX0_addHouse 2 := by decide +kernel
theorem yi_X0 : Cond.initialized "WellLocks$Charter" ∈ tb := tb_at 83 (by decide +kernel) rfl
theorem yv_X0_addHouse : Cond.instanceMethod yX0_addHouse ∈ tb ∧ Cond.selects yX0_addHouse.cls yX0_addHouse yX0_addHouse ∈ tb := ⟨tb_at 511 (by decide +kernel) rfl, tb_at 512 (by decide +kernel) rfl⟩
theorem iv_2_88 : inV RX2 88 yX0_addHouse cX0_addHouse 3 (none) 2 := ⟨⟨tb_at 510 (by decide +kernel) rfl, yv_X0_addHouse.1, yv_X0_addHouse.2, yi_X0, yc_X0_addHouse⟩, yd_X0_addHouse⟩
theorem yc_X2_readHouse : Cond.code yX2_readHouse cX2_readHouse 3 (some .boolean) ∈ tb := tb_at 465 (by decide +kernel) rfl
theorem yd_X2_readHouse : ydn yX2_readHouse 0 := by decide +kernel
theorem yv_X2_readHouse : Cond.instanceMethod yX2_readHouse ∈ tb ∧ Cond.selects yX2_readHouse.cls yX2_readHouse yX2_readHouse ∈ tb := ⟨tb_at 464 (by decide +kernel) rfl, tb_at 11 (by decide +kernel) rfl⟩
theorem iv_2_78 : inV RX2 78 yX2_readHouse cX2_readHouse 3 (some .boolean) 0 := ⟨⟨tb_at 462 (by decide +kernel) rfl, yv_X2_readHouse.1, yv_X2_readHouse.2, yi_X2, yc_X2_readHouse⟩, yd_X2_readHouse⟩
theorem g_2_92_18 (C : CX p s m args meth c RX2 cc nL ret d A) (hS : HS d A s.heap H locs (cw q d σ)) (hdg : decode cc pc = .ok (.getfield 92, 3)) (kk : W p l e R s m args below meth c H locs 0 0 Q (F0 m (pc + 3) ls (.ref (q 21) :: rest))) : W p l e R s m args below meth c H locs 0 0 Q (F0 m pc ls (.ref (q 18) :: rest)) := gfN (host := "WellLocks") (j := 7) C hS cw_o18 rfl inX0 (by decide) (by decide +kernel) rfl hdg kk
theorem cw_a21 {q : Nat → Nat} {d : CD} {σ : ST} : (cw q d σ)[21]? = some (q 21, .inl (d.2.1, 7, .inl (σ.2.2 21))) := rfl
theorem cw_s21 {q : Nat → Nat} {d : CD} {σ : ST} (f : Nat → Int32) : (cw q d σ).set 21 (q 21, .inl (d.2.1, 7, .inl f)) = cw q d (setA σ 21 f) := rfl
theorem yc_X6_isIn : Cond.code yX6_isIn cX6_isIn 2 (some .boolean) ∈ tb := tb_at 457 (by decide +kernel) rfl
theorem yd_X6_isIn : ydn yX6_isIn 2 := by decide +kernel
theorem ys_X6_isIn : Cond.static yX6_isIn ∈ tb := tb_at 456 (by decide +kernel) rfl
theorem is_2_95 : inN RX2 95 yX6_isIn "WellLocks" cX6_isIn 2 (some .boolean) 2 := ⟨⟨by decide +kernel, ys_X6_isIn, yi_X6, yc_X6_isIn⟩, yd_X6_isIn⟩
theorem g_0_18_18 (C : CX p s m args meth c RX0 cc nL ret d A) (hS : HS d A s.heap H locs (cw q d σ)) (hdg : decode cc pc = .ok (.getfield 18, 3)) (kk : W p l e R s m args below meth c H locs 0 0 Q (F0 m (pc + 3) ls (.ref (q 21) :: rest))) : W p l e R s m args below meth c H locs 0 0 Q (F0 m pc ls (.ref (q 18) :: rest)) := gf (j := 7) C hS cw_o18 rfl inX0 (by decide) (tb_at 159 (by decide +kernel) rfl) rfl hdg kk
theorem g_0_34_18 (C : CX p s m args meth c RX0 cc nL ret d A) (hS : HS d A s.heap H locs (cw q d σ)) (hdg : decode cc pc = .ok (.getfield 34, 3)) (kk : W p l e R s m args below meth c H locs 0 0 Q (F0 m (pc + 3) ls (.int (σ.1 24) :: rest))) : W p l e R s m args below meth c H locs 0 0 Q (F0 m pc ls (.ref (q 18) :: rest)) := gf (j := 4) C hS cw_o18 rfl inX0 (by decide) (tb_at 151 (by decide +kernel) rfl) rfl hdg kk
theorem p_0_34_18 {x : Int32} (C : CX p s m args meth c RX0 cc nL ret d A) (hS : HS d A s.heap H locs (cw q d σ)) (e1 : some (setI σ 24 x) = some σ1) (hdg : decode cc pc = .ok (.putfield 34, 3)) (kk : ∀ (H1 : Heap) (locs1 : List Loc), HS d A s.heap H1 locs1 (cw q d σ1) → W p l e R s m args below meth c H1 locs1 0 0 Q (F0 m (pc + 3) ls rest)) : W p l e R s m args below meth c H locs 0 0 Q (F0 m pc ls (.int x :: .ref (q 18) :: rest)) := by
  cases e1
  exact pf (j := 4) (ty := .int) tyX0 tyX0_ok nmX0 C hS cw_o18 rfl inX0 (by decide) (tb_at 151 (by decide +kernel) rfl) rfl (by decide +kernel) rfl rfl (Nat.le_of_ble_eq_true rfl) rfl hdg kk
theorem yc_X0_addFeud : Cond.code yX0_addFeud cX0_addFeud 3 (none) ∈ tb := tb_at 461 (by decide +kernel) rfl
theorem yd_X0_addFeud : ydn yX0_addFeud 2 := by decide +kernel
theorem yv_X0_addFeud : Cond.instanceMethod yX0_addFeud ∈ tb ∧ Cond.selects yX0_addFeud.cls yX0_addFeud yX0_addFeud ∈ tb := ⟨tb_at 459 (by decide +kernel) rfl, tb_at 460 (by decide +kernel) rfl⟩
theorem iv_2_99 : inV RX2 99 yX0_addFeud cX0_addFeud 3 (none) 2 := ⟨⟨tb_at 458 (by decide +kernel) rfl, yv_X0_addFeud.1, yv_X0_addFeud.2, yi_X0, yc_X0_addFeud⟩, yd_X0_addFeud⟩
theorem yc_X2_readFeud : Cond.code yX2_readFeud cX2_readFeud 3 (some .boolean) ∈ tb := tb_at 454 (by decide +kernel) rfl
theorem yd_X2_readFeud : ydn yX2_readFeud 0 := by decide +kernel
theorem yv_X2_readFeud : Cond.instanceMethod yX2_readFeud ∈ tb ∧ Cond.selects yX2_readFeud.cls yX2_readFeud yX2_readFeud ∈ tb := ⟨tb_at 453 (by decide +kernel) rfl, tb_at 10 (by decide +kernel) rfl⟩
theorem iv_2_75 : inV RX2 75 yX2_readFeud cX2_readFeud 3 (some .boolean) 0 := ⟨⟨tb_at 451 (by decide +kernel) rfl, yv_X2_readFeud.1, yv_X2_readFeud.2, yi_X2, yc_X2_readFeud⟩, yd_X2_readFeud⟩
theorem yc_X2_readItem : Cond.code yX2_readItem cX2_readItem 1 (some .boolean) ∈ tb := tb_at 450 (by decide +kernel) rfl
theorem yd_X2_readItem : ydn yX2_readItem 0 := by decide +kernel
theorem yv_X2_readItem : Cond.instanceMethod yX2_readItem ∈ tb ∧ Cond.selects yX2_readItem.cls yX2_readItem yX2_readItem ∈ tb := ⟨tb_at 449 (by decide +kernel) rfl, tb_at 9 (by decide +kernel) rfl⟩
theorem iv_2_56 : inV RX2 56 yX2_readItem cX2_readItem 1 (some .boolean) 0 := ⟨⟨tb_at 447 (by decide +kernel) rfl, yv_X2_readItem.1, yv_X2_readItem.2, yi_X2, yc_X2_readItem⟩, yd_X2_readItem⟩
theorem g_2_22_17 (C : CX p s m args meth c RX2 cc nL ret d A) (hS : HS d A s.heap H locs (cw q d σ)) (hdg : decode cc pc = .ok (.getfield 22, 3)) (kk : W p l e R s m args below meth c H locs 0 0 Q (F0 m (pc + 3) ls (.ref (q 10) :: rest))) : W p l e R s m args below meth c H locs 0 0 Q (F0 m pc ls (.ref (q 17) :: rest)) := gf (j := 0) C hS cw_o17 rfl inX2 (by decide) (tb_at 179 (by decide +kernel) rfl) rfl hdg kk
theorem mm_X3_55 : Cond.methodLink RX3 55 Lib.Math.min.name ∈ tb ∧ Cond.static Lib.Math.min.name ∈ tb ∧ Cond.initialized "java/lang/Math" ∈ tb ∧ Cond.code Lib.Math.min.name Lib.Math.min.code 2 (some .int) ∈ tb := ⟨tb_at 416 (by decide +kernel) rfl, tb_at 417 (by decide +kernel) rfl, tb_at 89 (by decide +kernel) rfl, tb_at 418 (by decide +kernel) rfl⟩
theorem mx_X3_61 : Cond.methodLink RX3 61 Lib.Math.max.name ∈ tb ∧ Cond.static Lib.Math.max.name ∈ tb ∧ Cond.initialized "java/lang/Math" ∈ tb ∧ Cond.code Lib.Math.max.name Lib.Math.max.code 2 (some .int) ∈ tb := ⟨tb_at 419 (by decide +kernel) rfl, tb_at 420 (by decide +kernel) rfl, tb_at 89 (by decide +kernel) rfl, tb_at 421 (by decide +kernel) rfl⟩
theorem yc_X3_copyInto : Cond.code yX3_copyInto cX3_copyInto 4 (some .int) ∈ tb := tb_at 415 (by decide +kernel) rfl
theorem yd_X3_copyInto : ydn yX3_copyInto 2 := by decide +kernel
theorem yv_X3_copyInto : Cond.instanceMethod yX3_copyInto ∈ tb ∧ Cond.selects yX3_copyInto.cls yX3_copyInto yX3_copyInto ∈ tb := ⟨tb_at 413 (by decide +kernel) rfl, tb_at 414 (by decide +kernel) rfl⟩
theorem iv_2_26 : inV RX2 26 yX3_copyInto cX3_copyInto 4 (some .int) 2 := ⟨⟨tb_at 412 (by decide +kernel) rfl, yv_X3_copyInto.1, yv_X3_copyInto.2, yi_X3, yc_X3_copyInto⟩, yd_X3_copyInto⟩
theorem p_2_32_17 {x : Int32} (C : CX p s m args meth c RX2 cc nL ret d A) (hS : HS d A s.heap H locs (cw q d σ)) (e1 : some (setI σ 12 x) = some σ1) (hdg : decode cc pc = .ok (.putfield 32, 3)) (kk : ∀ (H1 : Heap) (locs1 : List Loc), HS d A s.heap H1 locs1 (cw q d σ1) → W p l e R s m args below meth c H1 locs1 0 0 Q (F0 m (pc + 3) ls rest)) : W p l e R s m args below meth c H locs 0 0 Q (F0 m pc ls (.int x :: .ref (q 17) :: rest)) := by
  cases e1
  exact pf (j := 3) (ty := .int) tyX2 tyX2_ok nmX2 C hS cw_o17 rfl inX2 (by decide) (tb_at 182 (by decide +kernel) rfl) rfl (by decide +kernel) rfl rfl (Nat.le_of_ble_eq_true rfl) rfl hdg kk
theorem p_0_21_18 {x : Int32} (C : CX p s m args meth c RX0 cc nL ret d A) (hS : HS d A s.heap H locs (cw q d σ)) (e1 : some (setI σ 20 x) = some σ1) (hdg : decode cc pc = .ok (.putfield 21, 3)) (kk : ∀ (H1 : Heap) (locs1 : List Loc), HS d A s.heap H1 locs1 (cw q d σ1) → W p l e R s m args below meth c H1 locs1 0 0 Q (F0 m (pc + 3) ls rest)) : W p l e R s m args below meth c H locs 0 0 Q (F0 m pc ls (.int x :: .ref (q 18) :: rest)) := by
  cases e1
  exact pf (j := 0) (ty := .int) tyX0 tyX0_ok nmX0 C hS cw_o18 rfl inX0 (by decide) (tb_at 138 (by decide +kernel) rfl) rfl (by decide +kernel) rfl rfl (Nat.le_of_ble_eq_true rfl) rfl hdg kk
theorem p_0_25_18 {x : Int32} (C : CX p s m args meth c RX0 cc nL ret d A) (hS : HS d A s.heap H locs (cw q d σ)) (e1 : some (setI σ 21 x) = some σ1) (hdg : decode cc pc = .ok (.putfield 25, 3)) (kk : ∀ (H1 : Heap) (locs1 : List Loc), HS d A s.heap H1 locs1 (cw q d σ1) → W p l e R s m args below meth c H1 locs1 0 0 Q (F0 m (pc + 3) ls rest)) : W p l e R s m args below meth c H locs 0 0 Q (F0 m pc ls (.int x :: .ref (q 18) :: rest)) := by
  cases e1
  exact pf (j := 1) (ty := .int) tyX0 tyX0_ok nmX0 C hS cw_o18 rfl inX0 (by decide) (tb_at 142 (by decide +kernel) rfl) rfl (by decide +kernel) rfl rfl (Nat.le_of_ble_eq_true rfl) rfl hdg kk
theorem p_0_28_18 {x : Int32} (C : CX p s m args meth c RX0 cc nL ret d A) (hS : HS d A s.heap H locs (cw q d σ)) (e1 : some (setI σ 22 x) = some σ1) (hdg : decode cc pc = .ok (.putfield 28, 3)) (kk : ∀ (H1 : Heap) (locs1 : List Loc), HS d A s.heap H1 locs1 (cw q d σ1) → W p l e R s m args below meth c H1 locs1 0 0 Q (F0 m (pc + 3) ls rest)) : W p l e R s m args below meth c H locs 0 0 Q (F0 m pc ls (.int x :: .ref (q 18) :: rest)) := by
  cases e1
  exact pf (j := 2) (ty := .int) tyX0 tyX0_ok nmX0 C hS cw_o18 rfl inX0 (by decide) (tb_at 145 (by decide +kernel) rfl) rfl (by decide +kernel) rfl rfl (Nat.le_of_ble_eq_true rfl) rfl hdg kk
theorem is_0_37 : inS RX0 37 yJ7_fill_53178 cJ7_fill_53178 4 (none) 2 := ⟨⟨tb_at 426 (by decide +kernel) rfl, ys_J7_fill_53178, yi_J7, yc_J7_fill_53178⟩, yd_J7_fill_53178⟩
theorem yc_X0_clear : Cond.code yX0_clear cX0_clear 1 (none) ∈ tb := tb_at 425 (by decide +kernel) rfl
theorem yd_X0_clear : ydn yX0_clear 0 := by decide +kernel
theorem yv_X0_clear : Cond.instanceMethod yX0_clear ∈ tb ∧ Cond.selects yX0_clear.cls yX0_clear yX0_clear ∈ tb := ⟨tb_at 423 (by decide +kernel) rfl, tb_at 424 (by decide +kernel) rfl⟩
theorem iv_2_39 : inV RX2 39 yX0_clear cX0_clear 1 (none) 0 := ⟨⟨tb_at 422 (by decide +kernel) rfl, yv_X0_clear.1, yv_X0_clear.2, yi_X0, yc_X0_clear⟩, yd_X0_clear⟩
theorem p_2_66_18 {x : Int32} (C : CX p s m args meth c RX2 cc nL ret d A) (hS : HS d A s.heap H locs (cw q d σ)) (e1 : some (setI σ 20 x) = some σ1) (hdg : decode cc pc = .ok (.putfield 66, 3)) (kk : ∀ (H1 : Heap) (locs1 : List Loc), HS d A s.heap H1 locs1 (cw q d σ1) → W p l e R s m args below meth c H1 locs1 0 0 Q (F0 m (pc + 3) ls rest)) : W p l e R s m args below meth c H locs 0 0 Q (F0 m pc ls (.int x :: .ref (q 18) :: rest)) := by
  cases e1
  exact pfN (host := "WellLocks") (j := 0) (ty := .int) tyX0 tyX0_ok nmX0 C hS cw_o18 rfl inX0 (by decide) (by decide +kernel) rfl (by decide +kernel) rfl rfl (Nat.le_of_ble_eq_true rfl) rfl hdg kk
theorem g_2_66_18 (C : CX p s m args meth c RX2 cc nL ret d A) (hS : HS d A s.heap H locs (cw q d σ)) (hdg : decode cc pc = .ok (.getfield 66, 3)) (kk : W p l e R s m args below meth c H locs 0 0 Q (F0 m (pc + 3) ls (.int (σ.1 20) :: rest))) : W p l e R s m args below meth c H locs 0 0 Q (F0 m pc ls (.ref (q 18) :: rest)) := gfN (host := "WellLocks") (j := 0) C hS cw_o18 rfl inX0 (by decide) (by decide +kernel) rfl hdg kk
theorem p_2_69_18 {x : Int32} (C : CX p s m args meth c RX2 cc nL ret d A) (hS : HS d A s.heap H locs (cw q d σ)) (e1 : some (setI σ 21 x) = some σ1) (hdg : decode cc pc = .ok (.putfield 69, 3)) (kk : ∀ (H1 : Heap) (locs1 : List Loc), HS d A s.heap H1 locs1 (cw q d σ1) → W p l e R s m args below meth c H1 locs1 0 0 Q (F0 m (pc + 3) ls rest)) : W p l e R s m args below meth c H locs 0 0 Q (F0 m pc ls (.int x :: .ref (q 18) :: rest)) := by
  cases e1
  exact pfN (host := "WellLocks") (j := 1) (ty := .int) tyX0 tyX0_ok nmX0 C hS cw_o18 rfl inX0 (by decide) (by decide +kernel) rfl (by decide +kernel) rfl rfl (Nat.le_of_ble_eq_true rfl) rfl hdg kk
theorem p_2_72_18 {x : Int32} (C : CX p s m args meth c RX2 cc nL ret d A) (hS : HS d A s.heap H locs (cw q d σ)) (e1 : some (setI σ 22 x) = some σ1) (hdg : decode cc pc = .ok (.putfield 72, 3)) (kk : ∀ (H1 : Heap) (locs1 : List Loc), HS d A s.heap H1 locs1 (cw q d σ1) → W p l e R s m args below meth c H1 locs1 0 0 Q (F0 m (pc + 3) ls rest)) : W p l e R s m args below meth c H locs 0 0 Q (F0 m pc ls (.int x :: .ref (q 18) :: rest)) := by
  cases e1
  exact pfN (host := "WellLocks") (j := 2) (ty := .int) tyX0 tyX0_ok nmX0 C hS cw_o18 rfl inX0 (by decide) (by decide +kernel) rfl (by decide +kernel) rfl rfl (Nat.le_of_ble_eq_true rfl) rfl hdg kk
theorem g_2_72_18 (C : CX p s m args meth c RX2 cc nL ret d A) (hS : HS d A s.heap H locs (cw q d σ)) (hdg : decode cc pc = .ok (.getfield 72, 3)) (kk : W p l e R s m args below meth c H locs 0 0 Q (F0 m (pc + 3) ls (.int (σ.1 22) :: rest))) : W p l e R s m args below meth c H locs 0 0 Q (F0 m pc ls (.ref (q 18) :: rest)) := gfN (host := "WellLocks") (j := 2) C hS cw_o18 rfl inX0 (by decide) (by decide +kernel) rfl hdg kk
theorem yc_X2_readPeace : Cond.code yX2_readPeace cX2_readPeace 3 (some .boolean) ∈ tb := tb_at 438 (by decide +kernel) rfl
theorem yd_X2_readPeace : ydn yX2_readPeace 0 := by decide +kernel
theorem yv_X2_readPeace : Cond.instanceMethod yX2_readPeace ∈ tb ∧ Cond.selects yX2_readPeace.cls yX2_readPeace yX2_readPeace ∈ tb := ⟨tb_at 437 (by decide +kernel) rfl, tb_at 6 (by decide +kernel) rfl⟩
theorem iv_2_45 : inV RX2 45 yX2_readPeace cX2_readPeace 3 (some .boolean) 0 := ⟨⟨tb_at 435 (by decide +kernel) rfl, yv_X2_readPeace.1, yv_X2_readPeace.2, yi_X2, yc_X2_readPeace⟩, yd_X2_readPeace⟩
theorem yc_X2_read : Cond.code yX2_read cX2_read 3 (some .int) ∈ tb := tb_at 411 (by decide +kernel) rfl
theorem yd_X2_read : ydn yX2_read 1 := by decide +kernel
theorem yv_X2_read : Cond.instanceMethod yX2_read ∈ tb ∧ Cond.selects yX2_read.cls yX2_read yX2_read ∈ tb := ⟨tb_at 409 (by decide +kernel) rfl, tb_at 410 (by decide +kernel) rfl⟩
theorem iv_6_122 : inV RX6 122 yX2_read cX2_read 3 (some .int) 1 := ⟨⟨tb_at 408 (by decide +kernel) rfl, yv_X2_read.1, yv_X2_read.2, yi_X2, yc_X2_read⟩, yd_X2_read⟩
theorem g_6_33_0 (C : CX p s m args meth c RX6 cc nL ret d A) (hS : HS d A s.heap H locs (cw q d σ)) (hdg : decode cc pc = .ok (.getfield 33, 3)) (kk : W p l e R s m args below meth c H locs 0 0 Q (F0 m (pc + 3) ls (.ref (q 22) :: rest))) : W p l e R s m args below meth c H locs 0 0 Q (F0 m pc ls (.ref (q 0) :: rest)) := gf (j := 3) C hS cw_o0 rfl inX6 (by decide) (tb_at 272 (by decide +kernel) rfl) rfl hdg kk
theorem inX5 : ∀ x ∈ u_ws RX5 TX5 7, x ∈ tb := fun x h => by
  have e : u_ws RX5 TX5 7 = [231, 233, 235, 237, 239, 241, 243].filterMap (fun i => lw_tbl[i]?) := by decide +kernel
  rw [e] at h
  obtain ⟨i, -, hi⟩ := List.mem_filterMap.mp h
  refine List.mem_filter.mpr ⟨List.mem_of_getElem? hi, ?_⟩
  have g : (u_ws RX5 TX5 7).all goodWord = true := by decide +kernel
  rw [e] at g
  exact List.all_eq_true.mp g x h
theorem cw_o22 {q : Nat → Nat} {d : CD} {σ : ST} : (cw q d σ)[22]? = some (q 22, .inr (5, [.ref (q 23), .ref (q 27), .ref (q 29), .ref (q 30), .ref (q 31), .int (σ.1 35), .int (σ.1 36)])) := rfl
theorem g_5_12_22 (C : CX p s m args meth c RX5 cc nL ret d A) (hS : HS d A s.heap H locs (cw q d σ)) (hdg : decode cc pc = .ok (.getfield 12, 3)) (kk : W p l e R s m args below meth c H locs 0 0 Q (F0 m (pc + 3) ls (.ref (q 23) :: rest))) : W p l e R s m args below meth c H locs 0 0 Q (F0 m pc ls (.ref (q 22) :: rest)) := gf (j := 0) C hS cw_o22 rfl inX5 (by decide) (tb_at 219 (by decide +kernel) rfl) rfl hdg kk
theorem cw_o23 {q : Nat → Nat} {d : CD} {σ : ST} : (cw q d σ)[23]? = some (q 23, .inr (0, [.int (σ.1 30), .int (σ.1 31), .int (σ.1 32), .int (σ.1 33), .int (σ.1 34), .ref (q 24), .ref (q 25), .ref (q 26)])) := rfl
theorem g_5_95_23 (C : CX p s m args meth c RX5 cc nL ret d A) (hS : HS d A s.heap H locs (cw q d σ)) (hdg : decode cc pc = .ok (.getfield 95, 3)) (kk : W p l e R s m args below meth c H locs 0 0 Q (F0 m (pc + 3) ls (.int (σ.1 33) :: rest))) : W p l e R s m args below meth c H locs 0 0 Q (F0 m pc ls (.ref (q 23) :: rest)) := gfN (host := "WellLocks") (j := 3) C hS cw_o23 rfl inX0 (by decide) (by decide +kernel) rfl hdg kk
theorem yc_X5_isHouse : Cond.code yX5_isHouse cX5_isHouse 2 (some .boolean) ∈ tb := tb_at 542 (by decide +kernel) rfl
theorem yd_X5_isHouse : ydn yX5_isHouse 1 := by decide +kernel
theorem yi_X5 : Cond.initialized "WellLocks$Well" ∈ tb := tb_at 84 (by decide +kernel) rfl
theorem yv_X5_isHouse : Cond.instanceMethod yX5_isHouse ∈ tb ∧ Cond.selects yX5_isHouse.cls yX5_isHouse yX5_isHouse ∈ tb := ⟨tb_at 540 (by decide +kernel) rfl, tb_at 541 (by decide +kernel) rfl⟩
theorem iv_6_144 : inV RX6 144 yX5_isHouse cX5_isHouse 2 (some .boolean) 1 := ⟨⟨tb_at 569 (by decide +kernel) rfl, yv_X5_isHouse.1, yv_X5_isHouse.2, yi_X5, yc_X5_isHouse⟩, yd_X5_isHouse⟩
theorem g_5_131_23 (C : CX p s m args meth c RX5 cc nL ret d A) (hS : HS d A s.heap H locs (cw q d σ)) (hdg : decode cc pc = .ok (.getfield 131, 3)) (kk : W p l e R s m args below meth c H locs 0 0 Q (F0 m (pc + 3) ls (.ref (q 26) :: rest))) : W p l e R s m args below meth c H locs 0 0 Q (F0 m pc ls (.ref (q 23) :: rest)) := gfN (host := "WellLocks") (j := 7) C hS cw_o23 rfl inX0 (by decide) (by decide +kernel) rfl hdg kk
theorem cw_a26 {q : Nat → Nat} {d : CD} {σ : ST} : (cw q d σ)[26]? = some (q 26, .inl (d.2.1, 7, .inl (σ.2.2 26))) := rfl
theorem cw_s26 {q : Nat → Nat} {d : CD} {σ : ST} (f : Nat → Int32) : (cw q d σ).set 26 (q 26, .inl (d.2.1, 7, .inl f)) = cw q d (setA σ 26 f) := rfl
theorem g_5_102_23 (C : CX p s m args meth c RX5 cc nL ret d A) (hS : HS d A s.heap H locs (cw q d σ)) (hdg : decode cc pc = .ok (.getfield 102, 3)) (kk : W p l e R s m args below meth c H locs 0 0 Q (F0 m (pc + 3) ls (.ref (q 24) :: rest))) : W p l e R s m args below meth c H locs 0 0 Q (F0 m pc ls (.ref (q 23) :: rest)) := gfN (host := "WellLocks") (j := 5) C hS cw_o23 rfl inX0 (by decide) (by decide +kernel) rfl hdg kk
theorem cw_a24 {q : Nat → Nat} {d : CD} {σ : ST} : (cw q d σ)[24]? = some (q 24, .inl (d.2.1, 7, .inl (σ.2.2 24))) := rfl
theorem cw_s24 {q : Nat → Nat} {d : CD} {σ : ST} (f : Nat → Int32) : (cw q d σ).set 24 (q 24, .inl (d.2.1, 7, .inl f)) = cw q d (setA σ 24 f) := rfl
theorem yc_X6_isOfKind : Cond.code yX6_isOfKind cX6_isOfKind 2 (some .boolean) ∈ tb := tb_at 580 (by decide +kernel) rfl
theorem yd_X6_isOfKind : ydn yX6_isOfKind 2 := by decide +kernel
theorem ys_X6_isOfKind : Cond.static yX6_isOfKind ∈ tb := tb_at 579 (by decide +kernel) rfl
theorem is_5_105 : inN RX5 105 yX6_isOfKind "WellLocks" cX6_isOfKind 2 (some .boolean) 2 := ⟨⟨by decide +kernel, ys_X6_isOfKind, yi_X6, yc_X6_isOfKind⟩, yd_X6_isOfKind⟩
theorem g_5_50_22 (C : CX p s m args meth c RX5 cc nL ret d A) (hS : HS d A s.heap H locs (cw q d σ)) (hdg : decode cc pc = .ok (.getfield 50, 3)) (kk : W p l e R s m args below meth c H locs 0 0 Q (F0 m (pc + 3) ls (.int (σ.1 36) :: rest))) : W p l e R s m args below meth c H locs 0 0 Q (F0 m pc ls (.ref (q 22) :: rest)) := gf (j := 6) C hS cw_o22 rfl inX5 (by decide) (tb_at 229 (by decide +kernel) rfl) rfl hdg kk
theorem yc_X5_keyWeight : Cond.code yX5_keyWeight cX5_keyWeight 3 (some .int) ∈ tb := tb_at 577 (by decide +kernel) rfl
theorem yd_X5_keyWeight : ydn yX5_keyWeight 1 := by decide +kernel
theorem yv_X5_keyWeight : Cond.instanceMethod yX5_keyWeight ∈ tb ∧ Cond.selects yX5_keyWeight.cls yX5_keyWeight yX5_keyWeight ∈ tb := ⟨tb_at 575 (by decide +kernel) rfl, tb_at 576 (by decide +kernel) rfl⟩
theorem iv_5_112 : inV RX5 112 yX5_keyWeight cX5_keyWeight 3 (some .int) 1 := ⟨⟨tb_at 574 (by decide +kernel) rfl, yv_X5_keyWeight.1, yv_X5_keyWeight.2, yi_X5, yc_X5_keyWeight⟩, yd_X5_keyWeight⟩
theorem g_5_27_22 (C : CX p s m args meth c RX5 cc nL ret d A) (hS : HS d A s.heap H locs (cw q d σ)) (hdg : decode cc pc = .ok (.getfield 27, 3)) (kk : W p l e R s m args below meth c H locs 0 0 Q (F0 m (pc + 3) ls (.ref (q 29) :: rest))) : W p l e R s m args below meth c H locs 0 0 Q (F0 m pc ls (.ref (q 22) :: rest)) := gf (j := 2) C hS cw_o22 rfl inX5 (by decide) (tb_at 223 (by decide +kernel) rfl) rfl hdg kk
theorem cw_a29 {q : Nat → Nat} {d : CD} {σ : ST} : (cw q d σ)[29]? = some (q 29, .inl (d.2.1, 7, .inl (σ.2.2 29))) := rfl
theorem cw_s29 {q : Nat → Nat} {d : CD} {σ : ST} (f : Nat → Int32) : (cw q d σ).set 29 (q 29, .inl (d.2.1, 7, .inl f)) = cw q d (setA σ 29 f) := rfl
theorem g_5_34_22 (C : CX p s m args meth c RX5 cc nL ret d A) (hS : HS d A s.heap H locs (cw q d σ)) (hdg : decode cc pc = .ok (.getfield 34, 3)) (kk : W p l e R s m args below meth c H locs 0 0 Q (F0 m (pc + 3) ls (.ref (q 31) :: rest))) : W p l e R s m args below meth c H locs 0 0 Q (F0 m pc ls (.ref (q 22) :: rest)) := gf (j := 4) C hS cw_o22 rfl inX5 (by decide) (tb_at 226 (by decide +kernel) rfl) rfl hdg kk
theorem cw_a31 {q : Nat → Nat} {d : CD} {σ : ST} : (cw q d σ)[31]? = some (q 31, .inl (d.2.1, 7, .inl (σ.2.2 31))) := rfl
theorem cw_s31 {q : Nat → Nat} {d : CD} {σ : ST} (f : Nat → Int32) : (cw q d σ).set 31 (q 31, .inl (d.2.1, 7, .inl f)) = cw q d (setA σ 31 f) := rfl
theorem g_5_31_22 (C : CX p s m args meth c RX5 cc nL ret d A) (hS : HS d A s.heap H locs (cw q d σ)) (hdg : decode cc pc = .ok (.getfield 31, 3)) (kk : W p l e R s m args below meth c H locs 0 0 Q (F0 m (pc + 3) ls (.ref (q 30) :: rest))) : W p l e R s m args below meth c H locs 0 0 Q (F0 m pc ls (.ref (q 22) :: rest)) := gf (j := 3) C hS cw_o22 rfl inX5 (by decide) (tb_at 225 (by decide +kernel) rfl) rfl hdg kk
theorem cw_a30 {q : Nat → Nat} {d : CD} {σ : ST} : (cw q d σ)[30]? = some (q 30, .inl (d.2.1, 7, .inl (σ.2.2 30))) := rfl
theorem cw_s30 {q : Nat → Nat} {d : CD} {σ : ST} (f : Nat → Int32) : (cw q d σ).set 30 (q 30, .inl (d.2.1, 7, .inl f)) = cw q d (setA σ 30 f) := rfl
theorem g_5_128_23 (C : CX p s m args meth c RX5 cc nL ret d A) (hS : HS d A s.heap H locs (cw q d σ)) (hdg : decode cc pc = .ok (.getfield 128, 3)) (kk : W p l e R s m args below meth c H locs 0 0 Q (F0 m (pc + 3) ls (.ref (q 25) :: rest))) : W p l e R s m args below meth c H locs 0 0 Q (F0 m pc ls (.ref (q 23) :: rest)) := gfN (host := "WellLocks") (j := 6) C hS cw_o23 rfl inX0 (by decide) (by decide +kernel) rfl hdg kk
theorem cw_a25 {q : Nat → Nat} {d : CD} {σ : ST} : (cw q d σ)[25]? = some (q 25, .inl (d.2.1, 7, .inl (σ.2.2 25))) := rfl
theorem cw_s25 {q : Nat → Nat} {d : CD} {σ : ST} (f : Nat → Int32) : (cw q d σ).set 25 (q 25, .inl (d.2.1, 7, .inl f)) = cw q d (setA σ 25 f) := rfl
theorem yc_X5_factOf : Cond.code yX5_factOf cX5_factOf 3 (some .int) ∈ tb := tb_at 573 (by decide +kernel) rfl
theorem yd_X5_factOf : ydn yX5_factOf 2 := by decide +kernel
theorem yv_X5_factOf : Cond.instanceMethod yX5_factOf ∈ tb ∧ Cond.selects yX5_factOf.cls yX5_factOf yX5_factOf ∈ tb := ⟨tb_at 571 (by decide +kernel) rfl, tb_at 572 (by decide +kernel) rfl⟩
theorem iv_6_147 : inV RX6 147 yX5_factOf cX5_factOf 3 (some .int) 2 := ⟨⟨tb_at 570 (by decide +kernel) rfl, yv_X5_factOf.1, yv_X5_factOf.2, yi_X5, yc_X5_factOf⟩, yd_X5_factOf⟩
theorem g_6_125_22 (C : CX p s m args meth c RX6 cc nL ret d A) (hS : HS d A s.heap H locs (cw q d σ)) (hdg : decode cc pc = .ok (.getfield 125, 3)) (kk : W p l e R s m args below meth c H locs 0 0 Q (F0 m (pc + 3) ls (.ref (q 23) :: rest))) : W p l e R s m args below meth c H locs 0 0 Q (F0 m pc ls (.ref (q 22) :: rest)) := gfN (host := "WellLocks") (j := 0) C hS cw_o22 rfl inX5 (by decide) (by decide +kernel) rfl hdg kk
theorem g_6_150_23 (C : CX p s m args meth c RX6 cc nL ret d A) (hS : HS d A s.heap H locs (cw q d σ)) (hdg : decode cc pc = .ok (.getfield 150, 3)) (kk : W p l e R s m args below meth c H locs 0 0 Q (F0 m (pc + 3) ls (.ref (q 24) :: rest))) : W p l e R s m args below meth c H locs 0 0 Q (F0 m pc ls (.ref (q 23) :: rest)) := gfN (host := "WellLocks") (j := 5) C hS cw_o23 rfl inX0 (by decide) (by decide +kernel) rfl hdg kk
theorem is_6_155 : inS RX6 155 yX6_isOfKind cX6_isOfKind 2 (some .boolean) 2 := ⟨⟨tb_at 585 (by decide +kernel) rfl, ys_X6_isOfKind, yi_X6, yc_X6_isOfKind⟩, yd_X6_isOfKind⟩
theorem yc_X5_keysHeldBy : Cond.code yX5_keysHeldBy cX5_keysHeldBy 4 (some .int) ∈ tb := tb_at 619 (by decide +kernel) rfl
theorem yd_X5_keysHeldBy : ydn yX5_keysHeldBy 1 := by decide +kernel
theorem yv_X5_keysHeldBy : Cond.instanceMethod yX5_keysHeldBy ∈ tb ∧ Cond.selects yX5_keysHeldBy.cls yX5_keysHeldBy yX5_keysHeldBy ∈ tb := ⟨tb_at 618 (by decide +kernel) rfl, tb_at 17 (by decide +kernel) rfl⟩
theorem iv_5_140 : inV RX5 140 yX5_keysHeldBy cX5_keysHeldBy 4 (some .int) 1 := ⟨⟨tb_at 616 (by decide +kernel) rfl, yv_X5_keysHeldBy.1, yv_X5_keysHeldBy.2, yi_X5, yc_X5_keysHeldBy⟩, yd_X5_keysHeldBy⟩
theorem g_0_9_23 (C : CX p s m args meth c RX0 cc nL ret d A) (hS : HS d A s.heap H locs (cw q d σ)) (hdg : decode cc pc = .ok (.getfield 9, 3)) (kk : W p l e R s m args below meth c H locs 0 0 Q (F0 m (pc + 3) ls (.ref (q 24) :: rest))) : W p l e R s m args below meth c H locs 0 0 Q (F0 m pc ls (.ref (q 23) :: rest)) := gf (j := 5) C hS cw_o23 rfl inX0 (by decide) (tb_at 154 (by decide +kernel) rfl) rfl hdg kk
theorem g_0_15_23 (C : CX p s m args meth c RX0 cc nL ret d A) (hS : HS d A s.heap H locs (cw q d σ)) (hdg : decode cc pc = .ok (.getfield 15, 3)) (kk : W p l e R s m args below meth c H locs 0 0 Q (F0 m (pc + 3) ls (.ref (q 25) :: rest))) : W p l e R s m args below meth c H locs 0 0 Q (F0 m pc ls (.ref (q 23) :: rest)) := gf (j := 6) C hS cw_o23 rfl inX0 (by decide) (tb_at 157 (by decide +kernel) rfl) rfl hdg kk
theorem yc_X0_wants : Cond.code yX0_wants cX0_wants 2 (some .int) ∈ tb := tb_at 550 (by decide +kernel) rfl
theorem yd_X0_wants : ydn yX0_wants 1 := by decide +kernel
theorem yv_X0_wants : Cond.instanceMethod yX0_wants ∈ tb ∧ Cond.selects yX0_wants.cls yX0_wants yX0_wants ∈ tb := ⟨tb_at 548 (by decide +kernel) rfl, tb_at 549 (by decide +kernel) rfl⟩
theorem iv_5_137 : inV RX5 137 yX0_wants cX0_wants 2 (some .int) 1 := ⟨⟨tb_at 547 (by decide +kernel) rfl, yv_X0_wants.1, yv_X0_wants.2, yi_X0, yc_X0_wants⟩, yd_X0_wants⟩
theorem is_5_109 : inN RX5 109 yX6_isIn "WellLocks" cX6_isIn 2 (some .boolean) 2 := ⟨⟨by decide +kernel, ys_X6_isIn, yi_X6, yc_X6_isIn⟩, yd_X6_isIn⟩
theorem yc_X5_weightOf : Cond.code yX5_weightOf cX5_weightOf 5 (some .int) ∈ tb := tb_at 605 (by decide +kernel) rfl
theorem yd_X5_weightOf : ydn yX5_weightOf 1 := by decide +kernel
theorem yv_X5_weightOf : Cond.instanceMethod yX5_weightOf ∈ tb ∧ Cond.selects yX5_weightOf.cls yX5_weightOf yX5_weightOf ∈ tb := ⟨tb_at 603 (by decide +kernel) rfl, tb_at 604 (by decide +kernel) rfl⟩
theorem iv_5_118 : inV RX5 118 yX5_weightOf cX5_weightOf 5 (some .int) 1 := ⟨⟨tb_at 602 (by decide +kernel) rfl, yv_X5_weightOf.1, yv_X5_weightOf.2, yi_X5, yc_X5_weightOf⟩, yd_X5_weightOf⟩
theorem g_5_121_23 (C : CX p s m args meth c RX5 cc nL ret d A) (hS : HS d A s.heap H locs (cw q d σ)) (hdg : decode cc pc = .ok (.getfield 121, 3)) (kk : W p l e R s m args below meth c H locs 0 0 Q (F0 m (pc + 3) ls (.int (σ.1 30) :: rest))) : W p l e R s m args below meth c H locs 0 0 Q (F0 m pc ls (.ref (q 23) :: rest)) := gfN (host := "WellLocks") (j := 0) C hS cw_o23 rfl inX0 (by decide) (by decide +kernel) rfl hdg kk
theorem g_0_31_23 (C : CX p s m args meth c RX0 cc nL ret d A) (hS : HS d A s.heap H locs (cw q d σ)) (hdg : decode cc pc = .ok (.getfield 31, 3)) (kk : W p l e R s m args below meth c H locs 0 0 Q (F0 m (pc + 3) ls (.int (σ.1 33) :: rest))) : W p l e R s m args below meth c H locs 0 0 Q (F0 m pc ls (.ref (q 23) :: rest)) := gf (j := 3) C hS cw_o23 rfl inX0 (by decide) (tb_at 148 (by decide +kernel) rfl) rfl hdg kk
theorem is_0_43 : inN RX0 43 yX6_isIn "WellLocks" cX6_isIn 2 (some .boolean) 2 := ⟨⟨by decide +kernel, ys_X6_isIn, yi_X6, yc_X6_isIn⟩, yd_X6_isIn⟩
theorem g_0_18_23 (C : CX p s m args meth c RX0 cc nL ret d A) (hS : HS d A s.heap H locs (cw q d σ)) (hdg : decode cc pc = .ok (.getfield 18, 3)) (kk : W p l e R s m args below meth c H locs 0 0 Q (F0 m (pc + 3) ls (.ref (q 26) :: rest))) : W p l e R s m args below meth c H locs 0 0 Q (F0 m pc ls (.ref (q 23) :: rest)) := gf (j := 7) C hS cw_o23 rfl inX0 (by decide) (tb_at 159 (by decide +kernel) rfl) rfl hdg kk
theorem yc_X0_isPeaceful : Cond.code yX0_isPeaceful cX0_isPeaceful 3 (some .boolean) ∈ tb := tb_at 614 (by decide +kernel) rfl
theorem yd_X0_isPeaceful : ydn yX0_isPeaceful 1 := by decide +kernel
theorem yv_X0_isPeaceful : Cond.instanceMethod yX0_isPeaceful ∈ tb ∧ Cond.selects yX0_isPeaceful.cls yX0_isPeaceful yX0_isPeaceful ∈ tb := ⟨tb_at 612 (by decide +kernel) rfl, tb_at 613 (by decide +kernel) rfl⟩
theorem iv_5_115 : inV RX5 115 yX0_isPeaceful cX0_isPeaceful 3 (some .boolean) 1 := ⟨⟨tb_at 611 (by decide +kernel) rfl, yv_X0_isPeaceful.1, yv_X0_isPeaceful.2, yi_X0, yc_X0_isPeaceful⟩, yd_X0_isPeaceful⟩
theorem yc_X5_wouldOpen : Cond.code yX5_wouldOpen cX5_wouldOpen 4 (some .boolean) ∈ tb := tb_at 610 (by decide +kernel) rfl
theorem yd_X5_wouldOpen : ydn yX5_wouldOpen 3 := by decide +kernel
theorem yv_X5_wouldOpen : Cond.instanceMethod yX5_wouldOpen ∈ tb ∧ Cond.selects yX5_wouldOpen.cls yX5_wouldOpen yX5_wouldOpen ∈ tb := ⟨tb_at 608 (by decide +kernel) rfl, tb_at 609 (by decide +kernel) rfl⟩
theorem iv_5_124 : inV RX5 124 yX5_wouldOpen cX5_wouldOpen 4 (some .boolean) 3 := ⟨⟨tb_at 607 (by decide +kernel) rfl, yv_X5_wouldOpen.1, yv_X5_wouldOpen.2, yi_X5, yc_X5_wouldOpen⟩, yd_X5_wouldOpen⟩
theorem yc_X5_isOpenTo : Cond.code yX5_isOpenTo cX5_isOpenTo 2 (some .boolean) ∈ tb := tb_at 601 (by decide +kernel) rfl
theorem yd_X5_isOpenTo : ydn yX5_isOpenTo 1 := by decide +kernel
theorem yv_X5_isOpenTo : Cond.instanceMethod yX5_isOpenTo ∈ tb ∧ Cond.selects yX5_isOpenTo.cls yX5_isOpenTo yX5_isOpenTo ∈ tb := ⟨tb_at 599 (by decide +kernel) rfl, tb_at 600 (by decide +kernel) rfl⟩
theorem iv_5_143 : inV RX5 143 yX5_isOpenTo cX5_isOpenTo 2 (some .boolean) 1 := ⟨⟨tb_at 598 (by decide +kernel) rfl, yv_X5_isOpenTo.1, yv_X5_isOpenTo.2, yi_X5, yc_X5_isOpenTo⟩, yd_X5_isOpenTo⟩
theorem yc_X5_sets : Cond.code yX5_sets cX5_sets 1 (some .int) ∈ tb := tb_at 597 (by decide +kernel) rfl
theorem yd_X5_sets : ydn yX5_sets 0 := by decide +kernel
theorem yv_X5_sets : Cond.instanceMethod yX5_sets ∈ tb ∧ Cond.selects yX5_sets.cls yX5_sets yX5_sets ∈ tb := ⟨tb_at 595 (by decide +kernel) rfl, tb_at 596 (by decide +kernel) rfl⟩
theorem iv_5_98 : inV RX5 98 yX5_sets cX5_sets 1 (some .int) 0 := ⟨⟨tb_at 594 (by decide +kernel) rfl, yv_X5_sets.1, yv_X5_sets.2, yi_X5, yc_X5_sets⟩, yd_X5_sets⟩
theorem yc_X5_othersNeededByAll : Cond.code yX5_othersNeededByAll cX5_othersNeededByAll 5 (some .int) ∈ tb := tb_at 593 (by decide +kernel) rfl
theorem yd_X5_othersNeededByAll : ydn yX5_othersNeededByAll 1 := by decide +kernel
theorem yv_X5_othersNeededByAll : Cond.instanceMethod yX5_othersNeededByAll ∈ tb ∧ Cond.selects yX5_othersNeededByAll.cls yX5_othersNeededByAll yX5_othersNeededByAll ∈ tb := ⟨tb_at 592 (by decide +kernel) rfl, tb_at 16 (by decide +kernel) rfl⟩
theorem iv_5_134 : inV RX5 134 yX5_othersNeededByAll cX5_othersNeededByAll 5 (some .int) 1 := ⟨⟨tb_at 590 (by decide +kernel) rfl, yv_X5_othersNeededByAll.1, yv_X5_othersNeededByAll.2, yi_X5, yc_X5_othersNeededByAll⟩, yd_X5_othersNeededByAll⟩
theorem yc_X5_markOf : Cond.code yX5_markOf cX5_markOf 3 (some .int) ∈ tb := tb_at 589 (by decide +kernel) rfl
theorem yd_X5_markOf : ydn yX5_markOf 2 := by decide +kernel
theorem yv_X5_markOf : Cond.instanceMethod yX5_markOf ∈ tb ∧ Cond.selects yX5_markOf.cls yX5_markOf yX5_markOf ∈ tb := ⟨tb_at 587 (by decide +kernel) rfl, tb_at 588 (by decide +kernel) rfl⟩
theorem iv_6_159 : inV RX6 159 yX5_markOf cX5_markOf 3 (some .int) 2 := ⟨⟨tb_at 586 (by decide +kernel) rfl, yv_X5_markOf.1, yv_X5_markOf.2, yi_X5, yc_X5_markOf⟩, yd_X5_markOf⟩
theorem yc_X5_houses : Cond.code yX5_houses cX5_houses 1 (some .int) ∈ tb := tb_at 564 (by decide +kernel) rfl
theorem yd_X5_houses : ydn yX5_houses 0 := by decide +kernel
theorem yv_X5_houses : Cond.instanceMethod yX5_houses ∈ tb ∧ Cond.selects yX5_houses.cls yX5_houses yX5_houses ∈ tb := ⟨tb_at 562 (by decide +kernel) rfl, tb_at 563 (by decide +kernel) rfl⟩
theorem iv_6_140 : inV RX6 140 yX5_houses cX5_houses 1 (some .int) 0 := ⟨⟨tb_at 561 (by decide +kernel) rfl, yv_X5_houses.1, yv_X5_houses.2, yi_X5, yc_X5_houses⟩, yd_X5_houses⟩
theorem is_6_337 : inS RX6 337 yX6_isIn cX6_isIn 2 (some .boolean) 2 := ⟨⟨tb_at 628 (by decide +kernel) rfl, ys_X6_isIn, yi_X6, yc_X6_isIn⟩, yd_X6_isIn⟩
theorem yc_X6_setInRow : Cond.code yX6_setInRow cX6_setInRow 5 (some .int) ∈ tb := tb_at 627 (by decide +kernel) rfl
theorem yd_X6_setInRow : ydn yX6_setInRow 1 := by decide +kernel
theorem yv_X6_setInRow : Cond.instanceMethod yX6_setInRow ∈ tb ∧ Cond.selects yX6_setInRow.cls yX6_setInRow yX6_setInRow ∈ tb := ⟨tb_at 626 (by decide +kernel) rfl, tb_at 18 (by decide +kernel) rfl⟩
theorem iv_6_162 : inV RX6 162 yX6_setInRow cX6_setInRow 5 (some .int) 1 := ⟨⟨tb_at 624 (by decide +kernel) rfl, yv_X6_setInRow.1, yv_X6_setInRow.2, yi_X6, yc_X6_setInRow⟩, yd_X6_setInRow⟩
theorem iv_6_165 : inV RX6 165 yX5_isOpenTo cX5_isOpenTo 2 (some .boolean) 1 := ⟨⟨tb_at 629 (by decide +kernel) rfl, yv_X5_isOpenTo.1, yv_X5_isOpenTo.2, yi_X5, yc_X5_isOpenTo⟩, yd_X5_isOpenTo⟩
theorem g_6_168_22 (C : CX p s m args meth c RX6 cc nL ret d A) (hS : HS d A s.heap H locs (cw q d σ)) (hdg : decode cc pc = .ok (.getfield 168, 3)) (kk : W p l e R s m args below meth c H locs 0 0 Q (F0 m (pc + 3) ls (.ref (q 27) :: rest))) : W p l e R s m args below meth c H locs 0 0 Q (F0 m pc ls (.ref (q 22) :: rest)) := gfN (host := "WellLocks") (j := 1) C hS cw_o22 rfl inX5 (by decide) (by decide +kernel) rfl hdg kk
theorem inX1 : ∀ x ∈ u_ws RX1 TX1 2, x ∈ tb := fun x h => by
  have e : u_ws RX1 TX1 2 = [214, 216].filterMap (fun i => lw_tbl[i]?) := by decide +kernel
  rw [e] at h
  obtain ⟨i, -, hi⟩ := List.mem_filterMap.mp h
  refine List.mem_filter.mpr ⟨List.mem_of_getElem? hi, ?_⟩
  have g : (u_ws RX1 TX1 2).all goodWord = true := by decide +kernel
  rw [e] at g
  exact List.all_eq_true.mp g x h
theorem cw_o27 {q : Nat → Nat} {d : CD} {σ : ST} : (cw q d σ)[27]? = some (q 27, .inr (1, [.ref (q 28), .int (σ.1 37)])) := rfl
theorem g_1_15_27 (C : CX p s m args meth c RX1 cc nL ret d A) (hS : HS d A s.heap H locs (cw q d σ)) (hdg : decode cc pc = .ok (.getfield 15, 3)) (kk : W p l e R s m args below meth c H locs 0 0 Q (F0 m (pc + 3) ls (.int (σ.1 37) :: rest))) : W p l e R s m args below meth c H locs 0 0 Q (F0 m pc ls (.ref (q 27) :: rest)) := gf (j := 1) C hS cw_o27 rfl inX1 (by decide) (tb_at 211 (by decide +kernel) rfl) rfl hdg kk
theorem yc_X1_isFull : Cond.code yX1_isFull cX1_isFull 2 (some .boolean) ∈ tb := tb_at 633 (by decide +kernel) rfl
theorem yd_X1_isFull : ydn yX1_isFull 1 := by decide +kernel
theorem yi_X1 : Cond.initialized "WellLocks$Deeds" ∈ tb := tb_at 85 (by decide +kernel) rfl
theorem yv_X1_isFull : Cond.instanceMethod yX1_isFull ∈ tb ∧ Cond.selects yX1_isFull.cls yX1_isFull yX1_isFull ∈ tb := ⟨tb_at 631 (by decide +kernel) rfl, tb_at 632 (by decide +kernel) rfl⟩
theorem iv_6_172 : inV RX6 172 yX1_isFull cX1_isFull 2 (some .boolean) 1 := ⟨⟨tb_at 630 (by decide +kernel) rfl, yv_X1_isFull.1, yv_X1_isFull.2, yi_X1, yc_X1_isFull⟩, yd_X1_isFull⟩
theorem yc_X6_joinMeeting : Cond.code yX6_joinMeeting cX6_joinMeeting 3 (some .int) ∈ tb := tb_at 640 (by decide +kernel) rfl
theorem yd_X6_joinMeeting : ydn yX6_joinMeeting 2 := by decide +kernel
theorem ys_X6_joinMeeting : Cond.static yX6_joinMeeting ∈ tb := tb_at 639 (by decide +kernel) rfl
theorem is_6_340 : inS RX6 340 yX6_joinMeeting cX6_joinMeeting 3 (some .int) 2 := ⟨⟨tb_at 638 (by decide +kernel) rfl, ys_X6_joinMeeting, yi_X6, yc_X6_joinMeeting⟩, yd_X6_joinMeeting⟩
theorem yc_X6_meetingInRow : Cond.code yX6_meetingInRow cX6_meetingInRow 4 (some .int) ∈ tb := tb_at 637 (by decide +kernel) rfl
theorem yd_X6_meetingInRow : ydn yX6_meetingInRow 1 := by decide +kernel
theorem yv_X6_meetingInRow : Cond.instanceMethod yX6_meetingInRow ∈ tb ∧ Cond.selects yX6_meetingInRow.cls yX6_meetingInRow yX6_meetingInRow ∈ tb := ⟨tb_at 636 (by decide +kernel) rfl, tb_at 19 (by decide +kernel) rfl⟩
theorem iv_6_175 : inV RX6 175 yX6_meetingInRow cX6_meetingInRow 4 (some .int) 1 := ⟨⟨tb_at 634 (by decide +kernel) rfl, yv_X6_meetingInRow.1, yv_X6_meetingInRow.2, yi_X6, yc_X6_meetingInRow⟩, yd_X6_meetingInRow⟩
theorem g_5_23_22 (C : CX p s m args meth c RX5 cc nL ret d A) (hS : HS d A s.heap H locs (cw q d σ)) (hdg : decode cc pc = .ok (.getfield 23, 3)) (kk : W p l e R s m args below meth c H locs 0 0 Q (F0 m (pc + 3) ls (.ref (q 27) :: rest))) : W p l e R s m args below meth c H locs 0 0 Q (F0 m pc ls (.ref (q 22) :: rest)) := gf (j := 1) C hS cw_o22 rfl inX5 (by decide) (tb_at 221 (by decide +kernel) rfl) rfl hdg kk
theorem g_1_9_27 (C : CX p s m args meth c RX1 cc nL ret d A) (hS : HS d A s.heap H locs (cw q d σ)) (hdg : decode cc pc = .ok (.getfield 9, 3)) (kk : W p l e R s m args below meth c H locs 0 0 Q (F0 m (pc + 3) ls (.ref (q 28) :: rest))) : W p l e R s m args below meth c H locs 0 0 Q (F0 m pc ls (.ref (q 27) :: rest)) := gf (j := 0) C hS cw_o27 rfl inX1 (by decide) (tb_at 209 (by decide +kernel) rfl) rfl hdg kk
theorem cw_a28 {q : Nat → Nat} {d : CD} {σ : ST} : (cw q d σ)[28]? = some (q 28, .inl (d.2.1, 40, .inl (σ.2.2 28))) := rfl
theorem cw_s28 {q : Nat → Nat} {d : CD} {σ : ST} (f : Nat → Int32) : (cw q d σ).set 28 (q 28, .inl (d.2.1, 40, .inl f)) = cw q d (setA σ 28 f) := rfl
theorem p_1_15_27 {x : Int32} (C : CX p s m args meth c RX1 cc nL ret d A) (hS : HS d A s.heap H locs (cw q d σ)) (e1 : some (setI σ 37 x) = some σ1) (hdg : decode cc pc = .ok (.putfield 15, 3)) (kk : ∀ (H1 : Heap) (locs1 : List Loc), HS d A s.heap H1 locs1 (cw q d σ1) → W p l e R s m args below meth c H1 locs1 0 0 Q (F0 m (pc + 3) ls rest)) : W p l e R s m args below meth c H locs 0 0 Q (F0 m pc ls (.int x :: .ref (q 27) :: rest)) := by
  cases e1
  exact pf (j := 1) (ty := .int) tyX1 tyX1_ok nmX1 C hS cw_o27 rfl inX1 (by decide) (tb_at 211 (by decide +kernel) rfl) rfl (by decide +kernel) rfl rfl (Nat.le_of_ble_eq_true rfl) rfl hdg kk
theorem yc_X1_add : Cond.code yX1_add cX1_add 2 (none) ∈ tb := tb_at 648 (by decide +kernel) rfl
theorem yd_X1_add : ydn yX1_add 1 := by decide +kernel
theorem yv_X1_add : Cond.instanceMethod yX1_add ∈ tb ∧ Cond.selects yX1_add.cls yX1_add yX1_add ∈ tb := ⟨tb_at 646 (by decide +kernel) rfl, tb_at 647 (by decide +kernel) rfl⟩
theorem iv_5_60 : inV RX5 60 yX1_add cX1_add 2 (none) 1 := ⟨⟨tb_at 645 (by decide +kernel) rfl, yv_X1_add.1, yv_X1_add.2, yi_X1, yc_X1_add⟩, yd_X1_add⟩
theorem p_5_50_22 {x : Int32} (C : CX p s m args meth c RX5 cc nL ret d A) (hS : HS d A s.heap H locs (cw q d σ)) (e1 : some (setI σ 36 x) = some σ1) (hdg : decode cc pc = .ok (.putfield 50, 3)) (kk : ∀ (H1 : Heap) (locs1 : List Loc), HS d A s.heap H1 locs1 (cw q d σ1) → W p l e R s m args below meth c H1 locs1 0 0 Q (F0 m (pc + 3) ls rest)) : W p l e R s m args below meth c H locs 0 0 Q (F0 m pc ls (.int x :: .ref (q 22) :: rest)) := by
  cases e1
  exact pf (j := 6) (ty := .int) tyX5 tyX5_ok nmX5 C hS cw_o22 rfl inX5 (by decide) (tb_at 229 (by decide +kernel) rfl) rfl (by decide +kernel) rfl rfl (Nat.le_of_ble_eq_true rfl) rfl hdg kk
theorem g_5_47_22 (C : CX p s m args meth c RX5 cc nL ret d A) (hS : HS d A s.heap H locs (cw q d σ)) (hdg : decode cc pc = .ok (.getfield 47, 3)) (kk : W p l e R s m args below meth c H locs 0 0 Q (F0 m (pc + 3) ls (.int (σ.1 35) :: rest))) : W p l e R s m args below meth c H locs 0 0 Q (F0 m pc ls (.ref (q 22) :: rest)) := gf (j := 5) C hS cw_o22 rfl inX5 (by decide) (tb_at 227 (by decide +kernel) rfl) rfl hdg kk
theorem g_5_86_23 (C : CX p s m args meth c RX5 cc nL ret d A) (hS : HS d A s.heap H locs (cw q d σ)) (hdg : decode cc pc = .ok (.getfield 86, 3)) (kk : W p l e R s m args below meth c H locs 0 0 Q (F0 m (pc + 3) ls (.int (σ.1 32) :: rest))) : W p l e R s m args below meth c H locs 0 0 Q (F0 m pc ls (.ref (q 23) :: rest)) := gfN (host := "WellLocks") (j := 2) C hS cw_o23 rfl inX0 (by decide) (by decide +kernel) rfl hdg kk
theorem mm_X5_80 : Cond.methodLink RX5 80 Lib.Math.min.name ∈ tb ∧ Cond.static Lib.Math.min.name ∈ tb ∧ Cond.initialized "java/lang/Math" ∈ tb ∧ Cond.code Lib.Math.min.name Lib.Math.min.code 2 (some .int) ∈ tb := ⟨tb_at 551 (by decide +kernel) rfl, tb_at 417 (by decide +kernel) rfl, tb_at 89 (by decide +kernel) rfl, tb_at 418 (by decide +kernel) rfl⟩
theorem p_5_47_22 {x : Int32} (C : CX p s m args meth c RX5 cc nL ret d A) (hS : HS d A s.heap H locs (cw q d σ)) (e1 : some (setI σ 35 x) = some σ1) (hdg : decode cc pc = .ok (.putfield 47, 3)) (kk : ∀ (H1 : Heap) (locs1 : List Loc), HS d A s.heap H1 locs1 (cw q d σ1) → W p l e R s m args below meth c H1 locs1 0 0 Q (F0 m (pc + 3) ls rest)) : W p l e R s m args below meth c H locs 0 0 Q (F0 m pc ls (.int x :: .ref (q 22) :: rest)) := by
  cases e1
  exact pf (j := 5) (ty := .int) tyX5 tyX5_ok nmX5 C hS cw_o22 rfl inX5 (by decide) (tb_at 227 (by decide +kernel) rfl) rfl (by decide +kernel) rfl rfl (Nat.le_of_ble_eq_true rfl) rfl hdg kk
theorem is_5_89 : inS RX5 89 yJ7_fill_53178 cJ7_fill_53178 4 (none) 2 := ⟨⟨tb_at 560 (by decide +kernel) rfl, ys_J7_fill_53178, yi_J7, yc_J7_fill_53178⟩, yd_J7_fill_53178⟩
theorem yc_X5_passDay : Cond.code yX5_passDay cX5_passDay 1 (none) ∈ tb := tb_at 559 (by decide +kernel) rfl
theorem yd_X5_passDay : ydn yX5_passDay 0 := by decide +kernel
theorem yv_X5_passDay : Cond.instanceMethod yX5_passDay ∈ tb ∧ Cond.selects yX5_passDay.cls yX5_passDay yX5_passDay ∈ tb := ⟨tb_at 558 (by decide +kernel) rfl, tb_at 15 (by decide +kernel) rfl⟩
theorem iv_5_70 : inV RX5 70 yX5_passDay cX5_passDay 1 (none) 0 := ⟨⟨tb_at 556 (by decide +kernel) rfl, yv_X5_passDay.1, yv_X5_passDay.2, yi_X5, yc_X5_passDay⟩, yd_X5_passDay⟩
theorem iv_5_73 : inV RX5 73 yX5_isHouse cX5_isHouse 2 (some .boolean) 1 := ⟨⟨tb_at 539 (by decide +kernel) rfl, yv_X5_isHouse.1, yv_X5_isHouse.2, yi_X5, yc_X5_isHouse⟩, yd_X5_isHouse⟩
theorem yc_X5_giveKey : Cond.code yX5_giveKey cX5_giveKey 3 (none) ∈ tb := tb_at 555 (by decide +kernel) rfl
theorem yd_X5_giveKey : ydn yX5_giveKey 2 := by decide +kernel
theorem yv_X5_giveKey : Cond.instanceMethod yX5_giveKey ∈ tb ∧ Cond.selects yX5_giveKey.cls yX5_giveKey yX5_giveKey ∈ tb := ⟨tb_at 554 (by decide +kernel) rfl, tb_at 14 (by decide +kernel) rfl⟩
theorem iv_5_66 : inV RX5 66 yX5_giveKey cX5_giveKey 3 (none) 2 := ⟨⟨tb_at 552 (by decide +kernel) rfl, yv_X5_giveKey.1, yv_X5_giveKey.2, yi_X5, yc_X5_giveKey⟩, yd_X5_giveKey⟩
theorem yc_X5_wantsYet : Cond.code yX5_wantsYet cX5_wantsYet 2 (some .int) ∈ tb := tb_at 546 (by decide +kernel) rfl
theorem yd_X5_wantsYet : ydn yX5_wantsYet 1 := by decide +kernel
theorem yv_X5_wantsYet : Cond.instanceMethod yX5_wantsYet ∈ tb ∧ Cond.selects yX5_wantsYet.cls yX5_wantsYet yX5_wantsYet ∈ tb := ⟨tb_at 544 (by decide +kernel) rfl, tb_at 545 (by decide +kernel) rfl⟩
theorem iv_5_77 : inV RX5 77 yX5_wantsYet cX5_wantsYet 2 (some .int) 1 := ⟨⟨tb_at 543 (by decide +kernel) rfl, yv_X5_wantsYet.1, yv_X5_wantsYet.2, yi_X5, yc_X5_wantsYet⟩, yd_X5_wantsYet⟩
theorem yc_X5_drawInTurn : Cond.code yX5_drawInTurn cX5_drawInTurn 7 (some .int) ∈ tb := tb_at 538 (by decide +kernel) rfl
theorem yd_X5_drawInTurn : ydn yX5_drawInTurn 1 := by decide +kernel
theorem yv_X5_drawInTurn : Cond.instanceMethod yX5_drawInTurn ∈ tb ∧ Cond.selects yX5_drawInTurn.cls yX5_drawInTurn yX5_drawInTurn ∈ tb := ⟨tb_at 537 (by decide +kernel) rfl, tb_at 13 (by decide +kernel) rfl⟩
theorem iv_5_63 : inV RX5 63 yX5_drawInTurn cX5_drawInTurn 7 (some .int) 1 := ⟨⟨tb_at 535 (by decide +kernel) rfl, yv_X5_drawInTurn.1, yv_X5_drawInTurn.2, yi_X5, yc_X5_drawInTurn⟩, yd_X5_drawInTurn⟩
theorem yc_X5_apply : Cond.code yX5_apply cX5_apply 2 (some .int) ∈ tb := tb_at 534 (by decide +kernel) rfl
theorem yd_X5_apply : ydn yX5_apply 1 := by decide +kernel
theorem yv_X5_apply : Cond.instanceMethod yX5_apply ∈ tb ∧ Cond.selects yX5_apply.cls yX5_apply yX5_apply ∈ tb := ⟨tb_at 533 (by decide +kernel) rfl, tb_at 12 (by decide +kernel) rfl⟩
theorem iv_5_56 : inV RX5 56 yX5_apply cX5_apply 2 (some .int) 1 := ⟨⟨tb_at 531 (by decide +kernel) rfl, yv_X5_apply.1, yv_X5_apply.2, yi_X5, yc_X5_apply⟩, yd_X5_apply⟩
theorem yc_X5_perform : Cond.code yX5_perform cX5_perform 2 (some .int) ∈ tb := tb_at 644 (by decide +kernel) rfl
theorem yd_X5_perform : ydn yX5_perform 1 := by decide +kernel
theorem yv_X5_perform : Cond.instanceMethod yX5_perform ∈ tb ∧ Cond.selects yX5_perform.cls yX5_perform yX5_perform ∈ tb := ⟨tb_at 642 (by decide +kernel) rfl, tb_at 643 (by decide +kernel) rfl⟩
theorem iv_6_178 : inV RX6 178 yX5_perform cX5_perform 2 (some .int) 1 := ⟨⟨tb_at 641 (by decide +kernel) rfl, yv_X5_perform.1, yv_X5_perform.2, yi_X5, yc_X5_perform⟩, yd_X5_perform⟩
theorem g_6_181_22 (C : CX p s m args meth c RX6 cc nL ret d A) (hS : HS d A s.heap H locs (cw q d σ)) (hdg : decode cc pc = .ok (.getfield 181, 3)) (kk : W p l e R s m args below meth c H locs 0 0 Q (F0 m (pc + 3) ls (.ref (q 29) :: rest))) : W p l e R s m args below meth c H locs 0 0 Q (F0 m pc ls (.ref (q 22) :: rest)) := gfN (host := "WellLocks") (j := 2) C hS cw_o22 rfl inX5 (by decide) (by decide +kernel) rfl hdg kk
theorem yc_X6_pledgeDeed : Cond.code yX6_pledgeDeed cX6_pledgeDeed 2 (some .int) ∈ tb := tb_at 655 (by decide +kernel) rfl
theorem yd_X6_pledgeDeed : ydn yX6_pledgeDeed 2 := by decide +kernel
theorem ys_X6_pledgeDeed : Cond.static yX6_pledgeDeed ∈ tb := tb_at 654 (by decide +kernel) rfl
theorem is_6_184 : inS RX6 184 yX6_pledgeDeed cX6_pledgeDeed 2 (some .int) 2 := ⟨⟨tb_at 653 (by decide +kernel) rfl, ys_X6_pledgeDeed, yi_X6, yc_X6_pledgeDeed⟩, yd_X6_pledgeDeed⟩
theorem g_6_187_22 (C : CX p s m args meth c RX6 cc nL ret d A) (hS : HS d A s.heap H locs (cw q d σ)) (hdg : decode cc pc = .ok (.getfield 187, 3)) (kk : W p l e R s m args below meth c H locs 0 0 Q (F0 m (pc + 3) ls (.int (σ.1 35) :: rest))) : W p l e R s m args below meth c H locs 0 0 Q (F0 m pc ls (.ref (q 22) :: rest)) := gfN (host := "WellLocks") (j := 5) C hS cw_o22 rfl inX5 (by decide) (by decide +kernel) rfl hdg kk
theorem g_6_137_27 (C : CX p s m args meth c RX6 cc nL ret d A) (hS : HS d A s.heap H locs (cw q d σ)) (hdg : decode cc pc = .ok (.getfield 137, 3)) (kk : W p l e R s m args below meth c H locs 0 0 Q (F0 m (pc + 3) ls (.int (σ.1 37) :: rest))) : W p l e R s m args below meth c H locs 0 0 Q (F0 m pc ls (.ref (q 27) :: rest)) := gfN (host := "WellLocks") (j := 1) C hS cw_o27 rfl inX1 (by decide) (by decide +kernel) rfl hdg kk
theorem p_6_137_27 {x : Int32} (C : CX p s m args meth c RX6 cc nL ret d A) (hS : HS d A s.heap H locs (cw q d σ)) (e1 : some (setI σ 37 x) = some σ1) (hdg : decode cc pc = .ok (.putfield 137, 3)) (kk : ∀ (H1 : Heap) (locs1 : List Loc), HS d A s.heap H1 locs1 (cw q d σ1) → W p l e R s m args below meth c H1 locs1 0 0 Q (F0 m (pc + 3) ls rest)) : W p l e R s m args below meth c H locs 0 0 Q (F0 m pc ls (.int x :: .ref (q 27) :: rest)) := by
  cases e1
  exact pfN (host := "WellLocks") (j := 1) (ty := .int) tyX1 tyX1_ok nmX1 C hS cw_o27 rfl inX1 (by decide) (by decide +kernel) rfl (by decide +kernel) rfl rfl (Nat.le_of_ble_eq_true rfl) rfl hdg kk
theorem g_5_37_27 (C : CX p s m args meth c RX5 cc nL ret d A) (hS : HS d A s.heap H locs (cw q d σ)) (hdg : decode cc pc = .ok (.getfield 37, 3)) (kk : W p l e R s m args below meth c H locs 0 0 Q (F0 m (pc + 3) ls (.int (σ.1 37) :: rest))) : W p l e R s m args below meth c H locs 0 0 Q (F0 m pc ls (.ref (q 27) :: rest)) := gfN (host := "WellLocks") (j := 1) C hS cw_o27 rfl inX1 (by decide) (by decide +kernel) rfl hdg kk
theorem g_5_53_27 (C : CX p s m args meth c RX5 cc nL ret d A) (hS : HS d A s.heap H locs (cw q d σ)) (hdg : decode cc pc = .ok (.getfield 53, 3)) (kk : W p l e R s m args below meth c H locs 0 0 Q (F0 m (pc + 3) ls (.ref (q 28) :: rest))) : W p l e R s m args below meth c H locs 0 0 Q (F0 m pc ls (.ref (q 27) :: rest)) := gfN (host := "WellLocks") (j := 0) C hS cw_o27 rfl inX1 (by decide) (by decide +kernel) rfl hdg kk
theorem g_5_44_23 (C : CX p s m args meth c RX5 cc nL ret d A) (hS : HS d A s.heap H locs (cw q d σ)) (hdg : decode cc pc = .ok (.getfield 44, 3)) (kk : W p l e R s m args below meth c H locs 0 0 Q (F0 m (pc + 3) ls (.int (σ.1 31) :: rest))) : W p l e R s m args below meth c H locs 0 0 Q (F0 m pc ls (.ref (q 23) :: rest)) := gfN (host := "WellLocks") (j := 1) C hS cw_o23 rfl inX0 (by decide) (by decide +kernel) rfl hdg kk
theorem yc_X5_replay : Cond.code yX5_replay cX5_replay 2 (none) ∈ tb := tb_at 530 (by decide +kernel) rfl
theorem yd_X5_replay : ydn yX5_replay 0 := by decide +kernel
theorem yv_X5_replay : Cond.instanceMethod yX5_replay ∈ tb ∧ Cond.selects yX5_replay.cls yX5_replay yX5_replay ∈ tb := ⟨tb_at 528 (by decide +kernel) rfl, tb_at 529 (by decide +kernel) rfl⟩
theorem iv_6_190 : inV RX6 190 yX5_replay cX5_replay 2 (none) 0 := ⟨⟨tb_at 664 (by decide +kernel) rfl, yv_X5_replay.1, yv_X5_replay.2, yi_X5, yc_X5_replay⟩, yd_X5_replay⟩
theorem g_6_48_0 (C : CX p s m args meth c RX6 cc nL ret d A) (hS : HS d A s.heap H locs (cw q d σ)) (hdg : decode cc pc = .ok (.getfield 48, 3)) (kk : W p l e R s m args below meth c H locs 0 0 Q (F0 m (pc + 3) ls (.ref (q 35) :: rest))) : W p l e R s m args below meth c H locs 0 0 Q (F0 m pc ls (.ref (q 0) :: rest)) := gf (j := 5) C hS cw_o0 rfl inX6 (by decide) (tb_at 274 (by decide +kernel) rfl) rfl hdg kk
theorem cw_r35 {q : Nat → Nat} {d : CD} {σ : ST} : (cw q d σ)[35]? = some (q 35, .inl (d.2.2.2.1, 3, .inr (.inr (.inr (.inr (fun j => if j < 3 then some (q (36 + j)) else none)))))) := rfl
theorem cw_of36 {q : Nat → Nat} {d : CD} {σ : ST} {j : Nat} (h : j < 3) : (cw q d σ)[36 + j]? = some (q (36 + j), .inr (1, [.ref (q (39 + j)), .int (σ.1 (40 + j))])) := by
  match j, h with
  | 0, _ => rfl
  | 1, _ => rfl
  | 2, _ => rfl
theorem g_1_9_f36 (hj : j < 3) (C : CX p s m args meth c RX1 cc nL ret d A) (hS : HS d A s.heap H locs (cw q d σ)) (hdg : decode cc pc = .ok (.getfield 9, 3)) (kk : W p l e R s m args below meth c H locs 0 0 Q (F0 m (pc + 3) ls (.ref (q (39 + j)) :: rest))) : W p l e R s m args below meth c H locs 0 0 Q (F0 m pc ls (.ref (q (36 + j)) :: rest)) := gf (j := 0) C hS (cw_of36 hj) rfl inX1 (by decide) (tb_at 209 (by decide +kernel) rfl) rfl hdg kk
theorem ac_X1_19 : Cond.methodLink RX1 19 arraycopyName ∈ tb ∧ Cond.native arraycopyName ∈ tb ∧ Cond.static arraycopyName ∈ tb ∧ Cond.initialized "java/lang/System" ∈ tb := ⟨tb_at 673 (by decide +kernel) rfl, tb_at 381 (by decide +kernel) rfl, tb_at 380 (by decide +kernel) rfl, tb_at 88 (by decide +kernel) rfl⟩
theorem cw_af39 {q : Nat → Nat} {d : CD} {σ : ST} {j : Nat} (h : j < 3) : (cw q d σ)[39 + j]? = some (q (39 + j), .inl (d.2.1, 40, .inl (σ.2.2 (39 + j)))) := by
  match j, h with
  | 0, _ => rfl
  | 1, _ => rfl
  | 2, _ => rfl
theorem cw_sf39 {q : Nat → Nat} {d : CD} {σ : ST} {j : Nat} (h : j < 3) (f : Nat → Int32) : (cw q d σ).set (39 + j) (q (39 + j), .inl (d.2.1, 40, .inl f)) = cw q d (setA σ (39 + j) f) := by
  match j, h with
  | 0, _ => rfl
  | 1, _ => rfl
  | 2, _ => rfl
theorem p_1_15_f36 {x : Int32} (hj : j < 3) (C : CX p s m args meth c RX1 cc nL ret d A) (hS : HS d A s.heap H locs (cw q d σ)) (e1 : some (setI σ (40 + j) x) = some σ1) (hdg : decode cc pc = .ok (.putfield 15, 3)) (kk : ∀ (H1 : Heap) (locs1 : List Loc), HS d A s.heap H1 locs1 (cw q d σ1) → W p l e R s m args below meth c H1 locs1 0 0 Q (F0 m (pc + 3) ls rest)) : W p l e R s m args below meth c H locs 0 0 Q (F0 m pc ls (.int x :: .ref (q (36 + j)) :: rest)) := by
  cases e1
  exact pf (j := 1) (ty := .int) tyX1 tyX1_ok nmX1 C hS (cw_of36 hj) rfl inX1 (by decide) (tb_at 211 (by decide +kernel) rfl) rfl (by decide +kernel) rfl rfl (Nat.le_of_ble_eq_true rfl) (by match j, hj with | 0, _ => rfl | 1, _ => rfl | 2, _ => rfl) hdg kk
theorem yc_X1_take : Cond.code yX1_take cX1_take 2 (none) ∈ tb := tb_at 672 (by decide +kernel) rfl
theorem yd_X1_take : ydn yX1_take 1 := by decide +kernel
theorem yv_X1_take : Cond.instanceMethod yX1_take ∈ tb ∧ Cond.selects yX1_take.cls yX1_take yX1_take ∈ tb := ⟨tb_at 670 (by decide +kernel) rfl, tb_at 671 (by decide +kernel) rfl⟩
theorem iv_6_193 : inV RX6 193 yX1_take cX1_take 2 (none) 1 := ⟨⟨tb_at 669 (by decide +kernel) rfl, yv_X1_take.1, yv_X1_take.2, yi_X1, yc_X1_take⟩, yd_X1_take⟩
theorem g_6_137_f36 (hj : j < 3) (C : CX p s m args meth c RX6 cc nL ret d A) (hS : HS d A s.heap H locs (cw q d σ)) (hdg : decode cc pc = .ok (.getfield 137, 3)) (kk : W p l e R s m args below meth c H locs 0 0 Q (F0 m (pc + 3) ls (.int (σ.1 (40 + j)) :: rest))) : W p l e R s m args below meth c H locs 0 0 Q (F0 m pc ls (.ref (q (36 + j)) :: rest)) := gfN (host := "WellLocks") (j := 1) C hS (cw_of36 hj) rfl inX1 (by decide) (by decide +kernel) rfl hdg kk
theorem g_1_15_f36 (hj : j < 3) (C : CX p s m args meth c RX1 cc nL ret d A) (hS : HS d A s.heap H locs (cw q d σ)) (hdg : decode cc pc = .ok (.getfield 15, 3)) (kk : W p l e R s m args below meth c H locs 0 0 Q (F0 m (pc + 3) ls (.int (σ.1 (40 + j)) :: rest))) : W p l e R s m args below meth c H locs 0 0 Q (F0 m pc ls (.ref (q (36 + j)) :: rest)) := gf (j := 1) C hS (cw_of36 hj) rfl inX1 (by decide) (tb_at 211 (by decide +kernel) rfl) rfl hdg kk
theorem iv_6_200 : inV RX6 200 yX5_weightOf cX5_weightOf 5 (some .int) 1 := ⟨⟨tb_at 686 (by decide +kernel) rfl, yv_X5_weightOf.1, yv_X5_weightOf.2, yi_X5, yc_X5_weightOf⟩, yd_X5_weightOf⟩
theorem yc_X5_isSet : Cond.code yX5_isSet cX5_isSet 2 (some .boolean) ∈ tb := tb_at 685 (by decide +kernel) rfl
theorem yd_X5_isSet : ydn yX5_isSet 1 := by decide +kernel
theorem yv_X5_isSet : Cond.instanceMethod yX5_isSet ∈ tb ∧ Cond.selects yX5_isSet.cls yX5_isSet yX5_isSet ∈ tb := ⟨tb_at 683 (by decide +kernel) rfl, tb_at 684 (by decide +kernel) rfl⟩
theorem iv_6_197 : inV RX6 197 yX5_isSet cX5_isSet 2 (some .boolean) 1 := ⟨⟨tb_at 682 (by decide +kernel) rfl, yv_X5_isSet.1, yv_X5_isSet.2, yi_X5, yc_X5_isSet⟩, yd_X5_isSet⟩
theorem g_6_42_0 (C : CX p s m args meth c RX6 cc nL ret d A) (hS : HS d A s.heap H locs (cw q d σ)) (hdg : decode cc pc = .ok (.getfield 42, 3)) (kk : W p l e R s m args below meth c H locs 0 0 Q (F0 m (pc + 3) ls (.ref (q 32) :: rest))) : W p l e R s m args below meth c H locs 0 0 Q (F0 m pc ls (.ref (q 0) :: rest)) := gf (j := 4) C hS cw_o0 rfl inX6 (by decide) (tb_at 273 (by decide +kernel) rfl) rfl hdg kk
theorem inX4 : ∀ x ∈ u_ws RX4 TX4 4, x ∈ tb := fun x h => by
  have e : u_ws RX4 TX4 4 = [256, 258, 260, 262].filterMap (fun i => lw_tbl[i]?) := by decide +kernel
  rw [e] at h
  obtain ⟨i, -, hi⟩ := List.mem_filterMap.mp h
  refine List.mem_filter.mpr ⟨List.mem_of_getElem? hi, ?_⟩
  have g : (u_ws RX4 TX4 4).all goodWord = true := by decide +kernel
  rw [e] at g
  exact List.all_eq_true.mp g x h
theorem cw_o32 {q : Nat → Nat} {d : CD} {σ : ST} : (cw q d σ)[32]? = some (q 32, .inr (4, [.ref (q 33), .ref (q 34), .ref (q 22), .int (σ.1 38)])) := rfl
theorem g_4_35_32 (C : CX p s m args meth c RX4 cc nL ret d A) (hS : HS d A s.heap H locs (cw q d σ)) (hdg : decode cc pc = .ok (.getfield 35, 3)) (kk : W p l e R s m args below meth c H locs 0 0 Q (F0 m (pc + 3) ls (.int (σ.1 38) :: rest))) : W p l e R s m args below meth c H locs 0 0 Q (F0 m pc ls (.ref (q 32) :: rest)) := gf (j := 3) C hS cw_o32 rfl inX4 (by decide) (tb_at 255 (by decide +kernel) rfl) rfl hdg kk
theorem g_4_9_32 (C : CX p s m args meth c RX4 cc nL ret d A) (hS : HS d A s.heap H locs (cw q d σ)) (hdg : decode cc pc = .ok (.getfield 9, 3)) (kk : W p l e R s m args below meth c H locs 0 0 Q (F0 m (pc + 3) ls (.ref (q 33) :: rest))) : W p l e R s m args below meth c H locs 0 0 Q (F0 m pc ls (.ref (q 32) :: rest)) := gf (j := 0) C hS cw_o32 rfl inX4 (by decide) (tb_at 252 (by decide +kernel) rfl) rfl hdg kk
theorem g_4_19_32 (C : CX p s m args meth c RX4 cc nL ret d A) (hS : HS d A s.heap H locs (cw q d σ)) (hdg : decode cc pc = .ok (.getfield 19, 3)) (kk : W p l e R s m args below meth c H locs 0 0 Q (F0 m (pc + 3) ls (.ref (q 22) :: rest))) : W p l e R s m args below meth c H locs 0 0 Q (F0 m pc ls (.ref (q 32) :: rest)) := gf (j := 2) C hS cw_o32 rfl inX4 (by decide) (tb_at 254 (by decide +kernel) rfl) rfl hdg kk
theorem iv_4_38 : inV RX4 38 yX5_isOpenTo cX5_isOpenTo 2 (some .boolean) 1 := ⟨⟨tb_at 697 (by decide +kernel) rfl, yv_X5_isOpenTo.1, yv_X5_isOpenTo.2, yi_X5, yc_X5_isOpenTo⟩, yd_X5_isOpenTo⟩
theorem cw_a33 {q : Nat → Nat} {d : CD} {σ : ST} : (cw q d σ)[33]? = some (q 33, .inl (d.2.2.1, 128, .inl (σ.2.2 33))) := rfl
theorem cw_s33 {q : Nat → Nat} {d : CD} {σ : ST} (f : Nat → Int32) : (cw q d σ).set 33 (q 33, .inl (d.2.2.1, 128, .inl f)) = cw q d (setA σ 33 f) := rfl
theorem iv_4_23 : inV RX4 23 yX5_sets cX5_sets 1 (some .int) 0 := ⟨⟨tb_at 695 (by decide +kernel) rfl, yv_X5_sets.1, yv_X5_sets.2, yi_X5, yc_X5_sets⟩, yd_X5_sets⟩
theorem mm_X4_29 : Cond.methodLink RX4 29 Lib.Math.min.name ∈ tb ∧ Cond.static Lib.Math.min.name ∈ tb ∧ Cond.initialized "java/lang/Math" ∈ tb ∧ Cond.code Lib.Math.min.name Lib.Math.min.code 2 (some .int) ∈ tb := ⟨tb_at 696 (by decide +kernel) rfl, tb_at 417 (by decide +kernel) rfl, tb_at 89 (by decide +kernel) rfl, tb_at 418 (by decide +kernel) rfl⟩
theorem p_4_35_32 {x : Int32} (C : CX p s m args meth c RX4 cc nL ret d A) (hS : HS d A s.heap H locs (cw q d σ)) (e1 : some (setI σ 38 x) = some σ1) (hdg : decode cc pc = .ok (.putfield 35, 3)) (kk : ∀ (H1 : Heap) (locs1 : List Loc), HS d A s.heap H1 locs1 (cw q d σ1) → W p l e R s m args below meth c H1 locs1 0 0 Q (F0 m (pc + 3) ls rest)) : W p l e R s m args below meth c H locs 0 0 Q (F0 m pc ls (.int x :: .ref (q 32) :: rest)) := by
  cases e1
  exact pf (j := 3) (ty := .int) tyX4 tyX4_ok nmX4 C hS cw_o32 rfl inX4 (by decide) (tb_at 255 (by decide +kernel) rfl) rfl (by decide +kernel) rfl rfl (Nat.le_of_ble_eq_true rfl) rfl hdg kk
theorem yc_X4_look : Cond.code yX4_look cX4_look 2 (none) ∈ tb := tb_at 694 (by decide +kernel) rfl
theorem yd_X4_look : ydn yX4_look 0 := by decide +kernel
theorem yi_X4 : Cond.initialized "WellLocks$Survey" ∈ tb := tb_at 86 (by decide +kernel) rfl
theorem yv_X4_look : Cond.instanceMethod yX4_look ∈ tb ∧ Cond.selects yX4_look.cls yX4_look yX4_look ∈ tb := ⟨tb_at 692 (by decide +kernel) rfl, tb_at 693 (by decide +kernel) rfl⟩
theorem iv_6_203 : inV RX6 203 yX4_look cX4_look 2 (none) 0 := ⟨⟨tb_at 691 (by decide +kernel) rfl, yv_X4_look.1, yv_X4_look.2, yi_X4, yc_X4_look⟩, yd_X4_look⟩
theorem yc_X4_howManyOpen : Cond.code yX4_howManyOpen cX4_howManyOpen 3 (some .int) ∈ tb := tb_at 701 (by decide +kernel) rfl
theorem yd_X4_howManyOpen : ydn yX4_howManyOpen 0 := by decide +kernel
theorem yv_X4_howManyOpen : Cond.instanceMethod yX4_howManyOpen ∈ tb ∧ Cond.selects yX4_howManyOpen.cls yX4_howManyOpen yX4_howManyOpen ∈ tb := ⟨tb_at 699 (by decide +kernel) rfl, tb_at 700 (by decide +kernel) rfl⟩
theorem iv_6_206 : inV RX6 206 yX4_howManyOpen cX4_howManyOpen 3 (some .int) 0 := ⟨⟨tb_at 698 (by decide +kernel) rfl, yv_X4_howManyOpen.1, yv_X4_howManyOpen.2, yi_X4, yc_X4_howManyOpen⟩, yd_X4_howManyOpen⟩
theorem p_6_67_0 {x : Int64} (C : CX p s m args meth c RX6 cc nL ret d A) (hS : HS d A s.heap H locs (cw q d σ)) (e1 : some (setL σ 10 x) = some σ1) (hdg : decode cc pc = .ok (.putfield 67, 3)) (kk : ∀ (H1 : Heap) (locs1 : List Loc), HS d A s.heap H1 locs1 (cw q d σ1) → W p l e R s m args below meth c H1 locs1 0 0 Q (F0 m (pc + 3) ls rest)) : W p l e R s m args below meth c H locs 0 0 Q (F0 m pc ls (.long x :: .ref (q 0) :: rest)) := by
  cases e1
  exact pf (j := 10) (ty := .long) tyX6 tyX6_ok nmX6 C hS cw_o0 rfl inX6 (by decide) (tb_at 279 (by decide +kernel) rfl) rfl (by decide +kernel) rfl rfl (Nat.le_of_ble_eq_true rfl) rfl hdg kk
theorem p_6_63_0 {x : Int64} (C : CX p s m args meth c RX6 cc nL ret d A) (hS : HS d A s.heap H locs (cw q d σ)) (e1 : some (setL σ 9 x) = some σ1) (hdg : decode cc pc = .ok (.putfield 63, 3)) (kk : ∀ (H1 : Heap) (locs1 : List Loc), HS d A s.heap H1 locs1 (cw q d σ1) → W p l e R s m args below meth c H1 locs1 0 0 Q (F0 m (pc + 3) ls rest)) : W p l e R s m args below meth c H locs 0 0 Q (F0 m pc ls (.long x :: .ref (q 0) :: rest)) := by
  cases e1
  exact pf (j := 9) (ty := .long) tyX6 tyX6_ok nmX6 C hS cw_o0 rfl inX6 (by decide) (tb_at 278 (by decide +kernel) rfl) rfl (by decide +kernel) rfl rfl (Nat.le_of_ble_eq_true rfl) rfl hdg kk
theorem yc_X6_greatestDivisor : Cond.code yX6_greatestDivisor cX6_greatestDivisor 11 (some .long) ∈ tb := tb_at 708 (by decide +kernel) rfl
theorem yd_X6_greatestDivisor : ydn yX6_greatestDivisor 2 := by decide +kernel
theorem ys_X6_greatestDivisor : Cond.static yX6_greatestDivisor ∈ tb := tb_at 707 (by decide +kernel) rfl
theorem is_6_315 : inS RX6 315 yX6_greatestDivisor cX6_greatestDivisor 11 (some .long) 2 := ⟨⟨tb_at 706 (by decide +kernel) rfl, ys_X6_greatestDivisor, yi_X6, yc_X6_greatestDivisor⟩, yd_X6_greatestDivisor⟩
theorem yc_X6_tell : Cond.code yX6_tell cX6_tell 7 (none) ∈ tb := tb_at 705 (by decide +kernel) rfl
theorem yd_X6_tell : ydn yX6_tell 2 := by decide +kernel
theorem yv_X6_tell : Cond.instanceMethod yX6_tell ∈ tb ∧ Cond.selects yX6_tell.cls yX6_tell yX6_tell ∈ tb := ⟨tb_at 704 (by decide +kernel) rfl, tb_at 20 (by decide +kernel) rfl⟩
theorem iv_6_209 : inV RX6 209 yX6_tell cX6_tell 7 (none) 2 := ⟨⟨tb_at 702 (by decide +kernel) rfl, yv_X6_tell.1, yv_X6_tell.2, yi_X6, yc_X6_tell⟩, yd_X6_tell⟩
theorem lc_J6_265 : Cond.constant RJ6 265 1431655765 ∈ tb := tb_at 716 (by decide +kernel) rfl
theorem lc_J6_266 : Cond.constant RJ6 266 858993459 ∈ tb := tb_at 717 (by decide +kernel) rfl
theorem lc_J6_267 : Cond.constant RJ6 267 252645135 ∈ tb := tb_at 718 (by decide +kernel) rfl
theorem yc_J6_bitCount_0f7a4 : Cond.code yJ6_bitCount_0f7a4 cJ6_bitCount_0f7a4 1 (some .int) ∈ tb := tb_at 715 (by decide +kernel) rfl
theorem yd_J6_bitCount_0f7a4 : ydn yJ6_bitCount_0f7a4 1 := by decide +kernel
theorem yi_J6 : Cond.initialized "java/lang/Integer" ∈ tb := tb_at 94 (by decide +kernel) rfl
theorem ys_J6_bitCount_0f7a4 : Cond.static yJ6_bitCount_0f7a4 ∈ tb := tb_at 714 (by decide +kernel) rfl
theorem is_4_46 : inS RX4 46 yJ6_bitCount_0f7a4 cJ6_bitCount_0f7a4 1 (some .int) 1 := ⟨⟨tb_at 713 (by decide +kernel) rfl, ys_J6_bitCount_0f7a4, yi_J6, yc_J6_bitCount_0f7a4⟩, yd_J6_bitCount_0f7a4⟩
theorem yc_X4_fewest : Cond.code yX4_fewest cX4_fewest 3 (some .int) ∈ tb := tb_at 712 (by decide +kernel) rfl
theorem yd_X4_fewest : ydn yX4_fewest 0 := by decide +kernel
theorem yv_X4_fewest : Cond.instanceMethod yX4_fewest ∈ tb ∧ Cond.selects yX4_fewest.cls yX4_fewest yX4_fewest ∈ tb := ⟨tb_at 710 (by decide +kernel) rfl, tb_at 711 (by decide +kernel) rfl⟩
theorem iv_6_213 : inV RX6 213 yX4_fewest cX4_fewest 3 (some .int) 0 := ⟨⟨tb_at 709 (by decide +kernel) rfl, yv_X4_fewest.1, yv_X4_fewest.2, yi_X4, yc_X4_fewest⟩, yd_X4_fewest⟩
theorem yc_X4_inAny : Cond.code yX4_inAny cX4_inAny 3 (some .int) ∈ tb := tb_at 726 (by decide +kernel) rfl
theorem yd_X4_inAny : ydn yX4_inAny 0 := by decide +kernel
theorem yv_X4_inAny : Cond.instanceMethod yX4_inAny ∈ tb ∧ Cond.selects yX4_inAny.cls yX4_inAny yX4_inAny ∈ tb := ⟨tb_at 724 (by decide +kernel) rfl, tb_at 725 (by decide +kernel) rfl⟩
theorem iv_6_216 : inV RX6 216 yX4_inAny cX4_inAny 3 (some .int) 0 := ⟨⟨tb_at 723 (by decide +kernel) rfl, yv_X4_inAny.1, yv_X4_inAny.2, yi_X4, yc_X4_inAny⟩, yd_X4_inAny⟩
theorem yc_X4_inAll : Cond.code yX4_inAll cX4_inAll 3 (some .int) ∈ tb := tb_at 730 (by decide +kernel) rfl
theorem yd_X4_inAll : ydn yX4_inAll 0 := by decide +kernel
theorem yv_X4_inAll : Cond.instanceMethod yX4_inAll ∈ tb ∧ Cond.selects yX4_inAll.cls yX4_inAll yX4_inAll ∈ tb := ⟨tb_at 728 (by decide +kernel) rfl, tb_at 729 (by decide +kernel) rfl⟩
theorem iv_6_219 : inV RX6 219 yX4_inAll cX4_inAll 3 (some .int) 0 := ⟨⟨tb_at 727 (by decide +kernel) rfl, yv_X4_inAll.1, yv_X4_inAll.2, yi_X4, yc_X4_inAll⟩, yd_X4_inAll⟩
theorem is_4_51 : inN RX4 51 yX6_isIn "WellLocks" cX6_isIn 2 (some .boolean) 2 := ⟨⟨by decide +kernel, ys_X6_isIn, yi_X6, yc_X6_isIn⟩, yd_X6_isIn⟩
theorem yc_X4_decidedBy : Cond.code yX4_decidedBy cX4_decidedBy 4 (some .int) ∈ tb := tb_at 738 (by decide +kernel) rfl
theorem yd_X4_decidedBy : ydn yX4_decidedBy 1 := by decide +kernel
theorem yv_X4_decidedBy : Cond.instanceMethod yX4_decidedBy ∈ tb ∧ Cond.selects yX4_decidedBy.cls yX4_decidedBy yX4_decidedBy ∈ tb := ⟨tb_at 736 (by decide +kernel) rfl, tb_at 737 (by decide +kernel) rfl⟩
theorem iv_6_222 : inV RX6 222 yX4_decidedBy cX4_decidedBy 4 (some .int) 1 := ⟨⟨tb_at 735 (by decide +kernel) rfl, yv_X4_decidedBy.1, yv_X4_decidedBy.2, yi_X4, yc_X4_decidedBy⟩, yd_X4_decidedBy⟩
theorem is_5_146 : inS RX5 146 yJ6_bitCount_0f7a4 cJ6_bitCount_0f7a4 1 (some .int) 1 := ⟨⟨tb_at 748 (by decide +kernel) rfl, ys_J6_bitCount_0f7a4, yi_J6, yc_J6_bitCount_0f7a4⟩, yd_J6_bitCount_0f7a4⟩
theorem yc_X6_factorial : Cond.code yX6_factorial cX6_factorial 4 (some .long) ∈ tb := tb_at 751 (by decide +kernel) rfl
theorem yd_X6_factorial : ydn yX6_factorial 1 := by decide +kernel
theorem ys_X6_factorial : Cond.static yX6_factorial ∈ tb := tb_at 750 (by decide +kernel) rfl
theorem is_5_151 : inN RX5 151 yX6_factorial "WellLocks" cX6_factorial 4 (some .long) 1 := ⟨⟨by decide +kernel, ys_X6_factorial, yi_X6, yc_X6_factorial⟩, yd_X6_factorial⟩
theorem yc_X5_ordersDecidedBy : Cond.code yX5_ordersDecidedBy cX5_ordersDecidedBy 6 (some .long) ∈ tb := tb_at 747 (by decide +kernel) rfl
theorem yd_X5_ordersDecidedBy : ydn yX5_ordersDecidedBy 1 := by decide +kernel
theorem yv_X5_ordersDecidedBy : Cond.instanceMethod yX5_ordersDecidedBy ∈ tb ∧ Cond.selects yX5_ordersDecidedBy.cls yX5_ordersDecidedBy yX5_ordersDecidedBy ∈ tb := ⟨tb_at 745 (by decide +kernel) rfl, tb_at 746 (by decide +kernel) rfl⟩
theorem iv_6_225 : inV RX6 225 yX5_ordersDecidedBy cX5_ordersDecidedBy 6 (some .long) 1 := ⟨⟨tb_at 744 (by decide +kernel) rfl, yv_X5_ordersDecidedBy.1, yv_X5_ordersDecidedBy.2, yi_X5, yc_X5_ordersDecidedBy⟩, yd_X5_ordersDecidedBy⟩
theorem is_6_228 : inS RX6 228 yX6_factorial cX6_factorial 4 (some .long) 1 := ⟨⟨tb_at 752 (by decide +kernel) rfl, ys_X6_factorial, yi_X6, yc_X6_factorial⟩, yd_X6_factorial⟩
theorem yc_X5_thirsty : Cond.code yX5_thirsty cX5_thirsty 3 (some .int) ∈ tb := tb_at 760 (by decide +kernel) rfl
theorem yd_X5_thirsty : ydn yX5_thirsty 0 := by decide +kernel
theorem yv_X5_thirsty : Cond.instanceMethod yX5_thirsty ∈ tb ∧ Cond.selects yX5_thirsty.cls yX5_thirsty yX5_thirsty ∈ tb := ⟨tb_at 758 (by decide +kernel) rfl, tb_at 759 (by decide +kernel) rfl⟩
theorem iv_6_231 : inV RX6 231 yX5_thirsty cX5_thirsty 3 (some .int) 0 := ⟨⟨tb_at 757 (by decide +kernel) rfl, yv_X5_thirsty.1, yv_X5_thirsty.2, yi_X5, yc_X5_thirsty⟩, yd_X5_thirsty⟩
theorem g_4_15_32 (C : CX p s m args meth c RX4 cc nL ret d A) (hS : HS d A s.heap H locs (cw q d σ)) (hdg : decode cc pc = .ok (.getfield 15, 3)) (kk : W p l e R s m args below meth c H locs 0 0 Q (F0 m (pc + 3) ls (.ref (q 34) :: rest))) : W p l e R s m args below meth c H locs 0 0 Q (F0 m pc ls (.ref (q 32) :: rest)) := gf (j := 1) C hS cw_o32 rfl inX4 (by decide) (tb_at 253 (by decide +kernel) rfl) rfl hdg kk
theorem cw_a34 {q : Nat → Nat} {d : CD} {σ : ST} : (cw q d σ)[34]? = some (q 34, .inl (d.2.1, 128, .inl (σ.2.2 34))) := rfl
theorem cw_s34 {q : Nat → Nat} {d : CD} {σ : ST} (f : Nat → Int32) : (cw q d σ).set 34 (q 34, .inl (d.2.1, 128, .inl f)) = cw q d (setA σ 34 f) := rfl
theorem yc_X4_fewestToCoverByLesser : Cond.code yX4_fewestToCoverByLesser cX4_fewestToCoverByLesser 6 (some .int) ∈ tb := tb_at 768 (by decide +kernel) rfl
theorem yd_X4_fewestToCoverByLesser : ydn yX4_fewestToCoverByLesser 1 := by decide +kernel
theorem yv_X4_fewestToCoverByLesser : Cond.instanceMethod yX4_fewestToCoverByLesser ∈ tb ∧ Cond.selects yX4_fewestToCoverByLesser.cls yX4_fewestToCoverByLesser yX4_fewestToCoverByLesser ∈ tb := ⟨tb_at 767 (by decide +kernel) rfl, tb_at 21 (by decide +kernel) rfl⟩
theorem iv_4_55 : inV RX4 55 yX4_fewestToCoverByLesser cX4_fewestToCoverByLesser 6 (some .int) 1 := ⟨⟨tb_at 765 (by decide +kernel) rfl, yv_X4_fewestToCoverByLesser.1, yv_X4_fewestToCoverByLesser.2, yi_X4, yc_X4_fewestToCoverByLesser⟩, yd_X4_fewestToCoverByLesser⟩
theorem yc_X4_fewestToCover : Cond.code yX4_fewestToCover cX4_fewestToCover 3 (some .int) ∈ tb := tb_at 764 (by decide +kernel) rfl
theorem yd_X4_fewestToCover : ydn yX4_fewestToCover 1 := by decide +kernel
theorem yv_X4_fewestToCover : Cond.instanceMethod yX4_fewestToCover ∈ tb ∧ Cond.selects yX4_fewestToCover.cls yX4_fewestToCover yX4_fewestToCover ∈ tb := ⟨tb_at 762 (by decide +kernel) rfl, tb_at 763 (by decide +kernel) rfl⟩
theorem iv_6_234 : inV RX6 234 yX4_fewestToCover cX4_fewestToCover 3 (some .int) 1 := ⟨⟨tb_at 761 (by decide +kernel) rfl, yv_X4_fewestToCover.1, yv_X4_fewestToCover.2, yi_X4, yc_X4_fewestToCover⟩, yd_X4_fewestToCover⟩
theorem iv_4_58 : inV RX4 58 yX3_sizeOf cX3_sizeOf 2 (some .int) 1 := ⟨⟨tb_at 773 (by decide +kernel) rfl, yv_X3_sizeOf.1, yv_X3_sizeOf.2, yi_X3, yc_X3_sizeOf⟩, yd_X3_sizeOf⟩
theorem yc_X4_leastThatHelps : Cond.code yX4_leastThatHelps cX4_leastThatHelps 3 (some .int) ∈ tb := tb_at 777 (by decide +kernel) rfl
theorem yd_X4_leastThatHelps : ydn yX4_leastThatHelps 1 := by decide +kernel
theorem yv_X4_leastThatHelps : Cond.instanceMethod yX4_leastThatHelps ∈ tb ∧ Cond.selects yX4_leastThatHelps.cls yX4_leastThatHelps yX4_leastThatHelps ∈ tb := ⟨tb_at 776 (by decide +kernel) rfl, tb_at 22 (by decide +kernel) rfl⟩
theorem iv_4_63 : inV RX4 63 yX4_leastThatHelps cX4_leastThatHelps 3 (some .int) 1 := ⟨⟨tb_at 774 (by decide +kernel) rfl, yv_X4_leastThatHelps.1, yv_X4_leastThatHelps.2, yi_X4, yc_X4_leastThatHelps⟩, yd_X4_leastThatHelps⟩
theorem iv_4_66 : inV RX4 66 yX3_set cX3_set 4 (none) 3 := ⟨⟨tb_at 778 (by decide +kernel) rfl, yv_X3_set.1, yv_X3_set.2, yi_X3, yc_X3_set⟩, yd_X3_set⟩
theorem yc_X4_layCover : Cond.code yX4_layCover cX4_layCover 7 (none) ∈ tb := tb_at 772 (by decide +kernel) rfl
theorem yd_X4_layCover : ydn yX4_layCover 3 := by decide +kernel
theorem yv_X4_layCover : Cond.instanceMethod yX4_layCover ∈ tb ∧ Cond.selects yX4_layCover.cls yX4_layCover yX4_layCover ∈ tb := ⟨tb_at 770 (by decide +kernel) rfl, tb_at 771 (by decide +kernel) rfl⟩
theorem iv_6_240 : inV RX6 240 yX4_layCover cX4_layCover 7 (none) 3 := ⟨⟨tb_at 769 (by decide +kernel) rfl, yv_X4_layCover.1, yv_X4_layCover.2, yi_X4, yc_X4_layCover⟩, yd_X4_layCover⟩
theorem is_6_244 : inS RX6 244 yJ6_bitCount_0f7a4 cJ6_bitCount_0f7a4 1 (some .int) 1 := ⟨⟨tb_at 783 (by decide +kernel) rfl, ys_J6_bitCount_0f7a4, yi_J6, yc_J6_bitCount_0f7a4⟩, yd_J6_bitCount_0f7a4⟩
theorem iv_5_155 : inV RX5 155 yX3_sizeOf cX3_sizeOf 2 (some .int) 1 := ⟨⟨tb_at 788 (by decide +kernel) rfl, yv_X3_sizeOf.1, yv_X3_sizeOf.2, yi_X3, yc_X3_sizeOf⟩, yd_X3_sizeOf⟩
theorem yc_X5_mostServed : Cond.code yX5_mostServed cX5_mostServed 7 (some .int) ∈ tb := tb_at 796 (by decide +kernel) rfl
theorem yd_X5_mostServed : ydn yX5_mostServed 2 := by decide +kernel
theorem yv_X5_mostServed : Cond.instanceMethod yX5_mostServed ∈ tb ∧ Cond.selects yX5_mostServed.cls yX5_mostServed yX5_mostServed ∈ tb := ⟨tb_at 794 (by decide +kernel) rfl, tb_at 795 (by decide +kernel) rfl⟩
theorem iv_5_167 : inV RX5 167 yX5_mostServed cX5_mostServed 7 (some .int) 2 := ⟨⟨tb_at 793 (by decide +kernel) rfl, yv_X5_mostServed.1, yv_X5_mostServed.2, yi_X5, yc_X5_mostServed⟩, yd_X5_mostServed⟩
theorem yc_X5_nextBest : Cond.code yX5_nextBest cX5_nextBest 8 (some .int) ∈ tb := tb_at 792 (by decide +kernel) rfl
theorem yd_X5_nextBest : ydn yX5_nextBest 2 := by decide +kernel
theorem yv_X5_nextBest : Cond.instanceMethod yX5_nextBest ∈ tb ∧ Cond.selects yX5_nextBest.cls yX5_nextBest yX5_nextBest ∈ tb := ⟨tb_at 791 (by decide +kernel) rfl, tb_at 23 (by decide +kernel) rfl⟩
theorem iv_5_160 : inV RX5 160 yX5_nextBest cX5_nextBest 8 (some .int) 2 := ⟨⟨tb_at 789 (by decide +kernel) rfl, yv_X5_nextBest.1, yv_X5_nextBest.2, yi_X5, yc_X5_nextBest⟩, yd_X5_nextBest⟩
theorem iv_5_163 : inV RX5 163 yX3_set cX3_set 4 (none) 3 := ⟨⟨tb_at 797 (by decide +kernel) rfl, yv_X3_set.1, yv_X3_set.2, yi_X3, yc_X3_set⟩, yd_X3_set⟩
theorem yc_X5_layBestOrder : Cond.code yX5_layBestOrder cX5_layBestOrder 8 (none) ∈ tb := tb_at 787 (by decide +kernel) rfl
theorem yd_X5_layBestOrder : ydn yX5_layBestOrder 3 := by decide +kernel
theorem yv_X5_layBestOrder : Cond.instanceMethod yX5_layBestOrder ∈ tb ∧ Cond.selects yX5_layBestOrder.cls yX5_layBestOrder yX5_layBestOrder ∈ tb := ⟨tb_at 785 (by decide +kernel) rfl, tb_at 786 (by decide +kernel) rfl⟩
theorem iv_6_249 : inV RX6 249 yX5_layBestOrder cX5_layBestOrder 8 (none) 3 := ⟨⟨tb_at 784 (by decide +kernel) rfl, yv_X5_layBestOrder.1, yv_X5_layBestOrder.2, yi_X5, yc_X5_layBestOrder⟩, yd_X5_layBestOrder⟩
theorem iv_6_252 : inV RX6 252 yX5_mostServed cX5_mostServed 7 (some .int) 2 := ⟨⟨tb_at 798 (by decide +kernel) rfl, yv_X5_mostServed.1, yv_X5_mostServed.2, yi_X5, yc_X5_mostServed⟩, yd_X5_mostServed⟩
theorem yc_X5_drawnByShares : Cond.code yX5_drawnByShares cX5_drawnByShares 4 (some .int) ∈ tb := tb_at 806 (by decide +kernel) rfl
theorem yd_X5_drawnByShares : ydn yX5_drawnByShares 1 := by decide +kernel
theorem yv_X5_drawnByShares : Cond.instanceMethod yX5_drawnByShares ∈ tb ∧ Cond.selects yX5_drawnByShares.cls yX5_drawnByShares yX5_drawnByShares ∈ tb := ⟨tb_at 804 (by decide +kernel) rfl, tb_at 805 (by decide +kernel) rfl⟩
theorem iv_6_255 : inV RX6 255 yX5_drawnByShares cX5_drawnByShares 4 (some .int) 1 := ⟨⟨tb_at 803 (by decide +kernel) rfl, yv_X5_drawnByShares.1, yv_X5_drawnByShares.2, yi_X5, yc_X5_drawnByShares⟩, yd_X5_drawnByShares⟩
theorem yc_X5_drawnBy : Cond.code yX5_drawnBy cX5_drawnBy 4 (some .int) ∈ tb := tb_at 818 (by decide +kernel) rfl
theorem yd_X5_drawnBy : ydn yX5_drawnBy 1 := by decide +kernel
theorem yv_X5_drawnBy : Cond.instanceMethod yX5_drawnBy ∈ tb ∧ Cond.selects yX5_drawnBy.cls yX5_drawnBy yX5_drawnBy ∈ tb := ⟨tb_at 816 (by decide +kernel) rfl, tb_at 817 (by decide +kernel) rfl⟩
theorem iv_4_42 : inV RX4 42 yX5_drawnBy cX5_drawnBy 4 (some .int) 1 := ⟨⟨tb_at 815 (by decide +kernel) rfl, yv_X5_drawnBy.1, yv_X5_drawnBy.2, yi_X5, yc_X5_drawnBy⟩, yd_X5_drawnBy⟩
theorem yc_X4_keepThoseWhoDraw : Cond.code yX4_keepThoseWhoDraw cX4_keepThoseWhoDraw 3 (none) ∈ tb := tb_at 814 (by decide +kernel) rfl
theorem yd_X4_keepThoseWhoDraw : ydn yX4_keepThoseWhoDraw 1 := by decide +kernel
theorem yv_X4_keepThoseWhoDraw : Cond.instanceMethod yX4_keepThoseWhoDraw ∈ tb ∧ Cond.selects yX4_keepThoseWhoDraw.cls yX4_keepThoseWhoDraw yX4_keepThoseWhoDraw ∈ tb := ⟨tb_at 812 (by decide +kernel) rfl, tb_at 813 (by decide +kernel) rfl⟩
theorem iv_6_258 : inV RX6 258 yX4_keepThoseWhoDraw cX4_keepThoseWhoDraw 3 (none) 1 := ⟨⟨tb_at 811 (by decide +kernel) rfl, yv_X4_keepThoseWhoDraw.1, yv_X4_keepThoseWhoDraw.2, yi_X4, yc_X4_keepThoseWhoDraw⟩, yd_X4_keepThoseWhoDraw⟩
theorem g_6_322_23 (C : CX p s m args meth c RX6 cc nL ret d A) (hS : HS d A s.heap H locs (cw q d σ)) (hdg : decode cc pc = .ok (.getfield 322, 3)) (kk : W p l e R s m args below meth c H locs 0 0 Q (F0 m (pc + 3) ls (.int (σ.1 30) :: rest))) : W p l e R s m args below meth c H locs 0 0 Q (F0 m pc ls (.ref (q 23) :: rest)) := gfN (host := "WellLocks") (j := 0) C hS cw_o23 rfl inX0 (by decide) (by decide +kernel) rfl hdg kk
theorem iv_6_343 : inV RX6 343 yX5_wouldOpen cX5_wouldOpen 4 (some .boolean) 3 := ⟨⟨tb_at 831 (by decide +kernel) rfl, yv_X5_wouldOpen.1, yv_X5_wouldOpen.2, yi_X5, yc_X5_wouldOpen⟩, yd_X5_wouldOpen⟩
theorem yc_X6_fitsDouble : Cond.code yX6_fitsDouble cX6_fitsDouble 6 (some .boolean) ∈ tb := tb_at 830 (by decide +kernel) rfl
theorem yd_X6_fitsDouble : ydn yX6_fitsDouble 2 := by decide +kernel
theorem yv_X6_fitsDouble : Cond.instanceMethod yX6_fitsDouble ∈ tb ∧ Cond.selects yX6_fitsDouble.cls yX6_fitsDouble yX6_fitsDouble ∈ tb := ⟨tb_at 829 (by decide +kernel) rfl, tb_at 25 (by decide +kernel) rfl⟩
theorem iv_6_264 : inV RX6 264 yX6_fitsDouble cX6_fitsDouble 6 (some .boolean) 2 := ⟨⟨tb_at 827 (by decide +kernel) rfl, yv_X6_fitsDouble.1, yv_X6_fitsDouble.2, yi_X6, yc_X6_fitsDouble⟩, yd_X6_fitsDouble⟩
theorem yc_X6_refusalOfPairs : Cond.code yX6_refusalOfPairs cX6_refusalOfPairs 6 (some .int) ∈ tb := tb_at 826 (by decide +kernel) rfl
theorem yd_X6_refusalOfPairs : ydn yX6_refusalOfPairs 1 := by decide +kernel
theorem yv_X6_refusalOfPairs : Cond.instanceMethod yX6_refusalOfPairs ∈ tb ∧ Cond.selects yX6_refusalOfPairs.cls yX6_refusalOfPairs yX6_refusalOfPairs ∈ tb := ⟨tb_at 825 (by decide +kernel) rfl, tb_at 24 (by decide +kernel) rfl⟩
theorem iv_6_261 : inV RX6 261 yX6_refusalOfPairs cX6_refusalOfPairs 6 (some .int) 1 := ⟨⟨tb_at 823 (by decide +kernel) rfl, yv_X6_refusalOfPairs.1, yv_X6_refusalOfPairs.2, yi_X6, yc_X6_refusalOfPairs⟩, yd_X6_refusalOfPairs⟩
theorem yc_X6_fitsNeed : Cond.code yX6_fitsNeed cX6_fitsNeed 5 (some .boolean) ∈ tb := tb_at 839 (by decide +kernel) rfl
theorem yd_X6_fitsNeed : ydn yX6_fitsNeed 2 := by decide +kernel
theorem yv_X6_fitsNeed : Cond.instanceMethod yX6_fitsNeed ∈ tb ∧ Cond.selects yX6_fitsNeed.cls yX6_fitsNeed yX6_fitsNeed ∈ tb := ⟨tb_at 838 (by decide +kernel) rfl, tb_at 26 (by decide +kernel) rfl⟩
theorem iv_6_267 : inV RX6 267 yX6_fitsNeed cX6_fitsNeed 5 (some .boolean) 2 := ⟨⟨tb_at 836 (by decide +kernel) rfl, yv_X6_fitsNeed.1, yv_X6_fitsNeed.2, yi_X6, yc_X6_fitsNeed⟩, yd_X6_fitsNeed⟩
theorem yc_X6_refusalOfChance : Cond.code yX6_refusalOfChance cX6_refusalOfChance 2 (some .int) ∈ tb := tb_at 864 (by decide +kernel) rfl
theorem yd_X6_refusalOfChance : ydn yX6_refusalOfChance 1 := by decide +kernel
theorem yv_X6_refusalOfChance : Cond.instanceMethod yX6_refusalOfChance ∈ tb ∧ Cond.selects yX6_refusalOfChance.cls yX6_refusalOfChance yX6_refusalOfChance ∈ tb := ⟨tb_at 863 (by decide +kernel) rfl, tb_at 28 (by decide +kernel) rfl⟩
theorem iv_6_273 : inV RX6 273 yX6_refusalOfChance cX6_refusalOfChance 2 (some .int) 1 := ⟨⟨tb_at 861 (by decide +kernel) rfl, yv_X6_refusalOfChance.1, yv_X6_refusalOfChance.2, yi_X6, yc_X6_refusalOfChance⟩, yd_X6_refusalOfChance⟩
theorem yc_X6_power : Cond.code yX6_power cX6_power 5 (some .long) ∈ tb := tb_at 875 (by decide +kernel) rfl
theorem yd_X6_power : ydn yX6_power 2 := by decide +kernel
theorem ys_X6_power : Cond.static yX6_power ∈ tb := tb_at 874 (by decide +kernel) rfl
theorem is_4_77 : inN RX4 77 yX6_power "WellLocks" cX6_power 5 (some .long) 2 := ⟨⟨by decide +kernel, ys_X6_power, yi_X6, yc_X6_power⟩, yd_X6_power⟩
theorem iv_4_70 : inV RX4 70 yX5_houses cX5_houses 1 (some .int) 0 := ⟨⟨tb_at 848 (by decide +kernel) rfl, yv_X5_houses.1, yv_X5_houses.2, yi_X5, yc_X5_houses⟩, yd_X5_houses⟩
theorem yc_X4_waysToCome : Cond.code yX4_waysToCome cX4_waysToCome 4 (some .long) ∈ tb := tb_at 872 (by decide +kernel) rfl
theorem yd_X4_waysToCome : ydn yX4_waysToCome 2 := by decide +kernel
theorem yv_X4_waysToCome : Cond.instanceMethod yX4_waysToCome ∈ tb ∧ Cond.selects yX4_waysToCome.cls yX4_waysToCome yX4_waysToCome ∈ tb := ⟨tb_at 871 (by decide +kernel) rfl, tb_at 29 (by decide +kernel) rfl⟩
theorem iv_4_81 : inV RX4 81 yX4_waysToCome cX4_waysToCome 4 (some .long) 2 := ⟨⟨tb_at 869 (by decide +kernel) rfl, yv_X4_waysToCome.1, yv_X4_waysToCome.2, yi_X4, yc_X4_waysToCome⟩, yd_X4_waysToCome⟩
theorem yc_X4_waysToOpen : Cond.code yX4_waysToOpen cX4_waysToOpen 5 (some .long) ∈ tb := tb_at 868 (by decide +kernel) rfl
theorem yd_X4_waysToOpen : ydn yX4_waysToOpen 1 := by decide +kernel
theorem yv_X4_waysToOpen : Cond.instanceMethod yX4_waysToOpen ∈ tb ∧ Cond.selects yX4_waysToOpen.cls yX4_waysToOpen yX4_waysToOpen ∈ tb := ⟨tb_at 866 (by decide +kernel) rfl, tb_at 867 (by decide +kernel) rfl⟩
theorem iv_6_276 : inV RX6 276 yX4_waysToOpen cX4_waysToOpen 5 (some .long) 1 := ⟨⟨tb_at 865 (by decide +kernel) rfl, yv_X4_waysToOpen.1, yv_X4_waysToOpen.2, yi_X4, yc_X4_waysToOpen⟩, yd_X4_waysToOpen⟩
theorem is_6_279 : inS RX6 279 yX6_power cX6_power 5 (some .long) 2 := ⟨⟨tb_at 876 (by decide +kernel) rfl, ys_X6_power, yi_X6, yc_X6_power⟩, yd_X6_power⟩
theorem yc_X4_bucketsInAllWays : Cond.code yX4_bucketsInAllWays cX4_bucketsInAllWays 5 (some .long) ∈ tb := tb_at 884 (by decide +kernel) rfl
theorem yd_X4_bucketsInAllWays : ydn yX4_bucketsInAllWays 1 := by decide +kernel
theorem yv_X4_bucketsInAllWays : Cond.instanceMethod yX4_bucketsInAllWays ∈ tb ∧ Cond.selects yX4_bucketsInAllWays.cls yX4_bucketsInAllWays yX4_bucketsInAllWays ∈ tb := ⟨tb_at 882 (by decide +kernel) rfl, tb_at 883 (by decide +kernel) rfl⟩
theorem iv_6_283 : inV RX6 283 yX4_bucketsInAllWays cX4_bucketsInAllWays 5 (some .long) 1 := ⟨⟨tb_at 881 (by decide +kernel) rfl, yv_X4_bucketsInAllWays.1, yv_X4_bucketsInAllWays.2, yi_X4, yc_X4_bucketsInAllWays⟩, yd_X4_bucketsInAllWays⟩
theorem lc_X6_288 : Cond.constantLong RX6 288 48271 ∈ tb := tb_at 890 (by decide +kernel) rfl
theorem lc_X6_286 : Cond.constantLong RX6 286 2147483647 ∈ tb := tb_at 889 (by decide +kernel) rfl
theorem lc_X6_290 : Cond.constantLong RX6 290 8 ∈ tb := tb_at 891 (by decide +kernel) rfl
theorem iv_6_292 : inV RX6 292 yX5_sets cX5_sets 1 (some .int) 0 := ⟨⟨tb_at 892 (by decide +kernel) rfl, yv_X5_sets.1, yv_X5_sets.2, yi_X5, yc_X5_sets⟩, yd_X5_sets⟩
theorem yc_X6_meetingRising : Cond.code yX6_meetingRising cX6_meetingRising 3 (some .int) ∈ tb := tb_at 895 (by decide +kernel) rfl
theorem yd_X6_meetingRising : ydn yX6_meetingRising 1 := by decide +kernel
theorem ys_X6_meetingRising : Cond.static yX6_meetingRising ∈ tb := tb_at 894 (by decide +kernel) rfl
theorem is_6_295 : inS RX6 295 yX6_meetingRising cX6_meetingRising 3 (some .int) 1 := ⟨⟨tb_at 893 (by decide +kernel) rfl, ys_X6_meetingRising, yi_X6, yc_X6_meetingRising⟩, yd_X6_meetingRising⟩
theorem g_6_60_0 (C : CX p s m args meth c RX6 cc nL ret d A) (hS : HS d A s.heap H locs (cw q d σ)) (hdg : decode cc pc = .ok (.getfield 60, 3)) (kk : W p l e R s m args below meth c H locs 0 0 Q (F0 m (pc + 3) ls (.int (σ.1 8) :: rest))) : W p l e R s m args below meth c H locs 0 0 Q (F0 m pc ls (.ref (q 0) :: rest)) := gf (j := 8) C hS cw_o0 rfl inX6 (by decide) (tb_at 277 (by decide +kernel) rfl) rfl hdg kk
theorem g_6_63_0 (C : CX p s m args meth c RX6 cc nL ret d A) (hS : HS d A s.heap H locs (cw q d σ)) (hdg : decode cc pc = .ok (.getfield 63, 3)) (kk : W p l e R s m args below meth c H locs 0 0 Q (F0 m (pc + 3) ls (.long (σ.2.1 9) :: rest))) : W p l e R s m args below meth c H locs 0 0 Q (F0 m pc ls (.ref (q 0) :: rest)) := gf (j := 9) C hS cw_o0 rfl inX6 (by decide) (tb_at 278 (by decide +kernel) rfl) rfl hdg kk
theorem g_6_67_0 (C : CX p s m args meth c RX6 cc nL ret d A) (hS : HS d A s.heap H locs (cw q d σ)) (hdg : decode cc pc = .ok (.getfield 67, 3)) (kk : W p l e R s m args below meth c H locs 0 0 Q (F0 m (pc + 3) ls (.long (σ.2.1 10) :: rest))) : W p l e R s m args below meth c H locs 0 0 Q (F0 m pc ls (.ref (q 0) :: rest)) := gf (j := 10) C hS cw_o0 rfl inX6 (by decide) (tb_at 279 (by decide +kernel) rfl) rfl hdg kk
theorem yc_X6_keptWells : Cond.code yX6_keptWells cX6_keptWells 3 (some .int) ∈ tb := tb_at 928 (by decide +kernel) rfl
theorem yd_X6_keptWells : ydn yX6_keptWells 0 := by decide +kernel
theorem yv_X6_keptWells : Cond.instanceMethod yX6_keptWells ∈ tb ∧ Cond.selects yX6_keptWells.cls yX6_keptWells yX6_keptWells ∈ tb := ⟨tb_at 927 (by decide +kernel) rfl, tb_at 31 (by decide +kernel) rfl⟩
theorem iv_6_334 : inV RX6 334 yX6_keptWells cX6_keptWells 3 (some .int) 0 := ⟨⟨tb_at 925 (by decide +kernel) rfl, yv_X6_keptWells.1, yv_X6_keptWells.2, yi_X6, yc_X6_keptWells⟩, yd_X6_keptWells⟩
theorem yc_X3_howManyThere : Cond.code yX3_howManyThere cX3_howManyThere 3 (some .int) ∈ tb := tb_at 924 (by decide +kernel) rfl
theorem yd_X3_howManyThere : ydn yX3_howManyThere 0 := by decide +kernel
theorem yv_X3_howManyThere : Cond.instanceMethod yX3_howManyThere ∈ tb ∧ Cond.selects yX3_howManyThere.cls yX3_howManyThere yX3_howManyThere ∈ tb := ⟨tb_at 922 (by decide +kernel) rfl, tb_at 923 (by decide +kernel) rfl⟩
theorem iv_6_331 : inV RX6 331 yX3_howManyThere cX3_howManyThere 3 (some .int) 0 := ⟨⟨tb_at 921 (by decide +kernel) rfl, yv_X3_howManyThere.1, yv_X3_howManyThere.2, yi_X3, yc_X3_howManyThere⟩, yd_X3_howManyThere⟩
theorem is_0_47 : inN RX0 47 yX6_isOfKind "WellLocks" cX6_isOfKind 2 (some .boolean) 2 := ⟨⟨by decide +kernel, ys_X6_isOfKind, yi_X6, yc_X6_isOfKind⟩, yd_X6_isOfKind⟩
theorem yc_X0_howManyOf : Cond.code yX0_howManyOf cX0_howManyOf 4 (some .int) ∈ tb := tb_at 919 (by decide +kernel) rfl
theorem yd_X0_howManyOf : ydn yX0_howManyOf 1 := by decide +kernel
theorem yv_X0_howManyOf : Cond.instanceMethod yX0_howManyOf ∈ tb ∧ Cond.selects yX0_howManyOf.cls yX0_howManyOf yX0_howManyOf ∈ tb := ⟨tb_at 917 (by decide +kernel) rfl, tb_at 918 (by decide +kernel) rfl⟩
theorem iv_6_328 : inV RX6 328 yX0_howManyOf cX0_howManyOf 4 (some .int) 1 := ⟨⟨tb_at 916 (by decide +kernel) rfl, yv_X0_howManyOf.1, yv_X0_howManyOf.2, yi_X0, yc_X0_howManyOf⟩, yd_X0_howManyOf⟩
theorem g_6_325_23 (C : CX p s m args meth c RX6 cc nL ret d A) (hS : HS d A s.heap H locs (cw q d σ)) (hdg : decode cc pc = .ok (.getfield 325, 3)) (kk : W p l e R s m args below meth c H locs 0 0 Q (F0 m (pc + 3) ls (.int (σ.1 34) :: rest))) : W p l e R s m args below meth c H locs 0 0 Q (F0 m pc ls (.ref (q 23) :: rest)) := gfN (host := "WellLocks") (j := 4) C hS cw_o23 rfl inX0 (by decide) (by decide +kernel) rfl hdg kk
theorem g_6_319_22 (C : CX p s m args meth c RX6 cc nL ret d A) (hS : HS d A s.heap H locs (cw q d σ)) (hdg : decode cc pc = .ok (.getfield 319, 3)) (kk : W p l e R s m args below meth c H locs 0 0 Q (F0 m (pc + 3) ls (.int (σ.1 36) :: rest))) : W p l e R s m args below meth c H locs 0 0 Q (F0 m pc ls (.ref (q 22) :: rest)) := gfN (host := "WellLocks") (j := 6) C hS cw_o22 rfl inX5 (by decide) (by decide +kernel) rfl hdg kk
theorem yc_X6_countOf : Cond.code yX6_countOf cX6_countOf 2 (some .int) ∈ tb := tb_at 915 (by decide +kernel) rfl
theorem yd_X6_countOf : ydn yX6_countOf 1 := by decide +kernel
theorem yv_X6_countOf : Cond.instanceMethod yX6_countOf ∈ tb ∧ Cond.selects yX6_countOf.cls yX6_countOf yX6_countOf ∈ tb := ⟨tb_at 914 (by decide +kernel) rfl, tb_at 30 (by decide +kernel) rfl⟩
theorem iv_6_298 : inV RX6 298 yX6_countOf cX6_countOf 2 (some .int) 1 := ⟨⟨tb_at 912 (by decide +kernel) rfl, yv_X6_countOf.1, yv_X6_countOf.2, yi_X6, yc_X6_countOf⟩, yd_X6_countOf⟩
theorem g_6_56_0 (C : CX p s m args meth c RX6 cc nL ret d A) (hS : HS d A s.heap H locs (cw q d σ)) (hdg : decode cc pc = .ok (.getfield 56, 3)) (kk : W p l e R s m args below meth c H locs 0 0 Q (F0 m (pc + 3) ls (.int (σ.1 7) :: rest))) : W p l e R s m args below meth c H locs 0 0 Q (F0 m pc ls (.ref (q 0) :: rest)) := gf (j := 7) C hS cw_o0 rfl inX6 (by decide) (tb_at 276 (by decide +kernel) rfl) rfl hdg kk
theorem lc_X3_67 : Cond.constantLong RX3 67 31 ∈ tb := tb_at 947 (by decide +kernel) rfl
theorem yc_X3_fold : Cond.code yX3_fold cX3_fold 7 (some .long) ∈ tb := tb_at 946 (by decide +kernel) rfl
theorem yd_X3_fold : ydn yX3_fold 1 := by decide +kernel
theorem yv_X3_fold : Cond.instanceMethod yX3_fold ∈ tb ∧ Cond.selects yX3_fold.cls yX3_fold yX3_fold ∈ tb := ⟨tb_at 944 (by decide +kernel) rfl, tb_at 945 (by decide +kernel) rfl⟩
theorem iv_6_305 : inV RX6 305 yX3_fold cX3_fold 7 (some .long) 1 := ⟨⟨tb_at 943 (by decide +kernel) rfl, yv_X3_fold.1, yv_X3_fold.2, yi_X3, yc_X3_fold⟩, yd_X3_fold⟩
theorem lc_X6_303 : Cond.constantLong RX6 303 31 ∈ tb := tb_at 942 (by decide +kernel) rfl
theorem lc_X6_301 : Cond.constantLong RX6 301 17 ∈ tb := tb_at 941 (by decide +kernel) rfl
end LIB
