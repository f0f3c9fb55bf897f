def mw (q : Nat → Nat) (d : CD) (σ : ST) : va_W := [(q 0, .inr (7, [.ref (q 1), .int (σ.1 1), .int (σ.1 2), .int (σ.1 3), .ref (q 2), .ref (q 3), .ref (q 4), .int (σ.1 7), .ref (q 5), .ref (q 6), .ref (q 7), .ref (q 8), .int (σ.1 12), .long (σ.2.1 13), .long (σ.2.1 14), .int (σ.1 15), .ref (q 9), .int (σ.1 17), .int (σ.1 18), .int (σ.1 19), .int (σ.1 20), .int (σ.1 21), .int (σ.1 22), .ref (q 10), .int (σ.1 24), .ref (q 11), .int (σ.1 26), .ref (q 12), .ref (q 13), .ref (q 14)])), (q 1, .inl (d.2.1, 3776, .inl (σ.2.2 1))), (q 2, .inl (d.2.1, 7, .inl (σ.2.2 2))), (q 3, .inl (d.2.1, 7, .inl (σ.2.2 3))), (q 4, .inl (d.2.1, 7, .inl (σ.2.2 4))), (q 5, .inl (d.2.1, 6, .inl (σ.2.2 5))), (q 6, .inl (d.2.1, 240, .inl (σ.2.2 6))), (q 7, .inl (d.2.1, 4, .inl (σ.2.2 7))), (q 8, .inl (d.2.1, 320, .inl (σ.2.2 8))), (q 9, .inl (d.2.1, 6, .inl (σ.2.2 9))), (q 10, .inl (d.2.1, 14, .inl (σ.2.2 10))), (q 11, .inl (d.2.1, 7, .inl (σ.2.2 11))), (q 12, .inl (d.2.1, 16512, .inl (σ.2.2 12))), (q 13, .inl (d.2.1, 7, .inl (σ.2.2 13))), (q 14, .inl (d.2.2.1, 2187, .inl (σ.2.2 14)))]
def cw (q : Nat → Nat) (d : CD) (σ : ST) : va_W := [(q 0, .inr (6, [.ref (q 1), .ref (q 10), .ref (q 17), .ref (q 22), .ref (q 32), .ref (q 35), .ref (q 42), .int (σ.1 7), .int (σ.1 8), .long (σ.2.1 9), .long (σ.2.1 10)])), (q 1, .inr (3, [.int 40, .ref (q 2), .ref (q 3)])), (q 2, .inl (d.2.2.2.2.1, 6, .inr (.inr (.inr (.inr (fun j => if j < 6 then some (q (4 + j)) else none)))))), (q 3, .inl (d.2.1, 6, .inl (σ.2.2 3))), (q 4, .inl (d.2.1, 40, .inl (σ.2.2 4))), (q 5, .inl (d.2.1, 40, .inl (σ.2.2 5))), (q 6, .inl (d.2.1, 40, .inl (σ.2.2 6))), (q 7, .inl (d.2.1, 40, .inl (σ.2.2 7))), (q 8, .inl (d.2.1, 40, .inl (σ.2.2 8))), (q 9, .inl (d.2.1, 40, .inl (σ.2.2 9))), (q 10, .inr (3, [.int 80, .ref (q 11), .ref (q 12)])), (q 11, .inl (d.2.2.2.2.1, 4, .inr (.inr (.inr (.inr (fun j => if j < 4 then some (q (13 + j)) else none)))))), (q 12, .inl (d.2.1, 4, .inl (σ.2.2 12))), (q 13, .inl (d.2.1, 80, .inl (σ.2.2 13))), (q 14, .inl (d.2.1, 80, .inl (σ.2.2 14))), (q 15, .inl (d.2.1, 80, .inl (σ.2.2 15))), (q 16, .inl (d.2.1, 80, .inl (σ.2.2 16))), (q 17, .inr (2, [.ref (q 10), .ref (q 43), .ref (q 18), .int (σ.1 12), .int (σ.1 13)])), (q 18, .inr (0, [.int (σ.1 20), .int (σ.1 21), .int (σ.1 22), .int (σ.1 23), .int (σ.1 24), .ref (q 19), .ref (q 20), .ref (q 21)])), (q 19, .inl (d.2.1, 7, .inl (σ.2.2 19))), (q 20, .inl (d.2.1, 7, .inl (σ.2.2 20))), (q 21, .inl (d.2.1, 7, .inl (σ.2.2 21))), (q 22, .inr (5, [.ref (q 23), .ref (q 27), .ref (q 29), .ref (q 30), .ref (q 31), .int (σ.1 35), .int (σ.1 36)])), (q 23, .inr (0, [.int (σ.1 30), .int (σ.1 31), .int (σ.1 32), .int (σ.1 33), .int (σ.1 34), .ref (q 24), .ref (q 25), .ref (q 26)])), (q 24, .inl (d.2.1, 7, .inl (σ.2.2 24))), (q 25, .inl (d.2.1, 7, .inl (σ.2.2 25))), (q 26, .inl (d.2.1, 7, .inl (σ.2.2 26))), (q 27, .inr (1, [.ref (q 28), .int (σ.1 37)])), (q 28, .inl (d.2.1, 40, .inl (σ.2.2 28))), (q 29, .inl (d.2.1, 7, .inl (σ.2.2 29))), (q 30, .inl (d.2.1, 7, .inl (σ.2.2 30))), (q 31, .inl (d.2.1, 7, .inl (σ.2.2 31))), (q 32, .inr (4, [.ref (q 33), .ref (q 34), .ref (q 22), .int (σ.1 38)])), (q 33, .inl (d.2.2.1, 128, .inl (σ.2.2 33))), (q 34, .inl (d.2.1, 128, .inl (σ.2.2 34))), (q 35, .inl (d.2.2.2.1, 3, .inr (.inr (.inr (.inr (fun j => if j < 3 then some (q (36 + j)) else none)))))), (q 36, .inr (1, [.ref (q 39), .int (σ.1 40)])), (q 37, .inr (1, [.ref (q 40), .int (σ.1 41)])), (q 38, .inr (1, [.ref (q 41), .int (σ.1 42)])), (q 39, .inl (d.2.1, 40, .inl (σ.2.2 39))), (q 40, .inl (d.2.1, 40, .inl (σ.2.2 40))), (q 41, .inl (d.2.1, 40, .inl (σ.2.2 41))), (q 42, .inl (d.2.1, 6, .inl (σ.2.2 42))), (q 43, .inl (d.2.1, 80, .inl (σ.2.2 43)))]
section LIB
variable {p : Program} {l : Launch} {e : Env} {R : Room} {s : State} {m : MethodId} {args : Array Value} {below : List Frame} {meth : Method} {c : Code} {H : Heap} {locs : List Loc} {Q : State → Prop}
variable {cc : ByteArray} {nL pc : Nat} {ret : Option FieldType} {d : CD} {A : Nat → Prop} {ls : Array Slot} {rest : List Value} {q : Nat → Nat} {σ σ1 : ST} {j : Nat}
theorem lc_X7_64 : Cond.constantLong RX7 64 5 ∈ tb := tb_at 1052 (by decide +kernel) rfl
theorem yc_X7_in : Cond.code yX7_in cX7_in 6 (some .boolean) ∈ tb := tb_at 1055 (by decide +kernel) rfl
theorem yd_X7_in : ydn yX7_in 3 := by decide +kernel
theorem yi_X7 : Cond.initialized "WellLocksModel" ∈ tb := tb_at 87 (by decide +kernel) rfl
theorem ys_X7_in : Cond.static yX7_in ∈ tb := tb_at 1054 (by decide +kernel) rfl
theorem is_7_66 : inS RX7 66 yX7_in cX7_in 6 (some .boolean) 3 := ⟨⟨tb_at 1053 (by decide +kernel) rfl, ys_X7_in, yi_X7, yc_X7_in⟩, yd_X7_in⟩
theorem yc_X7_isRow : Cond.code yX7_isRow cX7_isRow 1 (some .boolean) ∈ tb := tb_at 1051 (by decide +kernel) rfl
theorem yd_X7_isRow : ydn yX7_isRow 1 := by decide +kernel
theorem ys_X7_isRow : Cond.static yX7_isRow ∈ tb := tb_at 1050 (by decide +kernel) rfl
theorem is_7_72 : inS RX7 72 yX7_isRow cX7_isRow 1 (some .boolean) 1 := ⟨⟨tb_at 1049 (by decide +kernel) rfl, ys_X7_isRow, yi_X7, yc_X7_isRow⟩, yd_X7_isRow⟩
theorem inX7 : ∀ x ∈ u_ws RX7 TX7 30, x ∈ tb := fun x h => by
  have e : u_ws RX7 TX7 30 = [984, 986, 988, 990, 992, 994, 996, 998, 1000, 1002, 1004, 1006, 1008, 1010, 1012, 1014, 1016, 1018, 1020, 1022, 1024, 1026, 1028, 1030, 1032, 1034, 1036, 1038, 1040, 1042].filterMap (fun i => lw_tbl[i]?) := by decide +kernel
  rw [e] at h
  obtain ⟨i, -, hi⟩ := List.mem_filterMap.mp h
  refine List.mem_filter.mpr ⟨List.mem_of_getElem? hi, ?_⟩
  have g : (u_ws RX7 TX7 30).all goodWord = true := by decide +kernel
  rw [e] at g
  exact List.all_eq_true.mp g x h
theorem mw_o0 {q : Nat → Nat} {d : CD} {σ : ST} : (mw q d σ)[0]? = some (q 0, .inr (7, [.ref (q 1), .int (σ.1 1), .int (σ.1 2), .int (σ.1 3), .ref (q 2), .ref (q 3), .ref (q 4), .int (σ.1 7), .ref (q 5), .ref (q 6), .ref (q 7), .ref (q 8), .int (σ.1 12), .long (σ.2.1 13), .long (σ.2.1 14), .int (σ.1 15), .ref (q 9), .int (σ.1 17), .int (σ.1 18), .int (σ.1 19), .int (σ.1 20), .int (σ.1 21), .int (σ.1 22), .ref (q 10), .int (σ.1 24), .ref (q 11), .int (σ.1 26), .ref (q 12), .ref (q 13), .ref (q 14)])) := rfl
theorem g_7_25_0 (C : CX p s m args meth c RX7 cc nL ret d A) (hS : HS d A s.heap H locs (mw q d σ)) (hdg : decode cc pc = .ok (.getfield 25, 3)) (kk : W p l e R s m args below meth c H locs 0 0 Q (F0 m (pc + 3) ls (.ref (q 6) :: rest))) : W p l e R s m args below meth c H locs 0 0 Q (F0 m pc ls (.ref (q 0) :: rest)) := gf (j := 9) C hS mw_o0 rfl inX7 (by decide) (tb_at 963 (by decide +kernel) rfl) rfl hdg kk
theorem mw_a6 {q : Nat → Nat} {d : CD} {σ : ST} : (mw q d σ)[6]? = some (q 6, .inl (d.2.1, 240, .inl (σ.2.2 6))) := rfl
theorem mw_s6 {q : Nat → Nat} {d : CD} {σ : ST} (f : Nat → Int32) : (mw q d σ).set 6 (q 6, .inl (d.2.1, 240, .inl f)) = mw q d (setA σ 6 f) := rfl
theorem g_7_22_0 (C : CX p s m args meth c RX7 cc nL ret d A) (hS : HS d A s.heap H locs (mw q d σ)) (hdg : decode cc pc = .ok (.getfield 22, 3)) (kk : W p l e R s m args below meth c H locs 0 0 Q (F0 m (pc + 3) ls (.ref (q 5) :: rest))) : W p l e R s m args below meth c H locs 0 0 Q (F0 m pc ls (.ref (q 0) :: rest)) := gf (j := 8) C hS mw_o0 rfl inX7 (by decide) (tb_at 962 (by decide +kernel) rfl) rfl hdg kk
theorem mw_a5 {q : Nat → Nat} {d : CD} {σ : ST} : (mw q d σ)[5]? = some (q 5, .inl (d.2.1, 6, .inl (σ.2.2 5))) := rfl
theorem mw_s5 {q : Nat → Nat} {d : CD} {σ : ST} (f : Nat → Int32) : (mw q d σ).set 5 (q 5, .inl (d.2.1, 6, .inl f)) = mw q d (setA σ 5 f) := rfl
theorem yc_X7_makeRow : Cond.code yX7_makeRow cX7_makeRow 4 (none) ∈ tb := tb_at 1063 (by decide +kernel) rfl
theorem yd_X7_makeRow : ydn yX7_makeRow 2 := by decide +kernel
theorem yv_X7_makeRow : Cond.instanceMethod yX7_makeRow ∈ tb ∧ Cond.selects yX7_makeRow.cls yX7_makeRow yX7_makeRow ∈ tb := ⟨tb_at 1062 (by decide +kernel) rfl, tb_at 33 (by decide +kernel) rfl⟩
theorem iv_7_80 : inV RX7 80 yX7_makeRow cX7_makeRow 4 (none) 2 := ⟨⟨tb_at 1060 (by decide +kernel) rfl, yv_X7_makeRow.1, yv_X7_makeRow.2, yi_X7, yc_X7_makeRow⟩, yd_X7_makeRow⟩
theorem p_7_57_0 {x : Int32} (C : CX p s m args meth c RX7 cc nL ret d A) (hS : HS d A s.heap H locs (mw q d σ)) (e1 : some (setI σ 15 x) = some σ1) (hdg : decode cc pc = .ok (.putfield 57, 3)) (kk : ∀ (H1 : Heap) (locs1 : List Loc), HS d A s.heap H1 locs1 (mw q d σ1) → W p l e R s m args below meth c H1 locs1 0 0 Q (F0 m (pc + 3) ls rest)) : W p l e R s m args below meth c H locs 0 0 Q (F0 m pc ls (.int x :: .ref (q 0) :: rest)) := by
  cases e1
  exact pf (j := 15) (ty := .int) tyX7 tyX7_ok nmX7 C hS mw_o0 rfl inX7 (by decide) (tb_at 969 (by decide +kernel) rfl) rfl (by decide +kernel) rfl rfl (Nat.le_of_ble_eq_true rfl) rfl hdg kk
theorem g_7_38_0 (C : CX p s m args meth c RX7 cc nL ret d A) (hS : HS d A s.heap H locs (mw q d σ)) (hdg : decode cc pc = .ok (.getfield 38, 3)) (kk : W p l e R s m args below meth c H locs 0 0 Q (F0 m (pc + 3) ls (.ref (q 9) :: rest))) : W p l e R s m args below meth c H locs 0 0 Q (F0 m pc ls (.ref (q 0) :: rest)) := gf (j := 16) C hS mw_o0 rfl inX7 (by decide) (tb_at 970 (by decide +kernel) rfl) rfl hdg kk
theorem mw_a9 {q : Nat → Nat} {d : CD} {σ : ST} : (mw q d σ)[9]? = some (q 9, .inl (d.2.1, 6, .inl (σ.2.2 9))) := rfl
theorem mw_s9 {q : Nat → Nat} {d : CD} {σ : ST} (f : Nat → Int32) : (mw q d σ).set 9 (q 9, .inl (d.2.1, 6, .inl f)) = mw q d (setA σ 9 f) := rfl
theorem yc_X7_find : Cond.code yX7_find cX7_find 2 (some .int) ∈ tb := tb_at 1059 (by decide +kernel) rfl
theorem yd_X7_find : ydn yX7_find 1 := by decide +kernel
theorem yv_X7_find : Cond.instanceMethod yX7_find ∈ tb ∧ Cond.selects yX7_find.cls yX7_find yX7_find ∈ tb := ⟨tb_at 1058 (by decide +kernel) rfl, tb_at 32 (by decide +kernel) rfl⟩
theorem iv_7_76 : inV RX7 76 yX7_find cX7_find 2 (some .int) 1 := ⟨⟨tb_at 1056 (by decide +kernel) rfl, yv_X7_find.1, yv_X7_find.2, yi_X7, yc_X7_find⟩, yd_X7_find⟩
theorem yc_X7_refused : Cond.code yX7_refused cX7_refused 3 (some .int) ∈ tb := tb_at 1071 (by decide +kernel) rfl
theorem yd_X7_refused : ydn yX7_refused 2 := by decide +kernel
theorem yv_X7_refused : Cond.instanceMethod yX7_refused ∈ tb ∧ Cond.selects yX7_refused.cls yX7_refused yX7_refused ∈ tb := ⟨tb_at 1070 (by decide +kernel) rfl, tb_at 34 (by decide +kernel) rfl⟩
theorem iv_7_84 : inV RX7 84 yX7_refused cX7_refused 3 (some .int) 2 := ⟨⟨tb_at 1068 (by decide +kernel) rfl, yv_X7_refused.1, yv_X7_refused.2, yi_X7, yc_X7_refused⟩, yd_X7_refused⟩
theorem p_7_61_0 {x : Int32} (C : CX p s m args meth c RX7 cc nL ret d A) (hS : HS d A s.heap H locs (mw q d σ)) (e1 : some (setI σ 12 x) = some σ1) (hdg : decode cc pc = .ok (.putfield 61, 3)) (kk : ∀ (H1 : Heap) (locs1 : List Loc), HS d A s.heap H1 locs1 (mw q d σ1) → W p l e R s m args below meth c H1 locs1 0 0 Q (F0 m (pc + 3) ls rest)) : W p l e R s m args below meth c H locs 0 0 Q (F0 m pc ls (.int x :: .ref (q 0) :: rest)) := by
  cases e1
  exact pf (j := 12) (ty := .int) tyX7 tyX7_ok nmX7 C hS mw_o0 rfl inX7 (by decide) (tb_at 966 (by decide +kernel) rfl) rfl (by decide +kernel) rfl rfl (Nat.le_of_ble_eq_true rfl) rfl hdg kk
theorem yc_X7_tell : Cond.code yX7_tell cX7_tell 2 (some .int) ∈ tb := tb_at 1075 (by decide +kernel) rfl
theorem yd_X7_tell : ydn yX7_tell 1 := by decide +kernel
theorem yv_X7_tell : Cond.instanceMethod yX7_tell ∈ tb ∧ Cond.selects yX7_tell.cls yX7_tell yX7_tell ∈ tb := ⟨tb_at 1074 (by decide +kernel) rfl, tb_at 35 (by decide +kernel) rfl⟩
theorem iv_7_88 : inV RX7 88 yX7_tell cX7_tell 2 (some .int) 1 := ⟨⟨tb_at 1072 (by decide +kernel) rfl, yv_X7_tell.1, yv_X7_tell.2, yi_X7, yc_X7_tell⟩, yd_X7_tell⟩
theorem yc_X7_isSpan : Cond.code yX7_isSpan cX7_isSpan 4 (some .boolean) ∈ tb := tb_at 1091 (by decide +kernel) rfl
theorem yd_X7_isSpan : ydn yX7_isSpan 3 := by decide +kernel
theorem yv_X7_isSpan : Cond.instanceMethod yX7_isSpan ∈ tb ∧ Cond.selects yX7_isSpan.cls yX7_isSpan yX7_isSpan ∈ tb := ⟨tb_at 1090 (by decide +kernel) rfl, tb_at 36 (by decide +kernel) rfl⟩
theorem iv_7_91 : inV RX7 91 yX7_isSpan cX7_isSpan 4 (some .boolean) 3 := ⟨⟨tb_at 1088 (by decide +kernel) rfl, yv_X7_isSpan.1, yv_X7_isSpan.2, yi_X7, yc_X7_isSpan⟩, yd_X7_isSpan⟩
theorem g_7_31_0 (C : CX p s m args meth c RX7 cc nL ret d A) (hS : HS d A s.heap H locs (mw q d σ)) (hdg : decode cc pc = .ok (.getfield 31, 3)) (kk : W p l e R s m args below meth c H locs 0 0 Q (F0 m (pc + 3) ls (.ref (q 8) :: rest))) : W p l e R s m args below meth c H locs 0 0 Q (F0 m pc ls (.ref (q 0) :: rest)) := gf (j := 11) C hS mw_o0 rfl inX7 (by decide) (tb_at 965 (by decide +kernel) rfl) rfl hdg kk
theorem mw_a8 {q : Nat → Nat} {d : CD} {σ : ST} : (mw q d σ)[8]? = some (q 8, .inl (d.2.1, 320, .inl (σ.2.2 8))) := rfl
theorem mw_s8 {q : Nat → Nat} {d : CD} {σ : ST} (f : Nat → Int32) : (mw q d σ).set 8 (q 8, .inl (d.2.1, 320, .inl f)) = mw q d (setA σ 8 f) := rfl
theorem lc_X7_70 : Cond.constantLong RX7 70 3 ∈ tb := tb_at 1103 (by decide +kernel) rfl
theorem yc_X7_isText : Cond.code yX7_isText cX7_isText 1 (some .boolean) ∈ tb := tb_at 1102 (by decide +kernel) rfl
theorem yd_X7_isText : ydn yX7_isText 1 := by decide +kernel
theorem ys_X7_isText : Cond.static yX7_isText ∈ tb := tb_at 1101 (by decide +kernel) rfl
theorem is_7_95 : inS RX7 95 yX7_isText cX7_isText 1 (some .boolean) 1 := ⟨⟨tb_at 1100 (by decide +kernel) rfl, ys_X7_isText, yi_X7, yc_X7_isText⟩, yd_X7_isText⟩
theorem g_7_28_0 (C : CX p s m args meth c RX7 cc nL ret d A) (hS : HS d A s.heap H locs (mw q d σ)) (hdg : decode cc pc = .ok (.getfield 28, 3)) (kk : W p l e R s m args below meth c H locs 0 0 Q (F0 m (pc + 3) ls (.ref (q 7) :: rest))) : W p l e R s m args below meth c H locs 0 0 Q (F0 m pc ls (.ref (q 0) :: rest)) := gf (j := 10) C hS mw_o0 rfl inX7 (by decide) (tb_at 964 (by decide +kernel) rfl) rfl hdg kk
theorem mw_a7 {q : Nat → Nat} {d : CD} {σ : ST} : (mw q d σ)[7]? = some (q 7, .inl (d.2.1, 4, .inl (σ.2.2 7))) := rfl
theorem mw_s7 {q : Nat → Nat} {d : CD} {σ : ST} (f : Nat → Int32) : (mw q d σ).set 7 (q 7, .inl (d.2.1, 4, .inl f)) = mw q d (setA σ 7 f) := rfl
theorem g_7_101_0 (C : CX p s m args meth c RX7 cc nL ret d A) (hS : HS d A s.heap H locs (mw q d σ)) (hdg : decode cc pc = .ok (.getfield 101, 3)) (kk : W p l e R s m args below meth c H locs 0 0 Q (F0 m (pc + 3) ls (.int (σ.1 18) :: rest))) : W p l e R s m args below meth c H locs 0 0 Q (F0 m pc ls (.ref (q 0) :: rest)) := gf (j := 18) C hS mw_o0 rfl inX7 (by decide) (tb_at 972 (by decide +kernel) rfl) rfl hdg kk
theorem g_7_129_0 (C : CX p s m args meth c RX7 cc nL ret d A) (hS : HS d A s.heap H locs (mw q d σ)) (hdg : decode cc pc = .ok (.getfield 129, 3)) (kk : W p l e R s m args below meth c H locs 0 0 Q (F0 m (pc + 3) ls (.int (σ.1 24) :: rest))) : W p l e R s m args below meth c H locs 0 0 Q (F0 m pc ls (.ref (q 0) :: rest)) := gf (j := 24) C hS mw_o0 rfl inX7 (by decide) (tb_at 978 (by decide +kernel) rfl) rfl hdg kk
theorem g_7_104_0 (C : CX p s m args meth c RX7 cc nL ret d A) (hS : HS d A s.heap H locs (mw q d σ)) (hdg : decode cc pc = .ok (.getfield 104, 3)) (kk : W p l e R s m args below meth c H locs 0 0 Q (F0 m (pc + 3) ls (.int (σ.1 19) :: rest))) : W p l e R s m args below meth c H locs 0 0 Q (F0 m pc ls (.ref (q 0) :: rest)) := gf (j := 19) C hS mw_o0 rfl inX7 (by decide) (tb_at 973 (by decide +kernel) rfl) rfl hdg kk
theorem g_7_98_0 (C : CX p s m args meth c RX7 cc nL ret d A) (hS : HS d A s.heap H locs (mw q d σ)) (hdg : decode cc pc = .ok (.getfield 98, 3)) (kk : W p l e R s m args below meth c H locs 0 0 Q (F0 m (pc + 3) ls (.int (σ.1 17) :: rest))) : W p l e R s m args below meth c H locs 0 0 Q (F0 m pc ls (.ref (q 0) :: rest)) := gf (j := 17) C hS mw_o0 rfl inX7 (by decide) (tb_at 971 (by decide +kernel) rfl) rfl hdg kk
theorem yc_X7_here : Cond.code yX7_here cX7_here 1 (some .int) ∈ tb := tb_at 1127 (by decide +kernel) rfl
theorem yd_X7_here : ydn yX7_here 0 := by decide +kernel
theorem yv_X7_here : Cond.instanceMethod yX7_here ∈ tb ∧ Cond.selects yX7_here.cls yX7_here yX7_here ∈ tb := ⟨tb_at 1126 (by decide +kernel) rfl, tb_at 40 (by decide +kernel) rfl⟩
theorem iv_7_107 : inV RX7 107 yX7_here cX7_here 1 (some .int) 0 := ⟨⟨tb_at 1124 (by decide +kernel) rfl, yv_X7_here.1, yv_X7_here.2, yi_X7, yc_X7_here⟩, yd_X7_here⟩
theorem p_7_101_0 {x : Int32} (C : CX p s m args meth c RX7 cc nL ret d A) (hS : HS d A s.heap H locs (mw q d σ)) (e1 : some (setI σ 18 x) = some σ1) (hdg : decode cc pc = .ok (.putfield 101, 3)) (kk : ∀ (H1 : Heap) (locs1 : List Loc), HS d A s.heap H1 locs1 (mw q d σ1) → W p l e R s m args below meth c H1 locs1 0 0 Q (F0 m (pc + 3) ls rest)) : W p l e R s m args below meth c H locs 0 0 Q (F0 m pc ls (.int x :: .ref (q 0) :: rest)) := by
  cases e1
  exact pf (j := 18) (ty := .int) tyX7 tyX7_ok nmX7 C hS mw_o0 rfl inX7 (by decide) (tb_at 972 (by decide +kernel) rfl) rfl (by decide +kernel) rfl rfl (Nat.le_of_ble_eq_true rfl) rfl hdg kk
theorem yc_X7_skip : Cond.code yX7_skip cX7_skip 1 (none) ∈ tb := tb_at 1123 (by decide +kernel) rfl
theorem yd_X7_skip : ydn yX7_skip 0 := by decide +kernel
theorem yv_X7_skip : Cond.instanceMethod yX7_skip ∈ tb ∧ Cond.selects yX7_skip.cls yX7_skip yX7_skip ∈ tb := ⟨tb_at 1122 (by decide +kernel) rfl, tb_at 39 (by decide +kernel) rfl⟩
theorem iv_7_111 : inV RX7 111 yX7_skip cX7_skip 1 (none) 0 := ⟨⟨tb_at 1120 (by decide +kernel) rfl, yv_X7_skip.1, yv_X7_skip.2, yi_X7, yc_X7_skip⟩, yd_X7_skip⟩
theorem yc_X7_kindOfLetter : Cond.code yX7_kindOfLetter cX7_kindOfLetter 1 (some .int) ∈ tb := tb_at 1145 (by decide +kernel) rfl
theorem yd_X7_kindOfLetter : ydn yX7_kindOfLetter 1 := by decide +kernel
theorem ys_X7_kindOfLetter : Cond.static yX7_kindOfLetter ∈ tb := tb_at 1144 (by decide +kernel) rfl
theorem is_7_126 : inS RX7 126 yX7_kindOfLetter cX7_kindOfLetter 1 (some .int) 1 := ⟨⟨tb_at 1143 (by decide +kernel) rfl, ys_X7_kindOfLetter, yi_X7, yc_X7_kindOfLetter⟩, yd_X7_kindOfLetter⟩
theorem g_7_132_0 (C : CX p s m args meth c RX7 cc nL ret d A) (hS : HS d A s.heap H locs (mw q d σ)) (hdg : decode cc pc = .ok (.getfield 132, 3)) (kk : W p l e R s m args below meth c H locs 0 0 Q (F0 m (pc + 3) ls (.int (σ.1 26) :: rest))) : W p l e R s m args below meth c H locs 0 0 Q (F0 m pc ls (.ref (q 0) :: rest)) := gf (j := 26) C hS mw_o0 rfl inX7 (by decide) (tb_at 980 (by decide +kernel) rfl) rfl hdg kk
theorem yc_X7_figure : Cond.code yX7_figure cX7_figure 3 (some .int) ∈ tb := tb_at 1131 (by decide +kernel) rfl
theorem yd_X7_figure : ydn yX7_figure 2 := by decide +kernel
theorem yv_X7_figure : Cond.instanceMethod yX7_figure ∈ tb ∧ Cond.selects yX7_figure.cls yX7_figure yX7_figure ∈ tb := ⟨tb_at 1130 (by decide +kernel) rfl, tb_at 41 (by decide +kernel) rfl⟩
theorem iv_7_114 : inV RX7 114 yX7_figure cX7_figure 3 (some .int) 2 := ⟨⟨tb_at 1128 (by decide +kernel) rfl, yv_X7_figure.1, yv_X7_figure.2, yi_X7, yc_X7_figure⟩, yd_X7_figure⟩
theorem g_7_41_0 (C : CX p s m args meth c RX7 cc nL ret d A) (hS : HS d A s.heap H locs (mw q d σ)) (hdg : decode cc pc = .ok (.getfield 41, 3)) (kk : W p l e R s m args below meth c H locs 0 0 Q (F0 m (pc + 3) ls (.ref (q 10) :: rest))) : W p l e R s m args below meth c H locs 0 0 Q (F0 m pc ls (.ref (q 0) :: rest)) := gf (j := 23) C hS mw_o0 rfl inX7 (by decide) (tb_at 977 (by decide +kernel) rfl) rfl hdg kk
theorem mw_a10 {q : Nat → Nat} {d : CD} {σ : ST} : (mw q d σ)[10]? = some (q 10, .inl (d.2.1, 14, .inl (σ.2.2 10))) := rfl
theorem mw_s10 {q : Nat → Nat} {d : CD} {σ : ST} (f : Nat → Int32) : (mw q d σ).set 10 (q 10, .inl (d.2.1, 14, .inl f)) = mw q d (setA σ 10 f) := rfl
theorem p_7_129_0 {x : Int32} (C : CX p s m args meth c RX7 cc nL ret d A) (hS : HS d A s.heap H locs (mw q d σ)) (e1 : some (setI σ 24 x) = some σ1) (hdg : decode cc pc = .ok (.putfield 129, 3)) (kk : ∀ (H1 : Heap) (locs1 : List Loc), HS d A s.heap H1 locs1 (mw q d σ1) → W p l e R s m args below meth c H1 locs1 0 0 Q (F0 m (pc + 3) ls rest)) : W p l e R s m args below meth c H locs 0 0 Q (F0 m pc ls (.int x :: .ref (q 0) :: rest)) := by
  cases e1
  exact pf (j := 24) (ty := .int) tyX7 tyX7_ok nmX7 C hS mw_o0 rfl inX7 (by decide) (tb_at 978 (by decide +kernel) rfl) rfl (by decide +kernel) rfl rfl (Nat.le_of_ble_eq_true rfl) rfl hdg kk
theorem yc_X7_readsHouse : Cond.code yX7_readsHouse cX7_readsHouse 3 (some .boolean) ∈ tb := tb_at 1142 (by decide +kernel) rfl
theorem yd_X7_readsHouse : ydn yX7_readsHouse 0 := by decide +kernel
theorem yv_X7_readsHouse : Cond.instanceMethod yX7_readsHouse ∈ tb ∧ Cond.selects yX7_readsHouse.cls yX7_readsHouse yX7_readsHouse ∈ tb := ⟨tb_at 1141 (by decide +kernel) rfl, tb_at 43 (by decide +kernel) rfl⟩
theorem iv_7_146 : inV RX7 146 yX7_readsHouse cX7_readsHouse 3 (some .boolean) 0 := ⟨⟨tb_at 1139 (by decide +kernel) rfl, yv_X7_readsHouse.1, yv_X7_readsHouse.2, yi_X7, yc_X7_readsHouse⟩, yd_X7_readsHouse⟩
theorem g_7_44_0 (C : CX p s m args meth c RX7 cc nL ret d A) (hS : HS d A s.heap H locs (mw q d σ)) (hdg : decode cc pc = .ok (.getfield 44, 3)) (kk : W p l e R s m args below meth c H locs 0 0 Q (F0 m (pc + 3) ls (.ref (q 11) :: rest))) : W p l e R s m args below meth c H locs 0 0 Q (F0 m pc ls (.ref (q 0) :: rest)) := gf (j := 25) C hS mw_o0 rfl inX7 (by decide) (tb_at 979 (by decide +kernel) rfl) rfl hdg kk
theorem mw_a11 {q : Nat → Nat} {d : CD} {σ : ST} : (mw q d σ)[11]? = some (q 11, .inl (d.2.1, 7, .inl (σ.2.2 11))) := rfl
theorem mw_s11 {q : Nat → Nat} {d : CD} {σ : ST} (f : Nat → Int32) : (mw q d σ).set 11 (q 11, .inl (d.2.1, 7, .inl f)) = mw q d (setA σ 11 f) := rfl
theorem yc_X7_has : Cond.code yX7_has cX7_has 2 (some .boolean) ∈ tb := tb_at 1138 (by decide +kernel) rfl
theorem yd_X7_has : ydn yX7_has 2 := by decide +kernel
theorem ys_X7_has : Cond.static yX7_has ∈ tb := tb_at 1137 (by decide +kernel) rfl
theorem is_7_135 : inS RX7 135 yX7_has cX7_has 2 (some .boolean) 2 := ⟨⟨tb_at 1136 (by decide +kernel) rfl, ys_X7_has, yi_X7, yc_X7_has⟩, yd_X7_has⟩
theorem p_7_132_0 {x : Int32} (C : CX p s m args meth c RX7 cc nL ret d A) (hS : HS d A s.heap H locs (mw q d σ)) (e1 : some (setI σ 26 x) = some σ1) (hdg : decode cc pc = .ok (.putfield 132, 3)) (kk : ∀ (H1 : Heap) (locs1 : List Loc), HS d A s.heap H1 locs1 (mw q d σ1) → W p l e R s m args below meth c H1 locs1 0 0 Q (F0 m (pc + 3) ls rest)) : W p l e R s m args below meth c H locs 0 0 Q (F0 m pc ls (.int x :: .ref (q 0) :: rest)) := by
  cases e1
  exact pf (j := 26) (ty := .int) tyX7 tyX7_ok nmX7 C hS mw_o0 rfl inX7 (by decide) (tb_at 980 (by decide +kernel) rfl) rfl (by decide +kernel) rfl rfl (Nat.le_of_ble_eq_true rfl) rfl hdg kk
theorem yc_X7_readsFeud : Cond.code yX7_readsFeud cX7_readsFeud 3 (some .boolean) ∈ tb := tb_at 1135 (by decide +kernel) rfl
theorem yd_X7_readsFeud : ydn yX7_readsFeud 0 := by decide +kernel
theorem yv_X7_readsFeud : Cond.instanceMethod yX7_readsFeud ∈ tb ∧ Cond.selects yX7_readsFeud.cls yX7_readsFeud yX7_readsFeud ∈ tb := ⟨tb_at 1134 (by decide +kernel) rfl, tb_at 42 (by decide +kernel) rfl⟩
theorem iv_7_143 : inV RX7 143 yX7_readsFeud cX7_readsFeud 3 (some .boolean) 0 := ⟨⟨tb_at 1132 (by decide +kernel) rfl, yv_X7_readsFeud.1, yv_X7_readsFeud.2, yi_X7, yc_X7_readsFeud⟩, yd_X7_readsFeud⟩
theorem p_7_123_0 {x : Int32} (C : CX p s m args meth c RX7 cc nL ret d A) (hS : HS d A s.heap H locs (mw q d σ)) (e1 : some (setI σ 22 x) = some σ1) (hdg : decode cc pc = .ok (.putfield 123, 3)) (kk : ∀ (H1 : Heap) (locs1 : List Loc), HS d A s.heap H1 locs1 (mw q d σ1) → W p l e R s m args below meth c H1 locs1 0 0 Q (F0 m (pc + 3) ls rest)) : W p l e R s m args below meth c H locs 0 0 Q (F0 m pc ls (.int x :: .ref (q 0) :: rest)) := by
  cases e1
  exact pf (j := 22) (ty := .int) tyX7 tyX7_ok nmX7 C hS mw_o0 rfl inX7 (by decide) (tb_at 976 (by decide +kernel) rfl) rfl (by decide +kernel) rfl rfl (Nat.le_of_ble_eq_true rfl) rfl hdg kk
theorem g_7_123_0 (C : CX p s m args meth c RX7 cc nL ret d A) (hS : HS d A s.heap H locs (mw q d σ)) (hdg : decode cc pc = .ok (.getfield 123, 3)) (kk : W p l e R s m args below meth c H locs 0 0 Q (F0 m (pc + 3) ls (.int (σ.1 22) :: rest))) : W p l e R s m args below meth c H locs 0 0 Q (F0 m pc ls (.ref (q 0) :: rest)) := gf (j := 22) C hS mw_o0 rfl inX7 (by decide) (tb_at 976 (by decide +kernel) rfl) rfl hdg kk
theorem p_7_120_0 {x : Int32} (C : CX p s m args meth c RX7 cc nL ret d A) (hS : HS d A s.heap H locs (mw q d σ)) (e1 : some (setI σ 21 x) = some σ1) (hdg : decode cc pc = .ok (.putfield 120, 3)) (kk : ∀ (H1 : Heap) (locs1 : List Loc), HS d A s.heap H1 locs1 (mw q d σ1) → W p l e R s m args below meth c H1 locs1 0 0 Q (F0 m (pc + 3) ls rest)) : W p l e R s m args below meth c H locs 0 0 Q (F0 m pc ls (.int x :: .ref (q 0) :: rest)) := by
  cases e1
  exact pf (j := 21) (ty := .int) tyX7 tyX7_ok nmX7 C hS mw_o0 rfl inX7 (by decide) (tb_at 975 (by decide +kernel) rfl) rfl (by decide +kernel) rfl rfl (Nat.le_of_ble_eq_true rfl) rfl hdg kk
theorem p_7_117_0 {x : Int32} (C : CX p s m args meth c RX7 cc nL ret d A) (hS : HS d A s.heap H locs (mw q d σ)) (e1 : some (setI σ 20 x) = some σ1) (hdg : decode cc pc = .ok (.putfield 117, 3)) (kk : ∀ (H1 : Heap) (locs1 : List Loc), HS d A s.heap H1 locs1 (mw q d σ1) → W p l e R s m args below meth c H1 locs1 0 0 Q (F0 m (pc + 3) ls rest)) : W p l e R s m args below meth c H locs 0 0 Q (F0 m pc ls (.int x :: .ref (q 0) :: rest)) := by
  cases e1
  exact pf (j := 20) (ty := .int) tyX7 tyX7_ok nmX7 C hS mw_o0 rfl inX7 (by decide) (tb_at 974 (by decide +kernel) rfl) rfl (by decide +kernel) rfl rfl (Nat.le_of_ble_eq_true rfl) rfl hdg kk
theorem g_7_117_0 (C : CX p s m args meth c RX7 cc nL ret d A) (hS : HS d A s.heap H locs (mw q d σ)) (hdg : decode cc pc = .ok (.getfield 117, 3)) (kk : W p l e R s m args below meth c H locs 0 0 Q (F0 m (pc + 3) ls (.int (σ.1 20) :: rest))) : W p l e R s m args below meth c H locs 0 0 Q (F0 m pc ls (.ref (q 0) :: rest)) := gf (j := 20) C hS mw_o0 rfl inX7 (by decide) (tb_at 974 (by decide +kernel) rfl) rfl hdg kk
theorem yc_X7_readsWell : Cond.code yX7_readsWell cX7_readsWell 3 (some .boolean) ∈ tb := tb_at 1119 (by decide +kernel) rfl
theorem yd_X7_readsWell : ydn yX7_readsWell 0 := by decide +kernel
theorem yv_X7_readsWell : Cond.instanceMethod yX7_readsWell ∈ tb ∧ Cond.selects yX7_readsWell.cls yX7_readsWell yX7_readsWell ∈ tb := ⟨tb_at 1118 (by decide +kernel) rfl, tb_at 38 (by decide +kernel) rfl⟩
theorem iv_7_139 : inV RX7 139 yX7_readsWell cX7_readsWell 3 (some .boolean) 0 := ⟨⟨tb_at 1116 (by decide +kernel) rfl, yv_X7_readsWell.1, yv_X7_readsWell.2, yi_X7, yc_X7_readsWell⟩, yd_X7_readsWell⟩
theorem p_7_98_0 {x : Int32} (C : CX p s m args meth c RX7 cc nL ret d A) (hS : HS d A s.heap H locs (mw q d σ)) (e1 : some (setI σ 17 x) = some σ1) (hdg : decode cc pc = .ok (.putfield 98, 3)) (kk : ∀ (H1 : Heap) (locs1 : List Loc), HS d A s.heap H1 locs1 (mw q d σ1) → W p l e R s m args below meth c H1 locs1 0 0 Q (F0 m (pc + 3) ls rest)) : W p l e R s m args below meth c H locs 0 0 Q (F0 m pc ls (.int x :: .ref (q 0) :: rest)) := by
  cases e1
  exact pf (j := 17) (ty := .int) tyX7 tyX7_ok nmX7 C hS mw_o0 rfl inX7 (by decide) (tb_at 971 (by decide +kernel) rfl) rfl (by decide +kernel) rfl rfl (Nat.le_of_ble_eq_true rfl) rfl hdg kk
theorem p_7_104_0 {x : Int32} (C : CX p s m args meth c RX7 cc nL ret d A) (hS : HS d A s.heap H locs (mw q d σ)) (e1 : some (setI σ 19 x) = some σ1) (hdg : decode cc pc = .ok (.putfield 104, 3)) (kk : ∀ (H1 : Heap) (locs1 : List Loc), HS d A s.heap H1 locs1 (mw q d σ1) → W p l e R s m args below meth c H1 locs1 0 0 Q (F0 m (pc + 3) ls rest)) : W p l e R s m args below meth c H locs 0 0 Q (F0 m pc ls (.int x :: .ref (q 0) :: rest)) := by
  cases e1
  exact pf (j := 19) (ty := .int) tyX7 tyX7_ok nmX7 C hS mw_o0 rfl inX7 (by decide) (tb_at 973 (by decide +kernel) rfl) rfl (by decide +kernel) rfl rfl (Nat.le_of_ble_eq_true rfl) rfl hdg kk
theorem yc_X7_faultOf : Cond.code yX7_faultOf cX7_faultOf 3 (some .int) ∈ tb := tb_at 1115 (by decide +kernel) rfl
theorem yd_X7_faultOf : ydn yX7_faultOf 1 := by decide +kernel
theorem yv_X7_faultOf : Cond.instanceMethod yX7_faultOf ∈ tb ∧ Cond.selects yX7_faultOf.cls yX7_faultOf yX7_faultOf ∈ tb := ⟨tb_at 1114 (by decide +kernel) rfl, tb_at 37 (by decide +kernel) rfl⟩
theorem iv_7_149 : inV RX7 149 yX7_faultOf cX7_faultOf 3 (some .int) 1 := ⟨⟨tb_at 1112 (by decide +kernel) rfl, yv_X7_faultOf.1, yv_X7_faultOf.2, yi_X7, yc_X7_faultOf⟩, yd_X7_faultOf⟩
theorem g_7_158_0 (C : CX p s m args meth c RX7 cc nL ret d A) (hS : HS d A s.heap H locs (mw q d σ)) (hdg : decode cc pc = .ok (.getfield 158, 3)) (kk : W p l e R s m args below meth c H locs 0 0 Q (F0 m (pc + 3) ls (.int (σ.1 3) :: rest))) : W p l e R s m args below meth c H locs 0 0 Q (F0 m pc ls (.ref (q 0) :: rest)) := gf (j := 3) C hS mw_o0 rfl inX7 (by decide) (tb_at 957 (by decide +kernel) rfl) rfl hdg kk
theorem g_7_7_0 (C : CX p s m args meth c RX7 cc nL ret d A) (hS : HS d A s.heap H locs (mw q d σ)) (hdg : decode cc pc = .ok (.getfield 7, 3)) (kk : W p l e R s m args below meth c H locs 0 0 Q (F0 m (pc + 3) ls (.ref (q 1) :: rest))) : W p l e R s m args below meth c H locs 0 0 Q (F0 m pc ls (.ref (q 0) :: rest)) := gf (j := 0) C hS mw_o0 rfl inX7 (by decide) (tb_at 954 (by decide +kernel) rfl) rfl hdg kk
theorem mw_a1 {q : Nat → Nat} {d : CD} {σ : ST} : (mw q d σ)[1]? = some (q 1, .inl (d.2.1, 3776, .inl (σ.2.2 1))) := rfl
theorem mw_s1 {q : Nat → Nat} {d : CD} {σ : ST} (f : Nat → Int32) : (mw q d σ).set 1 (q 1, .inl (d.2.1, 3776, .inl f)) = mw q d (setA σ 1 f) := rfl
theorem mw_a3 {q : Nat → Nat} {d : CD} {σ : ST} : (mw q d σ)[3]? = some (q 3, .inl (d.2.1, 7, .inl (σ.2.2 3))) := rfl
theorem mw_s3 {q : Nat → Nat} {d : CD} {σ : ST} (f : Nat → Int32) : (mw q d σ).set 3 (q 3, .inl (d.2.1, 7, .inl f)) = mw q d (setA σ 3 f) := rfl
theorem g_7_19_0 (C : CX p s m args meth c RX7 cc nL ret d A) (hS : HS d A s.heap H locs (mw q d σ)) (hdg : decode cc pc = .ok (.getfield 19, 3)) (kk : W p l e R s m args below meth c H locs 0 0 Q (F0 m (pc + 3) ls (.ref (q 4) :: rest))) : W p l e R s m args below meth c H locs 0 0 Q (F0 m pc ls (.ref (q 0) :: rest)) := gf (j := 6) C hS mw_o0 rfl inX7 (by decide) (tb_at 960 (by decide +kernel) rfl) rfl hdg kk
theorem mw_a4 {q : Nat → Nat} {d : CD} {σ : ST} : (mw q d σ)[4]? = some (q 4, .inl (d.2.1, 7, .inl (σ.2.2 4))) := rfl
theorem mw_s4 {q : Nat → Nat} {d : CD} {σ : ST} (f : Nat → Int32) : (mw q d σ).set 4 (q 4, .inl (d.2.1, 7, .inl f)) = mw q d (setA σ 4 f) := rfl
theorem mw_a2 {q : Nat → Nat} {d : CD} {σ : ST} : (mw q d σ)[2]? = some (q 2, .inl (d.2.1, 7, .inl (σ.2.2 2))) := rfl
theorem mw_s2 {q : Nat → Nat} {d : CD} {σ : ST} (f : Nat → Int32) : (mw q d σ).set 2 (q 2, .inl (d.2.1, 7, .inl f)) = mw q d (setA σ 2 f) := rfl
theorem g_7_16_0 (C : CX p s m args meth c RX7 cc nL ret d A) (hS : HS d A s.heap H locs (mw q d σ)) (hdg : decode cc pc = .ok (.getfield 16, 3)) (kk : W p l e R s m args below meth c H locs 0 0 Q (F0 m (pc + 3) ls (.ref (q 3) :: rest))) : W p l e R s m args below meth c H locs 0 0 Q (F0 m pc ls (.ref (q 0) :: rest)) := gf (j := 5) C hS mw_o0 rfl inX7 (by decide) (tb_at 959 (by decide +kernel) rfl) rfl hdg kk
theorem g_7_13_0 (C : CX p s m args meth c RX7 cc nL ret d A) (hS : HS d A s.heap H locs (mw q d σ)) (hdg : decode cc pc = .ok (.getfield 13, 3)) (kk : W p l e R s m args below meth c H locs 0 0 Q (F0 m (pc + 3) ls (.ref (q 2) :: rest))) : W p l e R s m args below meth c H locs 0 0 Q (F0 m pc ls (.ref (q 0) :: rest)) := gf (j := 4) C hS mw_o0 rfl inX7 (by decide) (tb_at 958 (by decide +kernel) rfl) rfl hdg kk
theorem g_7_120_0 (C : CX p s m args meth c RX7 cc nL ret d A) (hS : HS d A s.heap H locs (mw q d σ)) (hdg : decode cc pc = .ok (.getfield 120, 3)) (kk : W p l e R s m args below meth c H locs 0 0 Q (F0 m (pc + 3) ls (.int (σ.1 21) :: rest))) : W p l e R s m args below meth c H locs 0 0 Q (F0 m pc ls (.ref (q 0) :: rest)) := gf (j := 21) C hS mw_o0 rfl inX7 (by decide) (tb_at 975 (by decide +kernel) rfl) rfl hdg kk
theorem p_7_152_0 {x : Int32} (C : CX p s m args meth c RX7 cc nL ret d A) (hS : HS d A s.heap H locs (mw q d σ)) (e1 : some (setI σ 1 x) = some σ1) (hdg : decode cc pc = .ok (.putfield 152, 3)) (kk : ∀ (H1 : Heap) (locs1 : List Loc), HS d A s.heap H1 locs1 (mw q d σ1) → W p l e R s m args below meth c H1 locs1 0 0 Q (F0 m (pc + 3) ls rest)) : W p l e R s m args below meth c H locs 0 0 Q (F0 m pc ls (.int x :: .ref (q 0) :: rest)) := by
  cases e1
  exact pf (j := 1) (ty := .int) tyX7 tyX7_ok nmX7 C hS mw_o0 rfl inX7 (by decide) (tb_at 955 (by decide +kernel) rfl) rfl (by decide +kernel) rfl rfl (Nat.le_of_ble_eq_true rfl) rfl hdg kk
theorem p_7_155_0 {x : Int32} (C : CX p s m args meth c RX7 cc nL ret d A) (hS : HS d A s.heap H locs (mw q d σ)) (e1 : some (setI σ 2 x) = some σ1) (hdg : decode cc pc = .ok (.putfield 155, 3)) (kk : ∀ (H1 : Heap) (locs1 : List Loc), HS d A s.heap H1 locs1 (mw q d σ1) → W p l e R s m args below meth c H1 locs1 0 0 Q (F0 m (pc + 3) ls rest)) : W p l e R s m args below meth c H locs 0 0 Q (F0 m pc ls (.int x :: .ref (q 0) :: rest)) := by
  cases e1
  exact pf (j := 2) (ty := .int) tyX7 tyX7_ok nmX7 C hS mw_o0 rfl inX7 (by decide) (tb_at 956 (by decide +kernel) rfl) rfl (by decide +kernel) rfl rfl (Nat.le_of_ble_eq_true rfl) rfl hdg kk
theorem p_7_158_0 {x : Int32} (C : CX p s m args meth c RX7 cc nL ret d A) (hS : HS d A s.heap H locs (mw q d σ)) (e1 : some (setI σ 3 x) = some σ1) (hdg : decode cc pc = .ok (.putfield 158, 3)) (kk : ∀ (H1 : Heap) (locs1 : List Loc), HS d A s.heap H1 locs1 (mw q d σ1) → W p l e R s m args below meth c H1 locs1 0 0 Q (F0 m (pc + 3) ls rest)) : W p l e R s m args below meth c H locs 0 0 Q (F0 m pc ls (.int x :: .ref (q 0) :: rest)) := by
  cases e1
  exact pf (j := 3) (ty := .int) tyX7 tyX7_ok nmX7 C hS mw_o0 rfl inX7 (by decide) (tb_at 957 (by decide +kernel) rfl) rfl (by decide +kernel) rfl rfl (Nat.le_of_ble_eq_true rfl) rfl hdg kk
theorem p_7_161_0 {x : Int32} (C : CX p s m args meth c RX7 cc nL ret d A) (hS : HS d A s.heap H locs (mw q d σ)) (e1 : some (setI σ 7 x) = some σ1) (hdg : decode cc pc = .ok (.putfield 161, 3)) (kk : ∀ (H1 : Heap) (locs1 : List Loc), HS d A s.heap H1 locs1 (mw q d σ1) → W p l e R s m args below meth c H1 locs1 0 0 Q (F0 m (pc + 3) ls rest)) : W p l e R s m args below meth c H locs 0 0 Q (F0 m pc ls (.int x :: .ref (q 0) :: rest)) := by
  cases e1
  exact pf (j := 7) (ty := .int) tyX7 tyX7_ok nmX7 C hS mw_o0 rfl inX7 (by decide) (tb_at 961 (by decide +kernel) rfl) rfl (by decide +kernel) rfl rfl (Nat.le_of_ble_eq_true rfl) rfl hdg kk
theorem yc_X7_isHouse : Cond.code yX7_isHouse cX7_isHouse 2 (some .boolean) ∈ tb := tb_at 1157 (by decide +kernel) rfl
theorem yd_X7_isHouse : ydn yX7_isHouse 1 := by decide +kernel
theorem yv_X7_isHouse : Cond.instanceMethod yX7_isHouse ∈ tb ∧ Cond.selects yX7_isHouse.cls yX7_isHouse yX7_isHouse ∈ tb := ⟨tb_at 1156 (by decide +kernel) rfl, tb_at 44 (by decide +kernel) rfl⟩
theorem iv_7_179 : inV RX7 179 yX7_isHouse cX7_isHouse 2 (some .boolean) 1 := ⟨⟨tb_at 1154 (by decide +kernel) rfl, yv_X7_isHouse.1, yv_X7_isHouse.2, yi_X7, yc_X7_isHouse⟩, yd_X7_isHouse⟩
theorem lc_X7_182 : Cond.constantLong RX7 182 6 ∈ tb := tb_at 1158 (by decide +kernel) rfl
theorem yc_X7_keyWeight : Cond.code yX7_keyWeight cX7_keyWeight 2 (some .int) ∈ tb := tb_at 1166 (by decide +kernel) rfl
theorem yd_X7_keyWeight : ydn yX7_keyWeight 1 := by decide +kernel
theorem yv_X7_keyWeight : Cond.instanceMethod yX7_keyWeight ∈ tb ∧ Cond.selects yX7_keyWeight.cls yX7_keyWeight yX7_keyWeight ∈ tb := ⟨tb_at 1165 (by decide +kernel) rfl, tb_at 46 (by decide +kernel) rfl⟩
theorem iv_7_167 : inV RX7 167 yX7_keyWeight cX7_keyWeight 2 (some .int) 1 := ⟨⟨tb_at 1163 (by decide +kernel) rfl, yv_X7_keyWeight.1, yv_X7_keyWeight.2, yi_X7, yc_X7_keyWeight⟩, yd_X7_keyWeight⟩
theorem yc_X7_toldOf : Cond.code yX7_toldOf cX7_toldOf 3 (some .int) ∈ tb := tb_at 1162 (by decide +kernel) rfl
theorem yd_X7_toldOf : ydn yX7_toldOf 2 := by decide +kernel
theorem yv_X7_toldOf : Cond.instanceMethod yX7_toldOf ∈ tb ∧ Cond.selects yX7_toldOf.cls yX7_toldOf yX7_toldOf ∈ tb := ⟨tb_at 1161 (by decide +kernel) rfl, tb_at 45 (by decide +kernel) rfl⟩
theorem iv_7_184 : inV RX7 184 yX7_toldOf cX7_toldOf 3 (some .int) 2 := ⟨⟨tb_at 1159 (by decide +kernel) rfl, yv_X7_toldOf.1, yv_X7_toldOf.2, yi_X7, yc_X7_toldOf⟩, yd_X7_toldOf⟩
theorem yc_X7_isOf : Cond.code yX7_isOf cX7_isOf 3 (some .boolean) ∈ tb := tb_at 1174 (by decide +kernel) rfl
theorem yd_X7_isOf : ydn yX7_isOf 2 := by decide +kernel
theorem yv_X7_isOf : Cond.instanceMethod yX7_isOf ∈ tb ∧ Cond.selects yX7_isOf.cls yX7_isOf yX7_isOf ∈ tb := ⟨tb_at 1173 (by decide +kernel) rfl, tb_at 47 (by decide +kernel) rfl⟩
theorem iv_7_190 : inV RX7 190 yX7_isOf cX7_isOf 3 (some .boolean) 2 := ⟨⟨tb_at 1171 (by decide +kernel) rfl, yv_X7_isOf.1, yv_X7_isOf.2, yi_X7, yc_X7_isOf⟩, yd_X7_isOf⟩
theorem yc_X7_keysHeld : Cond.code yX7_keysHeld cX7_keysHeld 4 (some .int) ∈ tb := tb_at 1202 (by decide +kernel) rfl
theorem yd_X7_keysHeld : ydn yX7_keysHeld 1 := by decide +kernel
theorem yv_X7_keysHeld : Cond.instanceMethod yX7_keysHeld ∈ tb ∧ Cond.selects yX7_keysHeld.cls yX7_keysHeld yX7_keysHeld ∈ tb := ⟨tb_at 1201 (by decide +kernel) rfl, tb_at 54 (by decide +kernel) rfl⟩
theorem iv_7_196 : inV RX7 196 yX7_keysHeld cX7_keysHeld 4 (some .int) 1 := ⟨⟨tb_at 1199 (by decide +kernel) rfl, yv_X7_keysHeld.1, yv_X7_keysHeld.2, yi_X7, yc_X7_keysHeld⟩, yd_X7_keysHeld⟩
theorem yc_X7_wants : Cond.code yX7_wants cX7_wants 2 (some .int) ∈ tb := tb_at 1198 (by decide +kernel) rfl
theorem yd_X7_wants : ydn yX7_wants 1 := by decide +kernel
theorem yv_X7_wants : Cond.instanceMethod yX7_wants ∈ tb ∧ Cond.selects yX7_wants.cls yX7_wants yX7_wants ∈ tb := ⟨tb_at 1197 (by decide +kernel) rfl, tb_at 53 (by decide +kernel) rfl⟩
theorem iv_7_176 : inV RX7 176 yX7_wants cX7_wants 2 (some .int) 1 := ⟨⟨tb_at 1195 (by decide +kernel) rfl, yv_X7_wants.1, yv_X7_wants.2, yi_X7, yc_X7_wants⟩, yd_X7_wants⟩
theorem yc_X7_all : Cond.code yX7_all cX7_all 1 (some .int) ∈ tb := tb_at 1182 (by decide +kernel) rfl
theorem yd_X7_all : ydn yX7_all 0 := by decide +kernel
theorem yv_X7_all : Cond.instanceMethod yX7_all ∈ tb ∧ Cond.selects yX7_all.cls yX7_all yX7_all ∈ tb := ⟨tb_at 1181 (by decide +kernel) rfl, tb_at 49 (by decide +kernel) rfl⟩
theorem iv_7_164 : inV RX7 164 yX7_all cX7_all 1 (some .int) 0 := ⟨⟨tb_at 1179 (by decide +kernel) rfl, yv_X7_all.1, yv_X7_all.2, yi_X7, yc_X7_all⟩, yd_X7_all⟩
theorem yc_X7_weightOf : Cond.code yX7_weightOf cX7_weightOf 5 (some .int) ∈ tb := tb_at 1190 (by decide +kernel) rfl
theorem yd_X7_weightOf : ydn yX7_weightOf 1 := by decide +kernel
theorem yv_X7_weightOf : Cond.instanceMethod yX7_weightOf ∈ tb ∧ Cond.selects yX7_weightOf.cls yX7_weightOf yX7_weightOf ∈ tb := ⟨tb_at 1189 (by decide +kernel) rfl, tb_at 51 (by decide +kernel) rfl⟩
theorem iv_7_170 : inV RX7 170 yX7_weightOf cX7_weightOf 5 (some .int) 1 := ⟨⟨tb_at 1187 (by decide +kernel) rfl, yv_X7_weightOf.1, yv_X7_weightOf.2, yi_X7, yc_X7_weightOf⟩, yd_X7_weightOf⟩
theorem g_7_152_0 (C : CX p s m args meth c RX7 cc nL ret d A) (hS : HS d A s.heap H locs (mw q d σ)) (hdg : decode cc pc = .ok (.getfield 152, 3)) (kk : W p l e R s m args below meth c H locs 0 0 Q (F0 m (pc + 3) ls (.int (σ.1 1) :: rest))) : W p l e R s m args below meth c H locs 0 0 Q (F0 m pc ls (.ref (q 0) :: rest)) := gf (j := 1) C hS mw_o0 rfl inX7 (by decide) (tb_at 955 (by decide +kernel) rfl) rfl hdg kk
theorem yc_X7_isPeace : Cond.code yX7_isPeace cX7_isPeace 4 (some .boolean) ∈ tb := tb_at 1194 (by decide +kernel) rfl
theorem yd_X7_isPeace : ydn yX7_isPeace 1 := by decide +kernel
theorem yv_X7_isPeace : Cond.instanceMethod yX7_isPeace ∈ tb ∧ Cond.selects yX7_isPeace.cls yX7_isPeace yX7_isPeace ∈ tb := ⟨tb_at 1193 (by decide +kernel) rfl, tb_at 52 (by decide +kernel) rfl⟩
theorem iv_7_173 : inV RX7 173 yX7_isPeace cX7_isPeace 4 (some .boolean) 1 := ⟨⟨tb_at 1191 (by decide +kernel) rfl, yv_X7_isPeace.1, yv_X7_isPeace.2, yi_X7, yc_X7_isPeace⟩, yd_X7_isPeace⟩
theorem yc_X7_isOpen : Cond.code yX7_isOpen cX7_isOpen 2 (some .boolean) ∈ tb := tb_at 1186 (by decide +kernel) rfl
theorem yd_X7_isOpen : ydn yX7_isOpen 1 := by decide +kernel
theorem yv_X7_isOpen : Cond.instanceMethod yX7_isOpen ∈ tb ∧ Cond.selects yX7_isOpen.cls yX7_isOpen yX7_isOpen ∈ tb := ⟨tb_at 1185 (by decide +kernel) rfl, tb_at 50 (by decide +kernel) rfl⟩
theorem iv_7_187 : inV RX7 187 yX7_isOpen cX7_isOpen 2 (some .boolean) 1 := ⟨⟨tb_at 1183 (by decide +kernel) rfl, yv_X7_isOpen.1, yv_X7_isOpen.2, yi_X7, yc_X7_isOpen⟩, yd_X7_isOpen⟩
theorem yc_X7_needed : Cond.code yX7_needed cX7_needed 4 (some .int) ∈ tb := tb_at 1178 (by decide +kernel) rfl
theorem yd_X7_needed : ydn yX7_needed 1 := by decide +kernel
theorem yv_X7_needed : Cond.instanceMethod yX7_needed ∈ tb ∧ Cond.selects yX7_needed.cls yX7_needed yX7_needed ∈ tb := ⟨tb_at 1177 (by decide +kernel) rfl, tb_at 48 (by decide +kernel) rfl⟩
theorem iv_7_193 : inV RX7 193 yX7_needed cX7_needed 4 (some .int) 1 := ⟨⟨tb_at 1175 (by decide +kernel) rfl, yv_X7_needed.1, yv_X7_needed.2, yi_X7, yc_X7_needed⟩, yd_X7_needed⟩
theorem yc_X7_wantsYet : Cond.code yX7_wantsYet cX7_wantsYet 2 (some .int) ∈ tb := tb_at 1222 (by decide +kernel) rfl
theorem yd_X7_wantsYet : ydn yX7_wantsYet 1 := by decide +kernel
theorem yv_X7_wantsYet : Cond.instanceMethod yX7_wantsYet ∈ tb ∧ Cond.selects yX7_wantsYet.cls yX7_wantsYet yX7_wantsYet ∈ tb := ⟨tb_at 1221 (by decide +kernel) rfl, tb_at 58 (by decide +kernel) rfl⟩
theorem iv_7_199 : inV RX7 199 yX7_wantsYet cX7_wantsYet 2 (some .int) 1 := ⟨⟨tb_at 1219 (by decide +kernel) rfl, yv_X7_wantsYet.1, yv_X7_wantsYet.2, yi_X7, yc_X7_wantsYet⟩, yd_X7_wantsYet⟩
theorem yc_X7_draws : Cond.code yX7_draws cX7_draws 3 (some .int) ∈ tb := tb_at 1218 (by decide +kernel) rfl
theorem yd_X7_draws : ydn yX7_draws 1 := by decide +kernel
theorem yv_X7_draws : Cond.instanceMethod yX7_draws ∈ tb ∧ Cond.selects yX7_draws.cls yX7_draws yX7_draws ∈ tb := ⟨tb_at 1217 (by decide +kernel) rfl, tb_at 57 (by decide +kernel) rfl⟩
theorem iv_7_208 : inV RX7 208 yX7_draws cX7_draws 3 (some .int) 1 := ⟨⟨tb_at 1215 (by decide +kernel) rfl, yv_X7_draws.1, yv_X7_draws.2, yi_X7, yc_X7_draws⟩, yd_X7_draws⟩
theorem yc_X7_setOf : Cond.code yX7_setOf cX7_setOf 5 (some .int) ∈ tb := tb_at 1210 (by decide +kernel) rfl
theorem yd_X7_setOf : ydn yX7_setOf 1 := by decide +kernel
theorem yv_X7_setOf : Cond.instanceMethod yX7_setOf ∈ tb ∧ Cond.selects yX7_setOf.cls yX7_setOf yX7_setOf ∈ tb := ⟨tb_at 1209 (by decide +kernel) rfl, tb_at 55 (by decide +kernel) rfl⟩
theorem iv_7_202 : inV RX7 202 yX7_setOf cX7_setOf 5 (some .int) 1 := ⟨⟨tb_at 1207 (by decide +kernel) rfl, yv_X7_setOf.1, yv_X7_setOf.2, yi_X7, yc_X7_setOf⟩, yd_X7_setOf⟩
theorem yc_X7_keepPast : Cond.code yX7_keepPast cX7_keepPast 2 (none) ∈ tb := tb_at 1214 (by decide +kernel) rfl
theorem yd_X7_keepPast : ydn yX7_keepPast 0 := by decide +kernel
theorem yv_X7_keepPast : Cond.instanceMethod yX7_keepPast ∈ tb ∧ Cond.selects yX7_keepPast.cls yX7_keepPast yX7_keepPast ∈ tb := ⟨tb_at 1213 (by decide +kernel) rfl, tb_at 56 (by decide +kernel) rfl⟩
theorem iv_7_205 : inV RX7 205 yX7_keepPast cX7_keepPast 2 (none) 0 := ⟨⟨tb_at 1211 (by decide +kernel) rfl, yv_X7_keepPast.1, yv_X7_keepPast.2, yi_X7, yc_X7_keepPast⟩, yd_X7_keepPast⟩
theorem g_7_155_0 (C : CX p s m args meth c RX7 cc nL ret d A) (hS : HS d A s.heap H locs (mw q d σ)) (hdg : decode cc pc = .ok (.getfield 155, 3)) (kk : W p l e R s m args below meth c H locs 0 0 Q (F0 m (pc + 3) ls (.int (σ.1 2) :: rest))) : W p l e R s m args below meth c H locs 0 0 Q (F0 m pc ls (.ref (q 0) :: rest)) := gf (j := 2) C hS mw_o0 rfl inX7 (by decide) (tb_at 956 (by decide +kernel) rfl) rfl hdg kk
theorem yc_X7_doDay : Cond.code yX7_doDay cX7_doDay 2 (some .int) ∈ tb := tb_at 1234 (by decide +kernel) rfl
theorem yd_X7_doDay : ydn yX7_doDay 0 := by decide +kernel
theorem yv_X7_doDay : Cond.instanceMethod yX7_doDay ∈ tb ∧ Cond.selects yX7_doDay.cls yX7_doDay yX7_doDay ∈ tb := ⟨tb_at 1233 (by decide +kernel) rfl, tb_at 59 (by decide +kernel) rfl⟩
theorem iv_7_211 : inV RX7 211 yX7_doDay cX7_doDay 2 (some .int) 0 := ⟨⟨tb_at 1231 (by decide +kernel) rfl, yv_X7_doDay.1, yv_X7_doDay.2, yi_X7, yc_X7_doDay⟩, yd_X7_doDay⟩
theorem lc_X7_214 : Cond.constantLong RX7 214 2 ∈ tb := tb_at 1243 (by decide +kernel) rfl
theorem yc_X7_copyWell : Cond.code yX7_copyWell cX7_copyWell 4 (none) ∈ tb := tb_at 1247 (by decide +kernel) rfl
theorem yd_X7_copyWell : ydn yX7_copyWell 2 := by decide +kernel
theorem yv_X7_copyWell : Cond.instanceMethod yX7_copyWell ∈ tb ∧ Cond.selects yX7_copyWell.cls yX7_copyWell yX7_copyWell ∈ tb := ⟨tb_at 1246 (by decide +kernel) rfl, tb_at 60 (by decide +kernel) rfl⟩
theorem iv_7_216 : inV RX7 216 yX7_copyWell cX7_copyWell 4 (none) 2 := ⟨⟨tb_at 1244 (by decide +kernel) rfl, yv_X7_copyWell.1, yv_X7_copyWell.2, yi_X7, yc_X7_copyWell⟩, yd_X7_copyWell⟩
theorem yc_X7_isSet : Cond.code yX7_isSet cX7_isSet 2 (some .boolean) ∈ tb := tb_at 1259 (by decide +kernel) rfl
theorem yd_X7_isSet : ydn yX7_isSet 1 := by decide +kernel
theorem yv_X7_isSet : Cond.instanceMethod yX7_isSet ∈ tb ∧ Cond.selects yX7_isSet.cls yX7_isSet yX7_isSet ∈ tb := ⟨tb_at 1258 (by decide +kernel) rfl, tb_at 61 (by decide +kernel) rfl⟩
theorem iv_7_219 : inV RX7 219 yX7_isSet cX7_isSet 2 (some .boolean) 1 := ⟨⟨tb_at 1256 (by decide +kernel) rfl, yv_X7_isSet.1, yv_X7_isSet.2, yi_X7, yc_X7_isSet⟩, yd_X7_isSet⟩
theorem g_7_61_0 (C : CX p s m args meth c RX7 cc nL ret d A) (hS : HS d A s.heap H locs (mw q d σ)) (hdg : decode cc pc = .ok (.getfield 61, 3)) (kk : W p l e R s m args below meth c H locs 0 0 Q (F0 m (pc + 3) ls (.int (σ.1 12) :: rest))) : W p l e R s m args below meth c H locs 0 0 Q (F0 m pc ls (.ref (q 0) :: rest)) := gf (j := 12) C hS mw_o0 rfl inX7 (by decide) (tb_at 966 (by decide +kernel) rfl) rfl hdg kk
theorem yc_X7_bits : Cond.code yX7_bits cX7_bits 3 (some .int) ∈ tb := tb_at 1266 (by decide +kernel) rfl
theorem yd_X7_bits : ydn yX7_bits 1 := by decide +kernel
theorem ys_X7_bits : Cond.static yX7_bits ∈ tb := tb_at 1265 (by decide +kernel) rfl
theorem is_7_225 : inS RX7 225 yX7_bits cX7_bits 3 (some .int) 1 := ⟨⟨tb_at 1264 (by decide +kernel) rfl, ys_X7_bits, yi_X7, yc_X7_bits⟩, yd_X7_bits⟩
theorem p_7_222_0 {x : Int64} (C : CX p s m args meth c RX7 cc nL ret d A) (hS : HS d A s.heap H locs (mw q d σ)) (e1 : some (setL σ 13 x) = some σ1) (hdg : decode cc pc = .ok (.putfield 222, 3)) (kk : ∀ (H1 : Heap) (locs1 : List Loc), HS d A s.heap H1 locs1 (mw q d σ1) → W p l e R s m args below meth c H1 locs1 0 0 Q (F0 m (pc + 3) ls rest)) : W p l e R s m args below meth c H locs 0 0 Q (F0 m pc ls (.long x :: .ref (q 0) :: rest)) := by
  cases e1
  exact pf (j := 13) (ty := .long) tyX7 tyX7_ok nmX7 C hS mw_o0 rfl inX7 (by decide) (tb_at 967 (by decide +kernel) rfl) rfl (by decide +kernel) rfl rfl (Nat.le_of_ble_eq_true rfl) rfl hdg kk
theorem p_7_34_0 {x : Int64} (C : CX p s m args meth c RX7 cc nL ret d A) (hS : HS d A s.heap H locs (mw q d σ)) (e1 : some (setL σ 14 x) = some σ1) (hdg : decode cc pc = .ok (.putfield 34, 3)) (kk : ∀ (H1 : Heap) (locs1 : List Loc), HS d A s.heap H1 locs1 (mw q d σ1) → W p l e R s m args below meth c H1 locs1 0 0 Q (F0 m (pc + 3) ls rest)) : W p l e R s m args below meth c H locs 0 0 Q (F0 m pc ls (.long x :: .ref (q 0) :: rest)) := by
  cases e1
  exact pf (j := 14) (ty := .long) tyX7 tyX7_ok nmX7 C hS mw_o0 rfl inX7 (by decide) (tb_at 968 (by decide +kernel) rfl) rfl (by decide +kernel) rfl rfl (Nat.le_of_ble_eq_true rfl) rfl hdg kk
theorem yc_X7_tellMany : Cond.code yX7_tellMany cX7_tellMany 3 (some .int) ∈ tb := tb_at 1270 (by decide +kernel) rfl
theorem yd_X7_tellMany : ydn yX7_tellMany 1 := by decide +kernel
theorem yv_X7_tellMany : Cond.instanceMethod yX7_tellMany ∈ tb ∧ Cond.selects yX7_tellMany.cls yX7_tellMany yX7_tellMany ∈ tb := ⟨tb_at 1269 (by decide +kernel) rfl, tb_at 62 (by decide +kernel) rfl⟩
theorem iv_7_228 : inV RX7 228 yX7_tellMany cX7_tellMany 3 (some .int) 1 := ⟨⟨tb_at 1267 (by decide +kernel) rfl, yv_X7_tellMany.1, yv_X7_tellMany.2, yi_X7, yc_X7_tellMany⟩, yd_X7_tellMany⟩
theorem yc_X7_orders : Cond.code yX7_orders cX7_orders 3 (some .int) ∈ tb := tb_at 1285 (by decide +kernel) rfl
theorem yd_X7_orders : ydn yX7_orders 1 := by decide +kernel
theorem ys_X7_orders : Cond.static yX7_orders ∈ tb := tb_at 1284 (by decide +kernel) rfl
theorem is_7_232 : inS RX7 232 yX7_orders cX7_orders 3 (some .int) 1 := ⟨⟨tb_at 1283 (by decide +kernel) rfl, ys_X7_orders, yi_X7, yc_X7_orders⟩, yd_X7_orders⟩
theorem yc_X7_tellParts : Cond.code yX7_tellParts cX7_tellParts 11 (some .int) ∈ tb := tb_at 1289 (by decide +kernel) rfl
theorem yd_X7_tellParts : ydn yX7_tellParts 2 := by decide +kernel
theorem yv_X7_tellParts : Cond.instanceMethod yX7_tellParts ∈ tb ∧ Cond.selects yX7_tellParts.cls yX7_tellParts yX7_tellParts ∈ tb := ⟨tb_at 1288 (by decide +kernel) rfl, tb_at 63 (by decide +kernel) rfl⟩
theorem iv_7_235 : inV RX7 235 yX7_tellParts cX7_tellParts 11 (some .int) 2 := ⟨⟨tb_at 1286 (by decide +kernel) rfl, yv_X7_tellParts.1, yv_X7_tellParts.2, yi_X7, yc_X7_tellParts⟩, yd_X7_tellParts⟩
theorem g_7_47_0 (C : CX p s m args meth c RX7 cc nL ret d A) (hS : HS d A s.heap H locs (mw q d σ)) (hdg : decode cc pc = .ok (.getfield 47, 3)) (kk : W p l e R s m args below meth c H locs 0 0 Q (F0 m (pc + 3) ls (.ref (q 12) :: rest))) : W p l e R s m args below meth c H locs 0 0 Q (F0 m pc ls (.ref (q 0) :: rest)) := gf (j := 27) C hS mw_o0 rfl inX7 (by decide) (tb_at 981 (by decide +kernel) rfl) rfl hdg kk
theorem mw_a12 {q : Nat → Nat} {d : CD} {σ : ST} : (mw q d σ)[12]? = some (q 12, .inl (d.2.1, 16512, .inl (σ.2.2 12))) := rfl
theorem mw_s12 {q : Nat → Nat} {d : CD} {σ : ST} (f : Nat → Int32) : (mw q d σ).set 12 (q 12, .inl (d.2.1, 16512, .inl f)) = mw q d (setA σ 12 f) := rfl
theorem yc_X7_with : Cond.code yX7_with cX7_with 3 (some .int) ∈ tb := tb_at 1305 (by decide +kernel) rfl
theorem yd_X7_with : ydn yX7_with 2 := by decide +kernel
theorem yv_X7_with : Cond.instanceMethod yX7_with ∈ tb ∧ Cond.selects yX7_with.cls yX7_with yX7_with ∈ tb := ⟨tb_at 1304 (by decide +kernel) rfl, tb_at 66 (by decide +kernel) rfl⟩
theorem iv_7_245 : inV RX7 245 yX7_with cX7_with 3 (some .int) 2 := ⟨⟨tb_at 1302 (by decide +kernel) rfl, yv_X7_with.1, yv_X7_with.2, yi_X7, yc_X7_with⟩, yd_X7_with⟩
theorem yc_X7_layMeetings : Cond.code yX7_layMeetings cX7_layMeetings 6 (none) ∈ tb := tb_at 1297 (by decide +kernel) rfl
theorem yd_X7_layMeetings : ydn yX7_layMeetings 0 := by decide +kernel
theorem yv_X7_layMeetings : Cond.instanceMethod yX7_layMeetings ∈ tb ∧ Cond.selects yX7_layMeetings.cls yX7_layMeetings yX7_layMeetings ∈ tb := ⟨tb_at 1296 (by decide +kernel) rfl, tb_at 64 (by decide +kernel) rfl⟩
theorem iv_7_239 : inV RX7 239 yX7_layMeetings cX7_layMeetings 6 (none) 0 := ⟨⟨tb_at 1294 (by decide +kernel) rfl, yv_X7_layMeetings.1, yv_X7_layMeetings.2, yi_X7, yc_X7_layMeetings⟩, yd_X7_layMeetings⟩
theorem yc_X7_thirsty : Cond.code yX7_thirsty cX7_thirsty 3 (some .int) ∈ tb := tb_at 1301 (by decide +kernel) rfl
theorem yd_X7_thirsty : ydn yX7_thirsty 0 := by decide +kernel
theorem yv_X7_thirsty : Cond.instanceMethod yX7_thirsty ∈ tb ∧ Cond.selects yX7_thirsty.cls yX7_thirsty yX7_thirsty ∈ tb := ⟨tb_at 1300 (by decide +kernel) rfl, tb_at 65 (by decide +kernel) rfl⟩
theorem iv_7_242 : inV RX7 242 yX7_thirsty cX7_thirsty 3 (some .int) 0 := ⟨⟨tb_at 1298 (by decide +kernel) rfl, yv_X7_thirsty.1, yv_X7_thirsty.2, yi_X7, yc_X7_thirsty⟩, yd_X7_thirsty⟩
theorem g_7_50_0 (C : CX p s m args meth c RX7 cc nL ret d A) (hS : HS d A s.heap H locs (mw q d σ)) (hdg : decode cc pc = .ok (.getfield 50, 3)) (kk : W p l e R s m args below meth c H locs 0 0 Q (F0 m (pc + 3) ls (.ref (q 13) :: rest))) : W p l e R s m args below meth c H locs 0 0 Q (F0 m pc ls (.ref (q 0) :: rest)) := gf (j := 28) C hS mw_o0 rfl inX7 (by decide) (tb_at 982 (by decide +kernel) rfl) rfl hdg kk
theorem mw_a13 {q : Nat → Nat} {d : CD} {σ : ST} : (mw q d σ)[13]? = some (q 13, .inl (d.2.1, 7, .inl (σ.2.2 13))) := rfl
theorem mw_s13 {q : Nat → Nat} {d : CD} {σ : ST} (f : Nat → Int32) : (mw q d σ).set 13 (q 13, .inl (d.2.1, 7, .inl f)) = mw q d (setA σ 13 f) := rfl
theorem yc_X7_nextOrder : Cond.code yX7_nextOrder cX7_nextOrder 7 (some .boolean) ∈ tb := tb_at 1317 (by decide +kernel) rfl
theorem yd_X7_nextOrder : ydn yX7_nextOrder 1 := by decide +kernel
theorem yv_X7_nextOrder : Cond.instanceMethod yX7_nextOrder ∈ tb ∧ Cond.selects yX7_nextOrder.cls yX7_nextOrder yX7_nextOrder ∈ tb := ⟨tb_at 1316 (by decide +kernel) rfl, tb_at 68 (by decide +kernel) rfl⟩
theorem iv_7_251 : inV RX7 251 yX7_nextOrder cX7_nextOrder 7 (some .boolean) 1 := ⟨⟨tb_at 1314 (by decide +kernel) rfl, yv_X7_nextOrder.1, yv_X7_nextOrder.2, yi_X7, yc_X7_nextOrder⟩, yd_X7_nextOrder⟩
theorem yc_X7_served : Cond.code yX7_served cX7_served 6 (some .int) ∈ tb := tb_at 1313 (by decide +kernel) rfl
theorem yd_X7_served : ydn yX7_served 1 := by decide +kernel
theorem yv_X7_served : Cond.instanceMethod yX7_served ∈ tb ∧ Cond.selects yX7_served.cls yX7_served yX7_served ∈ tb := ⟨tb_at 1312 (by decide +kernel) rfl, tb_at 67 (by decide +kernel) rfl⟩
theorem iv_7_248 : inV RX7 248 yX7_served cX7_served 6 (some .int) 1 := ⟨⟨tb_at 1310 (by decide +kernel) rfl, yv_X7_served.1, yv_X7_served.2, yi_X7, yc_X7_served⟩, yd_X7_served⟩
theorem yc_X7_drawnBy : Cond.code yX7_drawnBy cX7_drawnBy 4 (some .int) ∈ tb := tb_at 1325 (by decide +kernel) rfl
theorem yd_X7_drawnBy : ydn yX7_drawnBy 1 := by decide +kernel
theorem yv_X7_drawnBy : Cond.instanceMethod yX7_drawnBy ∈ tb ∧ Cond.selects yX7_drawnBy.cls yX7_drawnBy yX7_drawnBy ∈ tb := ⟨tb_at 1324 (by decide +kernel) rfl, tb_at 69 (by decide +kernel) rfl⟩
theorem iv_7_254 : inV RX7 254 yX7_drawnBy cX7_drawnBy 4 (some .int) 1 := ⟨⟨tb_at 1322 (by decide +kernel) rfl, yv_X7_drawnBy.1, yv_X7_drawnBy.2, yi_X7, yc_X7_drawnBy⟩, yd_X7_drawnBy⟩
theorem yc_X7_drawnOf : Cond.code yX7_drawnOf cX7_drawnOf 4 (some .int) ∈ tb := tb_at 1334 (by decide +kernel) rfl
theorem yd_X7_drawnOf : ydn yX7_drawnOf 1 := by decide +kernel
theorem yv_X7_drawnOf : Cond.instanceMethod yX7_drawnOf ∈ tb ∧ Cond.selects yX7_drawnOf.cls yX7_drawnOf yX7_drawnOf ∈ tb := ⟨tb_at 1333 (by decide +kernel) rfl, tb_at 70 (by decide +kernel) rfl⟩
theorem iv_7_259 : inV RX7 259 yX7_drawnOf cX7_drawnOf 4 (some .int) 1 := ⟨⟨tb_at 1331 (by decide +kernel) rfl, yv_X7_drawnOf.1, yv_X7_drawnOf.2, yi_X7, yc_X7_drawnOf⟩, yd_X7_drawnOf⟩
theorem lc_X7_257 : Cond.constantLong RX7 257 99 ∈ tb := tb_at 1330 (by decide +kernel) rfl
theorem yc_X7_noPairs : Cond.code yX7_noPairs cX7_noPairs 4 (some .int) ∈ tb := tb_at 1342 (by decide +kernel) rfl
theorem yd_X7_noPairs : ydn yX7_noPairs 1 := by decide +kernel
theorem yv_X7_noPairs : Cond.instanceMethod yX7_noPairs ∈ tb ∧ Cond.selects yX7_noPairs.cls yX7_noPairs yX7_noPairs ∈ tb := ⟨tb_at 1341 (by decide +kernel) rfl, tb_at 71 (by decide +kernel) rfl⟩
theorem iv_7_262 : inV RX7 262 yX7_noPairs cX7_noPairs 4 (some .int) 1 := ⟨⟨tb_at 1339 (by decide +kernel) rfl, yv_X7_noPairs.1, yv_X7_noPairs.2, yi_X7, yc_X7_noPairs⟩, yd_X7_noPairs⟩
theorem g_7_53_0 (C : CX p s m args meth c RX7 cc nL ret d A) (hS : HS d A s.heap H locs (mw q d σ)) (hdg : decode cc pc = .ok (.getfield 53, 3)) (kk : W p l e R s m args below meth c H locs 0 0 Q (F0 m (pc + 3) ls (.ref (q 14) :: rest))) : W p l e R s m args below meth c H locs 0 0 Q (F0 m pc ls (.ref (q 0) :: rest)) := gf (j := 29) C hS mw_o0 rfl inX7 (by decide) (tb_at 983 (by decide +kernel) rfl) rfl hdg kk
theorem mw_a14 {q : Nat → Nat} {d : CD} {σ : ST} : (mw q d σ)[14]? = some (q 14, .inl (d.2.2.1, 2187, .inl (σ.2.2 14))) := rfl
theorem mw_s14 {q : Nat → Nat} {d : CD} {σ : ST} (f : Nat → Int32) : (mw q d σ).set 14 (q 14, .inl (d.2.2.1, 2187, .inl f)) = mw q d (setA σ 14 f) := rfl
theorem yc_X7_power : Cond.code yX7_power cX7_power 3 (some .int) ∈ tb := tb_at 1357 (by decide +kernel) rfl
theorem yd_X7_power : ydn yX7_power 1 := by decide +kernel
theorem ys_X7_power : Cond.static yX7_power ∈ tb := tb_at 1356 (by decide +kernel) rfl
theorem is_7_265 : inS RX7 265 yX7_power cX7_power 3 (some .int) 1 := ⟨⟨tb_at 1355 (by decide +kernel) rfl, ys_X7_power, yi_X7, yc_X7_power⟩, yd_X7_power⟩
theorem yc_X7_layWins : Cond.code yX7_layWins cX7_layWins 7 (none) ∈ tb := tb_at 1354 (by decide +kernel) rfl
theorem yd_X7_layWins : ydn yX7_layWins 0 := by decide +kernel
theorem yv_X7_layWins : Cond.instanceMethod yX7_layWins ∈ tb ∧ Cond.selects yX7_layWins.cls yX7_layWins yX7_layWins ∈ tb := ⟨tb_at 1353 (by decide +kernel) rfl, tb_at 72 (by decide +kernel) rfl⟩
theorem iv_7_268 : inV RX7 268 yX7_layWins cX7_layWins 7 (none) 0 := ⟨⟨tb_at 1351 (by decide +kernel) rfl, yv_X7_layWins.1, yv_X7_layWins.2, yi_X7, yc_X7_layWins⟩, yd_X7_layWins⟩
theorem lc_X7_271 : Cond.constantLong RX7 271 12 ∈ tb := tb_at 1366 (by decide +kernel) rfl
theorem yc_X7_tellChance : Cond.code yX7_tellChance cX7_tellChance 11 (some .int) ∈ tb := tb_at 1370 (by decide +kernel) rfl
theorem yd_X7_tellChance : ydn yX7_tellChance 2 := by decide +kernel
theorem yv_X7_tellChance : Cond.instanceMethod yX7_tellChance ∈ tb ∧ Cond.selects yX7_tellChance.cls yX7_tellChance yX7_tellChance ∈ tb := ⟨tb_at 1369 (by decide +kernel) rfl, tb_at 73 (by decide +kernel) rfl⟩
theorem iv_7_273 : inV RX7 273 yX7_tellChance cX7_tellChance 11 (some .int) 2 := ⟨⟨tb_at 1367 (by decide +kernel) rfl, yv_X7_tellChance.1, yv_X7_tellChance.2, yi_X7, yc_X7_tellChance⟩, yd_X7_tellChance⟩
theorem lc_X7_281 : Cond.constantLong RX7 281 48271 ∈ tb := tb_at 1381 (by decide +kernel) rfl
theorem lc_X7_283 : Cond.constantLong RX7 283 2147483647 ∈ tb := tb_at 1382 (by decide +kernel) rfl
theorem lc_X7_285 : Cond.constantLong RX7 285 8 ∈ tb := tb_at 1383 (by decide +kernel) rfl
theorem yc_X7_doLot : Cond.code yX7_doLot cX7_doLot 4 (some .int) ∈ tb := tb_at 1387 (by decide +kernel) rfl
theorem yd_X7_doLot : ydn yX7_doLot 1 := by decide +kernel
theorem yv_X7_doLot : Cond.instanceMethod yX7_doLot ∈ tb ∧ Cond.selects yX7_doLot.cls yX7_doLot yX7_doLot ∈ tb := ⟨tb_at 1386 (by decide +kernel) rfl, tb_at 74 (by decide +kernel) rfl⟩
theorem iv_7_287 : inV RX7 287 yX7_doLot cX7_doLot 4 (some .int) 1 := ⟨⟨tb_at 1384 (by decide +kernel) rfl, yv_X7_doLot.1, yv_X7_doLot.2, yi_X7, yc_X7_doLot⟩, yd_X7_doLot⟩
theorem lc_X7_277 : Cond.constantLong RX7 277 20 ∈ tb := tb_at 1379 (by decide +kernel) rfl
theorem lc_X7_279 : Cond.constantLong RX7 279 2147483646 ∈ tb := tb_at 1380 (by decide +kernel) rfl
theorem g_7_222_0 (C : CX p s m args meth c RX7 cc nL ret d A) (hS : HS d A s.heap H locs (mw q d σ)) (hdg : decode cc pc = .ok (.getfield 222, 3)) (kk : W p l e R s m args below meth c H locs 0 0 Q (F0 m (pc + 3) ls (.long (σ.2.1 13) :: rest))) : W p l e R s m args below meth c H locs 0 0 Q (F0 m pc ls (.ref (q 0) :: rest)) := gf (j := 13) C hS mw_o0 rfl inX7 (by decide) (tb_at 967 (by decide +kernel) rfl) rfl hdg kk
theorem g_7_34_0 (C : CX p s m args meth c RX7 cc nL ret d A) (hS : HS d A s.heap H locs (mw q d σ)) (hdg : decode cc pc = .ok (.getfield 34, 3)) (kk : W p l e R s m args below meth c H locs 0 0 Q (F0 m (pc + 3) ls (.long (σ.2.1 14) :: rest))) : W p l e R s m args below meth c H locs 0 0 Q (F0 m pc ls (.ref (q 0) :: rest)) := gf (j := 14) C hS mw_o0 rfl inX7 (by decide) (tb_at 968 (by decide +kernel) rfl) rfl hdg kk
theorem lc_X7_296 : Cond.constantLong RX7 296 10 ∈ tb := tb_at 1404 (by decide +kernel) rfl
theorem yc_X7_thereOf : Cond.code yX7_thereOf cX7_thereOf 4 (some .int) ∈ tb := tb_at 1416 (by decide +kernel) rfl
theorem yd_X7_thereOf : ydn yX7_thereOf 1 := by decide +kernel
theorem yv_X7_thereOf : Cond.instanceMethod yX7_thereOf ∈ tb ∧ Cond.selects yX7_thereOf.cls yX7_thereOf yX7_thereOf ∈ tb := ⟨tb_at 1415 (by decide +kernel) rfl, tb_at 77 (by decide +kernel) rfl⟩
theorem iv_7_293 : inV RX7 293 yX7_thereOf cX7_thereOf 4 (some .int) 1 := ⟨⟨tb_at 1413 (by decide +kernel) rfl, yv_X7_thereOf.1, yv_X7_thereOf.2, yi_X7, yc_X7_thereOf⟩, yd_X7_thereOf⟩
theorem yc_X7_kindMany : Cond.code yX7_kindMany cX7_kindMany 4 (some .int) ∈ tb := tb_at 1412 (by decide +kernel) rfl
theorem yd_X7_kindMany : ydn yX7_kindMany 1 := by decide +kernel
theorem yv_X7_kindMany : Cond.instanceMethod yX7_kindMany ∈ tb ∧ Cond.selects yX7_kindMany.cls yX7_kindMany yX7_kindMany ∈ tb := ⟨tb_at 1411 (by decide +kernel) rfl, tb_at 76 (by decide +kernel) rfl⟩
theorem iv_7_290 : inV RX7 290 yX7_kindMany cX7_kindMany 4 (some .int) 1 := ⟨⟨tb_at 1409 (by decide +kernel) rfl, yv_X7_kindMany.1, yv_X7_kindMany.2, yi_X7, yc_X7_kindMany⟩, yd_X7_kindMany⟩
theorem g_7_161_0 (C : CX p s m args meth c RX7 cc nL ret d A) (hS : HS d A s.heap H locs (mw q d σ)) (hdg : decode cc pc = .ok (.getfield 161, 3)) (kk : W p l e R s m args below meth c H locs 0 0 Q (F0 m (pc + 3) ls (.int (σ.1 7) :: rest))) : W p l e R s m args below meth c H locs 0 0 Q (F0 m pc ls (.ref (q 0) :: rest)) := gf (j := 7) C hS mw_o0 rfl inX7 (by decide) (tb_at 961 (by decide +kernel) rfl) rfl hdg kk
theorem yc_X7_countOf : Cond.code yX7_countOf cX7_countOf 2 (some .int) ∈ tb := tb_at 1408 (by decide +kernel) rfl
theorem yd_X7_countOf : ydn yX7_countOf 1 := by decide +kernel
theorem yv_X7_countOf : Cond.instanceMethod yX7_countOf ∈ tb ∧ Cond.selects yX7_countOf.cls yX7_countOf yX7_countOf ∈ tb := ⟨tb_at 1407 (by decide +kernel) rfl, tb_at 75 (by decide +kernel) rfl⟩
theorem iv_7_298 : inV RX7 298 yX7_countOf cX7_countOf 2 (some .int) 1 := ⟨⟨tb_at 1405 (by decide +kernel) rfl, yv_X7_countOf.1, yv_X7_countOf.2, yi_X7, yc_X7_countOf⟩, yd_X7_countOf⟩
theorem g_7_57_0 (C : CX p s m args meth c RX7 cc nL ret d A) (hS : HS d A s.heap H locs (mw q d σ)) (hdg : decode cc pc = .ok (.getfield 57, 3)) (kk : W p l e R s m args below meth c H locs 0 0 Q (F0 m (pc + 3) ls (.int (σ.1 15) :: rest))) : W p l e R s m args below meth c H locs 0 0 Q (F0 m pc ls (.ref (q 0) :: rest)) := gf (j := 15) C hS mw_o0 rfl inX7 (by decide) (tb_at 969 (by decide +kernel) rfl) rfl hdg kk
theorem lc_X7_303 : Cond.constantLong RX7 303 31 ∈ tb := tb_at 1430 (by decide +kernel) rfl
theorem lc_X7_301 : Cond.constantLong RX7 301 17 ∈ tb := tb_at 1429 (by decide +kernel) rfl
end LIB
