def M_X2_read_46 : Nat → ST → Int32 → Option (Int32 × ST)
  | 0, _, _ => none
  | n + 1, σ, x2 => if 80 < x2 then some (σ.1 13, σ) else (M_X2_skipBlanks σ).bind fun o53 => (M_X2_sign o53).bind fun o57 => if o57 = 256 then if (o53.1 23) = 0 then some (o53.1 13, o53) else some ((-9), o53) else (M_X2_readItem o53).bind fun o87 => if o87.1 = 0 then some (o87.2.1 13, o87.2) else M_X2_read_46 n o87.2 (x2 + 1)
def M_X2_read (σ : ST) (a1 : Int32) : Option (Int32 × ST) := (M_X3_copyInto_t σ a1).bind fun o10 => (some (setI o10.2 12 (o10.1))).bind fun σ13 => (some (setI σ13 13 (0))).bind fun σ18 => (M_X0_clear σ18).bind fun o25 => (M_X2_skipBlanks o25).bind fun o29 => (M_X2_readPeace o29).bind fun o33 => if o33.1 = 0 then some (o33.2.1 13, o33.2) else M_X2_read_46 10000 o33.2 0
abbrev rm_X2_read : Room := { frames := 8, cells := 0, slots := 0, locals := 282 }
set_option maxRecDepth 100000 in
set_option maxHeartbeats 4000000 in
theorem c_X2_read (l : Launch) (d : CD) (q : Nat → Nat) (σ : ST) (a1 : Int32) (out : Int32 × ST) (hm : M_X2_read σ a1 = some out) : MetI l yX2_read cX2_read 3 (some .int) rm_X2_read d (cw q d σ) [.ref (q 17), .int a1] out.1 (cw q d out.2) := by
  refine mkI (own := RX2) (by decide +kernel) rfl (Nat.le_of_ble_eq_true rfl) ?_
  intro p e s m below meth c A ls C hS hl
  obtain ⟨hx, hb, hml, hown, hts, -⟩ := id C
  have hl : lv_has ls 3 [(0, .ref (q 17)), (1, .int a1)] := hl
  have L46 : ∀ (n : Nat) (σ : ST) (x2 : Int32) (H : Heap) (locs : List Loc) (ls : Array Slot), HS d A s.heap H locs (cw q d σ) → lv_has ls 3 [(0, .ref (q 17)), (2, .int x2)] → M_X2_read_46 n σ x2 = some out → WI p l e rm_X2_read s m [.ref (q 17), .int a1].toArray below meth c A d H locs out.1 (cw q d out.2) (F0 m 46 ls []) := by
    intro n
    induction n with
    | zero =>
      intro σ x2 H locs ls hS hl hm
      exact absurd hm (by rw [M_X2_read_46]; exact fun h => nomatch h)
    | succ n ih =>
      intro σ x2 H locs ls hS hl hm
      rw [M_X2_read_46] at hm
      refine lv_iload_n hx hb dX2_read_46 rfl (lv_at hl 1 rfl) ?_
      refine lv_bipush (v := 80) hx hb dX2_read_47 (by decide) ?_
      refine lv_icmp_gt (tgt := 104) hx hb dX2_read_49 (by decide) (fun c49 => ?_) (fun c49 => ?_)
      · replace hm := it c49 hm
        refine lv_aload_n hx hb dX2_read_104 rfl (lv_at hl 0 rfl) ?_
        refine g_2_36_17 C hS dX2_read_105 ?_
        exact retIw (wf := cw q d) C hS hm dX2_read_108
      · replace hm := ie c49 hm
        refine lv_aload_n hx hb dX2_read_52 rfl (lv_at hl 0 rfl) ?_
        obtain ⟨o53, e53, hm⟩ := ob hm
        refine after_v C hS (call_V (As := []) C hS (c_X2_skipBlanks l d q σ o53 e53 _) iv_2_42 ⟨rfl, rfl, Nat.le_of_ble_eq_true rfl, Nat.le_of_ble_eq_true rfl⟩ cw_o17 rfl rfl rfl hl.1 (Nat.le_of_ble_eq_true rfl) dX2_read_53) (fun H locs hS => ?_)
        refine lv_aload_n hx hb dX2_read_56 rfl (lv_at hl 0 rfl) ?_
        obtain ⟨o57, e57, hm⟩ := ob hm
        refine after_i C hS (call_V (As := []) C hS (c_X2_sign l d q o53 o57 e57 _) iv_2_49 ⟨rfl, rfl, Nat.le_of_ble_eq_true rfl, Nat.le_of_ble_eq_true rfl⟩ cw_o17 rfl rfl rfl hl.1 (Nat.le_of_ble_eq_true rfl) dX2_read_57) (fun H locs hS => ?_)
        refine lv_sipush (v := 256) hx hb dX2_read_60 (by decide) ?_
        refine lv_icmp_ne (tgt := 86) hx hb dX2_read_63 (by decide) (fun c63 => ?_) (fun c63 => ?_)
        · replace hm := ie c63 hm
          refine lv_aload_n hx hb dX2_read_86 rfl (lv_at hl 0 rfl) ?_
          obtain ⟨o87, e87, hm⟩ := ob hm
          refine after_i C hS (call_V (As := []) C hS (c_X2_readItem l d q o53 o87 e87 _) iv_2_56 ⟨rfl, rfl, Nat.le_of_ble_eq_true rfl, Nat.le_of_ble_eq_true rfl⟩ cw_o17 rfl rfl rfl hl.1 (Nat.le_of_ble_eq_true rfl) dX2_read_87) (fun H locs hS => ?_)
          refine lv_if_ne (tgt := 98) hx hb dX2_read_90 (by decide) (fun c90 => ?_) (fun c90 => ?_)
          · replace hm := ie c90 hm
            refine lv_iinc (v := x2 + 1) (lv' := [(2, .int (x2 + 1)), (0, .ref (q 17))]) hx hb dX2_read_98 hl (k := 1) rfl rfl (by decide) rfl (fun ls hl => ?_)
            refine lv_goto (tgt := 46) hx hb dX2_read_101 (by decide) ?_
            exact ih o87.2 (x2 + 1) _ _ _ hS (lv_sub hl [1, 0] rfl) hm
          · replace hm := it c90 hm
            refine lv_aload_n hx hb dX2_read_93 rfl (lv_at hl 0 rfl) ?_
            refine g_2_36_17 C hS dX2_read_94 ?_
            exact retIw (wf := cw q d) C hS hm dX2_read_97
        · replace hm := it c63 hm
          refine lv_aload_n hx hb dX2_read_66 rfl (lv_at hl 0 rfl) ?_
          refine g_2_18_17 C hS dX2_read_67 ?_
          refine g_2_53_18 C hS dX2_read_70 ?_
          refine lv_if_ne (tgt := 83) hx hb dX2_read_73 (by decide) (fun c73 => ?_) (fun c73 => ?_)
          · replace hm := ie c73 hm
            refine lv_bipush (v := (-9)) hx hb dX2_read_83 (by decide) ?_
            exact retIw (wf := cw q d) C hS hm dX2_read_85
          · replace hm := it c73 hm
            refine lv_aload_n hx hb dX2_read_76 rfl (lv_at hl 0 rfl) ?_
            refine g_2_36_17 C hS dX2_read_77 ?_
            refine lv_goto (tgt := 85) hx hb dX2_read_80 (by decide) ?_
            exact retIw (wf := cw q d) C hS hm dX2_read_85
  unfold M_X2_read at hm
  refine lv_aload_n hx hb dX2_read_0 rfl (lv_at hl 0 rfl) ?_
  refine lv_aload_n hx hb dX2_read_1 rfl (lv_at hl 0 rfl) ?_
  refine g_2_22_17 C hS dX2_read_2 ?_
  refine lv_iload_n hx hb dX2_read_5 rfl (lv_at hl 1 rfl) ?_
  refine lv_aload_n hx hb dX2_read_6 rfl (lv_at hl 0 rfl) ?_
  refine g_2_9_17 C hS dX2_read_7 ?_
  obtain ⟨o10, e10, hm⟩ := ob hm
  refine after_i C hS (call_V (As := [.int a1, .ref (q 43)]) C hS (c_X3_copyInto_t l d q σ a1 o10 e10 _) iv_2_26 ⟨rfl, rfl, Nat.le_of_ble_eq_true rfl, Nat.le_of_ble_eq_true rfl⟩ cw_o10 rfl rfl rfl hl.1 (Nat.le_of_ble_eq_true rfl) dX2_read_10) (fun H locs hS => ?_)
  obtain ⟨σ13, e13, hm⟩ := ob hm
  refine p_2_32_17 C hS e13 dX2_read_13 (fun H locs hS => ?_)
  refine lv_aload_n hx hb dX2_read_16 rfl (lv_at hl 0 rfl) ?_
  refine lv_iconst (v := 0) hx hb dX2_read_17 (by decide) ?_
  obtain ⟨σ18, e18, hm⟩ := ob hm
  refine p_2_36_17 C hS e18 dX2_read_18 (fun H locs hS => ?_)
  refine lv_aload_n hx hb dX2_read_21 rfl (lv_at hl 0 rfl) ?_
  refine g_2_18_17 C hS dX2_read_22 ?_
  obtain ⟨o25, e25, hm⟩ := ob hm
  refine after_v C hS (call_V (As := []) C hS (c_X0_clear l d q σ18 o25 e25 _) iv_2_39 ⟨rfl, rfl, Nat.le_of_ble_eq_true rfl, Nat.le_of_ble_eq_true rfl⟩ cw_o18 rfl rfl rfl hl.1 (Nat.le_of_ble_eq_true rfl) dX2_read_25) (fun H locs hS => ?_)
  refine lv_aload_n hx hb dX2_read_28 rfl (lv_at hl 0 rfl) ?_
  obtain ⟨o29, e29, hm⟩ := ob hm
  refine after_v C hS (call_V (As := []) C hS (c_X2_skipBlanks l d q o25 o29 e29 _) iv_2_42 ⟨rfl, rfl, Nat.le_of_ble_eq_true rfl, Nat.le_of_ble_eq_true rfl⟩ cw_o17 rfl rfl rfl hl.1 (Nat.le_of_ble_eq_true rfl) dX2_read_29) (fun H locs hS => ?_)
  refine lv_aload_n hx hb dX2_read_32 rfl (lv_at hl 0 rfl) ?_
  obtain ⟨o33, e33, hm⟩ := ob hm
  refine after_i C hS (call_V (As := []) C hS (c_X2_readPeace l d q o29 o33 e33 _) iv_2_45 ⟨rfl, rfl, Nat.le_of_ble_eq_true rfl, Nat.le_of_ble_eq_true rfl⟩ cw_o17 rfl rfl rfl hl.1 (Nat.le_of_ble_eq_true rfl) dX2_read_33) (fun H locs hS => ?_)
  refine lv_if_ne (tgt := 44) hx hb dX2_read_36 (by decide) (fun c36 => ?_) (fun c36 => ?_)
  · replace hm := ie c36 hm
    refine lv_iconst (v := 0) hx hb dX2_read_44 (by decide) ?_
    refine lv_istore_n (lv' := [(2, .int 0), (0, .ref (q 17)), (1, .int a1)]) hx hb dX2_read_45 rfl hl (by decide) rfl (fun ls hl => ?_)
    exact L46 10000 o33.2 0 _ _ _ hS (lv_sub hl [1, 0] rfl) hm
  · replace hm := it c36 hm
    refine lv_aload_n hx hb dX2_read_39 rfl (lv_at hl 0 rfl) ?_
    refine g_2_36_17 C hS dX2_read_40 ?_
    exact retIw (wf := cw q d) C hS hm dX2_read_43
def M_X6_fault (σ : ST) (a1 : Int32) : Option (Int32 × ST) := (M_X6_refusalOf_t σ a1).bind fun o6 => if o6.1 = 0 then (M_X2_read o6.2 a1).bind fun o23 => some (o23.1, o23.2) else some (o6.1, o6.2)
abbrev rm_X6_fault : Room := { frames := 9, cells := 0, slots := 0, locals := 304 }
set_option maxRecDepth 100000 in
set_option maxHeartbeats 4000000 in
theorem c_X6_fault (l : Launch) (d : CD) (q : Nat → Nat) (σ : ST) (a1 : Int32) (out : Int32 × ST) (hm : M_X6_fault σ a1 = some out) : MetI l yX6_fault cX6_fault 3 (some .int) rm_X6_fault d (cw q d σ) [.ref (q 0), .int a1] out.1 (cw q d out.2) := by
  refine mkI (own := RX6) (by decide +kernel) rfl (Nat.le_of_ble_eq_true rfl) ?_
  intro p e s m below meth c A ls C hS hl
  obtain ⟨hx, hb, hml, hown, hts, -⟩ := id C
  have hl : lv_has ls 3 [(0, .ref (q 0)), (1, .int a1)] := hl
  unfold M_X6_fault at hm
  refine lv_aload_n hx hb dX6_fault_0 rfl (lv_at hl 0 rfl) ?_
  refine lv_aload_n hx hb dX6_fault_1 rfl (lv_at hl 0 rfl) ?_
  refine g_6_18_0 C hS dX6_fault_2 ?_
  refine lv_iload_n hx hb dX6_fault_5 rfl (lv_at hl 1 rfl) ?_
  obtain ⟨o6, e6, hm⟩ := ob hm
  refine after_i C hS (call_V (As := [.ref (q 10), .int a1]) C hS (c_X6_refusalOf_t l d q σ a1 o6 e6 _) iv_6_89 ⟨rfl, rfl, Nat.le_of_ble_eq_true rfl, Nat.le_of_ble_eq_true rfl⟩ cw_o0 rfl rfl rfl hl.1 (Nat.le_of_ble_eq_true rfl) dX6_fault_6) (fun H locs hS => ?_)
  refine lv_istore_n (lv' := [(2, .int o6.1), (0, .ref (q 0)), (1, .int a1)]) hx hb dX6_fault_9 rfl hl (by decide) rfl (fun ls hl => ?_)
  refine lv_iload_n hx hb dX6_fault_10 rfl (lv_at hl 0 rfl) ?_
  refine lv_if_eq (tgt := 18) hx hb dX6_fault_11 (by decide) (fun c11 => ?_) (fun c11 => ?_)
  · replace hm := it c11 hm
    refine lv_aload_n hx hb dX6_fault_18 rfl (lv_at hl 1 rfl) ?_
    refine g_6_26_0 C hS dX6_fault_19 ?_
    refine lv_iload_n hx hb dX6_fault_22 rfl (lv_at hl 2 rfl) ?_
    obtain ⟨o23, e23, hm⟩ := ob hm
    refine after_i C hS (call_V (As := [.int a1]) C hS (c_X2_read l d q o6.2 a1 o23 e23 _) iv_6_122 ⟨rfl, rfl, Nat.le_of_ble_eq_true rfl, Nat.le_of_ble_eq_true rfl⟩ cw_o17 rfl rfl rfl hl.1 (Nat.le_of_ble_eq_true rfl) dX6_fault_23) (fun H locs hS => ?_)
    exact retIw (wf := cw q d) C hS hm dX6_fault_26
  · replace hm := ie c11 hm
    refine lv_iload_n hx hb dX6_fault_14 rfl (lv_at hl 0 rfl) ?_
    refine lv_goto (tgt := 26) hx hb dX6_fault_15 (by decide) ?_
    exact retIw (wf := cw q d) C hS hm dX6_fault_26
def M_X5_isHouse (σ : ST) (a1 : Int32) : Option Int32 := if a1 < 0 then okZ 0 else if (σ.1 33) ≤ a1 then okZ 0 else okZ 1
abbrev rm_X5_isHouse : Room := { frames := 0, cells := 0, slots := 0, locals := 0 }
set_option maxRecDepth 100000 in
set_option maxHeartbeats 4000000 in
theorem c_X5_isHouse (l : Launch) (d : CD) (q : Nat → Nat) (σ : ST) (a1 : Int32) (out : Int32) (hm : M_X5_isHouse σ a1 = some out) : MetI l yX5_isHouse cX5_isHouse 2 (some .boolean) rm_X5_isHouse d (cw q d σ) [.ref (q 22), .int a1] out (cw q d σ) := by
  refine mkI (own := RX5) (by decide +kernel) rfl (Nat.le_of_ble_eq_true rfl) ?_
  intro p e s m below meth c A ls C hS hl
  obtain ⟨hx, hb, hml, hown, hts, -⟩ := id C
  have hl : lv_has ls 2 [(0, .ref (q 22)), (1, .int a1)] := hl
  unfold M_X5_isHouse at hm
  refine lv_iload_n hx hb dX5_isHouse_0 rfl (lv_at hl 1 rfl) ?_
  refine lv_if_lt (tgt := 19) hx hb dX5_isHouse_1 (by decide) (fun c1 => ?_) (fun c1 => ?_)
  · replace hm := it c1 hm
    refine lv_iconst (v := 0) hx hb dX5_isHouse_19 (by decide) ?_
    exact retZr C hS hm dX5_isHouse_20
  · replace hm := ie c1 hm
    refine lv_iload_n hx hb dX5_isHouse_4 rfl (lv_at hl 1 rfl) ?_
    refine lv_aload_n hx hb dX5_isHouse_5 rfl (lv_at hl 0 rfl) ?_
    refine g_5_12_22 C hS dX5_isHouse_6 ?_
    refine g_5_95_23 C hS dX5_isHouse_9 ?_
    refine lv_icmp_ge (tgt := 19) hx hb dX5_isHouse_12 (by decide) (fun c12 => ?_) (fun c12 => ?_)
    · replace hm := it c12 hm
      refine lv_iconst (v := 0) hx hb dX5_isHouse_19 (by decide) ?_
      exact retZr C hS hm dX5_isHouse_20
    · replace hm := ie c12 hm
      refine lv_iconst (v := 1) hx hb dX5_isHouse_15 (by decide) ?_
      refine lv_goto (tgt := 20) hx hb dX5_isHouse_16 (by decide) ?_
      exact retZr C hS hm dX5_isHouse_20
def M_X6_isOfKind_19 (x0 : Int32) (x1 : Int32) : Option Int32 := if x0 = 5 then if x1 = 3 then okZ 1 else okZ 0 else okZ 0
def M_X6_isOfKind (a0 : Int32) (a1 : Int32) : Option Int32 := if a0 = a1 then okZ 1 else if a1 = 0 then okZ 1 else if a0 = 4 then if a1 = 1 then okZ 1 else M_X6_isOfKind_19 a0 a1 else M_X6_isOfKind_19 a0 a1
abbrev rm_X6_isOfKind : Room := { frames := 0, cells := 0, slots := 0, locals := 0 }
set_option maxRecDepth 100000 in
set_option maxHeartbeats 4000000 in
theorem c_X6_isOfKind (l : Launch) (d : CD) (w : va_W) (a0 : Int32) (a1 : Int32) (out : Int32) (hm : M_X6_isOfKind a0 a1 = some out) : MetI l yX6_isOfKind cX6_isOfKind 2 (some .boolean) rm_X6_isOfKind d w [.int a0, .int a1] out w := by
  refine mkI (own := RX6) (by decide +kernel) rfl (Nat.le_of_ble_eq_true rfl) ?_
  intro p e s m below meth c A ls C hS hl
  obtain ⟨hx, hb, hml, hown, hts, -⟩ := id C
  have hl : lv_has ls 2 [(0, .int a0), (1, .int a1)] := hl
  have J19 : ∀ (x0 : Int32) (x1 : Int32) (H : Heap) (locs : List Loc) (ls : Array Slot), HS d A s.heap H locs w → lv_has ls 2 [(0, .int x0), (1, .int x1)] → M_X6_isOfKind_19 x0 x1 = some out → WI p l e rm_X6_isOfKind s m [.int a0, .int a1].toArray below meth c A d H locs out w (F0 m 19 ls []) := by
    intro x0 x1 H locs ls hS hl hm
    unfold M_X6_isOfKind_19 at hm
    refine lv_iload_n hx hb dX6_isOfKind_19 rfl (lv_at hl 0 rfl) ?_
    refine lv_iconst (v := 5) hx hb dX6_isOfKind_20 (by decide) ?_
    refine lv_icmp_ne (tgt := 33) hx hb dX6_isOfKind_21 (by decide) (fun c21 => ?_) (fun c21 => ?_)
    · replace hm := ie c21 hm
      refine lv_iconst (v := 0) hx hb dX6_isOfKind_33 (by decide) ?_
      exact retZr C hS hm dX6_isOfKind_34
    · replace hm := it c21 hm
      refine lv_iload_n hx hb dX6_isOfKind_24 rfl (lv_at hl 1 rfl) ?_
      refine lv_iconst (v := 3) hx hb dX6_isOfKind_25 (by decide) ?_
      refine lv_icmp_ne (tgt := 33) hx hb dX6_isOfKind_26 (by decide) (fun c26 => ?_) (fun c26 => ?_)
      · replace hm := ie c26 hm
        refine lv_iconst (v := 0) hx hb dX6_isOfKind_33 (by decide) ?_
        exact retZr C hS hm dX6_isOfKind_34
      · replace hm := it c26 hm
        refine lv_iconst (v := 1) hx hb dX6_isOfKind_29 (by decide) ?_
        refine lv_goto (tgt := 34) hx hb dX6_isOfKind_30 (by decide) ?_
        exact retZr C hS hm dX6_isOfKind_34
  unfold M_X6_isOfKind at hm
  refine lv_iload_n hx hb dX6_isOfKind_0 rfl (lv_at hl 0 rfl) ?_
  refine lv_iload_n hx hb dX6_isOfKind_1 rfl (lv_at hl 1 rfl) ?_
  refine lv_icmp_eq (tgt := 29) hx hb dX6_isOfKind_2 (by decide) (fun c2 => ?_) (fun c2 => ?_)
  · replace hm := it c2 hm
    refine lv_iconst (v := 1) hx hb dX6_isOfKind_29 (by decide) ?_
    refine lv_goto (tgt := 34) hx hb dX6_isOfKind_30 (by decide) ?_
    exact retZr C hS hm dX6_isOfKind_34
  · replace hm := ie c2 hm
    refine lv_iload_n hx hb dX6_isOfKind_5 rfl (lv_at hl 1 rfl) ?_
    refine lv_if_eq (tgt := 29) hx hb dX6_isOfKind_6 (by decide) (fun c6 => ?_) (fun c6 => ?_)
    · replace hm := it c6 hm
      refine lv_iconst (v := 1) hx hb dX6_isOfKind_29 (by decide) ?_
      refine lv_goto (tgt := 34) hx hb dX6_isOfKind_30 (by decide) ?_
      exact retZr C hS hm dX6_isOfKind_34
    · replace hm := ie c6 hm
      refine lv_iload_n hx hb dX6_isOfKind_9 rfl (lv_at hl 0 rfl) ?_
      refine lv_iconst (v := 4) hx hb dX6_isOfKind_10 (by decide) ?_
      refine lv_icmp_ne (tgt := 19) hx hb dX6_isOfKind_11 (by decide) (fun c11 => ?_) (fun c11 => ?_)
      · replace hm := ie c11 hm
        exact J19 a0 a1 _ _ _ hS (lv_sub hl [0, 1] rfl) hm
      · replace hm := it c11 hm
        refine lv_iload_n hx hb dX6_isOfKind_14 rfl (lv_at hl 1 rfl) ?_
        refine lv_iconst (v := 1) hx hb dX6_isOfKind_15 (by decide) ?_
        refine lv_icmp_eq (tgt := 29) hx hb dX6_isOfKind_16 (by decide) (fun c16 => ?_) (fun c16 => ?_)
        · replace hm := it c16 hm
          refine lv_iconst (v := 1) hx hb dX6_isOfKind_29 (by decide) ?_
          refine lv_goto (tgt := 34) hx hb dX6_isOfKind_30 (by decide) ?_
          exact retZr C hS hm dX6_isOfKind_34
        · replace hm := ie c16 hm
          exact J19 a0 a1 _ _ _ hS (lv_sub hl [0, 1] rfl) hm
def M_X5_keyWeight (σ : ST) (a1 : Int32) : Option Int32 := (rd 7 (σ.2.2 24) a1).bind fun v8 => (M_X6_isOfKind v8 1).bind fun o12 => if o12 = 0 then (M_X6_isOfKind v8 3).bind fun o29 => if o29 = 0 then some 1 else if v8 = 5 then some 3 else some 2 else some (1 - ((σ.1 36) - (σ.1 36) / 2 * 2))
abbrev rm_X5_keyWeight : Room := { frames := 1, cells := 0, slots := 0, locals := 21 }
set_option maxRecDepth 100000 in
set_option maxHeartbeats 4000000 in
theorem c_X5_keyWeight (l : Launch) (d : CD) (q : Nat → Nat) (σ : ST) (a1 : Int32) (out : Int32) (hm : M_X5_keyWeight σ a1 = some out) : MetI l yX5_keyWeight cX5_keyWeight 3 (some .int) rm_X5_keyWeight d (cw q d σ) [.ref (q 22), .int a1] out (cw q d σ) := by
  refine mkI (own := RX5) (by decide +kernel) rfl (Nat.le_of_ble_eq_true rfl) ?_
  intro p e s m below meth c A ls C hS hl
  obtain ⟨hx, hb, hml, hown, hts, -⟩ := id C
  have hl : lv_has ls 3 [(0, .ref (q 22)), (1, .int a1)] := hl
  unfold M_X5_keyWeight at hm
  refine lv_aload_n hx hb dX5_keyWeight_0 rfl (lv_at hl 0 rfl) ?_
  refine g_5_12_22 C hS dX5_keyWeight_1 ?_
  refine g_5_102_23 C hS dX5_keyWeight_4 ?_
  refine lv_iload_n hx hb dX5_keyWeight_7 rfl (lv_at hl 1 rfl) ?_
  obtain ⟨v8, e8, hm⟩ := ob hm
  refine iald' C hS cw_a24 e8 dX5_keyWeight_8 ?_
  refine lv_istore_n (lv' := [(2, .int v8), (0, .ref (q 22)), (1, .int a1)]) hx hb dX5_keyWeight_9 rfl hl (by decide) rfl (fun ls hl => ?_)
  refine lv_iload_n hx hb dX5_keyWeight_10 rfl (lv_at hl 0 rfl) ?_
  refine lv_iconst (v := 1) hx hb dX5_keyWeight_11 (by decide) ?_
  obtain ⟨o12, e12, hm⟩ := ob hm
  refine after_i C hS (call_N (As := [.int v8, .int 1]) C hS (c_X6_isOfKind l d (cw q d σ) v8 1 o12 e12 _) is_5_105 ⟨rfl, rfl, Nat.le_of_ble_eq_true rfl, Nat.le_of_ble_eq_true rfl⟩ rfl hl.1 (Nat.le_of_ble_eq_true rfl) dX5_keyWeight_12) (fun H locs hS => ?_)
  refine lv_if_eq (tgt := 27) hx hb dX5_keyWeight_15 (by decide) (fun c15 => ?_) (fun c15 => ?_)
  · replace hm := it c15 hm
    refine lv_iload_n hx hb dX5_keyWeight_27 rfl (lv_at hl 0 rfl) ?_
    refine lv_iconst (v := 3) hx hb dX5_keyWeight_28 (by decide) ?_
    obtain ⟨o29, e29, hm⟩ := ob hm
    refine after_i C hS (call_N (As := [.int v8, .int 3]) C hS (c_X6_isOfKind l d (cw q d σ) v8 3 o29 e29 _) is_5_105 ⟨rfl, rfl, Nat.le_of_ble_eq_true rfl, Nat.le_of_ble_eq_true rfl⟩ rfl hl.1 (Nat.le_of_ble_eq_true rfl) dX5_keyWeight_29) (fun H locs hS => ?_)
    refine lv_if_eq (tgt := 46) hx hb dX5_keyWeight_32 (by decide) (fun c32 => ?_) (fun c32 => ?_)
    · replace hm := it c32 hm
      refine lv_iconst (v := 1) hx hb dX5_keyWeight_46 (by decide) ?_
      exact retIr C hS hm dX5_keyWeight_47
    · replace hm := ie c32 hm
      refine lv_iload_n hx hb dX5_keyWeight_35 rfl (lv_at hl 0 rfl) ?_
      refine lv_iconst (v := 5) hx hb dX5_keyWeight_36 (by decide) ?_
      refine lv_icmp_ne (tgt := 44) hx hb dX5_keyWeight_37 (by decide) (fun c37 => ?_) (fun c37 => ?_)
      · replace hm := ie c37 hm
        refine lv_iconst (v := 2) hx hb dX5_keyWeight_44 (by decide) ?_
        exact retIr C hS hm dX5_keyWeight_45
      · replace hm := it c37 hm
        refine lv_iconst (v := 3) hx hb dX5_keyWeight_40 (by decide) ?_
        refine lv_goto (tgt := 45) hx hb dX5_keyWeight_41 (by decide) ?_
        exact retIr C hS hm dX5_keyWeight_45
  · replace hm := ie c15 hm
    refine lv_iconst (v := 1) hx hb dX5_keyWeight_18 (by decide) ?_
    refine lv_aload_n hx hb dX5_keyWeight_19 rfl (lv_at hl 1 rfl) ?_
    refine g_5_50_22 C hS dX5_keyWeight_20 ?_
    refine lv_iconst (v := 2) hx hb dX5_keyWeight_23 (by decide) ?_
    refine lv_irem hx hb dX5_keyWeight_24 (by decide) ?_
    refine lv_isub hx hb dX5_keyWeight_25 ?_
    exact retIr C hS hm dX5_keyWeight_26
def M_X5_factOf (σ : ST) (a1 : Int32) (a2 : Int32) : Option Int32 := if a2 = 0 then (rd 7 (σ.2.2 24) a1).bind fun v48 => some v48 else if a2 = 1 then (rd 7 (σ.2.2 25) a1).bind fun v58 => some v58 else if a2 = 2 then (rd 7 (σ.2.2 30) a1).bind fun v65 => some v65 else if a2 = 3 then (rd 7 (σ.2.2 31) a1).bind fun v72 => some v72 else if a2 = 4 then (rd 7 (σ.2.2 29) a1).bind fun v79 => some v79 else if a2 = 5 then (M_X5_keyWeight σ a1).bind fun o83 => some o83 else (rd 7 (σ.2.2 26) a1).bind fun v95 => some v95
abbrev rm_X5_factOf : Room := { frames := 2, cells := 0, slots := 0, locals := 43 }
set_option maxRecDepth 100000 in
set_option maxHeartbeats 4000000 in
theorem c_X5_factOf (l : Launch) (d : CD) (q : Nat → Nat) (σ : ST) (a1 : Int32) (a2 : Int32) (out : Int32) (hm : M_X5_factOf σ a1 a2 = some out) : MetI l yX5_factOf cX5_factOf 3 (some .int) rm_X5_factOf d (cw q d σ) [.ref (q 22), .int a1, .int a2] out (cw q d σ) := by
  refine mkI (own := RX5) (by decide +kernel) rfl (Nat.le_of_ble_eq_true rfl) ?_
  intro p e s m below meth c A ls C hS hl
  obtain ⟨hx, hb, hml, hown, hts, -⟩ := id C
  have hl : lv_has ls 3 [(0, .ref (q 22)), (1, .int a1), (2, .int a2)] := hl
  unfold M_X5_factOf at hm
  refine lv_iload_n hx hb dX5_factOf_0 rfl (lv_at hl 2 rfl) ?_
  by_cases c1_0 : a2 = 0
  · replace hm := it c1_0 hm
    refine lv_tableIn (off := 39) (tgt := 40) hx hb dX5_factOf_1 (by rw [c1_0]; decide) (by rw [c1_0]; decide) (by rw [c1_0]; rfl) (by decide) ?_
    refine lv_aload_n hx hb dX5_factOf_40 rfl (lv_at hl 0 rfl) ?_
    refine g_5_12_22 C hS dX5_factOf_41 ?_
    refine g_5_102_23 C hS dX5_factOf_44 ?_
    refine lv_iload_n hx hb dX5_factOf_47 rfl (lv_at hl 1 rfl) ?_
    obtain ⟨v48, e48, hm⟩ := ob hm
    refine iald' C hS cw_a24 e48 dX5_factOf_48 ?_
    exact retIr C hS hm dX5_factOf_49
  · replace hm := ie c1_0 hm
    by_cases c1_1 : a2 = 1
    · replace hm := it c1_1 hm
      refine lv_tableIn (off := 49) (tgt := 50) hx hb dX5_factOf_1 (by rw [c1_1]; decide) (by rw [c1_1]; decide) (by rw [c1_1]; rfl) (by decide) ?_
      refine lv_aload_n hx hb dX5_factOf_50 rfl (lv_at hl 0 rfl) ?_
      refine g_5_12_22 C hS dX5_factOf_51 ?_
      refine g_5_128_23 C hS dX5_factOf_54 ?_
      refine lv_iload_n hx hb dX5_factOf_57 rfl (lv_at hl 1 rfl) ?_
      obtain ⟨v58, e58, hm⟩ := ob hm
      refine iald' C hS cw_a25 e58 dX5_factOf_58 ?_
      exact retIr C hS hm dX5_factOf_59
    · replace hm := ie c1_1 hm
      by_cases c1_2 : a2 = 2
      · replace hm := it c1_2 hm
        refine lv_tableIn (off := 59) (tgt := 60) hx hb dX5_factOf_1 (by rw [c1_2]; decide) (by rw [c1_2]; decide) (by rw [c1_2]; rfl) (by decide) ?_
        refine lv_aload_n hx hb dX5_factOf_60 rfl (lv_at hl 0 rfl) ?_
        refine g_5_31_22 C hS dX5_factOf_61 ?_
        refine lv_iload_n hx hb dX5_factOf_64 rfl (lv_at hl 1 rfl) ?_
        obtain ⟨v65, e65, hm⟩ := ob hm
        refine iald' C hS cw_a30 e65 dX5_factOf_65 ?_
        exact retIr C hS hm dX5_factOf_66
      · replace hm := ie c1_2 hm
        by_cases c1_3 : a2 = 3
        · replace hm := it c1_3 hm
          refine lv_tableIn (off := 66) (tgt := 67) hx hb dX5_factOf_1 (by rw [c1_3]; decide) (by rw [c1_3]; decide) (by rw [c1_3]; rfl) (by decide) ?_
          refine lv_aload_n hx hb dX5_factOf_67 rfl (lv_at hl 0 rfl) ?_
          refine g_5_34_22 C hS dX5_factOf_68 ?_
          refine lv_iload_n hx hb dX5_factOf_71 rfl (lv_at hl 1 rfl) ?_
          obtain ⟨v72, e72, hm⟩ := ob hm
          refine iald' C hS cw_a31 e72 dX5_factOf_72 ?_
          exact retIr C hS hm dX5_factOf_73
        · replace hm := ie c1_3 hm
          by_cases c1_4 : a2 = 4
          · replace hm := it c1_4 hm
            refine lv_tableIn (off := 73) (tgt := 74) hx hb dX5_factOf_1 (by rw [c1_4]; decide) (by rw [c1_4]; decide) (by rw [c1_4]; rfl) (by decide) ?_
            refine lv_aload_n hx hb dX5_factOf_74 rfl (lv_at hl 0 rfl) ?_
            refine g_5_27_22 C hS dX5_factOf_75 ?_
            refine lv_iload_n hx hb dX5_factOf_78 rfl (lv_at hl 1 rfl) ?_
            obtain ⟨v79, e79, hm⟩ := ob hm
            refine iald' C hS cw_a29 e79 dX5_factOf_79 ?_
            exact retIr C hS hm dX5_factOf_80
          · replace hm := ie c1_4 hm
            by_cases c1_5 : a2 = 5
            · replace hm := it c1_5 hm
              refine lv_tableIn (off := 80) (tgt := 81) hx hb dX5_factOf_1 (by rw [c1_5]; decide) (by rw [c1_5]; decide) (by rw [c1_5]; rfl) (by decide) ?_
              refine lv_aload_n hx hb dX5_factOf_81 rfl (lv_at hl 0 rfl) ?_
              refine lv_iload_n hx hb dX5_factOf_82 rfl (lv_at hl 1 rfl) ?_
              obtain ⟨o83, e83, hm⟩ := ob hm
              refine after_i C hS (call_V (As := [.int a1]) C hS (c_X5_keyWeight l d q σ a1 o83 e83 _) iv_5_112 ⟨rfl, rfl, Nat.le_of_ble_eq_true rfl, Nat.le_of_ble_eq_true rfl⟩ cw_o22 rfl rfl rfl hl.1 (Nat.le_of_ble_eq_true rfl) dX5_factOf_83) (fun H locs hS => ?_)
              exact retIr C hS hm dX5_factOf_86
            · replace hm := ie c1_5 hm
              refine lv_tableOut (tgt := 87) hx hb dX5_factOf_1 (by have h0 : a2.toInt ≠ 0 := ts_ne c1_0; have h1 : a2.toInt ≠ 1 := ts_ne c1_1; have h2 : a2.toInt ≠ 2 := ts_ne c1_2; have h3 : a2.toInt ≠ 3 := ts_ne c1_3; have h4 : a2.toInt ≠ 4 := ts_ne c1_4; have h5 : a2.toInt ≠ 5 := ts_ne c1_5; omega) (by decide) ?_
              refine lv_aload_n hx hb dX5_factOf_87 rfl (lv_at hl 0 rfl) ?_
              refine g_5_12_22 C hS dX5_factOf_88 ?_
              refine g_5_131_23 C hS dX5_factOf_91 ?_
              refine lv_iload_n hx hb dX5_factOf_94 rfl (lv_at hl 1 rfl) ?_
              obtain ⟨v95, e95, hm⟩ := ob hm
              refine iald' C hS cw_a26 e95 dX5_factOf_95 ?_
              exact retIr C hS hm dX5_factOf_96
def M_X6_house (σ : ST) (a1 : Int32) (a2 : Int32) : Option (Int32 × ST) := (M_X5_isHouse σ a1).bind fun o5 => if o5 = 0 then some ((-1), σ) else if a2 < 0 then some ((-1), σ) else if a2 < 7 then (M_X5_factOf σ a1 a2).bind fun o30 => (some (setI σ 8 (o30))).bind fun σ33 => some (1, σ33) else some ((-1), σ)
abbrev rm_X6_house : Room := { frames := 3, cells := 0, slots := 0, locals := 65 }
set_option maxRecDepth 100000 in
set_option maxHeartbeats 4000000 in
theorem c_X6_house (l : Launch) (d : CD) (q : Nat → Nat) (σ : ST) (a1 : Int32) (a2 : Int32) (out : Int32 × ST) (hm : M_X6_house σ a1 a2 = some out) : MetI l yX6_house cX6_house 3 (some .int) rm_X6_house d (cw q d σ) [.ref (q 0), .int a1, .int a2] out.1 (cw q d out.2) := by
  refine mkI (own := RX6) (by decide +kernel) rfl (Nat.le_of_ble_eq_true rfl) ?_
  intro p e s m below meth c A ls C hS hl
  obtain ⟨hx, hb, hml, hown, hts, -⟩ := id C
  have hl : lv_has ls 3 [(0, .ref (q 0)), (1, .int a1), (2, .int a2)] := hl
  unfold M_X6_house at hm
  refine lv_aload_n hx hb dX6_house_0 rfl (lv_at hl 0 rfl) ?_
  refine g_6_33_0 C hS dX6_house_1 ?_
  refine lv_iload_n hx hb dX6_house_4 rfl (lv_at hl 1 rfl) ?_
  obtain ⟨o5, e5, hm⟩ := ob hm
  refine after_i C hS (call_V (As := [.int a1]) C hS (c_X5_isHouse l d q σ a1 o5 e5 _) iv_6_144 ⟨rfl, rfl, Nat.le_of_ble_eq_true rfl, Nat.le_of_ble_eq_true rfl⟩ cw_o22 rfl rfl rfl hl.1 (Nat.le_of_ble_eq_true rfl) dX6_house_5) (fun H locs hS => ?_)
  refine lv_if_eq (tgt := 21) hx hb dX6_house_8 (by decide) (fun c8 => ?_) (fun c8 => ?_)
  · replace hm := it c8 hm
    refine lv_iconst (v := (-1)) hx hb dX6_house_21 (by decide) ?_
    exact retIw (wf := cw q d) C hS hm dX6_house_22
  · replace hm := ie c8 hm
    refine lv_iload_n hx hb dX6_house_11 rfl (lv_at hl 2 rfl) ?_
    refine lv_if_lt (tgt := 21) hx hb dX6_house_12 (by decide) (fun c12 => ?_) (fun c12 => ?_)
    · replace hm := it c12 hm
      refine lv_iconst (v := (-1)) hx hb dX6_house_21 (by decide) ?_
      exact retIw (wf := cw q d) C hS hm dX6_house_22
    · replace hm := ie c12 hm
      refine lv_iload_n hx hb dX6_house_15 rfl (lv_at hl 2 rfl) ?_
      refine lv_bipush (v := 7) hx hb dX6_house_16 (by decide) ?_
      refine lv_icmp_lt (tgt := 23) hx hb dX6_house_18 (by decide) (fun c18 => ?_) (fun c18 => ?_)
      · replace hm := it c18 hm
        refine lv_aload_n hx hb dX6_house_23 rfl (lv_at hl 0 rfl) ?_
        refine lv_aload_n hx hb dX6_house_24 rfl (lv_at hl 0 rfl) ?_
        refine g_6_33_0 C hS dX6_house_25 ?_
        refine lv_iload_n hx hb dX6_house_28 rfl (lv_at hl 1 rfl) ?_
        refine lv_iload_n hx hb dX6_house_29 rfl (lv_at hl 2 rfl) ?_
        obtain ⟨o30, e30, hm⟩ := ob hm
        refine after_i C hS (call_V (As := [.int a1, .int a2]) C hS (c_X5_factOf l d q σ a1 a2 o30 e30 _) iv_6_147 ⟨rfl, rfl, Nat.le_of_ble_eq_true rfl, Nat.le_of_ble_eq_true rfl⟩ cw_o22 rfl rfl rfl hl.1 (Nat.le_of_ble_eq_true rfl) dX6_house_30) (fun H locs hS => ?_)
        obtain ⟨σ33, e33, hm⟩ := ob hm
        refine p_6_60_0 C hS e33 dX6_house_33 (fun H locs hS => ?_)
        refine lv_iconst (v := 1) hx hb dX6_house_36 (by decide) ?_
        exact retIw (wf := cw q d) C hS hm dX6_house_37
      · replace hm := ie c18 hm
        refine lv_iconst (v := (-1)) hx hb dX6_house_21 (by decide) ?_
        exact retIw (wf := cw q d) C hS hm dX6_house_22
def M_X5_keysHeldBy_4 (σ : ST) : Nat → Int32 → Int32 → Int32 → Option Int32
  | 0, _, _, _ => none
  | n + 1, x1, x2, x3 => if (σ.1 33) ≤ x3 then some x2 else (rd 7 (σ.2.2 29) x3).bind fun v20 => if v20 = x1 then M_X5_keysHeldBy_4 σ n x1 (x2 + 1) (x3 + 1) else M_X5_keysHeldBy_4 σ n x1 x2 (x3 + 1)
def M_X5_keysHeldBy (σ : ST) (a1 : Int32) : Option Int32 := M_X5_keysHeldBy_4 σ 10000 a1 0 0
abbrev rm_X5_keysHeldBy : Room := { frames := 0, cells := 0, slots := 0, locals := 0 }
set_option maxRecDepth 100000 in
set_option maxHeartbeats 4000000 in
theorem c_X5_keysHeldBy (l : Launch) (d : CD) (q : Nat → Nat) (σ : ST) (a1 : Int32) (out : Int32) (hm : M_X5_keysHeldBy σ a1 = some out) : MetI l yX5_keysHeldBy cX5_keysHeldBy 4 (some .int) rm_X5_keysHeldBy d (cw q d σ) [.ref (q 22), .int a1] out (cw q d σ) := by
  refine mkI (own := RX5) (by decide +kernel) rfl (Nat.le_of_ble_eq_true rfl) ?_
  intro p e s m below meth c A ls C hS hl
  obtain ⟨hx, hb, hml, hown, hts, -⟩ := id C
  have hl : lv_has ls 4 [(0, .ref (q 22)), (1, .int a1)] := hl
  have L4 : ∀ (n : Nat) (x1 : Int32) (x2 : Int32) (x3 : Int32) (H : Heap) (locs : List Loc) (ls : Array Slot), HS d A s.heap H locs (cw q d σ) → lv_has ls 4 [(0, .ref (q 22)), (1, .int x1), (2, .int x2), (3, .int x3)] → M_X5_keysHeldBy_4 σ n x1 x2 x3 = some out → WI p l e rm_X5_keysHeldBy s m [.ref (q 22), .int a1].toArray below meth c A d H locs out (cw q d σ) (F0 m 4 ls []) := by
    intro n
    induction n with
    | zero =>
      intro x1 x2 x3 H locs ls hS hl hm
      exact absurd hm (by rw [M_X5_keysHeldBy_4]; exact fun h => nomatch h)
    | succ n ih =>
      intro x1 x2 x3 H locs ls hS hl hm
      rw [M_X5_keysHeldBy_4] at hm
      refine lv_iload_n hx hb dX5_keysHeldBy_4 rfl (lv_at hl 3 rfl) ?_
      refine lv_aload_n hx hb dX5_keysHeldBy_5 rfl (lv_at hl 0 rfl) ?_
      refine g_5_12_22 C hS dX5_keysHeldBy_6 ?_
      refine g_5_95_23 C hS dX5_keysHeldBy_9 ?_
      refine lv_icmp_ge (tgt := 34) hx hb dX5_keysHeldBy_12 (by decide) (fun c12 => ?_) (fun c12 => ?_)
      · replace hm := it c12 hm
        refine lv_iload_n hx hb dX5_keysHeldBy_34 rfl (lv_at hl 2 rfl) ?_
        exact retIr C hS hm dX5_keysHeldBy_35
      · replace hm := ie c12 hm
        refine lv_aload_n hx hb dX5_keysHeldBy_15 rfl (lv_at hl 0 rfl) ?_
        refine g_5_27_22 C hS dX5_keysHeldBy_16 ?_
        refine lv_iload_n hx hb dX5_keysHeldBy_19 rfl (lv_at hl 3 rfl) ?_
        obtain ⟨v20, e20, hm⟩ := ob hm
        refine iald' C hS cw_a29 e20 dX5_keysHeldBy_20 ?_
        refine lv_iload_n hx hb dX5_keysHeldBy_21 rfl (lv_at hl 1 rfl) ?_
        refine lv_icmp_ne (tgt := 28) hx hb dX5_keysHeldBy_22 (by decide) (fun c22 => ?_) (fun c22 => ?_)
        · replace hm := ie c22 hm
          refine lv_iinc (v := x3 + 1) (lv' := [(3, .int (x3 + 1)), (0, .ref (q 22)), (1, .int x1), (2, .int x2)]) hx hb dX5_keysHeldBy_28 hl (k := 3) rfl rfl (by decide) rfl (fun ls hl => ?_)
          refine lv_goto (tgt := 4) hx hb dX5_keysHeldBy_31 (by decide) ?_
          exact ih x1 x2 (x3 + 1) _ _ _ hS (lv_sub hl [1, 2, 3, 0] rfl) hm
        · replace hm := it c22 hm
          refine lv_iinc (v := x2 + 1) (lv' := [(2, .int (x2 + 1)), (0, .ref (q 22)), (1, .int x1), (3, .int x3)]) hx hb dX5_keysHeldBy_25 hl (k := 2) rfl rfl (by decide) rfl (fun ls hl => ?_)
          refine lv_iinc (v := x3 + 1) (lv' := [(3, .int (x3 + 1)), (2, .int (x2 + 1)), (0, .ref (q 22)), (1, .int x1)]) hx hb dX5_keysHeldBy_28 hl (k := 3) rfl rfl (by decide) rfl (fun ls hl => ?_)
          refine lv_goto (tgt := 4) hx hb dX5_keysHeldBy_31 (by decide) ?_
          exact ih x1 (x2 + 1) (x3 + 1) _ _ _ hS (lv_sub hl [2, 3, 1, 0] rfl) hm
  unfold M_X5_keysHeldBy at hm
  refine lv_iconst (v := 0) hx hb dX5_keysHeldBy_0 (by decide) ?_
  refine lv_istore_n (lv' := [(2, .int 0), (0, .ref (q 22)), (1, .int a1)]) hx hb dX5_keysHeldBy_1 rfl hl (by decide) rfl (fun ls hl => ?_)
  refine lv_iconst (v := 0) hx hb dX5_keysHeldBy_2 (by decide) ?_
  refine lv_istore_n (lv' := [(3, .int 0), (2, .int 0), (0, .ref (q 22)), (1, .int a1)]) hx hb dX5_keysHeldBy_3 rfl hl (by decide) rfl (fun ls hl => ?_)
  exact L4 10000 a1 0 0 _ _ _ hS (lv_sub hl [2, 3, 1, 0] rfl) hm
def M_X0_wants (σ : ST) (a1 : Int32) : Option Int32 := (rd 7 (σ.2.2 24) a1).bind fun v5 => if v5 = 5 then some 0 else (rd 7 (σ.2.2 24) a1).bind fun v17 => if v17 = 4 then (rd 7 (σ.2.2 25) a1).bind fun v27 => some (v27 / 2) else (rd 7 (σ.2.2 25) a1).bind fun v38 => some v38
abbrev rm_X0_wants : Room := { frames := 0, cells := 0, slots := 0, locals := 0 }
set_option maxRecDepth 100000 in
set_option maxHeartbeats 4000000 in
theorem c_X0_wants (l : Launch) (d : CD) (q : Nat → Nat) (σ : ST) (a1 : Int32) (out : Int32) (hm : M_X0_wants σ a1 = some out) : MetI l yX0_wants cX0_wants 2 (some .int) rm_X0_wants d (cw q d σ) [.ref (q 23), .int a1] out (cw q d σ) := by
  refine mkI (own := RX0) (by decide +kernel) rfl (Nat.le_of_ble_eq_true rfl) ?_
  intro p e s m below meth c A ls C hS hl
  obtain ⟨hx, hb, hml, hown, hts, -⟩ := id C
  have hl : lv_has ls 2 [(0, .ref (q 23)), (1, .int a1)] := hl
  unfold M_X0_wants at hm
  refine lv_aload_n hx hb dX0_wants_0 rfl (lv_at hl 0 rfl) ?_
  refine g_0_9_23 C hS dX0_wants_1 ?_
  refine lv_iload_n hx hb dX0_wants_4 rfl (lv_at hl 1 rfl) ?_
  obtain ⟨v5, e5, hm⟩ := ob hm
  refine iald' C hS cw_a24 e5 dX0_wants_5 ?_
  refine lv_iconst (v := 5) hx hb dX0_wants_6 (by decide) ?_
  refine lv_icmp_ne (tgt := 12) hx hb dX0_wants_7 (by decide) (fun c7 => ?_) (fun c7 => ?_)
  · replace hm := ie c7 hm
    refine lv_aload_n hx hb dX0_wants_12 rfl (lv_at hl 0 rfl) ?_
    refine g_0_9_23 C hS dX0_wants_13 ?_
    refine lv_iload_n hx hb dX0_wants_16 rfl (lv_at hl 1 rfl) ?_
    obtain ⟨v17, e17, hm⟩ := ob hm
    refine iald' C hS cw_a24 e17 dX0_wants_17 ?_
    refine lv_iconst (v := 4) hx hb dX0_wants_18 (by decide) ?_
    refine lv_icmp_ne (tgt := 33) hx hb dX0_wants_19 (by decide) (fun c19 => ?_) (fun c19 => ?_)
    · replace hm := ie c19 hm
      refine lv_aload_n hx hb dX0_wants_33 rfl (lv_at hl 0 rfl) ?_
      refine g_0_15_23 C hS dX0_wants_34 ?_
      refine lv_iload_n hx hb dX0_wants_37 rfl (lv_at hl 1 rfl) ?_
      obtain ⟨v38, e38, hm⟩ := ob hm
      refine iald' C hS cw_a25 e38 dX0_wants_38 ?_
      exact retIr C hS hm dX0_wants_39
    · replace hm := it c19 hm
      refine lv_aload_n hx hb dX0_wants_22 rfl (lv_at hl 0 rfl) ?_
      refine g_0_15_23 C hS dX0_wants_23 ?_
      refine lv_iload_n hx hb dX0_wants_26 rfl (lv_at hl 1 rfl) ?_
      obtain ⟨v27, e27, hm⟩ := ob hm
      refine iald' C hS cw_a25 e27 dX0_wants_27 ?_
      refine lv_iconst (v := 2) hx hb dX0_wants_28 (by decide) ?_
      refine lv_idiv hx hb dX0_wants_29 (by decide) ?_
      refine lv_goto (tgt := 39) hx hb dX0_wants_30 (by decide) ?_
      exact retIr C hS hm dX0_wants_39
  · replace hm := it c7 hm
    refine lv_iconst (v := 0) hx hb dX0_wants_10 (by decide) ?_
    exact retIr C hS hm dX0_wants_11
