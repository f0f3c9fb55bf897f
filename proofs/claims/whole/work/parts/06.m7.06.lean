def M_X7_meet_95 : Nat → ST → Int32 → Int32 → Int32 → Option (Int32 × ST)
  | 0, _, _, _, _ => none
  | n + 1, σ, x1, x3, x4 => (rd 6 (σ.2.2 5) x1).bind fun v102 => if v102 ≤ x4 then some (x3, σ) else (rd 240 (σ.2.2 6) ((40 * x1) + x4)).bind fun v119 => (M_X7_draws σ v119).bind fun o120 => M_X7_meet_95 n o120.2 x1 (x3 + o120.1) (x4 + 1)
def M_X7_meet (σ : ST) (a1 : Int32) : Option (Int32 × ST) := (M_X7_isRow a1).bind fun o1 => if o1 = 0 then some ((-1), σ) else (rd 6 (σ.2.2 5) a1).bind fun v14 => if 0 ≤ v14 then (rd 6 (σ.2.2 5) a1).bind fun v29 => if v29 ≤ (σ.1 3) then (M_X7_setOf σ a1).bind fun o45 => if o45 = (-9) then (M_X7_find σ 3).bind fun o57 => some (o57.1, o57.2) else (M_X7_isOpen σ o45).bind fun o63 => if o63 = 0 then some ((-4), σ) else (rd 3776 (σ.2.2 1) 0).bind fun v77 => if v77 = 40 then some ((-2), σ) else (M_X7_keepPast σ).bind fun o87 => M_X7_meet_95 10000 o87 a1 0 0 else (M_X7_find σ 5).bind fun o39 => some (o39.1, o39.2) else (M_X7_find σ 1).bind fun o20 => some (o20.1, o20.2)
abbrev rm_X7_meet : Room := { frames := 3, cells := 0, slots := 0, locals := 70 }
set_option maxRecDepth 100000 in
set_option maxHeartbeats 4000000 in
theorem c_X7_meet (l : Launch) (d : CD) (q : Nat → Nat) (σ : ST) (a1 : Int32) (out : Int32 × ST) (hm : M_X7_meet σ a1 = some out) : MetI l yX7_meet cX7_meet 5 (some .int) rm_X7_meet d (mw q d σ) [.ref (q 0), .int a1] out.1 (mw q d out.2) := by
  refine mkI (own := RX7) (by decide +kernel) rfl (Nat.le_of_ble_eq_true rfl) ?_
  intro p e s m below meth c A ls C hS hl
  obtain ⟨hx, hb, hml, hown, hts, -⟩ := id C
  have hl : lv_has ls 5 [(0, .ref (q 0)), (1, .int a1)] := hl
  have L95 : ∀ (n : Nat) (σ : ST) (x1 : Int32) (x3 : Int32) (x4 : Int32) (H : Heap) (locs : List Loc) (ls : Array Slot), HS d A s.heap H locs (mw q d σ) → lv_has ls 5 [(0, .ref (q 0)), (1, .int x1), (3, .int x3), (4, .int x4)] → M_X7_meet_95 n σ x1 x3 x4 = some out → WI p l e rm_X7_meet s m [.ref (q 0), .int a1].toArray below meth c A d H locs out.1 (mw q d out.2) (F0 m 95 ls []) := by
    intro n
    induction n with
    | zero =>
      intro σ x1 x3 x4 H locs ls hS hl hm
      exact absurd hm (by rw [M_X7_meet_95]; exact fun h => nomatch h)
    | succ n ih =>
      intro σ x1 x3 x4 H locs ls hS hl hm
      rw [M_X7_meet_95] at hm
      refine lv_iload hx hb dX7_meet_95 (lv_at hl 3 rfl) ?_
      refine lv_aload_n hx hb dX7_meet_97 rfl (lv_at hl 0 rfl) ?_
      refine g_7_22_0 C hS dX7_meet_98 ?_
      refine lv_iload_n hx hb dX7_meet_101 rfl (lv_at hl 1 rfl) ?_
      obtain ⟨v102, e102, hm⟩ := ob hm
      refine iald' C hS mw_a5 e102 dX7_meet_102 ?_
      refine lv_icmp_ge (tgt := 131) hx hb dX7_meet_103 (by decide) (fun c103 => ?_) (fun c103 => ?_)
      · replace hm := it c103 hm
        refine lv_iload_n hx hb dX7_meet_131 rfl (lv_at hl 2 rfl) ?_
        exact retIw (wf := mw q d) C hS hm dX7_meet_132
      · replace hm := ie c103 hm
        refine lv_iload_n hx hb dX7_meet_106 rfl (lv_at hl 2 rfl) ?_
        refine lv_aload_n hx hb dX7_meet_107 rfl (lv_at hl 0 rfl) ?_
        refine lv_aload_n hx hb dX7_meet_108 rfl (lv_at hl 0 rfl) ?_
        refine g_7_25_0 C hS dX7_meet_109 ?_
        refine lv_bipush (v := 40) hx hb dX7_meet_112 (by decide) ?_
        refine lv_iload_n hx hb dX7_meet_114 rfl (lv_at hl 1 rfl) ?_
        refine lv_imul hx hb dX7_meet_115 ?_
        refine lv_iload hx hb dX7_meet_116 (lv_at hl 3 rfl) ?_
        refine lv_iadd hx hb dX7_meet_118 ?_
        obtain ⟨v119, e119, hm⟩ := ob hm
        refine iald' C hS mw_a6 e119 dX7_meet_119 ?_
        obtain ⟨o120, e120, hm⟩ := ob hm
        refine after_i C hS (call_V (As := [.int v119]) C hS (c_X7_draws l d q σ v119 o120 e120 _) iv_7_208 ⟨rfl, rfl, Nat.le_of_ble_eq_true rfl, Nat.le_of_ble_eq_true rfl⟩ mw_o0 rfl rfl rfl hl.1 (Nat.le_of_ble_eq_true rfl) dX7_meet_120) (fun H locs hS => ?_)
        refine lv_iadd hx hb dX7_meet_123 ?_
        refine lv_istore_n (lv' := [(3, .int (x3 + o120.1)), (0, .ref (q 0)), (1, .int x1), (4, .int x4)]) hx hb dX7_meet_124 rfl hl (by decide) rfl (fun ls hl => ?_)
        refine lv_iinc (v := x4 + 1) (lv' := [(4, .int (x4 + 1)), (3, .int (x3 + o120.1)), (0, .ref (q 0)), (1, .int x1)]) hx hb dX7_meet_125 hl (k := 3) rfl rfl (by decide) rfl (fun ls hl => ?_)
        refine lv_goto (tgt := 95) hx hb dX7_meet_128 (by decide) ?_
        exact ih o120.2 x1 (x3 + o120.1) (x4 + 1) _ _ _ hS (lv_sub hl [2, 3, 1, 0] rfl) hm
  unfold M_X7_meet at hm
  refine lv_iload_n hx hb dX7_meet_0 rfl (lv_at hl 1 rfl) ?_
  obtain ⟨o1, e1, hm⟩ := ob hm
  refine after_i C hS (call_S (As := [.int a1]) C hS (c_X7_isRow l d (mw q d σ) a1 o1 e1 _) is_7_72 ⟨rfl, rfl, Nat.le_of_ble_eq_true rfl, Nat.le_of_ble_eq_true rfl⟩ rfl hl.1 (Nat.le_of_ble_eq_true rfl) dX7_meet_1) (fun H locs hS => ?_)
  refine lv_if_ne (tgt := 9) hx hb dX7_meet_4 (by decide) (fun c4 => ?_) (fun c4 => ?_)
  · replace hm := ie c4 hm
    refine lv_aload_n hx hb dX7_meet_9 rfl (lv_at hl 0 rfl) ?_
    refine g_7_22_0 C hS dX7_meet_10 ?_
    refine lv_iload_n hx hb dX7_meet_13 rfl (lv_at hl 1 rfl) ?_
    obtain ⟨v14, e14, hm⟩ := ob hm
    refine iald' C hS mw_a5 e14 dX7_meet_14 ?_
    refine lv_if_ge (tgt := 24) hx hb dX7_meet_15 (by decide) (fun c15 => ?_) (fun c15 => ?_)
    · replace hm := it c15 hm
      refine lv_aload_n hx hb dX7_meet_24 rfl (lv_at hl 0 rfl) ?_
      refine g_7_22_0 C hS dX7_meet_25 ?_
      refine lv_iload_n hx hb dX7_meet_28 rfl (lv_at hl 1 rfl) ?_
      obtain ⟨v29, e29, hm⟩ := ob hm
      refine iald' C hS mw_a5 e29 dX7_meet_29 ?_
      refine lv_aload_n hx hb dX7_meet_30 rfl (lv_at hl 0 rfl) ?_
      refine g_7_158_0 C hS dX7_meet_31 ?_
      refine lv_icmp_le (tgt := 43) hx hb dX7_meet_34 (by decide) (fun c34 => ?_) (fun c34 => ?_)
      · replace hm := it c34 hm
        refine lv_aload_n hx hb dX7_meet_43 rfl (lv_at hl 0 rfl) ?_
        refine lv_iload_n hx hb dX7_meet_44 rfl (lv_at hl 1 rfl) ?_
        obtain ⟨o45, e45, hm⟩ := ob hm
        refine after_i C hS (call_V (As := [.int a1]) C hS (c_X7_setOf l d q σ a1 o45 e45 _) iv_7_202 ⟨rfl, rfl, Nat.le_of_ble_eq_true rfl, Nat.le_of_ble_eq_true rfl⟩ mw_o0 rfl rfl rfl hl.1 (Nat.le_of_ble_eq_true rfl) dX7_meet_45) (fun H locs hS => ?_)
        refine lv_istore_n (lv' := [(2, .int o45), (0, .ref (q 0)), (1, .int a1)]) hx hb dX7_meet_48 rfl hl (by decide) rfl (fun ls hl => ?_)
        refine lv_iload_n hx hb dX7_meet_49 rfl (lv_at hl 0 rfl) ?_
        refine lv_bipush (v := (-9)) hx hb dX7_meet_50 (by decide) ?_
        refine lv_icmp_ne (tgt := 61) hx hb dX7_meet_52 (by decide) (fun c52 => ?_) (fun c52 => ?_)
        · replace hm := ie c52 hm
          refine lv_aload_n hx hb dX7_meet_61 rfl (lv_at hl 1 rfl) ?_
          refine lv_iload_n hx hb dX7_meet_62 rfl (lv_at hl 0 rfl) ?_
          obtain ⟨o63, e63, hm⟩ := ob hm
          refine after_i C hS (call_V (As := [.int o45]) C hS (c_X7_isOpen l d q σ o45 o63 e63 _) iv_7_187 ⟨rfl, rfl, Nat.le_of_ble_eq_true rfl, Nat.le_of_ble_eq_true rfl⟩ mw_o0 rfl rfl rfl hl.1 (Nat.le_of_ble_eq_true rfl) dX7_meet_63) (fun H locs hS => ?_)
          refine lv_if_ne (tgt := 72) hx hb dX7_meet_66 (by decide) (fun c66 => ?_) (fun c66 => ?_)
          · replace hm := ie c66 hm
            refine lv_aload_n hx hb dX7_meet_72 rfl (lv_at hl 1 rfl) ?_
            refine g_7_7_0 C hS dX7_meet_73 ?_
            refine lv_iconst (v := 0) hx hb dX7_meet_76 (by decide) ?_
            obtain ⟨v77, e77, hm⟩ := ob hm
            refine iald' C hS mw_a1 e77 dX7_meet_77 ?_
            refine lv_bipush (v := 40) hx hb dX7_meet_78 (by decide) ?_
            refine lv_icmp_ne (tgt := 86) hx hb dX7_meet_80 (by decide) (fun c80 => ?_) (fun c80 => ?_)
            · replace hm := ie c80 hm
              refine lv_aload_n hx hb dX7_meet_86 rfl (lv_at hl 1 rfl) ?_
              obtain ⟨o87, e87, hm⟩ := ob hm
              refine after_v C hS (call_V (As := []) C hS (c_X7_keepPast l d q σ o87 e87 _) iv_7_205 ⟨rfl, rfl, Nat.le_of_ble_eq_true rfl, Nat.le_of_ble_eq_true rfl⟩ mw_o0 rfl rfl rfl hl.1 (Nat.le_of_ble_eq_true rfl) dX7_meet_87) (fun H locs hS => ?_)
              refine lv_iconst (v := 0) hx hb dX7_meet_90 (by decide) ?_
              refine lv_istore_n (lv' := [(3, .int 0), (2, .int o45), (0, .ref (q 0)), (1, .int a1)]) hx hb dX7_meet_91 rfl hl (by decide) rfl (fun ls hl => ?_)
              refine lv_iconst (v := 0) hx hb dX7_meet_92 (by decide) ?_
              refine lv_istore (lv' := [(4, .int 0), (3, .int 0), (2, .int o45), (0, .ref (q 0)), (1, .int a1)]) hx hb dX7_meet_93 hl (by decide) rfl (fun ls hl => ?_)
              exact L95 10000 o87 a1 0 0 _ _ _ hS (lv_sub hl [3, 4, 1, 0] rfl) hm
            · replace hm := it c80 hm
              refine lv_bipush (v := (-2)) hx hb dX7_meet_83 (by decide) ?_
              exact retIw (wf := mw q d) C hS hm dX7_meet_85
          · replace hm := it c66 hm
            refine lv_bipush (v := (-4)) hx hb dX7_meet_69 (by decide) ?_
            exact retIw (wf := mw q d) C hS hm dX7_meet_71
        · replace hm := it c52 hm
          refine lv_aload_n hx hb dX7_meet_55 rfl (lv_at hl 1 rfl) ?_
          refine lv_iconst (v := 3) hx hb dX7_meet_56 (by decide) ?_
          obtain ⟨o57, e57, hm⟩ := ob hm
          refine after_i C hS (call_V (As := [.int 3]) C hS (c_X7_find l d q σ 3 o57 e57 _) iv_7_76 ⟨rfl, rfl, Nat.le_of_ble_eq_true rfl, Nat.le_of_ble_eq_true rfl⟩ mw_o0 rfl rfl rfl hl.1 (Nat.le_of_ble_eq_true rfl) dX7_meet_57) (fun H locs hS => ?_)
          exact retIw (wf := mw q d) C hS hm dX7_meet_60
      · replace hm := ie c34 hm
        refine lv_aload_n hx hb dX7_meet_37 rfl (lv_at hl 0 rfl) ?_
        refine lv_iconst (v := 5) hx hb dX7_meet_38 (by decide) ?_
        obtain ⟨o39, e39, hm⟩ := ob hm
        refine after_i C hS (call_V (As := [.int 5]) C hS (c_X7_find l d q σ 5 o39 e39 _) iv_7_76 ⟨rfl, rfl, Nat.le_of_ble_eq_true rfl, Nat.le_of_ble_eq_true rfl⟩ mw_o0 rfl rfl rfl hl.1 (Nat.le_of_ble_eq_true rfl) dX7_meet_39) (fun H locs hS => ?_)
        exact retIw (wf := mw q d) C hS hm dX7_meet_42
    · replace hm := ie c15 hm
      refine lv_aload_n hx hb dX7_meet_18 rfl (lv_at hl 0 rfl) ?_
      refine lv_iconst (v := 1) hx hb dX7_meet_19 (by decide) ?_
      obtain ⟨o20, e20, hm⟩ := ob hm
      refine after_i C hS (call_V (As := [.int 1]) C hS (c_X7_find l d q σ 1 o20 e20 _) iv_7_76 ⟨rfl, rfl, Nat.le_of_ble_eq_true rfl, Nat.le_of_ble_eq_true rfl⟩ mw_o0 rfl rfl rfl hl.1 (Nat.le_of_ble_eq_true rfl) dX7_meet_20) (fun H locs hS => ?_)
      exact retIw (wf := mw q d) C hS hm dX7_meet_23
  · replace hm := it c4 hm
    refine lv_iconst (v := (-1)) hx hb dX7_meet_7 (by decide) ?_
    exact retIw (wf := mw q d) C hS hm dX7_meet_8
def M_X7_pledge (σ : ST) (a1 : Int32) (a2 : Int32) : Option (Int32 × ST) := (M_X7_isHouse σ a1).bind fun o2 => if o2 = 0 then some ((-1), σ) else (M_X7_isHouse σ a2).bind fun o10 => if o10 = 0 then some ((-1), σ) else (rd 3776 (σ.2.2 1) (3 + a1)).bind fun v25 => if v25 = a2 then some ((-4), σ) else (rd 3776 (σ.2.2 1) 0).bind fun v40 => if v40 = 40 then some ((-2), σ) else (M_X7_keepPast σ).bind fun o50 => (wrA 3776 o50 1 (3 + a1) a2).bind fun σ61 => some (v25, σ61)
abbrev rm_X7_pledge : Room := { frames := 2, cells := 0, slots := 0, locals := 46 }
set_option maxRecDepth 100000 in
set_option maxHeartbeats 4000000 in
theorem c_X7_pledge (l : Launch) (d : CD) (q : Nat → Nat) (σ : ST) (a1 : Int32) (a2 : Int32) (out : Int32 × ST) (hm : M_X7_pledge σ a1 a2 = some out) : MetI l yX7_pledge cX7_pledge 4 (some .int) rm_X7_pledge d (mw q d σ) [.ref (q 0), .int a1, .int a2] out.1 (mw q d out.2) := by
  refine mkI (own := RX7) (by decide +kernel) rfl (Nat.le_of_ble_eq_true rfl) ?_
  intro p e s m below meth c A ls C hS hl
  obtain ⟨hx, hb, hml, hown, hts, -⟩ := id C
  have hl : lv_has ls 4 [(0, .ref (q 0)), (1, .int a1), (2, .int a2)] := hl
  unfold M_X7_pledge at hm
  refine lv_aload_n hx hb dX7_pledge_0 rfl (lv_at hl 0 rfl) ?_
  refine lv_iload_n hx hb dX7_pledge_1 rfl (lv_at hl 1 rfl) ?_
  obtain ⟨o2, e2, hm⟩ := ob hm
  refine after_i C hS (call_V (As := [.int a1]) C hS (c_X7_isHouse l d q σ a1 o2 e2 _) iv_7_179 ⟨rfl, rfl, Nat.le_of_ble_eq_true rfl, Nat.le_of_ble_eq_true rfl⟩ mw_o0 rfl rfl rfl hl.1 (Nat.le_of_ble_eq_true rfl) dX7_pledge_2) (fun H locs hS => ?_)
  refine lv_if_eq (tgt := 16) hx hb dX7_pledge_5 (by decide) (fun c5 => ?_) (fun c5 => ?_)
  · replace hm := it c5 hm
    refine lv_iconst (v := (-1)) hx hb dX7_pledge_16 (by decide) ?_
    exact retIw (wf := mw q d) C hS hm dX7_pledge_17
  · replace hm := ie c5 hm
    refine lv_aload_n hx hb dX7_pledge_8 rfl (lv_at hl 0 rfl) ?_
    refine lv_iload_n hx hb dX7_pledge_9 rfl (lv_at hl 2 rfl) ?_
    obtain ⟨o10, e10, hm⟩ := ob hm
    refine after_i C hS (call_V (As := [.int a2]) C hS (c_X7_isHouse l d q σ a2 o10 e10 _) iv_7_179 ⟨rfl, rfl, Nat.le_of_ble_eq_true rfl, Nat.le_of_ble_eq_true rfl⟩ mw_o0 rfl rfl rfl hl.1 (Nat.le_of_ble_eq_true rfl) dX7_pledge_10) (fun H locs hS => ?_)
    refine lv_if_ne (tgt := 18) hx hb dX7_pledge_13 (by decide) (fun c13 => ?_) (fun c13 => ?_)
    · replace hm := ie c13 hm
      refine lv_aload_n hx hb dX7_pledge_18 rfl (lv_at hl 0 rfl) ?_
      refine g_7_7_0 C hS dX7_pledge_19 ?_
      refine lv_iconst (v := 3) hx hb dX7_pledge_22 (by decide) ?_
      refine lv_iload_n hx hb dX7_pledge_23 rfl (lv_at hl 1 rfl) ?_
      refine lv_iadd hx hb dX7_pledge_24 ?_
      obtain ⟨v25, e25, hm⟩ := ob hm
      refine iald' C hS mw_a1 e25 dX7_pledge_25 ?_
      refine lv_istore_n (lv' := [(3, .int v25), (0, .ref (q 0)), (1, .int a1), (2, .int a2)]) hx hb dX7_pledge_26 rfl hl (by decide) rfl (fun ls hl => ?_)
      refine lv_iload_n hx hb dX7_pledge_27 rfl (lv_at hl 0 rfl) ?_
      refine lv_iload_n hx hb dX7_pledge_28 rfl (lv_at hl 3 rfl) ?_
      refine lv_icmp_ne (tgt := 35) hx hb dX7_pledge_29 (by decide) (fun c29 => ?_) (fun c29 => ?_)
      · replace hm := ie c29 hm
        refine lv_aload_n hx hb dX7_pledge_35 rfl (lv_at hl 1 rfl) ?_
        refine g_7_7_0 C hS dX7_pledge_36 ?_
        refine lv_iconst (v := 0) hx hb dX7_pledge_39 (by decide) ?_
        obtain ⟨v40, e40, hm⟩ := ob hm
        refine iald' C hS mw_a1 e40 dX7_pledge_40 ?_
        refine lv_bipush (v := 40) hx hb dX7_pledge_41 (by decide) ?_
        refine lv_icmp_ne (tgt := 49) hx hb dX7_pledge_43 (by decide) (fun c43 => ?_) (fun c43 => ?_)
        · replace hm := ie c43 hm
          refine lv_aload_n hx hb dX7_pledge_49 rfl (lv_at hl 1 rfl) ?_
          obtain ⟨o50, e50, hm⟩ := ob hm
          refine after_v C hS (call_V (As := []) C hS (c_X7_keepPast l d q σ o50 e50 _) iv_7_205 ⟨rfl, rfl, Nat.le_of_ble_eq_true rfl, Nat.le_of_ble_eq_true rfl⟩ mw_o0 rfl rfl rfl hl.1 (Nat.le_of_ble_eq_true rfl) dX7_pledge_50) (fun H locs hS => ?_)
          refine lv_aload_n hx hb dX7_pledge_53 rfl (lv_at hl 1 rfl) ?_
          refine g_7_7_0 C hS dX7_pledge_54 ?_
          refine lv_iconst (v := 3) hx hb dX7_pledge_57 (by decide) ?_
          refine lv_iload_n hx hb dX7_pledge_58 rfl (lv_at hl 2 rfl) ?_
          refine lv_iadd hx hb dX7_pledge_59 ?_
          refine lv_iload_n hx hb dX7_pledge_60 rfl (lv_at hl 3 rfl) ?_
          obtain ⟨σ61, e61, hm⟩ := ob hm
          refine iast' (wf := mw q d) C hS mw_a1 mw_s1 e61 dX7_pledge_61 (fun H locs hS => ?_)
          refine lv_iload_n hx hb dX7_pledge_62 rfl (lv_at hl 0 rfl) ?_
          exact retIw (wf := mw q d) C hS hm dX7_pledge_63
        · replace hm := it c43 hm
          refine lv_bipush (v := (-2)) hx hb dX7_pledge_46 (by decide) ?_
          exact retIw (wf := mw q d) C hS hm dX7_pledge_48
      · replace hm := it c29 hm
        refine lv_bipush (v := (-4)) hx hb dX7_pledge_32 (by decide) ?_
        exact retIw (wf := mw q d) C hS hm dX7_pledge_34
    · replace hm := it c13 hm
      refine lv_iconst (v := (-1)) hx hb dX7_pledge_16 (by decide) ?_
      exact retIw (wf := mw q d) C hS hm dX7_pledge_17
def M_X7_doDay_54 : Nat → ST → Int32 → Option (Int32 × ST)
  | 0, _, _ => none
  | n + 1, σ, x1 => if 7 ≤ x1 then (rd 3776 (σ.2.2 1) 2).bind fun v81 => some (v81, σ) else (wrA 3776 σ 1 (10 + x1) 0).bind fun σ69 => M_X7_doDay_54 n σ69 (x1 + 1)
def M_X7_doDay_51 (σ : ST) (y1 : Int32) (y2 : Int32) : Option (Int32 × ST) := (wrA 3776 σ 1 y1 y2).bind fun σ51 => M_X7_doDay_54 10000 σ51 0
def M_X7_doDay (σ : ST) : Option (Int32 × ST) := (M_X7_keepPast σ).bind fun o1 => (rd 3776 (o1.2.2 1) 1).bind fun v10 => (wrA 3776 o1 1 1 (v10 + 1)).bind fun σ13 => (rd 3776 (σ13.2.2 1) 2).bind fun v24 => if (v24 + (σ13.1 2)) ≤ 99 then (rd 3776 (σ13.2.2 1) 2).bind fun v45 => M_X7_doDay_51 σ13 2 (v45 + (σ13.1 2)) else M_X7_doDay_51 σ13 2 99
abbrev rm_X7_doDay : Room := { frames := 1, cells := 0, slots := 0, locals := 21 }
set_option maxRecDepth 100000 in
set_option maxHeartbeats 4000000 in
theorem c_X7_doDay (l : Launch) (d : CD) (q : Nat → Nat) (σ : ST) (out : Int32 × ST) (hm : M_X7_doDay σ = some out) : MetI l yX7_doDay cX7_doDay 2 (some .int) rm_X7_doDay d (mw q d σ) [.ref (q 0)] out.1 (mw q d out.2) := by
  refine mkI (own := RX7) (by decide +kernel) rfl (Nat.le_of_ble_eq_true rfl) ?_
  intro p e s m below meth c A ls C hS hl
  obtain ⟨hx, hb, hml, hown, hts, -⟩ := id C
  have hl : lv_has ls 2 [(0, .ref (q 0))] := hl
  have L54 : ∀ (n : Nat) (σ : ST) (x1 : Int32) (H : Heap) (locs : List Loc) (ls : Array Slot), HS d A s.heap H locs (mw q d σ) → lv_has ls 2 [(0, .ref (q 0)), (1, .int x1)] → M_X7_doDay_54 n σ x1 = some out → WI p l e rm_X7_doDay s m [.ref (q 0)].toArray below meth c A d H locs out.1 (mw q d out.2) (F0 m 54 ls []) := by
    intro n
    induction n with
    | zero =>
      intro σ x1 H locs ls hS hl hm
      exact absurd hm (by rw [M_X7_doDay_54]; exact fun h => nomatch h)
    | succ n ih =>
      intro σ x1 H locs ls hS hl hm
      rw [M_X7_doDay_54] at hm
      refine lv_iload_n hx hb dX7_doDay_54 rfl (lv_at hl 1 rfl) ?_
      refine lv_bipush (v := 7) hx hb dX7_doDay_55 (by decide) ?_
      refine lv_icmp_ge (tgt := 76) hx hb dX7_doDay_57 (by decide) (fun c57 => ?_) (fun c57 => ?_)
      · replace hm := it c57 hm
        refine lv_aload_n hx hb dX7_doDay_76 rfl (lv_at hl 0 rfl) ?_
        refine g_7_7_0 C hS dX7_doDay_77 ?_
        refine lv_iconst (v := 2) hx hb dX7_doDay_80 (by decide) ?_
        obtain ⟨v81, e81, hm⟩ := ob hm
        refine iald' C hS mw_a1 e81 dX7_doDay_81 ?_
        exact retIw (wf := mw q d) C hS hm dX7_doDay_82
      · replace hm := ie c57 hm
        refine lv_aload_n hx hb dX7_doDay_60 rfl (lv_at hl 0 rfl) ?_
        refine g_7_7_0 C hS dX7_doDay_61 ?_
        refine lv_bipush (v := 10) hx hb dX7_doDay_64 (by decide) ?_
        refine lv_iload_n hx hb dX7_doDay_66 rfl (lv_at hl 1 rfl) ?_
        refine lv_iadd hx hb dX7_doDay_67 ?_
        refine lv_iconst (v := 0) hx hb dX7_doDay_68 (by decide) ?_
        obtain ⟨σ69, e69, hm⟩ := ob hm
        refine iast' (wf := mw q d) C hS mw_a1 mw_s1 e69 dX7_doDay_69 (fun H locs hS => ?_)
        refine lv_iinc (v := x1 + 1) (lv' := [(1, .int (x1 + 1)), (0, .ref (q 0))]) hx hb dX7_doDay_70 hl (k := 1) rfl rfl (by decide) rfl (fun ls hl => ?_)
        refine lv_goto (tgt := 54) hx hb dX7_doDay_73 (by decide) ?_
        exact ih σ69 (x1 + 1) _ _ _ hS (lv_sub hl [1, 0] rfl) hm
  have J51 : ∀ (σ : ST) (y1 : Int32) (y2 : Int32) (H : Heap) (locs : List Loc) (ls : Array Slot), HS d A s.heap H locs (mw q d σ) → lv_has ls 2 [(0, .ref (q 0))] → M_X7_doDay_51 σ y1 y2 = some out → WI p l e rm_X7_doDay s m [.ref (q 0)].toArray below meth c A d H locs out.1 (mw q d out.2) (F0 m 51 ls [.int y2, .int y1, .ref (q 1)]) := by
    intro σ y1 y2 H locs ls hS hl hm
    unfold M_X7_doDay_51 at hm
    obtain ⟨σ51, e51, hm⟩ := ob hm
    refine iast' (wf := mw q d) C hS mw_a1 mw_s1 e51 dX7_doDay_51 (fun H locs hS => ?_)
    refine lv_iconst (v := 0) hx hb dX7_doDay_52 (by decide) ?_
    refine lv_istore_n (lv' := [(1, .int 0), (0, .ref (q 0))]) hx hb dX7_doDay_53 rfl hl (by decide) rfl (fun ls hl => ?_)
    exact L54 10000 σ51 0 _ _ _ hS (lv_sub hl [1, 0] rfl) hm
  unfold M_X7_doDay at hm
  refine lv_aload_n hx hb dX7_doDay_0 rfl (lv_at hl 0 rfl) ?_
  obtain ⟨o1, e1, hm⟩ := ob hm
  refine after_v C hS (call_V (As := []) C hS (c_X7_keepPast l d q σ o1 e1 _) iv_7_205 ⟨rfl, rfl, Nat.le_of_ble_eq_true rfl, Nat.le_of_ble_eq_true rfl⟩ mw_o0 rfl rfl rfl hl.1 (Nat.le_of_ble_eq_true rfl) dX7_doDay_1) (fun H locs hS => ?_)
  refine lv_aload_n hx hb dX7_doDay_4 rfl (lv_at hl 0 rfl) ?_
  refine g_7_7_0 C hS dX7_doDay_5 ?_
  refine lv_iconst (v := 1) hx hb dX7_doDay_8 (by decide) ?_
  refine lv_dup2_11 hx hb dX7_doDay_9 rfl rfl ?_
  obtain ⟨v10, e10, hm⟩ := ob hm
  refine iald' C hS mw_a1 e10 dX7_doDay_10 ?_
  refine lv_iconst (v := 1) hx hb dX7_doDay_11 (by decide) ?_
  refine lv_iadd hx hb dX7_doDay_12 ?_
  obtain ⟨σ13, e13, hm⟩ := ob hm
  refine iast' (wf := mw q d) C hS mw_a1 mw_s1 e13 dX7_doDay_13 (fun H locs hS => ?_)
  refine lv_aload_n hx hb dX7_doDay_14 rfl (lv_at hl 0 rfl) ?_
  refine g_7_7_0 C hS dX7_doDay_15 ?_
  refine lv_iconst (v := 2) hx hb dX7_doDay_18 (by decide) ?_
  refine lv_aload_n hx hb dX7_doDay_19 rfl (lv_at hl 0 rfl) ?_
  refine g_7_7_0 C hS dX7_doDay_20 ?_
  refine lv_iconst (v := 2) hx hb dX7_doDay_23 (by decide) ?_
  obtain ⟨v24, e24, hm⟩ := ob hm
  refine iald' C hS mw_a1 e24 dX7_doDay_24 ?_
  refine lv_aload_n hx hb dX7_doDay_25 rfl (lv_at hl 0 rfl) ?_
  refine g_7_155_0 C hS dX7_doDay_26 ?_
  refine lv_iadd hx hb dX7_doDay_29 ?_
  refine lv_bipush (v := 99) hx hb dX7_doDay_30 (by decide) ?_
  refine lv_icmp_le (tgt := 40) hx hb dX7_doDay_32 (by decide) (fun c32 => ?_) (fun c32 => ?_)
  · replace hm := it c32 hm
    refine lv_aload_n hx hb dX7_doDay_40 rfl (lv_at hl 0 rfl) ?_
    refine g_7_7_0 C hS dX7_doDay_41 ?_
    refine lv_iconst (v := 2) hx hb dX7_doDay_44 (by decide) ?_
    obtain ⟨v45, e45, hm⟩ := ob hm
    refine iald' C hS mw_a1 e45 dX7_doDay_45 ?_
    refine lv_aload_n hx hb dX7_doDay_46 rfl (lv_at hl 0 rfl) ?_
    refine g_7_155_0 C hS dX7_doDay_47 ?_
    refine lv_iadd hx hb dX7_doDay_50 ?_
    exact J51 σ13 2 (v45 + (σ13.1 2)) _ _ _ hS (lv_sub hl [0] rfl) hm
  · replace hm := ie c32 hm
    refine lv_bipush (v := 99) hx hb dX7_doDay_35 (by decide) ?_
    refine lv_goto (tgt := 51) hx hb dX7_doDay_37 (by decide) ?_
    exact J51 σ13 2 99 _ _ _ hS (lv_sub hl [0] rfl) hm
def M_X7_day (σ : ST) : Option (Int32 × ST) := if (σ.1 3) = 0 then some ((-4), σ) else (rd 3776 (σ.2.2 1) 0).bind fun v15 => if v15 = 40 then some ((-2), σ) else (M_X7_doDay σ).bind fun o27 => some (o27.1, o27.2)
abbrev rm_X7_day : Room := { frames := 2, cells := 0, slots := 0, locals := 42 }
set_option maxRecDepth 100000 in
set_option maxHeartbeats 4000000 in
theorem c_X7_day (l : Launch) (d : CD) (q : Nat → Nat) (σ : ST) (out : Int32 × ST) (hm : M_X7_day σ = some out) : MetI l yX7_day cX7_day 1 (some .int) rm_X7_day d (mw q d σ) [.ref (q 0)] out.1 (mw q d out.2) := by
  refine mkI (own := RX7) (by decide +kernel) rfl (Nat.le_of_ble_eq_true rfl) ?_
  intro p e s m below meth c A ls C hS hl
  obtain ⟨hx, hb, hml, hown, hts, -⟩ := id C
  have hl : lv_has ls 1 [(0, .ref (q 0))] := hl
  unfold M_X7_day at hm
  refine lv_aload_n hx hb dX7_day_0 rfl (lv_at hl 0 rfl) ?_
  refine g_7_158_0 C hS dX7_day_1 ?_
  refine lv_if_ne (tgt := 10) hx hb dX7_day_4 (by decide) (fun c4 => ?_) (fun c4 => ?_)
  · replace hm := ie c4 hm
    refine lv_aload_n hx hb dX7_day_10 rfl (lv_at hl 0 rfl) ?_
    refine g_7_7_0 C hS dX7_day_11 ?_
    refine lv_iconst (v := 0) hx hb dX7_day_14 (by decide) ?_
    obtain ⟨v15, e15, hm⟩ := ob hm
    refine iald' C hS mw_a1 e15 dX7_day_15 ?_
    refine lv_bipush (v := 40) hx hb dX7_day_16 (by decide) ?_
    refine lv_icmp_ne (tgt := 26) hx hb dX7_day_18 (by decide) (fun c18 => ?_) (fun c18 => ?_)
    · replace hm := ie c18 hm
      refine lv_aload_n hx hb dX7_day_26 rfl (lv_at hl 0 rfl) ?_
      obtain ⟨o27, e27, hm⟩ := ob hm
      refine after_i C hS (call_V (As := []) C hS (c_X7_doDay l d q σ o27 e27 _) iv_7_211 ⟨rfl, rfl, Nat.le_of_ble_eq_true rfl, Nat.le_of_ble_eq_true rfl⟩ mw_o0 rfl rfl rfl hl.1 (Nat.le_of_ble_eq_true rfl) dX7_day_27) (fun H locs hS => ?_)
      exact retIw (wf := mw q d) C hS hm dX7_day_30
    · replace hm := it c18 hm
      refine lv_bipush (v := (-2)) hx hb dX7_day_21 (by decide) ?_
      refine lv_goto (tgt := 30) hx hb dX7_day_23 (by decide) ?_
      exact retIw (wf := mw q d) C hS hm dX7_day_30
  · replace hm := it c4 hm
    refine lv_bipush (v := (-4)) hx hb dX7_day_7 (by decide) ?_
    exact retIw (wf := mw q d) C hS hm dX7_day_9
def M_X7_undo_67 (σ : ST) (x1 : Int32) (x2 : Int32) : Option (Int32 × ST) := (wrA 3776 σ 1 0 x1).bind fun σ73 => some (x2, σ73)
def M_X7_undo_29 : Nat → ST → Int32 → Int32 → Int32 → Option (Int32 × ST)
  | 0, _, _, _, _ => none
  | n + 1, σ, x1, x2, x3 => if 23 ≤ x3 then M_X7_undo_67 σ x1 x2 else if x2 ≤ 0 then M_X7_undo_67 σ x1 x2 else (rd 3776 (σ.2.2 1) ((24 + (23 * x1)) + x3)).bind fun v59 => (wrA 3776 σ 1 (1 + x3) v59).bind fun σ60 => M_X7_undo_29 n σ60 x1 x2 (x3 + 1)
def M_X7_undo (σ : ST) (a1 : Int32) : Option (Int32 × ST) := (rd 3776 (σ.2.2 1) 0).bind fun v8 => (M_X7_in a1.toInt64 0 v8.toInt64).bind fun o10 => if o10 = 0 then some ((-1), σ) else (rd 3776 (σ.2.2 1) 0).bind fun v23 => M_X7_undo_29 10000 σ a1 (v23 - a1) 0
abbrev rm_X7_undo : Room := { frames := 1, cells := 0, slots := 0, locals := 25 }
set_option maxRecDepth 100000 in
set_option maxHeartbeats 4000000 in
theorem c_X7_undo (l : Launch) (d : CD) (q : Nat → Nat) (σ : ST) (a1 : Int32) (out : Int32 × ST) (hm : M_X7_undo σ a1 = some out) : MetI l yX7_undo cX7_undo 4 (some .int) rm_X7_undo d (mw q d σ) [.ref (q 0), .int a1] out.1 (mw q d out.2) := by
  refine mkI (own := RX7) (by decide +kernel) rfl (Nat.le_of_ble_eq_true rfl) ?_
  intro p e s m below meth c A ls C hS hl
  obtain ⟨hx, hb, hml, hown, hts, -⟩ := id C
  have hl : lv_has ls 4 [(0, .ref (q 0)), (1, .int a1)] := hl
  have J67 : ∀ (σ : ST) (x1 : Int32) (x2 : Int32) (H : Heap) (locs : List Loc) (ls : Array Slot), HS d A s.heap H locs (mw q d σ) → lv_has ls 4 [(0, .ref (q 0)), (1, .int x1), (2, .int x2)] → M_X7_undo_67 σ x1 x2 = some out → WI p l e rm_X7_undo s m [.ref (q 0), .int a1].toArray below meth c A d H locs out.1 (mw q d out.2) (F0 m 67 ls []) := by
    intro σ x1 x2 H locs ls hS hl hm
    unfold M_X7_undo_67 at hm
    refine lv_aload_n hx hb dX7_undo_67 rfl (lv_at hl 0 rfl) ?_
    refine g_7_7_0 C hS dX7_undo_68 ?_
    refine lv_iconst (v := 0) hx hb dX7_undo_71 (by decide) ?_
    refine lv_iload_n hx hb dX7_undo_72 rfl (lv_at hl 1 rfl) ?_
    obtain ⟨σ73, e73, hm⟩ := ob hm
    refine iast' (wf := mw q d) C hS mw_a1 mw_s1 e73 dX7_undo_73 (fun H locs hS => ?_)
    refine lv_iload_n hx hb dX7_undo_74 rfl (lv_at hl 2 rfl) ?_
    exact retIw (wf := mw q d) C hS hm dX7_undo_75
  have L29 : ∀ (n : Nat) (σ : ST) (x1 : Int32) (x2 : Int32) (x3 : Int32) (H : Heap) (locs : List Loc) (ls : Array Slot), HS d A s.heap H locs (mw q d σ) → lv_has ls 4 [(0, .ref (q 0)), (1, .int x1), (2, .int x2), (3, .int x3)] → M_X7_undo_29 n σ x1 x2 x3 = some out → WI p l e rm_X7_undo s m [.ref (q 0), .int a1].toArray below meth c A d H locs out.1 (mw q d out.2) (F0 m 29 ls []) := by
    intro n
    induction n with
    | zero =>
      intro σ x1 x2 x3 H locs ls hS hl hm
      exact absurd hm (by rw [M_X7_undo_29]; exact fun h => nomatch h)
    | succ n ih =>
      intro σ x1 x2 x3 H locs ls hS hl hm
      rw [M_X7_undo_29] at hm
      refine lv_iload_n hx hb dX7_undo_29 rfl (lv_at hl 3 rfl) ?_
      refine lv_bipush (v := 23) hx hb dX7_undo_30 (by decide) ?_
      refine lv_icmp_ge (tgt := 67) hx hb dX7_undo_32 (by decide) (fun c32 => ?_) (fun c32 => ?_)
      · replace hm := it c32 hm
        exact J67 σ x1 x2 _ _ _ hS (lv_sub hl [0, 1, 2] rfl) hm
      · replace hm := ie c32 hm
        refine lv_iload_n hx hb dX7_undo_35 rfl (lv_at hl 2 rfl) ?_
        refine lv_if_le (tgt := 67) hx hb dX7_undo_36 (by decide) (fun c36 => ?_) (fun c36 => ?_)
        · replace hm := it c36 hm
          exact J67 σ x1 x2 _ _ _ hS (lv_sub hl [0, 1, 2] rfl) hm
        · replace hm := ie c36 hm
          refine lv_aload_n hx hb dX7_undo_39 rfl (lv_at hl 0 rfl) ?_
          refine g_7_7_0 C hS dX7_undo_40 ?_
          refine lv_iconst (v := 1) hx hb dX7_undo_43 (by decide) ?_
          refine lv_iload_n hx hb dX7_undo_44 rfl (lv_at hl 3 rfl) ?_
          refine lv_iadd hx hb dX7_undo_45 ?_
          refine lv_aload_n hx hb dX7_undo_46 rfl (lv_at hl 0 rfl) ?_
          refine g_7_7_0 C hS dX7_undo_47 ?_
          refine lv_bipush (v := 24) hx hb dX7_undo_50 (by decide) ?_
          refine lv_bipush (v := 23) hx hb dX7_undo_52 (by decide) ?_
          refine lv_iload_n hx hb dX7_undo_54 rfl (lv_at hl 1 rfl) ?_
          refine lv_imul hx hb dX7_undo_55 ?_
          refine lv_iadd hx hb dX7_undo_56 ?_
          refine lv_iload_n hx hb dX7_undo_57 rfl (lv_at hl 3 rfl) ?_
          refine lv_iadd hx hb dX7_undo_58 ?_
          obtain ⟨v59, e59, hm⟩ := ob hm
          refine iald' C hS mw_a1 e59 dX7_undo_59 ?_
          obtain ⟨σ60, e60, hm⟩ := ob hm
          refine iast' (wf := mw q d) C hS mw_a1 mw_s1 e60 dX7_undo_60 (fun H locs hS => ?_)
          refine lv_iinc (v := x3 + 1) (lv' := [(3, .int (x3 + 1)), (0, .ref (q 0)), (1, .int x1), (2, .int x2)]) hx hb dX7_undo_61 hl (k := 3) rfl rfl (by decide) rfl (fun ls hl => ?_)
          refine lv_goto (tgt := 29) hx hb dX7_undo_64 (by decide) ?_
          exact ih σ60 x1 x2 (x3 + 1) _ _ _ hS (lv_sub hl [1, 2, 3, 0] rfl) hm
  unfold M_X7_undo at hm
  refine lv_iload_n hx hb dX7_undo_0 rfl (lv_at hl 1 rfl) ?_
  refine lv_i2l (v := a1.toInt64) hx hb dX7_undo_1 rfl ?_
  refine lv_lconst (v := 0) hx hb dX7_undo_2 (by decide) ?_
  refine lv_aload_n hx hb dX7_undo_3 rfl (lv_at hl 0 rfl) ?_
  refine g_7_7_0 C hS dX7_undo_4 ?_
  refine lv_iconst (v := 0) hx hb dX7_undo_7 (by decide) ?_
  obtain ⟨v8, e8, hm⟩ := ob hm
  refine iald' C hS mw_a1 e8 dX7_undo_8 ?_
  refine lv_i2l (v := v8.toInt64) hx hb dX7_undo_9 rfl ?_
  obtain ⟨o10, e10, hm⟩ := ob hm
  refine after_i C hS (call_S (As := [.long a1.toInt64, .long 0, .long v8.toInt64]) C hS (c_X7_in l d (mw q d σ) a1.toInt64 0 v8.toInt64 o10 e10 _) is_7_66 ⟨rfl, rfl, Nat.le_of_ble_eq_true rfl, Nat.le_of_ble_eq_true rfl⟩ rfl hl.1 (Nat.le_of_ble_eq_true rfl) dX7_undo_10) (fun H locs hS => ?_)
  refine lv_if_ne (tgt := 18) hx hb dX7_undo_13 (by decide) (fun c13 => ?_) (fun c13 => ?_)
  · replace hm := ie c13 hm
    refine lv_aload_n hx hb dX7_undo_18 rfl (lv_at hl 0 rfl) ?_
    refine g_7_7_0 C hS dX7_undo_19 ?_
    refine lv_iconst (v := 0) hx hb dX7_undo_22 (by decide) ?_
    obtain ⟨v23, e23, hm⟩ := ob hm
    refine iald' C hS mw_a1 e23 dX7_undo_23 ?_
    refine lv_iload_n hx hb dX7_undo_24 rfl (lv_at hl 1 rfl) ?_
    refine lv_isub hx hb dX7_undo_25 ?_
    refine lv_istore_n (lv' := [(2, .int (v23 - a1)), (0, .ref (q 0)), (1, .int a1)]) hx hb dX7_undo_26 rfl hl (by decide) rfl (fun ls hl => ?_)
    refine lv_iconst (v := 0) hx hb dX7_undo_27 (by decide) ?_
    refine lv_istore_n (lv' := [(3, .int 0), (2, .int (v23 - a1)), (0, .ref (q 0)), (1, .int a1)]) hx hb dX7_undo_28 rfl hl (by decide) rfl (fun ls hl => ?_)
    exact L29 10000 σ a1 (v23 - a1) 0 _ _ _ hS (lv_sub hl [2, 3, 1, 0] rfl) hm
  · replace hm := it c13 hm
    refine lv_iconst (v := (-1)) hx hb dX7_undo_16 (by decide) ?_
    exact retIw (wf := mw q d) C hS hm dX7_undo_17
def M_X7_copyWell_2 : Nat → ST → Int32 → Int32 → Int32 → Option ST
  | 0, _, _, _, _ => none
  | n + 1, σ, x1, x2, x3 => if 944 ≤ x3 then some σ else (rd 3776 (σ.2.2 1) (x1 + x3)).bind fun v23 => (wrA 3776 σ 1 (x2 + x3) v23).bind fun σ24 => M_X7_copyWell_2 n σ24 x1 x2 (x3 + 1)
def M_X7_copyWell (σ : ST) (a1 : Int32) (a2 : Int32) : Option ST := M_X7_copyWell_2 10000 σ a1 a2 0
abbrev rm_X7_copyWell : Room := { frames := 0, cells := 0, slots := 0, locals := 0 }
set_option maxRecDepth 100000 in
set_option maxHeartbeats 4000000 in
theorem c_X7_copyWell (l : Launch) (d : CD) (q : Nat → Nat) (σ : ST) (a1 : Int32) (a2 : Int32) (out : ST) (hm : M_X7_copyWell σ a1 a2 = some out) : MetV l yX7_copyWell cX7_copyWell 4 (none) rm_X7_copyWell d (mw q d σ) [.ref (q 0), .int a1, .int a2] (mw q d out) := by
  refine mkV (own := RX7) (by decide +kernel) rfl (Nat.le_of_ble_eq_true rfl) ?_
  intro p e s m below meth c A ls C hS hl
  obtain ⟨hx, hb, hml, hown, hts, -⟩ := id C
  have hl : lv_has ls 4 [(0, .ref (q 0)), (1, .int a1), (2, .int a2)] := hl
  have L2 : ∀ (n : Nat) (σ : ST) (x1 : Int32) (x2 : Int32) (x3 : Int32) (H : Heap) (locs : List Loc) (ls : Array Slot), HS d A s.heap H locs (mw q d σ) → lv_has ls 4 [(0, .ref (q 0)), (1, .int x1), (2, .int x2), (3, .int x3)] → M_X7_copyWell_2 n σ x1 x2 x3 = some out → WV p l e rm_X7_copyWell s m [.ref (q 0), .int a1, .int a2].toArray below meth c A d H locs (mw q d out) (F0 m 2 ls []) := by
    intro n
    induction n with
    | zero =>
      intro σ x1 x2 x3 H locs ls hS hl hm
      exact absurd hm (by rw [M_X7_copyWell_2]; exact fun h => nomatch h)
    | succ n ih =>
      intro σ x1 x2 x3 H locs ls hS hl hm
      rw [M_X7_copyWell_2] at hm
      refine lv_iload_n hx hb dX7_copyWell_2 rfl (lv_at hl 3 rfl) ?_
      refine lv_sipush (v := 944) hx hb dX7_copyWell_3 (by decide) ?_
      refine lv_icmp_ge (tgt := 31) hx hb dX7_copyWell_6 (by decide) (fun c6 => ?_) (fun c6 => ?_)
      · replace hm := it c6 hm
        exact retVw (wf := mw q d) C hS hm dX7_copyWell_31
      · replace hm := ie c6 hm
        refine lv_aload_n hx hb dX7_copyWell_9 rfl (lv_at hl 0 rfl) ?_
        refine g_7_7_0 C hS dX7_copyWell_10 ?_
        refine lv_iload_n hx hb dX7_copyWell_13 rfl (lv_at hl 2 rfl) ?_
        refine lv_iload_n hx hb dX7_copyWell_14 rfl (lv_at hl 3 rfl) ?_
        refine lv_iadd hx hb dX7_copyWell_15 ?_
        refine lv_aload_n hx hb dX7_copyWell_16 rfl (lv_at hl 0 rfl) ?_
        refine g_7_7_0 C hS dX7_copyWell_17 ?_
        refine lv_iload_n hx hb dX7_copyWell_20 rfl (lv_at hl 1 rfl) ?_
        refine lv_iload_n hx hb dX7_copyWell_21 rfl (lv_at hl 3 rfl) ?_
        refine lv_iadd hx hb dX7_copyWell_22 ?_
        obtain ⟨v23, e23, hm⟩ := ob hm
        refine iald' C hS mw_a1 e23 dX7_copyWell_23 ?_
        obtain ⟨σ24, e24, hm⟩ := ob hm
        refine iast' (wf := mw q d) C hS mw_a1 mw_s1 e24 dX7_copyWell_24 (fun H locs hS => ?_)
        refine lv_iinc (v := x3 + 1) (lv' := [(3, .int (x3 + 1)), (0, .ref (q 0)), (1, .int x1), (2, .int x2)]) hx hb dX7_copyWell_25 hl (k := 3) rfl rfl (by decide) rfl (fun ls hl => ?_)
        refine lv_goto (tgt := 2) hx hb dX7_copyWell_28 (by decide) ?_
        exact ih σ24 x1 x2 (x3 + 1) _ _ _ hS (lv_sub hl [1, 2, 3, 0] rfl) hm
  unfold M_X7_copyWell at hm
  refine lv_iconst (v := 0) hx hb dX7_copyWell_0 (by decide) ?_
  refine lv_istore_n (lv' := [(3, .int 0), (0, .ref (q 0)), (1, .int a1), (2, .int a2)]) hx hb dX7_copyWell_1 rfl hl (by decide) rfl (fun ls hl => ?_)
  exact L2 10000 σ a1 a2 0 _ _ _ hS (lv_sub hl [1, 2, 3, 0] rfl) hm
def M_X7_keep (σ : ST) (a1 : Int32) : Option (Int32 × ST) := (M_X7_in a1.toInt64 0 2).bind fun o6 => if o6 = 0 then some ((-1), σ) else if (σ.1 3) = 0 then some ((-4), σ) else (M_X7_copyWell σ 0 (944 * (1 + a1))).bind fun o33 => (rd 3776 (o33.2.2 1) 0).bind fun v41 => some (v41, o33)
abbrev rm_X7_keep : Room := { frames := 1, cells := 0, slots := 0, locals := 25 }
set_option maxRecDepth 100000 in
set_option maxHeartbeats 4000000 in
theorem c_X7_keep (l : Launch) (d : CD) (q : Nat → Nat) (σ : ST) (a1 : Int32) (out : Int32 × ST) (hm : M_X7_keep σ a1 = some out) : MetI l yX7_keep cX7_keep 2 (some .int) rm_X7_keep d (mw q d σ) [.ref (q 0), .int a1] out.1 (mw q d out.2) := by
  refine mkI (own := RX7) (by decide +kernel) rfl (Nat.le_of_ble_eq_true rfl) ?_
  intro p e s m below meth c A ls C hS hl
  obtain ⟨hx, hb, hml, hown, hts, -⟩ := id C
  have hl : lv_has ls 2 [(0, .ref (q 0)), (1, .int a1)] := hl
  unfold M_X7_keep at hm
  refine lv_iload_n hx hb dX7_keep_0 rfl (lv_at hl 1 rfl) ?_
  refine lv_i2l (v := a1.toInt64) hx hb dX7_keep_1 rfl ?_
  refine lv_lconst (v := 0) hx hb dX7_keep_2 (by decide) ?_
  refine lv_ldc2 (v := 2) hx hb hown (hts _ lc_X7_214) dX7_keep_3 ?_
  obtain ⟨o6, e6, hm⟩ := ob hm
  refine after_i C hS (call_S (As := [.long a1.toInt64, .long 0, .long 2]) C hS (c_X7_in l d (mw q d σ) a1.toInt64 0 2 o6 e6 _) is_7_66 ⟨rfl, rfl, Nat.le_of_ble_eq_true rfl, Nat.le_of_ble_eq_true rfl⟩ rfl hl.1 (Nat.le_of_ble_eq_true rfl) dX7_keep_6) (fun H locs hS => ?_)
  refine lv_if_ne (tgt := 14) hx hb dX7_keep_9 (by decide) (fun c9 => ?_) (fun c9 => ?_)
  · replace hm := ie c9 hm
    refine lv_aload_n hx hb dX7_keep_14 rfl (lv_at hl 0 rfl) ?_
    refine g_7_158_0 C hS dX7_keep_15 ?_
    refine lv_if_ne (tgt := 24) hx hb dX7_keep_18 (by decide) (fun c18 => ?_) (fun c18 => ?_)
    · replace hm := ie c18 hm
      refine lv_aload_n hx hb dX7_keep_24 rfl (lv_at hl 0 rfl) ?_
      refine lv_iconst (v := 0) hx hb dX7_keep_25 (by decide) ?_
      refine lv_sipush (v := 944) hx hb dX7_keep_26 (by decide) ?_
      refine lv_iconst (v := 1) hx hb dX7_keep_29 (by decide) ?_
      refine lv_iload_n hx hb dX7_keep_30 rfl (lv_at hl 1 rfl) ?_
      refine lv_iadd hx hb dX7_keep_31 ?_
      refine lv_imul hx hb dX7_keep_32 ?_
      obtain ⟨o33, e33, hm⟩ := ob hm
      refine after_v C hS (call_V (As := [.int 0, .int (944 * (1 + a1))]) C hS (c_X7_copyWell l d q σ 0 (944 * (1 + a1)) o33 e33 _) iv_7_216 ⟨rfl, rfl, Nat.le_of_ble_eq_true rfl, Nat.le_of_ble_eq_true rfl⟩ mw_o0 rfl rfl rfl hl.1 (Nat.le_of_ble_eq_true rfl) dX7_keep_33) (fun H locs hS => ?_)
      refine lv_aload_n hx hb dX7_keep_36 rfl (lv_at hl 0 rfl) ?_
      refine g_7_7_0 C hS dX7_keep_37 ?_
      refine lv_iconst (v := 0) hx hb dX7_keep_40 (by decide) ?_
      obtain ⟨v41, e41, hm⟩ := ob hm
      refine iald' C hS mw_a1 e41 dX7_keep_41 ?_
      exact retIw (wf := mw q d) C hS hm dX7_keep_42
    · replace hm := it c18 hm
      refine lv_bipush (v := (-4)) hx hb dX7_keep_21 (by decide) ?_
      exact retIw (wf := mw q d) C hS hm dX7_keep_23
  · replace hm := it c9 hm
    refine lv_iconst (v := (-1)) hx hb dX7_keep_12 (by decide) ?_
    exact retIw (wf := mw q d) C hS hm dX7_keep_13
