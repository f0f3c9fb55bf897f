def M_X7_drink_56 : Nat → ST → Int32 → Int32 → Int32 → Int32 → Int32 → Option (Int32 × ST)
  | 0, _, _, _, _, _, _ => none
  | n + 1, σ, x1, x2, x3, x4, x5 => (M_X7_all σ).bind fun o59 => if o59 < x5 then some (x3, σ) else if x3 ≤ x4 then some (x3, σ) else (M_X7_with σ x5 x2).bind fun o75 => if o75 = (x3 - x4) then (wrA 240 σ 6 ((40 * x1) + x4) x5).bind fun σ98 => M_X7_drink_56 n σ98 x1 (x2 &&& (x5 ^^^ (-1))) x3 (x4 + 1) (x5 + 1) else M_X7_drink_56 n σ x1 x2 x3 x4 (x5 + 1)
def M_X7_drink (σ : ST) (a1 : Int32) : Option (Int32 × ST) := (M_X7_isRow a1).bind fun o1 => if o1 = 0 then some ((-1), σ) else if (σ.1 3) = 0 then some ((-4), σ) else (M_X7_layMeetings σ).bind fun o20 => (M_X7_thirsty o20).bind fun o24 => (rd 16512 (o20.2.2 12) o24).bind fun v33 => if v33 < 99 then (M_X7_makeRow o20 a1 v33).bind fun o47 => M_X7_drink_56 10000 o47 a1 o24 v33 0 0 else some ((-9), o20)
abbrev rm_X7_drink : Room := { frames := 4, cells := 0, slots := 0, locals := 91 }
set_option maxRecDepth 100000 in
set_option maxHeartbeats 4000000 in
theorem c_X7_drink (l : Launch) (d : CD) (q : Nat → Nat) (σ : ST) (a1 : Int32) (out : Int32 × ST) (hm : M_X7_drink σ a1 = some out) : MetI l yX7_drink cX7_drink 6 (some .int) rm_X7_drink d (mw q d σ) [.ref (q 0), .int a1] out.1 (mw q d out.2) := by
  refine mkI (own := RX7) (by decide +kernel) rfl (Nat.le_of_ble_eq_true rfl) ?_
  intro p e s m below meth c A ls C hS hl
  obtain ⟨hx, hb, hml, hown, hts, -⟩ := id C
  have hl : lv_has ls 6 [(0, .ref (q 0)), (1, .int a1)] := hl
  have L56 : ∀ (n : Nat) (σ : ST) (x1 : Int32) (x2 : Int32) (x3 : Int32) (x4 : Int32) (x5 : Int32) (H : Heap) (locs : List Loc) (ls : Array Slot), HS d A s.heap H locs (mw q d σ) → lv_has ls 6 [(0, .ref (q 0)), (1, .int x1), (2, .int x2), (3, .int x3), (4, .int x4), (5, .int x5)] → M_X7_drink_56 n σ x1 x2 x3 x4 x5 = some out → WI p l e rm_X7_drink s m [.ref (q 0), .int a1].toArray below meth c A d H locs out.1 (mw q d out.2) (F0 m 56 ls []) := by
    intro n
    induction n with
    | zero =>
      intro σ x1 x2 x3 x4 x5 H locs ls hS hl hm
      exact absurd hm (by rw [M_X7_drink_56]; exact fun h => nomatch h)
    | succ n ih =>
      intro σ x1 x2 x3 x4 x5 H locs ls hS hl hm
      rw [M_X7_drink_56] at hm
      refine lv_iload hx hb dX7_drink_56 (lv_at hl 5 rfl) ?_
      refine lv_aload_n hx hb dX7_drink_58 rfl (lv_at hl 0 rfl) ?_
      obtain ⟨o59, e59, hm⟩ := ob hm
      refine after_i C hS (call_V (As := []) C hS (c_X7_all l d q σ o59 e59 _) iv_7_164 ⟨rfl, rfl, Nat.le_of_ble_eq_true rfl, Nat.le_of_ble_eq_true rfl⟩ mw_o0 rfl rfl rfl hl.1 (Nat.le_of_ble_eq_true rfl) dX7_drink_59) (fun H locs hS => ?_)
      refine lv_icmp_gt (tgt := 115) hx hb dX7_drink_62 (by decide) (fun c62 => ?_) (fun c62 => ?_)
      · replace hm := it c62 hm
        refine lv_iload_n hx hb dX7_drink_115 rfl (lv_at hl 3 rfl) ?_
        exact retIw (wf := mw q d) C hS hm dX7_drink_116
      · replace hm := ie c62 hm
        refine lv_iload hx hb dX7_drink_65 (lv_at hl 4 rfl) ?_
        refine lv_iload_n hx hb dX7_drink_67 rfl (lv_at hl 3 rfl) ?_
        refine lv_icmp_ge (tgt := 115) hx hb dX7_drink_68 (by decide) (fun c68 => ?_) (fun c68 => ?_)
        · replace hm := it c68 hm
          refine lv_iload_n hx hb dX7_drink_115 rfl (lv_at hl 3 rfl) ?_
          exact retIw (wf := mw q d) C hS hm dX7_drink_116
        · replace hm := ie c68 hm
          refine lv_aload_n hx hb dX7_drink_71 rfl (lv_at hl 0 rfl) ?_
          refine lv_iload hx hb dX7_drink_72 (lv_at hl 5 rfl) ?_
          refine lv_iload_n hx hb dX7_drink_74 rfl (lv_at hl 2 rfl) ?_
          obtain ⟨o75, e75, hm⟩ := ob hm
          refine after_i C hS (call_V (As := [.int x5, .int x2]) C hS (c_X7_with l d q σ x5 x2 o75 e75 _) iv_7_245 ⟨rfl, rfl, Nat.le_of_ble_eq_true rfl, Nat.le_of_ble_eq_true rfl⟩ mw_o0 rfl rfl rfl hl.1 (Nat.le_of_ble_eq_true rfl) dX7_drink_75) (fun H locs hS => ?_)
          refine lv_iload_n hx hb dX7_drink_78 rfl (lv_at hl 3 rfl) ?_
          refine lv_iload hx hb dX7_drink_79 (lv_at hl 4 rfl) ?_
          refine lv_isub hx hb dX7_drink_81 ?_
          refine lv_icmp_ne (tgt := 109) hx hb dX7_drink_82 (by decide) (fun c82 => ?_) (fun c82 => ?_)
          · replace hm := ie c82 hm
            refine lv_iinc (v := x5 + 1) (lv' := [(5, .int (x5 + 1)), (0, .ref (q 0)), (1, .int x1), (2, .int x2), (3, .int x3), (4, .int x4)]) hx hb dX7_drink_109 hl (k := 5) rfl rfl (by decide) rfl (fun ls hl => ?_)
            refine lv_goto (tgt := 56) hx hb dX7_drink_112 (by decide) ?_
            exact ih σ x1 x2 x3 x4 (x5 + 1) _ _ _ hS (lv_sub hl [1, 2, 3, 4, 5, 0] rfl) hm
          · replace hm := it c82 hm
            refine lv_aload_n hx hb dX7_drink_85 rfl (lv_at hl 0 rfl) ?_
            refine g_7_25_0 C hS dX7_drink_86 ?_
            refine lv_bipush (v := 40) hx hb dX7_drink_89 (by decide) ?_
            refine lv_iload_n hx hb dX7_drink_91 rfl (lv_at hl 1 rfl) ?_
            refine lv_imul hx hb dX7_drink_92 ?_
            refine lv_iload hx hb dX7_drink_93 (lv_at hl 4 rfl) ?_
            refine lv_iadd hx hb dX7_drink_95 ?_
            refine lv_iload hx hb dX7_drink_96 (lv_at hl 5 rfl) ?_
            obtain ⟨σ98, e98, hm⟩ := ob hm
            refine iast' (wf := mw q d) C hS mw_a6 mw_s6 e98 dX7_drink_98 (fun H locs hS => ?_)
            refine lv_iload_n hx hb dX7_drink_99 rfl (lv_at hl 2 rfl) ?_
            refine lv_iload hx hb dX7_drink_100 (lv_at hl 5 rfl) ?_
            refine lv_iconst (v := (-1)) hx hb dX7_drink_102 (by decide) ?_
            refine lv_ixor hx hb dX7_drink_103 ?_
            refine lv_iand hx hb dX7_drink_104 ?_
            refine lv_istore_n (lv' := [(2, .int (x2 &&& (x5 ^^^ (-1)))), (0, .ref (q 0)), (1, .int x1), (3, .int x3), (4, .int x4), (5, .int x5)]) hx hb dX7_drink_105 rfl hl (by decide) rfl (fun ls hl => ?_)
            refine lv_iinc (v := x4 + 1) (lv' := [(4, .int (x4 + 1)), (2, .int (x2 &&& (x5 ^^^ (-1)))), (0, .ref (q 0)), (1, .int x1), (3, .int x3), (5, .int x5)]) hx hb dX7_drink_106 hl (k := 4) rfl rfl (by decide) rfl (fun ls hl => ?_)
            refine lv_iinc (v := x5 + 1) (lv' := [(5, .int (x5 + 1)), (4, .int (x4 + 1)), (2, .int (x2 &&& (x5 ^^^ (-1)))), (0, .ref (q 0)), (1, .int x1), (3, .int x3)]) hx hb dX7_drink_109 hl (k := 5) rfl rfl (by decide) rfl (fun ls hl => ?_)
            refine lv_goto (tgt := 56) hx hb dX7_drink_112 (by decide) ?_
            exact ih σ98 x1 (x2 &&& (x5 ^^^ (-1))) x3 (x4 + 1) (x5 + 1) _ _ _ hS (lv_sub hl [3, 4, 2, 5, 1, 0] rfl) hm
  unfold M_X7_drink at hm
  refine lv_iload_n hx hb dX7_drink_0 rfl (lv_at hl 1 rfl) ?_
  obtain ⟨o1, e1, hm⟩ := ob hm
  refine after_i C hS (call_S (As := [.int a1]) C hS (c_X7_isRow l d (mw q d σ) a1 o1 e1 _) is_7_72 ⟨rfl, rfl, Nat.le_of_ble_eq_true rfl, Nat.le_of_ble_eq_true rfl⟩ rfl hl.1 (Nat.le_of_ble_eq_true rfl) dX7_drink_1) (fun H locs hS => ?_)
  refine lv_if_ne (tgt := 9) hx hb dX7_drink_4 (by decide) (fun c4 => ?_) (fun c4 => ?_)
  · replace hm := ie c4 hm
    refine lv_aload_n hx hb dX7_drink_9 rfl (lv_at hl 0 rfl) ?_
    refine g_7_158_0 C hS dX7_drink_10 ?_
    refine lv_if_ne (tgt := 19) hx hb dX7_drink_13 (by decide) (fun c13 => ?_) (fun c13 => ?_)
    · replace hm := ie c13 hm
      refine lv_aload_n hx hb dX7_drink_19 rfl (lv_at hl 0 rfl) ?_
      obtain ⟨o20, e20, hm⟩ := ob hm
      refine after_v C hS (call_V (As := []) C hS (c_X7_layMeetings l d q σ o20 e20 _) iv_7_239 ⟨rfl, rfl, Nat.le_of_ble_eq_true rfl, Nat.le_of_ble_eq_true rfl⟩ mw_o0 rfl rfl rfl hl.1 (Nat.le_of_ble_eq_true rfl) dX7_drink_20) (fun H locs hS => ?_)
      refine lv_aload_n hx hb dX7_drink_23 rfl (lv_at hl 0 rfl) ?_
      obtain ⟨o24, e24, hm⟩ := ob hm
      refine after_i C hS (call_V (As := []) C hS (c_X7_thirsty l d q o20 o24 e24 _) iv_7_242 ⟨rfl, rfl, Nat.le_of_ble_eq_true rfl, Nat.le_of_ble_eq_true rfl⟩ mw_o0 rfl rfl rfl hl.1 (Nat.le_of_ble_eq_true rfl) dX7_drink_24) (fun H locs hS => ?_)
      refine lv_istore_n (lv' := [(2, .int o24), (0, .ref (q 0)), (1, .int a1)]) hx hb dX7_drink_27 rfl hl (by decide) rfl (fun ls hl => ?_)
      refine lv_aload_n hx hb dX7_drink_28 rfl (lv_at hl 1 rfl) ?_
      refine g_7_47_0 C hS dX7_drink_29 ?_
      refine lv_iload_n hx hb dX7_drink_32 rfl (lv_at hl 0 rfl) ?_
      obtain ⟨v33, e33, hm⟩ := ob hm
      refine iald' C hS mw_a12 e33 dX7_drink_33 ?_
      refine lv_istore_n (lv' := [(3, .int v33), (2, .int o24), (0, .ref (q 0)), (1, .int a1)]) hx hb dX7_drink_34 rfl hl (by decide) rfl (fun ls hl => ?_)
      refine lv_iload_n hx hb dX7_drink_35 rfl (lv_at hl 0 rfl) ?_
      refine lv_bipush (v := 99) hx hb dX7_drink_36 (by decide) ?_
      refine lv_icmp_lt (tgt := 44) hx hb dX7_drink_38 (by decide) (fun c38 => ?_) (fun c38 => ?_)
      · replace hm := it c38 hm
        refine lv_aload_n hx hb dX7_drink_44 rfl (lv_at hl 2 rfl) ?_
        refine lv_iload_n hx hb dX7_drink_45 rfl (lv_at hl 3 rfl) ?_
        refine lv_iload_n hx hb dX7_drink_46 rfl (lv_at hl 0 rfl) ?_
        obtain ⟨o47, e47, hm⟩ := ob hm
        refine after_v C hS (call_V (As := [.int a1, .int v33]) C hS (c_X7_makeRow l d q o20 a1 v33 o47 e47 _) iv_7_80 ⟨rfl, rfl, Nat.le_of_ble_eq_true rfl, Nat.le_of_ble_eq_true rfl⟩ mw_o0 rfl rfl rfl hl.1 (Nat.le_of_ble_eq_true rfl) dX7_drink_47) (fun H locs hS => ?_)
        refine lv_iconst (v := 0) hx hb dX7_drink_50 (by decide) ?_
        refine lv_istore (lv' := [(4, .int 0), (3, .int v33), (2, .int o24), (0, .ref (q 0)), (1, .int a1)]) hx hb dX7_drink_51 hl (by decide) rfl (fun ls hl => ?_)
        refine lv_iconst (v := 0) hx hb dX7_drink_53 (by decide) ?_
        refine lv_istore (lv' := [(5, .int 0), (4, .int 0), (3, .int v33), (2, .int o24), (0, .ref (q 0)), (1, .int a1)]) hx hb dX7_drink_54 hl (by decide) rfl (fun ls hl => ?_)
        exact L56 10000 o47 a1 o24 v33 0 0 _ _ _ hS (lv_sub hl [4, 5, 3, 2, 1, 0] rfl) hm
      · replace hm := ie c38 hm
        refine lv_bipush (v := (-9)) hx hb dX7_drink_41 (by decide) ?_
        exact retIw (wf := mw q d) C hS hm dX7_drink_43
    · replace hm := it c13 hm
      refine lv_bipush (v := (-4)) hx hb dX7_drink_16 (by decide) ?_
      exact retIw (wf := mw q d) C hS hm dX7_drink_18
  · replace hm := it c4 hm
    refine lv_iconst (v := (-1)) hx hb dX7_drink_7 (by decide) ?_
    exact retIw (wf := mw q d) C hS hm dX7_drink_8
def M_X7_nextOrder_100 : Nat → ST → Int32 → Int32 → Option (Int32 × ST)
  | 0, _, _, _ => none
  | n + 1, σ, x5, x6 => if x6 ≤ x5 then (okZ 1).bind fun z => some (z, σ) else (rd 7 (σ.2.2 13) x5).bind fun v113 => (rd 7 (σ.2.2 13) x6).bind fun v128 => (wrA 7 σ 13 x5 v128).bind fun σ129 => (wrA 7 σ129 13 x6 v113).bind fun σ138 => M_X7_nextOrder_100 n σ138 (x5 + 1) (x6 + (-1))
def M_X7_nextOrder_41 : Nat → ST → Int32 → Int32 → Int32 → Option (Int32 × ST)
  | 0, _, _, _, _ => none
  | n + 1, σ, x1, x2, x3 => (rd 7 (σ.2.2 13) x3).bind fun v46 => (rd 7 (σ.2.2 13) x2).bind fun v52 => if v52 ≤ v46 then (rd 7 (σ.2.2 13) x2).bind fun v67 => (rd 7 (σ.2.2 13) x3).bind fun v80 => (wrA 7 σ 13 x2 v80).bind fun σ81 => (wrA 7 σ81 13 x3 v67).bind fun σ89 => M_X7_nextOrder_100 10000 σ89 (x2 + 1) (x1 - 1) else M_X7_nextOrder_41 n σ x1 x2 (x3 + (-1))
def M_X7_nextOrder_31 (σ : ST) (x1 : Int32) (x2 : Int32) : Option (Int32 × ST) := if 0 ≤ x2 then M_X7_nextOrder_41 10000 σ x1 x2 (x1 - 1) else (okZ 0).bind fun z => some (z, σ)
def M_X7_nextOrder_4 : Nat → ST → Int32 → Int32 → Option (Int32 × ST)
  | 0, _, _, _ => none
  | n + 1, σ, x1, x2 => if x2 < 0 then M_X7_nextOrder_31 σ x1 x2 else (rd 7 (σ.2.2 13) x2).bind fun v13 => (rd 7 (σ.2.2 13) (x2 + 1)).bind fun v21 => if v13 ≤ v21 then M_X7_nextOrder_31 σ x1 x2 else M_X7_nextOrder_4 n σ x1 (x2 + (-1))
def M_X7_nextOrder (σ : ST) (a1 : Int32) : Option (Int32 × ST) := M_X7_nextOrder_4 10000 σ a1 (a1 - 2)
abbrev rm_X7_nextOrder : Room := { frames := 0, cells := 0, slots := 0, locals := 0 }
set_option maxRecDepth 100000 in
set_option maxHeartbeats 4000000 in
theorem c_X7_nextOrder (l : Launch) (d : CD) (q : Nat → Nat) (σ : ST) (a1 : Int32) (out : Int32 × ST) (hm : M_X7_nextOrder σ a1 = some out) : MetI l yX7_nextOrder cX7_nextOrder 7 (some .boolean) rm_X7_nextOrder d (mw q d σ) [.ref (q 0), .int a1] out.1 (mw q d out.2) := by
  refine mkI (own := RX7) (by decide +kernel) rfl (Nat.le_of_ble_eq_true rfl) ?_
  intro p e s m below meth c A ls C hS hl
  obtain ⟨hx, hb, hml, hown, hts, -⟩ := id C
  have hl : lv_has ls 7 [(0, .ref (q 0)), (1, .int a1)] := hl
  have L100 : ∀ (n : Nat) (σ : ST) (x5 : Int32) (x6 : Int32) (H : Heap) (locs : List Loc) (ls : Array Slot), HS d A s.heap H locs (mw q d σ) → lv_has ls 7 [(0, .ref (q 0)), (5, .int x5), (6, .int x6)] → M_X7_nextOrder_100 n σ x5 x6 = some out → WI p l e rm_X7_nextOrder s m [.ref (q 0), .int a1].toArray below meth c A d H locs out.1 (mw q d out.2) (F0 m 100 ls []) := by
    intro n
    induction n with
    | zero =>
      intro σ x5 x6 H locs ls hS hl hm
      exact absurd hm (by rw [M_X7_nextOrder_100]; exact fun h => nomatch h)
    | succ n ih =>
      intro σ x5 x6 H locs ls hS hl hm
      rw [M_X7_nextOrder_100] at hm
      refine lv_iload hx hb dX7_nextOrder_100 (lv_at hl 1 rfl) ?_
      refine lv_iload hx hb dX7_nextOrder_102 (lv_at hl 2 rfl) ?_
      refine lv_icmp_ge (tgt := 148) hx hb dX7_nextOrder_104 (by decide) (fun c104 => ?_) (fun c104 => ?_)
      · replace hm := it c104 hm
        refine lv_iconst (v := 1) hx hb dX7_nextOrder_148 (by decide) ?_
        exact retZw (wf := mw q d) C hS hm dX7_nextOrder_149
      · replace hm := ie c104 hm
        refine lv_aload_n hx hb dX7_nextOrder_107 rfl (lv_at hl 0 rfl) ?_
        refine g_7_50_0 C hS dX7_nextOrder_108 ?_
        refine lv_iload hx hb dX7_nextOrder_111 (lv_at hl 1 rfl) ?_
        obtain ⟨v113, e113, hm⟩ := ob hm
        refine iald' C hS mw_a13 e113 dX7_nextOrder_113 ?_
        refine lv_istore (lv' := [(4, .int v113), (0, .ref (q 0)), (5, .int x5), (6, .int x6)]) hx hb dX7_nextOrder_114 hl (by decide) rfl (fun ls hl => ?_)
        refine lv_aload_n hx hb dX7_nextOrder_116 rfl (lv_at hl 1 rfl) ?_
        refine g_7_50_0 C hS dX7_nextOrder_117 ?_
        refine lv_iload hx hb dX7_nextOrder_120 (lv_at hl 2 rfl) ?_
        refine lv_aload_n hx hb dX7_nextOrder_122 rfl (lv_at hl 1 rfl) ?_
        refine g_7_50_0 C hS dX7_nextOrder_123 ?_
        refine lv_iload hx hb dX7_nextOrder_126 (lv_at hl 3 rfl) ?_
        obtain ⟨v128, e128, hm⟩ := ob hm
        refine iald' C hS mw_a13 e128 dX7_nextOrder_128 ?_
        obtain ⟨σ129, e129, hm⟩ := ob hm
        refine iast' (wf := mw q d) C hS mw_a13 mw_s13 e129 dX7_nextOrder_129 (fun H locs hS => ?_)
        refine lv_aload_n hx hb dX7_nextOrder_130 rfl (lv_at hl 1 rfl) ?_
        refine g_7_50_0 C hS dX7_nextOrder_131 ?_
        refine lv_iload hx hb dX7_nextOrder_134 (lv_at hl 3 rfl) ?_
        refine lv_iload hx hb dX7_nextOrder_136 (lv_at hl 0 rfl) ?_
        obtain ⟨σ138, e138, hm⟩ := ob hm
        refine iast' (wf := mw q d) C hS mw_a13 mw_s13 e138 dX7_nextOrder_138 (fun H locs hS => ?_)
        refine lv_iinc (v := x5 + 1) (lv' := [(5, .int (x5 + 1)), (4, .int v113), (0, .ref (q 0)), (6, .int x6)]) hx hb dX7_nextOrder_139 hl (k := 2) rfl rfl (by decide) rfl (fun ls hl => ?_)
        refine lv_iinc (v := x6 + (-1)) (lv' := [(6, .int (x6 + (-1))), (5, .int (x5 + 1)), (4, .int v113), (0, .ref (q 0))]) hx hb dX7_nextOrder_142 hl (k := 3) rfl rfl (by decide) rfl (fun ls hl => ?_)
        refine lv_goto (tgt := 100) hx hb dX7_nextOrder_145 (by decide) ?_
        exact ih σ138 (x5 + 1) (x6 + (-1)) _ _ _ hS (lv_sub hl [3, 1, 0] rfl) hm
  have L41 : ∀ (n : Nat) (σ : ST) (x1 : Int32) (x2 : Int32) (x3 : Int32) (H : Heap) (locs : List Loc) (ls : Array Slot), HS d A s.heap H locs (mw q d σ) → lv_has ls 7 [(0, .ref (q 0)), (1, .int x1), (2, .int x2), (3, .int x3)] → M_X7_nextOrder_41 n σ x1 x2 x3 = some out → WI p l e rm_X7_nextOrder s m [.ref (q 0), .int a1].toArray below meth c A d H locs out.1 (mw q d out.2) (F0 m 41 ls []) := by
    intro n
    induction n with
    | zero =>
      intro σ x1 x2 x3 H locs ls hS hl hm
      exact absurd hm (by rw [M_X7_nextOrder_41]; exact fun h => nomatch h)
    | succ n ih =>
      intro σ x1 x2 x3 H locs ls hS hl hm
      rw [M_X7_nextOrder_41] at hm
      refine lv_aload_n hx hb dX7_nextOrder_41 rfl (lv_at hl 0 rfl) ?_
      refine g_7_50_0 C hS dX7_nextOrder_42 ?_
      refine lv_iload_n hx hb dX7_nextOrder_45 rfl (lv_at hl 3 rfl) ?_
      obtain ⟨v46, e46, hm⟩ := ob hm
      refine iald' C hS mw_a13 e46 dX7_nextOrder_46 ?_
      refine lv_aload_n hx hb dX7_nextOrder_47 rfl (lv_at hl 0 rfl) ?_
      refine g_7_50_0 C hS dX7_nextOrder_48 ?_
      refine lv_iload_n hx hb dX7_nextOrder_51 rfl (lv_at hl 2 rfl) ?_
      obtain ⟨v52, e52, hm⟩ := ob hm
      refine iald' C hS mw_a13 e52 dX7_nextOrder_52 ?_
      refine lv_icmp_ge (tgt := 62) hx hb dX7_nextOrder_53 (by decide) (fun c53 => ?_) (fun c53 => ?_)
      · replace hm := it c53 hm
        refine lv_aload_n hx hb dX7_nextOrder_62 rfl (lv_at hl 0 rfl) ?_
        refine g_7_50_0 C hS dX7_nextOrder_63 ?_
        refine lv_iload_n hx hb dX7_nextOrder_66 rfl (lv_at hl 2 rfl) ?_
        obtain ⟨v67, e67, hm⟩ := ob hm
        refine iald' C hS mw_a13 e67 dX7_nextOrder_67 ?_
        refine lv_istore (lv' := [(4, .int v67), (0, .ref (q 0)), (1, .int x1), (2, .int x2), (3, .int x3)]) hx hb dX7_nextOrder_68 hl (by decide) rfl (fun ls hl => ?_)
        refine lv_aload_n hx hb dX7_nextOrder_70 rfl (lv_at hl 1 rfl) ?_
        refine g_7_50_0 C hS dX7_nextOrder_71 ?_
        refine lv_iload_n hx hb dX7_nextOrder_74 rfl (lv_at hl 3 rfl) ?_
        refine lv_aload_n hx hb dX7_nextOrder_75 rfl (lv_at hl 1 rfl) ?_
        refine g_7_50_0 C hS dX7_nextOrder_76 ?_
        refine lv_iload_n hx hb dX7_nextOrder_79 rfl (lv_at hl 4 rfl) ?_
        obtain ⟨v80, e80, hm⟩ := ob hm
        refine iald' C hS mw_a13 e80 dX7_nextOrder_80 ?_
        obtain ⟨σ81, e81, hm⟩ := ob hm
        refine iast' (wf := mw q d) C hS mw_a13 mw_s13 e81 dX7_nextOrder_81 (fun H locs hS => ?_)
        refine lv_aload_n hx hb dX7_nextOrder_82 rfl (lv_at hl 1 rfl) ?_
        refine g_7_50_0 C hS dX7_nextOrder_83 ?_
        refine lv_iload_n hx hb dX7_nextOrder_86 rfl (lv_at hl 4 rfl) ?_
        refine lv_iload hx hb dX7_nextOrder_87 (lv_at hl 0 rfl) ?_
        obtain ⟨σ89, e89, hm⟩ := ob hm
        refine iast' (wf := mw q d) C hS mw_a13 mw_s13 e89 dX7_nextOrder_89 (fun H locs hS => ?_)
        refine lv_iload_n hx hb dX7_nextOrder_90 rfl (lv_at hl 3 rfl) ?_
        refine lv_iconst (v := 1) hx hb dX7_nextOrder_91 (by decide) ?_
        refine lv_iadd hx hb dX7_nextOrder_92 ?_
        refine lv_istore (lv' := [(5, .int (x2 + 1)), (4, .int v67), (0, .ref (q 0)), (1, .int x1), (2, .int x2), (3, .int x3)]) hx hb dX7_nextOrder_93 hl (by decide) rfl (fun ls hl => ?_)
        refine lv_iload_n hx hb dX7_nextOrder_95 rfl (lv_at hl 3 rfl) ?_
        refine lv_iconst (v := 1) hx hb dX7_nextOrder_96 (by decide) ?_
        refine lv_isub hx hb dX7_nextOrder_97 ?_
        refine lv_istore (lv' := [(6, .int (x1 - 1)), (5, .int (x2 + 1)), (4, .int v67), (0, .ref (q 0)), (1, .int x1), (2, .int x2), (3, .int x3)]) hx hb dX7_nextOrder_98 hl (by decide) rfl (fun ls hl => ?_)
        exact L100 10000 σ89 (x2 + 1) (x1 - 1) _ _ _ hS (lv_sub hl [3, 1, 0] rfl) hm
      · replace hm := ie c53 hm
        refine lv_iinc (v := x3 + (-1)) (lv' := [(3, .int (x3 + (-1))), (0, .ref (q 0)), (1, .int x1), (2, .int x2)]) hx hb dX7_nextOrder_56 hl (k := 3) rfl rfl (by decide) rfl (fun ls hl => ?_)
        refine lv_goto (tgt := 41) hx hb dX7_nextOrder_59 (by decide) ?_
        exact ih σ x1 x2 (x3 + (-1)) _ _ _ hS (lv_sub hl [1, 2, 3, 0] rfl) hm
  have J31 : ∀ (σ : ST) (x1 : Int32) (x2 : Int32) (H : Heap) (locs : List Loc) (ls : Array Slot), HS d A s.heap H locs (mw q d σ) → lv_has ls 7 [(0, .ref (q 0)), (1, .int x1), (2, .int x2)] → M_X7_nextOrder_31 σ x1 x2 = some out → WI p l e rm_X7_nextOrder s m [.ref (q 0), .int a1].toArray below meth c A d H locs out.1 (mw q d out.2) (F0 m 31 ls []) := by
    intro σ x1 x2 H locs ls hS hl hm
    unfold M_X7_nextOrder_31 at hm
    refine lv_iload_n hx hb dX7_nextOrder_31 rfl (lv_at hl 2 rfl) ?_
    refine lv_if_ge (tgt := 37) hx hb dX7_nextOrder_32 (by decide) (fun c32 => ?_) (fun c32 => ?_)
    · replace hm := it c32 hm
      refine lv_iload_n hx hb dX7_nextOrder_37 rfl (lv_at hl 1 rfl) ?_
      refine lv_iconst (v := 1) hx hb dX7_nextOrder_38 (by decide) ?_
      refine lv_isub hx hb dX7_nextOrder_39 ?_
      refine lv_istore_n (lv' := [(3, .int (x1 - 1)), (0, .ref (q 0)), (1, .int x1), (2, .int x2)]) hx hb dX7_nextOrder_40 rfl hl (by decide) rfl (fun ls hl => ?_)
      exact L41 10000 σ x1 x2 (x1 - 1) _ _ _ hS (lv_sub hl [1, 2, 3, 0] rfl) hm
    · replace hm := ie c32 hm
      refine lv_iconst (v := 0) hx hb dX7_nextOrder_35 (by decide) ?_
      exact retZw (wf := mw q d) C hS hm dX7_nextOrder_36
  have L4 : ∀ (n : Nat) (σ : ST) (x1 : Int32) (x2 : Int32) (H : Heap) (locs : List Loc) (ls : Array Slot), HS d A s.heap H locs (mw q d σ) → lv_has ls 7 [(0, .ref (q 0)), (1, .int x1), (2, .int x2)] → M_X7_nextOrder_4 n σ x1 x2 = some out → WI p l e rm_X7_nextOrder s m [.ref (q 0), .int a1].toArray below meth c A d H locs out.1 (mw q d out.2) (F0 m 4 ls []) := by
    intro n
    induction n with
    | zero =>
      intro σ x1 x2 H locs ls hS hl hm
      exact absurd hm (by rw [M_X7_nextOrder_4]; exact fun h => nomatch h)
    | succ n ih =>
      intro σ x1 x2 H locs ls hS hl hm
      rw [M_X7_nextOrder_4] at hm
      refine lv_iload_n hx hb dX7_nextOrder_4 rfl (lv_at hl 2 rfl) ?_
      refine lv_if_lt (tgt := 31) hx hb dX7_nextOrder_5 (by decide) (fun c5 => ?_) (fun c5 => ?_)
      · replace hm := it c5 hm
        exact J31 σ x1 x2 _ _ _ hS (lv_sub hl [0, 1, 2] rfl) hm
      · replace hm := ie c5 hm
        refine lv_aload_n hx hb dX7_nextOrder_8 rfl (lv_at hl 0 rfl) ?_
        refine g_7_50_0 C hS dX7_nextOrder_9 ?_
        refine lv_iload_n hx hb dX7_nextOrder_12 rfl (lv_at hl 2 rfl) ?_
        obtain ⟨v13, e13, hm⟩ := ob hm
        refine iald' C hS mw_a13 e13 dX7_nextOrder_13 ?_
        refine lv_aload_n hx hb dX7_nextOrder_14 rfl (lv_at hl 0 rfl) ?_
        refine g_7_50_0 C hS dX7_nextOrder_15 ?_
        refine lv_iload_n hx hb dX7_nextOrder_18 rfl (lv_at hl 2 rfl) ?_
        refine lv_iconst (v := 1) hx hb dX7_nextOrder_19 (by decide) ?_
        refine lv_iadd hx hb dX7_nextOrder_20 ?_
        obtain ⟨v21, e21, hm⟩ := ob hm
        refine iald' C hS mw_a13 e21 dX7_nextOrder_21 ?_
        refine lv_icmp_le (tgt := 31) hx hb dX7_nextOrder_22 (by decide) (fun c22 => ?_) (fun c22 => ?_)
        · replace hm := it c22 hm
          exact J31 σ x1 x2 _ _ _ hS (lv_sub hl [0, 1, 2] rfl) hm
        · replace hm := ie c22 hm
          refine lv_iinc (v := x2 + (-1)) (lv' := [(2, .int (x2 + (-1))), (0, .ref (q 0)), (1, .int x1)]) hx hb dX7_nextOrder_25 hl (k := 2) rfl rfl (by decide) rfl (fun ls hl => ?_)
          refine lv_goto (tgt := 4) hx hb dX7_nextOrder_28 (by decide) ?_
          exact ih σ x1 (x2 + (-1)) _ _ _ hS (lv_sub hl [1, 2, 0] rfl) hm
  unfold M_X7_nextOrder at hm
  refine lv_iload_n hx hb dX7_nextOrder_0 rfl (lv_at hl 1 rfl) ?_
  refine lv_iconst (v := 2) hx hb dX7_nextOrder_1 (by decide) ?_
  refine lv_isub hx hb dX7_nextOrder_2 ?_
  refine lv_istore_n (lv' := [(2, .int (a1 - 2)), (0, .ref (q 0)), (1, .int a1)]) hx hb dX7_nextOrder_3 rfl hl (by decide) rfl (fun ls hl => ?_)
  exact L4 10000 σ a1 (a1 - 2) _ _ _ hS (lv_sub hl [1, 2, 0] rfl) hm
def M_X7_served_48 (σ : ST) (k12 : Int32 → Int32 → Int32 → Int32 → Option Int32) (x1 : Int32) (x2 : Int32) (x4 : Int32) (x5 : Int32) (y0 : Int32) (y1 : Int32) : Option Int32 := if x2 ≤ x5 then k12 x1 (x2 - x2) (y0 + y1) (x4 + 1) else k12 x1 (x2 - x5) (y0 + y1) (x4 + 1)
def M_X7_served_47 (σ : ST) (k12 : Int32 → Int32 → Int32 → Int32 → Option Int32) (x1 : Int32) (x2 : Int32) (x4 : Int32) (x5 : Int32) (y0 : Int32) : Option Int32 := M_X7_served_48 σ k12 x1 x2 x4 x5 y0 0
def M_X7_served_12 (σ : ST) : Nat → Int32 → Int32 → Int32 → Int32 → Option Int32
  | 0, _, _, _, _ => none
  | n + 1, x1, x2, x3, x4 => if x1 ≤ x4 then some x3 else (rd 7 (σ.2.2 13) x4).bind fun v25 => (M_X7_wantsYet σ v25).bind fun o26 => if o26 ≤ 0 then M_X7_served_47 σ (M_X7_served_12 σ n) x1 x2 x4 o26 x3 else if x2 < o26 then M_X7_served_47 σ (M_X7_served_12 σ n) x1 x2 x4 o26 x3 else M_X7_served_48 σ (M_X7_served_12 σ n) x1 x2 x4 o26 x3 1
def M_X7_served (σ : ST) (a1 : Int32) : Option Int32 := (rd 3776 (σ.2.2 1) 2).bind fun v5 => M_X7_served_12 σ 10000 a1 v5 0 0
abbrev rm_X7_served : Room := { frames := 2, cells := 0, slots := 0, locals := 42 }
set_option maxRecDepth 100000 in
set_option maxHeartbeats 4000000 in
theorem c_X7_served (l : Launch) (d : CD) (q : Nat → Nat) (σ : ST) (a1 : Int32) (out : Int32) (hm : M_X7_served σ a1 = some out) : MetI l yX7_served cX7_served 6 (some .int) rm_X7_served d (mw q d σ) [.ref (q 0), .int a1] out (mw q d σ) := by
  refine mkI (own := RX7) (by decide +kernel) rfl (Nat.le_of_ble_eq_true rfl) ?_
  intro p e s m below meth c A ls C hS hl
  obtain ⟨hx, hb, hml, hown, hts, -⟩ := id C
  have hl : lv_has ls 6 [(0, .ref (q 0)), (1, .int a1)] := hl
  have J48 : ∀ (k12 : Int32 → Int32 → Int32 → Int32 → Option Int32) (hk12 : ∀ (x1 : Int32) (x2 : Int32) (x3 : Int32) (x4 : Int32) (H : Heap) (locs : List Loc) (ls : Array Slot), HS d A s.heap H locs (mw q d σ) → lv_has ls 6 [(0, .ref (q 0)), (1, .int x1), (2, .int x2), (3, .int x3), (4, .int x4)] → k12 x1 x2 x3 x4 = some out → WI p l e rm_X7_served s m [.ref (q 0), .int a1].toArray below meth c A d H locs out (mw q d σ) (F0 m 12 ls [])) (x1 : Int32) (x2 : Int32) (x4 : Int32) (x5 : Int32) (y0 : Int32) (y1 : Int32) (H : Heap) (locs : List Loc) (ls : Array Slot), HS d A s.heap H locs (mw q d σ) → lv_has ls 6 [(0, .ref (q 0)), (1, .int x1), (2, .int x2), (4, .int x4), (5, .int x5)] → M_X7_served_48 σ k12 x1 x2 x4 x5 y0 y1 = some out → WI p l e rm_X7_served s m [.ref (q 0), .int a1].toArray below meth c A d H locs out (mw q d σ) (F0 m 48 ls [.int y1, .int y0]) := by
    intro k12 hk12 x1 x2 x4 x5 y0 y1 H locs ls hS hl hm
    unfold M_X7_served_48 at hm
    refine lv_iadd hx hb dX7_served_48 ?_
    refine lv_istore_n (lv' := [(3, .int (y0 + y1)), (0, .ref (q 0)), (1, .int x1), (2, .int x2), (4, .int x4), (5, .int x5)]) hx hb dX7_served_49 rfl hl (by decide) rfl (fun ls hl => ?_)
    refine lv_iload_n hx hb dX7_served_50 rfl (lv_at hl 3 rfl) ?_
    refine lv_iload hx hb dX7_served_51 (lv_at hl 5 rfl) ?_
    refine lv_iload_n hx hb dX7_served_53 rfl (lv_at hl 3 rfl) ?_
    refine lv_icmp_ge (tgt := 62) hx hb dX7_served_54 (by decide) (fun c54 => ?_) (fun c54 => ?_)
    · replace hm := it c54 hm
      refine lv_iload_n hx hb dX7_served_62 rfl (lv_at hl 3 rfl) ?_
      refine lv_isub hx hb dX7_served_63 ?_
      refine lv_istore_n (lv' := [(2, .int (x2 - x2)), (3, .int (y0 + y1)), (0, .ref (q 0)), (1, .int x1), (4, .int x4), (5, .int x5)]) hx hb dX7_served_64 rfl hl (by decide) rfl (fun ls hl => ?_)
      refine lv_iinc (v := x4 + 1) (lv' := [(4, .int (x4 + 1)), (2, .int (x2 - x2)), (3, .int (y0 + y1)), (0, .ref (q 0)), (1, .int x1), (5, .int x5)]) hx hb dX7_served_65 hl (k := 4) rfl rfl (by decide) rfl (fun ls hl => ?_)
      refine lv_goto (tgt := 12) hx hb dX7_served_68 (by decide) ?_
      exact hk12 x1 (x2 - x2) (y0 + y1) (x4 + 1) _ _ _ hS (lv_sub hl [3, 4, 1, 2, 0] rfl) hm
    · replace hm := ie c54 hm
      refine lv_iload hx hb dX7_served_57 (lv_at hl 5 rfl) ?_
      refine lv_goto (tgt := 63) hx hb dX7_served_59 (by decide) ?_
      refine lv_isub hx hb dX7_served_63 ?_
      refine lv_istore_n (lv' := [(2, .int (x2 - x5)), (3, .int (y0 + y1)), (0, .ref (q 0)), (1, .int x1), (4, .int x4), (5, .int x5)]) hx hb dX7_served_64 rfl hl (by decide) rfl (fun ls hl => ?_)
      refine lv_iinc (v := x4 + 1) (lv' := [(4, .int (x4 + 1)), (2, .int (x2 - x5)), (3, .int (y0 + y1)), (0, .ref (q 0)), (1, .int x1), (5, .int x5)]) hx hb dX7_served_65 hl (k := 4) rfl rfl (by decide) rfl (fun ls hl => ?_)
      refine lv_goto (tgt := 12) hx hb dX7_served_68 (by decide) ?_
      exact hk12 x1 (x2 - x5) (y0 + y1) (x4 + 1) _ _ _ hS (lv_sub hl [3, 4, 1, 2, 0] rfl) hm
  have J47 : ∀ (k12 : Int32 → Int32 → Int32 → Int32 → Option Int32) (hk12 : ∀ (x1 : Int32) (x2 : Int32) (x3 : Int32) (x4 : Int32) (H : Heap) (locs : List Loc) (ls : Array Slot), HS d A s.heap H locs (mw q d σ) → lv_has ls 6 [(0, .ref (q 0)), (1, .int x1), (2, .int x2), (3, .int x3), (4, .int x4)] → k12 x1 x2 x3 x4 = some out → WI p l e rm_X7_served s m [.ref (q 0), .int a1].toArray below meth c A d H locs out (mw q d σ) (F0 m 12 ls [])) (x1 : Int32) (x2 : Int32) (x4 : Int32) (x5 : Int32) (y0 : Int32) (H : Heap) (locs : List Loc) (ls : Array Slot), HS d A s.heap H locs (mw q d σ) → lv_has ls 6 [(0, .ref (q 0)), (1, .int x1), (2, .int x2), (4, .int x4), (5, .int x5)] → M_X7_served_47 σ k12 x1 x2 x4 x5 y0 = some out → WI p l e rm_X7_served s m [.ref (q 0), .int a1].toArray below meth c A d H locs out (mw q d σ) (F0 m 47 ls [.int y0]) := by
    intro k12 hk12 x1 x2 x4 x5 y0 H locs ls hS hl hm
    unfold M_X7_served_47 at hm
    refine lv_iconst (v := 0) hx hb dX7_served_47 (by decide) ?_
    exact J48 k12 hk12 x1 x2 x4 x5 y0 0 _ _ _ hS (lv_sub hl [0, 1, 2, 3, 4] rfl) hm
  have L12 : ∀ (n : Nat) (x1 : Int32) (x2 : Int32) (x3 : Int32) (x4 : Int32) (H : Heap) (locs : List Loc) (ls : Array Slot), HS d A s.heap H locs (mw q d σ) → lv_has ls 6 [(0, .ref (q 0)), (1, .int x1), (2, .int x2), (3, .int x3), (4, .int x4)] → M_X7_served_12 σ n x1 x2 x3 x4 = some out → WI p l e rm_X7_served s m [.ref (q 0), .int a1].toArray below meth c A d H locs out (mw q d σ) (F0 m 12 ls []) := by
    intro n
    induction n with
    | zero =>
      intro x1 x2 x3 x4 H locs ls hS hl hm
      exact absurd hm (by rw [M_X7_served_12]; exact fun h => nomatch h)
    | succ n ih =>
      intro x1 x2 x3 x4 H locs ls hS hl hm
      rw [M_X7_served_12] at hm
      refine lv_iload hx hb dX7_served_12 (lv_at hl 4 rfl) ?_
      refine lv_iload_n hx hb dX7_served_14 rfl (lv_at hl 1 rfl) ?_
      refine lv_icmp_ge (tgt := 71) hx hb dX7_served_15 (by decide) (fun c15 => ?_) (fun c15 => ?_)
      · replace hm := it c15 hm
        refine lv_iload_n hx hb dX7_served_71 rfl (lv_at hl 3 rfl) ?_
        exact retIr C hS hm dX7_served_72
      · replace hm := ie c15 hm
        refine lv_aload_n hx hb dX7_served_18 rfl (lv_at hl 0 rfl) ?_
        refine lv_aload_n hx hb dX7_served_19 rfl (lv_at hl 0 rfl) ?_
        refine g_7_50_0 C hS dX7_served_20 ?_
        refine lv_iload hx hb dX7_served_23 (lv_at hl 4 rfl) ?_
        obtain ⟨v25, e25, hm⟩ := ob hm
        refine iald' C hS mw_a13 e25 dX7_served_25 ?_
        obtain ⟨o26, e26, hm⟩ := ob hm
        refine after_i C hS (call_V (As := [.int v25]) C hS (c_X7_wantsYet l d q σ v25 o26 e26 _) iv_7_199 ⟨rfl, rfl, Nat.le_of_ble_eq_true rfl, Nat.le_of_ble_eq_true rfl⟩ mw_o0 rfl rfl rfl hl.1 (Nat.le_of_ble_eq_true rfl) dX7_served_26) (fun H locs hS => ?_)
        refine lv_istore (lv' := [(5, .int o26), (0, .ref (q 0)), (1, .int x1), (2, .int x2), (3, .int x3), (4, .int x4)]) hx hb dX7_served_29 hl (by decide) rfl (fun ls hl => ?_)
        refine lv_iload_n hx hb dX7_served_31 rfl (lv_at hl 4 rfl) ?_
        refine lv_iload hx hb dX7_served_32 (lv_at hl 0 rfl) ?_
        refine lv_if_le (tgt := 47) hx hb dX7_served_34 (by decide) (fun c34 => ?_) (fun c34 => ?_)
        · replace hm := it c34 hm
          exact J47 (M_X7_served_12 σ n) ih x1 x2 x4 o26 x3 _ _ _ hS (lv_sub hl [1, 2, 3, 5, 0] rfl) hm
        · replace hm := ie c34 hm
          refine lv_iload hx hb dX7_served_37 (lv_at hl 0 rfl) ?_
          refine lv_iload_n hx hb dX7_served_39 rfl (lv_at hl 3 rfl) ?_
          refine lv_icmp_gt (tgt := 47) hx hb dX7_served_40 (by decide) (fun c40 => ?_) (fun c40 => ?_)
          · replace hm := it c40 hm
            exact J47 (M_X7_served_12 σ n) ih x1 x2 x4 o26 x3 _ _ _ hS (lv_sub hl [1, 2, 3, 5, 0] rfl) hm
          · replace hm := ie c40 hm
            refine lv_iconst (v := 1) hx hb dX7_served_43 (by decide) ?_
            refine lv_goto (tgt := 48) hx hb dX7_served_44 (by decide) ?_
            exact J48 (M_X7_served_12 σ n) ih x1 x2 x4 o26 x3 1 _ _ _ hS (lv_sub hl [1, 2, 3, 5, 0] rfl) hm
  unfold M_X7_served at hm
  refine lv_aload_n hx hb dX7_served_0 rfl (lv_at hl 0 rfl) ?_
  refine g_7_7_0 C hS dX7_served_1 ?_
  refine lv_iconst (v := 2) hx hb dX7_served_4 (by decide) ?_
  obtain ⟨v5, e5, hm⟩ := ob hm
  refine iald' C hS mw_a1 e5 dX7_served_5 ?_
  refine lv_istore_n (lv' := [(2, .int v5), (0, .ref (q 0)), (1, .int a1)]) hx hb dX7_served_6 rfl hl (by decide) rfl (fun ls hl => ?_)
  refine lv_iconst (v := 0) hx hb dX7_served_7 (by decide) ?_
  refine lv_istore_n (lv' := [(3, .int 0), (2, .int v5), (0, .ref (q 0)), (1, .int a1)]) hx hb dX7_served_8 rfl hl (by decide) rfl (fun ls hl => ?_)
  refine lv_iconst (v := 0) hx hb dX7_served_9 (by decide) ?_
  refine lv_istore (lv' := [(4, .int 0), (3, .int 0), (2, .int v5), (0, .ref (q 0)), (1, .int a1)]) hx hb dX7_served_10 hl (by decide) rfl (fun ls hl => ?_)
  exact L12 10000 a1 v5 0 0 _ _ _ hS (lv_sub hl [3, 4, 2, 1, 0] rfl) hm
