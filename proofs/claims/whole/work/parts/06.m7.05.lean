def M_X7_isOpen (σ : ST) (a1 : Int32) : Option Int32 := if (σ.1 3) ≤ 0 then okZ 0 else (M_X7_weightOf σ a1).bind fun o9 => if o9 < (σ.1 1) then okZ 0 else (M_X7_isPeace σ a1).bind fun o21 => if o21 = 0 then okZ 0 else okZ 1
abbrev rm_X7_isOpen : Room := { frames := 2, cells := 0, slots := 0, locals := 45 }
set_option maxRecDepth 100000 in
set_option maxHeartbeats 4000000 in
theorem c_X7_isOpen (l : Launch) (d : CD) (q : Nat → Nat) (σ : ST) (a1 : Int32) (out : Int32) (hm : M_X7_isOpen σ a1 = some out) : MetI l yX7_isOpen cX7_isOpen 2 (some .boolean) rm_X7_isOpen d (mw q d σ) [.ref (q 0), .int a1] out (mw q d σ) := by
  refine mkI (own := RX7) (by decide +kernel) rfl (Nat.le_of_ble_eq_true rfl) ?_
  intro p e s m below meth c A ls C hS hl
  obtain ⟨hx, hb, hml, hown, hts, -⟩ := id C
  have hl : lv_has ls 2 [(0, .ref (q 0)), (1, .int a1)] := hl
  unfold M_X7_isOpen at hm
  refine lv_aload_n hx hb dX7_isOpen_0 rfl (lv_at hl 0 rfl) ?_
  refine g_7_158_0 C hS dX7_isOpen_1 ?_
  refine lv_if_le (tgt := 31) hx hb dX7_isOpen_4 (by decide) (fun c4 => ?_) (fun c4 => ?_)
  · replace hm := it c4 hm
    refine lv_iconst (v := 0) hx hb dX7_isOpen_31 (by decide) ?_
    exact retZr C hS hm dX7_isOpen_32
  · replace hm := ie c4 hm
    refine lv_aload_n hx hb dX7_isOpen_7 rfl (lv_at hl 0 rfl) ?_
    refine lv_iload_n hx hb dX7_isOpen_8 rfl (lv_at hl 1 rfl) ?_
    obtain ⟨o9, e9, hm⟩ := ob hm
    refine after_i C hS (call_V (As := [.int a1]) C hS (c_X7_weightOf l d q σ a1 o9 e9 _) iv_7_170 ⟨rfl, rfl, Nat.le_of_ble_eq_true rfl, Nat.le_of_ble_eq_true rfl⟩ mw_o0 rfl rfl rfl hl.1 (Nat.le_of_ble_eq_true rfl) dX7_isOpen_9) (fun H locs hS => ?_)
    refine lv_aload_n hx hb dX7_isOpen_12 rfl (lv_at hl 0 rfl) ?_
    refine g_7_152_0 C hS dX7_isOpen_13 ?_
    refine lv_icmp_lt (tgt := 31) hx hb dX7_isOpen_16 (by decide) (fun c16 => ?_) (fun c16 => ?_)
    · replace hm := it c16 hm
      refine lv_iconst (v := 0) hx hb dX7_isOpen_31 (by decide) ?_
      exact retZr C hS hm dX7_isOpen_32
    · replace hm := ie c16 hm
      refine lv_aload_n hx hb dX7_isOpen_19 rfl (lv_at hl 0 rfl) ?_
      refine lv_iload_n hx hb dX7_isOpen_20 rfl (lv_at hl 1 rfl) ?_
      obtain ⟨o21, e21, hm⟩ := ob hm
      refine after_i C hS (call_V (As := [.int a1]) C hS (c_X7_isPeace l d q σ a1 o21 e21 _) iv_7_173 ⟨rfl, rfl, Nat.le_of_ble_eq_true rfl, Nat.le_of_ble_eq_true rfl⟩ mw_o0 rfl rfl rfl hl.1 (Nat.le_of_ble_eq_true rfl) dX7_isOpen_21) (fun H locs hS => ?_)
      refine lv_if_eq (tgt := 31) hx hb dX7_isOpen_24 (by decide) (fun c24 => ?_) (fun c24 => ?_)
      · replace hm := it c24 hm
        refine lv_iconst (v := 0) hx hb dX7_isOpen_31 (by decide) ?_
        exact retZr C hS hm dX7_isOpen_32
      · replace hm := ie c24 hm
        refine lv_iconst (v := 1) hx hb dX7_isOpen_27 (by decide) ?_
        refine lv_goto (tgt := 32) hx hb dX7_isOpen_28 (by decide) ?_
        exact retZr C hS hm dX7_isOpen_32
def M_X7_needed_4 (σ : ST) : Nat → Int32 → Int32 → Int32 → Option Int32
  | 0, _, _, _ => none
  | n + 1, x1, x2, x3 => if (σ.1 3) ≤ x3 then some x2 else if x3 = x1 then M_X7_needed_4 σ n x1 (x2 + 0) (x3 + 1) else (M_X7_all σ).bind fun o20 => (M_X7_isOpen σ (o20 &&& (((1 : Int32) <<< (x3 &&& 31)) ^^^ (-1)))).bind fun o29 => if o29 = 0 then M_X7_needed_4 σ n x1 (x2 + 1) (x3 + 1) else M_X7_needed_4 σ n x1 (x2 + 0) (x3 + 1)
def M_X7_needed (σ : ST) (a1 : Int32) : Option Int32 := M_X7_needed_4 σ 10000 a1 0 0
abbrev rm_X7_needed : Room := { frames := 3, cells := 0, slots := 0, locals := 66 }
set_option maxRecDepth 100000 in
set_option maxHeartbeats 4000000 in
theorem c_X7_needed (l : Launch) (d : CD) (q : Nat → Nat) (σ : ST) (a1 : Int32) (out : Int32) (hm : M_X7_needed σ a1 = some out) : MetI l yX7_needed cX7_needed 4 (some .int) rm_X7_needed d (mw q d σ) [.ref (q 0), .int a1] out (mw q d σ) := by
  refine mkI (own := RX7) (by decide +kernel) rfl (Nat.le_of_ble_eq_true rfl) ?_
  intro p e s m below meth c A ls C hS hl
  obtain ⟨hx, hb, hml, hown, hts, -⟩ := id C
  have hl : lv_has ls 4 [(0, .ref (q 0)), (1, .int a1)] := hl
  have L4 : ∀ (n : Nat) (x1 : Int32) (x2 : Int32) (x3 : Int32) (H : Heap) (locs : List Loc) (ls : Array Slot), HS d A s.heap H locs (mw q d σ) → lv_has ls 4 [(0, .ref (q 0)), (1, .int x1), (2, .int x2), (3, .int x3)] → M_X7_needed_4 σ n x1 x2 x3 = some out → WI p l e rm_X7_needed s m [.ref (q 0), .int a1].toArray below meth c A d H locs out (mw q d σ) (F0 m 4 ls []) := by
    intro n
    induction n with
    | zero =>
      intro x1 x2 x3 H locs ls hS hl hm
      exact absurd hm (by rw [M_X7_needed_4]; exact fun h => nomatch h)
    | succ n ih =>
      intro x1 x2 x3 H locs ls hS hl hm
      rw [M_X7_needed_4] at hm
      refine lv_iload_n hx hb dX7_needed_4 rfl (lv_at hl 3 rfl) ?_
      refine lv_aload_n hx hb dX7_needed_5 rfl (lv_at hl 0 rfl) ?_
      refine g_7_158_0 C hS dX7_needed_6 ?_
      refine lv_icmp_ge (tgt := 48) hx hb dX7_needed_9 (by decide) (fun c9 => ?_) (fun c9 => ?_)
      · replace hm := it c9 hm
        refine lv_iload_n hx hb dX7_needed_48 rfl (lv_at hl 2 rfl) ?_
        exact retIr C hS hm dX7_needed_49
      · replace hm := ie c9 hm
        refine lv_iload_n hx hb dX7_needed_12 rfl (lv_at hl 2 rfl) ?_
        refine lv_iload_n hx hb dX7_needed_13 rfl (lv_at hl 3 rfl) ?_
        refine lv_iload_n hx hb dX7_needed_14 rfl (lv_at hl 1 rfl) ?_
        refine lv_icmp_eq (tgt := 39) hx hb dX7_needed_15 (by decide) (fun c15 => ?_) (fun c15 => ?_)
        · replace hm := it c15 hm
          refine lv_iconst (v := 0) hx hb dX7_needed_39 (by decide) ?_
          refine lv_iadd hx hb dX7_needed_40 ?_
          refine lv_istore_n (lv' := [(2, .int (x2 + 0)), (0, .ref (q 0)), (1, .int x1), (3, .int x3)]) hx hb dX7_needed_41 rfl hl (by decide) rfl (fun ls hl => ?_)
          refine lv_iinc (v := x3 + 1) (lv' := [(3, .int (x3 + 1)), (2, .int (x2 + 0)), (0, .ref (q 0)), (1, .int x1)]) hx hb dX7_needed_42 hl (k := 3) rfl rfl (by decide) rfl (fun ls hl => ?_)
          refine lv_goto (tgt := 4) hx hb dX7_needed_45 (by decide) ?_
          exact ih x1 (x2 + 0) (x3 + 1) _ _ _ hS (lv_sub hl [2, 3, 1, 0] rfl) hm
        · replace hm := ie c15 hm
          refine lv_aload_n hx hb dX7_needed_18 rfl (lv_at hl 0 rfl) ?_
          refine lv_aload_n hx hb dX7_needed_19 rfl (lv_at hl 0 rfl) ?_
          obtain ⟨o20, e20, hm⟩ := ob hm
          refine after_i C hS (call_V (As := []) C hS (c_X7_all l d q σ o20 e20 _) iv_7_164 ⟨rfl, rfl, Nat.le_of_ble_eq_true rfl, Nat.le_of_ble_eq_true rfl⟩ mw_o0 rfl rfl rfl hl.1 (Nat.le_of_ble_eq_true rfl) dX7_needed_20) (fun H locs hS => ?_)
          refine lv_iconst (v := 1) hx hb dX7_needed_23 (by decide) ?_
          refine lv_iload_n hx hb dX7_needed_24 rfl (lv_at hl 3 rfl) ?_
          refine lv_ishl hx hb dX7_needed_25 ?_
          refine lv_iconst (v := (-1)) hx hb dX7_needed_26 (by decide) ?_
          refine lv_ixor hx hb dX7_needed_27 ?_
          refine lv_iand hx hb dX7_needed_28 ?_
          obtain ⟨o29, e29, hm⟩ := ob hm
          refine after_i C hS (call_V (As := [.int (o20 &&& (((1 : Int32) <<< (x3 &&& 31)) ^^^ (-1)))]) C hS (c_X7_isOpen l d q σ (o20 &&& (((1 : Int32) <<< (x3 &&& 31)) ^^^ (-1))) o29 e29 _) iv_7_187 ⟨rfl, rfl, Nat.le_of_ble_eq_true rfl, Nat.le_of_ble_eq_true rfl⟩ mw_o0 rfl rfl rfl hl.1 (Nat.le_of_ble_eq_true rfl) dX7_needed_29) (fun H locs hS => ?_)
          refine lv_if_ne (tgt := 39) hx hb dX7_needed_32 (by decide) (fun c32 => ?_) (fun c32 => ?_)
          · replace hm := ie c32 hm
            refine lv_iconst (v := 0) hx hb dX7_needed_39 (by decide) ?_
            refine lv_iadd hx hb dX7_needed_40 ?_
            refine lv_istore_n (lv' := [(2, .int (x2 + 0)), (0, .ref (q 0)), (1, .int x1), (3, .int x3)]) hx hb dX7_needed_41 rfl hl (by decide) rfl (fun ls hl => ?_)
            refine lv_iinc (v := x3 + 1) (lv' := [(3, .int (x3 + 1)), (2, .int (x2 + 0)), (0, .ref (q 0)), (1, .int x1)]) hx hb dX7_needed_42 hl (k := 3) rfl rfl (by decide) rfl (fun ls hl => ?_)
            refine lv_goto (tgt := 4) hx hb dX7_needed_45 (by decide) ?_
            exact ih x1 (x2 + 0) (x3 + 1) _ _ _ hS (lv_sub hl [2, 3, 1, 0] rfl) hm
          · replace hm := it c32 hm
            refine lv_iconst (v := 1) hx hb dX7_needed_35 (by decide) ?_
            refine lv_goto (tgt := 40) hx hb dX7_needed_36 (by decide) ?_
            refine lv_iadd hx hb dX7_needed_40 ?_
            refine lv_istore_n (lv' := [(2, .int (x2 + 1)), (0, .ref (q 0)), (1, .int x1), (3, .int x3)]) hx hb dX7_needed_41 rfl hl (by decide) rfl (fun ls hl => ?_)
            refine lv_iinc (v := x3 + 1) (lv' := [(3, .int (x3 + 1)), (2, .int (x2 + 1)), (0, .ref (q 0)), (1, .int x1)]) hx hb dX7_needed_42 hl (k := 3) rfl rfl (by decide) rfl (fun ls hl => ?_)
            refine lv_goto (tgt := 4) hx hb dX7_needed_45 (by decide) ?_
            exact ih x1 (x2 + 1) (x3 + 1) _ _ _ hS (lv_sub hl [2, 3, 1, 0] rfl) hm
  unfold M_X7_needed at hm
  refine lv_iconst (v := 0) hx hb dX7_needed_0 (by decide) ?_
  refine lv_istore_n (lv' := [(2, .int 0), (0, .ref (q 0)), (1, .int a1)]) hx hb dX7_needed_1 rfl hl (by decide) rfl (fun ls hl => ?_)
  refine lv_iconst (v := 0) hx hb dX7_needed_2 (by decide) ?_
  refine lv_istore_n (lv' := [(3, .int 0), (2, .int 0), (0, .ref (q 0)), (1, .int a1)]) hx hb dX7_needed_3 rfl hl (by decide) rfl (fun ls hl => ?_)
  exact L4 10000 a1 0 0 _ _ _ hS (lv_sub hl [2, 3, 1, 0] rfl) hm
def M_X7_mark (σ : ST) (a1 : Int32) (a2 : Int32) : Option (Int32 × ST) := (M_X7_isHouse σ a1).bind fun o2 => if o2 = 0 then some ((-1), σ) else (M_X7_in a2.toInt64 1 5).bind fun o14 => if o14 = 0 then some ((-1), σ) else (M_X7_isOf σ a1 a2).bind fun o25 => if o25 = 0 then (M_X7_find σ 3).bind fun o33 => some (o33.1, o33.2) else if a2 = 1 then (rd 3776 (σ.2.2 1) 1).bind fun v73 => some (v73 - v73 / 2 * 2, σ) else if a2 = 2 then (rd 3776 (σ.2.2 1) 1).bind fun v83 => some ((3 - (v83 - v83 / 3 * 3)) - (3 - (v83 - v83 / 3 * 3)) / 3 * 3, σ) else if a2 = 3 then (M_X7_needed σ a1).bind fun o92 => some (o92, σ) else if a2 = 4 then (rd 7 (σ.2.2 3) a1).bind fun v101 => (M_X7_wants σ a1).bind fun o104 => some (v101 - o104, σ) else (M_X7_keysHeld σ a1).bind fun o111 => some (o111, σ)
abbrev rm_X7_mark : Room := { frames := 4, cells := 0, slots := 0, locals := 89 }
set_option maxRecDepth 100000 in
set_option maxHeartbeats 4000000 in
theorem c_X7_mark (l : Launch) (d : CD) (q : Nat → Nat) (σ : ST) (a1 : Int32) (a2 : Int32) (out : Int32 × ST) (hm : M_X7_mark σ a1 a2 = some out) : MetI l yX7_mark cX7_mark 3 (some .int) rm_X7_mark d (mw q d σ) [.ref (q 0), .int a1, .int a2] out.1 (mw q d out.2) := by
  refine mkI (own := RX7) (by decide +kernel) rfl (Nat.le_of_ble_eq_true rfl) ?_
  intro p e s m below meth c A ls C hS hl
  obtain ⟨hx, hb, hml, hown, hts, -⟩ := id C
  have hl : lv_has ls 3 [(0, .ref (q 0)), (1, .int a1), (2, .int a2)] := hl
  unfold M_X7_mark at hm
  refine lv_aload_n hx hb dX7_mark_0 rfl (lv_at hl 0 rfl) ?_
  refine lv_iload_n hx hb dX7_mark_1 rfl (lv_at hl 1 rfl) ?_
  obtain ⟨o2, e2, hm⟩ := ob hm
  refine after_i C hS (call_V (As := [.int a1]) C hS (c_X7_isHouse l d q σ a1 o2 e2 _) iv_7_179 ⟨rfl, rfl, Nat.le_of_ble_eq_true rfl, Nat.le_of_ble_eq_true rfl⟩ mw_o0 rfl rfl rfl hl.1 (Nat.le_of_ble_eq_true rfl) dX7_mark_2) (fun H locs hS => ?_)
  refine lv_if_eq (tgt := 20) hx hb dX7_mark_5 (by decide) (fun c5 => ?_) (fun c5 => ?_)
  · replace hm := it c5 hm
    refine lv_iconst (v := (-1)) hx hb dX7_mark_20 (by decide) ?_
    exact retIw (wf := mw q d) C hS hm dX7_mark_21
  · replace hm := ie c5 hm
    refine lv_iload_n hx hb dX7_mark_8 rfl (lv_at hl 2 rfl) ?_
    refine lv_i2l (v := a2.toInt64) hx hb dX7_mark_9 rfl ?_
    refine lv_lconst (v := 1) hx hb dX7_mark_10 (by decide) ?_
    refine lv_ldc2 (v := 5) hx hb hown (hts _ lc_X7_64) dX7_mark_11 ?_
    obtain ⟨o14, e14, hm⟩ := ob hm
    refine after_i C hS (call_S (As := [.long a2.toInt64, .long 1, .long 5]) C hS (c_X7_in l d (mw q d σ) a2.toInt64 1 5 o14 e14 _) is_7_66 ⟨rfl, rfl, Nat.le_of_ble_eq_true rfl, Nat.le_of_ble_eq_true rfl⟩ rfl hl.1 (Nat.le_of_ble_eq_true rfl) dX7_mark_14) (fun H locs hS => ?_)
    refine lv_if_ne (tgt := 22) hx hb dX7_mark_17 (by decide) (fun c17 => ?_) (fun c17 => ?_)
    · replace hm := ie c17 hm
      refine lv_aload_n hx hb dX7_mark_22 rfl (lv_at hl 0 rfl) ?_
      refine lv_iload_n hx hb dX7_mark_23 rfl (lv_at hl 1 rfl) ?_
      refine lv_iload_n hx hb dX7_mark_24 rfl (lv_at hl 2 rfl) ?_
      obtain ⟨o25, e25, hm⟩ := ob hm
      refine after_i C hS (call_V (As := [.int a1, .int a2]) C hS (c_X7_isOf l d q σ a1 a2 o25 e25 _) iv_7_190 ⟨rfl, rfl, Nat.le_of_ble_eq_true rfl, Nat.le_of_ble_eq_true rfl⟩ mw_o0 rfl rfl rfl hl.1 (Nat.le_of_ble_eq_true rfl) dX7_mark_25) (fun H locs hS => ?_)
      refine lv_if_ne (tgt := 37) hx hb dX7_mark_28 (by decide) (fun c28 => ?_) (fun c28 => ?_)
      · replace hm := ie c28 hm
        refine lv_iload_n hx hb dX7_mark_37 rfl (lv_at hl 2 rfl) ?_
        by_cases c38_0 : a2 = 1
        · replace hm := it c38_0 hm
          refine lv_tableIn (off := 30) (tgt := 68) hx hb dX7_mark_38 (by rw [c38_0]; decide) (by rw [c38_0]; decide) (by rw [c38_0]; rfl) (by decide) ?_
          refine lv_aload_n hx hb dX7_mark_68 rfl (lv_at hl 0 rfl) ?_
          refine g_7_7_0 C hS dX7_mark_69 ?_
          refine lv_iconst (v := 1) hx hb dX7_mark_72 (by decide) ?_
          obtain ⟨v73, e73, hm⟩ := ob hm
          refine iald' C hS mw_a1 e73 dX7_mark_73 ?_
          refine lv_iconst (v := 2) hx hb dX7_mark_74 (by decide) ?_
          refine lv_irem hx hb dX7_mark_75 (by decide) ?_
          exact retIw (wf := mw q d) C hS hm dX7_mark_76
        · replace hm := ie c38_0 hm
          by_cases c38_1 : a2 = 2
          · replace hm := it c38_1 hm
            refine lv_tableIn (off := 39) (tgt := 77) hx hb dX7_mark_38 (by rw [c38_1]; decide) (by rw [c38_1]; decide) (by rw [c38_1]; rfl) (by decide) ?_
            refine lv_iconst (v := 3) hx hb dX7_mark_77 (by decide) ?_
            refine lv_aload_n hx hb dX7_mark_78 rfl (lv_at hl 0 rfl) ?_
            refine g_7_7_0 C hS dX7_mark_79 ?_
            refine lv_iconst (v := 1) hx hb dX7_mark_82 (by decide) ?_
            obtain ⟨v83, e83, hm⟩ := ob hm
            refine iald' C hS mw_a1 e83 dX7_mark_83 ?_
            refine lv_iconst (v := 3) hx hb dX7_mark_84 (by decide) ?_
            refine lv_irem hx hb dX7_mark_85 (by decide) ?_
            refine lv_isub hx hb dX7_mark_86 ?_
            refine lv_iconst (v := 3) hx hb dX7_mark_87 (by decide) ?_
            refine lv_irem hx hb dX7_mark_88 (by decide) ?_
            exact retIw (wf := mw q d) C hS hm dX7_mark_89
          · replace hm := ie c38_1 hm
            by_cases c38_2 : a2 = 3
            · replace hm := it c38_2 hm
              refine lv_tableIn (off := 52) (tgt := 90) hx hb dX7_mark_38 (by rw [c38_2]; decide) (by rw [c38_2]; decide) (by rw [c38_2]; rfl) (by decide) ?_
              refine lv_aload_n hx hb dX7_mark_90 rfl (lv_at hl 0 rfl) ?_
              refine lv_iload_n hx hb dX7_mark_91 rfl (lv_at hl 1 rfl) ?_
              obtain ⟨o92, e92, hm⟩ := ob hm
              refine after_i C hS (call_V (As := [.int a1]) C hS (c_X7_needed l d q σ a1 o92 e92 _) iv_7_193 ⟨rfl, rfl, Nat.le_of_ble_eq_true rfl, Nat.le_of_ble_eq_true rfl⟩ mw_o0 rfl rfl rfl hl.1 (Nat.le_of_ble_eq_true rfl) dX7_mark_92) (fun H locs hS => ?_)
              exact retIw (wf := mw q d) C hS hm dX7_mark_95
            · replace hm := ie c38_2 hm
              by_cases c38_3 : a2 = 4
              · replace hm := it c38_3 hm
                refine lv_tableIn (off := 58) (tgt := 96) hx hb dX7_mark_38 (by rw [c38_3]; decide) (by rw [c38_3]; decide) (by rw [c38_3]; rfl) (by decide) ?_
                refine lv_aload_n hx hb dX7_mark_96 rfl (lv_at hl 0 rfl) ?_
                refine g_7_16_0 C hS dX7_mark_97 ?_
                refine lv_iload_n hx hb dX7_mark_100 rfl (lv_at hl 1 rfl) ?_
                obtain ⟨v101, e101, hm⟩ := ob hm
                refine iald' C hS mw_a3 e101 dX7_mark_101 ?_
                refine lv_aload_n hx hb dX7_mark_102 rfl (lv_at hl 0 rfl) ?_
                refine lv_iload_n hx hb dX7_mark_103 rfl (lv_at hl 1 rfl) ?_
                obtain ⟨o104, e104, hm⟩ := ob hm
                refine after_i C hS (call_V (As := [.int a1]) C hS (c_X7_wants l d q σ a1 o104 e104 _) iv_7_176 ⟨rfl, rfl, Nat.le_of_ble_eq_true rfl, Nat.le_of_ble_eq_true rfl⟩ mw_o0 rfl rfl rfl hl.1 (Nat.le_of_ble_eq_true rfl) dX7_mark_104) (fun H locs hS => ?_)
                refine lv_isub hx hb dX7_mark_107 ?_
                exact retIw (wf := mw q d) C hS hm dX7_mark_108
              · replace hm := ie c38_3 hm
                refine lv_tableOut (tgt := 109) hx hb dX7_mark_38 (by have h0 : a2.toInt ≠ 1 := ts_ne c38_0; have h1 : a2.toInt ≠ 2 := ts_ne c38_1; have h2 : a2.toInt ≠ 3 := ts_ne c38_2; have h3 : a2.toInt ≠ 4 := ts_ne c38_3; omega) (by decide) ?_
                refine lv_aload_n hx hb dX7_mark_109 rfl (lv_at hl 0 rfl) ?_
                refine lv_iload_n hx hb dX7_mark_110 rfl (lv_at hl 1 rfl) ?_
                obtain ⟨o111, e111, hm⟩ := ob hm
                refine after_i C hS (call_V (As := [.int a1]) C hS (c_X7_keysHeld l d q σ a1 o111 e111 _) iv_7_196 ⟨rfl, rfl, Nat.le_of_ble_eq_true rfl, Nat.le_of_ble_eq_true rfl⟩ mw_o0 rfl rfl rfl hl.1 (Nat.le_of_ble_eq_true rfl) dX7_mark_111) (fun H locs hS => ?_)
                exact retIw (wf := mw q d) C hS hm dX7_mark_114
      · replace hm := it c28 hm
        refine lv_aload_n hx hb dX7_mark_31 rfl (lv_at hl 0 rfl) ?_
        refine lv_iconst (v := 3) hx hb dX7_mark_32 (by decide) ?_
        obtain ⟨o33, e33, hm⟩ := ob hm
        refine after_i C hS (call_V (As := [.int 3]) C hS (c_X7_find l d q σ 3 o33 e33 _) iv_7_76 ⟨rfl, rfl, Nat.le_of_ble_eq_true rfl, Nat.le_of_ble_eq_true rfl⟩ mw_o0 rfl rfl rfl hl.1 (Nat.le_of_ble_eq_true rfl) dX7_mark_33) (fun H locs hS => ?_)
        exact retIw (wf := mw q d) C hS hm dX7_mark_36
    · replace hm := it c17 hm
      refine lv_iconst (v := (-1)) hx hb dX7_mark_20 (by decide) ?_
      exact retIw (wf := mw q d) C hS hm dX7_mark_21
def M_X7_wantsYet (σ : ST) (a1 : Int32) : Option Int32 := (M_X7_wants σ a1).bind fun o2 => (rd 3776 (σ.2.2 1) (10 + a1)).bind fun v13 => some (o2 - v13)
abbrev rm_X7_wantsYet : Room := { frames := 1, cells := 0, slots := 0, locals := 21 }
set_option maxRecDepth 100000 in
set_option maxHeartbeats 4000000 in
theorem c_X7_wantsYet (l : Launch) (d : CD) (q : Nat → Nat) (σ : ST) (a1 : Int32) (out : Int32) (hm : M_X7_wantsYet σ a1 = some out) : MetI l yX7_wantsYet cX7_wantsYet 2 (some .int) rm_X7_wantsYet d (mw q d σ) [.ref (q 0), .int a1] out (mw q d σ) := by
  refine mkI (own := RX7) (by decide +kernel) rfl (Nat.le_of_ble_eq_true rfl) ?_
  intro p e s m below meth c A ls C hS hl
  obtain ⟨hx, hb, hml, hown, hts, -⟩ := id C
  have hl : lv_has ls 2 [(0, .ref (q 0)), (1, .int a1)] := hl
  unfold M_X7_wantsYet at hm
  refine lv_aload_n hx hb dX7_wantsYet_0 rfl (lv_at hl 0 rfl) ?_
  refine lv_iload_n hx hb dX7_wantsYet_1 rfl (lv_at hl 1 rfl) ?_
  obtain ⟨o2, e2, hm⟩ := ob hm
  refine after_i C hS (call_V (As := [.int a1]) C hS (c_X7_wants l d q σ a1 o2 e2 _) iv_7_176 ⟨rfl, rfl, Nat.le_of_ble_eq_true rfl, Nat.le_of_ble_eq_true rfl⟩ mw_o0 rfl rfl rfl hl.1 (Nat.le_of_ble_eq_true rfl) dX7_wantsYet_2) (fun H locs hS => ?_)
  refine lv_aload_n hx hb dX7_wantsYet_5 rfl (lv_at hl 0 rfl) ?_
  refine g_7_7_0 C hS dX7_wantsYet_6 ?_
  refine lv_bipush (v := 10) hx hb dX7_wantsYet_9 (by decide) ?_
  refine lv_iload_n hx hb dX7_wantsYet_11 rfl (lv_at hl 1 rfl) ?_
  refine lv_iadd hx hb dX7_wantsYet_12 ?_
  obtain ⟨v13, e13, hm⟩ := ob hm
  refine iald' C hS mw_a1 e13 dX7_wantsYet_13 ?_
  refine lv_isub hx hb dX7_wantsYet_14 ?_
  exact retIr C hS hm dX7_wantsYet_15
def M_X7_draws_28 (σ : ST) (x1 : Int32) (y0 : Int32) : Option (Int32 × ST) := (rd 3776 (σ.2.2 1) 2).bind fun v35 => (wrA 3776 σ 1 2 (v35 - y0)).bind fun σ38 => (rd 3776 (σ38.2.2 1) (10 + x1)).bind fun v48 => (wrA 3776 σ38 1 (10 + x1) (v48 + y0)).bind fun σ51 => (rd 3776 (σ51.2.2 1) (17 + x1)).bind fun v61 => (wrA 3776 σ51 1 (17 + x1) (v61 + y0)).bind fun σ64 => some (y0, σ64)
def M_X7_draws (σ : ST) (a1 : Int32) : Option (Int32 × ST) := (M_X7_wantsYet σ a1).bind fun o2 => (rd 3776 (σ.2.2 1) 2).bind fun v10 => if v10 ≤ o2 then (rd 3776 (σ.2.2 1) 2).bind fun v27 => M_X7_draws_28 σ a1 v27 else (M_X7_wantsYet σ a1).bind fun o16 => M_X7_draws_28 σ a1 o16
abbrev rm_X7_draws : Room := { frames := 2, cells := 0, slots := 0, locals := 42 }
set_option maxRecDepth 100000 in
set_option maxHeartbeats 4000000 in
theorem c_X7_draws (l : Launch) (d : CD) (q : Nat → Nat) (σ : ST) (a1 : Int32) (out : Int32 × ST) (hm : M_X7_draws σ a1 = some out) : MetI l yX7_draws cX7_draws 3 (some .int) rm_X7_draws d (mw q d σ) [.ref (q 0), .int a1] out.1 (mw q d out.2) := by
  refine mkI (own := RX7) (by decide +kernel) rfl (Nat.le_of_ble_eq_true rfl) ?_
  intro p e s m below meth c A ls C hS hl
  obtain ⟨hx, hb, hml, hown, hts, -⟩ := id C
  have hl : lv_has ls 3 [(0, .ref (q 0)), (1, .int a1)] := hl
  have J28 : ∀ (σ : ST) (x1 : Int32) (y0 : Int32) (H : Heap) (locs : List Loc) (ls : Array Slot), HS d A s.heap H locs (mw q d σ) → lv_has ls 3 [(0, .ref (q 0)), (1, .int x1)] → M_X7_draws_28 σ x1 y0 = some out → WI p l e rm_X7_draws s m [.ref (q 0), .int a1].toArray below meth c A d H locs out.1 (mw q d out.2) (F0 m 28 ls [.int y0]) := by
    intro σ x1 y0 H locs ls hS hl hm
    unfold M_X7_draws_28 at hm
    refine lv_istore_n (lv' := [(2, .int y0), (0, .ref (q 0)), (1, .int x1)]) hx hb dX7_draws_28 rfl hl (by decide) rfl (fun ls hl => ?_)
    refine lv_aload_n hx hb dX7_draws_29 rfl (lv_at hl 1 rfl) ?_
    refine g_7_7_0 C hS dX7_draws_30 ?_
    refine lv_iconst (v := 2) hx hb dX7_draws_33 (by decide) ?_
    refine lv_dup2_11 hx hb dX7_draws_34 rfl rfl ?_
    obtain ⟨v35, e35, hm⟩ := ob hm
    refine iald' C hS mw_a1 e35 dX7_draws_35 ?_
    refine lv_iload_n hx hb dX7_draws_36 rfl (lv_at hl 0 rfl) ?_
    refine lv_isub hx hb dX7_draws_37 ?_
    obtain ⟨σ38, e38, hm⟩ := ob hm
    refine iast' (wf := mw q d) C hS mw_a1 mw_s1 e38 dX7_draws_38 (fun H locs hS => ?_)
    refine lv_aload_n hx hb dX7_draws_39 rfl (lv_at hl 1 rfl) ?_
    refine g_7_7_0 C hS dX7_draws_40 ?_
    refine lv_bipush (v := 10) hx hb dX7_draws_43 (by decide) ?_
    refine lv_iload_n hx hb dX7_draws_45 rfl (lv_at hl 2 rfl) ?_
    refine lv_iadd hx hb dX7_draws_46 ?_
    refine lv_dup2_11 hx hb dX7_draws_47 rfl rfl ?_
    obtain ⟨v48, e48, hm⟩ := ob hm
    refine iald' C hS mw_a1 e48 dX7_draws_48 ?_
    refine lv_iload_n hx hb dX7_draws_49 rfl (lv_at hl 0 rfl) ?_
    refine lv_iadd hx hb dX7_draws_50 ?_
    obtain ⟨σ51, e51, hm⟩ := ob hm
    refine iast' (wf := mw q d) C hS mw_a1 mw_s1 e51 dX7_draws_51 (fun H locs hS => ?_)
    refine lv_aload_n hx hb dX7_draws_52 rfl (lv_at hl 1 rfl) ?_
    refine g_7_7_0 C hS dX7_draws_53 ?_
    refine lv_bipush (v := 17) hx hb dX7_draws_56 (by decide) ?_
    refine lv_iload_n hx hb dX7_draws_58 rfl (lv_at hl 2 rfl) ?_
    refine lv_iadd hx hb dX7_draws_59 ?_
    refine lv_dup2_11 hx hb dX7_draws_60 rfl rfl ?_
    obtain ⟨v61, e61, hm⟩ := ob hm
    refine iald' C hS mw_a1 e61 dX7_draws_61 ?_
    refine lv_iload_n hx hb dX7_draws_62 rfl (lv_at hl 0 rfl) ?_
    refine lv_iadd hx hb dX7_draws_63 ?_
    obtain ⟨σ64, e64, hm⟩ := ob hm
    refine iast' (wf := mw q d) C hS mw_a1 mw_s1 e64 dX7_draws_64 (fun H locs hS => ?_)
    refine lv_iload_n hx hb dX7_draws_65 rfl (lv_at hl 0 rfl) ?_
    exact retIw (wf := mw q d) C hS hm dX7_draws_66
  unfold M_X7_draws at hm
  refine lv_aload_n hx hb dX7_draws_0 rfl (lv_at hl 0 rfl) ?_
  refine lv_iload_n hx hb dX7_draws_1 rfl (lv_at hl 1 rfl) ?_
  obtain ⟨o2, e2, hm⟩ := ob hm
  refine after_i C hS (call_V (As := [.int a1]) C hS (c_X7_wantsYet l d q σ a1 o2 e2 _) iv_7_199 ⟨rfl, rfl, Nat.le_of_ble_eq_true rfl, Nat.le_of_ble_eq_true rfl⟩ mw_o0 rfl rfl rfl hl.1 (Nat.le_of_ble_eq_true rfl) dX7_draws_2) (fun H locs hS => ?_)
  refine lv_aload_n hx hb dX7_draws_5 rfl (lv_at hl 0 rfl) ?_
  refine g_7_7_0 C hS dX7_draws_6 ?_
  refine lv_iconst (v := 2) hx hb dX7_draws_9 (by decide) ?_
  obtain ⟨v10, e10, hm⟩ := ob hm
  refine iald' C hS mw_a1 e10 dX7_draws_10 ?_
  refine lv_icmp_ge (tgt := 22) hx hb dX7_draws_11 (by decide) (fun c11 => ?_) (fun c11 => ?_)
  · replace hm := it c11 hm
    refine lv_aload_n hx hb dX7_draws_22 rfl (lv_at hl 0 rfl) ?_
    refine g_7_7_0 C hS dX7_draws_23 ?_
    refine lv_iconst (v := 2) hx hb dX7_draws_26 (by decide) ?_
    obtain ⟨v27, e27, hm⟩ := ob hm
    refine iald' C hS mw_a1 e27 dX7_draws_27 ?_
    exact J28 σ a1 v27 _ _ _ hS (lv_sub hl [0, 1] rfl) hm
  · replace hm := ie c11 hm
    refine lv_aload_n hx hb dX7_draws_14 rfl (lv_at hl 0 rfl) ?_
    refine lv_iload_n hx hb dX7_draws_15 rfl (lv_at hl 1 rfl) ?_
    obtain ⟨o16, e16, hm⟩ := ob hm
    refine after_i C hS (call_V (As := [.int a1]) C hS (c_X7_wantsYet l d q σ a1 o16 e16 _) iv_7_199 ⟨rfl, rfl, Nat.le_of_ble_eq_true rfl, Nat.le_of_ble_eq_true rfl⟩ mw_o0 rfl rfl rfl hl.1 (Nat.le_of_ble_eq_true rfl) dX7_draws_16) (fun H locs hS => ?_)
    refine lv_goto (tgt := 28) hx hb dX7_draws_19 (by decide) ?_
    exact J28 σ a1 o16 _ _ _ hS (lv_sub hl [0, 1] rfl) hm
def M_X7_setOf_4 (σ : ST) : Nat → Int32 → Int32 → Int32 → Option Int32
  | 0, _, _, _ => none
  | n + 1, x1, x2, x3 => (rd 6 (σ.2.2 5) x1).bind fun v10 => if v10 ≤ x3 then some x2 else (rd 240 (σ.2.2 6) ((40 * x1) + x3)).bind fun v24 => (M_X7_isHouse σ v24).bind fun o30 => if o30 = 0 then some (-9) else (M_X7_has x2 v24).bind fun o39 => if o39 = 0 then M_X7_setOf_4 σ n x1 (x2 ||| ((1 : Int32) <<< (v24 &&& 31))) (x3 + 1) else some (-9)
def M_X7_setOf (σ : ST) (a1 : Int32) : Option Int32 := M_X7_setOf_4 σ 10000 a1 0 0
abbrev rm_X7_setOf : Room := { frames := 2, cells := 0, slots := 0, locals := 46 }
set_option maxRecDepth 100000 in
set_option maxHeartbeats 4000000 in
theorem c_X7_setOf (l : Launch) (d : CD) (q : Nat → Nat) (σ : ST) (a1 : Int32) (out : Int32) (hm : M_X7_setOf σ a1 = some out) : MetI l yX7_setOf cX7_setOf 5 (some .int) rm_X7_setOf d (mw q d σ) [.ref (q 0), .int a1] out (mw q d σ) := by
  refine mkI (own := RX7) (by decide +kernel) rfl (Nat.le_of_ble_eq_true rfl) ?_
  intro p e s m below meth c A ls C hS hl
  obtain ⟨hx, hb, hml, hown, hts, -⟩ := id C
  have hl : lv_has ls 5 [(0, .ref (q 0)), (1, .int a1)] := hl
  have L4 : ∀ (n : Nat) (x1 : Int32) (x2 : Int32) (x3 : Int32) (H : Heap) (locs : List Loc) (ls : Array Slot), HS d A s.heap H locs (mw q d σ) → lv_has ls 5 [(0, .ref (q 0)), (1, .int x1), (2, .int x2), (3, .int x3)] → M_X7_setOf_4 σ n x1 x2 x3 = some out → WI p l e rm_X7_setOf s m [.ref (q 0), .int a1].toArray below meth c A d H locs out (mw q d σ) (F0 m 4 ls []) := by
    intro n
    induction n with
    | zero =>
      intro x1 x2 x3 H locs ls hS hl hm
      exact absurd hm (by rw [M_X7_setOf_4]; exact fun h => nomatch h)
    | succ n ih =>
      intro x1 x2 x3 H locs ls hS hl hm
      rw [M_X7_setOf_4] at hm
      refine lv_iload_n hx hb dX7_setOf_4 rfl (lv_at hl 3 rfl) ?_
      refine lv_aload_n hx hb dX7_setOf_5 rfl (lv_at hl 0 rfl) ?_
      refine g_7_22_0 C hS dX7_setOf_6 ?_
      refine lv_iload_n hx hb dX7_setOf_9 rfl (lv_at hl 1 rfl) ?_
      obtain ⟨v10, e10, hm⟩ := ob hm
      refine iald' C hS mw_a5 e10 dX7_setOf_10 ?_
      refine lv_icmp_ge (tgt := 61) hx hb dX7_setOf_11 (by decide) (fun c11 => ?_) (fun c11 => ?_)
      · replace hm := it c11 hm
        refine lv_iload_n hx hb dX7_setOf_61 rfl (lv_at hl 2 rfl) ?_
        exact retIr C hS hm dX7_setOf_62
      · replace hm := ie c11 hm
        refine lv_aload_n hx hb dX7_setOf_14 rfl (lv_at hl 0 rfl) ?_
        refine g_7_25_0 C hS dX7_setOf_15 ?_
        refine lv_bipush (v := 40) hx hb dX7_setOf_18 (by decide) ?_
        refine lv_iload_n hx hb dX7_setOf_20 rfl (lv_at hl 1 rfl) ?_
        refine lv_imul hx hb dX7_setOf_21 ?_
        refine lv_iload_n hx hb dX7_setOf_22 rfl (lv_at hl 3 rfl) ?_
        refine lv_iadd hx hb dX7_setOf_23 ?_
        obtain ⟨v24, e24, hm⟩ := ob hm
        refine iald' C hS mw_a6 e24 dX7_setOf_24 ?_
        refine lv_istore (lv' := [(4, .int v24), (0, .ref (q 0)), (1, .int x1), (2, .int x2), (3, .int x3)]) hx hb dX7_setOf_25 hl (by decide) rfl (fun ls hl => ?_)
        refine lv_aload_n hx hb dX7_setOf_27 rfl (lv_at hl 1 rfl) ?_
        refine lv_iload hx hb dX7_setOf_28 (lv_at hl 0 rfl) ?_
        obtain ⟨o30, e30, hm⟩ := ob hm
        refine after_i C hS (call_V (As := [.int v24]) C hS (c_X7_isHouse l d q σ v24 o30 e30 _) iv_7_179 ⟨rfl, rfl, Nat.le_of_ble_eq_true rfl, Nat.le_of_ble_eq_true rfl⟩ mw_o0 rfl rfl rfl hl.1 (Nat.le_of_ble_eq_true rfl) dX7_setOf_30) (fun H locs hS => ?_)
        refine lv_if_eq (tgt := 45) hx hb dX7_setOf_33 (by decide) (fun c33 => ?_) (fun c33 => ?_)
        · replace hm := it c33 hm
          refine lv_bipush (v := (-9)) hx hb dX7_setOf_45 (by decide) ?_
          exact retIr C hS hm dX7_setOf_47
        · replace hm := ie c33 hm
          refine lv_iload_n hx hb dX7_setOf_36 rfl (lv_at hl 3 rfl) ?_
          refine lv_iload hx hb dX7_setOf_37 (lv_at hl 0 rfl) ?_
          obtain ⟨o39, e39, hm⟩ := ob hm
          refine after_i C hS (call_S (As := [.int x2, .int v24]) C hS (c_X7_has l d (mw q d σ) x2 v24 o39 e39 _) is_7_135 ⟨rfl, rfl, Nat.le_of_ble_eq_true rfl, Nat.le_of_ble_eq_true rfl⟩ rfl hl.1 (Nat.le_of_ble_eq_true rfl) dX7_setOf_39) (fun H locs hS => ?_)
          refine lv_if_eq (tgt := 48) hx hb dX7_setOf_42 (by decide) (fun c42 => ?_) (fun c42 => ?_)
          · replace hm := it c42 hm
            refine lv_iload_n hx hb dX7_setOf_48 rfl (lv_at hl 3 rfl) ?_
            refine lv_iconst (v := 1) hx hb dX7_setOf_49 (by decide) ?_
            refine lv_iload hx hb dX7_setOf_50 (lv_at hl 0 rfl) ?_
            refine lv_ishl hx hb dX7_setOf_52 ?_
            refine lv_ior hx hb dX7_setOf_53 ?_
            refine lv_istore_n (lv' := [(2, .int (x2 ||| ((1 : Int32) <<< (v24 &&& 31)))), (4, .int v24), (0, .ref (q 0)), (1, .int x1), (3, .int x3)]) hx hb dX7_setOf_54 rfl hl (by decide) rfl (fun ls hl => ?_)
            refine lv_iinc (v := x3 + 1) (lv' := [(3, .int (x3 + 1)), (2, .int (x2 ||| ((1 : Int32) <<< (v24 &&& 31)))), (4, .int v24), (0, .ref (q 0)), (1, .int x1)]) hx hb dX7_setOf_55 hl (k := 4) rfl rfl (by decide) rfl (fun ls hl => ?_)
            refine lv_goto (tgt := 4) hx hb dX7_setOf_58 (by decide) ?_
            exact ih x1 (x2 ||| ((1 : Int32) <<< (v24 &&& 31))) (x3 + 1) _ _ _ hS (lv_sub hl [3, 4, 1, 0] rfl) hm
          · replace hm := ie c42 hm
            refine lv_bipush (v := (-9)) hx hb dX7_setOf_45 (by decide) ?_
            exact retIr C hS hm dX7_setOf_47
  unfold M_X7_setOf at hm
  refine lv_iconst (v := 0) hx hb dX7_setOf_0 (by decide) ?_
  refine lv_istore_n (lv' := [(2, .int 0), (0, .ref (q 0)), (1, .int a1)]) hx hb dX7_setOf_1 rfl hl (by decide) rfl (fun ls hl => ?_)
  refine lv_iconst (v := 0) hx hb dX7_setOf_2 (by decide) ?_
  refine lv_istore_n (lv' := [(3, .int 0), (2, .int 0), (0, .ref (q 0)), (1, .int a1)]) hx hb dX7_setOf_3 rfl hl (by decide) rfl (fun ls hl => ?_)
  exact L4 10000 a1 0 0 _ _ _ hS (lv_sub hl [2, 3, 1, 0] rfl) hm
def M_X7_keepPast_2 : Nat → ST → Int32 → Option ST
  | 0, _, _ => none
  | n + 1, σ, x1 => if 23 ≤ x1 then (rd 3776 (σ.2.2 1) 0).bind fun v47 => (wrA 3776 σ 1 0 (v47 + 1)).bind fun σ50 => some σ50 else (rd 3776 (σ.2.2 1) 0).bind fun v21 => (rd 3776 (σ.2.2 1) (1 + x1)).bind fun v33 => (wrA 3776 σ 1 ((24 + (23 * v21)) + x1) v33).bind fun σ34 => M_X7_keepPast_2 n σ34 (x1 + 1)
def M_X7_keepPast (σ : ST) : Option ST := M_X7_keepPast_2 10000 σ 0
abbrev rm_X7_keepPast : Room := { frames := 0, cells := 0, slots := 0, locals := 0 }
set_option maxRecDepth 100000 in
set_option maxHeartbeats 4000000 in
theorem c_X7_keepPast (l : Launch) (d : CD) (q : Nat → Nat) (σ : ST) (out : ST) (hm : M_X7_keepPast σ = some out) : MetV l yX7_keepPast cX7_keepPast 2 (none) rm_X7_keepPast d (mw q d σ) [.ref (q 0)] (mw q d out) := by
  refine mkV (own := RX7) (by decide +kernel) rfl (Nat.le_of_ble_eq_true rfl) ?_
  intro p e s m below meth c A ls C hS hl
  obtain ⟨hx, hb, hml, hown, hts, -⟩ := id C
  have hl : lv_has ls 2 [(0, .ref (q 0))] := hl
  have L2 : ∀ (n : Nat) (σ : ST) (x1 : Int32) (H : Heap) (locs : List Loc) (ls : Array Slot), HS d A s.heap H locs (mw q d σ) → lv_has ls 2 [(0, .ref (q 0)), (1, .int x1)] → M_X7_keepPast_2 n σ x1 = some out → WV p l e rm_X7_keepPast s m [.ref (q 0)].toArray below meth c A d H locs (mw q d out) (F0 m 2 ls []) := by
    intro n
    induction n with
    | zero =>
      intro σ x1 H locs ls hS hl hm
      exact absurd hm (by rw [M_X7_keepPast_2]; exact fun h => nomatch h)
    | succ n ih =>
      intro σ x1 H locs ls hS hl hm
      rw [M_X7_keepPast_2] at hm
      refine lv_iload_n hx hb dX7_keepPast_2 rfl (lv_at hl 1 rfl) ?_
      refine lv_bipush (v := 23) hx hb dX7_keepPast_3 (by decide) ?_
      refine lv_icmp_ge (tgt := 41) hx hb dX7_keepPast_5 (by decide) (fun c5 => ?_) (fun c5 => ?_)
      · replace hm := it c5 hm
        refine lv_aload_n hx hb dX7_keepPast_41 rfl (lv_at hl 0 rfl) ?_
        refine g_7_7_0 C hS dX7_keepPast_42 ?_
        refine lv_iconst (v := 0) hx hb dX7_keepPast_45 (by decide) ?_
        refine lv_dup2_11 hx hb dX7_keepPast_46 rfl rfl ?_
        obtain ⟨v47, e47, hm⟩ := ob hm
        refine iald' C hS mw_a1 e47 dX7_keepPast_47 ?_
        refine lv_iconst (v := 1) hx hb dX7_keepPast_48 (by decide) ?_
        refine lv_iadd hx hb dX7_keepPast_49 ?_
        obtain ⟨σ50, e50, hm⟩ := ob hm
        refine iast' (wf := mw q d) C hS mw_a1 mw_s1 e50 dX7_keepPast_50 (fun H locs hS => ?_)
        exact retVw (wf := mw q d) C hS hm dX7_keepPast_51
      · replace hm := ie c5 hm
        refine lv_aload_n hx hb dX7_keepPast_8 rfl (lv_at hl 0 rfl) ?_
        refine g_7_7_0 C hS dX7_keepPast_9 ?_
        refine lv_bipush (v := 24) hx hb dX7_keepPast_12 (by decide) ?_
        refine lv_bipush (v := 23) hx hb dX7_keepPast_14 (by decide) ?_
        refine lv_aload_n hx hb dX7_keepPast_16 rfl (lv_at hl 0 rfl) ?_
        refine g_7_7_0 C hS dX7_keepPast_17 ?_
        refine lv_iconst (v := 0) hx hb dX7_keepPast_20 (by decide) ?_
        obtain ⟨v21, e21, hm⟩ := ob hm
        refine iald' C hS mw_a1 e21 dX7_keepPast_21 ?_
        refine lv_imul hx hb dX7_keepPast_22 ?_
        refine lv_iadd hx hb dX7_keepPast_23 ?_
        refine lv_iload_n hx hb dX7_keepPast_24 rfl (lv_at hl 1 rfl) ?_
        refine lv_iadd hx hb dX7_keepPast_25 ?_
        refine lv_aload_n hx hb dX7_keepPast_26 rfl (lv_at hl 0 rfl) ?_
        refine g_7_7_0 C hS dX7_keepPast_27 ?_
        refine lv_iconst (v := 1) hx hb dX7_keepPast_30 (by decide) ?_
        refine lv_iload_n hx hb dX7_keepPast_31 rfl (lv_at hl 1 rfl) ?_
        refine lv_iadd hx hb dX7_keepPast_32 ?_
        obtain ⟨v33, e33, hm⟩ := ob hm
        refine iald' C hS mw_a1 e33 dX7_keepPast_33 ?_
        obtain ⟨σ34, e34, hm⟩ := ob hm
        refine iast' (wf := mw q d) C hS mw_a1 mw_s1 e34 dX7_keepPast_34 (fun H locs hS => ?_)
        refine lv_iinc (v := x1 + 1) (lv' := [(1, .int (x1 + 1)), (0, .ref (q 0))]) hx hb dX7_keepPast_35 hl (k := 1) rfl rfl (by decide) rfl (fun ls hl => ?_)
        refine lv_goto (tgt := 2) hx hb dX7_keepPast_38 (by decide) ?_
        exact ih σ34 (x1 + 1) _ _ _ hS (lv_sub hl [1, 0] rfl) hm
  unfold M_X7_keepPast at hm
  refine lv_iconst (v := 0) hx hb dX7_keepPast_0 (by decide) ?_
  refine lv_istore_n (lv' := [(1, .int 0), (0, .ref (q 0))]) hx hb dX7_keepPast_1 rfl hl (by decide) rfl (fun ls hl => ?_)
  exact L2 10000 σ 0 _ _ _ hS (lv_sub hl [1, 0] rfl) hm
