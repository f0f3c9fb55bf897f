def M_X6_refusalOfPairs_99 (σ : ST) : Option (Int32 × ST) := (M_X6_refuse σ 3).bind fun o101 => some (o101.1, o101.2)
def M_X6_refusalOfPairs_46 : Nat → ST → Int32 → Int32 → Int32 → Option (Int32 × ST)
  | 0, _, _, _, _ => none
  | n + 1, σ, x1, x3, x4 => if x3 ≤ (x4 + 1) then some (0, σ) else (M_X3_get_r σ x1 (x4 + 1)).bind fun o63 => (M_X3_get_r σ x1 x4).bind fun o79 => (M_X5_isSet σ o79).bind fun o82 => if o82 = 0 then M_X6_refusalOfPairs_99 σ else if o63 < 0 then M_X6_refusalOfPairs_99 σ else if o63 ≤ 1 then M_X6_refusalOfPairs_46 n σ x1 x3 (x4 + 2) else M_X6_refusalOfPairs_99 σ
def M_X6_refusalOfPairs_37 (σ : ST) : Option (Int32 × ST) := (M_X6_refuse σ 5).bind fun o39 => some (o39.1, o39.2)
def M_X6_refusalOfPairs (σ : ST) (a1 : Int32) : Option (Int32 × ST) := (M_X6_refusalOf_r σ a1).bind fun o6 => if o6.1 = 0 then (M_X3_sizeOf_r o6.2 a1).bind fun o21 => if (o21 - o21 / 2 * 2) = 0 then if o21 ≤ 16 then M_X6_refusalOfPairs_46 10000 o6.2 a1 o21 0 else M_X6_refusalOfPairs_37 o6.2 else M_X6_refusalOfPairs_37 o6.2 else some (o6.1, o6.2)
abbrev rm_X6_refusalOfPairs : Room := { frames := 4, cells := 0, slots := 0, locals := 86 }
set_option maxRecDepth 100000 in
set_option maxHeartbeats 4000000 in
theorem c_X6_refusalOfPairs (l : Launch) (d : CD) (q : Nat → Nat) (σ : ST) (a1 : Int32) (out : Int32 × ST) (hm : M_X6_refusalOfPairs σ a1 = some out) : MetI l yX6_refusalOfPairs cX6_refusalOfPairs 6 (some .int) rm_X6_refusalOfPairs d (cw q d σ) [.ref (q 0), .int a1] out.1 (cw q d out.2) := by
  refine mkI (own := RX6) (by decide +kernel) rfl (Nat.le_of_ble_eq_true rfl) ?_
  intro p e s m below meth c A ls C hS hl
  obtain ⟨hx, hb, hml, hown, hts, -⟩ := id C
  have hl : lv_has ls 6 [(0, .ref (q 0)), (1, .int a1)] := hl
  have J99 : ∀ (σ : ST) (H : Heap) (locs : List Loc) (ls : Array Slot), HS d A s.heap H locs (cw q d σ) → lv_has ls 6 [(0, .ref (q 0))] → M_X6_refusalOfPairs_99 σ = some out → WI p l e rm_X6_refusalOfPairs s m [.ref (q 0), .int a1].toArray below meth c A d H locs out.1 (cw q d out.2) (F0 m 99 ls []) := by
    intro σ H locs ls hS hl hm
    unfold M_X6_refusalOfPairs_99 at hm
    refine lv_aload_n hx hb dX6_refusalOfPairs_99 rfl (lv_at hl 0 rfl) ?_
    refine lv_iconst (v := 3) hx hb dX6_refusalOfPairs_100 (by decide) ?_
    obtain ⟨o101, e101, hm⟩ := ob hm
    refine after_i C hS (call_V (As := [.int 3]) C hS (c_X6_refuse l d q σ 3 o101 e101 _) iv_6_100 ⟨rfl, rfl, Nat.le_of_ble_eq_true rfl, Nat.le_of_ble_eq_true rfl⟩ cw_o0 rfl rfl rfl hl.1 (Nat.le_of_ble_eq_true rfl) dX6_refusalOfPairs_101) (fun H locs hS => ?_)
    exact retIw (wf := cw q d) C hS hm dX6_refusalOfPairs_104
  have L46 : ∀ (n : Nat) (σ : ST) (x1 : Int32) (x3 : Int32) (x4 : Int32) (H : Heap) (locs : List Loc) (ls : Array Slot), HS d A s.heap H locs (cw q d σ) → lv_has ls 6 [(0, .ref (q 0)), (1, .int x1), (3, .int x3), (4, .int x4)] → M_X6_refusalOfPairs_46 n σ x1 x3 x4 = some out → WI p l e rm_X6_refusalOfPairs s m [.ref (q 0), .int a1].toArray below meth c A d H locs out.1 (cw q d out.2) (F0 m 46 ls []) := by
    intro n
    induction n with
    | zero =>
      intro σ x1 x3 x4 H locs ls hS hl hm
      exact absurd hm (by rw [M_X6_refusalOfPairs_46]; exact fun h => nomatch h)
    | succ n ih =>
      intro σ x1 x3 x4 H locs ls hS hl hm
      rw [M_X6_refusalOfPairs_46] at hm
      refine lv_iload hx hb dX6_refusalOfPairs_46 (lv_at hl 3 rfl) ?_
      refine lv_iconst (v := 1) hx hb dX6_refusalOfPairs_48 (by decide) ?_
      refine lv_iadd hx hb dX6_refusalOfPairs_49 ?_
      refine lv_iload_n hx hb dX6_refusalOfPairs_50 rfl (lv_at hl 2 rfl) ?_
      refine lv_icmp_ge (tgt := 111) hx hb dX6_refusalOfPairs_51 (by decide) (fun c51 => ?_) (fun c51 => ?_)
      · replace hm := it c51 hm
        refine lv_iconst (v := 0) hx hb dX6_refusalOfPairs_111 (by decide) ?_
        exact retIw (wf := cw q d) C hS hm dX6_refusalOfPairs_112
      · replace hm := ie c51 hm
        refine lv_aload_n hx hb dX6_refusalOfPairs_54 rfl (lv_at hl 0 rfl) ?_
        refine g_6_14_0 C hS dX6_refusalOfPairs_55 ?_
        refine lv_iload_n hx hb dX6_refusalOfPairs_58 rfl (lv_at hl 1 rfl) ?_
        refine lv_iload hx hb dX6_refusalOfPairs_59 (lv_at hl 3 rfl) ?_
        refine lv_iconst (v := 1) hx hb dX6_refusalOfPairs_61 (by decide) ?_
        refine lv_iadd hx hb dX6_refusalOfPairs_62 ?_
        obtain ⟨o63, e63, hm⟩ := ob hm
        refine after_i C hS (call_V (As := [.int x1, .int (x4 + 1)]) C hS (c_X3_get_r l d q σ x1 (x4 + 1) o63 e63 _) iv_6_81 ⟨rfl, rfl, Nat.le_of_ble_eq_true rfl, Nat.le_of_ble_eq_true rfl⟩ cw_o1 rfl rfl rfl hl.1 (Nat.le_of_ble_eq_true rfl) dX6_refusalOfPairs_63) (fun H locs hS => ?_)
        refine lv_istore (lv' := [(5, .int o63), (0, .ref (q 0)), (1, .int x1), (3, .int x3), (4, .int x4)]) hx hb dX6_refusalOfPairs_66 hl (by decide) rfl (fun ls hl => ?_)
        refine lv_aload_n hx hb dX6_refusalOfPairs_68 rfl (lv_at hl 1 rfl) ?_
        refine g_6_33_0 C hS dX6_refusalOfPairs_69 ?_
        refine lv_aload_n hx hb dX6_refusalOfPairs_72 rfl (lv_at hl 1 rfl) ?_
        refine g_6_14_0 C hS dX6_refusalOfPairs_73 ?_
        refine lv_iload_n hx hb dX6_refusalOfPairs_76 rfl (lv_at hl 2 rfl) ?_
        refine lv_iload hx hb dX6_refusalOfPairs_77 (lv_at hl 4 rfl) ?_
        obtain ⟨o79, e79, hm⟩ := ob hm
        refine after_i C hS (call_V (As := [.int x1, .int x4]) C hS (c_X3_get_r l d q σ x1 x4 o79 e79 _) iv_6_81 ⟨rfl, rfl, Nat.le_of_ble_eq_true rfl, Nat.le_of_ble_eq_true rfl⟩ cw_o1 rfl rfl rfl hl.1 (Nat.le_of_ble_eq_true rfl) dX6_refusalOfPairs_79) (fun H locs hS => ?_)
        obtain ⟨o82, e82, hm⟩ := ob hm
        refine after_i C hS (call_V (As := [.int o79]) C hS (c_X5_isSet l d q σ o79 o82 e82 _) iv_6_197 ⟨rfl, rfl, Nat.le_of_ble_eq_true rfl, Nat.le_of_ble_eq_true rfl⟩ cw_o22 rfl rfl rfl hl.1 (Nat.le_of_ble_eq_true rfl) dX6_refusalOfPairs_82) (fun H locs hS => ?_)
        refine lv_if_eq (tgt := 99) hx hb dX6_refusalOfPairs_85 (by decide) (fun c85 => ?_) (fun c85 => ?_)
        · replace hm := it c85 hm
          exact J99 σ _ _ _ hS (lv_sub hl [1] rfl) hm
        · replace hm := ie c85 hm
          refine lv_iload hx hb dX6_refusalOfPairs_88 (lv_at hl 0 rfl) ?_
          refine lv_if_lt (tgt := 99) hx hb dX6_refusalOfPairs_90 (by decide) (fun c90 => ?_) (fun c90 => ?_)
          · replace hm := it c90 hm
            exact J99 σ _ _ _ hS (lv_sub hl [1] rfl) hm
          · replace hm := ie c90 hm
            refine lv_iload hx hb dX6_refusalOfPairs_93 (lv_at hl 0 rfl) ?_
            refine lv_iconst (v := 1) hx hb dX6_refusalOfPairs_95 (by decide) ?_
            refine lv_icmp_le (tgt := 105) hx hb dX6_refusalOfPairs_96 (by decide) (fun c96 => ?_) (fun c96 => ?_)
            · replace hm := it c96 hm
              refine lv_iinc (v := x4 + 2) (lv' := [(4, .int (x4 + 2)), (5, .int o63), (0, .ref (q 0)), (1, .int x1), (3, .int x3)]) hx hb dX6_refusalOfPairs_105 hl (k := 4) rfl rfl (by decide) rfl (fun ls hl => ?_)
              refine lv_goto (tgt := 46) hx hb dX6_refusalOfPairs_108 (by decide) ?_
              exact ih σ x1 x3 (x4 + 2) _ _ _ hS (lv_sub hl [2, 3, 4, 0] rfl) hm
            · replace hm := ie c96 hm
              exact J99 σ _ _ _ hS (lv_sub hl [1] rfl) hm
  have J37 : ∀ (σ : ST) (H : Heap) (locs : List Loc) (ls : Array Slot), HS d A s.heap H locs (cw q d σ) → lv_has ls 6 [(0, .ref (q 0))] → M_X6_refusalOfPairs_37 σ = some out → WI p l e rm_X6_refusalOfPairs s m [.ref (q 0), .int a1].toArray below meth c A d H locs out.1 (cw q d out.2) (F0 m 37 ls []) := by
    intro σ H locs ls hS hl hm
    unfold M_X6_refusalOfPairs_37 at hm
    refine lv_aload_n hx hb dX6_refusalOfPairs_37 rfl (lv_at hl 0 rfl) ?_
    refine lv_iconst (v := 5) hx hb dX6_refusalOfPairs_38 (by decide) ?_
    obtain ⟨o39, e39, hm⟩ := ob hm
    refine after_i C hS (call_V (As := [.int 5]) C hS (c_X6_refuse l d q σ 5 o39 e39 _) iv_6_100 ⟨rfl, rfl, Nat.le_of_ble_eq_true rfl, Nat.le_of_ble_eq_true rfl⟩ cw_o0 rfl rfl rfl hl.1 (Nat.le_of_ble_eq_true rfl) dX6_refusalOfPairs_39) (fun H locs hS => ?_)
    exact retIw (wf := cw q d) C hS hm dX6_refusalOfPairs_42
  unfold M_X6_refusalOfPairs at hm
  refine lv_aload_n hx hb dX6_refusalOfPairs_0 rfl (lv_at hl 0 rfl) ?_
  refine lv_aload_n hx hb dX6_refusalOfPairs_1 rfl (lv_at hl 0 rfl) ?_
  refine g_6_14_0 C hS dX6_refusalOfPairs_2 ?_
  refine lv_iload_n hx hb dX6_refusalOfPairs_5 rfl (lv_at hl 1 rfl) ?_
  obtain ⟨o6, e6, hm⟩ := ob hm
  refine after_i C hS (call_V (As := [.ref (q 1), .int a1]) C hS (c_X6_refusalOf_r l d q σ a1 o6 e6 _) iv_6_89 ⟨rfl, rfl, Nat.le_of_ble_eq_true rfl, Nat.le_of_ble_eq_true rfl⟩ cw_o0 rfl rfl rfl hl.1 (Nat.le_of_ble_eq_true rfl) dX6_refusalOfPairs_6) (fun H locs hS => ?_)
  refine lv_istore_n (lv' := [(2, .int o6.1), (0, .ref (q 0)), (1, .int a1)]) hx hb dX6_refusalOfPairs_9 rfl hl (by decide) rfl (fun ls hl => ?_)
  refine lv_iload_n hx hb dX6_refusalOfPairs_10 rfl (lv_at hl 0 rfl) ?_
  refine lv_if_eq (tgt := 16) hx hb dX6_refusalOfPairs_11 (by decide) (fun c11 => ?_) (fun c11 => ?_)
  · replace hm := it c11 hm
    refine lv_aload_n hx hb dX6_refusalOfPairs_16 rfl (lv_at hl 1 rfl) ?_
    refine g_6_14_0 C hS dX6_refusalOfPairs_17 ?_
    refine lv_iload_n hx hb dX6_refusalOfPairs_20 rfl (lv_at hl 2 rfl) ?_
    obtain ⟨o21, e21, hm⟩ := ob hm
    refine after_i C hS (call_V (As := [.int a1]) C hS (c_X3_sizeOf_r l d q o6.2 a1 o21 e21 _) iv_6_115 ⟨rfl, rfl, Nat.le_of_ble_eq_true rfl, Nat.le_of_ble_eq_true rfl⟩ cw_o1 rfl rfl rfl hl.1 (Nat.le_of_ble_eq_true rfl) dX6_refusalOfPairs_21) (fun H locs hS => ?_)
    refine lv_istore_n (lv' := [(3, .int o21), (2, .int o6.1), (0, .ref (q 0)), (1, .int a1)]) hx hb dX6_refusalOfPairs_24 rfl hl (by decide) rfl (fun ls hl => ?_)
    refine lv_iload_n hx hb dX6_refusalOfPairs_25 rfl (lv_at hl 0 rfl) ?_
    refine lv_iconst (v := 2) hx hb dX6_refusalOfPairs_26 (by decide) ?_
    refine lv_irem hx hb dX6_refusalOfPairs_27 (by decide) ?_
    refine lv_if_ne (tgt := 37) hx hb dX6_refusalOfPairs_28 (by decide) (fun c28 => ?_) (fun c28 => ?_)
    · replace hm := ie c28 hm
      exact J37 o6.2 _ _ _ hS (lv_sub hl [2] rfl) hm
    · replace hm := it c28 hm
      refine lv_iload_n hx hb dX6_refusalOfPairs_31 rfl (lv_at hl 0 rfl) ?_
      refine lv_bipush (v := 16) hx hb dX6_refusalOfPairs_32 (by decide) ?_
      refine lv_icmp_le (tgt := 43) hx hb dX6_refusalOfPairs_34 (by decide) (fun c34 => ?_) (fun c34 => ?_)
      · replace hm := it c34 hm
        refine lv_iconst (v := 0) hx hb dX6_refusalOfPairs_43 (by decide) ?_
        refine lv_istore (lv' := [(4, .int 0), (3, .int o21), (2, .int o6.1), (0, .ref (q 0)), (1, .int a1)]) hx hb dX6_refusalOfPairs_44 hl (by decide) rfl (fun ls hl => ?_)
        exact L46 10000 o6.2 a1 o21 0 _ _ _ hS (lv_sub hl [3, 4, 1, 0] rfl) hm
      · replace hm := ie c34 hm
        exact J37 o6.2 _ _ _ hS (lv_sub hl [2] rfl) hm
  · replace hm := ie c11 hm
    refine lv_iload_n hx hb dX6_refusalOfPairs_14 rfl (lv_at hl 0 rfl) ?_
    exact retIw (wf := cw q d) C hS hm dX6_refusalOfPairs_15
def M_X6_twice_17 : Nat → ST → Int32 → Int32 → Int32 → Option (Int32 × ST)
  | 0, _, _, _, _ => none
  | n + 1, σ, x1, x3, x4 => (M_X5_houses σ).bind fun o23 => if o23 ≤ x4 then some (x3, σ) else (M_X6_fitsDouble σ x1 x4).bind fun o33 => if o33 = 0 then M_X6_twice_17 n σ x1 x3 (x4 + 1) else M_X6_twice_17 n σ x1 (x3 ||| ((1 : Int32) <<< (x4 &&& 31))) (x4 + 1)
def M_X6_twice (σ : ST) (a1 : Int32) : Option (Int32 × ST) := (M_X6_refusalOfPairs σ a1).bind fun o2 => if o2.1 = 0 then M_X6_twice_17 10000 o2.2 a1 0 0 else some (o2.1, o2.2)
abbrev rm_X6_twice : Room := { frames := 5, cells := 0, slots := 0, locals := 111 }
set_option maxRecDepth 100000 in
set_option maxHeartbeats 4000000 in
theorem c_X6_twice (l : Launch) (d : CD) (q : Nat → Nat) (σ : ST) (a1 : Int32) (out : Int32 × ST) (hm : M_X6_twice σ a1 = some out) : MetI l yX6_twice cX6_twice 5 (some .int) rm_X6_twice d (cw q d σ) [.ref (q 0), .int a1] out.1 (cw q d out.2) := by
  refine mkI (own := RX6) (by decide +kernel) rfl (Nat.le_of_ble_eq_true rfl) ?_
  intro p e s m below meth c A ls C hS hl
  obtain ⟨hx, hb, hml, hown, hts, -⟩ := id C
  have hl : lv_has ls 5 [(0, .ref (q 0)), (1, .int a1)] := hl
  have L17 : ∀ (n : Nat) (σ : ST) (x1 : Int32) (x3 : Int32) (x4 : Int32) (H : Heap) (locs : List Loc) (ls : Array Slot), HS d A s.heap H locs (cw q d σ) → lv_has ls 5 [(0, .ref (q 0)), (1, .int x1), (3, .int x3), (4, .int x4)] → M_X6_twice_17 n σ x1 x3 x4 = some out → WI p l e rm_X6_twice s m [.ref (q 0), .int a1].toArray below meth c A d H locs out.1 (cw q d out.2) (F0 m 17 ls []) := by
    intro n
    induction n with
    | zero =>
      intro σ x1 x3 x4 H locs ls hS hl hm
      exact absurd hm (by rw [M_X6_twice_17]; exact fun h => nomatch h)
    | succ n ih =>
      intro σ x1 x3 x4 H locs ls hS hl hm
      rw [M_X6_twice_17] at hm
      refine lv_iload hx hb dX6_twice_17 (lv_at hl 3 rfl) ?_
      refine lv_aload_n hx hb dX6_twice_19 rfl (lv_at hl 0 rfl) ?_
      refine g_6_33_0 C hS dX6_twice_20 ?_
      obtain ⟨o23, e23, hm⟩ := ob hm
      refine after_i C hS (call_V (As := []) C hS (c_X5_houses l d q σ o23 e23 _) iv_6_140 ⟨rfl, rfl, Nat.le_of_ble_eq_true rfl, Nat.le_of_ble_eq_true rfl⟩ cw_o22 rfl rfl rfl hl.1 (Nat.le_of_ble_eq_true rfl) dX6_twice_23) (fun H locs hS => ?_)
      refine lv_icmp_ge (tgt := 52) hx hb dX6_twice_26 (by decide) (fun c26 => ?_) (fun c26 => ?_)
      · replace hm := it c26 hm
        refine lv_iload_n hx hb dX6_twice_52 rfl (lv_at hl 2 rfl) ?_
        exact retIw (wf := cw q d) C hS hm dX6_twice_53
      · replace hm := ie c26 hm
        refine lv_aload_n hx hb dX6_twice_29 rfl (lv_at hl 0 rfl) ?_
        refine lv_iload_n hx hb dX6_twice_30 rfl (lv_at hl 1 rfl) ?_
        refine lv_iload hx hb dX6_twice_31 (lv_at hl 3 rfl) ?_
        obtain ⟨o33, e33, hm⟩ := ob hm
        refine after_i C hS (call_V (As := [.int x1, .int x4]) C hS (c_X6_fitsDouble l d q σ x1 x4 o33 e33 _) iv_6_264 ⟨rfl, rfl, Nat.le_of_ble_eq_true rfl, Nat.le_of_ble_eq_true rfl⟩ cw_o0 rfl rfl rfl hl.1 (Nat.le_of_ble_eq_true rfl) dX6_twice_33) (fun H locs hS => ?_)
        refine lv_if_eq (tgt := 46) hx hb dX6_twice_36 (by decide) (fun c36 => ?_) (fun c36 => ?_)
        · replace hm := it c36 hm
          refine lv_iinc (v := x4 + 1) (lv' := [(4, .int (x4 + 1)), (0, .ref (q 0)), (1, .int x1), (3, .int x3)]) hx hb dX6_twice_46 hl (k := 3) rfl rfl (by decide) rfl (fun ls hl => ?_)
          refine lv_goto (tgt := 17) hx hb dX6_twice_49 (by decide) ?_
          exact ih σ x1 x3 (x4 + 1) _ _ _ hS (lv_sub hl [1, 2, 3, 0] rfl) hm
        · replace hm := ie c36 hm
          refine lv_iload_n hx hb dX6_twice_39 rfl (lv_at hl 2 rfl) ?_
          refine lv_iconst (v := 1) hx hb dX6_twice_40 (by decide) ?_
          refine lv_iload hx hb dX6_twice_41 (lv_at hl 3 rfl) ?_
          refine lv_ishl hx hb dX6_twice_43 ?_
          refine lv_ior hx hb dX6_twice_44 ?_
          refine lv_istore_n (lv' := [(3, .int (x3 ||| ((1 : Int32) <<< (x4 &&& 31)))), (0, .ref (q 0)), (1, .int x1), (4, .int x4)]) hx hb dX6_twice_45 rfl hl (by decide) rfl (fun ls hl => ?_)
          refine lv_iinc (v := x4 + 1) (lv' := [(4, .int (x4 + 1)), (3, .int (x3 ||| ((1 : Int32) <<< (x4 &&& 31)))), (0, .ref (q 0)), (1, .int x1)]) hx hb dX6_twice_46 hl (k := 3) rfl rfl (by decide) rfl (fun ls hl => ?_)
          refine lv_goto (tgt := 17) hx hb dX6_twice_49 (by decide) ?_
          exact ih σ x1 (x3 ||| ((1 : Int32) <<< (x4 &&& 31))) (x4 + 1) _ _ _ hS (lv_sub hl [2, 3, 1, 0] rfl) hm
  unfold M_X6_twice at hm
  refine lv_aload_n hx hb dX6_twice_0 rfl (lv_at hl 0 rfl) ?_
  refine lv_iload_n hx hb dX6_twice_1 rfl (lv_at hl 1 rfl) ?_
  obtain ⟨o2, e2, hm⟩ := ob hm
  refine after_i C hS (call_V (As := [.int a1]) C hS (c_X6_refusalOfPairs l d q σ a1 o2 e2 _) iv_6_261 ⟨rfl, rfl, Nat.le_of_ble_eq_true rfl, Nat.le_of_ble_eq_true rfl⟩ cw_o0 rfl rfl rfl hl.1 (Nat.le_of_ble_eq_true rfl) dX6_twice_2) (fun H locs hS => ?_)
  refine lv_istore_n (lv' := [(2, .int o2.1), (0, .ref (q 0)), (1, .int a1)]) hx hb dX6_twice_5 rfl hl (by decide) rfl (fun ls hl => ?_)
  refine lv_iload_n hx hb dX6_twice_6 rfl (lv_at hl 0 rfl) ?_
  refine lv_if_eq (tgt := 12) hx hb dX6_twice_7 (by decide) (fun c7 => ?_) (fun c7 => ?_)
  · replace hm := it c7 hm
    refine lv_iconst (v := 0) hx hb dX6_twice_12 (by decide) ?_
    refine lv_istore_n (lv' := [(3, .int 0), (2, .int o2.1), (0, .ref (q 0)), (1, .int a1)]) hx hb dX6_twice_13 rfl hl (by decide) rfl (fun ls hl => ?_)
    refine lv_iconst (v := 0) hx hb dX6_twice_14 (by decide) ?_
    refine lv_istore (lv' := [(4, .int 0), (3, .int 0), (2, .int o2.1), (0, .ref (q 0)), (1, .int a1)]) hx hb dX6_twice_15 hl (by decide) rfl (fun ls hl => ?_)
    exact L17 10000 o2.2 a1 0 0 _ _ _ hS (lv_sub hl [3, 4, 1, 0] rfl) hm
  · replace hm := ie c7 hm
    refine lv_iload_n hx hb dX6_twice_10 rfl (lv_at hl 0 rfl) ?_
    exact retIw (wf := cw q d) C hS hm dX6_twice_11
def M_X6_fitsNeed_66 (σ : ST) (k2 : Int32 → Int32 → Int32 → Option Int32) (x1 : Int32) (x2 : Int32) (x3 : Int32) (y0 : Int32) (y1 : Int32) : Option Int32 := if y0 = y1 then k2 x1 x2 (x3 + 2) else okZ 0
def M_X6_fitsNeed_2 (σ : ST) : Nat → Int32 → Int32 → Int32 → Option Int32
  | 0, _, _, _ => none
  | n + 1, x1, x2, x3 => (M_X3_sizeOf_r σ x1).bind fun o10 => if o10 ≤ (x3 + 1) then okZ 1 else (M_X3_get_r σ x1 x3).bind fun o22 => (M_X5_weightOf σ o22).bind fun o39 => (M_X5_wouldOpen σ o22 o39 x2).bind fun o43 => (M_X3_get_r σ x1 (x3 + 1)).bind fun o54 => if o54 = 1 then M_X6_fitsNeed_66 σ (M_X6_fitsNeed_2 σ n) x1 x2 x3 o43 1 else M_X6_fitsNeed_66 σ (M_X6_fitsNeed_2 σ n) x1 x2 x3 o43 0
def M_X6_fitsNeed (σ : ST) (a1 : Int32) (a2 : Int32) : Option Int32 := M_X6_fitsNeed_2 σ 10000 a1 a2 0
abbrev rm_X6_fitsNeed : Room := { frames := 4, cells := 0, slots := 0, locals := 86 }
set_option maxRecDepth 100000 in
set_option maxHeartbeats 4000000 in
theorem c_X6_fitsNeed (l : Launch) (d : CD) (q : Nat → Nat) (σ : ST) (a1 : Int32) (a2 : Int32) (out : Int32) (hm : M_X6_fitsNeed σ a1 a2 = some out) : MetI l yX6_fitsNeed cX6_fitsNeed 5 (some .boolean) rm_X6_fitsNeed d (cw q d σ) [.ref (q 0), .int a1, .int a2] out (cw q d σ) := by
  refine mkI (own := RX6) (by decide +kernel) rfl (Nat.le_of_ble_eq_true rfl) ?_
  intro p e s m below meth c A ls C hS hl
  obtain ⟨hx, hb, hml, hown, hts, -⟩ := id C
  have hl : lv_has ls 5 [(0, .ref (q 0)), (1, .int a1), (2, .int a2)] := hl
  have J66 : ∀ (k2 : Int32 → Int32 → Int32 → Option Int32) (hk2 : ∀ (x1 : Int32) (x2 : Int32) (x3 : Int32) (H : Heap) (locs : List Loc) (ls : Array Slot), HS d A s.heap H locs (cw q d σ) → lv_has ls 5 [(0, .ref (q 0)), (1, .int x1), (2, .int x2), (3, .int x3)] → k2 x1 x2 x3 = some out → WI p l e rm_X6_fitsNeed s m [.ref (q 0), .int a1, .int a2].toArray below meth c A d H locs out (cw q d σ) (F0 m 2 ls [])) (x1 : Int32) (x2 : Int32) (x3 : Int32) (y0 : Int32) (y1 : Int32) (H : Heap) (locs : List Loc) (ls : Array Slot), HS d A s.heap H locs (cw q d σ) → lv_has ls 5 [(0, .ref (q 0)), (1, .int x1), (2, .int x2), (3, .int x3)] → M_X6_fitsNeed_66 σ k2 x1 x2 x3 y0 y1 = some out → WI p l e rm_X6_fitsNeed s m [.ref (q 0), .int a1, .int a2].toArray below meth c A d H locs out (cw q d σ) (F0 m 66 ls [.int y1, .int y0]) := by
    intro k2 hk2 x1 x2 x3 y0 y1 H locs ls hS hl hm
    unfold M_X6_fitsNeed_66 at hm
    refine lv_icmp_eq (tgt := 71) hx hb dX6_fitsNeed_66 (by decide) (fun c66 => ?_) (fun c66 => ?_)
    · replace hm := it c66 hm
      refine lv_iinc (v := x3 + 2) (lv' := [(3, .int (x3 + 2)), (0, .ref (q 0)), (1, .int x1), (2, .int x2)]) hx hb dX6_fitsNeed_71 hl (k := 3) rfl rfl (by decide) rfl (fun ls hl => ?_)
      refine lv_goto (tgt := 2) hx hb dX6_fitsNeed_74 (by decide) ?_
      exact hk2 x1 x2 (x3 + 2) _ _ _ hS (lv_sub hl [1, 2, 3, 0] rfl) hm
    · replace hm := ie c66 hm
      refine lv_iconst (v := 0) hx hb dX6_fitsNeed_69 (by decide) ?_
      exact retZr C hS hm dX6_fitsNeed_70
  have L2 : ∀ (n : Nat) (x1 : Int32) (x2 : Int32) (x3 : Int32) (H : Heap) (locs : List Loc) (ls : Array Slot), HS d A s.heap H locs (cw q d σ) → lv_has ls 5 [(0, .ref (q 0)), (1, .int x1), (2, .int x2), (3, .int x3)] → M_X6_fitsNeed_2 σ n x1 x2 x3 = some out → WI p l e rm_X6_fitsNeed s m [.ref (q 0), .int a1, .int a2].toArray below meth c A d H locs out (cw q d σ) (F0 m 2 ls []) := by
    intro n
    induction n with
    | zero =>
      intro x1 x2 x3 H locs ls hS hl hm
      exact absurd hm (by rw [M_X6_fitsNeed_2]; exact fun h => nomatch h)
    | succ n ih =>
      intro x1 x2 x3 H locs ls hS hl hm
      rw [M_X6_fitsNeed_2] at hm
      refine lv_iload_n hx hb dX6_fitsNeed_2 rfl (lv_at hl 3 rfl) ?_
      refine lv_iconst (v := 1) hx hb dX6_fitsNeed_3 (by decide) ?_
      refine lv_iadd hx hb dX6_fitsNeed_4 ?_
      refine lv_aload_n hx hb dX6_fitsNeed_5 rfl (lv_at hl 0 rfl) ?_
      refine g_6_14_0 C hS dX6_fitsNeed_6 ?_
      refine lv_iload_n hx hb dX6_fitsNeed_9 rfl (lv_at hl 1 rfl) ?_
      obtain ⟨o10, e10, hm⟩ := ob hm
      refine after_i C hS (call_V (As := [.int x1]) C hS (c_X3_sizeOf_r l d q σ x1 o10 e10 _) iv_6_115 ⟨rfl, rfl, Nat.le_of_ble_eq_true rfl, Nat.le_of_ble_eq_true rfl⟩ cw_o1 rfl rfl rfl hl.1 (Nat.le_of_ble_eq_true rfl) dX6_fitsNeed_10) (fun H locs hS => ?_)
      refine lv_icmp_ge (tgt := 77) hx hb dX6_fitsNeed_13 (by decide) (fun c13 => ?_) (fun c13 => ?_)
      · replace hm := it c13 hm
        refine lv_iconst (v := 1) hx hb dX6_fitsNeed_77 (by decide) ?_
        exact retZr C hS hm dX6_fitsNeed_78
      · replace hm := ie c13 hm
        refine lv_aload_n hx hb dX6_fitsNeed_16 rfl (lv_at hl 0 rfl) ?_
        refine g_6_14_0 C hS dX6_fitsNeed_17 ?_
        refine lv_iload_n hx hb dX6_fitsNeed_20 rfl (lv_at hl 1 rfl) ?_
        refine lv_iload_n hx hb dX6_fitsNeed_21 rfl (lv_at hl 3 rfl) ?_
        obtain ⟨o22, e22, hm⟩ := ob hm
        refine after_i C hS (call_V (As := [.int x1, .int x3]) C hS (c_X3_get_r l d q σ x1 x3 o22 e22 _) iv_6_81 ⟨rfl, rfl, Nat.le_of_ble_eq_true rfl, Nat.le_of_ble_eq_true rfl⟩ cw_o1 rfl rfl rfl hl.1 (Nat.le_of_ble_eq_true rfl) dX6_fitsNeed_22) (fun H locs hS => ?_)
        refine lv_istore (lv' := [(4, .int o22), (0, .ref (q 0)), (1, .int x1), (2, .int x2), (3, .int x3)]) hx hb dX6_fitsNeed_25 hl (by decide) rfl (fun ls hl => ?_)
        refine lv_aload_n hx hb dX6_fitsNeed_27 rfl (lv_at hl 1 rfl) ?_
        refine g_6_33_0 C hS dX6_fitsNeed_28 ?_
        refine lv_iload hx hb dX6_fitsNeed_31 (lv_at hl 0 rfl) ?_
        refine lv_aload_n hx hb dX6_fitsNeed_33 rfl (lv_at hl 1 rfl) ?_
        refine g_6_33_0 C hS dX6_fitsNeed_34 ?_
        refine lv_iload hx hb dX6_fitsNeed_37 (lv_at hl 0 rfl) ?_
        obtain ⟨o39, e39, hm⟩ := ob hm
        refine after_i C hS (call_V (As := [.int o22]) C hS (c_X5_weightOf l d q σ o22 o39 e39 _) iv_6_200 ⟨rfl, rfl, Nat.le_of_ble_eq_true rfl, Nat.le_of_ble_eq_true rfl⟩ cw_o22 rfl rfl rfl hl.1 (Nat.le_of_ble_eq_true rfl) dX6_fitsNeed_39) (fun H locs hS => ?_)
        refine lv_iload_n hx hb dX6_fitsNeed_42 rfl (lv_at hl 3 rfl) ?_
        obtain ⟨o43, e43, hm⟩ := ob hm
        refine after_i C hS (call_V (As := [.int o22, .int o39, .int x2]) C hS (c_X5_wouldOpen l d q σ o22 o39 x2 o43 e43 _) iv_6_343 ⟨rfl, rfl, Nat.le_of_ble_eq_true rfl, Nat.le_of_ble_eq_true rfl⟩ cw_o22 rfl rfl rfl hl.1 (Nat.le_of_ble_eq_true rfl) dX6_fitsNeed_43) (fun H locs hS => ?_)
        refine lv_aload_n hx hb dX6_fitsNeed_46 rfl (lv_at hl 1 rfl) ?_
        refine g_6_14_0 C hS dX6_fitsNeed_47 ?_
        refine lv_iload_n hx hb dX6_fitsNeed_50 rfl (lv_at hl 2 rfl) ?_
        refine lv_iload_n hx hb dX6_fitsNeed_51 rfl (lv_at hl 4 rfl) ?_
        refine lv_iconst (v := 1) hx hb dX6_fitsNeed_52 (by decide) ?_
        refine lv_iadd hx hb dX6_fitsNeed_53 ?_
        obtain ⟨o54, e54, hm⟩ := ob hm
        refine after_i C hS (call_V (As := [.int x1, .int (x3 + 1)]) C hS (c_X3_get_r l d q σ x1 (x3 + 1) o54 e54 _) iv_6_81 ⟨rfl, rfl, Nat.le_of_ble_eq_true rfl, Nat.le_of_ble_eq_true rfl⟩ cw_o1 rfl rfl rfl hl.1 (Nat.le_of_ble_eq_true rfl) dX6_fitsNeed_54) (fun H locs hS => ?_)
        refine lv_iconst (v := 1) hx hb dX6_fitsNeed_57 (by decide) ?_
        refine lv_icmp_ne (tgt := 65) hx hb dX6_fitsNeed_58 (by decide) (fun c58 => ?_) (fun c58 => ?_)
        · replace hm := ie c58 hm
          refine lv_iconst (v := 0) hx hb dX6_fitsNeed_65 (by decide) ?_
          exact J66 (M_X6_fitsNeed_2 σ n) ih x1 x2 x3 o43 0 _ _ _ hS (lv_sub hl [1, 2, 3, 4] rfl) hm
        · replace hm := it c58 hm
          refine lv_iconst (v := 1) hx hb dX6_fitsNeed_61 (by decide) ?_
          refine lv_goto (tgt := 66) hx hb dX6_fitsNeed_62 (by decide) ?_
          exact J66 (M_X6_fitsNeed_2 σ n) ih x1 x2 x3 o43 1 _ _ _ hS (lv_sub hl [1, 2, 3, 4] rfl) hm
  unfold M_X6_fitsNeed at hm
  refine lv_iconst (v := 0) hx hb dX6_fitsNeed_0 (by decide) ?_
  refine lv_istore_n (lv' := [(3, .int 0), (0, .ref (q 0)), (1, .int a1), (2, .int a2)]) hx hb dX6_fitsNeed_1 rfl hl (by decide) rfl (fun ls hl => ?_)
  exact L2 10000 a1 a2 0 _ _ _ hS (lv_sub hl [1, 2, 3, 0] rfl) hm
def M_X6_quorum_17 : Nat → ST → Int32 → Int32 → Int32 → Option (Int32 × ST)
  | 0, _, _, _, _ => none
  | n + 1, σ, x1, x3, x4 => if 9 < x4 then some (x3, σ) else (M_X6_fitsNeed σ x1 x4).bind fun o28 => if o28 = 0 then M_X6_quorum_17 n σ x1 x3 (x4 + 1) else M_X6_quorum_17 n σ x1 (x3 ||| ((1 : Int32) <<< (x4 &&& 31))) (x4 + 1)
def M_X6_quorum (σ : ST) (a1 : Int32) : Option (Int32 × ST) := (M_X6_refusalOfPairs σ a1).bind fun o2 => if o2.1 = 0 then M_X6_quorum_17 10000 o2.2 a1 0 1 else some (o2.1, o2.2)
abbrev rm_X6_quorum : Room := { frames := 5, cells := 0, slots := 0, locals := 111 }
set_option maxRecDepth 100000 in
set_option maxHeartbeats 4000000 in
theorem c_X6_quorum (l : Launch) (d : CD) (q : Nat → Nat) (σ : ST) (a1 : Int32) (out : Int32 × ST) (hm : M_X6_quorum σ a1 = some out) : MetI l yX6_quorum cX6_quorum 5 (some .int) rm_X6_quorum d (cw q d σ) [.ref (q 0), .int a1] out.1 (cw q d out.2) := by
  refine mkI (own := RX6) (by decide +kernel) rfl (Nat.le_of_ble_eq_true rfl) ?_
  intro p e s m below meth c A ls C hS hl
  obtain ⟨hx, hb, hml, hown, hts, -⟩ := id C
  have hl : lv_has ls 5 [(0, .ref (q 0)), (1, .int a1)] := hl
  have L17 : ∀ (n : Nat) (σ : ST) (x1 : Int32) (x3 : Int32) (x4 : Int32) (H : Heap) (locs : List Loc) (ls : Array Slot), HS d A s.heap H locs (cw q d σ) → lv_has ls 5 [(0, .ref (q 0)), (1, .int x1), (3, .int x3), (4, .int x4)] → M_X6_quorum_17 n σ x1 x3 x4 = some out → WI p l e rm_X6_quorum s m [.ref (q 0), .int a1].toArray below meth c A d H locs out.1 (cw q d out.2) (F0 m 17 ls []) := by
    intro n
    induction n with
    | zero =>
      intro σ x1 x3 x4 H locs ls hS hl hm
      exact absurd hm (by rw [M_X6_quorum_17]; exact fun h => nomatch h)
    | succ n ih =>
      intro σ x1 x3 x4 H locs ls hS hl hm
      rw [M_X6_quorum_17] at hm
      refine lv_iload hx hb dX6_quorum_17 (lv_at hl 3 rfl) ?_
      refine lv_bipush (v := 9) hx hb dX6_quorum_19 (by decide) ?_
      refine lv_icmp_gt (tgt := 47) hx hb dX6_quorum_21 (by decide) (fun c21 => ?_) (fun c21 => ?_)
      · replace hm := it c21 hm
        refine lv_iload_n hx hb dX6_quorum_47 rfl (lv_at hl 2 rfl) ?_
        exact retIw (wf := cw q d) C hS hm dX6_quorum_48
      · replace hm := ie c21 hm
        refine lv_aload_n hx hb dX6_quorum_24 rfl (lv_at hl 0 rfl) ?_
        refine lv_iload_n hx hb dX6_quorum_25 rfl (lv_at hl 1 rfl) ?_
        refine lv_iload hx hb dX6_quorum_26 (lv_at hl 3 rfl) ?_
        obtain ⟨o28, e28, hm⟩ := ob hm
        refine after_i C hS (call_V (As := [.int x1, .int x4]) C hS (c_X6_fitsNeed l d q σ x1 x4 o28 e28 _) iv_6_267 ⟨rfl, rfl, Nat.le_of_ble_eq_true rfl, Nat.le_of_ble_eq_true rfl⟩ cw_o0 rfl rfl rfl hl.1 (Nat.le_of_ble_eq_true rfl) dX6_quorum_28) (fun H locs hS => ?_)
        refine lv_if_eq (tgt := 41) hx hb dX6_quorum_31 (by decide) (fun c31 => ?_) (fun c31 => ?_)
        · replace hm := it c31 hm
          refine lv_iinc (v := x4 + 1) (lv' := [(4, .int (x4 + 1)), (0, .ref (q 0)), (1, .int x1), (3, .int x3)]) hx hb dX6_quorum_41 hl (k := 3) rfl rfl (by decide) rfl (fun ls hl => ?_)
          refine lv_goto (tgt := 17) hx hb dX6_quorum_44 (by decide) ?_
          exact ih σ x1 x3 (x4 + 1) _ _ _ hS (lv_sub hl [1, 2, 3, 0] rfl) hm
        · replace hm := ie c31 hm
          refine lv_iload_n hx hb dX6_quorum_34 rfl (lv_at hl 2 rfl) ?_
          refine lv_iconst (v := 1) hx hb dX6_quorum_35 (by decide) ?_
          refine lv_iload hx hb dX6_quorum_36 (lv_at hl 3 rfl) ?_
          refine lv_ishl hx hb dX6_quorum_38 ?_
          refine lv_ior hx hb dX6_quorum_39 ?_
          refine lv_istore_n (lv' := [(3, .int (x3 ||| ((1 : Int32) <<< (x4 &&& 31)))), (0, .ref (q 0)), (1, .int x1), (4, .int x4)]) hx hb dX6_quorum_40 rfl hl (by decide) rfl (fun ls hl => ?_)
          refine lv_iinc (v := x4 + 1) (lv' := [(4, .int (x4 + 1)), (3, .int (x3 ||| ((1 : Int32) <<< (x4 &&& 31)))), (0, .ref (q 0)), (1, .int x1)]) hx hb dX6_quorum_41 hl (k := 3) rfl rfl (by decide) rfl (fun ls hl => ?_)
          refine lv_goto (tgt := 17) hx hb dX6_quorum_44 (by decide) ?_
          exact ih σ x1 (x3 ||| ((1 : Int32) <<< (x4 &&& 31))) (x4 + 1) _ _ _ hS (lv_sub hl [2, 3, 1, 0] rfl) hm
  unfold M_X6_quorum at hm
  refine lv_aload_n hx hb dX6_quorum_0 rfl (lv_at hl 0 rfl) ?_
  refine lv_iload_n hx hb dX6_quorum_1 rfl (lv_at hl 1 rfl) ?_
  obtain ⟨o2, e2, hm⟩ := ob hm
  refine after_i C hS (call_V (As := [.int a1]) C hS (c_X6_refusalOfPairs l d q σ a1 o2 e2 _) iv_6_261 ⟨rfl, rfl, Nat.le_of_ble_eq_true rfl, Nat.le_of_ble_eq_true rfl⟩ cw_o0 rfl rfl rfl hl.1 (Nat.le_of_ble_eq_true rfl) dX6_quorum_2) (fun H locs hS => ?_)
  refine lv_istore_n (lv' := [(2, .int o2.1), (0, .ref (q 0)), (1, .int a1)]) hx hb dX6_quorum_5 rfl hl (by decide) rfl (fun ls hl => ?_)
  refine lv_iload_n hx hb dX6_quorum_6 rfl (lv_at hl 0 rfl) ?_
  refine lv_if_eq (tgt := 12) hx hb dX6_quorum_7 (by decide) (fun c7 => ?_) (fun c7 => ?_)
  · replace hm := it c7 hm
    refine lv_iconst (v := 0) hx hb dX6_quorum_12 (by decide) ?_
    refine lv_istore_n (lv' := [(3, .int 0), (2, .int o2.1), (0, .ref (q 0)), (1, .int a1)]) hx hb dX6_quorum_13 rfl hl (by decide) rfl (fun ls hl => ?_)
    refine lv_iconst (v := 1) hx hb dX6_quorum_14 (by decide) ?_
    refine lv_istore (lv' := [(4, .int 1), (3, .int 0), (2, .int o2.1), (0, .ref (q 0)), (1, .int a1)]) hx hb dX6_quorum_15 hl (by decide) rfl (fun ls hl => ?_)
    exact L17 10000 o2.2 a1 0 1 _ _ _ hS (lv_sub hl [3, 4, 1, 0] rfl) hm
  · replace hm := ie c7 hm
    refine lv_iload_n hx hb dX6_quorum_10 rfl (lv_at hl 0 rfl) ?_
    exact retIw (wf := cw q d) C hS hm dX6_quorum_11
def M_X6_refusalOfChance (σ : ST) (a1 : Int32) : Option Int32 := if a1 < 0 then some (-1) else if a1 ≤ 12 then (M_X5_houses σ).bind fun o16 => if o16 = 0 then some (-4) else some 0 else some (-1)
abbrev rm_X6_refusalOfChance : Room := { frames := 1, cells := 0, slots := 0, locals := 20 }
set_option maxRecDepth 100000 in
set_option maxHeartbeats 4000000 in
theorem c_X6_refusalOfChance (l : Launch) (d : CD) (q : Nat → Nat) (σ : ST) (a1 : Int32) (out : Int32) (hm : M_X6_refusalOfChance σ a1 = some out) : MetI l yX6_refusalOfChance cX6_refusalOfChance 2 (some .int) rm_X6_refusalOfChance d (cw q d σ) [.ref (q 0), .int a1] out (cw q d σ) := by
  refine mkI (own := RX6) (by decide +kernel) rfl (Nat.le_of_ble_eq_true rfl) ?_
  intro p e s m below meth c A ls C hS hl
  obtain ⟨hx, hb, hml, hown, hts, -⟩ := id C
  have hl : lv_has ls 2 [(0, .ref (q 0)), (1, .int a1)] := hl
  unfold M_X6_refusalOfChance at hm
  refine lv_iload_n hx hb dX6_refusalOfChance_0 rfl (lv_at hl 1 rfl) ?_
  refine lv_if_lt (tgt := 10) hx hb dX6_refusalOfChance_1 (by decide) (fun c1 => ?_) (fun c1 => ?_)
  · replace hm := it c1 hm
    refine lv_iconst (v := (-1)) hx hb dX6_refusalOfChance_10 (by decide) ?_
    exact retIr C hS hm dX6_refusalOfChance_11
  · replace hm := ie c1 hm
    refine lv_iload_n hx hb dX6_refusalOfChance_4 rfl (lv_at hl 1 rfl) ?_
    refine lv_bipush (v := 12) hx hb dX6_refusalOfChance_5 (by decide) ?_
    refine lv_icmp_le (tgt := 12) hx hb dX6_refusalOfChance_7 (by decide) (fun c7 => ?_) (fun c7 => ?_)
    · replace hm := it c7 hm
      refine lv_aload_n hx hb dX6_refusalOfChance_12 rfl (lv_at hl 0 rfl) ?_
      refine g_6_33_0 C hS dX6_refusalOfChance_13 ?_
      obtain ⟨o16, e16, hm⟩ := ob hm
      refine after_i C hS (call_V (As := []) C hS (c_X5_houses l d q σ o16 e16 _) iv_6_140 ⟨rfl, rfl, Nat.le_of_ble_eq_true rfl, Nat.le_of_ble_eq_true rfl⟩ cw_o22 rfl rfl rfl hl.1 (Nat.le_of_ble_eq_true rfl) dX6_refusalOfChance_16) (fun H locs hS => ?_)
      refine lv_if_ne (tgt := 27) hx hb dX6_refusalOfChance_19 (by decide) (fun c19 => ?_) (fun c19 => ?_)
      · replace hm := ie c19 hm
        refine lv_iconst (v := 0) hx hb dX6_refusalOfChance_27 (by decide) ?_
        exact retIr C hS hm dX6_refusalOfChance_28
      · replace hm := it c19 hm
        refine lv_bipush (v := (-4)) hx hb dX6_refusalOfChance_22 (by decide) ?_
        refine lv_goto (tgt := 28) hx hb dX6_refusalOfChance_24 (by decide) ?_
        exact retIr C hS hm dX6_refusalOfChance_28
    · replace hm := ie c7 hm
      refine lv_iconst (v := (-1)) hx hb dX6_refusalOfChance_10 (by decide) ?_
      exact retIr C hS hm dX6_refusalOfChance_11
def M_X6_power_5 : Nat → Int32 → Int32 → Int64 → Int32 → Option Int64
  | 0, _, _, _, _ => none
  | n + 1, x0, x1, x2, x4 => if x1 ≤ x4 then some x2 else M_X6_power_5 n x0 x1 (x2 * x0.toInt64) (x4 + 1)
def M_X6_power (a0 : Int32) (a1 : Int32) : Option Int64 := M_X6_power_5 10000 a0 a1 1 0
abbrev rm_X6_power : Room := { frames := 0, cells := 0, slots := 0, locals := 0 }
set_option maxRecDepth 100000 in
set_option maxHeartbeats 4000000 in
theorem c_X6_power (l : Launch) (d : CD) (w : va_W) (a0 : Int32) (a1 : Int32) (out : Int64) (hm : M_X6_power a0 a1 = some out) : MetL l yX6_power cX6_power 5 (some .long) rm_X6_power d w [.int a0, .int a1] out w := by
  refine mkL (own := RX6) (by decide +kernel) rfl (Nat.le_of_ble_eq_true rfl) ?_
  intro p e s m below meth c A ls C hS hl
  obtain ⟨hx, hb, hml, hown, hts, -⟩ := id C
  have hl : lv_has ls 5 [(0, .int a0), (1, .int a1)] := hl
  have L5 : ∀ (n : Nat) (x0 : Int32) (x1 : Int32) (x2 : Int64) (x4 : Int32) (H : Heap) (locs : List Loc) (ls : Array Slot), HS d A s.heap H locs w → lv_has ls 5 [(0, .int x0), (1, .int x1), (2, .long x2), (4, .int x4)] → M_X6_power_5 n x0 x1 x2 x4 = some out → WL p l e rm_X6_power s m [.int a0, .int a1].toArray below meth c A d H locs out w (F0 m 5 ls []) := by
    intro n
    induction n with
    | zero =>
      intro x0 x1 x2 x4 H locs ls hS hl hm
      exact absurd hm (by rw [M_X6_power_5]; exact fun h => nomatch h)
    | succ n ih =>
      intro x0 x1 x2 x4 H locs ls hS hl hm
      rw [M_X6_power_5] at hm
      refine lv_iload hx hb dX6_power_5 (lv_at hl 3 rfl) ?_
      refine lv_iload_n hx hb dX6_power_7 rfl (lv_at hl 1 rfl) ?_
      refine lv_icmp_ge (tgt := 22) hx hb dX6_power_8 (by decide) (fun c8 => ?_) (fun c8 => ?_)
      · replace hm := it c8 hm
        refine lv_lload_n hx hb dX6_power_22 rfl (lv_at hl 2 rfl) ?_
        exact retLr C hS hm dX6_power_23
      · replace hm := ie c8 hm
        refine lv_lload_n hx hb dX6_power_11 rfl (lv_at hl 2 rfl) ?_
        refine lv_iload_n hx hb dX6_power_12 rfl (lv_at hl 0 rfl) ?_
        refine lv_i2l (v := x0.toInt64) hx hb dX6_power_13 rfl ?_
        refine lv_lmul hx hb dX6_power_14 ?_
        refine lv_lstore_n (lv' := [(2, .long (x2 * x0.toInt64)), (0, .int x0), (1, .int x1), (4, .int x4)]) hx hb dX6_power_15 rfl hl (by decide) rfl (fun ls hl => ?_)
        refine lv_iinc (v := x4 + 1) (lv' := [(4, .int (x4 + 1)), (2, .long (x2 * x0.toInt64)), (0, .int x0), (1, .int x1)]) hx hb dX6_power_16 hl (k := 3) rfl rfl (by decide) rfl (fun ls hl => ?_)
        refine lv_goto (tgt := 5) hx hb dX6_power_19 (by decide) ?_
        exact ih x0 x1 (x2 * x0.toInt64) (x4 + 1) _ _ _ hS (lv_sub hl [2, 3, 1, 0] rfl) hm
  unfold M_X6_power at hm
  refine lv_lconst (v := 1) hx hb dX6_power_0 (by decide) ?_
  refine lv_lstore_n (lv' := [(2, .long 1), (0, .int a0), (1, .int a1)]) hx hb dX6_power_1 rfl hl (by decide) rfl (fun ls hl => ?_)
  refine lv_iconst (v := 0) hx hb dX6_power_2 (by decide) ?_
  refine lv_istore (lv' := [(4, .int 0), (2, .long 1), (0, .int a0), (1, .int a1)]) hx hb dX6_power_3 hl (by decide) rfl (fun ls hl => ?_)
  exact L5 10000 a0 a1 1 0 _ _ _ hS (lv_sub hl [2, 3, 1, 0] rfl) hm
def M_X4_waysToCome (σ : ST) (a1 : Int32) (a2 : Int32) : Option Int64 := (M_J6_bitCount_0f7a4 a1).bind fun o1 => (M_X6_power a2 o1).bind fun o7 => (M_X5_houses σ).bind fun o18 => (M_X6_power (12 - a2) (o18 - o1)).bind fun o23 => some (o7 * o23)
abbrev rm_X4_waysToCome : Room := { frames := 1, cells := 0, slots := 0, locals := 24 }
set_option maxRecDepth 100000 in
set_option maxHeartbeats 4000000 in
theorem c_X4_waysToCome (l : Launch) (d : CD) (q : Nat → Nat) (σ : ST) (a1 : Int32) (a2 : Int32) (out : Int64) (hm : M_X4_waysToCome σ a1 a2 = some out) : MetL l yX4_waysToCome cX4_waysToCome 4 (some .long) rm_X4_waysToCome d (cw q d σ) [.ref (q 32), .int a1, .int a2] out (cw q d σ) := by
  refine mkL (own := RX4) (by decide +kernel) rfl (Nat.le_of_ble_eq_true rfl) ?_
  intro p e s m below meth c A ls C hS hl
  obtain ⟨hx, hb, hml, hown, hts, -⟩ := id C
  have hl : lv_has ls 4 [(0, .ref (q 32)), (1, .int a1), (2, .int a2)] := hl
  unfold M_X4_waysToCome at hm
  refine lv_iload_n hx hb dX4_waysToCome_0 rfl (lv_at hl 1 rfl) ?_
  obtain ⟨o1, e1, hm⟩ := ob hm
  refine after_i C hS (call_S (As := [.int a1]) C hS (c_J6_bitCount_0f7a4 l d (cw q d σ) a1 o1 e1 _) is_4_46 ⟨rfl, rfl, Nat.le_of_ble_eq_true rfl, Nat.le_of_ble_eq_true rfl⟩ rfl hl.1 (Nat.le_of_ble_eq_true rfl) dX4_waysToCome_1) (fun H locs hS => ?_)
  refine lv_istore_n (lv' := [(3, .int o1), (0, .ref (q 32)), (1, .int a1), (2, .int a2)]) hx hb dX4_waysToCome_4 rfl hl (by decide) rfl (fun ls hl => ?_)
  refine lv_iload_n hx hb dX4_waysToCome_5 rfl (lv_at hl 3 rfl) ?_
  refine lv_iload_n hx hb dX4_waysToCome_6 rfl (lv_at hl 0 rfl) ?_
  obtain ⟨o7, e7, hm⟩ := ob hm
  refine after_l C hS (call_N (As := [.int a2, .int o1]) C hS (c_X6_power l d (cw q d σ) a2 o1 o7 e7 _) is_4_77 ⟨rfl, rfl, Nat.le_of_ble_eq_true rfl, Nat.le_of_ble_eq_true rfl⟩ rfl hl.1 (Nat.le_of_ble_eq_true rfl) dX4_waysToCome_7) (fun H locs hS => ?_)
  refine lv_bipush (v := 12) hx hb dX4_waysToCome_10 (by decide) ?_
  refine lv_iload_n hx hb dX4_waysToCome_12 rfl (lv_at hl 3 rfl) ?_
  refine lv_isub hx hb dX4_waysToCome_13 ?_
  refine lv_aload_n hx hb dX4_waysToCome_14 rfl (lv_at hl 1 rfl) ?_
  refine g_4_19_32 C hS dX4_waysToCome_15 ?_
  obtain ⟨o18, e18, hm⟩ := ob hm
  refine after_i C hS (call_V (As := []) C hS (c_X5_houses l d q σ o18 e18 _) iv_4_70 ⟨rfl, rfl, Nat.le_of_ble_eq_true rfl, Nat.le_of_ble_eq_true rfl⟩ cw_o22 rfl rfl rfl hl.1 (Nat.le_of_ble_eq_true rfl) dX4_waysToCome_18) (fun H locs hS => ?_)
  refine lv_iload_n hx hb dX4_waysToCome_21 rfl (lv_at hl 0 rfl) ?_
  refine lv_isub hx hb dX4_waysToCome_22 ?_
  obtain ⟨o23, e23, hm⟩ := ob hm
  refine after_l C hS (call_N (As := [.int (12 - a2), .int (o18 - o1)]) C hS (c_X6_power l d (cw q d σ) (12 - a2) (o18 - o1) o23 e23 _) is_4_77 ⟨rfl, rfl, Nat.le_of_ble_eq_true rfl, Nat.le_of_ble_eq_true rfl⟩ rfl hl.1 (Nat.le_of_ble_eq_true rfl) dX4_waysToCome_23) (fun H locs hS => ?_)
  refine lv_lmul hx hb dX4_waysToCome_26 ?_
  exact retLr C hS hm dX4_waysToCome_27
def M_X4_waysToOpen_5 (σ : ST) : Nat → Int32 → Int64 → Int32 → Option Int64
  | 0, _, _, _ => none
  | n + 1, x1, x2, x4 => if (σ.1 38) ≤ x4 then some x2 else (rd 128 (σ.2.2 33) x4).bind fun v20 => if v20 = 0 then M_X4_waysToOpen_5 σ n x1 x2 (x4 + 1) else (M_X4_waysToCome σ x4 x1).bind fun o29 => M_X4_waysToOpen_5 σ n x1 (x2 + o29) (x4 + 1)
def M_X4_waysToOpen (σ : ST) (a1 : Int32) : Option Int64 := M_X4_waysToOpen_5 σ 10000 a1 0 0
abbrev rm_X4_waysToOpen : Room := { frames := 2, cells := 0, slots := 0, locals := 47 }
set_option maxRecDepth 100000 in
set_option maxHeartbeats 4000000 in
theorem c_X4_waysToOpen (l : Launch) (d : CD) (q : Nat → Nat) (σ : ST) (a1 : Int32) (out : Int64) (hm : M_X4_waysToOpen σ a1 = some out) : MetL l yX4_waysToOpen cX4_waysToOpen 5 (some .long) rm_X4_waysToOpen d (cw q d σ) [.ref (q 32), .int a1] out (cw q d σ) := by
  refine mkL (own := RX4) (by decide +kernel) rfl (Nat.le_of_ble_eq_true rfl) ?_
  intro p e s m below meth c A ls C hS hl
  obtain ⟨hx, hb, hml, hown, hts, -⟩ := id C
  have hl : lv_has ls 5 [(0, .ref (q 32)), (1, .int a1)] := hl
  have L5 : ∀ (n : Nat) (x1 : Int32) (x2 : Int64) (x4 : Int32) (H : Heap) (locs : List Loc) (ls : Array Slot), HS d A s.heap H locs (cw q d σ) → lv_has ls 5 [(0, .ref (q 32)), (1, .int x1), (2, .long x2), (4, .int x4)] → M_X4_waysToOpen_5 σ n x1 x2 x4 = some out → WL p l e rm_X4_waysToOpen s m [.ref (q 32), .int a1].toArray below meth c A d H locs out (cw q d σ) (F0 m 5 ls []) := by
    intro n
    induction n with
    | zero =>
      intro x1 x2 x4 H locs ls hS hl hm
      exact absurd hm (by rw [M_X4_waysToOpen_5]; exact fun h => nomatch h)
    | succ n ih =>
      intro x1 x2 x4 H locs ls hS hl hm
      rw [M_X4_waysToOpen_5] at hm
      refine lv_iload hx hb dX4_waysToOpen_5 (lv_at hl 3 rfl) ?_
      refine lv_aload_n hx hb dX4_waysToOpen_7 rfl (lv_at hl 0 rfl) ?_
      refine g_4_35_32 C hS dX4_waysToOpen_8 ?_
      refine lv_icmp_ge (tgt := 40) hx hb dX4_waysToOpen_11 (by decide) (fun c11 => ?_) (fun c11 => ?_)
      · replace hm := it c11 hm
        refine lv_lload_n hx hb dX4_waysToOpen_40 rfl (lv_at hl 2 rfl) ?_
        exact retLr C hS hm dX4_waysToOpen_41
      · replace hm := ie c11 hm
        refine lv_aload_n hx hb dX4_waysToOpen_14 rfl (lv_at hl 0 rfl) ?_
        refine g_4_9_32 C hS dX4_waysToOpen_15 ?_
        refine lv_iload hx hb dX4_waysToOpen_18 (lv_at hl 3 rfl) ?_
        obtain ⟨v20, e20, hm⟩ := ob hm
        refine zald' C hS cw_a33 e20 dX4_waysToOpen_20 ?_
        refine lv_if_eq (tgt := 34) hx hb dX4_waysToOpen_21 (by decide) (fun c21 => ?_) (fun c21 => ?_)
        · replace hm := it c21 hm
          refine lv_iinc (v := x4 + 1) (lv' := [(4, .int (x4 + 1)), (0, .ref (q 32)), (1, .int x1), (2, .long x2)]) hx hb dX4_waysToOpen_34 hl (k := 3) rfl rfl (by decide) rfl (fun ls hl => ?_)
          refine lv_goto (tgt := 5) hx hb dX4_waysToOpen_37 (by decide) ?_
          exact ih x1 x2 (x4 + 1) _ _ _ hS (lv_sub hl [1, 2, 3, 0] rfl) hm
        · replace hm := ie c21 hm
          refine lv_lload_n hx hb dX4_waysToOpen_24 rfl (lv_at hl 2 rfl) ?_
          refine lv_aload_n hx hb dX4_waysToOpen_25 rfl (lv_at hl 0 rfl) ?_
          refine lv_iload hx hb dX4_waysToOpen_26 (lv_at hl 3 rfl) ?_
          refine lv_iload_n hx hb dX4_waysToOpen_28 rfl (lv_at hl 1 rfl) ?_
          obtain ⟨o29, e29, hm⟩ := ob hm
          refine after_l C hS (call_V (As := [.int x4, .int x1]) C hS (c_X4_waysToCome l d q σ x4 x1 o29 e29 _) iv_4_81 ⟨rfl, rfl, Nat.le_of_ble_eq_true rfl, Nat.le_of_ble_eq_true rfl⟩ cw_o32 rfl rfl rfl hl.1 (Nat.le_of_ble_eq_true rfl) dX4_waysToOpen_29) (fun H locs hS => ?_)
          refine lv_ladd hx hb dX4_waysToOpen_32 ?_
          refine lv_lstore_n (lv' := [(2, .long (x2 + o29)), (0, .ref (q 32)), (1, .int x1), (4, .int x4)]) hx hb dX4_waysToOpen_33 rfl hl (by decide) rfl (fun ls hl => ?_)
          refine lv_iinc (v := x4 + 1) (lv' := [(4, .int (x4 + 1)), (2, .long (x2 + o29)), (0, .ref (q 32)), (1, .int x1)]) hx hb dX4_waysToOpen_34 hl (k := 3) rfl rfl (by decide) rfl (fun ls hl => ?_)
          refine lv_goto (tgt := 5) hx hb dX4_waysToOpen_37 (by decide) ?_
          exact ih x1 (x2 + o29) (x4 + 1) _ _ _ hS (lv_sub hl [2, 3, 1, 0] rfl) hm
  unfold M_X4_waysToOpen at hm
  refine lv_lconst (v := 0) hx hb dX4_waysToOpen_0 (by decide) ?_
  refine lv_lstore_n (lv' := [(2, .long 0), (0, .ref (q 32)), (1, .int a1)]) hx hb dX4_waysToOpen_1 rfl hl (by decide) rfl (fun ls hl => ?_)
  refine lv_iconst (v := 0) hx hb dX4_waysToOpen_2 (by decide) ?_
  refine lv_istore (lv' := [(4, .int 0), (2, .long 0), (0, .ref (q 32)), (1, .int a1)]) hx hb dX4_waysToOpen_3 hl (by decide) rfl (fun ls hl => ?_)
  exact L5 10000 a1 0 0 _ _ _ hS (lv_sub hl [2, 3, 1, 0] rfl) hm
