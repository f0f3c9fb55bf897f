def M_X7_tellParts_6 : Nat → ST → Int64 → Int64 → Int64 → Int64 → Option (Int32 × ST)
  | 0, _, _, _, _, _ => none
  | n + 1, σ, x1, x3, x5, x7 => if (lg_cmp x7 0) = 0 then (dvL x1 x5).bind fun v35 => (some (setL σ 13 (v35))).bind fun σ36 => (dvL x3 x5).bind fun v43 => (some (setL σ36 14 (v43))).bind fun σ44 => some (1, σ44) else (rmL x5 x7).bind fun v17 => M_X7_tellParts_6 n σ x1 x3 x7 v17
def M_X7_tellParts (σ : ST) (a1 : Int64) (a3 : Int64) : Option (Int32 × ST) := M_X7_tellParts_6 10000 σ a1 a3 a1 a3
abbrev rm_X7_tellParts : Room := { frames := 0, cells := 0, slots := 0, locals := 0 }
set_option maxRecDepth 100000 in
set_option maxHeartbeats 4000000 in
theorem c_X7_tellParts (l : Launch) (d : CD) (q : Nat → Nat) (σ : ST) (a1 : Int64) (a3 : Int64) (out : Int32 × ST) (hm : M_X7_tellParts σ a1 a3 = some out) : MetI l yX7_tellParts cX7_tellParts 11 (some .int) rm_X7_tellParts d (mw q d σ) [.ref (q 0), .long a1, .long a3] out.1 (mw q d out.2) := by
  refine mkI (own := RX7) (by decide +kernel) rfl (Nat.le_of_ble_eq_true rfl) ?_
  intro p e s m below meth c A ls C hS hl
  obtain ⟨hx, hb, hml, hown, hts, -⟩ := id C
  have hl : lv_has ls 11 [(0, .ref (q 0)), (1, .long a1), (3, .long a3)] := hl
  have L6 : ∀ (n : Nat) (σ : ST) (x1 : Int64) (x3 : Int64) (x5 : Int64) (x7 : Int64) (H : Heap) (locs : List Loc) (ls : Array Slot), HS d A s.heap H locs (mw q d σ) → lv_has ls 11 [(0, .ref (q 0)), (1, .long x1), (3, .long x3), (5, .long x5), (7, .long x7)] → M_X7_tellParts_6 n σ x1 x3 x5 x7 = some out → WI p l e rm_X7_tellParts s m [.ref (q 0), .long a1, .long a3].toArray below meth c A d H locs out.1 (mw q d out.2) (F0 m 6 ls []) := by
    intro n
    induction n with
    | zero =>
      intro σ x1 x3 x5 x7 H locs ls hS hl hm
      exact absurd hm (by rw [M_X7_tellParts_6]; exact fun h => nomatch h)
    | succ n ih =>
      intro σ x1 x3 x5 x7 H locs ls hS hl hm
      rw [M_X7_tellParts_6] at hm
      refine lv_lload hx hb dX7_tellParts_6 (lv_at hl 4 rfl) ?_
      refine lv_lconst (v := 0) hx hb dX7_tellParts_8 (by decide) ?_
      refine W.lcmp hx hb dX7_tellParts_9 ?_
      refine lv_if_eq (tgt := 31) hx hb dX7_tellParts_10 (by decide) (fun c10 => ?_) (fun c10 => ?_)
      · replace hm := it c10 hm
        refine lv_aload_n hx hb dX7_tellParts_31 rfl (lv_at hl 0 rfl) ?_
        refine lv_lload_n hx hb dX7_tellParts_32 rfl (lv_at hl 1 rfl) ?_
        refine lv_lload hx hb dX7_tellParts_33 (lv_at hl 3 rfl) ?_
        obtain ⟨v35, e35, hm⟩ := ob hm
        refine ldiv' C e35 dX7_tellParts_35 ?_
        obtain ⟨σ36, e36, hm⟩ := ob hm
        refine p_7_222_0 C hS e36 dX7_tellParts_36 (fun H locs hS => ?_)
        refine lv_aload_n hx hb dX7_tellParts_39 rfl (lv_at hl 0 rfl) ?_
        refine lv_lload_n hx hb dX7_tellParts_40 rfl (lv_at hl 2 rfl) ?_
        refine lv_lload hx hb dX7_tellParts_41 (lv_at hl 3 rfl) ?_
        obtain ⟨v43, e43, hm⟩ := ob hm
        refine ldiv' C e43 dX7_tellParts_43 ?_
        obtain ⟨σ44, e44, hm⟩ := ob hm
        refine p_7_34_0 C hS e44 dX7_tellParts_44 (fun H locs hS => ?_)
        refine lv_iconst (v := 1) hx hb dX7_tellParts_47 (by decide) ?_
        exact retIw (wf := mw q d) C hS hm dX7_tellParts_48
      · replace hm := ie c10 hm
        refine lv_lload hx hb dX7_tellParts_13 (lv_at hl 3 rfl) ?_
        refine lv_lload hx hb dX7_tellParts_15 (lv_at hl 4 rfl) ?_
        obtain ⟨v17, e17, hm⟩ := ob hm
        refine lrem' C e17 dX7_tellParts_17 ?_
        refine lv_lstore (lv' := [(9, .long v17), (0, .ref (q 0)), (1, .long x1), (3, .long x3), (5, .long x5), (7, .long x7)]) hx hb dX7_tellParts_18 hl (by decide) rfl (fun ls hl => ?_)
        refine lv_lload hx hb dX7_tellParts_20 (lv_at hl 5 rfl) ?_
        refine lv_lstore (lv' := [(5, .long x7), (9, .long v17), (0, .ref (q 0)), (1, .long x1), (3, .long x3), (7, .long x7)]) hx hb dX7_tellParts_22 hl (by decide) rfl (fun ls hl => ?_)
        refine lv_lload hx hb dX7_tellParts_24 (lv_at hl 1 rfl) ?_
        refine lv_lstore (lv' := [(7, .long v17), (5, .long x7), (9, .long v17), (0, .ref (q 0)), (1, .long x1), (3, .long x3)]) hx hb dX7_tellParts_26 hl (by decide) rfl (fun ls hl => ?_)
        refine lv_goto (tgt := 6) hx hb dX7_tellParts_28 (by decide) ?_
        exact ih σ x1 x3 x7 v17 _ _ _ hS (lv_sub hl [3, 4, 5, 1, 0] rfl) hm
  unfold M_X7_tellParts at hm
  refine lv_lload_n hx hb dX7_tellParts_0 rfl (lv_at hl 1 rfl) ?_
  refine lv_lstore (lv' := [(5, .long a1), (0, .ref (q 0)), (1, .long a1), (3, .long a3)]) hx hb dX7_tellParts_1 hl (by decide) rfl (fun ls hl => ?_)
  refine lv_lload_n hx hb dX7_tellParts_3 rfl (lv_at hl 3 rfl) ?_
  refine lv_lstore (lv' := [(7, .long a3), (5, .long a1), (0, .ref (q 0)), (1, .long a1), (3, .long a3)]) hx hb dX7_tellParts_4 hl (by decide) rfl (fun ls hl => ?_)
  exact L6 10000 σ a1 a3 a1 a3 _ _ _ hS (lv_sub hl [2, 3, 4, 1, 0] rfl) hm
def M_X7_part_106 (k15 : ST → Int32 → Int64 → Int32 → Option (Int32 × ST)) (σ : ST) (x1 : Int32) (x4 : Int32) (y0 : Int64) (y1 : Int64) : Option (Int32 × ST) := k15 σ x1 (y0 + y1) (x4 + 1)
def M_X7_part_68 (k15 : ST → Int32 → Int64 → Int32 → Option (Int32 × ST)) (σ : ST) (x1 : Int32) (x2 : Int64) (x4 : Int32) (y0 : Int32) : Option (Int32 × ST) := if y0 = 0 then M_X7_part_106 k15 σ x1 x4 x2 0 else (M_X7_bits x4).bind fun o78 => (M_X7_orders o78).bind fun o81 => (M_X7_bits x4).bind fun o93 => (M_X7_orders (((σ.1 3) - 1) - o93)).bind fun o97 => M_X7_part_106 k15 σ x1 x4 x2 (o81.toInt64 * o97.toInt64)
def M_X7_part_67 (k15 : ST → Int32 → Int64 → Int32 → Option (Int32 × ST)) (σ : ST) (x1 : Int32) (x2 : Int64) (x4 : Int32) : Option (Int32 × ST) := M_X7_part_68 k15 σ x1 x2 x4 0
def M_X7_part_15 : Nat → ST → Int32 → Int64 → Int32 → Option (Int32 × ST)
  | 0, _, _, _, _ => none
  | n + 1, σ, x1, x2, x4 => (M_X7_all σ).bind fun o18 => if o18 < x4 then (M_X7_orders (σ.1 3)).bind fun o120 => (M_X7_tellParts σ x2 o120.toInt64).bind fun o124 => some (o124.1, o124.2) else (M_X7_has x4 x1).bind fun o27 => if o27 = 0 then (M_X7_weightOf σ x4).bind fun o36 => if (σ.1 1) ≤ o36 then M_X7_part_67 (M_X7_part_15 n) σ x1 x2 x4 else (M_X7_weightOf σ (x4 ||| ((1 : Int32) <<< (x1 &&& 31)))).bind fun o53 => if o53 < (σ.1 1) then M_X7_part_67 (M_X7_part_15 n) σ x1 x2 x4 else M_X7_part_68 (M_X7_part_15 n) σ x1 x2 x4 1 else M_X7_part_67 (M_X7_part_15 n) σ x1 x2 x4
def M_X7_part (σ : ST) (a1 : Int32) : Option (Int32 × ST) := (M_X7_isHouse σ a1).bind fun o2 => if o2 = 0 then some ((-1), σ) else M_X7_part_15 10000 σ a1 0 0
abbrev rm_X7_part : Room := { frames := 2, cells := 0, slots := 0, locals := 46 }
set_option maxRecDepth 100000 in
set_option maxHeartbeats 4000000 in
theorem c_X7_part (l : Launch) (d : CD) (q : Nat → Nat) (σ : ST) (a1 : Int32) (out : Int32 × ST) (hm : M_X7_part σ a1 = some out) : MetI l yX7_part cX7_part 6 (some .int) rm_X7_part d (mw q d σ) [.ref (q 0), .int a1] out.1 (mw q d out.2) := by
  refine mkI (own := RX7) (by decide +kernel) rfl (Nat.le_of_ble_eq_true rfl) ?_
  intro p e s m below meth c A ls C hS hl
  obtain ⟨hx, hb, hml, hown, hts, -⟩ := id C
  have hl : lv_has ls 6 [(0, .ref (q 0)), (1, .int a1)] := hl
  have J106 : ∀ (k15 : ST → Int32 → Int64 → Int32 → Option (Int32 × ST)) (hk15 : ∀ (σ : ST) (x1 : Int32) (x2 : Int64) (x4 : Int32) (H : Heap) (locs : List Loc) (ls : Array Slot), HS d A s.heap H locs (mw q d σ) → lv_has ls 6 [(0, .ref (q 0)), (1, .int x1), (2, .long x2), (4, .int x4)] → k15 σ x1 x2 x4 = some out → WI p l e rm_X7_part s m [.ref (q 0), .int a1].toArray below meth c A d H locs out.1 (mw q d out.2) (F0 m 15 ls [])) (σ : ST) (x1 : Int32) (x4 : Int32) (y0 : Int64) (y1 : Int64) (H : Heap) (locs : List Loc) (ls : Array Slot), HS d A s.heap H locs (mw q d σ) → lv_has ls 6 [(0, .ref (q 0)), (1, .int x1), (4, .int x4)] → M_X7_part_106 k15 σ x1 x4 y0 y1 = some out → WI p l e rm_X7_part s m [.ref (q 0), .int a1].toArray below meth c A d H locs out.1 (mw q d out.2) (F0 m 106 ls [.long y1, .long y0]) := by
    intro k15 hk15 σ x1 x4 y0 y1 H locs ls hS hl hm
    unfold M_X7_part_106 at hm
    refine lv_ladd hx hb dX7_part_106 ?_
    refine lv_lstore_n (lv' := [(2, .long (y0 + y1)), (0, .ref (q 0)), (1, .int x1), (4, .int x4)]) hx hb dX7_part_107 rfl hl (by decide) rfl (fun ls hl => ?_)
    refine lv_iinc (v := x4 + 1) (lv' := [(4, .int (x4 + 1)), (2, .long (y0 + y1)), (0, .ref (q 0)), (1, .int x1)]) hx hb dX7_part_108 hl (k := 3) rfl rfl (by decide) rfl (fun ls hl => ?_)
    refine lv_goto (tgt := 15) hx hb dX7_part_111 (by decide) ?_
    exact hk15 σ x1 (y0 + y1) (x4 + 1) _ _ _ hS (lv_sub hl [2, 3, 1, 0] rfl) hm
  have J68 : ∀ (k15 : ST → Int32 → Int64 → Int32 → Option (Int32 × ST)) (hk15 : ∀ (σ : ST) (x1 : Int32) (x2 : Int64) (x4 : Int32) (H : Heap) (locs : List Loc) (ls : Array Slot), HS d A s.heap H locs (mw q d σ) → lv_has ls 6 [(0, .ref (q 0)), (1, .int x1), (2, .long x2), (4, .int x4)] → k15 σ x1 x2 x4 = some out → WI p l e rm_X7_part s m [.ref (q 0), .int a1].toArray below meth c A d H locs out.1 (mw q d out.2) (F0 m 15 ls [])) (σ : ST) (x1 : Int32) (x2 : Int64) (x4 : Int32) (y0 : Int32) (H : Heap) (locs : List Loc) (ls : Array Slot), HS d A s.heap H locs (mw q d σ) → lv_has ls 6 [(0, .ref (q 0)), (1, .int x1), (2, .long x2), (4, .int x4)] → M_X7_part_68 k15 σ x1 x2 x4 y0 = some out → WI p l e rm_X7_part s m [.ref (q 0), .int a1].toArray below meth c A d H locs out.1 (mw q d out.2) (F0 m 68 ls [.int y0]) := by
    intro k15 hk15 σ x1 x2 x4 y0 H locs ls hS hl hm
    unfold M_X7_part_68 at hm
    refine lv_istore (lv' := [(5, .int y0), (0, .ref (q 0)), (1, .int x1), (2, .long x2), (4, .int x4)]) hx hb dX7_part_68 hl (by decide) rfl (fun ls hl => ?_)
    refine lv_lload_n hx hb dX7_part_70 rfl (lv_at hl 3 rfl) ?_
    refine lv_iload hx hb dX7_part_71 (lv_at hl 0 rfl) ?_
    refine lv_if_eq (tgt := 105) hx hb dX7_part_73 (by decide) (fun c73 => ?_) (fun c73 => ?_)
    · replace hm := it c73 hm
      refine lv_lconst (v := 0) hx hb dX7_part_105 (by decide) ?_
      exact J106 k15 hk15 σ x1 x4 x2 0 _ _ _ hS (lv_sub hl [1, 2, 4] rfl) hm
    · replace hm := ie c73 hm
      refine lv_iload hx hb dX7_part_76 (lv_at hl 4 rfl) ?_
      obtain ⟨o78, e78, hm⟩ := ob hm
      refine after_i C hS (call_S (As := [.int x4]) C hS (c_X7_bits l d (mw q d σ) x4 o78 e78 _) is_7_225 ⟨rfl, rfl, Nat.le_of_ble_eq_true rfl, Nat.le_of_ble_eq_true rfl⟩ rfl hl.1 (Nat.le_of_ble_eq_true rfl) dX7_part_78) (fun H locs hS => ?_)
      obtain ⟨o81, e81, hm⟩ := ob hm
      refine after_i C hS (call_S (As := [.int o78]) C hS (c_X7_orders l d (mw q d σ) o78 o81 e81 _) is_7_232 ⟨rfl, rfl, Nat.le_of_ble_eq_true rfl, Nat.le_of_ble_eq_true rfl⟩ rfl hl.1 (Nat.le_of_ble_eq_true rfl) dX7_part_81) (fun H locs hS => ?_)
      refine lv_i2l (v := o81.toInt64) hx hb dX7_part_84 rfl ?_
      refine lv_aload_n hx hb dX7_part_85 rfl (lv_at hl 1 rfl) ?_
      refine g_7_158_0 C hS dX7_part_86 ?_
      refine lv_iconst (v := 1) hx hb dX7_part_89 (by decide) ?_
      refine lv_isub hx hb dX7_part_90 ?_
      refine lv_iload hx hb dX7_part_91 (lv_at hl 4 rfl) ?_
      obtain ⟨o93, e93, hm⟩ := ob hm
      refine after_i C hS (call_S (As := [.int x4]) C hS (c_X7_bits l d (mw q d σ) x4 o93 e93 _) is_7_225 ⟨rfl, rfl, Nat.le_of_ble_eq_true rfl, Nat.le_of_ble_eq_true rfl⟩ rfl hl.1 (Nat.le_of_ble_eq_true rfl) dX7_part_93) (fun H locs hS => ?_)
      refine lv_isub hx hb dX7_part_96 ?_
      obtain ⟨o97, e97, hm⟩ := ob hm
      refine after_i C hS (call_S (As := [.int (((σ.1 3) - 1) - o93)]) C hS (c_X7_orders l d (mw q d σ) (((σ.1 3) - 1) - o93) o97 e97 _) is_7_232 ⟨rfl, rfl, Nat.le_of_ble_eq_true rfl, Nat.le_of_ble_eq_true rfl⟩ rfl hl.1 (Nat.le_of_ble_eq_true rfl) dX7_part_97) (fun H locs hS => ?_)
      refine lv_i2l (v := o97.toInt64) hx hb dX7_part_100 rfl ?_
      refine lv_lmul hx hb dX7_part_101 ?_
      refine lv_goto (tgt := 106) hx hb dX7_part_102 (by decide) ?_
      exact J106 k15 hk15 σ x1 x4 x2 (o81.toInt64 * o97.toInt64) _ _ _ hS (lv_sub hl [1, 2, 4] rfl) hm
  have J67 : ∀ (k15 : ST → Int32 → Int64 → Int32 → Option (Int32 × ST)) (hk15 : ∀ (σ : ST) (x1 : Int32) (x2 : Int64) (x4 : Int32) (H : Heap) (locs : List Loc) (ls : Array Slot), HS d A s.heap H locs (mw q d σ) → lv_has ls 6 [(0, .ref (q 0)), (1, .int x1), (2, .long x2), (4, .int x4)] → k15 σ x1 x2 x4 = some out → WI p l e rm_X7_part s m [.ref (q 0), .int a1].toArray below meth c A d H locs out.1 (mw q d out.2) (F0 m 15 ls [])) (σ : ST) (x1 : Int32) (x2 : Int64) (x4 : Int32) (H : Heap) (locs : List Loc) (ls : Array Slot), HS d A s.heap H locs (mw q d σ) → lv_has ls 6 [(0, .ref (q 0)), (1, .int x1), (2, .long x2), (4, .int x4)] → M_X7_part_67 k15 σ x1 x2 x4 = some out → WI p l e rm_X7_part s m [.ref (q 0), .int a1].toArray below meth c A d H locs out.1 (mw q d out.2) (F0 m 67 ls []) := by
    intro k15 hk15 σ x1 x2 x4 H locs ls hS hl hm
    unfold M_X7_part_67 at hm
    refine lv_iconst (v := 0) hx hb dX7_part_67 (by decide) ?_
    exact J68 k15 hk15 σ x1 x2 x4 0 _ _ _ hS (lv_sub hl [0, 1, 2, 3] rfl) hm
  have L15 : ∀ (n : Nat) (σ : ST) (x1 : Int32) (x2 : Int64) (x4 : Int32) (H : Heap) (locs : List Loc) (ls : Array Slot), HS d A s.heap H locs (mw q d σ) → lv_has ls 6 [(0, .ref (q 0)), (1, .int x1), (2, .long x2), (4, .int x4)] → M_X7_part_15 n σ x1 x2 x4 = some out → WI p l e rm_X7_part s m [.ref (q 0), .int a1].toArray below meth c A d H locs out.1 (mw q d out.2) (F0 m 15 ls []) := by
    intro n
    induction n with
    | zero =>
      intro σ x1 x2 x4 H locs ls hS hl hm
      exact absurd hm (by rw [M_X7_part_15]; exact fun h => nomatch h)
    | succ n ih =>
      intro σ x1 x2 x4 H locs ls hS hl hm
      rw [M_X7_part_15] at hm
      refine lv_iload hx hb dX7_part_15 (lv_at hl 3 rfl) ?_
      refine lv_aload_n hx hb dX7_part_17 rfl (lv_at hl 0 rfl) ?_
      obtain ⟨o18, e18, hm⟩ := ob hm
      refine after_i C hS (call_V (As := []) C hS (c_X7_all l d q σ o18 e18 _) iv_7_164 ⟨rfl, rfl, Nat.le_of_ble_eq_true rfl, Nat.le_of_ble_eq_true rfl⟩ mw_o0 rfl rfl rfl hl.1 (Nat.le_of_ble_eq_true rfl) dX7_part_18) (fun H locs hS => ?_)
      refine lv_icmp_gt (tgt := 114) hx hb dX7_part_21 (by decide) (fun c21 => ?_) (fun c21 => ?_)
      · replace hm := it c21 hm
        refine lv_aload_n hx hb dX7_part_114 rfl (lv_at hl 0 rfl) ?_
        refine lv_lload_n hx hb dX7_part_115 rfl (lv_at hl 2 rfl) ?_
        refine lv_aload_n hx hb dX7_part_116 rfl (lv_at hl 0 rfl) ?_
        refine g_7_158_0 C hS dX7_part_117 ?_
        obtain ⟨o120, e120, hm⟩ := ob hm
        refine after_i C hS (call_S (As := [.int (σ.1 3)]) C hS (c_X7_orders l d (mw q d σ) (σ.1 3) o120 e120 _) is_7_232 ⟨rfl, rfl, Nat.le_of_ble_eq_true rfl, Nat.le_of_ble_eq_true rfl⟩ rfl hl.1 (Nat.le_of_ble_eq_true rfl) dX7_part_120) (fun H locs hS => ?_)
        refine lv_i2l (v := o120.toInt64) hx hb dX7_part_123 rfl ?_
        obtain ⟨o124, e124, hm⟩ := ob hm
        refine after_i C hS (call_V (As := [.long x2, .long o120.toInt64]) C hS (c_X7_tellParts l d q σ x2 o120.toInt64 o124 e124 _) iv_7_235 ⟨rfl, rfl, Nat.le_of_ble_eq_true rfl, Nat.le_of_ble_eq_true rfl⟩ mw_o0 rfl rfl rfl hl.1 (Nat.le_of_ble_eq_true rfl) dX7_part_124) (fun H locs hS => ?_)
        exact retIw (wf := mw q d) C hS hm dX7_part_127
      · replace hm := ie c21 hm
        refine lv_iload hx hb dX7_part_24 (lv_at hl 3 rfl) ?_
        refine lv_iload_n hx hb dX7_part_26 rfl (lv_at hl 1 rfl) ?_
        obtain ⟨o27, e27, hm⟩ := ob hm
        refine after_i C hS (call_S (As := [.int x4, .int x1]) C hS (c_X7_has l d (mw q d σ) x4 x1 o27 e27 _) is_7_135 ⟨rfl, rfl, Nat.le_of_ble_eq_true rfl, Nat.le_of_ble_eq_true rfl⟩ rfl hl.1 (Nat.le_of_ble_eq_true rfl) dX7_part_27) (fun H locs hS => ?_)
        refine lv_if_ne (tgt := 67) hx hb dX7_part_30 (by decide) (fun c30 => ?_) (fun c30 => ?_)
        · replace hm := ie c30 hm
          exact J67 (M_X7_part_15 n) ih σ x1 x2 x4 _ _ _ hS (lv_sub hl [0, 1, 2, 3] rfl) hm
        · replace hm := it c30 hm
          refine lv_aload_n hx hb dX7_part_33 rfl (lv_at hl 0 rfl) ?_
          refine lv_iload hx hb dX7_part_34 (lv_at hl 3 rfl) ?_
          obtain ⟨o36, e36, hm⟩ := ob hm
          refine after_i C hS (call_V (As := [.int x4]) C hS (c_X7_weightOf l d q σ x4 o36 e36 _) iv_7_170 ⟨rfl, rfl, Nat.le_of_ble_eq_true rfl, Nat.le_of_ble_eq_true rfl⟩ mw_o0 rfl rfl rfl hl.1 (Nat.le_of_ble_eq_true rfl) dX7_part_36) (fun H locs hS => ?_)
          refine lv_aload_n hx hb dX7_part_39 rfl (lv_at hl 0 rfl) ?_
          refine g_7_152_0 C hS dX7_part_40 ?_
          refine lv_icmp_ge (tgt := 67) hx hb dX7_part_43 (by decide) (fun c43 => ?_) (fun c43 => ?_)
          · replace hm := it c43 hm
            exact J67 (M_X7_part_15 n) ih σ x1 x2 x4 _ _ _ hS (lv_sub hl [0, 1, 2, 3] rfl) hm
          · replace hm := ie c43 hm
            refine lv_aload_n hx hb dX7_part_46 rfl (lv_at hl 0 rfl) ?_
            refine lv_iload hx hb dX7_part_47 (lv_at hl 3 rfl) ?_
            refine lv_iconst (v := 1) hx hb dX7_part_49 (by decide) ?_
            refine lv_iload_n hx hb dX7_part_50 rfl (lv_at hl 1 rfl) ?_
            refine lv_ishl hx hb dX7_part_51 ?_
            refine lv_ior hx hb dX7_part_52 ?_
            obtain ⟨o53, e53, hm⟩ := ob hm
            refine after_i C hS (call_V (As := [.int (x4 ||| ((1 : Int32) <<< (x1 &&& 31)))]) C hS (c_X7_weightOf l d q σ (x4 ||| ((1 : Int32) <<< (x1 &&& 31))) o53 e53 _) iv_7_170 ⟨rfl, rfl, Nat.le_of_ble_eq_true rfl, Nat.le_of_ble_eq_true rfl⟩ mw_o0 rfl rfl rfl hl.1 (Nat.le_of_ble_eq_true rfl) dX7_part_53) (fun H locs hS => ?_)
            refine lv_aload_n hx hb dX7_part_56 rfl (lv_at hl 0 rfl) ?_
            refine g_7_152_0 C hS dX7_part_57 ?_
            refine lv_icmp_lt (tgt := 67) hx hb dX7_part_60 (by decide) (fun c60 => ?_) (fun c60 => ?_)
            · replace hm := it c60 hm
              exact J67 (M_X7_part_15 n) ih σ x1 x2 x4 _ _ _ hS (lv_sub hl [0, 1, 2, 3] rfl) hm
            · replace hm := ie c60 hm
              refine lv_iconst (v := 1) hx hb dX7_part_63 (by decide) ?_
              refine lv_goto (tgt := 68) hx hb dX7_part_64 (by decide) ?_
              exact J68 (M_X7_part_15 n) ih σ x1 x2 x4 1 _ _ _ hS (lv_sub hl [0, 1, 2, 3] rfl) hm
  unfold M_X7_part at hm
  refine lv_aload_n hx hb dX7_part_0 rfl (lv_at hl 0 rfl) ?_
  refine lv_iload_n hx hb dX7_part_1 rfl (lv_at hl 1 rfl) ?_
  obtain ⟨o2, e2, hm⟩ := ob hm
  refine after_i C hS (call_V (As := [.int a1]) C hS (c_X7_isHouse l d q σ a1 o2 e2 _) iv_7_179 ⟨rfl, rfl, Nat.le_of_ble_eq_true rfl, Nat.le_of_ble_eq_true rfl⟩ mw_o0 rfl rfl rfl hl.1 (Nat.le_of_ble_eq_true rfl) dX7_part_2) (fun H locs hS => ?_)
  refine lv_if_ne (tgt := 10) hx hb dX7_part_5 (by decide) (fun c5 => ?_) (fun c5 => ?_)
  · replace hm := ie c5 hm
    refine lv_lconst (v := 0) hx hb dX7_part_10 (by decide) ?_
    refine lv_lstore_n (lv' := [(2, .long 0), (0, .ref (q 0)), (1, .int a1)]) hx hb dX7_part_11 rfl hl (by decide) rfl (fun ls hl => ?_)
    refine lv_iconst (v := 0) hx hb dX7_part_12 (by decide) ?_
    refine lv_istore (lv' := [(4, .int 0), (2, .long 0), (0, .ref (q 0)), (1, .int a1)]) hx hb dX7_part_13 hl (by decide) rfl (fun ls hl => ?_)
    exact L15 10000 σ a1 0 0 _ _ _ hS (lv_sub hl [2, 3, 1, 0] rfl) hm
  · replace hm := it c5 hm
    refine lv_iconst (v := (-1)) hx hb dX7_part_8 (by decide) ?_
    exact retIw (wf := mw q d) C hS hm dX7_part_9
def M_X7_with (σ : ST) (a1 : Int32) (a2 : Int32) : Option Int32 := (M_X7_isOpen σ a1).bind fun o2 => if o2 = 0 then some 99 else (rd 16512 (σ.2.2 12) ((128 * (a1 + 1)) + (a2 &&& (a1 ^^^ (-1))))).bind fun v26 => some (1 + v26)
abbrev rm_X7_with : Room := { frames := 3, cells := 0, slots := 0, locals := 66 }
set_option maxRecDepth 100000 in
set_option maxHeartbeats 4000000 in
theorem c_X7_with (l : Launch) (d : CD) (q : Nat → Nat) (σ : ST) (a1 : Int32) (a2 : Int32) (out : Int32) (hm : M_X7_with σ a1 a2 = some out) : MetI l yX7_with cX7_with 3 (some .int) rm_X7_with d (mw q d σ) [.ref (q 0), .int a1, .int a2] out (mw q d σ) := by
  refine mkI (own := RX7) (by decide +kernel) rfl (Nat.le_of_ble_eq_true rfl) ?_
  intro p e s m below meth c A ls C hS hl
  obtain ⟨hx, hb, hml, hown, hts, -⟩ := id C
  have hl : lv_has ls 3 [(0, .ref (q 0)), (1, .int a1), (2, .int a2)] := hl
  unfold M_X7_with at hm
  refine lv_aload_n hx hb dX7_with_0 rfl (lv_at hl 0 rfl) ?_
  refine lv_iload_n hx hb dX7_with_1 rfl (lv_at hl 1 rfl) ?_
  obtain ⟨o2, e2, hm⟩ := ob hm
  refine after_i C hS (call_V (As := [.int a1]) C hS (c_X7_isOpen l d q σ a1 o2 e2 _) iv_7_187 ⟨rfl, rfl, Nat.le_of_ble_eq_true rfl, Nat.le_of_ble_eq_true rfl⟩ mw_o0 rfl rfl rfl hl.1 (Nat.le_of_ble_eq_true rfl) dX7_with_2) (fun H locs hS => ?_)
  refine lv_if_eq (tgt := 31) hx hb dX7_with_5 (by decide) (fun c5 => ?_) (fun c5 => ?_)
  · replace hm := it c5 hm
    refine lv_bipush (v := 99) hx hb dX7_with_31 (by decide) ?_
    exact retIr C hS hm dX7_with_33
  · replace hm := ie c5 hm
    refine lv_iconst (v := 1) hx hb dX7_with_8 (by decide) ?_
    refine lv_aload_n hx hb dX7_with_9 rfl (lv_at hl 0 rfl) ?_
    refine g_7_47_0 C hS dX7_with_10 ?_
    refine lv_sipush (v := 128) hx hb dX7_with_13 (by decide) ?_
    refine lv_iload_n hx hb dX7_with_16 rfl (lv_at hl 1 rfl) ?_
    refine lv_iconst (v := 1) hx hb dX7_with_17 (by decide) ?_
    refine lv_iadd hx hb dX7_with_18 ?_
    refine lv_imul hx hb dX7_with_19 ?_
    refine lv_iload_n hx hb dX7_with_20 rfl (lv_at hl 2 rfl) ?_
    refine lv_iload_n hx hb dX7_with_21 rfl (lv_at hl 1 rfl) ?_
    refine lv_iconst (v := (-1)) hx hb dX7_with_22 (by decide) ?_
    refine lv_ixor hx hb dX7_with_23 ?_
    refine lv_iand hx hb dX7_with_24 ?_
    refine lv_iadd hx hb dX7_with_25 ?_
    obtain ⟨v26, e26, hm⟩ := ob hm
    refine iald' C hS mw_a12 e26 dX7_with_26 ?_
    refine lv_iadd hx hb dX7_with_27 ?_
    refine lv_goto (tgt := 33) hx hb dX7_with_28 (by decide) ?_
    exact retIr C hS hm dX7_with_33
def M_X7_layMeetings_145 (k38 : ST → Int32 → Option ST) (k66 : ST → Int32 → Int32 → Int32 → Option ST) (σ : ST) (x1 : Int32) (x2 : Int32) (x3 : Int32) (y1 : Int32) (y2 : Int32) : Option ST := (wrA 16512 σ 12 y1 y2).bind fun σ145 => k66 σ145 x1 x2 (x3 + 1)
def M_X7_layMeetings_118 (k38 : ST → Int32 → Option ST) (k66 : ST → Int32 → Int32 → Int32 → Option ST) (σ : ST) (x1 : Int32) (x2 : Int32) (x3 : Int32) (x4 : Int32) (y0 : Int32) : Option ST := if x4 ≤ y0 then M_X7_layMeetings_145 k38 k66 σ x1 x2 x3 ((128 * x1) + x3) x4 else M_X7_layMeetings_145 k38 k66 σ x1 x2 x3 ((128 * x1) + x3) y0
def M_X7_layMeetings_66 (k38 : ST → Int32 → Option ST) : Nat → ST → Int32 → Int32 → Int32 → Option ST
  | 0, _, _, _, _ => none
  | n + 1, σ, x1, x2, x3 => if 128 ≤ x3 then k38 σ (x1 + (-1)) else (rd 16512 (σ.2.2 12) ((128 * (x1 + 1)) + x3)).bind fun v86 => if x2 = 0 then M_X7_layMeetings_118 k38 (M_X7_layMeetings_66 k38 n) σ x1 x2 x3 v86 99 else (rd 16512 (σ.2.2 12) ((128 * (x1 + 1)) + (x3 &&& (x1 ^^^ (-1))))).bind fun v111 => M_X7_layMeetings_118 k38 (M_X7_layMeetings_66 k38 n) σ x1 x2 x3 v86 (1 + v111)
def M_X7_layMeetings_38 : Nat → ST → Int32 → Option ST
  | 0, _, _ => none
  | n + 1, σ, x1 => if x1 < 0 then some σ else (M_X7_all σ).bind fun o44 => if o44 < x1 then M_X7_layMeetings_66 (M_X7_layMeetings_38 n) 10000 σ x1 0 0 else (M_X7_isOpen σ x1).bind fun o52 => if o52 = 0 then M_X7_layMeetings_66 (M_X7_layMeetings_38 n) 10000 σ x1 0 0 else M_X7_layMeetings_66 (M_X7_layMeetings_38 n) 10000 σ x1 1 0
def M_X7_layMeetings_28 (k2 : ST → Int32 → Option ST) (σ : ST) (x1 : Int32) (y1 : Int32) (y2 : Int32) : Option ST := (wrA 16512 σ 12 y1 y2).bind fun σ28 => k2 σ28 (x1 + 1)
def M_X7_layMeetings_2 : Nat → ST → Int32 → Option ST
  | 0, _, _ => none
  | n + 1, σ, x1 => if 128 ≤ x1 then M_X7_layMeetings_38 10000 σ 127 else if x1 = 0 then M_X7_layMeetings_28 (M_X7_layMeetings_2 n) σ x1 (16384 + x1) 0 else M_X7_layMeetings_28 (M_X7_layMeetings_2 n) σ x1 (16384 + x1) 99
def M_X7_layMeetings (σ : ST) : Option ST := M_X7_layMeetings_2 10000 σ 0
abbrev rm_X7_layMeetings : Room := { frames := 3, cells := 0, slots := 0, locals := 66 }
set_option maxRecDepth 100000 in
set_option maxHeartbeats 4000000 in
theorem c_X7_layMeetings (l : Launch) (d : CD) (q : Nat → Nat) (σ : ST) (out : ST) (hm : M_X7_layMeetings σ = some out) : MetV l yX7_layMeetings cX7_layMeetings 6 (none) rm_X7_layMeetings d (mw q d σ) [.ref (q 0)] (mw q d out) := by
  refine mkV (own := RX7) (by decide +kernel) rfl (Nat.le_of_ble_eq_true rfl) ?_
  intro p e s m below meth c A ls C hS hl
  obtain ⟨hx, hb, hml, hown, hts, -⟩ := id C
  have hl : lv_has ls 6 [(0, .ref (q 0))] := hl
  have J145 : ∀ (k38 : ST → Int32 → Option ST) (hk38 : ∀ (σ : ST) (x1 : Int32) (H : Heap) (locs : List Loc) (ls : Array Slot), HS d A s.heap H locs (mw q d σ) → lv_has ls 6 [(0, .ref (q 0)), (1, .int x1)] → k38 σ x1 = some out → WV p l e rm_X7_layMeetings s m [.ref (q 0)].toArray below meth c A d H locs (mw q d out) (F0 m 38 ls [])) (k66 : ST → Int32 → Int32 → Int32 → Option ST) (hk66 : ∀ (σ : ST) (x1 : Int32) (x2 : Int32) (x3 : Int32) (H : Heap) (locs : List Loc) (ls : Array Slot), HS d A s.heap H locs (mw q d σ) → lv_has ls 6 [(0, .ref (q 0)), (1, .int x1), (2, .int x2), (3, .int x3)] → k66 σ x1 x2 x3 = some out → WV p l e rm_X7_layMeetings s m [.ref (q 0)].toArray below meth c A d H locs (mw q d out) (F0 m 66 ls [])) (σ : ST) (x1 : Int32) (x2 : Int32) (x3 : Int32) (y1 : Int32) (y2 : Int32) (H : Heap) (locs : List Loc) (ls : Array Slot), HS d A s.heap H locs (mw q d σ) → lv_has ls 6 [(0, .ref (q 0)), (1, .int x1), (2, .int x2), (3, .int x3)] → M_X7_layMeetings_145 k38 k66 σ x1 x2 x3 y1 y2 = some out → WV p l e rm_X7_layMeetings s m [.ref (q 0)].toArray below meth c A d H locs (mw q d out) (F0 m 145 ls [.int y2, .int y1, .ref (q 12)]) := by
    intro k38 hk38 k66 hk66 σ x1 x2 x3 y1 y2 H locs ls hS hl hm
    unfold M_X7_layMeetings_145 at hm
    obtain ⟨σ145, e145, hm⟩ := ob hm
    refine iast' (wf := mw q d) C hS mw_a12 mw_s12 e145 dX7_layMeetings_145 (fun H locs hS => ?_)
    refine lv_iinc (v := x3 + 1) (lv' := [(3, .int (x3 + 1)), (0, .ref (q 0)), (1, .int x1), (2, .int x2)]) hx hb dX7_layMeetings_146 hl (k := 3) rfl rfl (by decide) rfl (fun ls hl => ?_)
    refine lv_goto (tgt := 66) hx hb dX7_layMeetings_149 (by decide) ?_
    exact hk66 σ145 x1 x2 (x3 + 1) _ _ _ hS (lv_sub hl [1, 2, 3, 0] rfl) hm
  have J118 : ∀ (k38 : ST → Int32 → Option ST) (hk38 : ∀ (σ : ST) (x1 : Int32) (H : Heap) (locs : List Loc) (ls : Array Slot), HS d A s.heap H locs (mw q d σ) → lv_has ls 6 [(0, .ref (q 0)), (1, .int x1)] → k38 σ x1 = some out → WV p l e rm_X7_layMeetings s m [.ref (q 0)].toArray below meth c A d H locs (mw q d out) (F0 m 38 ls [])) (k66 : ST → Int32 → Int32 → Int32 → Option ST) (hk66 : ∀ (σ : ST) (x1 : Int32) (x2 : Int32) (x3 : Int32) (H : Heap) (locs : List Loc) (ls : Array Slot), HS d A s.heap H locs (mw q d σ) → lv_has ls 6 [(0, .ref (q 0)), (1, .int x1), (2, .int x2), (3, .int x3)] → k66 σ x1 x2 x3 = some out → WV p l e rm_X7_layMeetings s m [.ref (q 0)].toArray below meth c A d H locs (mw q d out) (F0 m 66 ls [])) (σ : ST) (x1 : Int32) (x2 : Int32) (x3 : Int32) (x4 : Int32) (y0 : Int32) (H : Heap) (locs : List Loc) (ls : Array Slot), HS d A s.heap H locs (mw q d σ) → lv_has ls 6 [(0, .ref (q 0)), (1, .int x1), (2, .int x2), (3, .int x3), (4, .int x4)] → M_X7_layMeetings_118 k38 k66 σ x1 x2 x3 x4 y0 = some out → WV p l e rm_X7_layMeetings s m [.ref (q 0)].toArray below meth c A d H locs (mw q d out) (F0 m 118 ls [.int y0]) := by
    intro k38 hk38 k66 hk66 σ x1 x2 x3 x4 y0 H locs ls hS hl hm
    unfold M_X7_layMeetings_118 at hm
    refine lv_istore (lv' := [(5, .int y0), (0, .ref (q 0)), (1, .int x1), (2, .int x2), (3, .int x3), (4, .int x4)]) hx hb dX7_layMeetings_118 hl (by decide) rfl (fun ls hl => ?_)
    refine lv_aload_n hx hb dX7_layMeetings_120 rfl (lv_at hl 1 rfl) ?_
    refine g_7_47_0 C hS dX7_layMeetings_121 ?_
    refine lv_sipush (v := 128) hx hb dX7_layMeetings_124 (by decide) ?_
    refine lv_iload_n hx hb dX7_layMeetings_127 rfl (lv_at hl 2 rfl) ?_
    refine lv_imul hx hb dX7_layMeetings_128 ?_
    refine lv_iload_n hx hb dX7_layMeetings_129 rfl (lv_at hl 4 rfl) ?_
    refine lv_iadd hx hb dX7_layMeetings_130 ?_
    refine lv_iload hx hb dX7_layMeetings_131 (lv_at hl 0 rfl) ?_
    refine lv_iload hx hb dX7_layMeetings_133 (lv_at hl 5 rfl) ?_
    refine lv_icmp_ge (tgt := 143) hx hb dX7_layMeetings_135 (by decide) (fun c135 => ?_) (fun c135 => ?_)
    · replace hm := it c135 hm
      refine lv_iload hx hb dX7_layMeetings_143 (lv_at hl 5 rfl) ?_
      exact J145 k38 hk38 k66 hk66 σ x1 x2 x3 ((128 * x1) + x3) x4 _ _ _ hS (lv_sub hl [1, 2, 3, 4] rfl) hm
    · replace hm := ie c135 hm
      refine lv_iload hx hb dX7_layMeetings_138 (lv_at hl 0 rfl) ?_
      refine lv_goto (tgt := 145) hx hb dX7_layMeetings_140 (by decide) ?_
      exact J145 k38 hk38 k66 hk66 σ x1 x2 x3 ((128 * x1) + x3) y0 _ _ _ hS (lv_sub hl [1, 2, 3, 4] rfl) hm
  have L66 : ∀ (k38 : ST → Int32 → Option ST) (hk38 : ∀ (σ : ST) (x1 : Int32) (H : Heap) (locs : List Loc) (ls : Array Slot), HS d A s.heap H locs (mw q d σ) → lv_has ls 6 [(0, .ref (q 0)), (1, .int x1)] → k38 σ x1 = some out → WV p l e rm_X7_layMeetings s m [.ref (q 0)].toArray below meth c A d H locs (mw q d out) (F0 m 38 ls [])) (n : Nat) (σ : ST) (x1 : Int32) (x2 : Int32) (x3 : Int32) (H : Heap) (locs : List Loc) (ls : Array Slot), HS d A s.heap H locs (mw q d σ) → lv_has ls 6 [(0, .ref (q 0)), (1, .int x1), (2, .int x2), (3, .int x3)] → M_X7_layMeetings_66 k38 n σ x1 x2 x3 = some out → WV p l e rm_X7_layMeetings s m [.ref (q 0)].toArray below meth c A d H locs (mw q d out) (F0 m 66 ls []) := by
    intro k38 hk38 n
    induction n with
    | zero =>
      intro σ x1 x2 x3 H locs ls hS hl hm
      exact absurd hm (by rw [M_X7_layMeetings_66]; exact fun h => nomatch h)
    | succ n ih =>
      intro σ x1 x2 x3 H locs ls hS hl hm
      rw [M_X7_layMeetings_66] at hm
      refine lv_iload_n hx hb dX7_layMeetings_66 rfl (lv_at hl 3 rfl) ?_
      refine lv_sipush (v := 128) hx hb dX7_layMeetings_67 (by decide) ?_
      refine lv_icmp_ge (tgt := 152) hx hb dX7_layMeetings_70 (by decide) (fun c70 => ?_) (fun c70 => ?_)
      · replace hm := it c70 hm
        refine lv_iinc (v := x1 + (-1)) (lv' := [(1, .int (x1 + (-1))), (0, .ref (q 0)), (2, .int x2), (3, .int x3)]) hx hb dX7_layMeetings_152 hl (k := 1) rfl rfl (by decide) rfl (fun ls hl => ?_)
        refine lv_goto (tgt := 38) hx hb dX7_layMeetings_155 (by decide) ?_
        exact hk38 σ (x1 + (-1)) _ _ _ hS (lv_sub hl [1, 0] rfl) hm
      · replace hm := ie c70 hm
        refine lv_aload_n hx hb dX7_layMeetings_73 rfl (lv_at hl 0 rfl) ?_
        refine g_7_47_0 C hS dX7_layMeetings_74 ?_
        refine lv_sipush (v := 128) hx hb dX7_layMeetings_77 (by decide) ?_
        refine lv_iload_n hx hb dX7_layMeetings_80 rfl (lv_at hl 1 rfl) ?_
        refine lv_iconst (v := 1) hx hb dX7_layMeetings_81 (by decide) ?_
        refine lv_iadd hx hb dX7_layMeetings_82 ?_
        refine lv_imul hx hb dX7_layMeetings_83 ?_
        refine lv_iload_n hx hb dX7_layMeetings_84 rfl (lv_at hl 3 rfl) ?_
        refine lv_iadd hx hb dX7_layMeetings_85 ?_
        obtain ⟨v86, e86, hm⟩ := ob hm
        refine iald' C hS mw_a12 e86 dX7_layMeetings_86 ?_
        refine lv_istore (lv' := [(4, .int v86), (0, .ref (q 0)), (1, .int x1), (2, .int x2), (3, .int x3)]) hx hb dX7_layMeetings_87 hl (by decide) rfl (fun ls hl => ?_)
        refine lv_iload_n hx hb dX7_layMeetings_89 rfl (lv_at hl 3 rfl) ?_
        refine lv_if_eq (tgt := 116) hx hb dX7_layMeetings_90 (by decide) (fun c90 => ?_) (fun c90 => ?_)
        · replace hm := it c90 hm
          refine lv_bipush (v := 99) hx hb dX7_layMeetings_116 (by decide) ?_
          exact J118 k38 hk38 (M_X7_layMeetings_66 k38 n) ih σ x1 x2 x3 v86 99 _ _ _ hS (lv_sub hl [1, 2, 3, 4, 0] rfl) hm
        · replace hm := ie c90 hm
          refine lv_iconst (v := 1) hx hb dX7_layMeetings_93 (by decide) ?_
          refine lv_aload_n hx hb dX7_layMeetings_94 rfl (lv_at hl 1 rfl) ?_
          refine g_7_47_0 C hS dX7_layMeetings_95 ?_
          refine lv_sipush (v := 128) hx hb dX7_layMeetings_98 (by decide) ?_
          refine lv_iload_n hx hb dX7_layMeetings_101 rfl (lv_at hl 2 rfl) ?_
          refine lv_iconst (v := 1) hx hb dX7_layMeetings_102 (by decide) ?_
          refine lv_iadd hx hb dX7_layMeetings_103 ?_
          refine lv_imul hx hb dX7_layMeetings_104 ?_
          refine lv_iload_n hx hb dX7_layMeetings_105 rfl (lv_at hl 4 rfl) ?_
          refine lv_iload_n hx hb dX7_layMeetings_106 rfl (lv_at hl 2 rfl) ?_
          refine lv_iconst (v := (-1)) hx hb dX7_layMeetings_107 (by decide) ?_
          refine lv_ixor hx hb dX7_layMeetings_108 ?_
          refine lv_iand hx hb dX7_layMeetings_109 ?_
          refine lv_iadd hx hb dX7_layMeetings_110 ?_
          obtain ⟨v111, e111, hm⟩ := ob hm
          refine iald' C hS mw_a12 e111 dX7_layMeetings_111 ?_
          refine lv_iadd hx hb dX7_layMeetings_112 ?_
          refine lv_goto (tgt := 118) hx hb dX7_layMeetings_113 (by decide) ?_
          exact J118 k38 hk38 (M_X7_layMeetings_66 k38 n) ih σ x1 x2 x3 v86 (1 + v111) _ _ _ hS (lv_sub hl [1, 2, 3, 4, 0] rfl) hm
  have L38 : ∀ (n : Nat) (σ : ST) (x1 : Int32) (H : Heap) (locs : List Loc) (ls : Array Slot), HS d A s.heap H locs (mw q d σ) → lv_has ls 6 [(0, .ref (q 0)), (1, .int x1)] → M_X7_layMeetings_38 n σ x1 = some out → WV p l e rm_X7_layMeetings s m [.ref (q 0)].toArray below meth c A d H locs (mw q d out) (F0 m 38 ls []) := by
    intro n
    induction n with
    | zero =>
      intro σ x1 H locs ls hS hl hm
      exact absurd hm (by rw [M_X7_layMeetings_38]; exact fun h => nomatch h)
    | succ n ih =>
      intro σ x1 H locs ls hS hl hm
      rw [M_X7_layMeetings_38] at hm
      refine lv_iload_n hx hb dX7_layMeetings_38 rfl (lv_at hl 1 rfl) ?_
      refine lv_if_lt (tgt := 158) hx hb dX7_layMeetings_39 (by decide) (fun c39 => ?_) (fun c39 => ?_)
      · replace hm := it c39 hm
        exact retVw (wf := mw q d) C hS hm dX7_layMeetings_158
      · replace hm := ie c39 hm
        refine lv_iload_n hx hb dX7_layMeetings_42 rfl (lv_at hl 1 rfl) ?_
        refine lv_aload_n hx hb dX7_layMeetings_43 rfl (lv_at hl 0 rfl) ?_
        obtain ⟨o44, e44, hm⟩ := ob hm
        refine after_i C hS (call_V (As := []) C hS (c_X7_all l d q σ o44 e44 _) iv_7_164 ⟨rfl, rfl, Nat.le_of_ble_eq_true rfl, Nat.le_of_ble_eq_true rfl⟩ mw_o0 rfl rfl rfl hl.1 (Nat.le_of_ble_eq_true rfl) dX7_layMeetings_44) (fun H locs hS => ?_)
        refine lv_icmp_gt (tgt := 62) hx hb dX7_layMeetings_47 (by decide) (fun c47 => ?_) (fun c47 => ?_)
        · replace hm := it c47 hm
          refine lv_iconst (v := 0) hx hb dX7_layMeetings_62 (by decide) ?_
          refine lv_istore_n (lv' := [(2, .int 0), (0, .ref (q 0)), (1, .int x1)]) hx hb dX7_layMeetings_63 rfl hl (by decide) rfl (fun ls hl => ?_)
          refine lv_iconst (v := 0) hx hb dX7_layMeetings_64 (by decide) ?_
          refine lv_istore_n (lv' := [(3, .int 0), (2, .int 0), (0, .ref (q 0)), (1, .int x1)]) hx hb dX7_layMeetings_65 rfl hl (by decide) rfl (fun ls hl => ?_)
          exact L66 (M_X7_layMeetings_38 n) ih 10000 σ x1 0 0 _ _ _ hS (lv_sub hl [2, 3, 1, 0] rfl) hm
        · replace hm := ie c47 hm
          refine lv_aload_n hx hb dX7_layMeetings_50 rfl (lv_at hl 0 rfl) ?_
          refine lv_iload_n hx hb dX7_layMeetings_51 rfl (lv_at hl 1 rfl) ?_
          obtain ⟨o52, e52, hm⟩ := ob hm
          refine after_i C hS (call_V (As := [.int x1]) C hS (c_X7_isOpen l d q σ x1 o52 e52 _) iv_7_187 ⟨rfl, rfl, Nat.le_of_ble_eq_true rfl, Nat.le_of_ble_eq_true rfl⟩ mw_o0 rfl rfl rfl hl.1 (Nat.le_of_ble_eq_true rfl) dX7_layMeetings_52) (fun H locs hS => ?_)
          refine lv_if_eq (tgt := 62) hx hb dX7_layMeetings_55 (by decide) (fun c55 => ?_) (fun c55 => ?_)
          · replace hm := it c55 hm
            refine lv_iconst (v := 0) hx hb dX7_layMeetings_62 (by decide) ?_
            refine lv_istore_n (lv' := [(2, .int 0), (0, .ref (q 0)), (1, .int x1)]) hx hb dX7_layMeetings_63 rfl hl (by decide) rfl (fun ls hl => ?_)
            refine lv_iconst (v := 0) hx hb dX7_layMeetings_64 (by decide) ?_
            refine lv_istore_n (lv' := [(3, .int 0), (2, .int 0), (0, .ref (q 0)), (1, .int x1)]) hx hb dX7_layMeetings_65 rfl hl (by decide) rfl (fun ls hl => ?_)
            exact L66 (M_X7_layMeetings_38 n) ih 10000 σ x1 0 0 _ _ _ hS (lv_sub hl [2, 3, 1, 0] rfl) hm
          · replace hm := ie c55 hm
            refine lv_iconst (v := 1) hx hb dX7_layMeetings_58 (by decide) ?_
            refine lv_goto (tgt := 63) hx hb dX7_layMeetings_59 (by decide) ?_
            refine lv_istore_n (lv' := [(2, .int 1), (0, .ref (q 0)), (1, .int x1)]) hx hb dX7_layMeetings_63 rfl hl (by decide) rfl (fun ls hl => ?_)
            refine lv_iconst (v := 0) hx hb dX7_layMeetings_64 (by decide) ?_
            refine lv_istore_n (lv' := [(3, .int 0), (2, .int 1), (0, .ref (q 0)), (1, .int x1)]) hx hb dX7_layMeetings_65 rfl hl (by decide) rfl (fun ls hl => ?_)
            exact L66 (M_X7_layMeetings_38 n) ih 10000 σ x1 1 0 _ _ _ hS (lv_sub hl [2, 3, 1, 0] rfl) hm
  have J28 : ∀ (k2 : ST → Int32 → Option ST) (hk2 : ∀ (σ : ST) (x1 : Int32) (H : Heap) (locs : List Loc) (ls : Array Slot), HS d A s.heap H locs (mw q d σ) → lv_has ls 6 [(0, .ref (q 0)), (1, .int x1)] → k2 σ x1 = some out → WV p l e rm_X7_layMeetings s m [.ref (q 0)].toArray below meth c A d H locs (mw q d out) (F0 m 2 ls [])) (σ : ST) (x1 : Int32) (y1 : Int32) (y2 : Int32) (H : Heap) (locs : List Loc) (ls : Array Slot), HS d A s.heap H locs (mw q d σ) → lv_has ls 6 [(0, .ref (q 0)), (1, .int x1)] → M_X7_layMeetings_28 k2 σ x1 y1 y2 = some out → WV p l e rm_X7_layMeetings s m [.ref (q 0)].toArray below meth c A d H locs (mw q d out) (F0 m 28 ls [.int y2, .int y1, .ref (q 12)]) := by
    intro k2 hk2 σ x1 y1 y2 H locs ls hS hl hm
    unfold M_X7_layMeetings_28 at hm
    obtain ⟨σ28, e28, hm⟩ := ob hm
    refine iast' (wf := mw q d) C hS mw_a12 mw_s12 e28 dX7_layMeetings_28 (fun H locs hS => ?_)
    refine lv_iinc (v := x1 + 1) (lv' := [(1, .int (x1 + 1)), (0, .ref (q 0))]) hx hb dX7_layMeetings_29 hl (k := 1) rfl rfl (by decide) rfl (fun ls hl => ?_)
    refine lv_goto (tgt := 2) hx hb dX7_layMeetings_32 (by decide) ?_
    exact hk2 σ28 (x1 + 1) _ _ _ hS (lv_sub hl [1, 0] rfl) hm
  have L2 : ∀ (n : Nat) (σ : ST) (x1 : Int32) (H : Heap) (locs : List Loc) (ls : Array Slot), HS d A s.heap H locs (mw q d σ) → lv_has ls 6 [(0, .ref (q 0)), (1, .int x1)] → M_X7_layMeetings_2 n σ x1 = some out → WV p l e rm_X7_layMeetings s m [.ref (q 0)].toArray below meth c A d H locs (mw q d out) (F0 m 2 ls []) := by
    intro n
    induction n with
    | zero =>
      intro σ x1 H locs ls hS hl hm
      exact absurd hm (by rw [M_X7_layMeetings_2]; exact fun h => nomatch h)
    | succ n ih =>
      intro σ x1 H locs ls hS hl hm
      rw [M_X7_layMeetings_2] at hm
      refine lv_iload_n hx hb dX7_layMeetings_2 rfl (lv_at hl 1 rfl) ?_
      refine lv_sipush (v := 128) hx hb dX7_layMeetings_3 (by decide) ?_
      refine lv_icmp_ge (tgt := 35) hx hb dX7_layMeetings_6 (by decide) (fun c6 => ?_) (fun c6 => ?_)
      · replace hm := it c6 hm
        refine lv_bipush (v := 127) hx hb dX7_layMeetings_35 (by decide) ?_
        refine lv_istore_n (lv' := [(1, .int 127), (0, .ref (q 0))]) hx hb dX7_layMeetings_37 rfl hl (by decide) rfl (fun ls hl => ?_)
        exact L38 10000 σ 127 _ _ _ hS (lv_sub hl [1, 0] rfl) hm
      · replace hm := ie c6 hm
        refine lv_aload_n hx hb dX7_layMeetings_9 rfl (lv_at hl 0 rfl) ?_
        refine g_7_47_0 C hS dX7_layMeetings_10 ?_
        refine lv_sipush (v := 16384) hx hb dX7_layMeetings_13 (by decide) ?_
        refine lv_iload_n hx hb dX7_layMeetings_16 rfl (lv_at hl 1 rfl) ?_
        refine lv_iadd hx hb dX7_layMeetings_17 ?_
        refine lv_iload_n hx hb dX7_layMeetings_18 rfl (lv_at hl 1 rfl) ?_
        refine lv_if_ne (tgt := 26) hx hb dX7_layMeetings_19 (by decide) (fun c19 => ?_) (fun c19 => ?_)
        · replace hm := ie c19 hm
          refine lv_bipush (v := 99) hx hb dX7_layMeetings_26 (by decide) ?_
          exact J28 (M_X7_layMeetings_2 n) ih σ x1 (16384 + x1) 99 _ _ _ hS (lv_sub hl [0, 1] rfl) hm
        · replace hm := it c19 hm
          refine lv_iconst (v := 0) hx hb dX7_layMeetings_22 (by decide) ?_
          refine lv_goto (tgt := 28) hx hb dX7_layMeetings_23 (by decide) ?_
          exact J28 (M_X7_layMeetings_2 n) ih σ x1 (16384 + x1) 0 _ _ _ hS (lv_sub hl [0, 1] rfl) hm
  unfold M_X7_layMeetings at hm
  refine lv_iconst (v := 0) hx hb dX7_layMeetings_0 (by decide) ?_
  refine lv_istore_n (lv' := [(1, .int 0), (0, .ref (q 0))]) hx hb dX7_layMeetings_1 rfl hl (by decide) rfl (fun ls hl => ?_)
  exact L2 10000 σ 0 _ _ _ hS (lv_sub hl [1, 0] rfl) hm
def M_X7_thirsty_4 (σ : ST) : Nat → Int32 → Int32 → Option Int32
  | 0, _, _ => none
  | n + 1, x1, x2 => if (σ.1 3) ≤ x2 then some x1 else (M_X7_wantsYet σ x2).bind fun o15 => if o15 ≤ 0 then M_X7_thirsty_4 σ n (x1 ||| 0) (x2 + 1) else M_X7_thirsty_4 σ n (x1 ||| ((1 : Int32) <<< (x2 &&& 31))) (x2 + 1)
def M_X7_thirsty (σ : ST) : Option Int32 := M_X7_thirsty_4 σ 10000 0 0
abbrev rm_X7_thirsty : Room := { frames := 2, cells := 0, slots := 0, locals := 42 }
set_option maxRecDepth 100000 in
set_option maxHeartbeats 4000000 in
theorem c_X7_thirsty (l : Launch) (d : CD) (q : Nat → Nat) (σ : ST) (out : Int32) (hm : M_X7_thirsty σ = some out) : MetI l yX7_thirsty cX7_thirsty 3 (some .int) rm_X7_thirsty d (mw q d σ) [.ref (q 0)] out (mw q d σ) := by
  refine mkI (own := RX7) (by decide +kernel) rfl (Nat.le_of_ble_eq_true rfl) ?_
  intro p e s m below meth c A ls C hS hl
  obtain ⟨hx, hb, hml, hown, hts, -⟩ := id C
  have hl : lv_has ls 3 [(0, .ref (q 0))] := hl
  have L4 : ∀ (n : Nat) (x1 : Int32) (x2 : Int32) (H : Heap) (locs : List Loc) (ls : Array Slot), HS d A s.heap H locs (mw q d σ) → lv_has ls 3 [(0, .ref (q 0)), (1, .int x1), (2, .int x2)] → M_X7_thirsty_4 σ n x1 x2 = some out → WI p l e rm_X7_thirsty s m [.ref (q 0)].toArray below meth c A d H locs out (mw q d σ) (F0 m 4 ls []) := by
    intro n
    induction n with
    | zero =>
      intro x1 x2 H locs ls hS hl hm
      exact absurd hm (by rw [M_X7_thirsty_4]; exact fun h => nomatch h)
    | succ n ih =>
      intro x1 x2 H locs ls hS hl hm
      rw [M_X7_thirsty_4] at hm
      refine lv_iload_n hx hb dX7_thirsty_4 rfl (lv_at hl 2 rfl) ?_
      refine lv_aload_n hx hb dX7_thirsty_5 rfl (lv_at hl 0 rfl) ?_
      refine g_7_158_0 C hS dX7_thirsty_6 ?_
      refine lv_icmp_ge (tgt := 36) hx hb dX7_thirsty_9 (by decide) (fun c9 => ?_) (fun c9 => ?_)
      · replace hm := it c9 hm
        refine lv_iload_n hx hb dX7_thirsty_36 rfl (lv_at hl 1 rfl) ?_
        exact retIr C hS hm dX7_thirsty_37
      · replace hm := ie c9 hm
        refine lv_iload_n hx hb dX7_thirsty_12 rfl (lv_at hl 1 rfl) ?_
        refine lv_aload_n hx hb dX7_thirsty_13 rfl (lv_at hl 0 rfl) ?_
        refine lv_iload_n hx hb dX7_thirsty_14 rfl (lv_at hl 2 rfl) ?_
        obtain ⟨o15, e15, hm⟩ := ob hm
        refine after_i C hS (call_V (As := [.int x2]) C hS (c_X7_wantsYet l d q σ x2 o15 e15 _) iv_7_199 ⟨rfl, rfl, Nat.le_of_ble_eq_true rfl, Nat.le_of_ble_eq_true rfl⟩ mw_o0 rfl rfl rfl hl.1 (Nat.le_of_ble_eq_true rfl) dX7_thirsty_15) (fun H locs hS => ?_)
        refine lv_if_le (tgt := 27) hx hb dX7_thirsty_18 (by decide) (fun c18 => ?_) (fun c18 => ?_)
        · replace hm := it c18 hm
          refine lv_iconst (v := 0) hx hb dX7_thirsty_27 (by decide) ?_
          refine lv_ior hx hb dX7_thirsty_28 ?_
          refine lv_istore_n (lv' := [(1, .int (x1 ||| 0)), (0, .ref (q 0)), (2, .int x2)]) hx hb dX7_thirsty_29 rfl hl (by decide) rfl (fun ls hl => ?_)
          refine lv_iinc (v := x2 + 1) (lv' := [(2, .int (x2 + 1)), (1, .int (x1 ||| 0)), (0, .ref (q 0))]) hx hb dX7_thirsty_30 hl (k := 2) rfl rfl (by decide) rfl (fun ls hl => ?_)
          refine lv_goto (tgt := 4) hx hb dX7_thirsty_33 (by decide) ?_
          exact ih (x1 ||| 0) (x2 + 1) _ _ _ hS (lv_sub hl [2, 1, 0] rfl) hm
        · replace hm := ie c18 hm
          refine lv_iconst (v := 1) hx hb dX7_thirsty_21 (by decide) ?_
          refine lv_iload_n hx hb dX7_thirsty_22 rfl (lv_at hl 2 rfl) ?_
          refine lv_ishl hx hb dX7_thirsty_23 ?_
          refine lv_goto (tgt := 28) hx hb dX7_thirsty_24 (by decide) ?_
          refine lv_ior hx hb dX7_thirsty_28 ?_
          refine lv_istore_n (lv' := [(1, .int (x1 ||| ((1 : Int32) <<< (x2 &&& 31)))), (0, .ref (q 0)), (2, .int x2)]) hx hb dX7_thirsty_29 rfl hl (by decide) rfl (fun ls hl => ?_)
          refine lv_iinc (v := x2 + 1) (lv' := [(2, .int (x2 + 1)), (1, .int (x1 ||| ((1 : Int32) <<< (x2 &&& 31)))), (0, .ref (q 0))]) hx hb dX7_thirsty_30 hl (k := 2) rfl rfl (by decide) rfl (fun ls hl => ?_)
          refine lv_goto (tgt := 4) hx hb dX7_thirsty_33 (by decide) ?_
          exact ih (x1 ||| ((1 : Int32) <<< (x2 &&& 31))) (x2 + 1) _ _ _ hS (lv_sub hl [2, 1, 0] rfl) hm
  unfold M_X7_thirsty at hm
  refine lv_iconst (v := 0) hx hb dX7_thirsty_0 (by decide) ?_
  refine lv_istore_n (lv' := [(1, .int 0), (0, .ref (q 0))]) hx hb dX7_thirsty_1 rfl hl (by decide) rfl (fun ls hl => ?_)
  refine lv_iconst (v := 0) hx hb dX7_thirsty_2 (by decide) ?_
  refine lv_istore_n (lv' := [(2, .int 0), (1, .int 0), (0, .ref (q 0))]) hx hb dX7_thirsty_3 rfl hl (by decide) rfl (fun ls hl => ?_)
  exact L4 10000 0 0 _ _ _ hS (lv_sub hl [2, 1, 0] rfl) hm
