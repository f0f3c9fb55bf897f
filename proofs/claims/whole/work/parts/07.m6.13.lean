def M_X6_odds (σ : ST) (a1 : Int32) : Option (Int32 × ST) := (M_X6_refusalOfChance σ a1).bind fun o2 => if o2 = 0 then (M_X4_look σ).bind fun o16 => (M_X4_waysToOpen o16 a1).bind fun o25 => (M_X5_houses o16).bind fun o34 => (M_X6_power 12 o34).bind fun o37 => (M_X6_tell o16 o25 o37).bind fun o40 => some (1, o40) else some (o2, σ)
abbrev rm_X6_odds : Room := { frames := 5, cells := 0, slots := 0, locals := 109 }
set_option maxRecDepth 100000 in
set_option maxHeartbeats 4000000 in
theorem c_X6_odds (l : Launch) (d : CD) (q : Nat → Nat) (σ : ST) (a1 : Int32) (out : Int32 × ST) (hm : M_X6_odds σ a1 = some out) : MetI l yX6_odds cX6_odds 3 (some .int) rm_X6_odds d (cw q d σ) [.ref (q 0), .int a1] out.1 (cw q d out.2) := by
  refine mkI (own := RX6) (by decide +kernel) rfl (Nat.le_of_ble_eq_true rfl) ?_
  intro p e s m below meth c A ls C hS hl
  obtain ⟨hx, hb, hml, hown, hts, -⟩ := id C
  have hl : lv_has ls 3 [(0, .ref (q 0)), (1, .int a1)] := hl
  unfold M_X6_odds at hm
  refine lv_aload_n hx hb dX6_odds_0 rfl (lv_at hl 0 rfl) ?_
  refine lv_iload_n hx hb dX6_odds_1 rfl (lv_at hl 1 rfl) ?_
  obtain ⟨o2, e2, hm⟩ := ob hm
  refine after_i C hS (call_V (As := [.int a1]) C hS (c_X6_refusalOfChance l d q σ a1 o2 e2 _) iv_6_273 ⟨rfl, rfl, Nat.le_of_ble_eq_true rfl, Nat.le_of_ble_eq_true rfl⟩ cw_o0 rfl rfl rfl hl.1 (Nat.le_of_ble_eq_true rfl) dX6_odds_2) (fun H locs hS => ?_)
  refine lv_istore_n (lv' := [(2, .int o2), (0, .ref (q 0)), (1, .int a1)]) hx hb dX6_odds_5 rfl hl (by decide) rfl (fun ls hl => ?_)
  refine lv_iload_n hx hb dX6_odds_6 rfl (lv_at hl 0 rfl) ?_
  refine lv_if_eq (tgt := 12) hx hb dX6_odds_7 (by decide) (fun c7 => ?_) (fun c7 => ?_)
  · replace hm := it c7 hm
    refine lv_aload_n hx hb dX6_odds_12 rfl (lv_at hl 1 rfl) ?_
    refine g_6_42_0 C hS dX6_odds_13 ?_
    obtain ⟨o16, e16, hm⟩ := ob hm
    refine after_v C hS (call_V (As := []) C hS (c_X4_look l d q σ o16 e16 _) iv_6_203 ⟨rfl, rfl, Nat.le_of_ble_eq_true rfl, Nat.le_of_ble_eq_true rfl⟩ cw_o32 rfl rfl rfl hl.1 (Nat.le_of_ble_eq_true rfl) dX6_odds_16) (fun H locs hS => ?_)
    refine lv_aload_n hx hb dX6_odds_19 rfl (lv_at hl 1 rfl) ?_
    refine lv_aload_n hx hb dX6_odds_20 rfl (lv_at hl 1 rfl) ?_
    refine g_6_42_0 C hS dX6_odds_21 ?_
    refine lv_iload_n hx hb dX6_odds_24 rfl (lv_at hl 2 rfl) ?_
    obtain ⟨o25, e25, hm⟩ := ob hm
    refine after_l C hS (call_V (As := [.int a1]) C hS (c_X4_waysToOpen l d q o16 a1 o25 e25 _) iv_6_276 ⟨rfl, rfl, Nat.le_of_ble_eq_true rfl, Nat.le_of_ble_eq_true rfl⟩ cw_o32 rfl rfl rfl hl.1 (Nat.le_of_ble_eq_true rfl) dX6_odds_25) (fun H locs hS => ?_)
    refine lv_bipush (v := 12) hx hb dX6_odds_28 (by decide) ?_
    refine lv_aload_n hx hb dX6_odds_30 rfl (lv_at hl 1 rfl) ?_
    refine g_6_33_0 C hS dX6_odds_31 ?_
    obtain ⟨o34, e34, hm⟩ := ob hm
    refine after_i C hS (call_V (As := []) C hS (c_X5_houses l d q o16 o34 e34 _) iv_6_140 ⟨rfl, rfl, Nat.le_of_ble_eq_true rfl, Nat.le_of_ble_eq_true rfl⟩ cw_o22 rfl rfl rfl hl.1 (Nat.le_of_ble_eq_true rfl) dX6_odds_34) (fun H locs hS => ?_)
    obtain ⟨o37, e37, hm⟩ := ob hm
    refine after_l C hS (call_S (As := [.int 12, .int o34]) C hS (c_X6_power l d (cw q d o16) 12 o34 o37 e37 _) is_6_279 ⟨rfl, rfl, Nat.le_of_ble_eq_true rfl, Nat.le_of_ble_eq_true rfl⟩ rfl hl.1 (Nat.le_of_ble_eq_true rfl) dX6_odds_37) (fun H locs hS => ?_)
    obtain ⟨o40, e40, hm⟩ := ob hm
    refine after_v C hS (call_V (As := [.long o25, .long o37]) C hS (c_X6_tell l d q o16 o25 o37 o40 e40 _) iv_6_209 ⟨rfl, rfl, Nat.le_of_ble_eq_true rfl, Nat.le_of_ble_eq_true rfl⟩ cw_o0 rfl rfl rfl hl.1 (Nat.le_of_ble_eq_true rfl) dX6_odds_40) (fun H locs hS => ?_)
    refine lv_iconst (v := 1) hx hb dX6_odds_43 (by decide) ?_
    exact retIw (wf := cw q d) C hS hm dX6_odds_44
  · replace hm := ie c7 hm
    refine lv_iload_n hx hb dX6_odds_10 rfl (lv_at hl 0 rfl) ?_
    exact retIw (wf := cw q d) C hS hm dX6_odds_11
def M_X4_bucketsInAllWays_5 (σ : ST) : Nat → Int32 → Int64 → Int32 → Option Int64
  | 0, _, _, _ => none
  | n + 1, x1, x2, x4 => if (σ.1 38) ≤ x4 then some x2 else (rd 128 (σ.2.2 33) x4).bind fun v20 => if v20 = 0 then M_X4_bucketsInAllWays_5 σ n x1 x2 (x4 + 1) else (M_X4_waysToCome σ x4 x1).bind fun o29 => (M_X5_drawnBy σ x4).bind fun o38 => M_X4_bucketsInAllWays_5 σ n x1 (x2 + (o29 * o38.toInt64)) (x4 + 1)
def M_X4_bucketsInAllWays (σ : ST) (a1 : Int32) : Option Int64 := M_X4_bucketsInAllWays_5 σ 10000 a1 0 0
abbrev rm_X4_bucketsInAllWays : Room := { frames := 3, cells := 0, slots := 0, locals := 65 }
set_option maxRecDepth 100000 in
set_option maxHeartbeats 4000000 in
theorem c_X4_bucketsInAllWays (l : Launch) (d : CD) (q : Nat → Nat) (σ : ST) (a1 : Int32) (out : Int64) (hm : M_X4_bucketsInAllWays σ a1 = some out) : MetL l yX4_bucketsInAllWays cX4_bucketsInAllWays 5 (some .long) rm_X4_bucketsInAllWays d (cw q d σ) [.ref (q 32), .int a1] out (cw q d σ) := by
  refine mkL (own := RX4) (by decide +kernel) rfl (Nat.le_of_ble_eq_true rfl) ?_
  intro p e s m below meth c A ls C hS hl
  obtain ⟨hx, hb, hml, hown, hts, -⟩ := id C
  have hl : lv_has ls 5 [(0, .ref (q 32)), (1, .int a1)] := hl
  have L5 : ∀ (n : Nat) (x1 : Int32) (x2 : Int64) (x4 : Int32) (H : Heap) (locs : List Loc) (ls : Array Slot), HS d A s.heap H locs (cw q d σ) → lv_has ls 5 [(0, .ref (q 32)), (1, .int x1), (2, .long x2), (4, .int x4)] → M_X4_bucketsInAllWays_5 σ n x1 x2 x4 = some out → WL p l e rm_X4_bucketsInAllWays s m [.ref (q 32), .int a1].toArray below meth c A d H locs out (cw q d σ) (F0 m 5 ls []) := by
    intro n
    induction n with
    | zero =>
      intro x1 x2 x4 H locs ls hS hl hm
      exact absurd hm (by rw [M_X4_bucketsInAllWays_5]; exact fun h => nomatch h)
    | succ n ih =>
      intro x1 x2 x4 H locs ls hS hl hm
      rw [M_X4_bucketsInAllWays_5] at hm
      refine lv_iload hx hb dX4_bucketsInAllWays_5 (lv_at hl 3 rfl) ?_
      refine lv_aload_n hx hb dX4_bucketsInAllWays_7 rfl (lv_at hl 0 rfl) ?_
      refine g_4_35_32 C hS dX4_bucketsInAllWays_8 ?_
      refine lv_icmp_ge (tgt := 51) hx hb dX4_bucketsInAllWays_11 (by decide) (fun c11 => ?_) (fun c11 => ?_)
      · replace hm := it c11 hm
        refine lv_lload_n hx hb dX4_bucketsInAllWays_51 rfl (lv_at hl 2 rfl) ?_
        exact retLr C hS hm dX4_bucketsInAllWays_52
      · replace hm := ie c11 hm
        refine lv_aload_n hx hb dX4_bucketsInAllWays_14 rfl (lv_at hl 0 rfl) ?_
        refine g_4_9_32 C hS dX4_bucketsInAllWays_15 ?_
        refine lv_iload hx hb dX4_bucketsInAllWays_18 (lv_at hl 3 rfl) ?_
        obtain ⟨v20, e20, hm⟩ := ob hm
        refine zald' C hS cw_a33 e20 dX4_bucketsInAllWays_20 ?_
        refine lv_if_eq (tgt := 45) hx hb dX4_bucketsInAllWays_21 (by decide) (fun c21 => ?_) (fun c21 => ?_)
        · replace hm := it c21 hm
          refine lv_iinc (v := x4 + 1) (lv' := [(4, .int (x4 + 1)), (0, .ref (q 32)), (1, .int x1), (2, .long x2)]) hx hb dX4_bucketsInAllWays_45 hl (k := 3) rfl rfl (by decide) rfl (fun ls hl => ?_)
          refine lv_goto (tgt := 5) hx hb dX4_bucketsInAllWays_48 (by decide) ?_
          exact ih x1 x2 (x4 + 1) _ _ _ hS (lv_sub hl [1, 2, 3, 0] rfl) hm
        · replace hm := ie c21 hm
          refine lv_lload_n hx hb dX4_bucketsInAllWays_24 rfl (lv_at hl 2 rfl) ?_
          refine lv_aload_n hx hb dX4_bucketsInAllWays_25 rfl (lv_at hl 0 rfl) ?_
          refine lv_iload hx hb dX4_bucketsInAllWays_26 (lv_at hl 3 rfl) ?_
          refine lv_iload_n hx hb dX4_bucketsInAllWays_28 rfl (lv_at hl 1 rfl) ?_
          obtain ⟨o29, e29, hm⟩ := ob hm
          refine after_l C hS (call_V (As := [.int x4, .int x1]) C hS (c_X4_waysToCome l d q σ x4 x1 o29 e29 _) iv_4_81 ⟨rfl, rfl, Nat.le_of_ble_eq_true rfl, Nat.le_of_ble_eq_true rfl⟩ cw_o32 rfl rfl rfl hl.1 (Nat.le_of_ble_eq_true rfl) dX4_bucketsInAllWays_29) (fun H locs hS => ?_)
          refine lv_aload_n hx hb dX4_bucketsInAllWays_32 rfl (lv_at hl 0 rfl) ?_
          refine g_4_19_32 C hS dX4_bucketsInAllWays_33 ?_
          refine lv_iload hx hb dX4_bucketsInAllWays_36 (lv_at hl 3 rfl) ?_
          obtain ⟨o38, e38, hm⟩ := ob hm
          refine after_i C hS (call_V (As := [.int x4]) C hS (c_X5_drawnBy l d q σ x4 o38 e38 _) iv_4_42 ⟨rfl, rfl, Nat.le_of_ble_eq_true rfl, Nat.le_of_ble_eq_true rfl⟩ cw_o22 rfl rfl rfl hl.1 (Nat.le_of_ble_eq_true rfl) dX4_bucketsInAllWays_38) (fun H locs hS => ?_)
          refine lv_i2l (v := o38.toInt64) hx hb dX4_bucketsInAllWays_41 rfl ?_
          refine lv_lmul hx hb dX4_bucketsInAllWays_42 ?_
          refine lv_ladd hx hb dX4_bucketsInAllWays_43 ?_
          refine lv_lstore_n (lv' := [(2, .long (x2 + (o29 * o38.toInt64))), (0, .ref (q 32)), (1, .int x1), (4, .int x4)]) hx hb dX4_bucketsInAllWays_44 rfl hl (by decide) rfl (fun ls hl => ?_)
          refine lv_iinc (v := x4 + 1) (lv' := [(4, .int (x4 + 1)), (2, .long (x2 + (o29 * o38.toInt64))), (0, .ref (q 32)), (1, .int x1)]) hx hb dX4_bucketsInAllWays_45 hl (k := 3) rfl rfl (by decide) rfl (fun ls hl => ?_)
          refine lv_goto (tgt := 5) hx hb dX4_bucketsInAllWays_48 (by decide) ?_
          exact ih x1 (x2 + (o29 * o38.toInt64)) (x4 + 1) _ _ _ hS (lv_sub hl [2, 3, 1, 0] rfl) hm
  unfold M_X4_bucketsInAllWays at hm
  refine lv_lconst (v := 0) hx hb dX4_bucketsInAllWays_0 (by decide) ?_
  refine lv_lstore_n (lv' := [(2, .long 0), (0, .ref (q 32)), (1, .int a1)]) hx hb dX4_bucketsInAllWays_1 rfl hl (by decide) rfl (fun ls hl => ?_)
  refine lv_iconst (v := 0) hx hb dX4_bucketsInAllWays_2 (by decide) ?_
  refine lv_istore (lv' := [(4, .int 0), (2, .long 0), (0, .ref (q 32)), (1, .int a1)]) hx hb dX4_bucketsInAllWays_3 hl (by decide) rfl (fun ls hl => ?_)
  exact L5 10000 a1 0 0 _ _ _ hS (lv_sub hl [2, 3, 1, 0] rfl) hm
def M_X6_mid (σ : ST) (a1 : Int32) : Option (Int32 × ST) := (M_X6_refusalOfChance σ a1).bind fun o2 => if o2 = 0 then (M_X4_look σ).bind fun o16 => (M_X4_bucketsInAllWays o16 a1).bind fun o25 => (M_X5_houses o16).bind fun o34 => (M_X6_power 12 o34).bind fun o37 => (M_X6_tell o16 o25 o37).bind fun o40 => some (1, o40) else some (o2, σ)
abbrev rm_X6_mid : Room := { frames := 5, cells := 0, slots := 0, locals := 109 }
set_option maxRecDepth 100000 in
set_option maxHeartbeats 4000000 in
theorem c_X6_mid (l : Launch) (d : CD) (q : Nat → Nat) (σ : ST) (a1 : Int32) (out : Int32 × ST) (hm : M_X6_mid σ a1 = some out) : MetI l yX6_mid cX6_mid 3 (some .int) rm_X6_mid d (cw q d σ) [.ref (q 0), .int a1] out.1 (cw q d out.2) := by
  refine mkI (own := RX6) (by decide +kernel) rfl (Nat.le_of_ble_eq_true rfl) ?_
  intro p e s m below meth c A ls C hS hl
  obtain ⟨hx, hb, hml, hown, hts, -⟩ := id C
  have hl : lv_has ls 3 [(0, .ref (q 0)), (1, .int a1)] := hl
  unfold M_X6_mid at hm
  refine lv_aload_n hx hb dX6_mid_0 rfl (lv_at hl 0 rfl) ?_
  refine lv_iload_n hx hb dX6_mid_1 rfl (lv_at hl 1 rfl) ?_
  obtain ⟨o2, e2, hm⟩ := ob hm
  refine after_i C hS (call_V (As := [.int a1]) C hS (c_X6_refusalOfChance l d q σ a1 o2 e2 _) iv_6_273 ⟨rfl, rfl, Nat.le_of_ble_eq_true rfl, Nat.le_of_ble_eq_true rfl⟩ cw_o0 rfl rfl rfl hl.1 (Nat.le_of_ble_eq_true rfl) dX6_mid_2) (fun H locs hS => ?_)
  refine lv_istore_n (lv' := [(2, .int o2), (0, .ref (q 0)), (1, .int a1)]) hx hb dX6_mid_5 rfl hl (by decide) rfl (fun ls hl => ?_)
  refine lv_iload_n hx hb dX6_mid_6 rfl (lv_at hl 0 rfl) ?_
  refine lv_if_eq (tgt := 12) hx hb dX6_mid_7 (by decide) (fun c7 => ?_) (fun c7 => ?_)
  · replace hm := it c7 hm
    refine lv_aload_n hx hb dX6_mid_12 rfl (lv_at hl 1 rfl) ?_
    refine g_6_42_0 C hS dX6_mid_13 ?_
    obtain ⟨o16, e16, hm⟩ := ob hm
    refine after_v C hS (call_V (As := []) C hS (c_X4_look l d q σ o16 e16 _) iv_6_203 ⟨rfl, rfl, Nat.le_of_ble_eq_true rfl, Nat.le_of_ble_eq_true rfl⟩ cw_o32 rfl rfl rfl hl.1 (Nat.le_of_ble_eq_true rfl) dX6_mid_16) (fun H locs hS => ?_)
    refine lv_aload_n hx hb dX6_mid_19 rfl (lv_at hl 1 rfl) ?_
    refine lv_aload_n hx hb dX6_mid_20 rfl (lv_at hl 1 rfl) ?_
    refine g_6_42_0 C hS dX6_mid_21 ?_
    refine lv_iload_n hx hb dX6_mid_24 rfl (lv_at hl 2 rfl) ?_
    obtain ⟨o25, e25, hm⟩ := ob hm
    refine after_l C hS (call_V (As := [.int a1]) C hS (c_X4_bucketsInAllWays l d q o16 a1 o25 e25 _) iv_6_283 ⟨rfl, rfl, Nat.le_of_ble_eq_true rfl, Nat.le_of_ble_eq_true rfl⟩ cw_o32 rfl rfl rfl hl.1 (Nat.le_of_ble_eq_true rfl) dX6_mid_25) (fun H locs hS => ?_)
    refine lv_bipush (v := 12) hx hb dX6_mid_28 (by decide) ?_
    refine lv_aload_n hx hb dX6_mid_30 rfl (lv_at hl 1 rfl) ?_
    refine g_6_33_0 C hS dX6_mid_31 ?_
    obtain ⟨o34, e34, hm⟩ := ob hm
    refine after_i C hS (call_V (As := []) C hS (c_X5_houses l d q o16 o34 e34 _) iv_6_140 ⟨rfl, rfl, Nat.le_of_ble_eq_true rfl, Nat.le_of_ble_eq_true rfl⟩ cw_o22 rfl rfl rfl hl.1 (Nat.le_of_ble_eq_true rfl) dX6_mid_34) (fun H locs hS => ?_)
    obtain ⟨o37, e37, hm⟩ := ob hm
    refine after_l C hS (call_S (As := [.int 12, .int o34]) C hS (c_X6_power l d (cw q d o16) 12 o34 o37 e37 _) is_6_279 ⟨rfl, rfl, Nat.le_of_ble_eq_true rfl, Nat.le_of_ble_eq_true rfl⟩ rfl hl.1 (Nat.le_of_ble_eq_true rfl) dX6_mid_37) (fun H locs hS => ?_)
    obtain ⟨o40, e40, hm⟩ := ob hm
    refine after_v C hS (call_V (As := [.long o25, .long o37]) C hS (c_X6_tell l d q o16 o25 o37 o40 e40 _) iv_6_209 ⟨rfl, rfl, Nat.le_of_ble_eq_true rfl, Nat.le_of_ble_eq_true rfl⟩ cw_o0 rfl rfl rfl hl.1 (Nat.le_of_ble_eq_true rfl) dX6_mid_40) (fun H locs hS => ?_)
    refine lv_iconst (v := 1) hx hb dX6_mid_43 (by decide) ?_
    exact retIw (wf := cw q d) C hS hm dX6_mid_44
  · replace hm := ie c7 hm
    refine lv_iload_n hx hb dX6_mid_10 rfl (lv_at hl 0 rfl) ?_
    exact retIw (wf := cw q d) C hS hm dX6_mid_11
def M_X6_meetingRising_4 : Nat → Int32 → Int32 → Int32 → Option Int32
  | 0, _, _, _ => none
  | n + 1, x0, x1, x2 => if 7 ≤ x2 then some x1 else (M_X6_isIn x2 x0).bind fun o12 => if o12 = 0 then M_X6_meetingRising_4 n x0 x1 (x2 + 1) else (M_X6_joinMeeting x1 x2).bind fun o20 => M_X6_meetingRising_4 n x0 o20 (x2 + 1)
def M_X6_meetingRising (a0 : Int32) : Option Int32 := M_X6_meetingRising_4 10000 a0 0 0
abbrev rm_X6_meetingRising : Room := { frames := 1, cells := 0, slots := 0, locals := 22 }
set_option maxRecDepth 100000 in
set_option maxHeartbeats 4000000 in
theorem c_X6_meetingRising (l : Launch) (d : CD) (w : va_W) (a0 : Int32) (out : Int32) (hm : M_X6_meetingRising a0 = some out) : MetI l yX6_meetingRising cX6_meetingRising 3 (some .int) rm_X6_meetingRising d w [.int a0] out w := by
  refine mkI (own := RX6) (by decide +kernel) rfl (Nat.le_of_ble_eq_true rfl) ?_
  intro p e s m below meth c A ls C hS hl
  obtain ⟨hx, hb, hml, hown, hts, -⟩ := id C
  have hl : lv_has ls 3 [(0, .int a0)] := hl
  have L4 : ∀ (n : Nat) (x0 : Int32) (x1 : Int32) (x2 : Int32) (H : Heap) (locs : List Loc) (ls : Array Slot), HS d A s.heap H locs w → lv_has ls 3 [(0, .int x0), (1, .int x1), (2, .int x2)] → M_X6_meetingRising_4 n x0 x1 x2 = some out → WI p l e rm_X6_meetingRising s m [.int a0].toArray below meth c A d H locs out w (F0 m 4 ls []) := by
    intro n
    induction n with
    | zero =>
      intro x0 x1 x2 H locs ls hS hl hm
      exact absurd hm (by rw [M_X6_meetingRising_4]; exact fun h => nomatch h)
    | succ n ih =>
      intro x0 x1 x2 H locs ls hS hl hm
      rw [M_X6_meetingRising_4] at hm
      refine lv_iload_n hx hb dX6_meetingRising_4 rfl (lv_at hl 2 rfl) ?_
      refine lv_bipush (v := 7) hx hb dX6_meetingRising_5 (by decide) ?_
      refine lv_icmp_ge (tgt := 30) hx hb dX6_meetingRising_7 (by decide) (fun c7 => ?_) (fun c7 => ?_)
      · replace hm := it c7 hm
        refine lv_iload_n hx hb dX6_meetingRising_30 rfl (lv_at hl 1 rfl) ?_
        exact retIr C hS hm dX6_meetingRising_31
      · replace hm := ie c7 hm
        refine lv_iload_n hx hb dX6_meetingRising_10 rfl (lv_at hl 2 rfl) ?_
        refine lv_iload_n hx hb dX6_meetingRising_11 rfl (lv_at hl 0 rfl) ?_
        obtain ⟨o12, e12, hm⟩ := ob hm
        refine after_i C hS (call_S (As := [.int x2, .int x0]) C hS (c_X6_isIn l d w x2 x0 o12 e12 _) is_6_337 ⟨rfl, rfl, Nat.le_of_ble_eq_true rfl, Nat.le_of_ble_eq_true rfl⟩ rfl hl.1 (Nat.le_of_ble_eq_true rfl) dX6_meetingRising_12) (fun H locs hS => ?_)
        refine lv_if_eq (tgt := 24) hx hb dX6_meetingRising_15 (by decide) (fun c15 => ?_) (fun c15 => ?_)
        · replace hm := it c15 hm
          refine lv_iinc (v := x2 + 1) (lv' := [(2, .int (x2 + 1)), (0, .int x0), (1, .int x1)]) hx hb dX6_meetingRising_24 hl (k := 2) rfl rfl (by decide) rfl (fun ls hl => ?_)
          refine lv_goto (tgt := 4) hx hb dX6_meetingRising_27 (by decide) ?_
          exact ih x0 x1 (x2 + 1) _ _ _ hS (lv_sub hl [1, 2, 0] rfl) hm
        · replace hm := ie c15 hm
          refine lv_iload_n hx hb dX6_meetingRising_18 rfl (lv_at hl 1 rfl) ?_
          refine lv_iload_n hx hb dX6_meetingRising_19 rfl (lv_at hl 2 rfl) ?_
          obtain ⟨o20, e20, hm⟩ := ob hm
          refine after_i C hS (call_S (As := [.int x1, .int x2]) C hS (c_X6_joinMeeting l d w x1 x2 o20 e20 _) is_6_340 ⟨rfl, rfl, Nat.le_of_ble_eq_true rfl, Nat.le_of_ble_eq_true rfl⟩ rfl hl.1 (Nat.le_of_ble_eq_true rfl) dX6_meetingRising_20) (fun H locs hS => ?_)
          refine lv_istore_n (lv' := [(1, .int o20), (0, .int x0), (2, .int x2)]) hx hb dX6_meetingRising_23 rfl hl (by decide) rfl (fun ls hl => ?_)
          refine lv_iinc (v := x2 + 1) (lv' := [(2, .int (x2 + 1)), (1, .int o20), (0, .int x0)]) hx hb dX6_meetingRising_24 hl (k := 2) rfl rfl (by decide) rfl (fun ls hl => ?_)
          refine lv_goto (tgt := 4) hx hb dX6_meetingRising_27 (by decide) ?_
          exact ih x0 o20 (x2 + 1) _ _ _ hS (lv_sub hl [2, 1, 0] rfl) hm
  unfold M_X6_meetingRising at hm
  refine lv_iconst (v := 0) hx hb dX6_meetingRising_0 (by decide) ?_
  refine lv_istore_n (lv' := [(1, .int 0), (0, .int a0)]) hx hb dX6_meetingRising_1 rfl hl (by decide) rfl (fun ls hl => ?_)
  refine lv_iconst (v := 0) hx hb dX6_meetingRising_2 (by decide) ?_
  refine lv_istore_n (lv' := [(2, .int 0), (1, .int 0), (0, .int a0)]) hx hb dX6_meetingRising_3 rfl hl (by decide) rfl (fun ls hl => ?_)
  exact L4 10000 a0 0 0 _ _ _ hS (lv_sub hl [2, 1, 0] rfl) hm
def M_X6_lots_131 (k68 : ST → Int32 → Int64 → Int32 → Int32 → Option (Int32 × ST)) (σ : ST) (x1 : Int32) (x3 : Int64) (x5 : Int32) (x6 : Int32) : Option (Int32 × ST) := (M_X5_perform σ 2).bind fun o136 => k68 o136.2 x1 x3 x5 (x6 + 1)
def M_X6_lots_68 : Nat → ST → Int32 → Int64 → Int32 → Int32 → Option (Int32 × ST)
  | 0, _, _, _, _, _ => none
  | n + 1, σ, x1, x3, x5, x6 => if x1 ≤ x6 then some (x5, σ) else (M_X5_sets σ).bind fun o94 => (M_X5_isOpenTo σ (((((x3 * 48271) - (x3 * 48271) / 2147483647 * 2147483647) / 8).toInt32) &&& (o94 - 1))).bind fun o108 => if o108 = 0 then M_X6_lots_131 (M_X6_lots_68 n) σ x1 ((x3 * 48271) - (x3 * 48271) / 2147483647 * 2147483647) x5 x6 else (M_X6_meetingRising (((((x3 * 48271) - (x3 * 48271) / 2147483647 * 2147483647) / 8).toInt32) &&& (o94 - 1))).bind fun o122 => (M_X5_perform σ o122).bind fun o125 => M_X6_lots_131 (M_X6_lots_68 n) o125.2 x1 ((x3 * 48271) - (x3 * 48271) / 2147483647 * 2147483647) (x5 + o125.1) x6
def M_X6_lots (σ : ST) (a1 : Int32) (a2 : Int32) : Option (Int32 × ST) := if a1 < 1 then some ((-1), σ) else if 20 < a1 then some ((-1), σ) else if a2 < 1 then some ((-1), σ) else if (lg_cmp a2.toInt64 2147483647) < 0 then (M_X5_houses σ).bind fun o31 => if o31 = 0 then some ((-4), σ) else (M_X1_isFull σ (2 * a1)).bind fun o50 => if o50 = 0 then M_X6_lots_68 10000 σ a1 a2.toInt64 0 0 else some ((-2), σ) else some ((-1), σ)
abbrev rm_X6_lots : Room := { frames := 5, cells := 0, slots := 0, locals := 110 }
set_option maxRecDepth 100000 in
set_option maxHeartbeats 4000000 in
theorem c_X6_lots (l : Launch) (d : CD) (q : Nat → Nat) (σ : ST) (a1 : Int32) (a2 : Int32) (out : Int32 × ST) (hm : M_X6_lots σ a1 a2 = some out) : MetI l yX6_lots cX6_lots 8 (some .int) rm_X6_lots d (cw q d σ) [.ref (q 0), .int a1, .int a2] out.1 (cw q d out.2) := by
  refine mkI (own := RX6) (by decide +kernel) rfl (Nat.le_of_ble_eq_true rfl) ?_
  intro p e s m below meth c A ls C hS hl
  obtain ⟨hx, hb, hml, hown, hts, -⟩ := id C
  have hl : lv_has ls 8 [(0, .ref (q 0)), (1, .int a1), (2, .int a2)] := hl
  have J131 : ∀ (k68 : ST → Int32 → Int64 → Int32 → Int32 → Option (Int32 × ST)) (hk68 : ∀ (σ : ST) (x1 : Int32) (x3 : Int64) (x5 : Int32) (x6 : Int32) (H : Heap) (locs : List Loc) (ls : Array Slot), HS d A s.heap H locs (cw q d σ) → lv_has ls 8 [(0, .ref (q 0)), (1, .int x1), (3, .long x3), (5, .int x5), (6, .int x6)] → k68 σ x1 x3 x5 x6 = some out → WI p l e rm_X6_lots s m [.ref (q 0), .int a1, .int a2].toArray below meth c A d H locs out.1 (cw q d out.2) (F0 m 68 ls [])) (σ : ST) (x1 : Int32) (x3 : Int64) (x5 : Int32) (x6 : Int32) (H : Heap) (locs : List Loc) (ls : Array Slot), HS d A s.heap H locs (cw q d σ) → lv_has ls 8 [(0, .ref (q 0)), (1, .int x1), (3, .long x3), (5, .int x5), (6, .int x6)] → M_X6_lots_131 k68 σ x1 x3 x5 x6 = some out → WI p l e rm_X6_lots s m [.ref (q 0), .int a1, .int a2].toArray below meth c A d H locs out.1 (cw q d out.2) (F0 m 131 ls []) := by
    intro k68 hk68 σ x1 x3 x5 x6 H locs ls hS hl hm
    unfold M_X6_lots_131 at hm
    refine lv_aload_n hx hb dX6_lots_131 rfl (lv_at hl 0 rfl) ?_
    refine g_6_33_0 C hS dX6_lots_132 ?_
    refine lv_iconst (v := 2) hx hb dX6_lots_135 (by decide) ?_
    obtain ⟨o136, e136, hm⟩ := ob hm
    refine after_i C hS (call_V (As := [.int 2]) C hS (c_X5_perform l d q σ 2 o136 e136 _) iv_6_178 ⟨rfl, rfl, Nat.le_of_ble_eq_true rfl, Nat.le_of_ble_eq_true rfl⟩ cw_o22 rfl rfl rfl hl.1 (Nat.le_of_ble_eq_true rfl) dX6_lots_136) (fun H locs hS => ?_)
    refine lv_pop hx hb dX6_lots_139 rfl ?_
    refine lv_iinc (v := x6 + 1) (lv' := [(6, .int (x6 + 1)), (0, .ref (q 0)), (1, .int x1), (3, .long x3), (5, .int x5)]) hx hb dX6_lots_140 hl (k := 4) rfl rfl (by decide) rfl (fun ls hl => ?_)
    refine lv_goto (tgt := 68) hx hb dX6_lots_143 (by decide) ?_
    exact hk68 o136.2 x1 x3 x5 (x6 + 1) _ _ _ hS (lv_sub hl [1, 2, 3, 4, 0] rfl) hm
  have L68 : ∀ (n : Nat) (σ : ST) (x1 : Int32) (x3 : Int64) (x5 : Int32) (x6 : Int32) (H : Heap) (locs : List Loc) (ls : Array Slot), HS d A s.heap H locs (cw q d σ) → lv_has ls 8 [(0, .ref (q 0)), (1, .int x1), (3, .long x3), (5, .int x5), (6, .int x6)] → M_X6_lots_68 n σ x1 x3 x5 x6 = some out → WI p l e rm_X6_lots s m [.ref (q 0), .int a1, .int a2].toArray below meth c A d H locs out.1 (cw q d out.2) (F0 m 68 ls []) := by
    intro n
    induction n with
    | zero =>
      intro σ x1 x3 x5 x6 H locs ls hS hl hm
      exact absurd hm (by rw [M_X6_lots_68]; exact fun h => nomatch h)
    | succ n ih =>
      intro σ x1 x3 x5 x6 H locs ls hS hl hm
      rw [M_X6_lots_68] at hm
      refine lv_iload hx hb dX6_lots_68 (lv_at hl 4 rfl) ?_
      refine lv_iload_n hx hb dX6_lots_70 rfl (lv_at hl 1 rfl) ?_
      refine lv_icmp_ge (tgt := 146) hx hb dX6_lots_71 (by decide) (fun c71 => ?_) (fun c71 => ?_)
      · replace hm := it c71 hm
        refine lv_iload hx hb dX6_lots_146 (lv_at hl 3 rfl) ?_
        exact retIw (wf := cw q d) C hS hm dX6_lots_148
      · replace hm := ie c71 hm
        refine lv_lload_n hx hb dX6_lots_74 rfl (lv_at hl 2 rfl) ?_
        refine lv_ldc2 (v := 48271) hx hb hown (hts _ lc_X6_288) dX6_lots_75 ?_
        refine lv_lmul hx hb dX6_lots_78 ?_
        refine lv_ldc2 (v := 2147483647) hx hb hown (hts _ lc_X6_286) dX6_lots_79 ?_
        refine lv_lrem hx hb dX6_lots_82 (by decide) ?_
        refine lv_lstore_n (lv' := [(3, .long ((x3 * 48271) - (x3 * 48271) / 2147483647 * 2147483647)), (0, .ref (q 0)), (1, .int x1), (5, .int x5), (6, .int x6)]) hx hb dX6_lots_83 rfl hl (by decide) rfl (fun ls hl => ?_)
        refine lv_lload_n hx hb dX6_lots_84 rfl (lv_at hl 0 rfl) ?_
        refine lv_ldc2 (v := 8) hx hb hown (hts _ lc_X6_290) dX6_lots_85 ?_
        refine lv_ldiv hx hb dX6_lots_88 (by decide) ?_
        refine lv_l2i (v := (((x3 * 48271) - (x3 * 48271) / 2147483647 * 2147483647) / 8).toInt32) hx hb dX6_lots_89 rfl ?_
        refine lv_aload_n hx hb dX6_lots_90 rfl (lv_at hl 1 rfl) ?_
        refine g_6_33_0 C hS dX6_lots_91 ?_
        obtain ⟨o94, e94, hm⟩ := ob hm
        refine after_i C hS (call_V (As := []) C hS (c_X5_sets l d q σ o94 e94 _) iv_6_292 ⟨rfl, rfl, Nat.le_of_ble_eq_true rfl, Nat.le_of_ble_eq_true rfl⟩ cw_o22 rfl rfl rfl hl.1 (Nat.le_of_ble_eq_true rfl) dX6_lots_94) (fun H locs hS => ?_)
        refine lv_iconst (v := 1) hx hb dX6_lots_97 (by decide) ?_
        refine lv_isub hx hb dX6_lots_98 ?_
        refine lv_iand hx hb dX6_lots_99 ?_
        refine lv_istore (lv' := [(7, .int (((((x3 * 48271) - (x3 * 48271) / 2147483647 * 2147483647) / 8).toInt32) &&& (o94 - 1))), (3, .long ((x3 * 48271) - (x3 * 48271) / 2147483647 * 2147483647)), (0, .ref (q 0)), (1, .int x1), (5, .int x5), (6, .int x6)]) hx hb dX6_lots_100 hl (by decide) rfl (fun ls hl => ?_)
        refine lv_aload_n hx hb dX6_lots_102 rfl (lv_at hl 2 rfl) ?_
        refine g_6_33_0 C hS dX6_lots_103 ?_
        refine lv_iload hx hb dX6_lots_106 (lv_at hl 0 rfl) ?_
        obtain ⟨o108, e108, hm⟩ := ob hm
        refine after_i C hS (call_V (As := [.int (((((x3 * 48271) - (x3 * 48271) / 2147483647 * 2147483647) / 8).toInt32) &&& (o94 - 1))]) C hS (c_X5_isOpenTo l d q σ (((((x3 * 48271) - (x3 * 48271) / 2147483647 * 2147483647) / 8).toInt32) &&& (o94 - 1)) o108 e108 _) iv_6_165 ⟨rfl, rfl, Nat.le_of_ble_eq_true rfl, Nat.le_of_ble_eq_true rfl⟩ cw_o22 rfl rfl rfl hl.1 (Nat.le_of_ble_eq_true rfl) dX6_lots_108) (fun H locs hS => ?_)
        refine lv_if_eq (tgt := 131) hx hb dX6_lots_111 (by decide) (fun c111 => ?_) (fun c111 => ?_)
        · replace hm := it c111 hm
          exact J131 (M_X6_lots_68 n) ih σ x1 ((x3 * 48271) - (x3 * 48271) / 2147483647 * 2147483647) x5 x6 _ _ _ hS (lv_sub hl [2, 3, 1, 4, 5] rfl) hm
        · replace hm := ie c111 hm
          refine lv_iload hx hb dX6_lots_114 (lv_at hl 4 rfl) ?_
          refine lv_aload_n hx hb dX6_lots_116 rfl (lv_at hl 2 rfl) ?_
          refine g_6_33_0 C hS dX6_lots_117 ?_
          refine lv_iload hx hb dX6_lots_120 (lv_at hl 0 rfl) ?_
          obtain ⟨o122, e122, hm⟩ := ob hm
          refine after_i C hS (call_S (As := [.int (((((x3 * 48271) - (x3 * 48271) / 2147483647 * 2147483647) / 8).toInt32) &&& (o94 - 1))]) C hS (c_X6_meetingRising l d (cw q d σ) (((((x3 * 48271) - (x3 * 48271) / 2147483647 * 2147483647) / 8).toInt32) &&& (o94 - 1)) o122 e122 _) is_6_295 ⟨rfl, rfl, Nat.le_of_ble_eq_true rfl, Nat.le_of_ble_eq_true rfl⟩ rfl hl.1 (Nat.le_of_ble_eq_true rfl) dX6_lots_122) (fun H locs hS => ?_)
          obtain ⟨o125, e125, hm⟩ := ob hm
          refine after_i C hS (call_V (As := [.int o122]) C hS (c_X5_perform l d q σ o122 o125 e125 _) iv_6_178 ⟨rfl, rfl, Nat.le_of_ble_eq_true rfl, Nat.le_of_ble_eq_true rfl⟩ cw_o22 rfl rfl rfl hl.1 (Nat.le_of_ble_eq_true rfl) dX6_lots_125) (fun H locs hS => ?_)
          refine lv_iadd hx hb dX6_lots_128 ?_
          refine lv_istore (lv' := [(5, .int (x5 + o125.1)), (7, .int (((((x3 * 48271) - (x3 * 48271) / 2147483647 * 2147483647) / 8).toInt32) &&& (o94 - 1))), (3, .long ((x3 * 48271) - (x3 * 48271) / 2147483647 * 2147483647)), (0, .ref (q 0)), (1, .int x1), (6, .int x6)]) hx hb dX6_lots_129 hl (by decide) rfl (fun ls hl => ?_)
          exact J131 (M_X6_lots_68 n) ih o125.2 x1 ((x3 * 48271) - (x3 * 48271) / 2147483647 * 2147483647) (x5 + o125.1) x6 _ _ _ hS (lv_sub hl [3, 4, 2, 0, 5] rfl) hm
  unfold M_X6_lots at hm
  refine lv_iload_n hx hb dX6_lots_0 rfl (lv_at hl 1 rfl) ?_
  refine lv_iconst (v := 1) hx hb dX6_lots_1 (by decide) ?_
  refine lv_icmp_lt (tgt := 25) hx hb dX6_lots_2 (by decide) (fun c2 => ?_) (fun c2 => ?_)
  · replace hm := it c2 hm
    refine lv_iconst (v := (-1)) hx hb dX6_lots_25 (by decide) ?_
    exact retIw (wf := cw q d) C hS hm dX6_lots_26
  · replace hm := ie c2 hm
    refine lv_iload_n hx hb dX6_lots_5 rfl (lv_at hl 1 rfl) ?_
    refine lv_bipush (v := 20) hx hb dX6_lots_6 (by decide) ?_
    refine lv_icmp_gt (tgt := 25) hx hb dX6_lots_8 (by decide) (fun c8 => ?_) (fun c8 => ?_)
    · replace hm := it c8 hm
      refine lv_iconst (v := (-1)) hx hb dX6_lots_25 (by decide) ?_
      exact retIw (wf := cw q d) C hS hm dX6_lots_26
    · replace hm := ie c8 hm
      refine lv_iload_n hx hb dX6_lots_11 rfl (lv_at hl 2 rfl) ?_
      refine lv_iconst (v := 1) hx hb dX6_lots_12 (by decide) ?_
      refine lv_icmp_lt (tgt := 25) hx hb dX6_lots_13 (by decide) (fun c13 => ?_) (fun c13 => ?_)
      · replace hm := it c13 hm
        refine lv_iconst (v := (-1)) hx hb dX6_lots_25 (by decide) ?_
        exact retIw (wf := cw q d) C hS hm dX6_lots_26
      · replace hm := ie c13 hm
        refine lv_iload_n hx hb dX6_lots_16 rfl (lv_at hl 2 rfl) ?_
        refine lv_i2l (v := a2.toInt64) hx hb dX6_lots_17 rfl ?_
        refine lv_ldc2 (v := 2147483647) hx hb hown (hts _ lc_X6_286) dX6_lots_18 ?_
        refine W.lcmp hx hb dX6_lots_21 ?_
        refine lv_if_lt (tgt := 27) hx hb dX6_lots_22 (by decide) (fun c22 => ?_) (fun c22 => ?_)
        · replace hm := it c22 hm
          refine lv_aload_n hx hb dX6_lots_27 rfl (lv_at hl 0 rfl) ?_
          refine g_6_33_0 C hS dX6_lots_28 ?_
          obtain ⟨o31, e31, hm⟩ := ob hm
          refine after_i C hS (call_V (As := []) C hS (c_X5_houses l d q σ o31 e31 _) iv_6_140 ⟨rfl, rfl, Nat.le_of_ble_eq_true rfl, Nat.le_of_ble_eq_true rfl⟩ cw_o22 rfl rfl rfl hl.1 (Nat.le_of_ble_eq_true rfl) dX6_lots_31) (fun H locs hS => ?_)
          refine lv_if_ne (tgt := 40) hx hb dX6_lots_34 (by decide) (fun c34 => ?_) (fun c34 => ?_)
          · replace hm := ie c34 hm
            refine lv_aload_n hx hb dX6_lots_40 rfl (lv_at hl 0 rfl) ?_
            refine g_6_33_0 C hS dX6_lots_41 ?_
            refine g_6_168_22 C hS dX6_lots_44 ?_
            refine lv_iconst (v := 2) hx hb dX6_lots_47 (by decide) ?_
            refine lv_iload_n hx hb dX6_lots_48 rfl (lv_at hl 1 rfl) ?_
            refine lv_imul hx hb dX6_lots_49 ?_
            obtain ⟨o50, e50, hm⟩ := ob hm
            refine after_i C hS (call_V (As := [.int (2 * a1)]) C hS (c_X1_isFull l d q σ (2 * a1) o50 e50 _) iv_6_172 ⟨rfl, rfl, Nat.le_of_ble_eq_true rfl, Nat.le_of_ble_eq_true rfl⟩ cw_o27 rfl rfl rfl hl.1 (Nat.le_of_ble_eq_true rfl) dX6_lots_50) (fun H locs hS => ?_)
            refine lv_if_eq (tgt := 59) hx hb dX6_lots_53 (by decide) (fun c53 => ?_) (fun c53 => ?_)
            · replace hm := it c53 hm
              refine lv_iload_n hx hb dX6_lots_59 rfl (lv_at hl 2 rfl) ?_
              refine lv_i2l (v := a2.toInt64) hx hb dX6_lots_60 rfl ?_
              refine lv_lstore_n (lv' := [(3, .long a2.toInt64), (0, .ref (q 0)), (1, .int a1), (2, .int a2)]) hx hb dX6_lots_61 rfl hl (by decide) rfl (fun ls hl => ?_)
              refine lv_iconst (v := 0) hx hb dX6_lots_62 (by decide) ?_
              refine lv_istore (lv' := [(5, .int 0), (3, .long a2.toInt64), (0, .ref (q 0)), (1, .int a1), (2, .int a2)]) hx hb dX6_lots_63 hl (by decide) rfl (fun ls hl => ?_)
              refine lv_iconst (v := 0) hx hb dX6_lots_65 (by decide) ?_
              refine lv_istore (lv' := [(6, .int 0), (5, .int 0), (3, .long a2.toInt64), (0, .ref (q 0)), (1, .int a1), (2, .int a2)]) hx hb dX6_lots_66 hl (by decide) rfl (fun ls hl => ?_)
              exact L68 10000 σ a1 a2.toInt64 0 0 _ _ _ hS (lv_sub hl [3, 4, 2, 1, 0] rfl) hm
            · replace hm := ie c53 hm
              refine lv_bipush (v := (-2)) hx hb dX6_lots_56 (by decide) ?_
              exact retIw (wf := cw q d) C hS hm dX6_lots_58
          · replace hm := it c34 hm
            refine lv_bipush (v := (-4)) hx hb dX6_lots_37 (by decide) ?_
            exact retIw (wf := cw q d) C hS hm dX6_lots_39
        · replace hm := ie c22 hm
          refine lv_iconst (v := (-1)) hx hb dX6_lots_25 (by decide) ?_
          exact retIw (wf := cw q d) C hS hm dX6_lots_26
def M_X6_asked (σ : ST) : Option Int32 := some (σ.1 8)
abbrev rm_X6_asked : Room := { frames := 0, cells := 0, slots := 0, locals := 0 }
set_option maxRecDepth 100000 in
set_option maxHeartbeats 4000000 in
theorem c_X6_asked (l : Launch) (d : CD) (q : Nat → Nat) (σ : ST) (out : Int32) (hm : M_X6_asked σ = some out) : MetI l yX6_asked cX6_asked 1 (some .int) rm_X6_asked d (cw q d σ) [.ref (q 0)] out (cw q d σ) := by
  refine mkI (own := RX6) (by decide +kernel) rfl (Nat.le_of_ble_eq_true rfl) ?_
  intro p e s m below meth c A ls C hS hl
  obtain ⟨hx, hb, hml, hown, hts, -⟩ := id C
  have hl : lv_has ls 1 [(0, .ref (q 0))] := hl
  unfold M_X6_asked at hm
  refine lv_aload_n hx hb dX6_asked_0 rfl (lv_at hl 0 rfl) ?_
  refine g_6_60_0 C hS dX6_asked_1 ?_
  exact retIr C hS hm dX6_asked_4
def M_X6_upper (σ : ST) : Option Int64 := some (σ.2.1 9)
abbrev rm_X6_upper : Room := { frames := 0, cells := 0, slots := 0, locals := 0 }
set_option maxRecDepth 100000 in
set_option maxHeartbeats 4000000 in
theorem c_X6_upper (l : Launch) (d : CD) (q : Nat → Nat) (σ : ST) (out : Int64) (hm : M_X6_upper σ = some out) : MetL l yX6_upper cX6_upper 1 (some .long) rm_X6_upper d (cw q d σ) [.ref (q 0)] out (cw q d σ) := by
  refine mkL (own := RX6) (by decide +kernel) rfl (Nat.le_of_ble_eq_true rfl) ?_
  intro p e s m below meth c A ls C hS hl
  obtain ⟨hx, hb, hml, hown, hts, -⟩ := id C
  have hl : lv_has ls 1 [(0, .ref (q 0))] := hl
  unfold M_X6_upper at hm
  refine lv_aload_n hx hb dX6_upper_0 rfl (lv_at hl 0 rfl) ?_
  refine g_6_63_0 C hS dX6_upper_1 ?_
  exact retLr C hS hm dX6_upper_4
def M_X6_lower (σ : ST) : Option Int64 := some (σ.2.1 10)
abbrev rm_X6_lower : Room := { frames := 0, cells := 0, slots := 0, locals := 0 }
set_option maxRecDepth 100000 in
set_option maxHeartbeats 4000000 in
theorem c_X6_lower (l : Launch) (d : CD) (q : Nat → Nat) (σ : ST) (out : Int64) (hm : M_X6_lower σ = some out) : MetL l yX6_lower cX6_lower 1 (some .long) rm_X6_lower d (cw q d σ) [.ref (q 0)] out (cw q d σ) := by
  refine mkL (own := RX6) (by decide +kernel) rfl (Nat.le_of_ble_eq_true rfl) ?_
  intro p e s m below meth c A ls C hS hl
  obtain ⟨hx, hb, hml, hown, hts, -⟩ := id C
  have hl : lv_has ls 1 [(0, .ref (q 0))] := hl
  unfold M_X6_lower at hm
  refine lv_aload_n hx hb dX6_lower_0 rfl (lv_at hl 0 rfl) ?_
  refine g_6_67_0 C hS dX6_lower_1 ?_
  exact retLr C hS hm dX6_lower_4
def M_X6_keptWells_4 (σ : ST) : Nat → Int32 → Int32 → Option Int32
  | 0, _, _ => none
  | n + 1, x1, x2 => if 3 ≤ x2 then some x1 else (inR 3 x2).bind fun j14 => if (σ.1 (40 + j14)) = (-1) then M_X6_keptWells_4 σ n x1 (x2 + 1) else M_X6_keptWells_4 σ n (x1 + 1) (x2 + 1)
def M_X6_keptWells (σ : ST) : Option Int32 := M_X6_keptWells_4 σ 10000 0 0
abbrev rm_X6_keptWells : Room := { frames := 0, cells := 0, slots := 0, locals := 0 }
set_option maxRecDepth 100000 in
set_option maxHeartbeats 4000000 in
theorem c_X6_keptWells (l : Launch) (d : CD) (q : Nat → Nat) (σ : ST) (out : Int32) (hm : M_X6_keptWells σ = some out) : MetI l yX6_keptWells cX6_keptWells 3 (some .int) rm_X6_keptWells d (cw q d σ) [.ref (q 0)] out (cw q d σ) := by
  refine mkI (own := RX6) (by decide +kernel) rfl (Nat.le_of_ble_eq_true rfl) ?_
  intro p e s m below meth c A ls C hS hl
  obtain ⟨hx, hb, hml, hown, hts, -⟩ := id C
  have hl : lv_has ls 3 [(0, .ref (q 0))] := hl
  have L4 : ∀ (n : Nat) (x1 : Int32) (x2 : Int32) (H : Heap) (locs : List Loc) (ls : Array Slot), HS d A s.heap H locs (cw q d σ) → lv_has ls 3 [(0, .ref (q 0)), (1, .int x1), (2, .int x2)] → M_X6_keptWells_4 σ n x1 x2 = some out → WI p l e rm_X6_keptWells s m [.ref (q 0)].toArray below meth c A d H locs out (cw q d σ) (F0 m 4 ls []) := by
    intro n
    induction n with
    | zero =>
      intro x1 x2 H locs ls hS hl hm
      exact absurd hm (by rw [M_X6_keptWells_4]; exact fun h => nomatch h)
    | succ n ih =>
      intro x1 x2 H locs ls hS hl hm
      rw [M_X6_keptWells_4] at hm
      refine lv_iload_n hx hb dX6_keptWells_4 rfl (lv_at hl 2 rfl) ?_
      refine lv_iconst (v := 3) hx hb dX6_keptWells_5 (by decide) ?_
      refine lv_icmp_ge (tgt := 31) hx hb dX6_keptWells_6 (by decide) (fun c6 => ?_) (fun c6 => ?_)
      · replace hm := it c6 hm
        refine lv_iload_n hx hb dX6_keptWells_31 rfl (lv_at hl 1 rfl) ?_
        exact retIr C hS hm dX6_keptWells_32
      · replace hm := ie c6 hm
        refine lv_aload_n hx hb dX6_keptWells_9 rfl (lv_at hl 0 rfl) ?_
        refine g_6_48_0 C hS dX6_keptWells_10 ?_
        refine lv_iload_n hx hb dX6_keptWells_13 rfl (lv_at hl 2 rfl) ?_
        obtain ⟨j14, e14, hm⟩ := ob hm
        have hj14 := inR_lt e14
        refine aaldD (g := fun j => q (36 + j)) C hS cw_r35 e14 dX6_keptWells_14 ?_
        refine g_6_137_f36 hj14 C hS dX6_keptWells_15 ?_
        refine lv_iconst (v := (-1)) hx hb dX6_keptWells_18 (by decide) ?_
        refine lv_icmp_eq (tgt := 25) hx hb dX6_keptWells_19 (by decide) (fun c19 => ?_) (fun c19 => ?_)
        · replace hm := it c19 hm
          refine lv_iinc (v := x2 + 1) (lv' := [(2, .int (x2 + 1)), (0, .ref (q 0)), (1, .int x1)]) hx hb dX6_keptWells_25 hl (k := 2) rfl rfl (by decide) rfl (fun ls hl => ?_)
          refine lv_goto (tgt := 4) hx hb dX6_keptWells_28 (by decide) ?_
          exact ih x1 (x2 + 1) _ _ _ hS (lv_sub hl [1, 2, 0] rfl) hm
        · replace hm := ie c19 hm
          refine lv_iinc (v := x1 + 1) (lv' := [(1, .int (x1 + 1)), (0, .ref (q 0)), (2, .int x2)]) hx hb dX6_keptWells_22 hl (k := 1) rfl rfl (by decide) rfl (fun ls hl => ?_)
          refine lv_iinc (v := x2 + 1) (lv' := [(2, .int (x2 + 1)), (1, .int (x1 + 1)), (0, .ref (q 0))]) hx hb dX6_keptWells_25 hl (k := 2) rfl rfl (by decide) rfl (fun ls hl => ?_)
          refine lv_goto (tgt := 4) hx hb dX6_keptWells_28 (by decide) ?_
          exact ih (x1 + 1) (x2 + 1) _ _ _ hS (lv_sub hl [2, 1, 0] rfl) hm
  unfold M_X6_keptWells at hm
  refine lv_iconst (v := 0) hx hb dX6_keptWells_0 (by decide) ?_
  refine lv_istore_n (lv' := [(1, .int 0), (0, .ref (q 0))]) hx hb dX6_keptWells_1 rfl hl (by decide) rfl (fun ls hl => ?_)
  refine lv_iconst (v := 0) hx hb dX6_keptWells_2 (by decide) ?_
  refine lv_istore_n (lv' := [(2, .int 0), (1, .int 0), (0, .ref (q 0))]) hx hb dX6_keptWells_3 rfl hl (by decide) rfl (fun ls hl => ?_)
  exact L4 10000 0 0 _ _ _ hS (lv_sub hl [2, 1, 0] rfl) hm
def M_X3_howManyThere_t_4 (σ : ST) : Nat → Int32 → Int32 → Option Int32
  | 0, _, _ => none
  | n + 1, x1, x2 => if 4 ≤ x2 then some x1 else (M_X3_isThere_t σ x2).bind fun o15 => if o15 = 0 then M_X3_howManyThere_t_4 σ n x1 (x2 + 1) else M_X3_howManyThere_t_4 σ n (x1 + 1) (x2 + 1)
def M_X3_howManyThere_t (σ : ST) : Option Int32 := M_X3_howManyThere_t_4 σ 10000 0 0
abbrev rm_X3_howManyThere_t : Room := { frames := 2, cells := 0, slots := 0, locals := 42 }
set_option maxRecDepth 100000 in
set_option maxHeartbeats 4000000 in
theorem c_X3_howManyThere_t (l : Launch) (d : CD) (q : Nat → Nat) (σ : ST) (out : Int32) (hm : M_X3_howManyThere_t σ = some out) : MetI l yX3_howManyThere cX3_howManyThere 3 (some .int) rm_X3_howManyThere_t d (cw q d σ) [.ref (q 10)] out (cw q d σ) := by
  refine mkI (own := RX3) (by decide +kernel) rfl (Nat.le_of_ble_eq_true rfl) ?_
  intro p e s m below meth c A ls C hS hl
  obtain ⟨hx, hb, hml, hown, hts, -⟩ := id C
  have hl : lv_has ls 3 [(0, .ref (q 10))] := hl
  have L4 : ∀ (n : Nat) (x1 : Int32) (x2 : Int32) (H : Heap) (locs : List Loc) (ls : Array Slot), HS d A s.heap H locs (cw q d σ) → lv_has ls 3 [(0, .ref (q 10)), (1, .int x1), (2, .int x2)] → M_X3_howManyThere_t_4 σ n x1 x2 = some out → WI p l e rm_X3_howManyThere_t s m [.ref (q 10)].toArray below meth c A d H locs out (cw q d σ) (F0 m 4 ls []) := by
    intro n
    induction n with
    | zero =>
      intro x1 x2 H locs ls hS hl hm
      exact absurd hm (by rw [M_X3_howManyThere_t_4]; exact fun h => nomatch h)
    | succ n ih =>
      intro x1 x2 H locs ls hS hl hm
      rw [M_X3_howManyThere_t_4] at hm
      refine lv_iload_n hx hb dX3_howManyThere_4 rfl (lv_at hl 2 rfl) ?_
      refine lv_aload_n hx hb dX3_howManyThere_5 rfl (lv_at hl 0 rfl) ?_
      refine g_3_20_10 C hS dX3_howManyThere_6 ?_
      refine alen' (v := 4) C hS cw_a12 rfl dX3_howManyThere_9 ?_
      refine lv_icmp_ge (tgt := 30) hx hb dX3_howManyThere_10 (by decide) (fun c10 => ?_) (fun c10 => ?_)
      · replace hm := it c10 hm
        refine lv_iload_n hx hb dX3_howManyThere_30 rfl (lv_at hl 1 rfl) ?_
        exact retIr C hS hm dX3_howManyThere_31
      · replace hm := ie c10 hm
        refine lv_aload_n hx hb dX3_howManyThere_13 rfl (lv_at hl 0 rfl) ?_
        refine lv_iload_n hx hb dX3_howManyThere_14 rfl (lv_at hl 2 rfl) ?_
        obtain ⟨o15, e15, hm⟩ := ob hm
        refine after_i C hS (call_V (As := [.int x2]) C hS (c_X3_isThere_t l d q σ x2 o15 e15 _) iv_3_34 ⟨rfl, rfl, Nat.le_of_ble_eq_true rfl, Nat.le_of_ble_eq_true rfl⟩ cw_o10 rfl rfl rfl hl.1 (Nat.le_of_ble_eq_true rfl) dX3_howManyThere_15) (fun H locs hS => ?_)
        refine lv_if_eq (tgt := 24) hx hb dX3_howManyThere_18 (by decide) (fun c18 => ?_) (fun c18 => ?_)
        · replace hm := it c18 hm
          refine lv_iinc (v := x2 + 1) (lv' := [(2, .int (x2 + 1)), (0, .ref (q 10)), (1, .int x1)]) hx hb dX3_howManyThere_24 hl (k := 2) rfl rfl (by decide) rfl (fun ls hl => ?_)
          refine lv_goto (tgt := 4) hx hb dX3_howManyThere_27 (by decide) ?_
          exact ih x1 (x2 + 1) _ _ _ hS (lv_sub hl [1, 2, 0] rfl) hm
        · replace hm := ie c18 hm
          refine lv_iinc (v := x1 + 1) (lv' := [(1, .int (x1 + 1)), (0, .ref (q 10)), (2, .int x2)]) hx hb dX3_howManyThere_21 hl (k := 1) rfl rfl (by decide) rfl (fun ls hl => ?_)
          refine lv_iinc (v := x2 + 1) (lv' := [(2, .int (x2 + 1)), (1, .int (x1 + 1)), (0, .ref (q 10))]) hx hb dX3_howManyThere_24 hl (k := 2) rfl rfl (by decide) rfl (fun ls hl => ?_)
          refine lv_goto (tgt := 4) hx hb dX3_howManyThere_27 (by decide) ?_
          exact ih (x1 + 1) (x2 + 1) _ _ _ hS (lv_sub hl [2, 1, 0] rfl) hm
  unfold M_X3_howManyThere_t at hm
  refine lv_iconst (v := 0) hx hb dX3_howManyThere_0 (by decide) ?_
  refine lv_istore_n (lv' := [(1, .int 0), (0, .ref (q 10))]) hx hb dX3_howManyThere_1 rfl hl (by decide) rfl (fun ls hl => ?_)
  refine lv_iconst (v := 0) hx hb dX3_howManyThere_2 (by decide) ?_
  refine lv_istore_n (lv' := [(2, .int 0), (1, .int 0), (0, .ref (q 10))]) hx hb dX3_howManyThere_3 rfl hl (by decide) rfl (fun ls hl => ?_)
  exact L4 10000 0 0 _ _ _ hS (lv_sub hl [2, 1, 0] rfl) hm
def M_X3_howManyThere_r_4 (σ : ST) : Nat → Int32 → Int32 → Option Int32
  | 0, _, _ => none
  | n + 1, x1, x2 => if 6 ≤ x2 then some x1 else (M_X3_isThere_r σ x2).bind fun o15 => if o15 = 0 then M_X3_howManyThere_r_4 σ n x1 (x2 + 1) else M_X3_howManyThere_r_4 σ n (x1 + 1) (x2 + 1)
def M_X3_howManyThere_r (σ : ST) : Option Int32 := M_X3_howManyThere_r_4 σ 10000 0 0
abbrev rm_X3_howManyThere_r : Room := { frames := 2, cells := 0, slots := 0, locals := 42 }
set_option maxRecDepth 100000 in
set_option maxHeartbeats 4000000 in
theorem c_X3_howManyThere_r (l : Launch) (d : CD) (q : Nat → Nat) (σ : ST) (out : Int32) (hm : M_X3_howManyThere_r σ = some out) : MetI l yX3_howManyThere cX3_howManyThere 3 (some .int) rm_X3_howManyThere_r d (cw q d σ) [.ref (q 1)] out (cw q d σ) := by
  refine mkI (own := RX3) (by decide +kernel) rfl (Nat.le_of_ble_eq_true rfl) ?_
  intro p e s m below meth c A ls C hS hl
  obtain ⟨hx, hb, hml, hown, hts, -⟩ := id C
  have hl : lv_has ls 3 [(0, .ref (q 1))] := hl
  have L4 : ∀ (n : Nat) (x1 : Int32) (x2 : Int32) (H : Heap) (locs : List Loc) (ls : Array Slot), HS d A s.heap H locs (cw q d σ) → lv_has ls 3 [(0, .ref (q 1)), (1, .int x1), (2, .int x2)] → M_X3_howManyThere_r_4 σ n x1 x2 = some out → WI p l e rm_X3_howManyThere_r s m [.ref (q 1)].toArray below meth c A d H locs out (cw q d σ) (F0 m 4 ls []) := by
    intro n
    induction n with
    | zero =>
      intro x1 x2 H locs ls hS hl hm
      exact absurd hm (by rw [M_X3_howManyThere_r_4]; exact fun h => nomatch h)
    | succ n ih =>
      intro x1 x2 H locs ls hS hl hm
      rw [M_X3_howManyThere_r_4] at hm
      refine lv_iload_n hx hb dX3_howManyThere_4 rfl (lv_at hl 2 rfl) ?_
      refine lv_aload_n hx hb dX3_howManyThere_5 rfl (lv_at hl 0 rfl) ?_
      refine g_3_20_1 C hS dX3_howManyThere_6 ?_
      refine alen' (v := 6) C hS cw_a3 rfl dX3_howManyThere_9 ?_
      refine lv_icmp_ge (tgt := 30) hx hb dX3_howManyThere_10 (by decide) (fun c10 => ?_) (fun c10 => ?_)
      · replace hm := it c10 hm
        refine lv_iload_n hx hb dX3_howManyThere_30 rfl (lv_at hl 1 rfl) ?_
        exact retIr C hS hm dX3_howManyThere_31
      · replace hm := ie c10 hm
        refine lv_aload_n hx hb dX3_howManyThere_13 rfl (lv_at hl 0 rfl) ?_
        refine lv_iload_n hx hb dX3_howManyThere_14 rfl (lv_at hl 2 rfl) ?_
        obtain ⟨o15, e15, hm⟩ := ob hm
        refine after_i C hS (call_V (As := [.int x2]) C hS (c_X3_isThere_r l d q σ x2 o15 e15 _) iv_3_34 ⟨rfl, rfl, Nat.le_of_ble_eq_true rfl, Nat.le_of_ble_eq_true rfl⟩ cw_o1 rfl rfl rfl hl.1 (Nat.le_of_ble_eq_true rfl) dX3_howManyThere_15) (fun H locs hS => ?_)
        refine lv_if_eq (tgt := 24) hx hb dX3_howManyThere_18 (by decide) (fun c18 => ?_) (fun c18 => ?_)
        · replace hm := it c18 hm
          refine lv_iinc (v := x2 + 1) (lv' := [(2, .int (x2 + 1)), (0, .ref (q 1)), (1, .int x1)]) hx hb dX3_howManyThere_24 hl (k := 2) rfl rfl (by decide) rfl (fun ls hl => ?_)
          refine lv_goto (tgt := 4) hx hb dX3_howManyThere_27 (by decide) ?_
          exact ih x1 (x2 + 1) _ _ _ hS (lv_sub hl [1, 2, 0] rfl) hm
        · replace hm := ie c18 hm
          refine lv_iinc (v := x1 + 1) (lv' := [(1, .int (x1 + 1)), (0, .ref (q 1)), (2, .int x2)]) hx hb dX3_howManyThere_21 hl (k := 1) rfl rfl (by decide) rfl (fun ls hl => ?_)
          refine lv_iinc (v := x2 + 1) (lv' := [(2, .int (x2 + 1)), (1, .int (x1 + 1)), (0, .ref (q 1))]) hx hb dX3_howManyThere_24 hl (k := 2) rfl rfl (by decide) rfl (fun ls hl => ?_)
          refine lv_goto (tgt := 4) hx hb dX3_howManyThere_27 (by decide) ?_
          exact ih (x1 + 1) (x2 + 1) _ _ _ hS (lv_sub hl [2, 1, 0] rfl) hm
  unfold M_X3_howManyThere_r at hm
  refine lv_iconst (v := 0) hx hb dX3_howManyThere_0 (by decide) ?_
  refine lv_istore_n (lv' := [(1, .int 0), (0, .ref (q 1))]) hx hb dX3_howManyThere_1 rfl hl (by decide) rfl (fun ls hl => ?_)
  refine lv_iconst (v := 0) hx hb dX3_howManyThere_2 (by decide) ?_
  refine lv_istore_n (lv' := [(2, .int 0), (1, .int 0), (0, .ref (q 1))]) hx hb dX3_howManyThere_3 rfl hl (by decide) rfl (fun ls hl => ?_)
  exact L4 10000 0 0 _ _ _ hS (lv_sub hl [2, 1, 0] rfl) hm
