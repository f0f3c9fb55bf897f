def M_X6_joinMeeting (a0 : Int32) (a1 : Int32) : Option Int32 := some ((a0 + 4) ||| (a1 <<< ((5 + (3 * ((a0 >>> ((2 : Int32) &&& 31)) &&& 7))) &&& 31)))
abbrev rm_X6_joinMeeting : Room := { frames := 0, cells := 0, slots := 0, locals := 0 }
set_option maxRecDepth 100000 in
set_option maxHeartbeats 4000000 in
theorem c_X6_joinMeeting (l : Launch) (d : CD) (w : va_W) (a0 : Int32) (a1 : Int32) (out : Int32) (hm : M_X6_joinMeeting a0 a1 = some out) : MetI l yX6_joinMeeting cX6_joinMeeting 3 (some .int) rm_X6_joinMeeting d w [.int a0, .int a1] out w := by
  refine mkI (own := RX6) (by decide +kernel) rfl (Nat.le_of_ble_eq_true rfl) ?_
  intro p e s m below meth c A ls C hS hl
  obtain ⟨hx, hb, hml, hown, hts, -⟩ := id C
  have hl : lv_has ls 3 [(0, .int a0), (1, .int a1)] := hl
  unfold M_X6_joinMeeting at hm
  refine lv_iload_n hx hb dX6_joinMeeting_0 rfl (lv_at hl 0 rfl) ?_
  refine lv_iconst (v := 2) hx hb dX6_joinMeeting_1 (by decide) ?_
  refine lv_ishr hx hb dX6_joinMeeting_2 ?_
  refine lv_bipush (v := 7) hx hb dX6_joinMeeting_3 (by decide) ?_
  refine lv_iand hx hb dX6_joinMeeting_5 ?_
  refine lv_istore_n (lv' := [(2, .int ((a0 >>> ((2 : Int32) &&& 31)) &&& 7)), (0, .int a0), (1, .int a1)]) hx hb dX6_joinMeeting_6 rfl hl (by decide) rfl (fun ls hl => ?_)
  refine lv_iload_n hx hb dX6_joinMeeting_7 rfl (lv_at hl 1 rfl) ?_
  refine lv_iconst (v := 4) hx hb dX6_joinMeeting_8 (by decide) ?_
  refine lv_iadd hx hb dX6_joinMeeting_9 ?_
  refine lv_iload_n hx hb dX6_joinMeeting_10 rfl (lv_at hl 2 rfl) ?_
  refine lv_iconst (v := 5) hx hb dX6_joinMeeting_11 (by decide) ?_
  refine lv_iconst (v := 3) hx hb dX6_joinMeeting_12 (by decide) ?_
  refine lv_iload_n hx hb dX6_joinMeeting_13 rfl (lv_at hl 0 rfl) ?_
  refine lv_imul hx hb dX6_joinMeeting_14 ?_
  refine lv_iadd hx hb dX6_joinMeeting_15 ?_
  refine lv_ishl hx hb dX6_joinMeeting_16 ?_
  refine lv_ior hx hb dX6_joinMeeting_17 ?_
  exact retIr C hS hm dX6_joinMeeting_18
def M_X6_meetingInRow_4 (σ : ST) : Nat → Int32 → Int32 → Int32 → Option Int32
  | 0, _, _, _ => none
  | n + 1, x1, x2, x3 => (M_X3_sizeOf_r σ x1).bind fun o10 => if o10 ≤ x3 then some x2 else (M_X3_get_r σ x1 x3).bind fun o23 => (M_X6_joinMeeting x2 o23).bind fun o26 => M_X6_meetingInRow_4 σ n x1 o26 (x3 + 1)
def M_X6_meetingInRow (σ : ST) (a1 : Int32) : Option Int32 := M_X6_meetingInRow_4 σ 10000 a1 0 0
abbrev rm_X6_meetingInRow : Room := { frames := 4, cells := 0, slots := 0, locals := 86 }
set_option maxRecDepth 100000 in
set_option maxHeartbeats 4000000 in
theorem c_X6_meetingInRow (l : Launch) (d : CD) (q : Nat → Nat) (σ : ST) (a1 : Int32) (out : Int32) (hm : M_X6_meetingInRow σ a1 = some out) : MetI l yX6_meetingInRow cX6_meetingInRow 4 (some .int) rm_X6_meetingInRow d (cw q d σ) [.ref (q 0), .int a1] out (cw q d σ) := by
  refine mkI (own := RX6) (by decide +kernel) rfl (Nat.le_of_ble_eq_true rfl) ?_
  intro p e s m below meth c A ls C hS hl
  obtain ⟨hx, hb, hml, hown, hts, -⟩ := id C
  have hl : lv_has ls 4 [(0, .ref (q 0)), (1, .int a1)] := hl
  have L4 : ∀ (n : Nat) (x1 : Int32) (x2 : Int32) (x3 : Int32) (H : Heap) (locs : List Loc) (ls : Array Slot), HS d A s.heap H locs (cw q d σ) → lv_has ls 4 [(0, .ref (q 0)), (1, .int x1), (2, .int x2), (3, .int x3)] → M_X6_meetingInRow_4 σ n x1 x2 x3 = some out → WI p l e rm_X6_meetingInRow s m [.ref (q 0), .int a1].toArray below meth c A d H locs out (cw q d σ) (F0 m 4 ls []) := by
    intro n
    induction n with
    | zero =>
      intro x1 x2 x3 H locs ls hS hl hm
      exact absurd hm (by rw [M_X6_meetingInRow_4]; exact fun h => nomatch h)
    | succ n ih =>
      intro x1 x2 x3 H locs ls hS hl hm
      rw [M_X6_meetingInRow_4] at hm
      refine lv_iload_n hx hb dX6_meetingInRow_4 rfl (lv_at hl 3 rfl) ?_
      refine lv_aload_n hx hb dX6_meetingInRow_5 rfl (lv_at hl 0 rfl) ?_
      refine g_6_14_0 C hS dX6_meetingInRow_6 ?_
      refine lv_iload_n hx hb dX6_meetingInRow_9 rfl (lv_at hl 1 rfl) ?_
      obtain ⟨o10, e10, hm⟩ := ob hm
      refine after_i C hS (call_V (As := [.int x1]) C hS (c_X3_sizeOf_r l d q σ x1 o10 e10 _) iv_6_115 ⟨rfl, rfl, Nat.le_of_ble_eq_true rfl, Nat.le_of_ble_eq_true rfl⟩ cw_o1 rfl rfl rfl hl.1 (Nat.le_of_ble_eq_true rfl) dX6_meetingInRow_10) (fun H locs hS => ?_)
      refine lv_icmp_ge (tgt := 36) hx hb dX6_meetingInRow_13 (by decide) (fun c13 => ?_) (fun c13 => ?_)
      · replace hm := it c13 hm
        refine lv_iload_n hx hb dX6_meetingInRow_36 rfl (lv_at hl 2 rfl) ?_
        exact retIr C hS hm dX6_meetingInRow_37
      · replace hm := ie c13 hm
        refine lv_iload_n hx hb dX6_meetingInRow_16 rfl (lv_at hl 2 rfl) ?_
        refine lv_aload_n hx hb dX6_meetingInRow_17 rfl (lv_at hl 0 rfl) ?_
        refine g_6_14_0 C hS dX6_meetingInRow_18 ?_
        refine lv_iload_n hx hb dX6_meetingInRow_21 rfl (lv_at hl 1 rfl) ?_
        refine lv_iload_n hx hb dX6_meetingInRow_22 rfl (lv_at hl 3 rfl) ?_
        obtain ⟨o23, e23, hm⟩ := ob hm
        refine after_i C hS (call_V (As := [.int x1, .int x3]) C hS (c_X3_get_r l d q σ x1 x3 o23 e23 _) iv_6_81 ⟨rfl, rfl, Nat.le_of_ble_eq_true rfl, Nat.le_of_ble_eq_true rfl⟩ cw_o1 rfl rfl rfl hl.1 (Nat.le_of_ble_eq_true rfl) dX6_meetingInRow_23) (fun H locs hS => ?_)
        obtain ⟨o26, e26, hm⟩ := ob hm
        refine after_i C hS (call_S (As := [.int x2, .int o23]) C hS (c_X6_joinMeeting l d (cw q d σ) x2 o23 o26 e26 _) is_6_340 ⟨rfl, rfl, Nat.le_of_ble_eq_true rfl, Nat.le_of_ble_eq_true rfl⟩ rfl hl.1 (Nat.le_of_ble_eq_true rfl) dX6_meetingInRow_26) (fun H locs hS => ?_)
        refine lv_istore_n (lv' := [(2, .int o26), (0, .ref (q 0)), (1, .int x1), (3, .int x3)]) hx hb dX6_meetingInRow_29 rfl hl (by decide) rfl (fun ls hl => ?_)
        refine lv_iinc (v := x3 + 1) (lv' := [(3, .int (x3 + 1)), (2, .int o26), (0, .ref (q 0)), (1, .int x1)]) hx hb dX6_meetingInRow_30 hl (k := 3) rfl rfl (by decide) rfl (fun ls hl => ?_)
        refine lv_goto (tgt := 4) hx hb dX6_meetingInRow_33 (by decide) ?_
        exact ih x1 o26 (x3 + 1) _ _ _ hS (lv_sub hl [2, 3, 1, 0] rfl) hm
  unfold M_X6_meetingInRow at hm
  refine lv_iconst (v := 0) hx hb dX6_meetingInRow_0 (by decide) ?_
  refine lv_istore_n (lv' := [(2, .int 0), (0, .ref (q 0)), (1, .int a1)]) hx hb dX6_meetingInRow_1 rfl hl (by decide) rfl (fun ls hl => ?_)
  refine lv_iconst (v := 0) hx hb dX6_meetingInRow_2 (by decide) ?_
  refine lv_istore_n (lv' := [(3, .int 0), (2, .int 0), (0, .ref (q 0)), (1, .int a1)]) hx hb dX6_meetingInRow_3 rfl hl (by decide) rfl (fun ls hl => ?_)
  exact L4 10000 a1 0 0 _ _ _ hS (lv_sub hl [2, 3, 1, 0] rfl) hm
def M_X1_add (σ : ST) (a1 : Int32) : Option ST := if (σ.1 37) < 0 then some σ else if 40 ≤ (σ.1 37) then some σ else (wrA 40 σ 28 (σ.1 37) a1).bind fun σ25 => (some (setI σ25 37 ((σ25.1 37) + 1))).bind fun σ33 => some σ33
abbrev rm_X1_add : Room := { frames := 0, cells := 0, slots := 0, locals := 0 }
set_option maxRecDepth 100000 in
set_option maxHeartbeats 4000000 in
theorem c_X1_add (l : Launch) (d : CD) (q : Nat → Nat) (σ : ST) (a1 : Int32) (out : ST) (hm : M_X1_add σ a1 = some out) : MetV l yX1_add cX1_add 2 (none) rm_X1_add d (cw q d σ) [.ref (q 27), .int a1] (cw q d out) := by
  refine mkV (own := RX1) (by decide +kernel) rfl (Nat.le_of_ble_eq_true rfl) ?_
  intro p e s m below meth c A ls C hS hl
  obtain ⟨hx, hb, hml, hown, hts, -⟩ := id C
  have hl : lv_has ls 2 [(0, .ref (q 27)), (1, .int a1)] := hl
  unfold M_X1_add at hm
  refine lv_aload_n hx hb dX1_add_0 rfl (lv_at hl 0 rfl) ?_
  refine g_1_15_27 C hS dX1_add_1 ?_
  refine lv_if_lt (tgt := 36) hx hb dX1_add_4 (by decide) (fun c4 => ?_) (fun c4 => ?_)
  · replace hm := it c4 hm
    exact retVw (wf := cw q d) C hS hm dX1_add_36
  · replace hm := ie c4 hm
    refine lv_aload_n hx hb dX1_add_7 rfl (lv_at hl 0 rfl) ?_
    refine g_1_15_27 C hS dX1_add_8 ?_
    refine lv_bipush (v := 40) hx hb dX1_add_11 (by decide) ?_
    refine lv_icmp_ge (tgt := 36) hx hb dX1_add_13 (by decide) (fun c13 => ?_) (fun c13 => ?_)
    · replace hm := it c13 hm
      exact retVw (wf := cw q d) C hS hm dX1_add_36
    · replace hm := ie c13 hm
      refine lv_aload_n hx hb dX1_add_16 rfl (lv_at hl 0 rfl) ?_
      refine g_1_9_27 C hS dX1_add_17 ?_
      refine lv_aload_n hx hb dX1_add_20 rfl (lv_at hl 0 rfl) ?_
      refine g_1_15_27 C hS dX1_add_21 ?_
      refine lv_iload_n hx hb dX1_add_24 rfl (lv_at hl 1 rfl) ?_
      obtain ⟨σ25, e25, hm⟩ := ob hm
      refine iast' (wf := cw q d) C hS cw_a28 cw_s28 e25 dX1_add_25 (fun H locs hS => ?_)
      refine lv_aload_n hx hb dX1_add_26 rfl (lv_at hl 0 rfl) ?_
      refine lv_dup hx hb dX1_add_27 rfl ?_
      refine g_1_15_27 C hS dX1_add_28 ?_
      refine lv_iconst (v := 1) hx hb dX1_add_31 (by decide) ?_
      refine lv_iadd hx hb dX1_add_32 ?_
      obtain ⟨σ33, e33, hm⟩ := ob hm
      refine p_1_15_27 C hS e33 dX1_add_33 (fun H locs hS => ?_)
      exact retVw (wf := cw q d) C hS hm dX1_add_36
def M_X5_passDay (σ : ST) : Option ST := (some (setI σ 36 ((σ.1 36) + 1))).bind fun σ7 => (some (setI σ7 35 (if 99 < ((σ7.1 35) + (σ7.1 32)) then 99 else ((σ7.1 35) + (σ7.1 32))))).bind fun σ28 => (fillA 7 σ28 30 0).bind fun σ36 => some σ36
abbrev rm_X5_passDay : Room := { frames := 1, cells := 0, slots := 0, locals := 23 }
set_option maxRecDepth 100000 in
set_option maxHeartbeats 4000000 in
theorem c_X5_passDay (l : Launch) (d : CD) (q : Nat → Nat) (σ : ST) (out : ST) (hm : M_X5_passDay σ = some out) : MetV l yX5_passDay cX5_passDay 1 (none) rm_X5_passDay d (cw q d σ) [.ref (q 22)] (cw q d out) := by
  refine mkV (own := RX5) (by decide +kernel) rfl (Nat.le_of_ble_eq_true rfl) ?_
  intro p e s m below meth c A ls C hS hl
  obtain ⟨hx, hb, hml, hown, hts, -⟩ := id C
  have hl : lv_has ls 1 [(0, .ref (q 22))] := hl
  unfold M_X5_passDay at hm
  refine lv_aload_n hx hb dX5_passDay_0 rfl (lv_at hl 0 rfl) ?_
  refine lv_dup hx hb dX5_passDay_1 rfl ?_
  refine g_5_50_22 C hS dX5_passDay_2 ?_
  refine lv_iconst (v := 1) hx hb dX5_passDay_5 (by decide) ?_
  refine lv_iadd hx hb dX5_passDay_6 ?_
  obtain ⟨σ7, e7, hm⟩ := ob hm
  refine p_5_50_22 C hS e7 dX5_passDay_7 (fun H locs hS => ?_)
  refine lv_aload_n hx hb dX5_passDay_10 rfl (lv_at hl 0 rfl) ?_
  refine lv_aload_n hx hb dX5_passDay_11 rfl (lv_at hl 0 rfl) ?_
  refine g_5_47_22 C hS dX5_passDay_12 ?_
  refine lv_aload_n hx hb dX5_passDay_15 rfl (lv_at hl 0 rfl) ?_
  refine g_5_12_22 C hS dX5_passDay_16 ?_
  refine g_5_86_23 C hS dX5_passDay_19 ?_
  refine lv_iadd hx hb dX5_passDay_22 ?_
  refine lv_bipush (v := 99) hx hb dX5_passDay_23 (by decide) ?_
  refine mmin' C hl.1 mm_X5_80 ⟨Nat.le_of_ble_eq_true rfl, Nat.le_of_ble_eq_true rfl⟩ (Nat.le_of_ble_eq_true rfl) dX5_passDay_25 ?_
  obtain ⟨σ28, e28, hm⟩ := ob hm
  refine p_5_47_22 C hS e28 dX5_passDay_28 (fun H locs hS => ?_)
  refine lv_aload_n hx hb dX5_passDay_31 rfl (lv_at hl 0 rfl) ?_
  refine g_5_31_22 C hS dX5_passDay_32 ?_
  refine lv_iconst (v := 0) hx hb dX5_passDay_35 (by decide) ?_
  obtain ⟨σ36, e36, hm⟩ := ob hm
  refine after_v (w' := cw q d σ36) C hS (call_S (As := [.ref (q 30), .int 0]) C hS (c_fill (wf := cw q d) (by decide) (fun _ => cw_a30) (fun _ => cw_s30) e36 _) is_5_89 ⟨rfl, rfl, Nat.le_of_ble_eq_true rfl, Nat.le_of_ble_eq_true rfl⟩ rfl hl.1 (Nat.le_of_ble_eq_true rfl) dX5_passDay_36) (fun H locs hS => ?_)
  exact retVw (wf := cw q d) C hS hm dX5_passDay_39
def M_X5_giveKey (σ : ST) (a1 : Int32) (a2 : Int32) : Option ST := (M_X5_isHouse σ a1).bind fun o2 => if o2 = 0 then some σ else (M_X5_isHouse σ a2).bind fun o10 => if o10 = 0 then some σ else (wrA 7 σ 29 a1 a2).bind fun σ22 => some σ22
abbrev rm_X5_giveKey : Room := { frames := 1, cells := 0, slots := 0, locals := 21 }
set_option maxRecDepth 100000 in
set_option maxHeartbeats 4000000 in
theorem c_X5_giveKey (l : Launch) (d : CD) (q : Nat → Nat) (σ : ST) (a1 : Int32) (a2 : Int32) (out : ST) (hm : M_X5_giveKey σ a1 a2 = some out) : MetV l yX5_giveKey cX5_giveKey 3 (none) rm_X5_giveKey d (cw q d σ) [.ref (q 22), .int a1, .int a2] (cw q d out) := by
  refine mkV (own := RX5) (by decide +kernel) rfl (Nat.le_of_ble_eq_true rfl) ?_
  intro p e s m below meth c A ls C hS hl
  obtain ⟨hx, hb, hml, hown, hts, -⟩ := id C
  have hl : lv_has ls 3 [(0, .ref (q 22)), (1, .int a1), (2, .int a2)] := hl
  unfold M_X5_giveKey at hm
  refine lv_aload_n hx hb dX5_giveKey_0 rfl (lv_at hl 0 rfl) ?_
  refine lv_iload_n hx hb dX5_giveKey_1 rfl (lv_at hl 1 rfl) ?_
  obtain ⟨o2, e2, hm⟩ := ob hm
  refine after_i C hS (call_V (As := [.int a1]) C hS (c_X5_isHouse l d q σ a1 o2 e2 _) iv_5_73 ⟨rfl, rfl, Nat.le_of_ble_eq_true rfl, Nat.le_of_ble_eq_true rfl⟩ cw_o22 rfl rfl rfl hl.1 (Nat.le_of_ble_eq_true rfl) dX5_giveKey_2) (fun H locs hS => ?_)
  refine lv_if_eq (tgt := 23) hx hb dX5_giveKey_5 (by decide) (fun c5 => ?_) (fun c5 => ?_)
  · replace hm := it c5 hm
    exact retVw (wf := cw q d) C hS hm dX5_giveKey_23
  · replace hm := ie c5 hm
    refine lv_aload_n hx hb dX5_giveKey_8 rfl (lv_at hl 0 rfl) ?_
    refine lv_iload_n hx hb dX5_giveKey_9 rfl (lv_at hl 2 rfl) ?_
    obtain ⟨o10, e10, hm⟩ := ob hm
    refine after_i C hS (call_V (As := [.int a2]) C hS (c_X5_isHouse l d q σ a2 o10 e10 _) iv_5_73 ⟨rfl, rfl, Nat.le_of_ble_eq_true rfl, Nat.le_of_ble_eq_true rfl⟩ cw_o22 rfl rfl rfl hl.1 (Nat.le_of_ble_eq_true rfl) dX5_giveKey_10) (fun H locs hS => ?_)
    refine lv_if_eq (tgt := 23) hx hb dX5_giveKey_13 (by decide) (fun c13 => ?_) (fun c13 => ?_)
    · replace hm := it c13 hm
      exact retVw (wf := cw q d) C hS hm dX5_giveKey_23
    · replace hm := ie c13 hm
      refine lv_aload_n hx hb dX5_giveKey_16 rfl (lv_at hl 0 rfl) ?_
      refine g_5_27_22 C hS dX5_giveKey_17 ?_
      refine lv_iload_n hx hb dX5_giveKey_20 rfl (lv_at hl 1 rfl) ?_
      refine lv_iload_n hx hb dX5_giveKey_21 rfl (lv_at hl 2 rfl) ?_
      obtain ⟨σ22, e22, hm⟩ := ob hm
      refine iast' (wf := cw q d) C hS cw_a29 cw_s29 e22 dX5_giveKey_22 (fun H locs hS => ?_)
      exact retVw (wf := cw q d) C hS hm dX5_giveKey_23
def M_X5_wantsYet (σ : ST) (a1 : Int32) : Option Int32 := (M_X0_wants σ a1).bind fun o5 => (rd 7 (σ.2.2 30) a1).bind fun v13 => some (o5 - v13)
abbrev rm_X5_wantsYet : Room := { frames := 1, cells := 0, slots := 0, locals := 21 }
set_option maxRecDepth 100000 in
set_option maxHeartbeats 4000000 in
theorem c_X5_wantsYet (l : Launch) (d : CD) (q : Nat → Nat) (σ : ST) (a1 : Int32) (out : Int32) (hm : M_X5_wantsYet σ a1 = some out) : MetI l yX5_wantsYet cX5_wantsYet 2 (some .int) rm_X5_wantsYet d (cw q d σ) [.ref (q 22), .int a1] out (cw q d σ) := by
  refine mkI (own := RX5) (by decide +kernel) rfl (Nat.le_of_ble_eq_true rfl) ?_
  intro p e s m below meth c A ls C hS hl
  obtain ⟨hx, hb, hml, hown, hts, -⟩ := id C
  have hl : lv_has ls 2 [(0, .ref (q 22)), (1, .int a1)] := hl
  unfold M_X5_wantsYet at hm
  refine lv_aload_n hx hb dX5_wantsYet_0 rfl (lv_at hl 0 rfl) ?_
  refine g_5_12_22 C hS dX5_wantsYet_1 ?_
  refine lv_iload_n hx hb dX5_wantsYet_4 rfl (lv_at hl 1 rfl) ?_
  obtain ⟨o5, e5, hm⟩ := ob hm
  refine after_i C hS (call_V (As := [.int a1]) C hS (c_X0_wants l d q σ a1 o5 e5 _) iv_5_137 ⟨rfl, rfl, Nat.le_of_ble_eq_true rfl, Nat.le_of_ble_eq_true rfl⟩ cw_o23 rfl rfl rfl hl.1 (Nat.le_of_ble_eq_true rfl) dX5_wantsYet_5) (fun H locs hS => ?_)
  refine lv_aload_n hx hb dX5_wantsYet_8 rfl (lv_at hl 0 rfl) ?_
  refine g_5_31_22 C hS dX5_wantsYet_9 ?_
  refine lv_iload_n hx hb dX5_wantsYet_12 rfl (lv_at hl 1 rfl) ?_
  obtain ⟨v13, e13, hm⟩ := ob hm
  refine iald' C hS cw_a30 e13 dX5_wantsYet_13 ?_
  refine lv_isub hx hb dX5_wantsYet_14 ?_
  exact retIr C hS hm dX5_wantsYet_15
def M_X5_drawInTurn_15 : Nat → ST → Int32 → Int32 → Int32 → Int32 → Option (Int32 × ST)
  | 0, _, _, _, _, _ => none
  | n + 1, σ, x1, x2, x3, x4 => if x2 ≤ x4 then some (x3 - (σ.1 35), σ) else (M_X5_isHouse σ ((x1 >>> ((5 + (3 * x4)) &&& 31)) &&& 7)).bind fun o37 => if o37 = 0 then M_X5_drawInTurn_15 n σ x1 x2 x3 (x4 + 1) else (M_X5_wantsYet σ ((x1 >>> ((5 + (3 * x4)) &&& 31)) &&& 7)).bind fun o46 => (rd 7 (σ.2.2 30) ((x1 >>> ((5 + (3 * x4)) &&& 31)) &&& 7)).bind fun v65 => (wrA 7 σ 30 ((x1 >>> ((5 + (3 * x4)) &&& 31)) &&& 7) (v65 + (if (σ.1 35) < o46 then (σ.1 35) else o46))).bind fun σ69 => (rd 7 (σ69.2.2 31) ((x1 >>> ((5 + (3 * x4)) &&& 31)) &&& 7)).bind fun v77 => (wrA 7 σ69 31 ((x1 >>> ((5 + (3 * x4)) &&& 31)) &&& 7) (v77 + (if (σ.1 35) < o46 then (σ.1 35) else o46))).bind fun σ81 => (some (setI σ81 35 ((σ81.1 35) - (if (σ.1 35) < o46 then (σ.1 35) else o46)))).bind fun σ90 => M_X5_drawInTurn_15 n σ90 x1 x2 x3 (x4 + 1)
def M_X5_drawInTurn (σ : ST) (a1 : Int32) : Option (Int32 × ST) := M_X5_drawInTurn_15 10000 σ a1 ((a1 >>> ((2 : Int32) &&& 31)) &&& 7) (σ.1 35) 0
abbrev rm_X5_drawInTurn : Room := { frames := 2, cells := 0, slots := 0, locals := 42 }
set_option maxRecDepth 100000 in
set_option maxHeartbeats 4000000 in
theorem c_X5_drawInTurn (l : Launch) (d : CD) (q : Nat → Nat) (σ : ST) (a1 : Int32) (out : Int32 × ST) (hm : M_X5_drawInTurn σ a1 = some out) : MetI l yX5_drawInTurn cX5_drawInTurn 7 (some .int) rm_X5_drawInTurn d (cw q d σ) [.ref (q 22), .int a1] out.1 (cw q d out.2) := by
  refine mkI (own := RX5) (by decide +kernel) rfl (Nat.le_of_ble_eq_true rfl) ?_
  intro p e s m below meth c A ls C hS hl
  obtain ⟨hx, hb, hml, hown, hts, -⟩ := id C
  have hl : lv_has ls 7 [(0, .ref (q 22)), (1, .int a1)] := hl
  have L15 : ∀ (n : Nat) (σ : ST) (x1 : Int32) (x2 : Int32) (x3 : Int32) (x4 : Int32) (H : Heap) (locs : List Loc) (ls : Array Slot), HS d A s.heap H locs (cw q d σ) → lv_has ls 7 [(0, .ref (q 22)), (1, .int x1), (2, .int x2), (3, .int x3), (4, .int x4)] → M_X5_drawInTurn_15 n σ x1 x2 x3 x4 = some out → WI p l e rm_X5_drawInTurn s m [.ref (q 22), .int a1].toArray below meth c A d H locs out.1 (cw q d out.2) (F0 m 15 ls []) := by
    intro n
    induction n with
    | zero =>
      intro σ x1 x2 x3 x4 H locs ls hS hl hm
      exact absurd hm (by rw [M_X5_drawInTurn_15]; exact fun h => nomatch h)
    | succ n ih =>
      intro σ x1 x2 x3 x4 H locs ls hS hl hm
      rw [M_X5_drawInTurn_15] at hm
      refine lv_iload hx hb dX5_drawInTurn_15 (lv_at hl 4 rfl) ?_
      refine lv_iload_n hx hb dX5_drawInTurn_17 rfl (lv_at hl 2 rfl) ?_
      refine lv_icmp_ge (tgt := 99) hx hb dX5_drawInTurn_18 (by decide) (fun c18 => ?_) (fun c18 => ?_)
      · replace hm := it c18 hm
        refine lv_iload_n hx hb dX5_drawInTurn_99 rfl (lv_at hl 3 rfl) ?_
        refine lv_aload_n hx hb dX5_drawInTurn_100 rfl (lv_at hl 0 rfl) ?_
        refine g_5_47_22 C hS dX5_drawInTurn_101 ?_
        refine lv_isub hx hb dX5_drawInTurn_104 ?_
        exact retIw (wf := cw q d) C hS hm dX5_drawInTurn_105
      · replace hm := ie c18 hm
        refine lv_iload_n hx hb dX5_drawInTurn_21 rfl (lv_at hl 1 rfl) ?_
        refine lv_iconst (v := 5) hx hb dX5_drawInTurn_22 (by decide) ?_
        refine lv_iconst (v := 3) hx hb dX5_drawInTurn_23 (by decide) ?_
        refine lv_iload hx hb dX5_drawInTurn_24 (lv_at hl 4 rfl) ?_
        refine lv_imul hx hb dX5_drawInTurn_26 ?_
        refine lv_iadd hx hb dX5_drawInTurn_27 ?_
        refine lv_ishr hx hb dX5_drawInTurn_28 ?_
        refine lv_bipush (v := 7) hx hb dX5_drawInTurn_29 (by decide) ?_
        refine lv_iand hx hb dX5_drawInTurn_31 ?_
        refine lv_istore (lv' := [(5, .int ((x1 >>> ((5 + (3 * x4)) &&& 31)) &&& 7)), (0, .ref (q 22)), (1, .int x1), (2, .int x2), (3, .int x3), (4, .int x4)]) hx hb dX5_drawInTurn_32 hl (by decide) rfl (fun ls hl => ?_)
        refine lv_aload_n hx hb dX5_drawInTurn_34 rfl (lv_at hl 1 rfl) ?_
        refine lv_iload hx hb dX5_drawInTurn_35 (lv_at hl 0 rfl) ?_
        obtain ⟨o37, e37, hm⟩ := ob hm
        refine after_i C hS (call_V (As := [.int ((x1 >>> ((5 + (3 * x4)) &&& 31)) &&& 7)]) C hS (c_X5_isHouse l d q σ ((x1 >>> ((5 + (3 * x4)) &&& 31)) &&& 7) o37 e37 _) iv_5_73 ⟨rfl, rfl, Nat.le_of_ble_eq_true rfl, Nat.le_of_ble_eq_true rfl⟩ cw_o22 rfl rfl rfl hl.1 (Nat.le_of_ble_eq_true rfl) dX5_drawInTurn_37) (fun H locs hS => ?_)
        refine lv_if_eq (tgt := 93) hx hb dX5_drawInTurn_40 (by decide) (fun c40 => ?_) (fun c40 => ?_)
        · replace hm := it c40 hm
          refine lv_iinc (v := x4 + 1) (lv' := [(4, .int (x4 + 1)), (5, .int ((x1 >>> ((5 + (3 * x4)) &&& 31)) &&& 7)), (0, .ref (q 22)), (1, .int x1), (2, .int x2), (3, .int x3)]) hx hb dX5_drawInTurn_93 hl (k := 5) rfl rfl (by decide) rfl (fun ls hl => ?_)
          refine lv_goto (tgt := 15) hx hb dX5_drawInTurn_96 (by decide) ?_
          exact ih σ x1 x2 x3 (x4 + 1) _ _ _ hS (lv_sub hl [2, 3, 4, 5, 0] rfl) hm
        · replace hm := ie c40 hm
          refine lv_aload_n hx hb dX5_drawInTurn_43 rfl (lv_at hl 1 rfl) ?_
          refine lv_iload hx hb dX5_drawInTurn_44 (lv_at hl 0 rfl) ?_
          obtain ⟨o46, e46, hm⟩ := ob hm
          refine after_i C hS (call_V (As := [.int ((x1 >>> ((5 + (3 * x4)) &&& 31)) &&& 7)]) C hS (c_X5_wantsYet l d q σ ((x1 >>> ((5 + (3 * x4)) &&& 31)) &&& 7) o46 e46 _) iv_5_77 ⟨rfl, rfl, Nat.le_of_ble_eq_true rfl, Nat.le_of_ble_eq_true rfl⟩ cw_o22 rfl rfl rfl hl.1 (Nat.le_of_ble_eq_true rfl) dX5_drawInTurn_46) (fun H locs hS => ?_)
          refine lv_aload_n hx hb dX5_drawInTurn_49 rfl (lv_at hl 1 rfl) ?_
          refine g_5_47_22 C hS dX5_drawInTurn_50 ?_
          refine mmin' C hl.1 mm_X5_80 ⟨Nat.le_of_ble_eq_true rfl, Nat.le_of_ble_eq_true rfl⟩ (Nat.le_of_ble_eq_true rfl) dX5_drawInTurn_53 ?_
          refine lv_istore (lv' := [(6, .int (if (σ.1 35) < o46 then (σ.1 35) else o46)), (5, .int ((x1 >>> ((5 + (3 * x4)) &&& 31)) &&& 7)), (0, .ref (q 22)), (1, .int x1), (2, .int x2), (3, .int x3), (4, .int x4)]) hx hb dX5_drawInTurn_56 hl (by decide) rfl (fun ls hl => ?_)
          refine lv_aload_n hx hb dX5_drawInTurn_58 rfl (lv_at hl 2 rfl) ?_
          refine g_5_31_22 C hS dX5_drawInTurn_59 ?_
          refine lv_iload hx hb dX5_drawInTurn_62 (lv_at hl 1 rfl) ?_
          refine lv_dup2_11 hx hb dX5_drawInTurn_64 rfl rfl ?_
          obtain ⟨v65, e65, hm⟩ := ob hm
          refine iald' C hS cw_a30 e65 dX5_drawInTurn_65 ?_
          refine lv_iload hx hb dX5_drawInTurn_66 (lv_at hl 0 rfl) ?_
          refine lv_iadd hx hb dX5_drawInTurn_68 ?_
          obtain ⟨σ69, e69, hm⟩ := ob hm
          refine iast' (wf := cw q d) C hS cw_a30 cw_s30 e69 dX5_drawInTurn_69 (fun H locs hS => ?_)
          refine lv_aload_n hx hb dX5_drawInTurn_70 rfl (lv_at hl 2 rfl) ?_
          refine g_5_34_22 C hS dX5_drawInTurn_71 ?_
          refine lv_iload hx hb dX5_drawInTurn_74 (lv_at hl 1 rfl) ?_
          refine lv_dup2_11 hx hb dX5_drawInTurn_76 rfl rfl ?_
          obtain ⟨v77, e77, hm⟩ := ob hm
          refine iald' C hS cw_a31 e77 dX5_drawInTurn_77 ?_
          refine lv_iload hx hb dX5_drawInTurn_78 (lv_at hl 0 rfl) ?_
          refine lv_iadd hx hb dX5_drawInTurn_80 ?_
          obtain ⟨σ81, e81, hm⟩ := ob hm
          refine iast' (wf := cw q d) C hS cw_a31 cw_s31 e81 dX5_drawInTurn_81 (fun H locs hS => ?_)
          refine lv_aload_n hx hb dX5_drawInTurn_82 rfl (lv_at hl 2 rfl) ?_
          refine lv_dup hx hb dX5_drawInTurn_83 rfl ?_
          refine g_5_47_22 C hS dX5_drawInTurn_84 ?_
          refine lv_iload hx hb dX5_drawInTurn_87 (lv_at hl 0 rfl) ?_
          refine lv_isub hx hb dX5_drawInTurn_89 ?_
          obtain ⟨σ90, e90, hm⟩ := ob hm
          refine p_5_47_22 C hS e90 dX5_drawInTurn_90 (fun H locs hS => ?_)
          refine lv_iinc (v := x4 + 1) (lv' := [(4, .int (x4 + 1)), (6, .int (if (σ.1 35) < o46 then (σ.1 35) else o46)), (5, .int ((x1 >>> ((5 + (3 * x4)) &&& 31)) &&& 7)), (0, .ref (q 22)), (1, .int x1), (2, .int x2), (3, .int x3)]) hx hb dX5_drawInTurn_93 hl (k := 6) rfl rfl (by decide) rfl (fun ls hl => ?_)
          refine lv_goto (tgt := 15) hx hb dX5_drawInTurn_96 (by decide) ?_
          exact ih σ90 x1 x2 x3 (x4 + 1) _ _ _ hS (lv_sub hl [3, 4, 5, 6, 0] rfl) hm
  unfold M_X5_drawInTurn at hm
  refine lv_iload_n hx hb dX5_drawInTurn_0 rfl (lv_at hl 1 rfl) ?_
  refine lv_iconst (v := 2) hx hb dX5_drawInTurn_1 (by decide) ?_
  refine lv_ishr hx hb dX5_drawInTurn_2 ?_
  refine lv_bipush (v := 7) hx hb dX5_drawInTurn_3 (by decide) ?_
  refine lv_iand hx hb dX5_drawInTurn_5 ?_
  refine lv_istore_n (lv' := [(2, .int ((a1 >>> ((2 : Int32) &&& 31)) &&& 7)), (0, .ref (q 22)), (1, .int a1)]) hx hb dX5_drawInTurn_6 rfl hl (by decide) rfl (fun ls hl => ?_)
  refine lv_aload_n hx hb dX5_drawInTurn_7 rfl (lv_at hl 1 rfl) ?_
  refine g_5_47_22 C hS dX5_drawInTurn_8 ?_
  refine lv_istore_n (lv' := [(3, .int (σ.1 35)), (2, .int ((a1 >>> ((2 : Int32) &&& 31)) &&& 7)), (0, .ref (q 22)), (1, .int a1)]) hx hb dX5_drawInTurn_11 rfl hl (by decide) rfl (fun ls hl => ?_)
  refine lv_iconst (v := 0) hx hb dX5_drawInTurn_12 (by decide) ?_
  refine lv_istore (lv' := [(4, .int 0), (3, .int (σ.1 35)), (2, .int ((a1 >>> ((2 : Int32) &&& 31)) &&& 7)), (0, .ref (q 22)), (1, .int a1)]) hx hb dX5_drawInTurn_13 hl (by decide) rfl (fun ls hl => ?_)
  exact L15 10000 σ a1 ((a1 >>> ((2 : Int32) &&& 31)) &&& 7) (σ.1 35) 0 _ _ _ hS (lv_sub hl [3, 4, 2, 1, 0] rfl) hm
def M_X5_apply (σ : ST) (a1 : Int32) : Option (Int32 × ST) := if (a1 &&& 3) = 0 then (M_X5_drawInTurn σ a1).bind fun o30 => some (o30.1, o30.2) else if (a1 &&& 3) = 1 then (M_X5_giveKey σ ((a1 >>> ((2 : Int32) &&& 31)) &&& 7) ((a1 >>> ((5 : Int32) &&& 31)) &&& 7)).bind fun o47 => some (0, o47) else (M_X5_passDay σ).bind fun o53 => some (0, o53)
abbrev rm_X5_apply : Room := { frames := 3, cells := 0, slots := 0, locals := 68 }
set_option maxRecDepth 100000 in
set_option maxHeartbeats 4000000 in
theorem c_X5_apply (l : Launch) (d : CD) (q : Nat → Nat) (σ : ST) (a1 : Int32) (out : Int32 × ST) (hm : M_X5_apply σ a1 = some out) : MetI l yX5_apply cX5_apply 2 (some .int) rm_X5_apply d (cw q d σ) [.ref (q 22), .int a1] out.1 (cw q d out.2) := by
  refine mkI (own := RX5) (by decide +kernel) rfl (Nat.le_of_ble_eq_true rfl) ?_
  intro p e s m below meth c A ls C hS hl
  obtain ⟨hx, hb, hml, hown, hts, -⟩ := id C
  have hl : lv_has ls 2 [(0, .ref (q 22)), (1, .int a1)] := hl
  unfold M_X5_apply at hm
  refine lv_iload_n hx hb dX5_apply_0 rfl (lv_at hl 1 rfl) ?_
  refine lv_iconst (v := 3) hx hb dX5_apply_1 (by decide) ?_
  refine lv_iand hx hb dX5_apply_2 ?_
  by_cases c3_0 : a1 &&& 3 = 0
  · replace hm := it c3_0 hm
    refine lv_lookup (off := 25) (tgt := 28) hx hb dX5_apply_3 (by decide) (by rw [c3_0]; rfl) (by decide) ?_
    refine lv_aload_n hx hb dX5_apply_28 rfl (lv_at hl 0 rfl) ?_
    refine lv_iload_n hx hb dX5_apply_29 rfl (lv_at hl 1 rfl) ?_
    obtain ⟨o30, e30, hm⟩ := ob hm
    refine after_i C hS (call_V (As := [.int a1]) C hS (c_X5_drawInTurn l d q σ a1 o30 e30 _) iv_5_63 ⟨rfl, rfl, Nat.le_of_ble_eq_true rfl, Nat.le_of_ble_eq_true rfl⟩ cw_o22 rfl rfl rfl hl.1 (Nat.le_of_ble_eq_true rfl) dX5_apply_30) (fun H locs hS => ?_)
    exact retIw (wf := cw q d) C hS hm dX5_apply_33
  · replace hm := ie c3_0 hm
    by_cases c3_1 : a1 &&& 3 = 1
    · replace hm := it c3_1 hm
      refine lv_lookup (off := 31) (tgt := 34) hx hb dX5_apply_3 (by decide) (by rw [c3_1]; rfl) (by decide) ?_
      refine lv_aload_n hx hb dX5_apply_34 rfl (lv_at hl 0 rfl) ?_
      refine lv_iload_n hx hb dX5_apply_35 rfl (lv_at hl 1 rfl) ?_
      refine lv_iconst (v := 2) hx hb dX5_apply_36 (by decide) ?_
      refine lv_ishr hx hb dX5_apply_37 ?_
      refine lv_bipush (v := 7) hx hb dX5_apply_38 (by decide) ?_
      refine lv_iand hx hb dX5_apply_40 ?_
      refine lv_iload_n hx hb dX5_apply_41 rfl (lv_at hl 1 rfl) ?_
      refine lv_iconst (v := 5) hx hb dX5_apply_42 (by decide) ?_
      refine lv_ishr hx hb dX5_apply_43 ?_
      refine lv_bipush (v := 7) hx hb dX5_apply_44 (by decide) ?_
      refine lv_iand hx hb dX5_apply_46 ?_
      obtain ⟨o47, e47, hm⟩ := ob hm
      refine after_v C hS (call_V (As := [.int ((a1 >>> ((2 : Int32) &&& 31)) &&& 7), .int ((a1 >>> ((5 : Int32) &&& 31)) &&& 7)]) C hS (c_X5_giveKey l d q σ ((a1 >>> ((2 : Int32) &&& 31)) &&& 7) ((a1 >>> ((5 : Int32) &&& 31)) &&& 7) o47 e47 _) iv_5_66 ⟨rfl, rfl, Nat.le_of_ble_eq_true rfl, Nat.le_of_ble_eq_true rfl⟩ cw_o22 rfl rfl rfl hl.1 (Nat.le_of_ble_eq_true rfl) dX5_apply_47) (fun H locs hS => ?_)
      refine lv_iconst (v := 0) hx hb dX5_apply_50 (by decide) ?_
      exact retIw (wf := cw q d) C hS hm dX5_apply_51
    · replace hm := ie c3_1 hm
      refine lv_lookup (off := 49) (tgt := 52) hx hb dX5_apply_3 (by decide) (by have h0 : (a1 &&& 3).toInt ≠ 0 := ts_ne c3_0; have h1 : (a1 &&& 3).toInt ≠ 1 := ts_ne c3_1; simp [Op.lookupswitch.offset, h0, Ne.symm h0, h1, Ne.symm h1]) (by decide) ?_
      refine lv_aload_n hx hb dX5_apply_52 rfl (lv_at hl 0 rfl) ?_
      obtain ⟨o53, e53, hm⟩ := ob hm
      refine after_v C hS (call_V (As := []) C hS (c_X5_passDay l d q σ o53 e53 _) iv_5_70 ⟨rfl, rfl, Nat.le_of_ble_eq_true rfl, Nat.le_of_ble_eq_true rfl⟩ cw_o22 rfl rfl rfl hl.1 (Nat.le_of_ble_eq_true rfl) dX5_apply_53) (fun H locs hS => ?_)
      refine lv_iconst (v := 0) hx hb dX5_apply_56 (by decide) ?_
      exact retIw (wf := cw q d) C hS hm dX5_apply_57
def M_X5_perform (σ : ST) (a1 : Int32) : Option (Int32 × ST) := (M_X1_add σ a1).bind fun o5 => (M_X5_apply o5 a1).bind fun o10 => some (o10.1, o10.2)
abbrev rm_X5_perform : Room := { frames := 4, cells := 0, slots := 0, locals := 89 }
set_option maxRecDepth 100000 in
set_option maxHeartbeats 4000000 in
theorem c_X5_perform (l : Launch) (d : CD) (q : Nat → Nat) (σ : ST) (a1 : Int32) (out : Int32 × ST) (hm : M_X5_perform σ a1 = some out) : MetI l yX5_perform cX5_perform 2 (some .int) rm_X5_perform d (cw q d σ) [.ref (q 22), .int a1] out.1 (cw q d out.2) := by
  refine mkI (own := RX5) (by decide +kernel) rfl (Nat.le_of_ble_eq_true rfl) ?_
  intro p e s m below meth c A ls C hS hl
  obtain ⟨hx, hb, hml, hown, hts, -⟩ := id C
  have hl : lv_has ls 2 [(0, .ref (q 22)), (1, .int a1)] := hl
  unfold M_X5_perform at hm
  refine lv_aload_n hx hb dX5_perform_0 rfl (lv_at hl 0 rfl) ?_
  refine g_5_23_22 C hS dX5_perform_1 ?_
  refine lv_iload_n hx hb dX5_perform_4 rfl (lv_at hl 1 rfl) ?_
  obtain ⟨o5, e5, hm⟩ := ob hm
  refine after_v C hS (call_V (As := [.int a1]) C hS (c_X1_add l d q σ a1 o5 e5 _) iv_5_60 ⟨rfl, rfl, Nat.le_of_ble_eq_true rfl, Nat.le_of_ble_eq_true rfl⟩ cw_o27 rfl rfl rfl hl.1 (Nat.le_of_ble_eq_true rfl) dX5_perform_5) (fun H locs hS => ?_)
  refine lv_aload_n hx hb dX5_perform_8 rfl (lv_at hl 0 rfl) ?_
  refine lv_iload_n hx hb dX5_perform_9 rfl (lv_at hl 1 rfl) ?_
  obtain ⟨o10, e10, hm⟩ := ob hm
  refine after_i C hS (call_V (As := [.int a1]) C hS (c_X5_apply l d q o5 a1 o10 e10 _) iv_5_56 ⟨rfl, rfl, Nat.le_of_ble_eq_true rfl, Nat.le_of_ble_eq_true rfl⟩ cw_o22 rfl rfl rfl hl.1 (Nat.le_of_ble_eq_true rfl) dX5_perform_10) (fun H locs hS => ?_)
  exact retIw (wf := cw q d) C hS hm dX5_perform_13
def M_X6_meet (σ : ST) (a1 : Int32) : Option (Int32 × ST) := (M_X6_refusalOf_r σ a1).bind fun o6 => if o6.1 = 0 then (M_X3_sizeOf_r o6.2 a1).bind fun o21 => (M_X5_houses o6.2).bind fun o28 => if o21 ≤ o28 then (M_X6_setInRow o6.2 a1).bind fun o42 => if o42 = (-9) then (M_X6_refuse o6.2 3).bind fun o54 => some (o54.1, o54.2) else (M_X5_isOpenTo o6.2 o42).bind fun o63 => if o63 = 0 then some ((-4), o6.2) else (M_X1_isFull o6.2 1).bind fun o80 => if o80 = 0 then (M_X6_meetingInRow o6.2 a1).bind fun o95 => (M_X5_perform o6.2 o95).bind fun o98 => some (o98.1, o98.2) else some ((-2), o6.2) else (M_X6_refuse o6.2 5).bind fun o36 => some (o36.1, o36.2) else some (o6.1, o6.2)
abbrev rm_X6_meet : Room := { frames := 5, cells := 0, slots := 0, locals := 110 }
set_option maxRecDepth 100000 in
set_option maxHeartbeats 4000000 in
theorem c_X6_meet (l : Launch) (d : CD) (q : Nat → Nat) (σ : ST) (a1 : Int32) (out : Int32 × ST) (hm : M_X6_meet σ a1 = some out) : MetI l yX6_meet cX6_meet 4 (some .int) rm_X6_meet d (cw q d σ) [.ref (q 0), .int a1] out.1 (cw q d out.2) := by
  refine mkI (own := RX6) (by decide +kernel) rfl (Nat.le_of_ble_eq_true rfl) ?_
  intro p e s m below meth c A ls C hS hl
  obtain ⟨hx, hb, hml, hown, hts, -⟩ := id C
  have hl : lv_has ls 4 [(0, .ref (q 0)), (1, .int a1)] := hl
  unfold M_X6_meet at hm
  refine lv_aload_n hx hb dX6_meet_0 rfl (lv_at hl 0 rfl) ?_
  refine lv_aload_n hx hb dX6_meet_1 rfl (lv_at hl 0 rfl) ?_
  refine g_6_14_0 C hS dX6_meet_2 ?_
  refine lv_iload_n hx hb dX6_meet_5 rfl (lv_at hl 1 rfl) ?_
  obtain ⟨o6, e6, hm⟩ := ob hm
  refine after_i C hS (call_V (As := [.ref (q 1), .int a1]) C hS (c_X6_refusalOf_r l d q σ a1 o6 e6 _) iv_6_89 ⟨rfl, rfl, Nat.le_of_ble_eq_true rfl, Nat.le_of_ble_eq_true rfl⟩ cw_o0 rfl rfl rfl hl.1 (Nat.le_of_ble_eq_true rfl) dX6_meet_6) (fun H locs hS => ?_)
  refine lv_istore_n (lv' := [(2, .int o6.1), (0, .ref (q 0)), (1, .int a1)]) hx hb dX6_meet_9 rfl hl (by decide) rfl (fun ls hl => ?_)
  refine lv_iload_n hx hb dX6_meet_10 rfl (lv_at hl 0 rfl) ?_
  refine lv_if_eq (tgt := 16) hx hb dX6_meet_11 (by decide) (fun c11 => ?_) (fun c11 => ?_)
  · replace hm := it c11 hm
    refine lv_aload_n hx hb dX6_meet_16 rfl (lv_at hl 1 rfl) ?_
    refine g_6_14_0 C hS dX6_meet_17 ?_
    refine lv_iload_n hx hb dX6_meet_20 rfl (lv_at hl 2 rfl) ?_
    obtain ⟨o21, e21, hm⟩ := ob hm
    refine after_i C hS (call_V (As := [.int a1]) C hS (c_X3_sizeOf_r l d q o6.2 a1 o21 e21 _) iv_6_115 ⟨rfl, rfl, Nat.le_of_ble_eq_true rfl, Nat.le_of_ble_eq_true rfl⟩ cw_o1 rfl rfl rfl hl.1 (Nat.le_of_ble_eq_true rfl) dX6_meet_21) (fun H locs hS => ?_)
    refine lv_aload_n hx hb dX6_meet_24 rfl (lv_at hl 1 rfl) ?_
    refine g_6_33_0 C hS dX6_meet_25 ?_
    obtain ⟨o28, e28, hm⟩ := ob hm
    refine after_i C hS (call_V (As := []) C hS (c_X5_houses l d q o6.2 o28 e28 _) iv_6_140 ⟨rfl, rfl, Nat.le_of_ble_eq_true rfl, Nat.le_of_ble_eq_true rfl⟩ cw_o22 rfl rfl rfl hl.1 (Nat.le_of_ble_eq_true rfl) dX6_meet_28) (fun H locs hS => ?_)
    refine lv_icmp_le (tgt := 40) hx hb dX6_meet_31 (by decide) (fun c31 => ?_) (fun c31 => ?_)
    · replace hm := it c31 hm
      refine lv_aload_n hx hb dX6_meet_40 rfl (lv_at hl 1 rfl) ?_
      refine lv_iload_n hx hb dX6_meet_41 rfl (lv_at hl 2 rfl) ?_
      obtain ⟨o42, e42, hm⟩ := ob hm
      refine after_i C hS (call_V (As := [.int a1]) C hS (c_X6_setInRow l d q o6.2 a1 o42 e42 _) iv_6_162 ⟨rfl, rfl, Nat.le_of_ble_eq_true rfl, Nat.le_of_ble_eq_true rfl⟩ cw_o0 rfl rfl rfl hl.1 (Nat.le_of_ble_eq_true rfl) dX6_meet_42) (fun H locs hS => ?_)
      refine lv_istore_n (lv' := [(3, .int o42), (2, .int o6.1), (0, .ref (q 0)), (1, .int a1)]) hx hb dX6_meet_45 rfl hl (by decide) rfl (fun ls hl => ?_)
      refine lv_iload_n hx hb dX6_meet_46 rfl (lv_at hl 0 rfl) ?_
      refine lv_bipush (v := (-9)) hx hb dX6_meet_47 (by decide) ?_
      refine lv_icmp_ne (tgt := 58) hx hb dX6_meet_49 (by decide) (fun c49 => ?_) (fun c49 => ?_)
      · replace hm := ie c49 hm
        refine lv_aload_n hx hb dX6_meet_58 rfl (lv_at hl 2 rfl) ?_
        refine g_6_33_0 C hS dX6_meet_59 ?_
        refine lv_iload_n hx hb dX6_meet_62 rfl (lv_at hl 0 rfl) ?_
        obtain ⟨o63, e63, hm⟩ := ob hm
        refine after_i C hS (call_V (As := [.int o42]) C hS (c_X5_isOpenTo l d q o6.2 o42 o63 e63 _) iv_6_165 ⟨rfl, rfl, Nat.le_of_ble_eq_true rfl, Nat.le_of_ble_eq_true rfl⟩ cw_o22 rfl rfl rfl hl.1 (Nat.le_of_ble_eq_true rfl) dX6_meet_63) (fun H locs hS => ?_)
        refine lv_if_ne (tgt := 72) hx hb dX6_meet_66 (by decide) (fun c66 => ?_) (fun c66 => ?_)
        · replace hm := ie c66 hm
          refine lv_aload_n hx hb dX6_meet_72 rfl (lv_at hl 2 rfl) ?_
          refine g_6_33_0 C hS dX6_meet_73 ?_
          refine g_6_168_22 C hS dX6_meet_76 ?_
          refine lv_iconst (v := 1) hx hb dX6_meet_79 (by decide) ?_
          obtain ⟨o80, e80, hm⟩ := ob hm
          refine after_i C hS (call_V (As := [.int 1]) C hS (c_X1_isFull l d q o6.2 1 o80 e80 _) iv_6_172 ⟨rfl, rfl, Nat.le_of_ble_eq_true rfl, Nat.le_of_ble_eq_true rfl⟩ cw_o27 rfl rfl rfl hl.1 (Nat.le_of_ble_eq_true rfl) dX6_meet_80) (fun H locs hS => ?_)
          refine lv_if_eq (tgt := 89) hx hb dX6_meet_83 (by decide) (fun c83 => ?_) (fun c83 => ?_)
          · replace hm := it c83 hm
            refine lv_aload_n hx hb dX6_meet_89 rfl (lv_at hl 2 rfl) ?_
            refine g_6_33_0 C hS dX6_meet_90 ?_
            refine lv_aload_n hx hb dX6_meet_93 rfl (lv_at hl 2 rfl) ?_
            refine lv_iload_n hx hb dX6_meet_94 rfl (lv_at hl 3 rfl) ?_
            obtain ⟨o95, e95, hm⟩ := ob hm
            refine after_i C hS (call_V (As := [.int a1]) C hS (c_X6_meetingInRow l d q o6.2 a1 o95 e95 _) iv_6_175 ⟨rfl, rfl, Nat.le_of_ble_eq_true rfl, Nat.le_of_ble_eq_true rfl⟩ cw_o0 rfl rfl rfl hl.1 (Nat.le_of_ble_eq_true rfl) dX6_meet_95) (fun H locs hS => ?_)
            obtain ⟨o98, e98, hm⟩ := ob hm
            refine after_i C hS (call_V (As := [.int o95]) C hS (c_X5_perform l d q o6.2 o95 o98 e98 _) iv_6_178 ⟨rfl, rfl, Nat.le_of_ble_eq_true rfl, Nat.le_of_ble_eq_true rfl⟩ cw_o22 rfl rfl rfl hl.1 (Nat.le_of_ble_eq_true rfl) dX6_meet_98) (fun H locs hS => ?_)
            exact retIw (wf := cw q d) C hS hm dX6_meet_101
          · replace hm := ie c83 hm
            refine lv_bipush (v := (-2)) hx hb dX6_meet_86 (by decide) ?_
            exact retIw (wf := cw q d) C hS hm dX6_meet_88
        · replace hm := it c66 hm
          refine lv_bipush (v := (-4)) hx hb dX6_meet_69 (by decide) ?_
          exact retIw (wf := cw q d) C hS hm dX6_meet_71
      · replace hm := it c49 hm
        refine lv_aload_n hx hb dX6_meet_52 rfl (lv_at hl 2 rfl) ?_
        refine lv_iconst (v := 3) hx hb dX6_meet_53 (by decide) ?_
        obtain ⟨o54, e54, hm⟩ := ob hm
        refine after_i C hS (call_V (As := [.int 3]) C hS (c_X6_refuse l d q o6.2 3 o54 e54 _) iv_6_100 ⟨rfl, rfl, Nat.le_of_ble_eq_true rfl, Nat.le_of_ble_eq_true rfl⟩ cw_o0 rfl rfl rfl hl.1 (Nat.le_of_ble_eq_true rfl) dX6_meet_54) (fun H locs hS => ?_)
        exact retIw (wf := cw q d) C hS hm dX6_meet_57
    · replace hm := ie c31 hm
      refine lv_aload_n hx hb dX6_meet_34 rfl (lv_at hl 1 rfl) ?_
      refine lv_iconst (v := 5) hx hb dX6_meet_35 (by decide) ?_
      obtain ⟨o36, e36, hm⟩ := ob hm
      refine after_i C hS (call_V (As := [.int 5]) C hS (c_X6_refuse l d q o6.2 5 o36 e36 _) iv_6_100 ⟨rfl, rfl, Nat.le_of_ble_eq_true rfl, Nat.le_of_ble_eq_true rfl⟩ cw_o0 rfl rfl rfl hl.1 (Nat.le_of_ble_eq_true rfl) dX6_meet_36) (fun H locs hS => ?_)
      exact retIw (wf := cw q d) C hS hm dX6_meet_39
  · replace hm := ie c11 hm
    refine lv_iload_n hx hb dX6_meet_14 rfl (lv_at hl 0 rfl) ?_
    exact retIw (wf := cw q d) C hS hm dX6_meet_15
def M_X6_pledgeDeed (a0 : Int32) (a1 : Int32) : Option Int32 := some ((1 ||| (a0 <<< ((2 : Int32) &&& 31))) ||| (a1 <<< ((5 : Int32) &&& 31)))
abbrev rm_X6_pledgeDeed : Room := { frames := 0, cells := 0, slots := 0, locals := 0 }
set_option maxRecDepth 100000 in
set_option maxHeartbeats 4000000 in
theorem c_X6_pledgeDeed (l : Launch) (d : CD) (w : va_W) (a0 : Int32) (a1 : Int32) (out : Int32) (hm : M_X6_pledgeDeed a0 a1 = some out) : MetI l yX6_pledgeDeed cX6_pledgeDeed 2 (some .int) rm_X6_pledgeDeed d w [.int a0, .int a1] out w := by
  refine mkI (own := RX6) (by decide +kernel) rfl (Nat.le_of_ble_eq_true rfl) ?_
  intro p e s m below meth c A ls C hS hl
  obtain ⟨hx, hb, hml, hown, hts, -⟩ := id C
  have hl : lv_has ls 2 [(0, .int a0), (1, .int a1)] := hl
  unfold M_X6_pledgeDeed at hm
  refine lv_iconst (v := 1) hx hb dX6_pledgeDeed_0 (by decide) ?_
  refine lv_iload_n hx hb dX6_pledgeDeed_1 rfl (lv_at hl 0 rfl) ?_
  refine lv_iconst (v := 2) hx hb dX6_pledgeDeed_2 (by decide) ?_
  refine lv_ishl hx hb dX6_pledgeDeed_3 ?_
  refine lv_ior hx hb dX6_pledgeDeed_4 ?_
  refine lv_iload_n hx hb dX6_pledgeDeed_5 rfl (lv_at hl 1 rfl) ?_
  refine lv_iconst (v := 5) hx hb dX6_pledgeDeed_6 (by decide) ?_
  refine lv_ishl hx hb dX6_pledgeDeed_7 ?_
  refine lv_ior hx hb dX6_pledgeDeed_8 ?_
  exact retIr C hS hm dX6_pledgeDeed_9
