def M_X7_quorum_127 (k26 : ST → Int32 → Int32 → Int32 → Option (Int32 × ST)) (k42 : ST → Int32 → Int32 → Int32 → Int32 → Int32 → Option (Int32 × ST)) (σ : ST) (x1 : Int32) (x3 : Int32) (x4 : Int32) (x6 : Int32) (y0 : Int32) (y1 : Int32) : Option (Int32 × ST) := if y0 = y1 then k42 σ x1 x3 x4 1 (x6 + 2) else k42 σ x1 x3 x4 0 (x6 + 2)
def M_X7_quorum_100 (k26 : ST → Int32 → Int32 → Int32 → Option (Int32 × ST)) (k42 : ST → Int32 → Int32 → Int32 → Int32 → Int32 → Option (Int32 × ST)) (σ : ST) (x1 : Int32) (x3 : Int32) (x4 : Int32) (x5 : Int32) (x6 : Int32) (y0 : Int32) : Option (Int32 × ST) := if x5 = 0 then k42 σ x1 x3 x4 0 (x6 + 2) else (rd 240 (σ.2.2 6) (x6 + 1)).bind fun v117 => if v117 = 1 then M_X7_quorum_127 k26 k42 σ x1 x3 x4 x6 y0 1 else M_X7_quorum_127 k26 k42 σ x1 x3 x4 x6 y0 0
def M_X7_quorum_99 (k26 : ST → Int32 → Int32 → Int32 → Option (Int32 × ST)) (k42 : ST → Int32 → Int32 → Int32 → Int32 → Int32 → Option (Int32 × ST)) (σ : ST) (x1 : Int32) (x3 : Int32) (x4 : Int32) (x5 : Int32) (x6 : Int32) : Option (Int32 × ST) := M_X7_quorum_100 k26 k42 σ x1 x3 x4 x5 x6 0
def M_X7_quorum_42 (k26 : ST → Int32 → Int32 → Int32 → Option (Int32 × ST)) : Nat → ST → Int32 → Int32 → Int32 → Int32 → Int32 → Option (Int32 × ST)
  | 0, _, _, _, _, _, _ => none
  | n + 1, σ, x1, x3, x4, x5, x6 => (rd 6 (σ.2.2 5) x1).bind fun v53 => if ((40 * x1) + v53) ≤ x6 then if x5 = 0 then k26 σ x1 (x3 ||| 0) (x4 + 1) else k26 σ x1 (x3 ||| ((1 : Int32) <<< (x4 &&& 31))) (x4 + 1) else if (σ.1 3) ≤ 0 then M_X7_quorum_99 k26 (M_X7_quorum_42 k26 n) σ x1 x3 x4 x5 x6 else (rd 240 (σ.2.2 6) x6).bind fun v72 => (M_X7_weightOf σ v72).bind fun o73 => if o73 < x4 then M_X7_quorum_99 k26 (M_X7_quorum_42 k26 n) σ x1 x3 x4 x5 x6 else (rd 240 (σ.2.2 6) x6).bind fun v88 => (M_X7_isPeace σ v88).bind fun o89 => if o89 = 0 then M_X7_quorum_99 k26 (M_X7_quorum_42 k26 n) σ x1 x3 x4 x5 x6 else M_X7_quorum_100 k26 (M_X7_quorum_42 k26 n) σ x1 x3 x4 x5 x6 1
def M_X7_quorum_26 : Nat → ST → Int32 → Int32 → Int32 → Option (Int32 × ST)
  | 0, _, _, _, _ => none
  | n + 1, σ, x1, x3, x4 => if 10 ≤ x4 then some (x3, σ) else M_X7_quorum_42 (M_X7_quorum_26 n) 10000 σ x1 x3 x4 1 (40 * x1)
def M_X7_quorum (σ : ST) (a1 : Int32) : Option (Int32 × ST) := (M_X7_isRow a1).bind fun o1 => if o1 = 0 then some ((-1), σ) else (M_X7_noPairs σ a1).bind fun o11 => if o11.1 = 0 then M_X7_quorum_26 10000 o11.2 a1 0 1 else some (o11.1, o11.2)
abbrev rm_X7_quorum : Room := { frames := 3, cells := 0, slots := 0, locals := 69 }
set_option maxRecDepth 100000 in
set_option maxHeartbeats 4000000 in
theorem c_X7_quorum (l : Launch) (d : CD) (q : Nat → Nat) (σ : ST) (a1 : Int32) (out : Int32 × ST) (hm : M_X7_quorum σ a1 = some out) : MetI l yX7_quorum cX7_quorum 8 (some .int) rm_X7_quorum d (mw q d σ) [.ref (q 0), .int a1] out.1 (mw q d out.2) := by
  refine mkI (own := RX7) (by decide +kernel) rfl (Nat.le_of_ble_eq_true rfl) ?_
  intro p e s m below meth c A ls C hS hl
  obtain ⟨hx, hb, hml, hown, hts, -⟩ := id C
  have hl : lv_has ls 8 [(0, .ref (q 0)), (1, .int a1)] := hl
  have J127 : ∀ (k26 : ST → Int32 → Int32 → Int32 → Option (Int32 × ST)) (hk26 : ∀ (σ : ST) (x1 : Int32) (x3 : Int32) (x4 : Int32) (H : Heap) (locs : List Loc) (ls : Array Slot), HS d A s.heap H locs (mw q d σ) → lv_has ls 8 [(0, .ref (q 0)), (1, .int x1), (3, .int x3), (4, .int x4)] → k26 σ x1 x3 x4 = some out → WI p l e rm_X7_quorum s m [.ref (q 0), .int a1].toArray below meth c A d H locs out.1 (mw q d out.2) (F0 m 26 ls [])) (k42 : ST → Int32 → Int32 → Int32 → Int32 → Int32 → Option (Int32 × ST)) (hk42 : ∀ (σ : ST) (x1 : Int32) (x3 : Int32) (x4 : Int32) (x5 : Int32) (x6 : Int32) (H : Heap) (locs : List Loc) (ls : Array Slot), HS d A s.heap H locs (mw q d σ) → lv_has ls 8 [(0, .ref (q 0)), (1, .int x1), (3, .int x3), (4, .int x4), (5, .int x5), (6, .int x6)] → k42 σ x1 x3 x4 x5 x6 = some out → WI p l e rm_X7_quorum s m [.ref (q 0), .int a1].toArray below meth c A d H locs out.1 (mw q d out.2) (F0 m 42 ls [])) (σ : ST) (x1 : Int32) (x3 : Int32) (x4 : Int32) (x6 : Int32) (y0 : Int32) (y1 : Int32) (H : Heap) (locs : List Loc) (ls : Array Slot), HS d A s.heap H locs (mw q d σ) → lv_has ls 8 [(0, .ref (q 0)), (1, .int x1), (3, .int x3), (4, .int x4), (6, .int x6)] → M_X7_quorum_127 k26 k42 σ x1 x3 x4 x6 y0 y1 = some out → WI p l e rm_X7_quorum s m [.ref (q 0), .int a1].toArray below meth c A d H locs out.1 (mw q d out.2) (F0 m 127 ls [.int y1, .int y0]) := by
    intro k26 hk26 k42 hk42 σ x1 x3 x4 x6 y0 y1 H locs ls hS hl hm
    unfold M_X7_quorum_127 at hm
    refine lv_icmp_ne (tgt := 134) hx hb dX7_quorum_127 (by decide) (fun c127 => ?_) (fun c127 => ?_)
    · replace hm := ie c127 hm
      refine lv_iconst (v := 0) hx hb dX7_quorum_134 (by decide) ?_
      refine lv_istore (lv' := [(5, .int 0), (0, .ref (q 0)), (1, .int x1), (3, .int x3), (4, .int x4), (6, .int x6)]) hx hb dX7_quorum_135 hl (by decide) rfl (fun ls hl => ?_)
      refine lv_iinc (v := x6 + 2) (lv' := [(6, .int (x6 + 2)), (5, .int 0), (0, .ref (q 0)), (1, .int x1), (3, .int x3), (4, .int x4)]) hx hb dX7_quorum_137 hl (k := 5) rfl rfl (by decide) rfl (fun ls hl => ?_)
      refine lv_goto (tgt := 42) hx hb dX7_quorum_140 (by decide) ?_
      exact hk42 σ x1 x3 x4 0 (x6 + 2) _ _ _ hS (lv_sub hl [2, 3, 4, 5, 1, 0] rfl) hm
    · replace hm := it c127 hm
      refine lv_iconst (v := 1) hx hb dX7_quorum_130 (by decide) ?_
      refine lv_goto (tgt := 135) hx hb dX7_quorum_131 (by decide) ?_
      refine lv_istore (lv' := [(5, .int 1), (0, .ref (q 0)), (1, .int x1), (3, .int x3), (4, .int x4), (6, .int x6)]) hx hb dX7_quorum_135 hl (by decide) rfl (fun ls hl => ?_)
      refine lv_iinc (v := x6 + 2) (lv' := [(6, .int (x6 + 2)), (5, .int 1), (0, .ref (q 0)), (1, .int x1), (3, .int x3), (4, .int x4)]) hx hb dX7_quorum_137 hl (k := 5) rfl rfl (by decide) rfl (fun ls hl => ?_)
      refine lv_goto (tgt := 42) hx hb dX7_quorum_140 (by decide) ?_
      exact hk42 σ x1 x3 x4 1 (x6 + 2) _ _ _ hS (lv_sub hl [2, 3, 4, 5, 1, 0] rfl) hm
  have J100 : ∀ (k26 : ST → Int32 → Int32 → Int32 → Option (Int32 × ST)) (hk26 : ∀ (σ : ST) (x1 : Int32) (x3 : Int32) (x4 : Int32) (H : Heap) (locs : List Loc) (ls : Array Slot), HS d A s.heap H locs (mw q d σ) → lv_has ls 8 [(0, .ref (q 0)), (1, .int x1), (3, .int x3), (4, .int x4)] → k26 σ x1 x3 x4 = some out → WI p l e rm_X7_quorum s m [.ref (q 0), .int a1].toArray below meth c A d H locs out.1 (mw q d out.2) (F0 m 26 ls [])) (k42 : ST → Int32 → Int32 → Int32 → Int32 → Int32 → Option (Int32 × ST)) (hk42 : ∀ (σ : ST) (x1 : Int32) (x3 : Int32) (x4 : Int32) (x5 : Int32) (x6 : Int32) (H : Heap) (locs : List Loc) (ls : Array Slot), HS d A s.heap H locs (mw q d σ) → lv_has ls 8 [(0, .ref (q 0)), (1, .int x1), (3, .int x3), (4, .int x4), (5, .int x5), (6, .int x6)] → k42 σ x1 x3 x4 x5 x6 = some out → WI p l e rm_X7_quorum s m [.ref (q 0), .int a1].toArray below meth c A d H locs out.1 (mw q d out.2) (F0 m 42 ls [])) (σ : ST) (x1 : Int32) (x3 : Int32) (x4 : Int32) (x5 : Int32) (x6 : Int32) (y0 : Int32) (H : Heap) (locs : List Loc) (ls : Array Slot), HS d A s.heap H locs (mw q d σ) → lv_has ls 8 [(0, .ref (q 0)), (1, .int x1), (3, .int x3), (4, .int x4), (5, .int x5), (6, .int x6)] → M_X7_quorum_100 k26 k42 σ x1 x3 x4 x5 x6 y0 = some out → WI p l e rm_X7_quorum s m [.ref (q 0), .int a1].toArray below meth c A d H locs out.1 (mw q d out.2) (F0 m 100 ls [.int y0]) := by
    intro k26 hk26 k42 hk42 σ x1 x3 x4 x5 x6 y0 H locs ls hS hl hm
    unfold M_X7_quorum_100 at hm
    refine lv_istore (lv' := [(7, .int y0), (0, .ref (q 0)), (1, .int x1), (3, .int x3), (4, .int x4), (5, .int x5), (6, .int x6)]) hx hb dX7_quorum_100 hl (by decide) rfl (fun ls hl => ?_)
    refine lv_iload hx hb dX7_quorum_102 (lv_at hl 5 rfl) ?_
    refine lv_if_eq (tgt := 134) hx hb dX7_quorum_104 (by decide) (fun c104 => ?_) (fun c104 => ?_)
    · replace hm := it c104 hm
      refine lv_iconst (v := 0) hx hb dX7_quorum_134 (by decide) ?_
      refine lv_istore (lv' := [(5, .int 0), (7, .int y0), (0, .ref (q 0)), (1, .int x1), (3, .int x3), (4, .int x4), (6, .int x6)]) hx hb dX7_quorum_135 hl (by decide) rfl (fun ls hl => ?_)
      refine lv_iinc (v := x6 + 2) (lv' := [(6, .int (x6 + 2)), (5, .int 0), (7, .int y0), (0, .ref (q 0)), (1, .int x1), (3, .int x3), (4, .int x4)]) hx hb dX7_quorum_137 hl (k := 6) rfl rfl (by decide) rfl (fun ls hl => ?_)
      refine lv_goto (tgt := 42) hx hb dX7_quorum_140 (by decide) ?_
      exact hk42 σ x1 x3 x4 0 (x6 + 2) _ _ _ hS (lv_sub hl [3, 4, 5, 6, 1, 0] rfl) hm
    · replace hm := ie c104 hm
      refine lv_iload hx hb dX7_quorum_107 (lv_at hl 0 rfl) ?_
      refine lv_aload_n hx hb dX7_quorum_109 rfl (lv_at hl 1 rfl) ?_
      refine g_7_25_0 C hS dX7_quorum_110 ?_
      refine lv_iload hx hb dX7_quorum_113 (lv_at hl 6 rfl) ?_
      refine lv_iconst (v := 1) hx hb dX7_quorum_115 (by decide) ?_
      refine lv_iadd hx hb dX7_quorum_116 ?_
      obtain ⟨v117, e117, hm⟩ := ob hm
      refine iald' C hS mw_a6 e117 dX7_quorum_117 ?_
      refine lv_iconst (v := 1) hx hb dX7_quorum_118 (by decide) ?_
      refine lv_icmp_ne (tgt := 126) hx hb dX7_quorum_119 (by decide) (fun c119 => ?_) (fun c119 => ?_)
      · replace hm := ie c119 hm
        refine lv_iconst (v := 0) hx hb dX7_quorum_126 (by decide) ?_
        exact J127 k26 hk26 k42 hk42 σ x1 x3 x4 x6 y0 0 _ _ _ hS (lv_sub hl [1, 2, 3, 4, 6] rfl) hm
      · replace hm := it c119 hm
        refine lv_iconst (v := 1) hx hb dX7_quorum_122 (by decide) ?_
        refine lv_goto (tgt := 127) hx hb dX7_quorum_123 (by decide) ?_
        exact J127 k26 hk26 k42 hk42 σ x1 x3 x4 x6 y0 1 _ _ _ hS (lv_sub hl [1, 2, 3, 4, 6] rfl) hm
  have J99 : ∀ (k26 : ST → Int32 → Int32 → Int32 → Option (Int32 × ST)) (hk26 : ∀ (σ : ST) (x1 : Int32) (x3 : Int32) (x4 : Int32) (H : Heap) (locs : List Loc) (ls : Array Slot), HS d A s.heap H locs (mw q d σ) → lv_has ls 8 [(0, .ref (q 0)), (1, .int x1), (3, .int x3), (4, .int x4)] → k26 σ x1 x3 x4 = some out → WI p l e rm_X7_quorum s m [.ref (q 0), .int a1].toArray below meth c A d H locs out.1 (mw q d out.2) (F0 m 26 ls [])) (k42 : ST → Int32 → Int32 → Int32 → Int32 → Int32 → Option (Int32 × ST)) (hk42 : ∀ (σ : ST) (x1 : Int32) (x3 : Int32) (x4 : Int32) (x5 : Int32) (x6 : Int32) (H : Heap) (locs : List Loc) (ls : Array Slot), HS d A s.heap H locs (mw q d σ) → lv_has ls 8 [(0, .ref (q 0)), (1, .int x1), (3, .int x3), (4, .int x4), (5, .int x5), (6, .int x6)] → k42 σ x1 x3 x4 x5 x6 = some out → WI p l e rm_X7_quorum s m [.ref (q 0), .int a1].toArray below meth c A d H locs out.1 (mw q d out.2) (F0 m 42 ls [])) (σ : ST) (x1 : Int32) (x3 : Int32) (x4 : Int32) (x5 : Int32) (x6 : Int32) (H : Heap) (locs : List Loc) (ls : Array Slot), HS d A s.heap H locs (mw q d σ) → lv_has ls 8 [(0, .ref (q 0)), (1, .int x1), (3, .int x3), (4, .int x4), (5, .int x5), (6, .int x6)] → M_X7_quorum_99 k26 k42 σ x1 x3 x4 x5 x6 = some out → WI p l e rm_X7_quorum s m [.ref (q 0), .int a1].toArray below meth c A d H locs out.1 (mw q d out.2) (F0 m 99 ls []) := by
    intro k26 hk26 k42 hk42 σ x1 x3 x4 x5 x6 H locs ls hS hl hm
    unfold M_X7_quorum_99 at hm
    refine lv_iconst (v := 0) hx hb dX7_quorum_99 (by decide) ?_
    exact J100 k26 hk26 k42 hk42 σ x1 x3 x4 x5 x6 0 _ _ _ hS (lv_sub hl [0, 1, 2, 3, 4, 5] rfl) hm
  have L42 : ∀ (k26 : ST → Int32 → Int32 → Int32 → Option (Int32 × ST)) (hk26 : ∀ (σ : ST) (x1 : Int32) (x3 : Int32) (x4 : Int32) (H : Heap) (locs : List Loc) (ls : Array Slot), HS d A s.heap H locs (mw q d σ) → lv_has ls 8 [(0, .ref (q 0)), (1, .int x1), (3, .int x3), (4, .int x4)] → k26 σ x1 x3 x4 = some out → WI p l e rm_X7_quorum s m [.ref (q 0), .int a1].toArray below meth c A d H locs out.1 (mw q d out.2) (F0 m 26 ls [])) (n : Nat) (σ : ST) (x1 : Int32) (x3 : Int32) (x4 : Int32) (x5 : Int32) (x6 : Int32) (H : Heap) (locs : List Loc) (ls : Array Slot), HS d A s.heap H locs (mw q d σ) → lv_has ls 8 [(0, .ref (q 0)), (1, .int x1), (3, .int x3), (4, .int x4), (5, .int x5), (6, .int x6)] → M_X7_quorum_42 k26 n σ x1 x3 x4 x5 x6 = some out → WI p l e rm_X7_quorum s m [.ref (q 0), .int a1].toArray below meth c A d H locs out.1 (mw q d out.2) (F0 m 42 ls []) := by
    intro k26 hk26 n
    induction n with
    | zero =>
      intro σ x1 x3 x4 x5 x6 H locs ls hS hl hm
      exact absurd hm (by rw [M_X7_quorum_42]; exact fun h => nomatch h)
    | succ n ih =>
      intro σ x1 x3 x4 x5 x6 H locs ls hS hl hm
      rw [M_X7_quorum_42] at hm
      refine lv_iload hx hb dX7_quorum_42 (lv_at hl 5 rfl) ?_
      refine lv_bipush (v := 40) hx hb dX7_quorum_44 (by decide) ?_
      refine lv_iload_n hx hb dX7_quorum_46 rfl (lv_at hl 1 rfl) ?_
      refine lv_imul hx hb dX7_quorum_47 ?_
      refine lv_aload_n hx hb dX7_quorum_48 rfl (lv_at hl 0 rfl) ?_
      refine g_7_22_0 C hS dX7_quorum_49 ?_
      refine lv_iload_n hx hb dX7_quorum_52 rfl (lv_at hl 1 rfl) ?_
      obtain ⟨v53, e53, hm⟩ := ob hm
      refine iald' C hS mw_a5 e53 dX7_quorum_53 ?_
      refine lv_iadd hx hb dX7_quorum_54 ?_
      refine lv_icmp_ge (tgt := 143) hx hb dX7_quorum_55 (by decide) (fun c55 => ?_) (fun c55 => ?_)
      · replace hm := it c55 hm
        refine lv_iload_n hx hb dX7_quorum_143 rfl (lv_at hl 2 rfl) ?_
        refine lv_iload hx hb dX7_quorum_144 (lv_at hl 4 rfl) ?_
        refine lv_if_eq (tgt := 156) hx hb dX7_quorum_146 (by decide) (fun c146 => ?_) (fun c146 => ?_)
        · replace hm := it c146 hm
          refine lv_iconst (v := 0) hx hb dX7_quorum_156 (by decide) ?_
          refine lv_ior hx hb dX7_quorum_157 ?_
          refine lv_istore_n (lv' := [(3, .int (x3 ||| 0)), (0, .ref (q 0)), (1, .int x1), (4, .int x4), (5, .int x5), (6, .int x6)]) hx hb dX7_quorum_158 rfl hl (by decide) rfl (fun ls hl => ?_)
          refine lv_iinc (v := x4 + 1) (lv' := [(4, .int (x4 + 1)), (3, .int (x3 ||| 0)), (0, .ref (q 0)), (1, .int x1), (5, .int x5), (6, .int x6)]) hx hb dX7_quorum_159 hl (k := 3) rfl rfl (by decide) rfl (fun ls hl => ?_)
          refine lv_goto (tgt := 26) hx hb dX7_quorum_162 (by decide) ?_
          exact hk26 σ x1 (x3 ||| 0) (x4 + 1) _ _ _ hS (lv_sub hl [2, 3, 1, 0] rfl) hm
        · replace hm := ie c146 hm
          refine lv_iconst (v := 1) hx hb dX7_quorum_149 (by decide) ?_
          refine lv_iload hx hb dX7_quorum_150 (lv_at hl 3 rfl) ?_
          refine lv_ishl hx hb dX7_quorum_152 ?_
          refine lv_goto (tgt := 157) hx hb dX7_quorum_153 (by decide) ?_
          refine lv_ior hx hb dX7_quorum_157 ?_
          refine lv_istore_n (lv' := [(3, .int (x3 ||| ((1 : Int32) <<< (x4 &&& 31)))), (0, .ref (q 0)), (1, .int x1), (4, .int x4), (5, .int x5), (6, .int x6)]) hx hb dX7_quorum_158 rfl hl (by decide) rfl (fun ls hl => ?_)
          refine lv_iinc (v := x4 + 1) (lv' := [(4, .int (x4 + 1)), (3, .int (x3 ||| ((1 : Int32) <<< (x4 &&& 31)))), (0, .ref (q 0)), (1, .int x1), (5, .int x5), (6, .int x6)]) hx hb dX7_quorum_159 hl (k := 3) rfl rfl (by decide) rfl (fun ls hl => ?_)
          refine lv_goto (tgt := 26) hx hb dX7_quorum_162 (by decide) ?_
          exact hk26 σ x1 (x3 ||| ((1 : Int32) <<< (x4 &&& 31))) (x4 + 1) _ _ _ hS (lv_sub hl [2, 3, 1, 0] rfl) hm
      · replace hm := ie c55 hm
        refine lv_aload_n hx hb dX7_quorum_58 rfl (lv_at hl 0 rfl) ?_
        refine g_7_158_0 C hS dX7_quorum_59 ?_
        refine lv_if_le (tgt := 99) hx hb dX7_quorum_62 (by decide) (fun c62 => ?_) (fun c62 => ?_)
        · replace hm := it c62 hm
          exact J99 k26 hk26 (M_X7_quorum_42 k26 n) ih σ x1 x3 x4 x5 x6 _ _ _ hS (lv_sub hl [0, 1, 2, 3, 4, 5] rfl) hm
        · replace hm := ie c62 hm
          refine lv_aload_n hx hb dX7_quorum_65 rfl (lv_at hl 0 rfl) ?_
          refine lv_aload_n hx hb dX7_quorum_66 rfl (lv_at hl 0 rfl) ?_
          refine g_7_25_0 C hS dX7_quorum_67 ?_
          refine lv_iload hx hb dX7_quorum_70 (lv_at hl 5 rfl) ?_
          obtain ⟨v72, e72, hm⟩ := ob hm
          refine iald' C hS mw_a6 e72 dX7_quorum_72 ?_
          obtain ⟨o73, e73, hm⟩ := ob hm
          refine after_i C hS (call_V (As := [.int v72]) C hS (c_X7_weightOf l d q σ v72 o73 e73 _) iv_7_170 ⟨rfl, rfl, Nat.le_of_ble_eq_true rfl, Nat.le_of_ble_eq_true rfl⟩ mw_o0 rfl rfl rfl hl.1 (Nat.le_of_ble_eq_true rfl) dX7_quorum_73) (fun H locs hS => ?_)
          refine lv_iload hx hb dX7_quorum_76 (lv_at hl 3 rfl) ?_
          refine lv_icmp_lt (tgt := 99) hx hb dX7_quorum_78 (by decide) (fun c78 => ?_) (fun c78 => ?_)
          · replace hm := it c78 hm
            exact J99 k26 hk26 (M_X7_quorum_42 k26 n) ih σ x1 x3 x4 x5 x6 _ _ _ hS (lv_sub hl [0, 1, 2, 3, 4, 5] rfl) hm
          · replace hm := ie c78 hm
            refine lv_aload_n hx hb dX7_quorum_81 rfl (lv_at hl 0 rfl) ?_
            refine lv_aload_n hx hb dX7_quorum_82 rfl (lv_at hl 0 rfl) ?_
            refine g_7_25_0 C hS dX7_quorum_83 ?_
            refine lv_iload hx hb dX7_quorum_86 (lv_at hl 5 rfl) ?_
            obtain ⟨v88, e88, hm⟩ := ob hm
            refine iald' C hS mw_a6 e88 dX7_quorum_88 ?_
            obtain ⟨o89, e89, hm⟩ := ob hm
            refine after_i C hS (call_V (As := [.int v88]) C hS (c_X7_isPeace l d q σ v88 o89 e89 _) iv_7_173 ⟨rfl, rfl, Nat.le_of_ble_eq_true rfl, Nat.le_of_ble_eq_true rfl⟩ mw_o0 rfl rfl rfl hl.1 (Nat.le_of_ble_eq_true rfl) dX7_quorum_89) (fun H locs hS => ?_)
            refine lv_if_eq (tgt := 99) hx hb dX7_quorum_92 (by decide) (fun c92 => ?_) (fun c92 => ?_)
            · replace hm := it c92 hm
              exact J99 k26 hk26 (M_X7_quorum_42 k26 n) ih σ x1 x3 x4 x5 x6 _ _ _ hS (lv_sub hl [0, 1, 2, 3, 4, 5] rfl) hm
            · replace hm := ie c92 hm
              refine lv_iconst (v := 1) hx hb dX7_quorum_95 (by decide) ?_
              refine lv_goto (tgt := 100) hx hb dX7_quorum_96 (by decide) ?_
              exact J100 k26 hk26 (M_X7_quorum_42 k26 n) ih σ x1 x3 x4 x5 x6 1 _ _ _ hS (lv_sub hl [0, 1, 2, 3, 4, 5] rfl) hm
  have L26 : ∀ (n : Nat) (σ : ST) (x1 : Int32) (x3 : Int32) (x4 : Int32) (H : Heap) (locs : List Loc) (ls : Array Slot), HS d A s.heap H locs (mw q d σ) → lv_has ls 8 [(0, .ref (q 0)), (1, .int x1), (3, .int x3), (4, .int x4)] → M_X7_quorum_26 n σ x1 x3 x4 = some out → WI p l e rm_X7_quorum s m [.ref (q 0), .int a1].toArray below meth c A d H locs out.1 (mw q d out.2) (F0 m 26 ls []) := by
    intro n
    induction n with
    | zero =>
      intro σ x1 x3 x4 H locs ls hS hl hm
      exact absurd hm (by rw [M_X7_quorum_26]; exact fun h => nomatch h)
    | succ n ih =>
      intro σ x1 x3 x4 H locs ls hS hl hm
      rw [M_X7_quorum_26] at hm
      refine lv_iload hx hb dX7_quorum_26 (lv_at hl 3 rfl) ?_
      refine lv_bipush (v := 10) hx hb dX7_quorum_28 (by decide) ?_
      refine lv_icmp_ge (tgt := 165) hx hb dX7_quorum_30 (by decide) (fun c30 => ?_) (fun c30 => ?_)
      · replace hm := it c30 hm
        refine lv_iload_n hx hb dX7_quorum_165 rfl (lv_at hl 2 rfl) ?_
        exact retIw (wf := mw q d) C hS hm dX7_quorum_166
      · replace hm := ie c30 hm
        refine lv_iconst (v := 1) hx hb dX7_quorum_33 (by decide) ?_
        refine lv_istore (lv' := [(5, .int 1), (0, .ref (q 0)), (1, .int x1), (3, .int x3), (4, .int x4)]) hx hb dX7_quorum_34 hl (by decide) rfl (fun ls hl => ?_)
        refine lv_bipush (v := 40) hx hb dX7_quorum_36 (by decide) ?_
        refine lv_iload_n hx hb dX7_quorum_38 rfl (lv_at hl 2 rfl) ?_
        refine lv_imul hx hb dX7_quorum_39 ?_
        refine lv_istore (lv' := [(6, .int (40 * x1)), (5, .int 1), (0, .ref (q 0)), (1, .int x1), (3, .int x3), (4, .int x4)]) hx hb dX7_quorum_40 hl (by decide) rfl (fun ls hl => ?_)
        exact L42 (M_X7_quorum_26 n) ih 10000 σ x1 x3 x4 1 (40 * x1) _ _ _ hS (lv_sub hl [2, 3, 4, 5, 1, 0] rfl) hm
  unfold M_X7_quorum at hm
  refine lv_iload_n hx hb dX7_quorum_0 rfl (lv_at hl 1 rfl) ?_
  obtain ⟨o1, e1, hm⟩ := ob hm
  refine after_i C hS (call_S (As := [.int a1]) C hS (c_X7_isRow l d (mw q d σ) a1 o1 e1 _) is_7_72 ⟨rfl, rfl, Nat.le_of_ble_eq_true rfl, Nat.le_of_ble_eq_true rfl⟩ rfl hl.1 (Nat.le_of_ble_eq_true rfl) dX7_quorum_1) (fun H locs hS => ?_)
  refine lv_if_ne (tgt := 9) hx hb dX7_quorum_4 (by decide) (fun c4 => ?_) (fun c4 => ?_)
  · replace hm := ie c4 hm
    refine lv_aload_n hx hb dX7_quorum_9 rfl (lv_at hl 0 rfl) ?_
    refine lv_iload_n hx hb dX7_quorum_10 rfl (lv_at hl 1 rfl) ?_
    obtain ⟨o11, e11, hm⟩ := ob hm
    refine after_i C hS (call_V (As := [.int a1]) C hS (c_X7_noPairs l d q σ a1 o11 e11 _) iv_7_262 ⟨rfl, rfl, Nat.le_of_ble_eq_true rfl, Nat.le_of_ble_eq_true rfl⟩ mw_o0 rfl rfl rfl hl.1 (Nat.le_of_ble_eq_true rfl) dX7_quorum_11) (fun H locs hS => ?_)
    refine lv_istore_n (lv' := [(2, .int o11.1), (0, .ref (q 0)), (1, .int a1)]) hx hb dX7_quorum_14 rfl hl (by decide) rfl (fun ls hl => ?_)
    refine lv_iload_n hx hb dX7_quorum_15 rfl (lv_at hl 0 rfl) ?_
    refine lv_if_eq (tgt := 21) hx hb dX7_quorum_16 (by decide) (fun c16 => ?_) (fun c16 => ?_)
    · replace hm := it c16 hm
      refine lv_iconst (v := 0) hx hb dX7_quorum_21 (by decide) ?_
      refine lv_istore_n (lv' := [(3, .int 0), (2, .int o11.1), (0, .ref (q 0)), (1, .int a1)]) hx hb dX7_quorum_22 rfl hl (by decide) rfl (fun ls hl => ?_)
      refine lv_iconst (v := 1) hx hb dX7_quorum_23 (by decide) ?_
      refine lv_istore (lv' := [(4, .int 1), (3, .int 0), (2, .int o11.1), (0, .ref (q 0)), (1, .int a1)]) hx hb dX7_quorum_24 hl (by decide) rfl (fun ls hl => ?_)
      exact L26 10000 o11.2 a1 0 1 _ _ _ hS (lv_sub hl [3, 4, 1, 0] rfl) hm
    · replace hm := ie c16 hm
      refine lv_iload_n hx hb dX7_quorum_19 rfl (lv_at hl 0 rfl) ?_
      exact retIw (wf := mw q d) C hS hm dX7_quorum_20
  · replace hm := it c4 hm
    refine lv_iconst (v := (-1)) hx hb dX7_quorum_7 (by decide) ?_
    exact retIw (wf := mw q d) C hS hm dX7_quorum_8
def M_X7_power_4 : Nat → Int32 → Int32 → Int32 → Option Int32
  | 0, _, _, _ => none
  | n + 1, x0, x1, x2 => if x0 ≤ x2 then some x1 else M_X7_power_4 n x0 (x1 * 3) (x2 + 1)
def M_X7_power (a0 : Int32) : Option Int32 := M_X7_power_4 10000 a0 1 0
abbrev rm_X7_power : Room := { frames := 0, cells := 0, slots := 0, locals := 0 }
set_option maxRecDepth 100000 in
set_option maxHeartbeats 4000000 in
theorem c_X7_power (l : Launch) (d : CD) (w : va_W) (a0 : Int32) (out : Int32) (hm : M_X7_power a0 = some out) : MetI l yX7_power cX7_power 3 (some .int) rm_X7_power d w [.int a0] out w := by
  refine mkI (own := RX7) (by decide +kernel) rfl (Nat.le_of_ble_eq_true rfl) ?_
  intro p e s m below meth c A ls C hS hl
  obtain ⟨hx, hb, hml, hown, hts, -⟩ := id C
  have hl : lv_has ls 3 [(0, .int a0)] := hl
  have L4 : ∀ (n : Nat) (x0 : Int32) (x1 : Int32) (x2 : Int32) (H : Heap) (locs : List Loc) (ls : Array Slot), HS d A s.heap H locs w → lv_has ls 3 [(0, .int x0), (1, .int x1), (2, .int x2)] → M_X7_power_4 n x0 x1 x2 = some out → WI p l e rm_X7_power s m [.int a0].toArray below meth c A d H locs out w (F0 m 4 ls []) := by
    intro n
    induction n with
    | zero =>
      intro x0 x1 x2 H locs ls hS hl hm
      exact absurd hm (by rw [M_X7_power_4]; exact fun h => nomatch h)
    | succ n ih =>
      intro x0 x1 x2 H locs ls hS hl hm
      rw [M_X7_power_4] at hm
      refine lv_iload_n hx hb dX7_power_4 rfl (lv_at hl 2 rfl) ?_
      refine lv_iload_n hx hb dX7_power_5 rfl (lv_at hl 0 rfl) ?_
      refine lv_icmp_ge (tgt := 19) hx hb dX7_power_6 (by decide) (fun c6 => ?_) (fun c6 => ?_)
      · replace hm := it c6 hm
        refine lv_iload_n hx hb dX7_power_19 rfl (lv_at hl 1 rfl) ?_
        exact retIr C hS hm dX7_power_20
      · replace hm := ie c6 hm
        refine lv_iload_n hx hb dX7_power_9 rfl (lv_at hl 1 rfl) ?_
        refine lv_iconst (v := 3) hx hb dX7_power_10 (by decide) ?_
        refine lv_imul hx hb dX7_power_11 ?_
        refine lv_istore_n (lv' := [(1, .int (x1 * 3)), (0, .int x0), (2, .int x2)]) hx hb dX7_power_12 rfl hl (by decide) rfl (fun ls hl => ?_)
        refine lv_iinc (v := x2 + 1) (lv' := [(2, .int (x2 + 1)), (1, .int (x1 * 3)), (0, .int x0)]) hx hb dX7_power_13 hl (k := 2) rfl rfl (by decide) rfl (fun ls hl => ?_)
        refine lv_goto (tgt := 4) hx hb dX7_power_16 (by decide) ?_
        exact ih x0 (x1 * 3) (x2 + 1) _ _ _ hS (lv_sub hl [2, 1, 0] rfl) hm
  unfold M_X7_power at hm
  refine lv_iconst (v := 1) hx hb dX7_power_0 (by decide) ?_
  refine lv_istore_n (lv' := [(1, .int 1), (0, .int a0)]) hx hb dX7_power_1 rfl hl (by decide) rfl (fun ls hl => ?_)
  refine lv_iconst (v := 0) hx hb dX7_power_2 (by decide) ?_
  refine lv_istore_n (lv' := [(2, .int 0), (1, .int 1), (0, .int a0)]) hx hb dX7_power_3 rfl hl (by decide) rfl (fun ls hl => ?_)
  exact L4 10000 a0 1 0 _ _ _ hS (lv_sub hl [2, 1, 0] rfl) hm
def M_X7_layWins_121 (k10 : ST → Int32 → Option ST) : Nat → ST → Int32 → Int32 → Int32 → Int32 → Option ST
  | 0, _, _, _, _, _ => none
  | n + 1, σ, x1, x4, x5, x6 => if (σ.1 3) ≤ x6 then (okZ x5).bind fun z217 => (wrA 2187 σ 14 x1 z217).bind fun σ217 => k10 σ217 (x1 + (-1)) else (M_X7_power x6).bind fun o133 => (dvI x1 o133).bind fun v136 => if (v136 - v136 / 3 * 3) = 0 then if x4 = 0 then if x5 = 0 then M_X7_layWins_121 k10 n σ x1 x4 0 (x6 + 1) else (M_X7_power x6).bind fun o188 => (rd 2187 (σ.2.2 14) (x1 + (2 * o188))).bind fun v193 => if v193 = 0 then M_X7_layWins_121 k10 n σ x1 x4 0 (x6 + 1) else M_X7_layWins_121 k10 n σ x1 x4 1 (x6 + 1) else if x5 = 0 then (M_X7_power x6).bind fun o159 => (rd 2187 (σ.2.2 14) (x1 + o159)).bind fun v163 => if v163 = 0 then M_X7_layWins_121 k10 n σ x1 x4 0 (x6 + 1) else M_X7_layWins_121 k10 n σ x1 x4 1 (x6 + 1) else M_X7_layWins_121 k10 n σ x1 x4 1 (x6 + 1) else M_X7_layWins_121 k10 n σ x1 x4 x5 (x6 + 1)
def M_X7_layWins_88 (k10 : ST → Int32 → Option ST) (σ : ST) (x1 : Int32) (x2 : Int32) (x3 : Int32) (y0 : Int32) : Option ST := if x3 = (σ.1 3) then (M_X7_isOpen σ x2).bind fun o100 => M_X7_layWins_121 k10 10000 σ x1 y0 o100 0 else if y0 = 0 then M_X7_layWins_121 k10 10000 σ x1 y0 1 0 else M_X7_layWins_121 k10 10000 σ x1 y0 0 0
def M_X7_layWins_56 (k10 : ST → Int32 → Option ST) (k21 : ST → Int32 → Int32 → Int32 → Int32 → Option ST) (σ : ST) (x1 : Int32) (x3 : Int32) (x4 : Int32) (x5 : Int32) (y0 : Int32) (y1 : Int32) : Option ST := if x5 = 0 then k21 σ x1 (y0 ||| y1) (x3 + 0) (x4 + 1) else k21 σ x1 (y0 ||| y1) (x3 + 1) (x4 + 1)
def M_X7_layWins_21 (k10 : ST → Int32 → Option ST) : Nat → ST → Int32 → Int32 → Int32 → Int32 → Option ST
  | 0, _, _, _, _, _ => none
  | n + 1, σ, x1, x2, x3, x4 => if (σ.1 3) ≤ x4 then if (x3 - x3 / 2 * 2) = 0 then M_X7_layWins_88 k10 σ x1 x2 x3 1 else M_X7_layWins_88 k10 σ x1 x2 x3 0 else (M_X7_power x4).bind fun o33 => (dvI x1 o33).bind fun v36 => if (v36 - v36 / 3 * 3) = 1 then M_X7_layWins_56 k10 (M_X7_layWins_21 k10 n) σ x1 x3 x4 (v36 - v36 / 3 * 3) x2 ((1 : Int32) <<< (x4 &&& 31)) else M_X7_layWins_56 k10 (M_X7_layWins_21 k10 n) σ x1 x3 x4 (v36 - v36 / 3 * 3) x2 0
def M_X7_layWins_10 : Nat → ST → Int32 → Option ST
  | 0, _, _ => none
  | n + 1, σ, x1 => if x1 < 0 then some σ else M_X7_layWins_21 (M_X7_layWins_10 n) 10000 σ x1 0 0 0
def M_X7_layWins (σ : ST) : Option ST := (M_X7_power (σ.1 3)).bind fun o4 => M_X7_layWins_10 10000 σ (o4 - 1)
abbrev rm_X7_layWins : Room := { frames := 3, cells := 0, slots := 0, locals := 66 }
set_option maxRecDepth 100000 in
set_option maxHeartbeats 4000000 in
theorem c_X7_layWins (l : Launch) (d : CD) (q : Nat → Nat) (σ : ST) (out : ST) (hm : M_X7_layWins σ = some out) : MetV l yX7_layWins cX7_layWins 7 (none) rm_X7_layWins d (mw q d σ) [.ref (q 0)] (mw q d out) := by
  refine mkV (own := RX7) (by decide +kernel) rfl (Nat.le_of_ble_eq_true rfl) ?_
  intro p e s m below meth c A ls C hS hl
  obtain ⟨hx, hb, hml, hown, hts, -⟩ := id C
  have hl : lv_has ls 7 [(0, .ref (q 0))] := hl
  have L121 : ∀ (k10 : ST → Int32 → Option ST) (hk10 : ∀ (σ : ST) (x1 : Int32) (H : Heap) (locs : List Loc) (ls : Array Slot), HS d A s.heap H locs (mw q d σ) → lv_has ls 7 [(0, .ref (q 0)), (1, .int x1)] → k10 σ x1 = some out → WV p l e rm_X7_layWins s m [.ref (q 0)].toArray below meth c A d H locs (mw q d out) (F0 m 10 ls [])) (n : Nat) (σ : ST) (x1 : Int32) (x4 : Int32) (x5 : Int32) (x6 : Int32) (H : Heap) (locs : List Loc) (ls : Array Slot), HS d A s.heap H locs (mw q d σ) → lv_has ls 7 [(0, .ref (q 0)), (1, .int x1), (4, .int x4), (5, .int x5), (6, .int x6)] → M_X7_layWins_121 k10 n σ x1 x4 x5 x6 = some out → WV p l e rm_X7_layWins s m [.ref (q 0)].toArray below meth c A d H locs (mw q d out) (F0 m 121 ls []) := by
    intro k10 hk10 n
    induction n with
    | zero =>
      intro σ x1 x4 x5 x6 H locs ls hS hl hm
      exact absurd hm (by rw [M_X7_layWins_121]; exact fun h => nomatch h)
    | succ n ih =>
      intro σ x1 x4 x5 x6 H locs ls hS hl hm
      rw [M_X7_layWins_121] at hm
      refine lv_iload hx hb dX7_layWins_121 (lv_at hl 4 rfl) ?_
      refine lv_aload_n hx hb dX7_layWins_123 rfl (lv_at hl 0 rfl) ?_
      refine g_7_158_0 C hS dX7_layWins_124 ?_
      refine lv_icmp_ge (tgt := 210) hx hb dX7_layWins_127 (by decide) (fun c127 => ?_) (fun c127 => ?_)
      · replace hm := it c127 hm
        refine lv_aload_n hx hb dX7_layWins_210 rfl (lv_at hl 0 rfl) ?_
        refine g_7_53_0 C hS dX7_layWins_211 ?_
        refine lv_iload_n hx hb dX7_layWins_214 rfl (lv_at hl 1 rfl) ?_
        refine lv_iload hx hb dX7_layWins_215 (lv_at hl 3 rfl) ?_
        obtain ⟨z217, ez217, hm⟩ := ob hm
        obtain ⟨σ217, e217, hm⟩ := ob hm
        refine zast' (wf := mw q d) C hS mw_a14 mw_s14 ez217 e217 dX7_layWins_217 (fun H locs hS => ?_)
        refine lv_iinc (v := x1 + (-1)) (lv' := [(1, .int (x1 + (-1))), (0, .ref (q 0)), (4, .int x4), (5, .int x5), (6, .int x6)]) hx hb dX7_layWins_218 hl (k := 1) rfl rfl (by decide) rfl (fun ls hl => ?_)
        refine lv_goto (tgt := 10) hx hb dX7_layWins_221 (by decide) ?_
        exact hk10 σ217 (x1 + (-1)) _ _ _ hS (lv_sub hl [1, 0] rfl) hm
      · replace hm := ie c127 hm
        refine lv_iload_n hx hb dX7_layWins_130 rfl (lv_at hl 1 rfl) ?_
        refine lv_iload hx hb dX7_layWins_131 (lv_at hl 4 rfl) ?_
        obtain ⟨o133, e133, hm⟩ := ob hm
        refine after_i C hS (call_S (As := [.int x6]) C hS (c_X7_power l d (mw q d σ) x6 o133 e133 _) is_7_265 ⟨rfl, rfl, Nat.le_of_ble_eq_true rfl, Nat.le_of_ble_eq_true rfl⟩ rfl hl.1 (Nat.le_of_ble_eq_true rfl) dX7_layWins_133) (fun H locs hS => ?_)
        obtain ⟨v136, e136, hm⟩ := ob hm
        refine idiv' C e136 dX7_layWins_136 ?_
        refine lv_iconst (v := 3) hx hb dX7_layWins_137 (by decide) ?_
        refine lv_irem hx hb dX7_layWins_138 (by decide) ?_
        refine lv_if_ne (tgt := 204) hx hb dX7_layWins_139 (by decide) (fun c139 => ?_) (fun c139 => ?_)
        · replace hm := ie c139 hm
          refine lv_iinc (v := x6 + 1) (lv' := [(6, .int (x6 + 1)), (0, .ref (q 0)), (1, .int x1), (4, .int x4), (5, .int x5)]) hx hb dX7_layWins_204 hl (k := 4) rfl rfl (by decide) rfl (fun ls hl => ?_)
          refine lv_goto (tgt := 121) hx hb dX7_layWins_207 (by decide) ?_
          exact ih σ x1 x4 x5 (x6 + 1) _ _ _ hS (lv_sub hl [1, 2, 3, 4, 0] rfl) hm
        · replace hm := it c139 hm
          refine lv_iload hx hb dX7_layWins_142 (lv_at hl 2 rfl) ?_
          refine lv_if_eq (tgt := 175) hx hb dX7_layWins_144 (by decide) (fun c144 => ?_) (fun c144 => ?_)
          · replace hm := it c144 hm
            refine lv_iload hx hb dX7_layWins_175 (lv_at hl 3 rfl) ?_
            refine lv_if_eq (tgt := 201) hx hb dX7_layWins_177 (by decide) (fun c177 => ?_) (fun c177 => ?_)
            · replace hm := it c177 hm
              refine lv_iconst (v := 0) hx hb dX7_layWins_201 (by decide) ?_
              refine lv_istore (lv' := [(5, .int 0), (0, .ref (q 0)), (1, .int x1), (4, .int x4), (6, .int x6)]) hx hb dX7_layWins_202 hl (by decide) rfl (fun ls hl => ?_)
              refine lv_iinc (v := x6 + 1) (lv' := [(6, .int (x6 + 1)), (5, .int 0), (0, .ref (q 0)), (1, .int x1), (4, .int x4)]) hx hb dX7_layWins_204 hl (k := 4) rfl rfl (by decide) rfl (fun ls hl => ?_)
              refine lv_goto (tgt := 121) hx hb dX7_layWins_207 (by decide) ?_
              exact ih σ x1 x4 0 (x6 + 1) _ _ _ hS (lv_sub hl [2, 3, 4, 1, 0] rfl) hm
            · replace hm := ie c177 hm
              refine lv_aload_n hx hb dX7_layWins_180 rfl (lv_at hl 0 rfl) ?_
              refine g_7_53_0 C hS dX7_layWins_181 ?_
              refine lv_iload_n hx hb dX7_layWins_184 rfl (lv_at hl 1 rfl) ?_
              refine lv_iconst (v := 2) hx hb dX7_layWins_185 (by decide) ?_
              refine lv_iload hx hb dX7_layWins_186 (lv_at hl 4 rfl) ?_
              obtain ⟨o188, e188, hm⟩ := ob hm
              refine after_i C hS (call_S (As := [.int x6]) C hS (c_X7_power l d (mw q d σ) x6 o188 e188 _) is_7_265 ⟨rfl, rfl, Nat.le_of_ble_eq_true rfl, Nat.le_of_ble_eq_true rfl⟩ rfl hl.1 (Nat.le_of_ble_eq_true rfl) dX7_layWins_188) (fun H locs hS => ?_)
              refine lv_imul hx hb dX7_layWins_191 ?_
              refine lv_iadd hx hb dX7_layWins_192 ?_
              obtain ⟨v193, e193, hm⟩ := ob hm
              refine zald' C hS mw_a14 e193 dX7_layWins_193 ?_
              refine lv_if_eq (tgt := 201) hx hb dX7_layWins_194 (by decide) (fun c194 => ?_) (fun c194 => ?_)
              · replace hm := it c194 hm
                refine lv_iconst (v := 0) hx hb dX7_layWins_201 (by decide) ?_
                refine lv_istore (lv' := [(5, .int 0), (0, .ref (q 0)), (1, .int x1), (4, .int x4), (6, .int x6)]) hx hb dX7_layWins_202 hl (by decide) rfl (fun ls hl => ?_)
                refine lv_iinc (v := x6 + 1) (lv' := [(6, .int (x6 + 1)), (5, .int 0), (0, .ref (q 0)), (1, .int x1), (4, .int x4)]) hx hb dX7_layWins_204 hl (k := 4) rfl rfl (by decide) rfl (fun ls hl => ?_)
                refine lv_goto (tgt := 121) hx hb dX7_layWins_207 (by decide) ?_
                exact ih σ x1 x4 0 (x6 + 1) _ _ _ hS (lv_sub hl [2, 3, 4, 1, 0] rfl) hm
              · replace hm := ie c194 hm
                refine lv_iconst (v := 1) hx hb dX7_layWins_197 (by decide) ?_
                refine lv_goto (tgt := 202) hx hb dX7_layWins_198 (by decide) ?_
                refine lv_istore (lv' := [(5, .int 1), (0, .ref (q 0)), (1, .int x1), (4, .int x4), (6, .int x6)]) hx hb dX7_layWins_202 hl (by decide) rfl (fun ls hl => ?_)
                refine lv_iinc (v := x6 + 1) (lv' := [(6, .int (x6 + 1)), (5, .int 1), (0, .ref (q 0)), (1, .int x1), (4, .int x4)]) hx hb dX7_layWins_204 hl (k := 4) rfl rfl (by decide) rfl (fun ls hl => ?_)
                refine lv_goto (tgt := 121) hx hb dX7_layWins_207 (by decide) ?_
                exact ih σ x1 x4 1 (x6 + 1) _ _ _ hS (lv_sub hl [2, 3, 4, 1, 0] rfl) hm
          · replace hm := ie c144 hm
            refine lv_iload hx hb dX7_layWins_147 (lv_at hl 3 rfl) ?_
            refine lv_if_ne (tgt := 167) hx hb dX7_layWins_149 (by decide) (fun c149 => ?_) (fun c149 => ?_)
            · replace hm := ie c149 hm
              refine lv_iconst (v := 1) hx hb dX7_layWins_167 (by decide) ?_
              refine lv_goto (tgt := 202) hx hb dX7_layWins_168 (by decide) ?_
              refine lv_istore (lv' := [(5, .int 1), (0, .ref (q 0)), (1, .int x1), (4, .int x4), (6, .int x6)]) hx hb dX7_layWins_202 hl (by decide) rfl (fun ls hl => ?_)
              refine lv_iinc (v := x6 + 1) (lv' := [(6, .int (x6 + 1)), (5, .int 1), (0, .ref (q 0)), (1, .int x1), (4, .int x4)]) hx hb dX7_layWins_204 hl (k := 4) rfl rfl (by decide) rfl (fun ls hl => ?_)
              refine lv_goto (tgt := 121) hx hb dX7_layWins_207 (by decide) ?_
              exact ih σ x1 x4 1 (x6 + 1) _ _ _ hS (lv_sub hl [2, 3, 4, 1, 0] rfl) hm
            · replace hm := it c149 hm
              refine lv_aload_n hx hb dX7_layWins_152 rfl (lv_at hl 0 rfl) ?_
              refine g_7_53_0 C hS dX7_layWins_153 ?_
              refine lv_iload_n hx hb dX7_layWins_156 rfl (lv_at hl 1 rfl) ?_
              refine lv_iload hx hb dX7_layWins_157 (lv_at hl 4 rfl) ?_
              obtain ⟨o159, e159, hm⟩ := ob hm
              refine after_i C hS (call_S (As := [.int x6]) C hS (c_X7_power l d (mw q d σ) x6 o159 e159 _) is_7_265 ⟨rfl, rfl, Nat.le_of_ble_eq_true rfl, Nat.le_of_ble_eq_true rfl⟩ rfl hl.1 (Nat.le_of_ble_eq_true rfl) dX7_layWins_159) (fun H locs hS => ?_)
              refine lv_iadd hx hb dX7_layWins_162 ?_
              obtain ⟨v163, e163, hm⟩ := ob hm
              refine zald' C hS mw_a14 e163 dX7_layWins_163 ?_
              refine lv_if_eq (tgt := 171) hx hb dX7_layWins_164 (by decide) (fun c164 => ?_) (fun c164 => ?_)
              · replace hm := it c164 hm
                refine lv_iconst (v := 0) hx hb dX7_layWins_171 (by decide) ?_
                refine lv_goto (tgt := 202) hx hb dX7_layWins_172 (by decide) ?_
                refine lv_istore (lv' := [(5, .int 0), (0, .ref (q 0)), (1, .int x1), (4, .int x4), (6, .int x6)]) hx hb dX7_layWins_202 hl (by decide) rfl (fun ls hl => ?_)
                refine lv_iinc (v := x6 + 1) (lv' := [(6, .int (x6 + 1)), (5, .int 0), (0, .ref (q 0)), (1, .int x1), (4, .int x4)]) hx hb dX7_layWins_204 hl (k := 4) rfl rfl (by decide) rfl (fun ls hl => ?_)
                refine lv_goto (tgt := 121) hx hb dX7_layWins_207 (by decide) ?_
                exact ih σ x1 x4 0 (x6 + 1) _ _ _ hS (lv_sub hl [2, 3, 4, 1, 0] rfl) hm
              · replace hm := ie c164 hm
                refine lv_iconst (v := 1) hx hb dX7_layWins_167 (by decide) ?_
                refine lv_goto (tgt := 202) hx hb dX7_layWins_168 (by decide) ?_
                refine lv_istore (lv' := [(5, .int 1), (0, .ref (q 0)), (1, .int x1), (4, .int x4), (6, .int x6)]) hx hb dX7_layWins_202 hl (by decide) rfl (fun ls hl => ?_)
                refine lv_iinc (v := x6 + 1) (lv' := [(6, .int (x6 + 1)), (5, .int 1), (0, .ref (q 0)), (1, .int x1), (4, .int x4)]) hx hb dX7_layWins_204 hl (k := 4) rfl rfl (by decide) rfl (fun ls hl => ?_)
                refine lv_goto (tgt := 121) hx hb dX7_layWins_207 (by decide) ?_
                exact ih σ x1 x4 1 (x6 + 1) _ _ _ hS (lv_sub hl [2, 3, 4, 1, 0] rfl) hm
  have J88 : ∀ (k10 : ST → Int32 → Option ST) (hk10 : ∀ (σ : ST) (x1 : Int32) (H : Heap) (locs : List Loc) (ls : Array Slot), HS d A s.heap H locs (mw q d σ) → lv_has ls 7 [(0, .ref (q 0)), (1, .int x1)] → k10 σ x1 = some out → WV p l e rm_X7_layWins s m [.ref (q 0)].toArray below meth c A d H locs (mw q d out) (F0 m 10 ls [])) (σ : ST) (x1 : Int32) (x2 : Int32) (x3 : Int32) (y0 : Int32) (H : Heap) (locs : List Loc) (ls : Array Slot), HS d A s.heap H locs (mw q d σ) → lv_has ls 7 [(0, .ref (q 0)), (1, .int x1), (2, .int x2), (3, .int x3)] → M_X7_layWins_88 k10 σ x1 x2 x3 y0 = some out → WV p l e rm_X7_layWins s m [.ref (q 0)].toArray below meth c A d H locs (mw q d out) (F0 m 88 ls [.int y0]) := by
    intro k10 hk10 σ x1 x2 x3 y0 H locs ls hS hl hm
    unfold M_X7_layWins_88 at hm
    refine lv_istore (lv' := [(4, .int y0), (0, .ref (q 0)), (1, .int x1), (2, .int x2), (3, .int x3)]) hx hb dX7_layWins_88 hl (by decide) rfl (fun ls hl => ?_)
    refine lv_iload_n hx hb dX7_layWins_90 rfl (lv_at hl 4 rfl) ?_
    refine lv_aload_n hx hb dX7_layWins_91 rfl (lv_at hl 1 rfl) ?_
    refine g_7_158_0 C hS dX7_layWins_92 ?_
    refine lv_icmp_ne (tgt := 106) hx hb dX7_layWins_95 (by decide) (fun c95 => ?_) (fun c95 => ?_)
    · replace hm := ie c95 hm
      refine lv_iload hx hb dX7_layWins_106 (lv_at hl 0 rfl) ?_
      refine lv_if_ne (tgt := 115) hx hb dX7_layWins_108 (by decide) (fun c108 => ?_) (fun c108 => ?_)
      · replace hm := ie c108 hm
        refine lv_iconst (v := 0) hx hb dX7_layWins_115 (by decide) ?_
        refine lv_istore (lv' := [(5, .int 0), (4, .int y0), (0, .ref (q 0)), (1, .int x1), (2, .int x2), (3, .int x3)]) hx hb dX7_layWins_116 hl (by decide) rfl (fun ls hl => ?_)
        refine lv_iconst (v := 0) hx hb dX7_layWins_118 (by decide) ?_
        refine lv_istore (lv' := [(6, .int 0), (5, .int 0), (4, .int y0), (0, .ref (q 0)), (1, .int x1), (2, .int x2), (3, .int x3)]) hx hb dX7_layWins_119 hl (by decide) rfl (fun ls hl => ?_)
        exact L121 k10 hk10 10000 σ x1 y0 0 0 _ _ _ hS (lv_sub hl [3, 4, 2, 1, 0] rfl) hm
      · replace hm := it c108 hm
        refine lv_iconst (v := 1) hx hb dX7_layWins_111 (by decide) ?_
        refine lv_goto (tgt := 116) hx hb dX7_layWins_112 (by decide) ?_
        refine lv_istore (lv' := [(5, .int 1), (4, .int y0), (0, .ref (q 0)), (1, .int x1), (2, .int x2), (3, .int x3)]) hx hb dX7_layWins_116 hl (by decide) rfl (fun ls hl => ?_)
        refine lv_iconst (v := 0) hx hb dX7_layWins_118 (by decide) ?_
        refine lv_istore (lv' := [(6, .int 0), (5, .int 1), (4, .int y0), (0, .ref (q 0)), (1, .int x1), (2, .int x2), (3, .int x3)]) hx hb dX7_layWins_119 hl (by decide) rfl (fun ls hl => ?_)
        exact L121 k10 hk10 10000 σ x1 y0 1 0 _ _ _ hS (lv_sub hl [3, 4, 2, 1, 0] rfl) hm
    · replace hm := it c95 hm
      refine lv_aload_n hx hb dX7_layWins_98 rfl (lv_at hl 1 rfl) ?_
      refine lv_iload_n hx hb dX7_layWins_99 rfl (lv_at hl 3 rfl) ?_
      obtain ⟨o100, e100, hm⟩ := ob hm
      refine after_i C hS (call_V (As := [.int x2]) C hS (c_X7_isOpen l d q σ x2 o100 e100 _) iv_7_187 ⟨rfl, rfl, Nat.le_of_ble_eq_true rfl, Nat.le_of_ble_eq_true rfl⟩ mw_o0 rfl rfl rfl hl.1 (Nat.le_of_ble_eq_true rfl) dX7_layWins_100) (fun H locs hS => ?_)
      refine lv_goto (tgt := 116) hx hb dX7_layWins_103 (by decide) ?_
      refine lv_istore (lv' := [(5, .int o100), (4, .int y0), (0, .ref (q 0)), (1, .int x1), (2, .int x2), (3, .int x3)]) hx hb dX7_layWins_116 hl (by decide) rfl (fun ls hl => ?_)
      refine lv_iconst (v := 0) hx hb dX7_layWins_118 (by decide) ?_
      refine lv_istore (lv' := [(6, .int 0), (5, .int o100), (4, .int y0), (0, .ref (q 0)), (1, .int x1), (2, .int x2), (3, .int x3)]) hx hb dX7_layWins_119 hl (by decide) rfl (fun ls hl => ?_)
      exact L121 k10 hk10 10000 σ x1 y0 o100 0 _ _ _ hS (lv_sub hl [3, 4, 2, 1, 0] rfl) hm
  have J56 : ∀ (k10 : ST → Int32 → Option ST) (hk10 : ∀ (σ : ST) (x1 : Int32) (H : Heap) (locs : List Loc) (ls : Array Slot), HS d A s.heap H locs (mw q d σ) → lv_has ls 7 [(0, .ref (q 0)), (1, .int x1)] → k10 σ x1 = some out → WV p l e rm_X7_layWins s m [.ref (q 0)].toArray below meth c A d H locs (mw q d out) (F0 m 10 ls [])) (k21 : ST → Int32 → Int32 → Int32 → Int32 → Option ST) (hk21 : ∀ (σ : ST) (x1 : Int32) (x2 : Int32) (x3 : Int32) (x4 : Int32) (H : Heap) (locs : List Loc) (ls : Array Slot), HS d A s.heap H locs (mw q d σ) → lv_has ls 7 [(0, .ref (q 0)), (1, .int x1), (2, .int x2), (3, .int x3), (4, .int x4)] → k21 σ x1 x2 x3 x4 = some out → WV p l e rm_X7_layWins s m [.ref (q 0)].toArray below meth c A d H locs (mw q d out) (F0 m 21 ls [])) (σ : ST) (x1 : Int32) (x3 : Int32) (x4 : Int32) (x5 : Int32) (y0 : Int32) (y1 : Int32) (H : Heap) (locs : List Loc) (ls : Array Slot), HS d A s.heap H locs (mw q d σ) → lv_has ls 7 [(0, .ref (q 0)), (1, .int x1), (3, .int x3), (4, .int x4), (5, .int x5)] → M_X7_layWins_56 k10 k21 σ x1 x3 x4 x5 y0 y1 = some out → WV p l e rm_X7_layWins s m [.ref (q 0)].toArray below meth c A d H locs (mw q d out) (F0 m 56 ls [.int y1, .int y0]) := by
    intro k10 hk10 k21 hk21 σ x1 x3 x4 x5 y0 y1 H locs ls hS hl hm
    unfold M_X7_layWins_56 at hm
    refine lv_ior hx hb dX7_layWins_56 ?_
    refine lv_istore_n (lv' := [(2, .int (y0 ||| y1)), (0, .ref (q 0)), (1, .int x1), (3, .int x3), (4, .int x4), (5, .int x5)]) hx hb dX7_layWins_57 rfl hl (by decide) rfl (fun ls hl => ?_)
    refine lv_iload_n hx hb dX7_layWins_58 rfl (lv_at hl 3 rfl) ?_
    refine lv_iload hx hb dX7_layWins_59 (lv_at hl 5 rfl) ?_
    refine lv_if_ne (tgt := 68) hx hb dX7_layWins_61 (by decide) (fun c61 => ?_) (fun c61 => ?_)
    · replace hm := ie c61 hm
      refine lv_iconst (v := 1) hx hb dX7_layWins_68 (by decide) ?_
      refine lv_iadd hx hb dX7_layWins_69 ?_
      refine lv_istore_n (lv' := [(3, .int (x3 + 1)), (2, .int (y0 ||| y1)), (0, .ref (q 0)), (1, .int x1), (4, .int x4), (5, .int x5)]) hx hb dX7_layWins_70 rfl hl (by decide) rfl (fun ls hl => ?_)
      refine lv_iinc (v := x4 + 1) (lv' := [(4, .int (x4 + 1)), (3, .int (x3 + 1)), (2, .int (y0 ||| y1)), (0, .ref (q 0)), (1, .int x1), (5, .int x5)]) hx hb dX7_layWins_71 hl (k := 4) rfl rfl (by decide) rfl (fun ls hl => ?_)
      refine lv_goto (tgt := 21) hx hb dX7_layWins_74 (by decide) ?_
      exact hk21 σ x1 (y0 ||| y1) (x3 + 1) (x4 + 1) _ _ _ hS (lv_sub hl [3, 4, 2, 1, 0] rfl) hm
    · replace hm := it c61 hm
      refine lv_iconst (v := 0) hx hb dX7_layWins_64 (by decide) ?_
      refine lv_goto (tgt := 69) hx hb dX7_layWins_65 (by decide) ?_
      refine lv_iadd hx hb dX7_layWins_69 ?_
      refine lv_istore_n (lv' := [(3, .int (x3 + 0)), (2, .int (y0 ||| y1)), (0, .ref (q 0)), (1, .int x1), (4, .int x4), (5, .int x5)]) hx hb dX7_layWins_70 rfl hl (by decide) rfl (fun ls hl => ?_)
      refine lv_iinc (v := x4 + 1) (lv' := [(4, .int (x4 + 1)), (3, .int (x3 + 0)), (2, .int (y0 ||| y1)), (0, .ref (q 0)), (1, .int x1), (5, .int x5)]) hx hb dX7_layWins_71 hl (k := 4) rfl rfl (by decide) rfl (fun ls hl => ?_)
      refine lv_goto (tgt := 21) hx hb dX7_layWins_74 (by decide) ?_
      exact hk21 σ x1 (y0 ||| y1) (x3 + 0) (x4 + 1) _ _ _ hS (lv_sub hl [3, 4, 2, 1, 0] rfl) hm
  have L21 : ∀ (k10 : ST → Int32 → Option ST) (hk10 : ∀ (σ : ST) (x1 : Int32) (H : Heap) (locs : List Loc) (ls : Array Slot), HS d A s.heap H locs (mw q d σ) → lv_has ls 7 [(0, .ref (q 0)), (1, .int x1)] → k10 σ x1 = some out → WV p l e rm_X7_layWins s m [.ref (q 0)].toArray below meth c A d H locs (mw q d out) (F0 m 10 ls [])) (n : Nat) (σ : ST) (x1 : Int32) (x2 : Int32) (x3 : Int32) (x4 : Int32) (H : Heap) (locs : List Loc) (ls : Array Slot), HS d A s.heap H locs (mw q d σ) → lv_has ls 7 [(0, .ref (q 0)), (1, .int x1), (2, .int x2), (3, .int x3), (4, .int x4)] → M_X7_layWins_21 k10 n σ x1 x2 x3 x4 = some out → WV p l e rm_X7_layWins s m [.ref (q 0)].toArray below meth c A d H locs (mw q d out) (F0 m 21 ls []) := by
    intro k10 hk10 n
    induction n with
    | zero =>
      intro σ x1 x2 x3 x4 H locs ls hS hl hm
      exact absurd hm (by rw [M_X7_layWins_21]; exact fun h => nomatch h)
    | succ n ih =>
      intro σ x1 x2 x3 x4 H locs ls hS hl hm
      rw [M_X7_layWins_21] at hm
      refine lv_iload hx hb dX7_layWins_21 (lv_at hl 4 rfl) ?_
      refine lv_aload_n hx hb dX7_layWins_23 rfl (lv_at hl 0 rfl) ?_
      refine g_7_158_0 C hS dX7_layWins_24 ?_
      refine lv_icmp_ge (tgt := 77) hx hb dX7_layWins_27 (by decide) (fun c27 => ?_) (fun c27 => ?_)
      · replace hm := it c27 hm
        refine lv_iload_n hx hb dX7_layWins_77 rfl (lv_at hl 3 rfl) ?_
        refine lv_iconst (v := 2) hx hb dX7_layWins_78 (by decide) ?_
        refine lv_irem hx hb dX7_layWins_79 (by decide) ?_
        refine lv_if_ne (tgt := 87) hx hb dX7_layWins_80 (by decide) (fun c80 => ?_) (fun c80 => ?_)
        · replace hm := ie c80 hm
          refine lv_iconst (v := 0) hx hb dX7_layWins_87 (by decide) ?_
          exact J88 k10 hk10 σ x1 x2 x3 0 _ _ _ hS (lv_sub hl [0, 1, 2, 3] rfl) hm
        · replace hm := it c80 hm
          refine lv_iconst (v := 1) hx hb dX7_layWins_83 (by decide) ?_
          refine lv_goto (tgt := 88) hx hb dX7_layWins_84 (by decide) ?_
          exact J88 k10 hk10 σ x1 x2 x3 1 _ _ _ hS (lv_sub hl [0, 1, 2, 3] rfl) hm
      · replace hm := ie c27 hm
        refine lv_iload_n hx hb dX7_layWins_30 rfl (lv_at hl 1 rfl) ?_
        refine lv_iload hx hb dX7_layWins_31 (lv_at hl 4 rfl) ?_
        obtain ⟨o33, e33, hm⟩ := ob hm
        refine after_i C hS (call_S (As := [.int x4]) C hS (c_X7_power l d (mw q d σ) x4 o33 e33 _) is_7_265 ⟨rfl, rfl, Nat.le_of_ble_eq_true rfl, Nat.le_of_ble_eq_true rfl⟩ rfl hl.1 (Nat.le_of_ble_eq_true rfl) dX7_layWins_33) (fun H locs hS => ?_)
        obtain ⟨v36, e36, hm⟩ := ob hm
        refine idiv' C e36 dX7_layWins_36 ?_
        refine lv_iconst (v := 3) hx hb dX7_layWins_37 (by decide) ?_
        refine lv_irem hx hb dX7_layWins_38 (by decide) ?_
        refine lv_istore (lv' := [(5, .int (v36 - v36 / 3 * 3)), (0, .ref (q 0)), (1, .int x1), (2, .int x2), (3, .int x3), (4, .int x4)]) hx hb dX7_layWins_39 hl (by decide) rfl (fun ls hl => ?_)
        refine lv_iload_n hx hb dX7_layWins_41 rfl (lv_at hl 3 rfl) ?_
        refine lv_iload hx hb dX7_layWins_42 (lv_at hl 0 rfl) ?_
        refine lv_iconst (v := 1) hx hb dX7_layWins_44 (by decide) ?_
        refine lv_icmp_ne (tgt := 55) hx hb dX7_layWins_45 (by decide) (fun c45 => ?_) (fun c45 => ?_)
        · replace hm := ie c45 hm
          refine lv_iconst (v := 0) hx hb dX7_layWins_55 (by decide) ?_
          exact J56 k10 hk10 (M_X7_layWins_21 k10 n) ih σ x1 x3 x4 (v36 - v36 / 3 * 3) x2 0 _ _ _ hS (lv_sub hl [1, 2, 4, 5, 0] rfl) hm
        · replace hm := it c45 hm
          refine lv_iconst (v := 1) hx hb dX7_layWins_48 (by decide) ?_
          refine lv_iload hx hb dX7_layWins_49 (lv_at hl 5 rfl) ?_
          refine lv_ishl hx hb dX7_layWins_51 ?_
          refine lv_goto (tgt := 56) hx hb dX7_layWins_52 (by decide) ?_
          exact J56 k10 hk10 (M_X7_layWins_21 k10 n) ih σ x1 x3 x4 (v36 - v36 / 3 * 3) x2 ((1 : Int32) <<< (x4 &&& 31)) _ _ _ hS (lv_sub hl [1, 2, 4, 5, 0] rfl) hm
  have L10 : ∀ (n : Nat) (σ : ST) (x1 : Int32) (H : Heap) (locs : List Loc) (ls : Array Slot), HS d A s.heap H locs (mw q d σ) → lv_has ls 7 [(0, .ref (q 0)), (1, .int x1)] → M_X7_layWins_10 n σ x1 = some out → WV p l e rm_X7_layWins s m [.ref (q 0)].toArray below meth c A d H locs (mw q d out) (F0 m 10 ls []) := by
    intro n
    induction n with
    | zero =>
      intro σ x1 H locs ls hS hl hm
      exact absurd hm (by rw [M_X7_layWins_10]; exact fun h => nomatch h)
    | succ n ih =>
      intro σ x1 H locs ls hS hl hm
      rw [M_X7_layWins_10] at hm
      refine lv_iload_n hx hb dX7_layWins_10 rfl (lv_at hl 1 rfl) ?_
      refine lv_if_lt (tgt := 224) hx hb dX7_layWins_11 (by decide) (fun c11 => ?_) (fun c11 => ?_)
      · replace hm := it c11 hm
        exact retVw (wf := mw q d) C hS hm dX7_layWins_224
      · replace hm := ie c11 hm
        refine lv_iconst (v := 0) hx hb dX7_layWins_14 (by decide) ?_
        refine lv_istore_n (lv' := [(2, .int 0), (0, .ref (q 0)), (1, .int x1)]) hx hb dX7_layWins_15 rfl hl (by decide) rfl (fun ls hl => ?_)
        refine lv_iconst (v := 0) hx hb dX7_layWins_16 (by decide) ?_
        refine lv_istore_n (lv' := [(3, .int 0), (2, .int 0), (0, .ref (q 0)), (1, .int x1)]) hx hb dX7_layWins_17 rfl hl (by decide) rfl (fun ls hl => ?_)
        refine lv_iconst (v := 0) hx hb dX7_layWins_18 (by decide) ?_
        refine lv_istore (lv' := [(4, .int 0), (3, .int 0), (2, .int 0), (0, .ref (q 0)), (1, .int x1)]) hx hb dX7_layWins_19 hl (by decide) rfl (fun ls hl => ?_)
        exact L21 (M_X7_layWins_10 n) ih 10000 σ x1 0 0 0 _ _ _ hS (lv_sub hl [3, 4, 2, 1, 0] rfl) hm
  unfold M_X7_layWins at hm
  refine lv_aload_n hx hb dX7_layWins_0 rfl (lv_at hl 0 rfl) ?_
  refine g_7_158_0 C hS dX7_layWins_1 ?_
  obtain ⟨o4, e4, hm⟩ := ob hm
  refine after_i C hS (call_S (As := [.int (σ.1 3)]) C hS (c_X7_power l d (mw q d σ) (σ.1 3) o4 e4 _) is_7_265 ⟨rfl, rfl, Nat.le_of_ble_eq_true rfl, Nat.le_of_ble_eq_true rfl⟩ rfl hl.1 (Nat.le_of_ble_eq_true rfl) dX7_layWins_4) (fun H locs hS => ?_)
  refine lv_iconst (v := 1) hx hb dX7_layWins_7 (by decide) ?_
  refine lv_isub hx hb dX7_layWins_8 ?_
  refine lv_istore_n (lv' := [(1, .int (o4 - 1)), (0, .ref (q 0))]) hx hb dX7_layWins_9 rfl hl (by decide) rfl (fun ls hl => ?_)
  exact L10 10000 σ (o4 - 1) _ _ _ hS (lv_sub hl [1, 0] rfl) hm
