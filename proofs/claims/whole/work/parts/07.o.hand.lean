/-! the well anew: the two charters change places -/
def sw (k : Nat) : Nat := if k = 18 then 23 else if k = 19 then 24 else if k = 20 then 25 else if k = 21 then 26 else if k = 23 then 18 else if k = 24 then 19 else if k = 25 then 20 else if k = 26 then 21 else k
def swi (k : Nat) : Nat := if k = 20 then 30 else if k = 21 then 31 else if k = 22 then 32 else if k = 23 then 33 else if k = 24 then 34 else if k = 30 then 20 else if k = 31 then 21 else if k = 32 then 22 else if k = 33 then 23 else if k = 34 then 24 else k
def swq (q : Nat → Nat) : Nat → Nat := fun k => q (sw k)
def swS (σ : ST) : ST := (fun k => σ.1 (swi k), σ.2.1, fun k => σ.2.2 (sw k))
/-- behind handOver: the reader has the well's charter -/
def cw1 (q : Nat → Nat) (d : CD) (σ : ST) : va_W := (cw q d σ).set 17 (q 17, .inr (2, [.ref (q 10), .ref (q 43), .ref (q 23), .int (σ.1 12), .int (σ.1 13)]))
def cw2 (q : Nat → Nat) (d : CD) (σ : ST) : va_W := (cw1 q d σ).set 22 (q 22, .inr (5, [.ref (q 18), .ref (q 27), .ref (q 29), .ref (q 30), .ref (q 31), .int (σ.1 35), .int (σ.1 36)]))
def swL : List Nat := [0, 1, 2, 3, 4, 5, 6, 7, 8, 9, 10, 11, 12, 13, 14, 15, 16, 17, 23, 24, 25, 26, 22, 18, 19, 20, 21, 27, 28, 29, 30, 31, 32, 33, 34, 35, 36, 37, 38, 39, 40, 41, 42, 43]
def cwg (f6 f4 f3 : Nat → Option Nat) (q : Nat → Nat) (d : CD) (σ : ST) : va_W := [(q 0, .inr (6, [.ref (q 1), .ref (q 10), .ref (q 17), .ref (q 22), .ref (q 32), .ref (q 35), .ref (q 42), .int (σ.1 7), .int (σ.1 8), .long (σ.2.1 9), .long (σ.2.1 10)])), (q 1, .inr (3, [.int 40, .ref (q 2), .ref (q 3)])), (q 2, .inl (d.2.2.2.2.1, 6, .inr (.inr (.inr (.inr f6))))), (q 3, .inl (d.2.1, 6, .inl (σ.2.2 3))), (q 4, .inl (d.2.1, 40, .inl (σ.2.2 4))), (q 5, .inl (d.2.1, 40, .inl (σ.2.2 5))), (q 6, .inl (d.2.1, 40, .inl (σ.2.2 6))), (q 7, .inl (d.2.1, 40, .inl (σ.2.2 7))), (q 8, .inl (d.2.1, 40, .inl (σ.2.2 8))), (q 9, .inl (d.2.1, 40, .inl (σ.2.2 9))), (q 10, .inr (3, [.int 80, .ref (q 11), .ref (q 12)])), (q 11, .inl (d.2.2.2.2.1, 4, .inr (.inr (.inr (.inr f4))))), (q 12, .inl (d.2.1, 4, .inl (σ.2.2 12))), (q 13, .inl (d.2.1, 80, .inl (σ.2.2 13))), (q 14, .inl (d.2.1, 80, .inl (σ.2.2 14))), (q 15, .inl (d.2.1, 80, .inl (σ.2.2 15))), (q 16, .inl (d.2.1, 80, .inl (σ.2.2 16))), (q 17, .inr (2, [.ref (q 10), .ref (q 43), .ref (q 18), .int (σ.1 12), .int (σ.1 13)])), (q 18, .inr (0, [.int (σ.1 20), .int (σ.1 21), .int (σ.1 22), .int (σ.1 23), .int (σ.1 24), .ref (q 19), .ref (q 20), .ref (q 21)])), (q 19, .inl (d.2.1, 7, .inl (σ.2.2 19))), (q 20, .inl (d.2.1, 7, .inl (σ.2.2 20))), (q 21, .inl (d.2.1, 7, .inl (σ.2.2 21))), (q 22, .inr (5, [.ref (q 23), .ref (q 27), .ref (q 29), .ref (q 30), .ref (q 31), .int (σ.1 35), .int (σ.1 36)])), (q 23, .inr (0, [.int (σ.1 30), .int (σ.1 31), .int (σ.1 32), .int (σ.1 33), .int (σ.1 34), .ref (q 24), .ref (q 25), .ref (q 26)])), (q 24, .inl (d.2.1, 7, .inl (σ.2.2 24))), (q 25, .inl (d.2.1, 7, .inl (σ.2.2 25))), (q 26, .inl (d.2.1, 7, .inl (σ.2.2 26))), (q 27, .inr (1, [.ref (q 28), .int (σ.1 37)])), (q 28, .inl (d.2.1, 40, .inl (σ.2.2 28))), (q 29, .inl (d.2.1, 7, .inl (σ.2.2 29))), (q 30, .inl (d.2.1, 7, .inl (σ.2.2 30))), (q 31, .inl (d.2.1, 7, .inl (σ.2.2 31))), (q 32, .inr (4, [.ref (q 33), .ref (q 34), .ref (q 22), .int (σ.1 38)])), (q 33, .inl (d.2.2.1, 128, .inl (σ.2.2 33))), (q 34, .inl (d.2.1, 128, .inl (σ.2.2 34))), (q 35, .inl (d.2.2.2.1, 3, .inr (.inr (.inr (.inr f3))))), (q 36, .inr (1, [.ref (q 39), .int (σ.1 40)])), (q 37, .inr (1, [.ref (q 40), .int (σ.1 41)])), (q 38, .inr (1, [.ref (q 41), .int (σ.1 42)])), (q 39, .inl (d.2.1, 40, .inl (σ.2.2 39))), (q 40, .inl (d.2.1, 40, .inl (σ.2.2 40))), (q 41, .inl (d.2.1, 40, .inl (σ.2.2 41))), (q 42, .inl (d.2.1, 6, .inl (σ.2.2 42))), (q 43, .inl (d.2.1, 80, .inl (σ.2.2 43)))]
def fo (n b : Nat) (q : Nat → Nat) : Nat → Option Nat := fun j => if j < n then some (q (b + j)) else none
theorem cw_cwg (q : Nat → Nat) (d : CD) (σ : ST) : cw q d σ = cwg (fo 6 4 q) (fo 4 13 q) (fo 3 36 q) q d σ := rfl
theorem fo_sw {n b : Nat} (q : Nat → Nat) (h : ∀ j, j < n → sw (b + j) = b + j) : fo n b (swq q) = fo n b q := by
  funext j
  unfold fo swq
  split
  · rename_i hj; rw [h j hj]
  · rfl
set_option maxRecDepth 100000 in
theorem cw2_sub0 (q : Nat → Nat) (d : CD) (σ : ST) : swL.map (fun i => (cw2 q d σ)[i]?) = (cwg (fo 6 4 q) (fo 4 13 q) (fo 3 36 q) (swq q) d (swS σ)).map some := rfl
theorem cw2_subD (q : Nat → Nat) (d : CD) (σ : ST) : swL.map (fun i => (cw2 q d σ)[i]?) = (cw (swq q) d (swS σ)).map some := by
  rw [cw2_sub0, cw_cwg (swq q), fo_sw (n := 6) q (by decide), fo_sw (n := 4) q (by decide), fo_sw (n := 3) q (by decide)]
theorem cw2_sub (q : Nat → Nat) (d : CD) (σ : ST) : swL.filterMap (fun i => (cw2 q d σ)[i]?) = cw (swq q) d (swS σ) := by
  have h := congrArg (List.filterMap id) (cw2_subD q d σ)
  rw [List.filterMap_map, List.filterMap_map] at h
  simpa using h
def MetR (l : Launch) (y : MethodName) (cc : ByteArray) (nL : Nat) (ret : Option FieldType) (rm : Room) (d : CD) (w : va_W) (av : List Value) (ra : Nat) (w' : va_W) : Prop := ∀ sz : Nat, Met l y (mws y cc nL ret) rm (va_Pc av (PW d w sz)) (va_Qr (fun (u : va_W) => u = w') (fun u a t => a = ra ∧ AT d (va_A w sz) u t) (va_A w sz)) 0 0 (va_A w sz)
theorem mkR {l : Launch} {y : MethodName} {cc : ByteArray} {nL : Nat} {ret : Option FieldType} {rm : Room} {d : CD} {w : va_W} {av : List Value} {w' : va_W} {own : String} {ra : Nat} (hy : plainName y.cls = true) (ho : y.cls = own) (hlen : (lg_sl av).length ≤ nL)
    (body : ∀ (p : Program) (e : Env) (s : State) (m : MethodId) (below : List Frame) (meth : Method) (c : Code) (A : Nat → Prop) (ls : Array Slot), CX p s m av.toArray meth c own cc nL ret d A → HS d A s.heap s.heap [] w → lv_has ls nL (lv_args 0 av) → W p l e rm s m av.toArray below meth c s.heap [] 0 0 (MQ below (va_Qr (fun (u : va_W) => u = w') (fun u a t => a = ra ∧ AT d A u t) A) av.toArray s 0 0 A) (F0 m 0 ls [])) :
    MetR l y cc nL ret rm d w av ra w' := mk_gen (QA := fun A => va_Qr (fun (u : va_W) => u = w') (fun u a t => a = ra ∧ AT d A u t) A) (fun _ => rfl) hy ho hlen body
section AR
variable {p : Program} {l : Launch} {e : Env} {R : Room} {s : State} {m : MethodId} {args : Array Value} {below : List Frame} {meth : Method} {c : Code} {H : Heap} {locs : List Loc} {Q : State → Prop}
variable {own : String} {cc : ByteArray} {nL pc : Nat} {ret : Option FieldType} {d : CD} {A : Nat → Prop} {ls : Array Slot} {w w' : va_W} {rest : List Value}
theorem after_r {ra : Nat} {st0 : List Value} {a : Array Value} (C : CX p s m args meth c own cc nL ret d A) (hS : HS d A s.heap H locs w) (hr : va_Run p l e R s m args below meth c H locs 0 0 0 0 (F0 m pc ls st0) rest (va_Qr (fun (u : va_W) => u = w') (fun u a t => a = ra ∧ AT d (va_A w H.size) u t) (va_A w H.size) a) (va_A w H.size))
    (kk : ∀ (H1 : Heap) (locs1 : List Loc), HS d A s.heap H1 locs1 w' → W p l e R s m args below meth c H1 locs1 0 0 Q (F0 m (pc + 3) ls (.ref ra :: rest))) : W p l e R s m args below meth c H locs 0 0 Q (F0 m pc ls st0) := by
  have hF := va_all hS.2.1 hS.2.2 C.2.2.2.2.2.2.2.2.1
  refine va_callr hr hS.2.2 (fun q _ h => hF q h) hF (fun u r1 t H1 locs1 ht hvm hw hB hz1 hk1 hS1 => ?_)
  subst hw
  obtain ⟨rfl, hB⟩ := hB
  exact kk H1 locs1 ⟨by rw [← ht]; exact hB.1, hB.2.weaken (fun _ q _ h => hF q.1 h), hS1⟩
end AR
abbrev rm_X2_handOver : Room := { frames := 0, cells := 0, slots := 0, locals := 0 }
set_option maxRecDepth 100000 in
set_option maxHeartbeats 4000000 in
theorem c_X2_handOver (l : Launch) (d : CD) (q : Nat → Nat) (σ : ST) : MetR l yX2_handOver cX2_handOver 3 (some (.object "WellLocks$Charter")) rm_X2_handOver d (cw q d σ) [.ref (q 17), .ref (q 23)] (q 18) (cw1 q d σ) := by
  refine mkR (own := RX2) (by decide +kernel) rfl (Nat.le_of_ble_eq_true rfl) ?_
  intro p e s m below meth c A ls C hS hl
  obtain ⟨hx, hb, hml, hown, hts, hE, hr, hlocks, hA, hC⟩ := id C
  have hl : lv_has ls 3 [(0, .ref (q 17)), (1, .ref (q 23))] := hl
  refine lv_aload_n hx hb dX2_handOver_0 rfl (lv_at hl 0 rfl) ?_
  refine g_2_18_17 C hS dX2_handOver_1 ?_
  refine lv_astore_n (lv' := [(2, .ref (q 18)), (0, .ref (q 17)), (1, .ref (q 23))]) hx hb dX2_handOver_4 rfl hl (by decide) rfl (fun ls hl => ?_)
  refine lv_aload_n hx hb dX2_handOver_5 rfl (lv_at hl 1 rfl) ?_
  refine lv_aload_n hx hb dX2_handOver_6 rfl (lv_at hl 2 rfl) ?_
  refine pf (w' := cw1 q d σ) (j := 2) (ty := .object "WellLocks$Charter") tyX2 tyX2_ok nmX2 C hS cw_o17 rfl inX2 (by decide) (tb_at 181 (by decide +kernel) rfl) rfl (by decide +kernel) rfl rfl (Nat.le_of_ble_eq_true rfl) rfl dX2_handOver_7 (fun H locs hS => ?_)
  refine lv_aload_n hx hb dX2_handOver_10 rfl (lv_at hl 0 rfl) ?_
  exact W.aret hx hb hr (Or.inl ⟨_, rfl⟩) (Or.inr ⟨_, rfl⟩) (fun t ht hW => ⟨⟨cw1 q d σ, q 18, rfl, rfl, rfl, by rw [ht]; exact hS.1, hS.2.1⟩, hS.2.2.F ht⟩) hS.2.2.2.2 dX2_handOver_11
def M_X5_begin (σ : ST) : Option ST := (some (setI (swS σ) 37 0)).bind fun σ10 => (M_X5_replay σ10).bind fun o14 => some o14
abbrev rm_X5_begin : Room := { frames := rm_X5_replay.frames + 1, cells := 0, slots := 0, locals := rm_X5_replay.locals + 40 }
set_option maxRecDepth 100000 in
set_option maxHeartbeats 4000000 in
theorem c_X5_begin (l : Launch) (d : CD) (q : Nat → Nat) (σ : ST) (out : ST) (hm : M_X5_begin σ = some out) : MetV l yX5_begin cX5_begin 2 none rm_X5_begin d (cw1 q d σ) [.ref (q 22), .ref (q 18)] (cw (swq q) d out) := by
  refine mkV (own := RX5) (by decide +kernel) rfl (Nat.le_of_ble_eq_true rfl) ?_
  intro p e s m below meth c A ls C hS hl
  obtain ⟨hx, hb, hml, hown, hts, -⟩ := id C
  have hl : lv_has ls 2 [(0, .ref (q 22)), (1, .ref (q 18))] := hl
  unfold M_X5_begin at hm
  refine lv_aload_n hx hb dX5_begin_0 rfl (lv_at hl 0 rfl) ?_
  refine lv_aload_n hx hb dX5_begin_1 rfl (lv_at hl 1 rfl) ?_
  refine pf (w' := cw2 q d σ) (k := 22) (j := 0) (fs := [.ref (q 23), .ref (q 27), .ref (q 29), .ref (q 30), .ref (q 31), .int (σ.1 35), .int (σ.1 36)]) (ty := .object "WellLocks$Charter") tyX5 tyX5_ok nmX5 C hS rfl rfl inX5 (by decide) (tb_at 219 (by decide +kernel) rfl) rfl (by decide +kernel) rfl rfl (Nat.le_of_ble_eq_true rfl) rfl dX5_begin_2 (fun H locs hS => ?_)
  have hS : HS d A s.heap H locs (cw (swq q) d (swS σ)) := ⟨hS.1.sub swL (cw2_sub q d σ), hS.2.1.sub swL (by decide) (cw2_subD q d σ), hS.2.2⟩
  have hl : lv_has ls 2 [(0, .ref (swq q 22)), (1, .ref (q 18))] := hl
  refine lv_aload_n hx hb dX5_begin_5 rfl (lv_at hl 0 rfl) ?_
  refine g_5_23_22 C hS dX5_begin_6 ?_
  refine lv_iconst (v := 0) hx hb dX5_begin_9 (by decide) ?_
  obtain ⟨σ10, e10, hm⟩ := ob hm
  refine p_5_37_27 C hS e10 dX5_begin_10 (fun H locs hS => ?_)
  refine lv_aload_n hx hb dX5_begin_13 rfl (lv_at hl 0 rfl) ?_
  obtain ⟨o14, e14, hm⟩ := ob hm
  refine after_v C hS (call_V (As := []) C hS (c_X5_replay l d (swq q) σ10 o14 e14 _) iv_5_41 ⟨rfl, rfl, Nat.le_refl _, Nat.le_of_ble_eq_true rfl⟩ cw_o22 rfl rfl rfl hl.1 (Nat.le_of_ble_eq_true rfl) dX5_begin_14) (fun H locs hS => ?_)
  exact retVw (wf := cw (swq q) d) C hS hm dX5_begin_17
def M_X6_well_55 : Nat → ST → Int32 → Option (Int32 × ST)
  | 0, _, _ => none
  | n + 1, σ, x3 => if 3 ≤ x3 then (M_X5_houses σ).bind fun o80 => some (o80, σ) else (inR 3 x3).bind fun j65 => (some (setI σ (40 + j65) (-1))).bind fun σ67 => M_X6_well_55 n σ67 (x3 + 1)
def M_X6_well (σ : ST) (a1 : Int32) : Option (Int32 × ST × Bool) := (M_X6_refusalOf_t σ a1).bind fun o6 => if o6.1 = 0 then (M_X2_read o6.2 a1).bind fun o21 => if o21.1 = (-9) then (M_X5_begin o21.2).bind fun o50 => (M_X6_well_55 10000 o50 0).bind fun o55 => some (o55.1, o55.2, true) else some ((-4), o21.2, false) else some (o6.1, o6.2, false)
abbrev rm_X6_well : Room := { frames := 20, cells := 0, slots := 0, locals := 800 }
set_option maxRecDepth 100000 in
set_option maxHeartbeats 4000000 in
theorem c_X6_well (l : Launch) (d : CD) (q : Nat → Nat) (σ : ST) (a1 : Int32) (out : Int32 × ST × Bool) (hm : M_X6_well σ a1 = some out) : MetI l yX6_well cX6_well 4 (some .int) rm_X6_well d (cw q d σ) [.ref (q 0), .int a1] out.1 (cw (cond out.2.2 (swq q) q) d out.2.1) := by
  refine mkI (own := RX6) (by decide +kernel) rfl (Nat.le_of_ble_eq_true rfl) ?_
  intro p e s m below meth c A ls C hS hl
  obtain ⟨hx, hb, hml, hown, hts, -⟩ := id C
  have hl : lv_has ls 4 [(0, .ref (q 0)), (1, .int a1)] := hl
  have L55 : ∀ (u : Nat → Nat) (o : Int32 × ST) (n : Nat) (σ : ST) (x3 : Int32) (H : Heap) (locs : List Loc) (ls : Array Slot), HS d A s.heap H locs (cw u d σ) → lv_has ls 4 [(0, .ref (u 0)), (3, .int x3)] → M_X6_well_55 n σ x3 = some o → WI p l e rm_X6_well s m [.ref (q 0), .int a1].toArray below meth c A d H locs o.1 (cw u d o.2) (F0 m 55 ls []) := by
    intro u o n
    induction n with
    | zero =>
      intro σ x3 H locs ls hS hl hm
      exact absurd hm (by rw [M_X6_well_55]; exact fun h => nomatch h)
    | succ n ih =>
      intro σ x3 H locs ls hS hl hm
      rw [M_X6_well_55] at hm
      refine lv_iload_n hx hb dX6_well_55 rfl (lv_at hl 1 rfl) ?_
      refine lv_iconst (v := 3) hx hb dX6_well_56 (by decide) ?_
      refine lv_icmp_ge (tgt := 76) hx hb dX6_well_57 (by decide) (fun c57 => ?_) (fun c57 => ?_)
      · replace hm := it c57 hm
        refine lv_aload_n hx hb dX6_well_76 rfl (lv_at hl 0 rfl) ?_
        refine g_6_33_0 C hS dX6_well_77 ?_
        obtain ⟨o80, e80, hm⟩ := ob hm
        refine after_i C hS (call_V (As := []) C hS (c_X5_houses l d u σ o80 e80 _) iv_6_140 ⟨rfl, rfl, Nat.le_of_ble_eq_true rfl, Nat.le_of_ble_eq_true rfl⟩ cw_o22 rfl rfl rfl hl.1 (Nat.le_of_ble_eq_true rfl) dX6_well_80) (fun H locs hS => ?_)
        exact retIw (wf := cw u d) C hS hm dX6_well_83
      · replace hm := ie c57 hm
        refine lv_aload_n hx hb dX6_well_60 rfl (lv_at hl 0 rfl) ?_
        refine g_6_48_0 C hS dX6_well_61 ?_
        refine lv_iload_n hx hb dX6_well_64 rfl (lv_at hl 1 rfl) ?_
        obtain ⟨j65, e65, hm⟩ := ob hm
        have hj65 := inR_lt e65
        refine aaldD (g := fun j => u (36 + j)) C hS cw_r35 e65 dX6_well_65 ?_
        refine lv_iconst (v := (-1)) hx hb dX6_well_66 (by decide) ?_
        obtain ⟨σ67, e67, hm⟩ := ob hm
        refine p_6_137_f36 hj65 C hS e67 dX6_well_67 (fun H locs hS => ?_)
        refine lv_iinc (v := x3 + 1) (lv' := [(3, .int (x3 + 1)), (0, .ref (u 0))]) hx hb dX6_well_70 hl (k := 1) rfl rfl (by decide) rfl (fun ls hl => ?_)
        refine lv_goto (tgt := 55) hx hb dX6_well_73 (by decide) ?_
        exact ih σ67 (x3 + 1) _ _ _ hS (lv_sub hl [1, 0] rfl) hm
  unfold M_X6_well at hm
  refine lv_aload_n hx hb dX6_well_0 rfl (lv_at hl 0 rfl) ?_
  refine lv_aload_n hx hb dX6_well_1 rfl (lv_at hl 0 rfl) ?_
  refine g_6_18_0 C hS dX6_well_2 ?_
  refine lv_iload_n hx hb dX6_well_5 rfl (lv_at hl 1 rfl) ?_
  obtain ⟨o6, e6, hm⟩ := ob hm
  refine after_i C hS (call_V (As := [.ref (q 10), .int a1]) C hS (c_X6_refusalOf_t l d q σ a1 o6 e6 _) iv_6_89 ⟨rfl, rfl, Nat.le_of_ble_eq_true rfl, Nat.le_of_ble_eq_true rfl⟩ cw_o0 rfl rfl rfl hl.1 (Nat.le_of_ble_eq_true rfl) dX6_well_6) (fun H locs hS => ?_)
  refine lv_istore_n (lv' := [(2, .int o6.1), (0, .ref (q 0)), (1, .int a1)]) hx hb dX6_well_9 rfl hl (by decide) rfl (fun ls hl => ?_)
  refine lv_iload_n hx hb dX6_well_10 rfl (lv_at hl 0 rfl) ?_
  refine lv_if_eq (tgt := 16) hx hb dX6_well_11 (by decide) (fun c11 => ?_) (fun c11 => ?_)
  · replace hm := it c11 hm
    refine lv_aload_n hx hb dX6_well_16 rfl (lv_at hl 1 rfl) ?_
    refine g_6_26_0 C hS dX6_well_17 ?_
    refine lv_iload_n hx hb dX6_well_20 rfl (lv_at hl 2 rfl) ?_
    obtain ⟨o21, e21, hm⟩ := ob hm
    refine after_i C hS (call_V (As := [.int a1]) C hS (c_X2_read l d q o6.2 a1 o21 e21 _) iv_6_122 ⟨rfl, rfl, Nat.le_of_ble_eq_true rfl, Nat.le_of_ble_eq_true rfl⟩ cw_o17 rfl rfl rfl hl.1 (Nat.le_of_ble_eq_true rfl) dX6_well_21) (fun H locs hS => ?_)
    refine lv_bipush (v := (-9)) hx hb dX6_well_24 (by decide) ?_
    refine lv_icmp_eq (tgt := 32) hx hb dX6_well_26 (by decide) (fun c26 => ?_) (fun c26 => ?_)
    · replace hm := it c26 hm
      refine lv_aload_n hx hb dX6_well_32 rfl (lv_at hl 1 rfl) ?_
      refine g_6_33_0 C hS dX6_well_33 ?_
      refine lv_aload_n hx hb dX6_well_36 rfl (lv_at hl 1 rfl) ?_
      refine g_6_26_0 C hS dX6_well_37 ?_
      refine lv_aload_n hx hb dX6_well_40 rfl (lv_at hl 1 rfl) ?_
      refine g_6_33_0 C hS dX6_well_41 ?_
      refine g_6_125_22 C hS dX6_well_44 ?_
      refine after_r (w' := cw1 q d o21.2) C hS (call_V (As := [.ref (q 23)]) (rest := [.ref (q 22)]) C hS (c_X2_handOver l d q o21.2 _) iv_6_129 ⟨rfl, rfl, Nat.le_of_ble_eq_true rfl, Nat.le_of_ble_eq_true rfl⟩ cw_o17 rfl rfl rfl hl.1 (Nat.le_of_ble_eq_true rfl) dX6_well_47) (fun H locs hS => ?_)
      obtain ⟨o50, e50, hm⟩ := ob hm
      refine after_v (w' := cw (swq q) d o50) C hS (call_V (As := [.ref (q 18)]) (rest := []) C hS (c_X5_begin l d q o21.2 o50 e50 _) iv_6_133 ⟨rfl, rfl, Nat.le_of_ble_eq_true rfl, Nat.le_of_ble_eq_true rfl⟩ (k := 22) (fs := [.ref (q 23), .ref (q 27), .ref (q 29), .ref (q 30), .ref (q 31), .int (o21.2.1 35), .int (o21.2.1 36)]) rfl rfl rfl rfl hl.1 (Nat.le_of_ble_eq_true rfl) dX6_well_50) (fun H locs hS => ?_)
      obtain ⟨o55, e55, hm⟩ := ob hm
      cases hm
      refine lv_iconst (v := 0) hx hb dX6_well_53 (by decide) ?_
      refine lv_istore_n (lv' := [(3, .int 0), (2, .int o6.1), (0, .ref (q 0)), (1, .int a1)]) hx hb dX6_well_54 rfl hl (by decide) rfl (fun ls hl => ?_)
      exact L55 (swq q) o55 10000 o50 0 _ _ _ hS (lv_sub hl [2, 0] rfl) e55
    · replace hm := ie c26 hm
      cases hm
      refine lv_bipush (v := (-4)) hx hb dX6_well_29 (by decide) ?_
      exact retI C hS rfl rfl dX6_well_31
  · replace hm := ie c11 hm
    cases hm
    refine lv_iload_n hx hb dX6_well_14 rfl (lv_at hl 0 rfl) ?_
    exact retI C hS rfl rfl dX6_well_15
