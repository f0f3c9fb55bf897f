section LIB
variable {p : Program} {l : Launch} {e : Env} {R : Room} {s : State} {m : MethodId} {args : Array Value} {below : List Frame} {meth : Method} {c : Code} {H : Heap} {locs : List Loc} {Q : State → Prop}
variable {cc : ByteArray} {nL pc : Nat} {ret : Option FieldType} {d : CD} {A : Nat → Prop} {ls : Array Slot} {rest : List Value} {q : Nat → Nat} {σ σ1 : ST} {j : Nat}

end LIB

def sg0 : ST := ((fun k => if k = 40 ∨ k = 41 ∨ k = 42 then -1 else 0), (fun k => if k = 10 then 1 else 0), (fun k => if k = 3 then (fun j => if j < 6 then -1 else 0) else if k = 12 then (fun j => if j < 4 then -1 else 0) else fun _ => 0))
def ta0 : ST := ((fun _ => 0), (fun k => if k = 14 then 1 else 0), fun k => if k = 1 then (upd (upd (upd (fun _ => 0) ((944 * 1 : Int32) + 0 : Int32).toNatClampNeg (-1)) ((944 * 2 : Int32) + 0 : Int32).toNatClampNeg (-1)) ((944 * 3 : Int32) + 0 : Int32).toNatClampNeg (-1)) else if k = 5 then (upd (upd (upd (upd (upd (upd (fun _ => 0) (0 : Int32).toNatClampNeg (-1)) (1 : Int32).toNatClampNeg (-1)) (2 : Int32).toNatClampNeg (-1)) (3 : Int32).toNatClampNeg (-1)) (4 : Int32).toNatClampNeg (-1)) (5 : Int32).toNatClampNeg (-1)) else if k = 7 then (upd (upd (upd (upd (fun _ => 0) (0 : Int32).toNatClampNeg (-1)) (1 : Int32).toNatClampNeg (-1)) (2 : Int32).toNatClampNeg (-1)) (3 : Int32).toNatClampNeg (-1)) else fun _ => 0)
theorem fo_eq {n b : Nat} {q r : Nat → Nat} (h : ∀ j, j < n → q (b + j) = r j) : fo n b q = fun i => if i < n then some (r i) else none := by
  funext i
  unfold fo
  split
  · rename_i hi; rw [h i hi]
  · rfl
theorem fo3 {q : Nat → Nat} (x y z : Nat) (h0 : q (36 + 0) = x) (h1 : q (36 + 1) = y) (h2 : q (36 + 2) = z) : fo 3 36 q = (va_up (va_up (va_up (fun _ => none) (0 : Int32).toNatClampNeg (some x)) (1 : Int32).toNatClampNeg (some y)) (2 : Int32).toNatClampNeg (some z)) := by
  funext j
  show fo 3 36 q j = va_up (va_up (va_up (fun _ => none) 0 (some x)) 1 (some y)) 2 (some z) j
  unfold fo va_up
  match j with
  | 0 => simp [← h0]
  | 1 => simp [← h1]
  | 2 => simp [← h2]
  | j + 3 => simp
theorem fm_of_map {α : Type} {ks : List Nat} {f : Nat → Option α} {l : List α} (h : ks.map f = l.map some) : ks.filterMap f = l := by
  have h2 := congrArg (List.filterMap id) h
  rw [List.filterMap_map, List.filterMap_map] at h2
  simpa using h2
theorem mna_pl {r : Nat → Nat} {n : Nat} {f : Nat → va_E} {v : va_E} : va_pl ([] ++ (List.range n).map r) (vr_up f ((List.range n).map r) v) = (List.range n).map (fun i => (r i, v)) := by
  unfold va_pl
  rw [List.nil_append, List.map_map]
  apply List.map_congr_left
  intro i hi
  show (r i, vr_up f ((List.range n).map r) v (r i)) = (r i, v)
  rw [vr_up_in (List.mem_map.mpr ⟨i, hi, rfl⟩)]
theorem mna {D : va_G} {cl : List vw_C} {X : va_W} {r : Nat → Nat} {n : Nat} {f : Nat → va_E} {v : va_E} {H : Heap} (h : va_P D cl (X ++ va_pl ([] ++ (List.range n).map r) (vr_up f ((List.range n).map r) v)) H) : va_P D cl (X ++ (List.range n).map (fun i => (r i, v))) H := mna_pl ▸ h
theorem mnaD {A : Nat → Prop} {X : va_W} {r : Nat → Nat} {n : Nat} {f : Nat → va_E} {v : va_E} (h : va_D A (X ++ va_pl ([] ++ (List.range n).map r) (vr_up f ((List.range n).map r) v))) : va_D A (X ++ (List.range n).map (fun i => (r i, v))) := mna_pl ▸ h
theorem fill_n {p : Program} {l : Launch} {e : Env} {R : Room} {s : State} {m : MethodId} {args : Array Value} {below : List Frame} {meth : Method} {c : Code} {H : Heap} {locs : List Loc} {Q : State → Prop} {cells slots : Nat} {own : String} {cc : ByteArray} {nL pc : Nat} {ret : Option FieldType} {d : CD} {A : Nat → Prop} {ls : Array Slot} {rest : List Value} {wf : ST → va_W} {σ σ' : ST} {k a n idx : Nat} {v : Int32}
    (C : CX p s m args meth c own cc nL ret d A) (hS : HS d A s.heap H locs (wf σ)) (hn : n < 1000) (he : ∀ σ, (wf σ)[k]? = some (a, .inl (d.2.1, n, .inl (σ.2.2 k)))) (hs : ∀ σ f, (wf σ).set k (a, .inl (d.2.1, n, .inl f)) = wf (setA σ k f)) (e1 : fillA n σ k v = some σ') (hI : inS own idx yJ7_fill_53178 cJ7_fill_53178 4 none 2) (hR : rmok rm_fill 4 R) (hsz : ls.size = nL) (hst : (rest.map fun v => v.category).sum ≤ 8) (hb2 : cells ≤ R.cells ∧ slots ≤ R.slots) (hdg : decode cc pc = .ok (.invokestatic idx, 3))
    (kk : ∀ (H1 : Heap) (locs1 : List Loc), HS d A s.heap H1 locs1 (wf σ') → W p l e R s m args below meth c H1 locs1 cells slots Q (F0 m (pc + 3) ls rest)) : W p l e R s m args below meth c H locs cells slots Q (F0 m pc ls (.int v :: .ref a :: rest)) := by
  obtain ⟨⟨i1, i2, i4, i5⟩, hyd⟩ := hI
  have hF := va_all hS.2.1 hS.2.2 C.2.2.2.2.2.2.2.2.1
  have hq := pw_ok (As := [.ref a, .int v]) C hS
  have hrun : va_Run p l e R s m args below meth c H locs cells slots 0 0 (F0 m pc ls (.int v :: .ref a :: rest)) rest (va_Qv (fun (u : va_W) => u = wf σ') (AT d (va_A (wf σ) H.size)) (va_A (wf σ) H.size) [Value.ref a, .int v].toArray) (va_A (wf σ) H.size) := by
    obtain ⟨hx, hb, hml, hown, hts, hE, hr, hlocks, hA, hC⟩ := C
    exact va_runS (Ts := tb) (n := 2) (As := [.ref a, .int v]) ⟨hx, hb, hml, hown, hts⟩ (c_fill hn he hs e1 H.size) ⟨callB_of 2 hts (mws_good i5) rfl hR.1 hR.2.1 (hts _ i4) (hts _ i1) hyd ⟨hR.2.2.1, hR.2.2.2⟩, hts _ i2⟩ hq rfl rfl hsz rfl (lv_room hst) hdg hb2
  refine va_callv hrun hS.2.2 (fun q _ h => hF q h) hF (fun u t H1 locs1 ht hvm hw hB hz1 hk1 hS1 => ?_)
  subst hw
  exact kk H1 locs1 ⟨by rw [← ht]; exact hB.1, hB.2.weaken (fun _ q _ h => hF q.1 h), hS1⟩
abbrev rm_X0_init : Room := { frames := 1, cells := 3, slots := 21, locals := 20 }
set_option maxRecDepth 100000 in
set_option maxHeartbeats 4000000 in
theorem c_X0_init (l : Launch) (d : CD) (a : Nat) : MetN l yX0_init cX0_init 1 rm_X0_init d [(a, .inr (0, [.int 0, .int 0, .int 0, .int 0, .int 0, .null, .null, .null]))] [.ref a] (fun u => ∃ (q1 : Nat) (q2 : Nat) (q3 : Nat), u = [(a, .inr (0, [.int 0, .int 0, .int 0, .int 0, .int 0, .ref q1, .ref q2, .ref q3])), (q1, .inl (d.2.1, 7, .inl (fun _ => 0))), (q2, .inl (d.2.1, 7, .inl (fun _ => 0))), (q3, .inl (d.2.1, 7, .inl (fun _ => 0)))]) 3 21 := by
  refine mkN (own := RX0) (by decide +kernel) rfl rfl (Nat.le_of_ble_eq_true rfl) ?_
  intro p e s m below meth c A ls C hin hAO hS hl
  obtain ⟨hx, hb, hml, hown, hts, -⟩ := id C
  have hl : lv_has ls 1 [(0, .ref a)] := hl
  refine lv_aload_n hx hb dX0_init_0 rfl (lv_at hl 0 rfl) ?_
  refine objI C hl.1 (tb_at 137 (by decide +kernel) rfl) (Nat.le_of_ble_eq_true rfl) (Nat.le_of_ble_eq_true rfl) (Nat.le_of_ble_eq_true rfl) dX0_init_1 ?_
  refine lv_aload_n hx hb dX0_init_4 rfl (lv_at hl 0 rfl) ?_
  refine lv_bipush (v := 7) hx hb dX0_init_5 (by decide) ?_
  refine newI (K := 7) C hS (by decide) (by decide) (by decide) (Nat.le_of_ble_eq_true rfl) (Nat.le_of_ble_eq_true rfl) dX0_init_7 (fun q1 H hS => ?_)
  have hS : HS d A s.heap H [] [(a, .inr (0, [.int 0, .int 0, .int 0, .int 0, .int 0, .null, .null, .null])), (q1, .inl (d.2.1, 7, .inl (fun _ => 0)))] := hS
  refine pfF (w' := [(a, .inr (0, [.int 0, .int 0, .int 0, .int 0, .int 0, .ref q1, .null, .null])), (q1, .inl (d.2.1, 7, .inl (fun _ => 0)))]) (k := 0) (j := 5) (ty := .array .int) tyX0 tyX0_ok nmX0 C hin hS rfl rfl inX0 (by decide) (tb_at 154 (by decide +kernel) rfl) rfl rfl (by decide +kernel) rfl rfl (Nat.le_of_ble_eq_true rfl) rfl dX0_init_9 (fun H locs hS => ?_)
  refine lv_aload_n hx hb dX0_init_12 rfl (lv_at hl 0 rfl) ?_
  refine lv_bipush (v := 7) hx hb dX0_init_13 (by decide) ?_
  refine newI (K := 7) C hS (by decide) (by decide) (by decide) (Nat.le_of_ble_eq_true rfl) (Nat.le_of_ble_eq_true rfl) dX0_init_15 (fun q2 H hS => ?_)
  have hS : HS d A s.heap H locs [(a, .inr (0, [.int 0, .int 0, .int 0, .int 0, .int 0, .ref q1, .null, .null])), (q1, .inl (d.2.1, 7, .inl (fun _ => 0))), (q2, .inl (d.2.1, 7, .inl (fun _ => 0)))] := hS
  refine pfF (w' := [(a, .inr (0, [.int 0, .int 0, .int 0, .int 0, .int 0, .ref q1, .ref q2, .null])), (q1, .inl (d.2.1, 7, .inl (fun _ => 0))), (q2, .inl (d.2.1, 7, .inl (fun _ => 0)))]) (k := 0) (j := 6) (ty := .array .int) tyX0 tyX0_ok nmX0 C hin hS rfl rfl inX0 (by decide) (tb_at 157 (by decide +kernel) rfl) rfl rfl (by decide +kernel) rfl rfl (Nat.le_of_ble_eq_true rfl) rfl dX0_init_17 (fun H locs hS => ?_)
  refine lv_aload_n hx hb dX0_init_20 rfl (lv_at hl 0 rfl) ?_
  refine lv_bipush (v := 7) hx hb dX0_init_21 (by decide) ?_
  refine newI (K := 7) C hS (by decide) (by decide) (by decide) (Nat.le_of_ble_eq_true rfl) (Nat.le_of_ble_eq_true rfl) dX0_init_23 (fun q3 H hS => ?_)
  have hS : HS d A s.heap H locs [(a, .inr (0, [.int 0, .int 0, .int 0, .int 0, .int 0, .ref q1, .ref q2, .null])), (q1, .inl (d.2.1, 7, .inl (fun _ => 0))), (q2, .inl (d.2.1, 7, .inl (fun _ => 0))), (q3, .inl (d.2.1, 7, .inl (fun _ => 0)))] := hS
  refine pfF (w' := [(a, .inr (0, [.int 0, .int 0, .int 0, .int 0, .int 0, .ref q1, .ref q2, .ref q3])), (q1, .inl (d.2.1, 7, .inl (fun _ => 0))), (q2, .inl (d.2.1, 7, .inl (fun _ => 0))), (q3, .inl (d.2.1, 7, .inl (fun _ => 0)))]) (k := 0) (j := 7) (ty := .array .int) tyX0 tyX0_ok nmX0 C hin hS rfl rfl inX0 (by decide) (tb_at 159 (by decide +kernel) rfl) rfl rfl (by decide +kernel) rfl rfl (Nat.le_of_ble_eq_true rfl) rfl dX0_init_25 (fun H locs hS => ?_)
  exact retN C hS ⟨q1, q2, q3, rfl⟩ dX0_init_28
abbrev rm_X1_init : Room := { frames := 1, cells := 1, slots := 40, locals := 20 }
set_option maxRecDepth 100000 in
set_option maxHeartbeats 4000000 in
theorem c_X1_init (l : Launch) (d : CD) (a : Nat) (x : Int32) : MetN l yX1_init cX1_init 2 rm_X1_init d [(a, .inr (1, [.null, .int 0]))] [.ref a, .int x] (fun u => ∃ (q4 : Nat), u = [(a, .inr (1, [.ref q4, .int x])), (q4, .inl (d.2.1, 40, .inl (fun _ => 0)))]) 1 40 := by
  refine mkN (own := RX1) (by decide +kernel) rfl rfl (Nat.le_of_ble_eq_true rfl) ?_
  intro p e s m below meth c A ls C hin hAO hS hl
  obtain ⟨hx, hb, hml, hown, hts, -⟩ := id C
  have hl : lv_has ls 2 [(0, .ref a), (1, .int x)] := hl
  refine lv_aload_n hx hb dX1_init_0 rfl (lv_at hl 0 rfl) ?_
  refine objI C hl.1 (tb_at 208 (by decide +kernel) rfl) (Nat.le_of_ble_eq_true rfl) (Nat.le_of_ble_eq_true rfl) (Nat.le_of_ble_eq_true rfl) dX1_init_1 ?_
  refine lv_aload_n hx hb dX1_init_4 rfl (lv_at hl 0 rfl) ?_
  refine lv_bipush (v := 40) hx hb dX1_init_5 (by decide) ?_
  refine newI (K := 40) C hS (by decide) (by decide) (by decide) (Nat.le_of_ble_eq_true rfl) (Nat.le_of_ble_eq_true rfl) dX1_init_7 (fun q4 H hS => ?_)
  have hS : HS d A s.heap H [] [(a, .inr (1, [.null, .int 0])), (q4, .inl (d.2.1, 40, .inl (fun _ => 0)))] := hS
  refine pfF (w' := [(a, .inr (1, [.ref q4, .int 0])), (q4, .inl (d.2.1, 40, .inl (fun _ => 0)))]) (k := 0) (j := 0) (ty := .array .int) tyX1 tyX1_ok nmX1 C hin hS rfl rfl inX1 (by decide) (tb_at 209 (by decide +kernel) rfl) rfl rfl (by decide +kernel) rfl rfl (Nat.le_of_ble_eq_true rfl) rfl dX1_init_9 (fun H locs hS => ?_)
  refine lv_aload_n hx hb dX1_init_12 rfl (lv_at hl 0 rfl) ?_
  refine lv_iload_n hx hb dX1_init_13 rfl (lv_at hl 1 rfl) ?_
  refine pfn (w' := [(a, .inr (1, [.ref q4, .int x])), (q4, .inl (d.2.1, 40, .inl (fun _ => 0)))]) (k := 0) (j := 1) (ty := .int) tyX1 tyX1_ok nmX1 C hS rfl rfl inX1 (by decide) (tb_at 211 (by decide +kernel) rfl) rfl (by decide +kernel) rfl rfl (Nat.le_of_ble_eq_true rfl) rfl dX1_init_14 (fun H locs hS => ?_)
  exact retN C hS ⟨q4, rfl⟩ dX1_init_17
abbrev rm_X2_init : Room := { frames := 2, cells := 5, slots := 109, locals := 40 }
set_option maxRecDepth 100000 in
set_option maxHeartbeats 4000000 in
theorem c_X2_init (l : Launch) (d : CD) (a : Nat) (t : Nat) : MetN l yX2_init cX2_init 2 rm_X2_init d [(a, .inr (2, [.null, .null, .null, .int 0, .int 0]))] [.ref a, .ref t] (fun u => ∃ (q5 : Nat) (q6 : Nat) (q7 : Nat) (q8 : Nat) (q9 : Nat), u = [(a, .inr (2, [.ref t, .ref q5, .ref q6, .int 0, .int 0])), (q5, .inl (d.2.1, 80, .inl (fun _ => 0))), (q6, .inr (0, [.int 0, .int 0, .int 0, .int 0, .int 0, .ref q7, .ref q8, .ref q9])), (q7, .inl (d.2.1, 7, .inl (fun _ => 0))), (q8, .inl (d.2.1, 7, .inl (fun _ => 0))), (q9, .inl (d.2.1, 7, .inl (fun _ => 0)))]) 5 109 := by
  refine mkN (own := RX2) (by decide +kernel) rfl rfl (Nat.le_of_ble_eq_true rfl) ?_
  intro p e s m below meth c A ls C hin hAO hS hl
  obtain ⟨hx, hb, hml, hown, hts, -⟩ := id C
  have hl : lv_has ls 2 [(0, .ref a), (1, .ref t)] := hl
  refine lv_aload_n hx hb dX2_init_0 rfl (lv_at hl 0 rfl) ?_
  refine objI C hl.1 (tb_at 131 (by decide +kernel) rfl) (Nat.le_of_ble_eq_true rfl) (Nat.le_of_ble_eq_true rfl) (Nat.le_of_ble_eq_true rfl) dX2_init_1 ?_
  refine lv_aload_n hx hb dX2_init_4 rfl (lv_at hl 0 rfl) ?_
  refine lv_bipush (v := 80) hx hb dX2_init_5 (by decide) ?_
  refine newI (K := 80) C hS (by decide) (by decide) (by decide) (Nat.le_of_ble_eq_true rfl) (Nat.le_of_ble_eq_true rfl) dX2_init_7 (fun q5 H hS => ?_)
  have hS : HS d A s.heap H [] [(a, .inr (2, [.null, .null, .null, .int 0, .int 0])), (q5, .inl (d.2.1, 80, .inl (fun _ => 0)))] := hS
  refine pfF (w' := [(a, .inr (2, [.null, .ref q5, .null, .int 0, .int 0])), (q5, .inl (d.2.1, 80, .inl (fun _ => 0)))]) (k := 0) (j := 1) (ty := .array .int) tyX2 tyX2_ok nmX2 C hin hS rfl rfl inX2 (by decide) (tb_at 180 (by decide +kernel) rfl) rfl rfl (by decide +kernel) rfl rfl (Nat.le_of_ble_eq_true rfl) rfl dX2_init_9 (fun H locs hS => ?_)
  refine lv_aload_n hx hb dX2_init_12 rfl (lv_at hl 0 rfl) ?_
  refine newO (ci := 0) (fs := [.int 0, .int 0, .int 0, .int 0, .int 0, .null, .null, .null]) tyX0 tyX0_ok C hS rfl inX0 (tb_at 132 (by decide +kernel) rfl) (tb_at 133 (by decide +kernel) rfl) (tb_at 83 (by decide +kernel) rfl) (fun j hj => by rcases (show j = 0 ∨ j = 1 ∨ j = 2 ∨ j = 3 ∨ j = 4 ∨ j = 5 ∨ j = 6 ∨ j = 7 by omega) with rfl | rfl | rfl | rfl | rfl | rfl | rfl | rfl <;> rfl) (Nat.le_of_ble_eq_true rfl) (Nat.le_of_ble_eq_true rfl) dX2_init_13 (fun q6 H hS => ?_)
  have hS : HS d A s.heap H locs [(a, .inr (2, [.null, .ref q5, .null, .int 0, .int 0])), (q5, .inl (d.2.1, 80, .inl (fun _ => 0))), (q6, .inr (0, [.int 0, .int 0, .int 0, .int 0, .int 0, .null, .null, .null]))] := hS
  refine lv_dup hx hb dX2_init_16 rfl ?_
  refine call_new (nA := 0) (wr := [(a, .inr (2, [.null, .ref q5, .null, .int 0, .int 0])), (q5, .inl (d.2.1, 80, .inl (fun _ => 0)))]) (As := []) [0, 1] 2 C hAO hS (c_X0_init l d q6) rfl rfl (by decide) (by decide) ⟨Or.inr ⟨"WellLocks", by decide +kernel⟩, tb_at 135 (by decide +kernel) rfl, tb_at 83 (by decide +kernel) rfl, tb_at 136 (by decide +kernel) rfl, rfl, by decide +kernel⟩ ⟨rfl, rfl, (Nat.le_of_ble_eq_true rfl), (Nat.le_of_ble_eq_true rfl)⟩ rfl hl.1 (Nat.le_of_ble_eq_true rfl) ⟨(Nat.le_of_ble_eq_true rfl), (Nat.le_of_ble_eq_true rfl)⟩ dX2_init_17 (fun u H locs hu hS => ?_)
  obtain ⟨q7, q8, q9, rfl⟩ := hu
  have hS : HS d A s.heap H locs [(a, .inr (2, [.null, .ref q5, .null, .int 0, .int 0])), (q5, .inl (d.2.1, 80, .inl (fun _ => 0))), (q6, .inr (0, [.int 0, .int 0, .int 0, .int 0, .int 0, .ref q7, .ref q8, .ref q9])), (q7, .inl (d.2.1, 7, .inl (fun _ => 0))), (q8, .inl (d.2.1, 7, .inl (fun _ => 0))), (q9, .inl (d.2.1, 7, .inl (fun _ => 0)))] := hS
  refine pfn (w' := [(a, .inr (2, [.null, .ref q5, .ref q6, .int 0, .int 0])), (q5, .inl (d.2.1, 80, .inl (fun _ => 0))), (q6, .inr (0, [.int 0, .int 0, .int 0, .int 0, .int 0, .ref q7, .ref q8, .ref q9])), (q7, .inl (d.2.1, 7, .inl (fun _ => 0))), (q8, .inl (d.2.1, 7, .inl (fun _ => 0))), (q9, .inl (d.2.1, 7, .inl (fun _ => 0)))]) (k := 0) (j := 2) (ty := .object "WellLocks$Charter") tyX2 tyX2_ok nmX2 C hS rfl rfl inX2 (by decide) (tb_at 181 (by decide +kernel) rfl) rfl (by decide +kernel) rfl rfl (Nat.le_of_ble_eq_true rfl) rfl dX2_init_20 (fun H locs hS => ?_)
  refine lv_aload_n hx hb dX2_init_23 rfl (lv_at hl 0 rfl) ?_
  refine lv_aload_n hx hb dX2_init_24 rfl (lv_at hl 1 rfl) ?_
  refine pfF (w' := [(a, .inr (2, [.ref t, .ref q5, .ref q6, .int 0, .int 0])), (q5, .inl (d.2.1, 80, .inl (fun _ => 0))), (q6, .inr (0, [.int 0, .int 0, .int 0, .int 0, .int 0, .ref q7, .ref q8, .ref q9])), (q7, .inl (d.2.1, 7, .inl (fun _ => 0))), (q8, .inl (d.2.1, 7, .inl (fun _ => 0))), (q9, .inl (d.2.1, 7, .inl (fun _ => 0)))]) (k := 0) (j := 0) (ty := .object "WellLocks$Shelf") tyX2 tyX2_ok nmX2 C hin hS rfl rfl inX2 (by decide) (tb_at 179 (by decide +kernel) rfl) rfl rfl (by decide +kernel) rfl rfl (Nat.le_of_ble_eq_true rfl) rfl dX2_init_25 (fun H locs hS => ?_)
  exact retN C hS ⟨q5, q6, q7, q8, q9, rfl⟩ dX2_init_28
abbrev rm_X3_init_r : Room := { frames := 1, cells := 8, slots := 252, locals := 23 }
set_option maxRecDepth 100000 in
set_option maxHeartbeats 4000000 in
theorem c_X3_init_r (l : Launch) (d : CD) (a : Nat) : MetN l yX3_init cX3_init 3 rm_X3_init_r d [(a, .inr (3, [.int 0, .null, .null]))] [.ref a, .int 6, .int 40] (fun u => ∃ (q10 : Nat) (r11 : Nat → Nat) (q12 : Nat), u = [(a, .inr (3, [.int 40, .ref q10, .ref q12])), (q10, .inl (d.2.2.2.2.1, 6, .inr (.inr (.inr (.inr (fun i => if i < 6 then some (r11 i) else none)))))), ((r11 0), .inl (d.2.1, 40, .inl (fun _ => 0))), ((r11 1), .inl (d.2.1, 40, .inl (fun _ => 0))), ((r11 2), .inl (d.2.1, 40, .inl (fun _ => 0))), ((r11 3), .inl (d.2.1, 40, .inl (fun _ => 0))), ((r11 4), .inl (d.2.1, 40, .inl (fun _ => 0))), ((r11 5), .inl (d.2.1, 40, .inl (fun _ => 0))), (q12, .inl (d.2.1, 6, .inl (fun j => if j < 6 then -1 else 0)))]) 8 252 := by
  refine mkN (own := RX3) (by decide +kernel) rfl rfl (Nat.le_of_ble_eq_true rfl) ?_
  intro p e s m below meth c A ls C hin hAO hS hl
  obtain ⟨hx, hb, hml, hown, hts, -⟩ := id C
  have hl : lv_has ls 3 [(0, .ref a), (1, .int 6), (2, .int 40)] := hl
  refine lv_aload_n hx hb dX3_init_0 rfl (lv_at hl 0 rfl) ?_
  refine objI C hl.1 (tb_at 108 (by decide +kernel) rfl) (Nat.le_of_ble_eq_true rfl) (Nat.le_of_ble_eq_true rfl) (Nat.le_of_ble_eq_true rfl) dX3_init_1 ?_
  refine lv_aload_n hx hb dX3_init_4 rfl (lv_at hl 0 rfl) ?_
  refine lv_iload_n hx hb dX3_init_5 rfl (lv_at hl 2 rfl) ?_
  refine pfF (w' := [(a, .inr (3, [.int 40, .null, .null]))]) (k := 0) (j := 0) (ty := .int) tyX3 tyX3_ok nmX3 C hin hS rfl rfl inX3 (by decide) (tb_at 114 (by decide +kernel) rfl) rfl rfl (by decide +kernel) rfl rfl (Nat.le_of_ble_eq_true rfl) rfl dX3_init_6 (fun H locs hS => ?_)
  refine lv_aload_n hx hb dX3_init_9 rfl (lv_at hl 0 rfl) ?_
  refine lv_iload_n hx hb dX3_init_10 rfl (lv_at hl 1 rfl) ?_
  refine lv_iload_n hx hb dX3_init_11 rfl (lv_at hl 2 rfl) ?_
  refine va_mna (X := [(a, .inr (3, [.int 40, .null, .null]))]) (L := []) (f := fun _ => .inl (d.2.1, 0, .inl (fun _ => 0))) (own := RX3) (ty := .int) (cy := d.2.1) (N' := 6) (K' := 40) (z := (40, .inl (fun _ => 0))) hx hb hown (hts _ (tb_at 109 (by decide +kernel) rfl)) hAO.2 (hts _ (tb_at 125 (by decide +kernel) rfl)) ((C.2.2.2.2.2.1.1.2 0 _ rfl).2) C.2.2.2.2.2.1.1 hS.1 hS.2.1 hS.2.2 C.2.2.2.2.2.2.2.2.1 (by decide) (by decide) (by decide) (by decide) (by decide) (by decide) (by decide) (by decide) (by decide) (Nat.le_of_ble_eq_true rfl) (Nat.le_of_ble_eq_true rfl) (fun _ => rfl) dX3_init_12 (fun q10 r11 cA H _ _ g0 g1 g2 g3 => ?_)
  cases cII_is C.2.2.2.2.2.1.1 g0
  have hS : HS d A s.heap H locs [(a, .inr (3, [.int 40, .null, .null])), (q10, .inl (d.2.2.2.2.1, 6, .inr (.inr (.inr (.inr (fun i => if i < 6 then some (r11 i) else none)))))), ((r11 0), .inl (d.2.1, 40, .inl (fun _ => 0))), ((r11 1), .inl (d.2.1, 40, .inl (fun _ => 0))), ((r11 2), .inl (d.2.1, 40, .inl (fun _ => 0))), ((r11 3), .inl (d.2.1, 40, .inl (fun _ => 0))), ((r11 4), .inl (d.2.1, 40, .inl (fun _ => 0))), ((r11 5), .inl (d.2.1, 40, .inl (fun _ => 0)))] := ⟨mna g1, mnaD g2, g3⟩
  refine pfF (w' := [(a, .inr (3, [.int 40, .ref q10, .null])), (q10, .inl (d.2.2.2.2.1, 6, .inr (.inr (.inr (.inr (fun i => if i < 6 then some (r11 i) else none)))))), ((r11 0), .inl (d.2.1, 40, .inl (fun _ => 0))), ((r11 1), .inl (d.2.1, 40, .inl (fun _ => 0))), ((r11 2), .inl (d.2.1, 40, .inl (fun _ => 0))), ((r11 3), .inl (d.2.1, 40, .inl (fun _ => 0))), ((r11 4), .inl (d.2.1, 40, .inl (fun _ => 0))), ((r11 5), .inl (d.2.1, 40, .inl (fun _ => 0)))]) (k := 0) (j := 1) (ty := .array (.array .int)) tyX3 tyX3_ok nmX3 C hin hS rfl rfl inX3 (by decide) (tb_at 116 (by decide +kernel) rfl) rfl rfl (by decide +kernel) rfl rfl (Nat.le_of_ble_eq_true rfl) rfl dX3_init_16 (fun H locs hS => ?_)
  refine lv_aload_n hx hb dX3_init_19 rfl (lv_at hl 0 rfl) ?_
  refine lv_iload_n hx hb dX3_init_20 rfl (lv_at hl 1 rfl) ?_
  refine newI (K := 6) C hS (by decide) (by decide) (by decide) (Nat.le_of_ble_eq_true rfl) (Nat.le_of_ble_eq_true rfl) dX3_init_21 (fun q12 H hS => ?_)
  have hS : HS d A s.heap H locs [(a, .inr (3, [.int 40, .ref q10, .null])), (q10, .inl (d.2.2.2.2.1, 6, .inr (.inr (.inr (.inr (fun i => if i < 6 then some (r11 i) else none)))))), ((r11 0), .inl (d.2.1, 40, .inl (fun _ => 0))), ((r11 1), .inl (d.2.1, 40, .inl (fun _ => 0))), ((r11 2), .inl (d.2.1, 40, .inl (fun _ => 0))), ((r11 3), .inl (d.2.1, 40, .inl (fun _ => 0))), ((r11 4), .inl (d.2.1, 40, .inl (fun _ => 0))), ((r11 5), .inl (d.2.1, 40, .inl (fun _ => 0))), (q12, .inl (d.2.1, 6, .inl (fun _ => 0)))] := hS
  refine pfF (w' := [(a, .inr (3, [.int 40, .ref q10, .ref q12])), (q10, .inl (d.2.2.2.2.1, 6, .inr (.inr (.inr (.inr (fun i => if i < 6 then some (r11 i) else none)))))), ((r11 0), .inl (d.2.1, 40, .inl (fun _ => 0))), ((r11 1), .inl (d.2.1, 40, .inl (fun _ => 0))), ((r11 2), .inl (d.2.1, 40, .inl (fun _ => 0))), ((r11 3), .inl (d.2.1, 40, .inl (fun _ => 0))), ((r11 4), .inl (d.2.1, 40, .inl (fun _ => 0))), ((r11 5), .inl (d.2.1, 40, .inl (fun _ => 0))), (q12, .inl (d.2.1, 6, .inl (fun _ => 0)))]) (k := 0) (j := 2) (ty := .array .int) tyX3 tyX3_ok nmX3 C hin hS rfl rfl inX3 (by decide) (tb_at 117 (by decide +kernel) rfl) rfl rfl (by decide +kernel) rfl rfl (Nat.le_of_ble_eq_true rfl) rfl dX3_init_23 (fun H locs hS => ?_)
  refine lv_aload_n hx hb dX3_init_26 rfl (lv_at hl 0 rfl) ?_
  refine gfn (k := 0) (j := 2) C hS rfl rfl inX3 (by decide) (tb_at 117 (by decide +kernel) rfl) rfl dX3_init_27 ?_
  refine lv_iconst (v := (-1)) hx hb dX3_init_30 (by decide) ?_
  refine fill_n (wf := fun σ => [(a, .inr (3, [.int 40, .ref q10, .ref q12])), (q10, .inl (d.2.2.2.2.1, 6, .inr (.inr (.inr (.inr (fun i => if i < 6 then some (r11 i) else none)))))), ((r11 0), .inl (d.2.1, 40, .inl (fun _ => 0))), ((r11 1), .inl (d.2.1, 40, .inl (fun _ => 0))), ((r11 2), .inl (d.2.1, 40, .inl (fun _ => 0))), ((r11 3), .inl (d.2.1, 40, .inl (fun _ => 0))), ((r11 4), .inl (d.2.1, 40, .inl (fun _ => 0))), ((r11 5), .inl (d.2.1, 40, .inl (fun _ => 0))), (q12, .inl (d.2.1, 6, .inl (σ.2.2 8)))]) (σ := ((fun _ => 0), (fun _ => 0), fun _ _ => 0)) (σ' := setA ((fun _ => 0), (fun _ => 0), fun _ _ => 0) 8 (fun j => if j < 6 then -1 else 0)) (n := 6) (k := 8) (v := -1) C hS (by decide) (fun _ => rfl) (fun _ _ => rfl) rfl is_3_24 ⟨rfl, rfl, (Nat.le_of_ble_eq_true rfl), (Nat.le_of_ble_eq_true rfl)⟩ hl.1 (Nat.le_of_ble_eq_true rfl) ⟨(Nat.le_of_ble_eq_true rfl), (Nat.le_of_ble_eq_true rfl)⟩ dX3_init_31 (fun H locs hS => ?_)
  have hS : HS d A s.heap H locs [(a, .inr (3, [.int 40, .ref q10, .ref q12])), (q10, .inl (d.2.2.2.2.1, 6, .inr (.inr (.inr (.inr (fun i => if i < 6 then some (r11 i) else none)))))), ((r11 0), .inl (d.2.1, 40, .inl (fun _ => 0))), ((r11 1), .inl (d.2.1, 40, .inl (fun _ => 0))), ((r11 2), .inl (d.2.1, 40, .inl (fun _ => 0))), ((r11 3), .inl (d.2.1, 40, .inl (fun _ => 0))), ((r11 4), .inl (d.2.1, 40, .inl (fun _ => 0))), ((r11 5), .inl (d.2.1, 40, .inl (fun _ => 0))), (q12, .inl (d.2.1, 6, .inl (fun j => if j < 6 then -1 else 0)))] := hS
  exact retN C hS ⟨q10, r11, q12, rfl⟩ dX3_init_34
abbrev rm_X3_init_t : Room := { frames := 1, cells := 6, slots := 328, locals := 23 }
set_option maxRecDepth 100000 in
set_option maxHeartbeats 4000000 in
theorem c_X3_init_t (l : Launch) (d : CD) (a : Nat) : MetN l yX3_init cX3_init 3 rm_X3_init_t d [(a, .inr (3, [.int 0, .null, .null]))] [.ref a, .int 4, .int 80] (fun u => ∃ (q13 : Nat) (r14 : Nat → Nat) (q15 : Nat), u = [(a, .inr (3, [.int 80, .ref q13, .ref q15])), (q13, .inl (d.2.2.2.2.1, 4, .inr (.inr (.inr (.inr (fun i => if i < 4 then some (r14 i) else none)))))), ((r14 0), .inl (d.2.1, 80, .inl (fun _ => 0))), ((r14 1), .inl (d.2.1, 80, .inl (fun _ => 0))), ((r14 2), .inl (d.2.1, 80, .inl (fun _ => 0))), ((r14 3), .inl (d.2.1, 80, .inl (fun _ => 0))), (q15, .inl (d.2.1, 4, .inl (fun j => if j < 4 then -1 else 0)))]) 6 328 := by
  refine mkN (own := RX3) (by decide +kernel) rfl rfl (Nat.le_of_ble_eq_true rfl) ?_
  intro p e s m below meth c A ls C hin hAO hS hl
  obtain ⟨hx, hb, hml, hown, hts, -⟩ := id C
  have hl : lv_has ls 3 [(0, .ref a), (1, .int 4), (2, .int 80)] := hl
  refine lv_aload_n hx hb dX3_init_0 rfl (lv_at hl 0 rfl) ?_
  refine objI C hl.1 (tb_at 108 (by decide +kernel) rfl) (Nat.le_of_ble_eq_true rfl) (Nat.le_of_ble_eq_true rfl) (Nat.le_of_ble_eq_true rfl) dX3_init_1 ?_
  refine lv_aload_n hx hb dX3_init_4 rfl (lv_at hl 0 rfl) ?_
  refine lv_iload_n hx hb dX3_init_5 rfl (lv_at hl 2 rfl) ?_
  refine pfF (w' := [(a, .inr (3, [.int 80, .null, .null]))]) (k := 0) (j := 0) (ty := .int) tyX3 tyX3_ok nmX3 C hin hS rfl rfl inX3 (by decide) (tb_at 114 (by decide +kernel) rfl) rfl rfl (by decide +kernel) rfl rfl (Nat.le_of_ble_eq_true rfl) rfl dX3_init_6 (fun H locs hS => ?_)
  refine lv_aload_n hx hb dX3_init_9 rfl (lv_at hl 0 rfl) ?_
  refine lv_iload_n hx hb dX3_init_10 rfl (lv_at hl 1 rfl) ?_
  refine lv_iload_n hx hb dX3_init_11 rfl (lv_at hl 2 rfl) ?_
  refine va_mna (X := [(a, .inr (3, [.int 80, .null, .null]))]) (L := []) (f := fun _ => .inl (d.2.1, 0, .inl (fun _ => 0))) (own := RX3) (ty := .int) (cy := d.2.1) (N' := 4) (K' := 80) (z := (80, .inl (fun _ => 0))) hx hb hown (hts _ (tb_at 109 (by decide +kernel) rfl)) hAO.2 (hts _ (tb_at 125 (by decide +kernel) rfl)) ((C.2.2.2.2.2.1.1.2 0 _ rfl).2) C.2.2.2.2.2.1.1 hS.1 hS.2.1 hS.2.2 C.2.2.2.2.2.2.2.2.1 (by decide) (by decide) (by decide) (by decide) (by decide) (by decide) (by decide) (by decide) (by decide) (Nat.le_of_ble_eq_true rfl) (Nat.le_of_ble_eq_true rfl) (fun _ => rfl) dX3_init_12 (fun q13 r14 cA H _ _ g0 g1 g2 g3 => ?_)
  cases cII_is C.2.2.2.2.2.1.1 g0
  have hS : HS d A s.heap H locs [(a, .inr (3, [.int 80, .null, .null])), (q13, .inl (d.2.2.2.2.1, 4, .inr (.inr (.inr (.inr (fun i => if i < 4 then some (r14 i) else none)))))), ((r14 0), .inl (d.2.1, 80, .inl (fun _ => 0))), ((r14 1), .inl (d.2.1, 80, .inl (fun _ => 0))), ((r14 2), .inl (d.2.1, 80, .inl (fun _ => 0))), ((r14 3), .inl (d.2.1, 80, .inl (fun _ => 0)))] := ⟨mna g1, mnaD g2, g3⟩
  refine pfF (w' := [(a, .inr (3, [.int 80, .ref q13, .null])), (q13, .inl (d.2.2.2.2.1, 4, .inr (.inr (.inr (.inr (fun i => if i < 4 then some (r14 i) else none)))))), ((r14 0), .inl (d.2.1, 80, .inl (fun _ => 0))), ((r14 1), .inl (d.2.1, 80, .inl (fun _ => 0))), ((r14 2), .inl (d.2.1, 80, .inl (fun _ => 0))), ((r14 3), .inl (d.2.1, 80, .inl (fun _ => 0)))]) (k := 0) (j := 1) (ty := .array (.array .int)) tyX3 tyX3_ok nmX3 C hin hS rfl rfl inX3 (by decide) (tb_at 116 (by decide +kernel) rfl) rfl rfl (by decide +kernel) rfl rfl (Nat.le_of_ble_eq_true rfl) rfl dX3_init_16 (fun H locs hS => ?_)
  refine lv_aload_n hx hb dX3_init_19 rfl (lv_at hl 0 rfl) ?_
  refine lv_iload_n hx hb dX3_init_20 rfl (lv_at hl 1 rfl) ?_
  refine newI (K := 4) C hS (by decide) (by decide) (by decide) (Nat.le_of_ble_eq_true rfl) (Nat.le_of_ble_eq_true rfl) dX3_init_21 (fun q15 H hS => ?_)
  have hS : HS d A s.heap H locs [(a, .inr (3, [.int 80, .ref q13, .null])), (q13, .inl (d.2.2.2.2.1, 4, .inr (.inr (.inr (.inr (fun i => if i < 4 then some (r14 i) else none)))))), ((r14 0), .inl (d.2.1, 80, .inl (fun _ => 0))), ((r14 1), .inl (d.2.1, 80, .inl (fun _ => 0))), ((r14 2), .inl (d.2.1, 80, .inl (fun _ => 0))), ((r14 3), .inl (d.2.1, 80, .inl (fun _ => 0))), (q15, .inl (d.2.1, 4, .inl (fun _ => 0)))] := hS
  refine pfF (w' := [(a, .inr (3, [.int 80, .ref q13, .ref q15])), (q13, .inl (d.2.2.2.2.1, 4, .inr (.inr (.inr (.inr (fun i => if i < 4 then some (r14 i) else none)))))), ((r14 0), .inl (d.2.1, 80, .inl (fun _ => 0))), ((r14 1), .inl (d.2.1, 80, .inl (fun _ => 0))), ((r14 2), .inl (d.2.1, 80, .inl (fun _ => 0))), ((r14 3), .inl (d.2.1, 80, .inl (fun _ => 0))), (q15, .inl (d.2.1, 4, .inl (fun _ => 0)))]) (k := 0) (j := 2) (ty := .array .int) tyX3 tyX3_ok nmX3 C hin hS rfl rfl inX3 (by decide) (tb_at 117 (by decide +kernel) rfl) rfl rfl (by decide +kernel) rfl rfl (Nat.le_of_ble_eq_true rfl) rfl dX3_init_23 (fun H locs hS => ?_)
  refine lv_aload_n hx hb dX3_init_26 rfl (lv_at hl 0 rfl) ?_
  refine gfn (k := 0) (j := 2) C hS rfl rfl inX3 (by decide) (tb_at 117 (by decide +kernel) rfl) rfl dX3_init_27 ?_
  refine lv_iconst (v := (-1)) hx hb dX3_init_30 (by decide) ?_
  refine fill_n (wf := fun σ => [(a, .inr (3, [.int 80, .ref q13, .ref q15])), (q13, .inl (d.2.2.2.2.1, 4, .inr (.inr (.inr (.inr (fun i => if i < 4 then some (r14 i) else none)))))), ((r14 0), .inl (d.2.1, 80, .inl (fun _ => 0))), ((r14 1), .inl (d.2.1, 80, .inl (fun _ => 0))), ((r14 2), .inl (d.2.1, 80, .inl (fun _ => 0))), ((r14 3), .inl (d.2.1, 80, .inl (fun _ => 0))), (q15, .inl (d.2.1, 4, .inl (σ.2.2 6)))]) (σ := ((fun _ => 0), (fun _ => 0), fun _ _ => 0)) (σ' := setA ((fun _ => 0), (fun _ => 0), fun _ _ => 0) 6 (fun j => if j < 4 then -1 else 0)) (n := 4) (k := 6) (v := -1) C hS (by decide) (fun _ => rfl) (fun _ _ => rfl) rfl is_3_24 ⟨rfl, rfl, (Nat.le_of_ble_eq_true rfl), (Nat.le_of_ble_eq_true rfl)⟩ hl.1 (Nat.le_of_ble_eq_true rfl) ⟨(Nat.le_of_ble_eq_true rfl), (Nat.le_of_ble_eq_true rfl)⟩ dX3_init_31 (fun H locs hS => ?_)
  have hS : HS d A s.heap H locs [(a, .inr (3, [.int 80, .ref q13, .ref q15])), (q13, .inl (d.2.2.2.2.1, 4, .inr (.inr (.inr (.inr (fun i => if i < 4 then some (r14 i) else none)))))), ((r14 0), .inl (d.2.1, 80, .inl (fun _ => 0))), ((r14 1), .inl (d.2.1, 80, .inl (fun _ => 0))), ((r14 2), .inl (d.2.1, 80, .inl (fun _ => 0))), ((r14 3), .inl (d.2.1, 80, .inl (fun _ => 0))), (q15, .inl (d.2.1, 4, .inl (fun j => if j < 4 then -1 else 0)))] := hS
  exact retN C hS ⟨q13, r14, q15, rfl⟩ dX3_init_34
abbrev rm_X4_init : Room := { frames := 1, cells := 2, slots := 256, locals := 20 }
set_option maxRecDepth 100000 in
set_option maxHeartbeats 4000000 in
theorem c_X4_init (l : Launch) (d : CD) (a : Nat) (t : Nat) : MetN l yX4_init cX4_init 2 rm_X4_init d [(a, .inr (4, [.null, .null, .null, .int 0]))] [.ref a, .ref t] (fun u => ∃ (q16 : Nat) (q17 : Nat), u = [(a, .inr (4, [.ref q16, .ref q17, .ref t, .int 0])), (q16, .inl (d.2.2.1, 128, .inl (fun _ => 0))), (q17, .inl (d.2.1, 128, .inl (fun _ => 0)))]) 2 256 := by
  refine mkN (own := RX4) (by decide +kernel) rfl rfl (Nat.le_of_ble_eq_true rfl) ?_
  intro p e s m below meth c A ls C hin hAO hS hl
  obtain ⟨hx, hb, hml, hown, hts, -⟩ := id C
  have hl : lv_has ls 2 [(0, .ref a), (1, .ref t)] := hl
  refine lv_aload_n hx hb dX4_init_0 rfl (lv_at hl 0 rfl) ?_
  refine objI C hl.1 (tb_at 251 (by decide +kernel) rfl) (Nat.le_of_ble_eq_true rfl) (Nat.le_of_ble_eq_true rfl) (Nat.le_of_ble_eq_true rfl) dX4_init_1 ?_
  refine lv_aload_n hx hb dX4_init_4 rfl (lv_at hl 0 rfl) ?_
  refine lv_sipush (v := 128) hx hb dX4_init_5 (by decide) ?_
  refine newZ (K := 128) C hS (by decide) (by decide) (by decide) (Nat.le_of_ble_eq_true rfl) (Nat.le_of_ble_eq_true rfl) dX4_init_8 (fun q16 H hS => ?_)
  have hS : HS d A s.heap H [] [(a, .inr (4, [.null, .null, .null, .int 0])), (q16, .inl (d.2.2.1, 128, .inl (fun _ => 0)))] := hS
  refine pfF (w' := [(a, .inr (4, [.ref q16, .null, .null, .int 0])), (q16, .inl (d.2.2.1, 128, .inl (fun _ => 0)))]) (k := 0) (j := 0) (ty := .array .boolean) tyX4 tyX4_ok nmX4 C hin hS rfl rfl inX4 (by decide) (tb_at 252 (by decide +kernel) rfl) rfl rfl (by decide +kernel) rfl rfl (Nat.le_of_ble_eq_true rfl) rfl dX4_init_10 (fun H locs hS => ?_)
  refine lv_aload_n hx hb dX4_init_13 rfl (lv_at hl 0 rfl) ?_
  refine lv_sipush (v := 128) hx hb dX4_init_14 (by decide) ?_
  refine newI (K := 128) C hS (by decide) (by decide) (by decide) (Nat.le_of_ble_eq_true rfl) (Nat.le_of_ble_eq_true rfl) dX4_init_17 (fun q17 H hS => ?_)
  have hS : HS d A s.heap H locs [(a, .inr (4, [.ref q16, .null, .null, .int 0])), (q16, .inl (d.2.2.1, 128, .inl (fun _ => 0))), (q17, .inl (d.2.1, 128, .inl (fun _ => 0)))] := hS
  refine pfF (w' := [(a, .inr (4, [.ref q16, .ref q17, .null, .int 0])), (q16, .inl (d.2.2.1, 128, .inl (fun _ => 0))), (q17, .inl (d.2.1, 128, .inl (fun _ => 0)))]) (k := 0) (j := 1) (ty := .array .int) tyX4 tyX4_ok nmX4 C hin hS rfl rfl inX4 (by decide) (tb_at 253 (by decide +kernel) rfl) rfl rfl (by decide +kernel) rfl rfl (Nat.le_of_ble_eq_true rfl) rfl dX4_init_19 (fun H locs hS => ?_)
  refine lv_aload_n hx hb dX4_init_22 rfl (lv_at hl 0 rfl) ?_
  refine lv_aload_n hx hb dX4_init_23 rfl (lv_at hl 1 rfl) ?_
  refine pfF (w' := [(a, .inr (4, [.ref q16, .ref q17, .ref t, .int 0])), (q16, .inl (d.2.2.1, 128, .inl (fun _ => 0))), (q17, .inl (d.2.1, 128, .inl (fun _ => 0)))]) (k := 0) (j := 2) (ty := .object "WellLocks$Well") tyX4 tyX4_ok nmX4 C hin hS rfl rfl inX4 (by decide) (tb_at 254 (by decide +kernel) rfl) rfl rfl (by decide +kernel) rfl rfl (Nat.le_of_ble_eq_true rfl) rfl dX4_init_24 (fun H locs hS => ?_)
  exact retN C hS ⟨q16, q17, rfl⟩ dX4_init_27
abbrev rm_X5_init : Room := { frames := 2, cells := 9, slots := 92, locals := 41 }
set_option maxRecDepth 100000 in
set_option maxHeartbeats 4000000 in
theorem c_X5_init (l : Launch) (d : CD) (a : Nat) : MetN l yX5_init cX5_init 1 rm_X5_init d [(a, .inr (5, [.null, .null, .null, .null, .null, .int 0, .int 0]))] [.ref a] (fun u => ∃ (q18 : Nat) (q19 : Nat) (q20 : Nat) (q21 : Nat) (q22 : Nat) (q23 : Nat) (q24 : Nat) (q25 : Nat) (q26 : Nat), u = [(a, .inr (5, [.ref q18, .ref q22, .ref q24, .ref q25, .ref q26, .int 0, .int 0])), (q18, .inr (0, [.int 0, .int 0, .int 0, .int 0, .int 0, .ref q19, .ref q20, .ref q21])), (q19, .inl (d.2.1, 7, .inl (fun _ => 0))), (q20, .inl (d.2.1, 7, .inl (fun _ => 0))), (q21, .inl (d.2.1, 7, .inl (fun _ => 0))), (q22, .inr (1, [.ref q23, .int 0])), (q23, .inl (d.2.1, 40, .inl (fun _ => 0))), (q24, .inl (d.2.1, 7, .inl (fun _ => 0))), (q25, .inl (d.2.1, 7, .inl (fun _ => 0))), (q26, .inl (d.2.1, 7, .inl (fun _ => 0)))]) 9 92 := by
  refine mkN (own := RX5) (by decide +kernel) rfl rfl (Nat.le_of_ble_eq_true rfl) ?_
  intro p e s m below meth c A ls C hin hAO hS hl
  obtain ⟨hx, hb, hml, hown, hts, -⟩ := id C
  have hl : lv_has ls 1 [(0, .ref a)] := hl
  refine lv_aload_n hx hb dX5_init_0 rfl (lv_at hl 0 rfl) ?_
  refine objI C hl.1 (tb_at 200 (by decide +kernel) rfl) (Nat.le_of_ble_eq_true rfl) (Nat.le_of_ble_eq_true rfl) (Nat.le_of_ble_eq_true rfl) dX5_init_1 ?_
  refine lv_aload_n hx hb dX5_init_4 rfl (lv_at hl 0 rfl) ?_
  refine newO (ci := 0) (fs := [.int 0, .int 0, .int 0, .int 0, .int 0, .null, .null, .null]) tyX0 tyX0_ok C hS rfl inX0 (tb_at 201 (by decide +kernel) rfl) (tb_at 133 (by decide +kernel) rfl) (tb_at 83 (by decide +kernel) rfl) (fun j hj => by rcases (show j = 0 ∨ j = 1 ∨ j = 2 ∨ j = 3 ∨ j = 4 ∨ j = 5 ∨ j = 6 ∨ j = 7 by omega) with rfl | rfl | rfl | rfl | rfl | rfl | rfl | rfl <;> rfl) (Nat.le_of_ble_eq_true rfl) (Nat.le_of_ble_eq_true rfl) dX5_init_5 (fun q18 H hS => ?_)
  have hS : HS d A s.heap H [] [(a, .inr (5, [.null, .null, .null, .null, .null, .int 0, .int 0])), (q18, .inr (0, [.int 0, .int 0, .int 0, .int 0, .int 0, .null, .null, .null]))] := hS
  refine lv_dup hx hb dX5_init_8 rfl ?_
  refine call_new (nA := 0) (wr := [(a, .inr (5, [.null, .null, .null, .null, .null, .int 0, .int 0]))]) (As := []) [0] 1 C hAO hS (c_X0_init l d q18) rfl rfl (by decide) (by decide) ⟨Or.inr ⟨"WellLocks", by decide +kernel⟩, tb_at 135 (by decide +kernel) rfl, tb_at 83 (by decide +kernel) rfl, tb_at 136 (by decide +kernel) rfl, rfl, by decide +kernel⟩ ⟨rfl, rfl, (Nat.le_of_ble_eq_true rfl), (Nat.le_of_ble_eq_true rfl)⟩ rfl hl.1 (Nat.le_of_ble_eq_true rfl) ⟨(Nat.le_of_ble_eq_true rfl), (Nat.le_of_ble_eq_true rfl)⟩ dX5_init_9 (fun u H locs hu hS => ?_)
  obtain ⟨q19, q20, q21, rfl⟩ := hu
  have hS : HS d A s.heap H locs [(a, .inr (5, [.null, .null, .null, .null, .null, .int 0, .int 0])), (q18, .inr (0, [.int 0, .int 0, .int 0, .int 0, .int 0, .ref q19, .ref q20, .ref q21])), (q19, .inl (d.2.1, 7, .inl (fun _ => 0))), (q20, .inl (d.2.1, 7, .inl (fun _ => 0))), (q21, .inl (d.2.1, 7, .inl (fun _ => 0)))] := hS
  refine pfn (w' := [(a, .inr (5, [.ref q18, .null, .null, .null, .null, .int 0, .int 0])), (q18, .inr (0, [.int 0, .int 0, .int 0, .int 0, .int 0, .ref q19, .ref q20, .ref q21])), (q19, .inl (d.2.1, 7, .inl (fun _ => 0))), (q20, .inl (d.2.1, 7, .inl (fun _ => 0))), (q21, .inl (d.2.1, 7, .inl (fun _ => 0)))]) (k := 0) (j := 0) (ty := .object "WellLocks$Charter") tyX5 tyX5_ok nmX5 C hS rfl rfl inX5 (by decide) (tb_at 219 (by decide +kernel) rfl) rfl (by decide +kernel) rfl rfl (Nat.le_of_ble_eq_true rfl) rfl dX5_init_12 (fun H locs hS => ?_)
  refine lv_aload_n hx hb dX5_init_15 rfl (lv_at hl 0 rfl) ?_
  refine newO (ci := 1) (fs := [.null, .int 0]) tyX1 tyX1_ok C hS rfl inX1 (tb_at 203 (by decide +kernel) rfl) (tb_at 204 (by decide +kernel) rfl) (tb_at 85 (by decide +kernel) rfl) (fun j hj => by rcases (show j = 0 ∨ j = 1 by omega) with rfl | rfl <;> rfl) (Nat.le_of_ble_eq_true rfl) (Nat.le_of_ble_eq_true rfl) dX5_init_16 (fun q22 H hS => ?_)
  have hS : HS d A s.heap H locs [(a, .inr (5, [.ref q18, .null, .null, .null, .null, .int 0, .int 0])), (q18, .inr (0, [.int 0, .int 0, .int 0, .int 0, .int 0, .ref q19, .ref q20, .ref q21])), (q19, .inl (d.2.1, 7, .inl (fun _ => 0))), (q20, .inl (d.2.1, 7, .inl (fun _ => 0))), (q21, .inl (d.2.1, 7, .inl (fun _ => 0))), (q22, .inr (1, [.null, .int 0]))] := hS
  refine lv_dup hx hb dX5_init_19 rfl ?_
  refine lv_iconst (v := 0) hx hb dX5_init_20 (by decide) ?_
  refine call_new (nA := 1) (wr := [(a, .inr (5, [.ref q18, .null, .null, .null, .null, .int 0, .int 0])), (q18, .inr (0, [.int 0, .int 0, .int 0, .int 0, .int 0, .ref q19, .ref q20, .ref q21])), (q19, .inl (d.2.1, 7, .inl (fun _ => 0))), (q20, .inl (d.2.1, 7, .inl (fun _ => 0))), (q21, .inl (d.2.1, 7, .inl (fun _ => 0)))]) (As := [.int 0]) [0, 1, 2, 3, 4] 5 C hAO hS (c_X1_init l d q22 0) rfl rfl (by decide) (by decide) ⟨Or.inl (tb_at 205 (by decide +kernel) rfl), tb_at 206 (by decide +kernel) rfl, tb_at 85 (by decide +kernel) rfl, tb_at 207 (by decide +kernel) rfl, rfl, by decide +kernel⟩ ⟨rfl, rfl, (Nat.le_of_ble_eq_true rfl), (Nat.le_of_ble_eq_true rfl)⟩ rfl hl.1 (Nat.le_of_ble_eq_true rfl) ⟨(Nat.le_of_ble_eq_true rfl), (Nat.le_of_ble_eq_true rfl)⟩ dX5_init_21 (fun u H locs hu hS => ?_)
  obtain ⟨q23, rfl⟩ := hu
  have hS : HS d A s.heap H locs [(a, .inr (5, [.ref q18, .null, .null, .null, .null, .int 0, .int 0])), (q18, .inr (0, [.int 0, .int 0, .int 0, .int 0, .int 0, .ref q19, .ref q20, .ref q21])), (q19, .inl (d.2.1, 7, .inl (fun _ => 0))), (q20, .inl (d.2.1, 7, .inl (fun _ => 0))), (q21, .inl (d.2.1, 7, .inl (fun _ => 0))), (q22, .inr (1, [.ref q23, .int 0])), (q23, .inl (d.2.1, 40, .inl (fun _ => 0)))] := hS
  refine pfF (w' := [(a, .inr (5, [.ref q18, .ref q22, .null, .null, .null, .int 0, .int 0])), (q18, .inr (0, [.int 0, .int 0, .int 0, .int 0, .int 0, .ref q19, .ref q20, .ref q21])), (q19, .inl (d.2.1, 7, .inl (fun _ => 0))), (q20, .inl (d.2.1, 7, .inl (fun _ => 0))), (q21, .inl (d.2.1, 7, .inl (fun _ => 0))), (q22, .inr (1, [.ref q23, .int 0])), (q23, .inl (d.2.1, 40, .inl (fun _ => 0)))]) (k := 0) (j := 1) (ty := .object "WellLocks$Deeds") tyX5 tyX5_ok nmX5 C hin hS rfl rfl inX5 (by decide) (tb_at 221 (by decide +kernel) rfl) rfl rfl (by decide +kernel) rfl rfl (Nat.le_of_ble_eq_true rfl) rfl dX5_init_24 (fun H locs hS => ?_)
  refine lv_aload_n hx hb dX5_init_27 rfl (lv_at hl 0 rfl) ?_
  refine lv_bipush (v := 7) hx hb dX5_init_28 (by decide) ?_
  refine newI (K := 7) C hS (by decide) (by decide) (by decide) (Nat.le_of_ble_eq_true rfl) (Nat.le_of_ble_eq_true rfl) dX5_init_30 (fun q24 H hS => ?_)
  have hS : HS d A s.heap H locs [(a, .inr (5, [.ref q18, .ref q22, .null, .null, .null, .int 0, .int 0])), (q18, .inr (0, [.int 0, .int 0, .int 0, .int 0, .int 0, .ref q19, .ref q20, .ref q21])), (q19, .inl (d.2.1, 7, .inl (fun _ => 0))), (q20, .inl (d.2.1, 7, .inl (fun _ => 0))), (q21, .inl (d.2.1, 7, .inl (fun _ => 0))), (q22, .inr (1, [.ref q23, .int 0])), (q23, .inl (d.2.1, 40, .inl (fun _ => 0))), (q24, .inl (d.2.1, 7, .inl (fun _ => 0)))] := hS
  refine pfF (w' := [(a, .inr (5, [.ref q18, .ref q22, .ref q24, .null, .null, .int 0, .int 0])), (q18, .inr (0, [.int 0, .int 0, .int 0, .int 0, .int 0, .ref q19, .ref q20, .ref q21])), (q19, .inl (d.2.1, 7, .inl (fun _ => 0))), (q20, .inl (d.2.1, 7, .inl (fun _ => 0))), (q21, .inl (d.2.1, 7, .inl (fun _ => 0))), (q22, .inr (1, [.ref q23, .int 0])), (q23, .inl (d.2.1, 40, .inl (fun _ => 0))), (q24, .inl (d.2.1, 7, .inl (fun _ => 0)))]) (k := 0) (j := 2) (ty := .array .int) tyX5 tyX5_ok nmX5 C hin hS rfl rfl inX5 (by decide) (tb_at 223 (by decide +kernel) rfl) rfl rfl (by decide +kernel) rfl rfl (Nat.le_of_ble_eq_true rfl) rfl dX5_init_32 (fun H locs hS => ?_)
  refine lv_aload_n hx hb dX5_init_35 rfl (lv_at hl 0 rfl) ?_
  refine lv_bipush (v := 7) hx hb dX5_init_36 (by decide) ?_
  refine newI (K := 7) C hS (by decide) (by decide) (by decide) (Nat.le_of_ble_eq_true rfl) (Nat.le_of_ble_eq_true rfl) dX5_init_38 (fun q25 H hS => ?_)
  have hS : HS d A s.heap H locs [(a, .inr (5, [.ref q18, .ref q22, .ref q24, .null, .null, .int 0, .int 0])), (q18, .inr (0, [.int 0, .int 0, .int 0, .int 0, .int 0, .ref q19, .ref q20, .ref q21])), (q19, .inl (d.2.1, 7, .inl (fun _ => 0))), (q20, .inl (d.2.1, 7, .inl (fun _ => 0))), (q21, .inl (d.2.1, 7, .inl (fun _ => 0))), (q22, .inr (1, [.ref q23, .int 0])), (q23, .inl (d.2.1, 40, .inl (fun _ => 0))), (q24, .inl (d.2.1, 7, .inl (fun _ => 0))), (q25, .inl (d.2.1, 7, .inl (fun _ => 0)))] := hS
  refine pfF (w' := [(a, .inr (5, [.ref q18, .ref q22, .ref q24, .ref q25, .null, .int 0, .int 0])), (q18, .inr (0, [.int 0, .int 0, .int 0, .int 0, .int 0, .ref q19, .ref q20, .ref q21])), (q19, .inl (d.2.1, 7, .inl (fun _ => 0))), (q20, .inl (d.2.1, 7, .inl (fun _ => 0))), (q21, .inl (d.2.1, 7, .inl (fun _ => 0))), (q22, .inr (1, [.ref q23, .int 0])), (q23, .inl (d.2.1, 40, .inl (fun _ => 0))), (q24, .inl (d.2.1, 7, .inl (fun _ => 0))), (q25, .inl (d.2.1, 7, .inl (fun _ => 0)))]) (k := 0) (j := 3) (ty := .array .int) tyX5 tyX5_ok nmX5 C hin hS rfl rfl inX5 (by decide) (tb_at 225 (by decide +kernel) rfl) rfl rfl (by decide +kernel) rfl rfl (Nat.le_of_ble_eq_true rfl) rfl dX5_init_40 (fun H locs hS => ?_)
  refine lv_aload_n hx hb dX5_init_43 rfl (lv_at hl 0 rfl) ?_
  refine lv_bipush (v := 7) hx hb dX5_init_44 (by decide) ?_
  refine newI (K := 7) C hS (by decide) (by decide) (by decide) (Nat.le_of_ble_eq_true rfl) (Nat.le_of_ble_eq_true rfl) dX5_init_46 (fun q26 H hS => ?_)
  have hS : HS d A s.heap H locs [(a, .inr (5, [.ref q18, .ref q22, .ref q24, .ref q25, .null, .int 0, .int 0])), (q18, .inr (0, [.int 0, .int 0, .int 0, .int 0, .int 0, .ref q19, .ref q20, .ref q21])), (q19, .inl (d.2.1, 7, .inl (fun _ => 0))), (q20, .inl (d.2.1, 7, .inl (fun _ => 0))), (q21, .inl (d.2.1, 7, .inl (fun _ => 0))), (q22, .inr (1, [.ref q23, .int 0])), (q23, .inl (d.2.1, 40, .inl (fun _ => 0))), (q24, .inl (d.2.1, 7, .inl (fun _ => 0))), (q25, .inl (d.2.1, 7, .inl (fun _ => 0))), (q26, .inl (d.2.1, 7, .inl (fun _ => 0)))] := hS
  refine pfF (w' := [(a, .inr (5, [.ref q18, .ref q22, .ref q24, .ref q25, .ref q26, .int 0, .int 0])), (q18, .inr (0, [.int 0, .int 0, .int 0, .int 0, .int 0, .ref q19, .ref q20, .ref q21])), (q19, .inl (d.2.1, 7, .inl (fun _ => 0))), (q20, .inl (d.2.1, 7, .inl (fun _ => 0))), (q21, .inl (d.2.1, 7, .inl (fun _ => 0))), (q22, .inr (1, [.ref q23, .int 0])), (q23, .inl (d.2.1, 40, .inl (fun _ => 0))), (q24, .inl (d.2.1, 7, .inl (fun _ => 0))), (q25, .inl (d.2.1, 7, .inl (fun _ => 0))), (q26, .inl (d.2.1, 7, .inl (fun _ => 0)))]) (k := 0) (j := 4) (ty := .array .int) tyX5 tyX5_ok nmX5 C hin hS rfl rfl inX5 (by decide) (tb_at 226 (by decide +kernel) rfl) rfl rfl (by decide +kernel) rfl rfl (Nat.le_of_ble_eq_true rfl) rfl dX5_init_48 (fun H locs hS => ?_)
  exact retN C hS ⟨q18, q19, q20, q21, q22, q23, q24, q25, q26, rfl⟩ dX5_init_51
