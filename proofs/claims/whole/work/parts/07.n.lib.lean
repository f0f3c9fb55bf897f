section LIB
variable {p : Program} {l : Launch} {e : Env} {R : Room} {s : State} {m : MethodId} {args : Array Value} {below : List Frame} {meth : Method} {c : Code} {H : Heap} {locs : List Loc} {Q : State → Prop}
variable {cc : ByteArray} {nL pc : Nat} {ret : Option FieldType} {d : CD} {A : Nat → Prop} {ls : Array Slot} {rest : List Value} {q : Nat → Nat} {σ σ1 : ST} {j : Nat}
theorem yc_X4_callerWins : Cond.code yX4_callerWins cX4_callerWins 6 (some .boolean) ∈ tb := tb_at 852 (by decide +kernel) rfl
theorem yd_X4_callerWins : ydn yX4_callerWins 3 := by decide +kernel
theorem yv_X4_callerWins : Cond.instanceMethod yX4_callerWins ∈ tb ∧ Cond.selects yX4_callerWins.cls yX4_callerWins yX4_callerWins ∈ tb := ⟨tb_at 851 (by decide +kernel) rfl, tb_at 27 (by decide +kernel) rfl⟩
theorem iv_4_73 : inV RX4 73 yX4_callerWins cX4_callerWins 6 (some .boolean) 3 := ⟨⟨tb_at 849 (by decide +kernel) rfl, yv_X4_callerWins.1, yv_X4_callerWins.2, yi_X4, yc_X4_callerWins⟩, yd_X4_callerWins⟩
theorem yc_X4_winningCall : Cond.code yX4_winningCall cX4_winningCall 2 (some .int) ∈ tb := tb_at 847 (by decide +kernel) rfl
theorem yd_X4_winningCall : ydn yX4_winningCall 0 := by decide +kernel
theorem yv_X4_winningCall : Cond.instanceMethod yX4_winningCall ∈ tb ∧ Cond.selects yX4_winningCall.cls yX4_winningCall yX4_winningCall ∈ tb := ⟨tb_at 845 (by decide +kernel) rfl, tb_at 846 (by decide +kernel) rfl⟩
theorem iv_6_270 : inV RX6 270 yX4_winningCall cX4_winningCall 2 (some .int) 0 := ⟨⟨tb_at 844 (by decide +kernel) rfl, yv_X4_winningCall.1, yv_X4_winningCall.2, yi_X4, yc_X4_winningCall⟩, yd_X4_winningCall⟩
theorem p_5_37_27 {x : Int32} (C : CX p s m args meth c RX5 cc nL ret d A) (hS : HS d A s.heap H locs (cw q d σ)) (e1 : some (setI σ 37 x) = some σ1) (hdg : decode cc pc = .ok (.putfield 37, 3)) (kk : ∀ (H1 : Heap) (locs1 : List Loc), HS d A s.heap H1 locs1 (cw q d σ1) → W p l e R s m args below meth c H1 locs1 0 0 Q (F0 m (pc + 3) ls rest)) : W p l e R s m args below meth c H locs 0 0 Q (F0 m pc ls (.int x :: .ref (q 27) :: rest)) := by
  cases e1
  exact pfN (host := "WellLocks") (j := 1) (ty := .int) tyX1 tyX1_ok nmX1 C hS cw_o27 rfl inX1 (by decide) (by decide +kernel) rfl (by decide +kernel) rfl rfl (Nat.le_of_ble_eq_true rfl) rfl hdg kk
theorem iv_5_41 : inV RX5 41 yX5_replay cX5_replay 2 (none) 0 := ⟨⟨tb_at 527 (by decide +kernel) rfl, yv_X5_replay.1, yv_X5_replay.2, yi_X5, yc_X5_replay⟩, yd_X5_replay⟩
theorem yc_X2_handOver : Cond.code yX2_handOver cX2_handOver 3 (some (.object "WellLocks$Charter")) ∈ tb := tb_at 522 (by decide +kernel) rfl
theorem yd_X2_handOver : ydn yX2_handOver 1 := by decide +kernel
theorem yv_X2_handOver : Cond.instanceMethod yX2_handOver ∈ tb ∧ Cond.selects yX2_handOver.cls yX2_handOver yX2_handOver ∈ tb := ⟨tb_at 520 (by decide +kernel) rfl, tb_at 521 (by decide +kernel) rfl⟩
theorem iv_6_129 : inV RX6 129 yX2_handOver cX2_handOver 3 (some (.object "WellLocks$Charter")) 1 := ⟨⟨tb_at 519 (by decide +kernel) rfl, yv_X2_handOver.1, yv_X2_handOver.2, yi_X2, yc_X2_handOver⟩, yd_X2_handOver⟩
theorem yc_X5_begin : Cond.code yX5_begin cX5_begin 2 (none) ∈ tb := tb_at 526 (by decide +kernel) rfl
theorem yd_X5_begin : ydn yX5_begin 1 := by decide +kernel
theorem yv_X5_begin : Cond.instanceMethod yX5_begin ∈ tb ∧ Cond.selects yX5_begin.cls yX5_begin yX5_begin ∈ tb := ⟨tb_at 524 (by decide +kernel) rfl, tb_at 525 (by decide +kernel) rfl⟩
theorem iv_6_133 : inV RX6 133 yX5_begin cX5_begin 2 (none) 1 := ⟨⟨tb_at 523 (by decide +kernel) rfl, yv_X5_begin.1, yv_X5_begin.2, yi_X5, yc_X5_begin⟩, yd_X5_begin⟩
theorem p_6_137_f36 {x : Int32} (hj : j < 3) (C : CX p s m args meth c RX6 cc nL ret d A) (hS : HS d A s.heap H locs (cw q d σ)) (e1 : some (setI σ (40 + j) x) = some σ1) (hdg : decode cc pc = .ok (.putfield 137, 3)) (kk : ∀ (H1 : Heap) (locs1 : List Loc), HS d A s.heap H1 locs1 (cw q d σ1) → W p l e R s m args below meth c H1 locs1 0 0 Q (F0 m (pc + 3) ls rest)) : W p l e R s m args below meth c H locs 0 0 Q (F0 m pc ls (.int x :: .ref (q (36 + j)) :: rest)) := by
  cases e1
  exact pfN (host := "WellLocks") (j := 1) (ty := .int) tyX1 tyX1_ok nmX1 C hS (cw_of36 hj) rfl inX1 (by decide) (by decide +kernel) rfl (by decide +kernel) rfl rfl (Nat.le_of_ble_eq_true rfl) (by match j, hj with | 0, _ => rfl | 1, _ => rfl | 2, _ => rfl) hdg kk
end LIB
