theorem HS.split {d : CD} {A : Nat → Prop} {H0 H : Heap} {locs : List Loc} {w1 w2 : va_W} (h : HS d A H0 H locs (w1 ++ w2)) : HS2 d A H0 H locs w1 w2 := by
  obtain ⟨hP, hD, hS⟩ := h
  have l1 : ∀ (k : Nat) (x : Nat × va_E), w1[k]? = some x → (w1 ++ w2)[k]? = some x := fun k x hx => by
    rw [List.getElem?_append_left (List.getElem?_eq_some_iff.mp hx).1]; exact hx
  have l2 : ∀ (k : Nat) (x : Nat × va_E), w2[k]? = some x → (w1 ++ w2)[w1.length + k]? = some x := fun k x hx => by
    rw [List.getElem?_append_right (by omega), Nat.add_sub_cancel_left]; exact hx
  refine ⟨fun k x hx => hP k x (l1 k x hx), fun k x hx => hP _ x (l2 k x hx), ⟨fun i j x y hx hy e => hD.1 i j x y (l1 i x hx) (l1 j y hy) e, fun k x hx => hD.2 k x (l1 k x hx)⟩, ⟨fun i j x y hx hy e => ?_, fun k x hx => hD.2 _ x (l2 k x hx)⟩, fun i j x y hx hy e => ?_, hS⟩
  · have := hD.1 _ _ x y (l2 i x hx) (l2 j y hy) e
    omega
  · have h1 := hD.1 _ _ x y (l1 i x hx) (l2 j y hy) e
    have h2 := (List.getElem?_eq_some_iff.mp hx).1
    omega
set_option maxRecDepth 100000 in
set_option maxHeartbeats 4000000 in
theorem whole_open {Rel : ST → ST → Prop} (hPu : PureAll Rel) (hR0 : Rel sg0 ta0) {p : Program} {e : Env} {s : State} {m : MethodId} {below : List Frame} {meth : Method} {c : Code} (l : Launch) {b L : Nat} {xs : Nat → Int32} (hL : L ≤ 384) (C0 : lw_At p s m meth c b L xs) : W p l e room_1 s m #[Value.ref b] below meth c s.heap [] 0 0 (lw_Z below #[Value.ref b] s) (entryFrame m ([Value.ref b] : List Value).toArray 4) := by
  obtain ⟨hx, hb, hr, hml, hown, hts0, hX, hbl, hlocks, hgv⟩ := C0
  obtain ⟨d, hE, hSC, hAO⟩ := law_env hts0 hgv
  have hts : ∀ w ∈ tb, w.before #[Value.ref b] s = true := fun w h => hts0 w (List.mem_filter.mp h).1
  have C : CX p s m #[Value.ref b] meth c RL code 4 ret d (fun q => s.heap.size ≤ q) := ⟨hx, hb, hml, hown, hts, hE, hr, hlocks, fun _ h => h, hSC⟩
  have hS : HS d (fun q => s.heap.size ≤ q) s.heap s.heap [] [] := ⟨fun k q h => by simp at h, ⟨fun i j p q h => by simp at h, fun k q h => by simp at h⟩, va_S.rf⟩
  have hl := lv_entry ([.ref b]) (n := 4) (Nat.le_of_ble_eq_true rfl)
  rw [lg_entry_eq]
  generalize (lg_sl ([.ref b]) ++ List.replicate (4 - (lg_sl ([.ref b])).length) Slot.unset).toArray = ls at hl ⊢
  have hl : lv_has ls 4 [(0, .ref b)] := hl
  refine newO (ci := 6) (fs := [.null, .null, .null, .null, .null, .null, .null, .int 0, .int 0, .long 0, .long 0]) tyX6 tyX6_ok C hS rfl inX6 (tb_at 95 (by decide +kernel) rfl) (tb_at 96 (by decide +kernel) rfl) (tb_at 79 (by decide +kernel) rfl) (fun j hj => by rcases (show j = 0 ∨ j = 1 ∨ j = 2 ∨ j = 3 ∨ j = 4 ∨ j = 5 ∨ j = 6 ∨ j = 7 ∨ j = 8 ∨ j = 9 ∨ j = 10 by omega) with rfl | rfl | rfl | rfl | rfl | rfl | rfl | rfl | rfl | rfl | rfl <;> rfl) (Nat.le_of_ble_eq_true rfl) (Nat.le_of_ble_eq_true rfl) dL_law_0 (fun q0 H hS => ?_)
  refine lv_dup hx hb dL_law_3 rfl ?_
  refine call_new (nA := 0) (wr := []) (As := []) [] 0 C hAO hS (c_X6_init l d q0) rfl rfl (by decide) (by decide) ⟨Or.inl (tb_at 97 (by decide +kernel) rfl), tb_at 98 (by decide +kernel) rfl, tb_at 79 (by decide +kernel) rfl, tb_at 99 (by decide +kernel) rfl, rfl, by decide +kernel⟩ ⟨rfl, rfl, Nat.le_of_ble_eq_true rfl, Nat.le_of_ble_eq_true rfl⟩ rfl hl.1 (Nat.le_of_ble_eq_true rfl) ⟨Nat.le_of_ble_eq_true rfl, Nat.le_of_ble_eq_true rfl⟩ dL_law_4 (fun u H1 locs1 hu hS1 => ?_)
  obtain ⟨q, rfl, rfl⟩ := hu
  have hS : HS d (fun q => s.heap.size ≤ q) s.heap H1 locs1 (cw q d sg0) := hS1
  refine lv_astore_n (lv' := [(1, .ref (q 0)), (0, .ref b)]) hx hb dL_law_7 rfl hl (by decide) rfl (fun ls hl => ?_)
  refine newO (ci := 7) (fs := [.null, .int 0, .int 0, .int 0, .null, .null, .null, .int 0, .null, .null, .null, .null, .int 0, .long 0, .long 0, .int 0, .null, .int 0, .int 0, .int 0, .int 0, .int 0, .int 0, .null, .int 0, .null, .int 0, .null, .null, .null]) tyX7 tyX7_ok C hS rfl inX7 (tb_at 948 (by decide +kernel) rfl) (tb_at 949 (by decide +kernel) rfl) (tb_at 87 (by decide +kernel) rfl) (fun j hj => by rcases (show j = 0 ∨ j = 1 ∨ j = 2 ∨ j = 3 ∨ j = 4 ∨ j = 5 ∨ j = 6 ∨ j = 7 ∨ j = 8 ∨ j = 9 ∨ j = 10 ∨ j = 11 ∨ j = 12 ∨ j = 13 ∨ j = 14 ∨ j = 15 ∨ j = 16 ∨ j = 17 ∨ j = 18 ∨ j = 19 ∨ j = 20 ∨ j = 21 ∨ j = 22 ∨ j = 23 ∨ j = 24 ∨ j = 25 ∨ j = 26 ∨ j = 27 ∨ j = 28 ∨ j = 29 by omega) with rfl | rfl | rfl | rfl | rfl | rfl | rfl | rfl | rfl | rfl | rfl | rfl | rfl | rfl | rfl | rfl | rfl | rfl | rfl | rfl | rfl | rfl | rfl | rfl | rfl | rfl | rfl | rfl | rfl | rfl <;> rfl) (Nat.le_of_ble_eq_true rfl) (Nat.le_of_ble_eq_true rfl) dL_law_8 (fun q1 H hS => ?_)
  refine lv_dup hx hb dL_law_11 rfl ?_
  refine call_new (nA := 0) (wr := cw q d sg0) (As := []) [0, 1, 2, 3, 4, 5, 6, 7, 8, 9, 10, 11, 12, 13, 14, 15, 16, 17, 18, 19, 20, 21, 22, 23, 24, 25, 26, 27, 28, 29, 30, 31, 32, 33, 34, 35, 36, 37, 38, 39, 40, 41, 42, 43] 44 C hAO hS (c_X7_init l d q1) rfl rfl (by decide) (by decide) ⟨Or.inl (tb_at 950 (by decide +kernel) rfl), tb_at 951 (by decide +kernel) rfl, tb_at 87 (by decide +kernel) rfl, tb_at 952 (by decide +kernel) rfl, rfl, by decide +kernel⟩ ⟨rfl, rfl, Nat.le_of_ble_eq_true rfl, Nat.le_of_ble_eq_true rfl⟩ rfl hl.1 (Nat.le_of_ble_eq_true rfl) ⟨Nat.le_of_ble_eq_true rfl, Nat.le_of_ble_eq_true rfl⟩ dL_law_12 (fun u H2 locs2 hu hS3 => ?_)
  obtain ⟨q', rfl, rfl⟩ := hu
  refine lv_astore_n (lv' := [(2, .ref (q' 0)), (1, .ref (q 0)), (0, .ref b)]) hx hb dL_law_15 rfl hl (by decide) rfl (fun ls hl => ?_)
  refine lv_iconst (v := 0) hx hb dL_law_16 (by decide) ?_
  refine lv_istore_n (lv' := [(3, .int 0), (2, .ref (q' 0)), (1, .ref (q 0)), (0, .ref b)]) hx hb dL_law_17 rfl hl (by decide) rfl (fun ls hl => ?_)
  refine W.widen (k := 600000) (n := 7302250) (Nat.le_of_ble_eq_true rfl) (Nat.le_of_ble_eq_true rfl) ?_
  exact law_loop hPu C hX hbl hL (L + 1) 0 q q' sg0 ta0 _ _ _ (by omega) (by omega) hR0 hS3.split (lv_sub hl [3, 2, 1, 0] rfl)
