/-! Arrays.fill(int[], int) -/
abbrev rm_fill : Room := { frames := 0, cells := 0, slots := 0, locals := 0 }
theorem setA_self (σ : ST) (k : Nat) : setA σ k (σ.2.2 k) = σ := by
  obtain ⟨a, b, c⟩ := σ
  show (a, b, va_up c k (c k)) = (a, b, c)
  have : va_up c k (c k) = c := funext fun j => by unfold va_up; split <;> simp_all
  rw [this]
theorem setA_setA (σ : ST) (k : Nat) (f g : Nat → Int32) : setA (setA σ k f) k g = setA σ k g := by
  show (σ.1, σ.2.1, va_up (va_up σ.2.2 k f) k g) = (σ.1, σ.2.1, va_up σ.2.2 k g)
  rw [bx_uu]
theorem setA_at (σ : ST) (k : Nat) (f : Nat → Int32) : (setA σ k f).2.2 k = f := by
  show va_up _ k f k = f
  unfold va_up; rw [if_pos rfl]
set_option maxRecDepth 100000 in
set_option maxHeartbeats 4000000 in
theorem c_fill {l : Launch} {d : CD} {wf : ST → va_W} {σ σ' : ST} {k a n : Nat} {v : Int32} (hn : n < 1000) (he : ∀ σ, (wf σ)[k]? = some (a, .inl (d.2.1, n, .inl (σ.2.2 k)))) (hs : ∀ σ f, (wf σ).set k (a, .inl (d.2.1, n, .inl f)) = wf (setA σ k f)) (e1 : fillA n σ k v = some σ') : MetV l yJ7_fill_53178 cJ7_fill_53178 4 none rm_fill d (wf σ) [.ref a, .int v] (wf σ') := by
  refine mkV (own := RJ7) (by decide +kernel) rfl (Nat.le_of_ble_eq_true rfl) ?_
  intro p e s m below meth c A ls C hS hl
  obtain ⟨hx, hb, hml, hown, hts, -⟩ := id C
  have hl : lv_has ls 4 [(0, .ref a), (1, .int v)] := hl
  have Lp : ∀ (r i : Nat) (H : Heap) (locs : List Loc) (ls : Array Slot), i + r = n → HS d A s.heap H locs (wf (setA σ k (fun j => if j < i then v else σ.2.2 k j))) → lv_has ls 4 [(0, .ref a), (1, .int v), (2, .int (nI i)), (3, .int (nI n))] → WV p l e rm_fill s m [.ref a, .int v].toArray below meth c A d H locs (wf σ') (F0 m 5 ls []) := by
    intro r
    induction r with
    | zero =>
      intro i H locs ls hi hS hl
      refine lv_iload_n hx hb dJ7_fill_53178_5 rfl (lv_at hl 2 rfl) ?_
      refine lv_iload_n hx hb dJ7_fill_53178_6 rfl (lv_at hl 3 rfl) ?_
      refine lv_icmp_ge (tgt := 20) hx hb dJ7_fill_53178_7 (by decide) (fun c7 => ?_) (fun c7 => absurd (nI_le (by omega) (by omega)) c7)
      cases e1
      have hi : i = n := by omega
      subst hi
      exact retV C hS rfl dJ7_fill_53178_20
    | succ r ih =>
      intro i H locs ls hi hS hl
      refine lv_iload_n hx hb dJ7_fill_53178_5 rfl (lv_at hl 2 rfl) ?_
      refine lv_iload_n hx hb dJ7_fill_53178_6 rfl (lv_at hl 3 rfl) ?_
      refine lv_icmp_ge (tgt := 20) hx hb dJ7_fill_53178_7 (by decide) (fun c7 => absurd c7 (nI_ge (by omega) (by omega))) (fun c7 => ?_)
      refine lv_aload_n hx hb dJ7_fill_53178_10 rfl (lv_at hl 0 rfl) ?_
      refine lv_iload_n hx hb dJ7_fill_53178_11 rfl (lv_at hl 2 rfl) ?_
      refine lv_iload_n hx hb dJ7_fill_53178_12 rfl (lv_at hl 1 rfl) ?_
      have ew : wrA n (setA σ k (fun j => if j < i then v else σ.2.2 k j)) k (nI i) v = some (setA σ k (fun j => if j < i + 1 then v else σ.2.2 k j)) := by
        unfold wrA
        rw [if_neg (nI_in (by omega) (by omega)), nI_clamp (by omega), setA_at, setA_setA]
        congr 2
        funext j
        unfold upd
        by_cases h1 : j = i
        · subst h1; simp
        · by_cases h2 : j < i
          · simp [h1, h2, Nat.lt_succ_of_lt h2]
          · simp [h1, h2, show ¬ j < i + 1 by omega]
      refine iast' (wf := wf) C hS (he _) (hs _) ew dJ7_fill_53178_13 (fun H locs hS => ?_)
      refine lv_iinc (v := nI i + 1) (lv' := [(2, .int (nI i + 1)), (0, .ref a), (1, .int v), (3, .int (nI n))]) hx hb dJ7_fill_53178_14 hl (k := 2) rfl rfl (by decide) rfl (fun ls hl => ?_)
      refine lv_goto (tgt := 5) hx hb dJ7_fill_53178_17 (by decide) ?_
      have hl := lv_sub (l' := [(0, .ref a), (1, .int v), (2, .int (nI i + 1)), (3, .int (nI n))]) hl [1, 2, 0, 3] rfl
      rw [nI_1] at hl
      exact ih (i + 1) _ _ _ (by omega) hS hl
  refine lv_iconst (v := 0) hx hb dJ7_fill_53178_0 (by decide) ?_
  refine lv_istore_n (lv' := [(2, .int 0), (0, .ref a), (1, .int v)]) hx hb dJ7_fill_53178_1 rfl hl (by decide) rfl (fun ls hl => ?_)
  refine lv_aload_n hx hb dJ7_fill_53178_2 rfl (lv_at hl 1 rfl) ?_
  refine alen' (v := nI n) C hS (he _) rfl dJ7_fill_53178_3 ?_
  refine lv_istore_n (lv' := [(3, .int (nI n)), (2, .int 0), (0, .ref a), (1, .int v)]) hx hb dJ7_fill_53178_4 rfl hl (by decide) rfl (fun ls hl => ?_)
  have e0 : setA σ k (fun j => if j < 0 then v else σ.2.2 k j) = σ := by simp [setA_self]
  refine Lp n 0 _ _ _ (by omega) ?_ (lv_sub hl [2, 3, 1, 0] rfl)
  rw [e0]
  exact hS
/-! the letters' text: charAt of the one string constant -/
def kindL (j : Nat) : Int32 := ([104, 99, 114, 100, 115, 109] : List Int32).getD j 0
section STR
variable {p : Program} {l : Launch} {e : Env} {R : Room} {s : State} {m : MethodId} {args : Array Value} {below : List Frame} {meth : Method} {c : Code} {H : Heap} {locs : List Loc} {Q : State → Prop}
variable {own : String} {cc : ByteArray} {nL pc : Nat} {ret : Option FieldType} {d : CD} {A : Nat → Prop} {ls : Array Slot} {w w' : va_W} {rest : List Value}
theorem ldcS (C : CX p s m args meth c RX2 cc nL ret d A) (hdg : decode cc pc = .ok (.ldc 102, 2)) (k : W p l e R s m args below meth c H locs 0 0 Q (F0 m (pc + 2) ls (.ref d.2.2.2.2.2.1 :: rest))) : W p l e R s m args below meth c H locs 0 0 Q (F0 m pc ls rest) := by
  obtain ⟨hx, hb, hml, hown, hts, hE, hr, hlocks, hA, hC⟩ := C
  exact va_ldcS hx hb hown hC.1 hdg k
variable {y : MethodName} {ccY : ByteArray} {nY n idx : Nat} {retY : Option FieldType} {rmY : Room} {As : List Value}
theorem call_Sv {Qc : Array Value → State → Outcome → State → Prop} (C : CX p s m args meth c own cc nL ret d A) (hS : HS d A s.heap H locs w) (hM : Met l y (mws y ccY nY retY) rmY (va_Pc (.ref d.2.2.2.2.2.1 :: As) (PW d w H.size)) Qc 0 0 (va_A w H.size)) (hI : inV own idx y ccY nY retY n) (hy : y.cls = "java/lang/String") (hR : rmok rmY nY R) (hn : As.length = n) (hsz : ls.size = nL) (hst : (rest.map fun v => v.category).sum ≤ 8) (hdg : decode cc pc = .ok (.invokevirtual idx, 3)) :
    va_Run p l e R s m args below meth c H locs 0 0 0 0 (F0 m pc ls (As.reverse ++ .ref d.2.2.2.2.2.1 :: rest)) rest (Qc (Value.ref d.2.2.2.2.2.1 :: As).toArray) (va_A w H.size) := by
  obtain ⟨⟨i1, i2, i3, i4, i5⟩, hyd⟩ := hI
  have hq := pw_ok (As := .ref d.2.2.2.2.2.1 :: As) C hS
  obtain ⟨hx, hb, hml, hown, hts, hE, hr, hlocks, hA, hC⟩ := C
  obtain ⟨hP, hD, hS⟩ := hS
  refine va_runV (Ts := tb) (C := y.cls) (n := n) (bytes := ccY) (maxL := nY) (ret := retY) ⟨hx, hb, hml, hown, hts⟩ hM ?_ ⟨hq.1, ?_, hq.2⟩ rfl hn hsz rfl (lv_room hst) hdg ⟨Nat.zero_le _, Nat.zero_le _⟩
  · refine cwV n hts (tb_goodIn ?_) rfl hR.1 hR.2.1 ⟨rfl, hyd⟩ ⟨hR.2.2.1, hR.2.2.2⟩
    intro w hw
    rcases List.mem_append.mp hw with h | h
    · simp only [List.mem_cons, List.not_mem_nil, or_false] at h
      rcases h with rfl | rfl | rfl | rfl <;> assumption
    · exact (mws_good i5 w h).1
  · exact hy ▸ vk_recv (i := 0) hC.2.1 (by decide) hS
theorem retC {v r : Int32} (C : CX p s m args meth c own cc nL (some .char) d A) (hS : HS d A s.heap H locs w) (hn : narrow .char (.int v) = .int v) (hv : v = r) (hdg : decode cc pc = .ok (.ireturn, 1)) :
    W p l e R s m args below meth c H locs 0 0 (MQ below (va_Qi (fun (r' : Int32) (u : va_W) => r' = r ∧ u = w) (AT d A) A) args s 0 0 A) (F0 m pc ls [.int v]) := by
  obtain ⟨hx, hb, hml, hown, hts, hE, hr, hlocks, hA⟩ := C
  obtain ⟨hP, hD, hS⟩ := hS
  exact W.zret (ty := .char) hx hb hr hn (fun t ht hW => ⟨⟨v, w, rfl, ⟨hv, rfl⟩, by rw [ht]; exact hP, hD⟩, hS.F ht⟩) hS.2.2 hdg
end STR
abbrev rm_J3ci : Room := { frames := 0, cells := 0, slots := 0, locals := 0 }
abbrev rm_J0ci : Room := { frames := 1, cells := 0, slots := 0, locals := 22 }
abbrev rm_J1ca : Room := { frames := 2, cells := 0, slots := 0, locals := 43 }
abbrev rm_J0ca : Room := { frames := 3, cells := 0, slots := 0, locals := 64 }
set_option maxRecDepth 100000 in
set_option maxHeartbeats 4000000 in
theorem c_J3_checkIndex (l : Launch) (d : CD) (w : va_W) (i n : Int32) (fv : Value) (hf : fv = .null ∨ ∃ t, fv = .ref t) (h0 : ¬ i < 0) (h1 : i < n) : MetI l yJ3_checkIndex_8e157 cJ3_checkIndex_8e157 3 (some .int) rm_J3ci d w [.int i, .int n, fv] i w := by
  have key : ∀ (p : Program) (e : Env) (s : State) (m : MethodId) (below : List Frame) (meth : Method) (c : Code) (A : Nat → Prop) (ls : Array Slot), CX p s m [.int i, .int n, fv].toArray meth c RJ3 cJ3_checkIndex_8e157 3 (some .int) d A → HS d A s.heap s.heap [] w → lv_has ls 3 [(0, .int i), (1, .int n)] → W p l e rm_J3ci s m [.int i, .int n, fv].toArray below meth c s.heap [] 0 0 (MQ below (va_Qi (fun (r' : Int32) (u : va_W) => r' = i ∧ u = w) (AT d A) A) [.int i, .int n, fv].toArray s 0 0 A) (F0 m 0 ls []) := by
    intro p e s m below meth c A ls C hS hl
    obtain ⟨hx, hb, hml, hown, hts, -⟩ := id C
    refine lv_iload_n hx hb dJ3_checkIndex_8e157_0 rfl (lv_at hl 0 rfl) ?_
    refine lv_if_lt (tgt := 9) hx hb dJ3_checkIndex_8e157_1 (by decide) (fun q => absurd q h0) (fun _ => ?_)
    refine lv_iload_n hx hb dJ3_checkIndex_8e157_4 rfl (lv_at hl 0 rfl) ?_
    refine lv_iload_n hx hb dJ3_checkIndex_8e157_5 rfl (lv_at hl 1 rfl) ?_
    refine lv_icmp_lt (tgt := 16) hx hb dJ3_checkIndex_8e157_6 (by decide) (fun _ => ?_) (fun q => absurd h1 q)
    refine lv_iload_n hx hb dJ3_checkIndex_8e157_16 rfl (lv_at hl 0 rfl) ?_
    exact retI C hS rfl rfl dJ3_checkIndex_8e157_17
  rcases hf with rfl | ⟨t, rfl⟩
  · exact mkI (own := RJ3) (by decide +kernel) rfl (Nat.le_of_ble_eq_true rfl) (fun p e s m below meth c A ls C hS hl => key p e s m below meth c A ls C hS (lv_sub hl [0, 1] rfl))
  · exact mkI (own := RJ3) (by decide +kernel) rfl (Nat.le_of_ble_eq_true rfl) (fun p e s m below meth c A ls C hS hl => key p e s m below meth c A ls C hS (lv_sub hl [0, 1] rfl))
set_option maxRecDepth 100000 in
set_option maxHeartbeats 4000000 in
theorem c_J0_checkIndex (l : Launch) (d : CD) (w : va_W) (i n : Int32) (h0 : ¬ i < 0) (h1 : i < n) : MetV l yJ0_checkIndex_df160 cJ0_checkIndex_df160 2 none rm_J0ci d w [.int i, .int n] w := by
  refine mkV (own := RJ0) (by decide +kernel) rfl (Nat.le_of_ble_eq_true rfl) ?_
  intro p e s m below meth c A ls C hS hl
  obtain ⟨hx, hb, hml, hown, hts, -, -, -, -, hC⟩ := id C
  have hl : lv_has ls 2 [(0, .int i), (1, .int n)] := hl
  refine lv_iload_n hx hb dJ0_checkIndex_df160_0 rfl (lv_at hl 0 rfl) ?_
  refine lv_iload_n hx hb dJ0_checkIndex_df160_1 rfl (lv_at hl 1 rfl) ?_
  have go : ∀ fv : Value, (fv = .null ∨ ∃ t, fv = .ref t) → va_Z "jdk/internal/util/Preconditions" "SIOOBE_FORMATTER" "Ljava/util/function/BiFunction;" fv A s s.heap → WV p l e rm_J0ci s m [.int i, .int n].toArray below meth c A d s.heap [] w (F0 m 2 ls [.int n, .int i]) := by
    intro fv hfv hZ
    refine va_gets (C := "jdk/internal/util/Preconditions") (n := "SIOOBE_FORMATTER") (d := "Ljava/util/function/BiFunction;") (v := fv) hx hb hZ hS.2.2 hown (hts _ (tb_at 486 (by decide +kernel) rfl)) (fun _ h => h) dJ0_checkIndex_df160_2 ?_
    refine after_i C hS (call_S (As := [.int i, .int n, fv]) (rest := []) C hS (c_J3_checkIndex l d w i n fv hfv h0 h1 _) is_J0_1059 ⟨rfl, rfl, Nat.le_of_ble_eq_true rfl, Nat.le_of_ble_eq_true rfl⟩ rfl hl.1 (Nat.le_of_ble_eq_true rfl) dJ0_checkIndex_df160_5) (fun H locs hS => ?_)
    refine lv_pop hx hb dJ0_checkIndex_df160_8 rfl ?_
    exact retV C hS rfl dJ0_checkIndex_df160_9
  rcases hC.2.2.2 with hZ | ⟨t, hZ⟩
  · exact go _ (Or.inl rfl) hZ
  · exact go _ (Or.inr ⟨t, rfl⟩) hZ
theorem kind_c : ∀ j, j < 6 → ((kindL j &&& 255).toUInt32 % 65536).toInt32 = kindL j ∧ narrow .char (.int (kindL j)) = .int (kindL j) := by decide +kernel
set_option maxRecDepth 100000 in
set_option maxHeartbeats 4000000 in
theorem c_J1_charAt {l : Launch} {d : CD} {w : va_W} {i v : Int32} (e1 : rd 6 kindL i = some v) : MetI l yJ1_charAt_3b067 cJ1_charAt_3b067 2 (some .char) rm_J1ca d w [.ref d.2.2.2.2.2.2, .int i] v w := by
  refine mkI (own := RJ1) (by decide +kernel) rfl (Nat.le_of_ble_eq_true rfl) ?_
  intro p e s m below meth c A ls C hS hl
  obtain ⟨hx, hb, hml, hown, hts, -, -, -, -, hC⟩ := id C
  have hl : lv_has ls 2 [(0, .ref d.2.2.2.2.2.2), (1, .int i)] := hl
  obtain ⟨hin, rfl⟩ := rd_e e1
  have hT := (hC.2.1.1 0 (by decide)).2.2.2
  have h0 : ¬ i < 0 := fun q => hin (Or.inl q)
  obtain ⟨j, hj, hij⟩ := vp_in_of hin (by decide)
  have h1 : i < 6 := by rw [hij]; exact nI_lt hj (by decide)
  have hcl : i.toNatClampNeg = j := by rw [hij]; exact nI_clamp (by omega)
  refine lv_iload_n hx hb dJ1_charAt_3b067_0 rfl (lv_at hl 1 rfl) ?_
  refine lv_aload_n hx hb dJ1_charAt_3b067_1 rfl (lv_at hl 0 rfl) ?_
  refine va_tlen (v := 6) hx hb hT hS.2.2 rfl dJ1_charAt_3b067_2 ?_
  refine after_v C hS (call_S (As := [.int i, .int 6]) (rest := []) C hS (c_J0_checkIndex l d w i 6 h0 h1 _) is_J1_9 ⟨rfl, rfl, Nat.le_of_ble_eq_true rfl, Nat.le_of_ble_eq_true rfl⟩ rfl hl.1 (Nat.le_of_ble_eq_true rfl) dJ1_charAt_3b067_3) (fun H locs hS => ?_)
  refine lv_aload_n hx hb dJ1_charAt_3b067_6 rfl (lv_at hl 0 rfl) ?_
  refine lv_iload_n hx hb dJ1_charAt_3b067_7 rfl (lv_at hl 1 rfl) ?_
  refine va_tb (v := .int (kindL i.toNatClampNeg)) hx hb hT hS.2.2 hin rfl dJ1_charAt_3b067_8 ?_
  refine lv_sipush (v := 255) hx hb dJ1_charAt_3b067_9 (by decide) ?_
  refine lv_iand hx hb dJ1_charAt_3b067_12 ?_
  refine lv_i2c (v := kindL i.toNatClampNeg) hx hb dJ1_charAt_3b067_13 (by rw [hcl]; exact (kind_c j hj).1) ?_
  exact retC C hS (by rw [hcl]; exact (kind_c j hj).2) rfl dJ1_charAt_3b067_14
set_option maxRecDepth 100000 in
set_option maxHeartbeats 4000000 in
theorem c_J0_isLatin1 (l : Launch) (d : CD) (w : va_W) : MetI l yJ0_isLatin1_aae02 cJ0_isLatin1_aae02 1 (some .boolean) rm_J3ci d w [.ref d.2.2.2.2.2.1] 1 w := by
  refine mkI (own := RJ0) (by decide +kernel) rfl (Nat.le_of_ble_eq_true rfl) ?_
  intro p e s m below meth c A ls C hS hl
  obtain ⟨hx, hb, hml, hown, hts, -, -, -, -, hC⟩ := id C
  have hl : lv_has ls 1 [(0, .ref d.2.2.2.2.2.1)] := hl
  refine va_gets (C := "java/lang/String") (n := "COMPACT_STRINGS") (d := "Z") (v := .int 1) hx hb hC.2.2.1 hS.2.2 hown (hts _ (tb_at 478 (by decide +kernel) rfl)) (fun _ h => h) dJ0_isLatin1_aae02_0 ?_
  refine lv_if_eq (tgt := 17) hx hb dJ0_isLatin1_aae02_3 (by decide) (fun q => absurd q (by decide)) (fun _ => ?_)
  refine lv_aload_n hx hb dJ0_isLatin1_aae02_6 rfl (lv_at hl 0 rfl) ?_
  refine vk_getf (v := .int 0) hx hb (hC.2.1.1 0 (by decide)).2.1 hS.2.2 hown (hts _ (tb_at 1431 (by decide +kernel) rfl)) (fun _ h => h) dJ0_isLatin1_aae02_7 ?_
  refine lv_if_ne (tgt := 17) hx hb dJ0_isLatin1_aae02_10 (by decide) (fun q => absurd rfl q) (fun _ => ?_)
  refine lv_iconst (v := 1) hx hb dJ0_isLatin1_aae02_13 (by decide) ?_
  refine lv_goto (tgt := 18) hx hb dJ0_isLatin1_aae02_14 (by decide) ?_
  exact retZ C hS (Or.inr rfl) rfl rfl dJ0_isLatin1_aae02_18
set_option maxRecDepth 100000 in
set_option maxHeartbeats 4000000 in
theorem c_charAt {l : Launch} {d : CD} {w : va_W} {i v : Int32} (e1 : rd 6 kindL i = some v) : MetI l yJ0_charAt_5068e cJ0_charAt_5068e 2 (some .char) rm_J0ca d w [.ref d.2.2.2.2.2.1, .int i] v w := by
  refine mkI (own := RJ0) (by decide +kernel) rfl (Nat.le_of_ble_eq_true rfl) ?_
  intro p e s m below meth c A ls C hS hl
  obtain ⟨hx, hb, hml, hown, hts, -, -, -, -, hC⟩ := id C
  have hl : lv_has ls 2 [(0, .ref d.2.2.2.2.2.1), (1, .int i)] := hl
  refine lv_aload_n hx hb dJ0_charAt_5068e_0 rfl (lv_at hl 0 rfl) ?_
  refine after_i C hS (call_Sv (As := []) (rest := []) C hS (c_J0_isLatin1 l d w _) iv_J0_492 rfl ⟨rfl, rfl, Nat.le_of_ble_eq_true rfl, Nat.le_of_ble_eq_true rfl⟩ rfl hl.1 (Nat.le_of_ble_eq_true rfl) dJ0_charAt_5068e_1) (fun H locs hS => ?_)
  refine lv_if_eq (tgt := 16) hx hb dJ0_charAt_5068e_4 (by decide) (fun q => absurd q (by decide)) (fun _ => ?_)
  refine lv_aload_n hx hb dJ0_charAt_5068e_7 rfl (lv_at hl 0 rfl) ?_
  refine vk_getf (v := .ref d.2.2.2.2.2.2) hx hb (hC.2.1.1 0 (by decide)).2.2.1 hS.2.2 hown (hts _ (tb_at 1432 (by decide +kernel) rfl)) (fun _ h => h) dJ0_charAt_5068e_8 ?_
  refine lv_iload_n hx hb dJ0_charAt_5068e_11 rfl (lv_at hl 1 rfl) ?_
  refine after_i C hS (call_S (As := [.ref d.2.2.2.2.2.2, .int i]) (rest := []) C hS (c_J1_charAt e1 _) is_J0_495 ⟨rfl, rfl, Nat.le_of_ble_eq_true rfl, Nat.le_of_ble_eq_true rfl⟩ rfl hl.1 (Nat.le_of_ble_eq_true rfl) dJ0_charAt_5068e_12) (fun H locs hS => ?_)
  obtain ⟨hin, rfl⟩ := rd_e e1
  obtain ⟨j, hj, hij⟩ := vp_in_of hin (by decide)
  have hcl : i.toNatClampNeg = j := by rw [hij]; exact nI_clamp (by omega)
  exact retC C hS (by rw [hcl]; exact (kind_c j hj).2) rfl dJ0_charAt_5068e_15
