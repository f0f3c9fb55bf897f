/-! THE CLAIM OUT OF ONE WALK OF THE LAW'S BODY. Your part is whole_start (and what it stands on); all else here is the same for every law, but numbers. -/
def R_law : String := "WellLocksLaw"
def lw_P (b : Addr) (xs : List Int32) (args : Array Value) (s : State) : Prop := args = #[.ref b] ∧ s.IntsAt b xs ∧ xs.length ≤ 384 ∧ (Jvm.Cond.and given_1 narrow_1).before args s = true
def lw_Q (_ : Array Value) (s : State) (o : Outcome) (t : State) : Prop := o = .returned (some (.int 1)) ∧ Framed s o t [] 600000 7302250
def lw_Z (below : List Frame) (a : Array Value) (s : State) : State → Prop := fun t => ∃ o, t.status = .running ∧ Ended t below o ∧ lw_Q a s o t
/-- the law's own end, with 1 on the stack, nothing written that was there before, its room as the claim has it -/
theorem lw_ret {p : Program} {l : Launch} {e : Env} {s : State} {m : MethodId} {below : List Frame} {meth : Method} {c : Code} {b : Nat} (hx : p.tables.exec = Jvm.exec) (hb : c.code = code) (hr : meth.sig.returnType = ret) (hlocks : meth.locks = false) {pc : Nat} {H : Heap} {ls : Array Slot} (hdg : decode code pc = .ok (.ireturn, 1)) : W p l e room_1 s m #[Value.ref b] below meth c H [] 600000 7302250 (lw_Z below #[Value.ref b] s) (F0 m pc ls [.int 1]) := by
  intro T hT X
  obtain ⟨fs, hret, hrun, hended, hW, hframe⟩ := X.leave (v := some (.int 1)) (hlocks := hlocks) (fun h => by rw [hr] at h; cases h)
  have hmeth' : T.vm.method? m = some meth := X.method'
  refine ⟨T.setFrames fs, ?_, .returned (some (.int 1)), hrun, hended, rfl, ⟨_, rfl⟩, hW, hframe⟩
  jvm_step X.here [X.here.top, hx, hb, hdg, hmeth', hr, ret, narrow_b1]
  (try refine ⟨rfl, ?_⟩); (try refine ⟨rfl, ?_⟩)
  first | (intro acts; rw [hret _ acts rfl rfl rfl]) | rw [hret _ _ rfl rfl rfl]
  exact Steps.refl _
/-- what holds at the law's entry: the machine, the code, the tables' words (any of lw_tbl by 'hts w (by decide +kernel)'), the script of L ints xs at the cell b, what the Statement gives of the start (any of its parts by flat_of_before) -/
def lw_At (p : Program) (s : State) (m : MethodId) (meth : Method) (c : Code) (b L : Nat) (xs : Nat → Int32) : Prop :=
  p.tables.exec = Jvm.exec ∧ c.code = code ∧ meth.sig.returnType = ret ∧ c.maxLocals = 4 ∧ s.vm.findClass R_law = some m.cls ∧ (∀ w ∈ lw_tbl, w.before #[Value.ref b] s = true) ∧ va_X b L xs s s.heap ∧ b < s.heap.size ∧ meth.locks = false ∧ (Jvm.Cond.and given_1 narrow_1).before #[Value.ref b] s = true
/-! the law: two objects side by side -/
def HS2 (d : CD) (A : Nat → Prop) (H0 H : Heap) (locs : List Loc) (w1 w2 : va_W) : Prop := va_P d.1 vwCl w1 H ∧ va_P d.1 vwCl w2 H ∧ va_D A w1 ∧ va_D A w2 ∧ (∀ (i j : Nat) (x y : Nat × va_E), w1[i]? = some x → w2[j]? = some y → x.1 ≠ y.1) ∧ va_S A H0 H locs
theorem HS2.symm {d : CD} {A : Nat → Prop} {H0 H : Heap} {locs : List Loc} {w1 w2 : va_W} (h : HS2 d A H0 H locs w1 w2) : HS2 d A H0 H locs w2 w1 := ⟨h.2.1, h.1, h.2.2.2.1, h.2.2.1, fun i j x y hx hy e => h.2.2.2.2.1 j i y x hy hx e.symm, h.2.2.2.2.2⟩
theorem HS2.fst {d : CD} {A : Nat → Prop} {H0 H : Heap} {locs : List Loc} {w1 w2 : va_W} (h : HS2 d A H0 H locs w1 w2) : HS d A H0 H locs w1 := ⟨h.1, h.2.2.1, h.2.2.2.2.2⟩
theorem HS2.next {d : CD} {A : Nat → Prop} {H0 H H1 : Heap} {locs locs1 : List Loc} {w1 w2 u : va_W} (h : HS2 d A H0 H locs w1 w2) (hF : ∀ q, va_A w1 H.size q → A q) (hP : va_P d.1 vwCl u H1) (hD : va_D (va_A w1 H.size) u) (hk : ∀ q : Nat, q < H.size → ¬ va_A w1 H.size q → H1[q]? = H[q]?) (hS : va_S A H0 H1 locs1) : HS2 d A H0 H1 locs1 u w2 := by
  have out : ∀ (j : Nat) (y : Nat × va_E), w2[j]? = some y → y.1 < H.size ∧ ¬ va_A w1 H.size y.1 := by
    intro j y hy
    have hlt := (h.2.1 j y hy).lt
    refine ⟨hlt, fun q => ?_⟩
    rcases q with ⟨k, e, q⟩ | q
    · exact h.2.2.2.2.1 k j _ y q hy rfl
    · exact absurd q (Nat.not_le.mpr hlt)
  refine ⟨hP, fun j y hy => (h.2.1 j y hy).kept (hk _ (out j y hy).1 (out j y hy).2), hD.weaken (fun _ x _ q => hF x.1 q), h.2.2.2.1, fun i j x y hx hy e => ?_, hS⟩
  exact (out j y hy).2 (e ▸ hD.2 i x hx)
section LW
variable {p : Program} {l : Launch} {e : Env} {R : Room} {s : State} {m : MethodId} {args : Array Value} {below : List Frame} {meth : Method} {c : Code} {H : Heap} {locs : List Loc} {Q : State → Prop} {cells slots : Nat}
variable {own : String} {cc : ByteArray} {nL pc : Nat} {ret : Option FieldType} {d : CD} {A : Nat → Prop} {ls : Array Slot} {w1 w2 w1' : va_W} {rest : List Value}
variable {y : MethodName} {ccY : ByteArray} {nY n idx : Nat} {retY : Option FieldType} {rmY : Room} {As : List Value} {b k ci : Nat} {fs : List Value} {cr : vw_C}
theorem call_V2 {Qc : Array Value → State → Outcome → State → Prop} (C : CX p s m args meth c own cc nL ret d A) (hS : HS d A s.heap H locs w1) (hM : Met l y (mws y ccY nY retY) rmY (va_Pc (.ref b :: As) (PW d w1 H.size)) Qc 0 0 (va_A w1 H.size)) (hI : inV own idx y ccY nY retY n) (hR : rmok rmY nY R) (he : w1[k]? = some (b, .inr (ci, fs))) (hc : vwCl[ci]? = some cr) (hy : cr.1 = y.cls) (hn : As.length = n) (hsz : ls.size = nL) (hst : (rest.map fun v => v.category).sum ≤ 8) (hcs : cells ≤ R.cells ∧ slots ≤ R.slots) (hdg : decode cc pc = .ok (.invokevirtual idx, 3)) :
    va_Run p l e R s m args below meth c H locs cells slots 0 0 (F0 m pc ls (As.reverse ++ .ref b :: rest)) rest (Qc (Value.ref b :: As).toArray) (va_A w1 H.size) := by
  obtain ⟨⟨i1, i2, i3, i4, i5⟩, hyd⟩ := hI
  have hq := pw_ok (As := .ref b :: As) C hS
  obtain ⟨hx, hb, hml, hown, hts, hE, hr, hlocks, hA, hC⟩ := C
  obtain ⟨hP, hD, hS⟩ := hS
  refine va_runV (Ts := tb) (C := y.cls) (n := n) (bytes := ccY) (maxL := nY) (ret := retY) ⟨hx, hb, hml, hown, hts⟩ hM ?_ ⟨hq.1, ?_, hq.2⟩ rfl hn hsz rfl (lv_room hst) hdg hcs
  · refine cwV n hts (tb_goodIn ?_) rfl hR.1 hR.2.1 ⟨rfl, hyd⟩ ⟨hR.2.2.1, hR.2.2.2⟩
    intro w hw
    rcases List.mem_append.mp hw with h | h
    · simp only [List.mem_cons, List.not_mem_nil, or_false] at h
      rcases h with rfl | rfl | rfl | rfl <;> assumption
    · exact (mws_good i5 w h).1
  · exact hy ▸ va_recv hE.1 hP hc he
theorem call2i {r : Int32} (C : CX p s m args meth c own cc nL ret d A) (h2 : HS2 d A s.heap H locs w1 w2) (hM : MetI l y ccY nY retY rmY d w1 (.ref b :: As) r w1') (hI : inV own idx y ccY nY retY n) (hR : rmok rmY nY R) (he : w1[k]? = some (b, .inr (ci, fs))) (hc : vwCl[ci]? = some cr) (hy : cr.1 = y.cls) (hn : As.length = n) (hsz : ls.size = nL) (hst : (rest.map fun v => v.category).sum ≤ 8) (hcs : cells ≤ R.cells ∧ slots ≤ R.slots) (hdg : decode cc pc = .ok (.invokevirtual idx, 3))
    (kk : ∀ (H1 : Heap) (locs1 : List Loc), HS2 d A s.heap H1 locs1 w1' w2 → W p l e R s m args below meth c H1 locs1 cells slots Q (F0 m (pc + 3) ls (.int r :: rest))) : W p l e R s m args below meth c H locs cells slots Q (F0 m pc ls (As.reverse ++ .ref b :: rest)) := by
  have hF := va_all h2.2.2.1 h2.2.2.2.2.2 C.2.2.2.2.2.2.2.2.1
  refine va_calli (call_V2 C h2.fst (hM H.size) hI hR he hc hy hn hsz hst hcs hdg) h2.2.2.2.2.2 (fun q _ h => hF q h) hF (fun r1 u t H1 locs1 ht hvm hw hB hz1 hk1 hS1 => ?_)
  obtain ⟨rfl, rfl⟩ := hw
  exact kk H1 locs1 (h2.next hF (by rw [← ht]; exact hB.1) hB.2 hk1 hS1)
theorem call2l {r : Int64} (C : CX p s m args meth c own cc nL ret d A) (h2 : HS2 d A s.heap H locs w1 w2) (hM : MetL l y ccY nY retY rmY d w1 (.ref b :: As) r w1') (hI : inV own idx y ccY nY retY n) (hR : rmok rmY nY R) (he : w1[k]? = some (b, .inr (ci, fs))) (hc : vwCl[ci]? = some cr) (hy : cr.1 = y.cls) (hn : As.length = n) (hsz : ls.size = nL) (hst : (rest.map fun v => v.category).sum ≤ 8) (hcs : cells ≤ R.cells ∧ slots ≤ R.slots) (hdg : decode cc pc = .ok (.invokevirtual idx, 3))
    (kk : ∀ (H1 : Heap) (locs1 : List Loc), HS2 d A s.heap H1 locs1 w1' w2 → W p l e R s m args below meth c H1 locs1 cells slots Q (F0 m (pc + 3) ls (.long r :: rest))) : W p l e R s m args below meth c H locs cells slots Q (F0 m pc ls (As.reverse ++ .ref b :: rest)) := by
  have hF := va_all h2.2.2.1 h2.2.2.2.2.2 C.2.2.2.2.2.2.2.2.1
  refine va_calll (call_V2 C h2.fst (hM H.size) hI hR he hc hy hn hsz hst hcs hdg) h2.2.2.2.2.2 (fun q _ h => hF q h) hF (fun r1 u t H1 locs1 ht hvm hw hB hz1 hk1 hS1 => ?_)
  obtain ⟨rfl, rfl⟩ := hw
  exact kk H1 locs1 (h2.next hF (by rw [← ht]; exact hB.1) hB.2 hk1 hS1)
end LW
theorem lg_cmp_self (x : Int64) : lg_cmp x x = 0 := by
  unfold lg_cmp
  rw [if_neg (fun h => Int64.lt_irrefl (show x < x from h)), if_pos rfl]
theorem nest_in : ∀ w ∈ nestw, w ∈ lw_tbl := by
  have e : nestw = [115, 134, 139, 140, 141, 143, 144, 146, 147, 149, 150, 152, 153, 155, 156, 158, 160, 161, 197, 202, 210, 212, 213, 220, 222, 224, 228, 230, 455, 578, 606, 615, 739, 749, 873, 920].filterMap (fun i => lw_tbl[i]?) := by decide +kernel
  intro w hw
  rw [e] at hw
  obtain ⟨i, -, hi⟩ := List.mem_filterMap.mp hw
  exact List.mem_of_getElem? hi
/-- the start: the classes' numbers, the text, what can be made -/
theorem law_env {s : State} {b : Nat} (hts : ∀ w ∈ lw_tbl, w.before #[Value.ref b] s = true) (hgv : (Jvm.Cond.and given_1 narrow_1).before #[Value.ref b] s = true) : ∃ d : CD, EN d s ∧ SC d (fun q => s.heap.size ≤ q) s ∧ AO s := by
  have htb : ∀ w ∈ tb, w.before #[Value.ref b] s = true := fun w h => hts w (List.mem_filter.mp h).1
  have hs := flat_of_before _ hgv
  obtain ⟨c0, i0, k0⟩ := u_known (C := RX0) (T := TX0) (N := 8) (n := 8) htb inX0 (htb _ (tb_at 133 (by decide +kernel) rfl))
  obtain ⟨c1, i1, k1⟩ := u_known (C := RX1) (T := TX1) (N := 2) (n := 2) htb inX1 (htb _ (tb_at 204 (by decide +kernel) rfl))
  obtain ⟨c2, i2, k2⟩ := u_known (C := RX2) (T := TX2) (N := 5) (n := 5) htb inX2 (htb _ (tb_at 127 (by decide +kernel) rfl))
  obtain ⟨c3, i3, k3⟩ := u_known (C := RX3) (T := TX3) (N := 3) (n := 3) htb inX3 (htb _ (tb_at 104 (by decide +kernel) rfl))
  obtain ⟨c4, i4, k4⟩ := u_known (C := RX4) (T := TX4) (N := 4) (n := 4) htb inX4 (htb _ (tb_at 247 (by decide +kernel) rfl))
  obtain ⟨c5, i5, k5⟩ := u_known (C := RX5) (T := TX5) (N := 7) (n := 7) htb inX5 (htb _ (tb_at 196 (by decide +kernel) rfl))
  obtain ⟨c6, i6, k6⟩ := u_known (C := RX6) (T := TX6) (N := 11) (n := 11) htb inX6 (htb _ (tb_at 96 (by decide +kernel) rfl))
  obtain ⟨c7, i7, k7⟩ := u_known (C := RX7) (T := TX7) (N := 30) (n := 30) htb inX7 (htb _ (tb_at 949 (by decide +kernel) rfl))
  obtain ⟨dC, dI, hKc⟩ : ∃ (dC : Nat → ClassId) (dI : Nat → Nat → Nat), ∀ (k : Nat) (q : vw_C), vwCl[k]? = some q → u_Kn s q.1 q.2.1 q.2.2 (dC k) (dI k) := by
    refine ⟨fun k => if k = 0 then c0 else if k = 1 then c1 else if k = 2 then c2 else if k = 3 then c3 else if k = 4 then c4 else if k = 5 then c5 else if k = 6 then c6 else c7, fun k => if k = 0 then i0 else if k = 1 then i1 else if k = 2 then i2 else if k = 3 then i3 else if k = 4 then i4 else if k = 5 then i5 else if k = 6 then i6 else i7, ?_⟩
    intro k q hq
    match k, hq with
    | 0, hq => cases hq; exact k0
    | 1, hq => cases hq; exact k1
    | 2, hq => cases hq; exact k2
    | 3, hq => cases hq; exact k3
    | 4, hq => cases hq; exact k4
    | 5, hq => cases hq; exact k5
    | 6, hq => cases hq; exact k6
    | 7, hq => cases hq; exact k7
    | k + 8, hq => simp [vwCl] at hq
  obtain ⟨cI, kI, pI, fI, hI, gI⟩ := Cond.arrayClass_spec (htb (Cond.arrayClass .int) (tb_at 125 (by decide +kernel) rfl))
  obtain ⟨cZ, kZ, pZ, fZ, hZ, gZ⟩ := Cond.arrayClass_spec (htb (Cond.arrayClass .boolean) (tb_at 265 (by decide +kernel) rfl))
  have hAO : va_AO "WellLocks$Deeds" s := va_AO.of (hts _ (List.mem_of_getElem? (i := 267) (by decide +kernel)))
  have hAOA : va_AOA .int s := show (Cond.arrayOver (.array .int)).before #[] s = true from hts (Cond.arrayOver (.array .int)) (List.mem_of_getElem? (i := 110) (by decide +kernel))
  obtain ⟨pD, cD, kD, aD, -, bD, eD, fD⟩ := Cond.arrayOver_spec hAO
  obtain ⟨pA, cA, kA, aA, -, bA, eA, fA⟩ := Jvm.Stand.arrayOver_specB hAOA
  obtain ⟨adK, adV, hvk, hev⟩ := vk_Sof (args := #[Value.ref b]) (s := s) (N := 1) (tm := fun _ => .string "WellLocks$Reader" 102) (len := [6]) (byt := [[104, 99, 114, 100, 115, 109]]) (A := fun q => s.heap.size ≤ q)
    (fun i hi => by cases (show i = 0 by omega); decide) (fun i _ => hs _ (by decide +kernel)) (fun i _ => hs _ (by decide +kernel)) (fun i _ => hs _ (by decide +kernel))
    (fun i hi => by cases (show i = 0 by omega); exact hs _ (by decide +kernel)) (fun i hi j hj => by
      cases (show i = 0 by omega)
      have hj : j < 6 := hj
      rcases (show j = 0 ∨ j = 1 ∨ j = 2 ∨ j = 3 ∨ j = 4 ∨ j = 5 by omega) with rfl | rfl | rfl | rfl | rfl | rfl <;> exact hs _ (by decide +kernel))
    (fun i j hi hj h => absurd (show i = j by omega) h) (fun a ha => Nat.not_le.mpr ha)
  have hKs : va_K (dC, dI) vwCl [(cI, .int), (cZ, .boolean), (cD, .object "WellLocks$Deeds"), (cA, .array .int)] s := by
    refine ⟨hKc, fun k q hq => ?_⟩
    match k, hq with
    | 0, hq => cases hq; exact ⟨fun n z => ⟨fun k h => (by cases h), kI, hI, pI, gI⟩, fI⟩
    | 1, hq => cases hq; exact ⟨fun n z => ⟨fun k h => (by cases h), kZ, hZ, pZ, gZ⟩, fZ⟩
    | 2, hq => cases hq; exact ⟨fun n z => ⟨fun k h => (by cases h), kD, bD, pD, eD⟩, kD, pD, bD, eD, aD, fD⟩
    | 3, hq => cases hq; exact ⟨fun n z => ⟨fun k h => (by cases h), kA, bA, pA, eA⟩, fA⟩
    | k + 4, hq => simp at hq
  refine ⟨((dC, dI), cI, cZ, cD, cA, adK 0, adV 0), ⟨hKs, fun w hw => va_Nw.of (isNest_on (nestw_is w hw)) (hts w (nest_in w hw))⟩, ⟨vk_R.of (hts _ (List.mem_of_getElem? (i := 469) (by decide +kernel))) (hev 0 (by decide)), ?_, ?_, ?_⟩, hAO, hAOA⟩
  · exact ⟨fun i hi => by cases (show i = 0 by omega); exact hvk.1 0 (by decide), fun i j hi hj _ => by omega⟩
  · exact va_Zof (hts _ (List.mem_of_getElem? (i := 479) (by decide +kernel))) (htb _ (tb_at 90 (by decide +kernel) rfl)) (va_eqt (hs (Cond.eq (.static "java/lang/String" "COMPACT_STRINGS" "Z") (.int 1)) (by decide +kernel))) (fun a ha => Nat.not_le.mpr ha)
  · exact va_Zqof (hts _ (List.mem_of_getElem? (i := 487) (by decide +kernel))) (htb _ (tb_at 92 (by decide +kernel) rfl)) (hs (Cond.isRef (.static "jdk/internal/util/Preconditions" "SIOOBE_FORMATTER" "Ljava/util/function/BiFunction;")) (by decide +kernel)) (fun a ha => Nat.not_le.mpr ha)
