/-! the words of the tables that every method may use; contracts over one fixed list of cells -/
def tb : List Cond := lw_tbl.filter goodWord
theorem tb_at (k : Nat) {w : Cond} (h : lw_tbl[k]? = some w) (g : goodWord w = true) : w ∈ tb := List.mem_filter.mpr ⟨List.mem_of_getElem? h, g⟩
theorem tb_good : ∀ w ∈ tb, goodWord w = true := fun _ h => (List.mem_filter.mp h).2
theorem tb_goodIn {ws : List Cond} (h : ∀ w ∈ ws, w ∈ tb) : GoodIn tb ws := fun w hw => ⟨h w hw, good_of_word (tb_good w (h w hw))⟩
abbrev mws (y : MethodName) (cc : ByteArray) (n : Nat) (ret : Option FieldType) : List Cond := .code y cc n ret :: tb
def nestw : List Cond := [Cond.fieldLinkNest "WellLocks" 312 "WellLocks$Shelf" "most" "I" "WellLocks", Cond.methodLinkNest "WellLocks$Reader" 17 ⟨"WellLocks$Charter", "<init>", "()V"⟩ "WellLocks", Cond.fieldLinkNest "WellLocks$Reader" 66 "WellLocks$Charter" "need" "I" "WellLocks", Cond.fieldLinkNest "WellLocks$Well" 121 "WellLocks$Charter" "need" "I" "WellLocks", Cond.fieldLinkNest "WellLocks" 322 "WellLocks$Charter" "need" "I" "WellLocks", Cond.fieldLinkNest "WellLocks$Well" 44 "WellLocks$Charter" "firstWater" "I" "WellLocks", Cond.fieldLinkNest "WellLocks$Reader" 69 "WellLocks$Charter" "firstWater" "I" "WellLocks", Cond.fieldLinkNest "WellLocks$Well" 86 "WellLocks$Charter" "comesEachDay" "I" "WellLocks", Cond.fieldLinkNest "WellLocks$Reader" 72 "WellLocks$Charter" "comesEachDay" "I" "WellLocks", Cond.fieldLinkNest "WellLocks$Reader" 53 "WellLocks$Charter" "houses" "I" "WellLocks", Cond.fieldLinkNest "WellLocks$Well" 95 "WellLocks$Charter" "houses" "I" "WellLocks", Cond.fieldLinkNest "WellLocks$Reader" 85 "WellLocks$Charter" "feudCount" "I" "WellLocks", Cond.fieldLinkNest "WellLocks" 325 "WellLocks$Charter" "feudCount" "I" "WellLocks", Cond.fieldLinkNest "WellLocks$Well" 102 "WellLocks$Charter" "kinds" "[I" "WellLocks", Cond.fieldLinkNest "WellLocks" 150 "WellLocks$Charter" "kinds" "[I" "WellLocks", Cond.fieldLinkNest "WellLocks$Well" 128 "WellLocks$Charter" "heads" "[I" "WellLocks", Cond.fieldLinkNest "WellLocks$Reader" 92 "WellLocks$Charter" "feuds" "[I" "WellLocks", Cond.fieldLinkNest "WellLocks$Well" 131 "WellLocks$Charter" "feuds" "[I" "WellLocks", Cond.methodLinkNest "WellLocks" 32 ⟨"WellLocks$Well", "<init>", "()V"⟩ "WellLocks", Cond.methodLinkNest "WellLocks$Well" 11 ⟨"WellLocks$Charter", "<init>", "()V"⟩ "WellLocks", Cond.fieldLinkNest "WellLocks$Well" 53 "WellLocks$Deeds" "done" "[I" "WellLocks", Cond.fieldLinkNest "WellLocks$Well" 37 "WellLocks$Deeds" "size" "I" "WellLocks", Cond.fieldLinkNest "WellLocks" 137 "WellLocks$Deeds" "size" "I" "WellLocks", Cond.fieldLinkNest "WellLocks" 125 "WellLocks$Well" "charter" "LWellLocks$Charter;" "WellLocks", Cond.fieldLinkNest "WellLocks" 168 "WellLocks$Well" "deeds" "LWellLocks$Deeds;" "WellLocks", Cond.fieldLinkNest "WellLocks" 181 "WellLocks$Well" "holders" "[I" "WellLocks", Cond.fieldLinkNest "WellLocks" 187 "WellLocks$Well" "water" "I" "WellLocks", Cond.fieldLinkNest "WellLocks" 319 "WellLocks$Well" "dayNumber" "I" "WellLocks", Cond.methodLinkNest "WellLocks$Reader" 95 ⟨"WellLocks", "isIn", "(II)Z"⟩ "WellLocks", Cond.methodLinkNest "WellLocks$Well" 105 ⟨"WellLocks", "isOfKind", "(II)Z"⟩ "WellLocks", Cond.methodLinkNest "WellLocks$Well" 109 ⟨"WellLocks", "isIn", "(II)Z"⟩ "WellLocks", Cond.methodLinkNest "WellLocks$Charter" 43 ⟨"WellLocks", "isIn", "(II)Z"⟩ "WellLocks", Cond.methodLinkNest "WellLocks$Survey" 51 ⟨"WellLocks", "isIn", "(II)Z"⟩ "WellLocks", Cond.methodLinkNest "WellLocks$Well" 151 ⟨"WellLocks", "factorial", "(I)J"⟩ "WellLocks", Cond.methodLinkNest "WellLocks$Survey" 77 ⟨"WellLocks", "power", "(II)J"⟩ "WellLocks", Cond.methodLinkNest "WellLocks$Charter" 47 ⟨"WellLocks", "isOfKind", "(II)Z"⟩ "WellLocks"]

/-- class numbers of objects, of int[], boolean[], Deeds[], int[][]; where the string constant and its bytes lie -/
abbrev CD : Type := va_G × ClassId × ClassId × ClassId × ClassId × Nat × Nat
def cd_tys (d : CD) : List (ClassId × FieldType) := [(d.2.1, .int), (d.2.2.1, .boolean), (d.2.2.2.1, .object "WellLocks$Deeds"), (d.2.2.2.2.1, .array .int)]
def EN (d : CD) (U : State) : Prop := va_K d.1 vwCl (cd_tys d) U ∧ ∀ w ∈ nestw, va_Nw w U
def isNest : Cond → Bool
  | .fieldLinkNest .. => true
  | .methodLinkNest .. => true
  | _ => false
theorem nestw_is : ∀ w ∈ nestw, isNest w = true := by decide +kernel
theorem va_Nw.warmN {w : Cond} (hw : isNest w = true) {s U : State} (hW : s.WarmedH U.vm) (h : va_Nw w s) : va_Nw w U := by
  cases w <;> first | exact va_Nw.warmF hW h | exact va_Nw.warmM hW h | cases hw
theorem isNest_on {w : Cond} (hw : isNest w = true) : w.onTables = true := by
  cases w <;> first | rfl | cases hw
theorem EN.warm {d : CD} {s U : State} (hW : s.WarmedH U.vm) (h : EN d s) : EN d U := ⟨va_K.moved hW.alike h.1, fun w hw => (h.2 w hw).warmN (nestw_is w hw) hW⟩
theorem EN.calling {d : CD} {U : State} {g : JFrame} {mk : MethodId} {a : Array Value} (h : EN d U) : EN d (U.calling g mk a) := ⟨va_K.moved (u := U) (U := U.calling g mk a) (Vm.Alike.refl U.vm) h.1, fun w hw => va_Nw.same (u := U) (U := U.calling g mk a) (isNest_on (nestw_is w hw)) rfl (h.2 w hw)⟩
/-- the text of the letters, and two statics of the JDK -/
def SC (d : CD) (A : Nat → Prop) (U : State) : Prop := vk_R "WellLocks$Reader" 102 "hcrdsm" d.2.2.2.2.2.1 U ∧ vk_S 1 [6] [[104, 99, 114, 100, 115, 109]] (fun _ => d.2.2.2.2.2.1) (fun _ => d.2.2.2.2.2.2) A U U.heap ∧ va_Z "java/lang/String" "COMPACT_STRINGS" "Z" (.int 1) A U U.heap ∧ va_Zq "jdk/internal/util/Preconditions" "SIOOBE_FORMATTER" "Ljava/util/function/BiFunction;" A U U.heap
theorem SC.calling {d : CD} {A : Nat → Prop} {U : State} {g : JFrame} {mk : MethodId} {a : Array Value} (h : SC d A U) : SC d A (U.calling g mk a) :=
  ⟨vk_R.same (u := U) (U := U.calling g mk a) rfl h.1, vk_S.moved (u := U) (U := U.calling g mk a) (Vm.Alike.refl U.vm) h.2.1, va_Z.moved (u := U) (U := U.calling g mk a) (Vm.Alike.refl U.vm) h.2.2.1, va_Zq.moved (u := U) (U := U.calling g mk a) (Vm.Alike.refl U.vm) h.2.2.2⟩
theorem SC.at {d : CD} {A B : Nat → Prop} {s U : State} {H : Heap} {locs : List Loc} (h : SC d A s) (hW : s.WarmedH U.vm) (hH : U.heap = H) (hS : va_S A s.heap H locs) (hAB : ∀ q, B q → A q) : SC d B U := by
  subst hH
  exact ⟨vk_R.warm hW h.1, (vk_S.moved hW.alike (h.2.1.kept hS.2.1)).narrow hAB, (va_Z.moved hW.alike (h.2.2.1.kept hS.2.1)).narrow hAB, (va_Zq.moved hW.alike (h.2.2.2.kept hS.2.1)).narrow hAB⟩
/-- a method's start, its end -/
def PW (d : CD) (w : va_W) (sz : Nat) (U : State) : Prop := U.heap.size = sz ∧ va_P d.1 vwCl w U.heap ∧ EN d U ∧ va_D (fun _ => True) w ∧ SC d (va_A w sz) U
def AT (d : CD) (A : Nat → Prop) (w : va_W) (t : State) : Prop := va_P d.1 vwCl w t.heap ∧ va_D A w
def MetI (l : Launch) (y : MethodName) (cc : ByteArray) (nL : Nat) (ret : Option FieldType) (rm : Room) (d : CD) (w : va_W) (av : List Value) (r : Int32) (w' : va_W) : Prop := ∀ sz : Nat, Met l y (mws y cc nL ret) rm (va_Pc av (PW d w sz)) (va_Qi (fun (r' : Int32) (u : va_W) => r' = r ∧ u = w') (AT d (va_A w sz)) (va_A w sz)) 0 0 (va_A w sz)
def MetL (l : Launch) (y : MethodName) (cc : ByteArray) (nL : Nat) (ret : Option FieldType) (rm : Room) (d : CD) (w : va_W) (av : List Value) (r : Int64) (w' : va_W) : Prop := ∀ sz : Nat, Met l y (mws y cc nL ret) rm (va_Pc av (PW d w sz)) (va_Ql (fun (r' : Int64) (u : va_W) => r' = r ∧ u = w') (AT d (va_A w sz)) (va_A w sz)) 0 0 (va_A w sz)
def MetV (l : Launch) (y : MethodName) (cc : ByteArray) (nL : Nat) (ret : Option FieldType) (rm : Room) (d : CD) (w : va_W) (av : List Value) (w' : va_W) : Prop := ∀ sz : Nat, Met l y (mws y cc nL ret) rm (va_Pc av (PW d w sz)) (va_Qv (fun (u : va_W) => u = w') (AT d (va_A w sz)) (va_A w sz)) 0 0 (va_A w sz)
/-- what a walk stands on: the machine, the code, the words, the classes, what it may write -/
def CX (p : Program) (s : State) (m : MethodId) (args : Array Value) (meth : Method) (c : Code) (own : String) (cc : ByteArray) (nL : Nat) (ret : Option FieldType) (d : CD) (A : Nat → Prop) : Prop :=
  p.tables.exec = Jvm.exec ∧ c.code = cc ∧ c.maxLocals = nL ∧ s.vm.findClass own = some m.cls ∧ (∀ w ∈ tb, w.before args s = true) ∧ EN d s ∧ meth.sig.returnType = ret ∧ meth.locks = false ∧ (∀ q, s.heap.size ≤ q → A q) ∧ SC d A s
/-- the heap now -/
def HS (d : CD) (A : Nat → Prop) (H0 H : Heap) (locs : List Loc) (w : va_W) : Prop := va_P d.1 vwCl w H ∧ va_D A w ∧ va_S A H0 H locs
theorem va_all {A : Nat → Prop} {w : va_W} {H0 H : Heap} {locs : List Loc} (hD : va_D A w) (hS : va_S A H0 H locs) (hA : ∀ q, H0.size ≤ q → A q) : ∀ q, va_A w H.size q → A q := by
  intro q h
  rcases h with ⟨k, e, h⟩ | h
  · exact hD.2 k _ h
  · exact hA q (Nat.le_trans hS.1 h)
section MK
variable {l : Launch} {y : MethodName} {cc : ByteArray} {nL : Nat} {ret : Option FieldType} {rm : Room} {d : CD} {w : va_W} {av : List Value} {w' : va_W} {own : String}
theorem mk_gen {Qc : Nat → Array Value → State → Outcome → State → Prop} {QA : (Nat → Prop) → Array Value → State → Outcome → State → Prop} (hQ : ∀ sz, Qc sz = QA (va_A w sz)) (hy : plainName y.cls = true) (ho : y.cls = own) (hlen : (lg_sl av).length ≤ nL)
    (body : ∀ (p : Program) (e : Env) (s : State) (m : MethodId) (below : List Frame) (meth : Method) (c : Code) (A : Nat → Prop) (ls : Array Slot), CX p s m av.toArray meth c own cc nL ret d A → HS d A s.heap s.heap [] w → lv_has ls nL (lv_args 0 av) → W p l e rm s m av.toArray below meth c s.heap [] 0 0 (MQ below (QA A) av.toArray s 0 0 A) (F0 m 0 ls [])) :
    ∀ sz : Nat, Met l y (mws y cc nL ret) rm (va_Pc av (PW d w sz)) (Qc sz) 0 0 (va_A w sz) := by
  intro sz
  refine Met.ofW (cc := cc) (maxL := nL) (ret := ret) hy rfl ?_
  intro p e s m args below meth c s₁ B hml hv
  obtain ⟨rfl, hsz, hP, hE, hD0, hC⟩ := hv
  have hts := atoms_spec (ws := mws y cc nL ret) B.pre
  subst hsz
  rw [hQ]
  have hD := hD0.self (sz := s.heap.size)
  have hA : ∀ q : Nat, s.heap.size ≤ q → va_A w s.heap.size q := fun q h => Or.inr h
  have hl := lv_entry av (n := nL) hlen
  rw [lg_entry_eq]
  have ho2 : s.vm.findClass own = some m.cls := ho ▸ findClass_of_methodNamed B.named
  exact body p e s m below meth c _ _ ⟨B.exec, B.bytes, hml, ho2, fun w hw => hts w (List.mem_cons_of_mem _ hw), hE, B.returns, B.notSynchronized, hA, hC⟩ ⟨hP, hD, va_S.rf⟩ hl
theorem mkI {r : Int32} (hy : plainName y.cls = true) (ho : y.cls = own) (hlen : (lg_sl av).length ≤ nL)
    (body : ∀ (p : Program) (e : Env) (s : State) (m : MethodId) (below : List Frame) (meth : Method) (c : Code) (A : Nat → Prop) (ls : Array Slot), CX p s m av.toArray meth c own cc nL ret d A → HS d A s.heap s.heap [] w → lv_has ls nL (lv_args 0 av) → W p l e rm s m av.toArray below meth c s.heap [] 0 0 (MQ below (va_Qi (fun (r' : Int32) (u : va_W) => r' = r ∧ u = w') (AT d A) A) av.toArray s 0 0 A) (F0 m 0 ls [])) :
    MetI l y cc nL ret rm d w av r w' := mk_gen (QA := fun A => va_Qi (fun (r' : Int32) (u : va_W) => r' = r ∧ u = w') (AT d A) A) (fun _ => rfl) hy ho hlen body
theorem mkL {r : Int64} (hy : plainName y.cls = true) (ho : y.cls = own) (hlen : (lg_sl av).length ≤ nL)
    (body : ∀ (p : Program) (e : Env) (s : State) (m : MethodId) (below : List Frame) (meth : Method) (c : Code) (A : Nat → Prop) (ls : Array Slot), CX p s m av.toArray meth c own cc nL ret d A → HS d A s.heap s.heap [] w → lv_has ls nL (lv_args 0 av) → W p l e rm s m av.toArray below meth c s.heap [] 0 0 (MQ below (va_Ql (fun (r' : Int64) (u : va_W) => r' = r ∧ u = w') (AT d A) A) av.toArray s 0 0 A) (F0 m 0 ls [])) :
    MetL l y cc nL ret rm d w av r w' := mk_gen (QA := fun A => va_Ql (fun (r' : Int64) (u : va_W) => r' = r ∧ u = w') (AT d A) A) (fun _ => rfl) hy ho hlen body
theorem mkV (hy : plainName y.cls = true) (ho : y.cls = own) (hlen : (lg_sl av).length ≤ nL)
    (body : ∀ (p : Program) (e : Env) (s : State) (m : MethodId) (below : List Frame) (meth : Method) (c : Code) (A : Nat → Prop) (ls : Array Slot), CX p s m av.toArray meth c own cc nL ret d A → HS d A s.heap s.heap [] w → lv_has ls nL (lv_args 0 av) → W p l e rm s m av.toArray below meth c s.heap [] 0 0 (MQ below (va_Qv (fun (u : va_W) => u = w') (AT d A) A) av.toArray s 0 0 A) (F0 m 0 ls [])) :
    MetV l y cc nL ret rm d w av w' := mk_gen (QA := fun A => va_Qv (fun (u : va_W) => u = w') (AT d A) A) (fun _ => rfl) hy ho hlen body
end MK
section RT
variable {p : Program} {l : Launch} {e : Env} {R : Room} {s : State} {m : MethodId} {args : Array Value} {below : List Frame} {meth : Method} {c : Code} {H : Heap} {locs : List Loc} {Q : State → Prop}
variable {own : String} {cc : ByteArray} {nL pc : Nat} {ret : Option FieldType} {d : CD} {A : Nat → Prop} {ls : Array Slot} {w w' : va_W} {rest : List Value}
theorem retI {v r : Int32} (C : CX p s m args meth c own cc nL (some .int) d A) (hS : HS d A s.heap H locs w) (hv : v = r) (hw : w = w') (hdg : decode cc pc = .ok (.ireturn, 1)) :
    W p l e R s m args below meth c H locs 0 0 (MQ below (va_Qi (fun (r' : Int32) (u : va_W) => r' = r ∧ u = w') (AT d A) A) args s 0 0 A) (F0 m pc ls [.int v]) := by
  obtain ⟨hx, hb, hml, hown, hts, hE, hr, hlocks, hA⟩ := C
  obtain ⟨hP, hD, hS⟩ := hS
  exact W.iret hx hb hr (fun t ht hW => ⟨⟨v, w, rfl, ⟨hv, hw⟩, by rw [ht]; exact hP, hD⟩, hS.F ht⟩) hS.2.2 hdg
theorem retZ {v r : Int32} (C : CX p s m args meth c own cc nL (some .boolean) d A) (hS : HS d A s.heap H locs w) (h01 : v = 0 ∨ v = 1) (hv : v = r) (hw : w = w') (hdg : decode cc pc = .ok (.ireturn, 1)) :
    W p l e R s m args below meth c H locs 0 0 (MQ below (va_Qi (fun (r' : Int32) (u : va_W) => r' = r ∧ u = w') (AT d A) A) args s 0 0 A) (F0 m pc ls [.int v]) := by
  obtain ⟨hx, hb, hml, hown, hts, hE, hr, hlocks, hA⟩ := C
  obtain ⟨hP, hD, hS⟩ := hS
  refine W.zret (ty := .boolean) hx hb hr ?_ (fun t ht hW => ⟨⟨v, w, rfl, ⟨hv, hw⟩, by rw [ht]; exact hP, hD⟩, hS.F ht⟩) hS.2.2 hdg
  rcases h01 with rfl | rfl <;> rfl
theorem retL {v r : Int64} (C : CX p s m args meth c own cc nL (some .long) d A) (hS : HS d A s.heap H locs w) (hv : v = r) (hw : w = w') (hdg : decode cc pc = .ok (.lreturn, 1)) :
    W p l e R s m args below meth c H locs 0 0 (MQ below (va_Ql (fun (r' : Int64) (u : va_W) => r' = r ∧ u = w') (AT d A) A) args s 0 0 A) (F0 m pc ls [.long v]) := by
  obtain ⟨hx, hb, hml, hown, hts, hE, hr, hlocks, hA⟩ := C
  obtain ⟨hP, hD, hS⟩ := hS
  exact W.lret hx hb hr (fun t ht hW => ⟨⟨v, w, rfl, ⟨hv, hw⟩, by rw [ht]; exact hP, hD⟩, hS.F ht⟩) hS.2.2 hdg
theorem retV (C : CX p s m args meth c own cc nL none d A) (hS : HS d A s.heap H locs w) (hw : w = w') (hdg : decode cc pc = .ok (.return_, 1)) :
    W p l e R s m args below meth c H locs 0 0 (MQ below (va_Qv (fun (u : va_W) => u = w') (AT d A) A) args s 0 0 A) (F0 m pc ls []) := by
  obtain ⟨hx, hb, hml, hown, hts, hE, hr, hlocks, hA⟩ := C
  obtain ⟨hP, hD, hS⟩ := hS
  exact W.vret hx hb hr (fun t ht hW => ⟨⟨w, rfl, hw, by rw [ht]; exact hP, hD⟩, hS.F ht⟩) hS.2.2 hdg
/-- what a callee wants, out of what the caller has -/
theorem pw_ok {As : List Value} (C : CX p s m args meth c own cc nL ret d A) (hS : HS d A s.heap H locs w) : FrameBlind (va_Pc As (PW d w H.size)) ∧ ∀ U : State, U.heap = H → s.WarmedH U.vm → va_Pc As (PW d w H.size) As.toArray U := by
  obtain ⟨hx, hb, hml, hown, hts, hE, hr, hlocks, hA, hC⟩ := C
  obtain ⟨hP, hD, hS⟩ := hS
  refine ⟨fun a U g mk q => ?_, fun U hU hW => ?_⟩
  · obtain ⟨q0, q1, qP, qE, qD, qC⟩ := q
    exact ⟨q0, q1, qP, qE.calling, qD, qC.calling⟩
  · exact ⟨rfl, by rw [hU], by rw [hU]; exact hP, hE.warm hW, hD.weaken (fun _ _ _ _ => trivial), hC.at hW hU hS (va_all hD hS hA)⟩
variable {y : MethodName} {ccY : ByteArray} {nY n idx : Nat} {retY : Option FieldType} {rmY : Room} {As : List Value} {b k ci : Nat} {fs : List Value} {cr : vw_C}
abbrev rmok (rmY : Room) (nY : Nat) (R : Room) : Prop := rmY.cells = 0 ∧ rmY.slots = 0 ∧ rmY.frames + 1 ≤ R.frames ∧ 8 + (nY + 11) + rmY.locals ≤ R.locals
abbrev ydn (y : MethodName) (n : Nat) : Prop := y.cls ≠ "java/lang/invoke/MethodHandle" ∧ y.cls ≠ "java/lang/invoke/VarHandle" ∧ (parseMethodDescriptor y.desc).map (fun d => d.parameters.length) = some n
abbrev inV (own : String) (idx : Nat) (y : MethodName) (ccY : ByteArray) (nY : Nat) (retY : Option FieldType) (n : Nat) : Prop := (Cond.methodLink own idx y ∈ tb ∧ Cond.instanceMethod y ∈ tb ∧ Cond.selects y.cls y y ∈ tb ∧ Cond.initialized y.cls ∈ tb ∧ Cond.code y ccY nY retY ∈ tb) ∧ ydn y n
abbrev inS (own : String) (idx : Nat) (y : MethodName) (ccY : ByteArray) (nY : Nat) (retY : Option FieldType) (n : Nat) : Prop := (Cond.methodLink own idx y ∈ tb ∧ Cond.static y ∈ tb ∧ Cond.initialized y.cls ∈ tb ∧ Cond.code y ccY nY retY ∈ tb) ∧ ydn y n
abbrev inN (own : String) (idx : Nat) (y : MethodName) (host : String) (ccY : ByteArray) (nY : Nat) (retY : Option FieldType) (n : Nat) : Prop := (Cond.methodLinkNest own idx y host ∈ nestw ∧ Cond.static y ∈ tb ∧ Cond.initialized y.cls ∈ tb ∧ Cond.code y ccY nY retY ∈ tb) ∧ ydn y n
theorem mws_good (h : Cond.code y ccY nY retY ∈ tb) : GoodIn tb (mws y ccY nY retY) := tb_goodIn (fun w hw => (List.mem_cons.mp hw).elim (fun e => e ▸ h) id)
theorem call_V {Qc : Array Value → State → Outcome → State → Prop} (C : CX p s m args meth c own cc nL ret d A) (hS : HS d A s.heap H locs w) (hM : Met l y (mws y ccY nY retY) rmY (va_Pc (.ref b :: As) (PW d w H.size)) Qc 0 0 (va_A w H.size)) (hI : inV own idx y ccY nY retY n) (hR : rmok rmY nY R) (he : w[k]? = some (b, .inr (ci, fs))) (hc : vwCl[ci]? = some cr) (hy : cr.1 = y.cls) (hn : As.length = n) (hsz : ls.size = nL) (hst : (rest.map fun v => v.category).sum ≤ 8) (hdg : decode cc pc = .ok (.invokevirtual idx, 3)) :
    va_Run p l e R s m args below meth c H locs 0 0 0 0 (F0 m pc ls (As.reverse ++ .ref b :: rest)) rest (Qc (Value.ref b :: As).toArray) (va_A w H.size) := by
  obtain ⟨⟨i1, i2, i3, i4, i5⟩, hyd⟩ := hI
  have hq := pw_ok (As := .ref b :: As) C hS
  obtain ⟨hx, hb, hml, hown, hts, hE, hr, hlocks, hA, hC⟩ := C
  obtain ⟨hP, hD, hS⟩ := hS
  refine va_runV (Ts := tb) (C := y.cls) (n := n) (bytes := ccY) (maxL := nY) (ret := retY) ⟨hx, hb, hml, hown, hts⟩ hM ?_ ⟨hq.1, ?_, hq.2⟩ rfl hn hsz rfl (lv_room hst) hdg ⟨Nat.zero_le _, Nat.zero_le _⟩
  · refine cwV n hts (tb_goodIn ?_) rfl hR.1 hR.2.1 ⟨rfl, hyd⟩ ⟨hR.2.2.1, hR.2.2.2⟩
    intro w hw
    rcases List.mem_append.mp hw with h | h
    · simp only [List.mem_cons, List.not_mem_nil, or_false] at h
      rcases h with rfl | rfl | rfl | rfl <;> assumption
    · exact (mws_good i5 w h).1
  · exact hy ▸ va_recv hE.1 hP hc he
theorem call_S {Qc : Array Value → State → Outcome → State → Prop} (C : CX p s m args meth c own cc nL ret d A) (hS : HS d A s.heap H locs w) (hM : Met l y (mws y ccY nY retY) rmY (va_Pc As (PW d w H.size)) Qc 0 0 (va_A w H.size)) (hI : inS own idx y ccY nY retY n) (hR : rmok rmY nY R) (hn : As.length = n) (hsz : ls.size = nL) (hst : (rest.map fun v => v.category).sum ≤ 8) (hdg : decode cc pc = .ok (.invokestatic idx, 3)) :
    va_Run p l e R s m args below meth c H locs 0 0 0 0 (F0 m pc ls (As.reverse ++ rest)) rest (Qc As.toArray) (va_A w H.size) := by
  obtain ⟨⟨i1, i2, i4, i5⟩, hyd⟩ := hI
  have hq := pw_ok (As := As) C hS
  obtain ⟨hx, hb, hml, hown, hts, hE, hr, hlocks, hA, hC⟩ := C
  obtain ⟨hP, hD, hS⟩ := hS
  exact va_runS (Ts := tb) (n := n) ⟨hx, hb, hml, hown, hts⟩ hM ⟨callB_of n hts (mws_good i5) rfl hR.1 hR.2.1 (hts _ i4) (hts _ i1) hyd ⟨hR.2.2.1, hR.2.2.2⟩, hts _ i2⟩ hq rfl hn hsz rfl (lv_room hst) hdg ⟨Nat.zero_le _, Nat.zero_le _⟩
theorem call_N {host : String} {Qc : Array Value → State → Outcome → State → Prop} (C : CX p s m args meth c own cc nL ret d A) (hS : HS d A s.heap H locs w) (hM : Met l y (mws y ccY nY retY) rmY (va_Pc As (PW d w H.size)) Qc 0 0 (va_A w H.size)) (hI : inN own idx y host ccY nY retY n) (hR : rmok rmY nY R) (hn : As.length = n) (hsz : ls.size = nL) (hst : (rest.map fun v => v.category).sum ≤ 8) (hdg : decode cc pc = .ok (.invokestatic idx, 3)) :
    va_Run p l e R s m args below meth c H locs 0 0 0 0 (F0 m pc ls (As.reverse ++ rest)) rest (Qc As.toArray) (va_A w H.size) := by
  obtain ⟨⟨i1, i2, i4, i5⟩, hyd⟩ := hI
  have hq := pw_ok (As := As) C hS
  obtain ⟨hx, hb, hml, hown, hts, hE, hr, hlocks, hA, hC⟩ := C
  obtain ⟨hP, hD, hS⟩ := hS
  exact va_runSN (Ts := tb) (n := n) (host := host) ⟨hx, hb, hml, hown, hts⟩ hM ⟨va_cnB n hts (mws_good i5) rfl hR.1 hR.2.1 (hE.2 _ i1) (hts _ i4) hyd ⟨hR.2.2.1, hR.2.2.2⟩, hts _ i2, trivial⟩ hq rfl hn hsz rfl (lv_room hst) hdg ⟨Nat.zero_le _, Nat.zero_le _⟩
theorem after_i {r : Int32} {st0 : List Value} {a : Array Value} (C : CX p s m args meth c own cc nL ret d A) (hS : HS d A s.heap H locs w) (hr : va_Run p l e R s m args below meth c H locs 0 0 0 0 (F0 m pc ls st0) rest (va_Qi (fun (r' : Int32) (u : va_W) => r' = r ∧ u = w') (AT d (va_A w H.size)) (va_A w H.size) a) (va_A w H.size))
    (kk : ∀ (H1 : Heap) (locs1 : List Loc), HS d A s.heap H1 locs1 w' → W p l e R s m args below meth c H1 locs1 0 0 Q (F0 m (pc + 3) ls (.int r :: rest))) : W p l e R s m args below meth c H locs 0 0 Q (F0 m pc ls st0) := by
  have hF := va_all hS.2.1 hS.2.2 C.2.2.2.2.2.2.2.2.1
  refine va_calli hr hS.2.2 (fun q _ h => hF q h) hF (fun r1 u t H1 locs1 ht hvm hw hB hz1 hk1 hS1 => ?_)
  obtain ⟨rfl, rfl⟩ := hw
  exact kk H1 locs1 ⟨by rw [← ht]; exact hB.1, hB.2.weaken (fun _ q _ h => hF q.1 h), hS1⟩
theorem after_l {r : Int64} {st0 : List Value} {a : Array Value} (C : CX p s m args meth c own cc nL ret d A) (hS : HS d A s.heap H locs w) (hr : va_Run p l e R s m args below meth c H locs 0 0 0 0 (F0 m pc ls st0) rest (va_Ql (fun (r' : Int64) (u : va_W) => r' = r ∧ u = w') (AT d (va_A w H.size)) (va_A w H.size) a) (va_A w H.size))
    (kk : ∀ (H1 : Heap) (locs1 : List Loc), HS d A s.heap H1 locs1 w' → W p l e R s m args below meth c H1 locs1 0 0 Q (F0 m (pc + 3) ls (.long r :: rest))) : W p l e R s m args below meth c H locs 0 0 Q (F0 m pc ls st0) := by
  have hF := va_all hS.2.1 hS.2.2 C.2.2.2.2.2.2.2.2.1
  refine va_calll hr hS.2.2 (fun q _ h => hF q h) hF (fun r1 u t H1 locs1 ht hvm hw hB hz1 hk1 hS1 => ?_)
  obtain ⟨rfl, rfl⟩ := hw
  exact kk H1 locs1 ⟨by rw [← ht]; exact hB.1, hB.2.weaken (fun _ q _ h => hF q.1 h), hS1⟩
theorem after_v {st0 : List Value} {a : Array Value} (C : CX p s m args meth c own cc nL ret d A) (hS : HS d A s.heap H locs w) (hr : va_Run p l e R s m args below meth c H locs 0 0 0 0 (F0 m pc ls st0) rest (va_Qv (fun (u : va_W) => u = w') (AT d (va_A w H.size)) (va_A w H.size) a) (va_A w H.size))
    (kk : ∀ (H1 : Heap) (locs1 : List Loc), HS d A s.heap H1 locs1 w' → W p l e R s m args below meth c H1 locs1 0 0 Q (F0 m (pc + 3) ls rest)) : W p l e R s m args below meth c H locs 0 0 Q (F0 m pc ls st0) := by
  have hF := va_all hS.2.1 hS.2.2 C.2.2.2.2.2.2.2.2.1
  refine va_callv hr hS.2.2 (fun q _ h => hF q h) hF (fun u t H1 locs1 ht hvm hw hB hz1 hk1 hS1 => ?_)
  subst hw
  exact kk H1 locs1 ⟨by rw [← ht]; exact hB.1, hB.2.weaken (fun _ q _ h => hF q.1 h), hS1⟩
end RT
/-- guarded reads, writes, quotients: what a model's step may refuse -/
abbrev ST : Type := (Nat → Int32) × (Nat → Int64) × (Nat → Nat → Int32)
def rd (n : Nat) (f : Nat → Int32) (i : Int32) : Option Int32 := if i < 0 ∨ n ≤ i.toNatClampNeg then none else some (f i.toNatClampNeg)
def setI (σ : ST) (k : Nat) (v : Int32) : ST := (va_up σ.1 k v, σ.2.1, σ.2.2)
def setL (σ : ST) (k : Nat) (v : Int64) : ST := (σ.1, va_up σ.2.1 k v, σ.2.2)
def setA (σ : ST) (a : Nat) (f : Nat → Int32) : ST := (σ.1, σ.2.1, va_up σ.2.2 a f)
def wrA (n : Nat) (σ : ST) (a : Nat) (i : Int32) (v : Int32) : Option ST := if i < 0 ∨ n ≤ i.toNatClampNeg then none else some (setA σ a (upd (σ.2.2 a) i.toNatClampNeg v))
def okZ (v : Int32) : Option Int32 := if v = 0 ∨ v = 1 then some v else none
def inR (n : Nat) (i : Int32) : Option Nat := if i < 0 ∨ n ≤ i.toNatClampNeg then none else some i.toNatClampNeg
def dvI (x y : Int32) : Option Int32 := if y = 0 then none else some (x / y)
def rmI (x y : Int32) : Option Int32 := if y = 0 then none else some (x - x / y * y)
def dvL (x y : Int64) : Option Int64 := if y = 0 then none else some (x / y)
def rmL (x y : Int64) : Option Int64 := if y = 0 then none else some (x - x / y * y)
theorem ob {α β : Type} {x : Option α} {f : α → Option β} {o : β} (h : x.bind f = some o) : ∃ a, x = some a ∧ f a = some o := by
  cases x with
  | none => cases h
  | some a => exact ⟨a, rfl, h⟩
theorem rd_e {n : Nat} {f : Nat → Int32} {i v : Int32} (h : rd n f i = some v) : vp_in i n ∧ f i.toNatClampNeg = v := by
  unfold rd at h
  split at h
  · cases h
  · rename_i q; exact ⟨q, Option.some.inj h⟩
theorem wrA_e {n : Nat} {σ σ' : ST} {a : Nat} {i v : Int32} (h : wrA n σ a i v = some σ') : vp_in i n ∧ σ' = setA σ a (upd (σ.2.2 a) i.toNatClampNeg v) := by
  unfold wrA at h
  split at h
  · cases h
  · rename_i q; exact ⟨q, (Option.some.inj h).symm⟩
theorem inR_e {n j : Nat} {i : Int32} (h : inR n i = some j) : vp_in i n ∧ i.toNatClampNeg = j := by
  unfold inR at h
  split at h
  · cases h
  · rename_i q; exact ⟨q, Option.some.inj h⟩
theorem okZ_e {v u : Int32} (h : okZ v = some u) : (v = 0 ∨ v = 1) ∧ v = u := by
  unfold okZ at h
  split at h
  · rename_i q; exact ⟨q, Option.some.inj h⟩
  · cases h
theorem dvI_e {x y v : Int32} (h : dvI x y = some v) : ¬ y = 0 ∧ x / y = v := by
  unfold dvI at h
  split at h
  · cases h
  · rename_i q; exact ⟨q, Option.some.inj h⟩
theorem rmI_e {x y v : Int32} (h : rmI x y = some v) : ¬ y = 0 ∧ x - x / y * y = v := by
  unfold rmI at h
  split at h
  · cases h
  · rename_i q; exact ⟨q, Option.some.inj h⟩
theorem dvL_e {x y v : Int64} (h : dvL x y = some v) : ¬ y = 0 ∧ x / y = v := by
  unfold dvL at h
  split at h
  · cases h
  · rename_i q; exact ⟨q, Option.some.inj h⟩
theorem rmL_e {x y v : Int64} (h : rmL x y = some v) : ¬ y = 0 ∧ x - x / y * y = v := by
  unfold rmL at h
  split at h
  · cases h
  · rename_i q; exact ⟨q, Option.some.inj h⟩
