def va_AOA (ty : FieldType) (U : State) : Prop := (Cond.arrayOver (.array ty)).before #[] U = true
theorem va_AOA.use {ty : FieldType} {A : Array Value} {U : State} (h : va_AOA ty U) : (Cond.arrayOver (.array ty)).before A U = true := h
/-! ===== BEGIN new T[n][m]: the outer array a place, the inner ones among the pooled ===== -/
/-- f, but v at every address of l -/
def vr_up {α : Type} (f : Nat → α) (l : List Nat) (v : α) : Nat → α := fun a => if a ∈ l then v else f a
theorem vr_up_in {α : Type} {f : Nat → α} {l : List Nat} {v : α} {a : Nat} (h : a ∈ l) : vr_up f l v a = v := if_pos h
theorem vr_up_ne {α : Type} {f : Nat → α} {l : List Nat} {v : α} {a : Nat} (h : a ∉ l) : vr_up f l v a = f a := if_neg h
theorem vr_rows {L l : List Nat} {f : Nat → va_E} {e : va_E} (h : ∀ a, a ∈ l → a ∉ L) : va_pl L f ++ l.map (fun a => (a, e)) = va_pl (L ++ l) (vr_up f l e) := by
  unfold va_pl
  rw [List.map_append]
  congr 1
  · apply List.map_congr_left
    intro a ha
    rw [vr_up_ne (fun q => h a q ha)]
  · apply List.map_congr_left
    intro a ha
    rw [vr_up_in ha]
theorem vr_lay {X rows : va_W} {x : Nat × va_E} {pl : va_W} {D : va_G} {cl : List vw_C} {H : Heap} (hP : va_P D cl (((X ++ pl) ++ [x]) ++ rows) H) : va_P D cl ((X ++ [x]) ++ (pl ++ rows)) H := by
  rw [List.append_assoc (X ++ pl)] at hP
  have h := va_P.swap hP
  rw [← List.append_assoc X] at h
  have h2 := va_P.swap h
  rw [List.append_assoc (X ++ [x])] at h2
  exact h2
theorem vr_layD {X rows : va_W} {x : Nat × va_E} {pl : va_W} {A : Nat → Prop} (hD : va_D A (((X ++ pl) ++ [x]) ++ rows)) : va_D A ((X ++ [x]) ++ (pl ++ rows)) := by
  rw [List.append_assoc (X ++ pl)] at hD
  have h := va_D.swap hD
  rw [← List.append_assoc X] at h
  have h2 := va_D.swap h
  rw [List.append_assoc (X ++ [x])] at h2
  exact h2
theorem vr_outer (c : ClassId) (N h0 : Nat) : ∀ i : Nat, Jvm.Free.Multi.outerC c N h0 i = arrV c N (fun j => va_rf (if j < i then some (h0 + 1 + j) else none))
  | 0 => by
    show ({ cls := c, slots := Array.replicate N .null, vm := .none } : Cell) = _
    rw [arrV_new]
    refine congrArg (arrV c N) (funext fun j => ?_)
    simp [va_rf]
  | i + 1 => by
    show (Jvm.Free.Multi.outerC c N h0 i).setSlot i (.ref (h0 + 1 + i)) = _
    rw [vr_outer c N h0 i, arrV_store]
    refine congrArg (arrV c N) (funext fun j => ?_)
    by_cases e : j = i
    · subst e
      simp [updV, va_rf]
    · by_cases h : j < i
      · simp [updV, e, h, Nat.lt_succ_of_lt h]
      · simp [updV, e, h, show ¬ j < i + 1 by omega]
section VGM
variable {p : Program} {l : Launch} {e : Env} {R : Room} {s : State} {m : MethodId} {args : Array Value} {below : List Frame} {meth : Method} {c : Code} {H : Heap} {locs : List Loc} {cells slots : Nat} {Q : State → Prop}
variable {cc : ByteArray} {pc : Nat} {ls : Array Slot} {rest : List Value} {D : va_G} {cl : List vw_C} {A : Nat → Prop} {a : Nat} {tys : List (ClassId × FieldType)} {ws : va_W} {H0 : Heap}
theorem va_mna {X : va_W} {L : List Nat} {f : Nat → va_E} {cc : ByteArray} (hexec : p.tables.exec = Jvm.exec) (hb : c.code = cc) {own : String} {index : Nat} {ty : FieldType} {cy : ClassId} (hown : s.vm.findClass own = some m.cls) (hclink : (Cond.classLink own index ("[" ++ (FieldType.array ty).toString)).before args s = true) (hover : va_AOA ty s) (harr : (Cond.arrayClass ty).before args s = true) (hcy : s.vm.findClass (FieldType.array ty).toString = some cy)
    (hK : va_K D cl tys s) (hP : va_P D cl (X ++ va_pl L f) H) (hD : va_D A (X ++ va_pl L f)) (hS : va_S A H0 H locs) (hA : ∀ q, H0.size ≤ q → A q) {n k : Int32} {N' K' : Nat} {z : vp_A} (hn : ¬ n < 0) (hk : ¬ k < 0) (hN : n.toNatClampNeg = N') (hM : k.toNatClampNeg = K')
    (hb1 : N' * 4 ≤ 536870912) (hb2 : K' * componentBytes ty ≤ 536870912) (hb3 : K' ≤ 536870912) (hdf : fits ty (defaultValue ty) = true) (hdd : (defaultValue ty).isDefault = true) (hcells : cells + (1 + N') ≤ R.cells) (hslots : slots + (N' + N' * K') ≤ R.slots) (hz : ∀ c : ClassId, Jvm.Free.Multi.innerC c K' (defaultValue ty) = vp_cell c z) (hdg : decode cc pc = .ok (.multianewarray index 2, 4))
    (kk : ∀ (q : Nat) (r : Nat → Nat) (cA : ClassId) (H1 : Heap), (∀ i j : Nat, i < N' → j < N' → r i = r j → i = j) → (∀ i : Nat, i < N' → r i ∉ L) → va_K D cl (tys ++ [(cA, .array ty)]) s →
      va_P D cl ((X ++ [(q, .inl (cA, N', .inr (.inr (.inr (.inr (fun i => if i < N' then some (r i) else none))))))]) ++ va_pl (L ++ (List.range N').map r) (vr_up f ((List.range N').map r) (.inl (cy, z)))) H1 → va_D A ((X ++ [(q, .inl (cA, N', .inr (.inr (.inr (.inr (fun i => if i < N' then some (r i) else none))))))]) ++ va_pl (L ++ (List.range N').map r) (vr_up f ((List.range N').map r) (.inl (cy, z)))) → va_S A H0 H1 locs →
      W p l e R s m args below meth c H1 locs (cells + 1 + N') (slots + N' + N' * K') Q (F0 m (pc + 4) ls (.ref q :: rest))) : W p l e R s m args below meth c H locs cells slots Q (F0 m pc ls (.int k :: .int n :: rest)) := by
  subst hN
  subst hM
  intro T hT Xs
  obtain ⟨vm₁, cA, comp, -, fA, fC, hO, -, X', step⟩ := Xs.multianewarray2F hexec hown hclink (va_AOA.use hover) harr (g := F0 m pc ls (.int k :: .int n :: rest)) rfl (by rw [hb]; exact hdg) rfl hn hk hb1 hb2 hb3 hdf hdd hcells hslots
  have ec : some cy = some comp := hcy.symm.trans fC
  cases ec
  generalize hF : Jvm.Free.Multi.fill (T.setVm vm₁) cA cy n.toNatClampNeg k.toNatClampNeg (defaultValue ty) n.toNatClampNeg = F at X' step
  have hTh : (T.setVm vm₁).heap = H := hT
  obtain ⟨f1, f2, -, -⟩ := Jvm.Free.Multi.fill_facts (T.setVm vm₁) cA cy n.toNatClampNeg k.toNatClampNeg (defaultValue ty) n.toNatClampNeg
  rw [hF, hTh] at f1 f2
  have hold : ∀ x : Nat, x < H.size → F.heap[x]? = H[x]? := fun x hx => by
    have := Jvm.Free.Multi.fill_old (T.setVm vm₁) cA cy n.toNatClampNeg k.toNatClampNeg (defaultValue ty) (a := x) (by rw [hTh]; exact hx) n.toNatClampNeg
    rw [hF, hTh] at this
    exact this
  have hrow : ∀ j : Nat, j < n.toNatClampNeg → F.heap[H.size + 1 + j]? = some (vp_cell cy z) := fun j hj => by
    have := Jvm.Free.Multi.fill_inner (T.setVm vm₁) cA cy n.toNatClampNeg k.toNatClampNeg (defaultValue ty) n.toNatClampNeg j hj
    rw [hF, hTh, hz] at this
    exact this
  have hout : Jvm.Free.Multi.outerC cA n.toNatClampNeg H.size n.toNatClampNeg = vp_cell cA (n.toNatClampNeg, .inr (.inr (.inr (.inr (fun i => if i < n.toNatClampNeg then some (H.size + 1 + i) else none))))) := by
    rw [vp_cell_q]
    exact vr_outer cA n.toNatClampNeg H.size n.toNatClampNeg
  rw [hout] at f2
  have hlt : ∀ a, a ∈ L → a < H.size := fun a ha => by
    obtain ⟨k9, hk9⟩ := va_pl_get (X := X) (f := f) ha
    exact (hP k9 _ hk9).lt
  have hnl : ∀ i : Nat, i < n.toNatClampNeg → H.size + 1 + i ∉ L := fun i _ h => by
    have := hlt _ h
    omega
  have hnm : ∀ a, a ∈ (List.range n.toNatClampNeg).map (fun i => H.size + 1 + i) → a ∉ L := fun a ha h => by
    obtain ⟨i, -, rfl⟩ := List.mem_map.mp ha
    have := hlt _ h
    omega
  have hP0 : va_P D cl (X ++ va_pl L f) F.heap := hP.kept (fun k9 x hx => hold x.1 ((hP k9 x hx).lt))
  have hP1 : va_P D cl ((X ++ va_pl L f) ++ [(H.size, .inl (cA, n.toNatClampNeg, .inr (.inr (.inr (.inr (fun i => if i < n.toNatClampNeg then some (H.size + 1 + i) else none))))))]) F.heap := hP0.app (fun k9 x hx => by
    have h0 : k9 < 1 := (List.getElem?_eq_some_iff.mp hx).1
    rw [show k9 = 0 by omega] at hx
    cases hx
    exact f2)
  have hP2 : va_P D cl (((X ++ va_pl L f) ++ [(H.size, .inl (cA, n.toNatClampNeg, .inr (.inr (.inr (.inr (fun i => if i < n.toNatClampNeg then some (H.size + 1 + i) else none))))))]) ++ ((List.range n.toNatClampNeg).map (fun i => H.size + 1 + i)).map (fun a => (a, .inl (cy, z)))) F.heap := hP1.app (fun k9 x hx => by
    obtain ⟨a, ha, rfl⟩ := List.mem_map.mp (List.mem_of_getElem? hx)
    obtain ⟨i, hi, rfl⟩ := List.mem_map.mp ha
    exact hrow i (List.mem_range.mp hi))
  have hD2 : va_D A (((X ++ va_pl L f) ++ [(H.size, .inl (cA, n.toNatClampNeg, .inr (.inr (.inr (.inr (fun i => if i < n.toNatClampNeg then some (H.size + 1 + i) else none))))))]) ++ ((List.range n.toNatClampNeg).map (fun i => H.size + 1 + i)).map (fun a => (a, .inl (cy, z)))) := by
    have hD1 := hD.push (e := .inl (cA, n.toNatClampNeg, .inr (.inr (.inr (.inr (fun i => if i < n.toNatClampNeg then some (H.size + 1 + i) else none)))))) hP rfl (hA _ hS.1)
    generalize hW1 : (X ++ va_pl L f) ++ [(H.size, .inl (cA, n.toNatClampNeg, .inr (.inr (.inr (.inr (fun i => if i < n.toNatClampNeg then some (H.size + 1 + i) else none))))))] = W1 at hD1 hP1 ⊢
    have hle : ∀ (k9 : Nat) (x : Nat × va_E), W1[k9]? = some x → x.1 ≤ H.size := fun k9 x hx => by
      rw [← hW1] at hx
      by_cases hl : k9 < (X ++ va_pl L f).length
      · rw [List.getElem?_append_left hl] at hx
        exact Nat.le_of_lt ((hP k9 x hx).lt)
      · rw [List.getElem?_append_right (by omega)] at hx
        have h0 : k9 - (X ++ va_pl L f).length < 1 := (List.getElem?_eq_some_iff.mp hx).1
        rw [show k9 - (X ++ va_pl L f).length = 0 by omega] at hx
        cases hx
        exact Nat.le_refl _
    have hr : ∀ (k9 : Nat) (x : Nat × va_E), (((List.range n.toNatClampNeg).map (fun i => H.size + 1 + i)).map (fun a => ((a, .inl (cy, z)) : Nat × va_E)))[k9]? = some x → x.1 = H.size + 1 + k9 := fun k9 x hx => by
      rw [List.getElem?_map, List.getElem?_map] at hx
      by_cases h9 : k9 < n.toNatClampNeg
      · rw [List.getElem?_range h9] at hx
        cases hx
        rfl
      · have hn0 : (List.range n.toNatClampNeg)[k9]? = none := List.getElem?_eq_none (by rw [List.length_range]; omega)
        rw [hn0] at hx
        cases hx
    refine ⟨fun i j x y hi hj hxy => ?_, fun k9 x hx => ?_⟩
    · by_cases h1 : i < W1.length <;> by_cases h2 : j < W1.length
      · rw [List.getElem?_append_left h1] at hi
        rw [List.getElem?_append_left h2] at hj
        exact hD1.1 i j x y hi hj hxy
      · rw [List.getElem?_append_left h1] at hi
        rw [List.getElem?_append_right (by omega)] at hj
        have := hle _ _ hi
        have := hr _ _ hj
        omega
      · rw [List.getElem?_append_right (by omega)] at hi
        rw [List.getElem?_append_left h2] at hj
        have := hle _ _ hj
        have := hr _ _ hi
        omega
      · rw [List.getElem?_append_right (by omega)] at hi hj
        have := hr _ _ hi
        have := hr _ _ hj
        omega
    · by_cases h1 : k9 < W1.length
      · rw [List.getElem?_append_left h1] at hx
        exact hD1.2 k9 x hx
      · rw [List.getElem?_append_right (by omega)] at hx
        have := hr _ _ hx
        exact hA _ (by have := hS.1; omega)
  have hAr : ArrOfT s cA (.array ty) := fun N9 z9 => by
    obtain ⟨-, k9, hk9, cm9, hkk9⟩ := (hO 0 0 0).1
    exact ⟨(fun q hq => by cases hq), k9, hk9, cm9, hkk9⟩
  have hK2 : va_K D cl (tys ++ [(cA, .array ty)]) s := ⟨hK.1, fun k9 x hx => by
    by_cases hl : k9 < tys.length
    · rw [List.getElem?_append_left hl] at hx
      exact hK.2 k9 x hx
    · rw [List.getElem?_append_right (by omega)] at hx
      have h0 : k9 - tys.length < 1 := (List.getElem?_eq_some_iff.mp hx).1
      rw [show k9 - tys.length = 0 by omega] at hx
      cases hx
      exact ⟨hAr, fA⟩⟩
  obtain ⟨t, a1, b1⟩ := kk H.size (fun i => H.size + 1 + i) cA F.heap (fun i j _ _ h => by have h9 : H.size + 1 + i = H.size + 1 + j := h; omega) hnl hK2 (by rw [← vr_rows hnm]; exact vr_lay hP2) (by rw [← vr_rows hnm]; exact vr_layD hD2) ⟨by rw [f1]; have := hS.1; omega, fun x h1 h2 => (hold x (Nat.lt_of_lt_of_le h1 hS.1)).trans (hS.2.1 x h1 h2), hS.2.2⟩ F rfl X'
  refine ⟨t, step t ?_, b1⟩
  have e : T.heap.size = H.size := by rw [hT]
  rw [e]
  exact a1
end VGM
/-! ===== END ===== -/
/-! constructors: cells come -/
theorem va_AOA.moved {ty : FieldType} {u U : State} (hvm : u.vm.Alike U.vm) (h : va_AOA ty u) : va_AOA ty U := Jvm.Stand.arrayOver_alikeB hvm h
/-- arrays of Deeds, of int[] can be made -/
def AO (U : State) : Prop := va_AO "WellLocks$Deeds" U ∧ va_AOA .int U
theorem AO.moved {u U : State} (hvm : u.vm.Alike U.vm) (h : AO u) : AO U := ⟨va_AO.moved hvm h.1, va_AOA.moved hvm h.2⟩
def PN (d : CD) (w : va_W) (sz : Nat) (U : State) : Prop := PW d w sz U ∧ AO U
def MetN (l : Launch) (y : MethodName) (cc : ByteArray) (nL : Nat) (rm : Room) (d : CD) (w : va_W) (av : List Value) (Post : va_W → Prop) (mc ms : Nat) : Prop := ∀ sz : Nat, Met l y (mws y cc nL none) rm (va_Pc av (PN d w sz)) (va_Qv Post (AT d (va_A w sz)) (va_A w sz)) mc ms (va_A w sz)
theorem mkN {l : Launch} {y : MethodName} {cc : ByteArray} {nL : Nat} {rm : Room} {d : CD} {w : va_W} {av : List Value} {own : String} {Post : va_W → Prop} {mc ms : Nat} (hy : plainName y.cls = true) (ho : y.cls = own) (hi : y.name = "<init>") (hlen : (lg_sl av).length ≤ nL)
    (body : ∀ (p : Program) (e : Env) (s : State) (m : MethodId) (below : List Frame) (meth : Method) (c : Code) (A : Nat → Prop) (ls : Array Slot), CX p s m av.toArray meth c own cc nL none d A → meth.name = "<init>" → AO s → HS d A s.heap s.heap [] w → lv_has ls nL (lv_args 0 av) → W p l e rm s m av.toArray below meth c s.heap [] 0 0 (MQ below (va_Qv Post (AT d A) A) av.toArray s mc ms A) (F0 m 0 ls [])) :
    MetN l y cc nL rm d w av Post mc ms := by
  intro sz
  refine Met.ofW (cc := cc) (maxL := nL) (ret := none) hy rfl ?_
  intro p e s m args below meth c s₁ B hml hv
  obtain ⟨rfl, ⟨hsz, hP, hE, hD0, hC⟩, hAO⟩ := hv
  have hts := atoms_spec (ws := mws y cc nL none) B.pre
  subst hsz
  have hD := hD0.self (sz := s.heap.size)
  have hA : ∀ q : Nat, s.heap.size ≤ q → va_A w s.heap.size q := fun q h => Or.inr h
  have hl := lv_entry av (n := nL) hlen
  rw [lg_entry_eq]
  have ho2 : s.vm.findClass own = some m.cls := ho ▸ findClass_of_methodNamed B.named
  have hin : meth.name = "<init>" := ((name_of_methodNamed B.named B.method).1).trans hi
  exact body p e s m below meth c _ _ ⟨B.exec, B.bytes, hml, ho2, fun w hw => hts w (List.mem_cons_of_mem _ hw), hE, B.returns, B.notSynchronized, hA, hC⟩ hin hAO ⟨hP, hD, va_S.rf⟩ hl
section NW
variable {p : Program} {l : Launch} {e : Env} {R : Room} {s : State} {m : MethodId} {args : Array Value} {below : List Frame} {meth : Method} {c : Code} {H : Heap} {locs : List Loc} {Q : State → Prop} {cells slots : Nat}
variable {own : String} {cc : ByteArray} {nL pc : Nat} {ret : Option FieldType} {d : CD} {A : Nat → Prop} {ls : Array Slot} {w w' wr : va_W} {rest : List Value}
variable {Cn : String} {T : u_T} {N ci k j idx a n : Nat} {fs : List Value} {v : Value}
theorem retN {Post : va_W → Prop} (C : CX p s m args meth c own cc nL none d A) (hS : HS d A s.heap H locs w) (hw : Post w) (hdg : decode cc pc = .ok (.return_, 1)) :
    W p l e R s m args below meth c H locs cells slots (MQ below (va_Qv Post (AT d A) A) args s cells slots A) (F0 m pc ls []) := by
  obtain ⟨hx, hb, hml, hown, hts, hE, hr, hlocks, hA⟩ := C
  obtain ⟨hP, hD, hS⟩ := hS
  exact W.vret hx hb hr (fun t ht hW => ⟨⟨w, rfl, hw, by rw [ht]; exact hP, hD⟩, hS.F ht⟩) hS.2.2 hdg
theorem objI (C : CX p s m args meth c own cc nL ret d A) (hl : ls.size = nL) (h1 : Cond.methodLink own idx Lib.objectInit ∈ tb) (hf : 1 ≤ R.frames) (hlo : 20 ≤ R.locals) (hst : (rest.map fun v => v.category).sum ≤ 8) (hd : decode cc pc = .ok (.invokespecial idx, 3))
    (kk : W p l e R s m args below meth c H locs cells slots Q (F0 m (pc + 3) ls rest)) : W p l e R s m args below meth c H locs cells slots Q (F0 m pc ls (.ref a :: rest)) := by
  obtain ⟨hx, hb, hml, hown, hts, hE, hr, hlocks, hA⟩ := C
  refine W.objInit hx hb hown (hts _ h1) (hts _ (tb_at 101 (by decide +kernel) rfl)) (hts _ (tb_at 102 (by decide +kernel) rfl)) rfl (hl.trans hml.symm) rfl hd hf ?_ kk
  show 2 * 0 + _ + 12 ≤ _
  omega
theorem cI_is {cA : ClassId} (h1 : va_K d.1 vwCl (cd_tys d) s) (h2 : va_K d.1 vwCl (cd_tys d ++ [(cA, .int)]) s) : cA = d.2.1 := Option.some.inj ((h2.2 4 _ rfl).2.symm.trans (h1.2 0 _ rfl).2)
theorem cZ_is {cA : ClassId} (h1 : va_K d.1 vwCl (cd_tys d) s) (h2 : va_K d.1 vwCl (cd_tys d ++ [(cA, .boolean)]) s) : cA = d.2.2.1 := Option.some.inj ((h2.2 4 _ rfl).2.symm.trans (h1.2 1 _ rfl).2)
theorem cD_is {cA : ClassId} (h1 : va_K d.1 vwCl (cd_tys d) s) (h2 : va_K d.1 vwCl (cd_tys d ++ [(cA, .object "WellLocks$Deeds")]) s) : cA = d.2.2.2.1 := by
  obtain ⟨kA, comp, -, -, -, g⟩ := (h2.2 4 _ rfl).2
  obtain ⟨kB, comp2, -, -, -, g2⟩ := (h1.2 2 _ rfl).2
  exact Option.some.inj (g.symm.trans g2)
theorem cII_is {cA : ClassId} (h1 : va_K d.1 vwCl (cd_tys d) s) (h2 : va_K d.1 vwCl (cd_tys d ++ [(cA, .array .int)]) s) : cA = d.2.2.2.2.1 := Option.some.inj ((h2.2 4 _ rfl).2.symm.trans (h1.2 3 _ rfl).2)
theorem newI {i : Int32} {K : Nat} (C : CX p s m args meth c own cc nL ret d A) (hS : HS d A s.heap H locs w) (hn : ¬ i < 0) (hK : i.toNatClampNeg = K) (hb1 : K ≤ 100000) (hc : cells + 1 ≤ R.cells) (hs : slots + K ≤ R.slots) (hdg : decode cc pc = .ok (.newarray .int, 2))
    (kk : ∀ (q : Nat) (H1 : Heap), HS d A s.heap H1 locs (w ++ [(q, .inl (d.2.1, K, .inl (fun _ => 0)))]) → W p l e R s m args below meth c H1 locs (cells + 1) (slots + K) Q (F0 m (pc + 2) ls (.ref q :: rest))) : W p l e R s m args below meth c H locs cells slots Q (F0 m pc ls (.int i :: rest)) := by
  obtain ⟨hx, hb, hml, hown, hts, hE, hr, hlocks, hA, hC⟩ := C
  refine va_newa (atype := .int) (ty := .int) (a0 := (K, .inl (fun _ => 0))) hx hb (hts _ (tb_at 125 (by decide +kernel) rfl)) rfl hE.1 hS.1 hS.2.1 hS.2.2 hA (fun _ => rfl) hn hK (by show K * 4 ≤ _; omega) hc hs hdg (fun q cA H1 g0 g1 g2 g3 => ?_)
  cases cI_is hE.1 g0
  exact kk q H1 ⟨g1, g2, g3⟩
theorem newZ {i : Int32} {K : Nat} (C : CX p s m args meth c own cc nL ret d A) (hS : HS d A s.heap H locs w) (hn : ¬ i < 0) (hK : i.toNatClampNeg = K) (hb1 : K ≤ 100000) (hc : cells + 1 ≤ R.cells) (hs : slots + K ≤ R.slots) (hdg : decode cc pc = .ok (.newarray .boolean, 2))
    (kk : ∀ (q : Nat) (H1 : Heap), HS d A s.heap H1 locs (w ++ [(q, .inl (d.2.2.1, K, .inl (fun _ => 0)))]) → W p l e R s m args below meth c H1 locs (cells + 1) (slots + K) Q (F0 m (pc + 2) ls (.ref q :: rest))) : W p l e R s m args below meth c H locs cells slots Q (F0 m pc ls (.int i :: rest)) := by
  obtain ⟨hx, hb, hml, hown, hts, hE, hr, hlocks, hA, hC⟩ := C
  refine va_newa (atype := .boolean) (ty := .boolean) (a0 := (K, .inl (fun _ => 0))) hx hb (hts _ (tb_at 265 (by decide +kernel) rfl)) rfl hE.1 hS.1 hS.2.1 hS.2.2 hA (fun _ => rfl) hn hK (by show K * 1 ≤ _; omega) hc hs hdg (fun q cA H1 g0 g1 g2 g3 => ?_)
  cases cZ_is hE.1 g0
  exact kk q H1 ⟨g1, g2, g3⟩
theorem newD {i : Int32} {K : Nat} (C : CX p s m args meth c RX6 cc nL ret d A) (hAO : AO s) (hS : HS d A s.heap H locs w) (hn : ¬ i < 0) (hK : i.toNatClampNeg = K) (hb1 : K ≤ 100000) (hc : cells + 1 ≤ R.cells) (hs : slots + K ≤ R.slots) (hdg : decode cc pc = .ok (.anewarray 46, 3))
    (kk : ∀ (q : Nat) (H1 : Heap), HS d A s.heap H1 locs (w ++ [(q, .inl (d.2.2.2.1, K, .inr (.inr (.inr (.inr (fun _ => none))))))]) → W p l e R s m args below meth c H1 locs (cells + 1) (slots + K) Q (F0 m (pc + 3) ls (.ref q :: rest))) : W p l e R s m args below meth c H locs cells slots Q (F0 m pc ls (.int i :: rest)) := by
  obtain ⟨hx, hb, hml, hown, hts, hE, hr, hlocks, hA, hC⟩ := C
  refine va_newq (C := "WellLocks$Deeds") hx hb hown (hts _ (tb_at 266 (by decide +kernel) rfl)) hAO.1 hE.1 hS.1 hS.2.1 hS.2.2 hA hn hK (by omega) hc hs hdg (fun q cA H1 g0 g1 g2 g3 => ?_)
  cases cD_is hE.1 g0
  exact kk q H1 ⟨g1, g2, g3⟩
theorem newO (ty : Nat → FieldType) (hty : ∀ k, k < N → parseFieldDescriptor (T k).2.2.1 = some (ty k)) (C : CX p s m args meth c own cc nL ret d A) (hS : HS d A s.heap H locs w) (hc : vwCl[ci]? = some (Cn, T, N)) (hin : ∀ x ∈ u_ws Cn T N, x ∈ tb) (h1 : Cond.classLink own idx Cn ∈ tb) (h2 : Cond.instantiable Cn N ∈ tb) (h3 : Cond.initialized Cn ∈ tb) (hfs : ∀ j, j < N → defaultValue (ty j) = vp_V fs j) (hce : cells + 1 ≤ R.cells) (hsl : slots + N ≤ R.slots) (hdg : decode cc pc = .ok (.new idx, 3))
    (kk : ∀ (q : Nat) (H1 : Heap), HS d A s.heap H1 locs (w ++ [(q, .inr (ci, fs))]) → W p l e R s m args below meth c H1 locs (cells + 1) (slots + N) Q (F0 m (pc + 3) ls (.ref q :: rest))) : W p l e R s m args below meth c H locs cells slots Q (F0 m pc ls rest) := by
  obtain ⟨hx, hb, hml, hown, hts, hE, hr, hlocks, hA, hC⟩ := C
  exact va_new hx hb hts hin ty hty hown (hts _ h1) (hts _ h2) (hts _ h3) hE.1 hS.1 hS.2.1 hS.2.2 hA hc hfs hce hsl hdg (fun q H1 g1 g2 g3 => kk q H1 ⟨g1, g2, g3⟩)
theorem gfn (C : CX p s m args meth c own cc nL ret d A) (hS : HS d A s.heap H locs w) (he : w[k]? = some (a, .inr (ci, fs))) (hc : vwCl[ci]? = some (Cn, T, N)) (hin : ∀ x ∈ u_ws Cn T N, x ∈ tb) (hj : j < N) (hk : Cond.fieldLink own idx (T j).1 (T j).2.1 (T j).2.2.1 ∈ tb) (hv : fs[j]? = some v) (hdg : decode cc pc = .ok (.getfield idx, 3))
    (kk : W p l e R s m args below meth c H locs cells slots Q (F0 m (pc + 3) ls (v :: rest))) : W p l e R s m args below meth c H locs cells slots Q (F0 m pc ls (.ref a :: rest)) := by
  obtain ⟨hx, hb, hml, hown, hts, hE, hr, hlocks, hA⟩ := C
  exact va_get hx hb hts hin hown hE.1 hS.1 k he hc j hj (hts _ hk) (fun _ h => h) hv hdg kk
theorem pfn {ty : FieldType} (ty0 : Nat → FieldType) (hty : ∀ k, k < N → parseFieldDescriptor (T k).2.2.1 = some (ty0 k)) (hnm : ∀ a, a < N → ∀ b, b < N → a ≠ b → (T a).2.1 ≠ (T b).2.1) (C : CX p s m args meth c own cc nL ret d A) (hS : HS d A s.heap H locs w) (he : w[k]? = some (a, .inr (ci, fs))) (hc : vwCl[ci]? = some (Cn, T, N)) (hin : ∀ x ∈ u_ws Cn T N, x ∈ tb) (hj : j < N) (hk : Cond.fieldLink own idx (T j).1 (T j).2.1 (T j).2.2.1 ∈ tb) (hfin : (T j).2.2.2 = false) (hd : parseFieldDescriptor (T j).2.2.1 = some ty) (hn : narrow ty v = v) (hfit : fits ty v = true) (hlen : j < fs.length) (hset : w.set k (a, .inr (ci, fs.set j v)) = w') (hdg : decode cc pc = .ok (.putfield idx, 3))
    (kk : ∀ (H1 : Heap) (locs1 : List Loc), HS d A s.heap H1 locs1 w' → W p l e R s m args below meth c H1 locs1 cells slots Q (F0 m (pc + 3) ls rest)) : W p l e R s m args below meth c H locs cells slots Q (F0 m pc ls (v :: .ref a :: rest)) := by
  obtain ⟨hx, hb, hml, hown, hts, hE, hr, hlocks, hA⟩ := C
  subst hset
  exact va_put hx hb hts hin ty0 hty hnm hown hE.1 hS.1 hS.2.1 hS.2.2 k he hc j hj (hts _ hk) (fun _ h => h) hfin hd hn hfit hlen hdg (fun H1 l1 h1 h2 h3 => kk H1 l1 ⟨h1, h2, h3⟩)
theorem pfF {ty : FieldType} (ty0 : Nat → FieldType) (hty : ∀ k, k < N → parseFieldDescriptor (T k).2.2.1 = some (ty0 k)) (hnm : ∀ a, a < N → ∀ b, b < N → a ≠ b → (T a).2.1 ≠ (T b).2.1) (C : CX p s m args meth c own cc nL ret d A) (hin2 : meth.name = "<init>") (hS : HS d A s.heap H locs w) (he : w[k]? = some (a, .inr (ci, fs))) (hc : vwCl[ci]? = some (Cn, T, N)) (hin : ∀ x ∈ u_ws Cn T N, x ∈ tb) (hj : j < N) (hk : Cond.fieldLink own idx (T j).1 (T j).2.1 (T j).2.2.1 ∈ tb) (hfin : (T j).2.2.2 = true) (hdecl : (T j).1 = own) (hd : parseFieldDescriptor (T j).2.2.1 = some ty) (hn : narrow ty v = v) (hfit : fits ty v = true) (hlen : j < fs.length) (hset : w.set k (a, .inr (ci, fs.set j v)) = w') (hdg : decode cc pc = .ok (.putfield idx, 3))
    (kk : ∀ (H1 : Heap) (locs1 : List Loc), HS d A s.heap H1 locs1 w' → W p l e R s m args below meth c H1 locs1 cells slots Q (F0 m (pc + 3) ls rest)) : W p l e R s m args below meth c H locs cells slots Q (F0 m pc ls (v :: .ref a :: rest)) := by
  obtain ⟨hx, hb, hml, hown, hts, hE, hr, hlocks, hA⟩ := C
  subst hset
  exact va_putF hx hb hts hin ty0 hty hnm hown hE.1 hS.1 hS.2.1 hS.2.2 k he hc j hj (hts _ hk) (fun _ h => h) hfin hin2 hdecl hd hn hfit hlen hdg (fun H1 l1 h1 h2 h3 => kk H1 l1 ⟨h1, h2, h3⟩)
variable {f : Nat → Int32} {i x z : Int32}
theorem iastn (C : CX p s m args meth c own cc nL ret d A) (hS : HS d A s.heap H locs w) (he : w[k]? = some (a, .inl (d.2.1, n, .inl f))) (hi : vp_in i n) (hset : w.set k (a, .inl (d.2.1, n, .inl (upd f i.toNatClampNeg x))) = w') (hdg : decode cc pc = .ok (.iastore, 1))
    (kk : ∀ (H1 : Heap) (locs1 : List Loc), HS d A s.heap H1 locs1 w' → W p l e R s m args below meth c H1 locs1 cells slots Q (F0 m (pc + 1) ls rest)) : W p l e R s m args below meth c H locs cells slots Q (F0 m pc ls (.int x :: .int i :: .ref a :: rest)) := by
  obtain ⟨hx, hb, hml, hown, hts, hE, hr, hlocks, hA⟩ := C
  subst hset
  exact va_iast hx hb hE.1 hS.1 hS.2.1 hS.2.2 k 0 he rfl hi hdg (fun H1 l1 g1 g2 g3 => kk H1 l1 ⟨g1, g2, g3⟩)
variable {y : MethodName} {ccY : ByteArray} {nY nA : Nat} {rmY : Room} {As : List Value} {Post : va_W → Prop} {mc ms : Nat} {e0 : va_E}
abbrev rmokN (rmY : Room) (nY mc ms : Nat) (R : Room) : Prop := rmY.cells = mc ∧ rmY.slots = ms ∧ rmY.frames + 1 ≤ R.frames ∧ 8 + (nY + 11) + rmY.locals ≤ R.locals
theorem pw_sub {As : List Value} {wc : va_W} (C : CX p s m args meth c own cc nL ret d A) (hAO : AO s) (hP : va_P d.1 vwCl wc H) (hD : va_D A wc) (hS : va_S A s.heap H locs) : FrameBlind (va_Pc As (PN d wc H.size)) ∧ ∀ U : State, U.heap = H → s.WarmedH U.vm → va_Pc As (PN d wc H.size) As.toArray U := by
  obtain ⟨hx, hb, hml, hown, hts, hE, hr, hlocks, hA, hC⟩ := C
  refine ⟨fun a U g mk q => ?_, fun U hU hW => ?_⟩
  · obtain ⟨q0, ⟨q1, qP, qE, qD, qC⟩, qO⟩ := q
    exact ⟨q0, ⟨q1, qP, qE.calling, qD, qC.calling⟩, AO.moved (u := U) (U := U.calling g mk a) (Vm.Alike.refl U.vm) qO⟩
  · exact ⟨rfl, ⟨by rw [hU], by rw [hU]; exact hP, hE.warm hW, hD.weaken (fun _ _ _ _ => trivial), hC.at hW hU hS (va_all hD hS hA)⟩, hAO.moved hW.alike⟩
theorem call_new (isR : List Nat) (k : Nat) (C : CX p s m args meth c own cc nL ret d A) (hAO : AO s) (hS : HS d A s.heap H locs w) (hM : MetN l y ccY nY rmY d [(a, e0)] (.ref a :: As) Post mc ms) (hC0 : [k].map (fun i => w[i]?) = [(a, e0)].map some) (hR0 : isR.map (fun i => w[i]?) = wr.map some) (hnd : va_nd isR = true) (hdis : ∀ i ∈ isR, i ∉ [k])
    (hI : (Cond.methodLink own idx y ∈ tb ∨ ∃ host, Cond.methodLinkNest own idx y host ∈ nestw) ∧ Cond.instanceMethod y ∈ tb ∧ Cond.initialized y.cls ∈ tb ∧ Cond.code y ccY nY none ∈ tb ∧ y.name = "<init>" ∧ ydn y nA) (hRm : rmokN rmY nY mc ms R) (hn : As.length = nA) (hsz : ls.size = nL) (hst : (rest.map fun v => v.category).sum ≤ 8) (hf : cells + mc ≤ R.cells ∧ slots + ms ≤ R.slots) (hdg : decode cc pc = .ok (.invokespecial idx, 3))
    (kk : ∀ (u : va_W) (H1 : Heap) (locs1 : List Loc), Post u → HS d A s.heap H1 locs1 (wr ++ u) → W p l e R s m args below meth c H1 locs1 (cells + mc) (slots + ms) Q (F0 m (pc + 3) ls rest)) : W p l e R s m args below meth c H locs cells slots Q (F0 m pc ls (As.reverse ++ .ref a :: rest)) := by
  obtain ⟨i1, i2, i4, i5, hin, hyd⟩ := hI
  have hA0 := C.2.2.2.2.2.2.2.2.1
  have hPc : va_P d.1 vwCl [(a, e0)] H := hS.1.sub [k] (by rw [List.map_cons, List.map_nil, List.map_cons, List.map_nil] at hC0; rw [List.filterMap_cons, (List.cons.inj hC0).1]; rfl)
  have hDc : va_D A [(a, e0)] := hS.2.1.sub [k] rfl hC0
  have hFc := va_free (wc := [(a, e0)]) hS.2.1 hS.2.2 hA0 [k] hC0
  have hq := pw_sub (As := .ref a :: As) C hAO hPc hDc hS.2.2
  have hrun : va_Run p l e R s m args below meth c H locs cells slots mc ms (F0 m pc ls (As.reverse ++ .ref a :: rest)) rest (va_Qv Post (AT d (va_A [(a, e0)] H.size)) (va_A [(a, e0)] H.size) (Value.ref a :: As).toArray) (va_A [(a, e0)] H.size) := by
    obtain ⟨hx, hb, hml, hown, hts, hE, hr, hlocks, hA, hC⟩ := C
    rcases i1 with i1 | ⟨host, i1⟩
    · exact va_runI (Ts := tb) (n := nA) ⟨hx, hb, hml, hown, hts⟩ (hM H.size) (cwI nA hts (mws_good i5) rfl hRm.1 hRm.2.1 (hts _ i4) (hts _ i1) (hts _ i2) hin hyd ⟨hRm.2.2.1, hRm.2.2.2⟩) hq rfl hn hsz rfl (lv_room hst) hdg hf
    · exact va_runIN (Ts := tb) (n := nA) (host := host) ⟨hx, hb, hml, hown, hts⟩ (hM H.size) ⟨va_cnB nA hts (mws_good i5) rfl hRm.1 hRm.2.1 (hE.2 _ i1) (hts _ i4) hyd ⟨hRm.2.2.1, hRm.2.2.2⟩, hin, hts _ i2⟩ hq rfl hn hsz rfl (lv_room hst) hdg hf
  refine va_callv hrun hS.2.2 (fun q _ h => hFc q h) hFc (fun u t H1 locs1 ht hvm hw hB hz1 hk1 hS1 => ?_)
  obtain ⟨hP1, hD1⟩ := hB
  rw [ht] at hP1
  obtain ⟨g1, g2⟩ := va_join (wr := wr) (w1 := u) hS.1 hS.2.1 [k] isR hC0 hR0 hnd hdis hk1 hFc hP1 hD1
  exact kk u H1 locs1 hw ⟨g1, g2, hS1⟩
end NW
