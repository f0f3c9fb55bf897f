theorem it {c : Prop} [Decidable c] {α : Type} {a b o : α} (hc : c) (h : (if c then a else b) = o) : a = o := (if_pos hc).symm.trans h
theorem ie {c : Prop} [Decidable c] {α : Type} {a b o : α} (hc : ¬ c) (h : (if c then a else b) = o) : b = o := (if_neg hc).symm.trans h
theorem inR_lt {n j : Nat} {i : Int32} (h : inR n i = some j) : j < n := by
  obtain ⟨h1, rfl⟩ := inR_e h
  exact Nat.not_le.mp fun q => h1 (Or.inr q)
theorem ts_ne {x k : Int32} (h : ¬ x = k) : x.toInt ≠ k.toInt := fun e => h (Int32.toInt_inj.mp e)
def fillA (n : Nat) (σ : ST) (k : Nat) (v : Int32) : Option ST := some (setA σ k (fun j => if j < n then v else σ.2.2 k j))
def cpA (n0 n1 : Nat) (σ : ST) (k0 k1 : Nat) (sp dp n : Int32) : Option ST := if sp < 0 ∨ dp < 0 ∨ n < 0 ∨ n0 < sp.toNatClampNeg + n.toNatClampNeg ∨ n1 < dp.toNatClampNeg + n.toNatClampNeg then none else some (setA σ k1 (va_cpy (σ.2.2 k0) (σ.2.2 k1) sp.toNatClampNeg dp.toNatClampNeg n.toNatClampNeg))
section RW
variable {p : Program} {l : Launch} {e : Env} {R : Room} {s : State} {m : MethodId} {args : Array Value} {below : List Frame} {meth : Method} {c : Code} {H : Heap} {locs : List Loc} {Q : State → Prop}
variable {own : String} {cc : ByteArray} {nL pc : Nat} {ret : Option FieldType} {d : CD} {A : Nat → Prop} {ls : Array Slot} {w w' : va_W} {rest : List Value}
variable {Cn : String} {T : u_T} {N ci k j idx a n : Nat} {fs : List Value} {v : Value}
theorem gf (C : CX p s m args meth c own cc nL ret d A) (hS : HS d A s.heap H locs w) (he : w[k]? = some (a, .inr (ci, fs))) (hc : vwCl[ci]? = some (Cn, T, N)) (hin : ∀ x ∈ u_ws Cn T N, x ∈ tb) (hj : j < N) (hk : Cond.fieldLink own idx (T j).1 (T j).2.1 (T j).2.2.1 ∈ tb) (hv : fs[j]? = some v) (hdg : decode cc pc = .ok (.getfield idx, 3))
    (kk : W p l e R s m args below meth c H locs 0 0 Q (F0 m (pc + 3) ls (v :: rest))) : W p l e R s m args below meth c H locs 0 0 Q (F0 m pc ls (.ref a :: rest)) := by
  obtain ⟨hx, hb, hml, hown, hts, hE, hr, hlocks, hA⟩ := C
  exact va_get hx hb hts hin hown hE.1 hS.1 k he hc j hj (hts _ hk) (fun _ h => h) hv hdg kk
theorem gfN {host : String} (C : CX p s m args meth c own cc nL ret d A) (hS : HS d A s.heap H locs w) (he : w[k]? = some (a, .inr (ci, fs))) (hc : vwCl[ci]? = some (Cn, T, N)) (hin : ∀ x ∈ u_ws Cn T N, x ∈ tb) (hj : j < N) (hk : Cond.fieldLinkNest own idx (T j).1 (T j).2.1 (T j).2.2.1 host ∈ nestw) (hv : fs[j]? = some v) (hdg : decode cc pc = .ok (.getfield idx, 3))
    (kk : W p l e R s m args below meth c H locs 0 0 Q (F0 m (pc + 3) ls (v :: rest))) : W p l e R s m args below meth c H locs 0 0 Q (F0 m pc ls (.ref a :: rest)) := by
  obtain ⟨hx, hb, hml, hown, hts, hE, hr, hlocks, hA⟩ := C
  exact va_getN hx hb hts hin hown hE.1 hS.1 k he hc j hj (va_Nw.use rfl (hE.2 _ hk)) (fun _ h => h) hv hdg kk
theorem pf {ty : FieldType} (ty0 : Nat → FieldType) (hty : ∀ k, k < N → parseFieldDescriptor (T k).2.2.1 = some (ty0 k)) (hnm : ∀ a, a < N → ∀ b, b < N → a ≠ b → (T a).2.1 ≠ (T b).2.1) (C : CX p s m args meth c own cc nL ret d A) (hS : HS d A s.heap H locs w) (he : w[k]? = some (a, .inr (ci, fs))) (hc : vwCl[ci]? = some (Cn, T, N)) (hin : ∀ x ∈ u_ws Cn T N, x ∈ tb) (hj : j < N) (hk : Cond.fieldLink own idx (T j).1 (T j).2.1 (T j).2.2.1 ∈ tb) (hfin : (T j).2.2.2 = false) (hd : parseFieldDescriptor (T j).2.2.1 = some ty) (hn : narrow ty v = v) (hfit : fits ty v = true) (hlen : j < fs.length) (hset : w.set k (a, .inr (ci, fs.set j v)) = w') (hdg : decode cc pc = .ok (.putfield idx, 3))
    (kk : ∀ (H1 : Heap) (locs1 : List Loc), HS d A s.heap H1 locs1 w' → W p l e R s m args below meth c H1 locs1 0 0 Q (F0 m (pc + 3) ls rest)) : W p l e R s m args below meth c H locs 0 0 Q (F0 m pc ls (v :: .ref a :: rest)) := by
  obtain ⟨hx, hb, hml, hown, hts, hE, hr, hlocks, hA⟩ := C
  subst hset
  exact va_put hx hb hts hin ty0 hty hnm hown hE.1 hS.1 hS.2.1 hS.2.2 k he hc j hj (hts _ hk) (fun _ h => h) hfin hd hn hfit hlen hdg (fun H1 l1 h1 h2 h3 => kk H1 l1 ⟨h1, h2, h3⟩)
theorem pfN {host : String} {ty : FieldType} (ty0 : Nat → FieldType) (hty : ∀ k, k < N → parseFieldDescriptor (T k).2.2.1 = some (ty0 k)) (hnm : ∀ a, a < N → ∀ b, b < N → a ≠ b → (T a).2.1 ≠ (T b).2.1) (C : CX p s m args meth c own cc nL ret d A) (hS : HS d A s.heap H locs w) (he : w[k]? = some (a, .inr (ci, fs))) (hc : vwCl[ci]? = some (Cn, T, N)) (hin : ∀ x ∈ u_ws Cn T N, x ∈ tb) (hj : j < N) (hk : Cond.fieldLinkNest own idx (T j).1 (T j).2.1 (T j).2.2.1 host ∈ nestw) (hfin : (T j).2.2.2 = false) (hd : parseFieldDescriptor (T j).2.2.1 = some ty) (hn : narrow ty v = v) (hfit : fits ty v = true) (hlen : j < fs.length) (hset : w.set k (a, .inr (ci, fs.set j v)) = w') (hdg : decode cc pc = .ok (.putfield idx, 3))
    (kk : ∀ (H1 : Heap) (locs1 : List Loc), HS d A s.heap H1 locs1 w' → W p l e R s m args below meth c H1 locs1 0 0 Q (F0 m (pc + 3) ls rest)) : W p l e R s m args below meth c H locs 0 0 Q (F0 m pc ls (v :: .ref a :: rest)) := by
  obtain ⟨hx, hb, hml, hown, hts, hE, hr, hlocks, hA⟩ := C
  subst hset
  exact va_putN hx hb hts hin ty0 hty hnm hown hE.1 hS.1 hS.2.1 hS.2.2 k he hc j hj (va_Nw.use rfl (hE.2 _ hk)) (fun _ h => h) hfin hd hn hfit hlen hdg (fun H1 l1 h1 h2 h3 => kk H1 l1 ⟨h1, h2, h3⟩)
variable {f : Nat → Int32} {i x z : Int32} {wf : ST → va_W} {σ σ' : ST}
theorem iald' (C : CX p s m args meth c own cc nL ret d A) (hS : HS d A s.heap H locs w) (he : w[k]? = some (a, .inl (d.2.1, n, .inl f))) (e1 : rd n f i = some x) (hdg : decode cc pc = .ok (.iaload, 1))
    (kk : W p l e R s m args below meth c H locs 0 0 Q (F0 m (pc + 1) ls (.int x :: rest))) : W p l e R s m args below meth c H locs 0 0 Q (F0 m pc ls (.int i :: .ref a :: rest)) := by
  obtain ⟨hx, hb, hml, hown, hts, hE, hr, hlocks, hA⟩ := C
  obtain ⟨h1, rfl⟩ := rd_e e1
  exact va_iald hx hb hE.1 hS.1 k 0 he rfl h1 hdg kk
theorem zald' (C : CX p s m args meth c own cc nL ret d A) (hS : HS d A s.heap H locs w) (he : w[k]? = some (a, .inl (d.2.2.1, n, .inl f))) (e1 : rd n f i = some x) (hdg : decode cc pc = .ok (.baload, 1))
    (kk : W p l e R s m args below meth c H locs 0 0 Q (F0 m (pc + 1) ls (.int x :: rest))) : W p l e R s m args below meth c H locs 0 0 Q (F0 m pc ls (.int i :: .ref a :: rest)) := by
  obtain ⟨hx, hb, hml, hown, hts, hE, hr, hlocks, hA⟩ := C
  obtain ⟨h1, rfl⟩ := rd_e e1
  exact va_zald hx hb hE.1 hS.1 k 1 he rfl h1 hdg kk
theorem iast' (C : CX p s m args meth c own cc nL ret d A) (hS : HS d A s.heap H locs (wf σ)) (he : (wf σ)[k]? = some (a, .inl (d.2.1, n, .inl (σ.2.2 k)))) (hs : ∀ f, (wf σ).set k (a, .inl (d.2.1, n, .inl f)) = wf (setA σ k f)) (e1 : wrA n σ k i x = some σ') (hdg : decode cc pc = .ok (.iastore, 1))
    (kk : ∀ (H1 : Heap) (locs1 : List Loc), HS d A s.heap H1 locs1 (wf σ') → W p l e R s m args below meth c H1 locs1 0 0 Q (F0 m (pc + 1) ls rest)) : W p l e R s m args below meth c H locs 0 0 Q (F0 m pc ls (.int x :: .int i :: .ref a :: rest)) := by
  obtain ⟨hx, hb, hml, hown, hts, hE, hr, hlocks, hA⟩ := C
  obtain ⟨h1, rfl⟩ := wrA_e e1
  refine va_iast hx hb hE.1 hS.1 hS.2.1 hS.2.2 k 0 he rfl h1 hdg (fun H1 l1 g1 g2 g3 => kk H1 l1 ?_)
  rw [hs] at g1 g2
  exact ⟨g1, g2, g3⟩
theorem zast' (C : CX p s m args meth c own cc nL ret d A) (hS : HS d A s.heap H locs (wf σ)) (he : (wf σ)[k]? = some (a, .inl (d.2.2.1, n, .inl (σ.2.2 k)))) (hs : ∀ f, (wf σ).set k (a, .inl (d.2.2.1, n, .inl f)) = wf (setA σ k f)) (e0 : okZ x = some z) (e1 : wrA n σ k i z = some σ') (hdg : decode cc pc = .ok (.bastore, 1))
    (kk : ∀ (H1 : Heap) (locs1 : List Loc), HS d A s.heap H1 locs1 (wf σ') → W p l e R s m args below meth c H1 locs1 0 0 Q (F0 m (pc + 1) ls rest)) : W p l e R s m args below meth c H locs 0 0 Q (F0 m pc ls (.int x :: .int i :: .ref a :: rest)) := by
  obtain ⟨hx, hb, hml, hown, hts, hE, hr, hlocks, hA⟩ := C
  obtain ⟨h1, rfl⟩ := wrA_e e1
  obtain ⟨h01, rfl⟩ := okZ_e e0
  refine va_zast hx hb hE.1 hS.1 hS.2.1 hS.2.2 k 1 he rfl h1 hdg (fun H1 l1 g1 g2 g3 => kk H1 l1 ?_)
  have hz : vp_nar .boolean x = x := by rcases h01 with rfl | rfl <;> rfl
  rw [hz, hs] at g1 g2
  exact ⟨g1, g2, g3⟩
theorem alen' {v : Int32} {xa : vp_A} (C : CX p s m args meth c own cc nL ret d A) (hS : HS d A s.heap H locs w) (he : w[k]? = some (a, .inl (d.2.1, xa))) (hv : Int32.ofNat xa.1 = v) (hdg : decode cc pc = .ok (.arraylength, 1))
    (kk : W p l e R s m args below meth c H locs 0 0 Q (F0 m (pc + 1) ls (.int v :: rest))) : W p l e R s m args below meth c H locs 0 0 Q (F0 m pc ls (.ref a :: rest)) := by
  obtain ⟨hx, hb, hml, hown, hts, hE, hr, hlocks, hA⟩ := C
  exact va_alen hx hb hE.1 hS.1 k 0 he (ty := .int) rfl hv hdg kk
variable {g : Nat → Nat} {jj : Nat}
theorem aaldD (C : CX p s m args meth c own cc nL ret d A) (hS : HS d A s.heap H locs w) (he : w[k]? = some (a, .inl (d.2.2.2.1, n, .inr (.inr (.inr (.inr (fun j => if j < n then some (g j) else none))))))) (e1 : inR n i = some jj) (hdg : decode cc pc = .ok (.aaload, 1))
    (kk : W p l e R s m args below meth c H locs 0 0 Q (F0 m (pc + 1) ls (.ref (g jj) :: rest))) : W p l e R s m args below meth c H locs 0 0 Q (F0 m pc ls (.int i :: .ref a :: rest)) := by
  have hlt := inR_lt e1
  obtain ⟨hx, hb, hml, hown, hts, hE, hr, hlocks, hA⟩ := C
  obtain ⟨h1, h2⟩ := inR_e e1
  refine va_aldq hx hb hE.1 hS.1 k 2 he (C := "WellLocks$Deeds") rfl h1 hdg ?_
  rw [h2, if_pos hlt]
  exact kk
theorem aaldI (C : CX p s m args meth c own cc nL ret d A) (hS : HS d A s.heap H locs w) (he : w[k]? = some (a, .inl (d.2.2.2.2.1, n, .inr (.inr (.inr (.inr (fun j => if j < n then some (g j) else none))))))) (e1 : inR n i = some jj) (hdg : decode cc pc = .ok (.aaload, 1))
    (kk : W p l e R s m args below meth c H locs 0 0 Q (F0 m (pc + 1) ls (.ref (g jj) :: rest))) : W p l e R s m args below meth c H locs 0 0 Q (F0 m pc ls (.int i :: .ref a :: rest)) := by
  have hj := inR_lt e1
  obtain ⟨hx, hb, hml, hown, hts, hE, hr, hlocks, hA⟩ := C
  obtain ⟨h1, h2⟩ := inR_e e1
  have hlt : i.toNatClampNeg < n := Nat.not_le.mp fun q => h1 (Or.inr q)
  refine W.aald (v := va_rf (some (g jj))) (ty := .array .int) hx hb (hS.1 k _ he) ((hE.1.2 3 _ rfl).1 n (fun j => va_rf (if j < n then some (g j) else none))) rfl (fun q => by cases q) (by show ¬ (i < 0 ∨ (arrV _ _ _).slots.size ≤ _); rw [arrV_size]; exact h1) (by show (arrV _ _ _).slots[_]? = _; rw [arrV_read _ _ hlt]; show some (va_rf (if i.toNatClampNeg < n then some (g i.toNatClampNeg) else none)) = _; rw [h2, if_pos hj]) rfl rfl hdg kk
theorem idiv' {y : Int32} (C : CX p s m args meth c own cc nL ret d A) (e1 : dvI x y = some z) (hdg : decode cc pc = .ok (.idiv, 1)) (kk : W p l e R s m args below meth c H locs 0 0 Q (F0 m (pc + 1) ls (.int z :: rest))) : W p l e R s m args below meth c H locs 0 0 Q (F0 m pc ls (.int y :: .int x :: rest)) := by
  obtain ⟨h1, rfl⟩ := dvI_e e1
  exact lv_idiv C.1 C.2.1 hdg h1 kk
theorem irem' {y : Int32} (C : CX p s m args meth c own cc nL ret d A) (e1 : rmI x y = some z) (hdg : decode cc pc = .ok (.irem, 1)) (kk : W p l e R s m args below meth c H locs 0 0 Q (F0 m (pc + 1) ls (.int z :: rest))) : W p l e R s m args below meth c H locs 0 0 Q (F0 m pc ls (.int y :: .int x :: rest)) := by
  obtain ⟨h1, rfl⟩ := rmI_e e1
  exact lv_irem C.1 C.2.1 hdg h1 kk
theorem ldiv' {x y z : Int64} (C : CX p s m args meth c own cc nL ret d A) (e1 : dvL x y = some z) (hdg : decode cc pc = .ok (.ldiv, 1)) (kk : W p l e R s m args below meth c H locs 0 0 Q (F0 m (pc + 1) ls (.long z :: rest))) : W p l e R s m args below meth c H locs 0 0 Q (F0 m pc ls (.long y :: .long x :: rest)) := by
  obtain ⟨h1, rfl⟩ := dvL_e e1
  exact lv_ldiv C.1 C.2.1 hdg h1 kk
theorem lrem' {x y z : Int64} (C : CX p s m args meth c own cc nL ret d A) (e1 : rmL x y = some z) (hdg : decode cc pc = .ok (.lrem, 1)) (kk : W p l e R s m args below meth c H locs 0 0 Q (F0 m (pc + 1) ls (.long z :: rest))) : W p l e R s m args below meth c H locs 0 0 Q (F0 m pc ls (.long y :: .long x :: rest)) := by
  obtain ⟨h1, rfl⟩ := rmL_e e1
  exact lv_lrem C.1 C.2.1 hdg h1 kk
theorem mmin' {y : Int32} (C : CX p s m args meth c own cc nL ret d A) (hl : ls.size = nL) (hk : Cond.methodLink own idx Lib.Math.min.name ∈ tb ∧ Cond.static Lib.Math.min.name ∈ tb ∧ Cond.initialized "java/lang/Math" ∈ tb ∧ Cond.code Lib.Math.min.name Lib.Math.min.code 2 (some .int) ∈ tb) (hR : 1 ≤ R.frames ∧ 8 + 13 ≤ R.locals) (hst : (rest.map fun v => v.category).sum ≤ 8) (hdg : decode cc pc = .ok (.invokestatic idx, 3))
    (kk : W p l e R s m args below meth c H locs 0 0 Q (F0 m (pc + 3) ls (.int (if y < x then y else x) :: rest))) : W p l e R s m args below meth c H locs 0 0 Q (F0 m pc ls (.int y :: .int x :: rest)) := by
  obtain ⟨hx, hb, hml, hown, hts, hE, hr, hlocks, hA⟩ := C
  exact va_mmin hx hb (hml.trans hl.symm) hown (hts _ hk.1) (hts _ hk.2.1) (hts _ hk.2.2.1) (hts _ hk.2.2.2) hR.1 (by omega) (Nat.zero_le _) (Nat.zero_le _) hdg kk
theorem mmax' {y : Int32} (C : CX p s m args meth c own cc nL ret d A) (hl : ls.size = nL) (hk : Cond.methodLink own idx Lib.Math.max.name ∈ tb ∧ Cond.static Lib.Math.max.name ∈ tb ∧ Cond.initialized "java/lang/Math" ∈ tb ∧ Cond.code Lib.Math.max.name Lib.Math.max.code 2 (some .int) ∈ tb) (hR : 1 ≤ R.frames ∧ 8 + 13 ≤ R.locals) (hst : (rest.map fun v => v.category).sum ≤ 8) (hdg : decode cc pc = .ok (.invokestatic idx, 3))
    (kk : W p l e R s m args below meth c H locs 0 0 Q (F0 m (pc + 3) ls (.int (if x < y then y else x) :: rest))) : W p l e R s m args below meth c H locs 0 0 Q (F0 m pc ls (.int y :: .int x :: rest)) := by
  obtain ⟨hx, hb, hml, hown, hts, hE, hr, hlocks, hA⟩ := C
  exact va_mmax hx hb (hml.trans hl.symm) hown (hts _ hk.1) (hts _ hk.2.1) (hts _ hk.2.2.1) (hts _ hk.2.2.2) hR.1 (by omega) (Nat.zero_le _) (Nat.zero_le _) hdg kk
theorem cpy' {k0 k1 a0 n0 n1 : Nat} {sp dp nn : Int32} (C : CX p s m args meth c own cc nL ret d A) (hl : ls.size = nL) (hS : HS d A s.heap H locs (wf σ)) (he0 : (wf σ)[k0]? = some (a0, .inl (d.2.1, n0, .inl (σ.2.2 k0)))) (he1 : (wf σ)[k1]? = some (a, .inl (d.2.1, n1, .inl (σ.2.2 k1)))) (hs : ∀ f, (wf σ).set k1 (a, .inl (d.2.1, n1, .inl f)) = wf (setA σ k1 f)) (hk : Cond.methodLink own idx arraycopyName ∈ tb ∧ Cond.native arraycopyName ∈ tb ∧ Cond.static arraycopyName ∈ tb ∧ Cond.initialized "java/lang/System" ∈ tb) (hR : 1 ≤ R.frames ∧ 8 + (nativeFrameWords "java/lang/System" "arraycopy" 5 + 11) ≤ R.locals) (hst : (rest.map fun v => v.category).sum ≤ 8) (e1 : cpA n0 n1 σ k0 k1 sp dp nn = some σ') (hdg : decode cc pc = .ok (.invokestatic idx, 3))
    (kk : ∀ (H1 : Heap) (locs1 : List Loc), HS d A s.heap H1 locs1 (wf σ') → W p l e R s m args below meth c H1 locs1 0 0 Q (F0 m (pc + 3) ls rest)) : W p l e R s m args below meth c H locs 0 0 Q (F0 m pc ls (.int nn :: .int dp :: .ref a :: .int sp :: .ref a0 :: rest)) := by
  obtain ⟨hx, hb, hml, hown, hts, hE, hr, hlocks, hA⟩ := C
  unfold cpA at e1
  split at e1
  · cases e1
  · rename_i hq
    cases e1
    simp only [not_or] at hq
    refine va_copyi hx hb (hml.trans hl.symm) hown (hts _ hk.1) (hts _ hk.2.1) (hts _ hk.2.2.1) (hts _ hk.2.2.2) hE.1 hS.1 hS.2.1 hS.2.2 k0 k1 0 0 (ty := .int) he0 he1 rfl rfl rfl hq.1 hq.2.1 hq.2.2.1 (by omega) (by omega) (fun _ _ => rfl) hR.1 (by omega) hdg (fun H1 l1 g1 g2 g3 => kk H1 l1 ?_)
    rw [hs] at g1 g2
    exact ⟨g1, g2, g3⟩
/-- returns of a method that changes the state -/
theorem retIw {v : Int32} {o : Int32 × ST} (C : CX p s m args meth c own cc nL (some .int) d A) (hS : HS d A s.heap H locs (wf σ)) (hm : some (v, σ) = some o) (hdg : decode cc pc = .ok (.ireturn, 1)) :
    W p l e R s m args below meth c H locs 0 0 (MQ below (va_Qi (fun (r' : Int32) (u : va_W) => r' = o.1 ∧ u = wf o.2) (AT d A) A) args s 0 0 A) (F0 m pc ls [.int v]) := by
  cases hm
  exact retI C hS rfl rfl hdg
theorem retZw {v : Int32} {o : Int32 × ST} (C : CX p s m args meth c own cc nL (some .boolean) d A) (hS : HS d A s.heap H locs (wf σ)) (hm : ((okZ v).bind fun z => some (z, σ)) = some o) (hdg : decode cc pc = .ok (.ireturn, 1)) :
    W p l e R s m args below meth c H locs 0 0 (MQ below (va_Qi (fun (r' : Int32) (u : va_W) => r' = o.1 ∧ u = wf o.2) (AT d A) A) args s 0 0 A) (F0 m pc ls [.int v]) := by
  obtain ⟨z, e1, h2⟩ := ob hm
  obtain ⟨h01, rfl⟩ := okZ_e e1
  cases h2
  exact retZ C hS h01 rfl rfl hdg
theorem retLw {v : Int64} {o : Int64 × ST} (C : CX p s m args meth c own cc nL (some .long) d A) (hS : HS d A s.heap H locs (wf σ)) (hm : some (v, σ) = some o) (hdg : decode cc pc = .ok (.lreturn, 1)) :
    W p l e R s m args below meth c H locs 0 0 (MQ below (va_Ql (fun (r' : Int64) (u : va_W) => r' = o.1 ∧ u = wf o.2) (AT d A) A) args s 0 0 A) (F0 m pc ls [.long v]) := by
  cases hm
  exact retL C hS rfl rfl hdg
theorem retVw {o : ST} (C : CX p s m args meth c own cc nL none d A) (hS : HS d A s.heap H locs (wf σ)) (hm : some σ = some o) (hdg : decode cc pc = .ok (.return_, 1)) :
    W p l e R s m args below meth c H locs 0 0 (MQ below (va_Qv (fun (u : va_W) => u = wf o) (AT d A) A) args s 0 0 A) (F0 m pc ls []) := by
  cases hm
  exact retV C hS rfl hdg
theorem retIr {v o : Int32} (C : CX p s m args meth c own cc nL (some .int) d A) (hS : HS d A s.heap H locs w) (hm : some v = some o) (hdg : decode cc pc = .ok (.ireturn, 1)) :
    W p l e R s m args below meth c H locs 0 0 (MQ below (va_Qi (fun (r' : Int32) (u : va_W) => r' = o ∧ u = w) (AT d A) A) args s 0 0 A) (F0 m pc ls [.int v]) := retI C hS (Option.some.inj hm) rfl hdg
theorem retZr {v o : Int32} (C : CX p s m args meth c own cc nL (some .boolean) d A) (hS : HS d A s.heap H locs w) (hm : okZ v = some o) (hdg : decode cc pc = .ok (.ireturn, 1)) :
    W p l e R s m args below meth c H locs 0 0 (MQ below (va_Qi (fun (r' : Int32) (u : va_W) => r' = o ∧ u = w) (AT d A) A) args s 0 0 A) (F0 m pc ls [.int v]) := by
  obtain ⟨h01, h2⟩ := okZ_e hm
  exact retZ C hS h01 h2 rfl hdg
theorem retLr {v o : Int64} (C : CX p s m args meth c own cc nL (some .long) d A) (hS : HS d A s.heap H locs w) (hm : some v = some o) (hdg : decode cc pc = .ok (.lreturn, 1)) :
    W p l e R s m args below meth c H locs 0 0 (MQ below (va_Ql (fun (r' : Int64) (u : va_W) => r' = o ∧ u = w) (AT d A) A) args s 0 0 A) (F0 m pc ls [.long v]) := retL C hS (Option.some.inj hm) rfl hdg
end RW
abbrev WI (p : Program) (l : Launch) (e : Env) (R : Room) (s : State) (m : MethodId) (args : Array Value) (below : List Frame) (meth : Method) (c : Code) (A : Nat → Prop) (d : CD) (H : Heap) (locs : List Loc) (r : Int32) (w' : va_W) (g : JFrame) : Prop := W p l e R s m args below meth c H locs 0 0 (MQ below (va_Qi (fun (r' : Int32) (u : va_W) => r' = r ∧ u = w') (AT d A) A) args s 0 0 A) g
abbrev WL (p : Program) (l : Launch) (e : Env) (R : Room) (s : State) (m : MethodId) (args : Array Value) (below : List Frame) (meth : Method) (c : Code) (A : Nat → Prop) (d : CD) (H : Heap) (locs : List Loc) (r : Int64) (w' : va_W) (g : JFrame) : Prop := W p l e R s m args below meth c H locs 0 0 (MQ below (va_Ql (fun (r' : Int64) (u : va_W) => r' = r ∧ u = w') (AT d A) A) args s 0 0 A) g
abbrev WV (p : Program) (l : Launch) (e : Env) (R : Room) (s : State) (m : MethodId) (args : Array Value) (below : List Frame) (meth : Method) (c : Code) (A : Nat → Prop) (d : CD) (H : Heap) (locs : List Loc) (w' : va_W) (g : JFrame) : Prop := W p l e R s m args below meth c H locs 0 0 (MQ below (va_Qv (fun (u : va_W) => u = w') (AT d A) A) args s 0 0 A) g
