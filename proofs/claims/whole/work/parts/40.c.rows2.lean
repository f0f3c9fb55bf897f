theorem refuse_eta (σ : ST) {v : Int32} {k : Nat} (hv : v = nI k) (hk : k < 6) : ((M_X6_refuse σ v).bind fun o => some (o.1, o.2)) = M_X6_refuse σ v := by rw [refuse_c σ hv hk]; rfl
theorem find_eta (σ : ST) {v : Int32} {k : Nat} (hv : v = nI k) (hk : k < 6) : ((M_X7_find σ v).bind fun o => some (o.1, o.2)) = M_X7_find σ v := by rw [find_m σ hv hk]; rfl
theorem in7lo (v b : Int32) (h : v < 0) : M_X7_in v.toInt64 0 b.toInt64 = some 0 := by rw [show (0 : Int64) = (0 : Int32).toInt64 from rfl, in7i, if_pos h]
theorem m1_n (n : Nat) : nI (n + 1) - 1 = nI n := nI_pred n
theorem in7hi {v : Int32} {n : Nat} (hn : n < 1000) (h0 : ¬ v < 0) (h : nI n ≤ v) : M_X7_in v.toInt64 0 (nI n - 1).toInt64 = some 0 := by
  rw [show (0 : Int64) = (0 : Int32).toInt64 from rfl, in7i, if_neg h0, if_pos]
  rw [Int32.le_iff_toInt_le, nI_toInt (by omega)] at h
  rw [Int32.lt_iff_toInt_lt]
  have h2 : (nI n - nI 1).toInt = (n : Int) - 1 := pk_sub_toInt (by omega) (by decide)
  rw [show (1 : Int32) = nI 1 from rfl, h2]
  omega
theorem in7ok {i n : Nat} (hn : n < 1000) (h : i < n) : M_X7_in (nI i).toInt64 0 (nI n - 1).toInt64 = some 1 := by
  rw [show (0 : Int64) = (0 : Int32).toInt64 from rfl, in7i, if_neg (nI_pos (by omega)), if_neg]
  rw [Int32.lt_iff_toInt_lt, nI_toInt (by omega)]
  have h2 : (nI n - nI 1).toInt = (n : Int) - 1 := pk_sub_toInt (by omega) (by decide)
  rw [show (1 : Int32) = nI 1 from rfl, h2]
  omega
theorem lt01 {x : Int32} (q : x < 0) : x < 1 := by
  rw [Int32.lt_iff_toInt_lt] at q ⊢
  have h0 : (0 : Int32).toInt = 0 := by decide
  have h1 : (1 : Int32).toInt = 1 := by decide
  omega
theorem nz1 : ¬ (-1 : Int32) = 0 := by decide
theorem nz3 : ¬ (-3 : Int32) = 0 := by decide
theorem n0m1 : ¬ (0 : Int32) ≤ -1 := by decide
theorem place_r {Wl : ST → ST → Prop} (hC : Cg Wl) {σ τ : ST} (hR : RelG Wl σ τ) (a1 a2 : Int32) :
    (∃ r σ' τ', ¬ r = 0 ∧ M_X6_refusalOfPlace_r σ a1 a2 = some (r, σ') ∧ M_X7_refused τ a1 a2 = some (r, τ') ∧ RelG Wl σ' τ') ∨
    (∃ j n i, j < 6 ∧ n ≤ 40 ∧ i < n ∧ a1 = nI j ∧ a2 = nI i ∧ σ.2.2 3 j = nI n ∧ M_X6_refusalOfPlace_r σ a1 a2 = some (0, σ) ∧ M_X7_refused τ a1 a2 = some (0, τ)) := by
  rcases i3 a1 (n := 6) (by decide) with h | ⟨h, h'⟩ | ⟨j, hj, rfl⟩
  · refine Or.inl ⟨-1, σ, τ, by decide, ?_, ?_, hR⟩
    · unfold M_X6_refusalOfPlace_r; rw [refusalOf_lo_r h, Option.bind_some, if_neg nz1]
    · unfold M_X7_refused; rw [isRow_lo h, Option.bind_some, if_pos rfl]
  · refine Or.inl ⟨-1, σ, τ, by decide, ?_, ?_, hR⟩
    · unfold M_X6_refusalOfPlace_r; rw [refusalOf_hi_r h h', Option.bind_some, if_neg nz1]
    · unfold M_X7_refused; rw [isRow_hi h h', Option.bind_some, if_pos rfl]
  · obtain ⟨g1, g2, -⟩ := hR.1 j hj
    rcases g2 with g2 | ⟨n, hn, g2⟩
    · obtain ⟨σ', τ', e1, e2, e3⟩ := refuse_ok hC hR (k := 1) (v := 1) rfl (by decide)
      refine Or.inl ⟨-3, σ', τ', by decide, ?_, ?_, e3⟩
      · unfold M_X6_refusalOfPlace_r; rw [refusalOf_no_r hj g2, e1, Option.bind_some, if_neg nz3]
      · unfold M_X7_refused; rw [isRow_ok hj, Option.bind_some, if_neg (by decide), rd_n _ hj (by decide), Option.bind_some, ← g1, g2, if_neg n0m1, e2]; rfl
    · rcases i3 a2 (n := n) (by omega) with h | ⟨h, h'⟩ | ⟨i, hi, rfl⟩
      · obtain ⟨σ', τ', e1, e2, e3⟩ := refuse_ok hC hR (k := 2) (v := 2) rfl (by decide)
        refine Or.inl ⟨-3, σ', τ', by decide, ?_, ?_, e3⟩
        · unfold M_X6_refusalOfPlace_r; rw [refusalOf_ok_r hj g2 hn, Option.bind_some, if_pos rfl, isP_lo_r hj g2 hn h, Option.bind_some, if_pos rfl, e1]; rfl
        · unfold M_X7_refused; rw [isRow_ok hj, Option.bind_some, if_neg (by decide), rd_n _ hj (by decide), Option.bind_some, ← g1, g2, if_pos (nI_nonneg (by omega)), Option.bind_some, in7lo _ _ h, Option.bind_some, if_pos rfl, e2]; rfl
      · obtain ⟨σ', τ', e1, e2, e3⟩ := refuse_ok hC hR (k := 2) (v := 2) rfl (by decide)
        refine Or.inl ⟨-3, σ', τ', by decide, ?_, ?_, e3⟩
        · unfold M_X6_refusalOfPlace_r; rw [refusalOf_ok_r hj g2 hn, Option.bind_some, if_pos rfl, isP_hi_r hj g2 hn h h', Option.bind_some, if_pos rfl, e1]; rfl
        · unfold M_X7_refused; rw [isRow_ok hj, Option.bind_some, if_neg (by decide), rd_n _ hj (by decide), Option.bind_some, ← g1, g2, if_pos (nI_nonneg (by omega)), Option.bind_some, in7hi (by omega) h h', Option.bind_some, if_pos rfl, e2]; rfl
      · refine Or.inr ⟨j, n, i, hj, hn, hi, rfl, rfl, g2, ?_, ?_⟩
        · unfold M_X6_refusalOfPlace_r; rw [refusalOf_ok_r hj g2 hn, Option.bind_some, if_pos rfl, isP_ok_r hj g2 hn hi, Option.bind_some, if_neg (by decide)]
        · unfold M_X7_refused; rw [isRow_ok hj, Option.bind_some, if_neg (by decide), rd_n _ hj (by decide), Option.bind_some, ← g1, g2, if_pos (nI_nonneg (by omega)), Option.bind_some, in7ok (by omega) hi, Option.bind_some, if_neg (by decide)]
theorem tell_m (τ : ST) (v : Int32) : M_X7_tell τ v = some (1, setI τ 12 v) := rfl
/-- asked() is told anew, alike -/
theorem RelG.ask {Wl : ST → ST → Prop} (hC : Cg Wl) {σ τ : ST} (hR : RelG Wl σ τ) (v : Int32) : RelG Wl (setI σ 8 v) (setI τ 12 v) := by
  obtain ⟨h1, h2, h3, h4, h5, h6⟩ := hR
  refine ⟨h1.cg (same.rf.sI (by decide)) (same.rf.sI (by decide)), h2.cg (same.rf.sI (by decide)) (same.rf.sI (by decide)), h3.cg (same.rf.sI (by decide)) (same.rf.sI (by decide)), rfl, h5.cg (same.rf.sI (by decide)) (same.rf.sI (by decide)), hC _ _ _ _ h6 (same.rf.sI (by decide)) (same.rf.sI (by decide))⟩
/-- a place of a row is told anew, alike -/
theorem RelG.put {Wl : ST → ST → Prop} (hC : Cg Wl) {σ τ : ST} (hR : RelG Wl σ τ) {j i : Nat} (hj : j < 6) (hi : i < 40) (v : Int32) : RelG Wl (setA σ (4 + j) (upd (σ.2.2 (4 + j)) i v)) (setA τ 6 (upd (τ.2.2 6) (40 * j + i) v)) := by
  obtain ⟨h1, h2, h3, h4, h5, h6⟩ := hR
  refine ⟨?_, h2.cg (same.rf.sA (by simp [fTc]; omega)) (same.rf.sA (by decide)), h3.cg (same.rf.sA (by simp [fFc]; omega)) (same.rf.sA (by decide)), h4.cg (same.rf.sA (by simp [fQc])) (same.rf.sA (by decide)), h5.cg (same.rf.sA (by simp [fUc])) (same.rf.sA (by decide)), hC _ _ _ _ h6 (same.rf.sA (by simp [fWc]; omega)) (same.rf.sA (by decide))⟩
  intro r hr
  obtain ⟨g1, g2, g3⟩ := h1 r hr
  refine ⟨by rw [sA_ne (by omega), sA_ne (by decide)]; exact g1, by rw [sA_ne (by omega)]; exact g2, fun k hk => ?_⟩
  rw [sA_at]
  by_cases e : r = j
  · subst e
    rw [sA_at]
    unfold upd
    by_cases e2 : k = i
    · subst e2; rw [if_pos rfl, if_pos rfl]
    · rw [if_neg e2, if_neg (by omega)]; exact g3 k hk
  · rw [sA_ne (by omega), pk_un (by omega)]
    exact g3 k hk
theorem pure_at {Wl : ST → ST → Prop} (hC : Cg Wl) : P_at (RelG Wl) := by
  intro σ τ a1 a2 hR
  rcases place_r hC hR a1 a2 with ⟨r, σ', τ', hr, e1, e2, e3⟩ | ⟨j, n, i, hj, hn, hi, rfl, rfl, hs, e1, e2⟩
  · refine ⟨r, σ', τ', ?_, ?_, e3⟩
    · unfold M_X6_at; rw [e1, Option.bind_some, if_neg hr]
    · unfold M_X7_at; rw [e2, Option.bind_some, if_neg hr]
  · refine ⟨1, setI σ 8 (σ.2.2 (4 + j) i), setI τ 12 (σ.2.2 (4 + j) i), ?_, ?_, hR.ask hC _⟩
    · unfold M_X6_at; rw [e1, Option.bind_some, if_pos rfl, get_r hj hs hn hi]; rfl
    · unfold M_X7_at; rw [e2, Option.bind_some, if_pos rfl, ix40, rd_n _ (by omega) (by decide), Option.bind_some, ← (hR.1 j hj).2.2 i (by omega)]; rfl
theorem pure_lay {Wl : ST → ST → Prop} (hC : Cg Wl) : P_lay (RelG Wl) := by
  intro σ τ a1 a2 a3 hR
  rcases place_r hC hR a1 a2 with ⟨r, σ', τ', hr, e1, e2, e3⟩ | ⟨j, n, i, hj, hn, hi, rfl, rfl, hs, e1, e2⟩
  · refine ⟨r, σ', τ', ?_, ?_, e3⟩
    · unfold M_X6_lay; rw [e1, Option.bind_some, if_neg hr]
    · unfold M_X7_lay; rw [e2, Option.bind_some, if_neg hr]
  · refine ⟨1, setA (setI σ 8 (σ.2.2 (4 + j) i)) (4 + j) (upd ((setI σ 8 (σ.2.2 (4 + j) i)).2.2 (4 + j)) i a3), setI (setA τ 6 (upd (τ.2.2 6) (40 * j + i) a3)) 12 (σ.2.2 (4 + j) i), ?_, ?_, ?_⟩
    · unfold M_X6_lay; rw [e1, Option.bind_some, if_pos rfl, get_r hj hs hn hi, Option.bind_some, Option.bind_some, set_r (σ := setI σ 8 (σ.2.2 (4 + j) i)) hj hs hn hi]; rfl
    · unfold M_X7_lay; rw [e2, Option.bind_some, if_pos rfl, ix40, rd_n _ (by omega) (by decide), Option.bind_some, wrA_n _ _ _ (by omega) (by decide), Option.bind_some, ← (hR.1 j hj).2.2 i (by omega)]; rfl
    · exact (hR.put hC hj (by omega) a3).ask hC _
theorem pure_tear {Wl : ST → ST → Prop} (hC : Cg Wl) : P_tear (RelG Wl) := by
  intro σ τ a1 hR
  rcases i3 a1 (n := 6) (by decide) with h | ⟨h, h'⟩ | ⟨j, hj, rfl⟩
  · refine ⟨-1, σ, τ, ?_, ?_, hR⟩
    · unfold M_X6_tear; rw [refusalOf_lo_r h, Option.bind_some, if_neg nz1]
    · unfold M_X7_tear; rw [isRow_lo h, Option.bind_some, if_pos rfl]
  · refine ⟨-1, σ, τ, ?_, ?_, hR⟩
    · unfold M_X6_tear; rw [refusalOf_hi_r h h', Option.bind_some, if_neg nz1]
    · unfold M_X7_tear; rw [isRow_hi h h', Option.bind_some, if_pos rfl]
  · obtain ⟨g1, g2, -⟩ := hR.1 j hj
    rcases g2 with g2 | ⟨n, hn, g2⟩
    · obtain ⟨σ', τ', e1, e2, e3⟩ := refuse_ok hC hR (k := 1) (v := 1) rfl (by decide)
      refine ⟨-3, σ', τ', ?_, ?_, e3⟩
      · unfold M_X6_tear; rw [refusalOf_no_r hj g2, e1, Option.bind_some, if_neg nz3]
      · unfold M_X7_tear; rw [isRow_ok hj, Option.bind_some, if_neg (by decide), rd_n _ hj (by decide), Option.bind_some, ← g1, g2, if_neg n0m1, e2]; rfl
    · refine ⟨1, setA σ 3 (upd (σ.2.2 3) j (-1)), setA τ 5 (upd (τ.2.2 5) j (-1)), ?_, ?_, ?_⟩
      · unfold M_X6_tear; rw [refusalOf_ok_r hj g2 hn, Option.bind_some, if_pos rfl, drop_r hj]; rfl
      · unfold M_X7_tear; rw [isRow_ok hj, Option.bind_some, if_neg (by decide), rd_n _ hj (by decide), Option.bind_some, ← g1, g2, if_pos (nI_nonneg (by omega)), wrA_n _ _ _ hj (by decide)]; rfl
      · obtain ⟨h1, h2, h3, h4, h5, h6⟩ := hR
        refine ⟨?_, h2.cg (same.rf.sA (by decide)) (same.rf.sA (by decide)), h3.cg (same.rf.sA (by decide)) (same.rf.sA (by decide)), h4.cg (same.rf.sA (by decide)) (same.rf.sA (by decide)), h5.cg (same.rf.sA (by decide)) (same.rf.sA (by decide)), hC _ _ _ _ h6 (same.rf.sA (by decide)) (same.rf.sA (by decide))⟩
        intro r hr
        obtain ⟨k1, k2, k3⟩ := h1 r hr
        rw [sA_at, sA_at]
        refine ⟨?_, ?_, fun i hi => by rw [sA_ne (by omega), sA_ne (by decide)]; exact k3 i hi⟩
        · unfold upd; rw [k1]
        · unfold upd; split
          · exact Or.inl rfl
          · exact k2
theorem pure_asked {Wl : ST → ST → Prop} : P_asked (RelG Wl) := fun σ τ hR => ⟨σ.1 8, rfl, congrArg some hR.2.2.2.1.symm⟩
theorem pure_finding {Wl : ST → ST → Prop} : P_finding (RelG Wl) := fun σ τ hR => ⟨σ.1 7, rfl, congrArg some hR.2.2.1.1.symm⟩
theorem pure_upper {Wl : ST → ST → Prop} : P_upper (RelG Wl) := fun σ τ hR => ⟨σ.2.1 9, rfl, congrArg some hR.2.2.2.2.1.1.symm⟩
theorem pure_lower {Wl : ST → ST → Prop} : P_lower (RelG Wl) := fun σ τ hR => ⟨σ.2.1 10, rfl, congrArg some hR.2.2.2.2.1.2.symm⟩
theorem pure_findings {Wl : ST → ST → Prop} : P_findings (RelG Wl) := by
  intro σ τ a1 hR
  have e : M_X7_findings τ a1 = (some (if a1 < 1 then (0 : Int32) else if 5 < a1 then 0 else 1)).bind fun o6 => if o6 = 0 then some (-1) else (rd 6 (τ.2.2 9) a1).bind fun v17 => some v17 := by
    unfold M_X7_findings
    rw [show (1 : Int64) = (1 : Int32).toInt64 from rfl, show (5 : Int64) = (5 : Int32).toInt64 from rfl, in7i]
  by_cases h1 : a1 < 1
  · refine ⟨-1, ?_, ?_⟩
    · unfold M_X6_findings; rw [if_pos h1]
    · rw [e, if_pos h1]; rfl
  · by_cases h2 : 5 < a1
    · refine ⟨-1, ?_, ?_⟩
      · unfold M_X6_findings; rw [if_neg h1, if_neg (fun h => absurd h2 (Int32.not_lt.mpr h))]
      · rw [e, if_neg h1, if_pos h2]; rfl
    · have h3 : a1 ≤ 5 := Int32.not_lt.mp h2
      obtain ⟨k, hk, rfl⟩ := nI_of2 (M := 5) (n := 5) (by decide) (fun q => h1 (lt01 q)) h3
      refine ⟨σ.2.2 42 k, ?_, ?_⟩
      · unfold M_X6_findings; rw [if_neg h1, if_pos h3, rd_n _ (by omega) (by decide)]; rfl
      · rw [e, if_neg h1, if_neg h2, Option.bind_some, if_neg (by decide), rd_n _ (by omega) (by decide), ← hR.2.2.1.2 k (by omega)]; rfl
