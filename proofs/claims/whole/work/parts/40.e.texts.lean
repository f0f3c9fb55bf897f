def mkCt (σ : ST) (j n : Nat) (v : Int32) : ST := setA (setA σ 12 (upd (σ.2.2 12) j (nI n))) (13 + j) (fun i => if i < 80 then v else (setA σ 12 (upd (σ.2.2 12) j (nI n))).2.2 (13 + j) i)
section SH
variable {σ : ST}
theorem isN_lo_t {a : Int32} (h : a < 0) : M_X3_isNumber_t σ a = some 0 := by unfold M_X3_isNumber_t; rw [if_pos h]; rfl
theorem isN_hi_t {a : Int32} (h0 : ¬ a < 0) (h : nI 4 ≤ a) : M_X3_isNumber_t σ a = some 0 := by unfold M_X3_isNumber_t; rw [if_neg h0, if_pos (show (4 : Int32) ≤ a from h)]; rfl
theorem isN_ok_t {j : Nat} (h : j < 4) : M_X3_isNumber_t σ (nI j) = some 1 := by unfold M_X3_isNumber_t; rw [if_neg (nI_pos (by omega)), if_neg (nl 4 4 rfl h (by decide))]; rfl
theorem isT_no_t {j : Nat} (h : j < 4) (hs : σ.2.2 12 j = -1) : M_X3_isThere_t σ (nI j) = some 0 := by
  unfold M_X3_isThere_t; rw [isN_ok_t h, Option.bind_some, if_neg (by decide), rd_n _ h (by decide), Option.bind_some, if_pos hs]; rfl
theorem isT_ok_t {j n : Nat} (h : j < 4) (hs : σ.2.2 12 j = nI n) (hn : n ≤ 80) : M_X3_isThere_t σ (nI j) = some 1 := by
  unfold M_X3_isThere_t; rw [isN_ok_t h, Option.bind_some, if_neg (by decide), rd_n _ h (by decide), Option.bind_some, hs, if_neg (m1_ne (by omega))]; rfl
theorem szOf_t {j : Nat} (h : j < 4) : M_X3_sizeOf_t σ (nI j) = some (σ.2.2 12 j) := by
  unfold M_X3_sizeOf_t; rw [isN_ok_t h, Option.bind_some, if_neg (by decide), rd_n _ h (by decide), Option.bind_some]
theorem isP_lo_t {j n : Nat} {a : Int32} (h : j < 4) (hs : σ.2.2 12 j = nI n) (hn : n ≤ 80) (ha : a < 0) : M_X3_isPlace_t σ (nI j) a = some 0 := by
  unfold M_X3_isPlace_t; rw [isT_ok_t h hs hn, Option.bind_some, if_neg (by decide), if_pos ha]; rfl
theorem isP_hi_t {j n : Nat} {a : Int32} (h : j < 4) (hs : σ.2.2 12 j = nI n) (hn : n ≤ 80) (h0 : ¬ a < 0) (ha : nI n ≤ a) : M_X3_isPlace_t σ (nI j) a = some 0 := by
  unfold M_X3_isPlace_t; rw [isT_ok_t h hs hn, Option.bind_some, if_neg (by decide), if_neg h0, rd_n _ h (by decide), Option.bind_some, hs, if_pos ha]; rfl
theorem isP_ok_t {j n i : Nat} (h : j < 4) (hs : σ.2.2 12 j = nI n) (hn : n ≤ 80) (hi : i < n) : M_X3_isPlace_t σ (nI j) (nI i) = some 1 := by
  unfold M_X3_isPlace_t; rw [isT_ok_t h hs hn, Option.bind_some, if_neg (by decide), if_neg (nI_pos (by omega)), rd_n _ h (by decide), Option.bind_some, hs, if_neg (nI_ge hi (by omega))]; rfl
theorem get_t {j n i : Nat} (h : j < 4) (hs : σ.2.2 12 j = nI n) (hn : n ≤ 80) (hi : i < n) : M_X3_get_t σ (nI j) (nI i) = some (σ.2.2 (13 + j) i) := by
  unfold M_X3_get_t; rw [isP_ok_t h hs hn hi, Option.bind_some, if_neg (by decide), inR_n h (by decide), Option.bind_some, rd_n _ (by omega) (by decide), Option.bind_some]
theorem set_t {j n i : Nat} {v : Int32} (h : j < 4) (hs : σ.2.2 12 j = nI n) (hn : n ≤ 80) (hi : i < n) : M_X3_set_t σ (nI j) (nI i) v = some (setA σ (13 + j) (upd (σ.2.2 (13 + j)) i v)) := by
  unfold M_X3_set_t; rw [isP_ok_t h hs hn hi, Option.bind_some, if_neg (by decide), inR_n h (by decide), Option.bind_some, wrA_n _ _ _ (by omega) (by decide), Option.bind_some]
theorem make_t {j n : Nat} {v : Int32} (h : j < 4) (hn : n ≤ 80) : M_X3_make_t σ (nI j) (nI n) v = some (mkCt σ j n v) := by
  unfold M_X3_make_t
  rw [isN_ok_t h, Option.bind_some, if_neg (by decide), if_neg (nI_pos (by omega)), if_neg (ng 80 80 rfl hn (by decide)), wrA_n _ _ _ h (by decide), Option.bind_some, inR_n h (by decide), Option.bind_some]
  unfold fillA
  rw [Option.bind_some]
  rfl
end SH
theorem refusalOf_lo_t {σ : ST} {a : Int32} (h : a < 0) : M_X6_refusalOf_t σ a = some (-1, σ) := by unfold M_X6_refusalOf_t; rw [isN_lo_t h, Option.bind_some, if_pos rfl]
theorem refusalOf_hi_t {σ : ST} {a : Int32} (h0 : ¬ a < 0) (h : nI 4 ≤ a) : M_X6_refusalOf_t σ a = some (-1, σ) := by unfold M_X6_refusalOf_t; rw [isN_hi_t h0 h, Option.bind_some, if_pos rfl]
theorem refusalOf_no_t {σ : ST} {j : Nat} (h : j < 4) (hs : σ.2.2 12 j = -1) : M_X6_refusalOf_t σ (nI j) = M_X6_refuse σ 1 := by
  unfold M_X6_refusalOf_t; rw [isN_ok_t h, Option.bind_some, if_neg (by decide), isT_no_t h hs, Option.bind_some, if_pos rfl, refuse_c σ (k := 1) (v := 1) rfl (by decide)]; rfl
theorem refusalOf_ok_t {σ : ST} {j n : Nat} (h : j < 4) (hs : σ.2.2 12 j = nI n) (hn : n ≤ 80) : M_X6_refusalOf_t σ (nI j) = some (0, σ) := by
  unfold M_X6_refusalOf_t; rw [isN_ok_t h, Option.bind_some, if_neg (by decide), isT_ok_t h hs hn, Option.bind_some, if_neg (by decide)]
theorem isText_lo {a : Int32} (h : a < 0) : M_X7_isText a = some 0 := by
  unfold M_X7_isText
  rw [show (0 : Int64) = (0 : Int32).toInt64 from rfl, show (3 : Int64) = (3 : Int32).toInt64 from rfl, in7i, if_pos h]; rfl
theorem isText_hi {a : Int32} (h0 : ¬ a < 0) (h : nI 4 ≤ a) : M_X7_isText a = some 0 := by
  unfold M_X7_isText
  rw [show (0 : Int64) = (0 : Int32).toInt64 from rfl, show (3 : Int64) = (3 : Int32).toInt64 from rfl, in7i, if_neg h0, if_pos (le3_4 h)]; rfl
theorem isText_ok {j : Nat} (h : j < 4) : M_X7_isText (nI j) = some 1 := by
  unfold M_X7_isText
  rw [show (0 : Int64) = (0 : Int32).toInt64 from rfl, show (3 : Int64) = (3 : Int32).toInt64 from rfl, in7i, if_neg (nI_pos (by omega)), if_neg (ng 3 3 rfl (by omega) (by decide))]; rfl
theorem ix80 (j i : Nat) : (80 : Int32) * nI j + nI i = nI (80 * j + i) := by rw [show (80 : Int32) = nI 80 from rfl, pk_mul, nI_add]
theorem text_34 {j : Nat} (hj : j < 4) (x2 : Int32) : ∀ (m n i : Nat) (τ : ST), i + m = 80 → m < n → M_X7_text_34 n τ (nI j) x2 (nI i) = some (x2, setA τ 8 (fun k => if 80 * j + i ≤ k ∧ k < 80 * j + 80 then 32 else τ.2.2 8 k))
  | 0, n + 1, i, τ, hi, _ => by
    rw [M_X7_text_34, if_pos (by rw [show (80 : Int32) = nI 80 from rfl]; exact nI_le (by omega) (by omega))]
    have e : (fun k => if 80 * j + i ≤ k ∧ k < 80 * j + 80 then 32 else τ.2.2 8 k) = τ.2.2 8 := funext fun k => if_neg (by omega)
    rw [e, setA_self]
  | m + 1, n + 1, i, τ, hi, hn => by
    rw [M_X7_text_34, if_neg (nl 80 80 rfl (by omega) (by decide)), ix80, wrA_n _ _ _ (by omega) (by decide), Option.bind_some, nI_1, text_34 hj x2 m n (i + 1) _ (by omega) (by omega), setA_setA, setA_at]
    congr 3
    funext k
    unfold upd
    by_cases h1 : k = 80 * j + i
    · subst h1
      rw [if_neg (by omega), if_pos rfl, if_pos (by omega)]
    · by_cases h2 : 80 * j + (i + 1) ≤ k ∧ k < 80 * j + 80
      · rw [if_pos h2, if_pos (by omega)]
      · rw [if_neg h2, if_neg h1, if_neg (by omega)]
def mkMt (τ : ST) (j n : Nat) : ST := setA (setA τ 7 (upd (τ.2.2 7) j (nI n))) 8 (fun k => if 80 * j ≤ k ∧ k < 80 * j + 80 then 32 else τ.2.2 8 k)
theorem rlT_make {σ τ : ST} (h : rlT σ τ) {j n : Nat} (hj : j < 4) (hn : n ≤ 80) : rlT (mkCt σ j n 32) (mkMt τ j n) := by
  intro r hr
  obtain ⟨g1, g2, g3⟩ := h r hr
  have e1 : (mkCt σ j n 32).2.2 12 = upd (σ.2.2 12) j (nI n) := by unfold mkCt; rw [sA_ne (by omega), sA_at]
  have e2 : (mkMt τ j n).2.2 7 = upd (τ.2.2 7) j (nI n) := by unfold mkMt; rw [sA_ne (by decide), sA_at]
  rw [e1, e2]
  unfold mkCt mkMt
  rw [sA_at]
  by_cases e : r = j
  · subst e
    refine ⟨by rw [pk_us, pk_us], by rw [pk_us]; exact Or.inr ⟨n, hn, rfl⟩, fun i hi => ?_⟩
    rw [sA_at, if_pos hi, if_pos (by omega)]
    exact ⟨rfl, by unfold isB; decide⟩
  · refine ⟨by rw [pk_un e, pk_un e]; exact g1, by rw [pk_un e]; exact g2, fun i hi => ?_⟩
    rw [sA_ne (by omega), sA_ne (by omega), if_neg (by omega)]
    exact g3 i hi
theorem pure_text {Wl : ST → ST → Prop} (hC : Cg Wl) : P_text (RelG Wl) := by
  intro σ τ a1 a2 hR
  rcases i3 a1 (n := 4) (by decide) with h | ⟨h, h'⟩ | ⟨j, hj, rfl⟩
  · refine ⟨-1, σ, τ, ?_, ?_, hR⟩
    · unfold M_X6_text M_X6_makeOn_t; rw [isN_lo_t h, Option.bind_some, if_pos rfl]; rfl
    · unfold M_X7_text; rw [isText_lo h, Option.bind_some, if_pos rfl]
  · refine ⟨-1, σ, τ, ?_, ?_, hR⟩
    · unfold M_X6_text M_X6_makeOn_t; rw [isN_hi_t h h', Option.bind_some, if_pos rfl]; rfl
    · unfold M_X7_text; rw [isText_hi h h', Option.bind_some, if_pos rfl]
  · by_cases h80 : a2 ≤ 80
    · by_cases h0 : 0 ≤ a2
      · obtain ⟨n, hn, rfl⟩ := szNn h0 80 rfl (by decide) h80
        refine ⟨nI n, mkCt σ j n 32, mkMt τ j n, ?_, ?_, ?_⟩
        · unfold M_X6_text M_X6_makeOn_t; rw [isN_ok_t hj, Option.bind_some, if_neg (by decide), if_pos h80, if_pos h0, make_t hj hn, Option.bind_some, Option.bind_some]
        · have e := text_34 hj (nI n) 80 10000 0 (setA τ 7 (upd (τ.2.2 7) j (nI n))) (by decide) (by decide)
          unfold M_X7_text; rw [isText_ok hj, Option.bind_some, if_neg (by decide), if_pos h80, if_pos h0, wrA_n _ _ _ hj (by decide), Option.bind_some]; exact e
        · obtain ⟨h1, h2, h3, h4, h5, h6⟩ := hR
          refine ⟨h1.cg ?_ ?_, rlT_make h2 hj hn, h3.cg ?_ ?_, h4.cg ?_ ?_, h5.cg ?_ ?_, hC _ _ _ _ h6 ?_ ?_⟩ <;> (try unfold mkCt) <;> (try unfold mkMt) <;> exact (same.rf.sA (by decide)).sA (by simp [fRc, fRm, fFc, fFm, fQc, fQm, fUc, fUm, fWc, fWm]; try omega)
      · obtain ⟨σ', τ', e1, e2, e3⟩ := refuse_ok hC hR (k := 5) (v := 5) rfl (by decide)
        refine ⟨-3, σ', τ', ?_, ?_, e3⟩
        · unfold M_X6_text M_X6_makeOn_t; rw [isN_ok_t hj, Option.bind_some, if_neg (by decide), if_pos h80, if_neg h0, e1]; rfl
        · unfold M_X7_text; rw [isText_ok hj, Option.bind_some, if_neg (by decide), if_pos h80, if_neg h0, e2]; rfl
    · refine ⟨-1, σ, τ, ?_, ?_, hR⟩
      · unfold M_X6_text M_X6_makeOn_t; rw [isN_ok_t hj, Option.bind_some, if_neg (by decide), if_neg h80]; rfl
      · unfold M_X7_text; rw [isText_ok hj, Option.bind_some, if_neg (by decide), if_neg h80]
theorem isB_b (x : Int32) : isB x.toInt8.toInt32 := by
  unfold isB
  rw [Int8.toInt_toInt32]
  exact ⟨Int8.le_toInt _, Int.le_of_lt_add_one (Int8.toInt_lt _)⟩
theorem pure_put {Wl : ST → ST → Prop} (hC : Cg Wl) : P_put (RelG Wl) := by
  intro σ τ a1 a2 a3 hR
  rcases i3 a1 (n := 4) (by decide) with h | ⟨h, h'⟩ | ⟨j, hj, rfl⟩
  · refine ⟨-1, σ, τ, ?_, ?_, hR⟩
    · unfold M_X6_put M_X6_refusalOfPlace_t; rw [refusalOf_lo_t h, Option.bind_some, if_neg nz1]; rfl
    · unfold M_X7_put; rw [isText_lo h, Option.bind_some, if_pos rfl]
  · refine ⟨-1, σ, τ, ?_, ?_, hR⟩
    · unfold M_X6_put M_X6_refusalOfPlace_t; rw [refusalOf_hi_t h h', Option.bind_some, if_neg nz1]; rfl
    · unfold M_X7_put; rw [isText_hi h h', Option.bind_some, if_pos rfl]
  · obtain ⟨g1, g2, g3⟩ := hR.2.1 j hj
    rcases g2 with g2 | ⟨n, hn, g2⟩
    · obtain ⟨σ', τ', e1, e2, e3⟩ := refuse_ok hC hR (k := 1) (v := 1) rfl (by decide)
      refine ⟨-3, σ', τ', ?_, ?_, e3⟩
      · unfold M_X6_put M_X6_refusalOfPlace_t; rw [refusalOf_no_t hj g2, e1, Option.bind_some, if_neg nz3]; rfl
      · unfold M_X7_put; rw [isText_ok hj, Option.bind_some, if_neg (by decide), rd_n _ hj (by decide), Option.bind_some, ← g1, g2, if_neg n0m1, e2]; rfl
    · rcases i3 a2 (n := n) (by omega) with h | ⟨h, h'⟩ | ⟨i, hi, rfl⟩
      · obtain ⟨σ', τ', e1, e2, e3⟩ := refuse_ok hC hR (k := 2) (v := 2) rfl (by decide)
        refine ⟨-3, σ', τ', ?_, ?_, e3⟩
        · unfold M_X6_put M_X6_refusalOfPlace_t; rw [refusalOf_ok_t hj g2 hn, Option.bind_some, if_pos rfl, isP_lo_t hj g2 hn h, Option.bind_some, if_pos rfl, e1]; rfl
        · unfold M_X7_put; rw [isText_ok hj, Option.bind_some, if_neg (by decide), rd_n _ hj (by decide), Option.bind_some, ← g1, g2, if_pos (nI_nonneg (by omega)), Option.bind_some, in7lo _ _ h, Option.bind_some, if_pos rfl, e2]; rfl
      · obtain ⟨σ', τ', e1, e2, e3⟩ := refuse_ok hC hR (k := 2) (v := 2) rfl (by decide)
        refine ⟨-3, σ', τ', ?_, ?_, e3⟩
        · unfold M_X6_put M_X6_refusalOfPlace_t; rw [refusalOf_ok_t hj g2 hn, Option.bind_some, if_pos rfl, isP_hi_t hj g2 hn h h', Option.bind_some, if_pos rfl, e1]; rfl
        · unfold M_X7_put; rw [isText_ok hj, Option.bind_some, if_neg (by decide), rd_n _ hj (by decide), Option.bind_some, ← g1, g2, if_pos (nI_nonneg (by omega)), Option.bind_some, in7hi (by omega) h h', Option.bind_some, if_pos rfl, e2]; rfl
      · refine ⟨σ.2.2 (13 + j) i + 1000, setA σ (13 + j) (upd (σ.2.2 (13 + j)) i a3.toInt8.toInt32), setA τ 8 (upd (τ.2.2 8) (80 * j + i) a3.toInt8.toInt32), ?_, ?_, ?_⟩
        · unfold M_X6_put M_X6_refusalOfPlace_t; rw [refusalOf_ok_t hj g2 hn, Option.bind_some, if_pos rfl, isP_ok_t hj g2 hn hi, Option.bind_some, if_neg (by decide), Option.bind_some, if_pos rfl, get_t hj g2 hn hi, Option.bind_some, set_t hj g2 hn hi]; rfl
        · unfold M_X7_put; rw [isText_ok hj, Option.bind_some, if_neg (by decide), rd_n _ hj (by decide), Option.bind_some, ← g1, g2, if_pos (nI_nonneg (by omega)), Option.bind_some, in7ok (by omega) hi, Option.bind_some, if_neg (by decide), ix80, rd_n _ (by omega) (by decide), Option.bind_some, wrA_n _ _ _ (by omega) (by decide), ← (g3 i (by omega)).1]; rfl
        · obtain ⟨h1, h2, h3, h4, h5, h6⟩ := hR
          refine ⟨h1.cg (same.rf.sA (by simp [fRc]; omega)) (same.rf.sA (by decide)), ?_, h3.cg (same.rf.sA (by simp [fFc]; omega)) (same.rf.sA (by decide)), h4.cg (same.rf.sA (by simp [fQc])) (same.rf.sA (by decide)), h5.cg (same.rf.sA (by simp [fUc])) (same.rf.sA (by decide)), hC _ _ _ _ h6 (same.rf.sA (by simp [fWc]; omega)) (same.rf.sA (by decide))⟩
          intro r hr
          obtain ⟨k1, k2, k3⟩ := h2 r hr
          refine ⟨by rw [sA_ne (by omega), sA_ne (by decide)]; exact k1, by rw [sA_ne (by omega)]; exact k2, fun k hk => ?_⟩
          rw [sA_at]
          by_cases e : r = j
          · subst e
            rw [sA_at]
            unfold upd
            by_cases e2 : k = i
            · subst e2; rw [if_pos rfl, if_pos rfl]; exact ⟨rfl, isB_b a3⟩
            · rw [if_neg e2, if_neg (by omega)]; exact k3 k hk
          · rw [sA_ne (by omega), pk_un (by omega)]
            exact k3 k hk
