/-! rows -/
theorem le5_6 {x : Int32} (h : nI 6 ≤ x) : 5 < x := by
  rw [Int32.le_iff_toInt_le] at h
  rw [Int32.lt_iff_toInt_lt]
  have h1 : (nI 6).toInt = 6 := by decide
  have h2 : (5 : Int32).toInt = 5 := by decide
  omega
theorem le3_4 {x : Int32} (h : nI 4 ≤ x) : 3 < x := by
  rw [Int32.le_iff_toInt_le] at h
  rw [Int32.lt_iff_toInt_lt]
  have h1 : (nI 4).toInt = 4 := by decide
  have h2 : (3 : Int32).toInt = 3 := by decide
  omega
theorem nl (v : Int32) (k : Nat) {j : Nat} (hv : v = nI k) (h : j < k) (hk : k < 2 ^ 31) : ¬ v ≤ nI j := by rw [hv]; exact nI_ge h hk
theorem ng (v : Int32) (k : Nat) {j : Nat} (hv : v = nI k) (h : j ≤ k) (hk : k < 2 ^ 31) : ¬ v < nI j := by rw [hv]; exact nI_nlt h hk
theorem m1_ne {n : Nat} (h : n < 2 ^ 31) : ¬ nI n = -1 := fun e => nI_pos h (by rw [e]; decide)
theorem nI_nonneg {n : Nat} (h : n < 2 ^ 31) : (0 : Int32) ≤ nI n := nI_pos' h
theorem isRow_lo {a : Int32} (h : a < 0) : M_X7_isRow a = some 0 := by
  unfold M_X7_isRow
  rw [show (0 : Int64) = (0 : Int32).toInt64 from rfl, show (5 : Int64) = (5 : Int32).toInt64 from rfl, in7i, if_pos h]; rfl
theorem isRow_hi {a : Int32} (h0 : ¬ a < 0) (h : nI 6 ≤ a) : M_X7_isRow a = some 0 := by
  unfold M_X7_isRow
  rw [show (0 : Int64) = (0 : Int32).toInt64 from rfl, show (5 : Int64) = (5 : Int32).toInt64 from rfl, in7i, if_neg h0, if_pos (le5_6 h)]; rfl
theorem isRow_ok {j : Nat} (h : j < 6) : M_X7_isRow (nI j) = some 1 := by
  unfold M_X7_isRow
  rw [show (0 : Int64) = (0 : Int32).toInt64 from rfl, show (5 : Int64) = (5 : Int32).toInt64 from rfl, in7i, if_neg (nI_pos (by omega)), if_neg (ng 5 5 rfl (by omega) (by decide))]; rfl
def mkC (σ : ST) (j n : Nat) (v : Int32) : ST := setA (setA σ 3 (upd (σ.2.2 3) j (nI n))) (4 + j) (fun i => if i < 40 then v else (setA σ 3 (upd (σ.2.2 3) j (nI n))).2.2 (4 + j) i)
def mkM (τ : ST) (j n : Nat) : ST := setA (setA τ 5 (upd (τ.2.2 5) j (nI n))) 6 (fun k => if 40 * j ≤ k ∧ k < 40 * j + 40 then 0 else τ.2.2 6 k)
section SH
variable {σ : ST}
theorem isN_lo_r {a : Int32} (h : a < 0) : M_X3_isNumber_r σ a = some 0 := by unfold M_X3_isNumber_r; rw [if_pos h]; rfl
theorem isN_hi_r {a : Int32} (h0 : ¬ a < 0) (h : nI 6 ≤ a) : M_X3_isNumber_r σ a = some 0 := by unfold M_X3_isNumber_r; rw [if_neg h0, if_pos (show (6 : Int32) ≤ a from h)]; rfl
theorem isN_ok_r {j : Nat} (h : j < 6) : M_X3_isNumber_r σ (nI j) = some 1 := by unfold M_X3_isNumber_r; rw [if_neg (nI_pos (by omega)), if_neg (nl 6 6 rfl h (by decide))]; rfl
theorem isT_no_r {j : Nat} (h : j < 6) (hs : σ.2.2 3 j = -1) : M_X3_isThere_r σ (nI j) = some 0 := by
  unfold M_X3_isThere_r; rw [isN_ok_r h, Option.bind_some, if_neg (by decide), rd_n _ h (by decide), Option.bind_some, if_pos hs]; rfl
theorem isT_ok_r {j n : Nat} (h : j < 6) (hs : σ.2.2 3 j = nI n) (hn : n ≤ 40) : M_X3_isThere_r σ (nI j) = some 1 := by
  unfold M_X3_isThere_r; rw [isN_ok_r h, Option.bind_some, if_neg (by decide), rd_n _ h (by decide), Option.bind_some, hs, if_neg (m1_ne (by omega))]; rfl
theorem szOf_r {j : Nat} (h : j < 6) : M_X3_sizeOf_r σ (nI j) = some (σ.2.2 3 j) := by
  unfold M_X3_sizeOf_r; rw [isN_ok_r h, Option.bind_some, if_neg (by decide), rd_n _ h (by decide), Option.bind_some]
theorem isP_lo_r {j n : Nat} {a : Int32} (h : j < 6) (hs : σ.2.2 3 j = nI n) (hn : n ≤ 40) (ha : a < 0) : M_X3_isPlace_r σ (nI j) a = some 0 := by
  unfold M_X3_isPlace_r; rw [isT_ok_r h hs hn, Option.bind_some, if_neg (by decide), if_pos ha]; rfl
theorem isP_hi_r {j n : Nat} {a : Int32} (h : j < 6) (hs : σ.2.2 3 j = nI n) (hn : n ≤ 40) (h0 : ¬ a < 0) (ha : nI n ≤ a) : M_X3_isPlace_r σ (nI j) a = some 0 := by
  unfold M_X3_isPlace_r; rw [isT_ok_r h hs hn, Option.bind_some, if_neg (by decide), if_neg h0, rd_n _ h (by decide), Option.bind_some, hs, if_pos ha]; rfl
theorem isP_ok_r {j n i : Nat} (h : j < 6) (hs : σ.2.2 3 j = nI n) (hn : n ≤ 40) (hi : i < n) : M_X3_isPlace_r σ (nI j) (nI i) = some 1 := by
  unfold M_X3_isPlace_r; rw [isT_ok_r h hs hn, Option.bind_some, if_neg (by decide), if_neg (nI_pos (by omega)), rd_n _ h (by decide), Option.bind_some, hs, if_neg (nI_ge hi (by omega))]; rfl
theorem get_r {j n i : Nat} (h : j < 6) (hs : σ.2.2 3 j = nI n) (hn : n ≤ 40) (hi : i < n) : M_X3_get_r σ (nI j) (nI i) = some (σ.2.2 (4 + j) i) := by
  unfold M_X3_get_r; rw [isP_ok_r h hs hn hi, Option.bind_some, if_neg (by decide), inR_n h (by decide), Option.bind_some, rd_n _ (by omega) (by decide), Option.bind_some]
theorem set_r {j n i : Nat} {v : Int32} (h : j < 6) (hs : σ.2.2 3 j = nI n) (hn : n ≤ 40) (hi : i < n) : M_X3_set_r σ (nI j) (nI i) v = some (setA σ (4 + j) (upd (σ.2.2 (4 + j)) i v)) := by
  unfold M_X3_set_r; rw [isP_ok_r h hs hn hi, Option.bind_some, if_neg (by decide), inR_n h (by decide), Option.bind_some, wrA_n _ _ _ (by omega) (by decide), Option.bind_some]
theorem drop_r {j : Nat} (h : j < 6) : M_X3_drop_r σ (nI j) = some (setA σ 3 (upd (σ.2.2 3) j (-1))) := by
  unfold M_X3_drop_r; rw [isN_ok_r h, Option.bind_some, if_neg (by decide), wrA_n _ _ _ h (by decide), Option.bind_some]
theorem make_r {j n : Nat} {v : Int32} (h : j < 6) (hn : n ≤ 40) : M_X3_make_r σ (nI j) (nI n) v = some (mkC σ j n v) := by
  unfold M_X3_make_r
  rw [isN_ok_r h, Option.bind_some, if_neg (by decide), if_neg (nI_pos (by omega)), if_neg (ng 40 40 rfl hn (by decide)), wrA_n _ _ _ h (by decide), Option.bind_some, inR_n h (by decide), Option.bind_some]
  unfold fillA
  rw [Option.bind_some]
  rfl
end SH
/-- a finding -/
theorem refuse_c (σ : ST) {k : Nat} {v : Int32} (hv : v = nI k) (hk : k < 6) : M_X6_refuse σ v = some (-3, setA (setI σ 7 v) 42 (upd (σ.2.2 42) k (σ.2.2 42 k + 1))) := by
  subst hv
  unfold M_X6_refuse
  rw [Option.bind_some, rd_n _ hk (by decide), Option.bind_some, wrA_n _ _ _ hk (by decide), Option.bind_some]; rfl
theorem find_m (τ : ST) {k : Nat} {v : Int32} (hv : v = nI k) (hk : k < 6) : M_X7_find τ v = some (-3, setA (setI τ 15 v) 9 (upd (τ.2.2 9) k (τ.2.2 9 k + 1))) := by
  subst hv
  unfold M_X7_find
  rw [Option.bind_some, rd_n _ hk (by decide), Option.bind_some, wrA_n _ _ _ hk (by decide), Option.bind_some]; rfl
theorem refuse_ok {Wl : ST → ST → Prop} (hC : Cg Wl) {σ τ : ST} (h : RelG Wl σ τ) {k : Nat} {v : Int32} (hv : v = nI k) (hk : k < 6) : ∃ σ' τ', M_X6_refuse σ v = some (-3, σ') ∧ M_X7_find τ v = some (-3, τ') ∧ RelG Wl σ' τ' := by
  refine ⟨_, _, refuse_c σ hv hk, find_m τ hv hk, ?_⟩
  obtain ⟨h1, h2, h3, h4, h5, h6⟩ := h
  refine ⟨h1.cg ((same.rf.sI (by decide)).sA (by decide)) ((same.rf.sI (by decide)).sA (by decide)), h2.cg ((same.rf.sI (by decide)).sA (by decide)) ((same.rf.sI (by decide)).sA (by decide)), ?_, h4.cg ((same.rf.sI (by decide)).sA (by decide)) ((same.rf.sI (by decide)).sA (by decide)), h5.cg ((same.rf.sI (by decide)).sA (by decide)) ((same.rf.sI (by decide)).sA (by decide)), hC _ _ _ _ h6 ((same.rf.sI (by decide)).sA (by decide)) ((same.rf.sI (by decide)).sA (by decide))⟩
  refine ⟨rfl, fun i hi => ?_⟩
  rw [sA_at, sA_at]
  unfold upd
  rw [h3.2 i hi, h3.2 k hk]
theorem refusalOf_lo_r {σ : ST} {a : Int32} (h : a < 0) : M_X6_refusalOf_r σ a = some (-1, σ) := by unfold M_X6_refusalOf_r; rw [isN_lo_r h, Option.bind_some, if_pos rfl]
theorem refusalOf_hi_r {σ : ST} {a : Int32} (h0 : ¬ a < 0) (h : nI 6 ≤ a) : M_X6_refusalOf_r σ a = some (-1, σ) := by unfold M_X6_refusalOf_r; rw [isN_hi_r h0 h, Option.bind_some, if_pos rfl]
theorem refusalOf_no_r {σ : ST} {j : Nat} (h : j < 6) (hs : σ.2.2 3 j = -1) : M_X6_refusalOf_r σ (nI j) = M_X6_refuse σ 1 := by
  unfold M_X6_refusalOf_r; rw [isN_ok_r h, Option.bind_some, if_neg (by decide), isT_no_r h hs, Option.bind_some, if_pos rfl, refuse_c σ (k := 1) (v := 1) rfl (by decide)]; rfl
theorem refusalOf_ok_r {σ : ST} {j n : Nat} (h : j < 6) (hs : σ.2.2 3 j = nI n) (hn : n ≤ 40) : M_X6_refusalOf_r σ (nI j) = some (0, σ) := by
  unfold M_X6_refusalOf_r; rw [isN_ok_r h, Option.bind_some, if_neg (by decide), isT_ok_r h hs hn, Option.bind_some, if_neg (by decide)]
/-- places in the reference's items -/
theorem ix40 (j i : Nat) : (40 : Int32) * nI j + nI i = nI (40 * j + i) := by rw [show (40 : Int32) = nI 40 from rfl, pk_mul, nI_add]
theorem makeRow_9 {j : Nat} (hj : j < 6) : ∀ (m n i : Nat) (τ : ST), i + m = 40 → m < n → M_X7_makeRow_9 n τ (nI j) (nI i) = some (setA τ 6 (fun k => if 40 * j + i ≤ k ∧ k < 40 * j + 40 then 0 else τ.2.2 6 k))
  | 0, n + 1, i, τ, hi, _ => by
    rw [M_X7_makeRow_9, if_pos (by rw [show (40 : Int32) = nI 40 from rfl]; exact nI_le (by omega) (by omega))]
    have e : (fun k => if 40 * j + i ≤ k ∧ k < 40 * j + 40 then 0 else τ.2.2 6 k) = τ.2.2 6 := funext fun k => if_neg (by omega)
    rw [e, setA_self]
  | m + 1, n + 1, i, τ, hi, hn => by
    rw [M_X7_makeRow_9, if_neg (nl 40 40 rfl (by omega) (by decide)), ix40, wrA_n _ _ _ (by omega) (by decide), Option.bind_some, nI_1, makeRow_9 hj m n (i + 1) _ (by omega) (by omega), setA_setA, setA_at]
    congr 2
    funext k
    unfold upd
    by_cases h1 : k = 40 * j + i
    · subst h1
      rw [if_neg (by omega), if_pos rfl, if_pos (by omega)]
    · by_cases h2 : 40 * j + (i + 1) ≤ k ∧ k < 40 * j + 40
      · rw [if_pos h2, if_pos (by omega)]
      · rw [if_neg h2, if_neg h1, if_neg (by omega)]
theorem makeRow_m {j n : Nat} (hj : j < 6) (τ : ST) : M_X7_makeRow τ (nI j) (nI n) = some (mkM τ j n) := by
  unfold M_X7_makeRow mkM
  rw [wrA_n _ _ _ hj (by decide), Option.bind_some, show (0 : Int32) = nI 0 from rfl, makeRow_9 hj 40 10000 0 _ (by decide) (by decide)]
  congr 2
/-- a row is there anew: both sides -/
theorem rlR_make {σ τ : ST} (h : rlR σ τ) {j n : Nat} (hj : j < 6) (hn : n ≤ 40) : rlR (setA (setA σ 3 (upd (σ.2.2 3) j (nI n))) (4 + j) (fun i => if i < 40 then 0 else (setA σ 3 (upd (σ.2.2 3) j (nI n))).2.2 (4 + j) i)) (setA (setA τ 5 (upd (τ.2.2 5) j (nI n))) 6 (fun k => if 40 * j ≤ k ∧ k < 40 * j + 40 then 0 else τ.2.2 6 k)) := by
  intro r hr
  obtain ⟨g1, g2, g3⟩ := h r hr
  have e1 : (setA (setA σ 3 (upd (σ.2.2 3) j (nI n))) (4 + j) (fun i => if i < 40 then 0 else (setA σ 3 (upd (σ.2.2 3) j (nI n))).2.2 (4 + j) i)).2.2 3 = upd (σ.2.2 3) j (nI n) := by rw [sA_ne (by omega), sA_at]
  have e2 : (setA (setA τ 5 (upd (τ.2.2 5) j (nI n))) 6 (fun k => if 40 * j ≤ k ∧ k < 40 * j + 40 then 0 else τ.2.2 6 k)).2.2 5 = upd (τ.2.2 5) j (nI n) := by rw [sA_ne (by decide), sA_at]
  rw [e1, e2, sA_at]
  by_cases e : r = j
  · subst e
    refine ⟨by rw [pk_us, pk_us], by rw [pk_us]; exact Or.inr ⟨n, hn, rfl⟩, fun i hi => ?_⟩
    rw [sA_at, if_pos hi, if_pos (by omega)]
  · refine ⟨by rw [pk_un e, pk_un e]; exact g1, by rw [pk_un e]; exact g2, fun i hi => ?_⟩
    rw [sA_ne (by omega), sA_ne (by omega), if_neg (by omega)]
    exact g3 i hi
theorem szNn {x : Int32} (h0 : 0 ≤ x) (m : Nat) {v : Int32} (hv : v = nI m) (hm : m < 2 ^ 31) (h : x ≤ v) : ∃ n, n ≤ m ∧ x = nI n := nI_of2 (M := v) (by rw [hv, nI_toInt hm]) (fun q => by rw [Int32.lt_iff_toInt_lt] at q; rw [Int32.le_iff_toInt_le] at h0; omega) h
theorem pure_row {Wl : ST → ST → Prop} (hC : Cg Wl) : P_row (RelG Wl) := by
  intro σ τ a1 a2 hR
  rcases i3 a1 (n := 6) (by decide) with h | ⟨h, h'⟩ | ⟨j, hj, rfl⟩
  · refine ⟨-1, σ, τ, ?_, ?_, hR⟩
    · unfold M_X6_row M_X6_makeOn_r; rw [isN_lo_r h, Option.bind_some, if_pos rfl]; rfl
    · unfold M_X7_row; rw [isRow_lo h, Option.bind_some, if_pos rfl]
  · refine ⟨-1, σ, τ, ?_, ?_, hR⟩
    · unfold M_X6_row M_X6_makeOn_r; rw [isN_hi_r h h', Option.bind_some, if_pos rfl]; rfl
    · unfold M_X7_row; rw [isRow_hi h h', Option.bind_some, if_pos rfl]
  · by_cases h40 : a2 ≤ 40
    · by_cases h0 : 0 ≤ a2
      · obtain ⟨n, hn, rfl⟩ := szNn h0 40 rfl (by decide) h40
        refine ⟨nI n, mkC σ j n 0, mkM τ j n, ?_, ?_, ?_⟩
        · unfold M_X6_row M_X6_makeOn_r; rw [isN_ok_r hj, Option.bind_some, if_neg (by decide), if_pos h40, if_pos h0, make_r hj hn, Option.bind_some, Option.bind_some]
        · unfold M_X7_row; rw [isRow_ok hj, Option.bind_some, if_neg (by decide), if_pos h40, if_pos h0, makeRow_m hj, Option.bind_some]
        · obtain ⟨h1, h2, h3, h4, h5, h6⟩ := hR
          unfold mkC mkM
          refine ⟨rlR_make h1 hj hn, h2.cg ?_ ?_, h3.cg ?_ ?_, h4.cg ?_ ?_, h5.cg ?_ ?_, hC _ _ _ _ h6 ?_ ?_⟩ <;> exact (same.rf.sA (by decide)).sA (by simp [fTc, fTm, fFc, fFm, fQc, fQm, fUc, fUm, fWc, fWm]; try omega)
      · obtain ⟨σ', τ', e1, e2, e3⟩ := refuse_ok hC hR (k := 5) (v := 5) rfl (by decide)
        refine ⟨-3, σ', τ', ?_, ?_, e3⟩
        · unfold M_X6_row M_X6_makeOn_r; rw [isN_ok_r hj, Option.bind_some, if_neg (by decide), if_pos h40, if_neg h0, e1]; rfl
        · unfold M_X7_row; rw [isRow_ok hj, Option.bind_some, if_neg (by decide), if_pos h40, if_neg h0, e2]; rfl
    · refine ⟨-1, σ, τ, ?_, ?_, hR⟩
      · unfold M_X6_row M_X6_makeOn_r; rw [isN_ok_r hj, Option.bind_some, if_neg (by decide), if_neg h40]; rfl
      · unfold M_X7_row; rw [isRow_ok hj, Option.bind_some, if_neg (by decide), if_neg h40]
