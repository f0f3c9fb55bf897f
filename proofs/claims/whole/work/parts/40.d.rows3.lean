/-! mean, copy -/
def sumL (f : Nat → Int32) : Nat → Nat → Int64 → Int64
  | 0, _, acc => acc
  | m + 1, i, acc => sumL f m (i + 1) (acc + (f i).toInt64)
theorem sumL_cg {f g : Nat → Int32} : ∀ (m i : Nat) (acc : Int64), (∀ k, i ≤ k → k < i + m → f k = g k) → sumL f m i acc = sumL g m i acc
  | 0, _, _, _ => rfl
  | m + 1, i, acc, h => by
    rw [sumL, sumL, h i (by omega) (by omega)]
    exact sumL_cg m (i + 1) _ (fun k h1 h2 => h k (by omega) (by omega))
theorem sumOf_5 {σ : ST} {j n : Nat} (hj : j < 6) (hs : σ.2.2 3 j = nI n) (hn : n ≤ 40) : ∀ (m fu i : Nat) (acc : Int64), i + m = n → m < fu → M_X3_sumOf_r_5 σ fu (nI j) acc (nI i) = some (sumL (σ.2.2 (4 + j)) m i acc)
  | 0, fu + 1, i, acc, hi, _ => by
    rw [M_X3_sumOf_r_5, szOf_r hj, Option.bind_some, hs, if_pos (nI_le (by omega) (by omega)), sumL]
  | m + 1, fu + 1, i, acc, hi, hf => by
    rw [M_X3_sumOf_r_5, szOf_r hj, Option.bind_some, hs, if_neg (nI_ge (by omega) (by omega)), get_r hj hs hn (by omega), Option.bind_some, nI_1, sumOf_5 hj hs hn m fu (i + 1) _ (by omega) (by omega), sumL]
theorem mean_44 {τ : ST} {j n : Nat} (hj : j < 6) (hs : τ.2.2 5 j = nI n) (hn : n ≤ 40) : ∀ (m fu i : Nat) (acc : Int64), i + m = n → m < fu → M_X7_mean_44 fu τ (nI j) acc (nI i) = (dvL (sumL (fun i => τ.2.2 6 (40 * j + i)) m i acc) (nI n).toInt64).bind fun v86 => (M_X7_tell τ v86.toInt32).bind fun o88 => some (o88.1, o88.2)
  | 0, fu + 1, i, acc, hi, _ => by
    rw [M_X7_mean_44, rd_n _ hj (by decide), Option.bind_some, hs, if_pos (nI_le (by omega) (by omega)), Option.bind_some, sumL]
  | m + 1, fu + 1, i, acc, hi, hf => by
    rw [M_X7_mean_44, rd_n _ hj (by decide), Option.bind_some, hs, if_neg (nI_ge (by omega) (by omega)), ix40, rd_n _ (by omega) (by decide), Option.bind_some, nI_1, mean_44 hj hs hn m fu (i + 1) _ (by omega) (by omega), sumL]
theorem nI_l0 {n : Nat} (h0 : 0 < n) (h : n < 2 ^ 31) : ¬ (nI n).toInt64 = 0 := by
  intro e
  have := congrArg Int64.toInt e
  rw [Int32.toInt_toInt64, nI_toInt h] at this
  have h2 : (0 : Int64).toInt = 0 := by decide
  omega
theorem pure_mean {Wl : ST → ST → Prop} (hC : Cg Wl) : P_mean (RelG Wl) := by
  intro σ τ a1 hR
  rcases i3 a1 (n := 6) (by decide) with h | ⟨h, h'⟩ | ⟨j, hj, rfl⟩
  · refine ⟨-1, σ, τ, ?_, ?_, hR⟩
    · unfold M_X6_mean; rw [refusalOf_lo_r h, Option.bind_some, if_neg nz1]
    · unfold M_X7_mean; rw [isRow_lo h, Option.bind_some, if_pos rfl]
  · refine ⟨-1, σ, τ, ?_, ?_, hR⟩
    · unfold M_X6_mean; rw [refusalOf_hi_r h h', Option.bind_some, if_neg nz1]
    · unfold M_X7_mean; rw [isRow_hi h h', Option.bind_some, if_pos rfl]
  · obtain ⟨g1, g2, g3⟩ := hR.1 j hj
    rcases g2 with g2 | ⟨n, hn, g2⟩
    · obtain ⟨σ', τ', e1, e2, e3⟩ := refuse_ok hC hR (k := 1) (v := 1) rfl (by decide)
      refine ⟨-3, σ', τ', ?_, ?_, e3⟩
      · unfold M_X6_mean; rw [refusalOf_no_r hj g2, e1, Option.bind_some, if_neg nz3]
      · unfold M_X7_mean; rw [isRow_ok hj, Option.bind_some, if_neg (by decide), rd_n _ hj (by decide), Option.bind_some, ← g1, g2, if_neg n0m1, e2]; rfl
    · rcases Nat.eq_zero_or_pos n with h0 | h0
      · subst h0
        obtain ⟨σ', τ', e1, e2, e3⟩ := refuse_ok hC hR (k := 4) (v := 4) rfl (by decide)
        refine ⟨-3, σ', τ', ?_, ?_, e3⟩
        · unfold M_X6_mean; rw [refusalOf_ok_r hj g2 hn, Option.bind_some, if_pos rfl, szOf_r hj, Option.bind_some, g2, if_neg (by decide), e1]; rfl
        · unfold M_X7_mean; rw [isRow_ok hj, Option.bind_some, if_neg (by decide), rd_n _ hj (by decide), Option.bind_some, ← g1, g2, if_pos (nI_nonneg (by omega)), Option.bind_some, if_pos (by decide), e2]; rfl
      · have gt : τ.2.2 5 j = nI n := g1 ▸ g2
        have es : sumL (fun i => τ.2.2 6 (40 * j + i)) n 0 0 = sumL (σ.2.2 (4 + j)) n 0 0 := sumL_cg n 0 0 (fun k _ h2 => (g3 k (by omega)).symm)
        have ed : dvL (sumL (σ.2.2 (4 + j)) n 0 0) (nI n).toInt64 = some (sumL (σ.2.2 (4 + j)) n 0 0 / (nI n).toInt64) := by unfold dvL; rw [if_neg (nI_l0 h0 (by omega))]
        refine ⟨1, setI σ 8 (sumL (σ.2.2 (4 + j)) n 0 0 / (nI n).toInt64).toInt32, setI τ 12 (sumL (σ.2.2 (4 + j)) n 0 0 / (nI n).toInt64).toInt32, ?_, ?_, hR.ask hC _⟩
        · have hsum : M_X3_sumOf_r σ (nI j) = some (sumL (σ.2.2 (4 + j)) n 0 0) := sumOf_5 hj g2 hn n 10000 0 0 (by omega) (by omega)
          unfold M_X6_mean
          rw [refusalOf_ok_r hj g2 hn, Option.bind_some, if_pos rfl, szOf_r hj, Option.bind_some, g2, if_pos (show (0 : Int32) < nI n from nI_lt (a := 0) h0 (by omega)), hsum, Option.bind_some, ed]; rfl
        · unfold M_X7_mean
          rw [isRow_ok hj, Option.bind_some, if_neg (by decide), rd_n _ hj (by decide), Option.bind_some, gt, if_pos (nI_nonneg (by omega)), Option.bind_some, if_neg (nI_ne0 h0 (by omega)), show (0 : Int32) = nI 0 from rfl, mean_44 hj gt hn n 10000 0 0 (by omega) (by omega), es, ed]; rfl
/-- copying: k of m places are there -/
def cpF (f : Nat → Int32) (S D k : Nat) : Nat → Int32 := fun q => if D ≤ q ∧ q < D + k then f (S + (q - D)) else f q
def cpB (f : Nat → Int32) (S D m k : Nat) : Nat → Int32 := fun q => if D + (m - k) ≤ q ∧ q < D + m then f (S + (q - D)) else f q
theorem copyF {τ : ST} {j t i i2 m : Nat} (hj : j < 6) (ht : t < 6) (h1 : i + m ≤ 40) (h2 : i2 + m ≤ 40) (hl : i2 ≤ i) : ∀ (r fu k : Nat), k + r = m → r < fu →
    M_X7_copy_96 fu (setA τ 6 (cpF (τ.2.2 6) (40 * j + i) (40 * t + i2) k)) (nI j) (nI i) (nI t) (nI i2) (nI m) 0 (nI k) = some (1, setA τ 6 (cpF (τ.2.2 6) (40 * j + i) (40 * t + i2) m))
  | 0, fu + 1, k, hk, _ => by
    rw [M_X7_copy_96, if_pos (nI_le (by omega) (by omega)), show k = m by omega]
  | r + 1, fu + 1, k, hk, hf => by
    have e1 : cpF (τ.2.2 6) (40 * j + i) (40 * t + i2) k (40 * j + i + k) = τ.2.2 6 (40 * j + i + k) := by
      unfold cpF
      rcases Nat.lt_trichotomy j t with q | q | q
      · rw [if_neg (by omega)]
      · subst q; rw [if_neg (by omega)]
      · rw [if_neg (by omega)]
    have e2 : upd (cpF (τ.2.2 6) (40 * j + i) (40 * t + i2) k) (40 * t + i2 + k) (τ.2.2 6 (40 * j + i + k)) = cpF (τ.2.2 6) (40 * j + i) (40 * t + i2) (k + 1) := by
      funext q
      unfold upd cpF
      by_cases c1 : q = 40 * t + i2 + k
      · subst c1
        rw [if_pos rfl, if_pos (by omega), show 40 * t + i2 + k - (40 * t + i2) = k by omega]
      · rw [if_neg c1]
        by_cases c2 : 40 * t + i2 ≤ q ∧ q < 40 * t + i2 + k
        · rw [if_pos c2, if_pos (by omega)]
        · rw [if_neg c2, if_neg (by omega)]
    rw [M_X7_copy_96, if_neg (nI_ge (by omega) (by omega)), if_pos rfl]
    unfold M_X7_copy_120
    rw [ix40, nI_add, rd_n _ (by omega) (by decide), Option.bind_some, ix40, nI_add, wrA_n _ _ _ (by omega) (by decide), Option.bind_some, sA_at, setA_setA, e1, e2, nI_1]
    exact copyF hj ht h1 h2 hl r fu (k + 1) (by omega) (by omega)
theorem copyB {τ : ST} {j t i i2 m : Nat} (hj : j < 6) (ht : t < 6) (h1 : i + m ≤ 40) (h2 : i2 + m ≤ 40) (hl : i < i2) : ∀ (r fu k : Nat), k + r = m → r < fu →
    M_X7_copy_96 fu (setA τ 6 (cpB (τ.2.2 6) (40 * j + i) (40 * t + i2) m k)) (nI j) (nI i) (nI t) (nI i2) (nI m) 1 (nI k) = some (1, setA τ 6 (cpF (τ.2.2 6) (40 * j + i) (40 * t + i2) m))
  | 0, fu + 1, k, hk, _ => by
    have e : cpB (τ.2.2 6) (40 * j + i) (40 * t + i2) m k = cpF (τ.2.2 6) (40 * j + i) (40 * t + i2) m := by
      unfold cpB cpF; rw [show m - k = 0 by omega]; rfl
    rw [M_X7_copy_96, if_pos (nI_le (by omega) (by omega)), e]
  | r + 1, fu + 1, k, hk, hf => by
    have e1 : cpB (τ.2.2 6) (40 * j + i) (40 * t + i2) m k (40 * j + i + (m - 1 - k)) = τ.2.2 6 (40 * j + i + (m - 1 - k)) := by
      unfold cpB
      rcases Nat.lt_trichotomy j t with q | q | q
      · rw [if_neg (by omega)]
      · subst q; rw [if_neg (by omega)]
      · rw [if_neg (by omega)]
    have e2 : upd (cpB (τ.2.2 6) (40 * j + i) (40 * t + i2) m k) (40 * t + i2 + (m - 1 - k)) (τ.2.2 6 (40 * j + i + (m - 1 - k))) = cpB (τ.2.2 6) (40 * j + i) (40 * t + i2) m (k + 1) := by
      funext q
      unfold upd cpB
      by_cases c1 : q = 40 * t + i2 + (m - 1 - k)
      · subst c1
        rw [if_pos rfl, if_pos (by omega), show 40 * t + i2 + (m - 1 - k) - (40 * t + i2) = m - 1 - k by omega]
      · rw [if_neg c1]
        by_cases c2 : 40 * t + i2 + (m - k) ≤ q ∧ q < 40 * t + i2 + m
        · rw [if_pos c2, if_pos (by omega)]
        · rw [if_neg c2, if_neg (by omega)]
    have e3 : nI m - 1 - nI k = nI (m - 1 - k) := by
      rw [show (1 : Int32) = nI 1 from rfl, pk_sub (by omega), pk_sub (by omega)]
    rw [M_X7_copy_96, if_neg (nI_ge (by omega) (by omega)), if_neg (by decide), e3]
    unfold M_X7_copy_120
    rw [ix40, nI_add, rd_n _ (by omega) (by decide), Option.bind_some, ix40, nI_add, wrA_n _ _ _ (by omega) (by decide), Option.bind_some, sA_at, setA_setA, e1, e2, nI_1]
    exact copyB hj ht h1 h2 hl r fu (k + 1) (by omega) (by omega)
theorem cpF0 (f : Nat → Int32) (S D : Nat) : cpF f S D 0 = f := funext fun q => if_neg (by omega)
theorem cpB0 (f : Nat → Int32) (S D m : Nat) : cpB f S D m 0 = f := funext fun q => if_neg (by omega)
theorem copy_m {τ : ST} {j t i i2 m : Nat} (hj : j < 6) (ht : t < 6) (h1 : i + m ≤ 40) (h2 : i2 + m ≤ 40) : (if nI i2 ≤ nI i then M_X7_copy_96 10000 τ (nI j) (nI i) (nI t) (nI i2) (nI m) 0 0 else M_X7_copy_96 10000 τ (nI j) (nI i) (nI t) (nI i2) (nI m) 1 0) = some (1, setA τ 6 (cpF (τ.2.2 6) (40 * j + i) (40 * t + i2) m)) := by
  rcases Nat.lt_or_ge i i2 with q | q
  · rw [if_neg (nI_ge q (by omega))]
    have h := copyB (τ := τ) hj ht h1 h2 q m 10000 0 (by omega) (by omega)
    rw [cpB0, setA_self] at h
    exact h
  · rw [if_pos (nI_le q (by omega))]
    have h := copyF (τ := τ) hj ht h1 h2 q m 10000 0 (by omega) (by omega)
    rw [cpF0, setA_self] at h
    exact h
/-- a run of places: class, reference -/
theorem run_r {σ τ : ST} {j n : Nat} (hj : j < 6) (hs : σ.2.2 3 j = nI n) (ht : τ.2.2 5 j = nI n) (hn : n ≤ 40) (a b : Int32) (hb : 0 ≤ b) :
    (M_X3_hasRun_r σ (nI j) a b = some 0 ∧ M_X7_isSpan τ (nI j) a b = some 0) ∨ (∃ i m, i + m ≤ n ∧ a = nI i ∧ b = nI m ∧ M_X3_hasRun_r σ (nI j) a b = some 1 ∧ M_X7_isSpan τ (nI j) a b = some 1) := by
  have hb0 : ¬ b < 0 := Int32.not_lt.mpr hb
  have hbi : 0 ≤ b.toInt := by rw [Int32.le_iff_toInt_le] at hb; exact hb
  have hbu : b.toInt < 2 ^ 31 := Int32.toInt_lt b
  have c : M_X3_hasRun_r σ (nI j) a b = if a < 0 then some 0 else if nI n - b < a then some 0 else some 1 := by
    unfold M_X3_hasRun_r
    rw [isT_ok_r hj hs hn, Option.bind_some, if_neg (by decide), if_neg hb0]
    by_cases h : a < 0
    · rw [if_pos h, if_pos h]; rfl
    · rw [if_neg h, if_neg h, rd_n _ hj (by decide), Option.bind_some, hs]; rfl
  have m : M_X7_isSpan τ (nI j) a b = if a < 0 then some 0 else if (nI n).toInt64 < a.toInt64 + b.toInt64 then some 0 else some 1 := by
    unfold M_X7_isSpan
    by_cases h : a < 0
    · rw [if_pos h, if_pos h]; rfl
    · rw [if_neg h, if_neg h, rd_n _ hj (by decide), Option.bind_some, ht]
      by_cases h2 : (nI n).toInt64 < a.toInt64 + b.toInt64
      · rw [if_pos h2, if_pos ((lgc_gt _ _).mpr h2)]; rfl
      · rw [if_neg h2, if_neg (fun q => h2 ((lgc_gt _ _).mp q))]; rfl
  rw [c, m]
  by_cases h : a < 0
  · rw [if_pos h, if_pos h]; exact Or.inl ⟨rfl, rfl⟩
  · rw [if_neg h, if_neg h]
    have hai : 0 ≤ a.toInt := by rw [Int32.lt_iff_toInt_lt] at h; have : (0 : Int32).toInt = 0 := by decide
                                 omega
    have hau : a.toInt < 2 ^ 31 := Int32.toInt_lt a
    have e1 : (nI n - b).toInt = (n : Int) - b.toInt := by
      rw [Int32.toInt_sub, nI_toInt (by omega)]
      exact Int.bmod_eq_of_le (by omega) (by omega)
    have e2 : (a.toInt64 + b.toInt64).toInt = a.toInt + b.toInt := by
      rw [Int64.toInt_add, Int32.toInt_toInt64, Int32.toInt_toInt64]
      exact Int.bmod_eq_of_le (by omega) (by omega)
    have q1 : (nI n - b < a) ↔ (n : Int) < a.toInt + b.toInt := by rw [Int32.lt_iff_toInt_lt, e1]; omega
    have q2 : ((nI n).toInt64 < a.toInt64 + b.toInt64) ↔ (n : Int) < a.toInt + b.toInt := by rw [Int64.lt_iff_toInt_lt, e2, Int32.toInt_toInt64, nI_toInt (by omega)]
    by_cases h2 : (n : Int) < a.toInt + b.toInt
    · rw [if_pos (q1.mpr h2), if_pos (q2.mpr h2)]; exact Or.inl ⟨rfl, rfl⟩
    · rw [if_neg (fun z => h2 (q1.mp z)), if_neg (fun z => h2 (q2.mp z))]
      obtain ⟨i, hi, rfl⟩ := nI_of h
      obtain ⟨k, hk, rfl⟩ := nI_of hb0
      rw [nI_toInt hi, nI_toInt hk] at h2
      exact Or.inr ⟨i, k, by omega, rfl, rfl, rfl, rfl⟩
theorem pure_copy {Wl : ST → ST → Prop} (hC : Cg Wl) : P_copy (RelG Wl) := by
  intro σ τ a1 a2 a3 a4 a5 hR
  rcases i3 a1 (n := 6) (by decide) with h | ⟨h, h'⟩ | ⟨j, hj, rfl⟩
  · refine ⟨-1, σ, τ, ?_, ?_, hR⟩
    · unfold M_X6_copy; rw [isN_lo_r h, Option.bind_some, if_pos rfl]
    · unfold M_X7_copy; rw [isRow_lo h, Option.bind_some, if_pos rfl]
  · refine ⟨-1, σ, τ, ?_, ?_, hR⟩
    · unfold M_X6_copy; rw [isN_hi_r h h', Option.bind_some, if_pos rfl]
    · unfold M_X7_copy; rw [isRow_hi h h', Option.bind_some, if_pos rfl]
  rcases i3 a3 (n := 6) (by decide) with h | ⟨h, h'⟩ | ⟨t, ht, rfl⟩
  · refine ⟨-1, σ, τ, ?_, ?_, hR⟩
    · unfold M_X6_copy; rw [isN_ok_r hj, Option.bind_some, if_neg (by decide), isN_lo_r h, Option.bind_some, if_pos rfl]
    · unfold M_X7_copy; rw [isRow_ok hj, Option.bind_some, if_neg (by decide), isRow_lo h, Option.bind_some, if_pos rfl]
  · refine ⟨-1, σ, τ, ?_, ?_, hR⟩
    · unfold M_X6_copy; rw [isN_ok_r hj, Option.bind_some, if_neg (by decide), isN_hi_r h h', Option.bind_some, if_pos rfl]
    · unfold M_X7_copy; rw [isRow_ok hj, Option.bind_some, if_neg (by decide), isRow_hi h h', Option.bind_some, if_pos rfl]
  have c0 : M_X6_copy σ (nI j) a2 (nI t) a4 a5 = if 0 ≤ a5 then (M_X3_isThere_r σ (nI j)).bind fun o40 => if o40 = 0 then M_X6_copy_57 σ else (M_X3_isThere_r σ (nI t)).bind fun o51 => if o51 = 0 then M_X6_copy_57 σ else (M_X3_hasRun_r σ (nI j) a2 a5).bind fun o71 => if o71 = 0 then M_X6_copy_92 σ else (M_X3_hasRun_r σ (nI t) a4 a5).bind fun o86 => if o86 = 0 then M_X6_copy_92 σ else (M_X3_move_r σ (nI j) a2 (nI t) a4 a5).bind fun o109 => some (1, o109) else (M_X6_refuse σ 5).bind fun o31 => some (o31.1, o31.2) := by
    unfold M_X6_copy; rw [isN_ok_r hj, Option.bind_some, if_neg (by decide), isN_ok_r ht, Option.bind_some, if_neg (by decide)]
  have m0 : M_X7_copy τ (nI j) a2 (nI t) a4 a5 = if 0 ≤ a5 then if τ.2.2 5 j < 0 then M_X7_copy_45 τ else if 0 ≤ τ.2.2 5 t then (M_X7_isSpan τ (nI j) a2 a5).bind fun o56 => if o56 = 0 then M_X7_copy_74 τ else (M_X7_isSpan τ (nI t) a4 a5).bind fun o68 => if o68 = 0 then M_X7_copy_74 τ else if a4 ≤ a2 then M_X7_copy_96 10000 τ (nI j) a2 (nI t) a4 a5 0 0 else M_X7_copy_96 10000 τ (nI j) a2 (nI t) a4 a5 1 0 else M_X7_copy_45 τ else (M_X7_find τ 5).bind fun o23 => some (o23.1, o23.2) := by
    unfold M_X7_copy; rw [isRow_ok hj, Option.bind_some, if_neg (by decide), isRow_ok ht, Option.bind_some, if_neg (by decide), rd_n _ hj (by decide), Option.bind_some, rd_n _ ht (by decide), Option.bind_some]
  rw [c0, m0]
  by_cases h5 : 0 ≤ a5
  · rw [if_pos h5, if_pos h5]
    obtain ⟨σ', τ', e1, e2, e3⟩ := refuse_ok hC hR (k := 1) (v := 1) rfl (by decide)
    obtain ⟨σ2, τ2, f1, f2, f3⟩ := refuse_ok hC hR (k := 2) (v := 2) rfl (by decide)
    have n57 : M_X6_copy_57 σ = some (-3, σ') := by unfold M_X6_copy_57; rw [e1]; rfl
    have n45 : M_X7_copy_45 τ = some (-3, τ') := by unfold M_X7_copy_45; rw [e2]; rfl
    have n92 : M_X6_copy_92 σ = some (-3, σ2) := by unfold M_X6_copy_92; rw [f1]; rfl
    have n74 : M_X7_copy_74 τ = some (-3, τ2) := by unfold M_X7_copy_74; rw [f2]; rfl
    obtain ⟨g1, g2, g3⟩ := hR.1 j hj
    obtain ⟨k1, k2, k3⟩ := hR.1 t ht
    rcases g2 with g2 | ⟨n, hn, g2⟩
    · exact ⟨-3, σ', τ', by rw [isT_no_r hj g2, Option.bind_some, if_pos rfl, n57], by rw [← g1, g2, if_pos (by decide), n45], e3⟩
    rcases k2 with k2 | ⟨n2, hn2, k2⟩
    · exact ⟨-3, σ', τ', by rw [isT_ok_r hj g2 hn, Option.bind_some, if_neg (by decide), isT_no_r ht k2, Option.bind_some, if_pos rfl, n57], by rw [← g1, g2, if_neg (nI_pos (by omega)), ← k1, k2, if_neg n0m1, n45], e3⟩
    rw [isT_ok_r hj g2 hn, Option.bind_some, if_neg (by decide), isT_ok_r ht k2 hn2, Option.bind_some, if_neg (by decide), ← g1, g2, if_neg (nI_pos (by omega)), ← k1, k2, if_pos (nI_nonneg (by omega))]
    have gt : τ.2.2 5 j = nI n := g1 ▸ g2
    have kt : τ.2.2 5 t = nI n2 := k1 ▸ k2
    rcases run_r hj g2 gt hn a2 a5 h5 with ⟨r1, r2⟩ | ⟨i, m, him, rfl, rfl, r1, r2⟩
    · exact ⟨-3, σ2, τ2, by rw [r1, Option.bind_some, if_pos rfl, n92], by rw [r2, Option.bind_some, if_pos rfl, n74], f3⟩
    rw [r1, Option.bind_some, if_neg (by decide), r2, Option.bind_some, if_neg (by decide)]
    rcases run_r ht k2 kt hn2 a4 (nI m) h5 with ⟨s1, s2⟩ | ⟨i2, m2, him2, rfl, em, s1, s2⟩
    · exact ⟨-3, σ2, τ2, by rw [s1, Option.bind_some, if_pos rfl, n92], by rw [s2, Option.bind_some, if_pos rfl, n74], f3⟩
    have em : m = m2 := (nI_eq (by omega) (by omega)).mp em
    subst em
    rw [s1, Option.bind_some, if_neg (by decide), s2, Option.bind_some, if_neg (by decide)]
    refine ⟨1, setA σ (4 + t) (va_cpy (σ.2.2 (4 + j)) (σ.2.2 (4 + t)) i i2 m), setA τ 6 (cpF (τ.2.2 6) (40 * j + i) (40 * t + i2) m), ?_, copy_m hj ht (by omega) (by omega), ?_⟩
    · unfold M_X3_move_r cpA
      rw [r1, Option.bind_some, if_neg (by decide), s1, Option.bind_some, if_neg (by decide), inR_n hj (by decide), Option.bind_some, inR_n ht (by decide), Option.bind_some, nI_clamp (by omega), nI_clamp (by omega), nI_clamp (by omega), if_neg]
      · rfl
      · intro q
        rcases q with q | q | q | q | q
        · exact nI_pos (by omega) q
        · exact nI_pos (by omega) q
        · exact nI_pos (by omega) q
        · omega
        · omega
    · obtain ⟨h1, h2, h3, h4, h5, h6⟩ := hR
      refine ⟨?_, h2.cg (same.rf.sA (by simp [fTc]; omega)) (same.rf.sA (by decide)), h3.cg (same.rf.sA (by simp [fFc]; omega)) (same.rf.sA (by decide)), h4.cg (same.rf.sA (by simp [fQc])) (same.rf.sA (by decide)), h5.cg (same.rf.sA (by simp [fUc])) (same.rf.sA (by decide)), hC _ _ _ _ h6 (same.rf.sA (by simp [fWc]; omega)) (same.rf.sA (by decide))⟩
      intro r hr
      obtain ⟨l1, l2, l3⟩ := h1 r hr
      refine ⟨by rw [sA_ne (by omega), sA_ne (by decide)]; exact l1, by rw [sA_ne (by omega)]; exact l2, fun k hk => ?_⟩
      rw [sA_at]
      unfold cpF
      by_cases e : r = t
      · subst e
        rw [sA_at]
        unfold va_cpy
        by_cases c : i2 ≤ k ∧ k < i2 + m
        · rw [if_pos c, if_pos (by omega), g3 _ (by omega), show 40 * j + i + (40 * r + k - (40 * r + i2)) = 40 * j + (i + (k - i2)) by omega]
        · rw [if_neg c, if_neg (by omega)]; exact l3 k hk
      · rw [sA_ne (by omega), if_neg (by omega)]; exact l3 k hk
  · rw [if_neg h5, if_neg h5]
    obtain ⟨σ', τ', e1, e2, e3⟩ := refuse_ok hC hR (k := 5) (v := 5) rfl (by decide)
    exact ⟨-3, σ', τ', by rw [e1]; rfl, by rw [e2]; rfl, e3⟩
