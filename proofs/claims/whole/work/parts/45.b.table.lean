/- by turns: the table over digits by three -/
def dg (st i : Nat) : Nat := st / 3 ^ i % 3
def clS (st : Nat) : Nat → Nat
  | 0 => 0
  | m + 1 => if dg st m = 1 then clS st m ||| 2 ^ m else clS st m
def lfS (st : Nat) : Nat → Nat
  | 0 => 0
  | m + 1 => if dg st m = 0 then lfS st m ||| 2 ^ m else lfS st m
def tnS (st : Nat) : Nat → Nat
  | 0 => 0
  | m + 1 => tnS st m + (if dg st m = 0 then 0 else 1)
theorem dg_add {st i d : Nat} (h0 : dg st i = 0) (hd : d < 3) (j : Nat) : dg (st + d * 3 ^ i) j = if j = i then d else dg st j := by
  unfold dg at *
  have hp : ∀ k, 0 < 3 ^ k := fun k => Nat.pow_pos (by decide)
  rcases Nat.lt_trichotomy j i with q | rfl | q
  · obtain ⟨e, rfl⟩ : ∃ e, i = j + 1 + e := ⟨i - j - 1, by omega⟩
    rw [if_neg (by omega), Nat.pow_add, Nat.pow_succ, show d * (3 ^ j * 3 * 3 ^ e) = 3 ^ j * (3 * (d * 3 ^ e)) by simp only [Nat.mul_assoc, Nat.mul_comm, Nat.mul_left_comm], Nat.add_mul_div_left _ _ (hp j), Nat.add_mul_mod_self_left]
  · rw [if_pos rfl, Nat.mul_comm d, Nat.add_mul_div_left _ _ (hp j)]
    omega
  · obtain ⟨e, rfl⟩ : ∃ e, j = i + 1 + e := ⟨j - i - 1, by omega⟩
    have e1 : ∀ x, x / (3 ^ i * 3 * 3 ^ e) = x / 3 ^ i / 3 / 3 ^ e := fun x => by rw [Nat.mul_assoc, ← Nat.div_div_eq_div_mul, ← Nat.div_div_eq_div_mul]
    have e2 : (st + d * 3 ^ i) / 3 ^ i / 3 = st / 3 ^ i / 3 := by
      rw [Nat.mul_comm d, Nat.add_mul_div_left _ _ (hp i)]
      omega
    rw [if_neg (by omega), Nat.pow_add, Nat.pow_succ, e1, e1, e2]
theorem st_lt {st i d h : Nat} (h0 : dg st i = 0) (hd : d < 3) (hi : i < h) (hs : st < 3 ^ h) : st + d * 3 ^ i < 3 ^ h := by
  unfold dg at h0
  have hp : 0 < 3 ^ i := Nat.pow_pos (by decide)
  obtain ⟨e, rfl⟩ : ∃ e, h = i + 1 + e := ⟨h - i - 1, by omega⟩
  rw [Nat.pow_add, Nat.pow_succ, Nat.mul_assoc] at hs ⊢
  have h1 : st / 3 ^ i < 3 * 3 ^ e := Nat.div_lt_of_lt_mul hs
  have h2 : st < 3 ^ i * (st / 3 ^ i + 1) := Nat.lt_mul_div_succ st hp
  have h3 : 3 ^ i * (st / 3 ^ i + 1 + d) ≤ 3 ^ i * (3 * 3 ^ e) := Nat.mul_le_mul_left _ (by omega)
  rw [Nat.mul_add] at h3
  rw [Nat.mul_comm d]
  omega
theorem cl_bit (st : Nat) : ∀ m j, (clS st m).testBit j = (decide (j < m) && decide (dg st j = 1))
  | 0, j => by rw [clS, Nat.zero_testBit, decide_eq_false (by omega)]; rfl
  | m + 1, j => by
    have ih := cl_bit st m j
    rw [clS]
    by_cases e : m = j
    · subst e
      rw [decide_eq_true (show m < m + 1 by omega), Bool.true_and]
      rw [decide_eq_false (show ¬ m < m by omega), Bool.false_and] at ih
      by_cases q : dg st m = 1
      · rw [if_pos q, Nat.testBit_or, Nat.testBit_two_pow_self, Bool.or_true, decide_eq_true q]
      · rw [if_neg q, ih, decide_eq_false q]
    · rw [show decide (j < m + 1) = decide (j < m) from decide_eq_decide.mpr (by omega)]
      by_cases q : dg st m = 1
      · rw [if_pos q, Nat.testBit_or, Nat.testBit_two_pow_of_ne e, Bool.or_false, ih]
      · rw [if_neg q, ih]
theorem lf_bit (st : Nat) : ∀ m j, (lfS st m).testBit j = (decide (j < m) && decide (dg st j = 0))
  | 0, j => by rw [lfS, Nat.zero_testBit, decide_eq_false (by omega)]; rfl
  | m + 1, j => by
    have ih := lf_bit st m j
    rw [lfS]
    by_cases e : m = j
    · subst e
      rw [decide_eq_true (show m < m + 1 by omega), Bool.true_and]
      rw [decide_eq_false (show ¬ m < m by omega), Bool.false_and] at ih
      by_cases q : dg st m = 0
      · rw [if_pos q, Nat.testBit_or, Nat.testBit_two_pow_self, Bool.or_true, decide_eq_true q]
      · rw [if_neg q, ih, decide_eq_false q]
    · rw [show decide (j < m + 1) = decide (j < m) from decide_eq_decide.mpr (by omega)]
      by_cases q : dg st m = 0
      · rw [if_pos q, Nat.testBit_or, Nat.testBit_two_pow_of_ne e, Bool.or_false, ih]
      · rw [if_neg q, ih]
theorem cl_lt (st : Nat) : ∀ m, clS st m < 2 ^ m
  | 0 => Nat.zero_lt_one
  | m + 1 => by
    have ih := cl_lt st m
    have h1 : 2 ^ m < 2 ^ (m + 1) := Nat.pow_lt_pow_right (by decide) (by omega)
    rw [clS]
    split
    · exact Nat.or_lt_two_pow (by omega) h1
    · omega
theorem lf_lt (st : Nat) : ∀ m, lfS st m < 2 ^ m
  | 0 => Nat.zero_lt_one
  | m + 1 => by
    have ih := lf_lt st m
    have h1 : 2 ^ m < 2 ^ (m + 1) := Nat.pow_lt_pow_right (by decide) (by omega)
    rw [lfS]
    split
    · exact Nat.or_lt_two_pow (by omega) h1
    · omega
theorem wo_and : ∀ i, i < 7 → ∀ s, s < 128 → wo s i = s &&& (127 ^^^ 2 ^ i) := by decide +kernel
theorem wo_bit {s i : Nat} (hi : i < 7) (hs : s < 128) (j : Nat) : (wo s i).testBit j = (s.testBit j && !decide (j = i)) := by
  rw [wo_and i hi s hs, Nat.testBit_and, Nat.testBit_xor, show (127 : Nat) = 2 ^ 7 - 1 from rfl, Nat.testBit_two_pow_sub_one]
  by_cases q : j < 7
  · rw [decide_eq_true q]
    by_cases e : j = i
    · subst e; rw [Nat.testBit_two_pow_self, decide_eq_true rfl]; rfl
    · rw [Nat.testBit_two_pow_of_ne (fun z => e z.symm), decide_eq_false e]; rfl
  · rw [Nat.testBit_lt_two_pow (x := s) (i := j) (Nat.lt_of_lt_of_le hs (Nat.pow_le_pow_right (n := 2) (i := 7) (by decide) (by omega)))]; rfl
theorem tn_le (st : Nat) : ∀ m, tnS st m ≤ m
  | 0 => Nat.le_refl _
  | m + 1 => by have := tn_le st m; rw [tnS]; split <;> omega
theorem tn_all (st : Nat) : ∀ m, tnS st m = m → ∀ i, i < m → dg st i ≠ 0
  | 0, _, i, hi => by omega
  | m + 1, h, i, hi => by
    have h1 := tn_le st m
    rw [tnS] at h
    by_cases q : dg st m = 0
    · rw [if_pos q] at h; omega
    · rw [if_neg q] at h
      by_cases e : i = m
      · rw [e]; exact q
      · exact tn_all st m (by omega) i (by omega)
theorem tn_ex (st : Nat) : ∀ m, tnS st m < m → ∃ i, i < m ∧ dg st i = 0
  | 0, h => by omega
  | m + 1, h => by
    rw [tnS] at h
    by_cases q : dg st m = 0
    · exact ⟨m, by omega, q⟩
    · rw [if_neg q] at h
      obtain ⟨i, hi, e⟩ := tn_ex st m (by omega)
      exact ⟨i, by omega, e⟩
theorem tn_add {st i d : Nat} (h0 : dg st i = 0) (hd : d < 3) (h1 : 0 < d) : ∀ m, tnS (st + d * 3 ^ i) m = tnS st m + (if i < m then 1 else 0)
  | 0 => by rw [if_neg (by omega)]; rfl
  | m + 1 => by
    have ih := tn_add h0 hd h1 m
    rw [tnS, tnS, ih, dg_add h0 hd]
    by_cases e : m = i
    · subst e
      rw [if_pos rfl, if_neg (by omega), if_neg (by omega), if_pos h0, if_pos (by omega)]
    · rw [if_neg e]
      by_cases q : i < m
      · rw [if_pos q, if_pos (show i < m + 1 by omega)]; omega
      · rw [if_neg q, if_neg (show ¬ i < m + 1 by omega)]; omega
theorem cl_add1 {st i h : Nat} (h0 : dg st i = 0) (hi : i < h) : clS (st + 1 * 3 ^ i) h = clS st h ||| 2 ^ i := by
  apply Nat.eq_of_testBit_eq
  intro j
  rw [Nat.testBit_or, cl_bit, cl_bit, dg_add h0 (by decide)]
  by_cases e : j = i
  · subst e; rw [if_pos rfl, Nat.testBit_two_pow_self, decide_eq_true hi]; simp
  · rw [if_neg e, Nat.testBit_two_pow_of_ne (fun z => e z.symm), Bool.or_false]
theorem cl_add2 {st i h : Nat} (h0 : dg st i = 0) : clS (st + 2 * 3 ^ i) h = clS st h := by
  apply Nat.eq_of_testBit_eq
  intro j
  rw [cl_bit, cl_bit, dg_add h0 (by decide)]
  by_cases e : j = i
  · subst e; rw [if_pos rfl, h0]; simp
  · rw [if_neg e]
theorem lf_add {st i d h : Nat} (h0 : dg st i = 0) (hd : d < 3) (h1 : 0 < d) (hi : i < h) (hh : h ≤ 7) : lfS (st + d * 3 ^ i) h = wo (lfS st h) i := by
  have hl : lfS st h < 128 := Nat.lt_of_lt_of_le (lf_lt st h) (Nat.pow_le_pow_right (n := 2) (j := 7) (by decide) hh)
  apply Nat.eq_of_testBit_eq
  intro j
  rw [wo_bit (by omega) hl, lf_bit, lf_bit, dg_add h0 hd]
  by_cases e : j = i
  · subst e; rw [if_pos rfl, decide_eq_false (show ¬ d = 0 by omega)]; simp
  · rw [if_neg e, decide_eq_false e]; simp
def evn (n : Nat) : Bool := decide (n % 2 = 0)
theorem evn_s (n : Nat) : evn (n + 1) = !evn n := by
  unfold evn
  rcases Nat.mod_two_eq_zero_or_one n with q | q
  · rw [decide_eq_true q, decide_eq_false (show ¬ (n + 1) % 2 = 0 by omega)]; rfl
  · rw [decide_eq_false (show ¬ n % 2 = 0 by omega), decide_eq_true (show (n + 1) % 2 = 0 by omega)]; rfl
/- what the table holds -/
def Wv (P : Nat → Bool) (h st : Nat) : Bool := gv P h (clS st h) (lfS st h) (evn (tnS st h))
theorem Wv_eq (P : Nat → Bool) {h st : Nat} (hh : h ≤ 7) : Wv P h st = if evn (tnS st h) then ((if tnS st h = h then P (clS st h) else false) || exR (fun i => decide (dg st i = 0) && Wv P h (st + 1 * 3 ^ i)) 0 h) else ((if tnS st h = h then P (clS st h) else true) && alR (fun i => !decide (dg st i = 0) || Wv P h (st + 2 * 3 ^ i)) 0 h) := by
  have hl : lfS st h < 128 := Nat.lt_of_lt_of_le (lf_lt st h) (Nat.pow_le_pow_right (n := 2) (j := 7) (by decide) hh)
  by_cases q : tnS st h = h
  · have hz := tn_all st h q
    have hl0 : lfS st h = 0 := by
      apply Nat.eq_of_testBit_eq
      intro j
      rw [lf_bit, Nat.zero_testBit]
      by_cases hj : j < h
      · rw [decide_eq_false (hz j hj), Bool.and_false]
      · rw [decide_eq_false hj, Bool.false_and]
    rw [if_pos q, if_pos q, exR_f h 0 (fun k _ hk => by rw [decide_eq_false (hz k (by omega)), Bool.false_and]), alR_t h 0 (fun k _ hk => by rw [decide_eq_false (hz k (by omega)), Bool.not_false, Bool.true_or]), Bool.or_false, Bool.and_true]
    unfold Wv
    rw [hl0, gv_eq P hh _ (by decide), if_pos rfl]
    split <;> rfl
  · obtain ⟨i0, hi0, h0⟩ := tn_ex st h (by have := tn_le st h; omega)
    have hl0 : lfS st h ≠ 0 := by
      intro z
      have := lf_bit st h i0
      rw [z, Nat.zero_testBit, decide_eq_true hi0, decide_eq_true h0] at this
      cases this
    rw [if_neg q, if_neg q, Bool.false_or, Bool.true_and]
    have e0 : Wv P h st = gv P h (clS st h) (lfS st h) (evn (tnS st h)) := rfl
    rw [e0, gv_eq P hh _ hl, if_neg hl0]
    cases ht : evn (tnS st h) with
    | true =>
      rw [if_pos rfl, if_pos rfl]
      refine exR_cg h 0 (fun i _ hi => ?_)
      rw [lf_bit, decide_eq_true (show i < h by omega), Bool.true_and]
      by_cases hd : dg st i = 0
      · rw [decide_eq_true hd, Bool.true_and, Bool.true_and]
        unfold Wv
        rw [cl_add1 hd (by omega), lf_add hd (by decide) (by decide) (by omega) hh, tn_add hd (by decide) (by decide), if_pos (by omega), evn_s, ht, Bool.not_true]
      · rw [decide_eq_false hd, Bool.false_and, Bool.false_and]
    | false =>
      rw [if_neg (by decide), if_neg (by decide)]
      refine alR_cg h 0 (fun i _ hi => ?_)
      rw [lf_bit, decide_eq_true (show i < h by omega), Bool.true_and]
      by_cases hd : dg st i = 0
      · rw [decide_eq_true hd, Bool.not_true, Bool.false_or, Bool.false_or]
        unfold Wv
        rw [cl_add2 hd, lf_add hd (by decide) (by decide) (by omega) hh, tn_add hd (by decide) (by decide), if_pos (by omega), evn_s, ht, Bool.not_false]
      · rw [decide_eq_false hd, Bool.not_false, Bool.true_or, Bool.true_or]
theorem pw3 : ∀ i, i < 8 → M_X7_power (nI i) = some (nI (3 ^ i)) := by decide +kernel
theorem p3_le : ∀ i, i < 8 → 0 < 3 ^ i ∧ 3 ^ i ≤ 2187 := by decide +kernel
section LW
variable {V : VT} {τ : ST}
theorem dgt {st i : Nat} (hs : st < 2187) (hi : i < 8) : dvI (nI st) (nI (3 ^ i)) = some (nI (st / 3 ^ i)) ∧ nI (st / 3 ^ i) - nI (st / 3 ^ i) / 3 * 3 = nI (dg st i) := by
  have h3 := p3_le i hi
  have hq : st / 3 ^ i ≤ st := Nat.div_le_self _ _
  constructor
  · unfold dvI
    rw [if_neg (nI_ne0 h3.1 (by omega)), pk_div (by omega) h3.1 (by omega)]
  · exact rem_n 3 3 rfl (by omega) (by decide) (by decide)
theorem lw_21 (h7 : V 0 0 ≤ 7) (hm : τ.1 3 = nI (V 0 0)) (k10 : ST → Int32 → Option ST) {st : Nat} (hs : st < 2187) : ∀ (m fu i : Nat), i + m = V 0 0 → m < fu → M_X7_layWins_21 k10 fu τ (nI st) (nI (clS st i)) (nI (tnS st i)) (nI i) = M_X7_layWins_88 k10 τ (nI st) (nI (clS st (V 0 0))) (nI (tnS st (V 0 0))) (b01 (evn (tnS st (V 0 0))))
  | 0, fu + 1, i, hi, _ => by
    have ht := tn_le st (V 0 0)
    rw [M_X7_layWins_21, hm, if_pos (nI_le (by omega) (by omega)), show i = V 0 0 by omega, rem_n 2 2 rfl (by omega) (by decide) (by decide)]
    unfold evn
    rcases Nat.mod_two_eq_zero_or_one (tnS st (V 0 0)) with q | q
    · rw [q, if_pos n00]; rfl
    · rw [q, if_neg (by decide)]; rfl
  | m + 1, fu + 1, i, hi, hf => by
    have ih := lw_21 h7 hm k10 hs m fu (i + 1) (by omega) (by omega)
    obtain ⟨d1, d2⟩ := dgt hs (show i < 8 by omega)
    have hd3 : dg st i < 3 := Nat.mod_lt _ (by decide)
    rw [clS, tnS] at ih
    rw [M_X7_layWins_21, hm, if_neg (nI_ge (by omega) (by omega)), pw3 i (by omega), Option.bind_some, d1, Option.bind_some, d2]
    unfold M_X7_layWins_56
    rw [shl1 (by omega), nx_or, show nI (clS st i) ||| 0 = nI (clS st i ||| 0) from nx_or _ 0, Nat.or_zero, nI_1 i, nI_1, show nI (tnS st i) + 0 = nI (tnS st i + 0) from nI_add _ 0]
    rcases (show dg st i = 0 ∨ dg st i = 1 ∨ dg st i = 2 by omega) with q | q | q
    · rw [q] at ih ⊢
      exact ih
    · rw [q] at ih ⊢
      exact ih
    · rw [q] at ih ⊢
      exact ih
theorem lw_ex (h7 : V 0 0 ≤ 7) (hm : τ.1 3 = nI (V 0 0)) (P : Nat → Bool) (k10 : ST → Int32 → Option ST) {st : Nat} {F : Nat → Int32} (hs : st < 3 ^ V 0 0) (hF : ∀ k, st < k → k < 3 ^ V 0 0 → F k = b01 (Wv P (V 0 0) k)) : ∀ (m fu i : Nat) (b : Bool), i + m = V 0 0 → m < fu → M_X7_layWins_121 k10 fu (setA τ 14 F) (nI st) 1 (b01 b) (nI i) = k10 (setA τ 14 (upd F st (b01 (b || exR (fun i => decide (dg st i = 0) && Wv P (V 0 0) (st + 1 * 3 ^ i)) i m)))) (nI st + (-1))
  | 0, fu + 1, i, b, hi, _ => by
    have h3 := p3_le (V 0 0) (by omega)
    have e3 : (setA τ 14 F).1 3 = nI (V 0 0) := hm
    rw [M_X7_layWins_121, e3, if_pos (nI_le (by omega) (by omega)), okZ_b, Option.bind_some, wrA_n _ _ _ (by omega) (by decide), Option.bind_some, setA_setA, sA_at]
    show _ = k10 (setA τ 14 (upd F st (b01 (b || false)))) _
    rw [Bool.or_false]
  | m + 1, fu + 1, i, b, hi, hf => by
    have h3 := p3_le (V 0 0) (by omega)
    have h3i := p3_le i (by omega)
    have e3 : (setA τ 14 F).1 3 = nI (V 0 0) := hm
    obtain ⟨d1, d2⟩ := dgt (show st < 2187 by omega) (show i < 8 by omega)
    have hd3 : dg st i < 3 := Nat.mod_lt _ (by decide)
    have ih := fun b => lw_ex h7 hm P k10 hs hF m fu (i + 1) b (by omega) (by omega)
    rw [M_X7_layWins_121, e3, if_neg (nI_ge (by omega) (by omega)), pw3 i (by omega), Option.bind_some, d1, Option.bind_some, d2, exR, if_neg n10, nI_1 i]
    by_cases q : dg st i = 0
    · have hl := st_lt q (show 1 < 3 by decide) (show i < V 0 0 by omega) hs
      rw [Nat.one_mul] at hl
      rw [q, if_pos n00, decide_eq_true rfl, Bool.true_and, Nat.one_mul]
      cases b with
      | true => rw [if_neg (by decide)]; exact (ih true).trans (by simp only [Bool.true_or, Bool.false_or, Bool.true_and, Bool.false_and])
      | false =>
        rw [if_pos bf0, Option.bind_some, nI_add, sA_at, rd_n _ (by omega) (by decide), Option.bind_some, hF _ (by omega) hl]
        cases hw : Wv P (V 0 0) (st + 3 ^ i) with
        | true => rw [if_neg (by decide)]; exact (ih true).trans (by simp only [Bool.true_or, Bool.false_or, Bool.true_and, Bool.false_and])
        | false => rw [if_pos bf0]; exact (ih false).trans (by simp only [Bool.true_or, Bool.false_or, Bool.true_and, Bool.false_and])
    · rw [if_neg (nI_ne0 (by omega) (by omega)), decide_eq_false q, Bool.false_and, Bool.false_or]
      exact ih b
theorem lw_al (h7 : V 0 0 ≤ 7) (hm : τ.1 3 = nI (V 0 0)) (P : Nat → Bool) (k10 : ST → Int32 → Option ST) {st : Nat} {F : Nat → Int32} (hs : st < 3 ^ V 0 0) (hF : ∀ k, st < k → k < 3 ^ V 0 0 → F k = b01 (Wv P (V 0 0) k)) : ∀ (m fu i : Nat) (b : Bool), i + m = V 0 0 → m < fu → M_X7_layWins_121 k10 fu (setA τ 14 F) (nI st) 0 (b01 b) (nI i) = k10 (setA τ 14 (upd F st (b01 (b && alR (fun i => !decide (dg st i = 0) || Wv P (V 0 0) (st + 2 * 3 ^ i)) i m)))) (nI st + (-1))
  | 0, fu + 1, i, b, hi, _ => by
    have h3 := p3_le (V 0 0) (by omega)
    have e3 : (setA τ 14 F).1 3 = nI (V 0 0) := hm
    rw [M_X7_layWins_121, e3, if_pos (nI_le (by omega) (by omega)), okZ_b, Option.bind_some, wrA_n _ _ _ (by omega) (by decide), Option.bind_some, setA_setA, sA_at]
    show _ = k10 (setA τ 14 (upd F st (b01 (b && true)))) _
    rw [Bool.and_true]
  | m + 1, fu + 1, i, b, hi, hf => by
    have h3 := p3_le (V 0 0) (by omega)
    have h3i := p3_le i (by omega)
    have e3 : (setA τ 14 F).1 3 = nI (V 0 0) := hm
    obtain ⟨d1, d2⟩ := dgt (show st < 2187 by omega) (show i < 8 by omega)
    have hd3 : dg st i < 3 := Nat.mod_lt _ (by decide)
    have ih := fun b => lw_al h7 hm P k10 hs hF m fu (i + 1) b (by omega) (by omega)
    rw [M_X7_layWins_121, e3, if_neg (nI_ge (by omega) (by omega)), pw3 i (by omega), Option.bind_some, d1, Option.bind_some, d2, alR, if_pos rfl, nI_1 i]
    by_cases q : dg st i = 0
    · have hl := st_lt q (show 2 < 3 by decide) (show i < V 0 0 by omega) hs
      rw [q, if_pos n00, decide_eq_true rfl]
      show _ = k10 (setA τ 14 (upd F st (b01 (b && ((false || Wv P (V 0 0) (st + 2 * 3 ^ i)) && alR (fun i => !decide (dg st i = 0) || Wv P (V 0 0) (st + 2 * 3 ^ i)) (i + 1) m))))) _
      rw [Bool.false_or]
      cases b with
      | false => rw [if_pos bf0]; exact (ih false).trans (by simp only [Bool.true_or, Bool.false_or, Bool.true_and, Bool.false_and])
      | true =>
        rw [if_neg (by decide), Option.bind_some, show (2 : Int32) = nI 2 from rfl, pk_mul, nI_add, sA_at, rd_n _ (by omega) (by decide), Option.bind_some, hF _ (by omega) hl]
        cases hw : Wv P (V 0 0) (st + 2 * 3 ^ i) with
        | false => rw [if_pos bf0]; exact (ih false).trans (by simp only [Bool.true_or, Bool.false_or, Bool.true_and, Bool.false_and])
        | true => rw [if_neg (by decide)]; exact (ih true).trans (by simp only [Bool.true_or, Bool.false_or, Bool.true_and, Bool.false_and])
    · rw [if_neg (nI_ne0 (by omega) (by omega)), decide_eq_false q]
      show _ = k10 (setA τ 14 (upd F st (b01 (b && (true && alR (fun i => !decide (dg st i = 0) || Wv P (V 0 0) (st + 2 * 3 ^ i)) (i + 1) m))))) _
      rw [Bool.true_and]
      exact ih b
end LW
