/-! a well as numbers: h, due, day, water; kinds, heads, feuds, holders, drawn today -/
abbrev VT : Type := Nat → Nat → Nat
def kw (V : VT) (i : Nat) : Nat := if V 1 i = 1 ∨ V 1 i = 4 then 1 - V 0 2 % 2 else if V 1 i = 5 then 3 else if V 1 i = 3 then 2 else 1
def wgt (V : VT) (s : Nat) : Nat → Nat
  | 0 => 0
  | m + 1 => wgt V s m + (if s.testBit (V 4 m) then kw V m else if V 1 m = 2 ∧ V 0 2 % 3 = 0 then 1 else 0)
def pce (V : VT) (s : Nat) : Nat → Bool
  | 0 => true
  | m + 1 => pce V s m && (!s.testBit m || decide (V 3 m &&& s = 0))
def opn (V : VT) (s : Nat) : Bool := decide (0 < V 0 0) && (decide (V 0 1 ≤ wgt V s (V 0 0)) && pce V s (V 0 0))
def wn (V : VT) (i : Nat) : Nat := if V 1 i = 5 then 0 else if V 1 i = 4 then V 2 i / 2 else V 2 i
def wy (V : VT) (i : Nat) : Nat := wn V i - V 5 i
def okV (V : VT) : Prop := V 0 0 ≤ 7 ∧ V 0 1 ≤ 9 ∧ V 0 2 ≤ 40 ∧ V 0 3 ≤ 99 ∧ ∀ i, i < V 0 0 → V 1 i ≤ 5 ∧ V 2 i ≤ 9 ∧ V 3 i < 128 ∧ V 4 i < 7 ∧ V 5 i ≤ wn V i
def VC (V : VT) (σ : ST) : Prop := σ.1 33 = nI (V 0 0) ∧ σ.1 30 = nI (V 0 1) ∧ σ.1 36 = nI (V 0 2) ∧ σ.1 35 = nI (V 0 3) ∧ ∀ i, i < V 0 0 → σ.2.2 24 i = nI (V 1 i) ∧ σ.2.2 25 i = nI (V 2 i) ∧ σ.2.2 26 i = nI (V 3 i) ∧ σ.2.2 29 i = nI (V 4 i) ∧ σ.2.2 30 i = nI (V 5 i)
def VM (V : VT) (τ : ST) : Prop := τ.1 3 = nI (V 0 0) ∧ τ.1 1 = nI (V 0 1) ∧ τ.2.2 1 1 = nI (V 0 2) ∧ τ.2.2 1 2 = nI (V 0 3) ∧ ∀ i, i < V 0 0 → τ.2.2 2 i = nI (V 1 i) ∧ τ.2.2 3 i = nI (V 2 i) ∧ τ.2.2 4 i = nI (V 3 i) ∧ τ.2.2 1 (3 + i) = nI (V 4 i) ∧ τ.2.2 1 (10 + i) = nI (V 5 i)
def b01 (b : Bool) : Int32 := if b then 1 else 0
theorem okZ_b (b : Bool) : okZ (b01 b) = some (b01 b) := by cases b <;> rfl
theorem b01_0 (b : Bool) : b01 b = 0 ↔ b = false := by cases b <;> decide
theorem bf0 : b01 false = 0 := rfl
theorem n00 : nI 0 = 0 := rfl
theorem b01_n0 {b : Bool} (h : b = true) : ¬ b01 b = 0 := by subst h; decide
theorem b01_f {b : Bool} (h : b = false) : b01 b = 0 := by subst h; rfl
theorem sh_n : ∀ n, n < 32 → ((nI n &&& 31).toBitVec.smod 32).toNat = n := by decide +kernel
theorem bit_n {s k : Nat} (hs : s < 2 ^ 31) (hk : k < 31) : (nI s >>> (nI k &&& 31)) &&& 1 = b01 (s.testBit k) := by
  rw [pk_shrN hs _ k (sh_n k (by omega)), pk_andN (Nat.lt_of_le_of_lt (Nat.div_le_self _ _) (by omega)) 1 (by decide), Nat.testBit_eq_decide_div_mod_eq]
  rcases Nat.mod_two_eq_zero_or_one (s / 2 ^ k) with h | h
  · rw [show s / 2 ^ k % 2 ^ 1 = s / 2 ^ k % 2 from rfl, h]; rfl
  · rw [show s / 2 ^ k % 2 ^ 1 = s / 2 ^ k % 2 from rfl, h]; rfl
theorem b01_is1 (b : Bool) : b01 b = 1 ↔ b = true := by cases b <;> decide
theorem isIn_c {s k : Nat} (hs : s < 2 ^ 31) (hk : k < 31) : M_X6_isIn (nI k) (nI s) = some (b01 (s.testBit k)) := by
  unfold M_X6_isIn
  rw [bit_n hs hk]
  cases s.testBit k <;> rfl
theorem has_m {s k : Nat} (hs : s < 2 ^ 31) (hk : k < 31) : M_X7_has (nI s) (nI k) = some (b01 (s.testBit k)) := by
  unfold M_X7_has
  rw [bit_n hs hk]
  cases s.testBit k <;> rfl
theorem rem_n (v : Int32) (d : Nat) {a : Nat} (hv : v = nI d) (ha : a < 2 ^ 31) (h0 : 0 < d) (hd : d < 2 ^ 31) : nI a - nI a / v * v = nI (a % d) := by rw [hv]; exact pk_rem ha h0 hd
theorem nI_is (v : Int32) (b : Nat) {a : Nat} (hv : v = nI b) (ha : a < 2 ^ 31) (hb : b < 2 ^ 31) : nI a = v ↔ a = b := by rw [hv]; exact nI_eq ha hb
theorem nx_and (a b : Nat) : nI a &&& nI b = nI (a &&& b) := by
  apply Int32.toBitVec_inj.1
  show BitVec.ofNat 32 a &&& BitVec.ofNat 32 b = BitVec.ofNat 32 (a &&& b)
  apply BitVec.eq_of_getLsbD_eq
  intro i hi
  simp [hi]
section VW
variable {V : VT} {σ τ : ST}
theorem kinds_of (k : Nat) (hk : k ≤ 5) : M_X6_isOfKind (nI k) 1 = some (b01 (decide (k = 1 ∨ k = 4))) ∧ M_X6_isOfKind (nI k) 3 = some (b01 (decide (k = 3 ∨ k = 5))) := by
  rcases (show k = 0 ∨ k = 1 ∨ k = 2 ∨ k = 3 ∨ k = 4 ∨ k = 5 by omega) with rfl | rfl | rfl | rfl | rfl | rfl <;> exact ⟨rfl, rfl⟩
theorem one_m {d : Nat} : (1 : Int32) - nI (d % 2) = nI (1 - d % 2) := by
  rw [show (1 : Int32) = nI 1 from rfl, pk_sub (by omega)]
theorem keyWeight_c (ok : okV V) (h : VC V σ) {i : Nat} (hi : i < V 0 0) : M_X5_keyWeight σ (nI i) = some (nI (kw V i)) := by
  obtain ⟨o1, o2, o3, o4, o5⟩ := ok
  obtain ⟨k1, k2, k3, k4, k5⟩ := o5 i hi
  unfold M_X5_keyWeight
  rw [rd_n _ (by omega) (by decide), Option.bind_some, (h.2.2.2.2 i hi).1, (kinds_of _ k1).1, Option.bind_some, (kinds_of _ k1).2, h.2.2.1, rem_n 2 2 rfl (by omega) (by decide) (by decide), one_m]
  unfold kw
  by_cases c1 : V 1 i = 1 ∨ V 1 i = 4
  · rw [if_pos c1, if_neg (b01_n0 (decide_eq_true c1))]
  · rw [if_neg c1, if_pos (b01_f (decide_eq_false c1)), Option.bind_some]
    by_cases c2 : V 1 i = 5
    · rw [if_pos c2, if_neg (b01_n0 (decide_eq_true (Or.inr c2))), if_pos ((nI_is 5 5 rfl (by omega) (by decide)).mpr c2)]; rfl
    · rw [if_neg c2]
      by_cases c3 : V 1 i = 3
      · rw [if_pos c3, if_neg (b01_n0 (decide_eq_true (Or.inl c3))), if_neg (fun q => c2 ((nI_is 5 5 rfl (by omega) (by decide)).mp q))]; rfl
      · rw [if_neg c3, if_pos (b01_f (decide_eq_false (fun q => q.elim c3 c2)))]; rfl
theorem keyWeight_m (ok : okV V) (h : VM V τ) {i : Nat} (hi : i < V 0 0) : M_X7_keyWeight τ (nI i) = some (nI (kw V i)) := by
  obtain ⟨o1, o2, o3, o4, o5⟩ := ok
  obtain ⟨k1, k2, k3, k4, k5⟩ := o5 i hi
  have e40 : M_X7_keyWeight_40 τ = some (nI (1 - V 0 2 % 2)) := by
    unfold M_X7_keyWeight_40
    rw [show (1 : Int32) = nI 1 from rfl, rd_n _ (by decide) (by decide), Option.bind_some, h.2.2.1, rem_n 2 2 rfl (by omega) (by decide) (by decide)]
    rcases Nat.mod_two_eq_zero_or_one (V 0 2) with q | q
    · rw [q]; rfl
    · rw [q]; rfl
  unfold M_X7_keyWeight
  rw [rd_n _ (by omega) (by decide), Option.bind_some, (h.2.2.2.2 i hi).1]
  unfold kw
  rcases (show V 1 i = 0 ∨ V 1 i = 1 ∨ V 1 i = 2 ∨ V 1 i = 3 ∨ V 1 i = 4 ∨ V 1 i = 5 by omega) with q | q | q | q | q | q <;> rw [q]
  · rfl
  · exact e40
  · rfl
  · rfl
  · exact e40
  · rfl
theorem kw_le (i : Nat) : kw V i ≤ 3 := by
  unfold kw
  split
  · omega
  · split
    · omega
    · split <;> omega
theorem wgt_le (s m : Nat) : wgt V s m ≤ 3 * m := by
  induction m with
  | zero => exact Nat.le_refl 0
  | succ m ih =>
    rw [wgt]
    have := kw_le (V := V) m
    split
    · omega
    · split <;> omega
theorem weightOf_20 (ok : okV V) (h : VC V σ) {s : Nat} (hs : s < 2 ^ 31) {x2 : Int32} (hx : x2 = if V 0 2 % 3 = 0 then 1 else 0) : ∀ (m fu i : Nat), i + m = V 0 0 → m < fu → M_X5_weightOf_20 σ fu (nI s) x2 (nI (wgt V s i)) (nI i) = some (nI (wgt V s (V 0 0)))
  | 0, fu + 1, i, hi, _ => by
    rw [M_X5_weightOf_20, h.1, if_pos (nI_le (by omega) (by have := ok.1; omega)), show i = V 0 0 by omega]
  | m + 1, fu + 1, i, hi, hf => by
    have hlt : i < V 0 0 := by omega
    have o1 := ok.1
    obtain ⟨k1, k2, k3, k4, k5⟩ := ok.2.2.2.2 i hlt
    obtain ⟨c1, c2, c3, c4, c5⟩ := h.2.2.2.2 i hlt
    have ih := weightOf_20 ok h hs hx m fu (i + 1) (by omega) (by omega)
    rw [M_X5_weightOf_20, h.1, if_neg (nI_ge hlt (by omega)), rd_n _ (by omega) (by decide), Option.bind_some, c4, isIn_c hs (by omega), Option.bind_some, nI_1 i]
    rw [wgt] at ih
    cases hb : s.testBit (V 4 i) with
    | true =>
      rw [hb, if_pos rfl] at ih
      rw [if_neg (by decide), keyWeight_c ok h hlt, Option.bind_some, nI_add]
      exact ih
    | false =>
      rw [hb, if_neg (by decide)] at ih
      rw [if_pos bf0, rd_n _ (by omega) (by decide), Option.bind_some, c1]
      by_cases q : V 1 i = 2
      · rw [if_pos ((nI_is 2 2 rfl (by omega) (by decide)).mpr q)]
        by_cases q3 : V 0 2 % 3 = 0
        · rw [if_pos ⟨q, q3⟩] at ih
          rw [hx, if_pos q3, nI_1]
          rw [hx, if_pos q3] at ih
          exact ih
        · rw [if_neg (fun z => q3 z.2)] at ih
          rw [hx, if_neg q3, show nI (wgt V s i) + 0 = nI (wgt V s i + 0) from nI_add _ 0]
          rw [hx, if_neg q3] at ih
          exact ih
      · rw [if_neg (fun z => q ((nI_is 2 2 rfl (by omega) (by decide)).mp z))]
        rw [if_neg (fun z => q z.1)] at ih
        exact ih
theorem weightOf_c (ok : okV V) (h : VC V σ) {s : Nat} (hs : s < 2 ^ 31) : M_X5_weightOf σ (nI s) = some (nI (wgt V s (V 0 0))) := by
  unfold M_X5_weightOf
  have o3 := ok.2.2.1
  rw [h.2.2.1, rem_n 3 3 rfl (by omega) (by decide) (by decide)]
  have o1 := ok.1
  by_cases q : V 0 2 % 3 = 0
  · rw [q, if_pos n00]
    exact weightOf_20 ok h hs (by rw [if_pos q]) (V 0 0) 10000 0 (by omega) (by omega)
  · rw [if_neg (fun z => q ((nI_is 0 0 rfl (by omega) (by decide)).mp z))]
    exact weightOf_20 ok h hs (by rw [if_neg q]) (V 0 0) 10000 0 (by omega) (by omega)
theorem weightOf_4m (ok : okV V) (h : VM V τ) {s : Nat} (hs : s < 2 ^ 31) : ∀ (m fu i : Nat), i + m = V 0 0 → m < fu → M_X7_weightOf_4 τ fu (nI s) (nI (wgt V s i)) (nI i) = some (nI (wgt V s (V 0 0)))
  | 0, fu + 1, i, hi, _ => by
    rw [M_X7_weightOf_4, h.1, if_pos (nI_le (by omega) (by have := ok.1; omega)), show i = V 0 0 by omega]
  | m + 1, fu + 1, i, hi, hf => by
    have hlt : i < V 0 0 := by omega
    have o1 := ok.1
    have o3 := ok.2.2.1
    obtain ⟨k1, k2, k3, k4, k5⟩ := ok.2.2.2.2 i hlt
    obtain ⟨c1, c2, c3, c4, c5⟩ := h.2.2.2.2 i hlt
    have ih := weightOf_4m ok h hs m fu (i + 1) (by omega) (by omega)
    rw [M_X7_weightOf_4, h.1, if_neg (nI_ge hlt (by omega)), show (3 : Int32) + nI i = nI (3 + i) from nI_add 3 i, rd_n _ (by omega) (by decide), Option.bind_some, c4, has_m hs (by omega), Option.bind_some, nI_1 i]
    rw [wgt] at ih
    cases hb : s.testBit (V 4 i) with
    | true =>
      rw [hb, if_pos rfl] at ih
      rw [if_neg (by decide), keyWeight_m ok h hlt, Option.bind_some, nI_add]
      exact ih
    | false =>
      rw [hb, if_neg (by decide)] at ih
      have e0 : nI (wgt V s i) + 0 = nI (wgt V s i + 0) := nI_add _ 0
      rw [if_pos bf0, rd_n _ (by omega) (by decide), Option.bind_some, c1]
      by_cases q : V 1 i = 2
      · rw [if_pos ((nI_is 2 2 rfl (by omega) (by decide)).mpr q), show (1 : Int32) = nI 1 from rfl, rd_n _ (by decide) (by decide), Option.bind_some, h.2.2.1, rem_n 3 3 rfl (by omega) (by decide) (by decide)]
        by_cases q3 : V 0 2 % 3 = 0
        · rw [if_pos ⟨q, q3⟩] at ih
          rw [q3, if_pos n00, nI_add]
          exact ih
        · rw [if_neg (fun z => q3 z.2)] at ih
          rw [if_neg (fun z => q3 ((nI_is 0 0 rfl (by omega) (by decide)).mp z)), e0]
          exact ih
      · rw [if_neg (fun z => q ((nI_is 2 2 rfl (by omega) (by decide)).mp z)), e0]
        rw [if_neg (fun z => q z.1)] at ih
        exact ih
theorem weightOf_m (ok : okV V) (h : VM V τ) {s : Nat} (hs : s < 2 ^ 31) : M_X7_weightOf τ (nI s) = some (nI (wgt V s (V 0 0))) := by
  have o1 := ok.1
  exact weightOf_4m ok h hs (V 0 0) 10000 0 (by omega) (by omega)
theorem pce_f (s : Nat) {i : Nat} (h : pce V s i = false) : ∀ m, i ≤ m → pce V s m = false := by
  intro m hm
  induction m with
  | zero => rw [show i = 0 by omega] at h; exact h
  | succ m ih =>
    rcases Nat.lt_or_ge m i with q | q
    · rw [show i = m + 1 by omega] at h; exact h
    · rw [pce, ih q]; rfl
theorem peace_2c (ok : okV V) (h : VC V σ) {s : Nat} (hs : s < 128) : ∀ (m fu i : Nat), i + m = V 0 0 → m < fu → pce V s i = true → M_X0_isPeaceful_2 σ fu (nI s) (nI i) = some (b01 (pce V s (V 0 0)))
  | 0, fu + 1, i, hi, _, hp => by
    rw [M_X0_isPeaceful_2, h.1, if_pos (nI_le (by omega) (by have := ok.1; omega)), show V 0 0 = i by omega, hp]; rfl
  | m + 1, fu + 1, i, hi, hf, hp => by
    have hlt : i < V 0 0 := by omega
    have o1 := ok.1
    obtain ⟨k1, k2, k3, k4, k5⟩ := ok.2.2.2.2 i hlt
    obtain ⟨c1, c2, c3, c4, c5⟩ := h.2.2.2.2 i hlt
    have ih := peace_2c ok h hs m fu (i + 1) (by omega) (by omega)
    have e : pce V s (i + 1) = (!s.testBit i || decide (V 3 i &&& s = 0)) := by rw [pce, hp]; rfl
    rw [M_X0_isPeaceful_2, h.1, if_neg (nI_ge hlt (by omega)), isIn_c (by omega) (by omega), Option.bind_some, nI_1]
    cases hb : s.testBit i with
    | false =>
      rw [if_pos bf0]
      exact ih (by rw [e, hb]; rfl)
    | true =>
      rw [if_neg (by decide), rd_n _ (by omega) (by decide), Option.bind_some, c3, nx_and]
      by_cases q : V 3 i &&& s = 0
      · rw [q, if_pos n00]
        exact ih (by rw [e, hb, q]; rfl)
      · rw [if_neg (fun z => q ((nI_is 0 0 rfl (Nat.lt_of_le_of_lt Nat.and_le_right (by omega)) (by decide)).mp z))]
        have f : pce V s (i + 1) = false := by rw [e, hb, decide_eq_false q]; rfl
        rw [pce_f s f (V 0 0) (by omega)]; rfl
theorem peace_c (ok : okV V) (h : VC V σ) {s : Nat} (hs : s < 128) : M_X0_isPeaceful σ (nI s) = some (b01 (pce V s (V 0 0))) := by
  have o1 := ok.1
  exact peace_2c ok h hs (V 0 0) 10000 0 (by omega) (by omega) rfl
theorem peace_4m (ok : okV V) (h : VM V τ) {s : Nat} (hs : s < 128) : ∀ (m fu i : Nat), i + m = V 0 0 → m < fu → M_X7_isPeace_4 τ fu (nI s) (b01 (pce V s i)) (nI i) = some (b01 (pce V s (V 0 0)))
  | 0, fu + 1, i, hi, _ => by
    rw [M_X7_isPeace_4, h.1, if_pos (nI_le (by omega) (by have := ok.1; omega)), show V 0 0 = i by omega, okZ_b]
  | m + 1, fu + 1, i, hi, hf => by
    have hlt : i < V 0 0 := by omega
    have o1 := ok.1
    obtain ⟨k1, k2, k3, k4, k5⟩ := ok.2.2.2.2 i hlt
    obtain ⟨c1, c2, c3, c4, c5⟩ := h.2.2.2.2 i hlt
    have ih := peace_4m ok h hs m fu (i + 1) (by omega) (by omega)
    rw [M_X7_isPeace_4, h.1, if_neg (nI_ge hlt (by omega)), nI_1]
    rw [pce] at ih
    cases hp : pce V s i with
    | false =>
      rw [hp] at ih
      rw [if_pos bf0]
      exact ih
    | true =>
      rw [hp] at ih
      rw [if_neg (by decide), has_m (by omega) (by omega), Option.bind_some]
      cases hb : s.testBit i with
      | false =>
        rw [hb] at ih
        rw [if_pos bf0]
        exact ih
      | true =>
        rw [hb] at ih
        rw [if_neg (by decide), rd_n _ (by omega) (by decide), Option.bind_some, c3, nx_and]
        by_cases q : V 3 i &&& s = 0
        · rw [decide_eq_true q] at ih
          rw [q, if_pos n00]
          exact ih
        · rw [decide_eq_false q] at ih
          rw [if_neg (fun z => q ((nI_is 0 0 rfl (Nat.lt_of_le_of_lt Nat.and_le_right (by omega)) (by decide)).mp z))]
          exact ih
theorem peace_m (ok : okV V) (h : VM V τ) {s : Nat} (hs : s < 128) : M_X7_isPeace τ (nI s) = some (b01 (pce V s (V 0 0))) := by
  have o1 := ok.1
  exact peace_4m ok h hs (V 0 0) 10000 0 (by omega) (by omega)
end VW
