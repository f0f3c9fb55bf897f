/- lowest terms: both walks of the divisor -/
theorem gcd_st (a b : Nat) : Nat.gcd b (a % b) = Nat.gcd a b := by rw [Nat.gcd_comm a b, Nat.gcd_rec b a, Nat.gcd_comm]
theorem lz {b : Nat} (hb : b < 2 ^ 63) : lg_cmp (lN b) 0 = 0 ↔ b = 0 := (lgc_eq _ _).trans (pk_lEQ (b := 0) hb (by decide))
theorem rmL_n {a b : Nat} (ha : a < 2 ^ 63) (h0 : 0 < b) (hb : b < 2 ^ 63) : rmL (lN a) (lN b) = some (lN (a % b)) := by
  unfold rmL
  rw [if_neg (fun z => by have := (pk_lEQ (a := b) (b := 0) hb (by decide)).mp z; omega), pk_lRem ha h0 hb]
theorem half_rem {b r : Nat} (h0 : 0 < r) (h : r < b) {k : Nat} (hb : b < 2 ^ (k + 1)) : b % r < 2 ^ k := by
  have h1 := Nat.mod_lt b h0
  have h2 := Nat.div_add_mod b r
  have h3 : 1 ≤ b / r := Nat.div_pos (Nat.le_of_lt h) h0
  have h4 : r ≤ r * (b / r) := Nat.le_mul_of_pos_right r h3
  rw [Nat.pow_succ] at hb
  omega
theorem gd_0 (a st fu : Nat) (hf : 0 < fu) : M_X6_greatestDivisor_9 fu (lN a) (lN 0) (nI st) = some (lN a) := by
  obtain ⟨f, rfl⟩ : ∃ f, fu = f + 1 := ⟨fu - 1, by omega⟩
  rw [M_X6_greatestDivisor_9, if_pos (show lg_cmp (lN 0) 0 = 0 from (lz (by decide)).mpr rfl)]
  split <;> rfl
theorem gd_c : ∀ (k a b st fu : Nat), b < 2 ^ k → a < 2 ^ 63 → b < 2 ^ 63 → st + 2 * k ≤ 100 → 2 * k < fu → M_X6_greatestDivisor_9 fu (lN a) (lN b) (nI st) = some (lN (Nat.gcd a b))
  | 0, a, b, st, fu, h, _, _, _, hf => by
    obtain rfl : b = 0 := by rw [Nat.pow_zero] at h; omega
    rw [Nat.gcd_zero_right]; exact gd_0 a st fu (by omega)
  | k + 1, a, b, st, fu, h, ha, hb, hs, hf => by
    by_cases h0 : b = 0
    · subst h0
      rw [Nat.gcd_zero_right]; exact gd_0 a st fu (by omega)
    obtain ⟨fu, rfl⟩ : ∃ f, fu = f + 2 := ⟨fu - 2, by omega⟩
    have hr := Nat.mod_lt a (show b > 0 by omega)
    rw [M_X6_greatestDivisor_9, if_neg (nl 100 100 rfl (show st < 100 by omega) (by decide)), if_neg (fun z => h0 ((lz hb).mp z)), rmL_n ha (by omega) hb, Option.bind_some, nI_1, ← gcd_st a b]
    by_cases q : a % b = 0
    · rw [q, Nat.gcd_zero_right]; exact gd_0 b (st + 1) (fu + 1) (by omega)
    · rw [M_X6_greatestDivisor_9, if_neg (nl 100 100 rfl (show st + 1 < 100 by omega) (by decide)), if_neg (fun z => q ((lz (by omega)).mp z)), rmL_n hb (by omega) (by omega), Option.bind_some, nI_1, ← gcd_st b (a % b)]
      have h2 : b % (a % b) < a % b := Nat.mod_lt _ (by omega)
      exact gd_c k (a % b) (b % (a % b)) (st + 1 + 1) fu (half_rem (by omega) hr h) (by omega) (by omega) (by omega) (by omega)
def tpE (τ : ST) (A B : Nat) (g : Nat) : Option (Int32 × ST) := some (1, setL (setL τ 13 (lN A / lN g)) 14 (lN B / lN g))
theorem tp_end {τ : ST} {A B g fu : Nat} (hg : 0 < g) (hg2 : g < 2 ^ 63) : M_X7_tellParts_6 (fu + 1) τ (lN A) (lN B) (lN g) (lN 0) = tpE τ A B g := by
  have hz : ¬ lN g = 0 := fun z => by have := (pk_lEQ (a := g) (b := 0) hg2 (by decide)).mp z; omega
  rw [M_X7_tellParts_6, if_pos ((lz (by decide)).mpr rfl)]
  unfold dvL
  rw [if_neg hz, if_neg hz]
  rfl
theorem tp_m {τ : ST} {A B : Nat} : ∀ (k a b fu : Nat), b < 2 ^ k → 0 < a ∨ 0 < b → a < 2 ^ 63 → b < 2 ^ 63 → 2 * k < fu → M_X7_tellParts_6 fu τ (lN A) (lN B) (lN a) (lN b) = tpE τ A B (Nat.gcd a b)
  | 0, a, b, fu, h, hab, ha, _, hf => by
    obtain rfl : b = 0 := by rw [Nat.pow_zero] at h; omega
    obtain ⟨fu, rfl⟩ : ∃ f, fu = f + 1 := ⟨fu - 1, by omega⟩
    rw [Nat.gcd_zero_right]; exact tp_end (by omega) ha
  | k + 1, a, b, fu, h, hab, ha, hb, hf => by
    obtain ⟨fu, rfl⟩ : ∃ f, fu = f + 2 := ⟨fu - 2, by omega⟩
    by_cases h0 : b = 0
    · subst h0
      rw [Nat.gcd_zero_right]; exact tp_end (by omega) ha
    have hr := Nat.mod_lt a (show b > 0 by omega)
    rw [M_X7_tellParts_6, if_neg (fun z => h0 ((lz hb).mp z)), rmL_n ha (by omega) hb, Option.bind_some, ← gcd_st a b]
    by_cases q : a % b = 0
    · rw [q, Nat.gcd_zero_right]; exact tp_end (by omega) hb
    · rw [M_X7_tellParts_6, if_neg (fun z => q ((lz (by omega)).mp z)), rmL_n hb (by omega) (by omega), Option.bind_some, ← gcd_st b (a % b)]
      have h2 : b % (a % b) < a % b := Nat.mod_lt _ (by omega)
      exact tp_m k (a % b) (b % (a % b)) fu (half_rem (by omega) hr h) (Or.inl (by omega)) (by omega) (by omega) (by omega)
theorem tell_cm {Wl : ST → ST → Prop} (hC : Cg Wl) {σ τ : ST} (hR : RelG Wl σ τ) {A B : Nat} (hA : A < 2 ^ 62) (h0 : 0 < B) (hB : B < 2 ^ 40) : ∃ σ' τ', M_X6_tell σ (lN A) (lN B) = some σ' ∧ M_X7_tellParts τ (lN A) (lN B) = some (1, τ') ∧ RelG Wl σ' τ' := by
  have hg : 0 < Nat.gcd A B := Nat.gcd_pos_of_pos_right A h0
  have hgl : Nat.gcd A B ≤ B := Nat.gcd_le_right A h0
  have e1 : M_X6_greatestDivisor (lN A) (lN B) = some (lN (Nat.gcd A B)) := gd_c 40 A B 0 10000 hB (by omega) (by omega) (by omega) (by omega)
  have e2 : M_X7_tellParts τ (lN A) (lN B) = tpE τ A B (Nat.gcd A B) := tp_m 40 A B 10000 hB (Or.inr h0) (by omega) (by omega) (by omega)
  have hz : ¬ lN (Nat.gcd A B) = 0 := fun z => by have := (pk_lEQ (a := Nat.gcd A B) (b := 0) (by omega) (by decide)).mp z; omega
  have hp : ¬ lg_cmp (lN (Nat.gcd A B)) 0 ≤ 0 := by
    intro z
    exact Int32.not_le.mpr ((lgc_gt _ _).mpr ((pk_lLT (a := 0) (b := Nat.gcd A B) (by decide) (by omega)).mpr hg)) z
  refine ⟨setL (setL σ 9 (lN A / lN (Nat.gcd A B))) 10 (lN B / lN (Nat.gcd A B)), setL (setL τ 13 (lN A / lN (Nat.gcd A B))) 14 (lN B / lN (Nat.gcd A B)), ?_, e2, hR.told hC _ _⟩
  unfold M_X6_tell M_X6_tell_23 M_X6_tell_42 dvL
  rw [e1, Option.bind_some, if_neg hp, if_neg hz, Option.bind_some, Option.bind_some, if_neg hp, if_neg hz]
  rfl
/- sums over sets -/
def smN (F : Nat → Nat) : Nat → Nat
  | 0 => 0
  | m + 1 => smN F m + F m
theorem smN_le {F : Nat → Nat} {B : Nat} : ∀ m, (∀ s, s < m → F s ≤ B) → smN F m ≤ m * B
  | 0, _ => Nat.zero_le _
  | m + 1, h => by
    rw [smN, Nat.succ_mul]
    exact Nat.add_le_add (smN_le m (fun s hs => h s (by omega))) (h m (by omega))
def fct : Nat → Nat
  | 0 => 1
  | n + 1 => fct n * (n + 1)
theorem fact_c : ∀ n, n < 8 → M_X6_factorial (nI n) = some (lN (fct n)) := by decide +kernel
theorem orders_m : ∀ n, n < 8 → M_X7_orders (nI n) = some (nI (fct n)) := by decide +kernel
theorem fct_le : ∀ n, n < 8 → 0 < fct n ∧ fct n ≤ 5040 := by decide +kernel
theorem pc_but : ∀ h, h < 8 → ∀ j, j < h → ∀ s, s < 2 ^ h → s.testBit j = false → pc7 s + 1 ≤ h := by decide +kernel
theorem orbit_lt : ∀ j, j < 7 → ∀ s, s < 128 → s ||| 2 ^ j < 128 := by decide +kernel
/- parts by all orders -/
def ptB (V : VT) (j s : Nat) : Bool := !s.testBit j && (decide (wgt V s (V 0 0) < V 0 1) && decide (V 0 1 ≤ wgt V (s ||| 2 ^ j) (V 0 0)))
def ptF (V : VT) (j s : Nat) : Nat := if ptB V j s then fct (pc7 s) * fct (V 0 0 - 1 - pc7 s) else 0
section PT
variable {V : VT} {σ τ : ST}
theorem odb_5 (ok : okV V) (h : VC V σ) {j : Nat} (hj : j < V 0 0) : ∀ (m fu i : Nat), i + m = 2 ^ V 0 0 → m < fu → M_X5_ordersDecidedBy_5 σ fu (nI j) (lN (smN (ptF V j) i)) (nI i) = some (lN (smN (ptF V j) (2 ^ V 0 0)))
  | 0, fu + 1, i, hi, _ => by
    have h2 := p2h ok
    rw [M_X5_ordersDecidedBy_5, sets_c ok h, Option.bind_some, if_pos (nI_le (by omega) (by omega)), show i = 2 ^ V 0 0 by omega]
  | m + 1, fu + 1, i, hi, hf => by
    have h2 := p2h ok
    have o1 := ok.1
    have o2 := ok.2.1
    have w1 := wgt_le (V := V) i (V 0 0)
    have w2 := wgt_le (V := V) (i ||| 2 ^ j) (V 0 0)
    have hor := orbit_lt j (by omega) i (by omega)
    have ih := odb_5 ok h hj m fu (i + 1) (by omega) (by omega)
    rw [smN] at ih
    unfold ptF ptB at ih
    rw [M_X5_ordersDecidedBy_5, sets_c ok h, Option.bind_some, if_neg (nI_ge (by omega) (by omega)), isIn_c (by omega) (by omega), Option.bind_some, nI_1]
    unfold ptF ptB
    cases hb : i.testBit j with
    | true =>
      rw [hb] at ih
      rw [if_neg (by decide)]
      exact ih
    | false =>
      rw [hb] at ih
      rw [if_pos bf0, weightOf_c ok h (by omega), Option.bind_some, h.2.1, shl1 (by omega), nx_or, weightOf_c ok h (by omega), Option.bind_some]
      by_cases q : V 0 1 ≤ wgt V i (V 0 0)
      · rw [decide_eq_false (show ¬ wgt V i (V 0 0) < V 0 1 by omega)] at ih
        rw [if_pos (nI_le q (by omega))]
        exact ih
      · rw [decide_eq_true (show wgt V i (V 0 0) < V 0 1 by omega)] at ih
        rw [if_neg (nI_ge (by omega) (by omega))]
        by_cases q2 : V 0 1 ≤ wgt V (i ||| 2 ^ j) (V 0 0)
        · rw [decide_eq_true q2] at ih
          have hp := pc_but (V 0 0) (by omega) j hj i (by omega) hb
          rw [if_neg (nI_nlt q2 (by omega)), bitc_all i (by omega), Option.bind_some, fact_c _ (by omega), Option.bind_some, h.1, show (1 : Int32) = nI 1 from rfl, pk_sub (by omega), pk_sub (by omega), fact_c _ (by omega), Option.bind_some, lN_mul, lN_add]
          exact ih
        · rw [decide_eq_false q2] at ih
          rw [if_pos (nI_lt (by omega) (by omega))]
          exact ih
theorem part_15 (ok : okV V) (h : VM V τ) {j : Nat} (hj : j < V 0 0) : ∀ (m fu i : Nat), i + m = 2 ^ V 0 0 → m < fu → M_X7_part_15 fu τ (nI j) (lN (smN (ptF V j) i)) (nI i) = (M_X7_tellParts τ (lN (smN (ptF V j) (2 ^ V 0 0))) (lN (fct (V 0 0)))).bind fun o124 => some (o124.1, o124.2)
  | 0, fu + 1, i, hi, _ => by
    have h2 := p2h ok
    have o1 := ok.1
    have := (fct_le (V 0 0) (by omega)).2
    rw [M_X7_part_15, all_m ok h, Option.bind_some, show i = 2 ^ V 0 0 by omega, if_pos (all_ge ok), h.1, orders_m _ (by omega), Option.bind_some, nI_l (by omega)]
  | m + 1, fu + 1, i, hi, hf => by
    have h2 := p2h ok
    have o1 := ok.1
    have o2 := ok.2.1
    have w1 := wgt_le (V := V) i (V 0 0)
    have w2 := wgt_le (V := V) (i ||| 2 ^ j) (V 0 0)
    have hor := orbit_lt j (by omega) i (by omega)
    have ih := part_15 ok h hj m fu (i + 1) (by omega) (by omega)
    rw [smN] at ih
    have st0 : ptB V j i = false → M_X7_part_67 (M_X7_part_15 fu) τ (nI j) (lN (smN (ptF V j) i)) (nI i) = (M_X7_tellParts τ (lN (smN (ptF V j) (2 ^ V 0 0))) (lN (fct (V 0 0)))).bind fun o124 => some (o124.1, o124.2) := by
      intro hb
      rw [show ptF V j i = 0 by unfold ptF; rw [hb]; rfl] at ih
      unfold M_X7_part_67 M_X7_part_68 M_X7_part_106
      rw [if_pos rfl, nI_1, show lN (smN (ptF V j) i) + 0 = lN (smN (ptF V j) i + 0) from lN_add _ 0]
      exact ih
    rw [M_X7_part_15, all_m ok h, Option.bind_some, if_neg (all_lt ok h (by omega)), has_m (by omega) (by omega), Option.bind_some]
    cases hb : i.testBit j with
    | true =>
      rw [if_neg (by decide)]
      exact st0 (by unfold ptB; rw [hb]; rfl)
    | false =>
      rw [if_pos bf0, weightOf_m ok h (by omega), Option.bind_some, h.2.1, shl1 (by omega), nx_or, weightOf_m ok h (by omega), Option.bind_some]
      by_cases q : V 0 1 ≤ wgt V i (V 0 0)
      · rw [if_pos (nI_le q (by omega))]
        exact st0 (by unfold ptB; rw [hb, decide_eq_false (show ¬ wgt V i (V 0 0) < V 0 1 by omega)]; rfl)
      · rw [if_neg (nI_ge (by omega) (by omega))]
        by_cases q2 : V 0 1 ≤ wgt V (i ||| 2 ^ j) (V 0 0)
        · have hp := pc_but (V 0 0) (by omega) j hj i (by omega) hb
          have f1 := (fct_le (pc7 i) (by omega)).2
          have f2 := (fct_le (V 0 0 - 1 - pc7 i) (by omega)).2
          have hB : ptF V j i = fct (pc7 i) * fct (V 0 0 - 1 - pc7 i) := by
            unfold ptF ptB
            rw [hb, decide_eq_true (show wgt V i (V 0 0) < V 0 1 by omega), decide_eq_true q2]; rfl
          rw [hB] at ih
          rw [if_neg (nI_nlt q2 (by omega))]
          unfold M_X7_part_68 M_X7_part_106
          rw [if_neg n10, bits_all i (by omega), Option.bind_some, orders_m _ (by omega), Option.bind_some, Option.bind_some, h.1, nI_1]
          rw [show (1 : Int32) = nI 1 from rfl, pk_sub (by omega), pk_sub (by omega), orders_m _ (by omega), Option.bind_some, nI_l (by omega), nI_l (by omega), lN_mul, lN_add]
          exact ih
        · rw [if_pos (nI_lt (by omega) (by omega))]
          exact st0 (by unfold ptB; rw [hb, decide_eq_false q2, Bool.and_false, Bool.and_false])
end PT
theorem ptF_le {V : VT} (o1 : V 0 0 ≤ 7) (j s : Nat) : ptF V j s ≤ 25401600 := by
  unfold ptF
  split
  · have hp := pc7_le s
    have f1 := (fct_le (pc7 s) (by omega)).2
    have f2 := (fct_le (V 0 0 - 1 - pc7 s) (by omega)).2
    exact Nat.le_trans (Nat.mul_le_mul f1 f2) (by decide)
  · exact Nat.zero_le _
theorem pure_part {Wl : ST → ST → Prop} (hC : Cg Wl) (hV : Vws Wl) : P_part (RelG Wl) := by
  intro σ τ a hR
  obtain ⟨V, ok, hc, hm⟩ := hV σ τ hR.2.2.2.2.2
  have h2 := p2h ok
  have o1 := ok.1
  rcases house_cm ok hc hm a with ⟨e1, e2⟩ | ⟨j, hj, rfl, e1, e2⟩
  · exact ⟨-1, σ, τ, by unfold M_X6_part; rw [e1, Option.bind_some, if_pos rfl], by unfold M_X7_part; rw [e2, Option.bind_some, if_pos rfl], hR⟩
  · have hf := fct_le (V 0 0) (by omega)
    have hA : smN (ptF V j) (2 ^ V 0 0) < 2 ^ 62 := by
      have := smN_le (F := ptF V j) (B := 25401600) (2 ^ V 0 0) (fun s _ => ptF_le o1 j s)
      omega
    obtain ⟨σ', τ', u1, u2, u3⟩ := tell_cm hC hR hA hf.1 (by omega)
    refine ⟨1, σ', τ', ?_, ?_, u3⟩
    · unfold M_X6_part
      rw [e1, Option.bind_some, if_neg n10, show M_X5_ordersDecidedBy σ (nI j) = some (lN (smN (ptF V j) (2 ^ V 0 0))) from odb_5 ok hc hj (2 ^ V 0 0) 10000 0 (by omega) (by omega), Option.bind_some, houses_c hc, Option.bind_some, fact_c _ (by omega), Option.bind_some, u1, Option.bind_some]
    · unfold M_X7_part
      rw [e2, Option.bind_some, if_neg n10, show M_X7_part_15 10000 τ (nI j) 0 0 = _ from part_15 ok hm hj (2 ^ V 0 0) 10000 0 (by omega) (by omega), u2, Option.bind_some]
