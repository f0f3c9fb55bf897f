/-! counting over all sets -/
def cnt (P : Nat → Bool) : Nat → Nat
  | 0 => 0
  | m + 1 => cnt P m + (if P m then 1 else 0)
def andS (P : Nat → Bool) (a : Nat) : Nat → Nat
  | 0 => a
  | m + 1 => if P m then andS P a m &&& m else andS P a m
def orS (P : Nat → Bool) : Nat → Nat
  | 0 => 0
  | m + 1 => if P m then orS P m ||| m else orS P m
def pc7 (s : Nat) : Nat := s % 2 + s / 2 % 2 + s / 4 % 2 + s / 8 % 2 + s / 16 % 2 + s / 32 % 2 + s / 64 % 2
/-- the first of the fewest: 0 none yet, k + 1 the set k -/
def fewS (P : Nat → Bool) : Nat → Nat
  | 0 => 0
  | m + 1 => if P m then (if fewS P m = 0 then m + 1 else if pc7 (fewS P m - 1) ≤ pc7 m then fewS P m else m + 1) else fewS P m
def fewV (k : Nat) : Int32 := if k = 0 then -9 else nI (k - 1)
theorem cnt_le (P : Nat → Bool) : ∀ m, cnt P m ≤ m
  | 0 => Nat.le_refl 0
  | m + 1 => by rw [cnt]; have := cnt_le P m; split <;> omega
theorem fewS_le (P : Nat → Bool) : ∀ m, fewS P m ≤ m
  | 0 => Nat.le_refl 0
  | m + 1 => by
    rw [fewS]
    have := fewS_le P m
    split
    · split
      · omega
      · split <;> omega
    · omega
theorem bits_all : ∀ s, s < 128 → M_X7_bits (nI s) = some (nI (pc7 s)) := by decide +kernel
theorem bitc_all : ∀ s, s < 128 → M_J6_bitCount_0f7a4 (nI s) = some (nI (pc7 s)) := by decide +kernel
theorem pc7_le (s : Nat) : pc7 s ≤ 7 := by unfold pc7; omega
theorem nx_or (a b : Nat) : nI a ||| nI b = nI (a ||| b) := by
  apply Int32.toBitVec_inj.1
  show BitVec.ofNat 32 a ||| BitVec.ofNat 32 b = BitVec.ofNat 32 (a ||| b)
  apply BitVec.eq_of_getLsbD_eq
  intro i hi
  simp [hi]
theorem or_lt {a b : Nat} (ha : a < 128) (hb : b < 128) : a ||| b < 128 := Nat.or_lt_two_pow (n := 7) ha hb
theorem andS_lt (P : Nat → Bool) {a : Nat} (ha : a < 128) : ∀ m, andS P a m < 128
  | 0 => ha
  | m + 1 => by rw [andS]; split; exact Nat.lt_of_le_of_lt Nat.and_le_left (andS_lt P ha m); exact andS_lt P ha m
theorem orS_lt (P : Nat → Bool) : ∀ m, m ≤ 128 → orS P m < 128
  | 0, _ => Nat.zero_lt_succ 127
  | m + 1, h => by rw [orS]; split; exact or_lt (orS_lt P m (by omega)) (by omega); exact orS_lt P m (by omega)
def LKp (P : Nat → Bool) (N : Nat) (σ : ST) : Prop := N ≤ 128 ∧ σ.1 38 = nI N ∧ ∀ s, s < N → σ.2.2 33 s = b01 (P s)
def fLk : FP := ([38], [], [33])
theorem LKp.cg {P : Nat → Bool} {N : Nat} {σ σ' : ST} (h : LKp P N σ) (hs : same fLk σ σ') : LKp P N σ' := by
  unfold LKp
  rw [hs.1 38 (by decide), hs.2.2 33 (by decide)]
  exact h
theorem lk_p {V : VT} {σ : ST} (ok : okV V) (h : VC V σ) : LKp (opn V) (2 ^ V 0 0) (lkS V σ) := ⟨p2h ok, (lk_ok h).2.1, (lk_ok h).2.2⟩
section SV
variable {P : Nat → Bool} {N : Nat} {σ : ST}
theorem howMany_4 (h : LKp P N σ) : ∀ (m fu i : Nat), i + m = N → m < fu → M_X4_howManyOpen_4 σ fu (nI (cnt P i)) (nI i) = some (nI (cnt P N))
  | 0, fu + 1, i, hi, _ => by
    have := h.1
    rw [M_X4_howManyOpen_4, h.2.1, if_pos (nI_le (by omega) (by omega)), show i = N by omega]
  | m + 1, fu + 1, i, hi, hf => by
    have h1 := h.1
    have ih := howMany_4 h m fu (i + 1) (by omega) (by omega)
    rw [M_X4_howManyOpen_4, h.2.1, if_neg (nI_ge (by omega) (by omega)), rd_n _ (by omega) (by decide), Option.bind_some, h.2.2 i (by omega), nI_1 i]
    rw [cnt] at ih
    cases hp : P i with
    | false => rw [hp] at ih; rw [if_pos bf0]; exact ih
    | true => rw [hp] at ih; rw [if_neg (by decide), nI_1]; exact ih
theorem howMany_c (h : LKp P N σ) : M_X4_howManyOpen σ = some (nI (cnt P N)) := howMany_4 h N 10000 0 (by omega) (by have := h.1; omega)
theorem inAny_4 (h : LKp P N σ) : ∀ (m fu i : Nat), i + m = N → m < fu → M_X4_inAny_4 σ fu (nI (orS P i)) (nI i) = some (nI (orS P N))
  | 0, fu + 1, i, hi, _ => by
    have := h.1
    rw [M_X4_inAny_4, h.2.1, if_pos (nI_le (by omega) (by omega)), show i = N by omega]
  | m + 1, fu + 1, i, hi, hf => by
    have h1 := h.1
    have ih := inAny_4 h m fu (i + 1) (by omega) (by omega)
    rw [M_X4_inAny_4, h.2.1, if_neg (nI_ge (by omega) (by omega)), rd_n _ (by omega) (by decide), Option.bind_some, h.2.2 i (by omega), nI_1 i]
    rw [orS] at ih
    cases hp : P i with
    | false => rw [hp] at ih; rw [if_pos bf0]; exact ih
    | true => rw [hp] at ih; rw [if_neg (by decide), nx_or]; exact ih
theorem inAny_c (h : LKp P N σ) : M_X4_inAny σ = some (nI (orS P N)) := inAny_4 h N 10000 0 (by omega) (by have := h.1; omega)
theorem inAll_9 (h : LKp P N σ) (a : Nat) : ∀ (m fu i : Nat), i + m = N → m < fu → M_X4_inAll_9 σ fu (nI (andS P a i)) (nI i) = some (nI (andS P a N))
  | 0, fu + 1, i, hi, _ => by
    have := h.1
    rw [M_X4_inAll_9, h.2.1, if_pos (nI_le (by omega) (by omega)), show i = N by omega]
  | m + 1, fu + 1, i, hi, hf => by
    have h1 := h.1
    have ih := inAll_9 h a m fu (i + 1) (by omega) (by omega)
    rw [M_X4_inAll_9, h.2.1, if_neg (nI_ge (by omega) (by omega)), rd_n _ (by omega) (by decide), Option.bind_some, h.2.2 i (by omega), nI_1 i]
    rw [andS] at ih
    cases hp : P i with
    | false => rw [hp] at ih; rw [if_pos bf0]; exact ih
    | true => rw [hp] at ih; rw [if_neg (by decide), nx_and]; exact ih
theorem inAll_c (h : LKp P N σ) (h0 : 0 < N) : M_X4_inAll σ = some (nI (andS P (N - 1) N)) := by
  unfold M_X4_inAll
  rw [h.2.1, show (1 : Int32) = nI 1 from rfl, pk_sub h0]
  exact inAll_9 h (N - 1) N 10000 0 (by omega) (by have := h.1; omega)
theorem fewV_0 : fewV 0 = -9 := rfl
theorem fewV_s {k : Nat} (h : 0 < k) : fewV k = nI (k - 1) := if_neg (by omega)
theorem m9_ne {n : Nat} (h : n < 2 ^ 31) : ¬ nI n = -9 := fun e => nI_pos h (by rw [e]; decide)
theorem fewest_5 (h : LKp P N σ) : ∀ (m fu i : Nat), i + m = N → m < fu → M_X4_fewest_5 σ fu (fewV (fewS P i)) (nI i) = some (fewV (fewS P N))
  | 0, fu + 1, i, hi, _ => by
    have := h.1
    rw [M_X4_fewest_5, h.2.1, if_pos (nI_le (by omega) (by omega)), show i = N by omega]
  | m + 1, fu + 1, i, hi, hf => by
    have h1 := h.1
    have hl := fewS_le P i
    have ih := fewest_5 h m fu (i + 1) (by omega) (by omega)
    rw [M_X4_fewest_5, h.2.1, if_neg (nI_ge (by omega) (by omega)), rd_n _ (by omega) (by decide), Option.bind_some, h.2.2 i (by omega), nI_1 i]
    rw [fewS] at ih
    cases hp : P i with
    | false => rw [hp] at ih; rw [if_pos bf0]; exact ih
    | true =>
      rw [hp, if_pos rfl] at ih
      rw [if_neg (by decide)]
      by_cases q : fewS P i = 0
      · rw [if_pos q] at ih
        rw [q, if_pos fewV_0]
        exact ih
      · rw [if_neg q] at ih
        rw [fewV_s (by omega), if_neg (m9_ne (by omega)), bitc_all i (by omega), Option.bind_some, bitc_all _ (by omega), Option.bind_some]
        have p1 := pc7_le i
        by_cases q2 : pc7 (fewS P i - 1) ≤ pc7 i
        · rw [if_pos q2] at ih
          rw [if_pos (nI_le q2 (by omega)), ← fewV_s (by omega)]
          exact ih
        · have p2 := pc7_le (fewS P i - 1)
          rw [if_neg q2] at ih
          rw [if_neg (nI_ge (by omega) (by omega))]
          exact ih
theorem fewest_c (h : LKp P N σ) : M_X4_fewest σ = some (fewV (fewS P N)) := fewest_5 h N 10000 0 (by omega) (by have := h.1; omega)
end SV
/-- told: many by 1 -/
theorem gcd1 (x : Int64) : M_X6_greatestDivisor x 1 = some 1 := by
  unfold M_X6_greatestDivisor
  rw [M_X6_greatestDivisor_9, if_neg (by decide), if_neg (by decide)]
  have e : rmL x 1 = some 0 := by
    unfold rmL
    rw [if_neg (by decide), Int64.div_one, Int64.mul_one, Int64.sub_self]
  rw [e, Option.bind_some, M_X6_greatestDivisor_9, if_neg (by decide), if_pos (by decide)]
theorem tell1 (σ : ST) (x : Int64) : M_X6_tell σ x 1 = some (setL (setL σ 9 x) 10 1) := by
  unfold M_X6_tell
  rw [gcd1, Option.bind_some, if_neg (by decide)]
  have e : dvL x 1 = some x := by unfold dvL; rw [if_neg (by decide), Int64.div_one]
  rw [e, Option.bind_some]
  unfold M_X6_tell_23
  rw [Option.bind_some, if_neg (by decide)]
  rfl
theorem RelG.told {Wl : ST → ST → Prop} (hC : Cg Wl) {σ τ : ST} (hR : RelG Wl σ τ) (u v : Int64) : RelG Wl (setL (setL σ 9 u) 10 v) (setL (setL τ 13 u) 14 v) := by
  obtain ⟨h1, h2, h3, h4, h5, h6⟩ := hR
  exact ⟨h1.cg ((same.rf.sL (by decide)).sL (by decide)) ((same.rf.sL (by decide)).sL (by decide)), h2.cg ((same.rf.sL (by decide)).sL (by decide)) ((same.rf.sL (by decide)).sL (by decide)), h3.cg ((same.rf.sL (by decide)).sL (by decide)) ((same.rf.sL (by decide)).sL (by decide)), h4.cg ((same.rf.sL (by decide)).sL (by decide)) ((same.rf.sL (by decide)).sL (by decide)), ⟨rfl, rfl⟩, hC _ _ _ _ h6 ((same.rf.sL (by decide)).sL (by decide)) ((same.rf.sL (by decide)).sL (by decide))⟩
theorem setI_setI (σ : ST) (k : Nat) (a b : Int32) : setI (setI σ k a) k b = setI σ k b := by
  show (va_up (va_up σ.1 k a) k b, σ.2.1, σ.2.2) = (va_up σ.1 k b, σ.2.1, σ.2.2)
  rw [bx_uu]
/-- the reference's walk over all sets: opens -/
theorem all_lt {V : VT} {τ : ST} (ok : okV V) (h : VM V τ) {i : Nat} (hi : i < 2 ^ V 0 0) : ¬ nI (2 ^ V 0 0 - 1) < nI i := nI_nlt (by omega) (by have := p2h ok; omega)
theorem all_ge {V : VT} (ok : okV V) : nI (2 ^ V 0 0 - 1) < nI (2 ^ V 0 0) := nI_lt (by have := p2p ok; omega) (by have := p2h ok; omega)
theorem opens_10 {V : VT} (ok : okV V) : ∀ (m fu i : Nat) (τ : ST), VM V τ → i + m = 2 ^ V 0 0 → m < fu → M_X7_opens_10 fu (setI τ 12 (fewV (fewS (opn V) i))) (nI (cnt (opn V) i)) (nI i) = some (1, setL (setL (setI τ 12 (fewV (fewS (opn V) (2 ^ V 0 0)))) 13 (nI (cnt (opn V) (2 ^ V 0 0))).toInt64) 14 1)
  | 0, fu + 1, i, τ, h, hi, _ => by
    rw [M_X7_opens_10, all_m ok (h.cg (same.rf.sI (by decide))), Option.bind_some, show i = 2 ^ V 0 0 by omega, if_pos (all_ge ok)]
    rfl
  | m + 1, fu + 1, i, τ, h, hi, hf => by
    have h2 := p2h ok
    have hl := fewS_le (opn V) i
    have hlt : i < 2 ^ V 0 0 := by omega
    have ih := opens_10 ok m fu (i + 1) τ h (by omega) (by omega)
    rw [M_X7_opens_10, all_m ok (h.cg (same.rf.sI (by decide))), Option.bind_some, if_neg (all_lt ok h hlt), open_m ok (h.cg (same.rf.sI (by decide))) (by omega), Option.bind_some]
    unfold M_X7_opens_34 M_X7_opens_68 M_X7_opens_64 M_X7_opens_72
    rw [cnt, fewS] at ih
    cases hp : opn V i with
    | false =>
      rw [hp] at ih
      rw [if_pos bf0, if_pos bf0, Option.bind_some, nI_1 i]
      show M_X7_opens_10 fu (setI (setI τ 12 (fewV (fewS (opn V) i))) 12 (va_up τ.1 12 (fewV (fewS (opn V) i)) 12)) (nI (cnt (opn V) i) + nI 0) (nI (i + 1)) = _
      rw [vu_eq, setI_setI, nI_add]
      exact ih
    | true =>
      rw [hp, if_pos rfl] at ih
      have e12 : (setI τ 12 (fewV (fewS (opn V) i))).1 12 = fewV (fewS (opn V) i) := by show va_up τ.1 12 (fewV (fewS (opn V) i)) 12 = _; rw [vu_eq]
      rw [if_neg (by decide), if_neg (by decide), e12]
      by_cases q : fewS (opn V) i = 0
      · rw [if_pos q] at ih
        rw [q, if_pos fewV_0, Option.bind_some, setI_setI, nI_1 i, nI_1]
        exact ih
      · rw [if_neg q] at ih
        rw [fewV_s (by omega), if_neg (m9_ne (by omega)), bits_all i (by omega), Option.bind_some, bits_all _ (by omega), Option.bind_some]
        have p1 := pc7_le i
        by_cases q2 : pc7 (fewS (opn V) i - 1) ≤ pc7 i
        · rw [if_pos q2, fewV_s (by omega)] at ih
          rw [if_pos (nI_le q2 (by omega)), Option.bind_some, setI_setI, nI_1 i, nI_1]
          exact ih
        · have p2 := pc7_le (fewS (opn V) i - 1)
          rw [if_neg q2] at ih
          rw [if_neg (nI_ge (by omega) (by omega)), Option.bind_some, setI_setI, nI_1 i, nI_1]
          exact ih
theorem pure_opens {Wl : ST → ST → Prop} (hC : Cg Wl) (hV : Vws Wl) : P_opens (RelG Wl) := by
  intro σ τ hR
  obtain ⟨V, ok, hc, hm⟩ := hV σ τ hR.2.2.2.2.2
  have h2 := p2h ok
  refine ⟨1, setI (setL (setL (lkS V σ) 9 (nI (cnt (opn V) (2 ^ V 0 0))).toInt64) 10 1) 8 (fewV (fewS (opn V) (2 ^ V 0 0))), setL (setL (setI τ 12 (fewV (fewS (opn V) (2 ^ V 0 0)))) 13 (nI (cnt (opn V) (2 ^ V 0 0))).toInt64) 14 1, ?_, ?_, ((hR.lk hC).told hC _ _).ask hC _⟩
  · unfold M_X6_opens
    rw [look_c ok hc, Option.bind_some, howMany_c (lk_p ok hc), Option.bind_some, tell1, Option.bind_some, fewest_c ((lk_p ok hc).cg ((same.rf.sL (by decide)).sL (by decide)))]
    rfl
  · unfold M_X7_opens
    exact opens_10 ok (2 ^ V 0 0) 10000 0 τ hm (by omega) (by omega)
theorem must_12 {V : VT} {τ : ST} (ok : okV V) (h : VM V τ) (a : Nat) : ∀ (m fu i : Nat), i + m = 2 ^ V 0 0 → m < fu → M_X7_must_12 fu τ (nI (andS (opn V) a i)) (nI (orS (opn V) i)) (b01 (decide (0 < cnt (opn V) i))) (nI i) = if cnt (opn V) (2 ^ V 0 0) = 0 then some (-4, τ) else some (nI (andS (opn V) a (2 ^ V 0 0)), setI τ 12 (nI (orS (opn V) (2 ^ V 0 0))))
  | 0, fu + 1, i, hi, _ => by
    rw [M_X7_must_12, all_m ok h, Option.bind_some, show i = 2 ^ V 0 0 by omega, if_pos (all_ge ok)]
    by_cases q : cnt (opn V) (2 ^ V 0 0) = 0
    · rw [if_pos q, q]; rfl
    · rw [if_neg q, decide_eq_true (by omega)]; rfl
  | m + 1, fu + 1, i, hi, hf => by
    have h2 := p2h ok
    have hlt : i < 2 ^ V 0 0 := by omega
    have ih := must_12 ok h a m fu (i + 1) (by omega) (by omega)
    rw [M_X7_must_12, all_m ok h, Option.bind_some, if_neg (all_lt ok h hlt), open_m ok h (by omega), Option.bind_some, nI_1 i]
    rw [cnt, andS, orS] at ih
    cases hp : opn V i with
    | false => rw [hp] at ih; rw [if_pos bf0]; exact ih
    | true =>
      rw [hp, if_pos rfl, if_pos rfl, if_pos rfl, decide_eq_true (by omega)] at ih
      rw [if_neg (by decide), nx_and, nx_or]
      exact ih
theorem pure_must {Wl : ST → ST → Prop} (hC : Cg Wl) (hV : Vws Wl) : P_must (RelG Wl) := by
  intro σ τ hR
  obtain ⟨V, ok, hc, hm⟩ := hV σ τ hR.2.2.2.2.2
  have h2 := p2h ok
  have h3 := p2p ok
  have hcl := cnt_le (opn V) (2 ^ V 0 0)
  have e : M_X7_must τ = if cnt (opn V) (2 ^ V 0 0) = 0 then some (-4, τ) else some (nI (andS (opn V) (2 ^ V 0 0 - 1) (2 ^ V 0 0)), setI τ 12 (nI (orS (opn V) (2 ^ V 0 0)))) := by
    unfold M_X7_must
    rw [all_m ok hm, Option.bind_some]
    exact must_12 ok hm (2 ^ V 0 0 - 1) (2 ^ V 0 0) 10000 0 (by omega) (by omega)
  by_cases q : cnt (opn V) (2 ^ V 0 0) = 0
  · refine ⟨-4, lkS V σ, τ, ?_, by rw [e, if_pos q], hR.lk hC⟩
    unfold M_X6_must
    rw [look_c ok hc, Option.bind_some, howMany_c (lk_p ok hc), Option.bind_some, q, if_pos n00]
  · refine ⟨_, _, _, ?_, by rw [e, if_neg q], (hR.lk (V := V) hC).ask hC _⟩
    unfold M_X6_must
    rw [look_c ok hc, Option.bind_some, howMany_c (lk_p ok hc), Option.bind_some, if_neg (nI_ne0 (by omega) (by omega)), inAny_c (lk_p ok hc), Option.bind_some, Option.bind_some, inAll_c ((lk_p ok hc).cg (same.rf.sI (by decide))) (by omega)]
    rfl
/-- a set without a house -/
def wo (s i : Nat) : Nat := if s.testBit i then s - 2 ^ i else s
theorem clr_all : ∀ i, i < 7 → ∀ s, s < 128 → nI s &&& ((1 : Int32) <<< (nI i &&& 31) ^^^ (-1)) = nI (wo s i) ∧ wo s i ≤ s := by decide +kernel
theorem clr {s i : Nat} (hi : i < 7) (hs : s < 128) : nI s &&& ((1 : Int32) <<< (nI i &&& 31) ^^^ (-1)) = nI (wo s i) := (clr_all i hi s hs).1
theorem wo_le {s i : Nat} (hi : i < 7) (hs : s < 128) : wo s i ≤ s := (clr_all i hi s hs).2
def hldP (P : Nat → Bool) (i s : Nat) : Bool := s.testBit i && (P s && !P (wo s i))
theorem decided_4 {P : Nat → Bool} {N : Nat} {σ : ST} (h : LKp P N σ) {j : Nat} (hj : j < 7) : ∀ (m fu i : Nat), i + m = N → m < fu → M_X4_decidedBy_4 σ fu (nI j) (nI (cnt (hldP P j) i)) (nI i) = some (nI (cnt (hldP P j) N))
  | 0, fu + 1, i, hi, _ => by
    have := h.1
    rw [M_X4_decidedBy_4, h.2.1, if_pos (nI_le (by omega) (by omega)), show i = N by omega]
  | m + 1, fu + 1, i, hi, hf => by
    have h1 := h.1
    have hw := wo_le (s := i) hj (by omega)
    have ih := decided_4 h hj m fu (i + 1) (by omega) (by omega)
    rw [M_X4_decidedBy_4, h.2.1, if_neg (nI_ge (by omega) (by omega)), isIn_c (by omega) (by omega), Option.bind_some, nI_1 i]
    rw [cnt] at ih
    unfold hldP at ih ⊢
    cases hb : i.testBit j with
    | false => rw [hb] at ih; rw [if_pos bf0]; exact ih
    | true =>
      rw [hb] at ih
      rw [if_neg (by decide), rd_n _ (by omega) (by decide), Option.bind_some, h.2.2 i (by omega)]
      cases hp : P i with
      | false => rw [hp] at ih; rw [if_pos bf0]; exact ih
      | true =>
        rw [hp] at ih
        rw [if_neg (by decide), clr hj (by omega), rd_n _ (by omega) (by decide), Option.bind_some, h.2.2 _ (by omega)]
        cases hq : P (wo i j) with
        | false => rw [hq] at ih; rw [if_pos bf0, nI_1]; exact ih
        | true => rw [hq] at ih; rw [if_neg (by decide)]; exact ih
theorem holds_14 {V : VT} {τ : ST} (ok : okV V) (h : VM V τ) {j : Nat} (hj : j < 7) : ∀ (m fu i : Nat), i + m = 2 ^ V 0 0 → m < fu → M_X7_holds_14 τ fu (nI j) (nI (cnt (hldP (opn V) j) i)) (nI i) = some (nI (cnt (hldP (opn V) j) (2 ^ V 0 0)))
  | 0, fu + 1, i, hi, _ => by
    rw [M_X7_holds_14, all_m ok h, Option.bind_some, show i = 2 ^ V 0 0 by omega, if_pos (all_ge ok)]
  | m + 1, fu + 1, i, hi, hf => by
    have h2 := p2h ok
    have hw := wo_le (s := i) hj (by omega)
    have hlt : i < 2 ^ V 0 0 := by omega
    have ih := holds_14 ok h hj m fu (i + 1) (by omega) (by omega)
    have e0 : nI (cnt (hldP (opn V) j) i) + 0 = nI (cnt (hldP (opn V) j) i + 0) := nI_add _ 0
    rw [M_X7_holds_14, all_m ok h, Option.bind_some, if_neg (all_lt ok h hlt), has_m (by omega) (by omega), Option.bind_some, nI_1 i, e0]
    rw [cnt] at ih
    unfold hldP at ih ⊢
    cases hb : i.testBit j with
    | false => rw [hb] at ih; rw [if_pos bf0]; exact ih
    | true =>
      rw [hb] at ih
      rw [if_neg (by decide), open_m ok h (by omega), Option.bind_some]
      cases hp : opn V i with
      | false => rw [hp] at ih; rw [if_pos bf0]; exact ih
      | true =>
        rw [hp] at ih
        rw [if_neg (by decide), clr hj (by omega), open_m ok h (by omega), Option.bind_some]
        cases hq : opn V (wo i j) with
        | false => rw [hq] at ih; rw [if_pos bf0, nI_1]; exact ih
        | true => rw [hq] at ih; rw [if_neg (by decide)]; exact ih
theorem pure_holds {Wl : ST → ST → Prop} (hC : Cg Wl) (hV : Vws Wl) : P_holds (RelG Wl) := by
  intro σ τ a hR
  obtain ⟨V, ok, hc, hm⟩ := hV σ τ hR.2.2.2.2.2
  have h2 := p2h ok
  have o1 := ok.1
  rcases house_cm ok hc hm a with ⟨e1, e2⟩ | ⟨j, hj, rfl, e1, e2⟩
  · exact ⟨-1, σ, by unfold M_X6_holds; rw [e1, Option.bind_some, if_pos rfl], by unfold M_X7_holds; rw [e2, Option.bind_some, if_pos rfl], hR⟩
  · refine ⟨nI (cnt (hldP (opn V) j) (2 ^ V 0 0)), lkS V σ, ?_, ?_, hR.lk hC⟩
    · unfold M_X6_holds M_X4_decidedBy
      rw [e1, Option.bind_some, if_neg (by decide), look_c ok hc, Option.bind_some, show M_X4_decidedBy_4 (lkS V σ) 10000 (nI j) 0 0 = some (nI (cnt (hldP (opn V) j) (2 ^ V 0 0))) from decided_4 (lk_p ok hc) (by omega) (2 ^ V 0 0) 10000 0 (by omega) (by omega)]
      rfl
    · unfold M_X7_holds
      rw [e2, Option.bind_some, if_neg (by decide)]
      exact holds_14 ok hm (by omega) (2 ^ V 0 0) 10000 0 (by omega) (by omega)
