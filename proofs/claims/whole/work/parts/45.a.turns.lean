/- by turns: the game over called and left -/
def exR (f : Nat → Bool) : Nat → Nat → Bool
  | _, 0 => false
  | i, m + 1 => f i || exR f (i + 1) m
def alR (f : Nat → Bool) : Nat → Nat → Bool
  | _, 0 => true
  | i, m + 1 => f i && alR f (i + 1) m
theorem exR_cg {f g : Nat → Bool} : ∀ m i, (∀ k, i ≤ k → k < i + m → f k = g k) → exR f i m = exR g i m
  | 0, _, _ => rfl
  | m + 1, i, h => by rw [exR, exR, h i (Nat.le_refl _) (by omega), exR_cg m (i + 1) (fun k a b => h k (by omega) (by omega))]
theorem alR_cg {f g : Nat → Bool} : ∀ m i, (∀ k, i ≤ k → k < i + m → f k = g k) → alR f i m = alR g i m
  | 0, _, _ => rfl
  | m + 1, i, h => by rw [alR, alR, h i (Nat.le_refl _) (by omega), alR_cg m (i + 1) (fun k a b => h k (by omega) (by omega))]
theorem exR_f {f : Nat → Bool} : ∀ m i, (∀ k, i ≤ k → k < i + m → f k = false) → exR f i m = false
  | 0, _, _ => rfl
  | m + 1, i, h => by rw [exR, h i (Nat.le_refl _) (by omega), exR_f m (i + 1) (fun k a b => h k (by omega) (by omega))]; rfl
theorem alR_t {f : Nat → Bool} : ∀ m i, (∀ k, i ≤ k → k < i + m → f k = true) → alR f i m = true
  | 0, _, _ => rfl
  | m + 1, i, h => by rw [alR, h i (Nat.le_refl _) (by omega), alR_t m (i + 1) (fun k a b => h k (by omega) (by omega))]; rfl
def gw (P : Nat → Bool) (h : Nat) : Nat → Nat → Nat → Bool → Bool
  | 0, c, _, _ => P c
  | k + 1, c, l, t => if l = 0 then P c else if t then exR (fun i => l.testBit i && gw P h k (c ||| 2 ^ i) (wo l i) false) 0 h else alR (fun i => !l.testBit i || gw P h k c (wo l i) true) 0 h
theorem wo_pc : ∀ i, i < 7 → ∀ l, l < 128 → wo l i < 128 ∧ (l.testBit i = true → pc7 (wo l i) + 1 = pc7 l) := by decide +kernel
theorem pc_0 : ∀ l, l < 128 → pc7 l = 0 → l = 0 := by decide +kernel
theorem gw_s (P : Nat → Bool) {h : Nat} (hh : h ≤ 7) : ∀ k c l t, l < 128 → pc7 l ≤ k → gw P h (k + 1) c l t = gw P h k c l t
  | 0, c, l, t, hl, hp => by
    have := pc_0 l hl (by omega)
    rw [gw, gw, if_pos this]
  | k + 1, c, l, t, hl, hp => by
    rw [gw, gw]
    by_cases q : l = 0
    · rw [if_pos q, if_pos q]
    · rw [if_neg q, if_neg q]
      have e1 : exR (fun i => l.testBit i && gw P h (k + 1) (c ||| 2 ^ i) (wo l i) false) 0 h = exR (fun i => l.testBit i && gw P h k (c ||| 2 ^ i) (wo l i) false) 0 h := by
        refine exR_cg h 0 (fun i _ hi => ?_)
        have hw := wo_pc i (by omega) l hl
        cases hb : l.testBit i with
        | false => rfl
        | true =>
          have := hw.2 hb
          show (true && gw P h (k + 1) (c ||| 2 ^ i) (wo l i) false) = (true && gw P h k (c ||| 2 ^ i) (wo l i) false)
          rw [gw_s P hh k _ _ _ hw.1 (by omega)]
      have e2 : alR (fun i => !l.testBit i || gw P h (k + 1) c (wo l i) true) 0 h = alR (fun i => !l.testBit i || gw P h k c (wo l i) true) 0 h := by
        refine alR_cg h 0 (fun i _ hi => ?_)
        have hw := wo_pc i (by omega) l hl
        cases hb : l.testBit i with
        | false => rfl
        | true =>
          have := hw.2 hb
          show (!true || gw P h (k + 1) c (wo l i) true) = (!true || gw P h k c (wo l i) true)
          rw [gw_s P hh k _ _ _ hw.1 (by omega)]
      rw [e1, e2]
def gv (P : Nat → Bool) (h c l : Nat) (t : Bool) : Bool := gw P h 7 c l t
theorem gv_eq (P : Nat → Bool) {h : Nat} (hh : h ≤ 7) (c : Nat) {l : Nat} (hl : l < 128) (t : Bool) : gv P h c l t = if l = 0 then P c else if t then exR (fun i => l.testBit i && gv P h (c ||| 2 ^ i) (wo l i) false) 0 h else alR (fun i => !l.testBit i || gv P h c (wo l i) true) 0 h := by
  unfold gv
  rw [← gw_s P hh 7 c l t hl (pc7_le l)]
  rfl
/- the class -/
section CW
variable {V : VT} {σ : ST}
theorem cw_ex (h7 : V 0 0 ≤ 7) (hc : VC V σ) {kr : Int32 → Int32 → Int32 → Option Int32} {c l : Nat} (hcl : c < 128) (hl : l < 128) {f : Nat → Bool} (hk : ∀ i, i < V 0 0 → l.testBit i = true → kr (nI (c ||| 2 ^ i)) (nI (wo l i)) 0 = some (b01 (f i))) : ∀ (m fu i : Nat), i + m = V 0 0 → m < fu → M_X4_callerWins_14 kr σ fu (nI c) (nI l) 1 (nI i) = some (b01 (exR (fun i => l.testBit i && f i) i m))
  | 0, fu + 1, i, hi, _ => by
    rw [M_X4_callerWins_14, houses_c hc, Option.bind_some, if_pos (nI_le (by omega) (by omega)), if_neg n10]; rfl
  | m + 1, fu + 1, i, hi, hf => by
    have ih := cw_ex h7 hc hcl hl hk m fu (i + 1) (by omega) (by omega)
    rw [M_X4_callerWins_14, houses_c hc, Option.bind_some, if_neg (nI_ge (by omega) (by omega)), isIn_c (by omega) (by omega), Option.bind_some, exR]
    cases hb : l.testBit i with
    | false => rw [if_pos bf0, nI_1]; exact ih
    | true =>
      rw [if_neg (by decide), if_neg n10, shl1 (by omega), nx_or]
      unfold M_X4_callerWins_49 M_X4_callerWins_71
      rw [if_neg n10, clr (by omega) hl, hk i (by omega) hb, Option.bind_some, nI_1]
      cases hv : f i with
      | false => rw [if_neg (by decide)]; exact ih
      | true => rw [if_pos (by decide)]; rfl
theorem cw_al (h7 : V 0 0 ≤ 7) (hc : VC V σ) {kr : Int32 → Int32 → Int32 → Option Int32} {c l : Nat} (hl : l < 128) {f : Nat → Bool} (hk : ∀ i, i < V 0 0 → l.testBit i = true → kr (nI c) (nI (wo l i)) 1 = some (b01 (f i))) : ∀ (m fu i : Nat), i + m = V 0 0 → m < fu → M_X4_callerWins_14 kr σ fu (nI c) (nI l) 0 (nI i) = some (b01 (alR (fun i => !l.testBit i || f i) i m))
  | 0, fu + 1, i, hi, _ => by
    rw [M_X4_callerWins_14, houses_c hc, Option.bind_some, if_pos (nI_le (by omega) (by omega)), if_pos rfl]; rfl
  | m + 1, fu + 1, i, hi, hf => by
    have ih := cw_al h7 hc hl hk m fu (i + 1) (by omega) (by omega)
    rw [M_X4_callerWins_14, houses_c hc, Option.bind_some, if_neg (nI_ge (by omega) (by omega)), isIn_c (by omega) (by omega), Option.bind_some, alR]
    cases hb : l.testBit i with
    | false => rw [if_pos bf0, nI_1]; exact ih
    | true =>
      rw [if_neg (by decide), if_pos rfl]
      unfold M_X4_callerWins_49 M_X4_callerWins_71
      rw [if_pos rfl, clr (by omega) hl, hk i (by omega) hb, Option.bind_some, nI_1]
      cases hv : f i with
      | true => rw [if_neg (by decide)]; exact ih
      | false => rw [if_pos (by decide)]; rfl
theorem cw_0 (ok : okV V) (hk : LKp (opn V) (2 ^ V 0 0) σ) (k c : Nat) (t : Bool) (hcl : c < 2 ^ V 0 0) : M_X4_callerWins σ (k + 1) (nI c) (nI 0) (b01 t) = some (b01 (gv (opn V) (V 0 0) c 0 t)) := by
  have h2 := p2h ok
  rw [M_X4_callerWins, gv_eq (opn V) ok.1 c (by decide) t]
  unfold M_X4_callerWins_m
  rw [if_pos n00, if_pos rfl, rd_n _ (by omega) (by decide), Option.bind_some, hk.2.2 c hcl, okZ_b]
theorem cw_c (ok : okV V) (hc : VC V σ) (hk : LKp (opn V) (2 ^ V 0 0) σ) : ∀ (k c l : Nat) (t : Bool), c < 2 ^ V 0 0 → l < 2 ^ V 0 0 → pc7 l ≤ k → M_X4_callerWins σ (k + 1) (nI c) (nI l) (b01 t) = some (b01 (gv (opn V) (V 0 0) c l t))
  | 0, c, l, t, hcl, hl, hp => by
    have h2 := p2h ok
    obtain rfl : l = 0 := pc_0 l (by omega) (by omega)
    exact cw_0 ok hk 0 c t hcl
  | k + 1, c, l, t, hcl, hl, hp => by
    have h7 := ok.1
    have h2 := p2h ok
    by_cases q : l = 0
    · subst q
      exact cw_0 ok hk (k + 1) c t hcl
    · rw [M_X4_callerWins, gv_eq (opn V) h7 c (by omega) t]
      unfold M_X4_callerWins_m
      rw [if_neg (nI_ne0 (by omega) (by omega)), if_neg q]
      have hlt : ∀ i, i < V 0 0 → l.testBit i = true → wo l i < 2 ^ V 0 0 ∧ pc7 (wo l i) ≤ k := by
        intro i hi hb
        have := wo_pc i (by omega) l (by omega)
        have h3 := this.2 hb
        exact ⟨Nat.lt_of_le_of_lt (wo_le (by omega) (by omega)) hl, by omega⟩
      cases t with
      | true => exact cw_ex h7 hc (by omega) (by omega) (fun i hi hb => cw_c ok hc hk k (c ||| 2 ^ i) (wo l i) false (Nat.or_lt_two_pow hcl (Nat.pow_lt_pow_right (by decide) hi)) (hlt i hi hb).1 (hlt i hi hb).2) (V 0 0) 10000 0 (by omega) (by omega)
      | false => exact cw_al h7 hc (by omega) (fun i hi hb => cw_c ok hc hk k c (wo l i) true hcl (hlt i hi hb).1 (hlt i hi hb).2) (V 0 0) 10000 0 (by omega) (by omega)
end CW
