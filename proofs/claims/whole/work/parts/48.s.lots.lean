/- weeks by lots, the class at 182f170 (a set by its last bits) -/
theorem lots_l {C : VT} {N : Nat} (hp : 0 < C 0 0) (hN : N ≤ 20) : ∀ (m fu i : Nat) (σ τ : ST) (f : Nat → Dd) (n t : Nat) (acc : Int32), i + m = N → m < fu → WlC C f n σ τ → RelG Wl σ τ → n + 2 * m ≤ 40 → t < 2 ^ 31 → ∃ r σ' τ', M_X6_lots_68 fu σ (nI N) (lN t) acc (nI i) = some (r, σ') ∧ M_X7_lots_63 fu τ (nI N) (lN t) acc (nI i) = some (r, τ') ∧ RelG Wl σ' τ'
  | 0, fu + 1, i, σ, τ, f, n, t, acc, h1, _, hW, hR, _, _ => by
    refine ⟨acc, σ, τ, ?_, ?_, hR⟩
    · rw [M_X6_lots_68, if_pos (nI_le (by omega) (by omega))]
    · rw [M_X7_lots_63, if_pos (nI_le (by omega) (by omega))]
  | m + 1, fu + 1, i, σ, τ, f, n, t, acc, h1, h2, hW, hR, hn, ht => by
    have hW' := hW
    obtain ⟨w1, w2, w3, w4, w5, w6, w7, w8, w9⟩ := hW'
    have c7 := w1.1
    have okv := vw_ok w1 (rep_ok w1 w4.2.2 n (Nat.le_refl _)) w4.1
    have hcv := vw_c w1.1 w2 w7
    have hmv := vw_m w1.1 w3 w8
    have h128 : 2 ^ C 0 0 ≤ 128 := p2h (V := vw C (rep C f n)) okv
    have h1p : 1 ≤ 2 ^ C 0 0 := Nat.one_le_two_pow
    have et : lN t * 48271 - lN t * 48271 / 2147483647 * 2147483647 = lN (t * 48271 % 2147483647) := by
      rw [show (48271 : Int64) = lN 48271 from rfl, show (2147483647 : Int64) = lN 2147483647 from rfl, lN_mul, pk_lRem (by omega) (by decide) (by decide)]
    have ht' : t * 48271 % 2147483647 < 2147483647 := Nat.mod_lt _ (by decide)
    generalize t * 48271 % 2147483647 = t' at et ht'
    have e8 : lN t' / 8 = lN (t' / 8) := by rw [show (8 : Int64) = lN 8 from rfl, pk_lDiv (by omega) (by decide) (by decide)]
    have hs : t' / 8 % 2 ^ C 0 0 < 2 ^ C 0 0 := Nat.mod_lt _ h1p
    have er : rmL (lN (t' / 8)) (lN (2 ^ C 0 0)) = some (lN (t' / 8 % 2 ^ C 0 0)) := by
      unfold rmL
      rw [if_neg (fun z => by have := (pk_lEQ (a := 2 ^ C 0 0) (b := 0) (by omega) (by decide)).mp z; omega), pk_lRem (by omega) h1p (by omega)]
    have es : nI (t' / 8) &&& (nI (2 ^ C 0 0) - 1) = nI (t' / 8 % 2 ^ C 0 0) := by
      rw [show (1 : Int32) = nI 1 from rfl, pk_sub h1p, nx_and, Nat.and_two_pow_sub_one_eq_mod]
    generalize t' / 8 % 2 ^ C 0 0 = s at hs er es
    have hs7 : s < 128 := by omega
    have ec : M_X6_lots_68 (fu + 1) σ (nI N) (lN t) acc (nI i) = (M_X5_isOpenTo σ (nI s)).bind fun o108 => if o108 = 0 then M_X6_lots_131 (M_X6_lots_68 fu) σ (nI N) (lN t') acc (nI i) else (M_X6_meetingRising (nI s)).bind fun o122 => (M_X5_perform σ o122).bind fun o125 => M_X6_lots_131 (M_X6_lots_68 fu) o125.2 (nI N) (lN t') (acc + o125.1) (nI i) := by
      rw [M_X6_lots_68, if_neg (nI_ge (by omega) (by omega)), show M_X5_sets σ = some (nI (2 ^ C 0 0)) from sets_c (V := vw C (rep C f n)) okv hcv, Option.bind_some, et, e8, lN_i, es]
    have em : M_X7_lots_63 (fu + 1) τ (nI N) (lN t) acc (nI i) = (M_X7_doLot τ (nI s)).bind fun o96 => M_X7_lots_63 fu o96.2 (nI N) (lN t') (acc + o96.1) (nI (i + 1)) := by
      rw [M_X7_lots_63, if_neg (nI_ge (by omega) (by omega)), show M_X7_all τ = some (nI (2 ^ C 0 0 - 1)) from all_m (V := vw C (rep C f n)) okv hmv, Option.bind_some, et, e8, nI_1, Nat.sub_add_cancel h1p, nI_l (by omega), er, Option.bind_some, lN_i, nI_1]
    rw [ec, em, open_c okv hcv hs7]
    unfold M_X7_doLot
    rw [open_m okv hmv hs7]
    cases ho : opn (vw C (rep C f n)) s with
    | false =>
      obtain ⟨σ', τ', u1, u2, u3, u4⟩ := day_full hW hR (by omega) hp
      obtain ⟨r, σ2, τ2, v1, v2, v3⟩ := lots_l hp hN m fu (i + 1) σ' τ' _ (n + 1) t' acc (by omega) (by omega) u4 u3 (by omega) (by omega)
      refine ⟨r, σ2, τ2, ?_, ?_, v3⟩
      · rw [Option.bind_some, if_pos bf0]
        unfold M_X6_lots_131
        rw [u1, Option.bind_some, nI_1]; exact v1
      · rw [Option.bind_some, if_pos bf0]
        unfold M_X7_doLot_50
        rw [u2, Option.bind_some, Option.bind_some]
        show M_X7_lots_63 fu τ' (nI N) (lN t') (acc + 0) (nI (i + 1)) = _
        rw [Int32.add_zero]; exact v2
    | true =>
      have hl := ris_ok (C 0 0) (by omega) s hs
      obtain ⟨σ1, a1, a2, a3⟩ := meet_full hW hR (by omega) hp hl
      obtain ⟨h', b1, b2, b3⟩ := doLot_16 w1 w4.1 w3 hs7 (C 0 0) 10000 0 0 _ _ (by omega) (by omega) a2 (rep_ok w1 w4.2.2 n (Nat.le_refl _))
      obtain ⟨c1, c2⟩ := a3 h' b2 b3
      obtain ⟨σ', τ', u1, u2, u3, u4⟩ := day_full c2 c1 (by omega) hp
      obtain ⟨r, σ2, τ2, v1, v2, v3⟩ := lots_l hp hN m fu (i + 1) σ' τ' _ (n + 1 + 1) t' (acc + nI (rep C f n 1 - drs C (rep C f n) (ris s 0 (C 0 0)) 1)) (by omega) (by omega) u4 u3 (by omega) (by omega)
      refine ⟨r, σ2, τ2, ?_, ?_, v3⟩
      · rw [Option.bind_some, if_neg (by decide), rising_all s hs7, Option.bind_some, ris_h (C 0 0) (by omega) s hs, a1, Option.bind_some]
        unfold M_X6_lots_131
        rw [u1, Option.bind_some, nI_1]; exact v1
      · rw [Option.bind_some, if_neg (by decide), past_m (by omega) w8.1, Option.bind_some, show M_X7_doLot_16 10000 (setA τ 1 (pF (τ.2.2 1) n)) (nI s) 0 0 = _ from b1]
        unfold M_X7_doLot_50
        rw [u2, Option.bind_some, Option.bind_some, Nat.zero_add]; exact v2
theorem pure_lots : P_lots (RelG Wl) := by
  intro σ τ a b hR
  obtain ⟨C, f, n, hW⟩ := hR.2.2.2.2.2
  have hW' := hW
  obtain ⟨h1, h2, h3, h4, h5, h6, h7, h8, h9⟩ := hW'
  have h40 := h4.1
  have c7 := h1.1
  have r0 : rd 3776 (τ.2.2 1) 0 = some (nI n) := by rw [← h8.1]; exact rd_n (j := 0) _ (by decide) (by decide)
  have ia : M_X7_in a.toInt64 1 20 = some (if a < 1 then 0 else if 20 < a then 0 else 1) := in7i a 1 20
  have ib : M_X7_in b.toInt64 1 2147483646 = some (if b < 1 then 0 else if 2147483646 < b then 0 else 1) := in7i b 1 2147483646
  by_cases q1 : a < 1
  · exact ⟨-1, σ, τ, by unfold M_X6_lots; rw [if_pos q1], by unfold M_X7_lots; rw [ia, Option.bind_some, if_pos q1, if_pos rfl], hR⟩
  by_cases q2 : 20 < a
  · exact ⟨-1, σ, τ, by unfold M_X6_lots; rw [if_neg q1, if_pos q2], by unfold M_X7_lots; rw [ia, Option.bind_some, if_neg q1, if_pos q2, if_pos rfl], hR⟩
  rw [if_neg q1, if_neg q2] at ia
  by_cases q3 : b < 1
  · exact ⟨-1, σ, τ, by unfold M_X6_lots; rw [if_neg q1, if_neg q2, if_pos q3], by unfold M_X7_lots; rw [ia, Option.bind_some, if_neg n10, ib, Option.bind_some, if_pos q3, if_pos rfl], hR⟩
  have lb : lg_cmp b.toInt64 2147483647 < 0 ↔ b < 2147483647 := (lgc_lt _ _).trans (w_lt b 2147483647)
  have t1 : (2147483647 : Int32).toInt = 2147483647 := by decide
  have t2 : (2147483646 : Int32).toInt = 2147483646 := by decide
  by_cases q4 : 2147483646 < b
  · have q5 : ¬ b < 2147483647 := by
      rw [Int32.lt_iff_toInt_lt] at q4 ⊢
      omega
    exact ⟨-1, σ, τ, by unfold M_X6_lots; rw [if_neg q1, if_neg q2, if_neg q3, if_neg (fun z => q5 (lb.mp z))], by unfold M_X7_lots; rw [ia, Option.bind_some, if_neg n10, ib, Option.bind_some, if_neg q3, if_pos q4, if_pos rfl], hR⟩
  have q5 : b < 2147483647 := by
    rw [Int32.lt_iff_toInt_lt] at q4 ⊢
    omega
  rw [if_neg q3, if_neg q4] at ib
  by_cases q6 : C 0 0 = 0
  · refine ⟨-4, σ, τ, ?_, ?_, hR⟩
    · unfold M_X6_lots M_X5_houses; rw [if_neg q1, if_neg q2, if_neg q3, if_pos (lb.mpr q5), h2.1, Option.bind_some, q6, if_pos n00]
    · unfold M_X7_lots; rw [ia, Option.bind_some, if_neg n10, ib, Option.bind_some, if_neg n10, h3.1, q6, if_pos n00]
  obtain ⟨N, hN, rfl⟩ : ∃ N, N ≤ 20 ∧ a = nI N := by
    refine nI_of2 (M := 20) (by decide) (fun z => q1 ?_) (Int32.not_lt.mp q2)
    rw [Int32.lt_iff_toInt_lt] at z ⊢
    have : (0 : Int32).toInt = 0 := by decide
    have : (1 : Int32).toInt = 1 := by decide
    omega
  obtain ⟨t, ht, rfl⟩ : ∃ t, t < 2 ^ 31 ∧ b = nI t := by
    refine nI_of (fun z => q3 ?_)
    rw [Int32.lt_iff_toInt_lt] at z ⊢
    have : (0 : Int32).toInt = 0 := by decide
    have : (1 : Int32).toInt = 1 := by decide
    omega
  have ec : M_X6_lots σ (nI N) (nI t) = if n + 2 * N ≤ 40 then M_X6_lots_68 10000 σ (nI N) (lN t) 0 0 else some (-2, σ) := by
    unfold M_X6_lots M_X5_houses M_X1_isFull
    rw [if_neg q1, if_neg q2, if_neg q3, if_pos (lb.mpr q5), h2.1, Option.bind_some, if_neg (nI_ne0 (by omega) (by omega)), h5, show (2 : Int32) = nI 2 from rfl, pk_mul, nI_add, nI_l ht]
    by_cases w : n + 2 * N ≤ 40
    · rw [if_pos (ll 40 40 rfl w (by decide)), if_pos w, okZ_0, Option.bind_some, if_pos rfl]
    · rw [if_neg (lg 40 40 rfl (show 40 < n + 2 * N by omega) (by omega)), if_neg w, okZ_1, Option.bind_some, if_neg n10]
  have em : M_X7_lots τ (nI N) (nI t) = if n + 2 * N ≤ 40 then M_X7_lots_63 10000 τ (nI N) (lN t) 0 0 else some (-2, τ) := by
    unfold M_X7_lots
    rw [ia, Option.bind_some, if_neg n10, ib, Option.bind_some, if_neg n10, h3.1, if_neg (nI_ne0 (by omega) (by omega)), r0, Option.bind_some, show (2 : Int32) = nI 2 from rfl, pk_mul, nI_add, nI_l ht]
    by_cases w : n + 2 * N ≤ 40
    · rw [if_pos (ll 40 40 rfl w (by decide)), if_pos w]
    · rw [if_neg (lg 40 40 rfl (show 40 < n + 2 * N by omega) (by omega)), if_neg w]
  by_cases w : n + 2 * N ≤ 40
  · rw [if_pos w] at ec em
    rw [ec, em]
    exact lots_l (by omega) hN N 10000 0 σ τ f n t 0 (by omega) (by omega) hW hR w ht
  · rw [if_neg w] at ec em
    exact ⟨-2, σ, τ, ec, em, hR⟩
