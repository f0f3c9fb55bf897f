/- a meeting -/
def rpr (h : Nat → Int32) (D : DT) : Prop := ∀ k, k < 23 → h (1 + k) = nI (D k)
theorem vw_mh {C : VT} {D : DT} {τ : ST} {h : Nat → Int32} (h7 : C 0 0 ≤ 7) (hc : CM C τ) (hr : rpr h D) : VM (vw C D) (setA τ 1 h) := by
  obtain ⟨h1, h2, h3, h4, h5⟩ := hc
  refine ⟨h1, h2, hr 0 (by decide), hr 1 (by decide), fun i hi => ⟨(h5 i hi).1, (h5 i hi).2.1, (h5 i hi).2.2, ?_, ?_⟩⟩
  · have hi : i < C 0 0 := hi
    have := hr (2 + i) (by omega)
    rw [show 1 + (2 + i) = 3 + i by omega] at this; exact this
  · have hi : i < C 0 0 := hi
    have := hr (9 + i) (by omega)
    rw [show 1 + (9 + i) = 10 + i by omega] at this; exact this
def dwF (C : VT) (D : DT) (i : Nat) (h : Nat → Int32) : Nat → Int32 := upd (upd (upd h 2 (nI (D 1 - am C D i))) (10 + i) (nI (D (9 + i) + am C D i))) (17 + i) (nI (D (16 + i) + am C D i))
theorem dwF_o (C : VT) (D : DT) {i : Nat} (h : Nat → Int32) (hi : i < 7) {q : Nat} (hq : q = 0 ∨ 24 ≤ q) : dwF C D i h q = h q := by
  unfold dwF
  rw [pk_un (by omega), pk_un (by omega), pk_un (by omega)]
theorem rpr_dw {C : VT} {D : DT} {i : Nat} {h : Nat → Int32} (hi : i < 7) (hr : rpr h D) : rpr (dwF C D i h) (dr1 C D i) := by
  intro k hk
  have hk2 := hr k hk
  unfold dwF dr1
  by_cases e1 : k = 1
  · subst e1
    rw [if_pos rfl, pk_un (by omega), pk_un (by omega)]
    exact pk_us
  · rw [if_neg e1]
    by_cases e2 : k = 9 + i
    · subst e2
      rw [if_pos (Or.inl rfl), pk_un (by omega), show 1 + (9 + i) = 10 + i by omega, pk_us]
    · by_cases e3 : k = 16 + i
      · subst e3
        rw [if_pos (Or.inr rfl), show 1 + (16 + i) = 17 + i by omega, pk_us]
      · rw [if_neg (by omega), pk_un (by omega), pk_un (by omega), pk_un (by omega)]; exact hk2
theorem draws_m {C : VT} {D : DT} {m : Nat} {τ : ST} {h : Nat → Int32} {i : Nat} (hC : okC C) (hm : m ≤ 40) (hc : CM C τ) (hD : okD C m D) (hr : rpr h D) (hi : i < C 0 0) : M_X7_draws (setA τ 1 h) (nI i) = some (nI (am C D i), setA τ 1 (dwF C D i h)) := by
  have c7 := hC.1
  have h99 := hD.2.1
  have ew : M_X7_wantsYet (setA τ 1 h) (nI i) = some (nI (wn C i - D (9 + i))) := wy_m (vw_ok hC hD hm) (vw_mh c7 hc hr) hi
  have hw : wn C i ≤ 9 := wn_le (V := vw C D) (vw_ok hC hD hm) hi
  have r2 : rd 3776 h 2 = some (nI (D 1)) := (rd_n (j := 2) _ (by decide) (by decide)).trans (congrArg some (hr 1 (by decide)))
  have r10 : h (10 + i) = nI (D (9 + i)) := by
    have := hr (9 + i) (by omega)
    rw [show 1 + (9 + i) = 10 + i by omega] at this; exact this
  have r17 : h (17 + i) = nI (D (16 + i)) := by
    have := hr (16 + i) (by omega)
    rw [show 1 + (16 + i) = 17 + i by omega] at this; exact this
  have key : ∀ y, y = am C D i → M_X7_draws_28 (setA τ 1 h) (nI i) (nI y) = some (nI (am C D i), setA τ 1 (dwF C D i h)) := by
    rintro y rfl
    have ha := am_le C D i
    have w1 : wrA 3776 (setA τ 1 h) 1 2 (nI (D 1 - am C D i)) = some (setA τ 1 (upd h 2 (nI (D 1 - am C D i)))) := by
      rw [show (2 : Int32) = nI 2 from rfl, wrA_n _ _ _ (by decide) (by decide), setA_setA, sA_at]
    unfold M_X7_draws_28
    rw [sA_at, r2, Option.bind_some, pk_sub ha.1, w1, Option.bind_some, sA_at, show (10 : Int32) + nI i = nI (10 + i) by rw [show (10 : Int32) = nI 10 from rfl, nI_add], rd_n _ (by omega) (by decide), Option.bind_some, pk_un (by omega), r10, nI_add, wrA_n _ _ _ (by omega) (by decide), Option.bind_some]
    simp only [setA_setA, sA_at]
    rw [show (17 : Int32) + nI i = nI (17 + i) by rw [show (17 : Int32) = nI 17 from rfl, nI_add], rd_n _ (by omega) (by decide), Option.bind_some, pk_un (by omega), pk_un (by omega), r17, nI_add, wrA_n _ _ _ (by omega) (by decide), Option.bind_some]
    simp only [setA_setA, sA_at]
    rfl
  unfold M_X7_draws
  rw [ew, Option.bind_some, Option.bind_some, sA_at, r2, Option.bind_some, Option.bind_some]
  by_cases q : D 1 ≤ wn C i - D (9 + i)
  · rw [if_pos (nI_le q (by omega))]
    exact key _ (by unfold am; split <;> omega)
  · rw [if_neg (nI_ge (by omega) (by omega))]
    exact key _ (by unfold am; rw [if_neg (by omega)])
theorem drs_le (C : VT) : ∀ (l : List Nat) (D : DT), drs C D l 1 ≤ D 1
  | [], _ => Nat.le_refl _
  | i :: l, D => by
    have := drs_le C l (dr1 C D i)
    rw [dr1_1] at this
    show drs C (dr1 C D i) l 1 ≤ D 1
    omega
/- the list of a row's places -/
def lst (X : Nat → Nat) : Nat → Nat → List Nat
  | _, 0 => []
  | i, m + 1 => X i :: lst X (i + 1) m
theorem lst_len (X : Nat → Nat) : ∀ m i, (lst X i m).length = m
  | 0, _ => rfl
  | m + 1, i => by show (lst X (i + 1) m).length + 1 = _; rw [lst_len X m]
theorem lst_s (X : Nat → Nat) : ∀ m i, lst X i (m + 1) = lst X i m ++ [X (i + m)]
  | 0, i => rfl
  | m + 1, i => by
    show X i :: lst X (i + 1) (m + 1) = X i :: lst X (i + 1) m ++ [X (i + (m + 1))]
    rw [lst_s X m, show i + 1 + m = i + (m + 1) by omega]; rfl
theorem lst_mem {X : Nat → Nat} {B : Nat} : ∀ m i, (∀ k, i ≤ k → k < i + m → X k < B) → ∀ x ∈ lst X i m, x < B
  | 0, _, _, x, hx => by cases hx
  | m + 1, i, h, x, hx => by
    rcases List.mem_cons.mp hx with rfl | hx
    · exact h i (Nat.le_refl _) (by omega)
    · exact lst_mem m (i + 1) (fun k a b => h k (by omega) (by omega)) x hx
theorem b8_app : ∀ (l : List Nat) (x : Nat), b8 (l ++ [x]) = b8 l + 8 ^ l.length * x
  | [], x => by show x + 8 * 0 = 0 + 8 ^ 0 * x; omega
  | i :: l, x => by
    show i + 8 * b8 (l ++ [x]) = i + 8 * b8 l + 8 ^ (l.length + 1) * x
    rw [b8_app l x, Nat.pow_succ, Nat.mul_add, Nat.mul_comm (8 ^ l.length) 8, Nat.mul_assoc]; omega
theorem join_c {l : List Nat} {x : Nat} (hl : l.length ≤ 6) (h : ∀ i ∈ l, i < 8) (hx : x < 8) : M_X6_joinMeeting (nI (enc (.inl l))) (nI x) = some (nI (enc (.inl (l ++ [x])))) := by
  have hb := b8_lt l h
  have e0 : enc (.inl l) = 4 * l.length + 32 * b8 l := rfl
  have e1 : enc (.inl (l ++ [x])) = 4 * (l ++ [x]).length + 32 * b8 (l ++ [x]) := rfl
  have e8 : 2 ^ (5 + 3 * l.length) = 32 * 8 ^ l.length := by rw [Nat.pow_add, Nat.pow_mul]
  have hp : 2 ^ (5 + 3 * l.length) ≤ 2 ^ 23 := Nat.pow_le_pow_right (by decide) (by omega)
  have hbd : x * 2 ^ (5 + 3 * l.length) < 2 ^ 32 := Nat.lt_of_le_of_lt (Nat.mul_le_mul (Nat.le_of_lt hx) hp) (by decide)
  unfold M_X6_joinMeeting
  rw [enc_len (by omega) h, show (5 : Int32) + 3 * nI l.length = nI (5 + 3 * l.length) by rw [show (5 : Int32) = nI 5 from rfl, show (3 : Int32) = nI 3 from rfl, pk_mul, nI_add], pk_shlN (n := x) _ (5 + 3 * l.length) (sh_n _ (by omega)) hbd, show (4 : Int32) = nI 4 from rfl, nI_add, nx_or, Nat.or_comm, Nat.mul_comm x, ← Nat.two_pow_add_eq_or_of_lt (by rw [e8, e0]; omega) x, e8, e0, e1, b8_app, List.length_append, Nat.mul_assoc]
  generalize 8 ^ l.length * x = z
  show some (nI (32 * z + (4 * l.length + 32 * b8 l + 4))) = some (nI (4 * (l.length + 1) + 32 * (b8 l + z)))
  rw [show 32 * z + (4 * l.length + 32 * b8 l + 4) = 4 * (l.length + 1) + 32 * (b8 l + z) by omega]
theorem inRow_4 {σ : ST} {j p : Nat} {X : Nat → Nat} (hj : j < 6) (hp : p ≤ 7) (hs : σ.2.2 3 j = nI p) (hX : ∀ k, k < p → X k < 7 ∧ σ.2.2 (4 + j) k = nI (X k)) : ∀ (m fu i : Nat), i + m = p → m < fu → M_X6_meetingInRow_4 σ fu (nI j) (nI (enc (.inl (lst X 0 i)))) (nI i) = some (nI (enc (.inl (lst X 0 p))))
  | 0, fu + 1, i, h1, _ => by
    rw [M_X6_meetingInRow_4, szOf_r hj, Option.bind_some, hs, if_pos (nI_le (by omega) (by omega)), show i = p by omega]
  | m + 1, fu + 1, i, h1, h2 => by
    have hx := hX i (by omega)
    have hl : ∀ x ∈ lst X 0 i, x < 8 := lst_mem i 0 (fun k _ hk => by have := (hX k (by omega)).1; omega)
    rw [M_X6_meetingInRow_4, szOf_r hj, Option.bind_some, hs, if_neg (nI_ge (by omega) (by omega)), get_r hj hs (by omega) (by omega), Option.bind_some, hx.2, join_c (by rw [lst_len]; omega) hl (by omega), Option.bind_some, nI_1]
    have := inRow_4 hj hp hs hX m fu (i + 1) (by omega) (by omega)
    rw [lst_s X i 0, Nat.zero_add] at this
    exact this
theorem meet_95 {C : VT} {D0 : Nat} {τ : ST} {j p : Nat} {X : Nat → Nat} (hC : okC C) (hm : D0 ≤ 40) (hc : CM C τ) (hj : j < 6) (hp : p ≤ 7) (hs : τ.2.2 5 j = nI p) (hX : ∀ k, k < p → X k < C 0 0 ∧ τ.2.2 6 (40 * j + k) = nI (X k)) : ∀ (m fu i acc : Nat) (h : Nat → Int32) (D : DT), i + m = p → m < fu → rpr h D → okD C D0 D → ∃ h', M_X7_meet_95 fu (setA τ 1 h) (nI j) (nI acc) (nI i) = some (nI (acc + (D 1 - drs C D (lst X i m) 1)), setA τ 1 h') ∧ rpr h' (drs C D (lst X i m)) ∧ ∀ q, q = 0 ∨ 24 ≤ q → h' q = h q
  | 0, fu + 1, i, acc, h, D, h1, _, hr, _ => by
    have e5 : (setA τ 1 h).2.2 5 = τ.2.2 5 := rfl
    refine ⟨h, ?_, hr, fun _ _ => rfl⟩
    rw [M_X7_meet_95, e5, rd_n _ hj (by decide), Option.bind_some, hs, if_pos (nI_le (by omega) (by omega))]
    show _ = some (nI (acc + (D 1 - D 1)), setA τ 1 h)
    rw [Nat.sub_self, Nat.add_zero]
  | m + 1, fu + 1, i, acc, h, D, h1, h2, hr, hD => by
    have c7 := hC.1
    have hx := hX i (by omega)
    have ha := am_le C D (X i)
    have e5 : (setA τ 1 h).2.2 5 = τ.2.2 5 := rfl
    have e6 : (setA τ 1 h).2.2 6 = τ.2.2 6 := rfl
    obtain ⟨h', u1, u2, u3⟩ := meet_95 hC hm hc hj hp hs hX m fu (i + 1) (acc + am C D (X i)) (dwF C D (X i) h) (dr1 C D (X i)) (by omega) (by omega) (rpr_dw (by omega) hr) (hD.dr1 c7 hx.1)
    refine ⟨h', ?_, u2, fun q hq => (u3 q hq).trans (dwF_o C D h (by omega) hq)⟩
    have hd := drs_le C (lst X (i + 1) m) (dr1 C D (X i))
    rw [dr1_1] at hd u1
    rw [M_X7_meet_95, e5, rd_n _ hj (by decide), Option.bind_some, hs, if_neg (nI_ge (by omega) (by omega)), ix40, e6, rd_n _ (by omega) (by decide), Option.bind_some, hx.2, draws_m hC hm hc hD hr hx.1, Option.bind_some, nI_1]
    show M_X7_meet_95 fu (setA τ 1 (dwF C D (X i) h)) (nI j) (nI acc + nI (am C D (X i))) (nI (i + 1)) = some (nI (acc + (D 1 - drs C (dr1 C D (X i)) (lst X (i + 1) m) 1)), setA τ 1 h')
    rw [nI_add, u1, show acc + am C D (X i) + (D 1 - am C D (X i) - drs C (dr1 C D (X i)) (lst X (i + 1) m) 1) = acc + (D 1 - drs C (dr1 C D (X i)) (lst X (i + 1) m) 1) by omega]
theorem set_l {V : VT} {σ τ : ST} (ok : okV V) (hc : VC V σ) (hm : VM V τ) {j p : Nat} (hj : j < 6) (hp : p ≤ 40) (hs : σ.2.2 3 j = nI p) (hst : τ.2.2 5 j = nI p) (hr : ∀ i, i < 40 → σ.2.2 (4 + j) i = τ.2.2 6 (40 * j + i)) : ∀ (m fu i s : Nat), i + m = p → m < fu → s < 2 ^ V 0 0 →
    (M_X6_setInRow_4 σ fu (nI j) (nI s) (nI i) = some (-9) ∧ M_X7_setOf_4 τ fu (nI j) (nI s) (nI i) = some (-9)) ∨ ∃ s', s' < 2 ^ V 0 0 ∧ M_X6_setInRow_4 σ fu (nI j) (nI s) (nI i) = some (nI s') ∧ M_X7_setOf_4 τ fu (nI j) (nI s) (nI i) = some (nI s') ∧ ∀ k, i ≤ k → k < p → ∃ x, x < V 0 0 ∧ σ.2.2 (4 + j) k = nI x
  | 0, fu + 1, i, s, h1, _, h3 => by
    refine Or.inr ⟨s, h3, ?_, ?_, fun k a b => by omega⟩
    · rw [M_X6_setInRow_4, szOf_r hj, Option.bind_some, hs, if_pos (nI_le (by omega) (by omega))]
    · rw [M_X7_setOf_4, rd_n _ hj (by decide), Option.bind_some, hst, if_pos (nI_le (by omega) (by omega))]
  | m + 1, fu + 1, i, s, h1, h2, h3 => by
    have o1 := ok.1
    have h128 := p2h ok
    have ec : M_X6_setInRow_4 σ (fu + 1) (nI j) (nI s) (nI i) = (M_X5_isHouse σ (σ.2.2 (4 + j) i)).bind fun o33 => if o33 = 0 then some (-9) else (M_X6_isIn (σ.2.2 (4 + j) i) (nI s)).bind fun o42 => if o42 = 0 then M_X6_setInRow_4 σ fu (nI j) (nI s ||| ((1 : Int32) <<< ((σ.2.2 (4 + j) i) &&& 31))) (nI (i + 1)) else some (-9) := by
      rw [M_X6_setInRow_4, szOf_r hj, Option.bind_some, hs, if_neg (nI_ge (by omega) (by omega)), get_r hj hs hp (by omega), Option.bind_some, nI_1]
    have em : M_X7_setOf_4 τ (fu + 1) (nI j) (nI s) (nI i) = (M_X7_isHouse τ (σ.2.2 (4 + j) i)).bind fun o30 => if o30 = 0 then some (-9) else (M_X7_has (nI s) (σ.2.2 (4 + j) i)).bind fun o39 => if o39 = 0 then M_X7_setOf_4 τ fu (nI j) (nI s ||| ((1 : Int32) <<< ((σ.2.2 (4 + j) i) &&& 31))) (nI (i + 1)) else some (-9) := by
      rw [M_X7_setOf_4, rd_n _ hj (by decide), Option.bind_some, hst, if_neg (nI_ge (by omega) (by omega)), ix40, rd_n _ (by omega) (by decide), Option.bind_some, nI_1, hr i (by omega)]
    rw [ec, em]
    rcases house_cm ok hc hm (σ.2.2 (4 + j) i) with ⟨e1, e2⟩ | ⟨x, hx, ex, e1, e2⟩
    · exact Or.inl ⟨by rw [e1, Option.bind_some, if_pos rfl], by rw [e2, Option.bind_some, if_pos rfl]⟩
    · rw [e1, e2, Option.bind_some, Option.bind_some, if_neg n10, if_neg n10, ex, isIn_c (by omega) (by omega), has_m (by omega) (by omega), Option.bind_some, Option.bind_some]
      cases hb : s.testBit x with
      | true => exact Or.inl ⟨if_neg (by decide), if_neg (by decide)⟩
      | false =>
        rw [if_pos bf0, if_pos bf0, shl1 (by omega), nx_or]
        rcases set_l ok hc hm hj hp hs hst hr m fu (i + 1) (s ||| 2 ^ x) (by omega) (by omega) (Nat.or_lt_two_pow h3 (Nat.pow_lt_pow_right (by decide) hx)) with u | ⟨s', u1, u2, u3, u4⟩
        · exact Or.inl u
        · refine Or.inr ⟨s', u1, u2, u3, fun k a b => ?_⟩
          by_cases e : k = i
          · exact ⟨x, hx, e ▸ ex⟩
          · exact u4 k (by omega) b
theorem meet_full {C : VT} {f : Nat → Dd} {n : Nat} {σ τ : ST} (h : WlC C f n σ τ) (hR : RelG Wl σ τ) (hn : n < 40) (hp : 0 < C 0 0) {l : List Nat} (hl : l.length ≤ 7 ∧ ∀ i ∈ l, i < C 0 0) : ∃ σ', M_X5_perform σ (nI (enc (.inl l))) = some (nI (rep C f n 1 - drs C (rep C f n) l 1), σ') ∧ rpr (pF (τ.2.2 1) n) (rep C f n) ∧ ∀ h', rpr h' (drs C (rep C f n) l) → (∀ q, q = 0 ∨ 24 ≤ q → h' q = pF (τ.2.2 1) n q) → RelG Wl σ' (setA τ 1 h') ∧ WlC C (fx f n (.inl l)) (n + 1) σ' (setA τ 1 h') := by
  obtain ⟨σ', u1, u2, u3⟩ := perform_w (d := .inl l) h hR hn hp hl
  obtain ⟨h1, h2, h3, h4, h5, h6, h7, h8, h9⟩ := h
  refine ⟨σ', ?_, fun k hk => ?_, fun h' g1 g2 => u3 h' ((g2 0 (Or.inl rfl)).trans (pF_0 _ _)) g1 (fun q hq => g2 q (Or.inr hq))⟩
  · rw [u1]
    show some (nI (rep C f n 1) - nI (drs C (rep C f n) l 1), σ') = _
    rw [pk_sub (drs_le C l (rep C f n))]
  · have hk2 := h8.2.1 k hk (Or.inl hp)
    rw [show 0 + 1 + k = 1 + k by omega] at hk2
    rw [pF_c _ _ (by omega) (by omega)]; exact hk2
theorem pure_meet : P_meet (RelG Wl) := by
  intro σ τ a hR
  obtain ⟨C, f, n, hW⟩ := hR.2.2.2.2.2
  have hW' := hW
  obtain ⟨h1, h2, h3, h4, h5, h6, h7, h8, h9⟩ := hW'
  have h40 := h4.1
  have c7 := h1.1
  have okv := vw_ok h1 (rep_ok h1 h4.2.2 n (Nat.le_refl _)) h40
  have hcv := vw_c h1.1 h2 h7
  have hmv := vw_m h1.1 h3 h8
  have r0 : rd 3776 (τ.2.2 1) 0 = some (nI n) := by rw [← h8.1]; exact rd_n (j := 0) _ (by decide) (by decide)
  rcases i3 a (n := 6) (by decide) with q | ⟨q, q'⟩ | ⟨j, hj, rfl⟩
  · exact ⟨-1, σ, τ, by unfold M_X6_meet; rw [refusalOf_lo_r q, Option.bind_some, if_neg nz1], by unfold M_X7_meet; rw [isRow_lo q, Option.bind_some, if_pos rfl], hR⟩
  · exact ⟨-1, σ, τ, by unfold M_X6_meet; rw [refusalOf_hi_r q q', Option.bind_some, if_neg nz1], by unfold M_X7_meet; rw [isRow_hi q q', Option.bind_some, if_pos rfl], hR⟩
  obtain ⟨g1, g2, g3⟩ := hR.1 j hj
  rcases g2 with g2 | ⟨p, hp, g2⟩
  · obtain ⟨σ', τ', e1, e2, e3⟩ := refuse_ok Wl_cg hR (k := 1) (v := 1) rfl (by decide)
    refine ⟨-3, σ', τ', ?_, ?_, e3⟩
    · unfold M_X6_meet; rw [refusalOf_no_r hj g2, e1, Option.bind_some, if_neg nz3]
    · unfold M_X7_meet; rw [isRow_ok hj, Option.bind_some, if_neg n10, rd_n _ hj (by decide), Option.bind_some, ← g1, g2, if_neg n0m1, e2]; rfl
  have ec : M_X6_meet σ (nI j) = if nI p ≤ nI (C 0 0) then (M_X6_setInRow σ (nI j)).bind fun o42 => if o42 = (-9) then (M_X6_refuse σ 3).bind fun o54 => some (o54.1, o54.2) else (M_X5_isOpenTo σ o42).bind fun o63 => if o63 = 0 then some ((-4), σ) else (M_X1_isFull σ 1).bind fun o80 => if o80 = 0 then (M_X6_meetingInRow σ (nI j)).bind fun o95 => (M_X5_perform σ o95).bind fun o98 => some (o98.1, o98.2) else some ((-2), σ) else (M_X6_refuse σ 5).bind fun o36 => some (o36.1, o36.2) := by
    unfold M_X6_meet M_X5_houses; rw [refusalOf_ok_r hj g2 hp, Option.bind_some, if_pos rfl, szOf_r hj, Option.bind_some, Option.bind_some, g2, h2.1]
  have em : M_X7_meet τ (nI j) = if nI p ≤ nI (C 0 0) then (M_X7_setOf τ (nI j)).bind fun o45 => if o45 = (-9) then (M_X7_find τ 3).bind fun o57 => some (o57.1, o57.2) else (M_X7_isOpen τ o45).bind fun o63 => if o63 = 0 then some ((-4), τ) else if nI n = 40 then some ((-2), τ) else (M_X7_keepPast τ).bind fun o87 => M_X7_meet_95 10000 o87 (nI j) 0 0 else (M_X7_find τ 5).bind fun o39 => some (o39.1, o39.2) := by
    unfold M_X7_meet
    rw [isRow_ok hj, Option.bind_some, if_neg n10, rd_n _ hj (by decide), Option.bind_some, ← g1, g2, if_pos (nI_nonneg (by omega)), Option.bind_some, h3.1, r0]
    simp only [Option.bind_some]
  by_cases hpc : p ≤ C 0 0
  · rw [if_pos (nI_le hpc (by omega))] at ec em
    rcases set_l okv hcv hmv hj hp g2 (g1 ▸ g2) g3 p 10000 0 0 (by omega) (by omega) (Nat.two_pow_pos _) with ⟨u1, u2⟩ | ⟨s, hs, u1, u2, u3⟩
    · obtain ⟨σ', τ', e1, e2, e3⟩ := refuse_ok Wl_cg hR (k := 3) (v := 3) rfl (by decide)
      refine ⟨-3, σ', τ', ?_, ?_, e3⟩
      · rw [ec, show M_X6_setInRow σ (nI j) = some (-9) from u1, Option.bind_some, if_pos rfl, e1]; rfl
      · rw [em, show M_X7_setOf τ (nI j) = some (-9) from u2, Option.bind_some, if_pos rfl, e2]; rfl
    · have hs7 : s < 128 := Nat.lt_of_lt_of_le hs (p2h okv)
      rw [show M_X6_setInRow σ (nI j) = some (nI s) from u1, Option.bind_some, if_neg (m9_ne (by omega)), open_c okv hcv hs7, Option.bind_some, full_c h5 h40, Option.bind_some] at ec
      rw [show M_X7_setOf τ (nI j) = some (nI s) from u2, Option.bind_some, if_neg (m9_ne (by omega)), open_m okv hmv hs7, Option.bind_some] at em
      cases ho : opn (vw C (rep C f n)) s with
      | false => rw [ho, if_pos bf0] at ec em; exact ⟨-4, σ, τ, ec, em, hR⟩
      | true =>
        rw [ho, if_neg (by decide)] at ec em
        by_cases w : n = 40
        · rw [if_pos w, if_neg n10] at ec
          rw [if_pos ((nI_is 40 40 rfl (by omega) (by decide)).mpr w)] at em
          exact ⟨-2, σ, τ, ec, em, hR⟩
        · have hn : n < 40 := by omega
          have hp0 : 0 < C 0 0 := by
            unfold opn at ho
            have := (Bool.and_eq_true _ _ ▸ ho).1
            exact of_decide_eq_true this
          rw [if_neg w, if_pos rfl] at ec
          rw [if_neg (fun z => w ((nI_is 40 40 rfl (by omega) (by decide)).mp z)), past_m hn h8.1, Option.bind_some] at em
          have hX : ∀ k, k < p → (σ.2.2 (4 + j) k).toNatClampNeg < C 0 0 ∧ σ.2.2 (4 + j) k = nI (σ.2.2 (4 + j) k).toNatClampNeg := by
            intro k hk
            obtain ⟨x, hx, ex⟩ := u3 k (Nat.zero_le _) hk
            have hx : x < C 0 0 := hx
            rw [ex, nI_clamp (by omega)]
            exact ⟨hx, rfl⟩
          have hll : (lst (fun k => (σ.2.2 (4 + j) k).toNatClampNeg) 0 p).length ≤ 7 ∧ ∀ i ∈ lst (fun k => (σ.2.2 (4 + j) k).toNatClampNeg) 0 p, i < C 0 0 := ⟨by rw [lst_len]; omega, lst_mem p 0 (fun k _ hk => (hX k (by omega)).1)⟩
          obtain ⟨σ', v1, v2, v3⟩ := meet_full hW hR hn hp0 hll
          obtain ⟨h', w1, w2, w3⟩ := meet_95 h1 h40 h3 hj (by omega) (g1 ▸ g2) (X := fun k => (σ.2.2 (4 + j) k).toNatClampNeg) (fun k hk => ⟨(hX k hk).1, (g3 k (by omega)).symm.trans (hX k hk).2⟩) p 10000 0 0 _ _ (by omega) (by omega) v2 (rep_ok h1 h4.2.2 n (Nat.le_refl _))
          rw [show M_X6_meetingInRow σ (nI j) = some (nI (enc (.inl (lst (fun k => (σ.2.2 (4 + j) k).toNatClampNeg) 0 p)))) from inRow_4 hj (by omega) g2 (X := fun k => (σ.2.2 (4 + j) k).toNatClampNeg) (fun k hk => ⟨by have := (hX k hk).1; omega, (hX k hk).2⟩) p 10000 0 (by omega) (by omega), Option.bind_some, v1, Option.bind_some] at ec
          rw [Nat.zero_add] at w1
          exact ⟨_, σ', _, ec, em.trans w1, (v3 h' w2 w3).1⟩
  · rw [if_neg (nI_ge (by omega) (by omega))] at ec em
    obtain ⟨σ', τ', e1, e2, e3⟩ := refuse_ok Wl_cg hR (k := 5) (v := 5) rfl (by decide)
    exact ⟨-3, σ', τ', by rw [ec, e1]; rfl, by rw [em, e2]; rfl, e3⟩
