/-! house, mark -/
def Drs (Wl : ST → ST → Prop) : Prop := ∀ σ τ, Wl σ τ → ∀ i, i < 7 → σ.2.2 31 i = τ.2.2 1 (17 + i)
theorem fact_cm {V : VT} {σ τ : ST} (ok : okV V) (h : VC V σ) (hm : VM V τ) (hd : ∀ i, i < 7 → σ.2.2 31 i = τ.2.2 1 (17 + i)) {i k : Nat} (hi : i < V 0 0) (hk : k < 7) : ∃ x, M_X5_factOf σ (nI i) (nI k) = some x ∧ M_X7_toldOf τ (nI i) (nI k) = some x := by
  have o1 := ok.1
  obtain ⟨c1, c2, c3, c4, c5⟩ := h.2.2.2.2 i hi
  obtain ⟨m1, m2, m3, m4, m5⟩ := hm.2.2.2.2 i hi
  unfold M_X5_factOf M_X7_toldOf
  rcases (show k = 0 ∨ k = 1 ∨ k = 2 ∨ k = 3 ∨ k = 4 ∨ k = 5 ∨ k = 6 by omega) with rfl | rfl | rfl | rfl | rfl | rfl | rfl
  · exact ⟨_, by rw [if_pos (by decide), rd_n _ (by omega) (by decide), Option.bind_some], by rw [if_pos (by decide), rd_n _ (by omega) (by decide), Option.bind_some, m1, c1]⟩
  · exact ⟨_, by rw [if_neg (by decide), if_pos (by decide), rd_n _ (by omega) (by decide), Option.bind_some], by rw [if_neg (by decide), if_pos (by decide), rd_n _ (by omega) (by decide), Option.bind_some, m2, c2]⟩
  · exact ⟨_, by rw [if_neg (by decide), if_neg (by decide), if_pos (by decide), rd_n _ (by omega) (by decide), Option.bind_some], by rw [if_neg (by decide), if_neg (by decide), if_pos (by decide), show (10 : Int32) + nI i = nI (10 + i) from nI_add 10 i, rd_n _ (by omega) (by decide), Option.bind_some, m5, c5]⟩
  · exact ⟨_, by rw [if_neg (by decide), if_neg (by decide), if_neg (by decide), if_pos (by decide), rd_n _ (by omega) (by decide), Option.bind_some], by rw [if_neg (by decide), if_neg (by decide), if_neg (by decide), if_pos (by decide), show (17 : Int32) + nI i = nI (17 + i) from nI_add 17 i, rd_n _ (by omega) (by decide), Option.bind_some, hd i (by omega)]⟩
  · exact ⟨_, by rw [if_neg (by decide), if_neg (by decide), if_neg (by decide), if_neg (by decide), if_pos (by decide), rd_n _ (by omega) (by decide), Option.bind_some], by rw [if_neg (by decide), if_neg (by decide), if_neg (by decide), if_neg (by decide), if_pos (by decide), show (3 : Int32) + nI i = nI (3 + i) from nI_add 3 i, rd_n _ (by omega) (by decide), Option.bind_some, m4, c4]⟩
  · exact ⟨_, by rw [if_neg (by decide), if_neg (by decide), if_neg (by decide), if_neg (by decide), if_neg (by decide), if_pos (by decide), keyWeight_c ok h hi, Option.bind_some], by rw [if_neg (by decide), if_neg (by decide), if_neg (by decide), if_neg (by decide), if_neg (by decide), if_pos (by decide), keyWeight_m ok hm hi, Option.bind_some]⟩
  · exact ⟨_, by rw [if_neg (by decide), if_neg (by decide), if_neg (by decide), if_neg (by decide), if_neg (by decide), if_neg (by decide), rd_n _ (by omega) (by decide), Option.bind_some], by rw [if_neg (by decide), if_neg (by decide), if_neg (by decide), if_neg (by decide), if_neg (by decide), if_neg (by decide), rd_n _ (by omega) (by decide), Option.bind_some, m3, c3]⟩
theorem in7k {a : Int32} (k : Nat) {v : Int64} (hv : v = (nI k - 1).toInt64) (hk : k < 1000) : (a < 0 ∧ M_X7_in a.toInt64 0 v = some 0) ∨ (¬ a < 0 ∧ nI k ≤ a ∧ M_X7_in a.toInt64 0 v = some 0) ∨ ∃ j, j < k ∧ a = nI j ∧ M_X7_in a.toInt64 0 v = some 1 := by
  subst hv
  rcases i3 a (n := k) (by omega) with q | ⟨q, q'⟩ | ⟨j, hj, rfl⟩
  · exact Or.inl ⟨q, in7lo _ _ q⟩
  · exact Or.inr (Or.inl ⟨q, q', in7hi hk q q'⟩)
  · exact Or.inr (Or.inr ⟨j, hj, rfl, in7ok hk hj⟩)
theorem pure_house {Wl : ST → ST → Prop} (hC : Cg Wl) (hV : Vws Wl) (hD : Drs Wl) : P_house (RelG Wl) := by
  intro σ τ a1 a2 hR
  obtain ⟨V, ok, hc, hm⟩ := hV σ τ hR.2.2.2.2.2
  rcases house_cm ok hc hm a1 with ⟨e1, e2⟩ | ⟨i, hi, rfl, e1, e2⟩
  · exact ⟨-1, σ, τ, by unfold M_X6_house; rw [e1, Option.bind_some, if_pos rfl], by unfold M_X7_house; rw [e2, Option.bind_some, if_pos rfl], hR⟩
  rcases in7k (a := a2) 7 (v := 6) rfl (by decide) with ⟨q, e⟩ | ⟨q, q', e⟩ | ⟨k, hk, rfl, e⟩
  · exact ⟨-1, σ, τ, by unfold M_X6_house; rw [e1, Option.bind_some, if_neg (by decide), if_pos q], by unfold M_X7_house; rw [e2, Option.bind_some, if_neg (by decide), e, Option.bind_some, if_pos rfl], hR⟩
  · exact ⟨-1, σ, τ, by unfold M_X6_house; rw [e1, Option.bind_some, if_neg (by decide), if_neg q, if_neg (show ¬ a2 < 7 from fun z => absurd q' (Int32.not_le.mpr z))], by unfold M_X7_house; rw [e2, Option.bind_some, if_neg (by decide), e, Option.bind_some, if_pos rfl], hR⟩
  · obtain ⟨x, f1, f2⟩ := fact_cm ok hc hm (hD σ τ hR.2.2.2.2.2) hi hk
    refine ⟨1, setI σ 8 x, setI τ 12 x, ?_, ?_, hR.ask hC _⟩
    · unfold M_X6_house; rw [e1, Option.bind_some, if_neg (by decide), if_neg (nI_pos (by omega)), if_pos (show nI k < 7 from nI_lt (b := 7) hk (by decide)), f1]; rfl
    · unfold M_X7_house; rw [e2, Option.bind_some, if_neg (by decide), e, Option.bind_some, if_neg (by decide), f2]; rfl
def isk (kd k : Nat) : Bool := decide (kd = k) || ((decide (k = 1) && decide (kd = 4)) || (decide (k = 3) && decide (kd = 5)))
theorem isk_c : ∀ kd, kd < 6 → ∀ k, k < 6 → 0 < k → M_X6_isOfKind (nI kd) (nI k) = some (b01 (isk kd k)) := by decide +kernel
theorem isk_m0 : ∀ kd, kd < 6 → ∀ k, k < 6 → (if nI kd = nI k then okZ 1 else if nI k = 1 then if nI kd = 4 then okZ 1 else if nI k = 3 then if nI kd = 5 then okZ 1 else okZ 0 else okZ 0 else if nI k = 3 then if nI kd = 5 then okZ 1 else okZ 0 else okZ 0) = some (b01 (isk kd k)) := by decide +kernel
theorem isk_m {V : VT} {τ : ST} (ok : okV V) (h : VM V τ) {i k : Nat} (hi : i < V 0 0) (hk : k < 6) : M_X7_isOf τ (nI i) (nI k) = some (b01 (isk (V 1 i) k)) := by
  have o1 := ok.1
  unfold M_X7_isOf M_X7_isOf_25
  rw [rd_n _ (by omega) (by decide), Option.bind_some, (h.2.2.2.2 i hi).1, Option.bind_some, Option.bind_some]
  exact isk_m0 (V 1 i) (by have := (ok.2.2.2.2 i hi).1; omega) k hk
def ndP (V : VT) (j i : Nat) : Bool := !decide (i = j) && !opn V (wo (2 ^ V 0 0 - 1) i)
def khP (V : VT) (j i : Nat) : Bool := decide (V 4 i = j)
section MK2
variable {V : VT} {σ τ : ST}
theorem others_12 (ok : okV V) (h : VC V σ) {j : Nat} (hj : j < 1000) : ∀ (m fu i : Nat), i + m = V 0 0 → m < fu → M_X5_othersNeededByAll_12 σ fu (nI j) (nI (2 ^ V 0 0 - 1)) (nI (cnt (ndP V j) i)) (nI i) = some (nI (cnt (ndP V j) (V 0 0)))
  | 0, fu + 1, i, hi, _ => by
    have := ok.1
    rw [M_X5_othersNeededByAll_12, h.1, if_pos (nI_le (by omega) (by omega)), show i = V 0 0 by omega]
  | m + 1, fu + 1, i, hi, hf => by
    have o1 := ok.1
    have h2 := p2h ok
    have h3 := p2p ok
    have hlt : i < V 0 0 := by omega
    have hw := wo_le (s := 2 ^ V 0 0 - 1) (i := i) (by omega) (by omega)
    have ih := others_12 ok h hj m fu (i + 1) (by omega) (by omega)
    rw [M_X5_othersNeededByAll_12, h.1, if_neg (nI_ge hlt (by omega)), nI_1 i]
    rw [cnt] at ih
    unfold ndP at ih ⊢
    by_cases q : i = j
    · rw [decide_eq_true q] at ih
      rw [if_pos (by rw [q])]
      exact ih
    · rw [decide_eq_false q] at ih
      rw [if_neg (fun z => q ((nI_eq (by omega) (by omega)).mp z)), clr (by omega) (by omega), open_c ok h (by omega), Option.bind_some]
      cases hp : opn V (wo (2 ^ V 0 0 - 1) i) with
      | false => rw [hp] at ih; rw [if_pos bf0, nI_1]; exact ih
      | true => rw [hp] at ih; rw [if_neg (by decide)]; exact ih
theorem needed_4 (ok : okV V) (h : VM V τ) {j : Nat} (hj : j < 1000) : ∀ (m fu i : Nat), i + m = V 0 0 → m < fu → M_X7_needed_4 τ fu (nI j) (nI (cnt (ndP V j) i)) (nI i) = some (nI (cnt (ndP V j) (V 0 0)))
  | 0, fu + 1, i, hi, _ => by
    have := ok.1
    rw [M_X7_needed_4, h.1, if_pos (nI_le (by omega) (by omega)), show i = V 0 0 by omega]
  | m + 1, fu + 1, i, hi, hf => by
    have o1 := ok.1
    have h2 := p2h ok
    have h3 := p2p ok
    have hlt : i < V 0 0 := by omega
    have hw := wo_le (s := 2 ^ V 0 0 - 1) (i := i) (by omega) (by omega)
    have ih := needed_4 ok h hj m fu (i + 1) (by omega) (by omega)
    have e0 : nI (cnt (ndP V j) i) + 0 = nI (cnt (ndP V j) i + 0) := nI_add _ 0
    rw [M_X7_needed_4, h.1, if_neg (nI_ge hlt (by omega)), nI_1 i, e0]
    rw [cnt] at ih
    unfold ndP at ih ⊢
    by_cases q : i = j
    · rw [decide_eq_true q] at ih
      rw [if_pos (by rw [q])]
      exact ih
    · rw [decide_eq_false q] at ih
      rw [if_neg (fun z => q ((nI_eq (by omega) (by omega)).mp z)), all_m ok h, Option.bind_some, clr (by omega) (by omega), open_m ok h (by omega), Option.bind_some]
      cases hp : opn V (wo (2 ^ V 0 0 - 1) i) with
      | false => rw [hp] at ih; rw [if_pos bf0, nI_1]; exact ih
      | true => rw [hp] at ih; rw [if_neg (by decide)]; exact ih
theorem keys_4 (ok : okV V) (h : VC V σ) {j : Nat} (hj : j < 1000) : ∀ (m fu i : Nat), i + m = V 0 0 → m < fu → M_X5_keysHeldBy_4 σ fu (nI j) (nI (cnt (khP V j) i)) (nI i) = some (nI (cnt (khP V j) (V 0 0)))
  | 0, fu + 1, i, hi, _ => by
    have := ok.1
    rw [M_X5_keysHeldBy_4, h.1, if_pos (nI_le (by omega) (by omega)), show i = V 0 0 by omega]
  | m + 1, fu + 1, i, hi, hf => by
    have o1 := ok.1
    have hlt : i < V 0 0 := by omega
    obtain ⟨k1, k2, k3, k4, k5⟩ := ok.2.2.2.2 i hlt
    have ih := keys_4 ok h hj m fu (i + 1) (by omega) (by omega)
    rw [M_X5_keysHeldBy_4, h.1, if_neg (nI_ge hlt (by omega)), rd_n _ (by omega) (by decide), Option.bind_some, (h.2.2.2.2 i hlt).2.2.2.1, nI_1 i]
    rw [cnt] at ih
    unfold khP at ih ⊢
    by_cases q : V 4 i = j
    · rw [decide_eq_true q] at ih
      rw [if_pos (by rw [q]), nI_1]
      exact ih
    · rw [decide_eq_false q] at ih
      rw [if_neg (fun z => q ((nI_eq (by omega) (by omega)).mp z))]
      exact ih
theorem keys_4m (ok : okV V) (h : VM V τ) {j : Nat} (hj : j < 1000) : ∀ (m fu i : Nat), i + m = V 0 0 → m < fu → M_X7_keysHeld_4 τ fu (nI j) (nI (cnt (khP V j) i)) (nI i) = some (nI (cnt (khP V j) (V 0 0)))
  | 0, fu + 1, i, hi, _ => by
    have := ok.1
    rw [M_X7_keysHeld_4, h.1, if_pos (nI_le (by omega) (by omega)), show i = V 0 0 by omega]
  | m + 1, fu + 1, i, hi, hf => by
    have o1 := ok.1
    have hlt : i < V 0 0 := by omega
    obtain ⟨k1, k2, k3, k4, k5⟩ := ok.2.2.2.2 i hlt
    have ih := keys_4m ok h hj m fu (i + 1) (by omega) (by omega)
    have e0 : nI (cnt (khP V j) i) + 0 = nI (cnt (khP V j) i + 0) := nI_add _ 0
    rw [M_X7_keysHeld_4, h.1, if_neg (nI_ge hlt (by omega)), show (3 : Int32) + nI i = nI (3 + i) from nI_add 3 i, rd_n _ (by omega) (by decide), Option.bind_some, (h.2.2.2.2 i hlt).2.2.2.1, nI_1 i, e0]
    rw [cnt] at ih
    unfold khP at ih ⊢
    by_cases q : V 4 i = j
    · rw [decide_eq_true q] at ih
      rw [if_pos (by rw [q]), nI_1]
      exact ih
    · rw [decide_eq_false q] at ih
      rw [if_neg (fun z => q ((nI_eq (by omega) (by omega)).mp z))]
      exact ih
end MK2
theorem mark_cm {V : VT} {σ τ : ST} (ok : okV V) (h : VC V σ) (hm : VM V τ) {i k : Nat} (hi : i < V 0 0) (hk : k < 6) (hk0 : 0 < k) : ∃ x, M_X5_markOf σ (nI i) (nI k) = some x ∧ (if nI k = 1 then (rd 3776 (τ.2.2 1) 1).bind fun v73 => some (v73 - v73 / 2 * 2, τ) else if nI k = 2 then (rd 3776 (τ.2.2 1) 1).bind fun v83 => some ((3 - (v83 - v83 / 3 * 3)) - (3 - (v83 - v83 / 3 * 3)) / 3 * 3, τ) else if nI k = 3 then (M_X7_needed τ (nI i)).bind fun o92 => some (o92, τ) else if nI k = 4 then (rd 7 (τ.2.2 3) (nI i)).bind fun v101 => (M_X7_wants τ (nI i)).bind fun o104 => some (v101 - o104, τ) else (M_X7_keysHeld τ (nI i)).bind fun o111 => some (o111, τ)) = some (x, τ) := by
  have o1 := ok.1
  have h3 := p2p ok
  have er : rd 3776 (τ.2.2 1) 1 = some (nI (V 0 2)) := by rw [show (1 : Int32) = nI 1 from rfl, rd_n _ (by decide) (by decide), hm.2.2.1]
  unfold M_X5_markOf
  rw [er, Option.bind_some, Option.bind_some, h.2.2.1]
  rcases (show k = 1 ∨ k = 2 ∨ k = 3 ∨ k = 4 ∨ k = 5 by omega) with rfl | rfl | rfl | rfl | rfl
  · exact ⟨_, by rw [if_pos (by decide)], by rw [if_pos (by decide)]⟩
  · exact ⟨_, by rw [if_neg (by decide), if_pos (by decide)], by rw [if_neg (by decide), if_pos (by decide)]⟩
  · refine ⟨nI (cnt (ndP V i) (V 0 0)), ?_, ?_⟩
    · unfold M_X5_othersNeededByAll
      rw [if_neg (by decide), if_neg (by decide), if_pos (by decide), sets_c ok h, Option.bind_some, show nI (2 ^ V 0 0) - 1 = nI (2 ^ V 0 0 - 1) from pk_sub (b := 1) h3, show M_X5_othersNeededByAll_12 σ 10000 (nI i) (nI (2 ^ V 0 0 - 1)) 0 0 = _ from others_12 ok h (by omega) (V 0 0) 10000 0 (by omega) (by omega)]
      rfl
    · rw [if_neg (by decide), if_neg (by decide), if_pos (by decide), show M_X7_needed τ (nI i) = _ from needed_4 ok hm (by omega) (V 0 0) 10000 0 (by omega) (by omega)]
      rfl
  · refine ⟨nI (V 2 i) - nI (wn V i), ?_, ?_⟩
    · rw [if_neg (by decide), if_neg (by decide), if_neg (by decide), if_pos (by decide), rd_n _ (by omega) (by decide), Option.bind_some, (h.2.2.2.2 i hi).2.1, wants_c ok h hi]; rfl
    · rw [if_neg (by decide), if_neg (by decide), if_neg (by decide), if_pos (by decide), rd_n _ (by omega) (by decide), Option.bind_some, (hm.2.2.2.2 i hi).2.1, wants_m ok hm hi]; rfl
  · refine ⟨nI (cnt (khP V i) (V 0 0)), ?_, ?_⟩
    · rw [if_neg (by decide), if_neg (by decide), if_neg (by decide), if_neg (by decide), show M_X5_keysHeldBy σ (nI i) = _ from keys_4 ok h (by omega) (V 0 0) 10000 0 (by omega) (by omega)]; rfl
    · rw [if_neg (by decide), if_neg (by decide), if_neg (by decide), if_neg (by decide), show M_X7_keysHeld τ (nI i) = _ from keys_4m ok hm (by omega) (V 0 0) 10000 0 (by omega) (by omega)]; rfl
theorem pure_mark {Wl : ST → ST → Prop} (hC : Cg Wl) (hV : Vws Wl) : P_mark (RelG Wl) := by
  intro σ τ a1 a2 hR
  obtain ⟨V, ok, hc, hm⟩ := hV σ τ hR.2.2.2.2.2
  have o1 := ok.1
  rcases house_cm ok hc hm a1 with ⟨e1, e2⟩ | ⟨i, hi, rfl, e1, e2⟩
  · exact ⟨-1, σ, τ, by unfold M_X6_mark; rw [e1, Option.bind_some, if_pos rfl], by unfold M_X7_mark; rw [e2, Option.bind_some, if_pos rfl], hR⟩
  have ein : M_X7_in a2.toInt64 1 5 = some (if a2 < 1 then (0 : Int32) else if 5 < a2 then 0 else 1) := by
    rw [show (1 : Int64) = (1 : Int32).toInt64 from rfl, show (5 : Int64) = (5 : Int32).toInt64 from rfl, in7i]
  by_cases q1 : a2 < 1
  · exact ⟨-1, σ, τ, by unfold M_X6_mark; rw [e1, Option.bind_some, if_neg (by decide), if_pos q1], by unfold M_X7_mark; rw [e2, Option.bind_some, if_neg (by decide), ein, if_pos q1]; rfl, hR⟩
  by_cases q5 : 5 < a2
  · exact ⟨-1, σ, τ, by unfold M_X6_mark; rw [e1, Option.bind_some, if_neg (by decide), if_neg q1, if_neg (fun z => absurd q5 (Int32.not_lt.mpr z))], by unfold M_X7_mark; rw [e2, Option.bind_some, if_neg (by decide), ein, if_neg q1, if_pos q5]; rfl, hR⟩
  have q6 : a2 ≤ 5 := Int32.not_lt.mp q5
  obtain ⟨k, hk, rfl⟩ := nI_of2 (M := 5) (n := 5) (by decide) (fun q => q1 (lt01 q)) q6
  have hk0 : 0 < k := by
    rcases Nat.eq_zero_or_pos k with z | z
    · subst z; exact absurd (by decide) q1
    · exact z
  have kd := (ok.2.2.2.2 i hi).1
  cases hb : isk (V 1 i) k with
  | false =>
    obtain ⟨σ', τ', f1, f2, f3⟩ := refuse_ok hC hR (k := 3) (v := 3) rfl (by decide)
    refine ⟨-3, σ', τ', ?_, ?_, f3⟩
    · unfold M_X6_mark; rw [e1, Option.bind_some, if_neg (by decide), if_neg q1, if_pos q6, rd_n _ (by omega) (by decide), Option.bind_some, (hc.2.2.2.2 i hi).1, isk_c _ (by omega) k (by omega) hk0, Option.bind_some, hb, if_pos bf0, f1]; rfl
    · unfold M_X7_mark; rw [e2, Option.bind_some, if_neg (by decide), ein, if_neg q1, if_neg q5, Option.bind_some, if_neg (by decide), isk_m ok hm hi (by omega), Option.bind_some, hb, if_pos bf0, f2]; rfl
  | true =>
    obtain ⟨x, f1, f2⟩ := mark_cm ok hc hm hi (k := k) (by omega) hk0
    refine ⟨x, σ, τ, ?_, ?_, hR⟩
    · unfold M_X6_mark; rw [e1, Option.bind_some, if_neg (by decide), if_neg q1, if_pos q6, rd_n _ (by omega) (by decide), Option.bind_some, (hc.2.2.2.2 i hi).1, isk_c _ (by omega) k (by omega) hk0, Option.bind_some, hb, if_neg (by decide), f1]; rfl
    · unfold M_X7_mark; rw [e2, Option.bind_some, if_neg (by decide), ein, if_neg q1, if_neg q5, Option.bind_some, if_neg (by decide), isk_m ok hm hi (by omega), Option.bind_some, hb, if_neg (by decide)]; exact f2
