/- chances -/
def wpr (p s : Nat) : Nat → Nat
  | 0 => 1
  | m + 1 => wpr p s m * (if s.testBit m then p else 12 - p)
theorem pow_c : ∀ b, b < 13 → ∀ n, n < 8 → M_X6_power (nI b) (nI n) = some (lN (b ^ n)) := by decide +kernel
theorem wpr_pow : ∀ p, p < 13 → ∀ h, h < 8 → ∀ s, s < 2 ^ h → pc7 s ≤ h ∧ p ^ pc7 s * (12 - p) ^ (h - pc7 s) = wpr p s h := by decide +kernel
theorem wpr_sum : ∀ p, p < 13 → ∀ h, h < 8 → smN (fun s => wpr p s h) (2 ^ h) = 12 ^ h := by decide +kernel
theorem wpr_le {p : Nat} (hp : p ≤ 12) (s : Nat) : ∀ m, wpr p s m ≤ 12 ^ m
  | 0 => Nat.le_refl _
  | m + 1 => by
    rw [wpr, Nat.pow_succ]
    exact Nat.mul_le_mul (wpr_le hp s m) (by split <;> omega)
def chF (V : VT) (p : Nat) (dr : Bool) (s : Nat) : Nat := if opn V s then (if dr then wpr p s (V 0 0) * drw V s else wpr p s (V 0 0)) else 0
section CH
variable {V : VT} {σ τ : ST}
theorem ways_c (ok : okV V) (h : VC V σ) {p s : Nat} (hp : p < 13) (hs : s < 2 ^ V 0 0) : M_X4_waysToCome σ (nI s) (nI p) = some (lN (wpr p s (V 0 0))) := by
  have h2 := p2h ok
  have o1 := ok.1
  obtain ⟨e1, e2⟩ := wpr_pow p hp (V 0 0) (by omega) s hs
  unfold M_X4_waysToCome
  rw [bitc_all s (by omega), Option.bind_some, pow_c p hp _ (by omega), Option.bind_some, houses_c h, Option.bind_some, show (12 : Int32) = nI 12 from rfl, pk_sub (show p ≤ 12 by omega), pk_sub e1, pow_c _ (by omega) _ (by omega), Option.bind_some, lN_mul, e2]
theorem wto_5 (ok : okV V) (h : VC V σ) (hk : LKp (opn V) (2 ^ V 0 0) σ) {p : Nat} (hp : p < 13) : ∀ (m fu i : Nat), i + m = 2 ^ V 0 0 → m < fu → M_X4_waysToOpen_5 σ fu (nI p) (lN (smN (chF V p false) i)) (nI i) = some (lN (smN (chF V p false) (2 ^ V 0 0)))
  | 0, fu + 1, i, hi, _ => by
    have h2 := p2h ok
    rw [M_X4_waysToOpen_5, hk.2.1, if_pos (nI_le (by omega) (by omega)), show i = 2 ^ V 0 0 by omega]
  | m + 1, fu + 1, i, hi, hf => by
    have h2 := p2h ok
    have ih := wto_5 ok h hk hp m fu (i + 1) (by omega) (by omega)
    rw [smN] at ih
    unfold chF at ih
    rw [M_X4_waysToOpen_5, hk.2.1, if_neg (nI_ge (by omega) (by omega)), rd_n _ (by omega) (by decide), Option.bind_some, hk.2.2 i (by omega), nI_1]
    unfold chF
    cases ho : opn V i with
    | false => rw [ho] at ih; rw [if_pos bf0]; exact ih
    | true => rw [ho] at ih; rw [if_neg (by decide), ways_c ok h hp (by omega), Option.bind_some, lN_add]; exact ih
theorem biw_5 (ok : okV V) (h : VC V σ) (hk : LKp (opn V) (2 ^ V 0 0) σ) {p : Nat} (hp : p < 13) : ∀ (m fu i : Nat), i + m = 2 ^ V 0 0 → m < fu → M_X4_bucketsInAllWays_5 σ fu (nI p) (lN (smN (chF V p true) i)) (nI i) = some (lN (smN (chF V p true) (2 ^ V 0 0)))
  | 0, fu + 1, i, hi, _ => by
    have h2 := p2h ok
    rw [M_X4_bucketsInAllWays_5, hk.2.1, if_pos (nI_le (by omega) (by omega)), show i = 2 ^ V 0 0 by omega]
  | m + 1, fu + 1, i, hi, hf => by
    have h2 := p2h ok
    have hd := drw_le ok i
    have ih := biw_5 ok h hk hp m fu (i + 1) (by omega) (by omega)
    rw [smN] at ih
    unfold chF at ih
    rw [M_X4_bucketsInAllWays_5, hk.2.1, if_neg (nI_ge (by omega) (by omega)), rd_n _ (by omega) (by decide), Option.bind_some, hk.2.2 i (by omega), nI_1]
    unfold chF
    cases ho : opn V i with
    | false => rw [ho] at ih; rw [if_pos bf0]; exact ih
    | true => rw [ho] at ih; rw [if_neg (by decide), ways_c ok h hp (by omega), Option.bind_some, drawn_c ok h (by omega), Option.bind_some, nI_l (by omega), lN_mul, lN_add]; exact ih
theorem tc_23 (ok : okV V) (h : VM V τ) {p s : Nat} (hp : p < 13) (hs : s < 128) (dr : Bool) (k8 : ST → Int32 → Int32 → Int64 → Int64 → Int32 → Option (Int32 × ST)) (A B : Nat) : ∀ (m fu i : Nat), i + m = V 0 0 → m < fu → M_X7_tellChance_23 k8 fu τ (nI p) (b01 dr) (lN A) (lN B) (nI s) (lN (wpr p s i)) (nI i) = k8 τ (nI p) (b01 dr) (lN (A + chF V p dr s)) (lN (B + wpr p s (V 0 0))) (nI (s + 1))
  | 0, fu + 1, i, hi, _ => by
    have o1 := ok.1
    have hd := drw_le ok s
    rw [M_X7_tellChance_23, h.1, if_pos (nI_le (by omega) (by omega)), open_m ok h hs, Option.bind_some, show i = V 0 0 by omega]
    unfold M_X7_tellChance_96 chF
    cases ho : opn V s with
    | false => rw [if_pos bf0, nI_1, lN_add, show lN A + 0 = lN (A + 0) from lN_add A 0]; rfl
    | true =>
      rw [if_neg (by decide)]
      cases dr with
      | false => rw [if_pos bf0, nI_1, lN_add, lN_add]; rfl
      | true => rw [if_neg (by decide), drawn_m ok h hs, Option.bind_some, nI_l (by omega), nI_1, lN_mul, lN_add, lN_add]; rfl
  | m + 1, fu + 1, i, hi, hf => by
    have o1 := ok.1
    have ih := tc_23 ok h hp hs dr k8 A B m fu (i + 1) (by omega) (by omega)
    rw [wpr] at ih
    rw [M_X7_tellChance_23, h.1, if_neg (nI_ge (by omega) (by omega)), has_m (by omega) (by omega), Option.bind_some]
    unfold M_X7_tellChance_54
    cases hb : s.testBit i with
    | false =>
      rw [hb] at ih
      rw [if_pos bf0, nI_1, show (12 : Int32) = nI 12 from rfl, pk_sub (show p ≤ 12 by omega), nI_l (by omega), lN_mul]; exact ih
    | true =>
      rw [hb] at ih
      rw [if_neg (by decide), nI_1, nI_l (by omega), lN_mul]; exact ih
theorem tc_8 (ok : okV V) (h : VM V τ) {p : Nat} (hp : p < 13) (dr : Bool) : ∀ (m fu i : Nat), i + m = 2 ^ V 0 0 → m < fu → M_X7_tellChance_8 fu τ (nI p) (b01 dr) (lN (smN (chF V p dr) i)) (lN (smN (fun s => wpr p s (V 0 0)) i)) (nI i) = (M_X7_tellParts τ (lN (smN (chF V p dr) (2 ^ V 0 0))) (lN (12 ^ V 0 0))).bind fun o => some (o.1, o.2)
  | 0, fu + 1, i, hi, _ => by
    have o1 := ok.1
    rw [M_X7_tellChance_8, all_m ok h, Option.bind_some, show i = 2 ^ V 0 0 by omega, if_pos (all_ge ok), wpr_sum p hp (V 0 0) (by omega)]
  | m + 1, fu + 1, i, hi, hf => by
    have o1 := ok.1
    have h2 := p2h ok
    have ih := tc_8 ok h hp dr m fu (i + 1) (by omega) (by omega)
    rw [smN, smN] at ih
    rw [M_X7_tellChance_8, all_m ok h, Option.bind_some, if_neg (all_lt ok h (by omega)), show M_X7_tellChance_23 (M_X7_tellChance_8 fu) 10000 τ (nI p) (b01 dr) (lN (smN (chF V p dr) i)) (lN (smN (fun s => wpr p s (V 0 0)) i)) (nI i) 1 0 = _ from tc_23 ok h hp (s := i) (by omega) dr (M_X7_tellChance_8 fu) _ _ (V 0 0) 10000 0 (by omega) (by omega)]
    exact ih
end CH
theorem chF_le {V : VT} (ok : okV V) {p : Nat} (hp : p < 13) (dr : Bool) (s : Nat) : chF V p dr s ≤ 35831808 * 99 := by
  have o1 := ok.1
  have hd := drw_le ok s
  have hw : wpr p s (V 0 0) ≤ 35831808 := Nat.le_trans (wpr_le (by omega) s (V 0 0)) (Nat.le_trans (Nat.pow_le_pow_right (by decide) o1) (by decide))
  unfold chF
  split
  · split
    · exact Nat.mul_le_mul hw hd
    · omega
  · exact Nat.zero_le _
theorem pow12 : ∀ h, h < 8 → 0 < 12 ^ h ∧ 12 ^ h < 2 ^ 40 := by decide +kernel
theorem chance_cm {Wl : ST → ST → Prop} (hC : Cg Wl) {V : VT} {σ τ : ST} (ok : okV V) (hc : VC V σ) (hm : VM V τ) (hR : RelG Wl σ τ) {p : Nat} (hp : p < 13) (dr : Bool) : ∃ σ' τ', M_X6_tell (lkS V σ) (lN (smN (chF V p dr) (2 ^ V 0 0))) (lN (12 ^ V 0 0)) = some σ' ∧ M_X7_tellChance τ (nI p) (b01 dr) = some (1, τ') ∧ RelG Wl σ' τ' := by
  have h2 := p2h ok
  have o1 := ok.1
  have hA : smN (chF V p dr) (2 ^ V 0 0) < 2 ^ 62 := by
    have := smN_le (F := chF V p dr) (B := 35831808 * 99) (2 ^ V 0 0) (fun s _ => chF_le ok hp dr s)
    omega
  have h12 := pow12 (V 0 0) (by omega)
  obtain ⟨σ', τ', u1, u2, u3⟩ := tell_cm hC (hR.lk (V := V) hC) hA h12.1 h12.2
  refine ⟨σ', τ', u1, ?_, u3⟩
  unfold M_X7_tellChance
  rw [show M_X7_tellChance_8 10000 τ (nI p) (b01 dr) 0 0 0 = _ from tc_8 ok hm hp dr (2 ^ V 0 0) 10000 0 (by omega) (by omega), u2, Option.bind_some]
theorem chance_no {σ τ : ST} {V : VT} (ok : okV V) (hc : VC V σ) (hm : VM V τ) (a : Int32) : (M_X6_refusalOfChance σ a = some (-1) ∧ M_X7_in a.toInt64 0 12 = some 0) ∨ (M_X7_in a.toInt64 0 12 = some 1 ∧ ((V 0 0 = 0 ∧ M_X6_refusalOfChance σ a = some (-4)) ∨ (0 < V 0 0 ∧ M_X6_refusalOfChance σ a = some 0 ∧ ∃ p, p < 13 ∧ a = nI p))) := by
  have o1 := ok.1
  unfold M_X6_refusalOfChance
  rw [houses_c hc, Option.bind_some]
  rcases in7k (a := a) 13 (v := 12) rfl (by decide) with ⟨z, z'⟩ | ⟨z, z1, z'⟩ | ⟨p, hp, rfl, z'⟩
  · exact Or.inl ⟨if_pos z, z'⟩
  · refine Or.inl ⟨?_, z'⟩
    rw [if_neg z, if_neg (fun w => ?_)]
    rw [Int32.le_iff_toInt_le] at z1 w
    have t1 : (nI 13).toInt = 13 := by decide
    have t2 : (12 : Int32).toInt = 12 := by decide
    omega
  · refine Or.inr ⟨z', ?_⟩
    rw [if_neg (nI_pos (by omega)), if_pos (ll 12 12 rfl (show p ≤ 12 by omega) (by decide))]
    by_cases q : V 0 0 = 0
    · exact Or.inl ⟨q, by rw [q, if_pos n00]⟩
    · exact Or.inr ⟨by omega, by rw [if_neg (nI_ne0 (by omega) (by omega))], p, hp, rfl⟩
theorem pure_odds {Wl : ST → ST → Prop} (hC : Cg Wl) (hV : Vws Wl) : P_odds (RelG Wl) := by
  intro σ τ a hR
  obtain ⟨V, ok, hc, hm⟩ := hV σ τ hR.2.2.2.2.2
  have h2 := p2h ok
  have o1 := ok.1
  rcases chance_no ok hc hm a with ⟨e1, e2⟩ | ⟨e2, ⟨q, e1⟩ | ⟨q, e1, p, hp, rfl⟩⟩
  · exact ⟨-1, σ, τ, by unfold M_X6_odds; rw [e1, Option.bind_some, if_neg nz1], by unfold M_X7_odds; rw [e2, Option.bind_some, if_pos rfl], hR⟩
  · exact ⟨-4, σ, τ, by unfold M_X6_odds; rw [e1, Option.bind_some, if_neg (by decide)], by unfold M_X7_odds; rw [e2, Option.bind_some, if_neg n10, hm.1, q, if_pos n00], hR⟩
  · obtain ⟨σ', τ', u1, u2, u3⟩ := chance_cm hC ok hc hm hR hp false
    refine ⟨1, σ', τ', ?_, ?_, u3⟩
    · unfold M_X6_odds M_X4_waysToOpen
      rw [e1, Option.bind_some, if_pos rfl, look_c ok hc, Option.bind_some, show M_X4_waysToOpen_5 (lkS V σ) 10000 (nI p) 0 0 = _ from wto_5 ok (lk_ok hc).1 (lk_p ok hc) hp (2 ^ V 0 0) 10000 0 (by omega) (by omega), Option.bind_some, houses_c (lk_ok hc).1, Option.bind_some, show M_X6_power 12 (nI (V 0 0)) = _ from pow_c 12 (by decide) (V 0 0) (by omega), Option.bind_some, u1, Option.bind_some]
    · unfold M_X7_odds
      rw [e2, Option.bind_some, if_neg n10, hm.1, if_neg (nI_ne0 (by omega) (by omega)), show M_X7_tellChance τ (nI p) 0 = _ from u2, Option.bind_some]
theorem pure_mid {Wl : ST → ST → Prop} (hC : Cg Wl) (hV : Vws Wl) : P_mid (RelG Wl) := by
  intro σ τ a hR
  obtain ⟨V, ok, hc, hm⟩ := hV σ τ hR.2.2.2.2.2
  have h2 := p2h ok
  have o1 := ok.1
  rcases chance_no ok hc hm a with ⟨e1, e2⟩ | ⟨e2, ⟨q, e1⟩ | ⟨q, e1, p, hp, rfl⟩⟩
  · exact ⟨-1, σ, τ, by unfold M_X6_mid; rw [e1, Option.bind_some, if_neg nz1], by unfold M_X7_mid; rw [e2, Option.bind_some, if_pos rfl], hR⟩
  · exact ⟨-4, σ, τ, by unfold M_X6_mid; rw [e1, Option.bind_some, if_neg (by decide)], by unfold M_X7_mid; rw [e2, Option.bind_some, if_neg n10, hm.1, q, if_pos n00], hR⟩
  · obtain ⟨σ', τ', u1, u2, u3⟩ := chance_cm hC ok hc hm hR hp true
    refine ⟨1, σ', τ', ?_, ?_, u3⟩
    · unfold M_X6_mid M_X4_bucketsInAllWays
      rw [e1, Option.bind_some, if_pos rfl, look_c ok hc, Option.bind_some, show M_X4_bucketsInAllWays_5 (lkS V σ) 10000 (nI p) 0 0 = _ from biw_5 ok (lk_ok hc).1 (lk_p ok hc) hp (2 ^ V 0 0) 10000 0 (by omega) (by omega), Option.bind_some, houses_c (lk_ok hc).1, Option.bind_some, show M_X6_power 12 (nI (V 0 0)) = _ from pow_c 12 (by decide) (V 0 0) (by omega), Option.bind_some, u1, Option.bind_some]
    · unfold M_X7_mid
      rw [e2, Option.bind_some, if_neg n10, hm.1, if_neg (nI_ne0 (by omega) (by omega)), show M_X7_tellChance τ (nI p) 1 = _ from u2, Option.bind_some]
