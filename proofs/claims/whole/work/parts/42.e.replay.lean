/- a deed done, and all deeds done anew -/
theorem pass_h {C : VT} {D : DT} {j : Nat} (hj : j < 7) : ap C (.inr none) D (2 + j) = D (2 + j) := by
  show (if 2 + j = 0 then D 0 + 1 else if 2 + j = 1 then (if 99 < D 1 + C 0 2 then 99 else D 1 + C 0 2) else if 9 ≤ 2 + j ∧ 2 + j < 16 then 0 else D (2 + j)) = _
  rw [if_neg (by omega), if_neg (by omega), if_neg (by omega)]
theorem pass_t {C : VT} {D : DT} {j : Nat} (hj : j < 7) : ap C (.inr none) D (9 + j) = 0 := by
  show (if 9 + j = 0 then D 0 + 1 else if 9 + j = 1 then (if 99 < D 1 + C 0 2 then 99 else D 1 + C 0 2) else if 9 ≤ 9 + j ∧ 9 + j < 16 then 0 else D (9 + j)) = _
  rw [if_neg (by omega), if_neg (by omega), if_pos (by omega)]
theorem pass_d {C : VT} {D : DT} {j : Nat} (hj : j < 7) : ap C (.inr none) D (16 + j) = D (16 + j) := by
  show (if 16 + j = 0 then D 0 + 1 else if 16 + j = 1 then (if 99 < D 1 + C 0 2 then 99 else D 1 + C 0 2) else if 9 ≤ 16 + j ∧ 16 + j < 16 then 0 else D (16 + j)) = _
  rw [if_neg (by omega), if_neg (by omega), if_neg (by omega)]
def rsl (d : Dd) (C : VT) (D : DT) : Int32 := match d with
  | .inl l => nI (D 1) - nI (drs C D l 1)
  | .inr _ => 0
theorem apply_c {C : VT} (hC : okC C) {m : Nat} (hm : m ≤ 40) {σ : ST} {D : DT} (hc : CC C σ) (hd : DC C D σ) (hD : okD C m D) : ∀ d, okDd C d → ∃ σ', M_X5_apply σ (nI (enc d)) = some (rsl d C D, σ') ∧ eqx σ σ' ∧ DC C (ap C d D) σ'
  | .inl l, ho => by
    have h7 := hC.1
    have h8 : ∀ i ∈ l, i < 8 := fun j hj => by have := ho.2 j hj; omega
    obtain ⟨σ', u1, u2, u3⟩ := drw_c hC ho.1 ho.2 hm (nI (D 1)) l 10000 0 σ D rfl (Nat.zero_le _) (by have := ho.1; omega) hc hd hD
    refine ⟨σ', ?_, u2, u3⟩
    unfold M_X5_apply
    rw [if_pos (enc_k0 ho.1 h8)]
    unfold M_X5_drawInTurn
    rw [enc_len ho.1 h8, hd.2.1, show M_X5_drawInTurn_15 10000 σ (nI (enc (.inl l))) (nI l.length) (nI (D 1)) 0 = _ from u1, Option.bind_some, u3.2.1]
    rfl
  | .inr (some (a, b)), ho => by
    have h7 := hC.1
    have ha : a < C 0 0 := ho.1
    have hb : b < C 0 0 := ho.2
    refine ⟨setA σ 29 (upd (σ.2.2 29) a (nI b)), ?_, eqx.rf.sA (by omega), ?_⟩
    · unfold M_X5_apply
      show (if nI (1 + 4 * a + 32 * b) &&& 3 = 0 then _ else if nI (1 + 4 * a + 32 * b) &&& 3 = 1 then (M_X5_giveKey σ ((nI (1 + 4 * a + 32 * b) >>> ((2 : Int32) &&& 31)) &&& 7) ((nI (1 + 4 * a + 32 * b) >>> ((5 : Int32) &&& 31)) &&& 7)).bind _ else _) = _
      rw [pk_andN (by omega) 2 (by decide), show (1 + 4 * a + 32 * b) % 2 ^ 2 = 1 by omega, if_neg (by decide), if_pos (by decide), pk_shrN (by omega) _ 2 (by decide), pk_shrN (by omega) _ 5 (by decide), pk_andN (Nat.lt_of_le_of_lt (Nat.div_le_self _ _) (by omega)) 3 (by decide), pk_andN (Nat.lt_of_le_of_lt (Nat.div_le_self _ _) (by omega)) 3 (by decide), show (1 + 4 * a + 32 * b) / 2 ^ 2 % 2 ^ 3 = a by omega, show (1 + 4 * a + 32 * b) / 2 ^ 5 % 2 ^ 3 = b by omega]
      unfold M_X5_giveKey
      rw [isH_c h7 hc ha, Option.bind_some, if_neg n10, isH_c h7 hc hb, Option.bind_some, if_neg n10, wrA_n _ _ _ (by omega) (by decide)]
      rfl
    · obtain ⟨h1, h2, h3⟩ := hd
      refine ⟨?_, ?_, fun j hj => ⟨fun h0 => ⟨?_, ?_⟩, ?_⟩⟩
      · show _ = nI (if 0 = 2 + a then b else D 0)
        rw [if_neg (by omega)]; exact h1
      · show _ = nI (if 1 = 2 + a then b else D 1)
        rw [if_neg (by omega)]; exact h2
      · show upd (σ.2.2 29) a (nI b) j = nI (if 2 + j = 2 + a then b else D (2 + j))
        unfold upd
        by_cases e : j = a
        · rw [if_pos e, if_pos (by omega)]
        · rw [if_neg e, if_neg (by omega)]; exact ((h3 j hj).1 h0).1
      · show _ = nI (if 9 + j = 2 + a then b else D (9 + j))
        rw [if_neg (by omega)]; exact ((h3 j hj).1 h0).2
      · show _ = nI (if 16 + j = 2 + a then b else D (16 + j))
        rw [if_neg (by omega)]; exact (h3 j hj).2
  | .inr none, _ => by
    obtain ⟨h1, h2, h3⟩ := hd
    have h99 := hD.2.1
    have h9 := hC.2.2.1
    refine ⟨setA (setI (setI σ 36 (σ.1 36 + 1)) 35 (nI (if 99 < D 1 + C 0 2 then 99 else D 1 + C 0 2))) 30 (fun j => if j < 7 then 0 else σ.2.2 30 j), ?_, ((eqx.rf.sI (by omega)).sI (by omega)).sA (by omega), ?_⟩
    · unfold M_X5_apply
      show (if (2 : Int32) &&& 3 = 0 then _ else if (2 : Int32) &&& 3 = 1 then _ else (M_X5_passDay σ).bind _) = _
      rw [if_neg (by decide), if_neg (by decide)]
      unfold M_X5_passDay
      rw [Option.bind_some, Option.bind_some]
      show (((fillA 7 (setI (setI σ 36 (σ.1 36 + 1)) 35 (if 99 < σ.1 35 + σ.1 32 then 99 else σ.1 35 + σ.1 32)) 30 0)).bind fun o => some o).bind _ = _
      rw [h2, hc.2.2.1, nI_add]
      have : (if (99 : Int32) < nI (D 1 + C 0 2) then 99 else nI (D 1 + C 0 2)) = nI (if 99 < D 1 + C 0 2 then 99 else D 1 + C 0 2) := by
        by_cases q : 99 < D 1 + C 0 2
        · rw [if_pos q, if_pos (show (99 : Int32) < nI (D 1 + C 0 2) from nI_lt (a := 99) q (by omega))]; rfl
        · rw [if_neg q, if_neg (ng 99 99 rfl (show D 1 + C 0 2 ≤ 99 by omega) (by decide))]
      rw [this]; rfl
    · refine ⟨?_, ?_, fun j hj => ⟨fun h0 => ⟨?_, ?_⟩, ?_⟩⟩
      · show σ.1 36 + 1 = nI (D 0 + 1)
        rw [h1, nI_1]
      · rfl
      · rw [pass_h hj]; exact ((h3 j hj).1 h0).1
      · rw [pass_t hj]
        exact if_pos hj
      · rw [pass_d hj]; exact (h3 j hj).2
theorem HC.cg {f : Nat → Dd} {n : Nat} {σ σ' : ST} (h : HC f n 28 σ) (e : eqx σ σ') : HC f n 28 σ' := by
  unfold HC; rw [e.2.2 28 (by decide) (by decide) (by decide)]; exact h
theorem replay_53 {C : VT} {f : Nat → Dd} {n : Nat} (hC : okC C) (hO : okH C f n) : ∀ (m fu i : Nat) (σ : ST), i + m = n → m < fu → CC C σ → σ.1 37 = nI n → HC f n 28 σ → DC C (rep C f i) σ → ∃ σ', M_X5_replay_53 fu σ (nI i) = some σ' ∧ eqx σ σ' ∧ DC C (rep C f n) σ'
  | 0, fu + 1, i, σ, h1, _, hc, hn, hf, hd => by
    have := hO.1
    obtain rfl : i = n := by omega
    refine ⟨σ, ?_, eqx.rf, hd⟩
    unfold M_X5_replay_53; rw [hn, if_pos (nI_le (by omega) (by omega))]
  | m + 1, fu + 1, i, σ, h1, h2, hc, hn, hf, hd => by
    have h40 := hO.1
    obtain ⟨σ1, u1, u2, u3⟩ := apply_c hC (m := i) (by omega) hc hd (rep_ok hC hO.2.2 i (by omega)) (f i) (hO.2.2 i (by omega))
    obtain ⟨σ2, v1, v2, v3⟩ := replay_53 hC hO m fu (i + 1) σ1 (by omega) (by omega) (hc.cg u2) ((u2.1 37 (by decide) (by decide)).trans hn) (hf.cg u2) u3
    refine ⟨σ2, ?_, u2.tr v2, v3⟩
    unfold M_X5_replay_53
    rw [hn, if_neg (nI_ge (by omega) (by omega)), if_neg (nl 40 40 rfl (show i < 40 by omega) (by decide)), rd_n _ (by omega) (by decide), Option.bind_some, hf i (by omega), u1, Option.bind_some, nI_1]; exact v1
theorem replay_18 {C : VT} {f : Nat → Dd} {n : Nat} (hC : okC C) (hO : okH C f n) : ∀ (m fu i : Nat) (σ : ST), i + m = 7 → m < fu → CC C σ → σ.1 37 = nI n → HC f n 28 σ → σ.1 36 = 0 → σ.1 35 = nI (C 0 3) → (∀ j, j < i → σ.2.2 29 j = nI j ∧ σ.2.2 30 j = 0 ∧ σ.2.2 31 j = 0) → ∃ σ', M_X5_replay_18 fu σ (nI i) = some σ' ∧ eqx σ σ' ∧ DC C (rep C f n) σ'
  | 0, fu + 1, i, σ, h1, _, hc, hn, hf, h36, h35, ha => by
    have := hO.1
    obtain rfl : i = 7 := by omega
    unfold M_X5_replay_18; rw [if_pos (by decide)]
    refine replay_53 hC hO n 10000 0 σ (by omega) (by omega) hc hn hf ⟨h36, h35, fun j hj => ⟨fun _ => ⟨?_, ?_⟩, ?_⟩⟩
    · show _ = nI (if 2 + j = 1 then _ else if 2 ≤ 2 + j ∧ 2 + j < 9 then 2 + j - 2 else 0)
      rw [if_neg (by omega), if_pos (by omega), show 2 + j - 2 = j by omega]; exact (ha j hj).1
    · show _ = nI (if 9 + j = 1 then _ else if 2 ≤ 9 + j ∧ 9 + j < 9 then 9 + j - 2 else 0)
      rw [if_neg (by omega), if_neg (by omega)]; exact (ha j hj).2.1
    · show _ = nI (if 16 + j = 1 then _ else if 2 ≤ 16 + j ∧ 16 + j < 9 then 16 + j - 2 else 0)
      rw [if_neg (by omega), if_neg (by omega)]; exact (ha j hj).2.2
  | m + 1, fu + 1, i, σ, h1, h2, hc, hn, hf, h36, h35, ha => by
    have e : eqx σ (setA (setA (setA σ 29 (upd (σ.2.2 29) i (nI i))) 30 (upd (σ.2.2 30) i 0)) 31 (upd (σ.2.2 31) i 0)) := ((eqx.rf.sA (by omega)).sA (by omega)).sA (by omega)
    obtain ⟨σ2, v1, v2, v3⟩ := replay_18 hC hO m fu (i + 1) (setA (setA (setA σ 29 (upd (σ.2.2 29) i (nI i))) 30 (upd (σ.2.2 30) i 0)) 31 (upd (σ.2.2 31) i 0)) (by omega) (by omega) (hc.cg e) ((e.1 37 (by decide) (by decide)).trans hn) (hf.cg e) h36 h35 (by
      intro j hj
      show upd (σ.2.2 29) i (nI i) j = _ ∧ upd (σ.2.2 30) i 0 j = _ ∧ upd (σ.2.2 31) i 0 j = _
      unfold upd
      by_cases w : j = i
      · rw [if_pos w, if_pos w, if_pos w, w]; exact ⟨rfl, rfl, rfl⟩
      · rw [if_neg w, if_neg w, if_neg w]; exact ha j (by omega))
    refine ⟨σ2, ?_, e.tr v2, v3⟩
    unfold M_X5_replay_18
    rw [if_neg (nl 7 7 rfl (show i < 7 by omega) (by decide)), wrA_n _ _ _ (by omega) (by decide), Option.bind_some, wrA_n _ _ _ (by omega) (by decide), Option.bind_some, wrA_n _ _ _ (by omega) (by decide), Option.bind_some, nI_1]; exact v1
theorem replay_c {C : VT} {f : Nat → Dd} {n : Nat} {σ : ST} (hC : okC C) (hO : okH C f n) (hc : CC C σ) (hn : σ.1 37 = nI n) (hf : HC f n 28 σ) : ∃ σ', M_X5_replay σ = some σ' ∧ eqx σ σ' ∧ DC C (rep C f n) σ' := by
  have e : eqx σ (setI (setI σ 35 (σ.1 31)) 36 0) := (eqx.rf.sI (by omega)).sI (by omega)
  obtain ⟨σ2, v1, v2, v3⟩ := replay_18 hC hO 7 10000 0 (setI (setI σ 35 (σ.1 31)) 36 0) (by omega) (by omega) (hc.cg e) ((e.1 37 (by decide) (by decide)).trans hn) (hf.cg e) rfl hc.2.2.2.1 (fun j hj => absurd hj (Nat.not_lt_zero _))
  refine ⟨σ2, ?_, e.tr v2, v3⟩
  unfold M_X5_replay
  rw [Option.bind_some, Option.bind_some]
  exact v1
