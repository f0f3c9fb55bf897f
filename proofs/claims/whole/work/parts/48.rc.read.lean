/- items one by one; the whole text -/
section RT2
variable {σ0 τ0 : ST} {j n : Nat} {tx : Nat → Int32} {nd fw cm : Nat}
def dnR (σ0 τ0 : ST) (nd fw cm : Nat) (r : Int32) (σ' τ' : ST) : Prop := nR σ0 σ' ∧ nM τ0 τ' ∧ (¬ r = -9 ∨ (r = -9 ∧ ∃ k fc K H F, 0 < k ∧ fc ≤ 80 ∧ RC k fc K H F σ' τ' ∧ RQ nd fw cm σ' τ'))
theorem item_e {σ τ : ST} {p it k fc fu fu' : Nat} {K H F : Nat → Nat} (T : TX σ0 τ0 j n tx) (hi : it ≤ 80) (hf : fc ≤ 80) (B : RB σ0 τ0 j n p σ τ) (C : RC k fc K H F σ τ) (Q : RQ nd fw cm σ τ) (e1 : M_X2_skipBlanks σ = some (setI σ 13 (nI n))) (e2 : M_X7_skip τ = some (setI τ 18 (nI n))) : ∃ r σ' τ', M_X2_read_46 (fu + 1) σ (nI it) = some (r, σ') ∧ ((M_X7_skip τ).bind fun o => M_X7_faultOf_67 (fu' + 1) o 1) = some (r, τ') ∧ dnR σ0 τ0 nd fw cm r σ' τ' := by
  have h80 := T.2.1
  have h7 := C.1
  have B1 := B.mv n
  have C1 : RC k fc K H F (setI σ 13 (nI n)) (setI τ 18 (nI n)) := C
  have Q1 : RQ nd fw cm (setI σ 13 (nI n)) (setI τ 18 (nI n)) := Q
  have ec : M_X2_read_46 (fu + 1) σ (nI it) = if nI k = 0 then some (nI n, setI σ 13 (nI n)) else some (-9, setI σ 13 (nI n)) := by
    rw [M_X2_read_46, if_neg (ng 80 80 rfl hi (by decide)), e1, Option.bind_some, sign_e T B1 (Nat.lt_irrefl n) (Nat.le_refl _), Option.bind_some, if_pos rfl, C1.2.1]
    rfl
  have em : ((M_X7_skip τ).bind fun o => M_X7_faultOf_67 (fu' + 1) o 1) = if nI k ≤ 0 then some (nI n, setI τ 18 (nI n)) else some (-9, setI τ 18 (nI n)) := by
    rw [e2, Option.bind_some, M_X7_faultOf_67, if_neg n10, B1.2.2.2.2.2.2, B1.2.2.2.2.2.1, if_pos (nI_le (Nat.le_refl n) (by omega))]
    unfold M_X7_faultOf_114 M_X7_faultOf_130
    rw [if_neg n10, C1.2.2.2.1]
    rfl
  by_cases k0 : k = 0
  · refine ⟨nI n, setI σ 13 (nI n), setI τ 18 (nI n), ?_, ?_, B1.1, B1.2.1, Or.inl (m9_ne (by omega))⟩
    · rw [ec, k0, if_pos n00]
    · rw [em, k0, if_pos (by decide)]
  · refine ⟨-9, setI σ 13 (nI n), setI τ 18 (nI n), ?_, ?_, B1.1, B1.2.1, Or.inr ⟨rfl, k, fc, K, H, F, by omega, hf, C1, Q1⟩⟩
    · rw [ec, if_neg (nI_ne0 (by omega) (by omega))]
    · rw [em, if_neg (nI_nle (by omega) (by omega))]
theorem item_l (T : TX σ0 τ0 j n tx) : ∀ (m fu fu' p it k fc : Nat) (K H F : Nat → Nat) (σ τ : ST), n - p ≤ m → m < fu → m < fu' → it ≤ p → fc ≤ it → p ≤ n → RB σ0 τ0 j n p σ τ → RC k fc K H F σ τ → RQ nd fw cm σ τ → ∃ r σ' τ', M_X2_read_46 fu σ (nI it) = some (r, σ') ∧ ((M_X7_skip τ).bind fun o => M_X7_faultOf_67 fu' o 1) = some (r, τ') ∧ dnR σ0 τ0 nd fw cm r σ' τ'
  | 0, fu + 1, fu' + 1, p, it, k, fc, K, H, F, σ, τ, h1, _, _, h4, h5, h6, B, C, Q => by
    have h80 := T.2.1
    obtain ⟨p1, a1, a2, e1, e2⟩ := skip_cm T B h6
    obtain rfl : p1 = n := by omega
    exact item_e T (by omega) (by omega) B C Q e1 e2
  | m + 1, fu + 1, fu' + 1, p, it, k, fc, K, H, F, σ, τ, h1, h2, h3, h4, h5, h6, B, C, Q => by
    have h80 := T.2.1
    obtain ⟨p1, a1, a2, e1, e2⟩ := skip_cm T B h6
    by_cases hn : p1 = n
    · subst hn
      exact item_e T (by omega) (by omega) B C Q e1 e2
    have q : p1 < n := by omega
    have B1 := B.mv p1
    have C1 : RC k fc K H F (setI σ 13 (nI p1)) (setI τ 18 (nI p1)) := C
    have Q1 : RQ nd fw cm (setI σ 13 (nI p1)) (setI τ 18 (nI p1)) := Q
    generalize setI σ 13 (nI p1) = s1 at e1 B1 C1 Q1
    generalize setI τ 18 (nI p1) = u1 at e2 B1 C1 Q1
    have ec : M_X2_read_46 (fu + 1) σ (nI it) = (M_X2_readItem s1).bind fun o87 => if o87.1 = 0 then some (o87.2.1 13, o87.2) else M_X2_read_46 fu o87.2 (nI (it + 1)) := by
      rw [M_X2_read_46, if_neg (ng 80 80 rfl (show it ≤ 80 by omega) (by decide)), e1, Option.bind_some, sign_c T B1 q, Option.bind_some, if_neg (isB_256 (T.2.2.2 p1 (by omega)).2.2), nI_1]
    have em : ((M_X7_skip τ).bind fun o => M_X7_faultOf_67 (fu' + 1) o 1) = if tx p1 = 120 then (M_X7_readsFeud u1).bind fun o92 => M_X7_faultOf_102 (M_X7_faultOf_67 fu') o92.2 o92.1 else (M_X7_readsHouse u1).bind fun o99 => M_X7_faultOf_102 (M_X7_faultOf_67 fu') o99.2 o99.1 := by
      rw [e2, Option.bind_some, M_X7_faultOf_67, if_neg n10, B1.2.2.2.2.2.2, B1.2.2.2.2.2.1, if_neg (nI_ge q (by omega)), here_m T B1 q, Option.bind_some]
    have key : ∀ (X : Option (Int32 × ST)) (Y : Option (Int32 × ST)), ((∃ p' σ' τ', p' ≤ n ∧ X = some (0, σ') ∧ Y = some (0, τ') ∧ RB σ0 τ0 j n p' σ' τ') ∨ ∃ p' fc' K' H' F' k' σ' τ', p1 < p' ∧ p' ≤ n ∧ fc' ≤ fc + 1 ∧ X = some (1, σ') ∧ Y = some (1, τ') ∧ RB σ0 τ0 j n p' σ' τ' ∧ RC k' fc' K' H' F' σ' τ' ∧ RQ nd fw cm σ' τ') → ∃ r σ' τ', ((X.bind fun o => (okZ o.1).bind fun z => some (z, o.2)).bind fun o87 => if o87.1 = 0 then some (o87.2.1 13, o87.2) else M_X2_read_46 fu o87.2 (nI (it + 1))) = some (r, σ') ∧ (Y.bind fun o92 => M_X7_faultOf_102 (M_X7_faultOf_67 fu') o92.2 o92.1) = some (r, τ') ∧ dnR σ0 τ0 nd fw cm r σ' τ' := by
      intro X Y hXY
      rcases hXY with ⟨p', σ', τ', b1, rfl, rfl, b4⟩ | ⟨p', fc', K', H', F', k', σ', τ', b1, b2, b3, rfl, rfl, b6, b7, b8⟩
      · refine ⟨nI p', σ', τ', ?_, ?_, b4.1, b4.2.1, Or.inl (m9_ne (by omega))⟩
        · rw [Option.bind_some, okZ_0, Option.bind_some, Option.bind_some, if_pos rfl, b4.2.2.2.1]
        · rw [Option.bind_some]
          unfold M_X7_faultOf_102
          rw [if_pos rfl]
          obtain ⟨f, rfl⟩ : ∃ f, fu' = f + 1 := ⟨fu' - 1, by omega⟩
          rw [M_X7_faultOf_67, if_pos rfl]
          unfold M_X7_faultOf_114 M_X7_faultOf_130
          rw [if_pos rfl, b4.2.2.2.2.2.1]
      · obtain ⟨r, σ2, τ2, c1, c2, c3⟩ := item_l T m fu fu' p' (it + 1) k' fc' K' H' F' σ' τ' (by omega) (by omega) (by omega) (by omega) (by omega) b2 b6 b7 b8
        refine ⟨r, σ2, τ2, ?_, ?_, c3⟩
        · rw [Option.bind_some, okZ_1, Option.bind_some, Option.bind_some, if_neg n10]; exact c1
        · rw [Option.bind_some]
          unfold M_X7_faultOf_102
          rw [if_neg n10]; exact c2
    rw [ec, em]
    unfold M_X2_readItem
    rw [sign_c T B1 q, Option.bind_some]
    by_cases c : tx p1 = 120
    · rw [if_pos c, if_pos c]
      exact key _ _ (feud_l T B1 q C1 Q1)
    · rw [if_neg c, if_neg c]
      exact key _ _ (house_l T B1 q (by omega) C1 Q1)
end RT2
def rst (τ : ST) : Option (Int32 × ST) := (M_X7_readsWell τ).bind fun o55 => if o55.1 = 0 then M_X7_faultOf_67 10000 o55.2 o55.1 else (M_X7_skip o55.2).bind fun o64 => M_X7_faultOf_67 10000 o64 o55.1
theorem fo_35 : ∀ (m fu i : Nat) (τ : ST), i + m = 7 → m < fu → (∀ t, t < i → τ.2.2 11 t = 0) → ∃ f, M_X7_faultOf_35 fu τ (nI i) = rst (setA τ 11 f) ∧ ∀ t, t < 7 → f t = 0
  | 0, fu + 1, i, τ, h1, _, h3 => by
    refine ⟨τ.2.2 11, ?_, fun t ht => h3 t (by omega)⟩
    rw [M_X7_faultOf_35, if_pos (by rw [show i = 7 by omega]; decide), setA_self]
    rfl
  | m + 1, fu + 1, i, τ, h1, h2, h3 => by
    obtain ⟨f, u1, u2⟩ := fo_35 m fu (i + 1) (setA τ 11 (upd (τ.2.2 11) i 0)) (by omega) (by omega) (fun t ht => by
      rw [sA_at]
      by_cases e : t = i
      · subst e; exact pk_us
      · rw [pk_un e]; exact h3 t (by omega))
    refine ⟨f, ?_, u2⟩
    rw [M_X7_faultOf_35, if_neg (nl 7 7 rfl (show i < 7 by omega) (by decide)), wrA_n _ _ _ (by omega) (by decide), Option.bind_some, nI_1, u1, setA_setA]
theorem cin_c {σ : ST} {j n : Nat} (hj : j < 4) (hs : σ.2.2 12 j = nI n) (hn : n ≤ 80) : ∃ g, M_X3_copyInto_t σ (nI j) = some (nI n, setA σ 43 g) ∧ ∀ i, i < n → g i = σ.2.2 (13 + j) i := by
  refine ⟨va_cpy (σ.2.2 (13 + j)) (σ.2.2 43) 0 0 n, ?_, fun i hi => ?_⟩
  · have e1 : (if (80 : Int32) < nI n then 80 else nI n) = nI n := if_neg (ng 80 80 rfl hn (by decide))
    have e2 : (if (0 : Int32) < nI n then nI n else 0) = nI n := by
      by_cases z : n = 0
      · rw [z, if_neg (by decide)]; rfl
      · exact if_pos (show nI 0 < nI n from nI_lt (by omega) (by omega))
    have e3 : M_X3_hasRun_t σ (nI j) 0 (nI n) = some 1 := by
      unfold M_X3_hasRun_t
      rw [isT_ok_t hj hs hn, Option.bind_some, if_neg n10, if_neg (nI_pos (by omega)), if_neg (by decide), rd_n _ hj (by decide), Option.bind_some, hs, pk_sub (Nat.le_refl n), Nat.sub_self, if_neg (by decide)]
      rfl
    unfold M_X3_copyInto_t
    rw [szOf_t hj, Option.bind_some, hs, e1, e2, e3, Option.bind_some, if_neg n10, inR_n hj (by decide), Option.bind_some]
    unfold cpA
    rw [nI_clamp (by omega), if_neg, Option.bind_some]
    · rfl
    · intro q
      rcases q with q | q | q | q | q
      · exact absurd q (by decide)
      · exact absurd q (by decide)
      · exact nI_pos (by omega) q
      · have q : 80 < 0 + n := q
        omega
      · have q : 80 < 0 + n := q
        omega
  · unfold va_cpy
    rw [if_pos ⟨Nat.zero_le _, by omega⟩, Nat.sub_zero, Nat.zero_add]
theorem read_cm {σ τ : ST} {j n : Nat} {tx : Nat → Int32} (T : TX σ τ j n tx) (h7 : τ.2.2 7 j = nI n) : ∃ r σ' τ' nd fw cm, M_X2_read σ (nI j) = some (r, σ') ∧ M_X7_faultOf τ (nI j) = some (r, τ') ∧ dnR σ τ nd fw cm r σ' τ' := by
  have hj := T.1
  have h80 := T.2.1
  obtain ⟨g, g1, g2⟩ := cin_c hj T.2.2.1 h80
  generalize hx : M_X2_read σ (nI j) = x
  generalize hy : M_X7_faultOf τ (nI j) = y
  unfold M_X2_read at hx
  rw [g1, Option.bind_some, Option.bind_some, Option.bind_some] at hx
  unfold M_X0_clear fillA at hx
  rw [Option.bind_some, Option.bind_some, Option.bind_some, Option.bind_some, Option.bind_some, Option.bind_some, Option.bind_some] at hx
  unfold M_X7_faultOf at hy
  have e7 : (setI (setI τ 17 (80 * nI j)) 18 0).2.2 7 = τ.2.2 7 := rfl
  rw [Option.bind_some, Option.bind_some, e7, rd_n _ hj (by decide), Option.bind_some, h7, Option.bind_some, Option.bind_some, Option.bind_some] at hy
  obtain ⟨f, v1, v2⟩ := fo_35 7 10000 0 (setI (setI (setI (setI (setI τ 17 (80 * nI j)) 18 0) 19 (nI n)) 24 0) 26 0) (by omega) (by omega) (fun t ht => absurd ht (Nat.not_lt_zero _))
  rw [show M_X7_faultOf_35 10000 (setI (setI (setI (setI (setI τ 17 (80 * nI j)) 18 0) 19 (nI n)) 24 0) 26 0) 0 = _ from v1] at hy
  have B0 : RB σ τ j n 0 (setA (setI (setI (setI (setI (setI (setI (setI (setA σ 43 g) 12 (nI n)) 13 0) 20 0) 21 0) 22 0) 23 0) 24 0) 21 (fun i => if i < 7 then 0 else (setI (setI (setI (setI (setI (setI (setI (setA σ 43 g) 12 (nI n)) 13 0) 20 0) 21 0) 22 0) 23 0) 24 0).2.2 21 i)) (setA (setI (setI (setI (setI (setI τ 17 (80 * nI j)) 18 0) 19 (nI n)) 24 0) 26 0) 11 f) := by
    refine ⟨(((((((((nR.rf.sA (Or.inr rfl)).sI (by omega)).sI (by omega)).sI (by omega)).sI (by omega)).sI (by omega)).sI (by omega)).sI (by omega)).sA (by omega)), (((((nM.rf.sI (by omega)).sI (by omega)).sI (by omega)).sI (by omega)).sI (by omega)).sA (by omega), ⟨rfl, g2⟩, rfl, ?_, rfl, rfl⟩
    show (80 : Int32) * nI j = nI (80 * j)
    rw [show (80 : Int32) = nI 80 from rfl, pk_mul]
  have C0 : RC 0 0 (fun _ => 0) (fun _ => 0) (fun _ => 0) (setA (setI (setI (setI (setI (setI (setI (setI (setA σ 43 g) 12 (nI n)) 13 0) 20 0) 21 0) 22 0) 23 0) 24 0) 21 (fun i => if i < 7 then 0 else (setI (setI (setI (setI (setI (setI (setI (setA σ 43 g) 12 (nI n)) 13 0) 20 0) 21 0) 22 0) 23 0) 24 0).2.2 21 i)) (setA (setI (setI (setI (setI (setI τ 17 (80 * nI j)) 18 0) 19 (nI n)) 24 0) 26 0) 11 f) := by
    refine ⟨by omega, rfl, rfl, rfl, rfl, fun i hi => absurd hi (Nat.not_lt_zero _), fun i hi => ⟨?_, ?_, Nat.zero_lt_succ 127⟩⟩
    · rw [sA_at]; exact if_pos hi
    · rw [sA_at]; exact v2 i hi
  generalize setA (setI (setI (setI (setI (setI (setI (setI (setA σ 43 g) 12 (nI n)) 13 0) 20 0) 21 0) 22 0) 23 0) 24 0) 21 (fun i => if i < 7 then 0 else (setI (setI (setI (setI (setI (setI (setI (setA σ 43 g) 12 (nI n)) 13 0) 20 0) 21 0) 22 0) 23 0) 24 0).2.2 21 i) = s0 at hx B0 C0
  generalize setA (setI (setI (setI (setI (setI τ 17 (80 * nI j)) 18 0) 19 (nI n)) 24 0) 26 0) 11 f = u0 at hy B0 C0
  obtain ⟨p1, a1, a2, e1, e2⟩ := skip_cm T B0 (Nat.zero_le _)
  have B1 := B0.mv p1
  have C1 : RC 0 0 (fun _ => 0) (fun _ => 0) (fun _ => 0) (setI s0 13 (nI p1)) (setI u0 18 (nI p1)) := C0
  unfold rst at hy
  rw [rw0_eq, e2, Option.bind_some] at hy
  rw [e1, Option.bind_some] at hx
  generalize setI s0 13 (nI p1) = s1 at hx B1 C1
  generalize setI u0 18 (nI p1) = u1 at hy B1 C1
  rcases peace_l T B1 a2 C1 with ⟨p2, s2, u2, b1, b2, b3, b4⟩ | ⟨p2, nd, fw, cm, s2, u2, b1, b2, b3, b4, b5, b6, b7⟩
  · rw [b2, Option.bind_some, if_pos rfl, b4.2.2.2.1] at hx
    rw [b3, Option.bind_some, if_pos rfl, M_X7_faultOf_67, if_pos rfl] at hy
    unfold M_X7_faultOf_114 M_X7_faultOf_130 at hy
    rw [if_pos rfl, b4.2.2.2.2.2.1] at hy
    exact ⟨nI p2, s2, u2, 0, 0, 0, hx.symm, hy.symm, b4.1, b4.2.1, Or.inl (m9_ne (by omega))⟩
  · rw [b3, Option.bind_some, if_neg n10] at hx
    rw [b4, Option.bind_some, if_neg n10] at hy
    obtain ⟨r, σ', τ', c1, c2, c3⟩ := item_l T (n - p2) 10000 10000 p2 0 0 0 _ _ _ s2 u2 (Nat.le_refl _) (by omega) (by omega) (Nat.zero_le _) (Nat.le_refl _) b2 b5 b7 b6
    exact ⟨r, σ', τ', nd, fw, cm, hx.symm.trans c1, hy.symm.trans c2, c3⟩
theorem nR.same {F : FP} {σ σ' : ST} (h : nR σ σ') (h1 : ∀ k ∈ F.1, k < 12 ∨ (13 < k ∧ k < 20) ∨ 24 < k) (h2 : ∀ k ∈ F.2.2, k < 19 ∨ (21 < k ∧ k < 43) ∨ 43 < k) : same F σ σ' := ⟨fun k hk => h.1 k (h1 k hk), fun k _ => congrFun h.2.1 k, fun k hk => h.2.2 k (h2 k hk)⟩
theorem nM.same {F : FP} {σ σ' : ST} (h : nM σ σ') (h1 : ∀ k ∈ F.1, k < 17 ∨ k = 23 ∨ k = 25 ∨ 26 < k) (h2 : ∀ k ∈ F.2.2, k < 10 ∨ 11 < k) : same F σ σ' := ⟨fun k hk => h.1 k (h1 k hk), fun k _ => congrFun h.2.1 k, fun k hk => h.2.2 k (h2 k hk)⟩
theorem RelG.rdr {Wl : ST → ST → Prop} (hC : Cg Wl) {σ τ σ' τ' : ST} (h : RelG Wl σ τ) (h1 : nR σ σ') (h2 : nM τ τ') : RelG Wl σ' τ' := ⟨h.1.cg (h1.same (by decide) (by decide)) (h2.same (by decide) (by decide)), h.2.1.cg (h1.same (by decide) (by decide)) (h2.same (by decide) (by decide)), h.2.2.1.cg (h1.same (by decide) (by decide)) (h2.same (by decide) (by decide)), h.2.2.2.1.cg (h1.same (by decide) (by decide)) (h2.same (by decide) (by decide)), h.2.2.2.2.1.cg (h1.same (by decide) (by decide)) (h2.same (by decide) (by decide)), hC _ _ _ _ h.2.2.2.2.2 (h1.same (by decide) (by decide)) (h2.same (by decide) (by decide))⟩
theorem tx_of {Wl : ST → ST → Prop} {σ τ : ST} (hR : RelG Wl σ τ) {j n : Nat} (hj : j < 4) (hn : n ≤ 80) (hs : σ.2.2 12 j = nI n) : TX σ τ j n (σ.2.2 (13 + j)) ∧ τ.2.2 7 j = nI n := by
  obtain ⟨g1, g2, g3⟩ := hR.2.1 j hj
  exact ⟨⟨hj, hn, hs, fun i hi => ⟨rfl, (g3 i hi).1.symm, (g3 i hi).2⟩⟩, g1 ▸ hs⟩
theorem pure_fault {Wl : ST → ST → Prop} (hC : Cg Wl) : P_fault (RelG Wl) := by
  intro σ τ a hR
  rcases i3 a (n := 4) (by decide) with q | ⟨q, q'⟩ | ⟨j, hj, rfl⟩
  · exact ⟨-1, σ, τ, by unfold M_X6_fault; rw [refusalOf_lo_t q, Option.bind_some, if_neg nz1], by unfold M_X7_fault; rw [isText_lo q, Option.bind_some, if_pos rfl], hR⟩
  · exact ⟨-1, σ, τ, by unfold M_X6_fault; rw [refusalOf_hi_t q q', Option.bind_some, if_neg nz1], by unfold M_X7_fault; rw [isText_hi q q', Option.bind_some, if_pos rfl], hR⟩
  obtain ⟨g1, g2, g3⟩ := hR.2.1 j hj
  rcases g2 with g2 | ⟨n, hn, g2⟩
  · obtain ⟨σ', τ', e1, e2, e3⟩ := refuse_ok hC hR (k := 1) (v := 1) rfl (by decide)
    refine ⟨-3, σ', τ', ?_, ?_, e3⟩
    · unfold M_X6_fault; rw [refusalOf_no_t hj g2, e1, Option.bind_some, if_neg nz3]
    · unfold M_X7_fault; rw [isText_ok hj, Option.bind_some, if_neg n10, rd_n _ hj (by decide), Option.bind_some, ← g1, g2, if_neg n0m1, e2]; rfl
  · obtain ⟨T, T7⟩ := tx_of hR hj hn g2
    obtain ⟨r, σ', τ', nd, fw, cm, u1, u2, u3⟩ := read_cm T T7
    refine ⟨r, σ', τ', ?_, ?_, hR.rdr hC u3.1 u3.2.1⟩
    · unfold M_X6_fault; rw [refusalOf_ok_t hj g2 hn, Option.bind_some, if_pos rfl, u1, Option.bind_some]
    · unfold M_X7_fault; rw [isText_ok hj, Option.bind_some, if_neg n10, rd_n _ hj (by decide), Option.bind_some, T7, if_pos (nI_nonneg (by omega)), u2, Option.bind_some]
