/-! shares, draws -/
def shr (V : VT) (sh : Nat) : Nat → Nat
  | 0 => 0
  | m + 1 => shr V sh m + (if sh < wy V m then sh else wy V m)
def rat (V : VT) : Nat → Nat
  | 0 => 0
  | m + 1 => if shr V m (V 0 0) ≤ V 0 3 then m else rat V m
theorem rat_le (V : VT) : ∀ m, rat V m ≤ m
  | 0 => Nat.le_refl 0
  | m + 1 => by rw [rat]; have := rat_le V m; split <;> omega
theorem shr_le {V : VT} (ok : okV V) (sh : Nat) : ∀ m, m ≤ V 0 0 → shr V sh m ≤ 9 * m
  | 0, _ => Nat.le_refl 0
  | m + 1, h => by
    rw [shr]
    have h1 := shr_le ok sh m (by omega)
    have h2 := wy_le ok (i := m) (by omega)
    split <;> omega
section DR
variable {V : VT} {σ τ : ST}
theorem shares_4 (ok : okV V) (h : VC V σ) {sh : Nat} (hs : sh < 1000) : ∀ (m fu i : Nat), i + m = V 0 0 → m < fu → M_X5_drawnByShares_4 σ fu (nI sh) (nI (shr V sh i)) (nI i) = some (nI (shr V sh (V 0 0)))
  | 0, fu + 1, i, hi, _ => by
    have := ok.1
    rw [M_X5_drawnByShares_4, h.1, if_pos (nI_le (by omega) (by omega)), show i = V 0 0 by omega]
  | m + 1, fu + 1, i, hi, hf => by
    have o1 := ok.1
    have hlt : i < V 0 0 := by omega
    have hw := wy_le ok hlt
    have ih := shares_4 ok h hs m fu (i + 1) (by omega) (by omega)
    rw [M_X5_drawnByShares_4, h.1, if_neg (nI_ge hlt (by omega)), wy_c ok h hlt, Option.bind_some, nI_1 i]
    rw [shr] at ih
    by_cases q : sh < wy V i
    · rw [if_pos q] at ih
      rw [if_pos (nI_lt q (by omega)), nI_add]
      exact ih
    · rw [if_neg q] at ih
      rw [if_neg (nI_nlt (by omega) (by omega)), nI_add]
      exact ih
theorem shares_c (ok : okV V) (h : VC V σ) {sh : Nat} (hs : sh < 1000) : M_X5_drawnByShares σ (nI sh) = some (nI (shr V sh (V 0 0))) := shares_4 ok h hs (V 0 0) 10000 0 (by omega) (by have := ok.1; omega)
theorem shares_4m (ok : okV V) (h : VM V τ) {sh : Nat} (hs : sh < 1000) : ∀ (m fu i : Nat), i + m = V 0 0 → m < fu → M_X7_drawnBy_4 τ fu (nI sh) (nI (shr V sh i)) (nI i) = some (nI (shr V sh (V 0 0)))
  | 0, fu + 1, i, hi, _ => by
    have := ok.1
    rw [M_X7_drawnBy_4, h.1, if_pos (nI_le (by omega) (by omega)), show i = V 0 0 by omega]
  | m + 1, fu + 1, i, hi, hf => by
    have o1 := ok.1
    have hlt : i < V 0 0 := by omega
    have hw := wy_le ok hlt
    have ih := shares_4m ok h hs m fu (i + 1) (by omega) (by omega)
    rw [M_X7_drawnBy_4, h.1, if_neg (nI_ge hlt (by omega)), wy_m ok h hlt, Option.bind_some, Option.bind_some, nI_1 i, nI_add, nI_add]
    rw [shr] at ih
    by_cases q : sh < wy V i
    · rw [if_pos q] at ih
      rw [if_pos (nI_le (by omega) (by omega))]
      exact ih
    · rw [if_neg q] at ih
      by_cases q2 : sh = wy V i
      · rw [if_pos (nI_le (by omega) (by omega)), q2]
        rw [q2] at ih
        exact ih
      · rw [if_neg (nI_ge (by omega) (by omega))]
        exact ih
theorem shares_m (ok : okV V) (h : VM V τ) {sh : Nat} (hs : sh < 1000) : M_X7_drawnBy τ (nI sh) = some (nI (shr V sh (V 0 0))) := shares_4m ok h hs (V 0 0) 10000 0 (by omega) (by have := ok.1; omega)
theorem ration_16 (ok : okV V) (h : VC V σ) : ∀ (x fu : Nat), x < 1000 → x < fu → M_X6_ration_16 fu σ (nI x) = some (nI (rat V (x + 1)), setI σ 8 (nI (shr V (rat V (x + 1)) (V 0 0))))
  | 0, fu + 1, _, _ => by
    have e : rat V 1 = 0 := by rw [rat, rat]; split <;> rfl
    rw [M_X6_ration_16, if_pos (by decide), e]
    unfold M_X6_ration_44
    rw [shares_c ok h (by decide)]
    rfl
  | x + 1, fu + 1, hx, hf => by
    have o3 := ok.2.2.2.1
    have hl := shr_le ok (x + 1) (V 0 0) (Nat.le_refl _)
    have o1 := ok.1
    rw [M_X6_ration_16, if_neg (nI_nle (by omega) (by omega)), shares_c ok h hx, Option.bind_some, h.2.2.2.1]
    rw [rat]
    by_cases q : shr V (x + 1) (V 0 0) ≤ V 0 3
    · rw [if_pos (nI_le q (by omega)), if_pos q]
      unfold M_X6_ration_44
      rw [shares_c ok h hx]
      rfl
    · rw [if_neg (nI_ge (by omega) (by omega)), if_neg q, pk_m1]
      exact ration_16 ok h x fu (by omega) (by omega)
theorem ration_14 (ok : okV V) (h : VM V τ) : ∀ (m fu i : Nat), i + m = 100 → m < fu → M_X7_ration_14 fu τ (nI (rat V i)) (nI i) = some (nI (rat V 100), setI τ 12 (nI (shr V (rat V 100) (V 0 0))))
  | 0, fu + 1, i, hi, _ => by
    have hr := rat_le V 100
    rw [M_X7_ration_14, if_pos (by rw [show (100 : Int32) = nI 100 from rfl]; exact nI_le (by omega) (by omega)), show i = 100 by omega, shares_m ok h (by omega)]
    rfl
  | m + 1, fu + 1, i, hi, hf => by
    have o3 := ok.2.2.2.1
    have o1 := ok.1
    have hl := shr_le ok i (V 0 0) (Nat.le_refl _)
    have ih := ration_14 ok h m fu (i + 1) (by omega) (by omega)
    rw [M_X7_ration_14, if_neg (nl 100 100 rfl (by omega) (by decide)), shares_m ok h (by omega), Option.bind_some, show (2 : Int32) = nI 2 from rfl, rd_n _ (by decide) (by decide), Option.bind_some, h.2.2.2.1, nI_1 i]
    rw [rat] at ih
    by_cases q : shr V i (V 0 0) ≤ V 0 3
    · rw [if_pos q] at ih
      rw [if_neg (nI_nlt q (by omega))]
      exact ih
    · rw [if_neg q] at ih
      rw [if_pos (nI_lt (by omega) (by omega))]
      exact ih
end DR
theorem houses_c {V : VT} {σ : ST} (h : VC V σ) : M_X5_houses σ = some (nI (V 0 0)) := by unfold M_X5_houses; rw [h.1]
theorem pure_ration {Wl : ST → ST → Prop} (hC : Cg Wl) (hV : Vws Wl) : P_ration (RelG Wl) := by
  intro σ τ hR
  obtain ⟨V, ok, hc, hm⟩ := hV σ τ hR.2.2.2.2.2
  have o1 := ok.1
  by_cases q : V 0 0 = 0
  · refine ⟨-4, σ, τ, ?_, ?_, hR⟩
    · unfold M_X6_ration; rw [houses_c hc, Option.bind_some, q, if_pos n00]
    · unfold M_X7_ration; rw [hm.1, q, if_pos n00]
  · refine ⟨nI (rat V 100), setI σ 8 (nI (shr V (rat V 100) (V 0 0))), setI τ 12 (nI (shr V (rat V 100) (V 0 0))), ?_, ?_, hR.ask hC _⟩
    · unfold M_X6_ration; rw [houses_c hc, Option.bind_some, if_neg (nI_ne0 (by omega) (by omega))]
      exact ration_16 ok hc 99 10000 (by decide) (by decide)
    · unfold M_X7_ration; rw [hm.1, if_neg (nI_ne0 (by omega) (by omega))]
      exact ration_14 ok hm 100 10000 0 (by decide) (by decide)
/-- what a set draws -/
def dsm (V : VT) (s : Nat) : Nat → Nat
  | 0 => 0
  | m + 1 => dsm V s m + (if s.testBit m then wy V m else 0)
def drw (V : VT) (s : Nat) : Nat := if V 0 3 < dsm V s (V 0 0) then V 0 3 else dsm V s (V 0 0)
theorem dsm_le {V : VT} (ok : okV V) (s : Nat) : ∀ m, m ≤ V 0 0 → dsm V s m ≤ 9 * m
  | 0, _ => Nat.le_refl 0
  | m + 1, h => by
    rw [dsm]
    have h1 := dsm_le ok s m (by omega)
    have h2 := wy_le ok (i := m) (by omega)
    split <;> omega
theorem drw_le {V : VT} (ok : okV V) (s : Nat) : drw V s ≤ 99 := by
  unfold drw
  have h1 := dsm_le ok s (V 0 0) (Nat.le_refl _)
  have := ok.1
  have := ok.2.2.2.1
  split <;> omega
section DR2
variable {V : VT} {σ τ : ST}
theorem drawn_4 (ok : okV V) (h : VC V σ) {s : Nat} (hs : s < 128) : ∀ (m fu i : Nat), i + m = V 0 0 → m < fu → M_X5_drawnBy_4 σ fu (nI s) (nI (dsm V s i)) (nI i) = some (nI (drw V s))
  | 0, fu + 1, i, hi, _ => by
    have o1 := ok.1
    have o3 := ok.2.2.2.1
    have hl := dsm_le ok s (V 0 0) (Nat.le_refl _)
    rw [M_X5_drawnBy_4, h.1, if_pos (nI_le (by omega) (by omega)), show i = V 0 0 by omega, h.2.2.2.1]
    unfold drw
    by_cases q : V 0 3 < dsm V s (V 0 0)
    · rw [if_pos q, if_pos (nI_lt q (by omega))]
    · rw [if_neg q, if_neg (nI_nlt (by omega) (by omega))]
  | m + 1, fu + 1, i, hi, hf => by
    have o1 := ok.1
    have hlt : i < V 0 0 := by omega
    have ih := drawn_4 ok h hs m fu (i + 1) (by omega) (by omega)
    rw [M_X5_drawnBy_4, h.1, if_neg (nI_ge hlt (by omega)), isIn_c (by omega) (by omega), Option.bind_some, nI_1 i]
    rw [dsm] at ih
    cases hb : s.testBit i with
    | false => rw [hb] at ih; rw [if_pos bf0]; exact ih
    | true => rw [hb] at ih; rw [if_neg (by decide), wy_c ok h hlt, Option.bind_some, nI_add]; exact ih
theorem drawn_c (ok : okV V) (h : VC V σ) {s : Nat} (hs : s < 128) : M_X5_drawnBy σ (nI s) = some (nI (drw V s)) := drawn_4 ok h hs (V 0 0) 10000 0 (by omega) (by have := ok.1; omega)
theorem drawn_4m (ok : okV V) (h : VM V τ) {s : Nat} (hs : s < 128) : ∀ (m fu i : Nat), i + m = V 0 0 → m < fu → M_X7_drawnOf_4 τ fu (nI s) (nI (dsm V s i)) (nI i) = some (nI (drw V s))
  | 0, fu + 1, i, hi, _ => by
    have o1 := ok.1
    have o3 := ok.2.2.2.1
    have hl := dsm_le ok s (V 0 0) (Nat.le_refl _)
    rw [M_X7_drawnOf_4, h.1, if_pos (nI_le (by omega) (by omega)), show i = V 0 0 by omega, show (2 : Int32) = nI 2 from rfl, rd_n _ (by decide) (by decide), Option.bind_some, h.2.2.2.1, Option.bind_some]
    unfold drw
    by_cases q : V 0 3 < dsm V s (V 0 0)
    · rw [if_pos q, if_pos (nI_le (by omega) (by omega))]
    · rw [if_neg q]
      by_cases q2 : V 0 3 = dsm V s (V 0 0)
      · rw [if_pos (nI_le (by omega) (by omega)), q2]
      · rw [if_neg (nI_ge (by omega) (by omega))]
  | m + 1, fu + 1, i, hi, hf => by
    have o1 := ok.1
    have hlt : i < V 0 0 := by omega
    have ih := drawn_4m ok h hs m fu (i + 1) (by omega) (by omega)
    rw [M_X7_drawnOf_4, h.1, if_neg (nI_ge hlt (by omega)), has_m (by omega) (by omega), Option.bind_some, nI_1 i]
    rw [dsm] at ih
    cases hb : s.testBit i with
    | false => rw [hb] at ih; rw [if_pos bf0, show nI (dsm V s i) + 0 = nI (dsm V s i + 0) from nI_add _ 0]; exact ih
    | true => rw [hb] at ih; rw [if_neg (by decide), wy_m ok h hlt, Option.bind_some, nI_add]; exact ih
theorem drawn_m (ok : okV V) (h : VM V τ) {s : Nat} (hs : s < 128) : M_X7_drawnOf τ (nI s) = some (nI (drw V s)) := drawn_4m ok h hs (V 0 0) 10000 0 (by omega) (by have := ok.1; omega)
end DR2
/-- frogs -/
def frP (V : VT) (n s : Nat) : Bool := opn V s && decide (drw V s = n)
def frF (V : VT) (n k : Nat) (f : Nat → Int32) : Nat → Int32 := fun s => if s < k then b01 (frP V n s) else f s
theorem keep_2 {V : VT} (ok : okV V) {n : Nat} (hn : n ≤ 99) : ∀ (m fu i : Nat) (σ : ST) (f : Nat → Int32), VC V σ → σ.1 38 = nI (2 ^ V 0 0) → σ.2.2 33 = frF V n i f → (∀ s, i ≤ s → s < 2 ^ V 0 0 → f s = b01 (opn V s)) → i + m = 2 ^ V 0 0 → m < fu → M_X4_keepThoseWhoDraw_2 fu σ (nI n) (nI i) = some (setA σ 33 (frF V n (2 ^ V 0 0) f))
  | 0, fu + 1, i, σ, f, h, h38, h33, hf, hi, _ => by
    have := p2h ok
    rw [M_X4_keepThoseWhoDraw_2, h38, if_pos (nI_le (by omega) (by omega)), show 2 ^ V 0 0 = i by omega, ← h33, setA_self]
  | m + 1, fu + 1, i, σ, f, h, h38, h33, hf, hi, hm => by
    have h2 := p2h ok
    have hlt : i < 2 ^ V 0 0 := by omega
    have hd := drw_le ok i
    have e : upd (σ.2.2 33) i (b01 (frP V n i)) = frF V n (i + 1) f := by
      rw [h33]
      funext q
      unfold upd frF
      by_cases c : q = i
      · subst c; rw [if_pos rfl, if_pos (by omega)]
      · rw [if_neg c]
        by_cases c2 : q < i
        · rw [if_pos c2, if_pos (by omega)]
        · rw [if_neg c2, if_neg (by omega)]
    have ev : σ.2.2 33 i = b01 (opn V i) := by rw [h33]; unfold frF; rw [if_neg (by omega)]; exact hf i (by omega) hlt
    have ih := keep_2 ok hn m fu (i + 1) (setA σ 33 (frF V n (i + 1) f)) f (h.cg (same.rf.sA (by decide))) h38 (sA_at _ _ _) (fun s h1 h2 => hf s (by omega) h2) (by omega) (by omega)
    rw [setA_setA] at ih
    have st : ∀ b : Bool, frP V n i = b → M_X4_keepThoseWhoDraw_41 (M_X4_keepThoseWhoDraw_2 fu) σ (nI n) (nI i) (nI i) (b01 b) = some (setA σ 33 (frF V n (2 ^ V 0 0) f)) := by
      intro b hb
      unfold M_X4_keepThoseWhoDraw_41
      rw [okZ_b, Option.bind_some, wrA_n _ _ _ (by omega) (by decide), Option.bind_some, ← hb, e, nI_1]
      exact ih
    rw [M_X4_keepThoseWhoDraw_2, h38, if_neg (nI_ge hlt (by omega)), rd_n _ (by omega) (by decide), Option.bind_some, ev]
    unfold M_X4_keepThoseWhoDraw_40
    cases hp : opn V i with
    | false => rw [if_pos bf0]; exact st false (by unfold frP; rw [hp]; rfl)
    | true =>
      rw [if_neg (by decide), drawn_c ok h (by omega), Option.bind_some]
      by_cases q : drw V i = n
      · rw [if_pos (by rw [q])]; exact st true (by unfold frP; rw [hp, decide_eq_true q]; rfl)
      · rw [if_neg (fun z => q ((nI_eq (by omega) (by omega)).mp z))]; exact st false (by unfold frP; rw [hp, decide_eq_false q]; rfl)
def fgS (V : VT) (n : Nat) (σ : ST) : ST := setA (lkS V σ) 33 (frF V n (2 ^ V 0 0) ((lkS V σ).2.2 33))
theorem keepW_c {V : VT} {σ : ST} (ok : okV V) (h : VC V σ) {n : Nat} (hn : n ≤ 99) : M_X4_keepThoseWhoDraw (lkS V σ) (nI n) = some (fgS V n σ) := by
  have h2 := p2h ok
  exact keep_2 ok hn (2 ^ V 0 0) 10000 0 (lkS V σ) ((lkS V σ).2.2 33) (lk_ok h).1 (lk_ok h).2.1 (funext fun q => (if_neg (by omega)).symm) (fun s _ hs => (lk_ok h).2.2 s hs) (by omega) (by omega)
theorem fg_p {V : VT} {σ : ST} (ok : okV V) (h : VC V σ) (n : Nat) : LKp (frP V n) (2 ^ V 0 0) (fgS V n σ) := ⟨p2h ok, (lk_ok h).2.1, fun s hs => by show (setA _ 33 _).2.2 33 s = _; rw [sA_at]; exact if_pos hs⟩
theorem fg_same {F : FP} {V : VT} {n : Nat} {σ : ST} (h1 : 38 ∉ F.1) (h2 : 33 ∉ F.2.2) : same F σ (fgS V n σ) := (lk_same h1 h2).sA h2
theorem RelG.fg {Wl : ST → ST → Prop} (hC : Cg Wl) {V : VT} {n : Nat} {σ τ : ST} (h : RelG Wl σ τ) : RelG Wl (fgS V n σ) τ := ⟨h.1.cg (fg_same (by decide) (by decide)) same.rf, h.2.1.cg (fg_same (by decide) (by decide)) same.rf, h.2.2.1.cg (fg_same (by decide) (by decide)) same.rf, h.2.2.2.1.cg (fg_same (by decide) (by decide)) same.rf, h.2.2.2.2.1.cg (fg_same (by decide) (by decide)) same.rf, hC _ _ _ _ h.2.2.2.2.2 (fg_same (by decide) (by decide)) same.rf⟩
theorem frogs_24 {V : VT} {τ : ST} (ok : okV V) (h : VM V τ) {n : Nat} (hn : n ≤ 99) (a : Nat) (ha : a < 128) : ∀ (m fu i : Nat), i + m = 2 ^ V 0 0 → m < fu → M_X7_frogs_24 fu τ (nI n) (nI (cnt (frP V n) i)) (nI (andS (frP V n) a i)) (nI i) = some (1, setL (setL (setI τ 12 (if cnt (frP V n) (2 ^ V 0 0) = 0 then 0 else nI (andS (frP V n) a (2 ^ V 0 0)))) 13 (nI (cnt (frP V n) (2 ^ V 0 0))).toInt64) 14 1)
  | 0, fu + 1, i, hi, _ => by
    have h2 := p2h ok
    have hcl := cnt_le (frP V n) (2 ^ V 0 0)
    rw [M_X7_frogs_24, all_m ok h, Option.bind_some, show i = 2 ^ V 0 0 by omega, if_pos (all_ge ok)]
    by_cases q : cnt (frP V n) (2 ^ V 0 0) = 0
    · rw [if_pos q, q, if_pos n00]; rfl
    · rw [if_neg q, if_neg (nI_ne0 (by omega) (by omega))]; rfl
  | m + 1, fu + 1, i, hi, hf => by
    have h2 := p2h ok
    have hlt : i < 2 ^ V 0 0 := by omega
    have hd := drw_le ok i
    have ih := frogs_24 ok h hn a ha m fu (i + 1) (by omega) (by omega)
    rw [cnt, andS] at ih
    have st : ∀ b : Bool, frP V n i = b → M_X7_frogs_57 (M_X7_frogs_24 fu) τ (nI n) (nI (cnt (frP V n) i)) (nI (andS (frP V n) a i)) (nI i) (b01 b) = some (1, setL (setL (setI τ 12 (if cnt (frP V n) (2 ^ V 0 0) = 0 then 0 else nI (andS (frP V n) a (2 ^ V 0 0)))) 13 (nI (cnt (frP V n) (2 ^ V 0 0))).toInt64) 14 1) := by
      intro b hb
      rw [hb] at ih
      unfold M_X7_frogs_57 M_X7_frogs_70
      cases b with
      | false => rw [if_pos bf0, if_pos bf0, nI_1 i, nx_and, Nat.and_self, show nI (cnt (frP V n) i) + 0 = nI (cnt (frP V n) i + 0) from nI_add _ 0]; exact ih
      | true => rw [if_neg (by decide), if_neg (by decide), nI_1 i, nI_1, nx_and]; exact ih
    rw [M_X7_frogs_24, all_m ok h, Option.bind_some, if_neg (all_lt ok h hlt), open_m ok h (by omega), Option.bind_some]
    unfold M_X7_frogs_56
    cases hp : opn V i with
    | false => rw [if_pos bf0]; exact st false (by unfold frP; rw [hp]; rfl)
    | true =>
      rw [if_neg (by decide), drawn_m ok h (by omega), Option.bind_some]
      by_cases q : drw V i = n
      · rw [if_pos (by rw [q])]; exact st true (by unfold frP; rw [hp, decide_eq_true q]; rfl)
      · rw [if_neg (fun z => q ((nI_eq (by omega) (by omega)).mp z))]; exact st false (by unfold frP; rw [hp, decide_eq_false q]; rfl)
theorem pure_frogs {Wl : ST → ST → Prop} (hC : Cg Wl) (hV : Vws Wl) : P_frogs (RelG Wl) := by
  intro σ τ a hR
  obtain ⟨V, ok, hc, hm⟩ := hV σ τ hR.2.2.2.2.2
  have h2 := p2h ok
  have h3 := p2p ok
  have e99 : M_X7_frogs τ a = (some (if a < 0 then (0 : Int32) else if 99 < a then 0 else 1)).bind fun o6 => if o6 = 0 then some ((-1), τ) else (M_X7_all τ).bind fun o17 => M_X7_frogs_24 10000 τ a 0 o17 0 := by
    unfold M_X7_frogs
    rw [show (0 : Int64) = (0 : Int32).toInt64 from rfl, show (99 : Int64) = (99 : Int32).toInt64 from rfl, in7i]
  by_cases q : a < 0
  · exact ⟨-1, σ, τ, by unfold M_X6_frogs; rw [if_pos q], by rw [e99, if_pos q]; rfl, hR⟩
  by_cases q9 : 99 < a
  · exact ⟨-1, σ, τ, by unfold M_X6_frogs; rw [if_neg q, if_neg (fun z => absurd q9 (Int32.not_lt.mpr z))], by rw [e99, if_neg q, if_pos q9]; rfl, hR⟩
  have q10 : a ≤ 99 := Int32.not_lt.mp q9
  obtain ⟨n, hn, rfl⟩ := nI_of2 (M := 99) (n := 99) (by decide) q q10
  have hcl := cnt_le (frP V n) (2 ^ V 0 0)
  have hr := frogs_24 ok hm hn (2 ^ V 0 0 - 1) (by omega) (2 ^ V 0 0) 10000 0 (by omega) (by omega)
  refine ⟨1, setI (setL (setL (fgS V n σ) 9 (nI (cnt (frP V n) (2 ^ V 0 0))).toInt64) 10 1) 8 (if cnt (frP V n) (2 ^ V 0 0) = 0 then 0 else nI (andS (frP V n) (2 ^ V 0 0 - 1) (2 ^ V 0 0))), _, ?_, ?_, ((hR.fg hC).told hC _ _).ask hC _⟩
  · unfold M_X6_frogs M_X6_frogs_58
    rw [if_neg q, if_pos q10, look_c ok hc, Option.bind_some, keepW_c ok hc hn, Option.bind_some, howMany_c (fg_p ok hc n), Option.bind_some, tell1, Option.bind_some]
    by_cases z : cnt (frP V n) (2 ^ V 0 0) = 0
    · rw [z, if_pos n00, if_pos rfl]; rfl
    · rw [if_neg (nI_ne0 (by omega) (by omega)), if_neg z, inAll_c ((fg_p ok hc n).cg ((same.rf.sL (by decide)).sL (by decide))) (by omega)]; rfl
  · rw [e99, if_neg q, if_neg q9, Option.bind_some, if_neg (by decide), all_m ok hm, Option.bind_some]
    exact hr
