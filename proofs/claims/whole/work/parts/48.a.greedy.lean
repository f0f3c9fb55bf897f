/- those who want least go first -/
def gg : List Nat → Nat → Nat
  | [], _ => 0
  | u :: l, b => if u ≤ b then 1 + gg l (b - u) else gg l b
def asc : List Nat → Prop
  | [] => True
  | x :: l => (∀ y ∈ l, x ≤ y) ∧ asc l
theorem gg_0 : ∀ (l : List Nat) (b : Nat), (∀ y ∈ l, b < y) → gg l b = 0
  | [], _, _ => rfl
  | u :: l, b, h => by
    have := h u (List.mem_cons_self ..)
    rw [gg, if_neg (by omega)]
    exact gg_0 l b (fun y hy => h y (List.mem_cons_of_mem _ hy))
theorem gg_er : ∀ (l : List Nat) (b u : Nat), asc l → u ∈ l → u ≤ b → 1 + gg (l.erase u) (b - u) ≤ gg l b
  | [], _, _, _, h, _ => by cases h
  | x :: l, b, u, ha, hu, hb => by
    by_cases e : x = u
    · subst e
      rw [List.erase_cons_head, gg, if_pos hb]; exact Nat.le_refl _
    · have hul : u ∈ l := (List.mem_cons.mp hu).resolve_left (fun z => e z.symm)
      have hxu := ha.1 u hul
      have h2 : gg (x :: l) b = 1 + gg l (b - x) := by rw [gg, if_pos (by omega)]
      rw [List.erase_cons_tail (by simpa using e), h2, gg]
      by_cases q : x ≤ b - u
      · have ih := gg_er l (b - x) u ha.2 hul (by omega)
        rw [if_pos q, show b - u - x = b - x - u by omega]; omega
      · rw [if_neg q, gg_0 (l.erase u) (b - u) (fun y hy => by have := ha.1 y (List.mem_of_mem_erase hy); omega)]; omega
def lw (c : Nat → Nat) : Nat → Nat → List Nat
  | 0, _ => []
  | m + 1, v => List.replicate (c v) v ++ lw c m (v + 1)
section LW2
variable {c : Nat → Nat}
theorem lw_in : ∀ (m v y : Nat), y ∈ lw c m v → v ≤ y ∧ y < v + m ∧ 0 < c y
  | 0, _, _, h => by cases h
  | m + 1, v, y, h => by
    rw [lw] at h
    rcases List.mem_append.mp h with h | h
    · obtain ⟨h1, rfl⟩ := List.mem_replicate.mp h
      exact ⟨Nat.le_refl _, by omega, by omega⟩
    · have := lw_in m (v + 1) y h
      exact ⟨by omega, by omega, this.2.2⟩
theorem asc_rep : ∀ (k v : Nat) (l : List Nat), (∀ y ∈ l, v ≤ y) → asc l → asc (List.replicate k v ++ l)
  | 0, _, _, _, h => h
  | k + 1, v, l, h1, h2 => by
    rw [List.replicate_succ, List.cons_append]
    refine ⟨fun y hy => ?_, asc_rep k v l h1 h2⟩
    rcases List.mem_append.mp hy with h | h
    · rw [(List.mem_replicate.mp h).2]; exact Nat.le_refl _
    · exact h1 y h
theorem lw_asc : ∀ (m v : Nat), asc (lw c m v)
  | 0, _ => trivial
  | m + 1, v => by
    rw [lw]
    exact asc_rep _ _ _ (fun y hy => by have := lw_in m (v + 1) y hy; omega) (lw_asc m (v + 1))
theorem lw_cg {c' : Nat → Nat} : ∀ (m v : Nat), (∀ u, v ≤ u → u < v + m → c u = c' u) → lw c m v = lw c' m v
  | 0, _, _ => rfl
  | m + 1, v, h => by rw [lw, lw, h v (Nat.le_refl _) (by omega), lw_cg m (v + 1) (fun u h1 h2 => h u (by omega) (by omega))]
theorem lw_mem : ∀ (m v u : Nat), v ≤ u → u < v + m → 0 < c u → u ∈ lw c m v
  | 0, _, _, h1, h2, _ => by omega
  | m + 1, v, u, h1, h2, h3 => by
    rw [lw]
    by_cases e : u = v
    · subst e; exact List.mem_append.mpr (Or.inl (List.mem_replicate.mpr ⟨by omega, rfl⟩))
    · exact List.mem_append.mpr (Or.inr (lw_mem m (v + 1) u (by omega) (by omega) h3))
theorem lw_er {u : Nat} (h0 : 0 < c u) : ∀ (m v : Nat), v ≤ u → u < v + m → (lw c m v).erase u = lw (fun t => if t = u then c u - 1 else c t) m v
  | 0, _, h1, h2 => by omega
  | m + 1, v, h1, h2 => by
    rw [lw, lw]
    by_cases e : v = u
    · subst e
      obtain ⟨k, hk⟩ : ∃ k, c v = k + 1 := ⟨c v - 1, by omega⟩
      rw [if_pos rfl, hk, List.replicate_succ, List.cons_append, List.erase_cons_head, Nat.add_sub_cancel, lw_cg (c' := fun t => if t = v then c v - 1 else c t) m (v + 1) (fun t t1 t2 => by rw [if_neg (by omega)])]
      rw [hk, Nat.add_sub_cancel]
    · rw [if_neg e, List.erase_append_right _ (fun z => e (List.mem_replicate.mp z).2.symm), lw_er h0 m (v + 1) (by omega) (by omega)]
end LW2
def ctL (w : Nat → Nat) : List Nat → Nat → Nat
  | [], _ => 0
  | i :: S, v => ctL w S v + (if w i = v then 1 else 0)
section GR
variable {w : Nat → Nat}
theorem ctL_app (v : Nat) : ∀ A B : List Nat, ctL w (A ++ B) v = ctL w A v + ctL w B v
  | [], B => by rw [List.nil_append, ctL, Nat.zero_add]
  | i :: A, B => by rw [List.cons_append, ctL, ctL, ctL_app v A B]; omega
theorem ctL_pos {u : Nat} : ∀ S : List Nat, 0 < ctL w S u → ∃ A x B, S = A ++ x :: B ∧ w x = u
  | [], h => by rw [ctL] at h; omega
  | i :: S, h => by
    by_cases e : w i = u
    · exact ⟨[], i, S, rfl, e⟩
    · rw [ctL, if_neg e] at h
      obtain ⟨A, x, B, h1, h2⟩ := ctL_pos S h
      exact ⟨i :: A, x, B, by rw [h1]; rfl, h2⟩
end GR
def gr (w : Nat → Nat) (S : List Nat) (b : Nat) : Nat := gg (lw (ctL w S) 9 1) b
def sv (w : Nat → Nat) (b i : Nat) : Nat := if 0 < w i ∧ w i ≤ b then 1 else 0
section GR2
variable {w : Nat → Nat}
theorem gr_rm {A B : List Nat} {x : Nat} (hx : w x ≤ 9) : (w x = 0 ∧ lw (ctL w (A ++ B)) 9 1 = lw (ctL w (A ++ x :: B)) 9 1) ∨ (0 < w x ∧ lw (ctL w (A ++ B)) 9 1 = (lw (ctL w (A ++ x :: B)) 9 1).erase (w x) ∧ w x ∈ lw (ctL w (A ++ x :: B)) 9 1) := by
  have e : ∀ v, ctL w (A ++ x :: B) v = ctL w (A ++ B) v + (if w x = v then 1 else 0) := fun v => by rw [ctL_app, ctL_app, ctL]; omega
  by_cases q : w x = 0
  · refine Or.inl ⟨q, lw_cg 9 1 (fun u h1 h2 => ?_)⟩
    rw [e u, if_neg (by omega)]; rfl
  · have hp : 0 < ctL w (A ++ x :: B) (w x) := by rw [e, if_pos rfl]; omega
    refine Or.inr ⟨by omega, ?_, lw_mem 9 1 (w x) (by omega) (by omega) hp⟩
    rw [lw_er hp 9 1 (by omega) (by omega)]
    refine lw_cg 9 1 (fun u h1 h2 => ?_)
    by_cases z : u = w x
    · rw [if_pos z, z, e, if_pos rfl]; omega
    · rw [if_neg z, e, if_neg (fun y => z y.symm)]; rfl
theorem gr_z (S : List Nat) : gr w S 0 = 0 := gg_0 _ _ (fun y hy => by have := lw_in 9 1 y hy; omega)
theorem gr_le {A B : List Nat} {x : Nat} (b : Nat) (hx : w x ≤ 9) : sv w b x + gr w (A ++ B) (b - w x) ≤ gr w (A ++ x :: B) b := by
  rcases gr_rm (A := A) (B := B) hx with ⟨h1, h2⟩ | ⟨h1, h2, h3⟩
  · unfold sv gr
    rw [if_neg (by omega), h2, h1, Nat.sub_zero, Nat.zero_add]; exact Nat.le_refl _
  · by_cases q : w x ≤ b
    · unfold sv gr
      rw [if_pos ⟨h1, q⟩, h2]
      exact gg_er _ b (w x) (lw_asc 9 1) h3 q
    · rw [show b - w x = 0 by omega, gr_z]
      unfold sv
      rw [if_neg (by omega)]; exact Nat.zero_le _
theorem gr_ex {S : List Nat} (b : Nat) (hS : S ≠ []) (hw : ∀ i ∈ S, w i ≤ 9) : ∃ A x B, S = A ++ x :: B ∧ sv w b x + gr w (A ++ B) (b - w x) = gr w S b := by
  cases hL : lw (ctL w S) 9 1 with
  | nil =>
    cases S with
    | nil => exact absurd rfl hS
    | cons x B =>
      refine ⟨[], x, B, rfl, ?_⟩
      rcases gr_rm (A := []) (B := B) (hw x (List.mem_cons_self ..)) with ⟨h1, h2⟩ | ⟨h1, h2, h3⟩
      · have h2 : lw (ctL w ([] ++ B)) 9 1 = lw (ctL w (x :: B)) 9 1 := h2
        unfold sv gr
        rw [if_neg (by omega), h2, h1, Nat.sub_zero, Nat.zero_add]
      · have h3 : w x ∈ lw (ctL w (x :: B)) 9 1 := h3
        rw [hL] at h3; cases h3
  | cons u l =>
    have hu := lw_in 9 1 u (by rw [hL]; exact List.mem_cons_self ..)
    have ha := lw_asc (c := ctL w S) 9 1
    rw [hL] at ha
    obtain ⟨A, x, B, rfl, hx⟩ := ctL_pos S hu.2.2
    refine ⟨A, x, B, rfl, ?_⟩
    rcases gr_rm (w := w) (A := A) (B := B) (x := x) (by omega) with ⟨h1, h2⟩ | ⟨h1, h2, h3⟩
    · omega
    · rw [hL, hx, List.erase_cons_head] at h2
      unfold gr
      rw [h2, hL, hx, gg]
      unfold sv
      by_cases q : u ≤ b
      · rw [if_pos q, if_pos (by omega)]
      · rw [if_neg q, if_neg (by omega), show b - u = 0 by omega, gg_0 l 0 (fun y hy => by have := ha.1 y hy; omega), gg_0 l b (fun y hy => by have := ha.1 y hy; omega)]
/- the first of the best orders -/
def fb (w : Nat → Nat) (g b : Nat) : List Nat → List Nat → Option (Nat × List Nat)
  | _, [] => none
  | A, y :: B => if sv w b y + gr w (A ++ B) (b - w y) = g then some (y, A ++ B) else fb w g b (A ++ [y]) B
def lf (w : Nat → Nat) : Nat → List Nat → Nat → List Nat
  | 0, _, _ => []
  | k + 1, S, b => ((fb w (gr w S b) b [] S).map fun z => z.1 :: lf w k z.2 (b - w z.1)).getD []
theorem fb_some {g b : Nat} : ∀ (suf A : List Nat), (∃ A1 x B1, suf = A1 ++ x :: B1 ∧ sv w b x + gr w (A ++ A1 ++ B1) (b - w x) = g) → ∃ z, fb w g b A suf = some z
  | [], A, ⟨A1, x, B1, h, _⟩ => by cases A1 <;> cases h
  | y :: B, A, ⟨A1, x, B1, h, h2⟩ => by
    rw [fb]
    by_cases q : sv w b y + gr w (A ++ B) (b - w y) = g
    · exact ⟨_, if_pos q⟩
    · rw [if_neg q]
      cases A1 with
      | nil =>
        cases h
        rw [List.append_nil] at h2
        exact absurd h2 q
      | cons t A1 =>
        cases h
        refine fb_some _ _ ⟨A1, x, B1, rfl, ?_⟩
        rw [← h2, List.append_assoc A [y] A1]; rfl
theorem fb_all {S : List Nat} (b : Nat) (hS : S ≠ []) (hw : ∀ i ∈ S, w i ≤ 9) : ∃ z, fb w (gr w S b) b [] S = some z := by
  obtain ⟨A, x, B, h1, h2⟩ := gr_ex b hS hw
  exact fb_some S [] ⟨A, x, B, h1, h2⟩
theorem fb_prop {g b : Nat} : ∀ (suf A : List Nat) (z : Nat × List Nat), fb w g b A suf = some z → ∃ A1 B1, suf = A1 ++ z.1 :: B1 ∧ z.2 = A ++ A1 ++ B1
  | [], A, z, h => by cases h
  | y :: B, A, z, h => by
    rw [fb] at h
    by_cases q : sv w b y + gr w (A ++ B) (b - w y) = g
    · rw [if_pos q] at h
      cases h
      exact ⟨[], B, rfl, by rw [List.append_nil]⟩
    · rw [if_neg q] at h
      obtain ⟨A1, B1, h1, h2⟩ := fb_prop B (A ++ [y]) z h
      refine ⟨y :: A1, B1, by rw [h1]; rfl, ?_⟩
      rw [h2, List.append_assoc A [y] A1]; rfl
theorem lf_s {k b : Nat} {S : List Nat} {z : Nat × List Nat} (h : fb w (gr w S b) b [] S = some z) : lf w (k + 1) S b = z.1 :: lf w k z.2 (b - w z.1) := by
  rw [lf, h]; rfl
/- what all orders of the rest find -/
def fow (w : Nat → Nat) (p : List Nat) (c b k : Nat) : List Nat → List Nat → Nat × Option (List Nat) → Nat × Option (List Nat)
  | _, [], r => r
  | A, y :: B, r => fow w p c b k (A ++ [y]) B (if r.1 ≤ c + (sv w b y + gr w (A ++ B) (b - w y)) then (c + (sv w b y + gr w (A ++ B) (b - w y)) + 1, some (p ++ y :: lf w k (A ++ B) (b - w y))) else r)
theorem app1 (A : List Nat) (y : Nat) (B : List Nat) : (A ++ [y]) ++ B = A ++ y :: B := by rw [List.append_assoc]; rfl
theorem fow_done {p : List Nat} {c b k g : Nat} : ∀ (suf A : List Nat) (r : Nat × Option (List Nat)), (∀ A1 y B1, A ++ suf = A1 ++ y :: B1 → sv w b y + gr w (A1 ++ B1) (b - w y) ≤ g) → c + g < r.1 → fow w p c b k A suf r = r
  | [], _, _, _, _ => rfl
  | y :: B, A, r, H, hr => by
    have h1 := H A y B rfl
    rw [fow, if_neg (by omega)]
    exact fow_done B (A ++ [y]) r (fun A1 t B1 h => H A1 t B1 (by rw [← h, app1])) hr
theorem fow_go {p : List Nat} {c b k g : Nat} : ∀ (suf A : List Nat) (r : Nat × Option (List Nat)) (z : Nat × List Nat), (∀ A1 y B1, A ++ suf = A1 ++ y :: B1 → sv w b y + gr w (A1 ++ B1) (b - w y) ≤ g) → r.1 ≤ c + g → fb w g b A suf = some z → fow w p c b k A suf r = (c + g + 1, some (p ++ z.1 :: lf w k z.2 (b - w z.1)))
  | [], _, _, _, _, _, h => by cases h
  | y :: B, A, r, z, H, hr, h => by
    have h1 := H A y B rfl
    have H' : ∀ A1 t B1, (A ++ [y]) ++ B = A1 ++ t :: B1 → sv w b t + gr w (A1 ++ B1) (b - w t) ≤ g := fun A1 t B1 h => H A1 t B1 (by rw [← h, app1])
    rw [fb] at h
    rw [fow]
    by_cases q : sv w b y + gr w (A ++ B) (b - w y) = g
    · rw [if_pos q] at h
      cases h
      rw [q, if_pos hr]
      exact fow_done B (A ++ [y]) _ H' (Nat.lt_succ_self _)
    · rw [if_neg q] at h
      refine fow_go B (A ++ [y]) _ z H' ?_ h
      split
      · show c + (sv w b y + gr w (A ++ B) (b - w y)) + 1 ≤ c + g
        omega
      · exact hr
theorem fow_all {p S : List Nat} {c b k : Nat} (hS : S ≠ []) (hw : ∀ i ∈ S, w i ≤ 9) (r : Nat × Option (List Nat)) : fow w p c b k [] S r = if r.1 ≤ c + gr w S b then (c + gr w S b + 1, some (p ++ lf w (k + 1) S b)) else r := by
  have H : ∀ A1 y B1, [] ++ S = A1 ++ y :: B1 → sv w b y + gr w (A1 ++ B1) (b - w y) ≤ gr w S b := by
    intro A1 y B1 h
    have h : S = A1 ++ y :: B1 := h
    rw [h]
    exact gr_le b (hw y (by rw [h]; exact List.mem_append.mpr (Or.inr (List.mem_cons_self ..))))
  by_cases q : r.1 ≤ c + gr w S b
  · obtain ⟨z, hz⟩ := fb_all b hS hw
    rw [if_pos q, fow_go S [] r z H q hz, lf_s hz]
  · rw [if_neg q]
    exact fow_done S [] r H (by omega)
end GR2
