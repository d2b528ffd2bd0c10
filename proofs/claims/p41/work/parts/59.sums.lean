/-! PURE: sums that must agree -/
theorem zp_s_pick {g : Nat → Nat} {N x : Nat} (hx : x < N) (hg : ∀ s, s < N → s ≠ x → g s = 0) : zp_s g 0 N = g x := by
  have h := zp_s_upd (f := fun _ => 0) (g := g) (j := x) N 0 (Nat.zero_le _) (by omega) (fun i hi _ h2 => hg i (by omega) hi)
  have z : zp_s (fun _ => 0) 0 N = 0 := zp_s_zero (f := fun _ => 0) N 0 (fun _ _ _ => rfl)
  have h' : zp_s g 0 N + 0 = zp_s (fun _ => 0) 0 N + g x := h
  omega
theorem zp_s_shift (f : Nat → Nat) (a : Nat) : ∀ (d k : Nat), zp_s f (a + k) d = zp_s (fun l => f (a + l)) k d := by
  intro d
  induction d with
  | zero => intro k; rfl
  | succ d ih => intro k; rw [zp_s, zp_s, Nat.add_assoc, ih (k + 1)]
theorem zp_s_8 (f : Nat → Nat) : ∀ (d k : Nat), zp_s f (8 * k) (8 * d) = zp_s (fun u => zp_s (fun l => f (8 * u + l)) 0 8) k d := by
  intro d
  induction d with
  | zero => intro k; rfl
  | succ d ih =>
    intro k
    rw [zp_s, show 8 * (d + 1) = 8 + 8 * d by omega, zp_s_app, show 8 * k + 8 = 8 * (k + 1) by omega, ih (k + 1), show zp_s f (8 * k) 8 = zp_s f (8 * k + 0) 8 from rfl, zp_s_shift]
/-- TRAINS of one kind -/
abbrev zy_n (h : Nat) (st : zz_T) : Nat → Nat := fun i => zp_b (zi_how i st = nI h)
theorem zy_how {T i : Nat} {st : zz_T} (h : zi_T T st) (hi : i < T) : (zy_n 0 st i = 1 ∧ zy_n 1 st i = 0 ∧ zy_n 2 st i = 0 ∧ ze_h st i = 1 ∧ zi_how i st = 0) ∨ (zy_n 0 st i = 0 ∧ zy_n 1 st i = 1 ∧ zy_n 2 st i = 0 ∧ ze_h st i = 1 ∧ zi_how i st = 1) ∨ (zy_n 0 st i = 0 ∧ zy_n 1 st i = 0 ∧ zy_n 2 st i = 1 ∧ ze_h st i = 1 ∧ zi_how i st = 2) ∨ (zy_n 0 st i = 0 ∧ zy_n 1 st i = 0 ∧ zy_n 2 st i = 0 ∧ ze_h st i = 0 ∧ zi_how i st = 3) := by
  obtain ⟨k, hk, ek⟩ := (h.1 i hi).1
  unfold zy_n ze_h
  rcases (show k = 0 ∨ k = 1 ∨ k = 2 ∨ k = 3 by omega) with rfl | rfl | rfl | rfl
  · exact Or.inl ⟨zp_b1 ek, zp_b0 (by rw [ek]; decide), zp_b0 (by rw [ek]; decide), zp_b1 (by rw [ek]; decide), ek⟩
  · exact Or.inr (Or.inl ⟨zp_b0 (by rw [ek]; decide), zp_b1 ek, zp_b0 (by rw [ek]; decide), zp_b1 (by rw [ek]; decide), ek⟩)
  · exact Or.inr (Or.inr (Or.inl ⟨zp_b0 (by rw [ek]; decide), zp_b0 (by rw [ek]; decide), zp_b1 ek, zp_b1 (by rw [ek]; decide), ek⟩))
  · exact Or.inr (Or.inr (Or.inr ⟨zp_b0 (by rw [ek]; decide), zp_b0 (by rw [ek]; decide), zp_b0 (by rw [ek]; decide), zp_b0 (fun q => q ek), ek⟩))
theorem zy_stations {T : Nat} {st : zz_T} (h : zi_T T st) : zp_s (fun s => zp_s (zr_at s st) 0 T) 0 6 = zp_s (zy_n 0 st) 0 T + zp_s (zy_n 2 st) 0 T := by
  rw [zp_s_swap (fun s => zr_at s st) T 6 0, ← zp_s_add]
  refine zp_s_congr T 0 (fun i _ hi => ?_)
  have hi' : i < T := by omega
  have none' : ¬ (zi_how i st = 0 ∨ zi_how i st = 2) → zp_s (fun s => zr_at s st i) 0 6 = 0 := fun q => zp_s_zero (f := fun s => zr_at s st i) 6 0 (fun s _ _ => zp_b0 (fun z => q z.1))
  have one : (zi_how i st = 0 ∨ zi_how i st = 2) → zp_s (fun s => zr_at s st i) 0 6 = 1 := fun q => by
    obtain ⟨x, hx, ex⟩ := (h.1 i hi').2.2.2.1 q
    rw [zp_s_pick (g := fun s => zr_at s st i) hx (fun s hs hne => zp_b0 (fun z => hne ((nI_eq (by omega) (by omega)).mp (z.2.symm.trans ex))))]
    exact zp_b1 ⟨q, ex⟩
  rcases zy_how h hi' with ⟨a, b, c, d, g⟩ | ⟨a, b, c, d, g⟩ | ⟨a, b, c, d, g⟩ | ⟨a, b, c, d, g⟩
  · rw [one (Or.inl g), a, c]
  · rw [none' (by rw [g]; decide), a, c]
  · rw [one (Or.inr g), a, c]
  · rw [none' (by rw [g]; decide), a, c]
theorem zy_unloading {T : Nat} {st : zz_T} (h : zi_T T st) : zp_s (fun s => zp_s (zi_fu s st) 0 T) 0 6 = zp_s (zy_n 2 st) 0 T := by
  rw [zp_s_swap (fun s => zi_fu s st) T 6 0]
  refine zp_s_congr T 0 (fun i _ hi => ?_)
  have hi' : i < T := by omega
  have none' : ¬ zi_how i st = 2 → zp_s (fun s => zi_fu s st i) 0 6 = 0 := fun q => zp_s_zero (f := fun s => zi_fu s st i) 6 0 (fun s _ _ => zp_b0 (fun z => q z.1))
  have one : zi_how i st = 2 → zp_s (fun s => zi_fu s st i) 0 6 = 1 := fun q => by
    obtain ⟨x, hx, ex⟩ := (h.1 i hi').2.2.2.1 (Or.inr q)
    rw [zp_s_pick (g := fun s => zi_fu s st i) hx (fun s hs hne => zp_b0 (fun z => hne ((nI_eq (by omega) (by omega)).mp (z.2.symm.trans ex))))]
    exact zp_b1 ⟨q, ex⟩
  rcases zy_how h hi' with ⟨a, b, c, d, g⟩ | ⟨a, b, c, d, g⟩ | ⟨a, b, c, d, g⟩ | ⟨a, b, c, d, g⟩
  · rw [none' (by rw [g]; decide), c]
  · rw [none' (by rw [g]; decide), c]
  · rw [one g, c]
  · rw [none' (by rw [g]; decide), c]
theorem zy_lines {T : Nat} {st : zz_T} (h : zi_T T st) : zp_s (fun l => zp_s (zr_on l st) 0 T) 0 8 = zp_s (zy_n 1 st) 0 T := by
  rw [zp_s_swap (fun l => zr_on l st) T 8 0]
  refine zp_s_congr T 0 (fun i _ hi => ?_)
  have hi' : i < T := by omega
  have none' : ¬ zi_how i st = 1 → zp_s (fun l => zr_on l st i) 0 8 = 0 := fun q => zp_s_zero (f := fun l => zr_on l st i) 8 0 (fun s _ _ => zp_b0 (fun z => q z.1))
  have one : zi_how i st = 1 → zp_s (fun l => zr_on l st i) 0 8 = 1 := fun q => by
    obtain ⟨⟨x, hx, ex⟩, -⟩ := (h.1 i hi').2.1 q
    rw [zp_s_pick (g := fun l => zr_on l st i) hx (fun s hs hne => zp_b0 (fun z => hne ((nI_eq (by omega) (by omega)).mp (z.2.symm.trans ex))))]
    exact zp_b1 ⟨q, ex⟩
  rcases zy_how h hi' with ⟨a, b, c, d, g⟩ | ⟨a, b, c, d, g⟩ | ⟨a, b, c, d, g⟩ | ⟨a, b, c, d, g⟩
  · rw [none' (by rw [g]; decide), b]
  · rw [one g, b]
  · rw [none' (by rw [g]; decide), b]
  · rw [none' (by rw [g]; decide), b]
theorem zy_all {T : Nat} {st : zz_T} (h : zi_T T st) : zp_s (zy_n 0 st) 0 T + zp_s (zy_n 2 st) 0 T + zp_s (zy_n 1 st) 0 T = zp_s (ze_h st) 0 T := by
  rw [← zp_s_add, ← zp_s_add]
  refine zp_s_congr T 0 (fun i _ hi => ?_)
  rcases zy_how h (show i < T by omega) with ⟨a, b, c, d, g⟩ | ⟨a, b, c, d, g⟩ | ⟨a, b, c, d, g⟩ | ⟨a, b, c, d, g⟩ <;> omega
/-! PATHS that are kept -/
abbrev zy_k (st : zz_T) : Nat → Nat := fun a => zp_b (zz_g 6 (nI a) 0 st ≠ -1)
abbrev zy_ku (u : Nat) (st : zz_T) : Nat → Nat := fun l => zy_k st (8 * u + l)
theorem zy_kept {e : Nat} {st : zz_T} (he : e ≤ 1000) (hS : zi_S st) (hK : zi_K e st) : zp_s (fun u => zp_s (zy_ku u st) 0 (zl_L st u)) 0 6 + zp_s (fun w => zp_b (¬ zz_g 18 (nI w) 0 st ≤ 0)) 0 6 = zp_s (zy_k st) 0 54 := by
  rw [show (54 : Nat) = 48 + 6 from rfl, zp_s_app (zy_k st) 48 6 0]
  have a1 : zp_s (zy_k st) 0 48 = zp_s (fun u => zp_s (zy_ku u st) 0 (zl_L st u)) 0 6 := by
    have h8 := zp_s_8 (zy_k st) 6 0
    rw [show zp_s (zy_k st) 0 48 = zp_s (zy_k st) (8 * 0) (8 * 6) from rfl, h8]
    refine zp_s_congr 6 0 (fun u _ hu => ?_)
    obtain ⟨e1, e8⟩ := zl_eq hS u (by omega)
    show zp_s (zy_ku u st) 0 8 = _
    rw [show (8 : Nat) = zl_L st u + (8 - zl_L st u) by omega, zp_s_app, zp_s_zero (f := zy_ku u st) (8 - zl_L st u) (0 + zl_L st u) (fun l h1 h2 => zp_b0 (p := zz_g 6 (nI (8 * u + l)) 0 st ≠ -1) (fun q => ?_)), Nat.add_zero]
    obtain ⟨L, eL, hL8, hl⟩ := hK.1 u l (by omega) (by omega) q
    rw [eL] at e1
    have : L = zl_L st u := (nI_eq (by omega) (by omega)).mp e1
    omega
  have a2 : zp_s (zy_k st) (0 + 48) 6 = zp_s (fun w => zp_b (¬ zz_g 18 (nI w) 0 st ≤ 0)) 0 6 := by
    rw [show (0 + 48 : Nat) = 48 + 0 from rfl, zp_s_shift]
    refine zp_s_congr 6 0 (fun w _ hw => ?_)
    obtain ⟨⟨s, hs, es⟩, hk⟩ := hK.2 w (by omega)
    show zp_b (zz_g 6 (nI (48 + w)) 0 st ≠ -1) = _
    rw [es] at hk ⊢
    by_cases q : zz_g 6 (nI (48 + w)) 0 st ≠ -1
    · have hs0 : s ≠ 0 := fun z => (hk.mp q) (by rw [z]; rfl)
      rw [zp_b1 q, zp_b1 (nI_nle (by omega) (by omega))]
    · have hs0 : s = 0 := Nat.eq_zero_of_not_pos (fun z => q (hk.mpr (nI_ne0 z (by omega))))
      rw [zp_b0 q, hs0, zp_b0 (fun z => z (by decide))]
  rw [a1, a2]
/-! LOADS that are there -/
theorem zy_thr {u : Nat} {st : zz_T} (hS : zi_S st) (hu : u < 6) : zp_s (zr_thr u 0 st) 0 (zl_L st u) + zp_s (zr_thr u 1 st) 0 (zl_L st u) + zp_s (zr_thr u 2 st) 0 (zl_L st u) = zp_s (zi_c2 u st) 0 (zl_L st u) := by
  obtain ⟨L, g, r, s1, s2, s3, s4, s5, s6, s7, s8, s9, s10⟩ := hS u hu
  obtain ⟨e1, e8⟩ := zl_eq hS u hu
  rw [← zp_s_add, ← zp_s_add]
  refine zp_s_congr _ 0 (fun l _ hl => ?_)
  unfold zi_c2
  by_cases q : zz_g 5 (nI (8 * u + l)) 0 st = 2
  · obtain ⟨p1, p2, p3⟩ := s10 l (by omega)
    have hlg : l < g := Nat.lt_of_not_le (fun z => by have := p2 z; rw [q] at this; exact absurd this (by decide))
    obtain ⟨x, hx, ex⟩ := p3 hlg
    rw [zp_b1 q]
    have t : ∀ s, s < 3 → zr_thr u s st l = zp_b (x = s) := fun s hs => by
      show zp_b _ = _
      by_cases w : x = s
      · rw [zp_b1 w, zp_b1 ⟨q, by rw [← w]; exact ex⟩]
      · rw [zp_b0 w, zp_b0 (fun z => w ((nI_eq (by omega) (by omega)).mp (ex.symm.trans z.2)))]
    rw [t 0 (by decide), t 1 (by decide), t 2 (by decide)]
    rcases (show x = 0 ∨ x = 1 ∨ x = 2 by omega) with rfl | rfl | rfl <;> rfl
  · rw [zp_b0 q]
    have t : ∀ s, zr_thr u s st l = 0 := fun s => zp_b0 (fun z => q z.1)
    rw [t 0, t 1, t 2]
theorem zy_there {st : zz_T} (hS : zi_S st) : zp_s (fun u => zp_s (zr_thr u 0 st) 0 (zl_L st u)) 0 6 + zp_s (fun u => zp_s (zr_thr u 1 st) 0 (zl_L st u)) 0 6 + zp_s (fun u => zp_s (zr_thr u 2 st) 0 (zl_L st u)) 0 6 = zp_s (fun u => zp_s (zi_c2 u st) 0 (zl_L st u)) 0 6 := by
  rw [← zp_s_add, ← zp_s_add]
  exact zp_s_congr 6 0 (fun u _ hu => zy_thr hS (by omega))
theorem zy_weight {st : zz_T} (hS : zi_S st) : zp_s (fun u => zp_s (zr_thr u 0 st) 0 (zl_L st u) * zr_wt u st) 0 6 + zp_s (fun u => zp_s (zr_thr u 1 st) 0 (zl_L st u) * zr_wt u st) 0 6 + zp_s (fun u => zp_s (zr_thr u 2 st) 0 (zl_L st u) * zr_wt u st) 0 6 = zp_s (fun u => zr_wt u st * zp_s (zi_c2 u st) 0 (zl_L st u)) 0 6 := by
  rw [← zp_s_add, ← zp_s_add]
  refine zp_s_congr 6 0 (fun u _ hu => ?_)
  rw [← zy_thr hS (by omega), ← Nat.add_mul, ← Nat.add_mul, Nat.mul_comm]
