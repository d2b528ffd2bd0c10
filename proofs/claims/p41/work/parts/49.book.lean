/-! PURE: one book into the other; plan, change, supply, could -/
theorem zk_to (st : zz_T) : zp_F [11, 12, 13, 14, 15] [] st (zX2_copyFrom 11 6 st) ∧ (∀ r c, zz_g 11 r c (zX2_copyFrom 11 6 st) = zz_g 6 r c st) ∧ (∀ r c, zz_g 12 r c (zX2_copyFrom 11 6 st) = zz_g 7 r c st) ∧ (∀ r c, zz_g 13 r c (zX2_copyFrom 11 6 st) = zz_g 8 r c st) ∧ (∀ r c, zz_g 14 r c (zX2_copyFrom 11 6 st) = zz_g 9 r c st) ∧ ∀ r c, zz_g 15 r c (zX2_copyFrom 11 6 st) = zz_g 10 r c st := by
  have e : zX2_copyFrom 11 6 st = zz_cp 15 10 (zz_cp 14 9 (zz_cp 13 8 (zz_cp 12 7 (zz_cp 11 6 st)))) := rfl
  rw [e]
  refine ⟨((((zp_F.rfl.cp (by decide)).cp (by decide)).cp (by decide)).cp (by decide)).cp (by decide), fun r c => ?_, fun r c => ?_, fun r c => ?_, fun r c => ?_, fun r c => ?_⟩
  · rw [zp_gcn (by decide), zp_gcn (by decide), zp_gcn (by decide), zp_gcn (by decide), zp_gcp (by decide)]
  · rw [zp_gcn (by decide), zp_gcn (by decide), zp_gcn (by decide), zp_gcp (by decide), zp_gcn (by decide)]
  · rw [zp_gcn (by decide), zp_gcn (by decide), zp_gcp (by decide), zp_gcn (by decide), zp_gcn (by decide)]
  · rw [zp_gcn (by decide), zp_gcp (by decide), zp_gcn (by decide), zp_gcn (by decide), zp_gcn (by decide)]
  · rw [zp_gcp (by decide), zp_gcn (by decide), zp_gcn (by decide), zp_gcn (by decide), zp_gcn (by decide)]
theorem zk_fro (st : zz_T) : zp_F [6, 7, 8, 9, 10] [] st (zX2_copyFrom 6 11 st) ∧ (∀ r c, zz_g 6 r c (zX2_copyFrom 6 11 st) = zz_g 11 r c st) ∧ (∀ r c, zz_g 7 r c (zX2_copyFrom 6 11 st) = zz_g 12 r c st) ∧ (∀ r c, zz_g 8 r c (zX2_copyFrom 6 11 st) = zz_g 13 r c st) ∧ (∀ r c, zz_g 9 r c (zX2_copyFrom 6 11 st) = zz_g 14 r c st) ∧ ∀ r c, zz_g 10 r c (zX2_copyFrom 6 11 st) = zz_g 15 r c st := by
  have e : zX2_copyFrom 6 11 st = zz_cp 10 15 (zz_cp 9 14 (zz_cp 8 13 (zz_cp 7 12 (zz_cp 6 11 st)))) := rfl
  rw [e]
  refine ⟨((((zp_F.rfl.cp (by decide)).cp (by decide)).cp (by decide)).cp (by decide)).cp (by decide), fun r c => ?_, fun r c => ?_, fun r c => ?_, fun r c => ?_, fun r c => ?_⟩
  · rw [zp_gcn (by decide), zp_gcn (by decide), zp_gcn (by decide), zp_gcn (by decide), zp_gcp (by decide)]
  · rw [zp_gcn (by decide), zp_gcn (by decide), zp_gcn (by decide), zp_gcp (by decide), zp_gcn (by decide)]
  · rw [zp_gcn (by decide), zp_gcn (by decide), zp_gcp (by decide), zp_gcn (by decide), zp_gcn (by decide)]
  · rw [zp_gcn (by decide), zp_gcp (by decide), zp_gcn (by decide), zp_gcn (by decide), zp_gcn (by decide)]
  · rw [zp_gcp (by decide), zp_gcn (by decide), zp_gcn (by decide), zp_gcn (by decide), zp_gcn (by decide)]
theorem zi_P_book {b b' : Nat} {s s' : zz_T} (h0 : ∀ r c, zz_g b' r c s' = zz_g b r c s) (h1 : ∀ r c, zz_g (b' + 1) r c s' = zz_g (b + 1) r c s) (h2 : ∀ r c, zz_g (b' + 2) r c s' = zz_g (b + 2) r c s) (h3 : ∀ r c, zz_g (b' + 3) r c s' = zz_g (b + 3) r c s) (h4 : ∀ r c, zz_g (b' + 4) r c s' = zz_g (b + 4) r c s) (hl : ∀ r c, zz_g 1 r c s' = zz_g 1 r c s) (H : zi_P b s) : zi_P b' s' := by
  have on : ∀ x l, (zi_on b' x l s' ↔ zi_on b x l s) := fun x l => by unfold zi_on; rw [h2]
  have kp : ∀ x, (zi_kept b' x s' ↔ zi_kept b x s) := fun x => by unfold zi_kept; rw [h0]
  refine ⟨fun x hx hk => ?_, fun x y hx hy hne hkx hky l hl' hox hoy => ?_⟩
  · obtain ⟨p1, p2, ⟨n, q1, q2, q3, q4, q5⟩, p4⟩ := H.1 x hx ((kp x).mp hk)
    refine ⟨by rw [h0]; exact p1, by rw [h0]; exact p2, ⟨n, by rw [h0]; exact q1, q2, fun i hi => by rw [h1]; exact q3 i hi, fun i l hi hl8 e => (on x l).mpr (q4 i l hi hl8 (by rw [← h1]; exact e)), fun l hl8 ho => ?_⟩, fun l hl8 ho => ?_⟩
    · obtain ⟨i, hi, e⟩ := q5 l hl8 ((on x l).mp ho)
      exact ⟨i, hi, by rw [h1]; exact e⟩
    · have := p4 l hl8 ((on x l).mp ho)
      unfold zi_tr at this ⊢
      rw [h4, h4, h4, hl, hl, hl]
      exact this
  · have := H.2 x y hx hy hne ((kp x).mp hkx) ((kp y).mp hky) l hl' ((on x l).mp hox) ((on y l).mp hoy)
    unfold zi_lim zi_gap at this ⊢
    rw [h0, h0, h2, h2, h3, h3, h4, h4, h4]
    exact this
/-- the books may change; so may SUPPLIES -/
def zqB : Nat → List Int32
  | 0 => [3, 4]
  | 1 => [4, 6]
  | 4 => [4, 5, 10, 11, 12]
  | 5 => [2]
  | 16 => [1, 5, 6, 7, 8, 9, 13]
  | 19 => [1, 2, 3, 4, 5, 6, 7, 8, 9, 10, 11, 12]
  | 21 => [1]
  | 23 => []
  | _ => zqw
theorem zi_I_B {f : Nat → Int32} {e e' T : Nat} {a b : zz_T} (h : zq zqB [6] a b) (h3 : zp_all 3 (zp_li 8) b) (hN : zi_N e' T b) (hK : zi_K e' b) (hP : zi_P 6 b) (H : zi_I f e T a) : zi_I f e' T b := by
  obtain ⟨hN0, hL, hU, hX, hS, -, -, hT, hG, hE, hD⟩ := H
  have h60 := hN0.2.2.2.2.1
  exact ⟨hN, zq_L h (by decide) (by decide) h3 hL, zq_U h (by decide) rfl hU, zq_X h (by decide) (by decide) hX, zq_S h (by decide) (by decide) hS, hK, hP, zq_T h60 h (by decide) (by decide) hT, zq_G h60 h (by decide) hG, zq_E h60 h (by decide) (by decide) hE, zq_D h60 h (by decide) (by decide) (by decide) hD⟩
theorem zi_I_trial {f : Nat → Int32} {e T : Nat} {a b : zz_T} (h : zp_F [11, 12, 13, 14, 15] [] a b) (H : zi_I f e T a) : zi_I f e T b :=
  zq_I (zq_rf.F h (by intro t ht; simp only [List.mem_cons, List.not_mem_nil, or_false] at ht; rcases ht with rfl | rfl | rfl | rfl | rfl <;> rfl) (by simp)) (zp_all.F h (by decide) H.2.1.2.2) H
/-- what the trial book holds when it is to be kept -/
def zk_T (st s : zz_T) : Prop := zp_F [11, 12, 13, 14, 15] [] st s ∧ zi_P 11 s ∧ zi_K1 11 s ∧ ∀ w, w < 6 → (zi_kept 11 (48 + w) s ↔ zi_kept 6 (48 + w) st)
theorem zk_start {f : Nat → Int32} {e T : Nat} {st : zz_T} (H : zi_I f e T st) : zk_T st (zX2_copyFrom 11 6 st) ∧ ∀ y, (zi_kept 11 y (zX2_copyFrom 11 6 st) ↔ zi_kept 6 y st) := by
  obtain ⟨hN, hL, hU, hX, hS, hK, hP, hT, hG, hE, hD⟩ := H
  obtain ⟨k0, k1, k2, k3, k4, k5⟩ := zk_to st
  have kp : ∀ y, (zi_kept 11 y (zX2_copyFrom 11 6 st) ↔ zi_kept 6 y st) := fun y => by unfold zi_kept; rw [k1]
  refine ⟨⟨k0, zi_P_book (b := 6) (b' := 11) k1 k2 k3 k4 k5 (fun r c => k0.g (by decide) r c) hP, fun u l hu hl hk => ?_, fun w _ => kp _⟩, kp⟩
  rw [k0.g (by decide)]
  exact hK.1 u l hu hl ((kp _).mp hk)
theorem zk_back {f : Nat → Int32} {e T : Nat} {st s : zz_T} (H : zi_I f e T st) (h : zk_T st s) : zi_I f e T (zX2_copyFrom 6 11 s) := by
  obtain ⟨hF, hP, hK1, hKw⟩ := h
  obtain ⟨k0, k1, k2, k3, k4, k5⟩ := zk_fro s
  have kp : ∀ y, (zi_kept 6 y (zX2_copyFrom 6 11 s) ↔ zi_kept 11 y s) := fun y => by unfold zi_kept; rw [k1]
  have hq : zq zqB [6] st (zX2_copyFrom 6 11 s) := (zq_rf.F hF (by intro t ht; simp only [List.mem_cons, List.not_mem_nil, or_false] at ht; rcases ht with rfl | rfl | rfl | rfl | rfl <;> rfl) (by simp)).F k0 (by intro t ht; simp only [List.mem_cons, List.not_mem_nil, or_false] at ht; rcases ht with rfl | rfl | rfl | rfl | rfl <;> rfl) (by simp)
  have hF2 : zp_F [6, 7, 8, 9, 10, 11, 12, 13, 14, 15] [] st (zX2_copyFrom 6 11 s) := (hF.mono (by decide) (by decide)).trans (k0.mono (by decide) (by decide))
  refine zi_I_B hq (zp_all.F hF2 (by decide) H.2.1.2.2) ?_ ⟨fun u l hu hl hk => ?_, fun w hw => ?_⟩ (zi_P_book (b := 11) (b' := 6) k1 k2 k3 k4 k5 (fun r c => k0.g (by decide) r c) hP) H
  · have hN := H.1
    unfold zi_N at hN ⊢
    rw [hF2.s (by decide), hF2.s (by decide), hF2.s (by decide), hF2.s (by decide), hF2.s (by decide), hF2.s (by decide), hF2.s (by decide)]
    exact hN
  · rw [k0.g (by decide)]
    exact hK1 u l hu hl ((kp _).mp hk)
  · rw [hF2.g (by decide), kp, hKw w hw]
    exact H.2.2.2.2.2.1.2 w hw
theorem zk_tick {e T : Nat} {st : zz_T} {v : Int32} (hN : zi_N e T st) (h : ¬ zX8_isNoTickToPlan v st = true) : ∃ j, j ≤ 2880 ∧ v = nI j := by
  obtain ⟨-, -, -, -, -, ⟨t, ht, et⟩, -⟩ := hN
  unfold zX8_isNoTickToPlan at h
  by_cases h1 : v < st.2 0
  · rw [if_pos h1] at h; exact absurd rfl h
  · rw [if_neg h1] at h
    by_cases h2 : v ≤ 2880
    · refine nI_of2 (M := 2880) (n := 2880) (by decide) (fun q => h1 ?_) h2
      rw [et]
      exact Int32.lt_of_lt_of_le q (nI_pos' (by omega))
    · rw [if_neg h2] at h; exact absurd rfl h
theorem zk_has {e T : Nat} {st : zz_T} {v : Int32} (hN : zi_N e T st) (h : zX7_has v st = true) : ∃ u, u < 6 ∧ v = nI u := by
  unfold zX7_has at h
  by_cases h1 : v < 0
  · rw [if_pos h1] at h; exact absurd h (by decide)
  · rw [if_neg h1] at h
    obtain ⟨j, hj, rfl⟩ := nI_of h1
    rw [hN.2.2.1] at h
    by_cases h2 : nI 6 ≤ nI j
    · rw [if_pos h2] at h; exact absurd h (by decide)
    · exact ⟨j, by rw [nI_leI (by omega) hj] at h2; omega, rfl⟩
theorem zk_sector {st : zz_T} {v : Int32} (h : ¬ zX8_isNoSector v st = true) : ∃ u, u < 3 ∧ v = nI u := by
  unfold zX8_isNoSector at h
  by_cases h1 : v < 0
  · rw [if_pos h1] at h; exact absurd rfl h
  · rw [if_neg h1] at h
    obtain ⟨j, hj, rfl⟩ := nI_of h1
    by_cases h2 : nI j < 3
    · exact ⟨j, (nI_ltI (b := 3) hj (by decide)).mp h2, rfl⟩
    · rw [if_neg h2] at h; exact absurd rfl h
theorem zk_waiting {u g L : Nat} {st : zz_T} (hg : zz_g 4 (nI u) 7 st = nI g) (hL : zz_g 4 (nI u) 1 st = nI L) (hgL : g ≤ L) (hL8 : L ≤ 8) : zp_ok (zX8_countWaitingPaths (nI u) st) (fun x => x ≤ 0 → ∀ j, g ≤ j → j < L → ¬ zi_kept 6 (8 * u + j) st) := by
  unfold zX8_countWaitingPaths
  simp only [zz_v]
  rw [show zX7_get (nI u) 7 st = nI g from hg]
  have := zp_sum (F := fun n v a => zX8_countWaitingPaths_13 n (nI u) a v st) (N := L) (fun j => zp_b (zi_kept 6 (8 * u + j) st)) (fun n a => ?_) (fun n k a hk => ?_) (L - g) zz_N g 0 (by omega) (by show _ < 1000; omega)
  · refine ⟨_, this, fun hx j h1 h2 hk => ?_⟩
    have hb := zp_s_bd (f := fun j => zp_b (zi_kept 6 (8 * u + j) st)) (c := 1) (L - g) g (fun i _ _ => zp_ble)
    have hp := zp_s_pos (f := fun j => zp_b (zi_kept 6 (8 * u + j) st)) (j := j) (L - g) g h1 (by omega)
    rw [Int32.zero_add] at hx
    have h0 := (nI_leI (a := zp_s (fun j => zp_b (zi_kept 6 (8 * u + j) st)) g (L - g)) (b := 0) (by omega) (by decide)).mp hx
    have : zp_b (zi_kept 6 (8 * u + j) st) = 1 := zp_b1 hk
    omega
  · rw [zX8_countWaitingPaths_13, show zX7_get (nI u) 1 st = nI L from hL, if_pos (nI_le (Nat.le_refl _) (by omega))]
  · rw [zX8_countWaitingPaths_13, show zX7_get (nI u) 1 st = nI L from hL, if_neg (nI_ge hk (by omega))]
    simp only [zz_v, zr_slot]
    by_cases h : zX2_isKept 6 (nI (8 * u + k)) st = true
    · rw [if_pos h, zp_b1 ((zr_isKept 6 _ st).mp h)]; rfl
    · rw [if_neg h, zp_b0 (fun q => h ((zr_isKept 6 _ st).mpr q))]; rfl
theorem zk_w {u g L y : Nat} (hL : L ≤ 8) (h : zd_w u g L y) (u' l : Nat) (hl : l < 8) (e : y = 8 * u' + l) : u' = u ∧ l < L := by
  obtain ⟨j, j1, j2, j3⟩ := h
  omega
/-- the trial book with one more UNIT planned -/
theorem zk_plan {f : Nat → Int32} {e T u sec fr g L : Nat} {st s : zz_T} (H : zi_I f e T st) (hu : u < 6) (hg : zz_g 4 (nI u) 7 st = nI g) (hL : zz_g 4 (nI u) 1 st = nI L) (hgL : g ≤ L) (hL8 : L ≤ 8) (hsec : sec < 3) (hfr : fr ≤ 2912) (h : zk_T st s) (hno : ∀ j, g ≤ j → j < L → ¬ zi_kept 11 (8 * u + j) s) :
    zp_ok (zX8_planUnit (nI u) (nI sec) (nI fr) s) (fun x => zp_F [11, 12, 13, 14, 15] [] st x.2 ∧ -20 ≤ x.1 ∧ (¬ x.1 < 0 → zk_T st x.2 ∧ ∀ y, y < 54 → (zi_kept 11 y x.2 ↔ (zi_kept 11 y s ∨ zd_w u g L y)))) := by
  obtain ⟨hF, hP, hK1, hKw⟩ := h
  have hk0 : zp_bl 5 (zz_g 4 (nI u) 0 st) := by rw [(H.2.2.1.1 u hu).1.1]; exact (H.2.2.1.1 u hu).1.2
  refine (ze_plan (st := s) hu ((hF.g (by decide) _ _).trans hg) ((hF.g (by decide) _ _).trans hL) hgL hL8 (by rw [hF.g (by decide)]; exact hk0) hsec hfr (zi_L_F hF (by decide) (by decide) (by decide) H.2.1) hP hno).mono (fun x hx => ⟨hF.trans hx.1, hx.2.1, fun h0 => ?_⟩)
  obtain ⟨q1, q2⟩ := hx.2.2 h0
  refine ⟨⟨hF.trans hx.1, q1, fun u' l hu' hl hk => ?_, fun w hw => ?_⟩, q2⟩
  · rw [hx.1.g (by decide)]
    rcases (q2 _ (by omega)).mp hk with p | p
    · exact hK1 u' l hu' hl p
    · obtain ⟨rfl, hlL⟩ := zk_w hL8 p u' l hl rfl
      exact ⟨L, (hF.g (by decide) _ _).trans hL, hL8, hlL⟩
  · rw [q2 _ (by omega), ← hKw w hw]
    exact ⟨fun p => p.elim id (fun ⟨j, j1, j2, j3⟩ => by omega), Or.inl⟩
theorem za_plan {f : Nat → Int32} {e T : Nat} {st : zz_T} (H : zi_I f e T st) (v1 v2 : Int32) : zp_ok (zX8_planx v1 v2 st) (fun x => zi_I f e T x.2) := by
  unfold zX8_planx
  refine zp_ite (fun h1 => ?_) (fun _ => .ret H)
  obtain ⟨u, hu, rfl⟩ := zk_has H.1 h1
  refine zp_ite (fun _ => .ret H) (fun h2 => ?_)
  obtain ⟨fr, hfr, rfl⟩ := zk_tick H.1 h2
  obtain ⟨L, g, r, s1, s2, s3, s4, s5, s6, s7, -⟩ := H.2.2.2.2.1 u hu
  refine (zk_waiting s4 s1 (by omega) s3).bind (fun x hx => zp_ite (fun h3 => ?_) (fun _ => .ret H))
  refine zp_ite (fun _ => .ret H) (fun _ => ?_)
  simp only [zz_v]
  obtain ⟨k1, k2⟩ := zk_start H
  obtain ⟨sec, hsec, es⟩ := (H.2.2.1.1 u hu).2.2
  rw [show zX7_get (nI u) 3 (zX2_copyFrom 11 6 st) = nI sec from (k1.1.g (by decide) _ _).trans es]
  refine (zk_plan H hu s4 s1 (by omega) s3 hsec (by omega) k1 (fun j j1 j2 q => hx h3 j j1 j2 ((k2 _).mp q))).bind (fun y hy => zp_ite (fun _ => .ret (zi_I_trial hy.1 H)) (fun h0 => .ret (zk_back H (hy.2.2 h0).1)))
theorem zk_toChange {v u : Nat} {st s : zz_T} (h : zp_F [11, 12, 13, 14, 15] [] st s) : zX8_isToChange (nI v) (nI u) s = zX8_isToChange (nI v) (nI u) st := by
  unfold zX8_isToChange zX7_get
  rw [h.g (by decide), h.g (by decide), h.g (by decide), h.g (by decide), h.g (by decide)]
theorem zk_out {st s s' : zz_T} {S : Nat → Prop} (h : zk_T st s) (ho : zd_out 11 S s s') (hS : ∀ w, w < 6 → ¬ S (48 + w)) : zk_T st s' ∧ ∀ y, y < 54 → zi_kept 11 y s' → zi_kept 11 y s ∧ ¬ S y := by
  obtain ⟨hF, hP, hK1, hKw⟩ := h
  have kp : ∀ y, y < 54 → zi_kept 11 y s' → zi_kept 11 y s ∧ ¬ S y := fun y hy hk => by
    have hn : ¬ S y := fun q => hk (ho.2.2 y hy q)
    refine ⟨?_, hn⟩
    unfold zi_kept at hk ⊢
    rw [← ho.2.1 y hy 0 (by decide) (Or.inr hn)]
    exact hk
  refine ⟨⟨hF.trans (ho.1.mono (by decide) (by decide)), zd_P (Or.inr rfl) ho hP, fun u l hu hl hk => ?_, fun w hw => ?_⟩, kp⟩
  · rw [ho.1.g (by decide)]
    exact hK1 u l hu hl (kp _ (by omega) hk).1
  · rw [← hKw w hw]
    unfold zi_kept
    rw [ho.2.1 (48 + w) (by omega) 0 (by decide) (Or.inr (hS w hw))]
theorem zk_w48 {u g L w : Nat} (hu : u < 6) (hL : L ≤ 8) : ¬ zd_w u g L (48 + w) := fun ⟨j, j1, j2, j3⟩ => by omega
/-- what of a UNIT waits in the trial book -/
def zk_none (st s : zz_T) (u : Nat) : Prop := ∀ L g, zz_g 4 (nI u) 1 st = nI L → L ≤ 8 → zz_g 4 (nI u) 7 st = nI g → g ≤ 8 → ∀ j, g ≤ j → j < L → ¬ zi_kept 11 (8 * u + j) s
theorem za_tryChange {f : Nat → Int32} {e T v : Nat} {st : zz_T} (H : zi_I f e T st) (hv : v < 4) (ht : st.2 0 ≤ 2808) : zp_ok (zX8_tryChange (nI v) st) (fun x => zp_F [11, 12, 13, 14, 15] [] st x.2 ∧ (¬ x.1 < 0 → zk_T st x.2)) := by
  unfold zX8_tryChange
  simp only [zz_v]
  obtain ⟨k1, k2⟩ := zk_start H
  have h4 := H.1.2.2.1
  obtain ⟨t, ht0, et⟩ := H.1.2.2.2.2.2.1
  have ht2 : t ≤ 2808 := (nI_leI (b := 2808) (by omega) (by decide)).mp (by rw [← et]; exact ht)
  refine zp_loop0 (F := fun n x (s : zz_T) => zX8_tryChange_13 n (nI v) x s) (N := 6) (by decide) (fun k s => zk_T st s ∧ ∀ u, u < k → zX8_isToChange (nI v) (nI u) st = true → zk_none st s u) (fun n s hs => ?_) (fun n k s hk hs ih => ?_) ⟨k1, fun u hu => absurd hu (Nat.not_lt_zero u)⟩
  · obtain ⟨h1, h2⟩ := hs
    rw [zX8_tryChange_13, show zX7_count s = nI 6 from (h1.1.s (by decide)).trans h4, if_pos (Int32.le_refl _)]
    refine zp_loop0 (F := fun n x (p : Int32 × zz_T) => zX8_tryChange_53 n (nI v) p.1 x p.2) (N := 6) (by decide) (fun k p => zk_T st p.2 ∧ ∀ u, k ≤ u → u < 6 → zX8_isToChange (nI v) (nI u) st = true → zk_none st p.2 u) (fun n p hp => ?_) (fun n k p hk hp ih => ?_) (s := (0, s)) ⟨h1, fun u _ hu => h2 u hu⟩
    · rw [zX8_tryChange_53, show zX7_count p.2 = nI 6 from (hp.1.1.s (by decide)).trans h4, if_pos (Int32.le_refl _)]
      exact .ret ⟨hp.1.1, fun _ => hp.1⟩
    · obtain ⟨p1, p2⟩ := hp
      rw [zX8_tryChange_53, show zX7_count p.2 = nI 6 from (p1.1.s (by decide)).trans h4, if_neg (nI_ge hk (by decide))]
      refine zp_ite (fun hc => ?_) (fun hc => ?_)
      · rw [zk_toChange p1.1] at hc
        obtain ⟨L, g, r, s1, s2, s3, s4, s5, s6, s7, -⟩ := H.2.2.2.2.1 k hk
        obtain ⟨sec, hsec, es⟩ : zp_bl 3 (zz_g 23 (nI v) (nI k) p.2) := by
          rw [p1.1.g (by decide)]
          exact H.2.2.1.2.g ⟨0, by decide, rfl⟩ _ _
        rw [es, show p.2.2 0 + 36 = nI (t + 36) from by rw [p1.1.s (by decide), et]; exact nI_add t 36]
        refine (zk_plan H hk s4 s1 (by omega) s3 hsec (by omega) p1 (p2 k (Nat.le_refl _) hk hc L g s1 s3 s4 (by omega))).bind (fun y hy => zp_ite (fun h0 => ?_) (fun h0 => .ret ⟨hy.1, fun q => absurd (Int32.not_lt.mp q) h0⟩))
        simp only [zz_v]
        obtain ⟨y1, y2⟩ := hy.2.2 (Int32.not_lt.mpr h0)
        refine ih (_, _) ⟨y1, fun u hu hu6 hcu L' g' q1 q2 q3 q4 j j1 j2 hkj => ?_⟩
        rcases (y2 _ (by omega)).mp hkj with w | ⟨i, i1, i2, i3⟩
        · exact p2 u (by omega) hu6 hcu L' g' q1 q2 q3 q4 j j1 j2 w
        · omega
      · rw [zk_toChange p1.1] at hc
        exact ih (_, _) ⟨p1, fun u hu hu6 hcu => p2 u (by omega) hu6 hcu⟩
  · obtain ⟨h1, h2⟩ := hs
    rw [zX8_tryChange_13, show zX7_count s = nI 6 from (h1.1.s (by decide)).trans h4, if_neg (nI_ge hk (by decide))]
    refine zp_ite (fun hc => ?_) (fun hc => ?_)
    · obtain ⟨L, g, r, s1, s2, s3, s4, s5, s6, s7, -⟩ := H.2.2.2.2.1 k hk
      refine (zd_drop (b := 11) (Or.inr rfl) hk ((h1.1.g (by decide) _ _).trans s4) ((h1.1.g (by decide) _ _).trans s1) (by omega) s3).bind (fun y hy => ?_)
      obtain ⟨y1, y2⟩ := zk_out h1 hy (fun w _ => zk_w48 hk s3)
      refine ih _ ⟨y1, fun u hu hcu L' g' q1 q2 q3 q4 j j1 j2 hkj => ?_⟩
      obtain ⟨w1, w2⟩ := y2 _ (by omega) hkj
      by_cases q : u = k
      · subst q
        have eL : L' = L := (nI_eq (by omega) (by omega)).mp (q1.symm.trans s1)
        have eg : g' = g := (nI_eq (by omega) (by omega)).mp (q3.symm.trans s4)
        exact w2 ⟨j, by omega, by omega, rfl⟩
      · exact h2 u (by omega) hcu L' g' q1 q2 q3 q4 j j1 j2 w1
    · refine ih _ ⟨h1, fun u hu hcu => ?_⟩
      by_cases q : u = k
      · rw [q] at hcu
        rw [zk_toChange h1.1] at hc
        exact absurd hcu hc
      · exact h2 u (by omega) hcu
def zqA : Nat → List Int32
  | 4 => [3, 4, 5, 10, 11, 12]
  | 23 => zqw
  | t => zq0 t
theorem zi_I_A {f : Nat → Int32} {e T : Nat} {a b : zz_T} (h : zq zqA [] a b) (h3 : zp_all 3 (zp_li 8) b) (hU : zi_U f b) (H : zi_I f e T a) : zi_I f e T b := by
  obtain ⟨hN, hL, -, hX, hS, hK, hP, hT, hG, hE, hD⟩ := H
  have h60 := hN.2.2.2.2.1
  exact ⟨zq_N h (by decide) hN, zq_L h (by decide) (by decide) h3 hL, hU, zq_X h (by decide) (by decide) hX, zq_S h (by decide) (by decide) hS, zq_K h (by decide) (by decide) (by decide) hK, zq_P h (by decide) rfl rfl rfl rfl (by decide) hP, zq_T h60 h (by decide) (by decide) hT, zq_G h60 h (by decide) hG, zq_E h60 h (by decide) (by decide) hE, zq_D h60 h (by decide) (by decide) (by decide) hD⟩
theorem za_takeAims {f : Nat → Int32} {e T : Nat} {st : zz_T} (H : zi_I f e T st) (v : Int32) : zp_ok (zX8_takeAims v st) (fun x => zi_I f e T x) := by
  unfold zX8_takeAims
  refine zp_loop0 (F := fun n x (s : zz_T) => zX8_takeAims_2 n v x s) (N := 6) (by decide) (fun _ s => zi_I f e T s) (fun n s hs => ?_) (fun n k s hk hs ih => ?_) H
  · rw [zX8_takeAims_2, show zX7_count s = nI 6 from hs.1.2.2.1, if_pos (Int32.le_refl _)]
    exact .ret hs
  · rw [zX8_takeAims_2, show zX7_count s = nI 6 from hs.1.2.2.1, if_neg (nI_ge hk (by decide))]
    refine zp_ite (fun _ => ?_) (fun _ => ih _ hs)
    simp only [zz_v]
    refine ih _ (zi_I_A (b := zz_set 4 (nI k) 3 (zz_g 23 v (nI k) s) s) (zq_rf.set (by decide) (show k < zp_R 4 from hk) (by decide) (by decide)) (zp_all.F (zp_F.rfl.set (ts := [4]) (ks := []) (by decide)) (by decide) hs.2.1.2.2) ⟨fun u hu => ?_, zp_all.F (zp_F.rfl.set (ts := [4]) (ks := []) (by decide)) (by decide) hs.2.2.1.2⟩ hs)
    obtain ⟨p1, p2, p3⟩ := hs.2.2.1.1 u hu
    rw [zg4 hk hu (by decide) (by decide), zg4 hk hu (by decide) (by decide), zg4 hk hu (by decide) (by decide), if_neg (fun q => absurd q.2 (by decide)), if_neg (fun q => absurd q.2 (by decide))]
    refine ⟨p1, p2, ?_⟩
    split
    · exact hs.2.2.1.2.g ⟨0, by decide, rfl⟩ _ _
    · exact p3
theorem za_change {f : Nat → Int32} {e T : Nat} {st : zz_T} (H : zi_I f e T st) (v : Int32) : zp_ok (zX8_changex v st) (fun x => zi_I f e T x.2) := by
  unfold zX8_changex
  refine zp_ite (fun _ => .ret H) (fun h1 => zp_ite (fun h2 => zp_ite (fun h3 => ?_) (fun _ => .ret H)) (fun _ => .ret H))
  obtain ⟨j, hj, rfl⟩ := nI_of h1
  have hj4 : j < 4 := (nI_ltI (b := 4) hj (by decide)).mp h2
  refine (za_tryChange H hj4 h3).bind (fun x hx => zp_ite (fun _ => .ret (zi_I_trial hx.1 H)) (fun h0 => ?_))
  simp only [zz_v]
  exact (za_takeAims (zk_back H (hx.2 h0)) _).bind (fun y hy => .ret hy)
theorem zk_freeRow (st : zz_T) : zp_ok (zX4_freeRow st) (fun x => x = -1 ∨ ∃ w, w < 6 ∧ x = nI w ∧ zz_g 18 (nI w) 0 st = 0) := by
  unfold zX4_freeRow
  refine zp_loop0 (F := fun n x (_ : Unit) => zX4_freeRow_2 n x st) (N := 6) (by decide) (fun _ _ => True) (fun n _ _ => ?_) (fun n k _ hk _ ih => ?_) (s := ()) trivial
  · rw [zX4_freeRow_2, if_pos (by decide)]; exact .ret (Or.inl rfl)
  · rw [zX4_freeRow_2, if_neg (show ¬ (6 : Int32) ≤ nI k from nI_ge (a := k) (b := 6) hk (by decide))]
    exact zp_ite (fun h => .ret (Or.inr ⟨k, hk, rfl, h⟩)) (fun _ => ih () trivial)
theorem za_supply {f : Nat → Int32} {e T : Nat} {st : zz_T} (he : e ≤ 1000) (H : zi_I f e T st) (v1 v2 : Int32) : zp_ok (zX8_supplyx v1 v2 st) (fun x => zi_I f (e + 1) T x.2) := by
  have up : ∀ s : zz_T, zi_I f e T s → zi_I f (e + 1) T s := fun s hs => by
    obtain ⟨⟨n1, n2, n3, n4, n5, n6, ⟨s, hs1, hs2⟩, n8⟩, hL, hU, hX, hS, hK, r⟩ := hs
    exact ⟨⟨n1, n2, n3, n4, n5, n6, ⟨s, by omega, hs2⟩, n8⟩, hL, hU, hX, hS, ⟨hK.1, fun w hw => ⟨by obtain ⟨x, h1, h2⟩ := (hK.2 w hw).1; exact ⟨x, by omega, h2⟩, (hK.2 w hw).2⟩⟩, r⟩
  unfold zX8_supplyx
  refine zp_ite (fun _ => .ret (up _ H)) (fun h1 => ?_)
  obtain ⟨sec, hsec, rfl⟩ := zk_sector h1
  refine zp_ite (fun _ => .ret (up _ H)) (fun h2 => ?_)
  obtain ⟨fr, hfr, rfl⟩ := zk_tick H.1 h2
  refine zp_ite (fun _ => .ret (up _ H)) (fun _ => ?_)
  refine (zk_freeRow st).bind (fun x hx => zp_ite (fun _ => .ret (up _ H)) (fun hx1 => ?_))
  obtain ⟨w, hw, rfl, hw0⟩ := hx.resolve_left hx1
  simp only [zz_v]
  rw [show zX2_slotOfSupply (nI w) st = nI (48 + w) from nI_add 48 w]
  obtain ⟨k1, k2⟩ := zk_start H
  have hno : ¬ zi_kept 11 (48 + w) (zX2_copyFrom 11 6 st) := fun q => ((H.2.2.2.2.2.1.2 w hw).2.mp ((k2 _).mp q)) hw0
  refine (ze_one (a := 48 + w) (sec := sec) (fr := fr) (M := fr + 288) (unl := 3) (h := 0) (by omega) (zi_L_F k1.1 (by decide) (by decide) (by decide) H.2.1) k1.2.1 hsec ⟨3, by decide, rfl⟩ hno (by omega) (by omega) (by omega)).bind (fun x hx => ?_)
  have neg : ∀ s : zz_T, zp_F [11, 12, 13, 14, 15] [] st s → ∀ k0 : Int32, k0 < 0 → zp_ok (zX8_supplyx_161 (nI sec) (nI w) k0 s) (fun x => zi_I f (e + 1) T x.2) := fun s hs k0 h0 => by
    unfold zX8_supplyx_161
    rw [if_pos h0]
    exact .ret (up _ (zi_I_trial hs H))
  refine zp_ite (fun hx1 => ?_) (fun _ => neg _ (k1.1.trans hx.1) _ (by decide))
  rw [show nI fr + 288 = nI (fr + 288) from nI_add fr 288]
  refine (hx.2 hx1).bind (fun y hy => ?_)
  by_cases h0 : y.1 < 0
  · exact neg _ (k1.1.trans hy.1) _ h0
  · obtain ⟨-, hP', hk'⟩ := hy.2.2 h0
    unfold zX8_supplyx_161
    rw [if_neg h0]
    simp only [zz_v]
    obtain ⟨c0, c1, c2, c3, c4, c5⟩ := zk_fro y.2
    obtain ⟨b, eb⟩ : ∃ b, b = zX2_copyFrom 6 11 y.2 := ⟨_, rfl⟩
    rw [← eb] at c0 c1 c2 c3 c4 c5 ⊢
    obtain ⟨s0, hs0, es0⟩ := H.1.2.2.2.2.2.2.1
    have F1 : zp_F [11, 12, 13, 14, 15] [] st y.2 := k1.1.trans hy.1
    have F2 : zp_F [6, 7, 8, 9, 10, 11, 12, 13, 14, 15] [] st b := (F1.mono (by decide) (by decide)).trans (c0.mono (by decide) (by decide))
    have e6 : b.2 6 = nI s0 := (F2.s (by decide)).trans es0
    have esend : zX4_send (nI w) (nI sec) b = zz_set 18 (nI w) 2 0 (zz_set 18 (nI w) 1 (nI sec) (zz_set 18 (nI w) 0 (nI (s0 + 1)) (zz_S 6 (nI (s0 + 1)) b))) := by
      unfold zX4_send
      simp only [zz_v, zp_SS, if_true, e6, nI_1]
    rw [esend]
    obtain ⟨c, ec⟩ : ∃ c, c = zz_set 18 (nI w) 2 0 (zz_set 18 (nI w) 1 (nI sec) (zz_set 18 (nI w) 0 (nI (s0 + 1)) (zz_S 6 (nI (s0 + 1)) b))) := ⟨_, rfl⟩
    rw [← ec]
    have F3 : zp_F [18] [6] b c := by rw [ec]; exact (((zp_F.rfl.S (by decide)).set (by decide)).set (by decide)).set (by decide)
    have F4 : zp_F [6, 7, 8, 9, 10, 11, 12, 13, 14, 15, 18] [6] st c := (F2.mono (by decide) (by decide)).trans (F3.mono (by decide) (by decide))
    have hq : zq zqB [6] st c := zq_rf.F F4 (by intro t ht; simp only [List.mem_cons, List.not_mem_nil, or_false] at ht; rcases ht with rfl | rfl | rfl | rfl | rfl | rfl | rfl | rfl | rfl | rfl | rfl <;> rfl) (by simp)
    have c18 : ∀ x, x < 6 → zz_g 18 (nI x) 0 c = if x = w then nI (s0 + 1) else zz_g 18 (nI x) 0 st := fun x hx => by
      rw [ec, zg18 hw hx (by decide) (by decide), if_neg (fun q => absurd q.2 (by decide)), zg18 hw hx (by decide) (by decide), if_neg (fun q => absurd q.2 (by decide)), zg18 hw hx (by decide) (by decide), zp_gS, F2.g (by decide)]
      by_cases q : x = w
      · rw [if_pos ⟨q, rfl⟩, if_pos q]
      · rw [if_neg (fun r => q r.1), if_neg q]
    have kp : ∀ x, x < 54 → (zi_kept 6 x c ↔ (zi_kept 6 x st ∨ x = 48 + w)) := fun x hx => by
      rw [← k2 x, ← hk' x hx]
      unfold zi_kept
      rw [F3.g (by decide), c1]
    refine .ret (zi_I_B hq (zp_all.F F4 (by decide) H.2.1.2.2) ?_ ⟨fun u l hu hl hk => ?_, fun x hx => ?_⟩ ?_ H)
    · obtain ⟨n1, n2, n3, n4, n5, n6, n7, n8⟩ := H.1
      have e6c : c.2 6 = nI (s0 + 1) := by rw [ec, zp_s2, zp_s2, zp_s2, zp_SS, if_pos rfl]
      exact ⟨(F4.s (by decide)).trans n1, (F4.s (by decide)).trans n2, (F4.s (by decide)).trans n3, (F4.s (by decide)).trans n4, n5, by rw [F4.s (by decide)]; exact n6, ⟨s0 + 1, by omega, e6c⟩, (F4.s (by decide)).trans n8⟩
    · rw [F4.g (by decide)]
      rcases (kp _ (by omega)).mp hk with q | q
      · exact H.2.2.2.2.2.1.1 u l hu hl q
      · omega
    · obtain ⟨⟨sx, hsx, esx⟩, hkx⟩ := H.2.2.2.2.2.1.2 x hx
      rw [c18 x hx, kp _ (by omega)]
      by_cases q : x = w
      · rw [if_pos q]
        exact ⟨⟨s0 + 1, by omega, rfl⟩, fun _ => nI_ne0 (by omega) (by omega), fun _ => Or.inr (by omega)⟩
      · rw [if_neg q]
        refine ⟨⟨sx, by omega, esx⟩, fun p => hkx.mp (p.resolve_right (by omega)), fun p => Or.inl (hkx.mpr p)⟩
    · refine zi_P_book (b := 11) (b' := 6) (s := y.2) (fun r x => ?_) (fun r x => ?_) (fun r x => ?_) (fun r x => ?_) (fun r x => ?_) (fun r x => ?_) hP'
      · rw [F3.g (by decide), c1]
      · rw [F3.g (by decide)]; exact c2 r x
      · rw [F3.g (by decide)]; exact c3 r x
      · rw [F3.g (by decide)]; exact c4 r x
      · rw [F3.g (by decide)]; exact c5 r x
      · rw [F3.g (by decide), c0.g (by decide)]
theorem za_could {f : Nat → Int32} {e T u : Nat} {st : zz_T} (H : zi_I f e T st) (hu : u < 6) (hg : zz_g 4 (nI u) 7 st < zz_g 4 (nI u) 1 st) (hs : ¬ zz_g 4 (nI u) 4 st = 3) : zp_ok (zX8_could (nI u) 2880 st) (fun x => zp_F [11, 12, 13, 14, 15] [] st x.2 ∧ -20 ≤ x.1) := by
  obtain ⟨n1, n2, n3, n4, n5, ⟨t, ht, et⟩, n7, n8⟩ := H.1
  obtain ⟨L, g, r, s1, s2, s3, s4, s5, s6, s7, -⟩ := H.2.2.2.2.1 u hu
  obtain ⟨sec, hsec, es⟩ := (H.2.2.1.1 u hu).2.2
  have a1 : zX7_has (nI u) st = true := by
    unfold zX7_has
    rw [if_neg (nI_pos (by omega)), n3, if_neg (nI_ge hu (by decide))]
  have a2 : zX8_isNoTickToPlan 2880 st = false := by
    unfold zX8_isNoTickToPlan
    rw [et, if_neg (show ¬ (2880 : Int32) < nI t from nI_nlt (a := 2880) ht (by decide)), if_pos (by decide)]
  have a3 : zX8_isNotPlannable (nI u) st = false := by
    unfold zX8_isNotPlannable
    rw [if_neg (show ¬ zX7_get (nI u) 4 st = 3 from hs), if_neg (show ¬ zX7_get (nI u) 1 st ≤ zX7_get (nI u) 7 st from Int32.not_le.mpr hg), if_neg]
    rw [show zX7_get (nI u) 3 st = nI sec from es]
    intro q
    obtain ⟨x, hx, ex⟩ := H.2.2.2.1.1 sec hsec
    rw [show zX3_get (nI sec) 0 st = nI x from ex] at q
    exact absurd (q ▸ (by decide : (-1 : Int32) < 0)) (nI_pos (by omega))
  unfold zX8_could
  rw [a1, if_pos rfl, a2, if_neg (by decide), a3, if_neg (by decide)]
  simp only [zz_v]
  obtain ⟨k1, k2⟩ := zk_start H
  refine (zd_drop (b := 11) (Or.inr rfl) hu ((k1.1.g (by decide) _ _).trans s4) ((k1.1.g (by decide) _ _).trans s1) (by omega) s3).bind (fun y hy => ?_)
  obtain ⟨y1, y2⟩ := zk_out k1 hy (fun w _ => zk_w48 hu s3)
  rw [show zX7_get (nI u) 3 y.2 = nI sec from (y1.1.g (by decide) _ _).trans es]
  refine (zk_plan (fr := 2880) H hu s4 s1 (by omega) s3 hsec (by omega) y1 (fun j j1 j2 q => (y2 _ (by omega) q).2 ⟨j, j1, j2, rfl⟩)).bind (fun x hx => .ret ⟨hx.1, hx.2.1⟩)
