/-! PURE: the way laid whole; the first START; a UNIT planned, all in the trial book -/
theorem zi_L_F {ts ks : List Nat} {a b : zz_T} (h : zp_F ts ks a b) (h0 : 0 ∉ ts) (h1 : 1 ∉ ts) (h3 : 3 ∉ ts) (H : zi_L a) : zi_L b := by
  obtain ⟨l1, l2, l3⟩ := H
  refine ⟨fun r hr => ?_, fun l hl => ?_, zp_all.F h h3 l3⟩
  · rw [h.g h0, h.g h0]; exact l1 r hr
  · obtain ⟨p1, p2, p3, p4⟩ := l2 l hl
    exact ⟨by rw [h.g h1]; exact p1, by rw [h.g h1]; exact p2, by rw [h.g h1]; exact p3, by rw [h.g h1]; exact p4⟩
theorem ze_L.other {a k : Nat} {s s' : zz_T} (h12 : ∀ r c, zz_g 12 r c s' = zz_g 12 r c s) (h13 : ∀ r c, zz_g 13 r c s' = zz_g 13 r c s) (h15 : ∀ r c, zz_g 15 r c s' = zz_g 15 r c s) (h1 : ∀ r c, zz_g 1 r c s' = zz_g 1 r c s) (h : ze_L a k s) : ze_L a k s' := by
  have on : ∀ l, (zi_on 11 a l s' ↔ zi_on 11 a l s) := fun l => by
    unfold zi_on
    simp only [Nat.reduceAdd]
    rw [h13]
  obtain ⟨l1, l2, l3, l4⟩ := h
  refine ⟨fun i hi => by rw [h12]; exact l1 i hi, fun i l hi hl e => (on l).mpr (l2 i l hi hl (by rw [← h12]; exact e)), fun l hl ho => ?_, fun l hl ho => ?_⟩
  · obtain ⟨i, hi, e⟩ := l3 l hl ((on l).mp ho)
    exact ⟨i, hi, by rw [h12]; exact e⟩
  · have := l4 l hl ((on l).mp ho)
    unfold zi_tr at this ⊢
    simp only [Nat.reduceAdd] at this ⊢
    rw [h15, h15, h15, h1, h1, h1]
    exact this
theorem ze_P0 {a n : Nat} {s : zz_T} (h1 : zz_g 11 (nI a) 1 s = nI n) (hn : n ≤ 10) (h : ze_L a n s) : zi_P0 11 a n s := ⟨h1, hn, h.1, h.2.1, h.2.2.1⟩
def ze_laid (a : Nat) (st s : zz_T) : Prop := ze_R a st s ∧ (∀ c : Int32, c = 0 ∨ c = 2 ∨ c = 3 ∨ c = 4 → zz_g 11 (nI a) c s = zz_g 11 (nI a) c st) ∧ (∃ n, zi_P0 11 a n s) ∧ ∀ l, l < 8 → zi_on 11 a l s → zi_tr 11 l s
theorem ze_li0 : zp_li 8 0 := Or.inr ⟨0, by decide, rfl⟩
theorem ze_lay75 {a n : Nat} {goal : Int32} {st : zz_T} (ha : a < 54) (hL : zi_L st) (hn : n ≤ 10) : ∀ (d m k B : Nat) (at' : Int32) (s : zz_T), k + d = n → d < m → B ≤ 25 * k → ze_R a st s → (∀ c : Int32, 0 ≤ c ∧ c < 7 → zz_g 11 (nI a) c s = zz_g 11 (nI a) c st) → ze_L a k s → zp_ok (zX2_lay_75 11 m (nI a) goal (nI n) at' (nI B) (nI k) s) (fun x => x.1 = true ∧ ze_laid a st x.2) := by
  intro d
  induction d with
  | zero =>
    intro m k B at' s hk hm hB hR hf hl
    obtain ⟨m, rfl⟩ : ∃ j, m = j + 1 := ⟨m - 1, by omega⟩
    obtain rfl : k = n := by omega
    rw [zX2_lay_75, if_pos (nI_le (Nat.le_refl _) (by omega))]
    simp only [zz_v, Nat.add_zero]
    obtain ⟨v, hv⟩ : ∃ v, v = zX1_getStation goal 0 (zz_set 11 (nI a) 5 (nI B) (zz_set 11 (nI a) 1 (nI k) s)) := ⟨_, rfl⟩
    rw [← hv]
    obtain ⟨s3, h3⟩ : ∃ s3, s3 = zz_set 11 (nI a) 6 v (zz_set 11 (nI a) 5 (nI B) (zz_set 11 (nI a) 1 (nI k) s)) := ⟨_, rfl⟩
    rw [← h3]
    have g : ∀ t r c, t ≠ 11 → zz_g t r c s3 = zz_g t r c s := fun t r c h => by rw [h3, zp_gn h, zp_gn h, zp_gn h]
    have lay : ze_L a k s3 := hl.other (fun r c => g 12 r c (by decide)) (fun r c => g 13 r c (by decide)) (fun r c => g 15 r c (by decide)) (fun r c => g 1 r c (by decide))
    have h1 : zz_g 11 (nI a) 1 s3 = nI k := by
      rw [h3, zg11 ha ha (by decide) (by decide), if_neg (fun q => absurd q.2 (by decide)), zg11 ha ha (by decide) (by decide), if_neg (fun q => absurd q.2 (by decide)), zg11 ha ha (by decide) (by decide), if_pos ⟨rfl, rfl⟩]
    refine .ret ⟨rfl, ?_, fun c hc => ?_, ⟨k, ze_P0 h1 hn lay⟩, lay.2.2.2⟩
    · show ze_R a st s3
      rw [h3]
      exact ze_set11 (ze_set11 (ze_set11 hR ha (by decide)) ha (by decide)) ha (by decide)
    · show zz_g 11 (nI a) c s3 = _
      have hc7 : 0 ≤ c ∧ c < 7 := by rcases hc with rfl | rfl | rfl | rfl <;> decide
      have n6 : c ≠ 6 := by rcases hc with rfl | rfl | rfl | rfl <;> decide
      have n5 : c ≠ 5 := by rcases hc with rfl | rfl | rfl | rfl <;> decide
      have n1 : c ≠ 1 := by rcases hc with rfl | rfl | rfl | rfl <;> decide
      rw [h3, zg11 ha ha (by decide) hc7, if_neg (fun q => n6 q.2), zg11 ha ha (by decide) hc7, if_neg (fun q => n5 q.2), zg11 ha ha (by decide) hc7, if_neg (fun q => n1 q.2)]
      exact hf c hc7
  | succ d ih =>
    intro m k B at' s hk hm hB hR hf hl
    obtain ⟨m, rfl⟩ : ∃ j, m = j + 1 := ⟨m - 1, by omega⟩
    rw [zX2_lay_75, if_neg (nI_ge (show k < n by omega) (by omega))]
    simp only [zz_v]
    have hx : zp_li 8 (zX1_firstOf at' goal s) := by
      show zp_li 8 (zz_g 3 at' goal s)
      rw [hR.1.g (by decide)]
      exact hL.2.2.g ze_li0 _ _
    obtain ⟨x, ex⟩ : ∃ x, x = zX1_firstOf at' goal s := ⟨_, rfl⟩
    rw [← ex] at hx ⊢
    have hLs : ∀ l, l < 8 → zi_ln l s := (zi_L_F hR.1 (by decide) (by decide) (by decide) hL).2.1
    have fin : ∀ (fw : Int32) (w : Bool) (B' : Nat), B' ≤ B + 1 → zp_ok (zX2_lay_75 11 m (nI a) goal (nI n) (zX1_endOf x w (zX2_noteTrack 11 x (zz_set 14 (nI a) x fw (zz_set 13 (nI a) x (nI B') (zz_set 12 (nI a) (nI k) x s))))) (nI B' + zX1_getLine x 7 (zX2_noteTrack 11 x (zz_set 14 (nI a) x fw (zz_set 13 (nI a) x (nI B') (zz_set 12 (nI a) (nI k) x s))))) (nI k + 1) (zX2_noteTrack 11 x (zz_set 14 (nI a) x fw (zz_set 13 (nI a) x (nI B') (zz_set 12 (nI a) (nI k) x s))))) (fun x => x.1 = true ∧ ze_laid a st x.2) := by
      intro fw w B' hB'
      obtain ⟨s', es, r1, r2, r3, r4, ⟨t, ht, et⟩⟩ := ze_step ha (show k < 10 by omega) hLs hR hf hl hx (B := B') (by omega) fw
      rw [← es, show zX1_getLine x 7 s' = nI t from et, nI_add, nI_1]
      exact ih m (k + 1) (B' + t) _ s' (by omega) (by omega) (by omega) r1 r2 r3
    have go : ∀ w y : Bool, zp_ok (zX2_lay_123 11 (fun v1' v4' v5' v6' v7' v8' st' => zX2_lay_75 11 m v1' v4' v5' v6' v7' v8' st') (nI a) goal (nI n) (nI k) x w (nI B) y s) (fun x => x.1 = true ∧ ze_laid a st x.2) := by
      intro w y
      obtain ⟨B', hB', eB⟩ : ∃ B', B' ≤ B + 1 ∧ nI B + zz_b y = nI B' := by
        cases y
        · exact ⟨B, by omega, Int32.add_zero _⟩
        · exact ⟨B + 1, by omega, nI_1 B⟩
      unfold zX2_lay_123 zX2_lay_167
      simp only [zz_v, Nat.reduceAdd, eB]
      exact zp_ite (fun _ => fin _ _ B' hB') (fun _ => fin _ _ B' hB')
    exact zp_ite (fun _ => zp_ite (fun _ => go _ _) (fun _ => go _ _)) (fun _ => zp_ite (fun _ => go _ _) (fun _ => go _ _))
theorem ze_lay {a : Nat} {h : Int32} {st : zz_T} (ha : a < 54) (hL : zi_L st) : zp_ok (zX2_lay 11 (nI a) h st) (fun x => ze_R a st x.2 ∧ (x.1 = true → ze_laid a st x.2)) := by
  have no : zp_ok (some (false, st)) (fun x : Bool × zz_T => ze_R a st x.2 ∧ (x.1 = true → ze_laid a st x.2)) := .ret ⟨ze_R.rfl, fun q => absurd (show false = true from q) (by decide)⟩
  unfold zX2_lay
  simp only [zz_v]
  refine zp_ite (fun _ => no) (fun _ => zp_ite (fun _ => no) (fun ht => ?_))
  obtain ⟨goal, eg⟩ : ∃ goal, goal = zz_g (11 + 0) (nI a) 3 st := ⟨_, rfl⟩
  rw [← eg] at ht ⊢
  refine zp_loop0 (F := fun m v (s : zz_T) => zX2_lay_33 11 m (nI a) h goal v s) (N := 14) (by decide) (fun k s => ze_R a st s ∧ (∀ c : Int32, 0 ≤ c ∧ c < 7 → zz_g 11 (nI a) c s = zz_g 11 (nI a) c st) ∧ ∀ l, l < k → zz_g 13 (nI a) (nI l) s = -1) (fun m s hs => ?_) (fun m k s hk hs ih => ?_) ⟨ze_R.rfl, fun _ _ => rfl, fun l hl => absurd hl (Nat.not_lt_zero l)⟩
  · obtain ⟨hR, hf, ho⟩ := hs
    rw [zX2_lay_33, if_pos (by decide)]
    refine (ze_linesOf s h goal).bind (fun r hr => ?_)
    rcases hr with ⟨q, -⟩ | ⟨n, hn, rfl⟩
    · exact absurd (show zX1_timeOf h goal st = -1 from by rw [← q]; exact (hR.1.g (by decide) _ _).symm) ht
    · have off : ∀ l, l < 8 → ¬ zi_on 11 a l s := fun l hl q => q (ho l (by omega))
      refine (ze_lay75 ha hL hn n zz_N 0 0 h s (by omega) (by show _ < 1000; omega) (by omega) hR hf ⟨fun i hi => absurd hi (Nat.not_lt_zero i), fun i l hi => absurd hi (Nat.not_lt_zero i), fun l hl q => absurd q (off l hl), fun l hl q => absurd q (off l hl)⟩).mono (fun x hx => ⟨hx.2.1, fun _ => hx.2⟩)
  · obtain ⟨hR, hf, ho⟩ := hs
    rw [zX2_lay_33, if_neg (show ¬ (14 : Int32) ≤ nI k from nI_ge (a := k) (b := 14) hk (by decide))]
    simp only [zz_v, Nat.reduceAdd]
    have ck := ze_col hk
    refine ih _ ⟨ze_set1x (Or.inr (Or.inl rfl)) hR ha ck, fun c hc => by rw [zp_gn (by decide)]; exact hf c hc, fun l hl => ?_⟩
    rw [zg13 ha ha ck (ze_col (k := l) (by omega))]
    by_cases q : l = k
    · rw [if_pos ⟨rfl, by rw [q]⟩]
    · rw [if_neg (fun e => q ((nI_eq (by omega) (by omega)).mp e.2))]
      exact ho l (by omega)
/-- RAMPS: it ends -/
theorem ze_atRamps (x y : Int32) (st : zz_T) : zp_ok (zX2_countAtRamps 11 x y st) (fun _ => True) := by
  unfold zX2_countAtRamps
  refine zp_loop0 (F := fun n v (a : Int32) => zX2_countAtRamps_5 11 n x y a v st) (N := 54) (by decide) (fun _ _ => True) (fun n a _ => ?_) (fun n k a hk _ ih => ?_) trivial
  · rw [zX2_countAtRamps_5, if_pos (by decide)]; exact .ret trivial
  · rw [zX2_countAtRamps_5, if_neg (show ¬ (54 : Int32) ≤ nI k from nI_ge (a := k) (b := 54) hk (by decide))]
    simp only [zz_v]
    exact zp_ite (fun _ => ih _ trivial) (fun _ => zp_ite (fun _ => zp_ite (fun _ => ih _ trivial) (fun _ => zp_ite (fun _ => ih _ trivial) (fun _ => ih _ trivial))) (fun _ => ih _ trivial))
theorem ze_ramps {a : Nat} {st : zz_T} (hU : zp_bl 10 (zz_g 11 (nI a) 4 st)) : zp_ok (zX2_foulsAtRamps 11 (nI a) st) (fun _ => True) := by
  obtain ⟨U, hU10, eU⟩ := hU
  have loop : ∀ (x : Int32) (d m k : Nat), k + d = U → d < m → zp_ok (zX2_foulsAtRamps_10 11 m (nI a) x (x + nI k) st) (fun _ => True) := by
    intro x d
    induction d with
    | zero =>
      intro m k hk hm
      obtain ⟨m, rfl⟩ : ∃ j, m = j + 1 := ⟨m - 1, by omega⟩
      obtain rfl : k = U := by omega
      rw [zX2_foulsAtRamps_10, show zz_g (11 + 0) (nI a) 4 st = nI k from eU, if_pos (Int32.le_refl _)]
      exact .ret trivial
    | succ d ih =>
      intro m k hk hm
      obtain ⟨m, rfl⟩ : ∃ j, m = j + 1 := ⟨m - 1, by omega⟩
      rw [zX2_foulsAtRamps_10]
      refine zp_ite (fun _ => .ret trivial) (fun _ => (ze_atRamps _ _ st).bind (fun r _ => zp_ite (fun _ => ?_) (fun _ => .ret trivial)))
      rw [Int32.add_assoc, nI_1]
      exact ih m (k + 1) (by omega) (by omega)
  unfold zX2_foulsAtRamps
  simp only [zz_v]
  have := loop (zX2_arrivesOf 11 (nI a) st + 1) U zz_N 0 (by omega) (by show _ < 1000; omega)
  rw [show nI 0 = 0 from rfl, Int32.add_zero] at this
  exact this
/-- one START set or taken away, nothing else -/
def zf_R (a : Nat) (st s : zz_T) : Prop := zp_F [11] [] st s ∧ ∀ r, r < 54 → ∀ c : Int32, 0 ≤ c ∧ c < 7 → ¬ (r = a ∧ c = 0) → zz_g 11 (nI r) c s = zz_g 11 (nI r) c st
theorem zf_R.ze {a : Nat} {st s : zz_T} (h : zf_R a st s) : ze_R a st s := ⟨h.1.mono (by decide) (by decide), fun r hr hra c => ⟨fun hc => h.2 r hr c hc (fun q => hra q.1), fun _ => ⟨h.1.g (by decide) _ _, h.1.g (by decide) _ _, h.1.g (by decide) _ _⟩⟩, fun l _ _ c _ => h.1.g (by decide) _ _⟩
theorem zf_R.set {a : Nat} {st s : zz_T} (h : zf_R a st s) (ha : a < 54) (v : Int32) : zf_R a st (zz_set 11 (nI a) 0 v s) := by
  refine ⟨h.1.set (by decide), fun r hr c hc hn => ?_⟩
  rw [zg11 ha hr (by decide) hc, if_neg hn]
  exact h.2 r hr c hc hn
theorem zf_R.P0 {a n : Nat} {st s : zz_T} (h : zf_R a st s) (ha : a < 54) (h0 : zi_P0 11 a n st) : zi_P0 11 a n s := by
  obtain ⟨q1, q2, q3, q4, q5⟩ := h0
  have on : ∀ l, (zi_on 11 a l s ↔ zi_on 11 a l st) := fun l => by
    unfold zi_on
    simp only [Nat.reduceAdd]
    rw [h.1.g (by decide)]
  have stp : ∀ i, zz_g (11 + 1) (nI a) (nI i) s = zz_g (11 + 1) (nI a) (nI i) st := fun i => h.1.g (by decide) _ _
  refine ⟨by rw [h.2 a ha 1 (by decide) (fun q => absurd q.2 (by decide))]; exact q1, q2, fun i hi => by rw [stp]; exact q3 i hi, fun i l hi hl e => (on l).mpr (q4 i l hi hl (by rw [← stp]; exact e)), fun l hl ho => ?_⟩
  obtain ⟨i, hi, e⟩ := q5 l hl ((on l).mp ho)
  exact ⟨i, hi, by rw [stp]; exact e⟩
theorem zf_low : ∀ l, l < 8 → (-20 : Int32) ≤ -10 - nI l ∧ (-10 : Int32) - nI l < 0 := by decide +kernel
theorem ze_find {a n fr M : Nat} {st : zz_T} (ha : a < 54) (h0 : zi_P0 11 a n st) (hB : ∀ x, x < 54 → x ≠ a → zi_kept 11 x st → ∃ s, s ≤ 3200 ∧ zz_g 11 (nI x) 0 st = nI s) (hU : zp_bl 10 (zz_g 11 (nI a) 4 st)) (hM : M ≤ 3200) (hf : fr ≤ M + 1) (hd : M + 1 - fr < 999) :
    zp_ok (zX2_findStart 11 (nI a) (nI fr) (nI M) st) (fun x => zf_R a st x.2 ∧ -20 ≤ x.1 ∧ (¬ x.1 < 0 → ∃ s, (fr ≤ s ∧ s ≤ M) ∧ x.1 = nI s ∧ zz_g 11 (nI a) 0 x.2 = nI s ∧ ∀ y, y < 54 → y ≠ a → zi_kept 11 y x.2 → zi_P2 11 a y x.2)) := by
  have first : ∀ (k : Nat) (s : zz_T), k ≤ M → zf_R a st s → zp_ok (zX2_firstFouledLine 11 (nI a) (zz_set 11 (nI a) 0 (nI k) s)) (fun r => zp_li 8 r ∧ (r = -1 ↔ ∀ i, i < n → ∀ y, y < 54 → zb_ok 11 a y (zz_g (11 + 1) (nI a) (nI i) (zz_set 11 (nI a) 0 (nI k) s)) (zz_set 11 (nI a) 0 (nI k) s))) := by
    intro k s hk hs
    have e0 : zz_g 11 (nI a) 0 (zz_set 11 (nI a) 0 (nI k) s) = nI k := by rw [zg11 ha ha (by decide) (by decide), if_pos ⟨rfl, rfl⟩]
    refine zb_first ha ((hs.set ha _).P0 ha h0) ⟨by omega, e0⟩ (fun y hy hky => ?_)
    by_cases q : y = a
    · rw [q]; exact ⟨k, by omega, e0⟩
    · have e := (hs.set ha (nI k)).2 y hy 0 (by decide) (fun q' => q q'.1)
      unfold zi_kept at hky
      rw [e] at hky ⊢
      exact hB y hy q hky
  have loop : ∀ (d m k : Nat) (s : zz_T), k + d = M + 1 → d < m → fr ≤ k → zf_R a st s → zp_ok (zX2_findStart_3 11 m (nI a) (nI M) (nI k) s) (fun x => zf_R a st x.2 ∧ -20 ≤ x.1 ∧ (¬ x.1 < 0 → ∃ s, (fr ≤ s ∧ s ≤ M) ∧ x.1 = nI s ∧ zz_g 11 (nI a) 0 x.2 = nI s ∧ ∀ y, y < 54 → y ≠ a → zi_kept 11 y x.2 → zi_P2 11 a y x.2)) := by
    intro d
    induction d with
    | zero =>
      intro m k s hk hm hfk hs
      obtain ⟨m, rfl⟩ : ∃ j, m = j + 1 := ⟨m - 1, by omega⟩
      obtain rfl : k = M + 1 := by omega
      rw [zX2_findStart_3, nI_1, if_pos (nI_le (Nat.le_refl _) (by omega))]
      simp only [zz_v, Nat.add_zero]
      refine (first M s (Nat.le_refl _) hs).bind (fun r hr => ?_)
      have hz := (hs.set ha (nI M)).set ha (-1)
      rcases hr.1 with rfl | ⟨l, hl, rfl⟩
      · rw [if_pos rfl]
        exact .ret ⟨hz, (show (-20 : Int32) ≤ -3 by decide), fun q => absurd (show (-3 : Int32) < 0 by decide) q⟩
      · rw [if_neg (fun q => absurd (q ▸ (by decide : (-1 : Int32) < 0)) (nI_pos (by omega)))]
        exact .ret ⟨hz, (zf_low l hl).1, fun q => absurd (zf_low l hl).2 q⟩
    | succ d ih =>
      intro m k s hk hm hfk hs
      obtain ⟨m, rfl⟩ : ∃ j, m = j + 1 := ⟨m - 1, by omega⟩
      rw [zX2_findStart_3, nI_1, if_neg (nI_ge (show k < M + 1 by omega) (by omega))]
      simp only [zz_v, Nat.add_zero]
      have nx : zp_ok (zX2_findStart_3 11 m (nI a) (nI M) (nI k + 1) (zz_set 11 (nI a) 0 (nI k) s)) (fun x => zf_R a st x.2 ∧ -20 ≤ x.1 ∧ (¬ x.1 < 0 → ∃ s, (fr ≤ s ∧ s ≤ M) ∧ x.1 = nI s ∧ zz_g 11 (nI a) 0 x.2 = nI s ∧ ∀ y, y < 54 → y ≠ a → zi_kept 11 y x.2 → zi_P2 11 a y x.2)) := by
        rw [nI_1]
        exact ih m (k + 1) _ (by omega) (by omega) (by omega) (hs.set ha _)
      have hs1 := hs.set ha (nI k)
      refine (first k s (by omega) hs).bind (fun r hr => zp_ite (fun h1 => ?_) (fun _ => nx))
      have hU1 : zp_bl 10 (zz_g 11 (nI a) 4 (zz_set 11 (nI a) 0 (nI k) s)) := by
        rw [hs1.2 a ha 4 (by decide) (fun q => absurd q.2 (by decide))]; exact hU
      refine (ze_ramps hU1).bind (fun r2 _ => zp_ite (fun _ => nx) (fun _ => .ret ⟨hs1, ?_, fun _ => ⟨k, ⟨hfk, by omega⟩, rfl, ?_, fun y hy hya hky l hl ho hoy => ?_⟩⟩))
      · exact Int32.le_trans (by decide : (-20 : Int32) ≤ 0) (nI_pos' (by omega))
      · show zz_g 11 (nI a) 0 (zz_set 11 (nI a) 0 (nI k) s) = nI k
        rw [zg11 ha ha (by decide) (by decide), if_pos ⟨rfl, rfl⟩]
      · obtain ⟨i, hi, e⟩ := (hs1.P0 ha h0).2.2.2.2 l hl ho
        have := hr.2.mp h1 i hi y hy
        rw [e] at this
        exact this hky hya hoy
  unfold zX2_findStart
  exact loop (M + 1 - fr) zz_N fr st (by omega) (by show _ < 1000; omega) (Nat.le_refl _) ⟨.rfl, fun _ _ _ _ _ => rfl⟩
/-- the trial book with a new PATH -/
theorem ze_P {a : Nat} {s s' : zz_T} (h : ze_R a s s') (hn : a < 54 → zi_kept 11 a s' → zi_P1 11 a s' ∧ ∀ y, y < 54 → y ≠ a → zi_kept 11 y s' → zi_P2 11 a y s') (hP : zi_P 11 s) : zi_P 11 s' :=
  zi_P_ext (b := 11) (a0 := a) (fun x hx hne _ c hc => (h.2.1 x hx hne c).1 hc) (fun x hx hne _ c hc => ((h.2.1 x hx hne c).2 hc).1) (fun x hx hne _ c hc => ((h.2.1 x hx hne c).2 hc).2.1) (fun x hx hne _ c hc => ((h.2.1 x hx hne c).2 hc).2.2) (fun l hl ht c hc => h.2.2 l hl ht c hc) (fun l _ c _ => h.1.g (by decide) _ _) hn hP
/-- described, laid, and with a START -/
theorem ze_one {a sec fr M : Nat} {rail unl h : Int32} {st : zz_T} (ha : a < 54) (hL : zi_L st) (hP : zi_P 11 st) (hsec : sec < 3) (hunl : zp_bl 10 unl) (hno : ¬ zi_kept 11 a st) (hM : M ≤ 3200) (hf : fr ≤ M + 1) (hd : M + 1 - fr < 999) :
    zp_ok (zX2_lay 11 (nI a) h (zX2_describe 11 (nI a) (nI sec) rail unl st)) (fun x => zp_F [11, 12, 13, 14, 15] [] st x.2 ∧ (x.1 = true → zp_ok (zX2_findStart 11 (nI a) (nI fr) (nI M) x.2) (fun y => zp_F [11, 12, 13, 14, 15] [] st y.2 ∧ -20 ≤ y.1 ∧ (¬ y.1 < 0 → (∃ s, (fr ≤ s ∧ s ≤ M) ∧ y.1 = nI s) ∧ zi_P 11 y.2 ∧ ∀ x, x < 54 → (zi_kept 11 x y.2 ↔ (zi_kept 11 x st ∨ x = a)))))) := by
  obtain ⟨s7, e7⟩ : ∃ s7, s7 = zX2_describe 11 (nI a) (nI sec) rail unl st := ⟨_, rfl⟩
  rw [← e7]
  have d7 : s7 = zz_set 11 (nI a) 4 unl (zz_set 11 (nI a) 3 rail (zz_set 11 (nI a) 2 (nI sec) st)) := e7
  have R7 : ze_R a st s7 := by
    rw [d7]
    exact ze_set11 (ze_set11 (ze_set11 ze_R.rfl ha (by decide)) ha (by decide)) ha (by decide)
  have f4 : zz_g 11 (nI a) 4 s7 = unl := by rw [d7, zg11 ha ha (by decide) (by decide), if_pos ⟨rfl, rfl⟩]
  have f2 : zz_g 11 (nI a) 2 s7 = nI sec := by
    rw [d7, zg11 ha ha (by decide) (by decide), if_neg (fun q => absurd q.2 (by decide)), zg11 ha ha (by decide) (by decide), if_neg (fun q => absurd q.2 (by decide)), zg11 ha ha (by decide) (by decide), if_pos ⟨rfl, rfl⟩]
  refine (ze_lay ha (zi_L_F R7.1 (by decide) (by decide) (by decide) hL)).mono (fun x hx => ⟨R7.1.trans hx.1.1, fun hx1 => ?_⟩)
  obtain ⟨L1, L2, ⟨n, L3⟩, L4⟩ := hx.2 hx1
  have R2 : ze_R a st x.2 := R7.trans L1
  have hB : ∀ y, y < 54 → y ≠ a → zi_kept 11 y x.2 → ∃ s, s ≤ 3200 ∧ zz_g 11 (nI y) 0 x.2 = nI s := fun y hy hne hk => by
    have e := (R2.2.1 y hy hne 0).1 (by decide)
    unfold zi_kept at hk
    rw [e] at hk ⊢
    exact (hP.1 y hy hk).1
  refine (ze_find ha L3 hB (by rw [L2 4 (by simp), f4]; exact hunl) hM hf hd).mono (fun y hy => ?_)
  obtain ⟨F1, F2, F3⟩ := hy
  have R3 : ze_R a st y.2 := R2.trans F1.ze
  refine ⟨R3.1, F2, fun hy0 => ?_⟩
  obtain ⟨s, hs, e1, e2, e3⟩ := F3 hy0
  refine ⟨⟨s, hs, e1⟩, ze_P R3 (fun _ hk => ⟨⟨⟨s, by omega, e2⟩, ⟨sec, hsec, ?_⟩, ⟨n, F1.P0 ha L3⟩, fun l hl ho => ?_⟩, e3⟩) hP, fun z hz => ?_⟩
  · rw [F1.2 a ha 2 (by decide) (fun q => absurd q.2 (by decide)), L2 2 (by simp), f2]
  · have ho' : zi_on 11 a l x.2 := by
      unfold zi_on at ho ⊢
      simp only [Nat.reduceAdd] at ho ⊢
      rw [← F1.1.g (by decide)]
      exact ho
    have := L4 l hl ho'
    unfold zi_tr at this ⊢
    simp only [Nat.reduceAdd] at this ⊢
    rw [F1.1.g (by decide), F1.1.g (by decide), F1.1.g (by decide), F1.1.g (by decide), F1.1.g (by decide), F1.1.g (by decide)]
    exact this
  · by_cases q : z = a
    · subst q
      refine ⟨fun _ => Or.inr rfl, fun _ => ?_⟩
      unfold zi_kept
      rw [e2]
      exact fun w => absurd (w ▸ (by decide : (-1 : Int32) < 0)) (nI_pos (by omega))
    · have e := (R3.2.1 z hz q 0).1 (by decide)
      unfold zi_kept
      rw [e]
      exact ⟨Or.inl, fun w => w.resolve_right q⟩
theorem ze_unl {k : Int32} (h : zp_bl 5 k) (st : zz_T) : zp_bl 10 (zX7_unloadingOf k st) := by
  obtain ⟨j, hj, rfl⟩ := h
  rcases (show j = 0 ∨ j = 1 ∨ j = 2 ∨ j = 3 ∨ j = 4 by omega) with rfl | rfl | rfl | rfl | rfl
  · exact ⟨2, by decide, (show _ = _ from by unfold zX7_unloadingOf; decide)⟩
  · exact ⟨3, by decide, (show _ = _ from by unfold zX7_unloadingOf; decide)⟩
  · exact ⟨6, by decide, (show _ = _ from by unfold zX7_unloadingOf; decide)⟩
  · exact ⟨9, by decide, (show _ = _ from by unfold zX7_unloadingOf; decide)⟩
  · exact ⟨4, by decide, (show _ = _ from by unfold zX7_unloadingOf; decide)⟩
/-- a UNIT planned -/
theorem ze_plan {u g L sec fr : Nat} {st : zz_T} (hu : u < 6) (hg : zz_g 4 (nI u) 7 st = nI g) (hLd : zz_g 4 (nI u) 1 st = nI L) (hgL : g ≤ L) (hL8 : L ≤ 8) (hk : zp_bl 5 (zz_g 4 (nI u) 0 st)) (hsec : sec < 3) (hfr : fr ≤ 2912) (hLa : zi_L st) (hP : zi_P 11 st) (hno : ∀ j, g ≤ j → j < L → ¬ zi_kept 11 (8 * u + j) st) :
    zp_ok (zX8_planUnit (nI u) (nI sec) (nI fr) st) (fun x => zp_F [11, 12, 13, 14, 15] [] st x.2 ∧ -20 ≤ x.1 ∧ (¬ x.1 < 0 → zi_P 11 x.2 ∧ ∀ y, y < 54 → (zi_kept 11 y x.2 ↔ (zi_kept 11 y st ∨ zd_w u g L y)))) := by
  unfold zX8_planUnit
  simp only [zz_v]
  rw [show zX7_get (nI u) 7 st = nI g from hg]
  obtain ⟨unl, hunl, eunl⟩ : ∃ unl, zp_bl 10 unl ∧ unl = zX7_unloadingOf (zX7_get (nI u) 0 st) st := ⟨_, ze_unl hk st, rfl⟩
  rw [← eunl]
  obtain ⟨rail, erail⟩ : ∃ rail, rail = zX3_get (nI sec) 0 st := ⟨_, rfl⟩
  rw [← erail]
  obtain ⟨home, ehome⟩ : ∃ home, home = zX7_get (nI u) 2 st := ⟨_, rfl⟩
  rw [← ehome]
  have loop : ∀ (d m k b : Nat) (v : Int32) (s : zz_T), k + d = L → d < m → g ≤ k → v + 1 = nI b → -20 ≤ v → fr ≤ b ∧ b ≤ fr + 289 → zp_F [11, 12, 13, 14, 15] [] st s → zi_P 11 s → (∀ y, y < 54 → (zi_kept 11 y s ↔ (zi_kept 11 y st ∨ zd_w u g k y))) →
      zp_ok (zX8_planUnit_53 m (nI u) (nI sec) (nI fr) home rail unl v (nI k) s) (fun x => zp_F [11, 12, 13, 14, 15] [] st x.2 ∧ -20 ≤ x.1 ∧ (¬ x.1 < 0 → zi_P 11 x.2 ∧ ∀ y, y < 54 → (zi_kept 11 y x.2 ↔ (zi_kept 11 y st ∨ zd_w u g L y)))) := by
    intro d
    induction d with
    | zero =>
      intro m k b v s hkd hm hgk hv hv20 hb hF hPs hks
      obtain ⟨m, rfl⟩ : ∃ j, m = j + 1 := ⟨m - 1, by omega⟩
      obtain rfl : k = L := by omega
      rw [zX8_planUnit_53, show zX7_get (nI u) 1 s = nI k from (hF.g (by decide) _ _).trans hLd, if_pos (nI_le (Nat.le_refl _) (by omega))]
      exact .ret ⟨hF, hv20, fun _ => ⟨hPs, hks⟩⟩
    | succ d ih =>
      intro m k b v s hkd hm hgk hv hv20 hb hF hPs hks
      obtain ⟨m, rfl⟩ : ∃ j, m = j + 1 := ⟨m - 1, by omega⟩
      rw [zX8_planUnit_53, show zX7_get (nI u) 1 s = nI L from (hF.g (by decide) _ _).trans hLd, if_neg (nI_ge (show k < L by omega) (by omega))]
      simp only [zz_v, zr_slot]
      have hnk : ¬ zi_kept 11 (8 * u + k) s := fun q => by
        rcases (hks _ (by omega)).mp q with w | ⟨j, j1, j2, j3⟩
        · exact hno k hgk (by omega) w
        · omega
      refine (ze_one (a := 8 * u + k) (sec := sec) (fr := b) (M := fr + 288) (rail := rail) (unl := unl) (h := home) (by omega) (zi_L_F hF (by decide) (by decide) (by decide) hLa) hPs hsec hunl hnk (by omega) (by omega) (by omega)).bind (fun x hx => zp_ite (fun h1 => ?_) (fun _ => .ret ⟨hF.trans hx.1, (show (-20 : Int32) ≤ -2 by decide), fun q => absurd (show (-2 : Int32) < 0 by decide) q⟩))
      rw [hv, show nI fr + 288 = nI (fr + 288) from nI_add fr 288]
      refine (hx.2 h1).bind (fun y hy => zp_ite (fun h2 => ?_) (fun h2 => .ret ⟨hF.trans hy.1, hy.2.1, fun q => absurd (Int32.not_lt.mp q) h2⟩))
      obtain ⟨⟨s', hs', es'⟩, hP', hk'⟩ := hy.2.2 (Int32.not_lt.mpr h2)
      rw [nI_1]
      refine ih m (k + 1) (s' + 1) y.1 y.2 (by omega) (by omega) (by omega) (by rw [es', nI_1]) hy.2.1 (by omega) (hF.trans hy.1) hP' (fun z hz => ?_)
      rw [hk' z hz, hks z hz]
      refine ⟨?_, ?_⟩
      · rintro ((w | ⟨j, j1, j2, j3⟩) | w)
        · exact Or.inl w
        · exact Or.inr ⟨j, j1, by omega, j3⟩
        · exact Or.inr ⟨k, hgk, by omega, w⟩
      · rintro (w | ⟨j, j1, j2, j3⟩)
        · exact Or.inl (Or.inl w)
        · by_cases q : j = k
          · rw [q] at j3; exact Or.inr j3
          · exact Or.inl (Or.inr ⟨j, j1, by omega, j3⟩)
  refine loop (L - g) zz_N g fr _ st (by omega) (by show _ < 1000; omega) (Nat.le_refl _) (Int32.sub_add_cancel _ _) ?_ ⟨Nat.le_refl _, by omega⟩ .rfl hP (fun y _ => ⟨Or.inl, fun w => w.elim id (fun ⟨j, j1, j2, _⟩ => by omega)⟩)
  by_cases q : fr = 0
  · rw [q]; decide
  · obtain ⟨j, rfl⟩ : ∃ j, fr = j + 1 := ⟨fr - 1, by omega⟩
    rw [nI_pred]
    exact Int32.le_trans (by decide : (-20 : Int32) ≤ 0) (nI_pos' (by omega))
