/-! PURE: what the readers answer -/
abbrev zr_at (s : Nat) (st : zz_T) : Nat → Nat := fun i => zp_b ((zi_how i st = 0 ∨ zi_how i st = 2) ∧ zz_g 16 (nI i) 3 st = nI s)
abbrev zr_on (l : Nat) (st : zz_T) : Nat → Nat := fun i => zp_b (zi_how i st = 1 ∧ zz_g 16 (nI i) 3 st = nI l)
theorem zr_isAt (k : Nat) (v : Int32) (st : zz_T) : zX6_isAt (nI k) v st = true ↔ (zi_how k st = 0 ∨ zi_how k st = 2) ∧ zz_g 16 (nI k) 3 st = v := by
  unfold zX6_isAt zi_how
  simp only [zz_v]
  by_cases h0 : zz_g 16 (nI k) 2 st = 0 <;> by_cases h2 : zz_g 16 (nI k) 2 st = 2 <;> by_cases h3 : zz_g 16 (nI k) 3 st = v <;> simp [h0, h2, h3]
theorem zr_isOn (k : Nat) (v : Int32) (st : zz_T) : zX6_isOn (nI k) v st = true ↔ zi_how k st = 1 ∧ zz_g 16 (nI k) 3 st = v := by
  unfold zX6_isOn zi_how
  by_cases h0 : zz_g 16 (nI k) 2 st = 1 <;> by_cases h3 : zz_g 16 (nI k) 3 st = v <;> simp [h0, h3]
theorem zr_countAt {st : zz_T} {T : Nat} (hT : st.2 5 = nI T) (h60 : T ≤ 60) (s : Nat) : zX6_countAt (nI s) st = some (nI (zp_s (zr_at s st) 0 T)) := by
  unfold zX6_countAt
  refine zp_sum0 (F := fun n v a => zX6_countAt_4 n (nI s) a v st) (N := T) (by omega) _ (fun n a => ?_) (fun n k a hk => ?_)
  · rw [zX6_countAt_4, hT, if_pos (nI_le (Nat.le_refl _) (by omega))]
  · rw [zX6_countAt_4, hT, if_neg (nI_ge hk (by omega))]
    simp only [zz_v]
    dsimp only [zr_at]
    by_cases h : zX6_isAt (nI k) (nI s) st = true
    · rw [if_pos h, zp_b1 ((zr_isAt k _ st).mp h)]; rfl
    · rw [if_neg h, zp_b0 (fun q => h ((zr_isAt k _ st).mpr q))]; rfl
theorem zr_countOn {st : zz_T} {T : Nat} (hT : st.2 5 = nI T) (h60 : T ≤ 60) (l : Nat) : zX6_countOn (nI l) st = some (nI (zp_s (zr_on l st) 0 T)) := by
  unfold zX6_countOn
  refine zp_sum0 (F := fun n v a => zX6_countOn_4 n (nI l) a v st) (N := T) (by omega) _ (fun n a => ?_) (fun n k a hk => ?_)
  · rw [zX6_countOn_4, hT, if_pos (nI_le (Nat.le_refl _) (by omega))]
  · rw [zX6_countOn_4, hT, if_neg (nI_ge hk (by omega))]
    simp only [zz_v]
    dsimp only [zr_on]
    by_cases h : zX6_isOn (nI k) (nI l) st = true
    · rw [if_pos h, zp_b1 ((zr_isOn k _ st).mp h)]; rfl
    · rw [if_neg h, zp_b0 (fun q => h ((zr_isOn k _ st).mpr q))]; rfl
theorem zr_countUnloading {st : zz_T} {T : Nat} (hT : st.2 5 = nI T) (h60 : T ≤ 60) (s : Nat) : zX6_countUnloadingAt (nI s) st = some (nI (zp_s (zi_fu s st) 0 T)) := by
  unfold zX6_countUnloadingAt
  refine zp_sum0 (F := fun n v a => zX6_countUnloadingAt_4 n (nI s) a v st) (N := T) (by omega) _ (fun n a => ?_) (fun n k a hk => ?_)
  · rw [zX6_countUnloadingAt_4, hT, if_pos (nI_le (Nat.le_refl _) (by omega))]
  · rw [zX6_countUnloadingAt_4, hT, if_neg (nI_ge hk (by omega))]
    simp only [zz_v]
    unfold zi_fu
    by_cases h : zX6_isAt (nI k) (nI s) st = true
    · rw [if_pos h]
      have h' := (zr_isAt k _ st).mp h
      by_cases h2 : zz_g 16 (nI k) 2 st = 2
      · rw [if_pos h2, zp_b1 ⟨h2, h'.2⟩]; rfl
      · rw [if_neg h2, zp_b0 (fun q => h2 q.1)]; rfl
    · rw [if_neg h, zp_b0 (fun q => h ((zr_isAt k _ st).mpr ⟨Or.inr q.1, q.2⟩))]; rfl
theorem zr_countGuests {st : zz_T} {T : Nat} (hT : st.2 5 = nI T) (h60 : T ≤ 60) (s : Nat) : zX6_countGuestsAt (nI s) st = some (nI (zp_s (zi_fg s st) 0 T)) := by
  unfold zX6_countGuestsAt
  refine zp_sum0 (F := fun n v a => zX6_countGuestsAt_4 n (nI s) a v st) (N := T) (by omega) _ (fun n a => ?_) (fun n k a hk => ?_)
  · rw [zX6_countGuestsAt_4, hT, if_pos (nI_le (Nat.le_refl _) (by omega))]
  · rw [zX6_countGuestsAt_4, hT, if_neg (nI_ge hk (by omega))]
    simp only [zz_v]
    unfold zi_fg
    by_cases h : zX6_isAt (nI k) (nI s) st = true
    · rw [if_pos h]
      have h' := (zr_isAt k _ st).mp h
      by_cases h2 : zz_g 16 (nI k) 12 st = nI s
      · rw [if_pos h2, zp_b0 (fun q => q.2.2 h2)]; rfl
      · rw [if_neg h2, zp_b1 ⟨h'.1, h'.2, h2⟩]; rfl
    · rw [if_neg h, zp_b0 (fun q => h ((zr_isAt k _ st).mpr ⟨q.1, q.2.1⟩))]; rfl
theorem zr_countDone {st : zz_T} {T : Nat} (hT : st.2 5 = nI T) (h60 : T ≤ 60) : zX6_countDone st = some (nI (zp_s (fun i => zp_b (zi_how i st = 3)) 0 T)) := by
  unfold zX6_countDone
  refine zp_sum0 (F := fun n v a => zX6_countDone_4 n a v st) (N := T) (by omega) _ (fun n a => ?_) (fun n k a hk => ?_)
  · rw [zX6_countDone_4, hT, if_pos (nI_le (Nat.le_refl _) (by omega))]
  · rw [zX6_countDone_4, hT, if_neg (nI_ge hk (by omega))]
    simp only [zz_v]
    by_cases h : zz_g 16 (nI k) 2 st = 3
    · rw [if_pos h, zp_b1 (p := zi_how k st = 3) h]; rfl
    · rw [if_neg h, zp_b0 (p := zi_how k st = 3) h]; rfl
theorem zr_isKept (b k : Nat) (st : zz_T) : zX2_isKept b (nI k) st = true ↔ zi_kept b k st := by
  unfold zX2_isKept zi_kept
  by_cases h : zz_g (b + 0) (nI k) 0 st = -1
  · rw [if_pos h]; exact ⟨fun q => absurd q (by decide), fun q => absurd h q⟩
  · rw [if_neg h]; exact ⟨fun _ => h, fun _ => rfl⟩
theorem zr_countKept (b : Nat) (st : zz_T) : zX2_countKept b st = some (nI (zp_s (fun a => zp_b (zz_g b (nI a) 0 st ≠ -1)) 0 54)) := by
  unfold zX2_countKept
  refine zp_sum0 (F := fun n v a => zX2_countKept_4 b n a v st) (N := 54) (by omega) _ (fun n a => ?_) (fun n k a hk => ?_)
  · rw [zX2_countKept_4, if_pos (by decide)]
  · rw [zX2_countKept_4, if_neg (show ¬ (54 : Int32) ≤ nI k from nI_ge (a := k) (b := 54) hk (by decide))]
    simp only [zz_v]
    by_cases h : zX2_isKept b (nI k) st = true
    · rw [if_pos h, zp_b1 ((zr_isKept b k st).mp h)]; rfl
    · rw [if_neg h, zp_b0 (fun q => h ((zr_isKept b k st).mpr q))]; rfl
theorem zr_suppliesCount (st : zz_T) : zX4_count st = some (nI (zp_s (fun w => zp_b (¬ zz_g 18 (nI w) 0 st ≤ 0)) 0 6)) := by
  unfold zX4_count
  refine zp_sum0 (F := fun n v a => zX4_count_4 n a v st) (N := 6) (by omega) _ (fun n a => ?_) (fun n k a hk => ?_)
  · rw [zX4_count_4, if_pos (by decide)]
  · rw [zX4_count_4, if_neg (show ¬ (6 : Int32) ≤ nI k from nI_ge (a := k) (b := 6) hk (by decide))]
    simp only [zz_v]
    by_cases h : zz_g 18 (nI k) 0 st ≤ 0
    · rw [if_pos h, zp_b0 (fun q => q h)]; rfl
    · rw [if_neg h, zp_b1 h]; rfl
theorem zr_sumOf {st : zz_T} (h4 : st.2 4 = nI 6) (f : Nat → Nat) (c : Int32) (hf : ∀ u, u < 6 → zz_g 4 (nI u) c st = nI (f u)) : zX7_sumOf c st = some (nI (zp_s f 0 6)) := by
  unfold zX7_sumOf
  refine zp_sum0 (F := fun n v a => zX7_sumOf_4 n c a v st) (N := 6) (by omega) _ (fun n a => ?_) (fun n k a hk => ?_)
  · rw [zX7_sumOf_4, h4, if_pos (by decide)]
  · rw [zX7_sumOf_4, h4, if_neg (nI_ge hk (by decide))]
    simp only [zz_v]
    rw [hf k hk]
theorem zr_slot (u l : Nat) (st : zz_T) : zX2_slotOf (nI u) (nI l) st = nI (8 * u + l) := by
  unfold zX2_slotOf
  rw [show (8 : Int32) = nI 8 from rfl, pk_mul, nI_add, Nat.mul_comm]
abbrev zr_thr (u s : Nat) (st : zz_T) : Nat → Nat := fun l => zp_b (zz_g 5 (nI (8 * u + l)) 0 st = 2 ∧ zz_g 5 (nI (8 * u + l)) 1 st = nI s)
theorem zr_countLoads {st : zz_T} {u L : Nat} (hL : zz_g 4 (nI u) 1 st = nI L) (h8 : L ≤ 8) (s : Nat) : zX7_countLoadsAt (nI u) (nI s) st = some (nI (zp_s (zr_thr u s st) 0 L)) := by
  unfold zX7_countLoadsAt
  refine zp_sum0 (F := fun n v a => zX7_countLoadsAt_5 n (nI u) (nI s) a v st) (N := L) (by omega) _ (fun n a => ?_) (fun n k a hk => ?_)
  · rw [zX7_countLoadsAt_5, hL, if_pos (nI_le (Nat.le_refl _) (by omega))]
  · rw [zX7_countLoadsAt_5, hL, if_neg (nI_ge hk (by omega))]
    simp only [zz_v, zX7_countLoadsAt_59, zr_slot]
    dsimp only [zr_thr]
    by_cases h : zz_g 5 (nI (8 * u + k)) 0 st = 2
    · by_cases h1 : zz_g 5 (nI (8 * u + k)) 1 st = nI s
      · rw [if_pos h, if_pos h1, zp_b1 ⟨h, h1⟩]; rfl
      · rw [if_pos h, if_neg h1, zp_b0 (fun q => h1 q.2)]; rfl
    · rw [if_neg h, zp_b0 (fun q => h q.1)]; rfl
theorem zr_countAllAt {st : zz_T} (h4 : st.2 4 = nI 6) (L : Nat → Nat) (hL : ∀ u, u < 6 → zz_g 4 (nI u) 1 st = nI (L u) ∧ L u ≤ 8) (s : Nat) : zX7_countAt (nI s) false st = some (nI (zp_s (fun u => zp_s (zr_thr u s st) 0 (L u)) 0 6)) := by
  unfold zX7_countAt
  refine zp_sum0 (F := fun n v a => zX7_countAt_5 n (nI s) false a v st) (N := 6) (by omega) _ (fun n a => ?_) (fun n k a hk => ?_)
  · rw [zX7_countAt_5, h4, if_pos (by decide)]
  · rw [zX7_countAt_5, h4, if_neg (nI_ge hk (by decide)), if_neg (by decide), zr_countLoads (hL k hk).1 (hL k hk).2 s]
    rfl
theorem zr_countBakery {st : zz_T} (h4 : st.2 4 = nI 6) (L : Nat → Nat) (hL : ∀ u, u < 6 → zz_g 4 (nI u) 1 st = nI (L u) ∧ L u ≤ 8) (s : Nat) : zp_ok (zX7_countAt (nI s) true st) (fun _ => True) := by
  unfold zX7_countAt
  refine zp_loop0 (F := fun n v (a : Int32) => zX7_countAt_5 n (nI s) true a v st) (N := 6) (by omega) (fun _ _ => True) (fun n a _ => ?_) (fun n k a hk _ ih => ?_) trivial
  · rw [zX7_countAt_5, h4, if_pos (by decide)]; exact .ret trivial
  · rw [zX7_countAt_5, h4, if_neg (nI_ge hk (by decide)), if_pos rfl]
    refine zp_ite (fun _ => ?_) (fun _ => ih _ trivial)
    rw [zr_countLoads (hL k hk).1 (hL k hk).2 s]
    exact ih _ trivial
def zr_wt (u : Nat) (st : zz_T) : Nat := (zX7_weightOf (zz_g 4 (nI u) 0 st) st).toNatClampNeg
theorem zr_weight {st : zz_T} {u : Nat} (h : zp_bl 5 (zz_g 4 (nI u) 0 st)) : zX7_weightOf (zz_g 4 (nI u) 0 st) st = nI (zr_wt u st) := by
  unfold zr_wt
  obtain ⟨k, hk, e⟩ := h
  rw [e]
  rcases (show k = 0 ∨ k = 1 ∨ k = 2 ∨ k = 3 ∨ k = 4 by omega) with rfl | rfl | rfl | rfl | rfl <;> exact (show _ = _ from by unfold zX7_weightOf; decide)
theorem zr_weightAt {st : zz_T} (h4 : st.2 4 = nI 6) (hk : ∀ u, u < 6 → zp_bl 5 (zz_g 4 (nI u) 0 st)) (L : Nat → Nat) (hL : ∀ u, u < 6 → zz_g 4 (nI u) 1 st = nI (L u) ∧ L u ≤ 8) (s : Nat) : zX7_weightAt (nI s) st = some (nI (zp_s (fun u => zp_s (zr_thr u s st) 0 (L u) * zr_wt u st) 0 6)) := by
  unfold zX7_weightAt
  refine zp_sum0 (F := fun n v a => zX7_weightAt_4 n (nI s) a v st) (N := 6) (by omega) _ (fun n a => ?_) (fun n k a hk9 => ?_)
  · rw [zX7_weightAt_4, h4, if_pos (by decide)]
  · rw [zX7_weightAt_4, h4, if_neg (nI_ge hk9 (by decide)), zr_countLoads (hL k hk9).1 (hL k hk9).2 s, zr_weight (hk k hk9)]
    show zX7_weightAt_4 n (nI s) (a + (nI _ * nI _)) (nI k + 1) st = _
    rw [pk_mul]
/-- is it taken, does one come: what a no says -/
theorem zr_isTaken {st : zz_T} {T : Nat} (hT : st.2 5 = nI T) (h60 : T ≤ 60) (l bl fw : Int32) (d : Bool) : zp_ok (zX6_isTaken l bl fw d st) (fun r => r = false → ∀ i, i < T → zi_how i st = 1 → zz_g 16 (nI i) 3 st = l → zz_g 16 (nI i) 4 st = bl → d = true ∧ zz_g 16 (nI i) 11 st ≠ fw) := by
  unfold zX6_isTaken
  refine zp_loop0 (F := fun n v (_ : Unit) => zX6_isTaken_3 n l bl fw d v st) (N := T) (by omega) (fun k _ => ∀ i, i < k → zi_how i st = 1 → zz_g 16 (nI i) 3 st = l → zz_g 16 (nI i) 4 st = bl → d = true ∧ zz_g 16 (nI i) 11 st ≠ fw) (fun n _ h => ?_) (fun n k _ hk h ih => ?_) (s := ()) (fun i hi => absurd hi (Nat.not_lt_zero i))
  · rw [zX6_isTaken_3, hT, if_pos (nI_le (Nat.le_refl _) (by omega))]
    exact .ret (fun _ => h)
  · rw [zX6_isTaken_3, hT, if_neg (nI_ge hk (by omega))]
    have next : (zi_how k st = 1 → zz_g 16 (nI k) 3 st = l → zz_g 16 (nI k) 4 st = bl → d = true ∧ zz_g 16 (nI k) 11 st ≠ fw) → zp_ok (zX6_isTaken_3 n l bl fw d (nI k + 1) st) (fun r => r = false → ∀ i, i < T → zi_how i st = 1 → zz_g 16 (nI i) 3 st = l → zz_g 16 (nI i) 4 st = bl → d = true ∧ zz_g 16 (nI i) 11 st ≠ fw) := by
      intro hn
      refine ih () (fun i hi => ?_)
      by_cases q : i = k
      · rw [q]; exact hn
      · exact h i (by omega)
    refine zp_ite (fun h1 => ?_) (fun h1 => next (fun q1 q2 => absurd ((zr_isOn k l st).mpr ⟨q1, q2⟩) h1))
    refine zp_ite (fun h2 => ?_) (fun h2 => next (fun _ _ q3 => absurd q3 h2))
    refine zp_ite (fun h3 => ?_) (fun h3 => .ret (fun q => absurd q (by decide)))
    exact zp_ite (fun h4 => .ret (fun q => absurd q (by decide))) (fun h4 => next (fun _ _ _ => ⟨h3, h4⟩))
theorem zr_isComing {st : zz_T} {T : Nat} (hT : st.2 5 = nI T) (h60 : T ≤ 60) (l fw : Int32) : zp_ok (zX6_isComing l fw st) (fun r => r = false → ∀ i, i < T → zi_how i st = 1 → zz_g 16 (nI i) 3 st = l → zz_g 16 (nI i) 11 st = fw) := by
  unfold zX6_isComing
  refine zp_loop0 (F := fun n v (_ : Unit) => zX6_isComing_2 n l fw v st) (N := T) (by omega) (fun k _ => ∀ i, i < k → zi_how i st = 1 → zz_g 16 (nI i) 3 st = l → zz_g 16 (nI i) 11 st = fw) (fun n _ h => ?_) (fun n k _ hk h ih => ?_) (s := ()) (fun i hi => absurd hi (Nat.not_lt_zero i))
  · rw [zX6_isComing_2, hT, if_pos (nI_le (Nat.le_refl _) (by omega))]
    exact .ret (fun _ => h)
  · rw [zX6_isComing_2, hT, if_neg (nI_ge hk (by omega))]
    have next : (zi_how k st = 1 → zz_g 16 (nI k) 3 st = l → zz_g 16 (nI k) 11 st = fw) → zp_ok (zX6_isComing_2 n l fw (nI k + 1) st) (fun r => r = false → ∀ i, i < T → zi_how i st = 1 → zz_g 16 (nI i) 3 st = l → zz_g 16 (nI i) 11 st = fw) := by
      intro hn
      refine ih () (fun i hi => ?_)
      by_cases q : i = k
      · rw [q]; exact hn
      · exact h i (by omega)
    refine zp_ite (fun h1 => ?_) (fun h1 => next (fun q1 q2 => absurd ((zr_isOn k l st).mpr ⟨q1, q2⟩) h1))
    exact zp_ite (fun h2 => next (fun _ _ => h2)) (fun h2 => .ret (fun q => absurd q (by decide)))
