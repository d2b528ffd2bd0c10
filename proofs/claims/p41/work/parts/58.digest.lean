/-! PURE: what is asked comes to an end -/
abbrev zx (α : Type) (o : Option α) : Prop := zp_ok o (fun _ => True)
theorem zx_ret {α : Type} {x : α} : zp_ok (some x) (fun _ => True) := .ret trivial
theorem zx_some {α : Type} {o : Option α} {x : α} (h : o = some x) : zp_ok o (fun _ => True) := ⟨x, h, trivial⟩
theorem zx_id {α : Type} {o : Option α} {P : α → Prop} (h : zp_ok o P) : zp_ok (o.bind fun x => some x) (fun _ => True) := h.bind (fun _ _ => zx_ret)
theorem zz_maxl (x y : Int32) : x ≤ zz_max x y := by
  unfold zz_max
  by_cases h : x < y
  · rw [if_pos h]; exact Int32.le_of_lt h
  · rw [if_neg h]; exact Int32.le_refl _
theorem zz_maxr (x y : Int32) : y ≤ zz_max x y := by
  unfold zz_max
  by_cases h : x < y
  · rw [if_pos h]; exact Int32.le_refl _
  · rw [if_neg h]; exact Int32.not_lt.mp h
theorem zx_late {st : zz_T} {T : Nat} (hT : st.2 5 = nI T) (h60 : T ≤ 60) (v : Int32) : zp_ok (zX6_greatestLate v st) (fun g => ∀ i, i < T → zX6_lateOf (nI i) v st ≤ g) := by
  unfold zX6_greatestLate
  refine zp_loop0 (F := fun n x (g : Int32) => zX6_greatestLate_4 n v g x st) (N := T) (by omega) (fun k g => ∀ i, i < k → zX6_lateOf (nI i) v st ≤ g) (fun n g hg => ?_) (fun n k g hk hg ih => ?_) (fun i hi => absurd hi (Nat.not_lt_zero i))
  · rw [zX6_greatestLate_4, hT, if_pos (Int32.le_refl _)]; exact .ret hg
  · rw [zX6_greatestLate_4, hT, if_neg (nI_ge hk (by omega))]
    simp only [zz_v]
    refine ih _ (fun i hi => ?_)
    by_cases q : i = k
    · rw [q]; exact zz_maxr _ _
    · exact Int32.le_trans (hg i (by omega)) (zz_maxl _ _)
theorem zx_wires {st : zz_T} (h4 : st.2 4 = nI 6) : zp_ok (zX7_countWires st) (fun _ => True) := by
  unfold zX7_countWires
  refine zp_loop0 (F := fun n x (g : Int32) => zX7_countWires_4 n g x st) (N := 6) (by omega) (fun _ _ => True) (fun n g _ => ?_) (fun n k g hk _ ih => ?_) trivial
  · rw [zX7_countWires_4, h4, if_pos (Int32.le_refl _)]; exact zx_ret
  · rw [zX7_countWires_4, h4, if_neg (nI_ge hk (by omega))]
    have go : ∀ b : Bool, zp_ok (zX7_countWires_32 (fun v1' v2' st' => zX7_countWires_4 n v1' v2' st') (nI k) g b st) (fun _ => True) := fun b => by
      unfold zX7_countWires_32
      simp only [zz_v]
      exact zp_ite (fun _ => ih _ trivial) (fun _ => ih _ trivial)
    exact zp_ite (fun _ => go _) (fun _ => go _)
theorem zx_sumOf {st : zz_T} (h4 : st.2 4 = nI 6) (c : Int32) : zp_ok (zX7_sumOf c st) (fun _ => True) := by
  unfold zX7_sumOf
  refine zp_loop0 (F := fun n x (g : Int32) => zX7_sumOf_4 n c g x st) (N := 6) (by omega) (fun _ _ => True) (fun n g _ => ?_) (fun n k g hk _ ih => ?_) trivial
  · rw [zX7_sumOf_4, h4, if_pos (Int32.le_refl _)]; exact zx_ret
  · rw [zX7_sumOf_4, h4, if_neg (nI_ge hk (by omega))]
    simp only [zz_v]
    exact ih _ trivial
theorem zx_days : ∀ d, d ≤ 20 → ∀ k, k ≤ 20 → (nI d - 2 < nI k ↔ d < k + 2) := by decide +kernel
theorem zx_day {e T : Nat} {st : zz_T} (hN : zi_N e T st) : ∃ d, d ≤ 20 ∧ zX8_day st = nI d := by
  obtain ⟨t, ht, et⟩ := hN.2.2.2.2.2.1
  refine ⟨t / 144, by omega, ?_⟩
  unfold zX8_day
  rw [et]
  exact pk_div (d := 144) (by omega) (by decide) (by decide)
theorem zx_seen {st : zz_T} {d : Nat} (hd : d ≤ 20) (v : Int32) : zp_ok (zX0_seenOf v (nI d) st) (fun _ => True) := by
  unfold zX0_seenOf
  refine zp_loop0 (F := fun n x (g : Int32) => zX0_seenOf_5 n v (nI d) g x st) (N := d - 1) (by omega) (fun _ _ => True) (fun n g _ => ?_) (fun n k g hk _ ih => ?_) trivial
  · rw [zX0_seenOf_5, if_pos ((zx_days d hd _ (by omega)).mpr (by omega))]; exact zx_ret
  · rw [zX0_seenOf_5, if_neg (fun q => by have := (zx_days d hd _ (by omega)).mp q; omega)]
    simp only [zz_v]
    exact ih _ trivial
theorem zx_possible {st : zz_T} {d p : Nat} (hd : d ≤ 20) (hp : zp_bl 7 (zz_g 21 (nI p) 0 st)) : zp_ok (zX0_isPossible (nI p) (nI d) st) (fun _ => True) := by
  unfold zX0_isPossible
  refine zp_loop0 (F := fun n x (_ : Unit) => zX0_isPossible_2 n (nI p) (nI d) x st) (N := d - 1) (by omega) (fun _ _ => True) (fun n _ _ => ?_) (fun n k _ hk _ ih => ?_) (s := ()) trivial
  · rw [zX0_isPossible_2, if_pos ((zx_days d hd _ (by omega)).mpr (by omega))]; exact zx_ret
  · rw [zX0_isPossible_2, if_neg (fun q => by have := (zx_days d hd _ (by omega)).mp q; omega)]
    refine zp_loop0 (F := fun m x (_ : Unit) => zX0_isPossible_12 (fun v1' v2' v3' st' => zX0_isPossible_2 n v1' v2' v3' st') m (nI p) (nI d) (nI k) x st) (N := 3) (by omega) (fun _ _ => True) (fun m _ _ => ?_) (fun m j _ hj _ ih2 => ?_) (s := ()) trivial
    · rw [zX0_isPossible_12, if_pos (by decide)]; exact ih () trivial
    · rw [zX0_isPossible_12, if_neg (show ¬ (3 : Int32) ≤ nI j from nI_ge (a := j) (b := 3) hj (by decide))]
      exact (zt_told hp _ _ _).bind (fun x _ => zp_ite (fun _ => ih2 () trivial) (fun _ => zx_ret))
theorem zx_guess {st : zz_T} {d : Nat} (hd : d ≤ 20) (hX : zi_X st) : zp_ok (zX0_guessOn (nI d) st) (fun _ => True) := by
  unfold zX0_guessOn
  refine zp_loop0 (F := fun n x (g : Int32) => zX0_guessOn_4 n (nI d) g x st) (N := 3) (by omega) (fun _ _ => True) (fun n g _ => ?_) (fun n k g hk _ ih => ?_) trivial
  · rw [zX0_guessOn_4, if_pos (by decide)]; exact zx_ret
  · rw [zX0_guessOn_4, if_neg (show ¬ (3 : Int32) ≤ nI k from nI_ge (a := k) (b := 3) hk (by decide))]
    have go : ∀ b : Bool, zp_ok (zX0_guessOn_40 (fun v1' v2' v3' st' => zX0_guessOn_4 n v1' v2' v3' st') (nI d) g (nI k) b st) (fun _ => True) := fun b => by
      unfold zX0_guessOn_40
      exact zp_ite (fun _ => (zx_possible hd (hX.2 k hk)).bind (fun x _ => zp_ite (fun _ => ih _ trivial) (fun _ => ih _ trivial))) (fun _ => ih _ trivial)
    exact zp_ite (fun _ => go _) (fun _ => zp_ite (fun _ => go _) (fun _ => go _))
theorem zx_many {f : Nat → Int32} {e T : Nat} {st : zz_T} (H : zi_I f e T st) (v : Int32) : zp_ok (zX8_manyFact v st) (fun _ => True) := by
  have h60 := H.1.2.2.2.2.1
  have h5 := H.1.2.2.2.1
  have h4 := H.1.2.2.1
  unfold zX8_manyFact
  exact zp_ite (fun _ => zx_ret) (fun _ => zp_ite (fun _ => zx_ret) (fun _ => zp_ite (fun _ => zx_ret) (fun _ => zp_ite (fun _ => zx_ret) (fun _ => zp_ite (fun _ => zx_ret) (fun _ => zp_ite (fun _ => zx_ret) (fun _ => zp_ite (fun _ => zx_id (zx_some (zr_countDone h5 h60))) (fun _ => zp_ite (fun _ => zx_id (zx_some (zr_countKept 6 st))) (fun _ => zp_ite (fun _ => zx_id (zx_some (zr_suppliesCount st))) (fun _ => zp_ite (fun _ => zx_id (zx_sumOf h4 _)) (fun _ => zp_ite (fun _ => zx_id (zx_late h5 h60 _)) (fun _ => zp_ite (fun _ => zx_id (zx_wires h4)) (fun _ => zx_ret))))))))))))
theorem zx_station {f : Nat → Int32} {e T s : Nat} {st : zz_T} (H : zi_I f e T st) (v : Int32) : zp_ok (zX8_stationFact (nI s) v st) (fun _ => True) := by
  unfold zX8_stationFact
  exact zp_ite (fun _ => zx_id (zx_some (zr_countAt H.1.2.2.2.1 H.1.2.2.2.2.1 s))) (fun _ => zp_ite (fun _ => zx_id (zx_some (zr_countUnloading H.1.2.2.2.1 H.1.2.2.2.2.1 s))) (fun _ => zx_ret))
theorem zx_line {f : Nat → Int32} {e T s : Nat} {st : zz_T} (H : zi_I f e T st) (v : Int32) : zp_ok (zX8_lineFact (nI s) v st) (fun _ => True) := by
  unfold zX8_lineFact
  exact zp_ite (fun _ => zx_id (zx_some (zr_countOn H.1.2.2.2.1 H.1.2.2.2.2.1 s))) (fun _ => zx_ret)
theorem zx_unit {st : zz_T} {u : Nat} (hS : zi_S st) (hu : u < 6) (v : Int32) : zp_ok (zX8_unitFact (nI u) v st) (fun _ => True) := by
  obtain ⟨L, g, r, s1, s2, s3, -⟩ := hS u hu
  unfold zX8_unitFact
  refine zp_ite (fun _ => zp_ite (fun _ => zx_ret) (fun _ => ?_)) (fun _ => zx_ret)
  refine zp_loop0 (F := fun n x (p : Int32 × Int32) => zX8_unitFact_43 n (nI u) v p.1 p.2 x st) (N := L) (by omega) (fun _ _ => True) (fun n p _ => ?_) (fun n k p hk _ ih => ?_) (s := (0, -1)) trivial
  · rw [zX8_unitFact_43, show zX7_get (nI u) 1 st = nI L from s1, if_pos (Int32.le_refl _)]
    exact zp_ite (fun _ => zx_ret) (fun _ => zx_ret)
  · rw [zX8_unitFact_43, show zX7_get (nI u) 1 st = nI L from s1, if_neg (nI_ge hk (by omega))]
    simp only [zz_v]
    exact zp_ite (fun _ => ih (_, _) trivial) (fun _ => ih (_, _) trivial)
theorem zx_wait {f : Nat → Int32} {e T i : Nat} {st : zz_T} (H : zi_I f e T st) (hi : i < T) : zp_ok (zX6_waitOf (nI i) st) (fun _ => True) := (zm_move hi H).mono (fun _ _ => trivial)
theorem zx_sector {f : Nat → Int32} {e T s : Nat} {st : zz_T} (H : zi_I f e T st) (v : Int32) : zp_ok (zX8_sectorFact (nI s) v st) (fun _ => True) := by
  obtain ⟨d, hd, ed⟩ := zx_day H.1
  unfold zX8_sectorFact
  refine zp_ite (fun _ => zx_id (zx_some (zr_countAllAt H.1.2.2.1 _ (zl_eq H.2.2.2.2.1) s))) (fun _ => zp_ite (fun _ => zx_id (zx_some (zr_weightAt H.1.2.2.1 (zi_kinds H.2.2.1) _ (zl_eq H.2.2.2.2.1) s))) (fun _ => zp_ite (fun _ => ?_) (fun _ => zx_ret)))
  rw [ed]
  exact zx_id (zx_seen hd _)
theorem zx_weightBy {f : Nat → Int32} {e T : Nat} {st : zz_T} (H : zi_I f e T st) (v w : Int32) : zp_ok (zX8_weightBy v w st) (fun _ => True) := by
  unfold zX8_weightBy
  simp only [zz_v]
  obtain ⟨x, ex⟩ : ∃ x, x = w * 144 := ⟨_, rfl⟩
  obtain ⟨y, ey⟩ : ∃ y, y = zX3_get v 1 st := ⟨_, rfl⟩
  rw [← ex, ← ey]
  refine zp_loop0 (F := fun n i (g : Int32) => zX8_weightBy_23 n v x y g i st) (N := 6) (by omega) (fun _ _ => True) (fun n g _ => ?_) (fun n k g hk _ ih => ?_) trivial
  · rw [zX8_weightBy_23, show zX7_count st = nI 6 from H.1.2.2.1, if_pos (Int32.le_refl _)]; exact zx_ret
  · rw [zX8_weightBy_23, show zX7_count st = nI 6 from H.1.2.2.1, if_neg (nI_ge hk (by omega))]
    simp only [zz_v]
    obtain ⟨L, g0, r, s1, s2, s3, -⟩ := H.2.2.2.2.1 k hk
    obtain ⟨z, ez⟩ : ∃ z, z = zX7_weightOf (zX7_get (nI k) 0 st) st := ⟨_, rfl⟩
    rw [← ez]
    refine zp_loop0 (F := fun m i (g : Int32) => zX8_weightBy_53 (fun v1' v3' v4' v5' v6' st' => zX8_weightBy_23 n v1' v3' v4' v5' v6' st') m v x y g (nI k) z i st) (N := L) (by omega) (fun _ _ => True) (fun m g _ => ?_) (fun m j g hj _ ih2 => ?_) trivial
    · rw [zX8_weightBy_53, show zX7_get (nI k) 1 st = nI L from s1, if_pos (Int32.le_refl _)]; exact ih _ trivial
    · rw [zX8_weightBy_53, show zX7_get (nI k) 1 st = nI L from s1, if_neg (nI_ge hj (by omega))]
      simp only [zz_v]
      have go : zp_ok (zX8_weightBy_108 (fun v1' v3' v4' v5' v6' st' => zX8_weightBy_23 n v1' v3' v4' v5' v6' st') (fun v1' v3' v4' v5' v6' v7' v8' st' => zX8_weightBy_53 (fun v1' v3' v4' v5' v6' st' => zX8_weightBy_23 n v1' v3' v4' v5' v6' st') m v1' v3' v4' v5' v6' v7' v8' st') v x y g (nI k) z (nI j) st) (fun _ => True) := by
        unfold zX8_weightBy_108
        simp only [zz_v]
        exact ih2 _ trivial
      exact zp_ite (fun _ => go) (fun _ => zp_ite (fun _ => go) (fun _ => ih2 _ trivial))
theorem zx_dLand {f : Nat → Int32} {e T : Nat} {st : zz_T} (H : zi_I f e T st) (d : Int64) : zp_ok (zX8_digestLand d st) (fun _ => True) := by
  unfold zX8_digestLand
  refine zp_loop0 (F := fun n i (g : Int64) => zX8_digestLand_5 n g i st) (N := 6) (by omega) (fun _ _ => True) (fun n g _ => ?_) (fun n k g hk _ ih => ?_) trivial
  · rw [zX8_digestLand_5, show zX1_countStations st = nI 6 from H.1.1, if_pos (Int32.le_refl _)]
    refine zp_loop0 (F := fun n i (g : Int64) => zX8_digestLand_57 n g i st) (N := 8) (by omega) (fun _ _ => True) (fun n g _ => ?_) (fun n k g hk _ ih => ?_) trivial
    · rw [zX8_digestLand_57, show zX1_countLines st = nI 8 from H.1.2.1, if_pos (Int32.le_refl _)]; exact zx_ret
    · rw [zX8_digestLand_57, show zX1_countLines st = nI 8 from H.1.2.1, if_neg (nI_ge hk (by omega))]
      refine zp_loop0 (F := fun m i (g : Int64) => zX8_digestLand_72 (fun v3' v5' st' => zX8_digestLand_57 n v3' v5' st') m g (nI k) i st) (N := 7) (by omega) (fun _ _ => True) (fun m g _ => ?_) (fun m j g hj _ ih2 => ?_) trivial
      · rw [zX8_digestLand_72, if_pos (by decide)]; exact ih _ trivial
      · rw [zX8_digestLand_72, if_neg (show ¬ (6 : Int32) < nI j from nI_nlt (a := 6) (by omega) (by decide))]
        simp only [zz_v]
        exact (zx_line H _).bind (fun _ _ => ih2 _ trivial)
  · rw [zX8_digestLand_5, show zX1_countStations st = nI 6 from H.1.1, if_neg (nI_ge hk (by omega))]
    refine zp_loop0 (F := fun m i (g : Int64) => zX8_digestLand_20 (fun v3' v5' st' => zX8_digestLand_5 n v3' v5' st') m g (nI k) i st) (N := 6) (by omega) (fun _ _ => True) (fun m g _ => ?_) (fun m j g hj _ ih2 => ?_) trivial
    · rw [zX8_digestLand_20, if_pos (by decide)]; exact ih _ trivial
    · rw [zX8_digestLand_20, if_neg (show ¬ (5 : Int32) < nI j from nI_nlt (a := 5) (by omega) (by decide))]
      simp only [zz_v]
      exact (zx_station H _).bind (fun _ _ => ih2 _ trivial)
theorem zx_dUnits {f : Nat → Int32} {e T : Nat} {st : zz_T} (H : zi_I f e T st) (d : Int64) : zp_ok (zX8_digestUnits d st) (fun _ => True) := by
  unfold zX8_digestUnits
  refine zp_loop0 (F := fun n i (g : Int64) => zX8_digestUnits_5 n g i st) (N := 6) (by omega) (fun _ _ => True) (fun n g _ => ?_) (fun n k g hk _ ih => ?_) trivial
  · rw [zX8_digestUnits_5, show zX7_count st = nI 6 from H.1.2.2.1, if_pos (Int32.le_refl _)]; exact zx_ret
  · rw [zX8_digestUnits_5, show zX7_count st = nI 6 from H.1.2.2.1, if_neg (nI_ge hk (by omega))]
    refine zp_loop0 (F := fun m i (g : Int64) => zX8_digestUnits_20 (fun v3' v5' st' => zX8_digestUnits_5 n v3' v5' st') m g (nI k) i st) (N := 13) (by omega) (fun _ _ => True) (fun m g _ => ?_) (fun m j g hj _ ih2 => ?_) trivial
    · rw [zX8_digestUnits_20, if_pos (by decide)]
      obtain ⟨L, g0, r, s1, s2, s3, -⟩ := H.2.2.2.2.1 k hk
      refine zp_loop0 (F := fun m i (g : Int64) => zX8_digestUnits_52 (fun v3' v5' st' => zX8_digestUnits_5 n v3' v5' st') m g (nI k) i st) (N := L) (by omega) (fun _ _ => True) (fun m g _ => ?_) (fun m j g hj _ ih2 => ?_) trivial
      · rw [zX8_digestUnits_52, show zX7_get (nI k) 1 st = nI L from s1, if_pos (Int32.le_refl _)]; exact ih _ trivial
      · rw [zX8_digestUnits_52, show zX7_get (nI k) 1 st = nI L from s1, if_neg (nI_ge hj (by omega))]
        refine zp_loop0 (F := fun q i (g : Int64) => zX8_digestUnits_70 (fun v3' v5' st' => zX8_digestUnits_5 n v3' v5' st') (fun v3' v5' v6' st' => zX8_digestUnits_52 (fun v3' v5' st' => zX8_digestUnits_5 n v3' v5' st') m v3' v5' v6' st') q g (nI k) (nI j) i st) (N := 3) (by omega) (fun _ _ => True) (fun q g _ => ?_) (fun q i g hi _ ih3 => ?_) trivial
        · rw [zX8_digestUnits_70, if_pos (by decide)]; exact ih2 _ trivial
        · rw [zX8_digestUnits_70, if_neg (show ¬ (2 : Int32) < nI i from nI_nlt (a := 2) (by omega) (by decide))]
          simp only [zz_v]
          exact ih3 _ trivial
    · rw [zX8_digestUnits_20, if_neg (show ¬ (12 : Int32) < nI j from nI_nlt (a := 12) (by omega) (by decide))]
      simp only [zz_v]
      exact (zx_unit H.2.2.2.2.1 hk _).bind (fun _ _ => ih2 _ trivial)
theorem zx_dTrains {f : Nat → Int32} {e T : Nat} {st : zz_T} (H : zi_I f e T st) (d : Int64) : zp_ok (zX8_digestTrains d st) (fun _ => True) := by
  have h60 := H.1.2.2.2.2.1
  unfold zX8_digestTrains
  refine zp_loop0 (F := fun n i (g : Int64) => zX8_digestTrains_5 n g i st) (N := T) (by omega) (fun _ _ => True) (fun n g _ => ?_) (fun n k g hk _ ih => ?_) trivial
  · rw [zX8_digestTrains_5, show zX6_count st = nI T from H.1.2.2.2.1, if_pos (Int32.le_refl _)]; exact zx_ret
  · rw [zX8_digestTrains_5, show zX6_count st = nI T from H.1.2.2.2.1, if_neg (nI_ge hk (by omega))]
    refine zp_loop0 (F := fun m i (g : Int64) => zX8_digestTrains_20 (fun v3' v5' st' => zX8_digestTrains_5 n v3' v5' st') m g (nI k) i st) (N := 10) (by omega) (fun _ _ => True) (fun m g _ => ?_) (fun m j g hj _ ih2 => ?_) trivial
    · rw [zX8_digestTrains_20, if_pos (by decide)]
      simp only [zz_v]
      exact (zx_wait H hk).bind (fun _ _ => ih _ trivial)
    · rw [zX8_digestTrains_20, if_neg (show ¬ (9 : Int32) < nI j from nI_nlt (a := 9) (by omega) (by decide))]
      simp only [zz_v]
      exact ih2 _ trivial
theorem zx_dSectors {f : Nat → Int32} {e T : Nat} {st : zz_T} (H : zi_I f e T st) (d : Int64) : zp_ok (zX8_digestSectors d st) (fun _ => True) := by
  unfold zX8_digestSectors
  refine zp_loop0 (F := fun n i (g : Int64) => zX8_digestSectors_5 n g i st) (N := 3) (by omega) (fun _ _ => True) (fun n g _ => ?_) (fun n k g hk _ ih => ?_) trivial
  · rw [zX8_digestSectors_5, if_pos (by decide)]; exact zx_ret
  · rw [zX8_digestSectors_5, if_neg (show ¬ (3 : Int32) ≤ nI k from nI_ge (a := k) (b := 3) hk (by decide))]
    refine zp_loop0 (F := fun m i (g : Int64) => zX8_digestSectors_14 (fun v3' v5' st' => zX8_digestSectors_5 n v3' v5' st') m g (nI k) i st) (N := 13) (by omega) (fun _ _ => True) (fun m g _ => ?_) (fun m j g hj _ ih2 => ?_) trivial
    · rw [zX8_digestSectors_14, if_pos (by decide)]
      simp only [zz_v]
      exact (zx_weightBy H _ _).bind (fun _ _ => ih _ trivial)
    · rw [zX8_digestSectors_14, if_neg (show ¬ (12 : Int32) < nI j from nI_nlt (a := 12) (by omega) (by decide))]
      simp only [zz_v]
      exact (zx_sector H _).bind (fun _ _ => ih2 _ trivial)
theorem zx_digest {f : Nat → Int32} {e T : Nat} {st : zz_T} (H : zi_I f e T st) : zp_ok (zX8_digest st) (fun _ => True) := by
  obtain ⟨d, hd, ed⟩ := zx_day H.1
  unfold zX8_digest
  refine zp_loop0 (F := fun n i (g : Int64) => zX8_digest_6 n g i st) (N := 13) (by omega) (fun _ _ => True) (fun n g _ => ?_) (fun n k g hk _ ih => ?_) trivial
  · rw [zX8_digest_6, if_pos (by decide)]
    refine (zx_dLand H _).bind (fun x1 _ => (zx_dUnits H _).bind (fun x3 _ => (zx_dTrains H _).bind (fun x5 _ => (zx_dSectors H _).bind (fun x7 _ => ?_))))
    rw [ed]
    refine (zx_guess hd H.2.2.2.1).bind (fun x9 _ => ?_)
    simp only [zz_v]
    refine zp_ok.eq (zb_sound H) ?_
    show zp_ok (if true = true then _ else _) _
    rw [if_pos rfl]
    exact zx_ret
  · rw [zX8_digest_6, if_neg (show ¬ (12 : Int32) < nI k from nI_nlt (a := 12) (by omega) (by decide))]
    simp only [zz_v]
    exact (zx_many H _).bind (fun _ _ => ih _ trivial)
