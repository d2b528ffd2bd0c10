/-! PURE: paths apart; the whole is sound -/
theorem zp_negc {t : Nat} {r c : Int32} (h : c < 0) (st : zz_T) : zz_g t r c st = 0 := if_neg (fun q => Int32.not_lt.mpr q.2.1 h)
theorem zb_abs (x y : Nat) (hx : x ≤ 3200) (hy : y ≤ 3200) : 0 ≤ zz_abs (nI x + 0 - (nI y + 0)) := by
  rw [Int32.add_zero, Int32.add_zero]
  unfold zz_abs
  split
  · rename_i h; exact h
  · rename_i h
    by_cases hxy : y ≤ x
    · exfalso
      apply h
      have : nI x - nI y = nI (x - y) := by
        have e : nI (x - y) + nI y = nI x := by rw [nI_add, Nat.sub_add_cancel hxy]
        rw [← e, Int32.add_sub_cancel]
      rw [this]
      exact nI_pos' (by omega)
    · have e : nI (y - x) + nI x = nI y := by rw [nI_add, Nat.sub_add_cancel (by omega)]
      have : 0 - (nI x - nI y) = nI (y - x) := by
        rw [← e, Int32.zero_sub, Int32.neg_sub, Int32.add_sub_cancel]
      rw [this]
      exact nI_pos' (by omega)
theorem zb_symm (p q : Int32) : zz_abs (p - q) = zz_abs (q - p) := by
  obtain ⟨z, hz⟩ : ∃ z, p - q = z := ⟨_, rfl⟩
  have h2 : q - p = -z := by rw [← hz, Int32.neg_sub]
  rw [hz, h2]
  unfold zz_abs
  have hb := Int32.toInt_neg z
  have h3 := Int32.le_toInt z
  have h4 := Int32.toInt_lt z
  split <;> split <;> rename_i a b
  · rw [Int32.le_iff_toInt_le] at a b
    rw [hb] at b
    apply Int32.toInt_inj.mp
    rw [hb]
    simp only [Int32.toInt_zero, Int.bmod] at *
    omega
  · rw [Int32.zero_sub, Int32.neg_neg]
  · rw [Int32.zero_sub]
  · rw [Int32.le_iff_toInt_le] at a b
    rw [hb] at b
    rw [Int32.zero_sub, Int32.zero_sub, Int32.neg_neg]
    apply Int32.toInt_inj.mp
    rw [hb]
    simp only [Int32.toInt_zero, Int.bmod] at *
    omega
theorem zb_gap (b a a' l : Nat) (st : zz_T) : zi_gap b a a' l st = zi_gap b a' a l st := zb_symm _ _
theorem zb_lim (b a a' l : Nat) (st : zz_T) : zi_lim b a a' l st = zi_lim b a' a l st := by
  unfold zi_lim
  by_cases h : zz_g (b + 3) (nI a') (nI l) st = zz_g (b + 3) (nI a) (nI l) st
  · rw [if_pos h, if_pos h.symm]
  · rw [if_neg h]; exact (if_neg (fun q => h q.symm)).symm
theorem zb_P2 {b a a' : Nat} {st : zz_T} (h : zi_P2 b a a' st) : zi_P2 b a' a st := fun l hl h1 h2 => by
  rw [zb_lim, zb_gap]
  exact h l hl h2 h1
/-- does a slot foul on a line -/
abbrev zb_gx (b a a' : Nat) (x : Int32) (st : zz_T) : Int32 := zz_abs (zz_g b (nI a') 0 st + zz_g (b + 2) (nI a') x st - (zz_g b (nI a) 0 st + zz_g (b + 2) (nI a) x st))
abbrev zb_lx (b a a' : Nat) (x : Int32) (st : zz_T) : Int32 := if zz_g (b + 3) (nI a') x st = zz_g (b + 3) (nI a) x st then zz_g (b + 4) x 0 st else if zz_g (b + 4) x 2 st = 1 then 0 else zz_g (b + 4) x 1 st
abbrev zb_ok (b a a' : Nat) (x : Int32) (st : zz_T) : Prop := zi_kept b a' st → a' ≠ a → zz_g (b + 2) (nI a') x st ≠ -1 → zb_lx b a a' x st ≤ zb_gx b a a' x st
theorem zb_foulsOn {b a : Nat} {st : zz_T} (ha : a < 54) (x : Int32) : zp_ok (zX2_foulsOn b (nI a) x st) (fun r => r = false ↔ ∀ a', a' < 54 → zb_ok b a a' x st) := by
  have loop : ∀ v4 v5 : Int32, zz_g (b + 4) x 0 st = v4 → (if zz_g (b + 4) x 2 st = 1 then 0 else zz_g (b + 4) x 1 st) = v5 → zp_ok (zX2_foulsOn_62 b zz_N (nI a) x (zz_g (b + 0) (nI a) 0 st + zz_g (b + 2) (nI a) x st) v4 v5 0 st) (fun r => r = false ↔ ∀ a', a' < 54 → zb_ok b a a' x st) := by
    intro v4 v5 h4 h5
    refine zp_loop0 (F := fun n v (_ : Unit) => zX2_foulsOn_62 b n (nI a) x (zz_g (b + 0) (nI a) 0 st + zz_g (b + 2) (nI a) x st) v4 v5 v st) (N := 54) (by omega) (fun k _ => ∀ a', a' < k → zb_ok b a a' x st) (fun n _ h => ?_) (fun n k _ hk h ih => ?_) (s := ()) (fun i hi => absurd hi (Nat.not_lt_zero i))
    · rw [zX2_foulsOn_62, if_pos (by decide)]
      exact .ret ⟨fun _ => h, fun _ => rfl⟩
    · rw [zX2_foulsOn_62, if_neg (show ¬ (54 : Int32) ≤ nI k from nI_ge (a := k) (b := 54) hk (by decide))]
      simp only [zz_v]
      have next : zb_ok b a k x st → zp_ok (zX2_foulsOn_62 b n (nI a) x (zz_g (b + 0) (nI a) 0 st + zz_g (b + 2) (nI a) x st) v4 v5 (nI k + 1) st) (fun r => r = false ↔ ∀ a', a' < 54 → zb_ok b a a' x st) := by
        intro hn
        refine ih () (fun i hi => ?_)
        by_cases q : i = k
        · rw [q]; exact hn
        · exact h i (by omega)
      refine zp_ite (fun h1 => next (fun q => absurd h1 q)) (fun h1 => ?_)
      refine zp_ite (fun h2 => next (fun _ q => absurd ((nI_eq (by omega) (by omega)).mp h2) q)) (fun h2 => ?_)
      have hka : k ≠ a := fun q => h2 (by rw [q])
      refine zp_ite (fun h3 => next (fun _ _ q => absurd h3 q)) (fun h3 => ?_)
      have bad : ¬ zb_ok b a k x st → zp_ok (some true) (fun r => r = false ↔ ∀ a', a' < 54 → zb_ok b a a' x st) := fun hb => .ret ⟨fun q => absurd q (by decide), fun q => absurd (q k hk) hb⟩
      refine zp_ite (fun h6 => ?_) (fun h6 => ?_)
      · unfold zX2_foulsOn_134
        simp only [zz_v, if_true]
        have hl : zb_lx b a k x st = v4 := by rw [← h4]; exact if_pos h6
        refine zp_ite (fun h7 => next (fun _ _ _ => by rw [hl]; exact h7)) (fun h7 => bad (fun q => h7 ?_))
        have := q h1 hka h3
        rw [hl] at this
        exact this
      · unfold zX2_foulsOn_134
        simp only [zz_v, Bool.false_eq_true, if_false]
        have hl : zb_lx b a k x st = v5 := by rw [← h5]; exact if_neg h6
        refine zp_ite (fun h7 => next (fun _ _ _ => by rw [hl]; exact h7)) (fun h7 => bad (fun q => h7 ?_))
        have := q h1 hka h3
        rw [hl] at this
        exact this
  unfold zX2_foulsOn
  simp only [zz_v]
  refine zp_ite (fun h => loop _ _ rfl (if_pos h)) (fun h => loop _ _ rfl (if_neg h))
theorem zb_none {b a : Nat} {st : zz_T} {s : Nat} (hs : s ≤ 3200 ∧ zz_g b (nI a) 0 st = nI s) (hB : ∀ a', a' < 54 → zi_kept b a' st → ∃ s, s ≤ 3200 ∧ zz_g b (nI a') 0 st = nI s) (a' : Nat) (ha' : a' < 54) : zb_ok b a a' (-1) st := by
  intro hk _ _
  obtain ⟨s', h1, h2⟩ := hB a' ha' hk
  have hn : ∀ t r, zz_g t r (-1) st = 0 := fun t r => zp_negc (by decide) st
  have hm : ∀ t c, zz_g t (-1) c st = 0 := fun t c => zp_neg (by decide) st
  rw [zb_lx, zb_gx, hn, hn, hn, hn, hm, hm, hm, h2, hs.2]
  simp only [if_true]
  exact zb_abs s' s h1 hs.1
/-- the first line on which a laid slot fouls -/
theorem zb_first {b a n : Nat} {st : zz_T} (ha : a < 54) (h0 : zi_P0 b a n st) {s : Nat} (hs : s ≤ 3200 ∧ zz_g b (nI a) 0 st = nI s) (hB : ∀ a', a' < 54 → zi_kept b a' st → ∃ s, s ≤ 3200 ∧ zz_g b (nI a') 0 st = nI s) : zp_ok (zX2_firstFouledLine b (nI a) st) (fun r => zp_li 8 r ∧ (r = -1 ↔ ∀ i, i < n → ∀ a', a' < 54 → zb_ok b a a' (zz_g (b + 1) (nI a) (nI i) st) st)) := by
  obtain ⟨hn, h10, hli, -, -⟩ := h0
  unfold zX2_firstFouledLine
  refine zp_loop0 (F := fun m v (_ : Unit) => zX2_firstFouledLine_2 b m (nI a) v st) (N := n) (by omega) (fun k _ => ∀ i, i < k → ∀ a', a' < 54 → zb_ok b a a' (zz_g (b + 1) (nI a) (nI i) st) st) (fun m _ h => ?_) (fun m k _ hk h ih => ?_) (s := ()) (fun i hi => absurd hi (Nat.not_lt_zero i))
  · rw [zX2_firstFouledLine_2, show zz_g (b + 0) (nI a) 1 st = nI n from hn, if_pos (nI_le (Nat.le_refl _) (by omega))]
    exact .ret ⟨Or.inl rfl, fun _ => h, fun _ => rfl⟩
  · rw [zX2_firstFouledLine_2, show zz_g (b + 0) (nI a) 1 st = nI n from hn, if_neg (nI_ge hk (by omega))]
    simp only [zz_v]
    refine (zb_foulsOn ha _).bind (fun r hr => ?_)
    refine zp_ite (fun h1 => .ret ⟨hli k hk, fun q => ?_, fun q => ?_⟩) (fun h1 => ih () (fun i hi => ?_))
    · exfalso
      rw [q] at hr
      have := hr.mpr (zb_none hs hB)
      rw [this] at h1
      exact absurd h1 (by decide)
    · exfalso
      have := hr.mpr (q k hk)
      rw [this] at h1
      exact absurd h1 (by decide)
    · by_cases q : i = k
      · rw [q]; exact hr.mp (by cases r <;> simp_all)
      · exact h i (by omega)
theorem zb_apart {b : Nat} {st : zz_T} (h : zi_P b st) : zX2_areApart b st = some true := by
  have hB : ∀ a', a' < 54 → zi_kept b a' st → ∃ s, s ≤ 3200 ∧ zz_g b (nI a') 0 st = nI s := fun a' ha' hk => (h.1 a' ha' hk).1
  have : zp_ok (zX2_areApart b st) (fun r => r = true) := by
    unfold zX2_areApart
    refine zp_loop0 (F := fun m v (_ : Unit) => zX2_areApart_2 b m v st) (N := 54) (by omega) (fun _ _ => True) (fun m _ _ => ?_) (fun m k _ hk _ ih => ?_) (s := ()) trivial
    · rw [zX2_areApart_2, if_pos (by decide)]; exact .ret rfl
    · rw [zX2_areApart_2, if_neg (show ¬ (54 : Int32) ≤ nI k from nI_ge (a := k) (b := 54) hk (by decide))]
      refine zp_ite (fun hk1 => ?_) (fun _ => ih () trivial)
      have hkk := (zr_isKept b k st).mp hk1
      obtain ⟨⟨s, hs1, hs2⟩, -, ⟨n, h0⟩, -⟩ := h.1 k hk hkk
      refine (zb_first hk h0 ⟨hs1, hs2⟩ hB).bind (fun r hr => ?_)
      have : r = -1 := by
        refine hr.2.mpr (fun i hi a' ha' hka' hne hon => ?_)
        rcases h0.2.2.1 i hi with e | ⟨l, hl, e⟩
        · rw [e]; exact zb_none ⟨hs1, hs2⟩ hB a' ha' hka' hne (by rw [e] at hon; exact hon)
        · rw [e] at hon ⊢
          exact h.2 k a' hk ha' (fun q => hne q.symm) hkk hka' l hl (h0.2.2.2.1 i l hi hl e) hon
      rw [if_pos this]
      exact ih () trivial
  obtain ⟨r, e, hr⟩ := this
  rw [e, hr]
/-- trains apart -/
theorem zb_clash (i j : Nat) (d : Bool) (st : zz_T) : zX6_clash (nI i) (nI j) d st = true ↔ if zz_g 16 (nI i) 11 st = zz_g 16 (nI j) 11 st then zz_g 16 (nI i) 4 st = zz_g 16 (nI j) 4 st else d = false := by
  unfold zX6_clash zX6_clash_28
  by_cases h1 : zz_g 16 (nI i) 11 st = zz_g 16 (nI j) 11 st <;> by_cases h2 : zz_g 16 (nI i) 4 st = zz_g 16 (nI j) 4 st <;> cases d <;> simp [h1, h2]
theorem zb_double (x : Int32) (st : zz_T) : zX1_isDouble x st = true ↔ zz_g 1 x 5 st = 1 := by
  unfold zX1_isDouble
  by_cases h : zz_g 1 x 5 st = 1 <;> simp [h]
theorem zb_trains {st : zz_T} {T : Nat} (hT : st.2 5 = nI T) (h60 : T ≤ 60) (h : zi_T T st) : zX6_areApart st = some true := by
  have : zp_ok (zX6_areApart st) (fun r => r = true) := by
    unfold zX6_areApart
    refine zp_loop0 (F := fun m v (_ : Unit) => zX6_areApart_2 m v st) (N := T) (by omega) (fun _ _ => True) (fun m _ _ => ?_) (fun m k _ hk _ ih => ?_) (s := ()) trivial
    · rw [zX6_areApart_2, hT, if_pos (nI_le (Nat.le_refl _) (by omega))]; exact .ret rfl
    · rw [zX6_areApart_2, hT, if_neg (nI_ge hk (by omega))]
      simp only [zz_v]
      rw [nI_1]
      refine zp_loop (F := fun n v (_ : Unit) => zX6_areApart_25 (fun v2' st' => zX6_areApart_2 m v2' st') n (nI k) (zz_g 16 (nI k) 3 st) v st) (N := T) (fun j _ => k < j) (fun n _ _ => ?_) (fun n j _ hj hkj ih2 => ?_) (T - (k + 1)) zz_N (k + 1) () (by omega) (by show _ < 1000; omega) (by omega)
      · rw [zX6_areApart_25, hT, if_pos (nI_le (Nat.le_refl _) (by omega))]
        exact ih () trivial
      · rw [zX6_areApart_25, hT, if_neg (nI_ge hj (by omega))]
        refine zp_ite (fun h1 => ?_) (fun _ => ih2 () (by omega))
        refine zp_ite (fun h2 => ?_) (fun _ => ih2 () (by omega))
        refine zp_ite (fun h3 => ?_) (fun _ => ih2 () (by omega))
        exfalso
        refine h.2 k j hk hj (by omega) ?_
        have e1 := (zr_isOn k _ st).mp h1
        have e2 := (zr_isOn j _ st).mp h2
        have e3 := (zb_clash k j _ st).mp h3
        refine ⟨e1.1, e2.1, e2.2.symm, ?_⟩
        split
        · rename_i q; rw [if_pos q] at e3; exact e3
        · rename_i q
          rw [if_neg q] at e3
          intro q2
          rw [(zb_double _ st).mpr q2] at e3
          exact absurd e3 (by decide)
  obtain ⟨r, e, hr⟩ := this
  rw [e, hr]
theorem zb_stations {st : zz_T} {T : Nat} (hT : st.2 5 = nI T) (h60 : T ≤ 60) (h2 : st.2 2 = nI 6) (hL : zi_L st) (h : zi_G T st) : zX8_areStationsSound st = some true := by
  have : zp_ok (zX8_areStationsSound st) (fun r => r = true) := by
    unfold zX8_areStationsSound
    refine zp_loop0 (F := fun m v (_ : Unit) => zX8_areStationsSound_2 m v st) (N := 6) (by omega) (fun _ _ => True) (fun m _ _ => ?_) (fun m k _ hk _ ih => ?_) (s := ()) trivial
    · rw [zX8_areStationsSound_2, show zX1_countStations st = nI 6 from h2, if_pos (by decide)]; exact .ret rfl
    · rw [zX8_areStationsSound_2, show zX1_countStations st = nI 6 from h2, if_neg (nI_ge hk (by decide))]
      simp only [zz_v]
      rw [show zX1_getStation (nI k) 0 st = 2 from (hL.1 k hk).1, show zX1_getStation (nI k) 1 st = 3 from (hL.1 k hk).2, zr_countGuests hT h60 k, zr_countUnloading hT h60 k]
      obtain ⟨g1, g2⟩ := h k hk
      show zp_ok (if (2 : Int32) + 3 < nI _ then some false else _) _
      rw [if_neg (show ¬ (2 : Int32) + 3 < nI _ from nI_nlt (a := 5) g1 (by decide))]
      show zp_ok (if nI _ ≤ (2 : Int32) then _ else _) _
      rw [if_pos (show nI _ ≤ (2 : Int32) from nI_le (b := 2) g2 (by decide))]
      exact ih () trivial
  obtain ⟨r, e, hr⟩ := this
  rw [e, hr]
theorem zb_stage {u L g r : Nat} {st : zz_T} (h : zi_S1 u L g r st) : zp_s (zi_c2 u st) 0 L ≤ zp_s (zi_c0 u st) 0 L ∧ zp_s (zi_c0 u st) 0 L ≤ g := by
  obtain ⟨-, -, hL8, -, -, hgr, hrL, -, -, hs⟩ := h
  refine ⟨zp_s_le L 0 (fun j _ hj => ?_), ?_⟩
  · unfold zi_c2 zi_c0
    by_cases q : zz_g 5 (nI (8 * u + j)) 0 st = 2
    · rw [zp_b1 q, zp_b1 (by rw [q]; decide)]; exact Nat.le_refl 1
    · rw [zp_b0 q]; exact Nat.zero_le _
  · have e : zp_s (zi_c0 u st) 0 L = zp_s (zi_c0 u st) 0 g + zp_s (zi_c0 u st) (0 + g) (L - g) := by
      rw [← zp_s_app, show g + (L - g) = L by omega]
    rw [e, zp_s_zero (f := zi_c0 u st) (L - g) (0 + g) (fun j h1 h2 => zp_b0 (p := zz_g 5 (nI (8 * u + j)) 0 st ≠ 0) (fun q => q ((hs j (by omega)).2.1 (by omega))))]
    have := zp_s_bd (f := zi_c0 u st) (c := 1) g 0 (fun j _ _ => zp_ble)
    omega
theorem zb_units {st : zz_T} (h4 : st.2 4 = nI 6) (h : zi_S st) : zX7_areSound st = some true := by
  have : zp_ok (zX7_areSound st) (fun r => r = true) := by
    unfold zX7_areSound
    refine zp_loop0 (F := fun m v (_ : Unit) => zX7_areSound_2 m v st) (N := 6) (by omega) (fun _ _ => True) (fun m _ _ => ?_) (fun m k _ hk _ ih => ?_) (s := ()) trivial
    · rw [zX7_areSound_2, h4, if_pos (by decide)]; exact .ret rfl
    · rw [zX7_areSound_2, h4, if_neg (nI_ge hk (by decide))]
      obtain ⟨L, g, r, hS⟩ := h k hk
      obtain ⟨b1, b2⟩ := zb_stage hS
      obtain ⟨e1, -, h8, e2, e3, hgr, hrL, e4, e5, -⟩ := hS
      rw [e2, e3, e4, e5, if_neg (nI_nlt b1 (by omega)), if_neg (nI_nlt b2 (by omega)), if_neg (nI_nlt hgr (by omega))]
      exact ih () trivial
  obtain ⟨r, e, hr⟩ := this
  rw [e, hr]
theorem zb_sound {f : Nat → Int32} {e T : Nat} {st : zz_T} (h : zi_I f e T st) : zX8_isWholeSound st = some true := by
  obtain ⟨⟨n2, n3, n4, n5, n60, -⟩, hL, hU, hX, hS, hK, hP, hT, hG, hE, hD⟩ := h
  unfold zX8_isWholeSound
  rw [zb_trains n5 n60 hT, zb_stations n5 n60 n2 hL hG, zb_apart hP, zb_units n4 hS]
  rfl
