/-! PURE: the law asks, and all is as it must be -/
theorem zy_many {v : Int32} (h0 : ¬ v < 0) (h12 : v ≤ 12) {st : zz_T} {x : Int32} (h : zX8_manyFact v st = some x) : zX8_many v st = some x := by
  unfold zX8_many
  rw [if_neg h0, if_pos h12, h]
  rfl
theorem zy_m6 {st : zz_T} {T : Nat} (h5 : st.2 5 = nI T) (h60 : T ≤ 60) : zX8_many 6 st = some (nI (zp_s (zy_n 3 st) 0 T)) := by
  refine zy_many (by decide) (by decide) ?_
  unfold zX8_manyFact
  rw [if_neg (by decide), if_neg (by decide), if_neg (by decide), if_neg (by decide), if_neg (by decide), if_neg (by decide), if_pos rfl, zr_countDone h5 h60]
  rfl
theorem zy_m7 (st : zz_T) : zX8_many 7 st = some (nI (zp_s (zy_k st) 0 54)) := by
  refine zy_many (by decide) (by decide) ?_
  unfold zX8_manyFact
  rw [if_neg (by decide), if_neg (by decide), if_neg (by decide), if_neg (by decide), if_neg (by decide), if_neg (by decide), if_neg (by decide), if_pos rfl, zr_countKept 6]
  rfl
theorem zy_m8 (st : zz_T) : zX8_many 8 st = some (nI (zp_s (fun w => zp_b (¬ zz_g 18 (nI w) 0 st ≤ 0)) 0 6)) := by
  refine zy_many (by decide) (by decide) ?_
  unfold zX8_manyFact
  rw [if_neg (by decide), if_neg (by decide), if_neg (by decide), if_neg (by decide), if_neg (by decide), if_neg (by decide), if_neg (by decide), if_neg (by decide), if_pos rfl, zr_suppliesCount]
  rfl
theorem zy_add3 (a b c : Nat) : nI a + nI b + nI c = nI (a + b + c) := by rw [nI_add, nI_add]
abbrev zy_c0 (st : zz_T) : Nat → Nat := fun u => zp_s (zi_c0 u st) 0 (zl_L st u)
abbrev zy_c2 (st : zz_T) : Nat → Nat := fun u => zp_s (zi_c2 u st) 0 (zl_L st u)
theorem zy_u89 {st : zz_T} (hS : zi_S st) : ∀ u, u < 6 → zz_g 4 (nI u) 8 st = nI (zy_c0 st u) ∧ zz_g 4 (nI u) 9 st = nI (zy_c2 st u) := fun u hu => by
  obtain ⟨L, g, r, s1, s2, s3, s4, s5, s6, s7, s8, s9, s10⟩ := hS u hu
  obtain ⟨e1, e8⟩ := zl_eq hS u hu
  have : L = zl_L st u := (nI_eq (by omega) (by omega)).mp (s1.symm.trans e1)
  rw [this] at s8 s9
  exact ⟨s8, s9⟩
theorem zy_m9 {st : zz_T} (h4 : st.2 4 = nI 6) (hS : zi_S st) : zX8_many 9 st = some (nI (zp_s (zy_c0 st) 0 6)) := by
  refine zy_many (by decide) (by decide) ?_
  unfold zX8_manyFact
  rw [if_neg (by decide), if_neg (by decide), if_neg (by decide), if_neg (by decide), if_neg (by decide), if_neg (by decide), if_neg (by decide), if_neg (by decide), if_neg (by decide), if_pos rfl, zr_sumOf h4 (zy_c0 st) 8 (fun u hu => (zy_u89 hS u hu).1)]
  rfl
theorem zy_m10 {st : zz_T} {T : Nat} (h5 : st.2 5 = nI T) (h60 : T ≤ 60) : zp_ok (zX8_many 10 st) (fun g => ∀ i, i < T → zX6_lateOf (nI i) (st.2 0) st ≤ g) := by
  obtain ⟨x, e, hx⟩ := zx_late h5 h60 (st.2 0)
  refine ⟨x, zy_many (by decide) (by decide) ?_, hx⟩
  unfold zX8_manyFact
  rw [if_neg (by decide), if_neg (by decide), if_neg (by decide), if_neg (by decide), if_neg (by decide), if_neg (by decide), if_neg (by decide), if_neg (by decide), if_neg (by decide), if_neg (by decide), if_pos rfl, e]
  rfl
theorem zy_hasT {st : zz_T} {T i : Nat} (h5 : st.2 5 = nI T) (h60 : T ≤ 60) (hi : i < T) : zX6_has (nI i) st = true := by
  unfold zX6_has
  rw [if_neg (nI_pos (by omega)), h5, if_neg (nI_ge hi (by omega))]
theorem zy_train {st : zz_T} {T i : Nat} {c : Int32} (h5 : st.2 5 = nI T) (h60 : T ≤ 60) (hi : i < T) (h0 : ¬ c < 0) (h9 : c ≤ 9) (h7 : c ≠ 7) : zX8_ofTrain (nI i) c st = some (zz_g 16 (nI i) c st) := by
  unfold zX8_ofTrain
  rw [zy_hasT h5 h60 hi, if_pos rfl, if_neg h0, if_pos h9]
  unfold zX8_trainFact
  rw [if_neg h7]
  rfl
theorem zy_train7 {st : zz_T} {T i : Nat} (h5 : st.2 5 = nI T) (h60 : T ≤ 60) (hi : i < T) : zX8_ofTrain (nI i) 7 st = some (zX6_lateOf (nI i) (st.2 0) st) := by
  unfold zX8_ofTrain
  rw [zy_hasT h5 h60 hi, if_pos rfl, if_neg (by decide), if_pos (by decide)]
  unfold zX8_trainFact
  rw [if_pos rfl]
theorem zy_hasU {st : zz_T} {u : Nat} (h4 : st.2 4 = nI 6) (hu : u < 6) : zX7_has (nI u) st = true := by
  unfold zX7_has
  rw [if_neg (nI_pos (by omega)), h4, if_neg (nI_ge hu (by decide))]
theorem zy_unit {st : zz_T} {u : Nat} {c : Int32} (h4 : st.2 4 = nI 6) (hu : u < 6) (h0 : ¬ c < 0) (h9 : ¬ 10 ≤ c) (h12 : c ≤ 12) : zX8_ofUnit (nI u) c st = some (zz_g 4 (nI u) c st) := by
  unfold zX8_ofUnit
  rw [zy_hasU h4 hu, if_pos rfl, if_neg h0, if_pos h12]
  unfold zX8_unitFact
  rw [if_neg h9]
  rfl
theorem zy_unit11 {st : zz_T} {u : Nat} (h4 : st.2 4 = nI 6) (hS : zi_S st) (hu : u < 6) : zX8_ofUnit (nI u) 11 st = some (nI (zp_s (zy_ku u st) 0 (zl_L st u))) := by
  obtain ⟨e1, e8⟩ := zl_eq hS u hu
  have hl : zp_ok (zX8_unitFact_43 zz_N (nI u) 11 0 (-1) 0 st) (fun r => r = nI (zp_s (zy_ku u st) 0 (zl_L st u))) := by
    refine zp_loop0 (F := fun n x (p : Int32 × Int32) => zX8_unitFact_43 n (nI u) 11 p.1 p.2 x st) (N := zl_L st u) (by omega) (fun k p => p.1 = nI (zp_s (zy_ku u st) 0 k)) (fun n p hp => ?_) (fun n k p hk hp ih => ?_) (s := (0, -1)) rfl
    · rw [zX8_unitFact_43, show zX7_get (nI u) 1 st = nI (zl_L st u) from e1, if_pos (Int32.le_refl _), if_neg (by decide)]
      exact .ret hp
    · rw [zX8_unitFact_43, show zX7_get (nI u) 1 st = nI (zl_L st u) from e1, if_neg (nI_ge hk (by omega))]
      simp only [zz_v, zr_slot]
      have sn : zp_s (zy_ku u st) 0 (k + 1) = zp_s (zy_ku u st) 0 k + zy_ku u st k := by rw [zp_s_snoc (zy_ku u st) k 0, Nat.zero_add]
      refine zp_ite (fun q => ih (_, _) ?_) (fun q => ih (_, _) ?_)
      · have : zy_ku u st k = 1 := zp_b1 ((zr_isKept 6 _ st).mp q)
        show p.1 + 1 = _
        rw [hp, nI_1, sn, this]
      · have : zy_ku u st k = 0 := zp_b0 (fun z => q ((zr_isKept 6 _ st).mpr z))
        show p.1 = _
        rw [hp, sn, this, Nat.add_zero]
  obtain ⟨r, e, hr⟩ := hl
  unfold zX8_ofUnit
  rw [zy_hasU h4 hu, if_pos rfl, if_neg (by decide), if_pos (by decide)]
  unfold zX8_unitFact
  rw [if_pos (by decide), if_neg (by decide), e, hr]
  rfl
theorem zy_station {st : zz_T} {s : Nat} (h2 : st.2 2 = nI 6) (hs : s < 6) {c x : Int32} (h0 : ¬ c < 0) (h5 : c ≤ 5) (h : zX8_stationFact (nI s) c st = some x) : zX8_ofStation (nI s) c st = some x := by
  unfold zX8_ofStation
  have : zX1_hasStation (nI s) st = true := by
    unfold zX1_hasStation
    rw [if_neg (nI_pos (by omega)), h2, if_neg (nI_ge hs (by decide))]
  rw [this, if_pos rfl, if_neg h0, if_pos h5, h]
  rfl
theorem zy_line {st : zz_T} {T l : Nat} (h3 : st.2 3 = nI 8) (h5 : st.2 5 = nI T) (h60 : T ≤ 60) (hl : l < 8) : zX8_ofLine (nI l) 5 st = some (nI (zp_s (zr_on l st) 0 T)) := by
  unfold zX8_ofLine
  have : zX1_hasLine (nI l) st = true := by
    unfold zX1_hasLine
    rw [if_neg (nI_pos (by omega)), h3, if_neg (nI_ge hl (by decide))]
  rw [this, if_pos rfl, if_neg (by decide), if_pos (by decide)]
  unfold zX8_lineFact
  rw [if_pos rfl, zr_countOn h5 h60 l]
  rfl
theorem zy_sector {st : zz_T} {s : Nat} (hs : s < 3) {c x : Int32} (h0 : ¬ c < 0) (h12 : c ≤ 12) (h : zX8_sectorFact (nI s) c st = some x) : zX8_ofSector (nI s) c st = some x := by
  unfold zX8_ofSector
  have : zX8_isNoSector (nI s) st = false := by
    unfold zX8_isNoSector
    rw [if_neg (nI_pos (by omega)), if_pos (show nI s < 3 from nI_lt (b := 3) hs (by decide))]
  rw [this, if_neg (by decide), if_neg h0, if_pos h12, h]
  rfl
theorem zy_sec2 {st : zz_T} {s : Nat} (h4 : st.2 4 = nI 6) (hS : zi_S st) (hs : s < 3) : zX8_ofSector (nI s) 2 st = some (nI (zp_s (fun u => zp_s (zr_thr u s st) 0 (zl_L st u)) 0 6)) := by
  refine zy_sector hs (by decide) (by decide) ?_
  unfold zX8_sectorFact
  rw [if_pos rfl, zr_countAllAt h4 _ (zl_eq hS) s]
  rfl
theorem zy_sec3 {f : Nat → Int32} {st : zz_T} {s : Nat} (h4 : st.2 4 = nI 6) (hU : zi_U f st) (hS : zi_S st) (hs : s < 3) : zX8_ofSector (nI s) 3 st = some (nI (zp_s (fun u => zp_s (zr_thr u s st) 0 (zl_L st u) * zr_wt u st) 0 6)) := by
  refine zy_sector hs (by decide) (by decide) ?_
  unfold zX8_sectorFact
  rw [if_neg (by decide), if_pos rfl, zr_weightAt h4 (zi_kinds hU) _ (zl_eq hS) s]
  rfl
/-- the law's own weights -/
abbrev zy_f : Nat → Int32 := upd (upd (upd (upd (upd (fun _ => 0) (0 : Int32).toNatClampNeg 1) (1 : Int32).toNatClampNeg 4) (2 : Int32).toNatClampNeg 3) (3 : Int32).toNatClampNeg 6) (4 : Int32).toNatClampNeg 0
theorem zy_fk : ∀ j, j < 5 → zy_f (nI j).toNatClampNeg = (if nI j < 0 then 0 else if 5 ≤ nI j then 0 else zz_wt 0 (nI j).toNatClampNeg) := by decide +kernel
theorem zy_wt {f : Nat → Int32} {st : zz_T} {u : Nat} (hU : zi_U f st) (hu : u < 6) : zy_f (f u).toNatClampNeg = nI (zr_wt u st) := by
  obtain ⟨⟨e, j, hj, ej⟩, -⟩ := hU.1 u hu
  rw [← zr_weight (zi_kinds hU u hu), e, ej, zy_fk j hj]
  rfl
set_option maxHeartbeats 4000000 in
theorem zy_298 {f : Nat → Int32} {e T : Nat} {st : zz_T} {d : Int64} {f4 : Nat → Int32} (he : e ≤ 1000) (H : zi_I f e T st) (hd : zX8_digest st = some d) : zp_ok (zL_isAsked_298 f zz_N d 0 0 0 0 0 f4 zy_f st) (fun r => r.1 = true ∧ zi_I f e T r.2) := by
  have h4 := H.1.2.2.1
  have hS := H.2.2.2.2.1
  refine zp_loop0 (F := fun n v (p : (Int32 × Int32 × Int32 × Int32) × zz_T) => zL_isAsked_298 f n d p.1.1 p.1.2.1 p.1.2.2.1 p.1.2.2.2 v f4 zy_f p.2) (N := 6) (by decide) (fun k p => (p.1.1 = nI (zp_s (zy_c0 st) 0 k) ∧ p.1.2.1 = nI (zp_s (fun u => zp_s (zy_ku u st) 0 (zl_L st u)) 0 k) ∧ p.1.2.2.1 = nI (zp_s (zy_c2 st) 0 k) ∧ p.1.2.2.2 = nI (zp_s (fun u => zr_wt u st * zy_c2 st u) 0 k)) ∧ zw_E st p.2) (fun n p hp => ?_) (fun n k p hk hp ih => ?_) (s := ((0, 0, 0, 0), st)) ⟨⟨rfl, rfl, rfl, rfl⟩, .rfl⟩
  · obtain ⟨⟨q1, q2, q3, q4⟩, hE⟩ := hp
    have HI : zi_I f e T p.2 := zi_I_trial hE H
    rw [zL_isAsked_298, if_pos (by decide)]
    simp only [zw_zX8_ofSector hE, zw_zX8_many hE, zw_zX8_digest hE]
    rw [show (0 : Int32) = nI 0 from rfl, show (1 : Int32) = nI 1 from rfl, zy_sec2 h4 hS (s := 0) (by decide), zy_sec2 h4 hS (s := 1) (by decide), show zX8_ofSector 2 2 st = _ from zy_sec2 h4 hS (s := 2) (by decide), zy_m9 h4 hS, zy_m8, zy_m7, zy_sec3 h4 H.2.2.1 hS (s := 0) (by decide), zy_sec3 h4 H.2.2.1 hS (s := 1) (by decide), show zX8_ofSector 2 3 st = _ from zy_sec3 h4 H.2.2.1 hS (s := 2) (by decide), hd, q1, q2, q3, q4]
    rw [Option.bind_some, Option.bind_some, Option.bind_some, zy_v, zy_add3, zy_there hS, Option.bind_some, if_pos rfl, Option.bind_some, Option.bind_some, nI_add, zy_kept he hS H.2.2.2.2.2.1, if_pos rfl, if_pos rfl, Option.bind_some, Option.bind_some, Option.bind_some, zy_add3, zy_weight hS, if_pos rfl, Option.bind_some, if_pos rfl]
    exact .ret ⟨rfl, HI⟩
  · obtain ⟨⟨q1, q2, q3, q4⟩, hE⟩ := hp
    have HI : zi_I f e T p.2 := zi_I_trial hE H
    obtain ⟨⟨ek, j, hj, ej⟩, -⟩ := H.2.2.1.1 k hk
    rw [zL_isAsked_298, if_neg (show ¬ (6 : Int32) ≤ nI k from nI_ge (a := k) (b := 6) hk (by decide))]
    simp only [zw_zX8_ofUnit hE]
    rw [zy_unit h4 hk (c := 8) (by decide) (by decide) (by decide), zy_unit11 h4 hS hk, zy_unit h4 hk (c := 9) (by decide) (by decide) (by decide), zy_unit h4 hk (c := 7) (by decide) (by decide) (by decide), zy_unit h4 hk (c := 1) (by decide) (by decide) (by decide), zy_unit h4 hk (c := 4) (by decide) (by decide) (by decide), (zy_u89 hS k hk).1, (zy_u89 hS k hk).2]
    rw [Option.bind_some, zy_v, Option.bind_some, zy_v, Option.bind_some, zy_v, if_pos ⟨nI_pos' (by omega), nI_lt (b := 6) hk (by decide)⟩, nI_clamp (show k < 2 ^ 31 by omega), if_pos (by rw [ej]; exact ⟨nI_pos' (by omega), nI_lt (b := 5) hj (by decide)⟩), zy_wt H.2.2.1 hk, Option.bind_some, zy_v, Option.bind_some, Option.bind_some, q1, q2, q3, q4, pk_mul, nI_add, nI_add, nI_add, nI_add]
    have nx : ∀ s : zz_T, zw_E st s → zp_ok (zL_isAsked_298 f n d (nI (zp_s (zy_c0 st) 0 k + zy_c0 st k)) (nI (zp_s (fun u => zp_s (zy_ku u st) 0 (zl_L st u)) 0 k + zp_s (zy_ku k st) 0 (zl_L st k))) (nI (zp_s (zy_c2 st) 0 k + zy_c2 st k)) (nI (zp_s (fun u => zr_wt u st * zy_c2 st u) 0 k + zr_wt k st * zy_c2 st k)) (nI k + 1) f4 zy_f s) (fun r => r.1 = true ∧ zi_I f e T r.2) := fun s hs => by
      refine ih ((nI (zp_s (zy_c0 st) 0 k + zy_c0 st k), nI (zp_s (fun u => zp_s (zy_ku u st) 0 (zl_L st u)) 0 k + zp_s (zy_ku k st) 0 (zl_L st k)), nI (zp_s (zy_c2 st) 0 k + zy_c2 st k), nI (zp_s (fun u => zr_wt u st * zy_c2 st u) 0 k + zr_wt k st * zy_c2 st k)), s) ⟨⟨?_, ?_, ?_, ?_⟩, hs⟩
      · rw [zp_s_snoc (zy_c0 st) k 0, Nat.zero_add]
      · rw [zp_s_snoc (fun u => zp_s (zy_ku u st) 0 (zl_L st u)) k 0, Nat.zero_add]
      · rw [zp_s_snoc (zy_c2 st) k 0, Nat.zero_add]
      · rw [zp_s_snoc (fun u => zr_wt u st * zy_c2 st u) k 0, Nat.zero_add]
    refine zp_ite (fun _ => nx _ hE) (fun h1 => zp_ite (fun _ => nx _ hE) (fun h2 => ?_))
    have g4 : ∀ c, zz_g 4 (nI k) c p.2 = zz_g 4 (nI k) c st := fun c => hE.g (by decide) _ _
    refine (za_could HI hk (by rw [g4, g4]; exact Int32.not_le.mp h1) (by rw [g4]; exact h2)).bind (fun x hx => ?_)
    rw [if_pos hx.2]
    exact nx _ (hE.trans hx.1)
theorem zy_172 {f : Nat → Int32} {e T : Nat} {st : zz_T} {d : Int64} {f4 : Nat → Int32} {m : Nat} (he : e ≤ 1000) (H : zi_I f e T st) (hd : zX8_digest st = some d) (h4 : ∀ j, j < 4 → f4 j = nI (zp_s (zy_n j st) 0 T)) (hm : m + zp_s (ze_h st) 0 T ≤ 24) : zp_ok (zL_isAsked_172 f zz_N d (nI (zp_s (zy_n 0 st) 0 T + zp_s (zy_n 2 st) 0 T)) 0 (nI m) (nI (zp_s (zy_n 2 st) 0 T)) 0 f4 st) (fun r => r.1 = true ∧ zi_I f e T r.2) := by
  have h60 := H.1.2.2.2.2.1
  have h5 := H.1.2.2.2.1
  have hT := H.2.2.2.2.2.2.2.1
  obtain ⟨A, eA⟩ : ∃ A, A = nI (zp_s (zy_n 0 st) 0 T + zp_s (zy_n 2 st) 0 T) := ⟨_, rfl⟩
  obtain ⟨B, eB⟩ : ∃ B, B = nI (zp_s (zy_n 2 st) 0 T) := ⟨_, rfl⟩
  rw [← eA, ← eB]
  refine zp_loop0 (F := fun n v (g : Int32) => zL_isAsked_172 f n d A g (nI m) B v f4 st) (N := 8) (by decide) (fun k g => g = nI (zp_s (fun l => zp_s (zr_on l st) 0 T) 0 k)) (fun n g hg => ?_) (fun n k g hk hg ih => ?_) rfl
  · rw [zL_isAsked_172, if_pos (by decide), hg, zy_lines hT, eA, eB]
    have c0 : f4 (0 : Int32).toNatClampNeg = nI (zp_s (zy_n 0 st) 0 T) := h4 0 (by decide)
    have c1 : f4 (1 : Int32).toNatClampNeg = nI (zp_s (zy_n 1 st) 0 T) := h4 1 (by decide)
    have c2 : f4 (2 : Int32).toNatClampNeg = nI (zp_s (zy_n 2 st) 0 T) := h4 2 (by decide)
    have c3 : f4 (3 : Int32).toNatClampNeg = nI (zp_s (zy_n 3 st) 0 T) := h4 3 (by decide)
    have all := zy_all hT
    rw [c0, c1, c2, c3, nI_add, if_pos rfl, if_pos rfl, if_pos rfl, zy_m6 h5 h60, Option.bind_some, if_pos rfl, nI_add, nI_add, if_pos (show nI _ ≤ (24 : Int32) from nI_le (b := 24) (by omega) (by decide))]
    exact zy_298 he H hd
  · rw [zL_isAsked_172, if_neg (show ¬ (8 : Int32) ≤ nI k from nI_ge (a := k) (b := 8) hk (by decide)), zy_line H.1.2.1 h5 h60 hk, Option.bind_some, zy_v]
    refine ih _ ?_
    rw [hg, nI_add, zp_s_snoc (fun l => zp_s (zr_on l st) 0 T) k 0, Nat.zero_add]
theorem zy_120 {f : Nat → Int32} {e T : Nat} {st : zz_T} {d : Int64} {f4 : Nat → Int32} (he : e ≤ 1000) (H : zi_I f e T st) (hd : zX8_digest st = some d) (h4 : ∀ j, j < 4 → f4 j = nI (zp_s (zy_n j st) 0 T)) : zp_ok (zL_isAsked_120 f zz_N d 0 0 0 0 f4 st) (fun r => r.1 = true ∧ zi_I f e T r.2) := by
  have h60 := H.1.2.2.2.2.1
  have h5 := H.1.2.2.2.1
  have h2 := H.1.1
  have hT := H.2.2.2.2.2.2.2.1
  obtain ⟨m, m1, m2⟩ := H.2.2.2.2.2.2.2.2.2.1
  have m2 : zp_s m 0 6 + zp_s (ze_h st) 0 T + zp_s (ze_b st) 0 T ≤ 24 := m2
  refine zp_loop0 (F := fun n v (p : Int32 × Int32 × Int32) => zL_isAsked_120 f n d p.1 p.2.1 p.2.2 v f4 st) (N := 6) (by decide) (fun k p => p.1 = nI (zp_s (fun s => zp_s (zr_at s st) 0 T) 0 k) ∧ p.2.1 = nI (zp_s m 0 k) ∧ p.2.2 = nI (zp_s (fun s => zp_s (zi_fu s st) 0 T) 0 k)) (fun n p hp => ?_) (fun n k p hk hp ih => ?_) (s := (0, 0, 0)) ⟨rfl, rfl, rfl⟩
  · obtain ⟨q1, q2, q3⟩ := hp
    rw [zL_isAsked_120, if_pos (by decide), q1, q2, q3, zy_stations hT, zy_unloading hT]
    exact zy_172 he H hd h4 (by omega)
  · obtain ⟨q1, q2, q3⟩ := hp
    have a1 : zX8_ofStation (nI k) 4 st = some (nI (zp_s (zr_at k st) 0 T)) := zy_station h2 hk (by decide) (by decide) (by unfold zX8_stationFact; rw [if_pos rfl, zr_countAt h5 h60 k]; rfl)
    have a2 : zX8_ofStation (nI k) 5 st = some (nI (zp_s (zi_fu k st) 0 T)) := zy_station h2 hk (by decide) (by decide) (by unfold zX8_stationFact; rw [if_neg (by decide), if_pos rfl, zr_countUnloading h5 h60 k]; rfl)
    have a3 : zX8_ofStation (nI k) 2 st = some (nI (m k)) := zy_station h2 hk (by decide) (by decide) (by unfold zX8_stationFact; rw [if_neg (by decide), if_neg (by decide), ← m1 k hk]; rfl)
    rw [zL_isAsked_120, if_neg (show ¬ (6 : Int32) ≤ nI k from nI_ge (a := k) (b := 6) hk (by decide)), a1, a2, a3, Option.bind_some, zy_v, Option.bind_some, zy_v, Option.bind_some, zy_v]
    refine ih (_, _, _) ⟨?_, ?_, ?_⟩
    · show p.1 + _ = _
      rw [q1, nI_add, zp_s_snoc (fun s => zp_s (zr_at s st) 0 T) k 0, Nat.zero_add]
    · show p.2.1 + _ = _
      rw [q2, nI_add, zp_s_snoc m k 0, Nat.zero_add]
    · show p.2.2 + _ = _
      rw [q3, nI_add, zp_s_snoc (fun s => zp_s (zi_fu s st) 0 T) k 0, Nat.zero_add]
theorem zy_asked {f : Nat → Int32} {e T : Nat} {st : zz_T} (he : e ≤ 1000) (H : zi_I f e T st) : zp_ok (zL_isAsked f st) (fun r => r.1 = true ∧ zi_I f e T r.2) := by
  have h60 := H.1.2.2.2.2.1
  have h5 := H.1.2.2.2.1
  have hT := H.2.2.2.2.2.2.2.1
  obtain ⟨d, hd, -⟩ := zx_digest H
  have snd : zX8_isSound st = some true := by
    unfold zX8_isSound
    rw [zb_sound H]
    rfl
  unfold zL_isAsked
  rw [hd, snd, Option.bind_some, Option.bind_some, if_pos rfl]
  refine zp_loop0 (F := fun n v (g : Nat → Int32) => zL_isAsked_34 f n d v g st) (N := T) (by omega) (fun k g => ∀ j, j < 4 → g j = nI (zp_s (zy_n j st) 0 k)) (fun n g hg => ?_) (fun n k g hk hg ih => ?_) (s := fun _ => 0) (fun j hj => rfl)
  · rw [zL_isAsked_34, zy_many5, h5, Option.bind_some, if_pos (Int32.le_refl _)]
    exact zy_120 he H hd hg
  · obtain ⟨t, ht, et⟩ := (hT.1 k hk).1
    have eh : zz_g 16 (nI k) 2 st = nI t := et
    rw [zL_isAsked_34, zy_many5, h5, zy_train h5 h60 hk (c := 2) (by decide) (by decide) (by decide), zy_train7 h5 h60 hk, eh, Option.bind_some, if_neg (nI_ge hk (by omega)), Option.bind_some, if_pos ⟨nI_pos' (by omega), nI_lt (b := 4) ht (by decide)⟩, Option.bind_some]
    refine (zy_m10 h5 h60).bind (fun g10 hg10 => ?_)
    rw [if_neg (Int32.not_lt.mpr (hg10 k hk)), Option.bind_some, nI_clamp (show t < 2 ^ 31 by omega)]
    have nx : zp_ok (zL_isAsked_34 f n d (nI k + 1) (upd g t (g t + 1)) st) (fun r => r.1 = true ∧ zi_I f e T r.2) := by
      refine ih _ (fun j hj => ?_)
      rw [zp_s_snoc (zy_n j st) k 0, Nat.zero_add]
      by_cases q : j = t
      · subst q
        rw [show upd g j (g j + 1) j = g j + 1 by simp [upd], hg j hj, nI_1, show zy_n j st k = 1 from zp_b1 et]
      · rw [show upd g t (g t + 1) j = g j by simp [upd, q], hg j hj, show zy_n j st k = 0 from zp_b0 (fun z => q ((nI_eq (by omega) (by omega)).mp (z.symm.trans et))), Nat.add_zero]
    have e4 : zX8_ofTrain (nI k) 4 st = some (zz_g 16 (nI k) 4 st) := zy_train h5 h60 hk (by decide) (by decide) (by decide)
    refine zp_ite (fun q => ?_) (fun q => ?_)
    · unfold zL_isAsked_91
      have hb := ((hT.1 k hk).2.1 (et.trans q)).2
      rw [e4, Option.bind_some, if_neg (Int32.not_lt.mpr hb), if_pos (show zz_b true = 1 from rfl)]
      exact nx
    · unfold zL_isAsked_91
      have hb := (hT.1 k hk).2.2.1 (fun z => q (et.symm.trans z))
      rw [e4, Option.bind_some, if_pos (by rw [hb]; decide), if_pos (show zz_b false = 0 from rfl)]
      exact nx
/-! the law -/
theorem zy_turns {L : Nat} {sc : Nat → Int32} {f : Nat → Int32} : ∀ (d k : Nat) (st : zz_T), k + d ≤ 100 → (∃ T, zi_I f k T st) → zp_ok (zL_turns L sc f d k st) (fun r => r = true) := by
  intro d
  induction d with
  | zero =>
    intro k st hk H
    obtain ⟨T, hT⟩ := H
    rw [zL_turns]
    refine ⟨true, ?_, rfl⟩
    unfold zX8_isSound
    rw [zb_sound hT]
    rfl
  | succ d ih =>
    intro k st hk H
    rw [zL_turns]
    refine (zy_act (by omega) H _ _).bind (fun x hx => zp_ite (fun _ => ?_) (fun _ => ih (k + 1) x (by omega) hx))
    obtain ⟨T, hT⟩ := hx
    refine (zy_asked (by omega) hT).bind (fun r hr => ?_)
    rw [if_pos hr.1]
    exact ih (k + 1) r.2 (by omega) ⟨T, hr.2⟩
theorem zy_law (L : Nat) (sc : Nat → Int32) : zL_law L sc = some true := by
  obtain ⟨u, eu, hu⟩ := zy_start L sc
  obtain ⟨r, er, hr⟩ := zy_turns (L := L) (sc := sc) 60 0 u.2 (by decide) ⟨0, hu⟩
  have : zL_law L sc = ((zX8_land (1 + zL_bw (zL_cell L sc 1) 4) (zL_bw (zL_cell L sc 2) 3) zn_0).bind fun x => (zL_rail L sc 3 0 x.2).bind fun st => zL_units L sc 6 0 (fun _ => 0) st).bind fun u => zL_turns L sc u.1 60 0 u.2 := by
    unfold zL_law
    rw [Option.bind_assoc]
    congr 1
    funext x
    rw [Option.bind_assoc]
  rw [this, eu]
  show zL_turns L sc u.1 60 0 u.2 = _
  rw [er, hr]
