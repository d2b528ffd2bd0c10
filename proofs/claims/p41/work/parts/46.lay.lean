/-! PURE: laying, and finding a START, in the trial book -/
/-- but for one slot's rows and the tracks nothing has changed in the trial book -/
def ze_R (a : Nat) (st s : zz_T) : Prop := zp_F [11, 12, 13, 14, 15] [] st s ∧ (∀ r, r < 54 → r ≠ a → ∀ c : Int32, (0 ≤ c ∧ c < 7 → zz_g 11 (nI r) c s = zz_g 11 (nI r) c st) ∧ (0 ≤ c ∧ c < 14 → zz_g 12 (nI r) c s = zz_g 12 (nI r) c st ∧ zz_g 13 (nI r) c s = zz_g 13 (nI r) c st ∧ zz_g 14 (nI r) c s = zz_g 14 (nI r) c st)) ∧ ∀ l, l < 8 → zi_tr 11 l st → ∀ c : Int32, 0 ≤ c ∧ c < 3 → zz_g 15 (nI l) c s = zz_g 15 (nI l) c st
theorem ze_R.rfl {a : Nat} {st : zz_T} : ze_R a st st := ⟨.rfl, fun _ _ _ _ => ⟨fun _ => Eq.refl _, fun _ => ⟨Eq.refl _, Eq.refl _, Eq.refl _⟩⟩, fun _ _ _ _ _ => Eq.refl _⟩
theorem ze_tr {a l : Nat} {st s : zz_T} (h : ze_R a st s) (hl : l < 8) (ht : zi_tr 11 l st) : zi_tr 11 l s := by
  have e0 := h.2.2 l hl ht 0 (by decide)
  have e1 := h.2.2 l hl ht 1 (by decide)
  have e2 := h.2.2 l hl ht 2 (by decide)
  unfold zi_tr at ht ⊢
  simp only [Nat.reduceAdd] at ht ⊢
  rw [e0, e1, e2, h.1.g (by decide), h.1.g (by decide), h.1.g (by decide)]
  exact ht
theorem ze_R.trans {a : Nat} {x y z : zz_T} (h1 : ze_R a x y) (h2 : ze_R a y z) : ze_R a x z := by
  refine ⟨h1.1.trans h2.1, fun r hr hra c => ⟨fun hc => ((h2.2.1 r hr hra c).1 hc).trans ((h1.2.1 r hr hra c).1 hc), fun hc => ?_⟩, fun l hl ht c hc => (h2.2.2 l hl (ze_tr h1 hl ht) c hc).trans (h1.2.2 l hl ht c hc)⟩
  obtain ⟨p1, p2, p3⟩ := (h1.2.1 r hr hra c).2 hc
  obtain ⟨q1, q2, q3⟩ := (h2.2.1 r hr hra c).2 hc
  exact ⟨q1.trans p1, q2.trans p2, q3.trans p3⟩
/-- one set in the slot's own rows -/
theorem ze_set11 {a : Nat} {st s : zz_T} (h : ze_R a st s) (ha : a < 54) {c v : Int32} (hc : 0 ≤ c ∧ c < 7) : ze_R a st (zz_set 11 (nI a) c v s) := by
  refine ⟨h.1.set (by decide), fun r hr hra c' => ⟨fun hc' => ?_, fun hc' => ?_⟩, fun l hl ht c' hc' => ?_⟩
  · rw [zg11 ha hr hc hc', if_neg (fun q => hra q.1)]
    exact (h.2.1 r hr hra c').1 hc'
  · rw [zp_gn (by decide), zp_gn (by decide), zp_gn (by decide)]
    exact (h.2.1 r hr hra c').2 hc'
  · rw [zp_gn (by decide)]
    exact h.2.2 l hl ht c' hc'
theorem ze_set1x {a t : Nat} {st s : zz_T} (ht : t = 12 ∨ t = 13 ∨ t = 14) (h : ze_R a st s) (ha : a < 54) {c v : Int32} (hc : 0 ≤ c ∧ c < 14) : ze_R a st (zz_set t (nI a) c v s) := by
  refine ⟨h.1.set (by rcases ht with q | q | q <;> rw [q] <;> decide), fun r hr hra c' => ⟨fun hc' => ?_, fun hc' => ?_⟩, fun l hl htr c' hc' => ?_⟩
  · rw [zp_gn (by omega)]
    exact (h.2.1 r hr hra c').1 hc'
  · obtain ⟨p1, p2, p3⟩ := (h.2.1 r hr hra c').2 hc'
    rcases ht with q | q | q <;> subst q
    · rw [zg12 ha hr hc hc', if_neg (fun q => hra q.1), zp_gn (by decide), zp_gn (by decide)]
      exact ⟨p1, p2, p3⟩
    · rw [zg13 ha hr hc hc', if_neg (fun q => hra q.1), zp_gn (by decide), zp_gn (by decide)]
      exact ⟨p1, p2, p3⟩
    · rw [zg14 ha hr hc hc', if_neg (fun q => hra q.1), zp_gn (by decide), zp_gn (by decide)]
      exact ⟨p1, p2, p3⟩
  · rw [zp_gn (by omega)]
    exact h.2.2 l hl htr c' hc'
/-- a track noted -/
theorem ze_note {l : Nat} (hl : l < 8) (st : zz_T) : zp_F [15] [] st (zX2_noteTrack 11 (nI l) st) ∧ zi_tr 11 l (zX2_noteTrack 11 (nI l) st) ∧ (∀ k, k < 8 → k ≠ l → ∀ c : Int32, 0 ≤ c ∧ c < 3 → zz_g 15 (nI k) c (zX2_noteTrack 11 (nI l) st) = zz_g 15 (nI k) c st) := by
  have key : ∀ v : Int32, (v = if zz_g 1 (nI l) 5 st = 1 then 1 else 0) → zp_F [15] [] st (zz_set 15 (nI l) 2 v (zz_set 15 (nI l) 1 (zz_g 1 (nI l) 7 st) (zz_set 15 (nI l) 0 (zz_g 1 (nI l) 3 st) st))) ∧ zi_tr 11 l (zz_set 15 (nI l) 2 v (zz_set 15 (nI l) 1 (zz_g 1 (nI l) 7 st) (zz_set 15 (nI l) 0 (zz_g 1 (nI l) 3 st) st))) ∧ (∀ k, k < 8 → k ≠ l → ∀ c : Int32, 0 ≤ c ∧ c < 3 → zz_g 15 (nI k) c (zz_set 15 (nI l) 2 v (zz_set 15 (nI l) 1 (zz_g 1 (nI l) 7 st) (zz_set 15 (nI l) 0 (zz_g 1 (nI l) 3 st) st))) = zz_g 15 (nI k) c st) := by
    intro v hv
    have h14 : l < 14 := by omega
    refine ⟨((zp_F.rfl.set (by decide)).set (by decide)).set (by decide), ?_, fun k hk hne c hc => ?_⟩
    · unfold zi_tr
      simp only [Nat.reduceAdd]
      rw [zg15 h14 h14 (by decide) (by decide), zg15 h14 h14 (by decide) (by decide), zg15 h14 h14 (by decide) (by decide), zg15 h14 h14 (by decide) (by decide), zg15 h14 h14 (by decide) (by decide), zg15 h14 h14 (by decide) (by decide), zg15 h14 h14 (by decide) (by decide)]
      simp only [zp_gn (show (1 : Nat) ≠ 15 by decide), hv]
      simp
    · have hk14 : k < 14 := by omega
      rw [zg15 h14 hk14 (by decide) hc, zg15 h14 hk14 (by decide) hc, zg15 h14 hk14 (by decide) hc, if_neg (fun q => hne q.1), if_neg (fun q => hne q.1), if_neg (fun q => hne q.1)]
  unfold zX2_noteTrack
  simp only [zz_v, zX1_getLine, Nat.reduceAdd, zp_gn (show (1 : Nat) ≠ 15 by decide)]
  have e : ∀ s : zz_T, (∀ c, zz_g 1 (nI l) c s = zz_g 1 (nI l) c st) → (zX1_isDouble (nI l) s = true ↔ zz_g 1 (nI l) 5 st = 1) := fun s hs => by rw [zb_double, hs]
  by_cases h : zz_g 1 (nI l) 5 st = 1
  · rw [if_pos ((e _ (fun c => by rw [zp_gn (by decide), zp_gn (by decide)])).mpr h)]
    exact key 1 (by rw [if_pos h])
  · rw [if_neg (fun q => h ((e _ (fun c => by rw [zp_gn (by decide), zp_gn (by decide)])).mp q))]
    exact key 0 (by rw [if_neg h])
theorem ze_noteNone (st : zz_T) : zX2_noteTrack 11 (-1) st = st := by
  unfold zX2_noteTrack
  simp only [zz_v]
  rw [zp_sneg (by decide), zp_sneg (by decide), zp_sneg (by decide), zp_sneg (by decide)]
  split <;> rfl
theorem ze_R.note {a l : Nat} {st s : zz_T} (h : ze_R a st s) (hl : l < 8) : ze_R a st (zX2_noteTrack 11 (nI l) s) := by
  obtain ⟨n1, n2, n3⟩ := ze_note hl s
  refine ⟨h.1.trans (n1.mono (by decide) (by decide)), fun r hr hra c => ⟨fun hc => ?_, fun hc => ?_⟩, fun k hk ht c hc => ?_⟩
  · rw [n1.g (by decide)]; exact (h.2.1 r hr hra c).1 hc
  · rw [n1.g (by decide), n1.g (by decide), n1.g (by decide)]; exact (h.2.1 r hr hra c).2 hc
  · by_cases q : k = l
    · subst q
      have ht' := ze_tr h hk ht
      have hc3 : c = 0 ∨ c = 1 ∨ c = 2 := by
        obtain ⟨j, hj, rfl⟩ := nI_of (Int32.not_lt.mpr hc.1)
        have : j < 3 := (nI_ltI hj (by decide)).mp hc.2
        rcases (show j = 0 ∨ j = 1 ∨ j = 2 by omega) with rfl | rfl | rfl <;> decide
      rw [← h.2.2 k hk ht c hc]
      unfold zi_tr at n2 ht'
      simp only [Nat.reduceAdd] at n2 ht'
      rcases hc3 with rfl | rfl | rfl
      · rw [n2.1, ht'.1, n1.g (by decide)]
      · rw [n2.2.1, ht'.2.1, n1.g (by decide)]
      · rw [n2.2.2, ht'.2.2, n1.g (by decide)]
    · rw [n3 k hk q c hc]; exact h.2.2 k hk ht c hc
/-- how many LINES a way has -/
theorem ze_linesOf (st : zz_T) (x y : Int32) : zp_ok (zX1_linesOf x y st) (fun r => (zz_g 2 x y st = -1 ∧ r = -1) ∨ ∃ n, n ≤ 10 ∧ r = nI n) := by
  unfold zX1_linesOf
  refine zp_ite (fun h => .ret (Or.inl ⟨h, rfl⟩)) (fun _ => ?_)
  refine zp_loop0 (F := fun n v (s : Int32 × Int32) => zX1_linesOf_23 n y s.1 s.2 v st) (N := 10) (by omega) (fun k s => s.1 = nI k) (fun n s h => ?_) (fun n k s hk h ih => ?_) (s := (0, x)) rfl
  · rw [zX1_linesOf_23, if_pos (by decide)]
    exact .ret (Or.inr ⟨10, Nat.le_refl _, h⟩)
  · rw [zX1_linesOf_23, if_neg (show ¬ (10 : Int32) ≤ nI k from nI_ge (a := k) (b := 10) hk (by decide))]
    refine zp_ite (fun _ => .ret (Or.inr ⟨k, by omega, h⟩)) (fun _ => ?_)
    simp only [zz_v]
    exact zp_ite (fun _ => ih (_, _) (by rw [h]; exact nI_1 k)) (fun _ => ih (_, _) (by rw [h]; exact nI_1 k))
/-- the way laid, as far as step k -/
def ze_L (a k : Nat) (st : zz_T) : Prop := (∀ i, i < k → zp_li 8 (zz_g 12 (nI a) (nI i) st)) ∧ (∀ i l, i < k → l < 8 → zz_g 12 (nI a) (nI i) st = nI l → zi_on 11 a l st) ∧ (∀ l, l < 8 → zi_on 11 a l st → ∃ i, i < k ∧ zz_g 12 (nI a) (nI i) st = nI l) ∧ ∀ l, l < 8 → zi_on 11 a l st → zi_tr 11 l st
theorem ze_col {k : Nat} (h : k < 14) : (0 : Int32) ≤ nI k ∧ nI k < 14 := ⟨nI_pos' (by omega), nI_lt (b := 14) h (by decide)⟩
/-- one step -/
theorem ze_step {a k : Nat} {st s : zz_T} (ha : a < 54) (hk : k < 10) (hL : ∀ l, l < 8 → zi_ln l s) (hR : ze_R a st s) (hf : ∀ c : Int32, 0 ≤ c ∧ c < 7 → zz_g 11 (nI a) c s = zz_g 11 (nI a) c st) (h : ze_L a k s) {x : Int32} (hx : zp_li 8 x) {B : Nat} (hB : B ≤ 25 * k + 1) (fw : Int32) :
    ∃ s', s' = zX2_noteTrack 11 x (zz_set 14 (nI a) x fw (zz_set 13 (nI a) x (nI B) (zz_set 12 (nI a) (nI k) x s))) ∧ ze_R a st s' ∧ (∀ c : Int32, 0 ≤ c ∧ c < 7 → zz_g 11 (nI a) c s' = zz_g 11 (nI a) c st) ∧ ze_L a (k + 1) s' ∧ zp_F [11, 12, 13, 14, 15] [] s s' ∧ (∃ t, t ≤ 20 ∧ zz_g 1 x 7 s' = nI t) := by
  have ck := ze_col (k := k) (by omega)
  rcases hx with rfl | ⟨w, hw, rfl⟩
  · refine ⟨_, rfl, ?_⟩
    have e1 : ∀ z : zz_T, ∀ v, zz_set 13 (nI a) (-1) v z = z := fun z v => zp_snI (fun q => absurd q.2.1 (by decide))
    have e2 : ∀ z : zz_T, ∀ v, zz_set 14 (nI a) (-1) v z = z := fun z v => zp_snI (fun q => absurd q.2.1 (by decide))
    rw [e1, e2, ze_noteNone]
    obtain ⟨l1, l2, l3, l4⟩ := h
    have st12 : ∀ i, i < k + 1 → zz_g 12 (nI a) (nI i) (zz_set 12 (nI a) (nI k) (-1) s) = if i = k then -1 else zz_g 12 (nI a) (nI i) s := fun i hi => by
      rw [zg12 ha ha ck (ze_col (k := i) (by omega))]
      simp [nI_eq (show i < 2 ^ 31 by omega) (show k < 2 ^ 31 by omega)]
    have on : ∀ l, zi_on 11 a l (zz_set 12 (nI a) (nI k) (-1) s) ↔ zi_on 11 a l s := fun l => by
      unfold zi_on
      simp only [Nat.reduceAdd, zp_gn (show (13 : Nat) ≠ 12 by decide)]
    refine ⟨ze_set1x (Or.inl rfl) hR ha ck, fun c hc => by rw [zp_gn (by decide)]; exact hf c hc, ⟨fun i hi => ?_, fun i l hi hl e => ?_, fun l hl ho => ?_, fun l hl ho => ?_⟩, zp_F.rfl.set (by decide), 0, by omega, zp_neg (by decide) _⟩
    · rw [st12 i hi]
      by_cases q : i = k
      · rw [if_pos q]; exact Or.inl rfl
      · rw [if_neg q]; exact l1 i (by omega)
    · rw [st12 i hi] at e
      by_cases q : i = k
      · rw [if_pos q] at e
        exact absurd (e ▸ (by decide : ((-1 : Int32) < 0))) (nI_pos (by omega))
      · rw [if_neg q] at e
        exact (on l).mpr (l2 i l (by omega) hl e)
    · obtain ⟨i, hi, e⟩ := l3 l hl ((on l).mp ho)
      exact ⟨i, by omega, by rw [st12 i (by omega), if_neg (by omega)]; exact e⟩
    · have := l4 l hl ((on l).mp ho)
      unfold zi_tr at this ⊢
      simp only [Nat.reduceAdd, zp_gn (show (15 : Nat) ≠ 12 by decide), zp_gn (show (1 : Nat) ≠ 12 by decide)] at this ⊢
      exact this
  · have cw := ze_col (k := w) (by omega)
    have hR3 : ze_R a st (zz_set 14 (nI a) (nI w) fw (zz_set 13 (nI a) (nI w) (nI B) (zz_set 12 (nI a) (nI k) (nI w) s))) := ze_set1x (Or.inr (Or.inr rfl)) (ze_set1x (Or.inr (Or.inl rfl)) (ze_set1x (Or.inl rfl) hR ha ck) ha cw) ha cw
    obtain ⟨n1, n2, n3⟩ := ze_note hw (zz_set 14 (nI a) (nI w) fw (zz_set 13 (nI a) (nI w) (nI B) (zz_set 12 (nI a) (nI k) (nI w) s)))
    refine ⟨_, rfl, hR3.note hw, fun c hc => ?_, ?_, ?_, ?_⟩
    · rw [n1.g (by decide), zp_gn (by decide), zp_gn (by decide), zp_gn (by decide)]
      exact hf c hc
    · obtain ⟨l1, l2, l3, l4⟩ := h
      have st12 : ∀ i, i < k + 1 → zz_g 12 (nI a) (nI i) (zX2_noteTrack 11 (nI w) (zz_set 14 (nI a) (nI w) fw (zz_set 13 (nI a) (nI w) (nI B) (zz_set 12 (nI a) (nI k) (nI w) s)))) = if i = k then nI w else zz_g 12 (nI a) (nI i) s := fun i hi => by
        rw [n1.g (by decide), zp_gn (by decide), zp_gn (by decide), zg12 ha ha ck (ze_col (k := i) (by omega))]
        simp [nI_eq (show i < 2 ^ 31 by omega) (show k < 2 ^ 31 by omega)]
      have on : ∀ l, l < 8 → (zi_on 11 a l (zX2_noteTrack 11 (nI w) (zz_set 14 (nI a) (nI w) fw (zz_set 13 (nI a) (nI w) (nI B) (zz_set 12 (nI a) (nI k) (nI w) s)))) ↔ l = w ∨ zi_on 11 a l s) := fun l hl => by
        unfold zi_on
        simp only [Nat.reduceAdd]
        rw [n1.g (by decide), zp_gn (by decide), zg13 ha ha cw (ze_col (k := l) (by omega)), zp_gn (by decide)]
        by_cases q : l = w
        · rw [if_pos ⟨rfl, by rw [q]⟩]
          refine ⟨fun _ => Or.inl q, fun _ e => ?_⟩
          exact absurd (e ▸ (by decide : ((-1 : Int32) < 0))) (nI_pos (by omega))
        · rw [if_neg (fun e => q ((nI_eq (by omega) (by omega)).mp e.2))]
          exact ⟨fun e => Or.inr e, fun e => e.resolve_left q⟩
      have lin : ∀ c, zz_g 1 (nI w) c (zz_set 14 (nI a) (nI w) fw (zz_set 13 (nI a) (nI w) (nI B) (zz_set 12 (nI a) (nI k) (nI w) s))) = zz_g 1 (nI w) c s := fun c => by rw [zp_gn (by decide), zp_gn (by decide), zp_gn (by decide)]
      refine ⟨fun i hi => ?_, fun i l hi hl e => ?_, fun l hl ho => ?_, fun l hl ho => ?_⟩
      · rw [st12 i hi]
        by_cases q : i = k
        · rw [if_pos q]; exact Or.inr ⟨w, hw, rfl⟩
        · rw [if_neg q]; exact l1 i (by omega)
      · rw [st12 i hi] at e
        by_cases q : i = k
        · rw [if_pos q] at e
          exact (on l hl).mpr (Or.inl ((nI_eq (by omega) (by omega)).mp e).symm)
        · rw [if_neg q] at e
          exact (on l hl).mpr (Or.inr (l2 i l (by omega) hl e))
      · by_cases q : l = w
        · exact ⟨k, by omega, by rw [st12 k (by omega), if_pos rfl, q]⟩
        · obtain ⟨i, hi, e⟩ := l3 l hl (((on l hl).mp ho).resolve_left q)
          exact ⟨i, by omega, by rw [st12 i (by omega), if_neg (by omega)]; exact e⟩
      · by_cases q : l = w
        · rw [q]; exact n2
        · have := l4 l hl (((on l hl).mp ho).resolve_left q)
          have e0 := n3 l hl q 0 (by decide)
          have e1 := n3 l hl q 1 (by decide)
          have e2 := n3 l hl q 2 (by decide)
          unfold zi_tr at this ⊢
          simp only [Nat.reduceAdd] at this ⊢
          rw [e0, e1, e2, n1.g (by decide), n1.g (by decide), n1.g (by decide)]
          simp only [zp_gn (show (15 : Nat) ≠ 14 by decide), zp_gn (show (15 : Nat) ≠ 13 by decide), zp_gn (show (15 : Nat) ≠ 12 by decide), zp_gn (show (1 : Nat) ≠ 14 by decide), zp_gn (show (1 : Nat) ≠ 13 by decide), zp_gn (show (1 : Nat) ≠ 12 by decide)]
          exact this
    · exact (((zp_F.rfl.set (by decide)).set (by decide)).set (by decide)).trans (n1.mono (by decide) (by decide))
    · obtain ⟨t, ht, e⟩ := (hL w hw).2.2.2
      refine ⟨t, ht, ?_⟩
      rw [n1.g (by decide), zp_gn (by decide), zp_gn (by decide), zp_gn (by decide), e]
