/-! PURE: the books of PATHS as they change -/
theorem zi_P_ext {b a0 : Nat} {st st' : zz_T} (hk : ∀ a, a < 54 → a ≠ a0 → zi_kept b a st' → ∀ c : Int32, 0 ≤ c ∧ c < 7 → zz_g b (nI a) c st' = zz_g b (nI a) c st)
    (h1 : ∀ a, a < 54 → a ≠ a0 → zi_kept b a st' → ∀ c : Int32, 0 ≤ c ∧ c < 14 → zz_g (b + 1) (nI a) c st' = zz_g (b + 1) (nI a) c st) (h2 : ∀ a, a < 54 → a ≠ a0 → zi_kept b a st' → ∀ c : Int32, 0 ≤ c ∧ c < 14 → zz_g (b + 2) (nI a) c st' = zz_g (b + 2) (nI a) c st) (h3 : ∀ a, a < 54 → a ≠ a0 → zi_kept b a st' → ∀ c : Int32, 0 ≤ c ∧ c < 14 → zz_g (b + 3) (nI a) c st' = zz_g (b + 3) (nI a) c st)
    (ht : ∀ l, l < 8 → zi_tr b l st → ∀ c : Int32, 0 ≤ c ∧ c < 3 → zz_g (b + 4) (nI l) c st' = zz_g (b + 4) (nI l) c st) (hl : ∀ l, l < 8 → ∀ c : Int32, c = 3 ∨ c = 5 ∨ c = 7 → zz_g 1 (nI l) c st' = zz_g 1 (nI l) c st)
    (hn : a0 < 54 → zi_kept b a0 st' → zi_P1 b a0 st' ∧ ∀ a', a' < 54 → a' ≠ a0 → zi_kept b a' st' → zi_P2 b a0 a' st') (h : zi_P b st) : zi_P b st' := by
  have col : ∀ l, l < 14 → (0 : Int32) ≤ nI l ∧ nI l < 14 := fun l hl => ⟨nI_pos' (by omega), nI_lt (b := 14) hl (by decide)⟩
  have kp : ∀ a, a < 54 → a ≠ a0 → zi_kept b a st' → zi_kept b a st := fun a ha hne hka => by
    have := hk a ha hne hka 0 (by decide)
    intro q
    exact hka (by rw [this]; exact q)
  have trk : ∀ l, l < 8 → zi_tr b l st → zi_tr b l st' := fun l hl8 hq => by
    have e0 := ht l hl8 hq 0 (by decide)
    have e1 := ht l hl8 hq 1 (by decide)
    have e2 := ht l hl8 hq 2 (by decide)
    unfold zi_tr at hq ⊢
    rw [e0, e1, e2, hl l hl8 3 (by decide), hl l hl8 5 (by decide), hl l hl8 7 (by decide)]
    exact hq
  have one : ∀ a, a < 54 → a ≠ a0 → zi_kept b a st' → zi_P1 b a st' := fun a ha hne hka => by
    obtain ⟨p1, p2, ⟨n, q1, q2, q3, q4, q5⟩, p4⟩ := h.1 a ha (kp a ha hne hka)
    have on : ∀ l, l < 8 → (zi_on b a l st' ↔ zi_on b a l st) := fun l hl8 => by
      unfold zi_on
      rw [h2 a ha hne hka _ (col l (by omega))]
    have stp : ∀ i, i < n → zz_g (b + 1) (nI a) (nI i) st' = zz_g (b + 1) (nI a) (nI i) st := fun i hi => h1 a ha hne hka _ (col i (by omega))
    refine ⟨by rw [hk a ha hne hka 0 (by decide)]; exact p1, by rw [hk a ha hne hka 2 (by decide)]; exact p2, ⟨n, by rw [hk a ha hne hka 1 (by decide)]; exact q1, q2, fun i hi => by rw [stp i hi]; exact q3 i hi, fun i l hi hl8 e => (on l hl8).mpr (q4 i l hi hl8 (by rw [← stp i hi]; exact e)), fun l hl8 ho => ?_⟩, fun l hl8 ho => trk l hl8 (p4 l hl8 ((on l hl8).mp ho))⟩
    obtain ⟨i, hi, e⟩ := q5 l hl8 ((on l hl8).mp ho)
    exact ⟨i, hi, by rw [stp i hi]; exact e⟩
  refine ⟨fun a ha hka => ?_, fun a a' ha ha' hne hka hka' => ?_⟩
  · by_cases q : a = a0
    · subst q; exact (hn ha hka).1
    · exact one a ha q hka
  · by_cases q : a = a0
    · subst q; exact (hn ha hka).2 a' ha' (fun e => hne e.symm) hka'
    · by_cases q' : a' = a0
      · subst q'; exact zb_P2 ((hn ha' hka').2 a ha q hka)
      · intro l hl8 ho ho'
        have c14 := col l (by omega)
        have e0 := hk a ha q hka 0 (by decide)
        have e0' := hk a' ha' q' hka' 0 (by decide)
        have e2 := h2 a ha q hka _ c14
        have e2' := h2 a' ha' q' hka' _ c14
        have e3 := h3 a ha q hka _ c14
        have e3' := h3 a' ha' q' hka' _ c14
        have on : zi_on b a l st := by unfold zi_on at ho ⊢; rw [← e2]; exact ho
        have on' : zi_on b a' l st := by unfold zi_on at ho' ⊢; rw [← e2']; exact ho'
        have tr := (h.1 a ha (kp a ha q hka)).2.2.2 l hl8 on
        have t0 := ht l hl8 tr 0 (by decide)
        have t1 := ht l hl8 tr 1 (by decide)
        have t2 := ht l hl8 tr 2 (by decide)
        have := h.2 a a' ha ha' hne (kp a ha q hka) (kp a' ha' q' hka') l hl8 on on'
        unfold zi_lim zi_gap at this ⊢
        rw [e0, e0', e2, e2', e3, e3', t0, t1, t2]
        exact this
/-- slots taken out -/
def zd_out (b : Nat) (S : Nat → Prop) (st s : zz_T) : Prop := zp_F [b] [] st s ∧ (∀ a, a < 54 → ∀ c : Int32, 0 ≤ c ∧ c < 7 → c ≠ 0 ∨ ¬ S a → zz_g b (nI a) c s = zz_g b (nI a) c st) ∧ ∀ a, a < 54 → S a → zz_g b (nI a) 0 s = -1
theorem zd_P {b : Nat} (hb : b = 6 ∨ b = 11) {S : Nat → Prop} {st s : zz_T} (h : zd_out b S st s) (hP : zi_P b st) : zi_P b s := by
  obtain ⟨hF, h1, h2⟩ := h
  have hn : ∀ k, 1 ≤ k → b + k ∉ [b] := fun k hk q => by simp at q; omega
  refine zi_P_ext (a0 := 54) (fun a ha _ hka c hc => ?_) (fun a _ _ _ c _ => hF.g (hn 1 (by omega)) _ _) (fun a _ _ _ c _ => hF.g (hn 2 (by omega)) _ _) (fun a _ _ _ c _ => hF.g (hn 3 (by omega)) _ _) (fun l _ _ c _ => hF.g (hn 4 (by omega)) _ _) (fun l _ c _ => hF.g (by rcases hb with rfl | rfl <;> decide) _ _) (fun q => absurd q (by decide)) hP
  refine h1 a ha c hc (Or.inr (fun q => hka (h2 a ha q)))
theorem zg_fact {b : Nat} (hb : b = 6 ∨ b = 11) {r r' : Nat} (hr : r < 54) (hr' : r' < 54) {c c' : Int32} (hc : 0 ≤ c ∧ c < 7) (hc' : 0 ≤ c' ∧ c' < 7) {v : Int32} {st : zz_T} : zz_g b (nI r') c' (zz_set b (nI r) c v st) = if r' = r ∧ c' = c then v else zz_g b (nI r') c' st := by
  rcases hb with rfl | rfl
  · exact zg6 hr hr' hc hc'
  · exact zg11 hr hr' hc hc'
theorem zd_takeOut {b : Nat} (hb : b = 6 ∨ b = 11) {a : Nat} (ha : a < 54) (st : zz_T) : zd_out b (fun x => x = a) st (zX2_takeOut b (nI a) st).2 := by
  show zd_out b (fun x => x = a) st (zz_set (b + 0) (nI a) 0 (-1) st)
  rw [Nat.add_zero]
  refine ⟨zp_F.rfl.set (by simp), fun x hx c hc h => ?_, fun x hx h => ?_⟩
  · rw [zg_fact hb ha hx (by decide) hc, if_neg]
    rintro ⟨q1, q2⟩
    rcases h with h | h
    · exact h q2
    · exact h q1
  · rw [zg_fact hb ha hx (by decide) (by decide), if_pos ⟨h, rfl⟩]
theorem zd_out.trans {b : Nat} {S S' : Nat → Prop} {x y z : zz_T} (h1 : zd_out b S x y) (h2 : zd_out b S' y z) : zd_out b (fun a => S a ∨ S' a) x z := by
  refine ⟨h1.1.trans h2.1, fun a ha c hc h => ?_, fun a ha h => ?_⟩
  · rw [h2.2.1 a ha c hc (h.imp_right (fun q r => q (Or.inr r))), h1.2.1 a ha c hc (h.imp_right (fun q r => q (Or.inl r)))]
  · by_cases q : S' a
    · exact h2.2.2 a ha q
    · rw [h2.2.1 a ha 0 (by decide) (Or.inr q)]
      exact h1.2.2 a ha (h.elim id (fun r => absurd r q))
theorem zd_out.iff {b : Nat} {S S' : Nat → Prop} {x y : zz_T} (h : zd_out b S x y) (hs : ∀ a, a < 54 → (S a ↔ S' a)) : zd_out b S' x y := ⟨h.1, fun a ha c hc q => h.2.1 a ha c hc (q.imp_right (fun r => fun t => r ((hs a ha).mp t))), fun a ha q => h.2.2 a ha ((hs a ha).mpr q)⟩
theorem zd_none {b : Nat} (st : zz_T) : zd_out b (fun _ => False) st st := ⟨.rfl, fun _ _ _ _ _ => rfl, fun _ _ q => q.elim⟩
/-- what waits of a UNIT -/
abbrev zd_w (u g L : Nat) : Nat → Prop := fun a => ∃ k, g ≤ k ∧ k < L ∧ a = 8 * u + k
theorem zd_drop {b : Nat} (hb : b = 6 ∨ b = 11) {u g L : Nat} {st : zz_T} (hu : u < 6) (hg : zz_g 4 (nI u) 7 st = nI g) (hL : zz_g 4 (nI u) 1 st = nI L) (hgL : g ≤ L) (hL8 : L ≤ 8) : zp_ok (zX8_dropWaiting b (nI u) st) (fun x => zd_out b (zd_w u g L) st x.2) := by
  have h4 : (4 : Nat) ∉ [b] := by rcases hb with rfl | rfl <;> decide
  unfold zX8_dropWaiting
  simp only [zz_v]
  rw [show zX7_get (nI u) 7 st = nI g from hg]
  refine zp_loop (F := fun n v (s : Int32 × zz_T) => zX8_dropWaiting_14 b n (nI u) s.1 v s.2) (N := L) (fun k s => g ≤ k ∧ zd_out b (zd_w u g k) st s.2) (fun n s h => ?_) (fun n k s hk h ih => ?_) (L - g) zz_N g (0, st) (by omega) (by show _ < 1000; omega) ⟨Nat.le_refl g, (zd_none st).iff (fun a _ => ⟨fun q => q.elim, fun ⟨k, q1, q2, _⟩ => by omega⟩)⟩
  · rw [zX8_dropWaiting_14, show zX7_get (nI u) 1 s.2 = nI L from (h.2.1.g h4 _ _).trans hL, if_pos (nI_le (Nat.le_refl _) (by omega))]
    exact .ret h.2
  · obtain ⟨hgk, h⟩ := h
    rw [zX8_dropWaiting_14, show zX7_get (nI u) 1 s.2 = nI L from (h.1.g h4 _ _).trans hL, if_neg (nI_ge hk (by omega))]
    simp only [zz_v, zr_slot]
    have nx : zd_out b (zd_w u g (k + 1)) st (zX2_takeOut b (nI (8 * u + k)) s.2).2 := by
      refine (h.trans (zd_takeOut hb (a := 8 * u + k) (by omega) s.2)).iff (fun a _ => ⟨?_, ?_⟩)
      · rintro (⟨j, j1, j2, j3⟩ | rfl)
        · exact ⟨j, j1, by omega, j3⟩
        · exact ⟨k, hgk, by omega, rfl⟩
      · rintro ⟨j, j1, j2, j3⟩
        by_cases e : j = k
        · subst e; exact Or.inr j3
        · exact Or.inl ⟨j, j1, by omega, j3⟩
    exact zp_ite (fun _ => ih (_, _) ⟨by omega, nx⟩) (fun _ => ih (_, _) ⟨by omega, nx⟩)
