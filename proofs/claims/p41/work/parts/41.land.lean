/-! PURE: what is left alone; the LAND -/
def zp_F (ts ks : List Nat) (a b : zz_T) : Prop := (∀ t, t ∉ ts → b.1 t = a.1 t) ∧ ∀ k, k ∉ ks → b.2 k = a.2 k
theorem zp_F.rfl {ts ks : List Nat} {a : zz_T} : zp_F ts ks a a := ⟨fun _ _ => Eq.refl _, fun _ _ => Eq.refl _⟩
theorem zp_F.trans {ts ks : List Nat} {a b c : zz_T} (h1 : zp_F ts ks a b) (h2 : zp_F ts ks b c) : zp_F ts ks a c := ⟨fun t ht => (h2.1 t ht).trans (h1.1 t ht), fun k hk => (h2.2 k hk).trans (h1.2 k hk)⟩
theorem zp_F.mono {ts ks ts' ks' : List Nat} {a b : zz_T} (h : zp_F ts ks a b) (h1 : ∀ t ∈ ts, t ∈ ts') (h2 : ∀ k ∈ ks, k ∈ ks') : zp_F ts' ks' a b := ⟨fun t ht => h.1 t (fun q => ht (h1 t q)), fun k hk => h.2 k (fun q => hk (h2 k q))⟩
theorem zp_F.set {ts ks : List Nat} {a b : zz_T} {t : Nat} {r c v : Int32} (h : zp_F ts ks a b) (ht : t ∈ ts) : zp_F ts ks a (zz_set t r c v b) := by
  refine ⟨fun u hu => ?_, fun k hk => ?_⟩
  · rw [← h.1 u hu]
    unfold zz_set
    split
    · have : u ≠ t := fun q => hu (q ▸ ht)
      unfold zz_up; simp [this]
    · exact Eq.refl _
  · rw [zp_s2]; exact h.2 k hk
theorem zp_F.add {ts ks : List Nat} {a b : zz_T} {t : Nat} {r c v : Int32} (h : zp_F ts ks a b) (ht : t ∈ ts) : zp_F ts ks a (zz_add t r c v b) := h.set ht
theorem zp_F.up {ts ks : List Nat} {a b : zz_T} {t : Nat} {f : Nat → Int32} (h : zp_F ts ks a b) (ht : t ∈ ts) : zp_F ts ks a (zz_up t f b) := by
  refine ⟨fun u hu => ?_, fun k hk => h.2 k hk⟩
  rw [← h.1 u hu]
  have : u ≠ t := fun q => hu (q ▸ ht)
  unfold zz_up; simp [this]
theorem zp_F.fill {ts ks : List Nat} {a b : zz_T} {t : Nat} {v : Int32} (h : zp_F ts ks a b) (ht : t ∈ ts) : zp_F ts ks a (zz_fill t v b) := h.up ht
theorem zp_F.cp {ts ks : List Nat} {a b : zz_T} {t u : Nat} (h : zp_F ts ks a b) (ht : t ∈ ts) : zp_F ts ks a (zz_cp t u b) := h.up ht
theorem zp_F.S {ts ks : List Nat} {a b : zz_T} {k : Nat} {v : Int32} (h : zp_F ts ks a b) (hk : k ∈ ks) : zp_F ts ks a (zz_S k v b) := by
  refine ⟨fun u hu => h.1 u hu, fun j hj => ?_⟩
  have hne : j ≠ k := fun q => hj (by rw [q]; exact hk)
  rw [zp_SS, if_neg hne]
  exact h.2 j hj
theorem zp_F.g {ts ks : List Nat} {a b : zz_T} (h : zp_F ts ks a b) {t : Nat} (ht : t ∉ ts) (r c : Int32) : zz_g t r c b = zz_g t r c a := by
  unfold zz_g
  rw [h.1 t ht]
theorem zp_F.s {ts ks : List Nat} {a b : zz_T} (h : zp_F ts ks a b) {k : Nat} (hk : k ∉ ks) : b.2 k = a.2 k := h.2 k hk
/-- all of a table -/
def zp_all (t : Nat) (P : Int32 → Prop) (st : zz_T) : Prop := ∀ i, i < zz_n t → P (st.1 t i)
theorem zp_all.set {t : Nat} {P : Int32 → Prop} {st : zz_T} {r c v : Int32} (h : zp_all t P st) (hv : P v) : zp_all t P (zz_set t r c v st) := by
  intro i hi
  unfold zz_set
  split
  · unfold zz_up
    simp only [if_true, upd]
    split
    · exact hv
    · exact h i hi
  · exact h i hi
theorem zp_all.F {t : Nat} {P : Int32 → Prop} {ts ks : List Nat} {a b : zz_T} (hF : zp_F ts ks a b) (ht : t ∉ ts) (h : zp_all t P a) : zp_all t P b := by
  intro i hi
  rw [hF.1 t ht]
  exact h i hi
theorem zp_all.g {t : Nat} {P : Int32 → Prop} {st : zz_T} (h : zp_all t P st) (h0 : P 0) (r c : Int32) : P (zz_g t r c st) := by
  unfold zz_g
  split
  · rename_i hin
    refine h _ ?_
    obtain ⟨j, hj, -, -, hc, -⟩ := pk_mu (x := zz_at t r c) (L := zz_n t) (Int32.not_lt.mpr hin.2.2.2.1) (Int32.not_le.mpr hin.2.2.2.2) (zz_n_lt t)
    omega
  · exact h0
theorem zp_all.fill {t : Nat} {P : Int32 → Prop} {st : zz_T} {v : Int32} (hv : P v) : zp_all t P (zz_fill t v st) := by
  intro i _
  unfold zz_fill zz_up
  simp [hv]
/-- the first LINE of a way: none, or one of the first L -/
abbrev zp_li (L : Nat) (x : Int32) : Prop := x = -1 ∨ ∃ l, l < L ∧ x = nI l
abbrev zp_J (a b : zz_T) : Prop := zp_F [2, 3] [] a b ∧ zp_all 3 (zp_li 8) b
theorem zp_noteFirst {a st : zz_T} {l : Nat} {x y g : Int32} (hl : l < 8) (h : zp_J a st) : zp_J a (zX1_noteFirst (nI l) x y g st) := by
  unfold zX1_noteFirst
  simp only [zz_v]
  split
  · split
    · exact h
    · split
      · exact ⟨h.1.set (by decide), h.2.set (Or.inr ⟨l, hl, rfl⟩)⟩
      · exact h
  · exact h
theorem zp_shorten {a st : zz_T} {v x y g : Int32} (h : zp_J a st) : zp_J a (zX1_shorten v x y g st) := by
  unfold zX1_shorten
  simp only [zz_v]
  split
  · split
    · exact h
    · split
      · exact ⟨h.1.set (by decide), zp_all.F (zp_F.rfl.set (ts := [2]) (ks := []) (by decide)) (by decide) h.2⟩
      · exact ⟨h.1.set (by decide), zp_all.F (zp_F.rfl.set (ts := [2]) (ks := []) (by decide)) (by decide) h.2⟩
  · exact h
theorem zp_nm (k : Nat) : nI (k + 1) + (-1) = nI k := by
  rw [← Int32.sub_eq_add_neg]
  exact nI_pred k
theorem zp_findFirsts_7 {a : zz_T} {g : Int32} : ∀ (k n : Nat) (st : zz_T), k ≤ 8 → k < n → zp_J a st → zp_ok (zX1_findFirsts_7 n g (nI k + (-1)) st) (zp_J a) := by
  intro k
  induction k with
  | zero =>
    intro n st _ hn h
    obtain ⟨n, rfl⟩ : ∃ j, n = j + 1 := ⟨n - 1, by omega⟩
    rw [zX1_findFirsts_7, if_pos (by decide)]
    exact .ret h
  | succ k ih =>
    intro n st hk hn h
    obtain ⟨n, rfl⟩ : ∃ j, n = j + 1 := ⟨n - 1, by omega⟩
    rw [zp_nm, zX1_findFirsts_7, if_neg (nI_pos (by omega))]
    simp only [zz_v]
    exact ih n _ (by omega) (by omega) (zp_noteFirst (by omega) (zp_noteFirst (by omega) h))
theorem zp_findFirsts {a st : zz_T} {g : Int32} {L : Nat} (hL : a.2 3 = nI L) (hL8 : L ≤ 8) (h : zp_J a st) : zp_ok (zX1_findFirsts g st) (zp_J a) := by
  unfold zX1_findFirsts
  simp only [zz_v]
  rw [h.1.s (k := 3) (by decide), hL, Int32.sub_eq_add_neg]
  exact zp_findFirsts_7 L zz_N st hL8 (by show L < 1000; omega) h
theorem zp_findWays {a : zz_T} {S L : Nat} (hS : a.2 2 = nI S) (hL : a.2 3 = nI L) (hS10 : S ≤ 10) (hL8 : L ≤ 8) : zp_ok (zX1_findWays a) (zp_J a) := by
  unfold zX1_findWays
  simp only [zz_v]
  have h0 : zp_J a (zz_fill 3 (-1) (zz_fill 2 (-1) a)) := ⟨(zp_F.rfl.fill (by decide)).fill (by decide), zp_all.fill (Or.inl rfl)⟩
  refine zp_loop0 (F := fun n v (s : zz_T) => zX1_findWays_18 n v s) (N := S) (by omega) (fun _ s => zp_J a s) (fun n s h => ?_) (fun n k s hk h ih => ?_) h0
  · rw [zX1_findWays_18, h.1.s (k := 2) (by decide), hS, if_pos (nI_le (Nat.le_refl _) (by omega))]
    exact .ret h
  · rw [zX1_findWays_18, h.1.s (k := 2) (by decide), hS, if_neg (nI_ge hk (by omega))]
    simp only [zz_v]
    have h1 : zp_J a (zz_set 2 (nI k) (nI k) 0 s) := ⟨h.1.set (by decide), zp_all.F (zp_F.rfl.set (ts := [2]) (ks := []) (by decide)) (by decide) h.2⟩
    refine zp_loop (F := fun n v (s : zz_T) => zX1_findWays_38 (fun v1' st' => zX1_findWays_18 _ v1' st') n (nI k) v s) (N := S) (fun _ s => zp_J a s) (fun n2 s h => ?_) (fun n2 j s hj h ih2 => ?_) (S - 1) zz_N 1 _ (by omega) (by show _ < 1000; omega) h1
    · rw [zX1_findWays_38, h.1.s (k := 2) (by decide), hS, if_pos (nI_le (Nat.le_refl _) (by omega))]
      exact (zp_findFirsts hL hL8 h).bind (fun x hx => ih x hx)
    · rw [zX1_findWays_38, h.1.s (k := 2) (by decide), hS, if_neg (nI_ge hj (by omega))]
      refine zp_loop0 (F := fun n v (s : zz_T) => zX1_findWays_48 (fun v1' st' => zX1_findWays_18 _ v1' st') (fun v1' v2' st' => zX1_findWays_38 _ _ v1' v2' st') n (nI k) (nI j) v s) (N := L) (by omega) (fun _ s => zp_J a s) (fun n3 s h => ?_) (fun n3 i s hi h ih3 => ?_) h
      · rw [zX1_findWays_48, h.1.s (k := 3) (by decide), hL, if_pos (nI_le (Nat.le_refl _) (by omega))]
        exact ih2 s h
      · rw [zX1_findWays_48, h.1.s (k := 3) (by decide), hL, if_neg (nI_ge hi (by omega))]
        simp only [zz_v]
        exact ih3 _ (zp_shorten (zp_shorten h))
/-! the land by two numbers -/
abbrev zi_st (r : Nat) (st : zz_T) : Prop := zz_g 0 (nI r) 0 st = 2 ∧ zz_g 0 (nI r) 1 st = 3 ∧ zz_g 0 (nI r) 2 st = 4
abbrev zi_ln (l : Nat) (st : zz_T) : Prop := (∃ a, a < 6 ∧ zz_g 1 (nI l) 0 st = nI a) ∧ (∃ b, b < 6 ∧ zz_g 1 (nI l) 1 st = nI b) ∧ (∃ B, 1 ≤ B ∧ B ≤ 5 ∧ zz_g 1 (nI l) 2 st = nI B) ∧ (∃ k, k ≤ 20 ∧ zz_g 1 (nI l) 7 st = nI k)
theorem zp_addStation {a : zz_T} {s L : Nat} (hs : a.2 2 = nI s) (hL : a.2 3 = nI L) (hs9 : s ≤ 9) (hL8 : L ≤ 8) (w : Bool) : zp_ok (zX1_addStation 2 3 4 w a) (fun x => zp_F [0, 2, 3] [2] a x.2 ∧ x.2.2 2 = nI (s + 1) ∧ zp_all 3 (zp_li 8) x.2 ∧ zi_st s x.2 ∧ ∀ r, r < 10 → r ≠ s → zi_st r a → zi_st r x.2) := by
  have key : ∀ v : Int32, zp_ok ((zX1_findWays (zz_S 2 (nI (s + 1)) (zz_set 0 (nI s) 3 v (zz_set 0 (nI s) 2 4 (zz_set 0 (nI s) 1 3 (zz_set 0 (nI s) 0 2 a)))))).bind fun st12 => some (nI s, st12)) (fun x => zp_F [0, 2, 3] [2] a x.2 ∧ x.2.2 2 = nI (s + 1) ∧ zp_all 3 (zp_li 8) x.2 ∧ zi_st s x.2 ∧ ∀ r, r < 10 → r ≠ s → zi_st r a → zi_st r x.2) := by
    intro v
    obtain ⟨b, hb⟩ : ∃ b, b = zz_S 2 (nI (s + 1)) (zz_set 0 (nI s) 3 v (zz_set 0 (nI s) 2 4 (zz_set 0 (nI s) 1 3 (zz_set 0 (nI s) 0 2 a)))) := ⟨_, rfl⟩
    rw [← hb]
    have hF : zp_F [0, 2, 3] [2] a b := by rw [hb]; exact ((((zp_F.rfl.set (by decide)).set (by decide)).set (by decide)).set (by decide)).S (by decide)
    have h2 : b.2 2 = nI (s + 1) := by rw [hb, zp_SS, if_pos rfl]
    have h3 : b.2 3 = nI L := by rw [hF.s (by decide), hL]
    have hg : ∀ r, r < 10 → ∀ c : Int32, 0 ≤ c ∧ c < 3 → zz_g 0 (nI r) c b = if r = s then (if c = 0 then 2 else if c = 1 then 3 else 4) else zz_g 0 (nI r) c a := by
      intro r hr c hc
      have hc5 : 0 ≤ c ∧ c < 5 := ⟨hc.1, Int32.lt_of_lt_of_le hc.2 (by decide)⟩
      have hcc : c = 0 ∨ c = 1 ∨ c = 2 := by
        obtain ⟨j, hj, rfl⟩ := nI_of (Int32.not_lt.mpr hc.1)
        have : j < 3 := (nI_ltI hj (by decide)).mp hc.2
        rcases (show j = 0 ∨ j = 1 ∨ j = 2 by omega) with rfl | rfl | rfl <;> decide
      rw [hb, zp_gS, zg0 (by omega) hr (by decide) hc5, zg0 (by omega) hr (by decide) hc5, zg0 (by omega) hr (by decide) hc5, zg0 (by omega) hr (by decide) hc5]
      by_cases hrs : r = s
      · rcases hcc with rfl | rfl | rfl <;> simp [hrs]
      · simp [hrs]
    refine (zp_findWays h2 h3 (by omega) hL8).bind (fun x hx => .ret ?_)
    have hgx : ∀ r c, zz_g 0 r c x = zz_g 0 r c b := fun r c => hx.1.g (by decide) r c
    refine ⟨hF.trans (hx.1.mono (by decide) (by decide)), by rw [hx.1.s (by decide), h2], hx.2, ?_, fun r hr hrs h => ?_⟩
    · refine ⟨?_, ?_, ?_⟩ <;> rw [hgx, hg s (by omega) _ (by decide), if_pos rfl] <;> decide
    · refine ⟨?_, ?_, ?_⟩ <;> rw [hgx, hg r hr _ (by decide), if_neg hrs]
      · exact h.1
      · exact h.2.1
      · exact h.2.2
  unfold zX1_addStation zX1_addStation_56
  simp only [zz_v, zp_s2, hs, nI_1]
  cases w
  · exact key _
  · exact key _
theorem zp_addLine {a : zz_T} {s L x y B g : Nat} (hs : a.2 2 = nI s) (hL : a.2 3 = nI L) (hs10 : s ≤ 10) (hL7 : L ≤ 7) (hx : x < 6) (hy : y < 6) (hB : 1 ≤ B ∧ B ≤ 5) (hg : g ≤ 2) (w : Bool) : zp_ok (zX1_addLine (nI x) (nI y) (nI B) w (nI g) a) (fun z => zp_F [1, 2, 3] [3] a z.2 ∧ z.2.2 3 = nI (L + 1) ∧ zp_all 3 (zp_li 8) z.2 ∧ zi_ln L z.2 ∧ ∀ r, r < 14 → r ≠ L → zi_ln r a → zi_ln r z.2) := by
  have key : ∀ v : Int32, zp_ok ((zX1_findWays (zz_S 3 (nI (L + 1)) (zz_set 1 (nI L) 5 v (zz_set 1 (nI L) 4 1 (zz_set 1 (nI L) 7 (nI B * (2 + nI g)) (zz_set 1 (nI L) 3 (2 + nI g) (zz_set 1 (nI L) 2 (nI B) (zz_set 1 (nI L) 1 (nI y) (zz_set 1 (nI L) 0 (nI x) a))))))))).bind fun st18 => some (nI L, st18)) (fun z => zp_F [1, 2, 3] [3] a z.2 ∧ z.2.2 3 = nI (L + 1) ∧ zp_all 3 (zp_li 8) z.2 ∧ zi_ln L z.2 ∧ ∀ r, r < 14 → r ≠ L → zi_ln r a → zi_ln r z.2) := by
    intro v
    obtain ⟨b, hb⟩ : ∃ b, b = zz_S 3 (nI (L + 1)) (zz_set 1 (nI L) 5 v (zz_set 1 (nI L) 4 1 (zz_set 1 (nI L) 7 (nI B * (2 + nI g)) (zz_set 1 (nI L) 3 (2 + nI g) (zz_set 1 (nI L) 2 (nI B) (zz_set 1 (nI L) 1 (nI y) (zz_set 1 (nI L) 0 (nI x) a))))))) := ⟨_, rfl⟩
    rw [← hb]
    have hF : zp_F [1, 2, 3] [3] a b := by rw [hb]; exact (((((((zp_F.rfl.set (by decide)).set (by decide)).set (by decide)).set (by decide)).set (by decide)).set (by decide)).set (by decide)).S (by decide)
    have h3 : b.2 3 = nI (L + 1) := by rw [hb, zp_SS, if_pos rfl]
    have h2 : b.2 2 = nI s := by rw [hF.s (by decide), hs]
    have hn : ∀ r, r < 14 → r ≠ L → ∀ c : Int32, 0 ≤ c ∧ c < 8 → zz_g 1 (nI r) c b = zz_g 1 (nI r) c a := by
      intro r hr hrs c hc
      rw [hb, zp_gS, zg1 (by omega) hr (by decide) hc, zg1 (by omega) hr (by decide) hc, zg1 (by omega) hr (by decide) hc, zg1 (by omega) hr (by decide) hc, zg1 (by omega) hr (by decide) hc, zg1 (by omega) hr (by decide) hc, zg1 (by omega) hr (by decide) hc]
      simp [hrs]
    have hself : zz_g 1 (nI L) 0 b = nI x ∧ zz_g 1 (nI L) 1 b = nI y ∧ zz_g 1 (nI L) 2 b = nI B ∧ zz_g 1 (nI L) 7 b = nI B * (2 + nI g) := by
      have hL14 : L < 14 := by omega
      rw [hb]
      simp only [zp_gS]
      refine ⟨?_, ?_, ?_, ?_⟩ <;> rw [zg1 hL14 hL14 (by decide) (by decide), zg1 hL14 hL14 (by decide) (by decide), zg1 hL14 hL14 (by decide) (by decide)]
      · rw [zg1 hL14 hL14 (by decide) (by decide), zg1 hL14 hL14 (by decide) (by decide), zg1 hL14 hL14 (by decide) (by decide), zg1 hL14 hL14 (by decide) (by decide)]; simp
      · rw [zg1 hL14 hL14 (by decide) (by decide), zg1 hL14 hL14 (by decide) (by decide), zg1 hL14 hL14 (by decide) (by decide), zg1 hL14 hL14 (by decide) (by decide)]; simp
      · rw [zg1 hL14 hL14 (by decide) (by decide), zg1 hL14 hL14 (by decide) (by decide)]; simp
      · simp
    refine (zp_findWays h2 h3 hs10 (by omega)).bind (fun z hz => .ret ?_)
    have hgz : ∀ r c, zz_g 1 r c z = zz_g 1 r c b := fun r c => hz.1.g (by decide) r c
    refine ⟨hF.trans (hz.1.mono (by decide) (by decide)), by rw [hz.1.s (by decide), h3], hz.2, ?_, fun r hr hrs h => ?_⟩
    · refine ⟨⟨x, hx, by rw [hgz, hself.1]⟩, ⟨y, hy, by rw [hgz, hself.2.1]⟩, ⟨B, hB.1, hB.2, by rw [hgz, hself.2.2.1]⟩, ⟨B * (2 + g), ?_, ?_⟩⟩
      · have : B * (2 + g) ≤ 5 * 4 := Nat.mul_le_mul hB.2 (by omega)
        omega
      · rw [hgz, hself.2.2.2, show (2 : Int32) = nI 2 from rfl, nI_add, pk_mul]
    · refine ⟨?_, ?_, ?_, ?_⟩ <;> rw [hgz, hn r hr hrs _ (by decide)]
      · exact h.1
      · exact h.2.1
      · exact h.2.2.1
      · exact h.2.2.2
  unfold zX1_addLine zX1_addLine_98
  simp only [zz_v, zp_s2, hL, nI_1]
  cases w
  · exact key _
  · exact key _
/-- the land as it is told first -/
abbrev zi_land (st : zz_T) : Prop := st.2 2 = nI 6 ∧ st.2 3 = nI 8 ∧ (∀ r, r < 6 → zi_st r st) ∧ (∀ l, l < 8 → zi_ln l st) ∧ zp_all 3 (zp_li 8) st
theorem zp_land {a : zz_T} {B g : Nat} (h2 : a.2 2 = nI 0) (h3 : a.2 3 = nI 0) (hB : 1 ≤ B ∧ B ≤ 5) (hg : g ≤ 2) : zp_ok (zX8_land (nI B) (nI g) a) (fun x => zp_F [0, 1, 2, 3] [2, 3] a x.2 ∧ zi_land x.2) := by
  have hno : zX8_isNoTrack (nI B) (nI g) a = false := by
    unfold zX8_isNoTrack
    rw [if_neg (show ¬ nI B < 1 from nI_nlt (a := B) (b := 1) hB.1 (by omega)), if_neg (show ¬ (5 : Int32) < nI B from nI_nlt (a := 5) (b := B) hB.2 (by decide)), if_neg (nI_pos (by omega)), if_pos (show nI g ≤ 2 from nI_le (a := g) (b := 2) hg (by decide))]
  unfold zX8_land
  rw [hno, if_neg (by decide), show zX1_countStations a = nI 0 from h2, if_pos (by decide)]
  refine zp_ok.bind (P := fun x => zp_F [0, 1, 2, 3] [2, 3] a x ∧ zi_land x) ?_ (fun x hx => .ret hx)
  unfold zX1_addWhole
  refine zp_loop0 (F := fun n v (s : zz_T) => zX1_addWhole_2 n (nI B) (nI g) v s) (N := 6) (by decide) (fun k s => zp_F [0, 2, 3] [2] a s ∧ s.2 2 = nI k ∧ ∀ r, r < k → zi_st r s) (fun n s h => ?_) (fun n k s hk h ih => ?_) ⟨.rfl, h2, fun r hr => absurd hr (Nat.not_lt_zero r)⟩
  · obtain ⟨hF, hS, hst⟩ := h
    rw [zX1_addWhole_2, if_pos (by decide)]
    refine zp_loop0 (F := fun n v (s : zz_T) => zX1_addWhole_35 n (nI B) (nI g) v s) (N := 5) (by decide) (fun k s => zp_F [0, 1, 2, 3] [2, 3] a s ∧ s.2 2 = nI 6 ∧ s.2 3 = nI k ∧ (∀ r, r < 6 → zi_st r s) ∧ ∀ l, l < k → zi_ln l s) (fun n s h => ?_) (fun n k s hk h ih => ?_) ⟨hF.mono (by decide) (by decide), hS, by rw [hF.s (by decide), h3], hst, fun l hl => absurd hl (Nat.not_lt_zero l)⟩
    · rw [zX1_addWhole_35, if_pos (by decide)]
      refine zp_loop0 (F := fun n v (s : zz_T) => zX1_addWhole_60 n (nI B) (nI g) v s) (N := 3) (by decide) (fun k s => zp_F [0, 1, 2, 3] [2, 3] a s ∧ s.2 2 = nI 6 ∧ s.2 3 = nI (5 + k) ∧ (∀ r, r < 6 → zi_st r s) ∧ (∀ l, l < 5 + k → zi_ln l s) ∧ (k = 3 → zp_all 3 (zp_li 8) s)) (fun n s h => ?_) (fun n k s hk h ih => ?_) ⟨h.1, h.2.1, h.2.2.1, h.2.2.2.1, h.2.2.2.2, fun q => absurd q (by decide)⟩
      · rw [zX1_addWhole_60, if_pos (by decide)]
        exact .ret ⟨h.1, h.2.1, h.2.2.1, h.2.2.2.1, h.2.2.2.2.1, h.2.2.2.2.2 rfl⟩
      · obtain ⟨hF, h6, hl, hst, hln, -⟩ := h
        rw [zX1_addWhole_60, if_neg (show ¬ (3 : Int32) ≤ nI k from nI_ge (a := k) (b := 3) hk (by decide)), show nI k + 3 = nI (k + 3) from nI_add k 3]
        refine (zp_addLine h6 hl (by decide) (by omega) (by omega) (by omega) hB hg false).bind (fun x hx => ih _ ?_)
        obtain ⟨e1, e2, e3, e4, e5⟩ := hx
        refine ⟨hF.trans (e1.mono (by decide) (by decide)), by rw [e1.s (by decide), h6], e2, fun r hr => ?_, fun l hl => ?_, fun _ => e3⟩
        · have := hst r hr
          refine ⟨?_, ?_, ?_⟩ <;> rw [e1.g (by decide)]
          · exact this.1
          · exact this.2.1
          · exact this.2.2
        · by_cases q : l = 5 + k
          · rw [q]; exact e4
          · exact e5 l (by omega) q (hln l (by omega))
    · obtain ⟨hF, h6, hl, hst, hln⟩ := h
      rw [zX1_addWhole_35, if_neg (show ¬ (5 : Int32) ≤ nI k from nI_ge (a := k) (b := 5) hk (by decide)), nI_1]
      refine (zp_addLine (B := 2) (g := 0) h6 hl (by decide) (by omega) (by omega) (by omega) (by decide) (by decide) true).bind (fun x hx => ?_)
      rw [← nI_1]
      refine ih _ ?_
      obtain ⟨e1, e2, e3, e4, e5⟩ := hx
      refine ⟨hF.trans (e1.mono (by decide) (by decide)), by rw [e1.s (by decide), h6], e2, fun r hr => ?_, fun l hl => ?_⟩
      · have := hst r hr
        refine ⟨?_, ?_, ?_⟩ <;> rw [e1.g (by decide)]
        · exact this.1
        · exact this.2.1
        · exact this.2.2
      · by_cases q : l = k
        · rw [q]; exact e4
        · exact e5 l (by omega) q (hln l (by omega))
  · obtain ⟨hF, hS, hst⟩ := h
    have hL : s.2 3 = nI 0 := by rw [hF.s (by decide), h3]
    rw [zX1_addWhole_2, if_neg (show ¬ (6 : Int32) ≤ nI k from nI_ge (a := k) (b := 6) hk (by decide))]
    have go : ∀ w : Bool, zp_ok ((zX1_addStation 2 3 4 w s).bind fun x => zX1_addWhole_2 n (nI B) (nI g) (nI k + 1) x.2) (fun x => zp_F [0, 1, 2, 3] [2, 3] a x ∧ zi_land x) := by
      intro w
      refine (zp_addStation hS hL (by omega) (by decide) w).bind (fun x hx => ih _ ?_)
      obtain ⟨e1, e2, e3, e4, e5⟩ := hx
      refine ⟨hF.trans e1, e2, fun r hr => ?_⟩
      by_cases q : r = k
      · rw [q]; exact e4
      · exact e5 r (by omega) q (hst r (by omega))
    exact zp_ite (fun _ => go true) (fun _ => go false)
