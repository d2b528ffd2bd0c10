/-! PURE: what always holds -/
/-- one table's columns left alone, but some -/
def zp_C (t : Nat) (cs : List Int32) (a b : zz_T) : Prop := ∀ r, r < zp_R t → ∀ c : Int32, 0 ≤ c ∧ c < zz_w t → c ∉ cs → zz_g t (nI r) c b = zz_g t (nI r) c a
theorem zp_C.rfl {t : Nat} {cs : List Int32} {a : zz_T} : zp_C t cs a a := fun _ _ _ _ _ => Eq.refl _
theorem zp_C.trans {t : Nat} {cs : List Int32} {a b c : zz_T} (h1 : zp_C t cs a b) (h2 : zp_C t cs b c) : zp_C t cs a c := fun r hr k hk hn => (h2 r hr k hk hn).trans (h1 r hr k hk hn)
theorem zp_C.mono {t : Nat} {cs cs' : List Int32} {a b : zz_T} (h : zp_C t cs a b) (hs : ∀ c ∈ cs, c ∈ cs') : zp_C t cs' a b := fun r hr k hk hn => h r hr k hk (fun q => hn (hs k q))
theorem zp_C.F {t : Nat} {cs : List Int32} {ts ks : List Nat} {a b : zz_T} (h : zp_F ts ks a b) (ht : t ∉ ts) : zp_C t cs a b := fun r _ c _ _ => h.g ht (nI r) c
theorem zp_C.set {t : Nat} {cs : List Int32} {a b : zz_T} {r : Nat} {c v : Int32} (h : zp_C t cs a b) (ht : t < 24) (hr : r < zp_R t) (hc : 0 ≤ c ∧ c < zz_w t) (hm : c ∈ cs) : zp_C t cs a (zz_set t (nI r) c v b) := by
  intro r' hr' c' hc' hn
  have hne : ¬ (r' = r ∧ c' = c) := fun q => hn (by rw [q.2]; exact hm)
  rw [zp_gs ht hr hr' hc hc', if_neg hne]
  exact h r' hr' c' hc' hn
theorem zp_C.add {t : Nat} {cs : List Int32} {a b : zz_T} {r : Nat} {c v : Int32} (h : zp_C t cs a b) (ht : t < 24) (hr : r < zp_R t) (hc : 0 ≤ c ∧ c < zz_w t) (hm : c ∈ cs) : zp_C t cs a (zz_add t (nI r) c v b) := h.set ht hr hc hm
theorem zp_C.ne {t t' : Nat} {cs : List Int32} {a b : zz_T} {r c v : Int32} (h : zp_C t cs a b) (ht : t ≠ t') : zp_C t cs a (zz_set t' r c v b) := fun r' hr' c' hc' hn => (zp_gn ht).trans (h r' hr' c' hc' hn)
theorem zp_C.ane {t t' : Nat} {cs : List Int32} {a b : zz_T} {r c v : Int32} (h : zp_C t cs a b) (ht : t ≠ t') : zp_C t cs a (zz_add t' r c v b) := h.ne ht
theorem zp_C.S {t : Nat} {cs : List Int32} {a b : zz_T} {k : Nat} {v : Int32} (h : zp_C t cs a b) : zp_C t cs a (zz_S k v b) := fun r' hr' c' hc' hn => h r' hr' c' hc' hn
/-- a number below n -/
abbrev zp_bl (n : Nat) (x : Int32) : Prop := ∃ k, k < n ∧ x = nI k
theorem zp_bl.ge {n : Nat} {x : Int32} (h : zp_bl n x) (hn : n ≤ 2 ^ 31) : ¬ x < 0 := by
  obtain ⟨k, hk, rfl⟩ := h
  exact nI_pos (by omega)
/-- counts -/
def zi_N (e T : Nat) (st : zz_T) : Prop := st.2 2 = nI 6 ∧ st.2 3 = nI 8 ∧ st.2 4 = nI 6 ∧ st.2 5 = nI T ∧ T ≤ 60 ∧ (∃ t, t ≤ 2880 ∧ st.2 0 = nI t) ∧ (∃ s, s ≤ e ∧ st.2 6 = nI s) ∧ st.2 7 = nI 0
/-- the land -/
def zi_L (st : zz_T) : Prop := (∀ r, r < 6 → zz_g 0 (nI r) 0 st = 2 ∧ zz_g 0 (nI r) 1 st = 3) ∧ (∀ l, l < 8 → zi_ln l st) ∧ zp_all 3 (zp_li 8) st
/-- units: what is told of them; aims; railheads; what the foe has -/
def zi_U (f : Nat → Int32) (st : zz_T) : Prop := (∀ u, u < 6 → (zz_g 4 (nI u) 0 st = f u ∧ zp_bl 5 (f u)) ∧ zp_bl 6 (zz_g 4 (nI u) 2 st) ∧ zp_bl 3 (zz_g 4 (nI u) 3 st)) ∧ zp_all 23 (zp_bl 3) st
def zi_X (st : zz_T) : Prop := (∀ s, s < 3 → zp_bl 6 (zz_g 19 (nI s) 0 st)) ∧ ∀ s, s < 3 → zp_bl 7 (zz_g 21 (nI s) 0 st)
/-- the LOADS' stages -/
def zi_c0 (u : Nat) (st : zz_T) : Nat → Nat := fun l => zp_b (zz_g 5 (nI (8 * u + l)) 0 st ≠ 0)
def zi_c2 (u : Nat) (st : zz_T) : Nat → Nat := fun l => zp_b (zz_g 5 (nI (8 * u + l)) 0 st = 2)
def zi_S1 (u L g r : Nat) (st : zz_T) : Prop := zz_g 4 (nI u) 1 st = nI L ∧ 1 ≤ L ∧ L ≤ 8 ∧ zz_g 4 (nI u) 7 st = nI g ∧ zz_g 4 (nI u) 6 st = nI r ∧ g ≤ r ∧ r ≤ L ∧ zz_g 4 (nI u) 8 st = nI (zp_s (zi_c0 u st) 0 L) ∧ zz_g 4 (nI u) 9 st = nI (zp_s (zi_c2 u st) 0 L) ∧
  ∀ l, l < 8 → zp_bl 3 (zz_g 5 (nI (8 * u + l)) 0 st) ∧ (g ≤ l → zz_g 5 (nI (8 * u + l)) 0 st = 0) ∧ (l < g → zp_bl 3 (zz_g 5 (nI (8 * u + l)) 1 st))
def zi_S (st : zz_T) : Prop := ∀ u, u < 6 → ∃ L g r, zi_S1 u L g r st
/-- kept PATHS: whose; SUPPLIES -/
abbrev zi_kept (b a : Nat) (st : zz_T) : Prop := zz_g b (nI a) 0 st ≠ -1
def zi_K1 (b : Nat) (st : zz_T) : Prop := ∀ u l, u < 6 → l < 8 → zi_kept b (8 * u + l) st → ∃ L, zz_g 4 (nI u) 1 st = nI L ∧ L ≤ 8 ∧ l < L
def zi_K (e : Nat) (st : zz_T) : Prop := zi_K1 6 st ∧ ∀ w, w < 6 → (∃ s, s ≤ e ∧ zz_g 18 (nI w) 0 st = nI s) ∧ (zi_kept 6 (48 + w) st ↔ zz_g 18 (nI w) 0 st ≠ 0)
/-- PATHS of a book: one, and two -/
def zi_gap (b a a' l : Nat) (st : zz_T) : Int32 := zz_abs (zz_g b (nI a') 0 st + zz_g (b + 2) (nI a') (nI l) st - (zz_g b (nI a) 0 st + zz_g (b + 2) (nI a) (nI l) st))
def zi_lim (b a a' l : Nat) (st : zz_T) : Int32 := if zz_g (b + 3) (nI a') (nI l) st = zz_g (b + 3) (nI a) (nI l) st then zz_g (b + 4) (nI l) 0 st else if zz_g (b + 4) (nI l) 2 st = 1 then 0 else zz_g (b + 4) (nI l) 1 st
def zi_on (b a l : Nat) (st : zz_T) : Prop := zz_g (b + 2) (nI a) (nI l) st ≠ -1
/-- a laid slot: its lines -/
def zi_P0 (b a n : Nat) (st : zz_T) : Prop := zz_g b (nI a) 1 st = nI n ∧ n ≤ 10 ∧ (∀ i, i < n → zp_li 8 (zz_g (b + 1) (nI a) (nI i) st)) ∧ (∀ i l, i < n → l < 8 → zz_g (b + 1) (nI a) (nI i) st = nI l → zi_on b a l st) ∧ (∀ l, l < 8 → zi_on b a l st → ∃ i, i < n ∧ zz_g (b + 1) (nI a) (nI i) st = nI l)
def zi_tr (b l : Nat) (st : zz_T) : Prop := zz_g (b + 4) (nI l) 0 st = zz_g 1 (nI l) 3 st ∧ zz_g (b + 4) (nI l) 1 st = zz_g 1 (nI l) 7 st ∧ zz_g (b + 4) (nI l) 2 st = if zz_g 1 (nI l) 5 st = 1 then 1 else 0
def zi_P1 (b a : Nat) (st : zz_T) : Prop := (∃ s, s ≤ 3200 ∧ zz_g b (nI a) 0 st = nI s) ∧ zp_bl 3 (zz_g b (nI a) 2 st) ∧ (∃ n, zi_P0 b a n st) ∧ ∀ l, l < 8 → zi_on b a l st → zi_tr b l st
def zi_P2 (b a a' : Nat) (st : zz_T) : Prop := ∀ l, l < 8 → zi_on b a l st → zi_on b a' l st → zi_lim b a a' l st ≤ zi_gap b a a' l st
def zi_P (b : Nat) (st : zz_T) : Prop := (∀ a, a < 54 → zi_kept b a st → zi_P1 b a st) ∧ ∀ a a', a < 54 → a' < 54 → a ≠ a' → zi_kept b a st → zi_kept b a' st → zi_P2 b a a' st
/-- what a PATH that is wanted takes to unload -/
def zi_Q (b : Nat) (st : zz_T) : Prop := ∀ a, a < 54 → zp_bl 10 (zz_g b (nI a) 4 st)
/-- TRAINS -/
def zi_how (i : Nat) (st : zz_T) : Int32 := zz_g 16 (nI i) 2 st
def zi_T1 (i : Nat) (st : zz_T) : Prop := zp_bl 4 (zi_how i st) ∧ (zi_how i st = 1 → zp_bl 8 (zz_g 16 (nI i) 3 st) ∧ 0 ≤ zz_g 16 (nI i) 4 st) ∧ (zi_how i st ≠ 1 → zz_g 16 (nI i) 4 st = -1) ∧ (zi_how i st = 0 ∨ zi_how i st = 2 → zp_bl 6 (zz_g 16 (nI i) 3 st)) ∧ zp_bl 6 (zz_g 16 (nI i) 12 st) ∧ zp_bl 3 (zz_g 16 (nI i) 10 st)
def zi_clash (i j : Nat) (st : zz_T) : Prop := zi_how i st = 1 ∧ zi_how j st = 1 ∧ zz_g 16 (nI i) 3 st = zz_g 16 (nI j) 3 st ∧ (if zz_g 16 (nI i) 11 st = zz_g 16 (nI j) 11 st then zz_g 16 (nI i) 4 st = zz_g 16 (nI j) 4 st else ¬ zz_g 1 (zz_g 16 (nI i) 3 st) 5 st = 1)
def zi_T (T : Nat) (st : zz_T) : Prop := (∀ i, i < T → zi_T1 i st) ∧ ∀ i j, i < T → j < T → i ≠ j → ¬ zi_clash i j st
def zi_at (i s : Nat) (st : zz_T) : Prop := (zi_how i st = 0 ∨ zi_how i st = 2) ∧ zz_g 16 (nI i) 3 st = nI s
def zi_fg (s : Nat) (st : zz_T) : Nat → Nat := fun i => zp_b ((zi_how i st = 0 ∨ zi_how i st = 2) ∧ zz_g 16 (nI i) 3 st = nI s ∧ ¬ zz_g 16 (nI i) 12 st = nI s)
def zi_fu (s : Nat) (st : zz_T) : Nat → Nat := fun i => zp_b (zi_how i st = 2 ∧ zz_g 16 (nI i) 3 st = nI s)
def zi_G (T : Nat) (st : zz_T) : Prop := ∀ s, s < 6 → zp_s (zi_fg s st) 0 T ≤ 5 ∧ zp_s (zi_fu s st) 0 T ≤ 2
/-- engines -/
def zi_E (T : Nat) (st : zz_T) : Prop := ∃ m : Nat → Nat, (∀ s, s < 6 → zz_g 0 (nI s) 2 st = nI (m s)) ∧ zp_s m 0 6 + zp_s (fun i => zp_b (zi_how i st ≠ 3)) 0 T + zp_s (fun i => zp_b (zz_g 16 (nI i) 15 st ≠ -1)) 0 T ≤ 24
/-- what a TRAIN that is not DONE carries -/
def zi_D1 (i : Nat) (st : zz_T) : Prop := (zz_g 16 (nI i) 0 st = -1 ∧ ∃ w, w < 6 ∧ zz_g 16 (nI i) 14 st = nI (48 + w)) ∨ ∃ u l g, u < 6 ∧ l < 8 ∧ zz_g 16 (nI i) 0 st = nI u ∧ zz_g 16 (nI i) 14 st = nI (8 * u + l) ∧ zz_g 4 (nI u) 7 st = nI g ∧ g ≤ 8 ∧ l < g ∧ zz_g 5 (nI (8 * u + l)) 0 st = 0
def zi_D (T : Nat) (st : zz_T) : Prop := (∀ i, i < T → zi_how i st ≠ 3 → zi_D1 i st) ∧ ∀ i j, i < T → j < T → i ≠ j → zi_how i st ≠ 3 → zi_how j st ≠ 3 → zz_g 16 (nI i) 0 st ≠ -1 → zz_g 16 (nI j) 0 st ≠ -1 → zz_g 16 (nI i) 14 st ≠ zz_g 16 (nI j) 14 st
/-- all -/
def zi_I (f : Nat → Int32) (e T : Nat) (st : zz_T) : Prop := zi_N e T st ∧ zi_L st ∧ zi_U f st ∧ zi_X st ∧ zi_S st ∧ zi_K e st ∧ zi_P 6 st ∧ zi_T T st ∧ zi_G T st ∧ zi_E T st ∧ zi_D T st
