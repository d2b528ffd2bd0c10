/-! PURE: the cells by numbers; what a function answers; loops; sums -/
def zp_R (t : Nat) : Nat := ([10, 14, 10, 10, 6, 48, 54, 54, 54, 54, 14, 54, 54, 54, 54, 14, 60, 60, 6, 3, 18, 3, 3, 4] : List Nat).getD t 0
def zp_w (t : Nat) : Nat := ([5, 8, 10, 10, 13, 3, 7, 14, 14, 14, 3, 7, 14, 14, 14, 3, 16, 1, 3, 13, 3, 2, 21, 6] : List Nat).getD t 0
theorem zp_wd : ∀ t, t < 24 → zz_w t = nI (zp_w t) ∧ zp_R t * zp_w t = zz_n t ∧ zp_w t ≤ 21 ∧ zz_n t ≤ 960 := by decide +kernel
theorem zp_lt {R w r k : Nat} (hr : r < R) (hk : k < w) : r * w + k < R * w := by
  have h1 : (r + 1) * w ≤ R * w := Nat.mul_le_mul_right w hr
  have h2 : (r + 1) * w = r * w + w := by rw [Nat.add_mul, Nat.one_mul]
  omega
theorem zp_inj {w r r' k k' : Nat} (hk : k < w) (hk' : k' < w) (h : r * w + k = r' * w + k') : r = r' ∧ k = k' := by
  have h1 : (r * w + k) / w = r := by
    rw [Nat.add_comm, Nat.mul_comm, Nat.add_mul_div_left _ _ (by omega), Nat.div_eq_of_lt hk, Nat.zero_add]
  have h2 : (r' * w + k') / w = r' := by
    rw [Nat.add_comm, Nat.mul_comm, Nat.add_mul_div_left _ _ (by omega), Nat.div_eq_of_lt hk', Nat.zero_add]
  have h3 : r = r' := by rw [← h1, h, h2]
  subst h3
  exact ⟨rfl, by omega⟩
theorem zp_in {t r k : Nat} (ht : t < 24) (hr : r < zp_R t) (hk : k < zp_w t) : zz_in t (nI r) (nI k) ∧ (zz_at t (nI r) (nI k)).toNatClampNeg = r * zp_w t + k := by
  obtain ⟨h1, h2, h3, h4⟩ := zp_wd t ht
  have hlt := zp_lt hr hk
  rw [h2] at hlt
  have hr2 : r < 2 ^ 31 := by
    have : r * 1 ≤ r * zp_w t := Nat.mul_le_mul_left r (by omega)
    omega
  have hat : zz_at t (nI r) (nI k) = nI (r * zp_w t + k) := by
    unfold zz_at
    rw [h1, pk_mul, nI_add]
  rw [zz_in, hat, h1]
  refine ⟨⟨nI_pos' hr2, nI_pos' (by omega), nI_lt hk (by omega), nI_pos' (by omega), ?_⟩, nI_clamp (by omega)⟩
  show nI _ < nI (zz_n t)
  exact nI_lt hlt (by omega)
theorem zp_g {t r k : Nat} (ht : t < 24) (hr : r < zp_R t) (hk : k < zp_w t) (st : zz_T) : zz_g t (nI r) (nI k) st = st.1 t (r * zp_w t + k) := by
  obtain ⟨h1, h2⟩ := zp_in ht hr hk
  unfold zz_g
  rw [if_pos h1, h2]
theorem zp_neg {t : Nat} {r c : Int32} (h : r < 0) (st : zz_T) : zz_g t r c st = 0 := if_neg (fun q => Int32.not_lt.mpr q.1 h)
theorem zp_gn {t t' : Nat} {a b r c v : Int32} {st : zz_T} (h : t' ≠ t) : zz_g t' a b (zz_set t r c v st) = zz_g t' a b st := by
  unfold zz_set
  split
  · unfold zz_g zz_up; simp [h]
  · rfl
theorem zp_gan {t t' : Nat} {a b r c v : Int32} {st : zz_T} (h : t' ≠ t) : zz_g t' a b (zz_add t r c v st) = zz_g t' a b st := zp_gn h
theorem zp_gS {t : Nat} {k : Nat} {a b v : Int32} {st : zz_T} : zz_g t a b (zz_S k v st) = zz_g t a b st := rfl
theorem zp_s2 {t : Nat} {r c v : Int32} {st : zz_T} : (zz_set t r c v st).2 = st.2 := by unfold zz_set; split <;> rfl
theorem zp_a2 {t : Nat} {r c v : Int32} {st : zz_T} : (zz_add t r c v st).2 = st.2 := zp_s2
theorem zp_c2 {t u : Nat} {st : zz_T} : (zz_cp t u st).2 = st.2 := rfl
theorem zp_f2 {t : Nat} {v : Int32} {st : zz_T} : (zz_fill t v st).2 = st.2 := rfl
theorem zp_SS {k j : Nat} {v : Int32} {st : zz_T} : (zz_S k v st).2 j = if j = k then v else st.2 j := rfl
/-- a cell that was set, by numbers -/
theorem zp_gsn {t r k r' k' : Nat} (ht : t < 24) (hr : r < zp_R t) (hk : k < zp_w t) (hr' : r' < zp_R t) (hk' : k' < zp_w t) (v : Int32) (st : zz_T) : zz_g t (nI r') (nI k') (zz_set t (nI r) (nI k) v st) = if r' = r ∧ k' = k then v else zz_g t (nI r') (nI k') st := by
  rw [zp_g ht hr' hk', zp_g ht hr' hk']
  obtain ⟨h1, h2⟩ := zp_in ht hr hk
  unfold zz_set zz_up
  rw [if_pos h1, h2]
  by_cases h : r' = r ∧ k' = k
  · obtain ⟨rfl, rfl⟩ := h
    simp [upd]
  · rw [if_neg h]
    have : ¬ r' * zp_w t + k' = r * zp_w t + k := fun q => h (zp_inj hk' hk q)
    simp [upd, this]
/-- the same with columns that are written numbers -/
theorem zp_col {t : Nat} (ht : t < 24) {c : Int32} (hc : 0 ≤ c ∧ c < zz_w t) : ∃ k, k < zp_w t ∧ c = nI k := by
  obtain ⟨h1, -, h3, -⟩ := zp_wd t ht
  obtain ⟨j, hj, rfl⟩ := nI_of (Int32.not_lt.mpr hc.1)
  rw [h1] at hc
  exact ⟨j, (nI_ltI hj (by omega)).mp hc.2, rfl⟩
theorem zp_gs {t r r' : Nat} (ht : t < 24) (hr : r < zp_R t) (hr' : r' < zp_R t) {c c' : Int32} (hc : 0 ≤ c ∧ c < zz_w t) (hc' : 0 ≤ c' ∧ c' < zz_w t) {v : Int32} {st : zz_T} : zz_g t (nI r') c' (zz_set t (nI r) c v st) = if r' = r ∧ c' = c then v else zz_g t (nI r') c' st := by
  obtain ⟨k, hk, rfl⟩ := zp_col ht hc
  obtain ⟨k', hk', rfl⟩ := zp_col ht hc'
  rw [zp_gsn ht hr hk hr' hk']
  have hw := (zp_wd t ht).2.2.1
  simp only [nI_eq (show k' < 2 ^ 31 by omega) (show k < 2 ^ 31 by omega)]
theorem zp_ga {t r r' : Nat} (ht : t < 24) (hr : r < zp_R t) (hr' : r' < zp_R t) {c c' : Int32} (hc : 0 ≤ c ∧ c < zz_w t) (hc' : 0 ≤ c' ∧ c' < zz_w t) {v : Int32} {st : zz_T} : zz_g t (nI r') c' (zz_add t (nI r) c v st) = if r' = r ∧ c' = c then zz_g t (nI r) c st + v else zz_g t (nI r') c' st := zp_gs ht hr hr' hc hc'
/-- a set in a place that there is not -/
theorem zp_snI {t : Nat} {r c v : Int32} {st : zz_T} (h : ¬ zz_in t r c) : zz_set t r c v st = st := if_neg h
theorem zp_sneg {t : Nat} {r c v : Int32} {st : zz_T} (h : r < 0) : zz_set t r c v st = st := if_neg (fun q => Int32.not_lt.mpr q.1 h)
theorem zp_aneg {t : Nat} {r c v : Int32} {st : zz_T} (h : r < 0) : zz_add t r c v st = st := zp_sneg h
/-- a copy between tables of one form -/
theorem zp_gcp {t u : Nat} (h : zz_w t = zz_w u ∧ zz_n t = zz_n u) {a b : Int32} {st : zz_T} : zz_g t a b (zz_cp t u st) = zz_g u a b st := by
  unfold zz_g zz_cp zz_up zz_in zz_at zz_l
  rw [h.1, h.2]
  simp
theorem zp_gcn {t t' u : Nat} (h : t' ≠ t) {a b : Int32} {st : zz_T} : zz_g t' a b (zz_cp t u st) = zz_g t' a b st := by
  unfold zz_g zz_cp zz_up
  simp [h]
theorem zp_gfn {t t' : Nat} (h : t' ≠ t) {a b v : Int32} {st : zz_T} : zz_g t' a b (zz_fill t v st) = zz_g t' a b st := by
  unfold zz_g zz_fill zz_up
  simp [h]
theorem zp_gf {t r k : Nat} (ht : t < 24) (hr : r < zp_R t) (hk : k < zp_w t) {v : Int32} {st : zz_T} : zz_g t (nI r) (nI k) (zz_fill t v st) = v := by
  rw [zp_g ht hr hk]
  unfold zz_fill zz_up
  simp
/-- what a function answers -/
def zp_ok {α : Type} (o : Option α) (Q : α → Prop) : Prop := ∃ x, o = some x ∧ Q x
theorem zp_ok.ret {α : Type} {Q : α → Prop} {x : α} (h : Q x) : zp_ok (some x) Q := ⟨x, rfl, h⟩
theorem zp_ok.bind {α β : Type} {o : Option α} {f : α → Option β} {P : α → Prop} {Q : β → Prop} (h : zp_ok o P) (k : ∀ x, P x → zp_ok (f x) Q) : zp_ok (o.bind f) Q := by
  obtain ⟨x, rfl, hx⟩ := h
  exact k x hx
theorem zp_ok.mono {α : Type} {o : Option α} {P Q : α → Prop} (h : zp_ok o P) (k : ∀ x, P x → Q x) : zp_ok o Q := by
  obtain ⟨x, e, hx⟩ := h
  exact ⟨x, e, k x hx⟩
theorem zp_ok.eq {α β : Type} {o : Option α} {f : α → Option β} {x : α} {Q : β → Prop} (h : o = some x) (k : zp_ok (f x) Q) : zp_ok (o.bind f) Q := by rw [h]; exact k
theorem zp_ite {α : Type} {c : Prop} [Decidable c] {a b : Option α} {Q : α → Prop} (h1 : c → zp_ok a Q) (h2 : ¬ c → zp_ok b Q) : zp_ok (if c then a else b) Q := by
  by_cases h : c
  · rw [if_pos h]; exact h1 h
  · rw [if_neg h]; exact h2 h
/-- a loop that counts up to N, its other numbers and the state in σ -/
theorem zp_loop {σ β : Type} {F : Nat → Int32 → σ → Option β} {N : Nat} (I : Nat → σ → Prop) {Q : β → Prop} (h0 : ∀ n s, I N s → zp_ok (F (n + 1) (nI N) s) Q)
    (h1 : ∀ n k s, k < N → I k s → (∀ s', I (k + 1) s' → zp_ok (F n (nI k + 1) s') Q) → zp_ok (F (n + 1) (nI k) s) Q) : ∀ d n k s, k + d = N → d < n → I k s → zp_ok (F n (nI k) s) Q := by
  intro d
  induction d with
  | zero =>
    intro n k s hk hn hI
    obtain ⟨n, rfl⟩ : ∃ j, n = j + 1 := ⟨n - 1, by omega⟩
    obtain rfl : k = N := by omega
    exact h0 n s hI
  | succ d ih =>
    intro n k s hk hn hI
    obtain ⟨n, rfl⟩ : ∃ j, n = j + 1 := ⟨n - 1, by omega⟩
    exact h1 n k s (by omega) hI (fun s' hI' => by rw [nI_1]; exact ih n (k + 1) s' (by omega) (by omega) hI')
/-- the same from a loop's first turn -/
theorem zp_loop0 {σ β : Type} {F : Nat → Int32 → σ → Option β} {N : Nat} (hN : N < 1000) (I : Nat → σ → Prop) {Q : β → Prop} (h0 : ∀ n s, I N s → zp_ok (F (n + 1) (nI N) s) Q)
    (h1 : ∀ n k s, k < N → I k s → (∀ s', I (k + 1) s' → zp_ok (F n (nI k + 1) s') Q) → zp_ok (F (n + 1) (nI k) s) Q) {s : σ} (hI : I 0 s) : zp_ok (F zz_N 0 s) Q :=
  zp_loop I h0 h1 N zz_N 0 s (by omega) hN hI
/-- sums -/
def zp_s (f : Nat → Nat) : Nat → Nat → Nat
  | _, 0 => 0
  | k, d + 1 => f k + zp_s f (k + 1) d
theorem zp_s_congr {f g : Nat → Nat} : ∀ (d k : Nat), (∀ j, k ≤ j → j < k + d → f j = g j) → zp_s f k d = zp_s g k d := by
  intro d
  induction d with
  | zero => intro k _; rfl
  | succ d ih => intro k h; rw [zp_s, zp_s, h k (Nat.le_refl k) (by omega), ih (k + 1) (fun j h1 h2 => h j (by omega) (by omega))]
theorem zp_s_snoc (f : Nat → Nat) : ∀ (d k : Nat), zp_s f k (d + 1) = zp_s f k d + f (k + d) := by
  intro d
  induction d with
  | zero => intro k; simp [zp_s]
  | succ d ih => intro k; rw [zp_s, ih (k + 1), zp_s, show k + 1 + d = k + (d + 1) by omega]; omega
theorem zp_s_upd {f g : Nat → Nat} {j : Nat} : ∀ (d k : Nat), k ≤ j → j < k + d → (∀ i, i ≠ j → k ≤ i → i < k + d → g i = f i) → zp_s g k d + f j = zp_s f k d + g j := by
  intro d
  induction d with
  | zero => intro k h1 h2; omega
  | succ d ih =>
    intro k h1 h2 h
    rw [zp_s, zp_s]
    by_cases hk : k = j
    · subst hk
      rw [zp_s_congr d (k + 1) (fun i hi1 hi2 => h i (by omega) (by omega) (by omega))]
      omega
    · have := ih (k + 1) (by omega) (by omega) (fun i h3 h4 h5 => h i h3 (by omega) (by omega))
      rw [h k hk (Nat.le_refl k) (by omega)]
      omega
theorem zp_s_add (f g : Nat → Nat) : ∀ (d k : Nat), zp_s (fun i => f i + g i) k d = zp_s f k d + zp_s g k d := by
  intro d
  induction d with
  | zero => intro k; rfl
  | succ d ih => intro k; rw [zp_s, zp_s, zp_s, ih (k + 1)]; omega
theorem zp_s_le {f g : Nat → Nat} : ∀ (d k : Nat), (∀ j, k ≤ j → j < k + d → f j ≤ g j) → zp_s f k d ≤ zp_s g k d := by
  intro d
  induction d with
  | zero => intro k _; exact Nat.le_refl _
  | succ d ih =>
    intro k h
    rw [zp_s, zp_s]
    have h1 := h k (Nat.le_refl k) (by omega)
    have h2 := ih (k + 1) (fun j h3 h4 => h j (by omega) (by omega))
    omega
theorem zp_s_const (c : Nat) : ∀ (d k : Nat), zp_s (fun _ => c) k d = c * d := by
  intro d
  induction d with
  | zero => intro k; rfl
  | succ d ih => intro k; rw [zp_s, ih (k + 1), Nat.mul_succ]; omega
theorem zp_s_bd {f : Nat → Nat} {c : Nat} (d k : Nat) (h : ∀ j, k ≤ j → j < k + d → f j ≤ c) : zp_s f k d ≤ c * d := by
  rw [← zp_s_const c d k]
  exact zp_s_le d k h
theorem zp_s_zero {f : Nat → Nat} (d k : Nat) (h : ∀ j, k ≤ j → j < k + d → f j = 0) : zp_s f k d = 0 := by
  have := zp_s_bd (c := 0) d k (fun j h1 h2 => Nat.le_of_eq (h j h1 h2))
  omega
theorem zp_s_swap (f : Nat → Nat → Nat) (e : Nat) : ∀ (d k : Nat), zp_s (fun i => zp_s (f i) 0 e) k d = zp_s (fun j => zp_s (fun i => f i j) k d) 0 e := by
  intro d
  induction d with
  | zero => intro k; rw [zp_s]; exact (zp_s_zero e 0 (fun j _ _ => rfl)).symm
  | succ d ih =>
    intro k
    rw [zp_s, ih (k + 1), ← zp_s_add]
    rfl
theorem zp_s_app (f : Nat → Nat) : ∀ (d e k : Nat), zp_s f k (d + e) = zp_s f k d + zp_s f (k + d) e := by
  intro d
  induction d with
  | zero => intro e k; simp [zp_s]
  | succ d ih => intro e k; rw [show d + 1 + e = (d + e) + 1 by omega, zp_s, zp_s, ih e (k + 1), show k + 1 + d = k + (d + 1) by omega]; omega
theorem zp_s_pos {f : Nat → Nat} {j : Nat} : ∀ (d k : Nat), k ≤ j → j < k + d → f j ≤ zp_s f k d := by
  intro d
  induction d with
  | zero => intro k h1 h2; omega
  | succ d ih =>
    intro k h1 h2
    rw [zp_s]
    by_cases hk : k = j
    · subst hk; omega
    · have := ih (k + 1) (by omega) (by omega); omega
/-- one, if -/
def zp_b (p : Prop) [Decidable p] : Nat := if p then 1 else 0
theorem zp_b1 {p : Prop} [Decidable p] (h : p) : zp_b p = 1 := if_pos h
theorem zp_b0 {p : Prop} [Decidable p] (h : ¬ p) : zp_b p = 0 := if_neg h
theorem zp_ble {p : Prop} [Decidable p] : zp_b p ≤ 1 := by unfold zp_b; split <;> omega
/-- a loop that adds up -/
theorem zp_sum {F : Nat → Int32 → Int32 → Option Int32} {N : Nat} (f : Nat → Nat) (h0 : ∀ n a, F (n + 1) (nI N) a = some a)
    (h1 : ∀ n k a, k < N → F (n + 1) (nI k) a = F n (nI k + 1) (a + nI (f k))) : ∀ d n k a, k + d = N → d < n → F n (nI k) a = some (a + nI (zp_s f k d)) := by
  intro d
  induction d with
  | zero =>
    intro n k a hk hn
    obtain ⟨n, rfl⟩ : ∃ j, n = j + 1 := ⟨n - 1, by omega⟩
    obtain rfl : k = N := by omega
    rw [h0]
    show some a = some (a + nI 0)
    rw [show nI 0 = 0 from rfl, Int32.add_zero]
  | succ d ih =>
    intro n k a hk hn
    obtain ⟨n, rfl⟩ : ∃ j, n = j + 1 := ⟨n - 1, by omega⟩
    rw [h1 n k a (by omega), nI_1, ih n (k + 1) _ (by omega) (by omega), zp_s, ← nI_add, Int32.add_assoc]
theorem zp_sum0 {F : Nat → Int32 → Int32 → Option Int32} {N : Nat} (hN : N < 1000) (f : Nat → Nat) (h0 : ∀ n a, F (n + 1) (nI N) a = some a)
    (h1 : ∀ n k a, k < N → F (n + 1) (nI k) a = F n (nI k + 1) (a + nI (f k))) : F zz_N 0 0 = some (nI (zp_s f 0 N)) := by
  have := zp_sum f h0 h1 N zz_N 0 0 (by omega) hN
  rw [show (0 : Int32) + nI (zp_s f 0 N) = nI (zp_s f 0 N) from Int32.zero_add _] at this
  exact this
/-- each table's own -/
theorem zg0 {r r' : Nat} (hr : r < 10) (hr' : r' < 10) {c c' : Int32} (hc : 0 ≤ c ∧ c < 5) (hc' : 0 ≤ c' ∧ c' < 5) {v : Int32} {st : zz_T} : zz_g 0 (nI r') c' (zz_set 0 (nI r) c v st) = if r' = r ∧ c' = c then v else zz_g 0 (nI r') c' st := zp_gs (t := 0) (by decide) hr hr' hc hc'
theorem za0 {r r' : Nat} (hr : r < 10) (hr' : r' < 10) {c c' : Int32} (hc : 0 ≤ c ∧ c < 5) (hc' : 0 ≤ c' ∧ c' < 5) {v : Int32} {st : zz_T} : zz_g 0 (nI r') c' (zz_add 0 (nI r) c v st) = if r' = r ∧ c' = c then zz_g 0 (nI r) c st + v else zz_g 0 (nI r') c' st := zp_ga (t := 0) (by decide) hr hr' hc hc'
theorem zg1 {r r' : Nat} (hr : r < 14) (hr' : r' < 14) {c c' : Int32} (hc : 0 ≤ c ∧ c < 8) (hc' : 0 ≤ c' ∧ c' < 8) {v : Int32} {st : zz_T} : zz_g 1 (nI r') c' (zz_set 1 (nI r) c v st) = if r' = r ∧ c' = c then v else zz_g 1 (nI r') c' st := zp_gs (t := 1) (by decide) hr hr' hc hc'
theorem za1 {r r' : Nat} (hr : r < 14) (hr' : r' < 14) {c c' : Int32} (hc : 0 ≤ c ∧ c < 8) (hc' : 0 ≤ c' ∧ c' < 8) {v : Int32} {st : zz_T} : zz_g 1 (nI r') c' (zz_add 1 (nI r) c v st) = if r' = r ∧ c' = c then zz_g 1 (nI r) c st + v else zz_g 1 (nI r') c' st := zp_ga (t := 1) (by decide) hr hr' hc hc'
theorem zg2 {r r' : Nat} (hr : r < 10) (hr' : r' < 10) {c c' : Int32} (hc : 0 ≤ c ∧ c < 10) (hc' : 0 ≤ c' ∧ c' < 10) {v : Int32} {st : zz_T} : zz_g 2 (nI r') c' (zz_set 2 (nI r) c v st) = if r' = r ∧ c' = c then v else zz_g 2 (nI r') c' st := zp_gs (t := 2) (by decide) hr hr' hc hc'
theorem za2 {r r' : Nat} (hr : r < 10) (hr' : r' < 10) {c c' : Int32} (hc : 0 ≤ c ∧ c < 10) (hc' : 0 ≤ c' ∧ c' < 10) {v : Int32} {st : zz_T} : zz_g 2 (nI r') c' (zz_add 2 (nI r) c v st) = if r' = r ∧ c' = c then zz_g 2 (nI r) c st + v else zz_g 2 (nI r') c' st := zp_ga (t := 2) (by decide) hr hr' hc hc'
theorem zg3 {r r' : Nat} (hr : r < 10) (hr' : r' < 10) {c c' : Int32} (hc : 0 ≤ c ∧ c < 10) (hc' : 0 ≤ c' ∧ c' < 10) {v : Int32} {st : zz_T} : zz_g 3 (nI r') c' (zz_set 3 (nI r) c v st) = if r' = r ∧ c' = c then v else zz_g 3 (nI r') c' st := zp_gs (t := 3) (by decide) hr hr' hc hc'
theorem za3 {r r' : Nat} (hr : r < 10) (hr' : r' < 10) {c c' : Int32} (hc : 0 ≤ c ∧ c < 10) (hc' : 0 ≤ c' ∧ c' < 10) {v : Int32} {st : zz_T} : zz_g 3 (nI r') c' (zz_add 3 (nI r) c v st) = if r' = r ∧ c' = c then zz_g 3 (nI r) c st + v else zz_g 3 (nI r') c' st := zp_ga (t := 3) (by decide) hr hr' hc hc'
theorem zg4 {r r' : Nat} (hr : r < 6) (hr' : r' < 6) {c c' : Int32} (hc : 0 ≤ c ∧ c < 13) (hc' : 0 ≤ c' ∧ c' < 13) {v : Int32} {st : zz_T} : zz_g 4 (nI r') c' (zz_set 4 (nI r) c v st) = if r' = r ∧ c' = c then v else zz_g 4 (nI r') c' st := zp_gs (t := 4) (by decide) hr hr' hc hc'
theorem za4 {r r' : Nat} (hr : r < 6) (hr' : r' < 6) {c c' : Int32} (hc : 0 ≤ c ∧ c < 13) (hc' : 0 ≤ c' ∧ c' < 13) {v : Int32} {st : zz_T} : zz_g 4 (nI r') c' (zz_add 4 (nI r) c v st) = if r' = r ∧ c' = c then zz_g 4 (nI r) c st + v else zz_g 4 (nI r') c' st := zp_ga (t := 4) (by decide) hr hr' hc hc'
theorem zg5 {r r' : Nat} (hr : r < 48) (hr' : r' < 48) {c c' : Int32} (hc : 0 ≤ c ∧ c < 3) (hc' : 0 ≤ c' ∧ c' < 3) {v : Int32} {st : zz_T} : zz_g 5 (nI r') c' (zz_set 5 (nI r) c v st) = if r' = r ∧ c' = c then v else zz_g 5 (nI r') c' st := zp_gs (t := 5) (by decide) hr hr' hc hc'
theorem za5 {r r' : Nat} (hr : r < 48) (hr' : r' < 48) {c c' : Int32} (hc : 0 ≤ c ∧ c < 3) (hc' : 0 ≤ c' ∧ c' < 3) {v : Int32} {st : zz_T} : zz_g 5 (nI r') c' (zz_add 5 (nI r) c v st) = if r' = r ∧ c' = c then zz_g 5 (nI r) c st + v else zz_g 5 (nI r') c' st := zp_ga (t := 5) (by decide) hr hr' hc hc'
theorem zg6 {r r' : Nat} (hr : r < 54) (hr' : r' < 54) {c c' : Int32} (hc : 0 ≤ c ∧ c < 7) (hc' : 0 ≤ c' ∧ c' < 7) {v : Int32} {st : zz_T} : zz_g 6 (nI r') c' (zz_set 6 (nI r) c v st) = if r' = r ∧ c' = c then v else zz_g 6 (nI r') c' st := zp_gs (t := 6) (by decide) hr hr' hc hc'
theorem za6 {r r' : Nat} (hr : r < 54) (hr' : r' < 54) {c c' : Int32} (hc : 0 ≤ c ∧ c < 7) (hc' : 0 ≤ c' ∧ c' < 7) {v : Int32} {st : zz_T} : zz_g 6 (nI r') c' (zz_add 6 (nI r) c v st) = if r' = r ∧ c' = c then zz_g 6 (nI r) c st + v else zz_g 6 (nI r') c' st := zp_ga (t := 6) (by decide) hr hr' hc hc'
theorem zg7 {r r' : Nat} (hr : r < 54) (hr' : r' < 54) {c c' : Int32} (hc : 0 ≤ c ∧ c < 14) (hc' : 0 ≤ c' ∧ c' < 14) {v : Int32} {st : zz_T} : zz_g 7 (nI r') c' (zz_set 7 (nI r) c v st) = if r' = r ∧ c' = c then v else zz_g 7 (nI r') c' st := zp_gs (t := 7) (by decide) hr hr' hc hc'
theorem za7 {r r' : Nat} (hr : r < 54) (hr' : r' < 54) {c c' : Int32} (hc : 0 ≤ c ∧ c < 14) (hc' : 0 ≤ c' ∧ c' < 14) {v : Int32} {st : zz_T} : zz_g 7 (nI r') c' (zz_add 7 (nI r) c v st) = if r' = r ∧ c' = c then zz_g 7 (nI r) c st + v else zz_g 7 (nI r') c' st := zp_ga (t := 7) (by decide) hr hr' hc hc'
theorem zg8 {r r' : Nat} (hr : r < 54) (hr' : r' < 54) {c c' : Int32} (hc : 0 ≤ c ∧ c < 14) (hc' : 0 ≤ c' ∧ c' < 14) {v : Int32} {st : zz_T} : zz_g 8 (nI r') c' (zz_set 8 (nI r) c v st) = if r' = r ∧ c' = c then v else zz_g 8 (nI r') c' st := zp_gs (t := 8) (by decide) hr hr' hc hc'
theorem za8 {r r' : Nat} (hr : r < 54) (hr' : r' < 54) {c c' : Int32} (hc : 0 ≤ c ∧ c < 14) (hc' : 0 ≤ c' ∧ c' < 14) {v : Int32} {st : zz_T} : zz_g 8 (nI r') c' (zz_add 8 (nI r) c v st) = if r' = r ∧ c' = c then zz_g 8 (nI r) c st + v else zz_g 8 (nI r') c' st := zp_ga (t := 8) (by decide) hr hr' hc hc'
theorem zg9 {r r' : Nat} (hr : r < 54) (hr' : r' < 54) {c c' : Int32} (hc : 0 ≤ c ∧ c < 14) (hc' : 0 ≤ c' ∧ c' < 14) {v : Int32} {st : zz_T} : zz_g 9 (nI r') c' (zz_set 9 (nI r) c v st) = if r' = r ∧ c' = c then v else zz_g 9 (nI r') c' st := zp_gs (t := 9) (by decide) hr hr' hc hc'
theorem za9 {r r' : Nat} (hr : r < 54) (hr' : r' < 54) {c c' : Int32} (hc : 0 ≤ c ∧ c < 14) (hc' : 0 ≤ c' ∧ c' < 14) {v : Int32} {st : zz_T} : zz_g 9 (nI r') c' (zz_add 9 (nI r) c v st) = if r' = r ∧ c' = c then zz_g 9 (nI r) c st + v else zz_g 9 (nI r') c' st := zp_ga (t := 9) (by decide) hr hr' hc hc'
theorem zg10 {r r' : Nat} (hr : r < 14) (hr' : r' < 14) {c c' : Int32} (hc : 0 ≤ c ∧ c < 3) (hc' : 0 ≤ c' ∧ c' < 3) {v : Int32} {st : zz_T} : zz_g 10 (nI r') c' (zz_set 10 (nI r) c v st) = if r' = r ∧ c' = c then v else zz_g 10 (nI r') c' st := zp_gs (t := 10) (by decide) hr hr' hc hc'
theorem za10 {r r' : Nat} (hr : r < 14) (hr' : r' < 14) {c c' : Int32} (hc : 0 ≤ c ∧ c < 3) (hc' : 0 ≤ c' ∧ c' < 3) {v : Int32} {st : zz_T} : zz_g 10 (nI r') c' (zz_add 10 (nI r) c v st) = if r' = r ∧ c' = c then zz_g 10 (nI r) c st + v else zz_g 10 (nI r') c' st := zp_ga (t := 10) (by decide) hr hr' hc hc'
theorem zg11 {r r' : Nat} (hr : r < 54) (hr' : r' < 54) {c c' : Int32} (hc : 0 ≤ c ∧ c < 7) (hc' : 0 ≤ c' ∧ c' < 7) {v : Int32} {st : zz_T} : zz_g 11 (nI r') c' (zz_set 11 (nI r) c v st) = if r' = r ∧ c' = c then v else zz_g 11 (nI r') c' st := zp_gs (t := 11) (by decide) hr hr' hc hc'
theorem za11 {r r' : Nat} (hr : r < 54) (hr' : r' < 54) {c c' : Int32} (hc : 0 ≤ c ∧ c < 7) (hc' : 0 ≤ c' ∧ c' < 7) {v : Int32} {st : zz_T} : zz_g 11 (nI r') c' (zz_add 11 (nI r) c v st) = if r' = r ∧ c' = c then zz_g 11 (nI r) c st + v else zz_g 11 (nI r') c' st := zp_ga (t := 11) (by decide) hr hr' hc hc'
theorem zg12 {r r' : Nat} (hr : r < 54) (hr' : r' < 54) {c c' : Int32} (hc : 0 ≤ c ∧ c < 14) (hc' : 0 ≤ c' ∧ c' < 14) {v : Int32} {st : zz_T} : zz_g 12 (nI r') c' (zz_set 12 (nI r) c v st) = if r' = r ∧ c' = c then v else zz_g 12 (nI r') c' st := zp_gs (t := 12) (by decide) hr hr' hc hc'
theorem za12 {r r' : Nat} (hr : r < 54) (hr' : r' < 54) {c c' : Int32} (hc : 0 ≤ c ∧ c < 14) (hc' : 0 ≤ c' ∧ c' < 14) {v : Int32} {st : zz_T} : zz_g 12 (nI r') c' (zz_add 12 (nI r) c v st) = if r' = r ∧ c' = c then zz_g 12 (nI r) c st + v else zz_g 12 (nI r') c' st := zp_ga (t := 12) (by decide) hr hr' hc hc'
theorem zg13 {r r' : Nat} (hr : r < 54) (hr' : r' < 54) {c c' : Int32} (hc : 0 ≤ c ∧ c < 14) (hc' : 0 ≤ c' ∧ c' < 14) {v : Int32} {st : zz_T} : zz_g 13 (nI r') c' (zz_set 13 (nI r) c v st) = if r' = r ∧ c' = c then v else zz_g 13 (nI r') c' st := zp_gs (t := 13) (by decide) hr hr' hc hc'
theorem za13 {r r' : Nat} (hr : r < 54) (hr' : r' < 54) {c c' : Int32} (hc : 0 ≤ c ∧ c < 14) (hc' : 0 ≤ c' ∧ c' < 14) {v : Int32} {st : zz_T} : zz_g 13 (nI r') c' (zz_add 13 (nI r) c v st) = if r' = r ∧ c' = c then zz_g 13 (nI r) c st + v else zz_g 13 (nI r') c' st := zp_ga (t := 13) (by decide) hr hr' hc hc'
theorem zg14 {r r' : Nat} (hr : r < 54) (hr' : r' < 54) {c c' : Int32} (hc : 0 ≤ c ∧ c < 14) (hc' : 0 ≤ c' ∧ c' < 14) {v : Int32} {st : zz_T} : zz_g 14 (nI r') c' (zz_set 14 (nI r) c v st) = if r' = r ∧ c' = c then v else zz_g 14 (nI r') c' st := zp_gs (t := 14) (by decide) hr hr' hc hc'
theorem za14 {r r' : Nat} (hr : r < 54) (hr' : r' < 54) {c c' : Int32} (hc : 0 ≤ c ∧ c < 14) (hc' : 0 ≤ c' ∧ c' < 14) {v : Int32} {st : zz_T} : zz_g 14 (nI r') c' (zz_add 14 (nI r) c v st) = if r' = r ∧ c' = c then zz_g 14 (nI r) c st + v else zz_g 14 (nI r') c' st := zp_ga (t := 14) (by decide) hr hr' hc hc'
theorem zg15 {r r' : Nat} (hr : r < 14) (hr' : r' < 14) {c c' : Int32} (hc : 0 ≤ c ∧ c < 3) (hc' : 0 ≤ c' ∧ c' < 3) {v : Int32} {st : zz_T} : zz_g 15 (nI r') c' (zz_set 15 (nI r) c v st) = if r' = r ∧ c' = c then v else zz_g 15 (nI r') c' st := zp_gs (t := 15) (by decide) hr hr' hc hc'
theorem za15 {r r' : Nat} (hr : r < 14) (hr' : r' < 14) {c c' : Int32} (hc : 0 ≤ c ∧ c < 3) (hc' : 0 ≤ c' ∧ c' < 3) {v : Int32} {st : zz_T} : zz_g 15 (nI r') c' (zz_add 15 (nI r) c v st) = if r' = r ∧ c' = c then zz_g 15 (nI r) c st + v else zz_g 15 (nI r') c' st := zp_ga (t := 15) (by decide) hr hr' hc hc'
theorem zg16 {r r' : Nat} (hr : r < 60) (hr' : r' < 60) {c c' : Int32} (hc : 0 ≤ c ∧ c < 16) (hc' : 0 ≤ c' ∧ c' < 16) {v : Int32} {st : zz_T} : zz_g 16 (nI r') c' (zz_set 16 (nI r) c v st) = if r' = r ∧ c' = c then v else zz_g 16 (nI r') c' st := zp_gs (t := 16) (by decide) hr hr' hc hc'
theorem za16 {r r' : Nat} (hr : r < 60) (hr' : r' < 60) {c c' : Int32} (hc : 0 ≤ c ∧ c < 16) (hc' : 0 ≤ c' ∧ c' < 16) {v : Int32} {st : zz_T} : zz_g 16 (nI r') c' (zz_add 16 (nI r) c v st) = if r' = r ∧ c' = c then zz_g 16 (nI r) c st + v else zz_g 16 (nI r') c' st := zp_ga (t := 16) (by decide) hr hr' hc hc'
theorem zg17 {r r' : Nat} (hr : r < 60) (hr' : r' < 60) {c c' : Int32} (hc : 0 ≤ c ∧ c < 1) (hc' : 0 ≤ c' ∧ c' < 1) {v : Int32} {st : zz_T} : zz_g 17 (nI r') c' (zz_set 17 (nI r) c v st) = if r' = r ∧ c' = c then v else zz_g 17 (nI r') c' st := zp_gs (t := 17) (by decide) hr hr' hc hc'
theorem za17 {r r' : Nat} (hr : r < 60) (hr' : r' < 60) {c c' : Int32} (hc : 0 ≤ c ∧ c < 1) (hc' : 0 ≤ c' ∧ c' < 1) {v : Int32} {st : zz_T} : zz_g 17 (nI r') c' (zz_add 17 (nI r) c v st) = if r' = r ∧ c' = c then zz_g 17 (nI r) c st + v else zz_g 17 (nI r') c' st := zp_ga (t := 17) (by decide) hr hr' hc hc'
theorem zg18 {r r' : Nat} (hr : r < 6) (hr' : r' < 6) {c c' : Int32} (hc : 0 ≤ c ∧ c < 3) (hc' : 0 ≤ c' ∧ c' < 3) {v : Int32} {st : zz_T} : zz_g 18 (nI r') c' (zz_set 18 (nI r) c v st) = if r' = r ∧ c' = c then v else zz_g 18 (nI r') c' st := zp_gs (t := 18) (by decide) hr hr' hc hc'
theorem za18 {r r' : Nat} (hr : r < 6) (hr' : r' < 6) {c c' : Int32} (hc : 0 ≤ c ∧ c < 3) (hc' : 0 ≤ c' ∧ c' < 3) {v : Int32} {st : zz_T} : zz_g 18 (nI r') c' (zz_add 18 (nI r) c v st) = if r' = r ∧ c' = c then zz_g 18 (nI r) c st + v else zz_g 18 (nI r') c' st := zp_ga (t := 18) (by decide) hr hr' hc hc'
theorem zg19 {r r' : Nat} (hr : r < 3) (hr' : r' < 3) {c c' : Int32} (hc : 0 ≤ c ∧ c < 13) (hc' : 0 ≤ c' ∧ c' < 13) {v : Int32} {st : zz_T} : zz_g 19 (nI r') c' (zz_set 19 (nI r) c v st) = if r' = r ∧ c' = c then v else zz_g 19 (nI r') c' st := zp_gs (t := 19) (by decide) hr hr' hc hc'
theorem za19 {r r' : Nat} (hr : r < 3) (hr' : r' < 3) {c c' : Int32} (hc : 0 ≤ c ∧ c < 13) (hc' : 0 ≤ c' ∧ c' < 13) {v : Int32} {st : zz_T} : zz_g 19 (nI r') c' (zz_add 19 (nI r) c v st) = if r' = r ∧ c' = c then zz_g 19 (nI r) c st + v else zz_g 19 (nI r') c' st := zp_ga (t := 19) (by decide) hr hr' hc hc'
theorem zg20 {r r' : Nat} (hr : r < 18) (hr' : r' < 18) {c c' : Int32} (hc : 0 ≤ c ∧ c < 3) (hc' : 0 ≤ c' ∧ c' < 3) {v : Int32} {st : zz_T} : zz_g 20 (nI r') c' (zz_set 20 (nI r) c v st) = if r' = r ∧ c' = c then v else zz_g 20 (nI r') c' st := zp_gs (t := 20) (by decide) hr hr' hc hc'
theorem za20 {r r' : Nat} (hr : r < 18) (hr' : r' < 18) {c c' : Int32} (hc : 0 ≤ c ∧ c < 3) (hc' : 0 ≤ c' ∧ c' < 3) {v : Int32} {st : zz_T} : zz_g 20 (nI r') c' (zz_add 20 (nI r) c v st) = if r' = r ∧ c' = c then zz_g 20 (nI r) c st + v else zz_g 20 (nI r') c' st := zp_ga (t := 20) (by decide) hr hr' hc hc'
theorem zg21 {r r' : Nat} (hr : r < 3) (hr' : r' < 3) {c c' : Int32} (hc : 0 ≤ c ∧ c < 2) (hc' : 0 ≤ c' ∧ c' < 2) {v : Int32} {st : zz_T} : zz_g 21 (nI r') c' (zz_set 21 (nI r) c v st) = if r' = r ∧ c' = c then v else zz_g 21 (nI r') c' st := zp_gs (t := 21) (by decide) hr hr' hc hc'
theorem za21 {r r' : Nat} (hr : r < 3) (hr' : r' < 3) {c c' : Int32} (hc : 0 ≤ c ∧ c < 2) (hc' : 0 ≤ c' ∧ c' < 2) {v : Int32} {st : zz_T} : zz_g 21 (nI r') c' (zz_add 21 (nI r) c v st) = if r' = r ∧ c' = c then zz_g 21 (nI r) c st + v else zz_g 21 (nI r') c' st := zp_ga (t := 21) (by decide) hr hr' hc hc'
theorem zg22 {r r' : Nat} (hr : r < 3) (hr' : r' < 3) {c c' : Int32} (hc : 0 ≤ c ∧ c < 21) (hc' : 0 ≤ c' ∧ c' < 21) {v : Int32} {st : zz_T} : zz_g 22 (nI r') c' (zz_set 22 (nI r) c v st) = if r' = r ∧ c' = c then v else zz_g 22 (nI r') c' st := zp_gs (t := 22) (by decide) hr hr' hc hc'
theorem za22 {r r' : Nat} (hr : r < 3) (hr' : r' < 3) {c c' : Int32} (hc : 0 ≤ c ∧ c < 21) (hc' : 0 ≤ c' ∧ c' < 21) {v : Int32} {st : zz_T} : zz_g 22 (nI r') c' (zz_add 22 (nI r) c v st) = if r' = r ∧ c' = c then zz_g 22 (nI r) c st + v else zz_g 22 (nI r') c' st := zp_ga (t := 22) (by decide) hr hr' hc hc'
theorem zg23 {r r' : Nat} (hr : r < 4) (hr' : r' < 4) {c c' : Int32} (hc : 0 ≤ c ∧ c < 6) (hc' : 0 ≤ c' ∧ c' < 6) {v : Int32} {st : zz_T} : zz_g 23 (nI r') c' (zz_set 23 (nI r) c v st) = if r' = r ∧ c' = c then v else zz_g 23 (nI r') c' st := zp_gs (t := 23) (by decide) hr hr' hc hc'
theorem za23 {r r' : Nat} (hr : r < 4) (hr' : r' < 4) {c c' : Int32} (hc : 0 ≤ c ∧ c < 6) (hc' : 0 ≤ c' ∧ c' < 6) {v : Int32} {st : zz_T} : zz_g 23 (nI r') c' (zz_add 23 (nI r) c v st) = if r' = r ∧ c' = c then zz_g 23 (nI r) c st + v else zz_g 23 (nI r') c' st := zp_ga (t := 23) (by decide) hr hr' hc hc'
