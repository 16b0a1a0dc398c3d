/-! ===== numbers: weights, sums, Euclid, age, minutes ===== -/
/-- what a set keeps: bM bounds the mains, bL the lets -/
def zSr (S : ZS) (nS nP nW bM bL : Nat) : Prop :=
  (∀ s, s < nS → (∃ a, 1 ≤ a ∧ a ≤ 50 ∧ S 0 s 0 = nI a) ∧ ∀ t, t < 3 → -(bM : Int) ≤ (S 2 s t).toInt ∧ (S 2 s t).toInt ≤ bM) ∧
  (∀ p, p < nP → (∃ a, a < nS ∧ S 3 p 0 = nI a) ∧ (∃ a, a < 5 ∧ S 4 p 0 = nI a) ∧ (∃ a, a ≤ 99 ∧ S 5 p 0 = nI a) ∧ (∃ a, a ≤ 9 ∧ S 6 p 0 = nI a) ∧ (∃ a, a ≤ 900 ∧ S 9 p 0 = nI a) ∧ (∃ a, 1 ≤ a ∧ a ≤ 99 ∧ S 10 p 0 = nI a) ∧ ∀ t, t < 3 → -(bL : Int) ≤ (S 11 p t).toInt ∧ (S 11 p t).toInt ≤ bL) ∧
  (∀ i, i < nW → ∃ a, a < nS ∧ S 12 i 0 = nI a) ∧ ∀ k, k < 5 → ∃ a, a ≤ 50 ∧ S 16 k 0 = nI a
-- weights
def zwN (S : ZS) (st : Nat) : Nat → Nat
  | 0 => 1
  | p + 1 => zwN S st p * (if st.testBit p then (S 6 p 0).toNatClampNeg else 10 - (S 6 p 0).toNatClampNeg)
theorem zwN_le {S : ZS} {st nP : Nat} (h : ∀ p, p < nP → ∃ a, a ≤ 9 ∧ S 6 p 0 = nI a) : ∀ p, p ≤ nP → zwN S st p ≤ 10 ^ p
  | 0, _ => Nat.le_refl 1
  | p + 1, hp => by
    obtain ⟨a, ha, e⟩ := h p (by omega)
    rw [zwN, e, nI_clamp (by omega), Nat.pow_succ]
    exact Nat.mul_le_mul (zwN_le h p (by omega)) (by split <;> omega)
theorem zwt_N {S : ZS} {st nP : Nat} (h : ∀ p, p < nP → ∃ a, a ≤ 9 ∧ S 6 p 0 = nI a) : ∀ p, p ≤ nP → zwt S st p = lN (zwN S st p)
  | 0, _ => rfl
  | p + 1, hp => by
    obtain ⟨a, ha, e⟩ := h p (by omega)
    rw [zwt, zwN, zwt_N h p (by omega), e, nI_clamp (by omega)]
    by_cases hb : st.testBit p = true
    · simp only [hb, if_true]
      rw [nI_l (by omega), lN_mul]
    · simp only [hb]
      rw [show (10 : Int32) = nI 10 from rfl]
      simp only [Bool.false_eq_true, if_false]
      rw [pk_sub (by omega), nI_l (by omega), lN_mul]
/-- a sum over a list -/
def zsN (f : Nat → Nat) (cs : List Nat) : Nat := (cs.map f).sum
theorem zsN_le {f : Nat → Nat} {b : Nat} : ∀ {cs : List Nat}, (∀ c ∈ cs, f c ≤ b) → zsN f cs ≤ cs.length * b
  | [], _ => by simp [zsN]
  | c :: cs, h => by
    have h1 := h c List.mem_cons_self
    have h2 := zsN_le (cs := cs) (fun x hx => h x (List.mem_cons_of_mem c hx))
    simp only [zsN, List.map_cons, List.sum_cons, List.length_cons] at *
    rw [Nat.add_mul, Nat.one_mul]
    omega
theorem zsN_mono {f g : Nat → Nat} : ∀ {cs : List Nat}, (∀ c ∈ cs, f c ≤ g c) → zsN f cs ≤ zsN g cs
  | [], _ => Nat.le_refl _
  | c :: cs, h => by
    have h1 := h c List.mem_cons_self
    have h2 := zsN_mono (cs := cs) (fun x hx => h x (List.mem_cons_of_mem c hx))
    simp only [zsN, List.map_cons, List.sum_cons] at *
    omega
theorem zsN_add {f g k : Nat → Nat} : ∀ {cs : List Nat}, (∀ c ∈ cs, f c + g c = k c) → zsN f cs + zsN g cs = zsN k cs
  | [], _ => rfl
  | c :: cs, h => by
    have h1 := h c List.mem_cons_self
    have h2 := zsN_add (cs := cs) (fun x hx => h x (List.mem_cons_of_mem c hx))
    simp only [zsN, List.map_cons, List.sum_cons] at *
    omega
theorem zsN_pos {f : Nat → Nat} {cs : List Nat} (h : ∀ c ∈ cs, 0 < f c) (h0 : ¬ cs.length = 0) : 0 < zsN f cs := by
  cases cs with
  | nil => exact absurd rfl h0
  | cons c cs =>
    have h1 := h c List.mem_cons_self
    simp only [zsN, List.map_cons, List.sum_cons]
    omega
theorem zfold_N {F : Int64 → Nat → Int64} {f : Nat → Nat} : ∀ {cs : List Nat} {a : Nat}, (∀ c ∈ cs, ∀ x, F (lN x) c = lN (x + f c)) → cs.foldl F (lN a) = lN (a + zsN f cs)
  | [], a, _ => by simp [zsN]
  | c :: cs, a, h => by
    rw [List.foldl_cons, h c List.mem_cons_self, zfold_N (cs := cs) (fun x hx => h x (List.mem_cons_of_mem c hx))]
    simp only [zsN, List.map_cons, List.sum_cons, Nat.add_assoc]
theorem zsw_N {S : ZS} {nP : Nat} (h : ∀ p, p < nP → ∃ a, a ≤ 9 ∧ S 6 p 0 = nI a) (cs : List Nat) : zsw_ S nP cs = lN (zsN (fun c => zwN S c nP) cs) := by
  have := zfold_N (F := fun a c => a + zwt S c nP) (f := fun c => zwN S c nP) (cs := cs) (a := 0) (fun c _ x => by show lN x + zwt S c nP = _; rw [zwt_N h nP (Nat.le_refl _), lN_add])
  rw [Nat.zero_add] at this
  exact this
def zwwN (S : ZS) (nP j c : Nat) : Nat := if c.testBit j then zwN S c nP else 0
theorem zww_N {S : ZS} {nP : Nat} (h : ∀ p, p < nP → ∃ a, a ≤ 9 ∧ S 6 p 0 = nI a) (j : Nat) (cs : List Nat) : zww S nP j cs = lN (zsN (zwwN S nP j) cs) := by
  have := zfold_N (F := fun a c => if c.testBit j then a + zwt S c nP else a) (f := zwwN S nP j) (cs := cs) (a := 0) (fun c _ x => by
    show (if c.testBit j then lN x + zwt S c nP else lN x) = _
    unfold zwwN
    split
    · rw [zwt_N h nP (Nat.le_refl _), lN_add]
    · rfl)
  rw [Nat.zero_add] at this
  exact this
def znwN (S : ZS) (nS nP ch c : Nat) : Nat := if zq S nS nP (zdf c ch) = true then 0 else zwN S c nP
theorem znw_N {S : ZS} {nS nP : Nat} (h : ∀ p, p < nP → ∃ a, a ≤ 9 ∧ S 6 p 0 = nI a) (ch : Nat) (cs : List Nat) : znw S nS nP ch cs = lN (zsN (znwN S nS nP ch) cs) := by
  have := zfold_N (F := fun a c => if zq S nS nP (zdf c ch) = true then a else a + zwt S c nP) (f := znwN S nS nP ch) (cs := cs) (a := 0) (fun c _ x => by
    show (if zq S nS nP (zdf c ch) = true then lN x else lN x + zwt S c nP) = _
    unfold znwN
    split
    · rfl
    · rw [zwt_N h nP (Nat.le_refl _), lN_add])
  rw [Nat.zero_add] at this
  exact this
theorem zp10 {n : Nat} (h : n ≤ 8) : 10 ^ n ≤ 100000000 := (by decide : ∀ n, n ≤ 8 → 10 ^ n ≤ 100000000) n h
theorem zwN_8 {S : ZS} {st nP : Nat} (h : ∀ p, p < nP → ∃ a, a ≤ 9 ∧ S 6 p 0 = nI a) (hp8 : nP ≤ 8) : zwN S st nP ≤ 100000000 := Nat.le_trans (zwN_le h nP (Nat.le_refl _)) (zp10 hp8)
theorem zsN_8 {S : ZS} {nP : Nat} {f : Nat → Nat} {cs : List Nat} (h : ∀ p, p < nP → ∃ a, a ≤ 9 ∧ S 6 p 0 = nI a) (hp8 : nP ≤ 8) (hl : cs.length ≤ 37) (hf : ∀ c ∈ cs, f c ≤ zwN S c nP) : zsN f cs ≤ 3700000000 := by
  have h1 := zsN_le (f := f) (b := 100000000) (cs := cs) (fun c hc => Nat.le_trans (hf c hc) (zwN_8 h hp8))
  have h2 : cs.length * 100000000 ≤ 37 * 100000000 := Nat.mul_le_mul_right _ hl
  omega
theorem zwwN_le (S : ZS) (nP j c : Nat) : zwwN S nP j c ≤ zwN S c nP := by unfold zwwN; split <;> omega
theorem znwN_le (S : ZS) (nS nP ch c : Nat) : znwN S nS nP ch c ≤ zwN S c nP := by unfold znwN; split <;> omega
theorem zwN_pos {S : ZS} {nP c : Nat} (h : ∀ p, p < nP → ∃ a, a ≤ 9 ∧ S 6 p 0 = nI a) (hp8 : nP ≤ 8) (hc : 0 < zwt S c nP) : 0 < zwN S c nP := by
  rw [zwt_N h nP (Nat.le_refl _), show (0 : Int64) = lN 0 from rfl] at hc
  exact (pk_lLT (by decide) (by have := zwN_8 (S := S) (st := c) h hp8; omega)).mp hc
-- Euclid
theorem zlrem {x y : Nat} (hx : x < 2 ^ 63) (h0 : 0 < y) (hy : y < 2 ^ 63) : lN x - lN x / lN y * lN y = lN (x % y) := by
  have hd : x / y * y ≤ x := Nat.div_mul_le_self x y
  rw [pk_lDiv hx h0 hy, lN_mul, lN_sub hd]
  congr 1
  have := Nat.div_add_mod x y
  rw [Nat.mul_comm] at this
  omega
theorem zmod2 {l r : Nat} (h0 : 0 < r) (h : r < l) : 2 * (l % r) < l := by
  have h1 := Nat.mod_lt l h0
  rcases Nat.lt_or_ge (2 * r) (l + 1) with q | q
  · omega
  · have : l % r = l - r := by
      rw [Nat.mod_eq_sub_mod (by omega), Nat.mod_eq_of_lt (by omega)]
    omega
theorem zln0 {y : Nat} (hy : y < 2 ^ 63) : lN y = 0 ↔ y = 0 := pk_lEQ (b := 0) hy (by decide)
theorem zeu_gcd : ∀ (k n h l : Nat), l < 2 ^ k → 2 * k + 1 ≤ n → h < 2 ^ 63 → l < 2 ^ 63 → zeu n (lN h) (lN l) = lN (Nat.gcd h l)
  | 0, n, h, l, hl, hn, _, _ => by
    have e : l = 0 := by simpa using hl
    subst e
    obtain ⟨m, rfl⟩ : ∃ m, n = m + 1 := ⟨n - 1, by omega⟩
    rw [zeu, if_pos (by rfl), Nat.gcd_zero_right]
  | k + 1, n, h, l, hl, hn, hh, hl63 => by
    obtain ⟨m, rfl⟩ : ∃ m, n = m + 2 := ⟨n - 2, by omega⟩
    rw [zeu]
    by_cases h0 : l = 0
    · subst h0
      rw [if_pos (by rfl), Nat.gcd_zero_right]
    · rw [if_neg (fun q => h0 ((zln0 hl63).mp q)), zlrem hh (by omega) hl63, zeu]
      have hr := Nat.mod_lt h (Nat.pos_of_ne_zero h0)
      by_cases h1 : h % l = 0
      · rw [h1, if_pos (by rfl), Nat.gcd_comm, Nat.gcd_rec, h1, Nat.gcd_zero_left]
      · rw [if_neg (fun q => h1 ((zln0 (by omega)).mp q)), zlrem hl63 (by omega) (by omega)]
        have h2 := zmod2 (Nat.pos_of_ne_zero h1) hr
        rw [zeu_gcd k m (h % l) (l % (h % l)) (by rw [Nat.pow_succ] at hl; omega) (by omega) (by omega) (by omega)]
        congr 1
        rw [Nat.gcd_comm (h % l), ← Nat.gcd_rec, Nat.gcd_comm h l, Nat.gcd_rec l h]
theorem zeu_100 {a b : Nat} (ha : a ≤ 3700000000) (hb : b ≤ 3700000000) : zeu 100 (lN a) (lN b) = lN (Nat.gcd a b) := zeu_gcd 32 100 a b (by omega) (by decide) (by omega) (by omega)
-- age
theorem zgr_n {q a : Nat} (hq : q ≤ 50) (ha : a ≤ 200) : ∃ r, r ≤ 999 ∧ zgr (nI q) (nI a) = nI r := by
  have h1 : q * a ≤ 50 * 200 := Nat.mul_le_mul hq ha
  rw [zgr, pk_mul, show (10 : Int32) = nI 10 from rfl, pk_div (by omega) (by decide) (by decide)]
  split
  · rename_i h
    have := (nI_ltI (b := 999) (by omega) (by decide)).mp h
    exact ⟨_, by omega, rfl⟩
  · exact ⟨999, by omega, rfl⟩
theorem zgone_n {q a : Nat} (hq : q ≤ 50) : ∀ y, a + y ≤ 200 → ∃ g, g ≤ 1000000 ∧ zgone (nI q) (nI a) y = nI g
  | 0, _ => ⟨1000000, by omega, rfl⟩
  | y + 1, hy => by
    obtain ⟨g, hg, e⟩ := zgone_n (a := a) hq y (by omega)
    obtain ⟨r, hr, e2⟩ := zgr_n hq (a := a + y) (by omega)
    have h1 : g * r ≤ 1000000 * 999 := Nat.mul_le_mul hg hr
    have h2 : g * r / 1000 ≤ g := by
      have h3 : g * r ≤ g * 1000 := Nat.mul_le_mul_left g (by omega)
      exact Nat.le_trans (Nat.div_le_div_right h3) (by rw [Nat.mul_div_cancel _ (by decide)]; exact Nat.le_refl g)
    refine ⟨g - g * r / 1000, by omega, ?_⟩
    rw [zgone, e, nI_add, e2, pk_mul, show (1000 : Int32) = nI 1000 from rfl, pk_div (by omega) (by decide) (by decide), pk_sub h2]
theorem zgo_s {Q A r : Int32} {q a t : Nat} (hQ : Q = nI q) (hA : A = nI a) (hq : q ≤ 50) (ha : a ≤ 99) (ht : t ≤ 50) (hr : r = zgr Q (A + nI t)) : zgone Q A t - ((zgone Q A t).toInt64 * r.toInt64 / 1000).toInt32 = zgone Q A (t + 1) := by
  subst hQ hA hr
  obtain ⟨g, hg, e⟩ := zgone_n (a := a) hq t (by omega)
  obtain ⟨r, hr, e2⟩ := zgr_n hq (a := a + t) (by omega)
  have h1 : g * r ≤ 1000000 * 999 := Nat.mul_le_mul hg hr
  rw [zgone, nI_add, e, e2, nI_l (by omega), nI_l (by omega), lN_mul, show (1000 : Int64) = lN 1000 from rfl, pk_lDiv (by omega) (by decide) (by decide), lN_i, pk_mul, show (1000 : Int32) = nI 1000 from rfl, pk_div (by omega) (by decide) (by decide)]
-- minutes
theorem zff_ge (f : Nat → Bool) : ∀ d k, k ≤ zff f d k
  | 0, k => Nat.le_refl k
  | d + 1, k => by
    have := zff_ge f d (k + 1)
    unfold zff
    split <;> omega
theorem zff_no {f : Nat → Bool} : ∀ {d k j : Nat}, k ≤ j → j < zff f d k → f j = false
  | 0, k, j, h1, h2 => by unfold zff at h2; omega
  | d + 1, k, j, h1, h2 => by
    unfold zff at h2
    split at h2
    · omega
    · rename_i h
      rcases Nat.lt_or_ge k j with q | q
      · exact zff_no q h2
      · have e : j = k := by omega
        subst e
        simpa using h
theorem zff_yes {f : Nat → Bool} : ∀ {d k : Nat}, zff f d k < k + d → f (zff f d k) = true
  | 0, k, h => by unfold zff at h; omega
  | d + 1, k, h => by
    unfold zff at h ⊢
    split
    · assumption
    · rename_i q
      rw [if_neg q] at h
      exact zff_yes (by omega)
def zal (f : Nat → Bool) : Nat → Bool
  | 0 => true
  | p + 1 => zal f p && f p
theorem zal_iff {f : Nat → Bool} : ∀ {n : Nat}, zal f n = true ↔ ∀ p, p < n → f p = true
  | 0 => ⟨fun _ p hp => absurd hp (Nat.not_lt_zero p), fun _ => rfl⟩
  | n + 1 => by
    rw [zal, Bool.and_eq_true, zal_iff]
    constructor
    · rintro ⟨h1, h2⟩ p hp
      rcases Nat.lt_or_ge p n with q | q
      · exact h1 p q
      · rw [show p = n from by omega]; exact h2
    · intro h
      exact ⟨fun p hp => h p (by omega), h n (by omega)⟩
theorem zmx_ge {f : Nat → Nat} : ∀ {n p : Nat}, p < n → f p ≤ zmx f n
  | 0, p, h => absurd h (Nat.not_lt_zero p)
  | n + 1, p, h => by
    unfold zmx
    rcases Nat.lt_or_ge p n with q | q
    · have := zmx_ge (f := f) q
      split <;> omega
    · have e : p = n := by omega
      subst e
      split <;> omega
theorem zmx_lub {f : Nat → Nat} {b : Nat} : ∀ {n : Nat}, (∀ p, p < n → f p ≤ b) → zmx f n ≤ b
  | 0, _ => Nat.zero_le b
  | n + 1, h => by
    have h1 := zmx_lub (f := f) (b := b) (n := n) (fun p hp => h p (by omega))
    have h2 := h n (by omega)
    unfold zmx
    split <;> omega
/-- the first minute at which all hold is the last of the first minutes -/
theorem zfirst_all {g : Nat → Nat → Bool} {n : Nat} (hm : ∀ p, p < n → ∀ m, g p m = true → g p (m + 1) = true) : zff (fun m => zal (fun p => g p m) n) 1000 0 = zmx (fun p => zff (g p) 1000 0) n := by
  have mono : ∀ p, p < n → ∀ k m, g p m = true → g p (m + k) = true := by
    intro p hp k
    induction k with
    | zero => intro m h; exact h
    | succ k ih => intro m h; exact hm p hp _ (ih m h)
  have key : ∀ j, j < 1000 → (zal (fun p => g p j) n = true ↔ zmx (fun p => zff (g p) 1000 0) n ≤ j) := by
    intro j hj
    rw [zal_iff]
    constructor
    · intro h
      refine zmx_lub (fun p hp => ?_)
      rcases Nat.lt_or_ge j (zff (g p) 1000 0) with q | q
      · have := zff_no (f := g p) (Nat.zero_le j) q
        rw [h p hp] at this
        exact absurd this (by decide)
      · exact q
    · intro h p hp
      have h1 := Nat.le_trans (zmx_ge (f := fun p => zff (g p) 1000 0) hp) h
      have h1' : zff (g p) 1000 0 ≤ j := h1
      have h2 := zff_yes (f := g p) (d := 1000) (k := 0) (by omega)
      have h3 := mono p hp (j - zff (g p) 1000 0) _ h2
      rw [show zff (g p) 1000 0 + (j - zff (g p) 1000 0) = j from by omega] at h3
      exact h3
  have hF := zff_le (fun m => zal (fun p => g p m) n) 1000 0
  have hM : zmx (fun p => zff (g p) 1000 0) n ≤ 1000 := zmx_lub (fun p _ => by have := zff_le (g p) 1000 0; omega)
  rcases Nat.lt_trichotomy (zff (fun m => zal (fun p => g p m) n) 1000 0) (zmx (fun p => zff (g p) 1000 0) n) with q | q | q
  · have h1 := zff_yes (f := fun m => zal (fun p => g p m) n) (d := 1000) (k := 0) (by omega)
    have h2 := (key _ (by omega)).mp h1
    omega
  · exact q
  · have h1 := zff_no (f := fun m => zal (fun p => g p m) n) (d := 1000) (k := 0) (Nat.zero_le _) q
    have h2 := (key _ (by omega)).mpr (Nat.le_refl _)
    rw [h2] at h1
    exact absurd h1 (by decide)
theorem zvs_n {S : ZS} {p l : Nat} (hl : l ≤ 99) (e : S 10 p 0 = nI l) {v : Nat} (hv : v ≤ 900) : ∃ u, u ≤ v ∧ zvs S p (nI v) = nI u := by
  have h1 : v * l ≤ 900 * 99 := Nat.mul_le_mul hv hl
  have h2 : v * l / 100 ≤ v := by
    have h3 : v * l ≤ v * 100 := Nat.mul_le_mul_left v (by omega)
    exact Nat.le_trans (Nat.div_le_div_right h3) (by rw [Nat.mul_div_cancel _ (by decide)]; exact Nat.le_refl v)
  rw [zvs, e, pk_mul, show (100 : Int32) = nI 100 from rfl, pk_div (by omega) (by decide) (by decide), pk_sub h2]
  split
  · rename_i h
    rcases Nat.lt_or_ge 0 (v - v * l / 100) with q | q
    · rw [show (1 : Int32) = nI 1 from rfl, pk_sub q]
      exact ⟨_, by omega, rfl⟩
    · rw [show v - v * l / 100 = 0 from by omega] at h
      exact absurd h (by decide)
  · exact ⟨0, by omega, rfl⟩
theorem zvl_n {S : ZS} {p v l : Nat} (hv : v ≤ 900) (e9 : S 9 p 0 = nI v) (hl : l ≤ 99) (e : S 10 p 0 = nI l) : ∀ m, ∃ u, u ≤ 900 ∧ zvl S p m = nI u
  | 0 => ⟨v, hv, e9⟩
  | m + 1 => by
    obtain ⟨u, hu, e2⟩ := zvl_n hv e9 hl e m
    rw [zvl, e2]
    split
    · obtain ⟨z, hz, e3⟩ := zvs_n hl e hu
      exact ⟨z, by omega, e3⟩
    · exact ⟨u, hu, rfl⟩
theorem zvl_mono {S : ZS} {p v l : Nat} (hv : v ≤ 900) (e9 : S 9 p 0 = nI v) (hl : l ≤ 99) (e : S 10 p 0 = nI l) (m : Nat) (h : zvl S p m < 50) : zvl S p (m + 1) < 50 := by
  obtain ⟨u, hu, e2⟩ := zvl_n hv e9 hl e m
  rw [zvl]
  split
  · obtain ⟨z, hz, e3⟩ := zvs_n hl e hu
    rw [e2] at h ⊢
    rw [e3]
    have h1 := (nI_ltI (b := 50) (by omega) (by decide)).mp h
    exact (nI_ltI (b := 50) (by omega) (by decide)).mpr (by omega)
  · exact h
theorem zsafe_eq {S : ZS} {nP : Nat} (h9 : ∀ p, p < nP → ∃ a, a ≤ 900 ∧ S 9 p 0 = nI a) (h10 : ∀ p, p < nP → ∃ a, 1 ≤ a ∧ a ≤ 99 ∧ S 10 p 0 = nI a) : zff (fun m => zal (fun p => decide (zvl S p m < 50)) nP) 1000 0 = zmx (zfst S) nP := by
  refine zfirst_all (g := fun p m => decide (zvl S p m < 50)) (fun p hp m h => ?_)
  obtain ⟨v, hv, e9⟩ := h9 p hp
  obtain ⟨l, _, hl, e⟩ := h10 p hp
  exact decide_eq_true (zvl_mono hv e9 hl e m (of_decide_eq_true h))
