/-! ===== what is heard lies within bounds; the worst answer; told sets keep their ranges ===== -/
def zBd (x : Int32) (b : Nat) : Prop := -(b : Int) ≤ x.toInt ∧ x.toInt ≤ b
theorem zBd_w {x : Int32} {a b : Nat} (h : zBd x a) (hab : a ≤ b) : zBd x b := by unfold zBd at *; omega
theorem zbm {n : Int} (h1 : -2147483648 ≤ n) (h2 : n < 2147483648) : n.bmod (2 ^ 32) = n := Int.bmod_eq_of_le (by omega) (by omega)
theorem zBd_add {x y : Int32} {a b : Nat} (hx : zBd x a) (hy : zBd y b) (h : a + b < 2 ^ 31) : zBd (x + y) (a + b) := by
  unfold zBd at *
  rw [Int32.toInt_add, zbm (by omega) (by omega)]
  omega
theorem zBd_0 (b : Nat) : zBd 0 b := by
  have e : (0 : Int32).toInt = 0 := rfl
  unfold zBd; omega
theorem zmulb {X g : Int} {a : Int} (h1 : -a ≤ X) (h2 : X ≤ a) (h3 : 0 ≤ g) (h4 : g ≤ 50) : -(a * 50) ≤ X * g ∧ X * g ≤ a * 50 := by
  have ha : 0 ≤ a := by omega
  have e1 : X * g ≤ a * g := Int.mul_le_mul_of_nonneg_right h2 h3
  have e2 : -a * g ≤ X * g := Int.mul_le_mul_of_nonneg_right h1 h3
  have e3 : a * g ≤ a * 50 := Int.mul_le_mul_of_nonneg_left h4 ha
  have e4 : -a * g = -(a * g) := Int.neg_mul a g
  omega
theorem ztdiv {y : Int} {c : Int} (h1 : -(10 * c) ≤ y) (h2 : y ≤ 10 * c) : -c ≤ y.tdiv 10 ∧ y.tdiv 10 ≤ c := by
  rcases Int.le_total 0 y with h | h
  · rw [Int.tdiv_eq_ediv_of_nonneg h]; omega
  · have e : y = -(-y) := by omega
    rw [e, Int.neg_tdiv, Int.tdiv_eq_ediv_of_nonneg (by omega)]; omega
theorem zBd_gain {x : Int32} {a g : Nat} (hx : zBd x a) (hg : g ≤ 50) (h : a * 50 < 2 ^ 31) : zBd (x * nI g / 10) (a * 5) := by
  unfold zBd at *
  have hm := zmulb (X := x.toInt) (g := (g : Int)) (a := (a : Int)) (by omega) (by omega) (by omega) (by omega)
  have e1 : (x * nI g).toInt = x.toInt * g := by
    rw [Int32.toInt_mul, nI_toInt (by omega), zbm (by omega) (by omega)]
  have e2 : (10 : Int32).toInt = 10 := rfl
  have ht := ztdiv (y := x.toInt * g) (c := (a : Int) * 5) (by omega) (by omega)
  rw [Int32.toInt_div, e1, e2, zbm (by omega) (by omega)]
  omega
theorem zlt_b {S : ZS} {nS nP nW s : Nat} (h : zSr S nS nP nW 300 800) (hs : s < nS) (hp8 : nP ≤ 8) (st : Nat) (m : Int32) {t : Nat} (ht : t < 3) : ∀ p, p ≤ nP → zBd (zlt S st m s t p) (300 + 800 * p)
  | 0, _ => ((h.1 s hs).2 t ht)
  | p + 1, hp => by
    have h1 := zlt_b h hs hp8 st m ht p (by omega)
    rw [zlt]
    have h2 := (h.2.1 p (by omega)).2.2.2.2.2.2 t ht
    have e : 300 + 800 * (p + 1) = (300 + 800 * p) + 800 := by omega
    rw [e]
    refine zBd_add h1 ?_ (by omega)
    split
    · exact h2
    · exact zBd_0 800
theorem zbs_b {S : ZS} {nS nP nW s : Nat} (h : zSr S nS nP nW 300 800) (hs : s < nS) (hp8 : nP ≤ 8) (st : Nat) (m : Int32) (f : Nat) {t : Nat} (ht : t < 3) : zBd (zbs S nP st m f s t) 6800 := by
  have h1 := zlt_b h hs hp8 st m ht nP (Nat.le_refl _)
  unfold zbs
  have h2 : zBd (if s = f ∧ t = 0 then (100 : Int32) else 0) 100 := by
    split
    · have e : (100 : Int32).toInt = 100 := rfl
      unfold zBd; omega
    · exact zBd_0 100
  exact zBd_w (zBd_add h1 h2 (by omega)) (by omega)
def zhb : Nat → Nat
  | 0 => 0
  | s + 1 => (6800 + zhb s) * 5
theorem zhb_le : ∀ s, s ≤ 5 → zhb s ≤ 26554000 := by decide
theorem zhd_b {S : ZS} {nS nP nW : Nat} (h : zSr S nS nP nW 300 800) (hs6 : nS ≤ 6) (hp8 : nP ≤ 8) (st : Nat) (m : Int32) (o f : Nat) {t : Nat} (ht : t < 3) : ∀ s, s ≤ nS → zBd (zhd S nP st m o f t s) (zhb s)
  | 0, _ => zBd_0 0
  | s + 1, hs => by
    have h1 := zhd_b h hs6 hp8 st m o f ht s (by omega)
    have h2 := zbs_b h (s := s) (by omega) hp8 st m f ht
    have h3 := zhb_le s (by omega)
    obtain ⟨⟨g, hg1, hg, e⟩, -⟩ := h.1 s (by omega)
    rw [zhd, zhb]
    split
    · exact zBd_0 _
    · rw [e]
      exact zBd_gain (zBd_add h2 h1 (by omega)) hg (by omega)
theorem zin_b {S : ZS} {nS nP nW : Nat} (h : zSr S nS nP nW 300 800) (hs6 : nS ≤ 6) (hp8 : nP ≤ 8) (st : Nat) (m : Int32) (o f : Nat) {s t : Nat} (hs : s < nS) (ht : t < 3) : zBd (zin S nP st m o f s t) 30000000 := by
  have h1 := zhd_b h hs6 hp8 st m o f ht s (by omega)
  have h2 := zbs_b h hs hp8 st m f ht
  have h3 := zhb_le s (by omega)
  exact zBd_w (zBd_add h2 h1 (by omega)) (by omega)
theorem zabs_b {x : Int32} {b : Nat} (h : zBd x b) (hb : b < 2 ^ 31) : 0 ≤ (zabs x).toInt ∧ (zabs x).toInt ≤ b := by
  have e0 : (0 : Int32).toInt = 0 := rfl
  unfold zBd at h
  unfold zabs
  split
  · rename_i q
    rw [z_le, e0] at q
    omega
  · rename_i q
    rw [z_le, e0] at q
    rw [Int32.toInt_sub, e0, zbm (by omega) (by omega)]
    omega
theorem zsum_b {e : Nat → Int32} (h : ∀ t, t < 3 → zBd (e t) 30000000) : 0 ≤ (zsum e 3).toInt ∧ (zsum e 3).toInt ≤ 90000000 := by
  have h0 := zabs_b (h 0 (by decide)) (by decide)
  have h1 := zabs_b (h 1 (by decide)) (by decide)
  have h2 := zabs_b (h 2 (by decide)) (by decide)
  have e0 : (0 : Int32).toInt = 0 := rfl
  simp only [zsum]
  have a1 : (0 + zabs (e 0)).toInt = (zabs (e 0)).toInt := by rw [Int32.toInt_add, e0, zbm (by omega) (by omega)]; omega
  have a2 : (0 + zabs (e 0) + zabs (e 1)).toInt = (zabs (e 0)).toInt + (zabs (e 1)).toInt := by rw [Int32.toInt_add, a1, zbm (by omega) (by omega)]
  have a3 : (0 + zabs (e 0) + zabs (e 1) + zabs (e 2)).toInt = (zabs (e 0)).toInt + (zabs (e 1)).toInt + (zabs (e 2)).toInt := by rw [Int32.toInt_add, a2, zbm (by omega) (by omega)]
  omega
theorem zth_n (S : ZS) (e : Nat → Int32) : ∃ r, r ≤ 7 ∧ zth S e 3 = nI r := by
  simp only [zth]
  split <;> split <;> split <;> first | exact ⟨0, by decide, by decide⟩ | exact ⟨1, by decide, by decide⟩ | exact ⟨2, by decide, by decide⟩ | exact ⟨3, by decide, by decide⟩ | exact ⟨4, by decide, by decide⟩ | exact ⟨5, by decide, by decide⟩ | exact ⟨6, by decide, by decide⟩ | exact ⟨7, by decide, by decide⟩
theorem zrep_n {S : ZS} {nS nP nW : Nat} (h : zSr S nS nP nW 300 800) (hs6 : nS ≤ 6) (hp8 : nP ≤ 8) (st : Nat) (m : Int32) {k j : Nat} (hj : j < zak (nI k) nS nP) : ∃ r, r ≤ 9 ∧ zrep S nS nP st k j m = nI r := by
  unfold zrep
  split
  · rename_i hk
    subst hk
    have hj' : j < nS := hj
    obtain ⟨h1, h2⟩ := zsum_b (e := fun t => zin S nP st m 100 100 j t) (fun t ht => zin_b h hs6 hp8 st m 100 100 hj' ht)
    obtain ⟨z, hz, e⟩ := nI_of (x := zsum (fun t => zin S nP st m 100 100 j t) 3) (fun q => by rw [z_lt] at q; have e0 : (0 : Int32).toInt = 0 := rfl; omega)
    rw [e, show (20 : Int32) = nI 20 from rfl, pk_div (by omega) (by decide) (by decide), zmin9]
    split
    · rename_i q
      have := (nI_ltI (b := 9) (by omega) (by decide)).mp q
      exact ⟨_, by omega, rfl⟩
    · exact ⟨9, by omega, rfl⟩
  · obtain ⟨r, hr, e⟩ := zth_n S (fun t => zhd S nP (if k = 3 ∧ S 4 j 0 = 0 then zclr st j else st) m (if k = 1 then j else 100) (if k = 2 then j else 100) t nS)
    exact ⟨r, by omega, e⟩
-- the worst answer
def zm10 (T : Nat → Int64) : Nat → Int64
  | 0 => 0
  | a + 1 => if zm10 T a < T a then T a else zm10 T a
theorem zm10_up {T T' : Nat → Int64} {r : Nat} (h1 : ∀ i, i ≠ r → T' i = T i) (h2 : T r ≤ T' r) : ∀ n, zm10 T' n = if r < n then (if T' r < zm10 T n then zm10 T n else T' r) else zm10 T n
  | 0 => by simp [zm10]
  | n + 1 => by
    have ih := zm10_up h1 h2 n
    rw [zm10, zm10, ih]
    rw [z_le64] at h2
    by_cases hr : r < n
    · rw [if_pos hr, if_pos (show r < n + 1 by omega), h1 n (by omega)]
      simp only [z_lt64]
      repeat' split
      all_goals first
        | rfl
        | (apply Int64.toInt_inj.mp; omega)
        | omega
    · rw [if_neg hr]
      by_cases he : r = n
      · subst he
        rw [if_pos (show r < r + 1 by omega)]
        simp only [z_lt64]
        repeat' split
        all_goals first
          | rfl
          | (apply Int64.toInt_inj.mp; omega)
          | omega
      · rw [if_neg (show ¬ r < n + 1 by omega), h1 n (by omega)]
theorem zwo_m {S : ZS} {nS nP nW k j : Nat} {m : Int32} (h : zSr S nS nP nW 300 800) (hs6 : nS ≤ 6) (hp8 : nP ≤ 8) (hj : j < zak (nI k) nS nP) : ∀ (cs : List Nat), cs.length ≤ 37 → ∀ (a : (Nat → Int64) × Int64) (b : Nat), (∀ i, ∃ n, n ≤ b ∧ a.1 i = lN n) → b + cs.length * 100000000 < 2 ^ 63 → a.2 = zm10 a.1 10 → (cs.foldl (zwu S nS nP k j m) a).2 = zm10 (cs.foldl (zwu S nS nP k j m) a).1 10
  | [], _, a, b, _, _, h3 => h3
  | c :: cs, hl, a, b, h1, h2, h3 => by
    have htr : ∀ p, p < nP → ∃ a, a ≤ 9 ∧ S 6 p 0 = nI a := fun p hp => (h.2.1 p hp).2.2.2.1
    obtain ⟨r, hr, hre⟩ := zrep_n h hs6 hp8 c m hj
    have hw8 := zwN_8 (S := S) (st := c) htr hp8
    have hwt := zwt_N (S := S) (st := c) htr nP (Nat.le_refl _)
    rw [List.length_cons] at hl h2
    rw [List.foldl_cons]
    refine zwo_m h hs6 hp8 hj cs (by omega) _ (b + 100000000) ?_ (by omega) ?_
    · intro i
      rw [zwu_y hre hr]
      obtain ⟨n, hn, e⟩ := h1 i
      by_cases q : i = r
      · refine ⟨n + zwN S c nP, by omega, ?_⟩
        show (if i = r then a.1 i + zwt S c nP else a.1 i) = _
        rw [if_pos q, e, hwt, lN_add]
      · refine ⟨n, by omega, ?_⟩
        show (if i = r then a.1 i + zwt S c nP else a.1 i) = _
        rw [if_neg q, e]
    · rw [zwu_y hre hr]
      obtain ⟨n, hn, e⟩ := h1 r
      have h4 : a.1 r ≤ a.1 r + zwt S c nP := by
        rw [e, hwt, lN_add]
        exact (pk_lLE (a := n) (b := n + zwN S c nP) (by omega) (by omega)).mpr (by omega)
      have hT1 : ∃ zT1 : Nat → Int64, zT1 = fun i => if i = r then a.1 i + zwt S c nP else a.1 i := ⟨_, rfl⟩
      obtain ⟨zT1, eT1⟩ := hT1
      have e5 : (if r = r then a.1 r + zwt S c nP else a.1 r) = a.1 r + zwt S c nP := if_pos rfl
      have e6 : zT1 r = a.1 r + zwt S c nP := by rw [eT1]; exact e5
      have h5 := zm10_up (T := a.1) (T' := zT1) (r := r) (fun i hi => by rw [eT1]; exact if_neg hi) (by rw [e6]; exact h4) 10
      rw [e6] at h5
      show (if a.1 r + zwt S c nP < a.2 then a.2 else a.1 r + zwt S c nP) = zm10 (fun i => if i = r then a.1 i + zwt S c nP else a.1 i) 10
      rw [← eT1, h5, if_pos (show r < 10 by omega), h3]
theorem zm10_0 : ∀ n, (0 : Int64) = zm10 (fun _ => 0) n
  | 0 => rfl
  | n + 1 => by rw [zm10, ← zm10_0 n, if_neg (Int64.lt_irrefl)]
theorem zwo_10 {S : ZS} {nS nP nW k j : Nat} {m : Int32} {cs : List Nat} (h : zSr S nS nP nW 300 800) (hs6 : nS ≤ 6) (hp8 : nP ≤ 8) (hj : j < zak (nI k) nS nP) (hl : cs.length ≤ 37) : (zwo S nS nP k j m cs).2 = zm10 (zwo S nS nP k j m cs).1 10 :=
  zwo_m h hs6 hp8 hj cs hl (fun _ => 0, 0) 0 (fun i => ⟨0, Nat.le_refl 0, rfl⟩) (by omega) (zm10_0 10)
-- told sets
def zUr (u : ZU) : Prop := zSr u.1 u.2.1 u.2.2.1 u.2.2.2.1 (50 * u.2.2.2.2.2) (50 * u.2.2.2.2.1)
theorem zUr_0 : zUr zu0 := ⟨fun s hs => absurd hs (Nat.not_lt_zero s), fun s hs => absurd hs (Nat.not_lt_zero s), fun s hs => absurd hs (Nat.not_lt_zero s), fun k hk => ⟨5, by decide, rfl⟩⟩
theorem zi50 {c : Int32} (h : -50 ≤ c ∧ c ≤ 50) : zBd c 50 := by
  have e1 : (-50 : Int32).toInt = -50 := rfl
  have e2 : (50 : Int32).toInt = 50 := rfl
  rw [z_le, z_le] at h
  unfold zBd; omega
theorem zSr_w {S : ZS} {nS nP nW bM bL bM' bL' : Nat} (h : zSr S nS nP nW bM bL) (h1 : bM ≤ bM') (h2 : bL ≤ bL') : zSr S nS nP nW bM' bL' :=
  ⟨fun s hs => ⟨(h.1 s hs).1, fun t ht => by have := (h.1 s hs).2 t ht; omega⟩, fun p hp => ⟨(h.2.1 p hp).1, (h.2.1 p hp).2.1, (h.2.1 p hp).2.2.1, (h.2.1 p hp).2.2.2.1, (h.2.1 p hp).2.2.2.2.1, (h.2.1 p hp).2.2.2.2.2.1, fun t ht => by have := (h.2.1 p hp).2.2.2.2.2.2 t ht; omega⟩, h.2.2.1, h.2.2.2⟩
/-- one entry told anew: its own range, all others as before -/
theorem zSr_u {S : ZS} {nS nP nW bM bL f i j : Nat} {x : Int32} (h : zSr S nS nP nW bM bL) (h0 : ¬ f = 0) (h2 : f = 2 → zBd x bM) (h3 : ¬ f = 3) (h4 : ¬ f = 4) (h5 : ¬ f = 5) (h6 : ¬ f = 6) (h9 : f = 9 → ∃ a, a ≤ 900 ∧ x = nI a) (h10 : f = 10 → ∃ a, 1 ≤ a ∧ a ≤ 99 ∧ x = nI a) (h11 : f = 11 → zBd x bL) (h12 : f = 12 → ∃ a, a < nS ∧ x = nI a) (h16 : f = 16 → ∃ a, a ≤ 50 ∧ x = nI a) : zSr (zsu S f i j x) nS nP nW bM bL := by
  have hn : ∀ {f' i' j' : Nat}, ¬ f' = f → zsu S f i j x f' i' j' = S f' i' j' := fun q => if_neg (fun z => q z.1)
  refine ⟨fun s hs => ⟨?_, fun t ht => ?_⟩, fun p hp => ⟨?_, ?_, ?_, ?_, ?_, ?_, fun t ht => ?_⟩, fun i' hi => ?_, fun k hk => ?_⟩
  · rw [hn (fun q => h0 q.symm)]; exact (h.1 s hs).1
  · unfold zsu
    split
    · rename_i q
      exact h2 q.1.symm
    · exact (h.1 s hs).2 t ht
  · rw [hn (fun q => h3 q.symm)]; exact (h.2.1 p hp).1
  · rw [hn (fun q => h4 q.symm)]; exact (h.2.1 p hp).2.1
  · rw [hn (fun q => h5 q.symm)]; exact (h.2.1 p hp).2.2.1
  · rw [hn (fun q => h6 q.symm)]; exact (h.2.1 p hp).2.2.2.1
  · unfold zsu
    split
    · rename_i q
      exact h9 q.1.symm
    · exact (h.2.1 p hp).2.2.2.2.1
  · unfold zsu
    split
    · rename_i q
      exact h10 q.1.symm
    · exact (h.2.1 p hp).2.2.2.2.2.1
  · unfold zsu
    split
    · rename_i q
      exact h11 q.1.symm
    · exact (h.2.1 p hp).2.2.2.2.2.2 t ht
  · unfold zsu
    split
    · rename_i q
      exact h12 q.1.symm
    · exact h.2.2.1 i' hi
  · unfold zsu
    split
    · rename_i q
      exact h16 q.1.symm
    · exact h.2.2.2 k hk
theorem zr_c {a : Int32} {n : Nat} (hn : n < 2 ^ 31) (h : zr a n) : a.toNatClampNeg < n ∧ a = nI a.toNatClampNeg := by
  obtain ⟨j, hj, rfl⟩ := (zr_iff hn).mp h
  rw [nI_clamp (by omega)]
  exact ⟨hj, rfl⟩
theorem zb_c {a b : Int32} {n : Nat} (hb : b = nI n) (hn : n < 2 ^ 31) (h : 0 ≤ a ∧ a ≤ b) : ∃ j, j ≤ n ∧ a = nI j := zb_nI hb hn h
theorem zb_1 {a b : Int32} {n : Nat} (hb : b = nI n) (hn : n < 2 ^ 31) (h : 1 ≤ a ∧ a ≤ b) : ∃ j, 1 ≤ j ∧ j ≤ n ∧ a = nI j := by
  obtain ⟨j, hj, e⟩ := zb_nI hb hn ⟨Int32.le_trans (by decide : (0 : Int32) ≤ 1) h.1, h.2⟩
  refine ⟨j, ?_, hj, e⟩
  rw [e] at h
  exact (nI_leI (a := 1) (by decide) (by omega)).mp h.1
theorem ztk_r {u u' : ZU} {c : Nat} {f : Nat → Int32} (hub : zUb u) (hr : zUr u) (h : ztk u c f = some u') : zUr u' := by
  obtain ⟨b1, b2, b3, b4, b5⟩ := hub
  unfold zUr at hr
  unfold ztk at h
  repeat' split at h
  · -- a stage
    obtain ⟨⟨z1, z2, z3⟩, rfl⟩ := zif_some h
    have hg := zb_1 (n := 50) rfl (by decide) z2
    refine ⟨fun s hs => ⟨?_, fun t ht => ?_⟩, fun p hp => ⟨?_, ?_, ?_, ?_, ?_, ?_, fun t ht => ?_⟩, fun i hi => ?_, fun k hk => ?_⟩
    · show ∃ a, 1 ≤ a ∧ a ≤ 50 ∧ zS_s u.1 u.2.1 (f 0) (f 1) 0 s 0 = nI a
      by_cases q : s = u.2.1
      · have e : zS_s u.1 u.2.1 (f 0) (f 1) 0 s 0 = f 0 := if_pos ⟨rfl, q⟩
        rw [e]; exact hg
      · have e : zS_s u.1 u.2.1 (f 0) (f 1) 0 s 0 = u.1 0 s 0 := by simp [zS_s, q]
        rw [e]; exact (hr.1 s (by have : s < u.2.1 + 1 := hs; omega)).1
    · show zBd (zS_s u.1 u.2.1 (f 0) (f 1) 2 s t) _
      by_cases q : s = u.2.1
      · have e : zS_s u.1 u.2.1 (f 0) (f 1) 2 s t = 0 := by simp [zS_s, q]
        rw [e]; exact zBd_0 _
      · have e : zS_s u.1 u.2.1 (f 0) (f 1) 2 s t = u.1 2 s t := by simp [zS_s, q]
        rw [e]; exact (hr.1 s (by have : s < u.2.1 + 1 := hs; omega)).2 t ht
    · obtain ⟨a, ha, e⟩ := (hr.2.1 p hp).1
      exact ⟨a, by show a < u.2.1 + 1; omega, e⟩
    · exact (hr.2.1 p hp).2.1
    · exact (hr.2.1 p hp).2.2.1
    · exact (hr.2.1 p hp).2.2.2.1
    · exact (hr.2.1 p hp).2.2.2.2.1
    · exact (hr.2.1 p hp).2.2.2.2.2.1
    · exact (hr.2.1 p hp).2.2.2.2.2.2 t ht
    · obtain ⟨a, ha, e⟩ := hr.2.2.1 i hi
      exact ⟨a, by show a < u.2.1 + 1; omega, e⟩
    · exact hr.2.2.2 k hk
  · -- a part
    obtain ⟨⟨z1, z2, z3, z4, z5, z6⟩, rfl⟩ := zif_some h
    have hn : ∀ (f' i j : Nat), (¬ i = u.2.2.1 ∨ f' < 3 ∨ 11 < f') → zS_p u.1 u.2.2.1 (f 0) (f 1) (f 2) (f 3) (f 4) f' i j = u.1 f' i j := fun f' i j q => if_neg (by omega)
    have hy : ∀ (f' j : Nat), 3 ≤ f' → f' ≤ 11 → zS_p u.1 u.2.2.1 (f 0) (f 1) (f 2) (f 3) (f 4) f' u.2.2.1 j = zpv (f 0) (f 1) (f 2) (f 3) (f 4) f' := fun f' j q1 q2 => if_pos ⟨rfl, q1, q2⟩
    refine ⟨fun s hs => ⟨?_, fun t ht => ?_⟩, fun p hp => ?_, fun i hi => ?_, fun k hk => ?_⟩
    · show ∃ a, 1 ≤ a ∧ a ≤ 50 ∧ zS_p u.1 u.2.2.1 (f 0) (f 1) (f 2) (f 3) (f 4) 0 s 0 = nI a
      rw [hn 0 s 0 (Or.inr (Or.inl (by decide)))]
      exact (hr.1 s hs).1
    · show zBd (zS_p u.1 u.2.2.1 (f 0) (f 1) (f 2) (f 3) (f 4) 2 s t) _
      rw [hn 2 s t (Or.inr (Or.inl (by decide)))]
      exact (hr.1 s hs).2 t ht
    · by_cases q : p = u.2.2.1
      · subst q
        show (∃ a, a < u.2.1 ∧ zS_p u.1 u.2.2.1 (f 0) (f 1) (f 2) (f 3) (f 4) 3 u.2.2.1 0 = nI a) ∧ (∃ a, a < 5 ∧ zS_p u.1 u.2.2.1 (f 0) (f 1) (f 2) (f 3) (f 4) 4 u.2.2.1 0 = nI a) ∧ (∃ a, a ≤ 99 ∧ zS_p u.1 u.2.2.1 (f 0) (f 1) (f 2) (f 3) (f 4) 5 u.2.2.1 0 = nI a) ∧ (∃ a, a ≤ 9 ∧ zS_p u.1 u.2.2.1 (f 0) (f 1) (f 2) (f 3) (f 4) 6 u.2.2.1 0 = nI a) ∧ (∃ a, a ≤ 900 ∧ zS_p u.1 u.2.2.1 (f 0) (f 1) (f 2) (f 3) (f 4) 9 u.2.2.1 0 = nI a) ∧ (∃ a, 1 ≤ a ∧ a ≤ 99 ∧ zS_p u.1 u.2.2.1 (f 0) (f 1) (f 2) (f 3) (f 4) 10 u.2.2.1 0 = nI a) ∧ ∀ t, t < 3 → zBd (zS_p u.1 u.2.2.1 (f 0) (f 1) (f 2) (f 3) (f 4) 11 u.2.2.1 t) _
        rw [hy 3 0 (by decide) (by decide), hy 4 0 (by decide) (by decide), hy 5 0 (by decide) (by decide), hy 6 0 (by decide) (by decide), hy 9 0 (by decide) (by decide), hy 10 0 (by decide) (by decide)]
        refine ⟨⟨_, (zr_c (by omega) z2).1, (zr_c (by omega) z2).2⟩, ?_, zb_c (n := 99) rfl (by decide) z4, zb_c (n := 9) rfl (by decide) z5, ⟨0, by decide, rfl⟩, ⟨1, by decide, by decide, rfl⟩, fun t ht => ?_⟩
        · obtain ⟨j, hj, e⟩ := zb_c (n := 4) rfl (by decide) z3
          exact ⟨j, by omega, e⟩
        · rw [hy 11 t (by decide) (by decide)]
          exact zBd_0 _
      · have hp' : p < u.2.2.1 := by have : p < u.2.2.1 + 1 := hp; omega
        have g := hr.2.1 p hp'
        show (∃ a, a < u.2.1 ∧ zS_p u.1 u.2.2.1 (f 0) (f 1) (f 2) (f 3) (f 4) 3 p 0 = nI a) ∧ (∃ a, a < 5 ∧ zS_p u.1 u.2.2.1 (f 0) (f 1) (f 2) (f 3) (f 4) 4 p 0 = nI a) ∧ (∃ a, a ≤ 99 ∧ zS_p u.1 u.2.2.1 (f 0) (f 1) (f 2) (f 3) (f 4) 5 p 0 = nI a) ∧ (∃ a, a ≤ 9 ∧ zS_p u.1 u.2.2.1 (f 0) (f 1) (f 2) (f 3) (f 4) 6 p 0 = nI a) ∧ (∃ a, a ≤ 900 ∧ zS_p u.1 u.2.2.1 (f 0) (f 1) (f 2) (f 3) (f 4) 9 p 0 = nI a) ∧ (∃ a, 1 ≤ a ∧ a ≤ 99 ∧ zS_p u.1 u.2.2.1 (f 0) (f 1) (f 2) (f 3) (f 4) 10 p 0 = nI a) ∧ ∀ t, t < 3 → zBd (zS_p u.1 u.2.2.1 (f 0) (f 1) (f 2) (f 3) (f 4) 11 p t) _
        rw [hn 3 p 0 (Or.inl q), hn 4 p 0 (Or.inl q), hn 5 p 0 (Or.inl q), hn 6 p 0 (Or.inl q), hn 9 p 0 (Or.inl q), hn 10 p 0 (Or.inl q)]
        refine ⟨g.1, g.2.1, g.2.2.1, g.2.2.2.1, g.2.2.2.2.1, g.2.2.2.2.2.1, fun t ht => ?_⟩
        rw [hn 11 p t (Or.inl q)]
        exact g.2.2.2.2.2.2 t ht
    · show ∃ a, a < u.2.1 ∧ zS_p u.1 u.2.2.1 (f 0) (f 1) (f 2) (f 3) (f 4) 12 i 0 = nI a
      rw [hn 12 i 0 (Or.inr (Or.inr (by decide)))]
      exact hr.2.2.1 i hi
    · show ∃ a, a ≤ 50 ∧ zS_p u.1 u.2.2.1 (f 0) (f 1) (f 2) (f 3) (f 4) 16 k 0 = nI a
      rw [hn 16 k 0 (Or.inr (Or.inr (by decide)))]
      exact hr.2.2.2 k hk
  · -- a let
    obtain ⟨⟨z1, z2, z3, z4⟩, rfl⟩ := zif_some h
    obtain ⟨b, hb, eb⟩ := zb_c (n := 2) rfl (by decide) z3
    have hold := (hr.2.1 _ (zr_c (by omega) z2).1).2.2.2.2.2.2 (f 1).toNatClampNeg (by rw [eb, nI_clamp (by omega)]; omega)
    refine zSr_u (zSr_w hr (Nat.le_refl _) (by show 50 * _ ≤ 50 * (_ + 1); omega)) (by decide) (fun q => absurd q (by decide)) (by decide) (by decide) (by decide) (by decide) (fun q => absurd q (by decide)) (fun q => absurd q (by decide)) (fun _ => ?_) (fun q => absurd q (by decide)) (fun q => absurd q (by decide))
    exact zBd_w (zBd_add (a := 50 * u.2.2.2.2.1) (b := 50) hold (zi50 z4) (by omega)) (by show _ ≤ 50 * (_ + 1); omega)
  · -- mains
    obtain ⟨⟨z1, z2, z3, z4⟩, rfl⟩ := zif_some h
    obtain ⟨b, hb, eb⟩ := zb_c (n := 2) rfl (by decide) z3
    have hold := (hr.1 _ (zr_c (by omega) z2).1).2 (f 1).toNatClampNeg (by rw [eb, nI_clamp (by omega)]; omega)
    refine zSr_u (zSr_w hr (by show 50 * _ ≤ 50 * (_ + 1); omega) (Nat.le_refl _)) (by decide) (fun _ => ?_) (by decide) (by decide) (by decide) (by decide) (fun q => absurd q (by decide)) (fun q => absurd q (by decide)) (fun q => absurd q (by decide)) (fun q => absurd q (by decide)) (fun q => absurd q (by decide))
    exact zBd_w (zBd_add (a := 50 * u.2.2.2.2.2) (b := 50) hold (zi50 z4) (by omega)) (by show _ ≤ 50 * (_ + 1); omega)
  · -- a cost
    obtain ⟨-, rfl⟩ := zif_some h
    exact zSr_u hr (by decide) (fun q => absurd q (by decide)) (by decide) (by decide) (by decide) (by decide) (fun q => absurd q (by decide)) (fun q => absurd q (by decide)) (fun q => absurd q (by decide)) (fun q => absurd q (by decide)) (fun q => absurd q (by decide))
  · -- a way
    obtain ⟨⟨z1, z2, z3, z4⟩, rfl⟩ := zif_some h
    have g : zSr (zsu (zsu (zsu u.1 12 u.2.2.2.1 0 (f 0)) 13 u.2.2.2.1 0 (f 1)) 14 u.2.2.2.1 0 (f 2)) u.2.1 u.2.2.1 u.2.2.2.1 (50 * u.2.2.2.2.2) (50 * u.2.2.2.2.1) := by
      refine zSr_u (zSr_u (zSr_u hr (by decide) (fun q => absurd q (by decide)) (by decide) (by decide) (by decide) (by decide) (fun q => absurd q (by decide)) (fun q => absurd q (by decide)) (fun q => absurd q (by decide)) (fun _ => ⟨_, (zr_c (by omega) z2).1, (zr_c (by omega) z2).2⟩) (fun q => absurd q (by decide))) (by decide) (fun q => absurd q (by decide)) (by decide) (by decide) (by decide) (by decide) (fun q => absurd q (by decide)) (fun q => absurd q (by decide)) (fun q => absurd q (by decide)) (fun q => absurd q (by decide)) (fun q => absurd q (by decide))) (by decide) (fun q => absurd q (by decide)) (by decide) (by decide) (by decide) (by decide) (fun q => absurd q (by decide)) (fun q => absurd q (by decide)) (fun q => absurd q (by decide)) (fun q => absurd q (by decide)) (fun q => absurd q (by decide))
    refine ⟨g.1, g.2.1, fun i hi => ?_, g.2.2.2⟩
    by_cases q : i = u.2.2.2.1
    · subst q
      show ∃ a, a < u.2.1 ∧ zsu (zsu (zsu u.1 12 u.2.2.2.1 0 (f 0)) 13 u.2.2.2.1 0 (f 1)) 14 u.2.2.2.1 0 (f 2) 12 u.2.2.2.1 0 = nI a
      have e : zsu (zsu (zsu u.1 12 u.2.2.2.1 0 (f 0)) 13 u.2.2.2.1 0 (f 1)) 14 u.2.2.2.1 0 (f 2) 12 u.2.2.2.1 0 = f 0 := by simp [zsu]
      rw [e]
      exact ⟨_, (zr_c (by omega) z2).1, (zr_c (by omega) z2).2⟩
    · exact g.2.2.1 i (by have : i < u.2.2.2.1 + 1 := hi; omega)
  · -- ears
    obtain ⟨-, rfl⟩ := zif_some h
    exact zSr_u hr (by decide) (fun q => absurd q (by decide)) (by decide) (by decide) (by decide) (by decide) (fun q => absurd q (by decide)) (fun q => absurd q (by decide)) (fun q => absurd q (by decide)) (fun q => absurd q (by decide)) (fun q => absurd q (by decide))
  · -- yearly
    obtain ⟨⟨z1, z2⟩, rfl⟩ := zif_some h
    exact zSr_u hr (by decide) (fun q => absurd q (by decide)) (by decide) (by decide) (by decide) (by decide) (fun q => absurd q (by decide)) (fun q => absurd q (by decide)) (fun q => absurd q (by decide)) (fun q => absurd q (by decide)) (fun _ => zb_c (n := 50) rfl (by decide) z2)
  · -- volts
    obtain ⟨⟨z1, z2, z3⟩, rfl⟩ := zif_some h
    exact zSr_u (zSr_u hr (by decide) (fun q => absurd q (by decide)) (by decide) (by decide) (by decide) (by decide) (fun _ => zb_c (n := 900) rfl (by decide) z2) (fun q => absurd q (by decide)) (fun q => absurd q (by decide)) (fun q => absurd q (by decide)) (fun q => absurd q (by decide))) (by decide) (fun q => absurd q (by decide)) (by decide) (by decide) (by decide) (by decide) (fun q => absurd q (by decide)) (fun _ => zb_1 (n := 99) rfl (by decide) z3) (fun q => absurd q (by decide)) (fun q => absurd q (by decide)) (fun q => absurd q (by decide))
  · cases h
theorem zit_r {t : Nat → Nat} {p : Nat} {u : ZU} {r : ZU × Nat} (hub : zUb u) (hu : zUr u) (h : zit t p u = some r) : zUr r.1 := by
  unfold zit at h
  split at h
  · cases h
  · split at h
    · cases h
    · split at h
      · cases h
      · rename_i u' hu'
        cases h
        exact ztk_r hub hu hu'
theorem zrd_r {t : Nat → Nat} {len : Nat} : ∀ (f p : Nat) (u : ZU), zUb u → zUr u → zUr (zrd t len f p u).2
  | 0, _, _, _, h => h
  | f + 1, p, u, hb, h => by
    unfold zrd
    split
    · split
      · exact h
      · rename_i q hq
        exact zrd_r f q.2 q.1 (zit_ub hb hq) (zit_r hb h hq)
    · exact h
theorem zrd_sr {t : Nat → Nat} {len : Nat} : zSr (zrd t len 400 0 zu0).2.1 (zrd t len 400 0 zu0).2.2.1 (zrd t len 400 0 zu0).2.2.2.1 (zrd t len 400 0 zu0).2.2.2.2.1 300 800 := by
  have h1 := zrd_r (t := t) (len := len) 400 0 zu0 zub0 zUr_0
  have h2 := zrd_ub (t := t) (len := len) 400 0 zu0 zub0
  exact zSr_w h1 (by have := h2.2.2.2.2; omega) (by have := h2.2.2.2.1; omega)
