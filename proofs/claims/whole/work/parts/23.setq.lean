/-! ===== a set's own questions ===== -/
theorem zr_of1 {x : Int32} {n : Nat} (hb : n < 2 ^ 31) (h1 : ¬ x < 0) (h2 : ¬ nI n ≤ x) : zr x n := by
  rw [z_lt] at h1
  rw [z_le, nI_toInt hb] at h2
  have : (0 : Int32).toInt = 0 := rfl
  exact ⟨by omega, by omega⟩
theorem zr_no1 {x : Int32} {n : Nat} (h1 : x < 0) : ¬ zr x n := by
  rw [z_lt] at h1
  have : (0 : Int32).toInt = 0 := rfl
  exact fun q => by have := q.1; omega
theorem zr_no2 {x : Int32} {n : Nat} (hb : n < 2 ^ 31) (h2 : nI n ≤ x) : ¬ zr x n := by
  rw [z_le, nI_toInt hb] at h2
  exact fun q => by have := q.2; omega
theorem zr_nI {j n : Nat} (hj : j < n) (hn : n < 2 ^ 31) : zr (nI j) n := (zr_iff hn).mpr ⟨j, hj, rfl⟩
theorem zp256 {n : Nat} (h : n ≤ 8) : 2 ^ n ≤ 256 := (by decide : ∀ n, n ≤ 8 → 2 ^ n ≤ 256) n h
def zak (x : Int32) (nS nP : Nat) : Nat := if x = 0 then 1 else if x = 3 then nP else nS
theorem zak_b {x : Int32} {nS nP : Nat} (h1 : nS ≤ 6) (h2 : nP ≤ 8) : zak x nS nP ≤ 8 := by
  unfold zak
  split
  · omega
  · split <;> omega
def zany (f : Nat → Bool) : Nat → Bool
  | 0 => false
  | n + 1 => zany f n || f n
theorem zany_t {f : Nat → Bool} {p : Nat} : ∀ {n : Nat}, p < n → f p = true → zany f n = true
  | 0, h, _ => by omega
  | n + 1, h, hf => by
    rcases Nat.lt_or_ge p n with q | q
    · simp [zany, zany_t q hf]
    · have : p = n := by omega
      subst this
      simp [zany, hf]
def zsb (S : ZS) (nS j s : Nat) : Bool := decide (¬ s = j) && decide (S 1 s 0 < S 0 s 0 + S 0 j 0 / nI (nS - 1))
theorem zsb_1 {S : ZS} {nS j : Nat} (h : nS ≤ 1) (hj : j < nS) : zany (zsb S nS j) nS = false := by
  have h1 : nS = 1 := by omega
  have h2 : j = 0 := by omega
  subst h1; subst h2
  simp [zany, zsb]
def zsh (S : ZS) (x : Int32) (p : Nat) : Bool := decide (S 3 p 0 = x) && decide (300 ≤ S 9 p 0)
def zrisk (S : ZS) (nS nP : Nat) (x y : Int32) : Int32 := if x = 1 then (if zany (zsb S nS y.toNatClampNeg) nS = true then 1 else 0) else if x = 2 ∨ x = 4 then (if zany (zsh S y) nP = true then 1 else 0) else 0
theorem z_not_le0 {x : Int32} (h : ¬ x ≤ 0) : ¬ x = 0 := fun q => h (by rw [q]; exact Int32.le_refl 0)
-- volts
def zvs (S : ZS) (p : Nat) (v : Int32) : Int32 := if 0 < v - v * S 10 p 0 / 100 - 1 then v - v * S 10 p 0 / 100 - 1 else 0
def zvl (S : ZS) (p : Nat) : Nat → Int32
  | 0 => S 9 p 0
  | m + 1 => if 0 < zvl S p m then zvs S p (zvl S p m) else zvl S p m
theorem zvl_stop {S : ZS} {p i : Nat} (h : ¬ 0 < zvl S p i) : ∀ k, zvl S p (i + k) = zvl S p i
  | 0 => rfl
  | k + 1 => by
    have ih := zvl_stop h k
    show zvl S p (i + k + 1) = _
    rw [zvl, ih, if_neg h]
def zff (f : Nat → Bool) : Nat → Nat → Nat
  | 0, k => k
  | d + 1, k => if f k then k else zff f d (k + 1)
def zfst (S : ZS) (p : Nat) : Nat := zff (fun k => decide (zvl S p k < 50)) 1000 0
theorem zff_le (f : Nat → Bool) : ∀ d k, zff f d k ≤ k + d
  | 0, k => Nat.le_refl _
  | d + 1, k => by
    unfold zff
    split
    · omega
    · have := zff_le f d (k + 1)
      omega
theorem zfst_le (S : ZS) (p : Nat) : zfst S p ≤ 1000 := by
  have := zff_le (fun k => decide (zvl S p k < 50)) 1000 0
  unfold zfst
  omega
def zmx (f : Nat → Nat) : Nat → Nat
  | 0 => 0
  | p + 1 => if zmx f p < f p then f p else zmx f p
theorem zmx_le {f : Nat → Nat} {b : Nat} (h : ∀ p, f p ≤ b) : ∀ n, zmx f n ≤ b
  | 0 => Nat.zero_le _
  | n + 1 => by
    unfold zmx
    split
    · exact h n
    · exact zmx_le h n
-- ways back
def zb1 (S : ZS) (i a : Nat) : Nat → Int64
  | 0 => (S 14 i 0).toInt64
  | d + 1 => zb1 S i a d * (S 0 (a + d) 0).toInt64
def zb2 : Nat → Int64
  | 0 => 100
  | d + 1 => zb2 d * 10
def zhw (S : ZS) (nS : Nat) : Nat → Int32
  | 0 => 0
  | i + 1 => if zb2 (nS - (S 12 i 0).toNatClampNeg) ≤ zb1 S i (S 12 i 0).toNatClampNeg (nS - (S 12 i 0).toNatClampNeg) then zhw S nS i ||| (1 <<< (S 13 i 0 &&& 31)) else zhw S nS i
-- age
def zgr (q a : Int32) : Int32 := if q * a / 10 < 999 then q * a / 10 else 999
def zgone (q a : Int32) : Nat → Int32
  | 0 => 1000000
  | y + 1 => zgone q a y - zgone q a y * zgr q (a + nI y) / 1000
set_option maxRecDepth 4000 in
theorem x_hasState {K : ZKh} {P : Nat → Nat → List Value → List Value → ZMi → ZMl → ZMr → ZRt → Prop} {I : ZMi} {L : ZMl} {R : ZMr} {Q : ZRt} (hP : ZCl K P) {w nS nP nW : Nat} {S : ZS} (hK : zKa K) (hR : zRa R) (hw : zisW w) (hC : zC I w S nS nP nW) (hp8 : nP ≤ 8) (hs6 : nS ≤ 6) (hw6 : nW ≤ 6) {x : Int32} (h : Q (some (.int (if zr x (2 ^ nP) then 1 else 0))) I L R) : P 48 0 [.ref w, .int x] [] I L R Q := by
  refine r_il hP c48_0 rfl ?_
  refine r_iflt hP c48_1 (fun h1 => ?_) (fun h1 => ?_)
  · refine r_ic hP c48_18 ?_
    exact r_zr0 hP c48_19 (by first | exact zr_no1 h1 | exact zr_no2 (Nat.lt_of_le_of_lt (zp256 hp8) (by decide)) h11 | exact zr_of1 (Nat.lt_of_le_of_lt (zp256 hp8) (by decide)) h1 h11) h
  · refine r_il hP c48_4 rfl ?_
    refine r_ic hP c48_5 ?_
    refine r_al hP c48_6 rfl ?_
    refine r_gI (x := nI nP) hP c48_7 (zj_W hK hw) (zC_p hC) ?_
    refine r_ishl hP c48_10 ?_
    refine r_ti (y := nI (2 ^ nP)) (zpow nP hp8) ?_
    refine r_ige hP c48_11 (fun h11 => ?_) (fun h11 => ?_)
    · refine r_ic hP c48_18 ?_
      exact r_zr0 hP c48_19 (by first | exact zr_no1 h1 | exact zr_no2 (Nat.lt_of_le_of_lt (zp256 hp8) (by decide)) h11 | exact zr_of1 (Nat.lt_of_le_of_lt (zp256 hp8) (by decide)) h1 h11) h
    · refine r_ic hP c48_14 ?_
      refine r_goto hP c48_15 ?_
      exact r_zr1 hP c48_19 (by first | exact zr_no1 h1 | exact zr_no2 (Nat.lt_of_le_of_lt (zp256 hp8) (by decide)) h11 | exact zr_of1 (Nat.lt_of_le_of_lt (zp256 hp8) (by decide)) h1 h11) h
set_option maxRecDepth 4000 in
theorem x_asksOf {K : ZKh} {P : Nat → Nat → List Value → List Value → ZMi → ZMl → ZMr → ZRt → Prop} {I : ZMi} {L : ZMl} {R : ZMr} {Q : ZRt} (hP : ZCl K P) {w nS nP nW : Nat} {S : ZS} (hK : zKa K) (hR : zRa R) (hw : zisW w) (hC : zC I w S nS nP nW) (hp8 : nP ≤ 8) (hs6 : nS ≤ 6) (hw6 : nW ≤ 6) {x : Int32} (h : Q (some (.int (nI (zak x nS nP)))) I L R) : P 50 0 [.ref w, .int x] [] I L R Q := by
  refine r_il hP c50_0 rfl ?_
  refine r_ifne hP c50_1 (fun h1 => ?_) (fun h1 => ?_)
  · refine r_il hP c50_6 rfl ?_
    refine r_ic hP c50_7 ?_
    refine r_ine hP c50_8 (fun h8 => ?_) (fun h8 => ?_)
    · refine r_al hP c50_18 rfl ?_
      refine r_gI (x := nI nS) hP c50_19 (zj_W hK hw) (zC_s hC) ?_
      exact r_irE hP c50_22 h (by first | (simp [zak, h1]; done) | (simp [zak, h1, h8]; done) | (rw [zak, if_pos h1]; rfl))
    · refine r_al hP c50_11 rfl ?_
      refine r_gI (x := nI nP) hP c50_12 (zj_W hK hw) (zC_p hC) ?_
      refine r_goto hP c50_15 ?_
      exact r_irE hP c50_22 h (by first | (simp [zak, h1]; done) | (simp [zak, h1, h8]; done) | (rw [zak, if_pos h1]; rfl))
  · refine r_ic hP c50_4 ?_
    exact r_irE hP c50_5 h (by first | (simp [zak, h1]; done) | (simp [zak, h1, h8]; done) | (rw [zak, if_pos h1]; rfl))
set_option maxRecDepth 4000 in
theorem x_hasAsk {K : ZKh} {P : Nat → Nat → List Value → List Value → ZMi → ZMl → ZMr → ZRt → Prop} {I : ZMi} {L : ZMl} {R : ZMr} {Q : ZRt} (hP : ZCl K P) {w nS nP nW : Nat} {S : ZS} (hK : zKa K) (hR : zRa R) (hw : zisW w) (hC : zC I w S nS nP nW) (hp8 : nP ≤ 8) (hs6 : nS ≤ 6) (hw6 : nW ≤ 6) {x y : Int32} (h : Q (some (.int (if (0 ≤ x ∧ x ≤ 4) ∧ zr y (zak x nS nP) then 1 else 0))) I L R) : P 49 0 [.ref w, .int x, .int y] [] I L R Q := by
  refine r_il hP c49_0 rfl ?_
  refine r_ic hP c49_1 ?_
  refine r_ic hP c49_2 ?_
  refine r_cSi (as := [.int x, .int 0, .int 4]) (r := []) (I' := I) (L' := L) (R' := R) (x := if 0 ≤ x ∧ x ≤ 4 then 1 else 0) hP c49_3 rfl rfl (fun _ h2 => x_within hP h2) ?_
  refine r_ifeqB hP c49_6 (fun h6 => ?_) (fun h6 => ?_)
  · refine r_ic hP c49_26 ?_
    exact r_zr0 hP c49_27 (by first | exact fun q => h6 q.1 | exact fun q => zr_no1 h10 q.2 | exact fun q => zr_no2 (by have := zak_b (x := x) hs6 hp8; omega) h19 q.2 | exact ⟨h6, zr_of1 (by have := zak_b (x := x) hs6 hp8; omega) h10 h19⟩) h
  · refine r_il hP c49_9 rfl ?_
    refine r_iflt hP c49_10 (fun h10 => ?_) (fun h10 => ?_)
    · refine r_ic hP c49_26 ?_
      exact r_zr0 hP c49_27 (by first | exact fun q => h6 q.1 | exact fun q => zr_no1 h10 q.2 | exact fun q => zr_no2 (by have := zak_b (x := x) hs6 hp8; omega) h19 q.2 | exact ⟨h6, zr_of1 (by have := zak_b (x := x) hs6 hp8; omega) h10 h19⟩) h
    · refine r_il hP c49_13 rfl ?_
      refine r_al hP c49_14 rfl ?_
      refine r_il hP c49_15 rfl ?_
      refine r_cVi (as := [.int x]) (r := [.int y]) (I' := I) (L' := L) (R' := R) (x := nI (zak x nS nP)) (a := w) hP c49_16 rfl (zj_W hK hw) rfl (fun _ h2 => x_asksOf hP hK hR hw hC hp8 hs6 hw6 h2) ?_
      refine r_ige hP c49_19 (fun h19 => ?_) (fun h19 => ?_)
      · refine r_ic hP c49_26 ?_
        exact r_zr0 hP c49_27 (by first | exact fun q => h6 q.1 | exact fun q => zr_no1 h10 q.2 | exact fun q => zr_no2 (by have := zak_b (x := x) hs6 hp8; omega) h19 q.2 | exact ⟨h6, zr_of1 (by have := zak_b (x := x) hs6 hp8; omega) h10 h19⟩) h
      · refine r_ic hP c49_22 ?_
        refine r_goto hP c49_23 ?_
        exact r_zr1 hP c49_27 (by first | exact fun q => h6 q.1 | exact fun q => zr_no1 h10 q.2 | exact fun q => zr_no2 (by have := zak_b (x := x) hs6 hp8; omega) h19 q.2 | exact ⟨h6, zr_of1 (by have := zak_b (x := x) hs6 hp8; omega) h10 h19⟩) h
set_option maxRecDepth 4000 in
theorem x_weightOf_l {K : ZKh} {P : Nat → Nat → List Value → List Value → ZMi → ZMl → ZMr → ZRt → Prop} {I : ZMi} {L : ZMl} {R : ZMr} {Q : ZRt} (hP : ZCl K P) {w nS nP nW : Nat} {S : ZS} (hK : zKa K) (hR : zRa R) (hw : zisW w) (hC : zC I w S nS nP nW) (hp8 : nP ≤ 8) (hs6 : nS ≤ 6) (hw6 : nW ≤ 6) {st : Nat} (hst : st < 256) (h : Q (some (.long (zwt S st nP))) I L R) : ∀ p, p ≤ nP → ∀ (acc : Int64) (v5 : Value), acc = zwt S st p → P 64 5 [.ref w, .int (nI st), .long acc, .null, .int (nI p), v5] [] I L R Q := by
  refine zloop nP (fun p => ∀ (acc : Int64) (v5 : Value), acc = zwt S st p → P 64 5 [.ref w, .int (nI st), .long acc, .null, .int (nI p), v5] [] I L R Q) ?_
  intro p hle ih acc v5 hacc
  refine r_il hP c64_5 rfl ?_
  refine r_al hP c64_7 rfl ?_
  refine r_gI (x := nI nP) hP c64_8 (zj_W hK hw) (zC_p hC) ?_
  refine r_ige hP c64_11 (fun h11 => ?_) (fun h11 => ?_)
  · have he : p = nP := Nat.le_antisymm hle ((nI_leI (by omega) (by omega)).mp h11)
    refine r_ll hP c64_56 rfl ?_
    exact r_lrE hP c64_57 h (by rw [hacc, he])
  · have hlt : p < nP := by
      rcases Nat.lt_or_ge p nP with q | q
      · exact q
      · exact absurd (nI_le q (by omega)) h11
    refine r_al hP c64_14 rfl ?_
    refine r_gR (x := w + 2) hP c64_15 (zj_W hK hw) (zr_pts hR hw) ?_
    refine r_il hP c64_18 rfl ?_
    refine r_aald (j := p) (x := w + 18 + 2 * p) hP c64_20 (zk_pts hK hw) rfl (by omega) (zr_prt hR hw (by omega)) ?_
    refine r_gI (x := S 6 p 0) hP c64_21 (zj_prt hK hw (by omega)) (zC_f hC (by omega) 4 (by decide) (by decide)) ?_
    refine r_is (ls' := [.ref w, .int (nI st), .long acc, .null, .int (nI p), .int (S 6 p 0)]) hP c64_24 (Nat.le_of_ble_eq_true rfl) rfl ?_
    refine r_ll hP c64_26 rfl ?_
    refine r_il hP c64_27 rfl ?_
    refine r_ic hP c64_28 ?_
    refine r_il hP c64_29 rfl ?_
    refine r_ishl hP c64_31 ?_
    refine r_iand hP c64_32 ?_
    refine r_ifeq hP c64_33 (fun h33 => ?_) (fun h33 => ?_)
    · have hb := (zbit_c st hst p (by omega)).mp h33
      refine r_ic hP c64_42 ?_
      refine r_il hP c64_44 rfl ?_
      refine r_isub hP c64_46 ?_
      refine r_i2l hP c64_47 ?_
      refine r_lmul hP c64_48 ?_
      refine r_ls (ls' := [.ref w, .int (nI st), .long (acc * ((10 - (S 6 p 0)).toInt64)), .null, .int (nI p), .int (S 6 p 0)]) hP c64_49 (Nat.le_of_ble_eq_true rfl) rfl ?_
      refine r_inc (y := nI (p + 1)) (ls' := [.ref w, .int (nI st), .long (acc * ((10 - (S 6 p 0)).toInt64)), .null, .int (nI (p + 1)), .int (S 6 p 0)]) hP c64_50 rfl (nI_1 _) rfl ?_
      refine r_goto hP c64_53 ?_
      exact ih hlt _ _ (by simp [zwt, hacc, hb])
    · have hb : st.testBit p = true := Classical.byContradiction (fun q => h33 ((zbit_c st hst p (by omega)).mpr q))
      refine r_il hP c64_36 rfl ?_
      refine r_i2l hP c64_38 ?_
      refine r_goto hP c64_39 ?_
      refine r_lmul hP c64_48 ?_
      refine r_ls (ls' := [.ref w, .int (nI st), .long (acc * ((S 6 p 0).toInt64)), .null, .int (nI p), .int (S 6 p 0)]) hP c64_49 (Nat.le_of_ble_eq_true rfl) rfl ?_
      refine r_inc (y := nI (p + 1)) (ls' := [.ref w, .int (nI st), .long (acc * ((S 6 p 0).toInt64)), .null, .int (nI (p + 1)), .int (S 6 p 0)]) hP c64_50 rfl (nI_1 _) rfl ?_
      refine r_goto hP c64_53 ?_
      exact ih hlt _ _ (by simp [zwt, hacc, hb])
set_option maxRecDepth 4000 in
theorem x_weightOf {K : ZKh} {P : Nat → Nat → List Value → List Value → ZMi → ZMl → ZMr → ZRt → Prop} {I : ZMi} {L : ZMl} {R : ZMr} {Q : ZRt} (hP : ZCl K P) {w nS nP nW : Nat} {S : ZS} (hK : zKa K) (hR : zRa R) (hw : zisW w) (hC : zC I w S nS nP nW) (hp8 : nP ≤ 8) (hs6 : nS ≤ 6) (hw6 : nW ≤ 6) {st : Nat} (hst : st < 256) (h : Q (some (.long (zwt S st nP))) I L R) : P 64 0 [.ref w, .int (nI st), .null, .null, .null, .null] [] I L R Q := by
  refine r_lc hP c64_0 ?_
  refine r_ls (ls' := [.ref w, .int (nI st), .long 1, .null, .null, .null]) hP c64_1 (Nat.le_of_ble_eq_true rfl) rfl ?_
  refine r_ic hP c64_2 ?_
  refine r_is (ls' := [.ref w, .int (nI st), .long 1, .null, .int 0, .null]) hP c64_3 (Nat.le_of_ble_eq_true rfl) rfl ?_
  exact x_weightOf_l hP hK hR hw hC hp8 hs6 hw6 hst h 0 (Nat.zero_le _) 1 _ rfl
set_option maxRecDepth 4000 in
theorem x_someHolds_l {K : ZKh} {P : Nat → Nat → List Value → List Value → ZMi → ZMl → ZMr → ZRt → Prop} {I : ZMi} {L : ZMl} {R : ZMr} {Q : ZRt} (hP : ZCl K P) {w nS nP nW : Nat} {S : ZS} (hK : zKa K) (hR : zRa R) (hw : zisW w) (hC : zC I w S nS nP nW) (hp8 : nP ≤ 8) (hs6 : nS ≤ 6) (hw6 : nW ≤ 6) {x : Int32} (h : Q (some (.int (if zany (zsh S x) nP = true then 1 else 0))) I L R) : ∀ p, p ≤ nP → ∀ (_u : Unit), zany (zsh S x) p = false → P 62 2 [.ref w, .int x, .int (nI p)] [] I L R Q := by
  refine zloop nP (fun p => ∀ (_u : Unit), zany (zsh S x) p = false → P 62 2 [.ref w, .int x, .int (nI p)] [] I L R Q) ?_
  intro p hle ih _u hacc
  refine r_il hP c62_2 rfl ?_
  refine r_al hP c62_3 rfl ?_
  refine r_gI (x := nI nP) hP c62_4 (zj_W hK hw) (zC_p hC) ?_
  refine r_ige hP c62_7 (fun h7 => ?_) (fun h7 => ?_)
  · have he : p = nP := Nat.le_antisymm hle ((nI_leI (by omega) (by omega)).mp h7)
    refine r_ic hP c62_46 ?_
    exact r_zr0 hP c62_47 (by first | (rw [he] at hacc; rw [hacc]; decide) | exact zany_t hlt (by simp [zsh, h20, Int32.not_lt.mp h35])) h
  · have hlt : p < nP := by
      rcases Nat.lt_or_ge p nP with q | q
      · exact q
      · exact absurd (nI_le q (by omega)) h7
    refine r_al hP c62_10 rfl ?_
    refine r_gR (x := w + 2) hP c62_11 (zj_W hK hw) (zr_pts hR hw) ?_
    refine r_il hP c62_14 rfl ?_
    refine r_aald (j := p) (x := w + 18 + 2 * p) hP c62_15 (zk_pts hK hw) rfl (by omega) (zr_prt hR hw (by omega)) ?_
    refine r_gI (x := S 3 p 0) hP c62_16 (zj_prt hK hw (by omega)) (zC_f hC (by omega) 1 (by decide) (by decide)) ?_
    refine r_il hP c62_19 rfl ?_
    refine r_ine hP c62_20 (fun h20 => ?_) (fun h20 => ?_)
    · refine r_inc (y := nI (p + 1)) (ls' := [.ref w, .int x, .int (nI (p + 1))]) hP c62_40 rfl (nI_1 _) rfl ?_
      refine r_goto hP c62_43 ?_
      exact ih hlt () (by first | (simp [zany, hacc, zsh, h20]; done) | (simp [zany, hacc, zsh, Int32.not_le.mpr h35]; done))
    · refine r_al hP c62_23 rfl ?_
      refine r_gR (x := w + 2) hP c62_24 (zj_W hK hw) (zr_pts hR hw) ?_
      refine r_il hP c62_27 rfl ?_
      refine r_aald (j := p) (x := w + 18 + 2 * p) hP c62_28 (zk_pts hK hw) rfl (by omega) (zr_prt hR hw (by omega)) ?_
      refine r_gI (x := S 9 p 0) hP c62_29 (zj_prt hK hw (by omega)) (zC_f hC (by omega) 7 (by decide) (by decide)) ?_
      refine r_ic hP c62_32 ?_
      refine r_ilt hP c62_35 (fun h35 => ?_) (fun h35 => ?_)
      · refine r_inc (y := nI (p + 1)) (ls' := [.ref w, .int x, .int (nI (p + 1))]) hP c62_40 rfl (nI_1 _) rfl ?_
        refine r_goto hP c62_43 ?_
        exact ih hlt () (by first | (simp [zany, hacc, zsh, h20]; done) | (simp [zany, hacc, zsh, Int32.not_le.mpr h35]; done))
      · refine r_ic hP c62_38 ?_
        exact r_zr1 hP c62_39 (by first | (rw [he] at hacc; rw [hacc]; decide) | exact zany_t hlt (by simp [zsh, h20, Int32.not_lt.mp h35])) h
set_option maxRecDepth 4000 in
theorem x_someHolds {K : ZKh} {P : Nat → Nat → List Value → List Value → ZMi → ZMl → ZMr → ZRt → Prop} {I : ZMi} {L : ZMl} {R : ZMr} {Q : ZRt} (hP : ZCl K P) {w nS nP nW : Nat} {S : ZS} (hK : zKa K) (hR : zRa R) (hw : zisW w) (hC : zC I w S nS nP nW) (hp8 : nP ≤ 8) (hs6 : nS ≤ 6) (hw6 : nW ≤ 6) {x : Int32} (h : Q (some (.int (if zany (zsh S x) nP = true then 1 else 0))) I L R) : P 62 0 [.ref w, .int x, .null] [] I L R Q := by
  refine r_ic hP c62_0 ?_
  refine r_is (ls' := [.ref w, .int x, .int 0]) hP c62_1 (Nat.le_of_ble_eq_true rfl) rfl ?_
  exact x_someHolds_l hP hK hR hw hC hp8 hs6 hw6 h 0 (Nat.zero_le _) () rfl
set_option maxRecDepth 4000 in
theorem x_someBears_l {K : ZKh} {P : Nat → Nat → List Value → List Value → ZMi → ZMl → ZMr → ZRt → Prop} {I : ZMi} {L : ZMl} {R : ZMr} {Q : ZRt} (hP : ZCl K P) {w nS nP nW : Nat} {S : ZS} (hK : zKa K) (hR : zRa R) (hw : zisW w) (hC : zC I w S nS nP nW) (hp8 : nP ≤ 8) (hs6 : nS ≤ 6) (hw6 : nW ≤ 6) {j : Nat} (hj : j < nS) (h : Q (some (.int (if zany (zsb S nS j) nS = true then 1 else 0))) I L R) : ∀ s, s ≤ nS → ∀ (_u : Unit), zany (zsb S nS j) s = false → P 61 36 [.ref w, .int (nI j), .int (nI (nS - 1)), .int (S 0 j 0 / nI (nS - 1)), .int (nI s)] [] I L R Q := by
  refine zloop nS (fun s => ∀ (_u : Unit), zany (zsb S nS j) s = false → P 61 36 [.ref w, .int (nI j), .int (nI (nS - 1)), .int (S 0 j 0 / nI (nS - 1)), .int (nI s)] [] I L R Q) ?_
  intro s hle ih _u hacc
  refine r_il hP c61_36 rfl ?_
  refine r_al hP c61_38 rfl ?_
  refine r_gI (x := nI nS) hP c61_39 (zj_W hK hw) (zC_s hC) ?_
  refine r_ige hP c61_42 (fun h42 => ?_) (fun h42 => ?_)
  · have he : s = nS := Nat.le_antisymm hle ((nI_leI (by omega) (by omega)).mp h42)
    refine r_ic hP c61_84 ?_
    exact r_zr0 hP c61_85 (by first | (rw [he] at hacc; rw [hacc]; decide) | exact zany_t hlt (by simp [zsb, hsj, Int32.not_le.mp h73])) h
  · have hlt : s < nS := by
      rcases Nat.lt_or_ge s nS with q | q
      · exact q
      · exact absurd (nI_le q (by omega)) h42
    refine r_il hP c61_45 rfl ?_
    refine r_il hP c61_47 rfl ?_
    refine r_ieq hP c61_48 (fun h48 => ?_) (fun h48 => ?_)
    · have hsj := (nI_eq (by omega) (by omega)).mp h48
      refine r_inc (y := nI (s + 1)) (ls' := [.ref w, .int (nI j), .int (nI (nS - 1)), .int (S 0 j 0 / nI (nS - 1)), .int (nI (s + 1))]) hP c61_78 rfl (nI_1 _) rfl ?_
      refine r_goto hP c61_81 ?_
      exact ih hlt () (by first | (subst hsj; simp [zany, hacc, zsb]; done) | (simp [zany, hacc, zsb, Int32.not_lt.mpr h73]; done))
    · have hsj : ¬ s = j := fun q => h48 (by rw [q])
      refine r_al hP c61_51 rfl ?_
      refine r_gR (x := w + 1) hP c61_52 (zj_W hK hw) (zr_sts hR hw) ?_
      refine r_il hP c61_55 rfl ?_
      refine r_aald (j := s) (x := w + 6 + 2 * s) hP c61_57 (zk_sts hK hw) rfl (by omega) (zr_stg hR hw (by omega)) ?_
      refine r_gI (x := S 0 s 0) hP c61_58 (zj_stg hK hw (by omega)) (zC_g hC (by omega)) ?_
      refine r_il hP c61_61 rfl ?_
      refine r_iadd hP c61_62 ?_
      refine r_al hP c61_63 rfl ?_
      refine r_gR (x := w + 1) hP c61_64 (zj_W hK hw) (zr_sts hR hw) ?_
      refine r_il hP c61_67 rfl ?_
      refine r_aald (j := s) (x := w + 6 + 2 * s) hP c61_69 (zk_sts hK hw) rfl (by omega) (zr_stg hR hw (by omega)) ?_
      refine r_gI (x := S 1 s 0) hP c61_70 (zj_stg hK hw (by omega)) (zC_b hC (by omega)) ?_
      refine r_ile hP c61_73 (fun h73 => ?_) (fun h73 => ?_)
      · refine r_inc (y := nI (s + 1)) (ls' := [.ref w, .int (nI j), .int (nI (nS - 1)), .int (S 0 j 0 / nI (nS - 1)), .int (nI (s + 1))]) hP c61_78 rfl (nI_1 _) rfl ?_
        refine r_goto hP c61_81 ?_
        exact ih hlt () (by first | (subst hsj; simp [zany, hacc, zsb]; done) | (simp [zany, hacc, zsb, Int32.not_lt.mpr h73]; done))
      · refine r_ic hP c61_76 ?_
        exact r_zr1 hP c61_77 (by first | (rw [he] at hacc; rw [hacc]; decide) | exact zany_t hlt (by simp [zsb, hsj, Int32.not_le.mp h73])) h
set_option maxRecDepth 4000 in
theorem x_someBears {K : ZKh} {P : Nat → Nat → List Value → List Value → ZMi → ZMl → ZMr → ZRt → Prop} {I : ZMi} {L : ZMl} {R : ZMr} {Q : ZRt} (hP : ZCl K P) {w nS nP nW : Nat} {S : ZS} (hK : zKa K) (hR : zRa R) (hw : zisW w) (hC : zC I w S nS nP nW) (hp8 : nP ≤ 8) (hs6 : nS ≤ 6) (hw6 : nW ≤ 6) {j : Nat} (hj : j < nS) (h : Q (some (.int (if zany (zsb S nS j) nS = true then 1 else 0))) I L R) : P 61 0 [.ref w, .int (nI j), .null, .null, .null] [] I L R Q := by
  refine r_al hP c61_0 rfl ?_
  refine r_gI (x := nI nS) hP c61_1 (zj_W hK hw) (zC_s hC) ?_
  refine r_ic hP c61_4 ?_
  refine r_isub hP c61_5 ?_
  refine r_ti (y := nI (nS - 1)) (pk_sub (b := 1) (by omega)) ?_
  refine r_is (ls' := [.ref w, .int (nI j), .int (nI (nS - 1)), .null, .null]) hP c61_6 (Nat.le_of_ble_eq_true rfl) rfl ?_
  refine r_il hP c61_7 rfl ?_
  refine r_ifle hP c61_8 (fun h8 => ?_) (fun h8 => ?_)
  · refine r_ic hP c61_19 ?_
    exact r_zr0 hP c61_20 (by have hq := (nI_leI (a := nS - 1) (b := 0) (by omega) (by omega)).mp h8; rw [zsb_1 (by omega) hj]; decide) h
  · refine r_al hP c61_11 rfl ?_
    refine r_il hP c61_12 rfl ?_
    refine r_cVi (as := [.int (nI j)]) (r := []) (I' := I) (L' := L) (R' := R) (x := if zr (nI j) nS then 1 else 0) (a := w) hP c61_13 rfl (zj_W hK hw) rfl (fun _ h2 => x_hasStage hP (zj_W hK hw) (zC_s hC) (by omega) h2) ?_
    refine r_ifneB hP c61_16 (fun h16 => ?_) (fun h16 => absurd h16 (not_not_intro (zr_nI hj (by omega))))
    refine r_al hP c61_21 rfl ?_
    refine r_gR (x := w + 1) hP c61_22 (zj_W hK hw) (zr_sts hR hw) ?_
    refine r_il hP c61_25 rfl ?_
    refine r_aald (j := j) (x := w + 6 + 2 * j) hP c61_26 (zk_sts hK hw) rfl (by omega) (zr_stg hR hw (by omega)) ?_
    refine r_gI (x := S 0 j 0) hP c61_27 (zj_stg hK hw (by omega)) (zC_g hC (by omega)) ?_
    refine r_il hP c61_30 rfl ?_
    refine r_idiv hP c61_31 (z_not_le0 h8) ?_
    refine r_is (ls' := [.ref w, .int (nI j), .int (nI (nS - 1)), .int ((S 0 j 0) / (nI (nS - 1))), .null]) hP c61_32 (Nat.le_of_ble_eq_true rfl) rfl ?_
    refine r_ic hP c61_33 ?_
    refine r_is (ls' := [.ref w, .int (nI j), .int (nI (nS - 1)), .int ((S 0 j 0) / (nI (nS - 1))), .int 0]) hP c61_34 (Nat.le_of_ble_eq_true rfl) rfl ?_
    exact x_someBears_l hP hK hR hw hC hp8 hs6 hw6 hj h 0 (Nat.zero_le _) () rfl
theorem x_someBearsY {K : ZKh} {P : Nat → Nat → List Value → List Value → ZMi → ZMl → ZMr → ZRt → Prop} {I : ZMi} {L : ZMl} {R : ZMr} {Q : ZRt} (hP : ZCl K P) {w nS nP nW : Nat} {S : ZS} (hK : zKa K) (hR : zRa R) (hw : zisW w) (hC : zC I w S nS nP nW) (hp8 : nP ≤ 8) (hs6 : nS ≤ 6) (hw6 : nW ≤ 6) {y : Int32} (hy : zr y nS) (h : Q (some (.int (if zany (zsb S nS y.toNatClampNeg) nS = true then 1 else 0))) I L R) : P 61 0 [.ref w, .int y, .null, .null, .null] [] I L R Q := by
  obtain ⟨j, hj, rfl⟩ := (zr_iff (by omega)).mp hy
  rw [nI_clamp (by omega)] at h
  exact x_someBears hP hK hR hw hC hp8 hs6 hw6 hj h
set_option maxRecDepth 4000 in
theorem x_riskOf {K : ZKh} {P : Nat → Nat → List Value → List Value → ZMi → ZMl → ZMr → ZRt → Prop} {I : ZMi} {L : ZMl} {R : ZMr} {Q : ZRt} (hP : ZCl K P) {w nS nP nW : Nat} {S : ZS} (hK : zKa K) (hR : zRa R) (hw : zisW w) (hC : zC I w S nS nP nW) (hp8 : nP ≤ 8) (hs6 : nS ≤ 6) (hw6 : nW ≤ 6) {x y : Int32} (hy : x = 1 → zr y nS) (h : Q (some (.int (zrisk S nS nP x y))) I L R) : P 60 0 [.ref w, .int x, .int y] [] I L R Q := by
  refine r_il hP c60_0 rfl ?_
  refine r_ic hP c60_1 ?_
  refine r_ine hP c60_2 (fun h2 => ?_) (fun h2 => ?_)
  · refine r_il hP c60_19 rfl ?_
    refine r_ic hP c60_20 ?_
    refine r_ieq hP c60_21 (fun h21 => ?_) (fun h21 => ?_)
    · refine r_al hP c60_29 rfl ?_
      refine r_il hP c60_30 rfl ?_
      refine r_cVi (as := [.int y]) (r := []) (I' := I) (L' := L) (R' := R) (x := if zany (zsh S y) nP = true then 1 else 0) (a := w) hP c60_31 rfl (zj_W hK hw) rfl (fun _ hq => x_someHolds hP hK hR hw hC hp8 hs6 hw6 hq) ?_
      refine r_ifeqB hP c60_34 (fun h34 => ?_) (fun h34 => ?_)
      · refine r_ic hP c60_41 ?_
        exact r_irE hP c60_42 h (by first | (simp [zrisk, h2, h10]; done) | (simp [zrisk, h2, h21, h34]; done) | (simp [zrisk, h2, h26, h34]; done) | (simp [zrisk, h2, h21, h26]; done))
      · refine r_ic hP c60_37 ?_
        refine r_goto hP c60_38 ?_
        exact r_irE hP c60_42 h (by first | (simp [zrisk, h2, h10]; done) | (simp [zrisk, h2, h21, h34]; done) | (simp [zrisk, h2, h26, h34]; done) | (simp [zrisk, h2, h21, h26]; done))
    · refine r_il hP c60_24 rfl ?_
      refine r_ic hP c60_25 ?_
      refine r_ine hP c60_26 (fun h26 => ?_) (fun h26 => ?_)
      · refine r_ic hP c60_43 ?_
        exact r_irE hP c60_44 h (by first | (simp [zrisk, h2, h10]; done) | (simp [zrisk, h2, h21, h34]; done) | (simp [zrisk, h2, h26, h34]; done) | (simp [zrisk, h2, h21, h26]; done))
      · refine r_al hP c60_29 rfl ?_
        refine r_il hP c60_30 rfl ?_
        refine r_cVi (as := [.int y]) (r := []) (I' := I) (L' := L) (R' := R) (x := if zany (zsh S y) nP = true then 1 else 0) (a := w) hP c60_31 rfl (zj_W hK hw) rfl (fun _ hq => x_someHolds hP hK hR hw hC hp8 hs6 hw6 hq) ?_
        refine r_ifeqB hP c60_34 (fun h34 => ?_) (fun h34 => ?_)
        · refine r_ic hP c60_41 ?_
          exact r_irE hP c60_42 h (by first | (simp [zrisk, h2, h10]; done) | (simp [zrisk, h2, h21, h34]; done) | (simp [zrisk, h2, h26, h34]; done) | (simp [zrisk, h2, h21, h26]; done))
        · refine r_ic hP c60_37 ?_
          refine r_goto hP c60_38 ?_
          exact r_irE hP c60_42 h (by first | (simp [zrisk, h2, h10]; done) | (simp [zrisk, h2, h21, h34]; done) | (simp [zrisk, h2, h26, h34]; done) | (simp [zrisk, h2, h21, h26]; done))
  · refine r_al hP c60_5 rfl ?_
    refine r_il hP c60_6 rfl ?_
    refine r_cVi (as := [.int y]) (r := []) (I' := I) (L' := L) (R' := R) (x := if zany (zsb S nS y.toNatClampNeg) nS = true then 1 else 0) (a := w) hP c60_7 rfl (zj_W hK hw) rfl (fun _ hq => x_someBearsY hP hK hR hw hC hp8 hs6 hw6 (hy (by first | exact Or.inl h2 | exact h2)) hq) ?_
    refine r_ifeqB hP c60_10 (fun h10 => ?_) (fun h10 => ?_)
    · refine r_ic hP c60_17 ?_
      exact r_irE hP c60_18 h (by first | (simp [zrisk, h2, h10]; done) | (simp [zrisk, h2, h21, h34]; done) | (simp [zrisk, h2, h26, h34]; done) | (simp [zrisk, h2, h21, h26]; done))
    · refine r_ic hP c60_13 ?_
      refine r_goto hP c60_14 ?_
      exact r_irE hP c60_18 h (by first | (simp [zrisk, h2, h10]; done) | (simp [zrisk, h2, h21, h34]; done) | (simp [zrisk, h2, h26, h34]; done) | (simp [zrisk, h2, h21, h26]; done))
set_option maxRecDepth 4000 in
theorem x_voltsLess {K : ZKh} {P : Nat → Nat → List Value → List Value → ZMi → ZMl → ZMr → ZRt → Prop} {I : ZMi} {L : ZMl} {R : ZMr} {Q : ZRt} (hP : ZCl K P) {w nS nP nW : Nat} {S : ZS} (hK : zKa K) (hR : zRa R) (hw : zisW w) (hC : zC I w S nS nP nW) (hp8 : nP ≤ 8) (hs6 : nS ≤ 6) (hw6 : nW ≤ 6) {p : Nat} (hp : p < nP) {x : Int32} (h : Q (some (.int (zvs S p x))) I L R) : P 18 0 [.ref (w + 18 + 2 * p), .int x] [] I L R Q := by
  refine r_ic hP c18_0 ?_
  refine r_il hP c18_1 rfl ?_
  refine r_il hP c18_2 rfl ?_
  refine r_al hP c18_3 rfl ?_
  refine r_gI (x := S 10 p 0) hP c18_4 (zj_prt hK hw (by omega)) (zC_f hC (by omega) 8 (by decide) (by decide)) ?_
  refine r_imul hP c18_7 ?_
  refine r_ic hP c18_8 ?_
  refine r_idiv hP c18_10 (by decide) ?_
  refine r_isub hP c18_11 ?_
  refine r_ic hP c18_12 ?_
  refine r_isub hP c18_13 ?_
  refine r_mmax hP c18_14 rfl ?_
  exact r_irE hP c18_17 h (by rfl)
set_option maxRecDepth 4000 in
theorem x_voltsAfter_l {K : ZKh} {P : Nat → Nat → List Value → List Value → ZMi → ZMl → ZMr → ZRt → Prop} {I : ZMi} {L : ZMl} {R : ZMr} {Q : ZRt} (hP : ZCl K P) {w nS nP nW : Nat} {S : ZS} (hK : zKa K) (hR : zRa R) (hw : zisW w) (hC : zC I w S nS nP nW) (hp8 : nP ≤ 8) (hs6 : nS ≤ 6) (hw6 : nW ≤ 6) {p : Nat} (hp : p < nP) {n : Nat} (hn : n ≤ 999) (h : Q (some (.int (zvl S p n))) I L R) : ∀ i, i ≤ n → ∀ (acc : Int32), acc = zvl S p i → P 19 7 [.ref (w + 18 + 2 * p), .int (nI n), .int acc, .int (nI i)] [] I L R Q := by
  refine zloop n (fun i => ∀ (acc : Int32), acc = zvl S p i → P 19 7 [.ref (w + 18 + 2 * p), .int (nI n), .int acc, .int (nI i)] [] I L R Q) ?_
  intro i hle ih acc hacc
  refine r_il hP c19_7 rfl ?_
  refine r_il hP c19_8 rfl ?_
  refine r_ige hP c19_9 (fun h9 => ?_) (fun h9 => ?_)
  · have he : i = n := Nat.le_antisymm hle ((nI_leI (by omega) (by omega)).mp h9)
    refine r_il hP c19_28 rfl ?_
    exact r_irE hP c19_29 h (by first | (rw [hacc, he]; done) | (have hz := zvl_stop (S := S) (p := p) (i := i) (by rw [← hacc]; exact fun q => absurd h13 (Int32.not_le.mpr q)) (n - i); rw [Nat.add_sub_cancel' hle] at hz; rw [hacc, hz]))
  · have hlt : i < n := by
      rcases Nat.lt_or_ge i n with q | q
      · exact q
      · exact absurd (nI_le q (by omega)) h9
    refine r_il hP c19_12 rfl ?_
    refine r_ifle hP c19_13 (fun h13 => ?_) (fun h13 => ?_)
    · refine r_il hP c19_28 rfl ?_
      exact r_irE hP c19_29 h (by first | (rw [hacc, he]; done) | (have hz := zvl_stop (S := S) (p := p) (i := i) (by rw [← hacc]; exact fun q => absurd h13 (Int32.not_le.mpr q)) (n - i); rw [Nat.add_sub_cancel' hle] at hz; rw [hacc, hz]))
    · refine r_al hP c19_16 rfl ?_
      refine r_il hP c19_17 rfl ?_
      refine r_cVi (as := [.int acc]) (r := []) (I' := I) (L' := L) (R' := R) (x := zvs S p acc) (a := (w + 18 + 2 * p)) hP c19_18 rfl (zj_prt hK hw (by omega)) rfl (fun _ hq => x_voltsLess hP hK hR hw hC hp8 hs6 hw6 hp hq) ?_
      refine r_is (ls' := [.ref (w + 18 + 2 * p), .int (nI n), .int (zvs S p acc), .int (nI i)]) hP c19_21 (Nat.le_of_ble_eq_true rfl) rfl ?_
      refine r_inc (y := nI (i + 1)) (ls' := [.ref (w + 18 + 2 * p), .int (nI n), .int (zvs S p acc), .int (nI (i + 1))]) hP c19_22 rfl (nI_1 _) rfl ?_
      refine r_goto hP c19_25 ?_
      exact ih hlt _ (by rw [hacc, zvl, if_pos (by rw [← hacc]; exact Int32.not_le.mp h13)])
set_option maxRecDepth 4000 in
theorem x_voltsAfter {K : ZKh} {P : Nat → Nat → List Value → List Value → ZMi → ZMl → ZMr → ZRt → Prop} {I : ZMi} {L : ZMl} {R : ZMr} {Q : ZRt} (hP : ZCl K P) {w nS nP nW : Nat} {S : ZS} (hK : zKa K) (hR : zRa R) (hw : zisW w) (hC : zC I w S nS nP nW) (hp8 : nP ≤ 8) (hs6 : nS ≤ 6) (hw6 : nW ≤ 6) {p : Nat} (hp : p < nP) {n : Nat} (hn : n ≤ 999) (h : Q (some (.int (zvl S p n))) I L R) : P 19 0 [.ref (w + 18 + 2 * p), .int (nI n), .null, .null] [] I L R Q := by
  refine r_al hP c19_0 rfl ?_
  refine r_gI (x := S 9 p 0) hP c19_1 (zj_prt hK hw (by omega)) (zC_f hC (by omega) 7 (by decide) (by decide)) ?_
  refine r_is (ls' := [.ref (w + 18 + 2 * p), .int (nI n), .int (S 9 p 0), .null]) hP c19_4 (Nat.le_of_ble_eq_true rfl) rfl ?_
  refine r_ic hP c19_5 ?_
  refine r_is (ls' := [.ref (w + 18 + 2 * p), .int (nI n), .int (S 9 p 0), .int 0]) hP c19_6 (Nat.le_of_ble_eq_true rfl) rfl ?_
  exact x_voltsAfter_l hP hK hR hw hC hp8 hs6 hw6 hp hn h 0 (Nat.zero_le _) _ rfl
set_option maxRecDepth 4000 in
theorem x_minute_l {K : ZKh} {P : Nat → Nat → List Value → List Value → ZMi → ZMl → ZMr → ZRt → Prop} {I : ZMi} {L : ZMl} {R : ZMr} {Q : ZRt} (hP : ZCl K P) {w nS nP nW : Nat} {S : ZS} (hK : zKa K) (hR : zRa R) (hw : zisW w) (hC : zC I w S nS nP nW) (hp8 : nP ≤ 8) (hs6 : nS ≤ 6) (hw6 : nW ≤ 6) {p : Nat} (hp : p < nP) (h : Q (some (.int (nI (zfst S p)))) I L R) : ∀ i, i ≤ 1000 → ∀ (acc : Int32), acc = zvl S p i ∧ zff (fun k => decide (zvl S p k < 50)) 1000 0 = zff (fun k => decide (zvl S p k < 50)) (1000 - i) i → P 20 7 [.ref (w + 18 + 2 * p), .int acc, .int (nI i)] [] I L R Q := by
  refine zloop 1000 (fun i => ∀ (acc : Int32), acc = zvl S p i ∧ zff (fun k => decide (zvl S p k < 50)) 1000 0 = zff (fun k => decide (zvl S p k < 50)) (1000 - i) i → P 20 7 [.ref (w + 18 + 2 * p), .int acc, .int (nI i)] [] I L R Q) ?_
  intro i hle ih acc hacc
  refine r_il hP c20_7 rfl ?_
  refine r_ic hP c20_8 ?_
  refine r_igt hP c20_11 (fun h11 => ?_) (fun h11 => ?_)
  · refine r_il hP c20_32 rfl ?_
    exact r_irE hP c20_33 h (by first | (have hq := (nI_ltI (a := 999) (b := i) (by omega) (by omega)).mp h11; have hi : i = 1000 := (by omega); rw [zfst, hacc.2, hi]; rfl) | (have hq := (not_congr (nI_ltI (a := 999) (b := i) (by omega) (by omega))).mp h11; rw [zfst, hacc.2, show 1000 - i = 1000 - (i + 1) + 1 from (by omega), zff, if_pos (by rw [decide_eq_true_eq, ← hacc.1]; exact h17)]))
  · refine r_il hP c20_14 rfl ?_
    refine r_ic hP c20_15 ?_
    refine r_ilt hP c20_17 (fun h17 => ?_) (fun h17 => ?_)
    · refine r_il hP c20_32 rfl ?_
      exact r_irE hP c20_33 h (by first | (have hq := (nI_ltI (a := 999) (b := i) (by omega) (by omega)).mp h11; have hi : i = 1000 := (by omega); rw [zfst, hacc.2, hi]; rfl) | (have hq := (not_congr (nI_ltI (a := 999) (b := i) (by omega) (by omega))).mp h11; rw [zfst, hacc.2, show 1000 - i = 1000 - (i + 1) + 1 from (by omega), zff, if_pos (by rw [decide_eq_true_eq, ← hacc.1]; exact h17)]))
    · refine r_al hP c20_20 rfl ?_
      refine r_il hP c20_21 rfl ?_
      refine r_cVi (as := [.int acc]) (r := []) (I' := I) (L' := L) (R' := R) (x := zvs S p acc) (a := (w + 18 + 2 * p)) hP c20_22 rfl (zj_prt hK hw (by omega)) rfl (fun _ hq => x_voltsLess hP hK hR hw hC hp8 hs6 hw6 hp hq) ?_
      refine r_is (ls' := [.ref (w + 18 + 2 * p), .int (zvs S p acc), .int (nI i)]) hP c20_25 (Nat.le_of_ble_eq_true rfl) rfl ?_
      refine r_inc (y := nI (i + 1)) (ls' := [.ref (w + 18 + 2 * p), .int (zvs S p acc), .int (nI (i + 1))]) hP c20_26 rfl (nI_1 _) rfl ?_
      refine r_goto hP c20_29 ?_
      refine ih (by have := (not_congr (nI_ltI (a := 999) (b := i) (by omega) (by omega))).mp h11; omega) _ ⟨?_, ?_⟩
      · have hpos : 0 < zvl S p i := by
          rw [← hacc.1]
          have h50 := Int32.not_lt.mp h17
          rw [z_le] at h50
          rw [z_lt]
          have e1 : (50 : Int32).toInt = 50 := rfl
          have e2 : (0 : Int32).toInt = 0 := rfl
          omega
        rw [hacc.1, zvl, if_pos hpos]
      · have hq := (not_congr (nI_ltI (a := 999) (b := i) (by omega) (by omega))).mp h11
        rw [hacc.2, show 1000 - i = 1000 - (i + 1) + 1 from (by omega), zff, if_neg (by rw [decide_eq_true_eq, ← hacc.1]; exact h17)]
set_option maxRecDepth 4000 in
theorem x_minute {K : ZKh} {P : Nat → Nat → List Value → List Value → ZMi → ZMl → ZMr → ZRt → Prop} {I : ZMi} {L : ZMl} {R : ZMr} {Q : ZRt} (hP : ZCl K P) {w nS nP nW : Nat} {S : ZS} (hK : zKa K) (hR : zRa R) (hw : zisW w) (hC : zC I w S nS nP nW) (hp8 : nP ≤ 8) (hs6 : nS ≤ 6) (hw6 : nW ≤ 6) {p : Nat} (hp : p < nP) (h : Q (some (.int (nI (zfst S p)))) I L R) : P 20 0 [.ref (w + 18 + 2 * p), .null, .null] [] I L R Q := by
  refine r_al hP c20_0 rfl ?_
  refine r_gI (x := S 9 p 0) hP c20_1 (zj_prt hK hw (by omega)) (zC_f hC (by omega) 7 (by decide) (by decide)) ?_
  refine r_is (ls' := [.ref (w + 18 + 2 * p), .int (S 9 p 0), .null]) hP c20_4 (Nat.le_of_ble_eq_true rfl) rfl ?_
  refine r_ic hP c20_5 ?_
  refine r_is (ls' := [.ref (w + 18 + 2 * p), .int (S 9 p 0), .int 0]) hP c20_6 (Nat.le_of_ble_eq_true rfl) rfl ?_
  exact x_minute_l hP hK hR hw hC hp8 hs6 hw6 hp h 0 (Nat.zero_le _) _ ⟨rfl, rfl⟩
set_option maxRecDepth 4000 in
theorem x_noShock_l {K : ZKh} {P : Nat → Nat → List Value → List Value → ZMi → ZMl → ZMr → ZRt → Prop} {I : ZMi} {L : ZMl} {R : ZMr} {Q : ZRt} (hP : ZCl K P) {w nS nP nW : Nat} {S : ZS} (hK : zKa K) (hR : zRa R) (hw : zisW w) (hC : zC I w S nS nP nW) (hp8 : nP ≤ 8) (hs6 : nS ≤ 6) (hw6 : nW ≤ 6) (h : Q (some (.int (if zmx (zfst S) nP ≤ 999 then nI (zmx (zfst S) nP) else -4))) I L R) : ∀ p, p ≤ nP → ∀ (acc : Int32), acc = nI (zmx (zfst S) p) → P 63 4 [.ref w, .int acc, .int (nI p)] [] I L R Q := by
  refine zloop nP (fun p => ∀ (acc : Int32), acc = nI (zmx (zfst S) p) → P 63 4 [.ref w, .int acc, .int (nI p)] [] I L R Q) ?_
  intro p hle ih acc hacc
  refine r_il hP c63_4 rfl ?_
  refine r_al hP c63_5 rfl ?_
  refine r_gI (x := nI nP) hP c63_6 (zj_W hK hw) (zC_p hC) ?_
  refine r_ige hP c63_9 (fun h9 => ?_) (fun h9 => ?_)
  · have he : p = nP := Nat.le_antisymm hle ((nI_leI (by omega) (by omega)).mp h9)
    refine r_il hP c63_32 rfl ?_
    refine r_ic hP c63_33 ?_
    refine r_igt hP c63_36 (fun h36 => ?_) (fun h36 => ?_)
    · refine r_ic hP c63_43 ?_
      exact r_irE hP c63_45 h (by subst he; subst hacc; have hb1 := zmx_le (zfst_le S) p; first | (rw [if_pos (by have := (not_congr (nI_ltI (a := 999) (b := zmx (zfst S) p) (by omega) (by omega))).mp h36; omega)]; done) | (rw [if_neg (by have := (nI_ltI (a := 999) (b := zmx (zfst S) p) (by omega) (by omega)).mp h36; omega)]; done))
    · refine r_il hP c63_39 rfl ?_
      refine r_goto hP c63_40 ?_
      exact r_irE hP c63_45 h (by subst he; subst hacc; have hb1 := zmx_le (zfst_le S) p; first | (rw [if_pos (by have := (not_congr (nI_ltI (a := 999) (b := zmx (zfst S) p) (by omega) (by omega))).mp h36; omega)]; done) | (rw [if_neg (by have := (nI_ltI (a := 999) (b := zmx (zfst S) p) (by omega) (by omega)).mp h36; omega)]; done))
  · have hlt : p < nP := by
      rcases Nat.lt_or_ge p nP with q | q
      · exact q
      · exact absurd (nI_le q (by omega)) h9
    refine r_il hP c63_12 rfl ?_
    refine r_al hP c63_13 rfl ?_
    refine r_gR (x := w + 2) hP c63_14 (zj_W hK hw) (zr_pts hR hw) ?_
    refine r_il hP c63_17 rfl ?_
    refine r_aald (j := p) (x := w + 18 + 2 * p) hP c63_18 (zk_pts hK hw) rfl (by omega) (zr_prt hR hw (by omega)) ?_
    refine r_cVi (as := []) (r := [.int acc]) (I' := I) (L' := L) (R' := R) (x := nI (zfst S p)) (a := (w + 18 + 2 * p)) hP c63_19 rfl (zj_prt hK hw (by omega)) rfl (fun _ hq => x_minute hP hK hR hw hC hp8 hs6 hw6 hlt hq) ?_
    refine r_mmax hP c63_22 rfl ?_
    refine r_is (ls' := [.ref w, .int (if acc < nI (zfst S p) then nI (zfst S p) else acc), .int (nI p)]) hP c63_25 (Nat.le_of_ble_eq_true rfl) rfl ?_
    refine r_inc (y := nI (p + 1)) (ls' := [.ref w, .int (if acc < nI (zfst S p) then nI (zfst S p) else acc), .int (nI (p + 1))]) hP c63_26 rfl (nI_1 _) rfl ?_
    refine r_goto hP c63_29 ?_
    exact ih hlt _ (by
      have hb1 := zmx_le (zfst_le S) p; have hb2 := zfst_le S p
      rw [hacc, zmx]
      by_cases hq : zmx (zfst S) p < zfst S p
      · rw [if_pos hq, if_pos ((nI_ltI (by omega) (by omega)).mpr hq)]
      · rw [if_neg hq, if_neg (fun z => hq ((nI_ltI (by omega) (by omega)).mp z))])
set_option maxRecDepth 4000 in
theorem x_noShock {K : ZKh} {P : Nat → Nat → List Value → List Value → ZMi → ZMl → ZMr → ZRt → Prop} {I : ZMi} {L : ZMl} {R : ZMr} {Q : ZRt} (hP : ZCl K P) {w nS nP nW : Nat} {S : ZS} (hK : zKa K) (hR : zRa R) (hw : zisW w) (hC : zC I w S nS nP nW) (hp8 : nP ≤ 8) (hs6 : nS ≤ 6) (hw6 : nW ≤ 6) (h : Q (some (.int (if zmx (zfst S) nP ≤ 999 then nI (zmx (zfst S) nP) else -4))) I L R) : P 63 0 [.ref w, .null, .null] [] I L R Q := by
  refine r_ic hP c63_0 ?_
  refine r_is (ls' := [.ref w, .int 0, .null]) hP c63_1 (Nat.le_of_ble_eq_true rfl) rfl ?_
  refine r_ic hP c63_2 ?_
  refine r_is (ls' := [.ref w, .int 0, .int 0]) hP c63_3 (Nat.le_of_ble_eq_true rfl) rfl ?_
  exact x_noShock_l hP hK hR hw hC hp8 hs6 hw6 h 0 (Nat.zero_le _) 0 rfl
