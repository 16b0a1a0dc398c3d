/-! ===== what a set is, as both sides hold it ===== -/
/-- a loop over numbers up to n -/
theorem zloop (n : Nat) (W : Nat → Prop) (hs : ∀ p, p ≤ n → (p < n → W (p + 1)) → W p) : ∀ p, p ≤ n → W p := by
  have key : ∀ d p, p + d = n → W p := by
    intro d
    induction d with
    | zero => intro p hp; exact hs p (by omega) (fun h => by omega)
    | succ d ih => intro p hp; exact hs p (by omega) (fun _ => ih (p + 1) (by omega))
  intro p hp
  exact key (n - p) p (by omega)
/-- S: 0 gain, 1 bears, 2 mains, 3 stage, 4 kind, 5 age, 6 trouble, 7 warm, 8 cost, 9 volts, 10 loss, 11 lets, 12 to 14 a way's stage, tone, hundredths, 15 ears, 16 yearly -/
abbrev ZS : Type := Nat → Nat → Nat → Int32
def zC (I : ZMi) (w : Nat) (S : ZS) (nS nP nW : Nat) : Prop :=
  I w 5 = nI nS ∧ I w 6 = nI nP ∧ I w 7 = nI nW ∧ (∀ s, s < nS → I (w + 6 + 2 * s) 1 = S 0 s 0 ∧ I (w + 6 + 2 * s) 2 = S 1 s 0 ∧ ∀ t, t < 3 → I (w + 7 + 2 * s) t = S 2 s t) ∧
  (∀ p, p < nP → (∀ j, 1 ≤ j → j ≤ 8 → I (w + 18 + 2 * p) j = S (j + 2) p 0) ∧ ∀ t, t < 3 → I (w + 19 + 2 * p) t = S 11 p t) ∧ (∀ i, i < nW → ∀ j, j < 3 → I (w + 34 + i) j = S (12 + j) i 0) ∧ (∀ t, t < 3 → I (w + 4) t = S 15 t 0) ∧ ∀ k, k < 5 → I (w + 5) k = S 16 k 0
/-- the model's book b -/
def zD (I : ZMi) (b : Nat) (S : ZS) (nS nP nW : Nat) : Prop :=
  I 121 b = nI nS ∧ I 124 b = nI nP ∧ I 137 b = nI nW ∧ (∀ s, s < nS → I 122 (6 * b + s) = S 0 s 0 ∧ I 123 (6 * b + s) = S 1 s 0 ∧ ∀ t, t < 3 → I 136 (18 * b + 3 * s + t) = S 2 s t) ∧
  (∀ p, p < nP → (∀ j, 1 ≤ j → j ≤ 8 → I (124 + j) (8 * b + p) = S (j + 2) p 0) ∧ ∀ t, t < 3 → I 134 (24 * b + 3 * p + t) = S 11 p t) ∧ (∀ i, i < nW → ∀ j, j < 3 → I (138 + j) (6 * b + i) = S (12 + j) i 0) ∧ (∀ t, t < 3 → I 141 (3 * b + t) = S 15 t 0) ∧ ∀ k, k < 5 → I 142 (5 * b + k) = S 16 k 0
theorem zC_s {I : ZMi} {w : Nat} {S : ZS} {nS nP nW : Nat} (h : zC I w S nS nP nW) : I w 5 = nI nS := h.1
theorem zC_p {I : ZMi} {w : Nat} {S : ZS} {nS nP nW : Nat} (h : zC I w S nS nP nW) : I w 6 = nI nP := h.2.1
theorem zC_w {I : ZMi} {w : Nat} {S : ZS} {nS nP nW : Nat} (h : zC I w S nS nP nW) : I w 7 = nI nW := h.2.2.1
theorem zC_g {I : ZMi} {w : Nat} {S : ZS} {nS nP nW : Nat} (h : zC I w S nS nP nW) {s : Nat} (hs : s < nS) : I (w + 6 + 2 * s) 1 = S 0 s 0 := (h.2.2.2.1 s hs).1
theorem zC_b {I : ZMi} {w : Nat} {S : ZS} {nS nP nW : Nat} (h : zC I w S nS nP nW) {s : Nat} (hs : s < nS) : I (w + 6 + 2 * s) 2 = S 1 s 0 := (h.2.2.2.1 s hs).2.1
theorem zC_m {I : ZMi} {w : Nat} {S : ZS} {nS nP nW : Nat} (h : zC I w S nS nP nW) {s t : Nat} (hs : s < nS) (ht : t < 3) : I (w + 7 + 2 * s) t = S 2 s t := (h.2.2.2.1 s hs).2.2 t ht
theorem zC_f {I : ZMi} {w : Nat} {S : ZS} {nS nP nW : Nat} (h : zC I w S nS nP nW) {p : Nat} (hp : p < nP) (j : Nat) (h1 : 1 ≤ j) (h2 : j ≤ 8) : I (w + 18 + 2 * p) j = S (j + 2) p 0 := (h.2.2.2.2.1 p hp).1 j h1 h2
theorem zC_l {I : ZMi} {w : Nat} {S : ZS} {nS nP nW : Nat} (h : zC I w S nS nP nW) {p t : Nat} (hp : p < nP) (ht : t < 3) : I (w + 19 + 2 * p) t = S 11 p t := (h.2.2.2.2.1 p hp).2 t ht
theorem zC_y {I : ZMi} {w : Nat} {S : ZS} {nS nP nW : Nat} (h : zC I w S nS nP nW) {i : Nat} (hi : i < nW) (j : Nat) (hj : j < 3) : I (w + 34 + i) j = S (12 + j) i 0 := h.2.2.2.2.2.1 i hi j hj
theorem zC_e {I : ZMi} {w : Nat} {S : ZS} {nS nP nW : Nat} (h : zC I w S nS nP nW) {t : Nat} (ht : t < 3) : I (w + 4) t = S 15 t 0 := h.2.2.2.2.2.2.1 t ht
theorem zC_k {I : ZMi} {w : Nat} {S : ZS} {nS nP nW : Nat} (h : zC I w S nS nP nW) {k : Nat} (hk : k < 5) : I (w + 5) k = S 16 k 0 := h.2.2.2.2.2.2.2 k hk
-- bits
theorem zbit_c : ∀ st, st < 256 → ∀ p, p < 8 → ((nI st &&& (1 <<< (nI p &&& 31)) = 0) ↔ ¬ st.testBit p) := by decide +kernel
theorem zbit_m : ∀ st, st < 256 → ∀ p, p < 8 → (((nI st >>> (nI p &&& 31)) &&& 1 = 1) ↔ st.testBit p) := by decide +kernel
theorem zpow : ∀ n, n ≤ 8 → ((1 : Int32) <<< (nI n &&& 31)) = nI (2 ^ n) := by decide +kernel
-- weights and costs
def zwt (S : ZS) (st : Nat) : Nat → Int64
  | 0 => 1
  | p + 1 => zwt S st p * (if st.testBit p then S 6 p 0 else 10 - S 6 p 0).toInt64
def zcs (S : ZS) (st : Nat) : Nat → Int32
  | 0 => 0
  | p + 1 => zcs S st p + (if st.testBit p then S 8 p 0 else 0)
set_option maxRecDepth 4000 in
theorem x_costOf_l {K : ZKh} {P : Nat → Nat → List Value → List Value → ZMi → ZMl → ZMr → ZRt → Prop} {I : ZMi} {L : ZMl} {R : ZMr} {Q : ZRt} (hP : ZCl K P) {w nS nP nW : Nat} {S : ZS} (hK : zKa K) (hR : zRa R) (hw : zisW w) (hC : zC I w S nS nP nW) (hp8 : nP ≤ 8) (hs6 : nS ≤ 6) (hw6 : nW ≤ 6) {st : Nat} (hst : st < 256) (h : Q (some (.int (zcs S st nP))) I L R) : ∀ p, p ≤ nP → ∀ (acc : Int32), acc = zcs S st p → P 65 4 [.ref w, .int (nI st), .int acc, .int (nI p)] [] I L R Q := by
  refine zloop nP (fun p => ∀ (acc : Int32), acc = zcs S st p → P 65 4 [.ref w, .int (nI st), .int acc, .int (nI p)] [] I L R Q) ?_
  intro p hle ih acc hacc
  refine r_il hP c65_4 rfl ?_
  refine r_al hP c65_5 rfl ?_
  refine r_gI (x := nI nP) hP c65_6 (zj_W hK hw) (zC_p hC) ?_
  refine r_ige hP c65_9 (fun h9 => ?_) (fun h9 => ?_)
  · have he : p = nP := Nat.le_antisymm hle ((nI_leI (by omega) (by omega)).mp h9)
    refine r_il hP c65_38 rfl ?_
    exact r_irE hP c65_39 h (by rw [hacc, he])
  · have hlt : p < nP := by
      rcases Nat.lt_or_ge p nP with q | q
      · exact q
      · exact absurd (nI_le q (by omega)) h9
    refine r_il hP c65_12 rfl ?_
    refine r_ic hP c65_13 ?_
    refine r_il hP c65_14 rfl ?_
    refine r_ishl hP c65_15 ?_
    refine r_iand hP c65_16 ?_
    refine r_ifeq hP c65_17 (fun h17 => ?_) (fun h17 => ?_)
    · have hb := (zbit_c st hst p (by omega)).mp h17
      refine r_inc (y := nI (p + 1)) (ls' := [.ref w, .int (nI st), .int acc, .int (nI (p + 1))]) hP c65_32 rfl (nI_1 _) rfl ?_
      refine r_goto hP c65_35 ?_
      exact ih hlt _ (by simp [zcs, hacc, hb])
    · have hb : st.testBit p = true := Classical.byContradiction (fun q => h17 ((zbit_c st hst p (by omega)).mpr q))
      refine r_il hP c65_20 rfl ?_
      refine r_al hP c65_21 rfl ?_
      refine r_gR (x := w + 2) hP c65_22 (zj_W hK hw) (zr_pts hR hw) ?_
      refine r_il hP c65_25 rfl ?_
      refine r_aald (j := p) (x := w + 18 + 2 * p) hP c65_26 (zk_pts hK hw) rfl (by omega) (zr_prt hR hw (by omega)) ?_
      refine r_gI (x := S 8 p 0) hP c65_27 (zj_prt hK hw (by omega)) (zC_f hC (by omega) 6 (by decide) (by decide)) ?_
      refine r_iadd hP c65_30 ?_
      refine r_is (ls' := [.ref w, .int (nI st), .int (acc + (S 8 p 0)), .int (nI p)]) hP c65_31 (Nat.le_of_ble_eq_true rfl) rfl ?_
      refine r_inc (y := nI (p + 1)) (ls' := [.ref w, .int (nI st), .int (acc + (S 8 p 0)), .int (nI (p + 1))]) hP c65_32 rfl (nI_1 _) rfl ?_
      refine r_goto hP c65_35 ?_
      exact ih hlt _ (by simp [zcs, hacc, hb])
set_option maxRecDepth 4000 in
theorem x_costOf {K : ZKh} {P : Nat → Nat → List Value → List Value → ZMi → ZMl → ZMr → ZRt → Prop} {I : ZMi} {L : ZMl} {R : ZMr} {Q : ZRt} (hP : ZCl K P) {w nS nP nW : Nat} {S : ZS} (hK : zKa K) (hR : zRa R) (hw : zisW w) (hC : zC I w S nS nP nW) (hp8 : nP ≤ 8) (hs6 : nS ≤ 6) (hw6 : nW ≤ 6) {st : Nat} (hst : st < 256) (h : Q (some (.int (zcs S st nP))) I L R) : P 65 0 [.ref w, .int (nI st), .null, .null] [] I L R Q := by
  refine r_ic hP c65_0 ?_
  refine r_is (ls' := [.ref w, .int (nI st), .int 0, .null]) hP c65_1 (Nat.le_of_ble_eq_true rfl) rfl ?_
  refine r_ic hP c65_2 ?_
  refine r_is (ls' := [.ref w, .int (nI st), .int 0, .int 0]) hP c65_3 (Nat.le_of_ble_eq_true rfl) rfl ?_
  exact x_costOf_l hP hK hR hw hC hp8 hs6 hw6 hst h 0 (Nat.zero_le _) 0 rfl
