/-! ===== the model's leaves ===== -/
theorem zD_g {I : ZMi} {S : ZS} {nS nP nW : Nat} (h : zD I 0 S nS nP nW) {s : Nat} (hs : s < nS) : I 122 s = S 0 s 0 := by have := (h.2.2.2.1 s hs).1; rw [Nat.mul_zero, Nat.zero_add] at this; exact this
theorem zD_b {I : ZMi} {S : ZS} {nS nP nW : Nat} (h : zD I 0 S nS nP nW) {s : Nat} (hs : s < nS) : I 123 s = S 1 s 0 := by have := (h.2.2.2.1 s hs).2.1; rw [Nat.mul_zero, Nat.zero_add] at this; exact this
theorem zD_m {I : ZMi} {S : ZS} {nS nP nW : Nat} (h : zD I 0 S nS nP nW) {s t : Nat} (hs : s < nS) (ht : t < 3) : I 136 (3 * s + t) = S 2 s t := by have := (h.2.2.2.1 s hs).2.2 t ht; rw [Nat.mul_zero, Nat.zero_add] at this; exact this
theorem zD_f {I : ZMi} {S : ZS} {nS nP nW : Nat} (h : zD I 0 S nS nP nW) {p : Nat} (hp : p < nP) (j : Nat) (h1 : 1 ≤ j) (h2 : j ≤ 8) : I (124 + j) p = S (j + 2) p 0 := by have := (h.2.2.2.2.1 p hp).1 j h1 h2; rw [Nat.mul_zero, Nat.zero_add] at this; exact this
theorem zD_l {I : ZMi} {S : ZS} {nS nP nW : Nat} (h : zD I 0 S nS nP nW) {p t : Nat} (hp : p < nP) (ht : t < 3) : I 134 (3 * p + t) = S 11 p t := by have := (h.2.2.2.2.1 p hp).2 t ht; rw [Nat.mul_zero, Nat.zero_add] at this; exact this
theorem zD_y {I : ZMi} {S : ZS} {nS nP nW : Nat} (h : zD I 0 S nS nP nW) {i : Nat} (hi : i < nW) (j : Nat) (hj : j < 3) : I (138 + j) i = S (12 + j) i 0 := by have := h.2.2.2.2.2.1 i hi j hj; rw [Nat.mul_zero, Nat.zero_add] at this; exact this
theorem zD_e {I : ZMi} {S : ZS} {nS nP nW : Nat} (h : zD I 0 S nS nP nW) {t : Nat} (ht : t < 3) : I 141 t = S 15 t 0 := by have := h.2.2.2.2.2.2.1 t ht; rw [Nat.mul_zero, Nat.zero_add] at this; exact this
theorem zD_k {I : ZMi} {S : ZS} {nS nP nW : Nat} (h : zD I 0 S nS nP nW) {k : Nat} (hk : k < 5) : I 142 k = S 16 k 0 := by have := h.2.2.2.2.2.2.2 k hk; rw [Nat.mul_zero, Nat.zero_add] at this; exact this
theorem zif_c {c d : Prop} [Decidable c] [Decidable d] (h : c ↔ d) : (if c then (1 : Int32) else 0) = if d then 1 else 0 := by
  by_cases q : c
  · rw [if_pos q, if_pos (h.mp q)]
  · rw [if_neg q, if_neg (fun z => q (h.mpr z))]
theorem zisC {x a b : Int32} {a' b' : Int64} (ha : a.toInt64 = a') (hb : b.toInt64 = b') : (if a' ≤ x.toInt64 ∧ x.toInt64 ≤ b' then (1 : Int32) else 0) = if a ≤ x ∧ x ≤ b then 1 else 0 := by
  subst ha; subst hb
  exact zif_c (by rw [z_le64, z_le64, z_le, z_le, z_to64, z_to64, z_to64])
theorem zisM {x : Int32} {n : Nat} (h1 : 1 ≤ n) (hn : n < 2 ^ 31) : (if (0 : Int64) ≤ x.toInt64 ∧ x.toInt64 ≤ (nI (n - 1)).toInt64 then (1 : Int32) else 0) = if zr x n then 1 else 0 := by
  refine zif_c ?_
  rw [z_le64, z_le64, z_to64, z_to64, nI_toInt (by omega), show (0 : Int64).toInt = 0 from rfl]
  unfold zr
  omega
theorem zix3 (s t : Nat) : (3 : Int32) * nI s + nI t = nI (3 * s + t) := by
  have h1 : (3 : Int32) * nI s = nI (3 * s) := pk_mul 3 s
  rw [h1, nI_add]
theorem zac1 (a b c d : Int32) : a + b + c + d = a + (b + d) + c := by
  rw [Int32.add_assoc (a + b) c d, Int32.add_comm c d, ← Int32.add_assoc, Int32.add_assoc a b d]
theorem zac2 (a b c : Int32) : a + b + c = b + c + a := by
  rw [Int32.add_assoc, Int32.add_comm]
set_option maxRecDepth 4000 in
theorem x_has {K : ZKh} {P : Nat → Nat → List Value → List Value → ZMi → ZMl → ZMr → ZRt → Prop} {I : ZMi} {L : ZMl} {R : ZMr} {Q : ZRt} (hP : ZCl K P) {st p : Nat} (hst : st < 256) (hp : p < 8) (h : Q (some (.int (if st.testBit p = true then 1 else 0))) I L R) : P 106 0 [.int (nI st), .int (nI p)] [] I L R Q := by
  refine r_il hP c106_0 rfl ?_
  refine r_il hP c106_1 rfl ?_
  refine r_ishr hP c106_2 ?_
  refine r_ic hP c106_3 ?_
  refine r_iand hP c106_4 ?_
  refine r_ic hP c106_5 ?_
  refine r_ine hP c106_6 (fun h6 => ?_) (fun h6 => ?_)
  · refine r_ic hP c106_13 ?_
    exact r_zr0 hP c106_14 (fun q => h6 ((zbit_m st hst p hp).mpr q)) h
  · refine r_ic hP c106_9 ?_
    refine r_goto hP c106_10 ?_
    exact r_zr1 hP c106_14 ((zbit_m st hst p hp).mp h6) h
set_option maxRecDepth 4000 in
theorem x_up {K : ZKh} {P : Nat → Nat → List Value → List Value → ZMi → ZMl → ZMr → ZRt → Prop} {I : ZMi} {L : ZMl} {R : ZMr} {Q : ZRt} (hP : ZCl K P) {x : Int32} (h : Q (some (.int (zabs x))) I L R) : P 107 0 [.int x] [] I L R Q := by
  refine r_il hP c107_0 rfl ?_
  refine r_ifge hP c107_1 (fun h1 => ?_) (fun h1 => ?_)
  · refine r_il hP c107_9 rfl ?_
    exact r_irE hP c107_10 h (by first | (rw [zabs, if_neg h1, Int32.zero_sub]; done) | (rw [zabs, if_pos h1]; done))
  · refine r_il hP c107_4 rfl ?_
    refine r_ineg hP c107_5 ?_
    refine r_goto hP c107_6 ?_
    exact r_irE hP c107_10 h (by first | (rw [zabs, if_neg h1, Int32.zero_sub]; done) | (rw [zabs, if_pos h1]; done))
set_option maxRecDepth 4000 in
theorem x_isStage {K : ZKh} {P : Nat → Nat → List Value → List Value → ZMi → ZMl → ZMr → ZRt → Prop} {I : ZMi} {L : ZMl} {R : ZMr} {Q : ZRt} (hP : ZCl K P) {nS nP nW : Nat} {S : ZS} (hKb : zKb K) (hRb : zRb R) (hD : zD I 0 S nS nP nW) (hs1 : 1 ≤ nS) (hp1 : 1 ≤ nP) (hp8 : nP ≤ 8) (hs6 : nS ≤ 6) (hw6 : nW ≤ 6) {x : Int32} (h : Q (some (.int (if zr x nS then 1 else 0))) I L R) : P 125 0 [.ref 119, .int x] [] I L R Q := by
  have hq1 := zp256 hp8
  have hq2 := Nat.two_pow_pos nP
  refine r_il hP c125_0 rfl ?_
  refine r_i2l hP c125_1 ?_
  refine r_lc hP c125_2 ?_
  refine r_al hP c125_3 rfl ?_
  refine r_gR (x := 121) hP c125_4 (zj119 hKb) (zr119_2 hRb) ?_
  refine r_ic hP c125_7 ?_
  refine r_iald (j := 0) (x := nI nS) hP c125_8 (zk121 hKb) rfl (by decide) hD.1 ?_
  refine r_ic hP c125_9 ?_
  refine r_isub hP c125_10 ?_
  refine r_ti (y := nI (nS - 1)) (pk_sub (b := 1) hs1) ?_
  refine r_i2l hP c125_11 ?_
  refine r_cSi (as := [.long x.toInt64, .long 0, .long ((nI (nS - 1)).toInt64)]) (r := []) (I' := I) (L' := L) (R' := R) (x := if 0 ≤ x.toInt64 ∧ x.toInt64 ≤ (nI (nS - 1)).toInt64 then 1 else 0) hP c125_12 rfl rfl (fun _ h2 => x_isIn hP h2) ?_
  refine r_ti (y := if zr x nS then 1 else 0) (zisM (by omega) (by omega)) ?_
  exact r_zrB hP c125_15 h
set_option maxRecDepth 4000 in
theorem x_isPart {K : ZKh} {P : Nat → Nat → List Value → List Value → ZMi → ZMl → ZMr → ZRt → Prop} {I : ZMi} {L : ZMl} {R : ZMr} {Q : ZRt} (hP : ZCl K P) {nS nP nW : Nat} {S : ZS} (hKb : zKb K) (hRb : zRb R) (hD : zD I 0 S nS nP nW) (hs1 : 1 ≤ nS) (hp1 : 1 ≤ nP) (hp8 : nP ≤ 8) (hs6 : nS ≤ 6) (hw6 : nW ≤ 6) {x : Int32} (h : Q (some (.int (if zr x nP then 1 else 0))) I L R) : P 126 0 [.ref 119, .int x] [] I L R Q := by
  have hq1 := zp256 hp8
  have hq2 := Nat.two_pow_pos nP
  refine r_il hP c126_0 rfl ?_
  refine r_i2l hP c126_1 ?_
  refine r_lc hP c126_2 ?_
  refine r_al hP c126_3 rfl ?_
  refine r_gR (x := 124) hP c126_4 (zj119 hKb) (zr119_5 hRb) ?_
  refine r_ic hP c126_7 ?_
  refine r_iald (j := 0) (x := nI nP) hP c126_8 (zk124 hKb) rfl (by decide) hD.2.1 ?_
  refine r_ic hP c126_9 ?_
  refine r_isub hP c126_10 ?_
  refine r_ti (y := nI (nP - 1)) (pk_sub (b := 1) hp1) ?_
  refine r_i2l hP c126_11 ?_
  refine r_cSi (as := [.long x.toInt64, .long 0, .long ((nI (nP - 1)).toInt64)]) (r := []) (I' := I) (L' := L) (R' := R) (x := if 0 ≤ x.toInt64 ∧ x.toInt64 ≤ (nI (nP - 1)).toInt64 then 1 else 0) hP c126_12 rfl rfl (fun _ h2 => x_isIn hP h2) ?_
  refine r_ti (y := if zr x nP then 1 else 0) (zisM (by omega) (by omega)) ?_
  exact r_zrB hP c126_15 h
set_option maxRecDepth 4000 in
theorem x_isState {K : ZKh} {P : Nat → Nat → List Value → List Value → ZMi → ZMl → ZMr → ZRt → Prop} {I : ZMi} {L : ZMl} {R : ZMr} {Q : ZRt} (hP : ZCl K P) {nS nP nW : Nat} {S : ZS} (hKb : zKb K) (hRb : zRb R) (hD : zD I 0 S nS nP nW) (hs1 : 1 ≤ nS) (hp1 : 1 ≤ nP) (hp8 : nP ≤ 8) (hs6 : nS ≤ 6) (hw6 : nW ≤ 6) {x : Int32} (h : Q (some (.int (if zr x (2 ^ nP) then 1 else 0))) I L R) : P 127 0 [.ref 119, .int x] [] I L R Q := by
  have hq1 := zp256 hp8
  have hq2 := Nat.two_pow_pos nP
  refine r_il hP c127_0 rfl ?_
  refine r_i2l hP c127_1 ?_
  refine r_lc hP c127_2 ?_
  refine r_ic hP c127_3 ?_
  refine r_al hP c127_4 rfl ?_
  refine r_gR (x := 124) hP c127_5 (zj119 hKb) (zr119_5 hRb) ?_
  refine r_ic hP c127_8 ?_
  refine r_iald (j := 0) (x := nI nP) hP c127_9 (zk124 hKb) rfl (by decide) hD.2.1 ?_
  refine r_ishl hP c127_10 ?_
  refine r_ti (y := nI (2 ^ nP)) (zpow nP hp8) ?_
  refine r_ic hP c127_11 ?_
  refine r_isub hP c127_12 ?_
  refine r_ti (y := nI (2 ^ nP - 1)) (pk_sub (b := 1) (Nat.two_pow_pos nP)) ?_
  refine r_i2l hP c127_13 ?_
  refine r_cSi (as := [.long x.toInt64, .long 0, .long ((nI (2 ^ nP - 1)).toInt64)]) (r := []) (I' := I) (L' := L) (R' := R) (x := if 0 ≤ x.toInt64 ∧ x.toInt64 ≤ (nI (2 ^ nP - 1)).toInt64 then 1 else 0) hP c127_14 rfl rfl (fun _ h2 => x_isIn hP h2) ?_
  refine r_ti (y := if zr x (2 ^ nP) then 1 else 0) (zisM (by omega) (by omega)) ?_
  exact r_zrB hP c127_17 h
set_option maxRecDepth 4000 in
theorem x_isTime {K : ZKh} {P : Nat → Nat → List Value → List Value → ZMi → ZMl → ZMr → ZRt → Prop} {I : ZMi} {L : ZMl} {R : ZMr} {Q : ZRt} (hP : ZCl K P) {x : Int32} (h : Q (some (.int (if 0 ≤ x ∧ x ≤ 30 then 1 else 0))) I L R) : P 128 0 [.int x] [] I L R Q := by
  refine r_il hP c128_0 rfl ?_
  refine r_i2l hP c128_1 ?_
  refine r_lc hP c128_2 ?_
  refine r_lc hP c128_3 ?_
  refine r_cSi (as := [.long x.toInt64, .long 0, .long 30]) (r := []) (I' := I) (L' := L) (R' := R) (x := if 0 ≤ x.toInt64 ∧ x.toInt64 ≤ 30 then 1 else 0) hP c128_6 rfl rfl (fun _ h2 => x_isIn hP h2) ?_
  refine r_ti (y := if 0 ≤ x ∧ x ≤ 30 then 1 else 0) (zisC rfl rfl) ?_
  exact r_zrB hP c128_9 h
set_option maxRecDepth 4000 in
theorem x_inP {K : ZKh} {P : Nat → Nat → List Value → List Value → ZMi → ZMl → ZMr → ZRt → Prop} {I : ZMi} {L : ZMl} {R : ZMr} {Q : ZRt} (hP : ZCl K P) {nS nP nW : Nat} {S : ZS} (hKb : zKb K) (hRb : zRb R) (hD : zD I 0 S nS nP nW) (hs1 : 1 ≤ nS) (hp1 : 1 ≤ nP) (hp8 : nP ≤ 8) (hs6 : nS ≤ 6) (hw6 : nW ≤ 6) {st s0 t o f : Nat} {m out fin : Int32} (hst : st < 256) (hs0 : s0 < nS) (ht : t < 3) (ho : ∀ s, s < 6 → (nI s = out ↔ s = o)) (hf : ∀ s, s < 6 → (nI s = fin ↔ s = f)) {s : Nat} {co : Int32} (hs : s < nS) (hx : ∀ v, v = co + zlt S st m s t nP + (if s = f ∧ t = 0 then 100 else 0) → P 130 122 [.ref 119, .int (nI st), .int (nI s0), .int (nI t), .int m, .int out, .int fin, .int co, .int v, .int (nI s), .int (nI nP)] [] I L R Q) : ∀ p, p ≤ nP → ∀ (v : Int32), v = co + zlt S st m s t p + (if s = f ∧ t = 0 then 100 else 0) → P 130 52 [.ref 119, .int (nI st), .int (nI s0), .int (nI t), .int m, .int out, .int fin, .int co, .int v, .int (nI s), .int (nI p)] [] I L R Q := by
  refine zloop nP (fun p => ∀ (v : Int32), v = co + zlt S st m s t p + (if s = f ∧ t = 0 then 100 else 0) → P 130 52 [.ref 119, .int (nI st), .int (nI s0), .int (nI t), .int m, .int out, .int fin, .int co, .int v, .int (nI s), .int (nI p)] [] I L R Q) ?_
  intro p hle ih v hacc
  refine r_il hP c130_52 rfl ?_
  refine r_al hP c130_54 rfl ?_
  refine r_gR (x := 124) hP c130_55 (zj119 hKb) (zr119_5 hRb) ?_
  refine r_ic hP c130_58 ?_
  refine r_iald (j := 0) (x := nI nP) hP c130_59 (zk124 hKb) rfl (by decide) hD.2.1 ?_
  refine r_ige hP c130_60 (fun h60 => ?_) (fun h60 => ?_)
  · have he : p = nP := Nat.le_antisymm hle ((nI_leI (by omega) (by omega)).mp h60)
    subst he
    exact hx _ hacc
  · have hlt : p < nP := by
      rcases Nat.lt_or_ge p nP with q | q
      · exact q
      · exact absurd (nI_le q (by omega)) h60
    refine r_il hP c130_63 rfl ?_
    refine r_al hP c130_65 rfl ?_
    refine r_gR (x := 125) hP c130_66 (zj119 hKb) (zr119_6 hRb) ?_
    refine r_il hP c130_69 rfl ?_
    refine r_iald (j := p) (x := S 3 p 0) hP c130_71 (zk125 hKb) rfl (by omega) (zD_f hD (by omega) 1 (by decide) (by decide)) ?_
    refine r_il hP c130_72 rfl ?_
    refine r_ine hP c130_74 (fun h74 => ?_) (fun h74 => ?_)
    · refine r_ic hP c130_112 ?_
      refine r_iadd hP c130_113 ?_
      refine r_is (ls' := [.ref 119, .int (nI st), .int (nI s0), .int (nI t), .int m, .int out, .int fin, .int co, .int (v + 0), .int (nI s), .int (nI p)]) hP c130_114 (Nat.le_of_ble_eq_true rfl) rfl ?_
      refine r_inc (y := nI (p + 1)) (ls' := [.ref 119, .int (nI st), .int (nI s0), .int (nI t), .int m, .int out, .int fin, .int co, .int (v + 0), .int (nI s), .int (nI (p + 1))]) hP c130_116 rfl (nI_1 _) rfl ?_
      refine r_goto hP c130_119 ?_
      exact ih hlt _ (by
        rw [hacc, zac1, zlt]
        first
          | (have hq : S 3 p 0 = nI s ∧ st.testBit p = true ∧ S 7 p 0 ≤ m := ⟨h74, h83, Int32.not_lt.mp h95⟩; rw [if_pos hq]; done)
          | (have hq : ¬ (S 3 p 0 = nI s ∧ st.testBit p = true ∧ S 7 p 0 ≤ m) := fun q => h74 q.1; rw [if_neg hq]; done)
          | (have hq : ¬ (S 3 p 0 = nI s ∧ st.testBit p = true ∧ S 7 p 0 ≤ m) := fun q => h83 q.2.1; rw [if_neg hq]; done)
          | (have hq : ¬ (S 3 p 0 = nI s ∧ st.testBit p = true ∧ S 7 p 0 ≤ m) := fun q => absurd h95 (Int32.not_lt.mpr q.2.2); rw [if_neg hq]; done))
    · refine r_il hP c130_77 rfl ?_
      refine r_il hP c130_78 rfl ?_
      refine r_cSi (as := [.int (nI st), .int (nI p)]) (r := [.int v]) (I' := I) (L' := L) (R' := R) (x := if st.testBit p = true then 1 else 0) hP c130_80 rfl rfl (fun _ hq => x_has hP hst (by omega) hq) ?_
      refine r_ifeqB hP c130_83 (fun h83 => ?_) (fun h83 => ?_)
      · refine r_ic hP c130_112 ?_
        refine r_iadd hP c130_113 ?_
        refine r_is (ls' := [.ref 119, .int (nI st), .int (nI s0), .int (nI t), .int m, .int out, .int fin, .int co, .int (v + 0), .int (nI s), .int (nI p)]) hP c130_114 (Nat.le_of_ble_eq_true rfl) rfl ?_
        refine r_inc (y := nI (p + 1)) (ls' := [.ref 119, .int (nI st), .int (nI s0), .int (nI t), .int m, .int out, .int fin, .int co, .int (v + 0), .int (nI s), .int (nI (p + 1))]) hP c130_116 rfl (nI_1 _) rfl ?_
        refine r_goto hP c130_119 ?_
        exact ih hlt _ (by
          rw [hacc, zac1, zlt]
          first
            | (have hq : S 3 p 0 = nI s ∧ st.testBit p = true ∧ S 7 p 0 ≤ m := ⟨h74, h83, Int32.not_lt.mp h95⟩; rw [if_pos hq]; done)
            | (have hq : ¬ (S 3 p 0 = nI s ∧ st.testBit p = true ∧ S 7 p 0 ≤ m) := fun q => h74 q.1; rw [if_neg hq]; done)
            | (have hq : ¬ (S 3 p 0 = nI s ∧ st.testBit p = true ∧ S 7 p 0 ≤ m) := fun q => h83 q.2.1; rw [if_neg hq]; done)
            | (have hq : ¬ (S 3 p 0 = nI s ∧ st.testBit p = true ∧ S 7 p 0 ≤ m) := fun q => absurd h95 (Int32.not_lt.mpr q.2.2); rw [if_neg hq]; done))
      · refine r_al hP c130_86 rfl ?_
        refine r_gR (x := 129) hP c130_87 (zj119 hKb) (zr119_10 hRb) ?_
        refine r_il hP c130_90 rfl ?_
        refine r_iald (j := p) (x := S 7 p 0) hP c130_92 (zk129 hKb) rfl (by omega) (zD_f hD (by omega) 5 (by decide) (by decide)) ?_
        refine r_il hP c130_93 rfl ?_
        refine r_igt hP c130_95 (fun h95 => ?_) (fun h95 => ?_)
        · refine r_ic hP c130_112 ?_
          refine r_iadd hP c130_113 ?_
          refine r_is (ls' := [.ref 119, .int (nI st), .int (nI s0), .int (nI t), .int m, .int out, .int fin, .int co, .int (v + 0), .int (nI s), .int (nI p)]) hP c130_114 (Nat.le_of_ble_eq_true rfl) rfl ?_
          refine r_inc (y := nI (p + 1)) (ls' := [.ref 119, .int (nI st), .int (nI s0), .int (nI t), .int m, .int out, .int fin, .int co, .int (v + 0), .int (nI s), .int (nI (p + 1))]) hP c130_116 rfl (nI_1 _) rfl ?_
          refine r_goto hP c130_119 ?_
          exact ih hlt _ (by
            rw [hacc, zac1, zlt]
            first
              | (have hq : S 3 p 0 = nI s ∧ st.testBit p = true ∧ S 7 p 0 ≤ m := ⟨h74, h83, Int32.not_lt.mp h95⟩; rw [if_pos hq]; done)
              | (have hq : ¬ (S 3 p 0 = nI s ∧ st.testBit p = true ∧ S 7 p 0 ≤ m) := fun q => h74 q.1; rw [if_neg hq]; done)
              | (have hq : ¬ (S 3 p 0 = nI s ∧ st.testBit p = true ∧ S 7 p 0 ≤ m) := fun q => h83 q.2.1; rw [if_neg hq]; done)
              | (have hq : ¬ (S 3 p 0 = nI s ∧ st.testBit p = true ∧ S 7 p 0 ≤ m) := fun q => absurd h95 (Int32.not_lt.mpr q.2.2); rw [if_neg hq]; done))
        · refine r_al hP c130_98 rfl ?_
          refine r_gR (x := 134) hP c130_99 (zj119 hKb) (zr119_15 hRb) ?_
          refine r_ic hP c130_102 ?_
          refine r_il hP c130_103 rfl ?_
          refine r_imul hP c130_105 ?_
          refine r_il hP c130_106 rfl ?_
          refine r_iadd hP c130_107 ?_
          refine r_ti (y := nI (3 * p + t)) (zix3 p t) ?_
          refine r_iald (j := 3 * p + t) (x := S 11 p t) hP c130_108 (zk134 hKb) rfl (by omega) (zD_l hD (by omega) (by omega)) ?_
          refine r_goto hP c130_109 ?_
          refine r_iadd hP c130_113 ?_
          refine r_is (ls' := [.ref 119, .int (nI st), .int (nI s0), .int (nI t), .int m, .int out, .int fin, .int co, .int (v + (S 11 p t)), .int (nI s), .int (nI p)]) hP c130_114 (Nat.le_of_ble_eq_true rfl) rfl ?_
          refine r_inc (y := nI (p + 1)) (ls' := [.ref 119, .int (nI st), .int (nI s0), .int (nI t), .int m, .int out, .int fin, .int co, .int (v + (S 11 p t)), .int (nI s), .int (nI (p + 1))]) hP c130_116 rfl (nI_1 _) rfl ?_
          refine r_goto hP c130_119 ?_
          exact ih hlt _ (by
            rw [hacc, zac1, zlt]
            first
              | (have hq : S 3 p 0 = nI s ∧ st.testBit p = true ∧ S 7 p 0 ≤ m := ⟨h74, h83, Int32.not_lt.mp h95⟩; rw [if_pos hq]; done)
              | (have hq : ¬ (S 3 p 0 = nI s ∧ st.testBit p = true ∧ S 7 p 0 ≤ m) := fun q => h74 q.1; rw [if_neg hq]; done)
              | (have hq : ¬ (S 3 p 0 = nI s ∧ st.testBit p = true ∧ S 7 p 0 ≤ m) := fun q => h83 q.2.1; rw [if_neg hq]; done)
              | (have hq : ¬ (S 3 p 0 = nI s ∧ st.testBit p = true ∧ S 7 p 0 ≤ m) := fun q => absurd h95 (Int32.not_lt.mpr q.2.2); rw [if_neg hq]; done))
set_option maxRecDepth 4000 in
theorem x_inS {K : ZKh} {P : Nat → Nat → List Value → List Value → ZMi → ZMl → ZMr → ZRt → Prop} {I : ZMi} {L : ZMl} {R : ZMr} {Q : ZRt} (hP : ZCl K P) {nS nP nW : Nat} {S : ZS} (hKb : zKb K) (hRb : zRb R) (hD : zD I 0 S nS nP nW) (hs1 : 1 ≤ nS) (hp1 : 1 ≤ nP) (hp8 : nP ≤ 8) (hs6 : nS ≤ 6) (hw6 : nW ≤ 6) {st s0 t o f : Nat} {m out fin : Int32} (hst : st < 256) (hs0 : s0 < nS) (ht : t < 3) (ho : ∀ s, s < 6 → (nI s = out ↔ s = o)) (hf : ∀ s, s < 6 → (nI s = fin ↔ s = f)) (h : Q (some (.int (zin S nP st m o f s0 t))) I L R) : ∀ s, s ≤ (s0 + 1) → ∀ (co v : Int32) (v10 : Value), co = zhd S nP st m o f t s ∧ (0 < s → v = zin S nP st m o f (s - 1) t) → P 130 9 [.ref 119, .int (nI st), .int (nI s0), .int (nI t), .int m, .int out, .int fin, .int co, .int v, .int (nI s), v10] [] I L R Q := by
  refine zloop (s0 + 1) (fun s => ∀ (co v : Int32) (v10 : Value), co = zhd S nP st m o f t s ∧ (0 < s → v = zin S nP st m o f (s - 1) t) → P 130 9 [.ref 119, .int (nI st), .int (nI s0), .int (nI t), .int m, .int out, .int fin, .int co, .int v, .int (nI s), v10] [] I L R Q) ?_
  intro s hle ih co v v10 hacc
  refine r_il hP c130_9 rfl ?_
  refine r_il hP c130_11 rfl ?_
  refine r_igt hP c130_12 (fun h12 => ?_) (fun h12 => ?_)
  · have he : s = s0 + 1 := by
      have := (nI_ltI (a := s0) (b := s) (by omega) (by omega)).mp h12
      omega
    refine r_il hP c130_154 rfl ?_
    exact r_irE hP c130_156 h (by subst he; exact hacc.2 (by omega))
  · have hsn : s < nS := by
      have := (not_congr (nI_ltI (a := s0) (b := s) (by omega) (by omega))).mp h12
      omega
    have hss : s ≤ s0 := by
      have := (not_congr (nI_ltI (a := s0) (b := s) (by omega) (by omega))).mp h12
      omega
    refine r_il hP c130_15 rfl ?_
    refine r_al hP c130_17 rfl ?_
    refine r_gR (x := 136) hP c130_18 (zj119 hKb) (zr119_17 hRb) ?_
    refine r_ic hP c130_21 ?_
    refine r_il hP c130_22 rfl ?_
    refine r_imul hP c130_24 ?_
    refine r_il hP c130_25 rfl ?_
    refine r_iadd hP c130_26 ?_
    refine r_ti (y := nI (3 * s + t)) (zix3 s t) ?_
    refine r_iald (j := 3 * s + t) (x := S 2 s t) hP c130_27 (zk136 hKb) rfl (by omega) (zD_m hD (by omega) (by omega)) ?_
    refine r_iadd hP c130_28 ?_
    refine r_il hP c130_29 rfl ?_
    refine r_il hP c130_31 rfl ?_
    refine r_ine hP c130_33 (fun h33 => ?_) (fun h33 => ?_)
    · refine r_ic hP c130_45 ?_
      refine r_iadd hP c130_46 ?_
      refine r_is (ls' := [.ref 119, .int (nI st), .int (nI s0), .int (nI t), .int m, .int out, .int fin, .int co, .int ((co + (S 2 s t)) + 0), .int (nI s), v10]) hP c130_47 (Nat.le_of_ble_eq_true rfl) rfl ?_
      refine r_ic hP c130_49 ?_
      refine r_is (ls' := [.ref 119, .int (nI st), .int (nI s0), .int (nI t), .int m, .int out, .int fin, .int co, .int ((co + (S 2 s t)) + 0), .int (nI s), .int 0]) hP c130_50 (Nat.le_of_ble_eq_true rfl) rfl ?_
      refine x_inP hP hKb hRb hD hs1 hp1 hp8 hs6 hw6 hst hs0 ht ho hf hsn (fun v hv => ?_) 0 (Nat.zero_le _) _ (by rw [zlt]; first | (have hq : s = f ∧ t = 0 := ⟨(hf s (by omega)).mp h33, ht0⟩; rw [if_pos hq]; done) | (have hq : ¬ (s = f ∧ t = 0) := fun q => h33 ((hf s (by omega)).mpr q.1); rw [if_neg hq]; done) | (have hq : ¬ (s = f ∧ t = 0) := fun q => ht0 q.2; rw [if_neg hq]; done))
      refine r_il hP c130_122 rfl ?_
      refine r_il hP c130_124 rfl ?_
      refine r_ine hP c130_126 (fun h126 => ?_) (fun h126 => ?_)
      · refine r_il hP c130_133 rfl ?_
        refine r_al hP c130_135 rfl ?_
        refine r_gR (x := 122) hP c130_136 (zj119 hKb) (zr119_3 hRb) ?_
        refine r_il hP c130_139 rfl ?_
        refine r_iald (j := s) (x := S 0 s 0) hP c130_141 (zk122 hKb) rfl (by omega) (zD_g hD (by omega)) ?_
        refine r_imul hP c130_142 ?_
        refine r_ic hP c130_143 ?_
        refine r_idiv hP c130_145 (by decide) ?_
        refine r_is (ls' := [.ref 119, .int (nI st), .int (nI s0), .int (nI t), .int m, .int out, .int fin, .int ((v * (S 0 s 0)) / 10), .int v, .int (nI s), .int (nI nP)]) hP c130_146 (Nat.le_of_ble_eq_true rfl) rfl ?_
        refine r_inc (y := nI (s + 1)) (ls' := [.ref 119, .int (nI st), .int (nI s0), .int (nI t), .int m, .int out, .int fin, .int ((v * (S 0 s 0)) / 10), .int v, .int (nI (s + 1)), .int (nI nP)]) hP c130_148 rfl (nI_1 _) rfl ?_
        refine r_goto hP c130_151 ?_
        exact ih (by omega) _ _ _ ⟨by
            rw [zhd]
            first
              | rw [if_pos ((ho s (by omega)).mp h126)]
              | rw [if_neg (fun q => h126 ((ho s (by omega)).mpr q)), hv, hacc.1, zac2]; rfl, fun _ => by rw [hv, hacc.1, zac2]; rfl⟩
      · refine r_ic hP c130_129 ?_
        refine r_goto hP c130_130 ?_
        refine r_is (ls' := [.ref 119, .int (nI st), .int (nI s0), .int (nI t), .int m, .int out, .int fin, .int 0, .int v, .int (nI s), .int (nI nP)]) hP c130_146 (Nat.le_of_ble_eq_true rfl) rfl ?_
        refine r_inc (y := nI (s + 1)) (ls' := [.ref 119, .int (nI st), .int (nI s0), .int (nI t), .int m, .int out, .int fin, .int 0, .int v, .int (nI (s + 1)), .int (nI nP)]) hP c130_148 rfl (nI_1 _) rfl ?_
        refine r_goto hP c130_151 ?_
        exact ih (by omega) _ _ _ ⟨by
            rw [zhd]
            first
              | rw [if_pos ((ho s (by omega)).mp h126)]
              | rw [if_neg (fun q => h126 ((ho s (by omega)).mpr q)), hv, hacc.1, zac2]; rfl, fun _ => by rw [hv, hacc.1, zac2]; rfl⟩
    · refine r_il hP c130_36 rfl ?_
      refine r_ifne hP c130_37 (fun h37 => ?_) (fun h37 => ?_)
      · have ht0 : ¬ t = 0 := fun q => h37 (by rw [q]; rfl)
        refine r_ic hP c130_45 ?_
        refine r_iadd hP c130_46 ?_
        refine r_is (ls' := [.ref 119, .int (nI st), .int (nI s0), .int (nI t), .int m, .int out, .int fin, .int co, .int ((co + (S 2 s t)) + 0), .int (nI s), v10]) hP c130_47 (Nat.le_of_ble_eq_true rfl) rfl ?_
        refine r_ic hP c130_49 ?_
        refine r_is (ls' := [.ref 119, .int (nI st), .int (nI s0), .int (nI t), .int m, .int out, .int fin, .int co, .int ((co + (S 2 s t)) + 0), .int (nI s), .int 0]) hP c130_50 (Nat.le_of_ble_eq_true rfl) rfl ?_
        refine x_inP hP hKb hRb hD hs1 hp1 hp8 hs6 hw6 hst hs0 ht ho hf hsn (fun v hv => ?_) 0 (Nat.zero_le _) _ (by rw [zlt]; first | (have hq : s = f ∧ t = 0 := ⟨(hf s (by omega)).mp h33, ht0⟩; rw [if_pos hq]; done) | (have hq : ¬ (s = f ∧ t = 0) := fun q => h33 ((hf s (by omega)).mpr q.1); rw [if_neg hq]; done) | (have hq : ¬ (s = f ∧ t = 0) := fun q => ht0 q.2; rw [if_neg hq]; done))
        refine r_il hP c130_122 rfl ?_
        refine r_il hP c130_124 rfl ?_
        refine r_ine hP c130_126 (fun h126 => ?_) (fun h126 => ?_)
        · refine r_il hP c130_133 rfl ?_
          refine r_al hP c130_135 rfl ?_
          refine r_gR (x := 122) hP c130_136 (zj119 hKb) (zr119_3 hRb) ?_
          refine r_il hP c130_139 rfl ?_
          refine r_iald (j := s) (x := S 0 s 0) hP c130_141 (zk122 hKb) rfl (by omega) (zD_g hD (by omega)) ?_
          refine r_imul hP c130_142 ?_
          refine r_ic hP c130_143 ?_
          refine r_idiv hP c130_145 (by decide) ?_
          refine r_is (ls' := [.ref 119, .int (nI st), .int (nI s0), .int (nI t), .int m, .int out, .int fin, .int ((v * (S 0 s 0)) / 10), .int v, .int (nI s), .int (nI nP)]) hP c130_146 (Nat.le_of_ble_eq_true rfl) rfl ?_
          refine r_inc (y := nI (s + 1)) (ls' := [.ref 119, .int (nI st), .int (nI s0), .int (nI t), .int m, .int out, .int fin, .int ((v * (S 0 s 0)) / 10), .int v, .int (nI (s + 1)), .int (nI nP)]) hP c130_148 rfl (nI_1 _) rfl ?_
          refine r_goto hP c130_151 ?_
          exact ih (by omega) _ _ _ ⟨by
              rw [zhd]
              first
                | rw [if_pos ((ho s (by omega)).mp h126)]
                | rw [if_neg (fun q => h126 ((ho s (by omega)).mpr q)), hv, hacc.1, zac2]; rfl, fun _ => by rw [hv, hacc.1, zac2]; rfl⟩
        · refine r_ic hP c130_129 ?_
          refine r_goto hP c130_130 ?_
          refine r_is (ls' := [.ref 119, .int (nI st), .int (nI s0), .int (nI t), .int m, .int out, .int fin, .int 0, .int v, .int (nI s), .int (nI nP)]) hP c130_146 (Nat.le_of_ble_eq_true rfl) rfl ?_
          refine r_inc (y := nI (s + 1)) (ls' := [.ref 119, .int (nI st), .int (nI s0), .int (nI t), .int m, .int out, .int fin, .int 0, .int v, .int (nI (s + 1)), .int (nI nP)]) hP c130_148 rfl (nI_1 _) rfl ?_
          refine r_goto hP c130_151 ?_
          exact ih (by omega) _ _ _ ⟨by
              rw [zhd]
              first
                | rw [if_pos ((ho s (by omega)).mp h126)]
                | rw [if_neg (fun q => h126 ((ho s (by omega)).mpr q)), hv, hacc.1, zac2]; rfl, fun _ => by rw [hv, hacc.1, zac2]; rfl⟩
      · have ht0 : t = 0 := (nI_eq (b := 0) (by omega) (by omega)).mp h37
        refine r_ic hP c130_40 ?_
        refine r_goto hP c130_42 ?_
        refine r_iadd hP c130_46 ?_
        refine r_is (ls' := [.ref 119, .int (nI st), .int (nI s0), .int (nI t), .int m, .int out, .int fin, .int co, .int ((co + (S 2 s t)) + 100), .int (nI s), v10]) hP c130_47 (Nat.le_of_ble_eq_true rfl) rfl ?_
        refine r_ic hP c130_49 ?_
        refine r_is (ls' := [.ref 119, .int (nI st), .int (nI s0), .int (nI t), .int m, .int out, .int fin, .int co, .int ((co + (S 2 s t)) + 100), .int (nI s), .int 0]) hP c130_50 (Nat.le_of_ble_eq_true rfl) rfl ?_
        refine x_inP hP hKb hRb hD hs1 hp1 hp8 hs6 hw6 hst hs0 ht ho hf hsn (fun v hv => ?_) 0 (Nat.zero_le _) _ (by rw [zlt]; first | (have hq : s = f ∧ t = 0 := ⟨(hf s (by omega)).mp h33, ht0⟩; rw [if_pos hq]; done) | (have hq : ¬ (s = f ∧ t = 0) := fun q => h33 ((hf s (by omega)).mpr q.1); rw [if_neg hq]; done) | (have hq : ¬ (s = f ∧ t = 0) := fun q => ht0 q.2; rw [if_neg hq]; done))
        refine r_il hP c130_122 rfl ?_
        refine r_il hP c130_124 rfl ?_
        refine r_ine hP c130_126 (fun h126 => ?_) (fun h126 => ?_)
        · refine r_il hP c130_133 rfl ?_
          refine r_al hP c130_135 rfl ?_
          refine r_gR (x := 122) hP c130_136 (zj119 hKb) (zr119_3 hRb) ?_
          refine r_il hP c130_139 rfl ?_
          refine r_iald (j := s) (x := S 0 s 0) hP c130_141 (zk122 hKb) rfl (by omega) (zD_g hD (by omega)) ?_
          refine r_imul hP c130_142 ?_
          refine r_ic hP c130_143 ?_
          refine r_idiv hP c130_145 (by decide) ?_
          refine r_is (ls' := [.ref 119, .int (nI st), .int (nI s0), .int (nI t), .int m, .int out, .int fin, .int ((v * (S 0 s 0)) / 10), .int v, .int (nI s), .int (nI nP)]) hP c130_146 (Nat.le_of_ble_eq_true rfl) rfl ?_
          refine r_inc (y := nI (s + 1)) (ls' := [.ref 119, .int (nI st), .int (nI s0), .int (nI t), .int m, .int out, .int fin, .int ((v * (S 0 s 0)) / 10), .int v, .int (nI (s + 1)), .int (nI nP)]) hP c130_148 rfl (nI_1 _) rfl ?_
          refine r_goto hP c130_151 ?_
          exact ih (by omega) _ _ _ ⟨by
              rw [zhd]
              first
                | rw [if_pos ((ho s (by omega)).mp h126)]
                | rw [if_neg (fun q => h126 ((ho s (by omega)).mpr q)), hv, hacc.1, zac2]; rfl, fun _ => by rw [hv, hacc.1, zac2]; rfl⟩
        · refine r_ic hP c130_129 ?_
          refine r_goto hP c130_130 ?_
          refine r_is (ls' := [.ref 119, .int (nI st), .int (nI s0), .int (nI t), .int m, .int out, .int fin, .int 0, .int v, .int (nI s), .int (nI nP)]) hP c130_146 (Nat.le_of_ble_eq_true rfl) rfl ?_
          refine r_inc (y := nI (s + 1)) (ls' := [.ref 119, .int (nI st), .int (nI s0), .int (nI t), .int m, .int out, .int fin, .int 0, .int v, .int (nI (s + 1)), .int (nI nP)]) hP c130_148 rfl (nI_1 _) rfl ?_
          refine r_goto hP c130_151 ?_
          exact ih (by omega) _ _ _ ⟨by
              rw [zhd]
              first
                | rw [if_pos ((ho s (by omega)).mp h126)]
                | rw [if_neg (fun q => h126 ((ho s (by omega)).mpr q)), hv, hacc.1, zac2]; rfl, fun _ => by rw [hv, hacc.1, zac2]; rfl⟩
set_option maxRecDepth 4000 in
theorem x_inOf {K : ZKh} {P : Nat → Nat → List Value → List Value → ZMi → ZMl → ZMr → ZRt → Prop} {I : ZMi} {L : ZMl} {R : ZMr} {Q : ZRt} (hP : ZCl K P) {nS nP nW : Nat} {S : ZS} (hKb : zKb K) (hRb : zRb R) (hD : zD I 0 S nS nP nW) (hs1 : 1 ≤ nS) (hp1 : 1 ≤ nP) (hp8 : nP ≤ 8) (hs6 : nS ≤ 6) (hw6 : nW ≤ 6) {st s0 t o f : Nat} {m out fin : Int32} (hst : st < 256) (hs0 : s0 < nS) (ht : t < 3) (ho : ∀ s, s < 6 → (nI s = out ↔ s = o)) (hf : ∀ s, s < 6 → (nI s = fin ↔ s = f)) (h : Q (some (.int (zin S nP st m o f s0 t))) I L R) : P 130 0 [.ref 119, .int (nI st), .int (nI s0), .int (nI t), .int m, .int out, .int fin, .null, .null, .null, .null] [] I L R Q := by
  refine r_ic hP c130_0 ?_
  refine r_is (ls' := [.ref 119, .int (nI st), .int (nI s0), .int (nI t), .int m, .int out, .int fin, .int 0, .null, .null, .null]) hP c130_1 (Nat.le_of_ble_eq_true rfl) rfl ?_
  refine r_ic hP c130_3 ?_
  refine r_is (ls' := [.ref 119, .int (nI st), .int (nI s0), .int (nI t), .int m, .int out, .int fin, .int 0, .int 0, .null, .null]) hP c130_4 (Nat.le_of_ble_eq_true rfl) rfl ?_
  refine r_ic hP c130_6 ?_
  refine r_is (ls' := [.ref 119, .int (nI st), .int (nI s0), .int (nI t), .int m, .int out, .int fin, .int 0, .int 0, .int 0, .null]) hP c130_7 (Nat.le_of_ble_eq_true rfl) rfl ?_
  exact x_inS hP hKb hRb hD hs1 hp1 hp8 hs6 hw6 hst hs0 ht ho hf h 0 (Nat.zero_le _) _ _ _ ⟨rfl, fun q => absurd q (by decide)⟩
set_option maxRecDepth 4000 in
theorem x_endOf {K : ZKh} {P : Nat → Nat → List Value → List Value → ZMi → ZMl → ZMr → ZRt → Prop} {I : ZMi} {L : ZMl} {R : ZMr} {Q : ZRt} (hP : ZCl K P) {nS nP nW : Nat} {S : ZS} (hKb : zKb K) (hRb : zRb R) (hD : zD I 0 S nS nP nW) (hs1 : 1 ≤ nS) (hp1 : 1 ≤ nP) (hp8 : nP ≤ 8) (hs6 : nS ≤ 6) (hw6 : nW ≤ 6) {st t o f : Nat} {m out fin : Int32} (hst : st < 256) (ht : t < 3) (ho : ∀ s, s < 6 → (nI s = out ↔ s = o)) (hf : ∀ s, s < 6 → (nI s = fin ↔ s = f)) (h : Q (some (.int (zhd S nP st m o f t nS))) I L R) : P 131 0 [.ref 119, .int (nI st), .int (nI t), .int m, .int out, .int fin, .null] [] I L R Q := by
  refine r_al hP c131_0 rfl ?_
  refine r_gR (x := 121) hP c131_1 (zj119 hKb) (zr119_2 hRb) ?_
  refine r_ic hP c131_4 ?_
  refine r_iald (j := 0) (x := nI nS) hP c131_5 (zk121 hKb) rfl (by decide) hD.1 ?_
  refine r_ic hP c131_6 ?_
  refine r_isub hP c131_7 ?_
  refine r_ti (y := nI (nS - 1)) (pk_sub (b := 1) hs1) ?_
  refine r_is (ls' := [.ref 119, .int (nI st), .int (nI t), .int m, .int out, .int fin, .int (nI (nS - 1))]) hP c131_8 (Nat.le_of_ble_eq_true rfl) rfl ?_
  refine r_il hP c131_10 rfl ?_
  refine r_il hP c131_12 rfl ?_
  refine r_ine hP c131_14 (fun h14 => ?_) (fun h14 => ?_)
  · refine r_al hP c131_21 rfl ?_
    refine r_il hP c131_22 rfl ?_
    refine r_il hP c131_23 rfl ?_
    refine r_il hP c131_25 rfl ?_
    refine r_il hP c131_26 rfl ?_
    refine r_il hP c131_27 rfl ?_
    refine r_il hP c131_29 rfl ?_
    refine r_cVi (as := [.int (nI st), .int (nI (nS - 1)), .int (nI t), .int m, .int out, .int fin]) (r := []) (I' := I) (L' := L) (R' := R) (x := zin S nP st m o f (nS - 1) t) (a := 119) hP c131_31 rfl (zj119 hKb) rfl (fun _ hq => x_inOf hP hKb hRb hD hs1 hp1 hp8 hs6 hw6 hst (by omega) ht ho hf hq) ?_
    refine r_al hP c131_34 rfl ?_
    refine r_gR (x := 122) hP c131_35 (zj119 hKb) (zr119_3 hRb) ?_
    refine r_il hP c131_38 rfl ?_
    refine r_iald (j := nS - 1) (x := S 0 (nS - 1) 0) hP c131_40 (zk122 hKb) rfl (by omega) (zD_g hD (by omega)) ?_
    refine r_imul hP c131_41 ?_
    refine r_ic hP c131_42 ?_
    refine r_idiv hP c131_44 (by decide) ?_
    exact r_irE hP c131_45 h (by rw [show nS = nS - 1 + 1 from (by omega), zhd]; first | rw [if_pos ((ho (nS - 1) (by omega)).mp h14)] | (rw [if_neg (fun q => h14 ((ho (nS - 1) (by omega)).mpr q))]; rfl))
  · refine r_ic hP c131_17 ?_
    refine r_goto hP c131_18 ?_
    exact r_irE hP c131_45 h (by rw [show nS = nS - 1 + 1 from (by omega), zhd]; first | rw [if_pos ((ho (nS - 1) (by omega)).mp h14)] | (rw [if_neg (fun q => h14 ((ho (nS - 1) (by omega)).mpr q))]; rfl))
set_option maxRecDepth 4000 in
theorem x_heardOf_l {K : ZKh} {P : Nat → Nat → List Value → List Value → ZMi → ZMl → ZMr → ZRt → Prop} {I : ZMi} {L : ZMl} {R : ZMr} {Q : ZRt} (hP : ZCl K P) {nS nP nW : Nat} {S : ZS} (hKb : zKb K) (hRb : zRb R) (hD : zD I 0 S nS nP nW) (hs1 : 1 ≤ nS) (hp1 : 1 ≤ nP) (hp8 : nP ≤ 8) (hs6 : nS ≤ 6) (hw6 : nW ≤ 6) {st o f : Nat} {m out fin : Int32} (hst : st < 256) (ho : ∀ s, s < 6 → (nI s = out ↔ s = o)) (hf : ∀ s, s < 6 → (nI s = fin ↔ s = f)) (h : Q (some (.int (zth S (fun t => zhd S nP st m o f t nS) 3))) I L R) : ∀ t, t ≤ 3 → ∀ (acc : Int32), acc = zth S (fun t => zhd S nP st m o f t nS) t → P 132 6 [.ref 119, .int (nI st), .int m, .int out, .int fin, .int acc, .int (nI t)] [] I L R Q := by
  refine zloop 3 (fun t => ∀ (acc : Int32), acc = zth S (fun t => zhd S nP st m o f t nS) t → P 132 6 [.ref 119, .int (nI st), .int m, .int out, .int fin, .int acc, .int (nI t)] [] I L R Q) ?_
  intro t hle ih acc hacc
  refine r_il hP c132_6 rfl ?_
  refine r_ic hP c132_8 ?_
  refine r_ige hP c132_9 (fun h9 => ?_) (fun h9 => ?_)
  · have he : t = 3 := Nat.le_antisymm hle ((nI_leI (by omega) (by omega)).mp h9)
    refine r_il hP c132_55 rfl ?_
    exact r_irE hP c132_57 h (by rw [hacc, he])
  · have hlt : t < 3 := by
      rcases Nat.lt_or_ge t 3 with q | q
      · exact q
      · exact absurd (nI_le q (by omega)) h9
    refine r_il hP c132_12 rfl ?_
    refine r_al hP c132_14 rfl ?_
    refine r_il hP c132_15 rfl ?_
    refine r_il hP c132_16 rfl ?_
    refine r_il hP c132_18 rfl ?_
    refine r_il hP c132_19 rfl ?_
    refine r_il hP c132_20 rfl ?_
    refine r_cVi (as := [.int (nI st), .int (nI t), .int m, .int out, .int fin]) (r := [.int acc]) (I' := I) (L' := L) (R' := R) (x := zhd S nP st m o f t nS) (a := 119) hP c132_22 rfl (zj119 hKb) rfl (fun _ hq => x_endOf hP hKb hRb hD hs1 hp1 hp8 hs6 hw6 hst (by omega) ho hf hq) ?_
    refine r_cSi (as := [.int (zhd S nP st m o f t nS)]) (r := [.int acc]) (I' := I) (L' := L) (R' := R) (x := zabs (zhd S nP st m o f t nS)) hP c132_25 rfl rfl (fun _ hq => x_up hP hq) ?_
    refine r_al hP c132_28 rfl ?_
    refine r_gR (x := 141) hP c132_29 (zj119 hKb) (zr119_22 hRb) ?_
    refine r_il hP c132_32 rfl ?_
    refine r_iald (j := t) (x := S 15 t 0) hP c132_34 (zk141 hKb) rfl (by omega) (zD_e hD (by omega)) ?_
    refine r_ilt hP c132_35 (fun h35 => ?_) (fun h35 => ?_)
    · refine r_ic hP c132_45 ?_
      refine r_ior hP c132_46 ?_
      refine r_is (ls' := [.ref 119, .int (nI st), .int m, .int out, .int fin, .int (acc ||| 0), .int (nI t)]) hP c132_47 (Nat.le_of_ble_eq_true rfl) rfl ?_
      refine r_inc (y := nI (t + 1)) (ls' := [.ref 119, .int (nI st), .int m, .int out, .int fin, .int (acc ||| 0), .int (nI (t + 1))]) hP c132_49 rfl (nI_1 _) rfl ?_
      refine r_goto hP c132_52 ?_
      exact ih hlt _ (by rw [hacc, zth]; first | rw [if_pos (Int32.not_lt.mp h35)] | (rw [if_neg (fun q => absurd h35 (Int32.not_lt.mpr q))]; exact Int32.or_zero))
    · refine r_ic hP c132_38 ?_
      refine r_il hP c132_39 rfl ?_
      refine r_ishl hP c132_41 ?_
      refine r_goto hP c132_42 ?_
      refine r_ior hP c132_46 ?_
      refine r_is (ls' := [.ref 119, .int (nI st), .int m, .int out, .int fin, .int (acc ||| (1 <<< ((nI t) &&& 31))), .int (nI t)]) hP c132_47 (Nat.le_of_ble_eq_true rfl) rfl ?_
      refine r_inc (y := nI (t + 1)) (ls' := [.ref 119, .int (nI st), .int m, .int out, .int fin, .int (acc ||| (1 <<< ((nI t) &&& 31))), .int (nI (t + 1))]) hP c132_49 rfl (nI_1 _) rfl ?_
      refine r_goto hP c132_52 ?_
      exact ih hlt _ (by rw [hacc, zth]; first | rw [if_pos (Int32.not_lt.mp h35)] | (rw [if_neg (fun q => absurd h35 (Int32.not_lt.mpr q))]; exact Int32.or_zero))
set_option maxRecDepth 4000 in
theorem x_heardOf {K : ZKh} {P : Nat → Nat → List Value → List Value → ZMi → ZMl → ZMr → ZRt → Prop} {I : ZMi} {L : ZMl} {R : ZMr} {Q : ZRt} (hP : ZCl K P) {nS nP nW : Nat} {S : ZS} (hKb : zKb K) (hRb : zRb R) (hD : zD I 0 S nS nP nW) (hs1 : 1 ≤ nS) (hp1 : 1 ≤ nP) (hp8 : nP ≤ 8) (hs6 : nS ≤ 6) (hw6 : nW ≤ 6) {st o f : Nat} {m out fin : Int32} (hst : st < 256) (ho : ∀ s, s < 6 → (nI s = out ↔ s = o)) (hf : ∀ s, s < 6 → (nI s = fin ↔ s = f)) (h : Q (some (.int (zth S (fun t => zhd S nP st m o f t nS) 3))) I L R) : P 132 0 [.ref 119, .int (nI st), .int m, .int out, .int fin, .null, .null] [] I L R Q := by
  refine r_ic hP c132_0 ?_
  refine r_is (ls' := [.ref 119, .int (nI st), .int m, .int out, .int fin, .int 0, .null]) hP c132_1 (Nat.le_of_ble_eq_true rfl) rfl ?_
  refine r_ic hP c132_3 ?_
  refine r_is (ls' := [.ref 119, .int (nI st), .int m, .int out, .int fin, .int 0, .int 0]) hP c132_4 (Nat.le_of_ble_eq_true rfl) rfl ?_
  exact x_heardOf_l hP hKb hRb hD hs1 hp1 hp8 hs6 hw6 hst ho hf h 0 (Nat.zero_le _) _ rfl
theorem zno4 : ∀ s, s < 6 → (nI s = -4 ↔ s = 100) := by decide +kernel
set_option maxRecDepth 4000 in
theorem x_loudOf_l {K : ZKh} {P : Nat → Nat → List Value → List Value → ZMi → ZMl → ZMr → ZRt → Prop} {I : ZMi} {L : ZMl} {R : ZMr} {Q : ZRt} (hP : ZCl K P) {nS nP nW : Nat} {S : ZS} (hKb : zKb K) (hRb : zRb R) (hD : zD I 0 S nS nP nW) (hs1 : 1 ≤ nS) (hp1 : 1 ≤ nP) (hp8 : nP ≤ 8) (hs6 : nS ≤ 6) (hw6 : nW ≤ 6) {st : Nat} (hst : st < 256) (h : Q (some (.int (zsum (fun t => zhd S nP st 30 100 100 t nS) 3))) I L R) : ∀ t, t ≤ 3 → ∀ (acc : Int32), acc = zsum (fun t => zhd S nP st 30 100 100 t nS) t → P 133 4 [.ref 119, .int (nI st), .int acc, .int (nI t)] [] I L R Q := by
  refine zloop 3 (fun t => ∀ (acc : Int32), acc = zsum (fun t => zhd S nP st 30 100 100 t nS) t → P 133 4 [.ref 119, .int (nI st), .int acc, .int (nI t)] [] I L R Q) ?_
  intro t hle ih acc hacc
  refine r_il hP c133_4 rfl ?_
  refine r_ic hP c133_5 ?_
  refine r_ige hP c133_6 (fun h6 => ?_) (fun h6 => ?_)
  · have he : t = 3 := Nat.le_antisymm hle ((nI_leI (by omega) (by omega)).mp h6)
    refine r_il hP c133_33 rfl ?_
    exact r_irE hP c133_34 h (by rw [hacc, he])
  · have hlt : t < 3 := by
      rcases Nat.lt_or_ge t 3 with q | q
      · exact q
      · exact absurd (nI_le q (by omega)) h6
    refine r_il hP c133_9 rfl ?_
    refine r_al hP c133_10 rfl ?_
    refine r_il hP c133_11 rfl ?_
    refine r_il hP c133_12 rfl ?_
    refine r_ic hP c133_13 ?_
    refine r_ic hP c133_15 ?_
    refine r_ic hP c133_17 ?_
    refine r_cVi (as := [.int (nI st), .int (nI t), .int 30, .int (-4), .int (-4)]) (r := [.int acc]) (I' := I) (L' := L) (R' := R) (x := zhd S nP st 30 100 100 t nS) (a := 119) hP c133_19 rfl (zj119 hKb) rfl (fun _ hq => x_endOf hP hKb hRb hD hs1 hp1 hp8 hs6 hw6 hst (by omega) zno4 zno4 hq) ?_
    refine r_cSi (as := [.int (zhd S nP st 30 100 100 t nS)]) (r := [.int acc]) (I' := I) (L' := L) (R' := R) (x := zabs (zhd S nP st 30 100 100 t nS)) hP c133_22 rfl rfl (fun _ hq => x_up hP hq) ?_
    refine r_iadd hP c133_25 ?_
    refine r_is (ls' := [.ref 119, .int (nI st), .int (acc + (zabs (zhd S nP st 30 100 100 t nS))), .int (nI t)]) hP c133_26 (Nat.le_of_ble_eq_true rfl) rfl ?_
    refine r_inc (y := nI (t + 1)) (ls' := [.ref 119, .int (nI st), .int (acc + (zabs (zhd S nP st 30 100 100 t nS))), .int (nI (t + 1))]) hP c133_27 rfl (nI_1 _) rfl ?_
    refine r_goto hP c133_30 ?_
    exact ih hlt _ (by rw [hacc]; rfl)
set_option maxRecDepth 4000 in
theorem x_loudOf {K : ZKh} {P : Nat → Nat → List Value → List Value → ZMi → ZMl → ZMr → ZRt → Prop} {I : ZMi} {L : ZMl} {R : ZMr} {Q : ZRt} (hP : ZCl K P) {nS nP nW : Nat} {S : ZS} (hKb : zKb K) (hRb : zRb R) (hD : zD I 0 S nS nP nW) (hs1 : 1 ≤ nS) (hp1 : 1 ≤ nP) (hp8 : nP ≤ 8) (hs6 : nS ≤ 6) (hw6 : nW ≤ 6) {st : Nat} (hst : st < 256) (h : Q (some (.int (zsum (fun t => zhd S nP st 30 100 100 t nS) 3))) I L R) : P 133 0 [.ref 119, .int (nI st), .null, .null] [] I L R Q := by
  refine r_ic hP c133_0 ?_
  refine r_is (ls' := [.ref 119, .int (nI st), .int 0, .null]) hP c133_1 (Nat.le_of_ble_eq_true rfl) rfl ?_
  refine r_ic hP c133_2 ?_
  refine r_is (ls' := [.ref 119, .int (nI st), .int 0, .int 0]) hP c133_3 (Nat.le_of_ble_eq_true rfl) rfl ?_
  exact x_loudOf_l hP hKb hRb hD hs1 hp1 hp8 hs6 hw6 hst h 0 (Nat.zero_le _) _ rfl
set_option maxRecDepth 4000 in
theorem x_askOf0 {K : ZKh} {P : Nat → Nat → List Value → List Value → ZMi → ZMl → ZMr → ZRt → Prop} {I : ZMi} {L : ZMl} {R : ZMr} {Q : ZRt} (hP : ZCl K P) {nS nP nW : Nat} {S : ZS} (hKb : zKb K) (hRb : zRb R) (hD : zD I 0 S nS nP nW) (hs1 : 1 ≤ nS) (hp1 : 1 ≤ nP) (hp8 : nP ≤ 8) (hs6 : nS ≤ 6) (hw6 : nW ≤ 6) {st j : Nat} {m : Int32} (hst : st < 256) (hj : j < 1) (h : Q (some (.int (zrep S nS nP st 0 j m))) I L R) : P 138 0 [.ref 119, .int (nI st), .int 0, .int (nI j), .int m, .null, .null] [] I L R Q := by
  refine r_il hP c138_0 rfl ?_
  refine r_sw hP c138_1 ?_
  refine zsw_c (fun hz => absurd hz (by decide)) (fun _ => ?_)
  refine zsw_c (fun hz => absurd hz (by decide)) (fun _ => ?_)
  refine zsw_c (fun hz => absurd hz (by decide)) (fun _ => ?_)
  refine zsw_c (fun hz => absurd hz (by decide)) (fun _ => ?_)
  refine zsw_n ?_
  refine r_al hP c138_146 rfl ?_
  refine r_il hP c138_147 rfl ?_
  refine r_il hP c138_148 rfl ?_
  refine r_ic hP c138_150 ?_
  refine r_ic hP c138_152 ?_
  refine r_cVi (as := [.int (nI st), .int m, .int (-4), .int (-4)]) (r := []) (I' := I) (L' := L) (R' := R) (x := zth S (fun t => zhd S nP st m 100 100 t nS) 3) (a := 119) hP c138_154 rfl (zj119 hKb) rfl (fun _ hq => x_heardOf hP hKb hRb hD hs1 hp1 hp8 hs6 hw6 hst zno4 zno4 hq) ?_
  exact r_irE hP c138_157 h (by first | (simp [zrep]; done) | (simp [zrep, h61]; done))
set_option maxRecDepth 4000 in
theorem x_askOf1 {K : ZKh} {P : Nat → Nat → List Value → List Value → ZMi → ZMl → ZMr → ZRt → Prop} {I : ZMi} {L : ZMl} {R : ZMr} {Q : ZRt} (hP : ZCl K P) {nS nP nW : Nat} {S : ZS} (hKb : zKb K) (hRb : zRb R) (hD : zD I 0 S nS nP nW) (hs1 : 1 ≤ nS) (hp1 : 1 ≤ nP) (hp8 : nP ≤ 8) (hs6 : nS ≤ 6) (hw6 : nW ≤ 6) {st j : Nat} {m : Int32} (hst : st < 256) (hj : j < nS) (h : Q (some (.int (zrep S nS nP st 1 j m))) I L R) : P 138 0 [.ref 119, .int (nI st), .int 1, .int (nI j), .int m, .null, .null] [] I L R Q := by
  refine r_il hP c138_0 rfl ?_
  refine r_sw hP c138_1 ?_
  refine zsw_c (fun _ => ?_) (fun hz => absurd rfl hz)
  refine r_al hP c138_32 rfl ?_
  refine r_il hP c138_33 rfl ?_
  refine r_il hP c138_34 rfl ?_
  refine r_il hP c138_36 rfl ?_
  refine r_ic hP c138_37 ?_
  refine r_cVi (as := [.int (nI st), .int m, .int (nI j), .int (-4)]) (r := []) (I' := I) (L' := L) (R' := R) (x := zth S (fun t => zhd S nP st m j 100 t nS) 3) (a := 119) hP c138_39 rfl (zj119 hKb) rfl (fun _ hq => x_heardOf hP hKb hRb hD hs1 hp1 hp8 hs6 hw6 hst (zyes (by omega)) zno4 hq) ?_
  exact r_irE hP c138_42 h (by first | (simp [zrep]; done) | (simp [zrep, h61]; done))
set_option maxRecDepth 4000 in
theorem x_askOf2 {K : ZKh} {P : Nat → Nat → List Value → List Value → ZMi → ZMl → ZMr → ZRt → Prop} {I : ZMi} {L : ZMl} {R : ZMr} {Q : ZRt} (hP : ZCl K P) {nS nP nW : Nat} {S : ZS} (hKb : zKb K) (hRb : zRb R) (hD : zD I 0 S nS nP nW) (hs1 : 1 ≤ nS) (hp1 : 1 ≤ nP) (hp8 : nP ≤ 8) (hs6 : nS ≤ 6) (hw6 : nW ≤ 6) {st j : Nat} {m : Int32} (hst : st < 256) (hj : j < nS) (h : Q (some (.int (zrep S nS nP st 2 j m))) I L R) : P 138 0 [.ref 119, .int (nI st), .int 2, .int (nI j), .int m, .null, .null] [] I L R Q := by
  refine r_il hP c138_0 rfl ?_
  refine r_sw hP c138_1 ?_
  refine zsw_c (fun hz => absurd hz (by decide)) (fun _ => ?_)
  refine zsw_c (fun _ => ?_) (fun hz => absurd rfl hz)
  refine r_al hP c138_43 rfl ?_
  refine r_il hP c138_44 rfl ?_
  refine r_il hP c138_45 rfl ?_
  refine r_ic hP c138_47 ?_
  refine r_il hP c138_49 rfl ?_
  refine r_cVi (as := [.int (nI st), .int m, .int (-4), .int (nI j)]) (r := []) (I' := I) (L' := L) (R' := R) (x := zth S (fun t => zhd S nP st m 100 j t nS) 3) (a := 119) hP c138_50 rfl (zj119 hKb) rfl (fun _ hq => x_heardOf hP hKb hRb hD hs1 hp1 hp8 hs6 hw6 hst zno4 (zyes (by omega)) hq) ?_
  exact r_irE hP c138_53 h (by first | (simp [zrep]; done) | (simp [zrep, h61]; done))
set_option maxRecDepth 4000 in
theorem x_askOf3 {K : ZKh} {P : Nat → Nat → List Value → List Value → ZMi → ZMl → ZMr → ZRt → Prop} {I : ZMi} {L : ZMl} {R : ZMr} {Q : ZRt} (hP : ZCl K P) {nS nP nW : Nat} {S : ZS} (hKb : zKb K) (hRb : zRb R) (hD : zD I 0 S nS nP nW) (hs1 : 1 ≤ nS) (hp1 : 1 ≤ nP) (hp8 : nP ≤ 8) (hs6 : nS ≤ 6) (hw6 : nW ≤ 6) {st j : Nat} {m : Int32} (hst : st < 256) (hj : j < nP) (h : Q (some (.int (zrep S nS nP st 3 j m))) I L R) : P 138 0 [.ref 119, .int (nI st), .int 3, .int (nI j), .int m, .null, .null] [] I L R Q := by
  refine r_il hP c138_0 rfl ?_
  refine r_sw hP c138_1 ?_
  refine zsw_c (fun hz => absurd hz (by decide)) (fun _ => ?_)
  refine zsw_c (fun hz => absurd hz (by decide)) (fun _ => ?_)
  refine zsw_c (fun _ => ?_) (fun hz => absurd rfl hz)
  refine r_al hP c138_54 rfl ?_
  refine r_al hP c138_55 rfl ?_
  refine r_gR (x := 126) hP c138_56 (zj119 hKb) (zr119_7 hRb) ?_
  refine r_il hP c138_59 rfl ?_
  refine r_iald (j := j) (x := S 4 j 0) hP c138_60 (zk126 hKb) rfl (by omega) (zD_f hD (by omega) 2 (by decide) (by decide)) ?_
  refine r_ifne hP c138_61 (fun h61 => ?_) (fun h61 => ?_)
  · refine r_il hP c138_74 rfl ?_
    refine r_il hP c138_75 rfl ?_
    refine r_ic hP c138_77 ?_
    refine r_ic hP c138_79 ?_
    refine r_cVi (as := [.int (nI st), .int m, .int (-4), .int (-4)]) (r := []) (I' := I) (L' := L) (R' := R) (x := zth S (fun t => zhd S nP st m 100 100 t nS) 3) (a := 119) hP c138_81 rfl (zj119 hKb) rfl (fun _ hq => x_heardOf hP hKb hRb hD hs1 hp1 hp8 hs6 hw6 hst zno4 zno4 hq) ?_
    exact r_irE hP c138_84 h (by first | (simp [zrep]; done) | (simp [zrep, h61]; done))
  · refine r_il hP c138_64 rfl ?_
    refine r_ic hP c138_65 ?_
    refine r_il hP c138_66 rfl ?_
    refine r_ishl hP c138_67 ?_
    refine r_ic hP c138_68 ?_
    refine r_ixor hP c138_69 ?_
    refine r_iand hP c138_70 ?_
    refine r_ti (y := nI (zclr st j)) (zclr_c st hst j (by omega)) ?_
    refine r_goto hP c138_71 ?_
    refine r_il hP c138_75 rfl ?_
    refine r_ic hP c138_77 ?_
    refine r_ic hP c138_79 ?_
    refine r_cVi (as := [.int (nI (zclr st j)), .int m, .int (-4), .int (-4)]) (r := []) (I' := I) (L' := L) (R' := R) (x := zth S (fun t => zhd S nP (zclr st j) m 100 100 t nS) 3) (a := 119) hP c138_81 rfl (zj119 hKb) rfl (fun _ hq => x_heardOf hP hKb hRb hD hs1 hp1 hp8 hs6 hw6 (Nat.lt_of_le_of_lt (zclr_le st j) hst) zno4 zno4 hq) ?_
    exact r_irE hP c138_84 h (by first | (simp [zrep]; done) | (simp [zrep, h61]; done))
set_option maxRecDepth 4000 in
theorem x_askOf4_l {K : ZKh} {P : Nat → Nat → List Value → List Value → ZMi → ZMl → ZMr → ZRt → Prop} {I : ZMi} {L : ZMl} {R : ZMr} {Q : ZRt} (hP : ZCl K P) {nS nP nW : Nat} {S : ZS} (hKb : zKb K) (hRb : zRb R) (hD : zD I 0 S nS nP nW) (hs1 : 1 ≤ nS) (hp1 : 1 ≤ nP) (hp8 : nP ≤ 8) (hs6 : nS ≤ 6) (hw6 : nW ≤ 6) {st j : Nat} {m : Int32} (hst : st < 256) (hj : j < nS) (h : Q (some (.int (zrep S nS nP st 4 j m))) I L R) : ∀ t, t ≤ 3 → ∀ (acc : Int32), acc = zsum (fun t => zin S nP st m 100 100 j t) t → P 138 91 [.ref 119, .int (nI st), .int 4, .int (nI j), .int m, .int acc, .int (nI t)] [] I L R Q := by
  refine zloop 3 (fun t => ∀ (acc : Int32), acc = zsum (fun t => zin S nP st m 100 100 j t) t → P 138 91 [.ref 119, .int (nI st), .int 4, .int (nI j), .int m, .int acc, .int (nI t)] [] I L R Q) ?_
  intro t hle ih acc hacc
  refine r_il hP c138_91 rfl ?_
  refine r_ic hP c138_93 ?_
  refine r_ige hP c138_94 (fun h94 => ?_) (fun h94 => ?_)
  · have he : t = 3 := Nat.le_antisymm hle ((nI_leI (by omega) (by omega)).mp h94)
    refine r_il hP c138_125 rfl ?_
    refine r_ic hP c138_127 ?_
    refine r_idiv hP c138_129 (by decide) ?_
    refine r_ic hP c138_130 ?_
    refine r_ile hP c138_132 (fun h132 => ?_) (fun h132 => ?_)
    · refine r_il hP c138_140 rfl ?_
      refine r_ic hP c138_142 ?_
      refine r_idiv hP c138_144 (by decide) ?_
      exact r_irE hP c138_145 h (by subst he; subst hacc; simp only [zrep, zmin9, if_pos]; first | (rw [if_neg (fun q => absurd (Int32.not_le.mp h132) (by rw [z_lt] at *; omega))]; done) | (by_cases q9 : zsum (fun t => zin S nP st m 100 100 j t) 3 / 20 < 9; rw [if_pos q9]; rw [if_neg q9]; exact Int32.le_antisymm h132 (Int32.not_lt.mp q9)))
    · refine r_ic hP c138_135 ?_
      refine r_goto hP c138_137 ?_
      exact r_irE hP c138_145 h (by subst he; subst hacc; simp only [zrep, zmin9, if_pos]; first | (rw [if_neg (fun q => absurd (Int32.not_le.mp h132) (by rw [z_lt] at *; omega))]; done) | (by_cases q9 : zsum (fun t => zin S nP st m 100 100 j t) 3 / 20 < 9; rw [if_pos q9]; rw [if_neg q9]; exact Int32.le_antisymm h132 (Int32.not_lt.mp q9)))
  · have hlt : t < 3 := by
      rcases Nat.lt_or_ge t 3 with q | q
      · exact q
      · exact absurd (nI_le q (by omega)) h94
    refine r_il hP c138_97 rfl ?_
    refine r_al hP c138_99 rfl ?_
    refine r_il hP c138_100 rfl ?_
    refine r_il hP c138_101 rfl ?_
    refine r_il hP c138_102 rfl ?_
    refine r_il hP c138_104 rfl ?_
    refine r_ic hP c138_106 ?_
    refine r_ic hP c138_108 ?_
    refine r_cVi (as := [.int (nI st), .int (nI j), .int (nI t), .int m, .int (-4), .int (-4)]) (r := [.int acc]) (I' := I) (L' := L) (R' := R) (x := zin S nP st m 100 100 j t) (a := 119) hP c138_110 rfl (zj119 hKb) rfl (fun _ hq => x_inOf hP hKb hRb hD hs1 hp1 hp8 hs6 hw6 hst hj (by omega) zno4 zno4 hq) ?_
    refine r_cSi (as := [.int (zin S nP st m 100 100 j t)]) (r := [.int acc]) (I' := I) (L' := L) (R' := R) (x := zabs (zin S nP st m 100 100 j t)) hP c138_113 rfl rfl (fun _ hq => x_up hP hq) ?_
    refine r_iadd hP c138_116 ?_
    refine r_is (ls' := [.ref 119, .int (nI st), .int 4, .int (nI j), .int m, .int (acc + (zabs (zin S nP st m 100 100 j t))), .int (nI t)]) hP c138_117 (Nat.le_of_ble_eq_true rfl) rfl ?_
    refine r_inc (y := nI (t + 1)) (ls' := [.ref 119, .int (nI st), .int 4, .int (nI j), .int m, .int (acc + (zabs (zin S nP st m 100 100 j t))), .int (nI (t + 1))]) hP c138_119 rfl (nI_1 _) rfl ?_
    refine r_goto hP c138_122 ?_
    exact ih hlt _ (by rw [hacc]; rfl)
set_option maxRecDepth 4000 in
theorem x_askOf4 {K : ZKh} {P : Nat → Nat → List Value → List Value → ZMi → ZMl → ZMr → ZRt → Prop} {I : ZMi} {L : ZMl} {R : ZMr} {Q : ZRt} (hP : ZCl K P) {nS nP nW : Nat} {S : ZS} (hKb : zKb K) (hRb : zRb R) (hD : zD I 0 S nS nP nW) (hs1 : 1 ≤ nS) (hp1 : 1 ≤ nP) (hp8 : nP ≤ 8) (hs6 : nS ≤ 6) (hw6 : nW ≤ 6) {st j : Nat} {m : Int32} (hst : st < 256) (hj : j < nS) (h : Q (some (.int (zrep S nS nP st 4 j m))) I L R) : P 138 0 [.ref 119, .int (nI st), .int 4, .int (nI j), .int m, .null, .null] [] I L R Q := by
  refine r_il hP c138_0 rfl ?_
  refine r_sw hP c138_1 ?_
  refine zsw_c (fun hz => absurd hz (by decide)) (fun _ => ?_)
  refine zsw_c (fun hz => absurd hz (by decide)) (fun _ => ?_)
  refine zsw_c (fun hz => absurd hz (by decide)) (fun _ => ?_)
  refine zsw_c (fun _ => ?_) (fun hz => absurd rfl hz)
  refine r_ic hP c138_85 ?_
  refine r_is (ls' := [.ref 119, .int (nI st), .int 4, .int (nI j), .int m, .int 0, .null]) hP c138_86 (Nat.le_of_ble_eq_true rfl) rfl ?_
  refine r_ic hP c138_88 ?_
  refine r_is (ls' := [.ref 119, .int (nI st), .int 4, .int (nI j), .int m, .int 0, .int 0]) hP c138_89 (Nat.le_of_ble_eq_true rfl) rfl ?_
  exact x_askOf4_l hP hKb hRb hD hs1 hp1 hp8 hs6 hw6 hst hj h 0 (Nat.zero_le _) _ rfl
theorem x_askOf {K : ZKh} {P : Nat → Nat → List Value → List Value → ZMi → ZMl → ZMr → ZRt → Prop} {I : ZMi} {L : ZMl} {R : ZMr} {Q : ZRt} (hP : ZCl K P) {nS nP nW : Nat} {S : ZS} (hKb : zKb K) (hRb : zRb R) (hD : zD I 0 S nS nP nW) (hs1 : 1 ≤ nS) (hp1 : 1 ≤ nP) (hp8 : nP ≤ 8) (hs6 : nS ≤ 6) (hw6 : nW ≤ 6) {st k j : Nat} {m : Int32} (hst : st < 256) (hk : k < 5) (hj : j < zak (nI k) nS nP) (h : Q (some (.int (zrep S nS nP st k j m))) I L R) : P 138 0 [.ref 119, .int (nI st), .int (nI k), .int (nI j), .int m, .null, .null] [] I L R Q := by
  match k, hk with
  | 0, _ => exact x_askOf0 hP hKb hRb hD hs1 hp1 hp8 hs6 hw6 hst hj h
  | 1, _ => exact x_askOf1 hP hKb hRb hD hs1 hp1 hp8 hs6 hw6 hst hj h
  | 2, _ => exact x_askOf2 hP hKb hRb hD hs1 hp1 hp8 hs6 hw6 hst hj h
  | 3, _ => exact x_askOf3 hP hKb hRb hD hs1 hp1 hp8 hs6 hw6 hst hj h
  | 4, _ => exact x_askOf4 hP hKb hRb hD hs1 hp1 hp8 hs6 hw6 hst hj h
  | n + 5, q => exact absurd q (by omega)
