/-! ===== the class's public questions ===== -/
abbrev zb2_ (x : Int32) (a b : Int32) : Prop := a ≤ x ∧ x ≤ b
theorem zb_nI {x b : Int32} {n : Nat} (hb : b = nI n) (hn : n < 2 ^ 31) (h : 0 ≤ x ∧ x ≤ b) : ∃ j : Nat, j ≤ n ∧ x = nI j := by
  subst hb
  refine nI_of2 (M := nI n) (nI_toInt hn) (fun q => ?_) h.2
  exact absurd h.1 (Int32.not_le.mpr q)
def f_part (S : ZS) (nP : Nat) (p w : Int32) : Int32 := if zr p nP ∧ zr w 6 then S (3 + w.toNatClampNeg) p.toNatClampNeg 0 else -1
def f_hum (S : ZS) (nS nP : Nat) (x t m : Int32) : Int32 := if zr x (2 ^ nP) ∧ (0 ≤ t ∧ t ≤ 2) ∧ (0 ≤ m ∧ m ≤ 30) then zhd S nP x.toNatClampNeg m 100 100 t.toNatClampNeg nS else -2147483648
def f_in (S : ZS) (nS nP : Nat) (x s t m : Int32) : Int32 := if zr x (2 ^ nP) ∧ zr s nS ∧ (0 ≤ t ∧ t ≤ 2) ∧ (0 ≤ m ∧ m ≤ 30) then zin S nP x.toNatClampNeg m 100 100 s.toNatClampNeg t.toNatClampNeg else -2147483648
def f_heard (S : ZS) (nS nP : Nat) (x m w : Int32) : Int32 := if zr x (2 ^ nP) ∧ (0 ≤ m ∧ m ≤ 30) ∧ (0 ≤ w ∧ w ≤ 1) then (if w = 0 then zth S (fun t => zhd S nP x.toNatClampNeg m 100 100 t nS) 3 else zsum (fun t => zhd S nP x.toNatClampNeg m 100 100 t nS) 3) else -1
def f_ask (S : ZS) (nS nP : Nat) (x k o m : Int32) : Int32 := if zr x (2 ^ nP) ∧ ((0 ≤ k ∧ k ≤ 4) ∧ zr o (zak k nS nP)) ∧ (0 ≤ m ∧ m ≤ 30) then zrep S nS nP x.toNatClampNeg k.toNatClampNeg o.toNatClampNeg m else -1
def f_risk (S : ZS) (nS nP : Nat) (k o : Int32) : Int32 := if (0 ≤ k ∧ k ≤ 4) ∧ zr o (zak k nS nP) then zrisk S nS nP k o else -1
def f_volts (S : ZS) (nP : Nat) (p m : Int32) : Int32 := if zr p nP ∧ (0 ≤ m ∧ m ≤ 999) then zvl S p.toNatClampNeg m.toNatClampNeg else -1
def f_goes (S : ZS) (nP : Nat) (p y : Int32) : Int32 := if zr p nP ∧ (1 ≤ y ∧ y ≤ 50) then 1000000 - zgone (S 16 (S 4 p.toNatClampNeg 0).toNatClampNeg 0) (S 5 p.toNatClampNeg 0) y.toNatClampNeg else -1
set_option maxRecDepth 4000 in
theorem x_part {K : ZKh} {P : Nat → Nat → List Value → List Value → ZMi → ZMl → ZMr → ZRt → Prop} {I : ZMi} {L : ZMl} {R : ZMr} {Q : ZRt} (hP : ZCl K P) {w nS nP nW : Nat} {S : ZS} (hK : zKa K) (hR : zRa R) (hw : zisW w) (hC : zC I w S nS nP nW) (hp8 : nP ≤ 8) (hs6 : nS ≤ 6) (hw6 : nW ≤ 6) (hs1 : 1 ≤ nS) (hp1 : 1 ≤ nP) (hsg : ∀ p, p < nP → ∃ a, a < nS ∧ S 3 p 0 = nI a) (hl9 : R 2 9 = w + 1) {p x : Int32} (h : Q (some (.int (f_part S nP p x))) I L R) : P 74 0 [.ref 2, .int p, .int x, .null] [] I L R Q := by
  have hp256 := zp256 hp8
  have hw39 := zW39 hw
  refine r_al hP c74_0 rfl ?_
  refine r_gR (x := w) hP c74_1 (zj2 hK) hl9 ?_
  refine r_il hP c74_4 rfl ?_
  refine r_cVi (as := [.int p]) (r := []) (I' := I) (L' := L) (R' := R) (x := if zr p nP then 1 else 0) (a := w) hP c74_5 rfl (zj_W hK hw) rfl (fun _ h2 => x_hasPart hP (zj_W hK hw) (zC_p hC) (by omega) h2) ?_
  refine r_ifneB hP c74_8 (fun h8 => ?_) (fun h8 => ?_)
  · obtain ⟨j, hj, rfl⟩ := (zr_iff (by omega)).mp h8
    refine r_al hP c74_13 rfl ?_
    refine r_gR (x := w) hP c74_14 (zj2 hK) hl9 ?_
    refine r_gR (x := w + 2) hP c74_17 (zj_W hK hw) (zr_pts hR hw) ?_
    refine r_il hP c74_20 rfl ?_
    refine r_aald (j := j) (x := w + 18 + 2 * j) hP c74_21 (zk_pts hK hw) rfl (by omega) (zr_prt hR hw (by omega)) ?_
    refine r_as (ls' := [.ref 2, .int (nI j), .int x, .ref (w + 18 + 2 * j)]) hP c74_22 (Nat.le_of_ble_eq_true rfl) rfl ?_
    refine r_il hP c74_23 rfl ?_
    refine r_sw hP c74_24 ?_
    refine zsw_c (fun h24_0 => ?_) (fun h24_0 => ?_)
    · refine r_al hP c74_64 rfl ?_
      refine r_gI (x := S 3 j 0) hP c74_65 (zj_prt hK hw (by omega)) (zC_f hC (by omega) 1 (by decide) (by decide)) ?_
      first
        | exact r_irE hP c74_68 h (by subst_vars; rw [f_part, if_pos ⟨h8, by decide⟩, nI_clamp (by omega)]; rfl)
        | exact r_irE hP c74_68 h (by rw [f_part, if_neg (fun q => h8 q.1)])
        | exact r_irE hP c74_68 h (by rw [f_part, if_neg (fun q => ?_)]; obtain ⟨i, hi, e⟩ := (zr_iff (by decide)).mp q.2; match i, hi, e with | 0, _, e => exact h24_0 e | 1, _, e => exact h24_1 e | 2, _, e => exact h24_2 e | 3, _, e => exact h24_3 e | 4, _, e => exact h24_4 e | 5, _, e => exact h24_5 e | n + 6, q, _ => exact absurd q (by omega))
    refine zsw_c (fun h24_1 => ?_) (fun h24_1 => ?_)
    · refine r_al hP c74_69 rfl ?_
      refine r_gI (x := S 4 j 0) hP c74_70 (zj_prt hK hw (by omega)) (zC_f hC (by omega) 2 (by decide) (by decide)) ?_
      first
        | exact r_irE hP c74_73 h (by subst_vars; rw [f_part, if_pos ⟨h8, by decide⟩, nI_clamp (by omega)]; rfl)
        | exact r_irE hP c74_73 h (by rw [f_part, if_neg (fun q => h8 q.1)])
        | exact r_irE hP c74_73 h (by rw [f_part, if_neg (fun q => ?_)]; obtain ⟨i, hi, e⟩ := (zr_iff (by decide)).mp q.2; match i, hi, e with | 0, _, e => exact h24_0 e | 1, _, e => exact h24_1 e | 2, _, e => exact h24_2 e | 3, _, e => exact h24_3 e | 4, _, e => exact h24_4 e | 5, _, e => exact h24_5 e | n + 6, q, _ => exact absurd q (by omega))
    refine zsw_c (fun h24_2 => ?_) (fun h24_2 => ?_)
    · refine r_al hP c74_74 rfl ?_
      refine r_gI (x := S 5 j 0) hP c74_75 (zj_prt hK hw (by omega)) (zC_f hC (by omega) 3 (by decide) (by decide)) ?_
      first
        | exact r_irE hP c74_78 h (by subst_vars; rw [f_part, if_pos ⟨h8, by decide⟩, nI_clamp (by omega)]; rfl)
        | exact r_irE hP c74_78 h (by rw [f_part, if_neg (fun q => h8 q.1)])
        | exact r_irE hP c74_78 h (by rw [f_part, if_neg (fun q => ?_)]; obtain ⟨i, hi, e⟩ := (zr_iff (by decide)).mp q.2; match i, hi, e with | 0, _, e => exact h24_0 e | 1, _, e => exact h24_1 e | 2, _, e => exact h24_2 e | 3, _, e => exact h24_3 e | 4, _, e => exact h24_4 e | 5, _, e => exact h24_5 e | n + 6, q, _ => exact absurd q (by omega))
    refine zsw_c (fun h24_3 => ?_) (fun h24_3 => ?_)
    · refine r_al hP c74_79 rfl ?_
      refine r_gI (x := S 6 j 0) hP c74_80 (zj_prt hK hw (by omega)) (zC_f hC (by omega) 4 (by decide) (by decide)) ?_
      first
        | exact r_irE hP c74_83 h (by subst_vars; rw [f_part, if_pos ⟨h8, by decide⟩, nI_clamp (by omega)]; rfl)
        | exact r_irE hP c74_83 h (by rw [f_part, if_neg (fun q => h8 q.1)])
        | exact r_irE hP c74_83 h (by rw [f_part, if_neg (fun q => ?_)]; obtain ⟨i, hi, e⟩ := (zr_iff (by decide)).mp q.2; match i, hi, e with | 0, _, e => exact h24_0 e | 1, _, e => exact h24_1 e | 2, _, e => exact h24_2 e | 3, _, e => exact h24_3 e | 4, _, e => exact h24_4 e | 5, _, e => exact h24_5 e | n + 6, q, _ => exact absurd q (by omega))
    refine zsw_c (fun h24_4 => ?_) (fun h24_4 => ?_)
    · refine r_al hP c74_84 rfl ?_
      refine r_gI (x := S 7 j 0) hP c74_85 (zj_prt hK hw (by omega)) (zC_f hC (by omega) 5 (by decide) (by decide)) ?_
      first
        | exact r_irE hP c74_88 h (by subst_vars; rw [f_part, if_pos ⟨h8, by decide⟩, nI_clamp (by omega)]; rfl)
        | exact r_irE hP c74_88 h (by rw [f_part, if_neg (fun q => h8 q.1)])
        | exact r_irE hP c74_88 h (by rw [f_part, if_neg (fun q => ?_)]; obtain ⟨i, hi, e⟩ := (zr_iff (by decide)).mp q.2; match i, hi, e with | 0, _, e => exact h24_0 e | 1, _, e => exact h24_1 e | 2, _, e => exact h24_2 e | 3, _, e => exact h24_3 e | 4, _, e => exact h24_4 e | 5, _, e => exact h24_5 e | n + 6, q, _ => exact absurd q (by omega))
    refine zsw_c (fun h24_5 => ?_) (fun h24_5 => ?_)
    · refine r_al hP c74_89 rfl ?_
      refine r_gI (x := S 8 j 0) hP c74_90 (zj_prt hK hw (by omega)) (zC_f hC (by omega) 6 (by decide) (by decide)) ?_
      first
        | exact r_irE hP c74_93 h (by subst_vars; rw [f_part, if_pos ⟨h8, by decide⟩, nI_clamp (by omega)]; rfl)
        | exact r_irE hP c74_93 h (by rw [f_part, if_neg (fun q => h8 q.1)])
        | exact r_irE hP c74_93 h (by rw [f_part, if_neg (fun q => ?_)]; obtain ⟨i, hi, e⟩ := (zr_iff (by decide)).mp q.2; match i, hi, e with | 0, _, e => exact h24_0 e | 1, _, e => exact h24_1 e | 2, _, e => exact h24_2 e | 3, _, e => exact h24_3 e | 4, _, e => exact h24_4 e | 5, _, e => exact h24_5 e | n + 6, q, _ => exact absurd q (by omega))
    refine zsw_n ?_
    refine r_ic hP c74_94 ?_
    first
      | exact r_irE hP c74_95 h (by subst_vars; rw [f_part, if_pos ⟨h8, by decide⟩, nI_clamp (by omega)]; rfl)
      | exact r_irE hP c74_95 h (by rw [f_part, if_neg (fun q => h8 q.1)])
      | exact r_irE hP c74_95 h (by rw [f_part, if_neg (fun q => ?_)]; obtain ⟨i, hi, e⟩ := (zr_iff (by decide)).mp q.2; match i, hi, e with | 0, _, e => exact h24_0 e | 1, _, e => exact h24_1 e | 2, _, e => exact h24_2 e | 3, _, e => exact h24_3 e | 4, _, e => exact h24_4 e | 5, _, e => exact h24_5 e | n + 6, q, _ => exact absurd q (by omega))
  · refine r_ic hP c74_11 ?_
    first
      | exact r_irE hP c74_12 h (by subst_vars; rw [f_part, if_pos ⟨h8, by decide⟩, nI_clamp (by omega)]; rfl)
      | exact r_irE hP c74_12 h (by rw [f_part, if_neg (fun q => h8 q.1)])
      | exact r_irE hP c74_12 h (by rw [f_part, if_neg (fun q => ?_)]; obtain ⟨i, hi, e⟩ := (zr_iff (by decide)).mp q.2; match i, hi, e with | 0, _, e => exact h24_0 e | 1, _, e => exact h24_1 e | 2, _, e => exact h24_2 e | 3, _, e => exact h24_3 e | 4, _, e => exact h24_4 e | 5, _, e => exact h24_5 e | n + 6, q, _ => exact absurd q (by omega))
set_option maxRecDepth 4000 in
theorem x_hum {K : ZKh} {P : Nat → Nat → List Value → List Value → ZMi → ZMl → ZMr → ZRt → Prop} {I : ZMi} {L : ZMl} {R : ZMr} {Q : ZRt} (hP : ZCl K P) {w nS nP nW : Nat} {S : ZS} (hK : zKa K) (hR : zRa R) (hw : zisW w) (hC : zC I w S nS nP nW) (hp8 : nP ≤ 8) (hs6 : nS ≤ 6) (hw6 : nW ≤ 6) (hs1 : 1 ≤ nS) (hp1 : 1 ≤ nP) (hsg : ∀ p, p < nP → ∃ a, a < nS ∧ S 3 p 0 = nI a) (hl9 : R 2 9 = w + 1) {x t0 m : Int32} (h : ∀ I2, zfr I I2 → Q (some (.int (f_hum S nS nP x t0 m))) I2 L R) : P 75 0 [.ref 2, .int x, .int t0, .int m] [] I L R Q := by
  have hp256 := zp256 hp8
  have hw39 := zW39 hw
  refine r_al hP c75_0 rfl ?_
  refine r_gR (x := w) hP c75_1 (zj2 hK) hl9 ?_
  refine r_il hP c75_4 rfl ?_
  refine r_cVi (as := [.int x]) (r := []) (I' := I) (L' := L) (R' := R) (x := if zr x (2 ^ nP) then 1 else 0) (a := w) hP c75_5 rfl (zj_W hK hw) rfl (fun _ hq => x_hasState hP hK hR hw hC hp8 hs6 hw6 hq) ?_
  refine r_ifeqB hP c75_8 (fun h8 => ?_) (fun h8 => ?_)
  · refine r_ic hP c75_25 ?_
    first
      | exact r_irE hP c75_27 (h _ (zfr_r I)) (by rw [f_hum, if_neg (fun q => h8 q.1)])
      | exact r_irE hP c75_27 (h _ (zfr_r I)) (by rw [f_hum, if_neg (fun q => h15 q.2.1)])
      | exact r_irE hP c75_27 (h _ (zfr_r I)) (by rw [f_hum, if_neg (fun q => h22 q.2.2)])
  · refine r_il hP c75_11 rfl ?_
    refine r_cSi (as := [.int t0]) (r := []) (I' := I) (L' := L) (R' := R) (x := if 0 ≤ t0 ∧ t0 ≤ 2 then 1 else 0) hP c75_12 rfl rfl (fun _ h2 => x_isTone hP h2) ?_
    refine r_ifeqB hP c75_15 (fun h15 => ?_) (fun h15 => ?_)
    · refine r_ic hP c75_25 ?_
      first
        | exact r_irE hP c75_27 (h _ (zfr_r I)) (by rw [f_hum, if_neg (fun q => h8 q.1)])
        | exact r_irE hP c75_27 (h _ (zfr_r I)) (by rw [f_hum, if_neg (fun q => h15 q.2.1)])
        | exact r_irE hP c75_27 (h _ (zfr_r I)) (by rw [f_hum, if_neg (fun q => h22 q.2.2)])
    · refine r_il hP c75_18 rfl ?_
      refine r_cSi (as := [.int m]) (r := []) (I' := I) (L' := L) (R' := R) (x := if 0 ≤ m ∧ m ≤ 30 then 1 else 0) hP c75_19 rfl rfl (fun _ h2 => x_isMinute hP h2) ?_
      refine r_ifneB hP c75_22 (fun h22 => ?_) (fun h22 => ?_)
      · obtain ⟨st, hst, rfl⟩ := (zr_iff (Nat.lt_of_le_of_lt (zp256 hp8) (by decide))).mp h8
        obtain ⟨t, ht, rfl⟩ := zb_nI (n := 2) rfl (by decide) h15
        refine r_al hP c75_28 rfl ?_
        refine r_gR (x := 7) hP c75_29 (zj2 hK) (zr2_2 hR) ?_
        refine r_al hP c75_32 rfl ?_
        refine r_gR (x := w) hP c75_33 (zj2 hK) hl9 ?_
        refine r_il hP c75_36 rfl ?_
        refine r_il hP c75_37 rfl ?_
        refine r_ic hP c75_38 ?_
        refine r_ic hP c75_39 ?_
        refine r_cVvp (as := [.ref w, .int (nI st), .int m, .int (-1), .int (-1)]) (r := []) (a := 7) hP c75_40 rfl (zj7 hK) rfl (fun I2 L2 R2 => zPl I I2 S nP st m 100 100 nS ∧ L = L2 ∧ R = R2) (fun Q2 hq => x_play hP hK hR hw hC hp8 hs6 hw6 hs1 hsg (by omega) zno (zno2 hs6) (fun I2 h2 => hq I2 L R ⟨h2, rfl, rfl⟩)) ?_
        rintro I2 L2 R2 ⟨h2, rfl, rfl⟩
        refine r_al hP c75_43 rfl ?_
        refine r_gR (x := 7) hP c75_44 (zj2 hK) (zr2_2 hR) ?_
        refine r_gR (x := 15) hP c75_47 (zj7 hK) (zr7_1 hR) ?_
        refine r_il hP c75_50 rfl ?_
        refine r_iald (j := t) (x := zhd S nP st m 100 100 t nS) hP c75_51 (zk15 hK) rfl (by omega) (h2.2.2 _ (by omega)) ?_
        exact r_irE hP c75_52 (h _ h2.1) (by rw [f_hum, if_pos ⟨h8, h15, h22⟩, nI_clamp (by omega), nI_clamp (by omega)])
      · refine r_ic hP c75_25 ?_
        first
          | exact r_irE hP c75_27 (h _ (zfr_r I)) (by rw [f_hum, if_neg (fun q => h8 q.1)])
          | exact r_irE hP c75_27 (h _ (zfr_r I)) (by rw [f_hum, if_neg (fun q => h15 q.2.1)])
          | exact r_irE hP c75_27 (h _ (zfr_r I)) (by rw [f_hum, if_neg (fun q => h22 q.2.2)])
set_option maxRecDepth 4000 in
theorem x_in {K : ZKh} {P : Nat → Nat → List Value → List Value → ZMi → ZMl → ZMr → ZRt → Prop} {I : ZMi} {L : ZMl} {R : ZMr} {Q : ZRt} (hP : ZCl K P) {w nS nP nW : Nat} {S : ZS} (hK : zKa K) (hR : zRa R) (hw : zisW w) (hC : zC I w S nS nP nW) (hp8 : nP ≤ 8) (hs6 : nS ≤ 6) (hw6 : nW ≤ 6) (hs1 : 1 ≤ nS) (hp1 : 1 ≤ nP) (hsg : ∀ p, p < nP → ∃ a, a < nS ∧ S 3 p 0 = nI a) (hl9 : R 2 9 = w + 1) {x s0 t0 m : Int32} (h : ∀ I2, zfr I I2 → Q (some (.int (f_in S nS nP x s0 t0 m))) I2 L R) : P 76 0 [.ref 2, .int x, .int s0, .int t0, .int m] [] I L R Q := by
  have hp256 := zp256 hp8
  have hw39 := zW39 hw
  refine r_al hP c76_0 rfl ?_
  refine r_gR (x := w) hP c76_1 (zj2 hK) hl9 ?_
  refine r_il hP c76_4 rfl ?_
  refine r_cVi (as := [.int x]) (r := []) (I' := I) (L' := L) (R' := R) (x := if zr x (2 ^ nP) then 1 else 0) (a := w) hP c76_5 rfl (zj_W hK hw) rfl (fun _ hq => x_hasState hP hK hR hw hC hp8 hs6 hw6 hq) ?_
  refine r_ifeqB hP c76_8 (fun h8 => ?_) (fun h8 => ?_)
  · refine r_ic hP c76_37 ?_
    first
      | exact r_irE hP c76_39 (h _ (zfr_r I)) (by rw [f_in, if_neg (fun q => h8 q.1)])
      | exact r_irE hP c76_39 (h _ (zfr_r I)) (by rw [f_in, if_neg (fun q => h19 q.2.1)])
      | exact r_irE hP c76_39 (h _ (zfr_r I)) (by rw [f_in, if_neg (fun q => h26 q.2.2.1)])
      | exact r_irE hP c76_39 (h _ (zfr_r I)) (by rw [f_in, if_neg (fun q => h34 q.2.2.2)])
  · refine r_al hP c76_11 rfl ?_
    refine r_gR (x := w) hP c76_12 (zj2 hK) hl9 ?_
    refine r_il hP c76_15 rfl ?_
    refine r_cVi (as := [.int s0]) (r := []) (I' := I) (L' := L) (R' := R) (x := if zr s0 nS then 1 else 0) (a := w) hP c76_16 rfl (zj_W hK hw) rfl (fun _ h2 => x_hasStage hP (zj_W hK hw) (zC_s hC) (by omega) h2) ?_
    refine r_ifeqB hP c76_19 (fun h19 => ?_) (fun h19 => ?_)
    · refine r_ic hP c76_37 ?_
      first
        | exact r_irE hP c76_39 (h _ (zfr_r I)) (by rw [f_in, if_neg (fun q => h8 q.1)])
        | exact r_irE hP c76_39 (h _ (zfr_r I)) (by rw [f_in, if_neg (fun q => h19 q.2.1)])
        | exact r_irE hP c76_39 (h _ (zfr_r I)) (by rw [f_in, if_neg (fun q => h26 q.2.2.1)])
        | exact r_irE hP c76_39 (h _ (zfr_r I)) (by rw [f_in, if_neg (fun q => h34 q.2.2.2)])
    · refine r_il hP c76_22 rfl ?_
      refine r_cSi (as := [.int t0]) (r := []) (I' := I) (L' := L) (R' := R) (x := if 0 ≤ t0 ∧ t0 ≤ 2 then 1 else 0) hP c76_23 rfl rfl (fun _ h2 => x_isTone hP h2) ?_
      refine r_ifeqB hP c76_26 (fun h26 => ?_) (fun h26 => ?_)
      · refine r_ic hP c76_37 ?_
        first
          | exact r_irE hP c76_39 (h _ (zfr_r I)) (by rw [f_in, if_neg (fun q => h8 q.1)])
          | exact r_irE hP c76_39 (h _ (zfr_r I)) (by rw [f_in, if_neg (fun q => h19 q.2.1)])
          | exact r_irE hP c76_39 (h _ (zfr_r I)) (by rw [f_in, if_neg (fun q => h26 q.2.2.1)])
          | exact r_irE hP c76_39 (h _ (zfr_r I)) (by rw [f_in, if_neg (fun q => h34 q.2.2.2)])
      · refine r_il hP c76_29 rfl ?_
        refine r_cSi (as := [.int m]) (r := []) (I' := I) (L' := L) (R' := R) (x := if 0 ≤ m ∧ m ≤ 30 then 1 else 0) hP c76_31 rfl rfl (fun _ h2 => x_isMinute hP h2) ?_
        refine r_ifneB hP c76_34 (fun h34 => ?_) (fun h34 => ?_)
        · obtain ⟨st, hst, rfl⟩ := (zr_iff (Nat.lt_of_le_of_lt (zp256 hp8) (by decide))).mp h8
          obtain ⟨s, hs, rfl⟩ := (zr_iff (by omega)).mp h19
          obtain ⟨t, ht, rfl⟩ := zb_nI (n := 2) rfl (by decide) h26
          refine r_al hP c76_40 rfl ?_
          refine r_gR (x := 7) hP c76_41 (zj2 hK) (zr2_2 hR) ?_
          refine r_al hP c76_44 rfl ?_
          refine r_gR (x := w) hP c76_45 (zj2 hK) hl9 ?_
          refine r_il hP c76_48 rfl ?_
          refine r_il hP c76_49 rfl ?_
          refine r_ic hP c76_51 ?_
          refine r_ic hP c76_52 ?_
          refine r_cVvp (as := [.ref w, .int (nI st), .int m, .int (-1), .int (-1)]) (r := []) (a := 7) hP c76_53 rfl (zj7 hK) rfl (fun I2 L2 R2 => zPl I I2 S nP st m 100 100 nS ∧ L = L2 ∧ R = R2) (fun Q2 hq => x_play hP hK hR hw hC hp8 hs6 hw6 hs1 hsg (by omega) zno (zno2 hs6) (fun I2 h2 => hq I2 L R ⟨h2, rfl, rfl⟩)) ?_
          rintro I2 L2 R2 ⟨h2, rfl, rfl⟩
          refine r_al hP c76_56 rfl ?_
          refine r_gR (x := 7) hP c76_57 (zj2 hK) (zr2_2 hR) ?_
          refine r_gR (x := 8) hP c76_60 (zj7 hK) (zr7_0 hR) ?_
          refine r_il hP c76_63 rfl ?_
          refine r_aald (j := s) (x := 9 + s) hP c76_64 (zk8 hK) rfl (by omega) (zr_in (s := s) hR (by omega)) ?_
          refine r_il hP c76_65 rfl ?_
          refine r_iald (j := t) (x := zin S nP st m 100 100 s t) hP c76_66 (zk_in (s := s) hK (by omega)) rfl (by omega) (h2.2.1 _ _ (by omega) (by omega)) ?_
          exact r_irE hP c76_67 (h _ h2.1) (by rw [f_in, if_pos ⟨h8, h19, h26, h34⟩, nI_clamp (by omega), nI_clamp (by omega), nI_clamp (by omega)])
        · refine r_ic hP c76_37 ?_
          first
            | exact r_irE hP c76_39 (h _ (zfr_r I)) (by rw [f_in, if_neg (fun q => h8 q.1)])
            | exact r_irE hP c76_39 (h _ (zfr_r I)) (by rw [f_in, if_neg (fun q => h19 q.2.1)])
            | exact r_irE hP c76_39 (h _ (zfr_r I)) (by rw [f_in, if_neg (fun q => h26 q.2.2.1)])
            | exact r_irE hP c76_39 (h _ (zfr_r I)) (by rw [f_in, if_neg (fun q => h34 q.2.2.2)])
set_option maxRecDepth 4000 in
theorem x_heard {K : ZKh} {P : Nat → Nat → List Value → List Value → ZMi → ZMl → ZMr → ZRt → Prop} {I : ZMi} {L : ZMl} {R : ZMr} {Q : ZRt} (hP : ZCl K P) {w nS nP nW : Nat} {S : ZS} (hK : zKa K) (hR : zRa R) (hw : zisW w) (hC : zC I w S nS nP nW) (hp8 : nP ≤ 8) (hs6 : nS ≤ 6) (hw6 : nW ≤ 6) (hs1 : 1 ≤ nS) (hp1 : 1 ≤ nP) (hsg : ∀ p, p < nP → ∃ a, a < nS ∧ S 3 p 0 = nI a) (hl9 : R 2 9 = w + 1) {x m y : Int32} (h : ∀ I2, zfr I I2 → Q (some (.int (f_heard S nS nP x m y))) I2 L R) : P 77 0 [.ref 2, .int x, .int m, .int y] [] I L R Q := by
  have hp256 := zp256 hp8
  have hw39 := zW39 hw
  refine r_al hP c77_0 rfl ?_
  refine r_gR (x := w) hP c77_1 (zj2 hK) hl9 ?_
  refine r_il hP c77_4 rfl ?_
  refine r_cVi (as := [.int x]) (r := []) (I' := I) (L' := L) (R' := R) (x := if zr x (2 ^ nP) then 1 else 0) (a := w) hP c77_5 rfl (zj_W hK hw) rfl (fun _ hq => x_hasState hP hK hR hw hC hp8 hs6 hw6 hq) ?_
  refine r_ifeqB hP c77_8 (fun h8 => ?_) (fun h8 => ?_)
  · refine r_ic hP c77_27 ?_
    first
      | exact r_irE hP c77_28 (h _ (zfr_r I)) (by rw [f_heard, if_neg (fun q => h8 q.1)])
      | exact r_irE hP c77_28 (h _ (zfr_r I)) (by rw [f_heard, if_neg (fun q => h15 q.2.1)])
      | exact r_irE hP c77_28 (h _ (zfr_r I)) (by rw [f_heard, if_neg (fun q => h24 q.2.2)])
  · refine r_il hP c77_11 rfl ?_
    refine r_cSi (as := [.int m]) (r := []) (I' := I) (L' := L) (R' := R) (x := if 0 ≤ m ∧ m ≤ 30 then 1 else 0) hP c77_12 rfl rfl (fun _ h2 => x_isMinute hP h2) ?_
    refine r_ifeqB hP c77_15 (fun h15 => ?_) (fun h15 => ?_)
    · refine r_ic hP c77_27 ?_
      first
        | exact r_irE hP c77_28 (h _ (zfr_r I)) (by rw [f_heard, if_neg (fun q => h8 q.1)])
        | exact r_irE hP c77_28 (h _ (zfr_r I)) (by rw [f_heard, if_neg (fun q => h15 q.2.1)])
        | exact r_irE hP c77_28 (h _ (zfr_r I)) (by rw [f_heard, if_neg (fun q => h24 q.2.2)])
    · refine r_il hP c77_18 rfl ?_
      refine r_ic hP c77_19 ?_
      refine r_ic hP c77_20 ?_
      refine r_cSi (as := [.int y, .int 0, .int 1]) (r := []) (I' := I) (L' := L) (R' := R) (x := if 0 ≤ y ∧ y ≤ 1 then 1 else 0) hP c77_21 rfl rfl (fun _ h2 => x_within hP h2) ?_
      refine r_ifneB hP c77_24 (fun h24 => ?_) (fun h24 => ?_)
      · obtain ⟨st, hst, rfl⟩ := (zr_iff (Nat.lt_of_le_of_lt (zp256 hp8) (by decide))).mp h8
        refine r_al hP c77_29 rfl ?_
        refine r_gR (x := 7) hP c77_30 (zj2 hK) (zr2_2 hR) ?_
        refine r_al hP c77_33 rfl ?_
        refine r_gR (x := w) hP c77_34 (zj2 hK) hl9 ?_
        refine r_il hP c77_37 rfl ?_
        refine r_il hP c77_38 rfl ?_
        refine r_ic hP c77_39 ?_
        refine r_ic hP c77_40 ?_
        refine r_cVvp (as := [.ref w, .int (nI st), .int m, .int (-1), .int (-1)]) (r := []) (a := 7) hP c77_41 rfl (zj7 hK) rfl (fun I2 L2 R2 => zPl I I2 S nP st m 100 100 nS ∧ L = L2 ∧ R = R2) (fun Q2 hq => x_play hP hK hR hw hC hp8 hs6 hw6 hs1 hsg (by omega) zno (zno2 hs6) (fun I2 h2 => hq I2 L R ⟨h2, rfl, rfl⟩)) ?_
        rintro I2 L2 R2 ⟨h2, rfl, rfl⟩
        refine r_il hP c77_44 rfl ?_
        refine r_ifne hP c77_45 (fun h45 => ?_) (fun h45 => ?_)
        · refine r_al hP c77_62 rfl ?_
          refine r_gR (x := 7) hP c77_63 (zj2 hK) (zr2_2 hR) ?_
          refine r_cVi (as := []) (r := []) (I' := I2) (L' := L) (R' := R) (x := zsum (fun t => zhd S nP st m 100 100 t nS) 3) (a := 7) hP c77_66 rfl (zj7 hK) rfl (fun _ hq => x_loud hP hK hR (fun t ht => h2.2.2 t ht) hq) ?_
          exact r_irE hP c77_69 (h _ h2.1) (by rw [f_heard, if_pos ⟨h8, h15, h24⟩, nI_clamp (by omega)]; first | rw [if_pos h45] | rw [if_neg h45])
        · refine r_al hP c77_48 rfl ?_
          refine r_gR (x := 7) hP c77_49 (zj2 hK) (zr2_2 hR) ?_
          refine r_al hP c77_52 rfl ?_
          refine r_gR (x := w) hP c77_53 (zj2 hK) hl9 ?_
          refine r_cVi (as := [.ref w]) (r := []) (I' := I2) (L' := L) (R' := R) (x := zth S (fun t => zhd S nP st m 100 100 t nS) 3) (a := 7) hP c77_56 rfl (zj7 hK) rfl (fun _ hq => x_tones hP hK hR hw (zC_fr hC h2.1 hw hs6 hp8 hw6) hp8 hs6 hw6 (fun t ht => h2.2.2 t ht) hq) ?_
          refine r_goto hP c77_59 ?_
          exact r_irE hP c77_69 (h _ h2.1) (by rw [f_heard, if_pos ⟨h8, h15, h24⟩, nI_clamp (by omega)]; first | rw [if_pos h45] | rw [if_neg h45])
      · refine r_ic hP c77_27 ?_
        first
          | exact r_irE hP c77_28 (h _ (zfr_r I)) (by rw [f_heard, if_neg (fun q => h8 q.1)])
          | exact r_irE hP c77_28 (h _ (zfr_r I)) (by rw [f_heard, if_neg (fun q => h15 q.2.1)])
          | exact r_irE hP c77_28 (h _ (zfr_r I)) (by rw [f_heard, if_neg (fun q => h24 q.2.2)])
set_option maxRecDepth 4000 in
theorem x_ask {K : ZKh} {P : Nat → Nat → List Value → List Value → ZMi → ZMl → ZMr → ZRt → Prop} {I : ZMi} {L : ZMl} {R : ZMr} {Q : ZRt} (hP : ZCl K P) {w nS nP nW : Nat} {S : ZS} (hK : zKa K) (hR : zRa R) (hw : zisW w) (hC : zC I w S nS nP nW) (hp8 : nP ≤ 8) (hs6 : nS ≤ 6) (hw6 : nW ≤ 6) (hs1 : 1 ≤ nS) (hp1 : 1 ≤ nP) (hsg : ∀ p, p < nP → ∃ a, a < nS ∧ S 3 p 0 = nI a) (hl9 : R 2 9 = w + 1) {x k0 o0 m : Int32} (h : ∀ I2, zfr I I2 → Q (some (.int (f_ask S nS nP x k0 o0 m))) I2 L R) : P 78 0 [.ref 2, .int x, .int k0, .int o0, .int m] [] I L R Q := by
  have hp256 := zp256 hp8
  have hw39 := zW39 hw
  refine r_al hP c78_0 rfl ?_
  refine r_gR (x := w) hP c78_1 (zj2 hK) hl9 ?_
  refine r_il hP c78_4 rfl ?_
  refine r_cVi (as := [.int x]) (r := []) (I' := I) (L' := L) (R' := R) (x := if zr x (2 ^ nP) then 1 else 0) (a := w) hP c78_5 rfl (zj_W hK hw) rfl (fun _ hq => x_hasState hP hK hR hw hC hp8 hs6 hw6 hq) ?_
  refine r_ifeqB hP c78_8 (fun h8 => ?_) (fun h8 => ?_)
  · refine r_ic hP c78_31 ?_
    first
      | exact r_irE hP c78_32 (h _ (zfr_r I)) (by rw [f_ask, if_neg (fun q => h8 q.1)])
      | exact r_irE hP c78_32 (h _ (zfr_r I)) (by rw [f_ask, if_neg (fun q => h20 q.2.1)])
      | exact r_irE hP c78_32 (h _ (zfr_r I)) (by rw [f_ask, if_neg (fun q => h28 q.2.2)])
  · refine r_al hP c78_11 rfl ?_
    refine r_gR (x := w) hP c78_12 (zj2 hK) hl9 ?_
    refine r_il hP c78_15 rfl ?_
    refine r_il hP c78_16 rfl ?_
    refine r_cVi (as := [.int k0, .int o0]) (r := []) (I' := I) (L' := L) (R' := R) (x := if (0 ≤ k0 ∧ k0 ≤ 4) ∧ zr o0 (zak k0 nS nP) then 1 else 0) (a := w) hP c78_17 rfl (zj_W hK hw) rfl (fun _ hq => x_hasAsk hP hK hR hw hC hp8 hs6 hw6 hq) ?_
    refine r_ifeqB hP c78_20 (fun h20 => ?_) (fun h20 => ?_)
    · refine r_ic hP c78_31 ?_
      first
        | exact r_irE hP c78_32 (h _ (zfr_r I)) (by rw [f_ask, if_neg (fun q => h8 q.1)])
        | exact r_irE hP c78_32 (h _ (zfr_r I)) (by rw [f_ask, if_neg (fun q => h20 q.2.1)])
        | exact r_irE hP c78_32 (h _ (zfr_r I)) (by rw [f_ask, if_neg (fun q => h28 q.2.2)])
    · refine r_il hP c78_23 rfl ?_
      refine r_cSi (as := [.int m]) (r := []) (I' := I) (L' := L) (R' := R) (x := if 0 ≤ m ∧ m ≤ 30 then 1 else 0) hP c78_25 rfl rfl (fun _ h2 => x_isMinute hP h2) ?_
      refine r_ifneB hP c78_28 (fun h28 => ?_) (fun h28 => ?_)
      · obtain ⟨st, hst, rfl⟩ := (zr_iff (Nat.lt_of_le_of_lt (zp256 hp8) (by decide))).mp h8
        obtain ⟨j, hj, rfl⟩ := (zr_iff (by have := zak_b (x := k0) hs6 hp8; omega)).mp h20.2
        obtain ⟨k, hk4, rfl⟩ := zb_nI (n := 4) rfl (by decide) h20.1
        have hk : k < 5 := by omega
        have hjb := zak_b (x := nI k) hs6 hp8
        refine r_al hP c78_33 rfl ?_
        refine r_gR (x := 7) hP c78_34 (zj2 hK) (zr2_2 hR) ?_
        refine r_al hP c78_37 rfl ?_
        refine r_gR (x := w) hP c78_38 (zj2 hK) hl9 ?_
        refine r_il hP c78_41 rfl ?_
        refine r_il hP c78_42 rfl ?_
        refine r_il hP c78_43 rfl ?_
        refine r_il hP c78_44 rfl ?_
        refine r_cVip (as := [.ref w, .int (nI st), .int (nI k), .int (nI j), .int m]) (r := []) (a := 7) hP c78_46 rfl (zj7 hK) rfl (fun z I2 L2 R2 => (z = zrep S nS nP st k j m ∧ zfr I I2) ∧ L = L2 ∧ R = R2) (fun Q2 hq => x_reply hP hK hR hw hC hp8 hs6 hw6 hs1 hsg (by omega) hk hj (fun I2 h2 => hq _ I2 L R ⟨⟨rfl, h2⟩, rfl, rfl⟩)) ?_
        rintro z I2 L2 R2 ⟨⟨rfl, h2⟩, rfl, rfl⟩
        exact r_irE hP c78_49 (h _ h2) (by rw [f_ask, if_pos ⟨h8, h20, h28⟩, nI_clamp (by omega), nI_clamp (by omega), nI_clamp (by omega)])
      · refine r_ic hP c78_31 ?_
        first
          | exact r_irE hP c78_32 (h _ (zfr_r I)) (by rw [f_ask, if_neg (fun q => h8 q.1)])
          | exact r_irE hP c78_32 (h _ (zfr_r I)) (by rw [f_ask, if_neg (fun q => h20 q.2.1)])
          | exact r_irE hP c78_32 (h _ (zfr_r I)) (by rw [f_ask, if_neg (fun q => h28 q.2.2)])
set_option maxRecDepth 4000 in
theorem x_risk {K : ZKh} {P : Nat → Nat → List Value → List Value → ZMi → ZMl → ZMr → ZRt → Prop} {I : ZMi} {L : ZMl} {R : ZMr} {Q : ZRt} (hP : ZCl K P) {w nS nP nW : Nat} {S : ZS} (hK : zKa K) (hR : zRa R) (hw : zisW w) (hC : zC I w S nS nP nW) (hp8 : nP ≤ 8) (hs6 : nS ≤ 6) (hw6 : nW ≤ 6) (hs1 : 1 ≤ nS) (hp1 : 1 ≤ nP) (hsg : ∀ p, p < nP → ∃ a, a < nS ∧ S 3 p 0 = nI a) (hl9 : R 2 9 = w + 1) {k0 o0 : Int32} (h : Q (some (.int (f_risk S nS nP k0 o0))) I L R) : P 79 0 [.ref 2, .int k0, .int o0] [] I L R Q := by
  have hp256 := zp256 hp8
  have hw39 := zW39 hw
  refine r_al hP c79_0 rfl ?_
  refine r_gR (x := w) hP c79_1 (zj2 hK) hl9 ?_
  refine r_il hP c79_4 rfl ?_
  refine r_il hP c79_5 rfl ?_
  refine r_cVi (as := [.int k0, .int o0]) (r := []) (I' := I) (L' := L) (R' := R) (x := if (0 ≤ k0 ∧ k0 ≤ 4) ∧ zr o0 (zak k0 nS nP) then 1 else 0) (a := w) hP c79_6 rfl (zj_W hK hw) rfl (fun _ hq => x_hasAsk hP hK hR hw hC hp8 hs6 hw6 hq) ?_
  refine r_ifneB hP c79_9 (fun h9 => ?_) (fun h9 => ?_)
  · refine r_al hP c79_14 rfl ?_
    refine r_gR (x := w) hP c79_15 (zj2 hK) hl9 ?_
    refine r_il hP c79_18 rfl ?_
    refine r_il hP c79_19 rfl ?_
    refine r_cVi (as := [.int k0, .int o0]) (r := []) (I' := I) (L' := L) (R' := R) (x := zrisk S nS nP k0 o0) (a := w) hP c79_20 rfl (zj_W hK hw) rfl (fun _ hq => x_riskOf hP hK hR hw hC hp8 hs6 hw6 (fun q => by have h9b := h9.2; rw [q, show zak 1 nS nP = nS from rfl] at h9b; exact h9b) hq) ?_
    exact r_irE hP c79_23 h (by first | (rw [f_risk, if_neg h9]; done) | (rw [f_risk, if_pos h9]; done))
  · refine r_ic hP c79_12 ?_
    exact r_irE hP c79_13 h (by first | (rw [f_risk, if_neg h9]; done) | (rw [f_risk, if_pos h9]; done))
set_option maxRecDepth 4000 in
theorem x_volts {K : ZKh} {P : Nat → Nat → List Value → List Value → ZMi → ZMl → ZMr → ZRt → Prop} {I : ZMi} {L : ZMl} {R : ZMr} {Q : ZRt} (hP : ZCl K P) {w nS nP nW : Nat} {S : ZS} (hK : zKa K) (hR : zRa R) (hw : zisW w) (hC : zC I w S nS nP nW) (hp8 : nP ≤ 8) (hs6 : nS ≤ 6) (hw6 : nW ≤ 6) (hs1 : 1 ≤ nS) (hp1 : 1 ≤ nP) (hsg : ∀ p, p < nP → ∃ a, a < nS ∧ S 3 p 0 = nI a) (hl9 : R 2 9 = w + 1) {p m : Int32} (h : Q (some (.int (f_volts S nP p m))) I L R) : P 80 0 [.ref 2, .int p, .int m] [] I L R Q := by
  have hp256 := zp256 hp8
  have hw39 := zW39 hw
  refine r_al hP c80_0 rfl ?_
  refine r_gR (x := w) hP c80_1 (zj2 hK) hl9 ?_
  refine r_il hP c80_4 rfl ?_
  refine r_cVi (as := [.int p]) (r := []) (I' := I) (L' := L) (R' := R) (x := if zr p nP then 1 else 0) (a := w) hP c80_5 rfl (zj_W hK hw) rfl (fun _ h2 => x_hasPart hP (zj_W hK hw) (zC_p hC) (by omega) h2) ?_
  refine r_ifeqB hP c80_8 (fun h8 => ?_) (fun h8 => ?_)
  · refine r_ic hP c80_22 ?_
    exact r_irE hP c80_23 h (by first | (rw [f_volts, if_neg (fun q => h8 q.1)]; done) | (rw [f_volts, if_neg (fun q => h19 q.2)]; done) | (rw [f_volts, if_pos ⟨h8, h19⟩, nI_clamp (by omega), nI_clamp (by omega)]; done))
  · refine r_il hP c80_11 rfl ?_
    refine r_ic hP c80_12 ?_
    refine r_ic hP c80_13 ?_
    refine r_cSi (as := [.int m, .int 0, .int 999]) (r := []) (I' := I) (L' := L) (R' := R) (x := if 0 ≤ m ∧ m ≤ 999 then 1 else 0) hP c80_16 rfl rfl (fun _ h2 => x_within hP h2) ?_
    refine r_ifneB hP c80_19 (fun h19 => ?_) (fun h19 => ?_)
    · obtain ⟨j, hj, rfl⟩ := (zr_iff (by omega)).mp h8
      obtain ⟨n, hn, rfl⟩ := zb_nI (n := 999) rfl (by decide) h19
      refine r_al hP c80_24 rfl ?_
      refine r_gR (x := w) hP c80_25 (zj2 hK) hl9 ?_
      refine r_gR (x := w + 2) hP c80_28 (zj_W hK hw) (zr_pts hR hw) ?_
      refine r_il hP c80_31 rfl ?_
      refine r_aald (j := j) (x := w + 18 + 2 * j) hP c80_32 (zk_pts hK hw) rfl (by omega) (zr_prt hR hw (by omega)) ?_
      refine r_il hP c80_33 rfl ?_
      refine r_cVi (as := [.int (nI n)]) (r := []) (I' := I) (L' := L) (R' := R) (x := zvl S j n) (a := (w + 18 + 2 * j)) hP c80_34 rfl (zj_prt hK hw (by omega)) rfl (fun _ hq => x_voltsAfter hP hK hR hw hC hp8 hs6 hw6 hj hn hq) ?_
      exact r_irE hP c80_37 h (by first | (rw [f_volts, if_neg (fun q => h8 q.1)]; done) | (rw [f_volts, if_neg (fun q => h19 q.2)]; done) | (rw [f_volts, if_pos ⟨h8, h19⟩, nI_clamp (by omega), nI_clamp (by omega)]; done))
    · refine r_ic hP c80_22 ?_
      exact r_irE hP c80_23 h (by first | (rw [f_volts, if_neg (fun q => h8 q.1)]; done) | (rw [f_volts, if_neg (fun q => h19 q.2)]; done) | (rw [f_volts, if_pos ⟨h8, h19⟩, nI_clamp (by omega), nI_clamp (by omega)]; done))
set_option maxRecDepth 4000 in
theorem x_safe {K : ZKh} {P : Nat → Nat → List Value → List Value → ZMi → ZMl → ZMr → ZRt → Prop} {I : ZMi} {L : ZMl} {R : ZMr} {Q : ZRt} (hP : ZCl K P) {w nS nP nW : Nat} {S : ZS} (hK : zKa K) (hR : zRa R) (hw : zisW w) (hC : zC I w S nS nP nW) (hp8 : nP ≤ 8) (hs6 : nS ≤ 6) (hw6 : nW ≤ 6) (hs1 : 1 ≤ nS) (hp1 : 1 ≤ nP) (hsg : ∀ p, p < nP → ∃ a, a < nS ∧ S 3 p 0 = nI a) (hl9 : R 2 9 = w + 1) (h : Q (some (.int (if zmx (zfst S) nP ≤ 999 then nI (zmx (zfst S) nP) else -4))) I L R) : P 81 0 [.ref 2] [] I L R Q := by
  refine r_al hP c81_0 rfl ?_
  refine r_gR (x := w) hP c81_1 (zj2 hK) hl9 ?_
  refine r_cVi (as := []) (r := []) (I' := I) (L' := L) (R' := R) (x := (if zmx (zfst S) nP ≤ 999 then nI (zmx (zfst S) nP) else -4)) (a := w) hP c81_4 rfl (zj_W hK hw) rfl (fun _ hq => x_noShock hP hK hR hw hC hp8 hs6 hw6 hq) ?_
  exact r_irE hP c81_7 h (by rfl)
set_option maxRecDepth 4000 in
theorem x_howls {K : ZKh} {P : Nat → Nat → List Value → List Value → ZMi → ZMl → ZMr → ZRt → Prop} {I : ZMi} {L : ZMl} {R : ZMr} {Q : ZRt} (hP : ZCl K P) {w nS nP nW : Nat} {S : ZS} (hK : zKa K) (hR : zRa R) (hw : zisW w) (hC : zC I w S nS nP nW) (hp8 : nP ≤ 8) (hs6 : nS ≤ 6) (hw6 : nW ≤ 6) (hs1 : 1 ≤ nS) (hp1 : 1 ≤ nP) (hsg : ∀ p, p < nP → ∃ a, a < nS ∧ S 3 p 0 = nI a) (hl9 : R 2 9 = w + 1) (hwy : ∀ i, i < nW → ∃ a, a < nS ∧ S 12 i 0 = nI a) (h : Q (some (.int (zhw S nS nW))) I L R) : P 91 0 [.ref 2] [] I L R Q := by
  refine r_al hP c91_0 rfl ?_
  refine r_gR (x := w) hP c91_1 (zj2 hK) hl9 ?_
  refine r_cVi (as := []) (r := []) (I' := I) (L' := L) (R' := R) (x := zhw S nS nW) (a := w) hP c91_4 rfl (zj_W hK hw) rfl (fun _ hq => x_howl hP hK hR hw hC hp8 hs6 hw6 hwy hq) ?_
  exact r_irE hP c91_7 h (by rfl)
set_option maxRecDepth 4000 in
theorem x_goes {K : ZKh} {P : Nat → Nat → List Value → List Value → ZMi → ZMl → ZMr → ZRt → Prop} {I : ZMi} {L : ZMl} {R : ZMr} {Q : ZRt} (hP : ZCl K P) {w nS nP nW : Nat} {S : ZS} (hK : zKa K) (hR : zRa R) (hw : zisW w) (hC : zC I w S nS nP nW) (hp8 : nP ≤ 8) (hs6 : nS ≤ 6) (hw6 : nW ≤ 6) (hs1 : 1 ≤ nS) (hp1 : 1 ≤ nP) (hsg : ∀ p, p < nP → ∃ a, a < nS ∧ S 3 p 0 = nI a) (hl9 : R 2 9 = w + 1) (hkd : ∀ p, p < nP → ∃ a, a < 5 ∧ S 4 p 0 = nI a) {p y : Int32} (h : Q (some (.int (f_goes S nP p y))) I L R) : P 92 0 [.ref 2, .int p, .int y] [] I L R Q := by
  have hp256 := zp256 hp8
  have hw39 := zW39 hw
  refine r_al hP c92_0 rfl ?_
  refine r_gR (x := w) hP c92_1 (zj2 hK) hl9 ?_
  refine r_il hP c92_4 rfl ?_
  refine r_cVi (as := [.int p]) (r := []) (I' := I) (L' := L) (R' := R) (x := if zr p nP then 1 else 0) (a := w) hP c92_5 rfl (zj_W hK hw) rfl (fun _ h2 => x_hasPart hP (zj_W hK hw) (zC_p hC) (by omega) h2) ?_
  refine r_ifeqB hP c92_8 (fun h8 => ?_) (fun h8 => ?_)
  · refine r_ic hP c92_21 ?_
    exact r_irE hP c92_22 h (by first | (rw [f_goes, if_neg (fun q => h8 q.1)]; done) | (rw [f_goes, if_neg (fun q => h18 q.2)]; done) | (rw [f_goes, if_pos ⟨h8, h18⟩, nI_clamp (by omega), nI_clamp (by omega), hkc]; done))
  · refine r_il hP c92_11 rfl ?_
    refine r_ic hP c92_12 ?_
    refine r_ic hP c92_13 ?_
    refine r_cSi (as := [.int y, .int 1, .int 50]) (r := []) (I' := I) (L' := L) (R' := R) (x := if 1 ≤ y ∧ y ≤ 50 then 1 else 0) hP c92_15 rfl rfl (fun _ h2 => x_within hP h2) ?_
    refine r_ifneB hP c92_18 (fun h18 => ?_) (fun h18 => ?_)
    · obtain ⟨j, hj, rfl⟩ := (zr_iff (by omega)).mp h8
      obtain ⟨n, hn, rfl⟩ := zb_nI (n := 50) rfl (by decide) ⟨Int32.le_trans (by decide : (0 : Int32) ≤ 1) h18.1, h18.2⟩
      obtain ⟨kk, hkk, hke⟩ := hkd j hj
      have hkc : (S 4 j 0).toNatClampNeg = kk := by rw [hke]; exact nI_clamp (by omega)
      refine r_al hP c92_23 rfl ?_
      refine r_gR (x := w) hP c92_24 (zj2 hK) hl9 ?_
      refine r_il hP c92_27 rfl ?_
      refine r_il hP c92_28 rfl ?_
      refine r_cVi (as := [.int (nI j), .int (nI n)]) (r := []) (I' := I) (L' := L) (R' := R) (x := 1000000 - zgone (S 16 kk 0) (S 5 j 0) n) (a := w) hP c92_29 rfl (zj_W hK hw) rfl (fun _ hq => x_gone hP hK hR hw hC hp8 hs6 hw6 hj hkk hke hn hq) ?_
      exact r_irE hP c92_32 h (by first | (rw [f_goes, if_neg (fun q => h8 q.1)]; done) | (rw [f_goes, if_neg (fun q => h18 q.2)]; done) | (rw [f_goes, if_pos ⟨h8, h18⟩, nI_clamp (by omega), nI_clamp (by omega), hkc]; done))
    · refine r_ic hP c92_21 ?_
      exact r_irE hP c92_22 h (by first | (rw [f_goes, if_neg (fun q => h8 q.1)]; done) | (rw [f_goes, if_neg (fun q => h18 q.2)]; done) | (rw [f_goes, if_pos ⟨h8, h18⟩, nI_clamp (by omega), nI_clamp (by omega), hkc]; done))
