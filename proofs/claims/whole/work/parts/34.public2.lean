/-! ===== more public questions of the class ===== -/
def zx_ (z : Int32) (p : Nat) : Int64 := 7919 * z.toInt64 + 6151 * (nI p).toInt64 + 1
def zdx (z : Int32) (p : Nat) : Int64 := (zx_ z p * zx_ z p - zx_ z p * zx_ z p / 65521 * 65521) - (zx_ z p * zx_ z p - zx_ z p * zx_ z p / 65521 * 65521) / 10 * 10
def zset_ (S : ZS) (z : Int32) : Nat → Int32
  | 0 => 0
  | p + 1 => if zdx z p < (S 6 p 0).toInt64 then zset_ S z p ||| (1 <<< (nI p &&& 31)) else zset_ S z p
def f_set (S : ZS) (nP : Nat) (z : Int32) : Int32 := if 0 ≤ z ∧ z ≤ 9999 then zset_ S z nP else -1
def zlw (S : ZS) (nS nP st : Nat) : Int32 := zsum (fun t => zhd S nP st 30 100 100 t nS) 3
def zlo (S : ZS) (nS nP st : Nat) : Nat → Int32
  | 0 => 0
  | p + 1 => if st.testBit p = true ∧ zlw S nS nP st < zlw S nS nP (zclr st p) then zlo S nS nP st p ||| (1 <<< (nI p &&& 31)) else zlo S nS nP st p
def f_louder (S : ZS) (nS nP : Nat) (x : Int32) : Int32 := if zr x (2 ^ nP) then zlo S nS nP x.toNatClampNeg nP else -1
def zgg (S : ZS) (n p : Nat) : Int32 := 1000000 - zgone (S 16 (S 4 p 0).toNatClampNeg 0) (S 5 p 0) n
def zng (g : Nat → Int32) : Nat → Nat
  | 0 => 0
  | p + 1 => if g (zng g p) < g (p + 1) then p + 1 else zng g p
theorem zng_le (g : Nat → Int32) : ∀ p, zng g p ≤ p
  | 0 => Nat.le_refl 0
  | p + 1 => by
    have := zng_le g p
    unfold zng
    split <;> omega
def f_ntg (S : ZS) (nP : Nat) (y : Int32) : Int32 := if 1 ≤ y ∧ y ≤ 50 then nI (zng (zgg S y.toNatClampNeg) (nP - 1)) else -1
def f_poss (S : ZS) (nP : Nat) (cs : List Nat) (x : Int32) : Int64 := if 0 ≤ x ∧ x ≤ 1 then (if x = 0 then (nI cs.length).toInt64 else zsw_ S nP cs) else -1
def f_odds (S : ZS) (nP : Nat) (cs : List Nat) (p y : Int32) : Int64 := if zr p nP ∧ (0 ≤ y ∧ y ≤ 1) then (if cs.length = 0 then -4 else if zeu 100 (zww S nP p.toNatClampNeg cs) (zsw_ S nP cs) = 0 then -4 else if y = 0 then zww S nP p.toNatClampNeg cs / zeu 100 (zww S nP p.toNatClampNeg cs) (zsw_ S nP cs) else zsw_ S nP cs / zeu 100 (zww S nP p.toNatClampNeg cs) (zsw_ S nP cs)) else -1
def f_change (S : ZS) (nS nP : Nat) (cs : List Nat) (q y : Int32) : Int32 := if (0 ≤ q ∧ q ≤ 100) ∧ (0 ≤ y ∧ y ≤ 1) then (if cs.length = 0 then -4 else if (zch S nS nP cs q (2 ^ nP)).1 = -4 then -4 else if y = 0 then (zch S nS nP cs q (2 ^ nP)).1 else zcs S (zch S nS nP cs q (2 ^ nP)).1.toNatClampNeg nP) else -1
def f_obo (S : ZS) (nS nP : Nat) (cs : List Nat) (y : Int32) : Int64 := if 0 ≤ y ∧ y ≤ 1 then (if y = 0 then (zdt S nS nP cs (2 ^ nP)).1 0 else (zdt S nS nP cs (2 ^ nP)).2.toInt64) else -1
set_option maxRecDepth 4000 in
theorem x_set_l {K : ZKh} {P : Nat → Nat → List Value → List Value → ZMi → ZMl → ZMr → ZRt → Prop} {I : ZMi} {L : ZMl} {R : ZMr} {Q : ZRt} (hP : ZCl K P) {w nS nP nW : Nat} {S : ZS} (hK : zKa K) (hR : zRa R) (hw : zisW w) (hC : zC I w S nS nP nW) (hp8 : nP ≤ 8) (hs6 : nS ≤ 6) (hw6 : nW ≤ 6) (hs1 : 1 ≤ nS) (hp1 : 1 ≤ nP) (hsg : ∀ p, p < nP → ∃ a, a < nS ∧ S 3 p 0 = nI a) (hl9 : R 2 9 = w + 1) {z : Int32} (h : Q (some (.int (zset_ S z nP))) I L R) : ∀ p, p ≤ nP → ∀ (acc : Int32) (v4 v5 : Value), acc = zset_ S z p → P 94 17 [.ref 2, .int z, .int acc, .int (nI p), v4, v5] [] I L R Q := by
  refine zloop nP (fun p => ∀ (acc : Int32) (v4 v5 : Value), acc = zset_ S z p → P 94 17 [.ref 2, .int z, .int acc, .int (nI p), v4, v5] [] I L R Q) ?_
  intro p hle ih acc v4 v5 hacc
  refine r_il hP c94_17 rfl ?_
  refine r_al hP c94_18 rfl ?_
  refine r_gR (x := w) hP c94_19 (zj2 hK) hl9 ?_
  refine r_gI (x := nI nP) hP c94_22 (zj_W hK hw) (zC_p hC) ?_
  refine r_ige hP c94_25 (fun h25 => ?_) (fun h25 => ?_)
  · have he : p = nP := Nat.le_antisymm hle ((nI_leI (by omega) (by omega)).mp h25)
    refine r_il hP c94_87 rfl ?_
    exact r_irE hP c94_88 h (by rw [hacc, he])
  · have hlt : p < nP := by
      rcases Nat.lt_or_ge p nP with q | q
      · exact q
      · exact absurd (nI_le q (by omega)) h25
    refine r_lc hP c94_28 ?_
    refine r_il hP c94_31 rfl ?_
    refine r_i2l hP c94_32 ?_
    refine r_lmul hP c94_33 ?_
    refine r_lc hP c94_34 ?_
    refine r_il hP c94_37 rfl ?_
    refine r_i2l hP c94_38 ?_
    refine r_lmul hP c94_39 ?_
    refine r_ladd hP c94_40 ?_
    refine r_lc hP c94_41 ?_
    refine r_ladd hP c94_42 ?_
    refine r_tl (y := zx_ z p) rfl ?_
    refine r_ls (ls' := [.ref 2, .int z, .int acc, .int (nI p), .long (zx_ z p), .null]) hP c94_43 (Nat.le_of_ble_eq_true rfl) rfl ?_
    refine r_ll hP c94_45 rfl ?_
    refine r_ll hP c94_47 rfl ?_
    refine r_lmul hP c94_49 ?_
    refine r_lc hP c94_50 ?_
    refine r_lrem hP c94_53 (by decide) ?_
    refine r_lc hP c94_54 ?_
    refine r_lrem hP c94_57 (by decide) ?_
    refine r_tl (y := zdx z p) rfl ?_
    refine r_al hP c94_58 rfl ?_
    refine r_gR (x := w) hP c94_59 (zj2 hK) hl9 ?_
    refine r_gR (x := w + 2) hP c94_62 (zj_W hK hw) (zr_pts hR hw) ?_
    refine r_il hP c94_65 rfl ?_
    refine r_aald (j := p) (x := w + 18 + 2 * p) hP c94_66 (zk_pts hK hw) rfl (by omega) (zr_prt hR hw (by omega)) ?_
    refine r_gI (x := S 6 p 0) hP c94_67 (zj_prt hK hw (by omega)) (zC_f hC (by omega) 4 (by decide) (by decide)) ?_
    refine r_i2l hP c94_70 ?_
    refine r_lcmp hP c94_71 ?_
    refine r_ifgeL hP c94_72 (fun h72 => ?_) (fun h72 => ?_)
    · refine r_inc (y := nI (p + 1)) (ls' := [.ref 2, .int z, .int acc, .int (nI (p + 1)), .long (zx_ z p), .null]) hP c94_81 rfl (nI_1 _) rfl ?_
      refine r_goto hP c94_84 ?_
      exact ih hlt _ _ _ (by rw [zset_, hacc]; first | rw [if_pos (Int64.not_le.mp h72)] | rw [if_neg (fun q => absurd h72 (Int64.not_le.mpr q))])
    · refine r_il hP c94_75 rfl ?_
      refine r_ic hP c94_76 ?_
      refine r_il hP c94_77 rfl ?_
      refine r_ishl hP c94_78 ?_
      refine r_ior hP c94_79 ?_
      refine r_is (ls' := [.ref 2, .int z, .int (acc ||| (1 <<< ((nI p) &&& 31))), .int (nI p), .long (zx_ z p), .null]) hP c94_80 (Nat.le_of_ble_eq_true rfl) rfl ?_
      refine r_inc (y := nI (p + 1)) (ls' := [.ref 2, .int z, .int (acc ||| (1 <<< ((nI p) &&& 31))), .int (nI (p + 1)), .long (zx_ z p), .null]) hP c94_81 rfl (nI_1 _) rfl ?_
      refine r_goto hP c94_84 ?_
      exact ih hlt _ _ _ (by rw [zset_, hacc]; first | rw [if_pos (Int64.not_le.mp h72)] | rw [if_neg (fun q => absurd h72 (Int64.not_le.mpr q))])
set_option maxRecDepth 4000 in
theorem x_set {K : ZKh} {P : Nat → Nat → List Value → List Value → ZMi → ZMl → ZMr → ZRt → Prop} {I : ZMi} {L : ZMl} {R : ZMr} {Q : ZRt} (hP : ZCl K P) {w nS nP nW : Nat} {S : ZS} (hK : zKa K) (hR : zRa R) (hw : zisW w) (hC : zC I w S nS nP nW) (hp8 : nP ≤ 8) (hs6 : nS ≤ 6) (hw6 : nW ≤ 6) (hs1 : 1 ≤ nS) (hp1 : 1 ≤ nP) (hsg : ∀ p, p < nP → ∃ a, a < nS ∧ S 3 p 0 = nI a) (hl9 : R 2 9 = w + 1) {z : Int32} (h : Q (some (.int (f_set S nP z))) I L R) : P 94 0 [.ref 2, .int z, .null, .null, .null, .null] [] I L R Q := by
  refine r_il hP c94_0 rfl ?_
  refine r_ic hP c94_1 ?_
  refine r_ic hP c94_2 ?_
  refine r_cSi (as := [.int z, .int 0, .int 9999]) (r := []) (I' := I) (L' := L) (R' := R) (x := if 0 ≤ z ∧ z ≤ 9999 then 1 else 0) hP c94_5 rfl rfl (fun _ h2 => x_within hP h2) ?_
  refine r_ifneB hP c94_8 (fun h8 => ?_) (fun h8 => ?_)
  · refine r_ic hP c94_13 ?_
    refine r_is (ls' := [.ref 2, .int z, .int 0, .null, .null, .null]) hP c94_14 (Nat.le_of_ble_eq_true rfl) rfl ?_
    refine r_ic hP c94_15 ?_
    refine r_is (ls' := [.ref 2, .int z, .int 0, .int 0, .null, .null]) hP c94_16 (Nat.le_of_ble_eq_true rfl) rfl ?_
    exact x_set_l hP hK hR hw hC hp8 hs6 hw6 hs1 hp1 hsg hl9 (by rw [f_set, if_pos h8] at h; exact h) 0 (Nat.zero_le _) _ _ _ rfl
  · refine r_ic hP c94_11 ?_
    exact r_irE hP c94_12 h (by rw [f_set, if_neg h8])
set_option maxRecDepth 4000 in
theorem x_loudWarm {K : ZKh} {P : Nat → Nat → List Value → List Value → ZMi → ZMl → ZMr → ZRt → Prop} {I : ZMi} {L : ZMl} {R : ZMr} {Q : ZRt} (hP : ZCl K P) {w nS nP nW : Nat} {S : ZS} (hK : zKa K) (hR : zRa R) (hw : zisW w) (hC : zC I w S nS nP nW) (hp8 : nP ≤ 8) (hs6 : nS ≤ 6) (hw6 : nW ≤ 6) (hs1 : 1 ≤ nS) (hp1 : 1 ≤ nP) (hsg : ∀ p, p < nP → ∃ a, a < nS ∧ S 3 p 0 = nI a) (hl9 : R 2 9 = w + 1) {st : Nat} (hst : st < 256) (h : ∀ I2, zfr I I2 → Q (some (.int (zlw S nS nP st))) I2 L R) : P 99 0 [.ref 2, .int (nI st)] [] I L R Q := by
  have hp256 := zp256 hp8
  have hw39 := zW39 hw
  refine r_al hP c99_0 rfl ?_
  refine r_gR (x := 7) hP c99_1 (zj2 hK) (zr2_2 hR) ?_
  refine r_al hP c99_4 rfl ?_
  refine r_gR (x := w) hP c99_5 (zj2 hK) hl9 ?_
  refine r_il hP c99_8 rfl ?_
  refine r_ic hP c99_9 ?_
  refine r_ic hP c99_11 ?_
  refine r_ic hP c99_12 ?_
  refine r_cVvp (as := [.ref w, .int (nI st), .int 30, .int (-1), .int (-1)]) (r := []) (a := 7) hP c99_13 rfl (zj7 hK) rfl (fun I2 L2 R2 => zPl I I2 S nP st 30 100 100 nS ∧ L = L2 ∧ R = R2) (fun Q2 hq => x_play hP hK hR hw hC hp8 hs6 hw6 hs1 hsg hst zno (zno2 hs6) (fun I2 h2 => hq I2 L R ⟨h2, rfl, rfl⟩)) ?_
  rintro I2 L2 R2 ⟨h2, rfl, rfl⟩
  refine r_al hP c99_16 rfl ?_
  refine r_gR (x := 7) hP c99_17 (zj2 hK) (zr2_2 hR) ?_
  refine r_cVi (as := []) (r := []) (I' := I2) (L' := L) (R' := R) (x := zlw S nS nP st) (a := 7) hP c99_20 rfl (zj7 hK) rfl (fun _ hq => x_loud hP hK hR (fun t ht => h2.2.2 t ht) hq) ?_
  exact r_irE hP c99_23 (h _ h2.1) rfl
set_option maxRecDepth 4000 in
theorem x_louder_l {K : ZKh} {P : Nat → Nat → List Value → List Value → ZMi → ZMl → ZMr → ZRt → Prop} {I : ZMi} {L : ZMl} {R : ZMr} {Q : ZRt} (hP : ZCl K P) {w nS nP nW : Nat} {S : ZS} (hK : zKa K) (hR : zRa R) (hw : zisW w) (hC : zC I w S nS nP nW) (hp8 : nP ≤ 8) (hs6 : nS ≤ 6) (hw6 : nW ≤ 6) (hs1 : 1 ≤ nS) (hp1 : 1 ≤ nP) (hsg : ∀ p, p < nP → ∃ a, a < nS ∧ S 3 p 0 = nI a) (hl9 : R 2 9 = w + 1) {st : Nat} (hst : st < 256) (h : ∀ I2, zfr I I2 → Q (some (.int (zlo S nS nP st nP))) I2 L R) : ∀ p, p ≤ nP → ∀ (I1 : ZMi) (acc : Int32) (v5 : Value), zfr I I1 ∧ acc = zlo S nS nP st p → P 90 24 [.ref 2, .int (nI st), .int (zlw S nS nP st), .int acc, .int (nI p), v5] [] I1 L R Q := by
  refine zloop nP (fun p => ∀ (I1 : ZMi) (acc : Int32) (v5 : Value), zfr I I1 ∧ acc = zlo S nS nP st p → P 90 24 [.ref 2, .int (nI st), .int (zlw S nS nP st), .int acc, .int (nI p), v5] [] I1 L R Q) ?_
  intro p hle ih I1 acc v5 hacc
  have hw39 := zW39 hw
  refine r_il hP c90_24 rfl ?_
  refine r_al hP c90_26 rfl ?_
  refine r_gR (x := w) hP c90_27 (zj2 hK) hl9 ?_
  refine r_gI (x := nI nP) hP c90_30 (zj_W hK hw) (zC_p (zC_fr hC hacc.1 hw hs6 hp8 hw6)) ?_
  refine r_ige hP c90_33 (fun h33 => ?_) (fun h33 => ?_)
  · have he : p = nP := Nat.le_antisymm hle ((nI_leI (by omega) (by omega)).mp h33)
    refine r_il hP c90_74 rfl ?_
    subst he
    exact r_irE hP c90_75 (h _ hacc.1) hacc.2
  · have hlt : p < nP := by
      rcases Nat.lt_or_ge p nP with q | q
      · exact q
      · exact absurd (nI_le q (by omega)) h33
    refine r_ic hP c90_36 ?_
    refine r_il hP c90_37 rfl ?_
    refine r_ishl hP c90_39 ?_
    refine r_is (ls' := [.ref 2, .int (nI st), .int (zlw S nS nP st), .int acc, .int (nI p), .int (1 <<< ((nI p) &&& 31))]) hP c90_40 (Nat.le_of_ble_eq_true rfl) rfl ?_
    refine r_il hP c90_42 rfl ?_
    refine r_il hP c90_43 rfl ?_
    refine r_iand hP c90_45 ?_
    refine r_ifeq hP c90_46 (fun h46 => ?_) (fun h46 => ?_)
    · have hb := (zbit_c st hst p (by omega)).mp h46
      refine r_inc (y := nI (p + 1)) (ls' := [.ref 2, .int (nI st), .int (zlw S nS nP st), .int acc, .int (nI (p + 1)), .int (1 <<< ((nI p) &&& 31))]) hP c90_68 rfl (nI_1 _) rfl ?_
      refine r_goto hP c90_71 ?_
      exact ih hlt _ _ _ (by
        rw [zlo]
        first
          | (have hq : st.testBit p = true ∧ zlw S nS nP st < zlw S nS nP (zclr st p) := ⟨hb, Int32.not_le.mp h60⟩; rw [if_pos hq, hacc.2]; exact ⟨zfr_t hacc.1 h2, rfl⟩)
          | (have hq : ¬ (st.testBit p = true ∧ zlw S nS nP st < zlw S nS nP (zclr st p)) := fun q => absurd h60 (Int32.not_le.mpr q.2); rw [if_neg hq]; exact ⟨zfr_t hacc.1 h2, hacc.2⟩)
          | (have hq : ¬ (st.testBit p = true ∧ zlw S nS nP st < zlw S nS nP (zclr st p)) := fun q => hb q.1; rw [if_neg hq]; exact hacc))
    · have hb : st.testBit p = true := Classical.byContradiction (fun q => h46 ((zbit_c st hst p (by omega)).mpr q))
      refine r_al hP c90_49 rfl ?_
      refine r_il hP c90_50 rfl ?_
      refine r_il hP c90_51 rfl ?_
      refine r_ic hP c90_53 ?_
      refine r_ixor hP c90_54 ?_
      refine r_iand hP c90_55 ?_
      refine r_ti (y := nI (zclr st p)) (zclr_c st hst p (by omega)) ?_
      refine r_cVip (as := [.int (nI (zclr st p))]) (r := []) (a := 2) hP c90_56 rfl (zj2 hK) rfl (fun z I2 L2 R2 => (z = zlw S nS nP (zclr st p) ∧ zfr I1 I2) ∧ L = L2 ∧ R = R2) (fun Q2 hq => x_loudWarm hP hK hR hw (zC_fr hC hacc.1 hw hs6 hp8 hw6) hp8 hs6 hw6 hs1 hp1 hsg hl9 (Nat.lt_of_le_of_lt (zclr_le st p) hst) (fun I2 h2 => hq _ I2 L R ⟨⟨rfl, h2⟩, rfl, rfl⟩)) ?_
      rintro z I2 L2 R2 ⟨⟨rfl, h2⟩, rfl, rfl⟩
      refine r_il hP c90_59 rfl ?_
      refine r_ile hP c90_60 (fun h60 => ?_) (fun h60 => ?_)
      · refine r_inc (y := nI (p + 1)) (ls' := [.ref 2, .int (nI st), .int (zlw S nS nP st), .int acc, .int (nI (p + 1)), .int (1 <<< ((nI p) &&& 31))]) hP c90_68 rfl (nI_1 _) rfl ?_
        refine r_goto hP c90_71 ?_
        exact ih hlt _ _ _ (by
          rw [zlo]
          first
            | (have hq : st.testBit p = true ∧ zlw S nS nP st < zlw S nS nP (zclr st p) := ⟨hb, Int32.not_le.mp h60⟩; rw [if_pos hq, hacc.2]; exact ⟨zfr_t hacc.1 h2, rfl⟩)
            | (have hq : ¬ (st.testBit p = true ∧ zlw S nS nP st < zlw S nS nP (zclr st p)) := fun q => absurd h60 (Int32.not_le.mpr q.2); rw [if_neg hq]; exact ⟨zfr_t hacc.1 h2, hacc.2⟩)
            | (have hq : ¬ (st.testBit p = true ∧ zlw S nS nP st < zlw S nS nP (zclr st p)) := fun q => hb q.1; rw [if_neg hq]; exact hacc))
      · refine r_il hP c90_63 rfl ?_
        refine r_il hP c90_64 rfl ?_
        refine r_ior hP c90_66 ?_
        refine r_is (ls' := [.ref 2, .int (nI st), .int (zlw S nS nP st), .int (acc ||| (1 <<< ((nI p) &&& 31))), .int (nI p), .int (1 <<< ((nI p) &&& 31))]) hP c90_67 (Nat.le_of_ble_eq_true rfl) rfl ?_
        refine r_inc (y := nI (p + 1)) (ls' := [.ref 2, .int (nI st), .int (zlw S nS nP st), .int (acc ||| (1 <<< ((nI p) &&& 31))), .int (nI (p + 1)), .int (1 <<< ((nI p) &&& 31))]) hP c90_68 rfl (nI_1 _) rfl ?_
        refine r_goto hP c90_71 ?_
        exact ih hlt _ _ _ (by
          rw [zlo]
          first
            | (have hq : st.testBit p = true ∧ zlw S nS nP st < zlw S nS nP (zclr st p) := ⟨hb, Int32.not_le.mp h60⟩; rw [if_pos hq, hacc.2]; exact ⟨zfr_t hacc.1 h2, rfl⟩)
            | (have hq : ¬ (st.testBit p = true ∧ zlw S nS nP st < zlw S nS nP (zclr st p)) := fun q => absurd h60 (Int32.not_le.mpr q.2); rw [if_neg hq]; exact ⟨zfr_t hacc.1 h2, hacc.2⟩)
            | (have hq : ¬ (st.testBit p = true ∧ zlw S nS nP st < zlw S nS nP (zclr st p)) := fun q => hb q.1; rw [if_neg hq]; exact hacc))
set_option maxRecDepth 4000 in
theorem x_louder {K : ZKh} {P : Nat → Nat → List Value → List Value → ZMi → ZMl → ZMr → ZRt → Prop} {I : ZMi} {L : ZMl} {R : ZMr} {Q : ZRt} (hP : ZCl K P) {w nS nP nW : Nat} {S : ZS} (hK : zKa K) (hR : zRa R) (hw : zisW w) (hC : zC I w S nS nP nW) (hp8 : nP ≤ 8) (hs6 : nS ≤ 6) (hw6 : nW ≤ 6) (hs1 : 1 ≤ nS) (hp1 : 1 ≤ nP) (hsg : ∀ p, p < nP → ∃ a, a < nS ∧ S 3 p 0 = nI a) (hl9 : R 2 9 = w + 1) {x : Int32} (h : ∀ I2, zfr I I2 → Q (some (.int (f_louder S nS nP x))) I2 L R) : P 90 0 [.ref 2, .int x, .null, .null, .null, .null] [] I L R Q := by
  have hp256 := zp256 hp8
  have hw39 := zW39 hw
  refine r_al hP c90_0 rfl ?_
  refine r_gR (x := w) hP c90_1 (zj2 hK) hl9 ?_
  refine r_il hP c90_4 rfl ?_
  refine r_cVi (as := [.int x]) (r := []) (I' := I) (L' := L) (R' := R) (x := if zr x (2 ^ nP) then 1 else 0) (a := w) hP c90_5 rfl (zj_W hK hw) rfl (fun _ hq => x_hasState hP hK hR hw hC hp8 hs6 hw6 hq) ?_
  refine r_ifneB hP c90_8 (fun h8 => ?_) (fun h8 => ?_)
  · obtain ⟨st, hst, rfl⟩ := (zr_iff (Nat.lt_of_le_of_lt (zp256 hp8) (by decide))).mp h8
    refine r_al hP c90_13 rfl ?_
    refine r_il hP c90_14 rfl ?_
    refine r_cVip (as := [.int (nI st)]) (r := []) (a := 2) hP c90_15 rfl (zj2 hK) rfl (fun z I2 L2 R2 => (z = zlw S nS nP st ∧ zfr I I2) ∧ L = L2 ∧ R = R2) (fun Q2 hq => x_loudWarm hP hK hR hw hC hp8 hs6 hw6 hs1 hp1 hsg hl9 (by omega) (fun I2 h2 => hq _ I2 L R ⟨⟨rfl, h2⟩, rfl, rfl⟩)) ?_
    rintro z I2 L2 R2 ⟨⟨rfl, h2⟩, rfl, rfl⟩
    refine r_is (ls' := [.ref 2, .int (nI st), .int (zlw S nS nP st), .null, .null, .null]) hP c90_18 (Nat.le_of_ble_eq_true rfl) rfl ?_
    refine r_ic hP c90_19 ?_
    refine r_is (ls' := [.ref 2, .int (nI st), .int (zlw S nS nP st), .int 0, .null, .null]) hP c90_20 (Nat.le_of_ble_eq_true rfl) rfl ?_
    refine r_ic hP c90_21 ?_
    refine r_is (ls' := [.ref 2, .int (nI st), .int (zlw S nS nP st), .int 0, .int 0, .null]) hP c90_22 (Nat.le_of_ble_eq_true rfl) rfl ?_
    exact x_louder_l hP hK hR hw hC hp8 hs6 hw6 hs1 hp1 hsg hl9 (by omega) (fun I3 h3 => by have := h I3 h3; rw [f_louder, if_pos h8, nI_clamp (by omega)] at this; exact this) 0 (Nat.zero_le _) _ _ _ ⟨h2, rfl⟩
  · refine r_ic hP c90_11 ?_
    exact r_irE hP c90_12 (h _ (zfr_r I)) (by rw [f_louder, if_neg h8])
theorem x_goneG {K : ZKh} {P : Nat → Nat → List Value → List Value → ZMi → ZMl → ZMr → ZRt → Prop} {I : ZMi} {L : ZMl} {R : ZMr} {Q : ZRt} (hP : ZCl K P) {w nS nP nW : Nat} {S : ZS} (hK : zKa K) (hR : zRa R) (hw : zisW w) (hC : zC I w S nS nP nW) (hp8 : nP ≤ 8) (hs6 : nS ≤ 6) (hw6 : nW ≤ 6) (hs1 : 1 ≤ nS) (hp1 : 1 ≤ nP) (hsg : ∀ p, p < nP → ∃ a, a < nS ∧ S 3 p 0 = nI a) (hl9 : R 2 9 = w + 1) (hkd : ∀ p, p < nP → ∃ a, a < 5 ∧ S 4 p 0 = nI a) {j n : Nat} (hj : j < nP) (hn : n ≤ 50) (h : Q (some (.int (zgg S n j))) I L R) : P 68 0 [.ref w, .int (nI j), .int (nI n), .null, .null, .null, .null] [] I L R Q := by
  obtain ⟨kk, hkk, hke⟩ := hkd j hj
  have hkc : (S 4 j 0).toNatClampNeg = kk := by rw [hke]; exact nI_clamp (by omega)
  rw [zgg, hkc] at h
  exact x_gone hP hK hR hw hC hp8 hs6 hw6 hj hkk hke hn h
set_option maxRecDepth 4000 in
theorem x_ntg_l {K : ZKh} {P : Nat → Nat → List Value → List Value → ZMi → ZMl → ZMr → ZRt → Prop} {I : ZMi} {L : ZMl} {R : ZMr} {Q : ZRt} (hP : ZCl K P) {w nS nP nW : Nat} {S : ZS} (hK : zKa K) (hR : zRa R) (hw : zisW w) (hC : zC I w S nS nP nW) (hp8 : nP ≤ 8) (hs6 : nS ≤ 6) (hw6 : nW ≤ 6) (hs1 : 1 ≤ nS) (hp1 : 1 ≤ nP) (hsg : ∀ p, p < nP → ∃ a, a < nS ∧ S 3 p 0 = nI a) (hl9 : R 2 9 = w + 1) (hkd : ∀ p, p < nP → ∃ a, a < 5 ∧ S 4 p 0 = nI a) {n : Nat} (hn : n ≤ 50) (h : Q (some (.int (nI (zng (zgg S n) (nP - 1))))) I L R) : ∀ q, q ≤ (nP - 1) → ∀ (x1 x2 : Int32) (v5 : Value), x1 = nI (zng (zgg S n) q) ∧ x2 = zgg S n (zng (zgg S n) q) → P 93 27 [.ref 2, .int (nI n), .int x1, .int x2, .int (nI (q + 1)), v5] [] I L R Q := by
  refine zloop (nP - 1) (fun q => ∀ (x1 x2 : Int32) (v5 : Value), x1 = nI (zng (zgg S n) q) ∧ x2 = zgg S n (zng (zgg S n) q) → P 93 27 [.ref 2, .int (nI n), .int x1, .int x2, .int (nI (q + 1)), v5] [] I L R Q) ?_
  intro q hle ih x1 x2 v5 hacc
  refine r_il hP c93_27 rfl ?_
  refine r_al hP c93_29 rfl ?_
  refine r_gR (x := w) hP c93_30 (zj2 hK) hl9 ?_
  refine r_gI (x := nI nP) hP c93_33 (zj_W hK hw) (zC_p hC) ?_
  refine r_ige hP c93_36 (fun h36 => ?_) (fun h36 => ?_)
  · have he : q = nP - 1 := by
      have := (nI_leI (a := nP) (b := q + 1) (by omega) (by omega)).mp h36
      omega
    refine r_il hP c93_69 rfl ?_
    exact r_irE hP c93_70 h (by rw [hacc.1, he])
  · have hlt : q < nP - 1 := by
      have := (not_congr (nI_leI (a := nP) (b := q + 1) (by omega) (by omega))).mp h36
      omega
    refine r_al hP c93_39 rfl ?_
    refine r_gR (x := w) hP c93_40 (zj2 hK) hl9 ?_
    refine r_il hP c93_43 rfl ?_
    refine r_il hP c93_45 rfl ?_
    refine r_cVi (as := [.int (nI (q + 1)), .int (nI n)]) (r := []) (I' := I) (L' := L) (R' := R) (x := zgg S n (q + 1)) (a := w) hP c93_46 rfl (zj_W hK hw) rfl (fun _ hq => x_goneG (j := q + 1) hP hK hR hw hC hp8 hs6 hw6 hs1 hp1 hsg hl9 hkd (by omega) hn hq) ?_
    refine r_is (ls' := [.ref 2, .int (nI n), .int x1, .int x2, .int (nI (q + 1)), .int (zgg S n (q + 1))]) hP c93_49 (Nat.le_of_ble_eq_true rfl) rfl ?_
    refine r_il hP c93_51 rfl ?_
    refine r_il hP c93_53 rfl ?_
    refine r_ile hP c93_54 (fun h54 => ?_) (fun h54 => ?_)
    · refine r_inc (y := nI (q + 2)) (ls' := [.ref 2, .int (nI n), .int x1, .int x2, .int (nI (q + 2)), .int (zgg S n (q + 1))]) hP c93_63 rfl (nI_1 _) rfl ?_
      refine r_goto hP c93_66 ?_
      exact ih hlt _ _ _ (by
        rw [zng]
        first
          | (have hq : zgg S n (zng (zgg S n) q) < zgg S n (q + 1) := by rw [← hacc.2]; exact Int32.not_le.mp h54
             rw [if_pos hq]; exact ⟨rfl, rfl⟩)
          | (have hq : ¬ zgg S n (zng (zgg S n) q) < zgg S n (q + 1) := by rw [← hacc.2]; exact fun z => absurd h54 (Int32.not_le.mpr z)
             rw [if_neg hq]; exact hacc))
    · refine r_il hP c93_57 rfl ?_
      refine r_is (ls' := [.ref 2, .int (nI n), .int x1, .int (zgg S n (q + 1)), .int (nI (q + 1)), .int (zgg S n (q + 1))]) hP c93_59 (Nat.le_of_ble_eq_true rfl) rfl ?_
      refine r_il hP c93_60 rfl ?_
      refine r_is (ls' := [.ref 2, .int (nI n), .int (nI (q + 1)), .int (zgg S n (q + 1)), .int (nI (q + 1)), .int (zgg S n (q + 1))]) hP c93_62 (Nat.le_of_ble_eq_true rfl) rfl ?_
      refine r_inc (y := nI (q + 2)) (ls' := [.ref 2, .int (nI n), .int (nI (q + 1)), .int (zgg S n (q + 1)), .int (nI (q + 2)), .int (zgg S n (q + 1))]) hP c93_63 rfl (nI_1 _) rfl ?_
      refine r_goto hP c93_66 ?_
      exact ih hlt _ _ _ (by
        rw [zng]
        first
          | (have hq : zgg S n (zng (zgg S n) q) < zgg S n (q + 1) := by rw [← hacc.2]; exact Int32.not_le.mp h54
             rw [if_pos hq]; exact ⟨rfl, rfl⟩)
          | (have hq : ¬ zgg S n (zng (zgg S n) q) < zgg S n (q + 1) := by rw [← hacc.2]; exact fun z => absurd h54 (Int32.not_le.mpr z)
             rw [if_neg hq]; exact hacc))
set_option maxRecDepth 4000 in
theorem x_ntg {K : ZKh} {P : Nat → Nat → List Value → List Value → ZMi → ZMl → ZMr → ZRt → Prop} {I : ZMi} {L : ZMl} {R : ZMr} {Q : ZRt} (hP : ZCl K P) {w nS nP nW : Nat} {S : ZS} (hK : zKa K) (hR : zRa R) (hw : zisW w) (hC : zC I w S nS nP nW) (hp8 : nP ≤ 8) (hs6 : nS ≤ 6) (hw6 : nW ≤ 6) (hs1 : 1 ≤ nS) (hp1 : 1 ≤ nP) (hsg : ∀ p, p < nP → ∃ a, a < nS ∧ S 3 p 0 = nI a) (hl9 : R 2 9 = w + 1) (hkd : ∀ p, p < nP → ∃ a, a < 5 ∧ S 4 p 0 = nI a) {y : Int32} (h : Q (some (.int (f_ntg S nP y))) I L R) : P 93 0 [.ref 2, .int y, .null, .null, .null, .null] [] I L R Q := by
  have hp256 := zp256 hp8
  have hw39 := zW39 hw
  refine r_il hP c93_0 rfl ?_
  refine r_ic hP c93_1 ?_
  refine r_ic hP c93_2 ?_
  refine r_cSi (as := [.int y, .int 1, .int 50]) (r := []) (I' := I) (L' := L) (R' := R) (x := if 1 ≤ y ∧ y ≤ 50 then 1 else 0) hP c93_4 rfl rfl (fun _ h2 => x_within hP h2) ?_
  refine r_ifneB hP c93_7 (fun h7 => ?_) (fun h7 => ?_)
  · obtain ⟨n, hn, rfl⟩ := zb_nI (n := 50) rfl (by decide) ⟨Int32.le_trans (by decide : (0 : Int32) ≤ 1) h7.1, h7.2⟩
    refine r_ic hP c93_12 ?_
    refine r_is (ls' := [.ref 2, .int (nI n), .int 0, .null, .null, .null]) hP c93_13 (Nat.le_of_ble_eq_true rfl) rfl ?_
    refine r_al hP c93_14 rfl ?_
    refine r_gR (x := w) hP c93_15 (zj2 hK) hl9 ?_
    refine r_ic hP c93_18 ?_
    refine r_il hP c93_19 rfl ?_
    refine r_cVi (as := [.int 0, .int (nI n)]) (r := []) (I' := I) (L' := L) (R' := R) (x := zgg S n 0) (a := w) hP c93_20 rfl (zj_W hK hw) rfl (fun _ hq => x_goneG (j := 0) hP hK hR hw hC hp8 hs6 hw6 hs1 hp1 hsg hl9 hkd (by omega) hn hq) ?_
    refine r_is (ls' := [.ref 2, .int (nI n), .int 0, .int (zgg S n 0), .null, .null]) hP c93_23 (Nat.le_of_ble_eq_true rfl) rfl ?_
    refine r_ic hP c93_24 ?_
    refine r_is (ls' := [.ref 2, .int (nI n), .int 0, .int (zgg S n 0), .int 1, .null]) hP c93_25 (Nat.le_of_ble_eq_true rfl) rfl ?_
    exact x_ntg_l hP hK hR hw hC hp8 hs6 hw6 hs1 hp1 hsg hl9 hkd hn (by rw [f_ntg, if_pos h7, nI_clamp (by omega)] at h; exact h) 0 (Nat.zero_le _) _ _ _ ⟨rfl, rfl⟩
  · refine r_ic hP c93_10 ?_
    exact r_irE hP c93_11 h (by rw [f_ntg, if_neg h7])
set_option maxRecDepth 4000 in
theorem x_possible {K : ZKh} {P : Nat → Nat → List Value → List Value → ZMi → ZMl → ZMr → ZRt → Prop} {I : ZMi} {L : ZMl} {R : ZMr} {Q : ZRt} (hP : ZCl K P) {w nS nP nW : Nat} {S : ZS} (hK : zKa K) (hR : zRa R) (hw : zisW w) (hC : zC I w S nS nP nW) (hp8 : nP ≤ 8) (hs6 : nS ≤ 6) (hw6 : nW ≤ 6) (hs1 : 1 ≤ nS) (hp1 : 1 ≤ nP) (hsg : ∀ p, p < nP → ∃ a, a < nS ∧ S 3 p 0 = nI a) (hl9 : R 2 9 = w + 1) {cs : List Nat} (hcs : zCs I L S nP cs) (hok : zok S nP cs) {x : Int32} (h : Q (some (.long (f_poss S nP cs x))) I L R) : P 84 0 [.ref 2, .int x] [] I L R Q := by
  refine r_il hP c84_0 rfl ?_
  refine r_ic hP c84_1 ?_
  refine r_ic hP c84_2 ?_
  refine r_cSi (as := [.int x, .int 0, .int 1]) (r := []) (I' := I) (L' := L) (R' := R) (x := if 0 ≤ x ∧ x ≤ 1 then 1 else 0) hP c84_3 rfl rfl (fun _ h2 => x_within hP h2) ?_
  refine r_ifneB hP c84_6 (fun h6 => ?_) (fun h6 => ?_)
  · refine r_il hP c84_13 rfl ?_
    refine r_ifne hP c84_14 (fun h14 => ?_) (fun h14 => ?_)
    · refine r_al hP c84_28 rfl ?_
      refine r_gR (x := 31) hP c84_29 (zj2 hK) (zr2_6 hR) ?_
      refine r_gL (x := zsw_ S nP cs) hP c84_32 (zj31 hK) hcs.2.2 ?_
      exact r_lrE hP c84_35 h (by first | (rw [f_poss, if_neg h6]; done) | (rw [f_poss, if_pos h6, if_pos h14]; done) | (rw [f_poss, if_pos h6, if_neg h14]; done))
    · refine r_al hP c84_17 rfl ?_
      refine r_gR (x := 31) hP c84_18 (zj2 hK) (zr2_6 hR) ?_
      refine r_gI (x := nI cs.length) hP c84_21 (zj31 hK) hcs.1 ?_
      refine r_i2l hP c84_24 ?_
      refine r_goto hP c84_25 ?_
      exact r_lrE hP c84_35 h (by first | (rw [f_poss, if_neg h6]; done) | (rw [f_poss, if_pos h6, if_pos h14]; done) | (rw [f_poss, if_pos h6, if_neg h14]; done))
  · refine r_lc hP c84_9 ?_
    exact r_lrE hP c84_12 h (by first | (rw [f_poss, if_neg h6]; done) | (rw [f_poss, if_pos h6, if_pos h14]; done) | (rw [f_poss, if_pos h6, if_neg h14]; done))
set_option maxRecDepth 4000 in
theorem x_likeliest {K : ZKh} {P : Nat → Nat → List Value → List Value → ZMi → ZMl → ZMr → ZRt → Prop} {I : ZMi} {L : ZMl} {R : ZMr} {Q : ZRt} (hP : ZCl K P) {w nS nP nW : Nat} {S : ZS} (hK : zKa K) (hR : zRa R) (hw : zisW w) (hC : zC I w S nS nP nW) (hp8 : nP ≤ 8) (hs6 : nS ≤ 6) (hw6 : nW ≤ 6) (hs1 : 1 ≤ nS) (hp1 : 1 ≤ nP) (hsg : ∀ p, p < nP → ∃ a, a < nS ∧ S 3 p 0 = nI a) (hl9 : R 2 9 = w + 1) {cs : List Nat} (hcs : zCs I L S nP cs) (hok : zok S nP cs) (h : Q (some (.int (zhv S nP cs).1)) I L R) : P 86 0 [.ref 2] [] I L R Q := by
  refine r_al hP c86_0 rfl ?_
  refine r_gR (x := 31) hP c86_1 (zj2 hK) (zr2_6 hR) ?_
  refine r_cVi (as := []) (r := []) (I' := I) (L' := L) (R' := R) (x := (zhv S nP cs).1) (a := 31) hP c86_4 rfl (zj31 hK) rfl (fun _ hq => x_hv hP hK hR hcs hok.1 hq) ?_
  exact r_irE hP c86_7 h (by rfl)
set_option maxRecDepth 4000 in
theorem x_odds {K : ZKh} {P : Nat → Nat → List Value → List Value → ZMi → ZMl → ZMr → ZRt → Prop} {I : ZMi} {L : ZMl} {R : ZMr} {Q : ZRt} (hP : ZCl K P) {w nS nP nW : Nat} {S : ZS} (hK : zKa K) (hR : zRa R) (hw : zisW w) (hC : zC I w S nS nP nW) (hp8 : nP ≤ 8) (hs6 : nS ≤ 6) (hw6 : nW ≤ 6) (hs1 : 1 ≤ nS) (hp1 : 1 ≤ nP) (hsg : ∀ p, p < nP → ∃ a, a < nS ∧ S 3 p 0 = nI a) (hl9 : R 2 9 = w + 1) {cs : List Nat} (hcs : zCs I L S nP cs) (hok : zok S nP cs) {p y : Int32} (h : Q (some (.long (f_odds S nP cs p y))) I L R) : P 85 0 [.ref 2, .int p, .int y, .null, .null, .null, .null, .null, .null] [] I L R Q := by
  refine r_al hP c85_0 rfl ?_
  refine r_gR (x := w) hP c85_1 (zj2 hK) hl9 ?_
  refine r_il hP c85_4 rfl ?_
  refine r_cVi (as := [.int p]) (r := []) (I' := I) (L' := L) (R' := R) (x := if zr p nP then 1 else 0) (a := w) hP c85_5 rfl (zj_W hK hw) rfl (fun _ h2 => x_hasPart hP (zj_W hK hw) (zC_p hC) (by omega) h2) ?_
  refine r_ifeqB hP c85_8 (fun h8 => ?_) (fun h8 => ?_)
  · refine r_lc hP c85_20 ?_
    exact r_lrE hP c85_23 h (by first | (rw [f_odds, if_neg (fun q => h8 q.1)]; done) | (rw [f_odds, if_neg (fun q => h17 q.2)]; done) | (rw [f_odds, if_pos ⟨h8, h17⟩, if_pos hl0]; done) | (rw [f_odds, if_pos ⟨h8, h17⟩, if_neg hl0, nI_clamp (by omega), if_pos h68]; done) | (rw [f_odds, if_pos ⟨h8, h17⟩, if_neg hl0, nI_clamp (by omega), if_neg h68, if_pos h76]; done) | (rw [f_odds, if_pos ⟨h8, h17⟩, if_neg hl0, nI_clamp (by omega), if_neg h68, if_neg h76]; done))
  · refine r_il hP c85_11 rfl ?_
    refine r_ic hP c85_12 ?_
    refine r_ic hP c85_13 ?_
    refine r_cSi (as := [.int y, .int 0, .int 1]) (r := []) (I' := I) (L' := L) (R' := R) (x := if 0 ≤ y ∧ y ≤ 1 then 1 else 0) hP c85_14 rfl rfl (fun _ h2 => x_within hP h2) ?_
    refine r_ifneB hP c85_17 (fun h17 => ?_) (fun h17 => ?_)
    · obtain ⟨j, hj, rfl⟩ := (zr_iff (by omega)).mp h8
      refine r_al hP c85_24 rfl ?_
      refine r_gR (x := 31) hP c85_25 (zj2 hK) (zr2_6 hR) ?_
      refine r_gI (x := nI cs.length) hP c85_28 (zj31 hK) hcs.1 ?_
      refine r_ifne hP c85_31 (fun h31 => ?_) (fun h31 => ?_)
      · have hl0 : ¬ cs.length = 0 := fun q => h31 (by rw [q]; rfl)
        refine r_al hP c85_38 rfl ?_
        refine r_gR (x := 31) hP c85_39 (zj2 hK) (zr2_6 hR) ?_
        refine r_il hP c85_42 rfl ?_
        refine r_cVl (as := [.int (nI j)]) (r := []) (I' := I) (L' := L) (R' := R) (x := zww S nP j cs) (a := 31) hP c85_43 rfl (zj31 hK) rfl (fun _ hq => x_ww hP hK hR hcs hok.1 (zok_256 hok hp8) (by omega) hq) ?_
        refine r_ls (ls' := [.ref 2, .int (nI j), .int y, .long (zww S nP j cs), .null, .null, .null, .null, .null]) hP c85_46 (Nat.le_of_ble_eq_true rfl) rfl ?_
        refine r_al hP c85_47 rfl ?_
        refine r_gR (x := 31) hP c85_48 (zj2 hK) (zr2_6 hR) ?_
        refine r_gL (x := zsw_ S nP cs) hP c85_51 (zj31 hK) hcs.2.2 ?_
        refine r_ls (ls' := [.ref 2, .int (nI j), .int y, .long (zww S nP j cs), .null, .long (zsw_ S nP cs), .null, .null, .null]) hP c85_54 (Nat.le_of_ble_eq_true rfl) rfl ?_
        refine r_ll hP c85_56 rfl ?_
        refine r_ll hP c85_57 rfl ?_
        refine r_cSl (as := [.long (zww S nP j cs), .long (zsw_ S nP cs)]) (r := []) (I' := I) (L' := L) (R' := R) (x := zeu 100 (zww S nP j cs) (zsw_ S nP cs)) hP c85_59 rfl rfl (fun _ hq => x_euclid hP hq) ?_
        refine r_ls (ls' := [.ref 2, .int (nI j), .int y, .long (zww S nP j cs), .null, .long (zsw_ S nP cs), .null, .long (zeu 100 (zww S nP j cs) (zsw_ S nP cs)), .null]) hP c85_62 (Nat.le_of_ble_eq_true rfl) rfl ?_
        refine r_ll hP c85_64 rfl ?_
        refine r_lc hP c85_66 ?_
        refine r_lcmp hP c85_67 ?_
        refine r_ifneL hP c85_68 (fun h68 => ?_) (fun h68 => ?_)
        · refine r_il hP c85_75 rfl ?_
          refine r_ifne hP c85_76 (fun h76 => ?_) (fun h76 => ?_)
          · refine r_ll hP c85_86 rfl ?_
            refine r_ll hP c85_88 rfl ?_
            refine r_ldiv hP c85_90 h68 ?_
            exact r_lrE hP c85_91 h (by first | (rw [f_odds, if_neg (fun q => h8 q.1)]; done) | (rw [f_odds, if_neg (fun q => h17 q.2)]; done) | (rw [f_odds, if_pos ⟨h8, h17⟩, if_pos hl0]; done) | (rw [f_odds, if_pos ⟨h8, h17⟩, if_neg hl0, nI_clamp (by omega), if_pos h68]; done) | (rw [f_odds, if_pos ⟨h8, h17⟩, if_neg hl0, nI_clamp (by omega), if_neg h68, if_pos h76]; done) | (rw [f_odds, if_pos ⟨h8, h17⟩, if_neg hl0, nI_clamp (by omega), if_neg h68, if_neg h76]; done))
          · refine r_ll hP c85_79 rfl ?_
            refine r_ll hP c85_80 rfl ?_
            refine r_ldiv hP c85_82 h68 ?_
            refine r_goto hP c85_83 ?_
            exact r_lrE hP c85_91 h (by first | (rw [f_odds, if_neg (fun q => h8 q.1)]; done) | (rw [f_odds, if_neg (fun q => h17 q.2)]; done) | (rw [f_odds, if_pos ⟨h8, h17⟩, if_pos hl0]; done) | (rw [f_odds, if_pos ⟨h8, h17⟩, if_neg hl0, nI_clamp (by omega), if_pos h68]; done) | (rw [f_odds, if_pos ⟨h8, h17⟩, if_neg hl0, nI_clamp (by omega), if_neg h68, if_pos h76]; done) | (rw [f_odds, if_pos ⟨h8, h17⟩, if_neg hl0, nI_clamp (by omega), if_neg h68, if_neg h76]; done))
        · refine r_lc hP c85_71 ?_
          exact r_lrE hP c85_74 h (by first | (rw [f_odds, if_neg (fun q => h8 q.1)]; done) | (rw [f_odds, if_neg (fun q => h17 q.2)]; done) | (rw [f_odds, if_pos ⟨h8, h17⟩, if_pos hl0]; done) | (rw [f_odds, if_pos ⟨h8, h17⟩, if_neg hl0, nI_clamp (by omega), if_pos h68]; done) | (rw [f_odds, if_pos ⟨h8, h17⟩, if_neg hl0, nI_clamp (by omega), if_neg h68, if_pos h76]; done) | (rw [f_odds, if_pos ⟨h8, h17⟩, if_neg hl0, nI_clamp (by omega), if_neg h68, if_neg h76]; done))
      · have hl0 : cs.length = 0 := (nI_eq (b := 0) (by have := hok.1; omega) (by decide)).mp h31
        refine r_lc hP c85_34 ?_
        exact r_lrE hP c85_37 h (by first | (rw [f_odds, if_neg (fun q => h8 q.1)]; done) | (rw [f_odds, if_neg (fun q => h17 q.2)]; done) | (rw [f_odds, if_pos ⟨h8, h17⟩, if_pos hl0]; done) | (rw [f_odds, if_pos ⟨h8, h17⟩, if_neg hl0, nI_clamp (by omega), if_pos h68]; done) | (rw [f_odds, if_pos ⟨h8, h17⟩, if_neg hl0, nI_clamp (by omega), if_neg h68, if_pos h76]; done) | (rw [f_odds, if_pos ⟨h8, h17⟩, if_neg hl0, nI_clamp (by omega), if_neg h68, if_neg h76]; done))
    · refine r_lc hP c85_20 ?_
      exact r_lrE hP c85_23 h (by first | (rw [f_odds, if_neg (fun q => h8 q.1)]; done) | (rw [f_odds, if_neg (fun q => h17 q.2)]; done) | (rw [f_odds, if_pos ⟨h8, h17⟩, if_pos hl0]; done) | (rw [f_odds, if_pos ⟨h8, h17⟩, if_neg hl0, nI_clamp (by omega), if_pos h68]; done) | (rw [f_odds, if_pos ⟨h8, h17⟩, if_neg hl0, nI_clamp (by omega), if_neg h68, if_pos h76]; done) | (rw [f_odds, if_pos ⟨h8, h17⟩, if_neg hl0, nI_clamp (by omega), if_neg h68, if_neg h76]; done))
theorem zch_st (S : ZS) (nS nP : Nat) (cs : List Nat) (x : Int32) : ∀ i, (zch S nS nP cs x i).1 = -4 ∨ ∃ b, b < i ∧ (zch S nS nP cs x i).1 = nI b ∧ (zch S nS nP cs x i).2 = zcs S b nP
  | 0 => Or.inl rfl
  | i + 1 => by
    unfold zch
    split
    · exact Or.inr ⟨i, by omega, rfl, rfl⟩
    · rcases zch_st S nS nP cs x i with h | ⟨b, h1, h2⟩
      · exact Or.inl h
      · exact Or.inr ⟨b, by omega, h2⟩
set_option maxRecDepth 4000 in
theorem x_change {K : ZKh} {P : Nat → Nat → List Value → List Value → ZMi → ZMl → ZMr → ZRt → Prop} {I : ZMi} {L : ZMl} {R : ZMr} {Q : ZRt} (hP : ZCl K P) {w nS nP nW : Nat} {S : ZS} (hK : zKa K) (hR : zRa R) (hw : zisW w) (hC : zC I w S nS nP nW) (hp8 : nP ≤ 8) (hs6 : nS ≤ 6) (hw6 : nW ≤ 6) (hs1 : 1 ≤ nS) (hp1 : 1 ≤ nP) (hsg : ∀ p, p < nP → ∃ a, a < nS ∧ S 3 p 0 = nI a) (hl9 : R 2 9 = w + 1) {cs : List Nat} (hcs : zCs I L S nP cs) (hok : zok S nP cs) {q y : Int32} (hqt : zQt I S nS nP (2 ^ nP)) (h : Q (some (.int (f_change S nS nP cs q y))) I L R) : P 88 0 [.ref 2, .int q, .int y, .null] [] I L R Q := by
  have hp256 := zp256 hp8
  refine r_il hP c88_0 rfl ?_
  refine r_ic hP c88_1 ?_
  refine r_ic hP c88_2 ?_
  refine r_cSi (as := [.int q, .int 0, .int 100]) (r := []) (I' := I) (L' := L) (R' := R) (x := if 0 ≤ q ∧ q ≤ 100 then 1 else 0) hP c88_4 rfl rfl (fun _ h2 => x_within hP h2) ?_
  refine r_ifeqB hP c88_7 (fun h7 => ?_) (fun h7 => ?_)
  · refine r_ic hP c88_19 ?_
    exact r_irE hP c88_20 h (by first | (rw [f_change, if_neg (fun z => h7 z.1)]; done) | (rw [f_change, if_neg (fun z => h16 z.2)]; done) | (rw [f_change, if_pos ⟨h7, h16⟩, if_pos hl0]; done) | (rw [f_change, if_pos ⟨h7, h16⟩, if_neg hl0, if_pos h54]; done) | (rw [f_change, if_pos ⟨h7, h16⟩, if_neg hl0, if_neg h54, if_pos h61]; done) | (rw [f_change, if_pos ⟨h7, h16⟩, if_neg hl0, if_neg h54, if_neg h61]; done))
  · refine r_il hP c88_10 rfl ?_
    refine r_ic hP c88_11 ?_
    refine r_ic hP c88_12 ?_
    refine r_cSi (as := [.int y, .int 0, .int 1]) (r := []) (I' := I) (L' := L) (R' := R) (x := if 0 ≤ y ∧ y ≤ 1 then 1 else 0) hP c88_13 rfl rfl (fun _ h2 => x_within hP h2) ?_
    refine r_ifneB hP c88_16 (fun h16 => ?_) (fun h16 => ?_)
    · refine r_al hP c88_21 rfl ?_
      refine r_gR (x := 31) hP c88_22 (zj2 hK) (zr2_6 hR) ?_
      refine r_gI (x := nI cs.length) hP c88_25 (zj31 hK) hcs.1 ?_
      refine r_ifne hP c88_28 (fun h28 => ?_) (fun h28 => ?_)
      · have hl0 : ¬ cs.length = 0 := fun q => h28 (by rw [q]; rfl)
        refine r_al hP c88_34 rfl ?_
        refine r_gR (x := 36) hP c88_35 (zj2 hK) (zr2_8 hR) ?_
        refine r_al hP c88_38 rfl ?_
        refine r_gR (x := w) hP c88_39 (zj2 hK) hl9 ?_
        refine r_al hP c88_42 rfl ?_
        refine r_gR (x := 31) hP c88_43 (zj2 hK) (zr2_6 hR) ?_
        refine r_il hP c88_46 rfl ?_
        refine r_cVi (as := [.ref w, .ref 31, .int q]) (r := []) (I' := I) (L' := L) (R' := R) (x := (zch S nS nP cs q (2 ^ nP)).1) (a := 36) hP c88_47 rfl (zj36 hK) rfl (fun _ hq => x_cheap hP hK hR hw hC hp8 hs6 hw6 hcs hok hqt hq) ?_
        refine r_is (ls' := [.ref 2, .int q, .int y, .int ((zch S nS nP cs q (2 ^ nP)).1)]) hP c88_50 (Nat.le_of_ble_eq_true rfl) rfl ?_
        refine r_il hP c88_51 rfl ?_
        refine r_ic hP c88_52 ?_
        refine r_ine hP c88_54 (fun h54 => ?_) (fun h54 => ?_)
        · refine r_il hP c88_60 rfl ?_
          refine r_ifne hP c88_61 (fun h61 => ?_) (fun h61 => ?_)
          · refine r_al hP c88_68 rfl ?_
            refine r_gR (x := w) hP c88_69 (zj2 hK) hl9 ?_
            refine r_il hP c88_72 rfl ?_
            refine r_cVi (as := [.int ((zch S nS nP cs q (2 ^ nP)).1)]) (r := []) (I' := I) (L' := L) (R' := R) (x := zcs S (zch S nS nP cs q (2 ^ nP)).1.toNatClampNeg nP) (a := w) hP c88_73 rfl (zj_W hK hw) rfl (fun _ hq => by
    obtain ⟨b, hb1, hb2, -⟩ := (zch_st S nS nP cs q (2 ^ nP)).resolve_left h54
    rw [hb2] at hq ⊢
    rw [nI_clamp (by omega)] at hq
    exact x_costOf hP hK hR hw hC hp8 hs6 hw6 (by omega) hq) ?_
            exact r_irE hP c88_76 h (by first | (rw [f_change, if_neg (fun z => h7 z.1)]; done) | (rw [f_change, if_neg (fun z => h16 z.2)]; done) | (rw [f_change, if_pos ⟨h7, h16⟩, if_pos hl0]; done) | (rw [f_change, if_pos ⟨h7, h16⟩, if_neg hl0, if_pos h54]; done) | (rw [f_change, if_pos ⟨h7, h16⟩, if_neg hl0, if_neg h54, if_pos h61]; done) | (rw [f_change, if_pos ⟨h7, h16⟩, if_neg hl0, if_neg h54, if_neg h61]; done))
          · refine r_il hP c88_64 rfl ?_
            refine r_goto hP c88_65 ?_
            exact r_irE hP c88_76 h (by first | (rw [f_change, if_neg (fun z => h7 z.1)]; done) | (rw [f_change, if_neg (fun z => h16 z.2)]; done) | (rw [f_change, if_pos ⟨h7, h16⟩, if_pos hl0]; done) | (rw [f_change, if_pos ⟨h7, h16⟩, if_neg hl0, if_pos h54]; done) | (rw [f_change, if_pos ⟨h7, h16⟩, if_neg hl0, if_neg h54, if_pos h61]; done) | (rw [f_change, if_pos ⟨h7, h16⟩, if_neg hl0, if_neg h54, if_neg h61]; done))
        · refine r_ic hP c88_57 ?_
          exact r_irE hP c88_59 h (by first | (rw [f_change, if_neg (fun z => h7 z.1)]; done) | (rw [f_change, if_neg (fun z => h16 z.2)]; done) | (rw [f_change, if_pos ⟨h7, h16⟩, if_pos hl0]; done) | (rw [f_change, if_pos ⟨h7, h16⟩, if_neg hl0, if_pos h54]; done) | (rw [f_change, if_pos ⟨h7, h16⟩, if_neg hl0, if_neg h54, if_pos h61]; done) | (rw [f_change, if_pos ⟨h7, h16⟩, if_neg hl0, if_neg h54, if_neg h61]; done))
      · have hl0 : cs.length = 0 := (nI_eq (b := 0) (by have := hok.1; omega) (by decide)).mp h28
        refine r_ic hP c88_31 ?_
        exact r_irE hP c88_33 h (by first | (rw [f_change, if_neg (fun z => h7 z.1)]; done) | (rw [f_change, if_neg (fun z => h16 z.2)]; done) | (rw [f_change, if_pos ⟨h7, h16⟩, if_pos hl0]; done) | (rw [f_change, if_pos ⟨h7, h16⟩, if_neg hl0, if_pos h54]; done) | (rw [f_change, if_pos ⟨h7, h16⟩, if_neg hl0, if_neg h54, if_pos h61]; done) | (rw [f_change, if_pos ⟨h7, h16⟩, if_neg hl0, if_neg h54, if_neg h61]; done))
    · refine r_ic hP c88_19 ?_
      exact r_irE hP c88_20 h (by first | (rw [f_change, if_neg (fun z => h7 z.1)]; done) | (rw [f_change, if_neg (fun z => h16 z.2)]; done) | (rw [f_change, if_pos ⟨h7, h16⟩, if_pos hl0]; done) | (rw [f_change, if_pos ⟨h7, h16⟩, if_neg hl0, if_pos h54]; done) | (rw [f_change, if_pos ⟨h7, h16⟩, if_neg hl0, if_neg h54, if_pos h61]; done) | (rw [f_change, if_pos ⟨h7, h16⟩, if_neg hl0, if_neg h54, if_neg h61]; done))
set_option maxRecDepth 4000 in
theorem x_obo {K : ZKh} {P : Nat → Nat → List Value → List Value → ZMi → ZMl → ZMr → ZRt → Prop} {I : ZMi} {L : ZMl} {R : ZMr} {Q : ZRt} (hP : ZCl K P) {w nS nP nW : Nat} {S : ZS} (hK : zKa K) (hR : zRa R) (hw : zisW w) (hC : zC I w S nS nP nW) (hp8 : nP ≤ 8) (hs6 : nS ≤ 6) (hw6 : nW ≤ 6) (hs1 : 1 ≤ nS) (hp1 : 1 ≤ nP) (hsg : ∀ p, p < nP → ∃ a, a < nS ∧ S 3 p 0 = nI a) (hl9 : R 2 9 = w + 1) {cs : List Nat} (hcs : zCs I L S nP cs) (hok : zok S nP cs) {y : Int32} (hqt : zQt I S nS nP (2 ^ nP)) (h : ∀ I2 L2, zfi I I2 → (∀ a k, a ≠ 38 → L2 a k = L a k) → Q (some (.long (f_obo S nS nP cs y))) I2 L2 R) : P 89 0 [.ref 2, .int y] [] I L R Q := by
  refine r_il hP c89_0 rfl ?_
  refine r_ic hP c89_1 ?_
  refine r_ic hP c89_2 ?_
  refine r_cSi (as := [.int y, .int 0, .int 1]) (r := []) (I' := I) (L' := L) (R' := R) (x := if 0 ≤ y ∧ y ≤ 1 then 1 else 0) hP c89_3 rfl rfl (fun _ h2 => x_within hP h2) ?_
  refine r_ifneB hP c89_6 (fun h6 => ?_) (fun h6 => ?_)
  · refine r_al hP c89_13 rfl ?_
    refine r_gR (x := 36) hP c89_14 (zj2 hK) (zr2_8 hR) ?_
    refine r_al hP c89_17 rfl ?_
    refine r_gR (x := w) hP c89_18 (zj2 hK) hl9 ?_
    refine r_al hP c89_21 rfl ?_
    refine r_gR (x := 31) hP c89_22 (zj2 hK) (zr2_6 hR) ?_
    refine r_cVvp (as := [.ref w, .ref 31]) (r := []) (a := 36) hP c89_25 rfl (zj36 hK) rfl (fun I2 L2 R2 => (zfi I I2 ∧ (∀ a k, a ≠ 38 → L2 a k = L a k) ∧ L2 38 0 = (zdt S nS nP cs (2 ^ nP)).1 0 ∧ I2 36 2 = (zdt S nS nP cs (2 ^ nP)).2) ∧ R = R2) (fun Q2 hq => x_row hP hK hR hw hC hp8 hs6 hw6 hcs hok hqt (fun I2 L2 a b c d => hq I2 L2 R ⟨⟨a, b, c, d⟩, rfl⟩)) ?_
    rintro I2 L2 R2 ⟨⟨ha, hb, hc, hd⟩, rfl⟩
    refine r_il hP c89_28 rfl ?_
    refine r_ifne hP c89_29 (fun h29 => ?_) (fun h29 => ?_)
    · refine r_al hP c89_44 rfl ?_
      refine r_gR (x := 36) hP c89_45 (zj2 hK) (zr2_8 hR) ?_
      refine r_gI (x := (zdt S nS nP cs (2 ^ nP)).2) hP c89_48 (zj36 hK) hd ?_
      refine r_i2l hP c89_51 ?_
      first
        | exact r_lrE hP c89_52 (h _ _ (fun _ _ _ => rfl) (fun _ _ _ => rfl)) (by rw [f_obo, if_neg h6])
        | exact r_lrE hP c89_52 (h _ _ ha hb) (by rw [f_obo, if_pos h6, if_pos h29])
        | exact r_lrE hP c89_52 (h _ _ ha hb) (by rw [f_obo, if_pos h6, if_neg h29])
    · refine r_al hP c89_32 rfl ?_
      refine r_gR (x := 36) hP c89_33 (zj2 hK) (zr2_8 hR) ?_
      refine r_gR (x := 38) hP c89_36 (zj36 hK) (zr36_1 hR) ?_
      refine r_ic hP c89_39 ?_
      refine r_lald (j := 0) (x := (zdt S nS nP cs (2 ^ nP)).1 0) hP c89_40 (zk38 hK) rfl (by decide) hc ?_
      refine r_goto hP c89_41 ?_
      first
        | exact r_lrE hP c89_52 (h _ _ (fun _ _ _ => rfl) (fun _ _ _ => rfl)) (by rw [f_obo, if_neg h6])
        | exact r_lrE hP c89_52 (h _ _ ha hb) (by rw [f_obo, if_pos h6, if_pos h29])
        | exact r_lrE hP c89_52 (h _ _ ha hb) (by rw [f_obo, if_pos h6, if_neg h29])
  · refine r_lc hP c89_9 ?_
    first
      | exact r_lrE hP c89_12 (h _ _ (fun _ _ _ => rfl) (fun _ _ _ => rfl)) (by rw [f_obo, if_neg h6])
      | exact r_lrE hP c89_12 (h _ _ ha hb) (by rw [f_obo, if_pos h6, if_pos h29])
      | exact r_lrE hP c89_12 (h _ _ ha hb) (by rw [f_obo, if_pos h6, if_neg h29])
