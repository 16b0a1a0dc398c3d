/-! ===== the model: answers kept, the text, draws, louder ===== -/
def zAmb (I : ZMi) (b na : Nat) (A : ZA) : Prop := I 143 b = nI na ∧ ∀ i, i < na → I 144 (10 * b + i) = nI (A i).1 ∧ I 145 (10 * b + i) = nI (A i).2.1 ∧ I 146 (10 * b + i) = (A i).2.2.1 ∧ I 147 (10 * b + i) = (A i).2.2.2
theorem zAmb_0 {I : ZMi} {na : Nat} {A : ZA} : zAmb I 0 na A ↔ zAm I na A := by
  unfold zAmb zAm
  simp only [Nat.mul_zero, Nat.zero_add]
theorem zAmb_to {I I' : ZMi} {b na : Nat} {A : ZA} (h : zAmb I b na A) (hn : na ≤ 10) (h1 : I' 143 b = I 143 b) (h2 : ∀ x j, 144 ≤ x → x ≤ 147 → 10 * b ≤ j → j < 10 * b + 10 → I' x j = I x j) : zAmb I' b na A :=
  ⟨h1.trans h.1, fun i hi => ⟨(h2 144 _ (by omega) (by omega) (by omega) (by omega)).trans (h.2 i hi).1, (h2 145 _ (by omega) (by omega) (by omega) (by omega)).trans (h.2 i hi).2.1, (h2 146 _ (by omega) (by omega) (by omega) (by omega)).trans (h.2 i hi).2.2.1, (h2 147 _ (by omega) (by omega) (by omega) (by omega)).trans (h.2 i hi).2.2.2⟩⟩
def zfY (b : Nat) (I I' : ZMi) : Prop := ∀ x j, ¬ (x = 143 ∧ j = b) → ¬ (144 ≤ x ∧ x ≤ 147 ∧ 10 * b ≤ j ∧ j < 10 * b + 10) → I' x j = I x j
theorem zAmb_cp {I I' : ZMi} {a b na : Nat} {A : ZA} (h : zAmb I a na A) (hn : na ≤ 10) (h1 : I' 143 b = I 143 a) (h2 : ∀ i, i < 10 → ∀ x, 144 ≤ x → x ≤ 147 → I' x (10 * b + i) = I x (10 * a + i)) : zAmb I' b na A :=
  ⟨h1.trans h.1, fun i hi => ⟨(h2 i (by omega) 144 (by omega) (by omega)).trans (h.2 i hi).1, (h2 i (by omega) 145 (by omega) (by omega)).trans (h.2 i hi).2.1, (h2 i (by omega) 146 (by omega) (by omega)).trans (h.2 i hi).2.2.1, (h2 i (by omega) 147 (by omega) (by omega)).trans (h.2 i hi).2.2.2⟩⟩
def zTm (I : ZMi) (len : Nat) (T : Nat → Nat) : Prop := I 119 0 = nI len ∧ ∀ i, i < len → I 120 i = nI (T i)
def zfX (I I' : ZMi) : Prop := ∀ a k, a ≠ 120 → ¬ (a = 119 ∧ k = 0) → I' a k = I a k
theorem zTm_up {I I1 : ZMi} {T : Nat → Nat} {len n d : Nat} {v : Int64} (h : zfX I I1 ∧ zTm I1 (len + d) (zTa T len n v)) : zfX I (zup (zup I1 120 (len + d) (nI (zby v (n - 1 - d)))) 119 0 (nI (len + d + 1))) ∧ zTm (zup (zup I1 120 (len + d) (nI (zby v (n - 1 - d)))) 119 0 (nI (len + d + 1))) (len + (d + 1)) (zTa T len n v) := by
  refine ⟨fun a k h1 h2 => ?_, zup_s _ _ _ _, fun i hi => ?_⟩
  · rw [zup_n _ _ _ _ (by omega), zup_n _ _ _ _ (by omega)]
    exact h.1 a k h1 h2
  · rw [zup_n _ _ _ _ (by omega)]
    rcases Nat.lt_or_ge i (len + d) with q | q
    · rw [zup_n _ _ _ _ (by omega)]
      exact h.2.2 i q
    · have e : i = len + d := by omega
      subst e
      rw [zup_s, zTa, if_neg (by omega), show len + d - len = d from by omega]
set_option maxRecDepth 4000 in
theorem y_copy_l {K : ZKh} {P : Nat → Nat → List Value → List Value → ZMi → ZMl → ZMr → ZRt → Prop} {I : ZMi} {L : ZMl} {R : ZMr} {Q : ZRt} (hP : ZCl K P) (hKb : zKb K) (hRb : zRb R) {a b : Nat} (ha : a < 3) (hb : b < 3) (hab : a ≠ b) (h : ∀ I2, zfY b I I2 → I2 143 b = I 143 a → (∀ i, i < 10 → ∀ x, 144 ≤ x → x ≤ 147 → I2 x (10 * b + i) = I x (10 * a + i)) → Q none I2 L R) : ∀ k, k ≤ 10 → ∀ (I1 : ZMi), zfY b I I1 ∧ I1 143 b = I 143 a ∧ (∀ i, i < k → ∀ x, 144 ≤ x → x ≤ 147 → I1 x (10 * b + i) = I x (10 * a + i)) → P 171 14 [.ref 119, .int (nI a), .int (nI b), .int (nI k)] [] I1 L R Q := by
  refine zloop 10 (fun k => ∀ (I1 : ZMi), zfY b I I1 ∧ I1 143 b = I 143 a ∧ (∀ i, i < k → ∀ x, 144 ≤ x → x ≤ 147 → I1 x (10 * b + i) = I x (10 * a + i)) → P 171 14 [.ref 119, .int (nI a), .int (nI b), .int (nI k)] [] I1 L R Q) ?_
  intro k hle ih I1 hacc
  refine r_il hP c171_14 rfl ?_
  refine r_ic hP c171_15 ?_
  refine r_ige hP c171_17 (fun h17 => ?_) (fun h17 => ?_)
  · have he : k = 10 := Nat.le_antisymm hle ((nI_leI (by omega) (by omega)).mp h17)
    subst he
    exact r_vr hP c171_114 (h _ hacc.1 hacc.2.1 hacc.2.2)
  · have hlt : k < 10 := by
      rcases Nat.lt_or_ge k 10 with q | q
      · exact q
      · exact absurd (nI_le q (by omega)) h17
    refine r_al hP c171_20 rfl ?_
    refine r_gR (x := 144) hP c171_21 (zj119 hKb) (zr119_25 hRb) ?_
    refine r_ic hP c171_24 ?_
    refine r_il hP c171_26 rfl ?_
    refine r_imul hP c171_27 ?_
    refine r_ti (y := nI (10 * b)) (pk_mul 10 b) ?_
    refine r_il hP c171_28 rfl ?_
    refine r_iadd hP c171_29 ?_
    refine r_ti (y := nI (10 * b + k)) (nI_add _ _) ?_
    refine r_al hP c171_30 rfl ?_
    refine r_gR (x := 144) hP c171_31 (zj119 hKb) (zr119_25 hRb) ?_
    refine r_ic hP c171_34 ?_
    refine r_il hP c171_36 rfl ?_
    refine r_imul hP c171_37 ?_
    refine r_ti (y := nI (10 * a)) (pk_mul 10 a) ?_
    refine r_il hP c171_38 rfl ?_
    refine r_iadd hP c171_39 ?_
    refine r_ti (y := nI (10 * a + k)) (nI_add _ _) ?_
    refine r_iald (j := 10 * a + k) (x := I 144 (10 * a + k)) hP c171_40 (zk144 hKb) rfl (by omega) (hacc.1 144 (10 * a + k) (by omega) (by omega)) ?_
    refine r_iast (j := 10 * b + k) hP c171_41 (zk144 hKb) rfl (by omega) ?_
    refine r_al hP c171_42 rfl ?_
    refine r_gR (x := 145) hP c171_43 (zj119 hKb) (zr119_26 hRb) ?_
    refine r_ic hP c171_46 ?_
    refine r_il hP c171_48 rfl ?_
    refine r_imul hP c171_49 ?_
    refine r_ti (y := nI (10 * b)) (pk_mul 10 b) ?_
    refine r_il hP c171_50 rfl ?_
    refine r_iadd hP c171_51 ?_
    refine r_ti (y := nI (10 * b + k)) (nI_add _ _) ?_
    refine r_al hP c171_52 rfl ?_
    refine r_gR (x := 145) hP c171_53 (zj119 hKb) (zr119_26 hRb) ?_
    refine r_ic hP c171_56 ?_
    refine r_il hP c171_58 rfl ?_
    refine r_imul hP c171_59 ?_
    refine r_ti (y := nI (10 * a)) (pk_mul 10 a) ?_
    refine r_il hP c171_60 rfl ?_
    refine r_iadd hP c171_61 ?_
    refine r_ti (y := nI (10 * a + k)) (nI_add _ _) ?_
    refine r_iald (j := 10 * a + k) (x := I 145 (10 * a + k)) hP c171_62 (zk145 hKb) rfl (by omega) ((zup_n _ _ _ _ (by omega)).trans (hacc.1 145 (10 * a + k) (by omega) (by omega))) ?_
    refine r_iast (j := 10 * b + k) hP c171_63 (zk145 hKb) rfl (by omega) ?_
    refine r_al hP c171_64 rfl ?_
    refine r_gR (x := 146) hP c171_65 (zj119 hKb) (zr119_27 hRb) ?_
    refine r_ic hP c171_68 ?_
    refine r_il hP c171_70 rfl ?_
    refine r_imul hP c171_71 ?_
    refine r_ti (y := nI (10 * b)) (pk_mul 10 b) ?_
    refine r_il hP c171_72 rfl ?_
    refine r_iadd hP c171_73 ?_
    refine r_ti (y := nI (10 * b + k)) (nI_add _ _) ?_
    refine r_al hP c171_74 rfl ?_
    refine r_gR (x := 146) hP c171_75 (zj119 hKb) (zr119_27 hRb) ?_
    refine r_ic hP c171_78 ?_
    refine r_il hP c171_80 rfl ?_
    refine r_imul hP c171_81 ?_
    refine r_ti (y := nI (10 * a)) (pk_mul 10 a) ?_
    refine r_il hP c171_82 rfl ?_
    refine r_iadd hP c171_83 ?_
    refine r_ti (y := nI (10 * a + k)) (nI_add _ _) ?_
    refine r_iald (j := 10 * a + k) (x := I 146 (10 * a + k)) hP c171_84 (zk146 hKb) rfl (by omega) ((zup_n _ _ _ _ (by omega)).trans ((zup_n _ _ _ _ (by omega)).trans (hacc.1 146 (10 * a + k) (by omega) (by omega)))) ?_
    refine r_iast (j := 10 * b + k) hP c171_85 (zk146 hKb) rfl (by omega) ?_
    refine r_al hP c171_86 rfl ?_
    refine r_gR (x := 147) hP c171_87 (zj119 hKb) (zr119_28 hRb) ?_
    refine r_ic hP c171_90 ?_
    refine r_il hP c171_92 rfl ?_
    refine r_imul hP c171_93 ?_
    refine r_ti (y := nI (10 * b)) (pk_mul 10 b) ?_
    refine r_il hP c171_94 rfl ?_
    refine r_iadd hP c171_95 ?_
    refine r_ti (y := nI (10 * b + k)) (nI_add _ _) ?_
    refine r_al hP c171_96 rfl ?_
    refine r_gR (x := 147) hP c171_97 (zj119 hKb) (zr119_28 hRb) ?_
    refine r_ic hP c171_100 ?_
    refine r_il hP c171_102 rfl ?_
    refine r_imul hP c171_103 ?_
    refine r_ti (y := nI (10 * a)) (pk_mul 10 a) ?_
    refine r_il hP c171_104 rfl ?_
    refine r_iadd hP c171_105 ?_
    refine r_ti (y := nI (10 * a + k)) (nI_add _ _) ?_
    refine r_iald (j := 10 * a + k) (x := I 147 (10 * a + k)) hP c171_106 (zk147 hKb) rfl (by omega) ((zup_n _ _ _ _ (by omega)).trans ((zup_n _ _ _ _ (by omega)).trans ((zup_n _ _ _ _ (by omega)).trans (hacc.1 147 (10 * a + k) (by omega) (by omega))))) ?_
    refine r_iast (j := 10 * b + k) hP c171_107 (zk147 hKb) rfl (by omega) ?_
    refine r_inc (y := nI (k + 1)) (ls' := [.ref 119, .int (nI a), .int (nI b), .int (nI (k + 1))]) hP c171_108 rfl (nI_1 _) rfl ?_
    refine r_goto hP c171_111 ?_
    exact ih hlt _ ⟨fun x j q1 q2 => by
      rw [zup_n _ _ _ _ (by omega), zup_n _ _ _ _ (by omega), zup_n _ _ _ _ (by omega), zup_n _ _ _ _ (by omega)]
      exact hacc.1 x j q1 q2, by
      rw [zup_n _ _ _ _ (by omega), zup_n _ _ _ _ (by omega), zup_n _ _ _ _ (by omega), zup_n _ _ _ _ (by omega)]
      exact hacc.2.1, fun i hi x q1 q2 => by
      rcases Nat.lt_or_ge i k with z | z
      · rw [zup_n _ _ _ _ (by omega), zup_n _ _ _ _ (by omega), zup_n _ _ _ _ (by omega), zup_n _ _ _ _ (by omega)]
        exact hacc.2.2 i z x q1 q2
      · have e : i = k := by omega
        subst e
        have hx : x = 144 ∨ x = 145 ∨ x = 146 ∨ x = 147 := by omega
        rcases hx with rfl | rfl | rfl | rfl
        · rw [zup_n _ _ _ _ (by omega), zup_n _ _ _ _ (by omega), zup_n _ _ _ _ (by omega), zup_s]
        · rw [zup_n _ _ _ _ (by omega), zup_n _ _ _ _ (by omega), zup_s]
        · rw [zup_n _ _ _ _ (by omega), zup_s]
        · rw [zup_s]⟩
set_option maxRecDepth 4000 in
theorem y_copy {K : ZKh} {P : Nat → Nat → List Value → List Value → ZMi → ZMl → ZMr → ZRt → Prop} {I : ZMi} {L : ZMl} {R : ZMr} {Q : ZRt} (hP : ZCl K P) (hKb : zKb K) (hRb : zRb R) {a b : Nat} (ha : a < 3) (hb : b < 3) (hab : a ≠ b) (h : ∀ I2, zfY b I I2 → I2 143 b = I 143 a → (∀ i, i < 10 → ∀ x, 144 ≤ x → x ≤ 147 → I2 x (10 * b + i) = I x (10 * a + i)) → Q none I2 L R) : P 171 0 [.ref 119, .int (nI a), .int (nI b), .null] [] I L R Q := by
  refine r_al hP c171_0 rfl ?_
  refine r_gR (x := 143) hP c171_1 (zj119 hKb) (zr119_24 hRb) ?_
  refine r_il hP c171_4 rfl ?_
  refine r_al hP c171_5 rfl ?_
  refine r_gR (x := 143) hP c171_6 (zj119 hKb) (zr119_24 hRb) ?_
  refine r_il hP c171_9 rfl ?_
  refine r_iald (j := a) (x := I 143 a) hP c171_10 (zk143 hKb) rfl (by omega) rfl ?_
  refine r_iast (j := b) hP c171_11 (zk143 hKb) rfl (by omega) ?_
  refine r_ic hP c171_12 ?_
  refine r_is (ls' := [.ref 119, .int (nI a), .int (nI b), .int 0]) hP c171_13 (Nat.le_of_ble_eq_true rfl) rfl ?_
  exact y_copy_l hP hKb hRb ha hb hab h 0 (Nat.zero_le _) _ ⟨fun x j q1 q2 => zup_n _ _ _ _ q1, zup_s _ _ _ _, fun i hi => absurd hi (Nat.not_lt_zero i)⟩
set_option maxRecDepth 4000 in
theorem y_keep2 {K : ZKh} {P : Nat → Nat → List Value → List Value → ZMi → ZMl → ZMr → ZRt → Prop} {I : ZMi} {L : ZMl} {R : ZMr} {Q : ZRt} (hP : ZCl K P) (hKb : zKb K) (hRb : zRb R) (hkp : I 119 29 = 2) (h : Q (some (.int (-3))) I L R) : P 172 0 [.ref 119] [] I L R Q := by
  refine r_al hP c172_0 rfl ?_
  refine r_gI (x := 2) hP c172_1 (zj119 hKb) hkp ?_
  refine r_ic hP c172_4 ?_
  refine r_ine hP c172_5 (fun h5 => absurd h5 (not_not_intro rfl)) (fun h5 => ?_)
  refine r_ic hP c172_8 ?_
  exact r_irE hP c172_10 h (by rfl)
set_option maxRecDepth 4000 in
theorem y_keep0 {K : ZKh} {P : Nat → Nat → List Value → List Value → ZMi → ZMl → ZMr → ZRt → Prop} {I : ZMi} {L : ZMl} {R : ZMr} {Q : ZRt} (hP : ZCl K P) (hKb : zKb K) (hRb : zRb R) {na : Nat} {A : ZA} (hn10 : na ≤ 10) (hA : zAmb I 0 na A) (hkp : I 119 29 = 0) (h : ∀ I2, (∀ x j, ¬ (x = 119 ∧ j = 29) → ¬ (x = 143 ∧ j = 1) → ¬ (144 ≤ x ∧ x ≤ 147 ∧ 10 * 1 ≤ j ∧ j < 10 * 1 + 10) → I2 x j = I x j) → zAmb I2 1 na A → I2 119 29 = 1 → Q (some (.int 1)) I2 L R) : P 172 0 [.ref 119] [] I L R Q := by
  refine r_al hP c172_0 rfl ?_
  refine r_gI (x := 0) hP c172_1 (zj119 hKb) hkp ?_
  refine r_ic hP c172_4 ?_
  refine r_ine hP c172_5 (fun h5 => ?_) (fun h5 => absurd h5 (by decide))
  refine r_al hP c172_11 rfl ?_
  refine r_dup hP c172_12 rfl ?_
  refine r_gI (x := 0) hP c172_13 (zj119 hKb) hkp ?_
  refine r_ic hP c172_16 ?_
  refine r_iadd hP c172_17 ?_
  refine r_ti (y := 1) (by decide) ?_
  refine r_pI hP c172_18 (zj119 hKb) ?_
  refine r_al hP c172_21 rfl ?_
  refine r_ic hP c172_22 ?_
  refine r_al hP c172_23 rfl ?_
  refine r_gI (x := 1) hP c172_24 (zj119 hKb) (zup_s _ _ _ _) ?_
  refine r_cVvp (as := [.int 0, .int 1]) (r := []) (a := 119) hP c172_27 rfl (zj119 hKb) rfl (fun I2 L2 R2 => (zfY 1 (zup I 119 29 1) I2 ∧ I2 143 1 = (zup I 119 29 1) 143 0 ∧ (∀ i, i < 10 → ∀ x, 144 ≤ x → x ≤ 147 → I2 x (10 * 1 + i) = (zup I 119 29 1) x (10 * 0 + i))) ∧ L = L2 ∧ R = R2) (fun Q2 hq => y_copy (a := 0) (b := 1) hP hKb hRb (by decide) (by decide) (by decide) (fun I2 a b c => hq I2 L R ⟨⟨a, b, c⟩, rfl, rfl⟩)) ?_
  rintro I2 L2 R2 ⟨⟨h1, h2, h3⟩, rfl, rfl⟩
  refine r_al hP c172_30 rfl ?_
  refine r_gI (x := 1) hP c172_31 (zj119 hKb) ((h1 119 29 (by decide) (by omega)).trans (zup_s _ _ _ _)) ?_
  exact r_irE hP c172_34 (h _ (fun x j q1 q2 q3 => (h1 x j q2 q3).trans (zup_n _ _ _ _ q1)) (zAmb_cp hA hn10 (h2.trans (zup_n _ _ _ _ (by decide))) (fun i hi x q1 q2 => (h3 i hi x q1 q2).trans (zup_n _ _ _ _ (by omega)))) ((h1 119 29 (by decide) (by omega)).trans (zup_s _ _ _ _))) rfl
set_option maxRecDepth 4000 in
theorem y_keep1 {K : ZKh} {P : Nat → Nat → List Value → List Value → ZMi → ZMl → ZMr → ZRt → Prop} {I : ZMi} {L : ZMl} {R : ZMr} {Q : ZRt} (hP : ZCl K P) (hKb : zKb K) (hRb : zRb R) {na : Nat} {A : ZA} (hn10 : na ≤ 10) (hA : zAmb I 0 na A) (hkp : I 119 29 = 1) (h : ∀ I2, (∀ x j, ¬ (x = 119 ∧ j = 29) → ¬ (x = 143 ∧ j = 2) → ¬ (144 ≤ x ∧ x ≤ 147 ∧ 10 * 2 ≤ j ∧ j < 10 * 2 + 10) → I2 x j = I x j) → zAmb I2 2 na A → I2 119 29 = 2 → Q (some (.int 2)) I2 L R) : P 172 0 [.ref 119] [] I L R Q := by
  refine r_al hP c172_0 rfl ?_
  refine r_gI (x := 1) hP c172_1 (zj119 hKb) hkp ?_
  refine r_ic hP c172_4 ?_
  refine r_ine hP c172_5 (fun h5 => ?_) (fun h5 => absurd h5 (by decide))
  refine r_al hP c172_11 rfl ?_
  refine r_dup hP c172_12 rfl ?_
  refine r_gI (x := 1) hP c172_13 (zj119 hKb) hkp ?_
  refine r_ic hP c172_16 ?_
  refine r_iadd hP c172_17 ?_
  refine r_ti (y := 2) (by decide) ?_
  refine r_pI hP c172_18 (zj119 hKb) ?_
  refine r_al hP c172_21 rfl ?_
  refine r_ic hP c172_22 ?_
  refine r_al hP c172_23 rfl ?_
  refine r_gI (x := 2) hP c172_24 (zj119 hKb) (zup_s _ _ _ _) ?_
  refine r_cVvp (as := [.int 0, .int 2]) (r := []) (a := 119) hP c172_27 rfl (zj119 hKb) rfl (fun I2 L2 R2 => (zfY 2 (zup I 119 29 2) I2 ∧ I2 143 2 = (zup I 119 29 2) 143 0 ∧ (∀ i, i < 10 → ∀ x, 144 ≤ x → x ≤ 147 → I2 x (10 * 2 + i) = (zup I 119 29 2) x (10 * 0 + i))) ∧ L = L2 ∧ R = R2) (fun Q2 hq => y_copy (a := 0) (b := 2) hP hKb hRb (by decide) (by decide) (by decide) (fun I2 a b c => hq I2 L R ⟨⟨a, b, c⟩, rfl, rfl⟩)) ?_
  rintro I2 L2 R2 ⟨⟨h1, h2, h3⟩, rfl, rfl⟩
  refine r_al hP c172_30 rfl ?_
  refine r_gI (x := 2) hP c172_31 (zj119 hKb) ((h1 119 29 (by decide) (by omega)).trans (zup_s _ _ _ _)) ?_
  exact r_irE hP c172_34 (h _ (fun x j q1 q2 q3 => (h1 x j q2 q3).trans (zup_n _ _ _ _ q1)) (zAmb_cp hA hn10 (h2.trans (zup_n _ _ _ _ (by decide))) (fun i hi x q1 q2 => (h3 i hi x q1 q2).trans (zup_n _ _ _ _ (by omega)))) ((h1 119 29 (by decide) (by omega)).trans (zup_s _ _ _ _))) rfl
set_option maxRecDepth 4000 in
theorem y_back0 {K : ZKh} {P : Nat → Nat → List Value → List Value → ZMi → ZMl → ZMr → ZRt → Prop} {I : ZMi} {L : ZMl} {R : ZMr} {Q : ZRt} (hP : ZCl K P) (hKb : zKb K) (hRb : zRb R) (hkp : I 119 29 = 0) (h : Q (some (.int (-2))) I L R) : P 173 0 [.ref 119] [] I L R Q := by
  refine r_al hP c173_0 rfl ?_
  refine r_gI (x := 0) hP c173_1 (zj119 hKb) hkp ?_
  refine r_ifne hP c173_4 (fun h4 => absurd h4 (not_not_intro rfl)) (fun h4 => ?_)
  refine r_ic hP c173_7 ?_
  exact r_irE hP c173_9 h (by rfl)
set_option maxRecDepth 4000 in
theorem y_back1 {K : ZKh} {P : Nat → Nat → List Value → List Value → ZMi → ZMl → ZMr → ZRt → Prop} {I : ZMi} {L : ZMl} {R : ZMr} {Q : ZRt} (hP : ZCl K P) (hKb : zKb K) (hRb : zRb R) {na : Nat} {A : ZA} (hn10 : na ≤ 10) (hA : zAmb I 1 na A) (hkp : I 119 29 = 1) (h : ∀ I2, (∀ x j, ¬ (x = 119 ∧ j = 29) → ¬ (x = 143 ∧ j = 0) → ¬ (144 ≤ x ∧ x ≤ 147 ∧ j < 10) → I2 x j = I x j) → zAmb I2 0 na A → I2 119 29 = 0 → Q (some (.int 0)) I2 L R) : P 173 0 [.ref 119] [] I L R Q := by
  refine r_al hP c173_0 rfl ?_
  refine r_gI (x := 1) hP c173_1 (zj119 hKb) hkp ?_
  refine r_ifne hP c173_4 (fun h4 => ?_) (fun h4 => absurd h4 (by decide))
  refine r_al hP c173_10 rfl ?_
  refine r_al hP c173_11 rfl ?_
  refine r_gI (x := 1) hP c173_12 (zj119 hKb) hkp ?_
  refine r_ic hP c173_15 ?_
  refine r_cVvp (as := [.int 1, .int 0]) (r := []) (a := 119) hP c173_16 rfl (zj119 hKb) rfl (fun I2 L2 R2 => (zfY 0 I I2 ∧ I2 143 0 = I 143 1 ∧ (∀ i, i < 10 → ∀ x, 144 ≤ x → x ≤ 147 → I2 x (10 * 0 + i) = I x (10 * 1 + i))) ∧ L = L2 ∧ R = R2) (fun Q2 hq => y_copy (a := 1) (b := 0) hP hKb hRb (by decide) (by decide) (by decide) (fun I2 a b c => hq I2 L R ⟨⟨a, b, c⟩, rfl, rfl⟩)) ?_
  rintro I2 L2 R2 ⟨⟨h1, h2, h3⟩, rfl, rfl⟩
  refine r_al hP c173_19 rfl ?_
  refine r_dup hP c173_20 rfl ?_
  refine r_gI (x := 1) hP c173_21 (zj119 hKb) ((h1 119 29 (by decide) (by omega)).trans hkp) ?_
  refine r_ic hP c173_24 ?_
  refine r_isub hP c173_25 ?_
  refine r_ti (y := 0) (by decide) ?_
  refine r_pI hP c173_26 (zj119 hKb) ?_
  refine r_al hP c173_29 rfl ?_
  refine r_gI (x := 0) hP c173_30 (zj119 hKb) (zup_s _ _ _ _) ?_
  exact r_irE hP c173_33 (h _ (fun x j q1 q2 q3 => (zup_n _ _ _ _ q1).trans (h1 x j q2 (by omega))) (zAmb_to (zAmb_cp hA hn10 h2 h3) hn10 (zup_n _ _ _ _ (by decide)) (fun x j q1 q2 q3 q4 => zup_n _ _ _ _ (by omega))) (zup_s _ _ _ _)) rfl
set_option maxRecDepth 4000 in
theorem y_back2 {K : ZKh} {P : Nat → Nat → List Value → List Value → ZMi → ZMl → ZMr → ZRt → Prop} {I : ZMi} {L : ZMl} {R : ZMr} {Q : ZRt} (hP : ZCl K P) (hKb : zKb K) (hRb : zRb R) {na : Nat} {A : ZA} (hn10 : na ≤ 10) (hA : zAmb I 2 na A) (hkp : I 119 29 = 2) (h : ∀ I2, (∀ x j, ¬ (x = 119 ∧ j = 29) → ¬ (x = 143 ∧ j = 0) → ¬ (144 ≤ x ∧ x ≤ 147 ∧ j < 10) → I2 x j = I x j) → zAmb I2 0 na A → I2 119 29 = 1 → Q (some (.int 1)) I2 L R) : P 173 0 [.ref 119] [] I L R Q := by
  refine r_al hP c173_0 rfl ?_
  refine r_gI (x := 2) hP c173_1 (zj119 hKb) hkp ?_
  refine r_ifne hP c173_4 (fun h4 => ?_) (fun h4 => absurd h4 (by decide))
  refine r_al hP c173_10 rfl ?_
  refine r_al hP c173_11 rfl ?_
  refine r_gI (x := 2) hP c173_12 (zj119 hKb) hkp ?_
  refine r_ic hP c173_15 ?_
  refine r_cVvp (as := [.int 2, .int 0]) (r := []) (a := 119) hP c173_16 rfl (zj119 hKb) rfl (fun I2 L2 R2 => (zfY 0 I I2 ∧ I2 143 0 = I 143 2 ∧ (∀ i, i < 10 → ∀ x, 144 ≤ x → x ≤ 147 → I2 x (10 * 0 + i) = I x (10 * 2 + i))) ∧ L = L2 ∧ R = R2) (fun Q2 hq => y_copy (a := 2) (b := 0) hP hKb hRb (by decide) (by decide) (by decide) (fun I2 a b c => hq I2 L R ⟨⟨a, b, c⟩, rfl, rfl⟩)) ?_
  rintro I2 L2 R2 ⟨⟨h1, h2, h3⟩, rfl, rfl⟩
  refine r_al hP c173_19 rfl ?_
  refine r_dup hP c173_20 rfl ?_
  refine r_gI (x := 2) hP c173_21 (zj119 hKb) ((h1 119 29 (by decide) (by omega)).trans hkp) ?_
  refine r_ic hP c173_24 ?_
  refine r_isub hP c173_25 ?_
  refine r_ti (y := 1) (by decide) ?_
  refine r_pI hP c173_26 (zj119 hKb) ?_
  refine r_al hP c173_29 rfl ?_
  refine r_gI (x := 1) hP c173_30 (zj119 hKb) (zup_s _ _ _ _) ?_
  exact r_irE hP c173_33 (h _ (fun x j q1 q2 q3 => (zup_n _ _ _ _ q1).trans (h1 x j q2 (by omega))) (zAmb_to (zAmb_cp hA hn10 h2 h3) hn10 (zup_n _ _ _ _ (by decide)) (fun x j q1 q2 q3 q4 => zup_n _ _ _ _ (by omega))) (zup_s _ _ _ _)) rfl
set_option maxRecDepth 4000 in
theorem y_forget {K : ZKh} {P : Nat → Nat → List Value → List Value → ZMi → ZMl → ZMr → ZRt → Prop} {I : ZMi} {L : ZMl} {R : ZMr} {Q : ZRt} (hP : ZCl K P) (hKb : zKb K) (hRb : zRb R) {na : Nat} {A : ZA} (hA : zAm I na A) (h : ∀ I2, (∀ x j, ¬ (x = 143 ∧ j = 0) → I2 x j = I x j) → zAm I2 0 A → Q (some (.int (nI na))) I2 L R) : P 151 0 [.ref 119, .null] [] I L R Q := by
  refine r_al hP c151_0 rfl ?_
  refine r_gR (x := 143) hP c151_1 (zj119 hKb) (zr119_24 hRb) ?_
  refine r_ic hP c151_4 ?_
  refine r_iald (j := 0) (x := nI na) hP c151_5 (zk143 hKb) rfl (by decide) hA.1 ?_
  refine r_is (ls' := [.ref 119, .int (nI na)]) hP c151_6 (Nat.le_of_ble_eq_true rfl) rfl ?_
  refine r_al hP c151_7 rfl ?_
  refine r_gR (x := 143) hP c151_8 (zj119 hKb) (zr119_24 hRb) ?_
  refine r_ic hP c151_11 ?_
  refine r_ic hP c151_12 ?_
  refine r_iast (j := 0) hP c151_13 (zk143 hKb) rfl (by decide) ?_
  refine r_il hP c151_14 rfl ?_
  exact r_irE hP c151_15 (h _ (fun x j q => zup_n _ _ _ _ q) ⟨zup_s _ _ _ _, fun i hi => absurd hi (Nat.not_lt_zero i)⟩) rfl
theorem zAm_up {I : ZMi} {c : Nat} {B : ZA} (hA : zAm I c B) (q : Nat × Nat × Int32 × Int32) : zAm (zup (zup (zup (zup (zup I 144 c (nI q.1)) 145 c (nI q.2.1)) 146 c q.2.2.1) 147 c q.2.2.2) 143 0 (nI (c + 1))) (c + 1) (zAs B c q) := by
  refine ⟨zup_s _ _ _ _, fun i hi => ?_⟩
  rcases Nat.lt_or_ge i c with hl | hl
  · rw [zAs_n B q hl]
    refine ⟨?_, ?_, ?_, ?_⟩
    · rw [zup_n _ _ _ _ (by omega), zup_n _ _ _ _ (by omega), zup_n _ _ _ _ (by omega), zup_n _ _ _ _ (by omega), zup_n _ _ _ _ (by omega)]; exact (hA.2 i hl).1
    · rw [zup_n _ _ _ _ (by omega), zup_n _ _ _ _ (by omega), zup_n _ _ _ _ (by omega), zup_n _ _ _ _ (by omega), zup_n _ _ _ _ (by omega)]; exact (hA.2 i hl).2.1
    · rw [zup_n _ _ _ _ (by omega), zup_n _ _ _ _ (by omega), zup_n _ _ _ _ (by omega), zup_n _ _ _ _ (by omega), zup_n _ _ _ _ (by omega)]; exact (hA.2 i hl).2.2.1
    · rw [zup_n _ _ _ _ (by omega), zup_n _ _ _ _ (by omega), zup_n _ _ _ _ (by omega), zup_n _ _ _ _ (by omega), zup_n _ _ _ _ (by omega)]; exact (hA.2 i hl).2.2.2
  · have e : i = c := by omega
    subst e
    rw [zAs_s]
    refine ⟨?_, ?_, ?_, ?_⟩
    · rw [zup_n _ _ _ _ (by omega), zup_n _ _ _ _ (by omega), zup_n _ _ _ _ (by omega), zup_n _ _ _ _ (by omega), zup_s]
    · rw [zup_n _ _ _ _ (by omega), zup_n _ _ _ _ (by omega), zup_n _ _ _ _ (by omega), zup_s]
    · rw [zup_n _ _ _ _ (by omega), zup_n _ _ _ _ (by omega), zup_s]
    · rw [zup_n _ _ _ _ (by omega), zup_s]
set_option maxRecDepth 4000 in
theorem y_answer {K : ZKh} {P : Nat → Nat → List Value → List Value → ZMi → ZMl → ZMr → ZRt → Prop} {I : ZMi} {L : ZMl} {R : ZMr} {Q : ZRt} (hP : ZCl K P) {nS nP nW : Nat} {S : ZS} (hKb : zKb K) (hRb : zRb R) (hD : zD I 0 S nS nP nW) (hs1 : 1 ≤ nS) (hp1 : 1 ≤ nP) (hp8 : nP ≤ 8) (hs6 : nS ≤ 6) (hw6 : nW ≤ 6) {na : Nat} {A : ZA} (hA : zAm I na A) (hn10 : na ≤ 10) {k0 o0 m a0 : Int32} (h : ∀ I2, (∀ x j, ¬ (x = 143 ∧ j = 0) → ¬ (144 ≤ x ∧ x ≤ 147 ∧ j < 10) → I2 x j = I x j) → zAm I2 (zan nS nP na k0 o0 m a0) (zaA nS nP na A k0 o0 m a0) → Q (some (.int (f_answer nS nP na k0 o0 m a0))) I2 L R) : P 150 0 [.ref 119, .int k0, .int o0, .int m, .int a0, .null] [] I L R Q := by
  have hp256 := zp256 hp8
  have hq2 := Nat.two_pow_pos nP
  refine r_al hP c150_0 rfl ?_
  refine r_il hP c150_1 rfl ?_
  refine r_il hP c150_2 rfl ?_
  refine r_cVi (as := [.int k0, .int o0]) (r := []) (I' := I) (L' := L) (R' := R) (x := if (0 ≤ k0 ∧ k0 ≤ 4) ∧ zr o0 (zak k0 nS nP) then 1 else 0) (a := 119) hP c150_3 rfl (zj119 hKb) rfl (fun _ hq => x_isAsk hP hKb hRb hD hs1 hp1 hp8 hs6 hw6 hq) ?_
  refine r_ifeqB hP c150_6 (fun h6 => ?_) (fun h6 => ?_)
  · refine r_ic hP c150_29 ?_
    first
      | (have hc : ¬ zac nS nP na k0 o0 m a0 := fun q => h6 q.1.1
         exact r_irE hP c150_30 (h _ (fun _ _ _ _ => rfl) (by rw [zan, zaA, if_neg hc, if_neg hc]; exact hA)) (by rw [f_answer, if_neg (fun q => h6 q.1)]))
      | (have hc : ¬ zac nS nP na k0 o0 m a0 := fun q => h13 q.1.2.1
         exact r_irE hP c150_30 (h _ (fun _ _ _ _ => rfl) (by rw [zan, zaA, if_neg hc, if_neg hc]; exact hA)) (by rw [f_answer, if_neg (fun q => h13 q.2.1)]))
      | (have hc : ¬ zac nS nP na k0 o0 m a0 := fun q => h26 q.1.2.2
         exact r_irE hP c150_30 (h _ (fun _ _ _ _ => rfl) (by rw [zan, zaA, if_neg hc, if_neg hc]; exact hA)) (by rw [f_answer, if_neg (fun q => h26 q.2.2)]))
  · refine r_il hP c150_9 rfl ?_
    refine r_cSi (as := [.int m]) (r := []) (I' := I) (L' := L) (R' := R) (x := if 0 ≤ m ∧ m ≤ 30 then 1 else 0) hP c150_10 rfl rfl (fun _ hq => x_isTime hP hq) ?_
    refine r_ifeqB hP c150_13 (fun h13 => ?_) (fun h13 => ?_)
    · refine r_ic hP c150_29 ?_
      first
        | (have hc : ¬ zac nS nP na k0 o0 m a0 := fun q => h6 q.1.1
           exact r_irE hP c150_30 (h _ (fun _ _ _ _ => rfl) (by rw [zan, zaA, if_neg hc, if_neg hc]; exact hA)) (by rw [f_answer, if_neg (fun q => h6 q.1)]))
        | (have hc : ¬ zac nS nP na k0 o0 m a0 := fun q => h13 q.1.2.1
           exact r_irE hP c150_30 (h _ (fun _ _ _ _ => rfl) (by rw [zan, zaA, if_neg hc, if_neg hc]; exact hA)) (by rw [f_answer, if_neg (fun q => h13 q.2.1)]))
        | (have hc : ¬ zac nS nP na k0 o0 m a0 := fun q => h26 q.1.2.2
           exact r_irE hP c150_30 (h _ (fun _ _ _ _ => rfl) (by rw [zan, zaA, if_neg hc, if_neg hc]; exact hA)) (by rw [f_answer, if_neg (fun q => h26 q.2.2)]))
    · refine r_il hP c150_16 rfl ?_
      refine r_i2l hP c150_18 ?_
      refine r_lc hP c150_19 ?_
      refine r_lc hP c150_20 ?_
      refine r_cSi (as := [.long a0.toInt64, .long 0, .long 9]) (r := []) (I' := I) (L' := L) (R' := R) (x := if 0 ≤ a0.toInt64 ∧ a0.toInt64 ≤ 9 then 1 else 0) hP c150_23 rfl rfl (fun _ h2 => x_isIn hP h2) ?_
      refine r_ti (y := if 0 ≤ a0 ∧ a0 ≤ 9 then 1 else 0) (zisC rfl rfl) ?_
      refine r_ifneB hP c150_26 (fun h26 => ?_) (fun h26 => ?_)
      · obtain ⟨j, hj, rfl⟩ := (zr_iff (by have := zak_b (x := k0) hs6 hp8; omega)).mp h6.2
        obtain ⟨k, hk4, rfl⟩ := zb_nI (n := 4) rfl (by decide) h6.1
        have hk : k < 5 := by omega
        have hjb := zak_b (x := nI k) hs6 hp8
        refine r_al hP c150_31 rfl ?_
        refine r_gR (x := 143) hP c150_32 (zj119 hKb) (zr119_24 hRb) ?_
        refine r_ic hP c150_35 ?_
        refine r_iald (j := 0) (x := nI na) hP c150_36 (zk143 hKb) rfl (by decide) hA.1 ?_
        refine r_is (ls' := [.ref 119, .int (nI k), .int (nI j), .int m, .int a0, .int (nI na)]) hP c150_37 (Nat.le_of_ble_eq_true rfl) rfl ?_
        refine r_il hP c150_39 rfl ?_
        refine r_ic hP c150_41 ?_
        refine r_ine hP c150_43 (fun h43 => ?_) (fun h43 => ?_)
        · have hlt : na < 10 := by
            have : ¬ na = 10 := fun q => h43 (by rw [q]; rfl)
            omega
          refine r_al hP c150_49 rfl ?_
          refine r_gR (x := 144) hP c150_50 (zj119 hKb) (zr119_25 hRb) ?_
          refine r_il hP c150_53 rfl ?_
          refine r_il hP c150_55 rfl ?_
          refine r_iast (j := na) hP c150_56 (zk144 hKb) rfl (by omega) ?_
          refine r_al hP c150_57 rfl ?_
          refine r_gR (x := 145) hP c150_58 (zj119 hKb) (zr119_26 hRb) ?_
          refine r_il hP c150_61 rfl ?_
          refine r_il hP c150_63 rfl ?_
          refine r_iast (j := na) hP c150_64 (zk145 hKb) rfl (by omega) ?_
          refine r_al hP c150_65 rfl ?_
          refine r_gR (x := 146) hP c150_66 (zj119 hKb) (zr119_27 hRb) ?_
          refine r_il hP c150_69 rfl ?_
          refine r_il hP c150_71 rfl ?_
          refine r_iast (j := na) hP c150_72 (zk146 hKb) rfl (by omega) ?_
          refine r_al hP c150_73 rfl ?_
          refine r_gR (x := 147) hP c150_74 (zj119 hKb) (zr119_28 hRb) ?_
          refine r_il hP c150_77 rfl ?_
          refine r_il hP c150_79 rfl ?_
          refine r_iast (j := na) hP c150_81 (zk147 hKb) rfl (by omega) ?_
          refine r_al hP c150_82 rfl ?_
          refine r_gR (x := 143) hP c150_83 (zj119 hKb) (zr119_24 hRb) ?_
          refine r_ic hP c150_86 ?_
          refine r_dup2 hP c150_87 rfl rfl ?_
          refine r_iald (j := 0) (x := nI na) hP c150_88 (zk143 hKb) rfl (by decide) ((zup_n _ _ _ _ (by omega)).trans ((zup_n _ _ _ _ (by omega)).trans ((zup_n _ _ _ _ (by omega)).trans ((zup_n _ _ _ _ (by omega)).trans hA.1)))) ?_
          refine r_ic hP c150_89 ?_
          refine r_iadd hP c150_90 ?_
          refine r_ti (y := nI (na + 1)) (nI_1 _) ?_
          refine r_iast (j := 0) hP c150_91 (zk143 hKb) rfl (by decide) ?_
          refine r_al hP c150_92 rfl ?_
          refine r_gR (x := 143) hP c150_93 (zj119 hKb) (zr119_24 hRb) ?_
          refine r_ic hP c150_96 ?_
          refine r_iald (j := 0) (x := nI (na + 1)) hP c150_97 (zk143 hKb) rfl (by decide) (zup_s _ _ _ _) ?_
          have hc : zac nS nP na (nI k) (nI j) m a0 := ⟨⟨h6, h13, h26⟩, hlt⟩
          exact r_irE hP c150_98 (h _ (fun x j q1 q2 => (zup_n _ _ _ _ (by omega)).trans ((zup_n _ _ _ _ (by omega)).trans ((zup_n _ _ _ _ (by omega)).trans ((zup_n _ _ _ _ (by omega)).trans (zup_n _ _ _ _ (by omega)))))) (by rw [zan, zaA, if_pos hc, if_pos hc, nI_clamp (by omega), nI_clamp (by omega)]; exact zAm_up hA (k, j, m, a0))) (by rw [f_answer, if_pos ⟨h6, h13, h26⟩, if_pos hlt])
        · have hlt : ¬ na < 10 := by
            have := (nI_eq (b := 10) (by omega) (by decide)).mp h43
            omega
          refine r_ic hP c150_46 ?_
          have hc : ¬ zac nS nP na (nI k) (nI j) m a0 := fun q => hlt q.2
          exact r_irE hP c150_48 (h _ (fun _ _ _ _ => rfl) (by rw [zan, zaA, if_neg hc, if_neg hc]; exact hA)) (by rw [f_answer, if_pos ⟨h6, h13, h26⟩, if_neg hlt])
      · refine r_ic hP c150_29 ?_
        first
          | (have hc : ¬ zac nS nP na k0 o0 m a0 := fun q => h6 q.1.1
             exact r_irE hP c150_30 (h _ (fun _ _ _ _ => rfl) (by rw [zan, zaA, if_neg hc, if_neg hc]; exact hA)) (by rw [f_answer, if_neg (fun q => h6 q.1)]))
          | (have hc : ¬ zac nS nP na k0 o0 m a0 := fun q => h13 q.1.2.1
             exact r_irE hP c150_30 (h _ (fun _ _ _ _ => rfl) (by rw [zan, zaA, if_neg hc, if_neg hc]; exact hA)) (by rw [f_answer, if_neg (fun q => h13 q.2.1)]))
          | (have hc : ¬ zac nS nP na k0 o0 m a0 := fun q => h26 q.1.2.2
             exact r_irE hP c150_30 (h _ (fun _ _ _ _ => rfl) (by rw [zan, zaA, if_neg hc, if_neg hc]; exact hA)) (by rw [f_answer, if_neg (fun q => h26 q.2.2)]))
set_option maxRecDepth 4000 in
theorem y_count {K : ZKh} {P : Nat → Nat → List Value → List Value → ZMi → ZMl → ZMr → ZRt → Prop} {I : ZMi} {L : ZMl} {R : ZMr} {Q : ZRt} (hP : ZCl K P) {nS nP nW : Nat} {S : ZS} (hKb : zKb K) (hRb : zRb R) (hD : zD I 0 S nS nP nW) (hs1 : 1 ≤ nS) (hp1 : 1 ≤ nP) (hp8 : nP ≤ 8) (hs6 : nS ≤ 6) (hw6 : nW ≤ 6) {len na kp : Nat} {T : Nat → Nat} {A : ZA} (hT : zTm I len T) (hA : zAm I na A) (hkp : I 119 29 = nI kp) {x : Int32} (h : Q (some (.int (f_count nS nP len na kp x))) I L R) : P 174 0 [.ref 119, .int x] [] I L R Q := by
  refine r_il hP c174_0 rfl ?_
  refine r_sw hP c174_1 ?_
  refine zsw_c (fun h1_0 => ?_) (fun h1_0 => ?_)
  · refine r_al hP c174_36 rfl ?_
    refine r_gR (x := 121) hP c174_37 (zj119 hKb) (zr119_2 hRb) ?_
    refine r_ic hP c174_40 ?_
    refine r_iald (j := 0) (x := nI nS) hP c174_41 (zk121 hKb) rfl (by decide) hD.1 ?_
    exact r_irE hP c174_42 h (by subst_vars; rfl)
  refine zsw_c (fun h1_1 => ?_) (fun h1_1 => ?_)
  · refine r_al hP c174_43 rfl ?_
    refine r_gR (x := 124) hP c174_44 (zj119 hKb) (zr119_5 hRb) ?_
    refine r_ic hP c174_47 ?_
    refine r_iald (j := 0) (x := nI nP) hP c174_48 (zk124 hKb) rfl (by decide) hD.2.1 ?_
    exact r_irE hP c174_49 h (by subst_vars; rfl)
  refine zsw_c (fun h1_2 => ?_) (fun h1_2 => ?_)
  · refine r_al hP c174_50 rfl ?_
    refine r_gI (x := nI len) hP c174_51 (zj119 hKb) hT.1 ?_
    exact r_irE hP c174_54 h (by subst_vars; rfl)
  refine zsw_c (fun h1_3 => ?_) (fun h1_3 => ?_)
  · refine r_al hP c174_55 rfl ?_
    refine r_gR (x := 143) hP c174_56 (zj119 hKb) (zr119_24 hRb) ?_
    refine r_ic hP c174_59 ?_
    refine r_iald (j := 0) (x := nI na) hP c174_60 (zk143 hKb) rfl (by decide) hA.1 ?_
    exact r_irE hP c174_61 h (by subst_vars; rfl)
  refine zsw_c (fun h1_4 => ?_) (fun h1_4 => ?_)
  · refine r_al hP c174_62 rfl ?_
    refine r_gI (x := nI kp) hP c174_63 (zj119 hKb) hkp ?_
    exact r_irE hP c174_66 h (by subst_vars; rfl)
  refine zsw_n ?_
  refine r_ic hP c174_67 ?_
  exact r_irE hP c174_68 h (by rw [f_count, if_neg h1_0, if_neg h1_1, if_neg h1_2, if_neg h1_3, if_neg h1_4])
set_option maxRecDepth 4000 in
theorem y_wipe {K : ZKh} {P : Nat → Nat → List Value → List Value → ZMi → ZMl → ZMr → ZRt → Prop} {I : ZMi} {L : ZMl} {R : ZMr} {Q : ZRt} (hP : ZCl K P) (hKb : zKb K) (hRb : zRb R) {len : Nat} {T : Nat → Nat} (hT : zTm I len T) (hl : len ≤ 400) (h : ∀ I2, zfX I I2 → zTm I2 0 T → Q (some (.int (nI len))) I2 L R) : P 111 0 [.ref 119, .null] [] I L R Q := by
  refine r_al hP c111_0 rfl ?_
  refine r_gI (x := nI len) hP c111_1 (zj119 hKb) hT.1 ?_
  refine r_is (ls' := [.ref 119, .int (nI len)]) hP c111_4 (Nat.le_of_ble_eq_true rfl) rfl ?_
  refine r_al hP c111_5 rfl ?_
  refine r_ic hP c111_6 ?_
  refine r_pI hP c111_7 (zj119 hKb) ?_
  refine r_il hP c111_10 rfl ?_
  exact r_irE hP c111_11 (h _ (fun a k q1 q2 => zup_n _ _ _ _ q2) ⟨zup_s _ _ _ _, fun i hi => absurd hi (Nat.not_lt_zero i)⟩) rfl
set_option maxRecDepth 4000 in
theorem y_write_l {K : ZKh} {P : Nat → Nat → List Value → List Value → ZMi → ZMl → ZMr → ZRt → Prop} {I : ZMi} {L : ZMl} {R : ZMr} {Q : ZRt} (hP : ZCl K P) (hKb : zKb K) (hRb : zRb R) {len : Nat} {T : Nat → Nat} (hT : zTm I len T) (hl : len ≤ 400) {n : Nat} {v : Int64} (hn : n ≤ 8) (hr : len + n ≤ 400) (h : ∀ I2, zfX I I2 → zTm I2 (len + n) (zTa T len n v) → Q (some (.int (nI (len + n)))) I2 L R) : ∀ d, d ≤ n → ∀ (I1 : ZMi), zfX I I1 ∧ zTm I1 (len + d) (zTa T len n v) → P 110 34 [.ref 119, .int (nI n), .long v, .null, .int (nI (n - d) - 1)] [] I1 L R Q := by
  refine zloop n (fun d => ∀ (I1 : ZMi), zfX I I1 ∧ zTm I1 (len + d) (zTa T len n v) → P 110 34 [.ref 119, .int (nI n), .long v, .null, .int (nI (n - d) - 1)] [] I1 L R Q) ?_
  intro d hle ih I1 hacc
  refine r_il hP c110_34 rfl ?_
  refine r_iflt hP c110_36 (fun h36 => ?_) (fun h36 => ?_)
  · have he : d = n := by
      rcases Nat.lt_or_ge d n with q | q
      · rw [zdn q (by omega)] at h36; exact absurd h36 (nI_pos (by omega))
      · omega
    refine r_al hP c110_76 rfl ?_
    refine r_gI (x := nI (len + d)) hP c110_77 (zj119 hKb) hacc.2.1 ?_
    subst he
    exact r_irE hP c110_80 (h _ hacc.1 hacc.2) rfl
  · have hlt : d < n := by
      rcases Nat.lt_or_ge d n with q | q
      · exact q
      · exact absurd (by rw [show n - d = 0 from by omega]; decide) h36
    refine r_al hP c110_39 rfl ?_
    refine r_gR (x := 120) hP c110_40 (zj119 hKb) (zr119_1 hRb) ?_
    refine r_al hP c110_43 rfl ?_
    refine r_gI (x := nI (len + d)) hP c110_44 (zj119 hKb) hacc.2.1 ?_
    refine r_ll hP c110_47 rfl ?_
    refine r_ic hP c110_48 ?_
    refine r_il hP c110_50 rfl ?_
    refine r_imul hP c110_52 ?_
    refine r_ti (y := 8 * nI (n - 1 - d)) (congrArg (fun z : Int32 => 8 * z) (zdn hlt (by omega))) ?_
    refine r_lshr hP c110_53 ?_
    refine r_lc hP c110_54 ?_
    refine r_land hP c110_57 ?_
    refine r_l2i hP c110_58 ?_
    refine r_ti (y := nI (zby v (n - 1 - d))) (zby_m v (n - 1 - d) (by omega)) ?_
    refine r_iast (j := len + d) hP c110_59 (zk120 hKb) rfl (by omega) ?_
    refine r_al hP c110_60 rfl ?_
    refine r_dup hP c110_61 rfl ?_
    refine r_gI (x := nI (len + d)) hP c110_62 (zj119 hKb) ((zup_n _ _ _ _ (by omega)).trans hacc.2.1) ?_
    refine r_ic hP c110_65 ?_
    refine r_iadd hP c110_66 ?_
    refine r_ti (y := nI (len + d + 1)) (nI_1 _) ?_
    refine r_pI hP c110_67 (zj119 hKb) ?_
    refine r_inc (y := nI (n - (d + 1)) - 1) (ls' := [.ref 119, .int (nI n), .long v, .null, .int (nI (n - (d + 1)) - 1)]) hP c110_70 rfl (by rw [zdn hlt (by omega)]; exact zdm hlt (by omega)) rfl ?_
    refine r_goto hP c110_73 ?_
    exact ih hlt _ (zTm_up hacc)
set_option maxRecDepth 4000 in
theorem y_write {K : ZKh} {P : Nat → Nat → List Value → List Value → ZMi → ZMl → ZMr → ZRt → Prop} {I : ZMi} {L : ZMl} {R : ZMr} {Q : ZRt} (hP : ZCl K P) (hKb : zKb K) (hRb : zRb R) {len : Nat} {T : Nat → Nat} (hT : zTm I len T) (hl : len ≤ 400) {n0 : Int32} {v : Int64} (h : ∀ I2, zfX I I2 → zTm I2 (zwn len n0) (zwT T len n0 v) → Q (some (.int (f_write len n0))) I2 L R) : P 110 0 [.ref 119, .int n0, .long v, .null, .null] [] I L R Q := by
  refine r_il hP c110_0 rfl ?_
  refine r_i2l hP c110_1 ?_
  refine r_lc hP c110_2 ?_
  refine r_lc hP c110_3 ?_
  refine r_cSi (as := [.long n0.toInt64, .long 1, .long 8]) (r := []) (I' := I) (L' := L) (R' := R) (x := if 1 ≤ n0.toInt64 ∧ n0.toInt64 ≤ 8 then 1 else 0) hP c110_6 rfl rfl (fun _ h2 => x_isIn hP h2) ?_
  refine r_ti (y := if 1 ≤ n0 ∧ n0 ≤ 8 then 1 else 0) (zisC rfl rfl) ?_
  refine r_ifneB hP c110_9 (fun h9 => ?_) (fun h9 => ?_)
  · obtain ⟨n, hn, rfl⟩ := zb_nI (n := 8) rfl (by decide) ⟨Int32.le_trans (by decide : (0 : Int32) ≤ 1) h9.1, h9.2⟩
    refine r_al hP c110_14 rfl ?_
    refine r_gI (x := nI len) hP c110_15 (zj119 hKb) hT.1 ?_
    refine r_il hP c110_18 rfl ?_
    refine r_iadd hP c110_19 ?_
    refine r_ti (y := nI (len + n)) (nI_add _ _) ?_
    refine r_ic hP c110_20 ?_
    refine r_ile hP c110_23 (fun h23 => ?_) (fun h23 => ?_)
    · have hlt : len + n ≤ 400 := (nI_leI (b := 400) (by omega) (by decide)).mp h23
      refine r_il hP c110_29 rfl ?_
      refine r_ic hP c110_30 ?_
      refine r_isub hP c110_31 ?_
      refine r_is (ls' := [.ref 119, .int (nI n), .long v, .null, .int ((nI n) - 1)]) hP c110_32 (Nat.le_of_ble_eq_true rfl) rfl ?_
      have hc : zwc len (nI n) := ⟨h9, by rw [nI_clamp (by omega)]; exact hlt⟩
      exact y_write_l hP hKb hRb hT hl hn hlt (fun I2 a b => by
        have := h I2 a (by rw [zwn, zwT, if_pos hc, if_pos hc, nI_clamp (by omega)]; exact b)
        rw [f_write, if_pos h9, nI_clamp (by omega), if_pos hlt] at this
        exact this) 0 (Nat.zero_le _) _ ⟨fun _ _ _ _ => rfl, hT.1, fun i hi => by rw [zTa, if_pos (by omega)]; exact hT.2 i (by omega)⟩
    · have hlt : ¬ len + n ≤ 400 := fun q => h23 (nI_le (b := 400) q (by decide))
      refine r_ic hP c110_26 ?_
      have hc : ¬ zwc len (nI n) := fun q => hlt (by have := q.2; rw [nI_clamp (by omega)] at this; exact this)
      exact r_irE hP c110_28 (h _ (fun _ _ _ _ => rfl) (by rw [zwn, zwT, if_neg hc, if_neg hc]; exact hT)) (by rw [f_write, if_pos h9, nI_clamp (by omega), if_neg hlt])
  · refine r_ic hP c110_12 ?_
    have hc : ¬ zwc len n0 := fun q => h9 q.1
    exact r_irE hP c110_13 (h _ (fun _ _ _ _ => rfl) (by rw [zwn, zwT, if_neg hc, if_neg hc]; exact hT)) (by rw [f_write, if_neg h9])
set_option maxRecDepth 4000 in
theorem y_set_l {K : ZKh} {P : Nat → Nat → List Value → List Value → ZMi → ZMl → ZMr → ZRt → Prop} {I : ZMi} {L : ZMl} {R : ZMr} {Q : ZRt} (hP : ZCl K P) {nS nP nW : Nat} {S : ZS} (hKb : zKb K) (hRb : zRb R) (hD : zD I 0 S nS nP nW) (hs1 : 1 ≤ nS) (hp1 : 1 ≤ nP) (hp8 : nP ≤ 8) (hs6 : nS ≤ 6) (hw6 : nW ≤ 6) {z : Int32} (h : Q (some (.int (zset_ S z nP))) I L R) : ∀ p, p ≤ nP → ∀ (acc : Int32) (v4 v5 : Value), acc = zset_ S z p → P 170 18 [.ref 119, .int z, .int acc, .int (nI p), v4, v5] [] I L R Q := by
  refine zloop nP (fun p => ∀ (acc : Int32) (v4 v5 : Value), acc = zset_ S z p → P 170 18 [.ref 119, .int z, .int acc, .int (nI p), v4, v5] [] I L R Q) ?_
  intro p hle ih acc v4 v5 hacc
  refine r_il hP c170_18 rfl ?_
  refine r_al hP c170_19 rfl ?_
  refine r_gR (x := 124) hP c170_20 (zj119 hKb) (zr119_5 hRb) ?_
  refine r_ic hP c170_23 ?_
  refine r_iald (j := 0) (x := nI nP) hP c170_24 (zk124 hKb) rfl (by decide) hD.2.1 ?_
  refine r_ige hP c170_25 (fun h25 => ?_) (fun h25 => ?_)
  · have he : p = nP := Nat.le_antisymm hle ((nI_leI (by omega) (by omega)).mp h25)
    refine r_il hP c170_85 rfl ?_
    exact r_irE hP c170_86 h (by rw [hacc, he])
  · have hlt : p < nP := by
      rcases Nat.lt_or_ge p nP with q | q
      · exact q
      · exact absurd (nI_le q (by omega)) h25
    refine r_lc hP c170_28 ?_
    refine r_il hP c170_31 rfl ?_
    refine r_i2l hP c170_32 ?_
    refine r_lmul hP c170_33 ?_
    refine r_lc hP c170_34 ?_
    refine r_il hP c170_37 rfl ?_
    refine r_i2l hP c170_38 ?_
    refine r_lmul hP c170_39 ?_
    refine r_ladd hP c170_40 ?_
    refine r_lc hP c170_41 ?_
    refine r_ladd hP c170_42 ?_
    refine r_tl (y := zx_ z p) rfl ?_
    refine r_ls (ls' := [.ref 119, .int z, .int acc, .int (nI p), .long (zx_ z p), .null]) hP c170_43 (Nat.le_of_ble_eq_true rfl) rfl ?_
    refine r_il hP c170_45 rfl ?_
    refine r_ll hP c170_46 rfl ?_
    refine r_ll hP c170_48 rfl ?_
    refine r_lmul hP c170_50 ?_
    refine r_lc hP c170_51 ?_
    refine r_lrem hP c170_54 (by decide) ?_
    refine r_lc hP c170_55 ?_
    refine r_lrem hP c170_58 (by decide) ?_
    refine r_tl (y := zdx z p) rfl ?_
    refine r_al hP c170_59 rfl ?_
    refine r_gR (x := 128) hP c170_60 (zj119 hKb) (zr119_9 hRb) ?_
    refine r_il hP c170_63 rfl ?_
    refine r_iald (j := p) (x := S 6 p 0) hP c170_64 (zk128 hKb) rfl (by omega) (zD_f hD (by omega) 4 (by decide) (by decide)) ?_
    refine r_i2l hP c170_65 ?_
    refine r_lcmp hP c170_66 ?_
    refine r_ifgeL hP c170_67 (fun h67 => ?_) (fun h67 => ?_)
    · refine r_ic hP c170_76 ?_
      refine r_ior hP c170_77 ?_
      refine r_is (ls' := [.ref 119, .int z, .int (acc ||| 0), .int (nI p), .long (zx_ z p), .null]) hP c170_78 (Nat.le_of_ble_eq_true rfl) rfl ?_
      refine r_inc (y := nI (p + 1)) (ls' := [.ref 119, .int z, .int (acc ||| 0), .int (nI (p + 1)), .long (zx_ z p), .null]) hP c170_79 rfl (nI_1 _) rfl ?_
      refine r_goto hP c170_82 ?_
      exact ih hlt _ _ _ (by rw [zset_, hacc]; first | (rw [if_pos (Int64.not_le.mp h67)]; done) | (rw [if_neg (fun q => absurd h67 (Int64.not_le.mpr q))]; exact Int32.or_zero))
    · refine r_ic hP c170_70 ?_
      refine r_il hP c170_71 rfl ?_
      refine r_ishl hP c170_72 ?_
      refine r_goto hP c170_73 ?_
      refine r_ior hP c170_77 ?_
      refine r_is (ls' := [.ref 119, .int z, .int (acc ||| (1 <<< ((nI p) &&& 31))), .int (nI p), .long (zx_ z p), .null]) hP c170_78 (Nat.le_of_ble_eq_true rfl) rfl ?_
      refine r_inc (y := nI (p + 1)) (ls' := [.ref 119, .int z, .int (acc ||| (1 <<< ((nI p) &&& 31))), .int (nI (p + 1)), .long (zx_ z p), .null]) hP c170_79 rfl (nI_1 _) rfl ?_
      refine r_goto hP c170_82 ?_
      exact ih hlt _ _ _ (by rw [zset_, hacc]; first | (rw [if_pos (Int64.not_le.mp h67)]; done) | (rw [if_neg (fun q => absurd h67 (Int64.not_le.mpr q))]; exact Int32.or_zero))
set_option maxRecDepth 4000 in
theorem y_set {K : ZKh} {P : Nat → Nat → List Value → List Value → ZMi → ZMl → ZMr → ZRt → Prop} {I : ZMi} {L : ZMl} {R : ZMr} {Q : ZRt} (hP : ZCl K P) {nS nP nW : Nat} {S : ZS} (hKb : zKb K) (hRb : zRb R) (hD : zD I 0 S nS nP nW) (hs1 : 1 ≤ nS) (hp1 : 1 ≤ nP) (hp8 : nP ≤ 8) (hs6 : nS ≤ 6) (hw6 : nW ≤ 6) {z : Int32} (h : Q (some (.int (f_set S nP z))) I L R) : P 170 0 [.ref 119, .int z, .null, .null, .null, .null] [] I L R Q := by
  refine r_il hP c170_0 rfl ?_
  refine r_i2l hP c170_1 ?_
  refine r_lc hP c170_2 ?_
  refine r_lc hP c170_3 ?_
  refine r_cSi (as := [.long z.toInt64, .long 0, .long 9999]) (r := []) (I' := I) (L' := L) (R' := R) (x := if 0 ≤ z.toInt64 ∧ z.toInt64 ≤ 9999 then 1 else 0) hP c170_6 rfl rfl (fun _ h2 => x_isIn hP h2) ?_
  refine r_ti (y := if 0 ≤ z ∧ z ≤ 9999 then 1 else 0) (zisC rfl rfl) ?_
  refine r_ifneB hP c170_9 (fun h9 => ?_) (fun h9 => ?_)
  · refine r_ic hP c170_14 ?_
    refine r_is (ls' := [.ref 119, .int z, .int 0, .null, .null, .null]) hP c170_15 (Nat.le_of_ble_eq_true rfl) rfl ?_
    refine r_ic hP c170_16 ?_
    refine r_is (ls' := [.ref 119, .int z, .int 0, .int 0, .null, .null]) hP c170_17 (Nat.le_of_ble_eq_true rfl) rfl ?_
    exact y_set_l hP hKb hRb hD hs1 hp1 hp8 hs6 hw6 (by rw [f_set, if_pos h9] at h; exact h) 0 (Nat.zero_le _) _ _ _ rfl
  · refine r_ic hP c170_12 ?_
    exact r_irE hP c170_13 h (by rw [f_set, if_neg h9])
set_option maxRecDepth 4000 in
theorem y_louder_l {K : ZKh} {P : Nat → Nat → List Value → List Value → ZMi → ZMl → ZMr → ZRt → Prop} {I : ZMi} {L : ZMl} {R : ZMr} {Q : ZRt} (hP : ZCl K P) {nS nP nW : Nat} {S : ZS} (hKb : zKb K) (hRb : zRb R) (hD : zD I 0 S nS nP nW) (hs1 : 1 ≤ nS) (hp1 : 1 ≤ nP) (hp8 : nP ≤ 8) (hs6 : nS ≤ 6) (hw6 : nW ≤ 6) {st : Nat} (hst : st < 256) (h : Q (some (.int (zlo S nS nP st nP))) I L R) : ∀ p, p ≤ nP → ∀ (acc : Int32), acc = zlo S nS nP st p → P 165 14 [.ref 119, .int (nI st), .int acc, .int (nI p)] [] I L R Q := by
  refine zloop nP (fun p => ∀ (acc : Int32), acc = zlo S nS nP st p → P 165 14 [.ref 119, .int (nI st), .int acc, .int (nI p)] [] I L R Q) ?_
  intro p hle ih acc hacc
  refine r_il hP c165_14 rfl ?_
  refine r_al hP c165_15 rfl ?_
  refine r_gR (x := 124) hP c165_16 (zj119 hKb) (zr119_5 hRb) ?_
  refine r_ic hP c165_19 ?_
  refine r_iald (j := 0) (x := nI nP) hP c165_20 (zk124 hKb) rfl (by decide) hD.2.1 ?_
  refine r_ige hP c165_21 (fun h21 => ?_) (fun h21 => ?_)
  · have he : p = nP := Nat.le_antisymm hle ((nI_leI (by omega) (by omega)).mp h21)
    refine r_il hP c165_67 rfl ?_
    exact r_irE hP c165_68 h (by rw [hacc, he])
  · have hlt : p < nP := by
      rcases Nat.lt_or_ge p nP with q | q
      · exact q
      · exact absurd (nI_le q (by omega)) h21
    refine r_il hP c165_24 rfl ?_
    refine r_il hP c165_25 rfl ?_
    refine r_il hP c165_26 rfl ?_
    refine r_cSi (as := [.int (nI st), .int (nI p)]) (r := [.int acc]) (I' := I) (L' := L) (R' := R) (x := if st.testBit p = true then 1 else 0) hP c165_27 rfl rfl (fun _ hq => x_has hP hst (by omega) hq) ?_
    refine r_ifeqB hP c165_30 (fun h30 => ?_) (fun h30 => ?_)
    · refine r_ic hP c165_58 ?_
      refine r_ior hP c165_59 ?_
      refine r_is (ls' := [.ref 119, .int (nI st), .int (acc ||| 0), .int (nI p)]) hP c165_60 (Nat.le_of_ble_eq_true rfl) rfl ?_
      refine r_inc (y := nI (p + 1)) (ls' := [.ref 119, .int (nI st), .int (acc ||| 0), .int (nI (p + 1))]) hP c165_61 rfl (nI_1 _) rfl ?_
      refine r_goto hP c165_64 ?_
      exact ih hlt _ (by
        rw [zlo]
        first
          | (have hq : st.testBit p = true ∧ zlw S nS nP st < zlw S nS nP (zclr st p) := ⟨h30, Int32.not_le.mp h49⟩; rw [if_pos hq, hacc])
          | (have hq : ¬ (st.testBit p = true ∧ zlw S nS nP st < zlw S nS nP (zclr st p)) := fun q => absurd h49 (Int32.not_le.mpr q.2); rw [if_neg hq, hacc]; exact Int32.or_zero)
          | (have hq : ¬ (st.testBit p = true ∧ zlw S nS nP st < zlw S nS nP (zclr st p)) := fun q => h30 q.1; rw [if_neg hq, hacc]; exact Int32.or_zero))
    · refine r_al hP c165_33 rfl ?_
      refine r_il hP c165_34 rfl ?_
      refine r_ic hP c165_35 ?_
      refine r_il hP c165_36 rfl ?_
      refine r_ishl hP c165_37 ?_
      refine r_ic hP c165_38 ?_
      refine r_ixor hP c165_39 ?_
      refine r_iand hP c165_40 ?_
      refine r_ti (y := nI (zclr st p)) (zclr_c st hst p (by omega)) ?_
      refine r_cVi (as := [.int (nI (zclr st p))]) (r := [.int acc]) (I' := I) (L' := L) (R' := R) (x := zlw S nS nP (zclr st p)) (a := 119) hP c165_41 rfl (zj119 hKb) rfl (fun _ hq => x_loudOf hP hKb hRb hD hs1 hp1 hp8 hs6 hw6 (Nat.lt_of_le_of_lt (zclr_le st p) hst) hq) ?_
      refine r_al hP c165_44 rfl ?_
      refine r_il hP c165_45 rfl ?_
      refine r_cVi (as := [.int (nI st)]) (r := [.int (zlw S nS nP (zclr st p)), .int acc]) (I' := I) (L' := L) (R' := R) (x := zlw S nS nP st) (a := 119) hP c165_46 rfl (zj119 hKb) rfl (fun _ hq => x_loudOf hP hKb hRb hD hs1 hp1 hp8 hs6 hw6 hst hq) ?_
      refine r_ile hP c165_49 (fun h49 => ?_) (fun h49 => ?_)
      · refine r_ic hP c165_58 ?_
        refine r_ior hP c165_59 ?_
        refine r_is (ls' := [.ref 119, .int (nI st), .int (acc ||| 0), .int (nI p)]) hP c165_60 (Nat.le_of_ble_eq_true rfl) rfl ?_
        refine r_inc (y := nI (p + 1)) (ls' := [.ref 119, .int (nI st), .int (acc ||| 0), .int (nI (p + 1))]) hP c165_61 rfl (nI_1 _) rfl ?_
        refine r_goto hP c165_64 ?_
        exact ih hlt _ (by
          rw [zlo]
          first
            | (have hq : st.testBit p = true ∧ zlw S nS nP st < zlw S nS nP (zclr st p) := ⟨h30, Int32.not_le.mp h49⟩; rw [if_pos hq, hacc])
            | (have hq : ¬ (st.testBit p = true ∧ zlw S nS nP st < zlw S nS nP (zclr st p)) := fun q => absurd h49 (Int32.not_le.mpr q.2); rw [if_neg hq, hacc]; exact Int32.or_zero)
            | (have hq : ¬ (st.testBit p = true ∧ zlw S nS nP st < zlw S nS nP (zclr st p)) := fun q => h30 q.1; rw [if_neg hq, hacc]; exact Int32.or_zero))
      · refine r_ic hP c165_52 ?_
        refine r_il hP c165_53 rfl ?_
        refine r_ishl hP c165_54 ?_
        refine r_goto hP c165_55 ?_
        refine r_ior hP c165_59 ?_
        refine r_is (ls' := [.ref 119, .int (nI st), .int (acc ||| (1 <<< ((nI p) &&& 31))), .int (nI p)]) hP c165_60 (Nat.le_of_ble_eq_true rfl) rfl ?_
        refine r_inc (y := nI (p + 1)) (ls' := [.ref 119, .int (nI st), .int (acc ||| (1 <<< ((nI p) &&& 31))), .int (nI (p + 1))]) hP c165_61 rfl (nI_1 _) rfl ?_
        refine r_goto hP c165_64 ?_
        exact ih hlt _ (by
          rw [zlo]
          first
            | (have hq : st.testBit p = true ∧ zlw S nS nP st < zlw S nS nP (zclr st p) := ⟨h30, Int32.not_le.mp h49⟩; rw [if_pos hq, hacc])
            | (have hq : ¬ (st.testBit p = true ∧ zlw S nS nP st < zlw S nS nP (zclr st p)) := fun q => absurd h49 (Int32.not_le.mpr q.2); rw [if_neg hq, hacc]; exact Int32.or_zero)
            | (have hq : ¬ (st.testBit p = true ∧ zlw S nS nP st < zlw S nS nP (zclr st p)) := fun q => h30 q.1; rw [if_neg hq, hacc]; exact Int32.or_zero))
set_option maxRecDepth 4000 in
theorem y_louder {K : ZKh} {P : Nat → Nat → List Value → List Value → ZMi → ZMl → ZMr → ZRt → Prop} {I : ZMi} {L : ZMl} {R : ZMr} {Q : ZRt} (hP : ZCl K P) {nS nP nW : Nat} {S : ZS} (hKb : zKb K) (hRb : zRb R) (hD : zD I 0 S nS nP nW) (hs1 : 1 ≤ nS) (hp1 : 1 ≤ nP) (hp8 : nP ≤ 8) (hs6 : nS ≤ 6) (hw6 : nW ≤ 6) {x : Int32} (h : Q (some (.int (f_louder S nS nP x))) I L R) : P 165 0 [.ref 119, .int x, .null, .null] [] I L R Q := by
  have hp256 := zp256 hp8
  have hq2 := Nat.two_pow_pos nP
  refine r_al hP c165_0 rfl ?_
  refine r_il hP c165_1 rfl ?_
  refine r_cVi (as := [.int x]) (r := []) (I' := I) (L' := L) (R' := R) (x := if zr x (2 ^ nP) then 1 else 0) (a := 119) hP c165_2 rfl (zj119 hKb) rfl (fun _ hq => x_isState hP hKb hRb hD hs1 hp1 hp8 hs6 hw6 hq) ?_
  refine r_ifneB hP c165_5 (fun h5 => ?_) (fun h5 => ?_)
  · obtain ⟨st, hst, rfl⟩ := (zr_iff (Nat.lt_of_le_of_lt (zp256 hp8) (by decide))).mp h5
    refine r_ic hP c165_10 ?_
    refine r_is (ls' := [.ref 119, .int (nI st), .int 0, .null]) hP c165_11 (Nat.le_of_ble_eq_true rfl) rfl ?_
    refine r_ic hP c165_12 ?_
    refine r_is (ls' := [.ref 119, .int (nI st), .int 0, .int 0]) hP c165_13 (Nat.le_of_ble_eq_true rfl) rfl ?_
    exact y_louder_l hP hKb hRb hD hs1 hp1 hp8 hs6 hw6 (by omega) (by rw [f_louder, if_pos h5, nI_clamp (by omega)] at h; exact h) 0 (Nat.zero_le _) _ rfl
  · refine r_ic hP c165_8 ?_
    exact r_irE hP c165_9 h (by rw [f_louder, if_neg h5])
