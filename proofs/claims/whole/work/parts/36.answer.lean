/-! ===== the class: answer, forget, keep, back ===== -/
def zfB (I I' : ZMi) : Prop := ∀ x j, ¬ (9 ≤ x ∧ x ≤ 20) → x ≠ 31 → x ≠ 32 → ¬ (x = 2 ∧ j = 11) → I' x j = I x j
theorem zfB_r (I : ZMi) : zfB I I := fun _ _ _ _ _ _ => rfl
theorem zfB_c {I I' : ZMi} (h : zfc I I') : zfB I I' := fun x j h1 h2 h3 _ => h x (by omega) h2 h3 j
theorem zfB_A {I I' : ZMi} (h : zfA 16 I I') : zfB I I' := fun x j h1 h2 h3 _ => h x (by omega) j
theorem zfB_t {I I' I2 : ZMi} (h : zfB I I') (h2 : zfB I' I2) : zfB I I2 := fun x j a b c d => (h2 x j a b c d).trans (h x j a b c d)
theorem zfB_k (I : ZMi) (x : Int32) : zfB I (zup I 2 11 x) := fun y j _ _ _ d => zup_n _ _ _ _ d
theorem zC_fB {I I' : ZMi} {w : Nat} {S : ZS} {nS nP nW : Nat} (h : zC I w S nS nP nW) (hf : zfB I I') (hw : zisW w) (hs6 : nS ≤ 6) (hp8 : nP ≤ 8) (hw6 : nW ≤ 6) : zC I' w S nS nP nW := zC_to h (fun a h1 h2 k => hf a k (by have := zW39 hw; omega) (by have := zW39 hw; omega) (by have := zW39 hw; omega) (by have := zW39 hw; omega)) hs6 hp8 hw6
theorem zps_cong {S : ZS} {nS nP : Nat} {A B : ZA} : ∀ {n : Nat}, (∀ i, i < n → B i = A i) → zps S nS nP B n = zps S nS nP A n
  | 0, _ => rfl
  | n + 1, h => by
    rw [zps, zps, h n (Nat.lt_succ_self n), zps_cong (fun i hi => h i (Nat.lt_succ_of_lt hi))]
theorem zps_add (S : ZS) (nS nP : Nat) (A : ZA) (n : Nat) (q : Nat × Nat × Int32 × Int32) : zps S nS nP (zAs A n q) (n + 1) = (zps S nS nP A n).filter (zfa S nS nP ((zAs A n q) n)) := by
  rw [zps, zps_cong (fun i hi => zAs_n A q hi)]
abbrev zac (nS nP na : Nat) (k o m a : Int32) : Prop := (((0 ≤ k ∧ k ≤ 4) ∧ zr o (zak k nS nP)) ∧ (0 ≤ m ∧ m ≤ 30) ∧ (0 ≤ a ∧ a ≤ 9)) ∧ na < 10
def zan (nS nP na : Nat) (k o m a : Int32) : Nat := if zac nS nP na k o m a then na + 1 else na
def zaA (nS nP na : Nat) (A : ZA) (k o m a : Int32) : ZA := if zac nS nP na k o m a then zAs A na (k.toNatClampNeg, o.toNatClampNeg, m, a) else A
def f_answer (nS nP na : Nat) (k o m a : Int32) : Int32 := if ((0 ≤ k ∧ k ≤ 4) ∧ zr o (zak k nS nP)) ∧ (0 ≤ m ∧ m ≤ 30) ∧ (0 ≤ a ∧ a ≤ 9) then (if na < 10 then nI (na + 1) else -3) else -1
theorem zAo_add {nS nP na : Nat} {A : ZA} (h : zAo nS nP na A) {q : Nat × Nat × Int32 × Int32} (h1 : q.1 < 5) (h2 : q.2.1 < zak (nI q.1) nS nP) : zAo nS nP (na + 1) (zAs A na q) := fun i hi => by
  rcases Nat.lt_or_ge i na with z | z
  · rw [zAs_n A q z]; exact h i z
  · have e : i = na := by omega
    subst e
    rw [zAs_s]; exact ⟨h1, h2⟩
set_option maxRecDepth 4000 in
theorem x_answer {K : ZKh} {P : Nat → Nat → List Value → List Value → ZMi → ZMl → ZMr → ZRt → Prop} {I : ZMi} {L : ZMl} {R : ZMr} {Q : ZRt} (hP : ZCl K P) {w nS nP nW : Nat} {S : ZS} (hK : zKa K) (hR : zRa R) (hw : zisW w) (hC : zC I w S nS nP nW) (hp8 : nP ≤ 8) (hs6 : nS ≤ 6) (hw6 : nW ≤ 6) (hs1 : 1 ≤ nS) (hp1 : 1 ≤ nP) (hsg : ∀ p, p < nP → ∃ a, a < nS ∧ S 3 p 0 = nI a) (hl9 : R 2 9 = w + 1) {na : Nat} {A : ZA} (hA : zAn I 16 na A) (hAo : zAo nS nP na A) (hn10 : na ≤ 10) {k0 o0 m a0 : Int32} (hcs : zCs I L S nP (zps S nS nP A na)) (h : ∀ I2 L2, zfB I I2 → zfl_ L L2 → zAn I2 16 (zan nS nP na k0 o0 m a0) (zaA nS nP na A k0 o0 m a0) → zCs I2 L2 S nP (zps S nS nP (zaA nS nP na A k0 o0 m a0) (zan nS nP na k0 o0 m a0)) → Q (some (.int (f_answer nS nP na k0 o0 m a0))) I2 L2 R) : P 82 0 [.ref 2, .int k0, .int o0, .int m, .int a0] [] I L R Q := by
  have hp256 := zp256 hp8
  have hw39 := zW39 hw
  refine r_al hP c82_0 rfl ?_
  refine r_gR (x := w) hP c82_1 (zj2 hK) hl9 ?_
  refine r_il hP c82_4 rfl ?_
  refine r_il hP c82_5 rfl ?_
  refine r_cVi (as := [.int k0, .int o0]) (r := []) (I' := I) (L' := L) (R' := R) (x := if (0 ≤ k0 ∧ k0 ≤ 4) ∧ zr o0 (zak k0 nS nP) then 1 else 0) (a := w) hP c82_6 rfl (zj_W hK hw) rfl (fun _ hq => x_hasAsk hP hK hR hw hC hp8 hs6 hw6 hq) ?_
  refine r_ifeqB hP c82_9 (fun h9 => ?_) (fun h9 => ?_)
  · refine r_ic hP c82_30 ?_
    first
      | (have hc : ¬ zac nS nP na k0 o0 m a0 := fun q => h9 q.1.1
         exact r_irE hP c82_31 (h _ _ (zfB_r I) (zfl_r L) (by rw [zan, zaA, if_neg hc, if_neg hc]; exact hA) (by rw [zan, zaA, if_neg hc, if_neg hc]; exact hcs)) (by rw [f_answer, if_neg (fun q => h9 q.1)]))
      | (have hc : ¬ zac nS nP na k0 o0 m a0 := fun q => h16 q.1.2.1
         exact r_irE hP c82_31 (h _ _ (zfB_r I) (zfl_r L) (by rw [zan, zaA, if_neg hc, if_neg hc]; exact hA) (by rw [zan, zaA, if_neg hc, if_neg hc]; exact hcs)) (by rw [f_answer, if_neg (fun q => h16 q.2.1)]))
      | (have hc : ¬ zac nS nP na k0 o0 m a0 := fun q => h27 q.1.2.2
         exact r_irE hP c82_31 (h _ _ (zfB_r I) (zfl_r L) (by rw [zan, zaA, if_neg hc, if_neg hc]; exact hA) (by rw [zan, zaA, if_neg hc, if_neg hc]; exact hcs)) (by rw [f_answer, if_neg (fun q => h27 q.2.2)]))
  · refine r_il hP c82_12 rfl ?_
    refine r_cSi (as := [.int m]) (r := []) (I' := I) (L' := L) (R' := R) (x := if 0 ≤ m ∧ m ≤ 30 then 1 else 0) hP c82_13 rfl rfl (fun _ h2 => x_isMinute hP h2) ?_
    refine r_ifeqB hP c82_16 (fun h16 => ?_) (fun h16 => ?_)
    · refine r_ic hP c82_30 ?_
      first
        | (have hc : ¬ zac nS nP na k0 o0 m a0 := fun q => h9 q.1.1
           exact r_irE hP c82_31 (h _ _ (zfB_r I) (zfl_r L) (by rw [zan, zaA, if_neg hc, if_neg hc]; exact hA) (by rw [zan, zaA, if_neg hc, if_neg hc]; exact hcs)) (by rw [f_answer, if_neg (fun q => h9 q.1)]))
        | (have hc : ¬ zac nS nP na k0 o0 m a0 := fun q => h16 q.1.2.1
           exact r_irE hP c82_31 (h _ _ (zfB_r I) (zfl_r L) (by rw [zan, zaA, if_neg hc, if_neg hc]; exact hA) (by rw [zan, zaA, if_neg hc, if_neg hc]; exact hcs)) (by rw [f_answer, if_neg (fun q => h16 q.2.1)]))
        | (have hc : ¬ zac nS nP na k0 o0 m a0 := fun q => h27 q.1.2.2
           exact r_irE hP c82_31 (h _ _ (zfB_r I) (zfl_r L) (by rw [zan, zaA, if_neg hc, if_neg hc]; exact hA) (by rw [zan, zaA, if_neg hc, if_neg hc]; exact hcs)) (by rw [f_answer, if_neg (fun q => h27 q.2.2)]))
    · refine r_il hP c82_19 rfl ?_
      refine r_ic hP c82_21 ?_
      refine r_ic hP c82_22 ?_
      refine r_cSi (as := [.int a0, .int 0, .int 9]) (r := []) (I' := I) (L' := L) (R' := R) (x := if 0 ≤ a0 ∧ a0 ≤ 9 then 1 else 0) hP c82_24 rfl rfl (fun _ h2 => x_within hP h2) ?_
      refine r_ifneB hP c82_27 (fun h27 => ?_) (fun h27 => ?_)
      · obtain ⟨j, hj, rfl⟩ := (zr_iff (by have := zak_b (x := k0) hs6 hp8; omega)).mp h9.2
        obtain ⟨k, hk4, rfl⟩ := zb_nI (n := 4) rfl (by decide) h9.1
        have hk : k < 5 := by omega
        have hjb := zak_b (x := nI k) hs6 hp8
        refine r_al hP c82_32 rfl ?_
        refine r_gR (x := 16) hP c82_33 (zj2 hK) (zr2_3 hR) ?_
        refine r_gI (x := nI na) hP c82_36 (zj16 hK) hA.1 ?_
        refine r_ic hP c82_39 ?_
        refine r_ilt hP c82_41 (fun h41 => ?_) (fun h41 => ?_)
        · have hlt : na < 10 := (nI_ltI (b := 10) (by omega) (by decide)).mp h41
          refine r_al hP c82_47 rfl ?_
          refine r_gR (x := 16) hP c82_48 (zj2 hK) (zr2_3 hR) ?_
          refine r_il hP c82_51 rfl ?_
          refine r_il hP c82_52 rfl ?_
          refine r_il hP c82_53 rfl ?_
          refine r_il hP c82_54 rfl ?_
          refine r_cVvp (as := [.int (nI k), .int (nI j), .int m, .int a0]) (r := []) (a := 16) hP c82_56 rfl (zj16 hK) rfl (fun I2 L2 R2 => (zfA 16 I I2 ∧ zAn I2 16 (na + 1) (zAs A na (k, j, m, a0))) ∧ L = L2 ∧ R = R2) (fun Q2 hq => x_aadd hP hK hR (Or.inl rfl) hA hlt (k, j, m, a0) (fun I2 h1 h2 => hq I2 L R ⟨⟨h1, h2⟩, rfl, rfl⟩)) ?_
          rintro I2 L2 R2 ⟨⟨h1, h2⟩, rfl, rfl⟩
          refine r_al hP c82_59 rfl ?_
          refine r_gR (x := 31) hP c82_60 (zj2 hK) (zr2_6 hR) ?_
          refine r_al hP c82_63 rfl ?_
          refine r_gR (x := w) hP c82_64 (zj2 hK) hl9 ?_
          refine r_al hP c82_67 rfl ?_
          refine r_gR (x := 7) hP c82_68 (zj2 hK) (zr2_2 hR) ?_
          refine r_al hP c82_71 rfl ?_
          refine r_gR (x := 16) hP c82_72 (zj2 hK) (zr2_3 hR) ?_
          refine r_al hP c82_75 rfl ?_
          refine r_gR (x := 16) hP c82_76 (zj2 hK) (zr2_3 hR) ?_
          refine r_gI (x := nI (na + 1)) hP c82_79 (zj16 hK) h2.1 ?_
          refine r_ic hP c82_82 ?_
          refine r_isub hP c82_83 ?_
          refine r_ti (y := nI na) (nI_pred _) ?_
          refine r_cVvp (as := [.ref w, .ref 7, .ref 16, .int (nI na)]) (r := []) (a := 31) hP c82_84 rfl (zj31 hK) rfl (fun I3 L3 R2 => (zfc I2 I3 ∧ zfl_ L L3 ∧ zCs I3 L3 S nP (zps S nS nP (zAs A na (k, j, m, a0)) (na + 1))) ∧ R = R2) (fun Q2 hq => x_narrow hP hK hR hw (zC_fB hC (zfB_A h1) hw hs6 hp8 hw6) hp8 hs6 hw6 hs1 hsg h2 (zAo_add hAo hk hj) (Nat.lt_succ_self na) hlt (zok_ps S nS hp8 A na) (zCs_to hcs (fun k => h1 31 (by omega) k) (fun k => h1 32 (by omega) k) (fun _ => rfl) (fun _ => rfl)) (fun I2 L2 a b c => hq I2 L2 R ⟨⟨a, b, by rw [zps_add]; exact c⟩, rfl⟩)) ?_
          rintro I3 L3 R2 ⟨⟨ha, hb, hc2⟩, rfl⟩
          refine r_al hP c82_87 rfl ?_
          refine r_gR (x := 16) hP c82_88 (zj2 hK) (zr2_3 hR) ?_
          refine r_gI (x := nI (na + 1)) hP c82_91 (zj16 hK) (zAn_fc h2 ha).1 ?_
          have hc : zac nS nP na (nI k) (nI j) m a0 := ⟨⟨h9, h16, h27⟩, hlt⟩
          exact r_irE hP c82_94 (h _ _ (zfB_t (zfB_A h1) (zfB_c ha)) hb (by rw [zan, zaA, if_pos hc, if_pos hc, nI_clamp (by omega), nI_clamp (by omega)]; exact zAn_fc h2 ha) (by rw [zan, zaA, if_pos hc, if_pos hc, nI_clamp (by omega), nI_clamp (by omega)]; exact hc2)) (by rw [f_answer, if_pos ⟨h9, h16, h27⟩, if_pos hlt])
        · have hlt : ¬ na < 10 := fun q => h41 (nI_lt (b := 10) q (by decide))
          refine r_ic hP c82_44 ?_
          have hc : ¬ zac nS nP na (nI k) (nI j) m a0 := fun q => hlt q.2
          exact r_irE hP c82_46 (h _ _ (zfB_r I) (zfl_r L) (by rw [zan, zaA, if_neg hc, if_neg hc]; exact hA) (by rw [zan, zaA, if_neg hc, if_neg hc]; exact hcs)) (by rw [f_answer, if_pos ⟨h9, h16, h27⟩, if_neg hlt])
      · refine r_ic hP c82_30 ?_
        first
          | (have hc : ¬ zac nS nP na k0 o0 m a0 := fun q => h9 q.1.1
             exact r_irE hP c82_31 (h _ _ (zfB_r I) (zfl_r L) (by rw [zan, zaA, if_neg hc, if_neg hc]; exact hA) (by rw [zan, zaA, if_neg hc, if_neg hc]; exact hcs)) (by rw [f_answer, if_neg (fun q => h9 q.1)]))
          | (have hc : ¬ zac nS nP na k0 o0 m a0 := fun q => h16 q.1.2.1
             exact r_irE hP c82_31 (h _ _ (zfB_r I) (zfl_r L) (by rw [zan, zaA, if_neg hc, if_neg hc]; exact hA) (by rw [zan, zaA, if_neg hc, if_neg hc]; exact hcs)) (by rw [f_answer, if_neg (fun q => h16 q.2.1)]))
          | (have hc : ¬ zac nS nP na k0 o0 m a0 := fun q => h27 q.1.2.2
             exact r_irE hP c82_31 (h _ _ (zfB_r I) (zfl_r L) (by rw [zan, zaA, if_neg hc, if_neg hc]; exact hA) (by rw [zan, zaA, if_neg hc, if_neg hc]; exact hcs)) (by rw [f_answer, if_neg (fun q => h27 q.2.2)]))
set_option maxRecDepth 4000 in
theorem x_forget {K : ZKh} {P : Nat → Nat → List Value → List Value → ZMi → ZMl → ZMr → ZRt → Prop} {I : ZMi} {L : ZMl} {R : ZMr} {Q : ZRt} (hP : ZCl K P) {w nS nP nW : Nat} {S : ZS} (hK : zKa K) (hR : zRa R) (hw : zisW w) (hC : zC I w S nS nP nW) (hp8 : nP ≤ 8) (hs6 : nS ≤ 6) (hw6 : nW ≤ 6) (hs1 : 1 ≤ nS) (hp1 : 1 ≤ nP) (hsg : ∀ p, p < nP → ∃ a, a < nS ∧ S 3 p 0 = nI a) (hl9 : R 2 9 = w + 1) {na : Nat} {A : ZA} (hA : zAn I 16 na A) (hAo : zAo nS nP na A) (hn10 : na ≤ 10) (h : ∀ I2 L2, zfB I I2 → zfl_ L L2 → zAn I2 16 0 A → zCs I2 L2 S nP (zps S nS nP A 0) → Q (some (.int (nI na))) I2 L2 R) : P 83 0 [.ref 2, .null] [] I L R Q := by
  refine r_al hP c83_0 rfl ?_
  refine r_gR (x := 16) hP c83_1 (zj2 hK) (zr2_3 hR) ?_
  refine r_gI (x := nI na) hP c83_4 (zj16 hK) hA.1 ?_
  refine r_is (ls' := [.ref 2, .int (nI na)]) hP c83_7 (Nat.le_of_ble_eq_true rfl) rfl ?_
  refine r_al hP c83_8 rfl ?_
  refine r_gR (x := 16) hP c83_9 (zj2 hK) (zr2_3 hR) ?_
  refine r_ic hP c83_12 ?_
  refine r_pI hP c83_13 (zj16 hK) ?_
  refine r_al hP c83_16 rfl ?_
  refine r_cVvp (as := []) (r := []) (a := 2) hP c83_17 rfl (zj2 hK) rfl (fun I2 L2 R2 => (zfc (zup I 16 4 0) I2 ∧ zfl_ L L2 ∧ zCs I2 L2 S nP (zps S nS nP A 0)) ∧ R = R2) (fun Q2 hq => x_weigh hP hK hR hw (zC_fB hC (fun x j h1 _ _ _ => zup_n _ _ _ _ (by omega)) hw hs6 hp8 hw6) hp8 hs6 hw6 hs1 hsg hl9 (⟨zup_s _ _ _ _, fun i hi => absurd hi (Nat.not_lt_zero i)⟩ : zAn (zup I 16 4 0) 16 0 A) (fun i hi => absurd hi (Nat.not_lt_zero i)) (by omega) (fun I2 L2 a b c => hq I2 L2 R ⟨⟨a, b, c⟩, rfl⟩)) ?_
  rintro I2 L2 R2 ⟨⟨ha, hb, hc⟩, rfl⟩
  refine r_il hP c83_20 rfl ?_
  exact r_irE hP c83_21 (h _ _ (zfB_t (fun x j h1 _ _ _ => zup_n _ _ _ _ (by omega)) (zfB_c ha)) hb (zAn_fc (⟨zup_s _ _ _ _, fun i hi => absurd hi (Nat.not_lt_zero i)⟩ : zAn (zup I 16 4 0) 16 0 A) ha) hc) rfl
set_option maxRecDepth 4000 in
theorem x_keep2 {K : ZKh} {P : Nat → Nat → List Value → List Value → ZMi → ZMl → ZMr → ZRt → Prop} {I : ZMi} {L : ZMl} {R : ZMr} {Q : ZRt} (hP : ZCl K P) (hK : zKa K) (hR : zRa R) {na : Nat} {A : ZA} (hA : zAn I 16 na A) (hn10 : na ≤ 10) (hkp : I 2 11 = 2) (h : Q (some (.int (-3))) I L R) : P 95 0 [.ref 2] [] I L R Q := by
  refine r_al hP c95_0 rfl ?_
  refine r_gI (x := 2) hP c95_1 (zj2 hK) hkp ?_
  refine r_ic hP c95_4 ?_
  refine r_ilt hP c95_5 (fun h5 => absurd h5 (by decide)) (fun h5 => ?_)
  refine r_ic hP c95_8 ?_
  exact r_irE hP c95_10 h (by rfl)
set_option maxRecDepth 4000 in
theorem x_keep0 {K : ZKh} {P : Nat → Nat → List Value → List Value → ZMi → ZMl → ZMr → ZRt → Prop} {I : ZMi} {L : ZMl} {R : ZMr} {Q : ZRt} (hP : ZCl K P) (hK : zKa K) (hR : zRa R) {na : Nat} {A : ZA} (hA : zAn I 16 na A) (hn10 : na ≤ 10) (hkp : I 2 11 = 0) (h : ∀ I2, (∀ x j, ¬ (21 ≤ x ∧ x ≤ 21 + 4) → ¬ (x = 2 ∧ j = 11) → I2 x j = I x j) → zAn I2 21 na A → I2 2 11 = 1 → Q (some (.int 1)) I2 L R) : P 95 0 [.ref 2] [] I L R Q := by
  refine r_al hP c95_0 rfl ?_
  refine r_gI (x := 0) hP c95_1 (zj2 hK) hkp ?_
  refine r_ic hP c95_4 ?_
  refine r_ilt hP c95_5 (fun h5 => ?_) (fun h5 => absurd h5 (not_not_intro (by decide)))
  refine r_al hP c95_11 rfl ?_
  refine r_gI (x := 0) hP c95_12 (zj2 hK) hkp ?_
  refine r_ifne hP c95_15 (fun h15 => absurd h15 (not_not_intro rfl)) (fun h15 => ?_)
  refine r_al hP c95_18 rfl ?_
  refine r_gR (x := 21) hP c95_19 (zj2 hK) (zr2_4 hR) ?_
  refine r_al hP c95_22 rfl ?_
  refine r_gR (x := 16) hP c95_23 (zj2 hK) (zr2_3 hR) ?_
  refine r_cVvp (as := [.ref 16]) (r := []) (a := 21) hP c95_26 rfl (zj21 hK) rfl (fun I2 L2 R2 => (zfA 21 I I2 ∧ zAn I2 21 na A) ∧ L = L2 ∧ R = R2) (fun Q2 hq => x_acopy hP hK hR (by unfold zisA; omega) (by unfold zisA; omega) (by decide) hA hn10 (fun I2 h1 h2 => hq I2 L R ⟨⟨h1, h2⟩, rfl, rfl⟩)) ?_
  rintro I2 L2 R2 ⟨⟨h1, h2⟩, rfl, rfl⟩
  refine r_goto hP c95_29 ?_
  refine r_al hP c95_43 rfl ?_
  refine r_dup hP c95_44 rfl ?_
  refine r_gI (x := 0) hP c95_45 (zj2 hK) ((h1 2 (by omega) 11).trans hkp) ?_
  refine r_ic hP c95_48 ?_
  refine r_iadd hP c95_49 ?_
  refine r_ti (y := 1) (by decide) ?_
  refine r_pI hP c95_50 (zj2 hK) ?_
  refine r_al hP c95_53 rfl ?_
  refine r_gI (x := 1) hP c95_54 (zj2 hK) (zup_s _ _ _ _) ?_
  exact r_irE hP c95_57 (h _ (fun x j a b => (zup_n _ _ _ _ b).trans (h1 x a j)) (zAn_to h2 (fun x a b j => zup_n _ _ _ _ (by omega))) (zup_s _ _ _ _)) rfl
set_option maxRecDepth 4000 in
theorem x_keep1 {K : ZKh} {P : Nat → Nat → List Value → List Value → ZMi → ZMl → ZMr → ZRt → Prop} {I : ZMi} {L : ZMl} {R : ZMr} {Q : ZRt} (hP : ZCl K P) (hK : zKa K) (hR : zRa R) {na : Nat} {A : ZA} (hA : zAn I 16 na A) (hn10 : na ≤ 10) (hkp : I 2 11 = 1) (h : ∀ I2, (∀ x j, ¬ (26 ≤ x ∧ x ≤ 26 + 4) → ¬ (x = 2 ∧ j = 11) → I2 x j = I x j) → zAn I2 26 na A → I2 2 11 = 2 → Q (some (.int 2)) I2 L R) : P 95 0 [.ref 2] [] I L R Q := by
  refine r_al hP c95_0 rfl ?_
  refine r_gI (x := 1) hP c95_1 (zj2 hK) hkp ?_
  refine r_ic hP c95_4 ?_
  refine r_ilt hP c95_5 (fun h5 => ?_) (fun h5 => absurd h5 (not_not_intro (by decide)))
  refine r_al hP c95_11 rfl ?_
  refine r_gI (x := 1) hP c95_12 (zj2 hK) hkp ?_
  refine r_ifne hP c95_15 (fun h15 => ?_) (fun h15 => absurd h15 (by decide))
  refine r_al hP c95_32 rfl ?_
  refine r_gR (x := 26) hP c95_33 (zj2 hK) (zr2_5 hR) ?_
  refine r_al hP c95_36 rfl ?_
  refine r_gR (x := 16) hP c95_37 (zj2 hK) (zr2_3 hR) ?_
  refine r_cVvp (as := [.ref 16]) (r := []) (a := 26) hP c95_40 rfl (zj26 hK) rfl (fun I2 L2 R2 => (zfA 26 I I2 ∧ zAn I2 26 na A) ∧ L = L2 ∧ R = R2) (fun Q2 hq => x_acopy hP hK hR (by unfold zisA; omega) (by unfold zisA; omega) (by decide) hA hn10 (fun I2 h1 h2 => hq I2 L R ⟨⟨h1, h2⟩, rfl, rfl⟩)) ?_
  rintro I2 L2 R2 ⟨⟨h1, h2⟩, rfl, rfl⟩
  refine r_al hP c95_43 rfl ?_
  refine r_dup hP c95_44 rfl ?_
  refine r_gI (x := 1) hP c95_45 (zj2 hK) ((h1 2 (by omega) 11).trans hkp) ?_
  refine r_ic hP c95_48 ?_
  refine r_iadd hP c95_49 ?_
  refine r_ti (y := 2) (by decide) ?_
  refine r_pI hP c95_50 (zj2 hK) ?_
  refine r_al hP c95_53 rfl ?_
  refine r_gI (x := 2) hP c95_54 (zj2 hK) (zup_s _ _ _ _) ?_
  exact r_irE hP c95_57 (h _ (fun x j a b => (zup_n _ _ _ _ b).trans (h1 x a j)) (zAn_to h2 (fun x a b j => zup_n _ _ _ _ (by omega))) (zup_s _ _ _ _)) rfl
set_option maxRecDepth 4000 in
theorem x_back0 {K : ZKh} {P : Nat → Nat → List Value → List Value → ZMi → ZMl → ZMr → ZRt → Prop} {I : ZMi} {L : ZMl} {R : ZMr} {Q : ZRt} (hP : ZCl K P) (hK : zKa K) (hR : zRa R) (hkp : I 2 11 = 0) (h : Q (some (.int (-2))) I L R) : P 96 0 [.ref 2] [] I L R Q := by
  refine r_al hP c96_0 rfl ?_
  refine r_gI (x := 0) hP c96_1 (zj2 hK) hkp ?_
  refine r_ifgt hP c96_4 (fun h4 => absurd h4 (by decide)) (fun h4 => ?_)
  refine r_ic hP c96_7 ?_
  exact r_irE hP c96_9 h (by rfl)
set_option maxRecDepth 4000 in
theorem x_back1 {K : ZKh} {P : Nat → Nat → List Value → List Value → ZMi → ZMl → ZMr → ZRt → Prop} {I : ZMi} {L : ZMl} {R : ZMr} {Q : ZRt} (hP : ZCl K P) {w nS nP nW : Nat} {S : ZS} (hK : zKa K) (hR : zRa R) (hw : zisW w) (hC : zC I w S nS nP nW) (hp8 : nP ≤ 8) (hs6 : nS ≤ 6) (hw6 : nW ≤ 6) (hs1 : 1 ≤ nS) (hp1 : 1 ≤ nP) (hsg : ∀ p, p < nP → ∃ a, a < nS ∧ S 3 p 0 = nI a) (hl9 : R 2 9 = w + 1) {n1 : Nat} {A1 : ZA} (hA1 : zAn I 21 n1 A1) (hAo1 : zAo nS nP n1 A1) (hn1 : n1 ≤ 10) (hkp : I 2 11 = 1) (h : ∀ I2 L2, zfB I I2 → zfl_ L L2 → zAn I2 16 n1 A1 → I2 2 11 = 0 → zCs I2 L2 S nP (zps S nS nP A1 n1) → Q (some (.int 0)) I2 L2 R) : P 96 0 [.ref 2] [] I L R Q := by
  refine r_al hP c96_0 rfl ?_
  refine r_gI (x := 1) hP c96_1 (zj2 hK) hkp ?_
  refine r_ifgt hP c96_4 (fun h4 => ?_) (fun h4 => absurd h4 (not_not_intro (by decide)))
  refine r_al hP c96_10 rfl ?_
  refine r_dup hP c96_11 rfl ?_
  refine r_gI (x := 1) hP c96_12 (zj2 hK) hkp ?_
  refine r_ic hP c96_15 ?_
  refine r_isub hP c96_16 ?_
  refine r_ti (y := 0) (by decide) ?_
  refine r_pI hP c96_17 (zj2 hK) ?_
  refine r_al hP c96_20 rfl ?_
  refine r_gR (x := 16) hP c96_21 (zj2 hK) (zr2_3 hR) ?_
  refine r_al hP c96_24 rfl ?_
  refine r_gI (x := 0) hP c96_25 (zj2 hK) (zup_s _ _ _ _) ?_
  refine r_ifne hP c96_28 (fun h28 => absurd h28 (not_not_intro rfl)) (fun h28 => ?_)
  refine r_al hP c96_31 rfl ?_
  refine r_gR (x := 21) hP c96_32 (zj2 hK) (zr2_4 hR) ?_
  refine r_goto hP c96_35 ?_
  refine r_cVvp (as := [.ref 21]) (r := []) (a := 16) hP c96_42 rfl (zj16 hK) rfl (fun I1 L2 R2 => (zfA 16 (zup I 2 11 0) I1 ∧ zAn I1 16 n1 A1) ∧ L = L2 ∧ R = R2) (fun Q2 hq => x_acopy hP hK hR (by unfold zisA; omega) (by unfold zisA; omega) (by decide) (zAn_to hA1 (fun x a b j => zup_n _ _ _ _ (by omega))) hn1 (fun I2 h1 h2 => hq I2 L R ⟨⟨h1, h2⟩, rfl, rfl⟩)) ?_
  rintro I1 L2 R2 ⟨⟨h1, h2⟩, rfl, rfl⟩
  refine r_al hP c96_45 rfl ?_
  refine r_cVvp (as := []) (r := []) (a := 2) hP c96_46 rfl (zj2 hK) rfl (fun I2 L2 R2 => (zfc I1 I2 ∧ zfl_ L L2 ∧ zCs I2 L2 S nP (zps S nS nP A1 n1)) ∧ R = R2) (fun Q2 hq => x_weigh hP hK hR hw (zC_fB hC (zfB_t (zfB_k I 0) (zfB_A h1)) hw hs6 hp8 hw6) hp8 hs6 hw6 hs1 hsg hl9 h2 hAo1 (by omega) (fun I2 L2 a b c => hq I2 L2 R ⟨⟨a, b, c⟩, rfl⟩)) ?_
  rintro I2 L2 R2 ⟨⟨ha, hb, hc⟩, rfl⟩
  refine r_al hP c96_49 rfl ?_
  refine r_gI (x := 0) hP c96_50 (zj2 hK) ((ha 2 (by omega) (by omega) (by omega) 11).trans ((h1 2 (by omega) 11).trans (zup_s _ _ _ _))) ?_
  exact r_irE hP c96_53 (h _ _ (zfB_t (zfB_t (zfB_k I 0) (zfB_A h1)) (zfB_c ha)) hb (zAn_fc h2 ha) ((ha 2 (by omega) (by omega) (by omega) 11).trans ((h1 2 (by omega) 11).trans (zup_s _ _ _ _))) hc) rfl
set_option maxRecDepth 4000 in
theorem x_back2 {K : ZKh} {P : Nat → Nat → List Value → List Value → ZMi → ZMl → ZMr → ZRt → Prop} {I : ZMi} {L : ZMl} {R : ZMr} {Q : ZRt} (hP : ZCl K P) {w nS nP nW : Nat} {S : ZS} (hK : zKa K) (hR : zRa R) (hw : zisW w) (hC : zC I w S nS nP nW) (hp8 : nP ≤ 8) (hs6 : nS ≤ 6) (hw6 : nW ≤ 6) (hs1 : 1 ≤ nS) (hp1 : 1 ≤ nP) (hsg : ∀ p, p < nP → ∃ a, a < nS ∧ S 3 p 0 = nI a) (hl9 : R 2 9 = w + 1) {n1 : Nat} {A1 : ZA} (hA1 : zAn I 26 n1 A1) (hAo1 : zAo nS nP n1 A1) (hn1 : n1 ≤ 10) (hkp : I 2 11 = 2) (h : ∀ I2 L2, zfB I I2 → zfl_ L L2 → zAn I2 16 n1 A1 → I2 2 11 = 1 → zCs I2 L2 S nP (zps S nS nP A1 n1) → Q (some (.int 1)) I2 L2 R) : P 96 0 [.ref 2] [] I L R Q := by
  refine r_al hP c96_0 rfl ?_
  refine r_gI (x := 2) hP c96_1 (zj2 hK) hkp ?_
  refine r_ifgt hP c96_4 (fun h4 => ?_) (fun h4 => absurd h4 (not_not_intro (by decide)))
  refine r_al hP c96_10 rfl ?_
  refine r_dup hP c96_11 rfl ?_
  refine r_gI (x := 2) hP c96_12 (zj2 hK) hkp ?_
  refine r_ic hP c96_15 ?_
  refine r_isub hP c96_16 ?_
  refine r_ti (y := 1) (by decide) ?_
  refine r_pI hP c96_17 (zj2 hK) ?_
  refine r_al hP c96_20 rfl ?_
  refine r_gR (x := 16) hP c96_21 (zj2 hK) (zr2_3 hR) ?_
  refine r_al hP c96_24 rfl ?_
  refine r_gI (x := 1) hP c96_25 (zj2 hK) (zup_s _ _ _ _) ?_
  refine r_ifne hP c96_28 (fun h28 => ?_) (fun h28 => absurd h28 (by decide))
  refine r_al hP c96_38 rfl ?_
  refine r_gR (x := 26) hP c96_39 (zj2 hK) (zr2_5 hR) ?_
  refine r_cVvp (as := [.ref 26]) (r := []) (a := 16) hP c96_42 rfl (zj16 hK) rfl (fun I1 L2 R2 => (zfA 16 (zup I 2 11 1) I1 ∧ zAn I1 16 n1 A1) ∧ L = L2 ∧ R = R2) (fun Q2 hq => x_acopy hP hK hR (by unfold zisA; omega) (by unfold zisA; omega) (by decide) (zAn_to hA1 (fun x a b j => zup_n _ _ _ _ (by omega))) hn1 (fun I2 h1 h2 => hq I2 L R ⟨⟨h1, h2⟩, rfl, rfl⟩)) ?_
  rintro I1 L2 R2 ⟨⟨h1, h2⟩, rfl, rfl⟩
  refine r_al hP c96_45 rfl ?_
  refine r_cVvp (as := []) (r := []) (a := 2) hP c96_46 rfl (zj2 hK) rfl (fun I2 L2 R2 => (zfc I1 I2 ∧ zfl_ L L2 ∧ zCs I2 L2 S nP (zps S nS nP A1 n1)) ∧ R = R2) (fun Q2 hq => x_weigh hP hK hR hw (zC_fB hC (zfB_t (zfB_k I 1) (zfB_A h1)) hw hs6 hp8 hw6) hp8 hs6 hw6 hs1 hsg hl9 h2 hAo1 (by omega) (fun I2 L2 a b c => hq I2 L2 R ⟨⟨a, b, c⟩, rfl⟩)) ?_
  rintro I2 L2 R2 ⟨⟨ha, hb, hc⟩, rfl⟩
  refine r_al hP c96_49 rfl ?_
  refine r_gI (x := 1) hP c96_50 (zj2 hK) ((ha 2 (by omega) (by omega) (by omega) 11).trans ((h1 2 (by omega) 11).trans (zup_s _ _ _ _))) ?_
  exact r_irE hP c96_53 (h _ _ (zfB_t (zfB_t (zfB_k I 1) (zfB_A h1)) (zfB_c ha)) hb (zAn_fc h2 ha) ((ha 2 (by omega) (by omega) (by omega) 11).trans ((h1 2 (by omega) 11).trans (zup_s _ _ _ _))) hc) rfl
