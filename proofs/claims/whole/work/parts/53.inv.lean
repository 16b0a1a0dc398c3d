/-! ===== the law's invariant, and what each public call does to it ===== -/
def zfD (I I' : ZMi) : Prop := ∀ x j, ¬ (9 ≤ x ∧ x ≤ 20) → x ≠ 31 → x ≠ 32 → I' x j = I x j
theorem zfD_r (I : ZMi) : zfD I I := fun _ _ _ _ _ => rfl
theorem zfD_c {I I' : ZMi} (h : zfc I I') : zfD I I' := fun x j h1 h2 h3 => h x (by omega) h2 h3 j
theorem zfD_A {I I' : ZMi} (h : zfA 16 I I') : zfD I I' := fun x j h1 h2 h3 => h x (by omega) j
theorem zfD_t {I I' I2 : ZMi} (h : zfD I I') (h2 : zfD I' I2) : zfD I I2 := fun x j a b c => (h2 x j a b c).trans (h x j a b c)
theorem zC_fD {I I' : ZMi} {w : Nat} {S : ZS} {nS nP nW : Nat} (h : zC I w S nS nP nW) (hf : zfD I I') (hw : zisW w) (hs6 : nS ≤ 6) (hp8 : nP ≤ 8) (hw6 : nW ≤ 6) : zC I' w S nS nP nW := zC_to h (fun a h1 h2 k => hf a k (by have := zW39 hw; omega) (by have := zW39 hw; omega) (by have := zW39 hw; omega)) hs6 hp8 hw6
set_option maxRecDepth 4000 in
theorem x_answer2 {K : ZKh} {P : Nat → Nat → List Value → List Value → ZMi → ZMl → ZMr → ZRt → Prop} {I : ZMi} {L : ZMl} {R : ZMr} {Q : ZRt} (hP : ZCl K P) {w nS nP nW : Nat} {S : ZS} (hK : zKa K) (hR : zRa R) (hw : zisW w) (hC : zC I w S nS nP nW) (hp8 : nP ≤ 8) (hs6 : nS ≤ 6) (hw6 : nW ≤ 6) (hs1 : 1 ≤ nS) (hp1 : 1 ≤ nP) (hsg : ∀ p, p < nP → ∃ a, a < nS ∧ S 3 p 0 = nI a) (hl9 : R 2 9 = w + 1) {na : Nat} {A : ZA} (hA : zAn I 16 na A) (hAo : zAo nS nP na A) (hn10 : na ≤ 10) {k0 o0 m a0 : Int32} (hcs : zCs I L S nP (zps S nS nP A na)) (h : ∀ I2 L2, zfD I I2 → zfl_ L L2 → zAn I2 16 (zan nS nP na k0 o0 m a0) (zaA nS nP na A k0 o0 m a0) → zCs I2 L2 S nP (zps S nS nP (zaA nS nP na A k0 o0 m a0) (zan nS nP na k0 o0 m a0)) → Q (some (.int (f_answer nS nP na k0 o0 m a0))) I2 L2 R) : P 82 0 [.ref 2, .int k0, .int o0, .int m, .int a0] [] I L R Q := by
  have hp256 := zp256 hp8
  have hw39 := zW39 hw
  refine r_al hP c82_0 rfl ?_
  refine r_gR (x := w) hP c82_1 (zj2 hK) hl9 ?_
  refine r_il hP c82_4 rfl ?_
  refine r_il hP c82_5 rfl ?_
  refine r_cVi (as := [.int k0, .int o0]) (r := []) (I' := I) (L' := L) (R' := R) (x := if (0 ≤ k0 ∧ k0 ≤ 4) ∧ zr o0 (zak k0 nS nP) then 1 else 0) (a := w) hP c82_6 rfl (zj_W hK hw) rfl (fun _ hq => x_hasAsk hP hK hR hw hC hp8 hs6 hw6 hq) ?_
  refine r_ifeqB hP c82_9 (fun h9 => ?_) (fun h9 => ?_)
  · refine r_ic hP c82_30 ?_
    first
      | (have hc : ¬ zac nS nP na k0 o0 m a0 := fun q => h9 q.1.1
         exact r_irE hP c82_31 (h _ _ (zfD_r I) (zfl_r L) (by rw [zan, zaA, if_neg hc, if_neg hc]; exact hA) (by rw [zan, zaA, if_neg hc, if_neg hc]; exact hcs)) (by rw [f_answer, if_neg (fun q => h9 q.1)]))
      | (have hc : ¬ zac nS nP na k0 o0 m a0 := fun q => h16 q.1.2.1
         exact r_irE hP c82_31 (h _ _ (zfD_r I) (zfl_r L) (by rw [zan, zaA, if_neg hc, if_neg hc]; exact hA) (by rw [zan, zaA, if_neg hc, if_neg hc]; exact hcs)) (by rw [f_answer, if_neg (fun q => h16 q.2.1)]))
      | (have hc : ¬ zac nS nP na k0 o0 m a0 := fun q => h27 q.1.2.2
         exact r_irE hP c82_31 (h _ _ (zfD_r I) (zfl_r L) (by rw [zan, zaA, if_neg hc, if_neg hc]; exact hA) (by rw [zan, zaA, if_neg hc, if_neg hc]; exact hcs)) (by rw [f_answer, if_neg (fun q => h27 q.2.2)]))
  · refine r_il hP c82_12 rfl ?_
    refine r_cSi (as := [.int m]) (r := []) (I' := I) (L' := L) (R' := R) (x := if 0 ≤ m ∧ m ≤ 30 then 1 else 0) hP c82_13 rfl rfl (fun _ h2 => x_isMinute hP h2) ?_
    refine r_ifeqB hP c82_16 (fun h16 => ?_) (fun h16 => ?_)
    · refine r_ic hP c82_30 ?_
      first
        | (have hc : ¬ zac nS nP na k0 o0 m a0 := fun q => h9 q.1.1
           exact r_irE hP c82_31 (h _ _ (zfD_r I) (zfl_r L) (by rw [zan, zaA, if_neg hc, if_neg hc]; exact hA) (by rw [zan, zaA, if_neg hc, if_neg hc]; exact hcs)) (by rw [f_answer, if_neg (fun q => h9 q.1)]))
        | (have hc : ¬ zac nS nP na k0 o0 m a0 := fun q => h16 q.1.2.1
           exact r_irE hP c82_31 (h _ _ (zfD_r I) (zfl_r L) (by rw [zan, zaA, if_neg hc, if_neg hc]; exact hA) (by rw [zan, zaA, if_neg hc, if_neg hc]; exact hcs)) (by rw [f_answer, if_neg (fun q => h16 q.2.1)]))
        | (have hc : ¬ zac nS nP na k0 o0 m a0 := fun q => h27 q.1.2.2
           exact r_irE hP c82_31 (h _ _ (zfD_r I) (zfl_r L) (by rw [zan, zaA, if_neg hc, if_neg hc]; exact hA) (by rw [zan, zaA, if_neg hc, if_neg hc]; exact hcs)) (by rw [f_answer, if_neg (fun q => h27 q.2.2)]))
    · refine r_il hP c82_19 rfl ?_
      refine r_ic hP c82_21 ?_
      refine r_ic hP c82_22 ?_
      refine r_cSi (as := [.int a0, .int 0, .int 9]) (r := []) (I' := I) (L' := L) (R' := R) (x := if 0 ≤ a0 ∧ a0 ≤ 9 then 1 else 0) hP c82_24 rfl rfl (fun _ h2 => x_within hP h2) ?_
      refine r_ifneB hP c82_27 (fun h27 => ?_) (fun h27 => ?_)
      · obtain ⟨j, hj, rfl⟩ := (zr_iff (by have := zak_b (x := k0) hs6 hp8; omega)).mp h9.2
        obtain ⟨k, hk4, rfl⟩ := zb_nI (n := 4) rfl (by decide) h9.1
        have hk : k < 5 := by omega
        have hjb := zak_b (x := nI k) hs6 hp8
        refine r_al hP c82_32 rfl ?_
        refine r_gR (x := 16) hP c82_33 (zj2 hK) (zr2_3 hR) ?_
        refine r_gI (x := nI na) hP c82_36 (zj16 hK) hA.1 ?_
        refine r_ic hP c82_39 ?_
        refine r_ilt hP c82_41 (fun h41 => ?_) (fun h41 => ?_)
        · have hlt : na < 10 := (nI_ltI (b := 10) (by omega) (by decide)).mp h41
          refine r_al hP c82_47 rfl ?_
          refine r_gR (x := 16) hP c82_48 (zj2 hK) (zr2_3 hR) ?_
          refine r_il hP c82_51 rfl ?_
          refine r_il hP c82_52 rfl ?_
          refine r_il hP c82_53 rfl ?_
          refine r_il hP c82_54 rfl ?_
          refine r_cVvp (as := [.int (nI k), .int (nI j), .int m, .int a0]) (r := []) (a := 16) hP c82_56 rfl (zj16 hK) rfl (fun I2 L2 R2 => (zfA 16 I I2 ∧ zAn I2 16 (na + 1) (zAs A na (k, j, m, a0))) ∧ L = L2 ∧ R = R2) (fun Q2 hq => x_aadd hP hK hR (Or.inl rfl) hA hlt (k, j, m, a0) (fun I2 h1 h2 => hq I2 L R ⟨⟨h1, h2⟩, rfl, rfl⟩)) ?_
          rintro I2 L2 R2 ⟨⟨h1, h2⟩, rfl, rfl⟩
          refine r_al hP c82_59 rfl ?_
          refine r_gR (x := 31) hP c82_60 (zj2 hK) (zr2_6 hR) ?_
          refine r_al hP c82_63 rfl ?_
          refine r_gR (x := w) hP c82_64 (zj2 hK) hl9 ?_
          refine r_al hP c82_67 rfl ?_
          refine r_gR (x := 7) hP c82_68 (zj2 hK) (zr2_2 hR) ?_
          refine r_al hP c82_71 rfl ?_
          refine r_gR (x := 16) hP c82_72 (zj2 hK) (zr2_3 hR) ?_
          refine r_al hP c82_75 rfl ?_
          refine r_gR (x := 16) hP c82_76 (zj2 hK) (zr2_3 hR) ?_
          refine r_gI (x := nI (na + 1)) hP c82_79 (zj16 hK) h2.1 ?_
          refine r_ic hP c82_82 ?_
          refine r_isub hP c82_83 ?_
          refine r_ti (y := nI na) (nI_pred _) ?_
          refine r_cVvp (as := [.ref w, .ref 7, .ref 16, .int (nI na)]) (r := []) (a := 31) hP c82_84 rfl (zj31 hK) rfl (fun I3 L3 R2 => (zfc I2 I3 ∧ zfl_ L L3 ∧ zCs I3 L3 S nP (zps S nS nP (zAs A na (k, j, m, a0)) (na + 1))) ∧ R = R2) (fun Q2 hq => x_narrow hP hK hR hw (zC_fD hC (zfD_A h1) hw hs6 hp8 hw6) hp8 hs6 hw6 hs1 hsg h2 (zAo_add hAo hk hj) (Nat.lt_succ_self na) hlt (zok_ps S nS hp8 A na) (zCs_to hcs (fun k => h1 31 (by omega) k) (fun k => h1 32 (by omega) k) (fun _ => rfl) (fun _ => rfl)) (fun I2 L2 a b c => hq I2 L2 R ⟨⟨a, b, by rw [zps_add]; exact c⟩, rfl⟩)) ?_
          rintro I3 L3 R2 ⟨⟨ha, hb, hc2⟩, rfl⟩
          refine r_al hP c82_87 rfl ?_
          refine r_gR (x := 16) hP c82_88 (zj2 hK) (zr2_3 hR) ?_
          refine r_gI (x := nI (na + 1)) hP c82_91 (zj16 hK) (zAn_fc h2 ha).1 ?_
          have hc : zac nS nP na (nI k) (nI j) m a0 := ⟨⟨h9, h16, h27⟩, hlt⟩
          exact r_irE hP c82_94 (h _ _ (zfD_t (zfD_A h1) (zfD_c ha)) hb (by rw [zan, zaA, if_pos hc, if_pos hc, nI_clamp (by omega), nI_clamp (by omega)]; exact zAn_fc h2 ha) (by rw [zan, zaA, if_pos hc, if_pos hc, nI_clamp (by omega), nI_clamp (by omega)]; exact hc2)) (by rw [f_answer, if_pos ⟨h9, h16, h27⟩, if_pos hlt])
        · have hlt : ¬ na < 10 := fun q => h41 (nI_lt (b := 10) q (by decide))
          refine r_ic hP c82_44 ?_
          have hc : ¬ zac nS nP na (nI k) (nI j) m a0 := fun q => hlt q.2
          exact r_irE hP c82_46 (h _ _ (zfD_r I) (zfl_r L) (by rw [zan, zaA, if_neg hc, if_neg hc]; exact hA) (by rw [zan, zaA, if_neg hc, if_neg hc]; exact hcs)) (by rw [f_answer, if_pos ⟨h9, h16, h27⟩, if_neg hlt])
      · refine r_ic hP c82_30 ?_
        first
          | (have hc : ¬ zac nS nP na k0 o0 m a0 := fun q => h9 q.1.1
             exact r_irE hP c82_31 (h _ _ (zfD_r I) (zfl_r L) (by rw [zan, zaA, if_neg hc, if_neg hc]; exact hA) (by rw [zan, zaA, if_neg hc, if_neg hc]; exact hcs)) (by rw [f_answer, if_neg (fun q => h9 q.1)]))
          | (have hc : ¬ zac nS nP na k0 o0 m a0 := fun q => h16 q.1.2.1
             exact r_irE hP c82_31 (h _ _ (zfD_r I) (zfl_r L) (by rw [zan, zaA, if_neg hc, if_neg hc]; exact hA) (by rw [zan, zaA, if_neg hc, if_neg hc]; exact hcs)) (by rw [f_answer, if_neg (fun q => h16 q.2.1)]))
          | (have hc : ¬ zac nS nP na k0 o0 m a0 := fun q => h27 q.1.2.2
             exact r_irE hP c82_31 (h _ _ (zfD_r I) (zfl_r L) (by rw [zan, zaA, if_neg hc, if_neg hc]; exact hA) (by rw [zan, zaA, if_neg hc, if_neg hc]; exact hcs)) (by rw [f_answer, if_neg (fun q => h27 q.2.2)]))
set_option maxRecDepth 4000 in
theorem x_forget2 {K : ZKh} {P : Nat → Nat → List Value → List Value → ZMi → ZMl → ZMr → ZRt → Prop} {I : ZMi} {L : ZMl} {R : ZMr} {Q : ZRt} (hP : ZCl K P) {w nS nP nW : Nat} {S : ZS} (hK : zKa K) (hR : zRa R) (hw : zisW w) (hC : zC I w S nS nP nW) (hp8 : nP ≤ 8) (hs6 : nS ≤ 6) (hw6 : nW ≤ 6) (hs1 : 1 ≤ nS) (hp1 : 1 ≤ nP) (hsg : ∀ p, p < nP → ∃ a, a < nS ∧ S 3 p 0 = nI a) (hl9 : R 2 9 = w + 1) {na : Nat} {A : ZA} (hA : zAn I 16 na A) (hAo : zAo nS nP na A) (hn10 : na ≤ 10) (h : ∀ I2 L2, zfD I I2 → zfl_ L L2 → zAn I2 16 0 A → zCs I2 L2 S nP (zps S nS nP A 0) → Q (some (.int (nI na))) I2 L2 R) : P 83 0 [.ref 2, .null] [] I L R Q := by
  refine r_al hP c83_0 rfl ?_
  refine r_gR (x := 16) hP c83_1 (zj2 hK) (zr2_3 hR) ?_
  refine r_gI (x := nI na) hP c83_4 (zj16 hK) hA.1 ?_
  refine r_is (ls' := [.ref 2, .int (nI na)]) hP c83_7 (Nat.le_of_ble_eq_true rfl) rfl ?_
  refine r_al hP c83_8 rfl ?_
  refine r_gR (x := 16) hP c83_9 (zj2 hK) (zr2_3 hR) ?_
  refine r_ic hP c83_12 ?_
  refine r_pI hP c83_13 (zj16 hK) ?_
  refine r_al hP c83_16 rfl ?_
  refine r_cVvp (as := []) (r := []) (a := 2) hP c83_17 rfl (zj2 hK) rfl (fun I2 L2 R2 => (zfc (zup I 16 4 0) I2 ∧ zfl_ L L2 ∧ zCs I2 L2 S nP (zps S nS nP A 0)) ∧ R = R2) (fun Q2 hq => x_weigh hP hK hR hw (zC_fD hC (fun x j h1 _ _ => zup_n _ _ _ _ (by omega)) hw hs6 hp8 hw6) hp8 hs6 hw6 hs1 hsg hl9 (⟨zup_s _ _ _ _, fun i hi => absurd hi (Nat.not_lt_zero i)⟩ : zAn (zup I 16 4 0) 16 0 A) (fun i hi => absurd hi (Nat.not_lt_zero i)) (by omega) (fun I2 L2 a b c => hq I2 L2 R ⟨⟨a, b, c⟩, rfl⟩)) ?_
  rintro I2 L2 R2 ⟨⟨ha, hb, hc⟩, rfl⟩
  refine r_il hP c83_20 rfl ?_
  exact r_irE hP c83_21 (h _ _ (zfD_t (fun x j h1 _ _ => zup_n _ _ _ _ (by omega)) (zfD_c ha)) hb (zAn_fc (⟨zup_s _ _ _ _, fun i hi => absurd hi (Nat.not_lt_zero i)⟩ : zAn (zup I 16 4 0) 16 0 A) ha) hc) rfl
def zCI (I : ZMi) (L : ZMl) (w : Nat) (S : ZS) (nS nP nW len : Nat) (T : Nat → Nat) (na : Nat) (A : ZA) (kp n1 : Nat) (A1 : ZA) (n2 : Nat) (A2 : ZA) : Prop := zC I w S nS nP nW ∧ zQt I S nS nP (2 ^ nP) ∧ zCs I L S nP (zps S nS nP A na) ∧ zAn I 16 na A ∧ zTx I len T ∧ I 2 11 = nI kp ∧ (1 ≤ kp → zAn I 21 n1 A1) ∧ (2 ≤ kp → zAn I 26 n2 A2)
def zMI (I : ZMi) (S : ZS) (nS nP nW len : Nat) (T : Nat → Nat) (na : Nat) (A : ZA) (kp n1 : Nat) (A1 : ZA) (n2 : Nat) (A2 : ZA) : Prop := zD I 0 S nS nP nW ∧ zAm I na A ∧ zTm I len T ∧ I 119 29 = nI kp ∧ (1 ≤ kp → zAmb I 1 n1 A1) ∧ (2 ≤ kp → zAmb I 2 n2 A2)
def zPI (S : ZS) (nS nP nW len : Nat) (T : Nat → Nat) (na : Nat) (A : ZA) (kp n1 : Nat) (A1 : ZA) (n2 : Nat) (A2 : ZA) : Prop := zSr S nS nP nW 300 800 ∧ (1 ≤ nS ∧ nS ≤ 6) ∧ (1 ≤ nP ∧ nP ≤ 8) ∧ nW ≤ 6 ∧ len ≤ 400 ∧ (∀ i, T i < 256) ∧ (na ≤ 10 ∧ zAo nS nP na A) ∧ kp ≤ 2 ∧ (1 ≤ kp → n1 ≤ 10 ∧ zAo nS nP n1 A1) ∧ (2 ≤ kp → n2 ≤ 10 ∧ zAo nS nP n2 A2)
def zRI (R : ZMr) (w v : Nat) : Prop := zRa R ∧ zRb R ∧ R 2 9 = w + 1 ∧ R 2 10 = v + 1 ∧ zisW w ∧ zisW v ∧ w ≠ v
def zfE (I I' : ZMi) : Prop := ∀ a k, (a < 2 ∨ 119 ≤ a) → I' a k = I a k
def zfM {α : Type} (f g : Nat → Nat → α) : Prop := ∀ a k, a < 119 → g a k = f a k
theorem zCI_to {I I' : ZMi} {L L' : ZMl} {w : Nat} {S : ZS} {nS nP nW len na kp n1 n2 : Nat} {T : Nat → Nat} {A A1 A2 : ZA} (h : zCI I L w S nS nP nW len T na A kp n1 A1 n2 A2) (hs6 : nS ≤ 6) (hp8 : nP ≤ 8) (hw6 : nW ≤ 6) (h1 : ∀ a k, ((a = 2 ∧ k = 11) ∨ a = 3 ∨ a = 4 ∨ (16 ≤ a ∧ a ≤ 32) ∨ a = 37 ∨ (w ≤ a ∧ a < w + 40)) → I' a k = I a k) (h2 : ∀ a k, (a = 31 ∨ a = 33) → L' a k = L a k) : zCI I' L' w S nS nP nW len T na A kp n1 A1 n2 A2 := by
  obtain ⟨c1, c2, c3, c4, c5, c6, c7, c8⟩ := h
  exact ⟨zC_to c1 (fun a q1 q2 k => h1 a k (by omega)) hs6 hp8 hw6, zQt_fr c2 (fun k => h1 37 k (by omega)), zCs_to c3 (fun k => h1 31 k (by omega)) (fun k => h1 32 k (by omega)) (fun k => h2 31 k (by omega)) (fun k => h2 33 k (by omega)), zAn_to c4 (fun x q1 q2 j => h1 x j (by omega)), zTx_to c5 (h1 3 1 (by omega)) (fun k => h1 4 k (by omega)), (h1 2 11 (by omega)).trans c6, fun q => zAn_to (c7 q) (fun x q1 q2 j => h1 x j (by omega)), fun q => zAn_to (c8 q) (fun x q1 q2 j => h1 x j (by omega))⟩
theorem zCI_M {I I' : ZMi} {L L' : ZMl} {w : Nat} {S : ZS} {nS nP nW len na kp n1 n2 : Nat} {T : Nat → Nat} {A A1 A2 : ZA} (h : zCI I L w S nS nP nW len T na A kp n1 A1 n2 A2) (hw : zisW w) (hp : zPI S nS nP nW len T na A kp n1 A1 n2 A2) (h1 : zfM I I') (h2 : zfM L L') : zCI I' L' w S nS nP nW len T na A kp n1 A1 n2 A2 :=
  zCI_to h hp.2.1.2 hp.2.2.1.2 hp.2.2.2.1 (fun a k q => h1 a k (by have := zW39 hw; omega)) (fun a k q => h2 a k (by omega))
theorem zMI_mk {I I' : ZMi} {S : ZS} {nS nP nW len na kp n1 n2 : Nat} {T : Nat → Nat} {A A1 A2 : ZA} (h : zMI I S nS nP nW len T na A kp n1 A1 n2 A2) (hp : zPI S nS nP nW len T na A kp n1 A1 n2 A2) (hD : zD I' 0 S nS nP nW) (h1 : ∀ a k, ((a = 119 ∧ (k = 0 ∨ k = 29)) ∨ a = 120 ∨ (143 ≤ a ∧ a ≤ 147)) → I' a k = I a k) : zMI I' S nS nP nW len T na A kp n1 A1 n2 A2 := by
  obtain ⟨d1, d2, d3, d4, d5, d6⟩ := h
  obtain ⟨-, -, -, -, -, -, ⟨hn, -⟩, -, hn1, hn2⟩ := hp
  exact ⟨hD, zAmb_0.mp (zAmb_to (zAmb_0.mpr d2) hn (h1 143 0 (by omega)) (fun x j q1 q2 _ _ => h1 x j (by omega))), zTm_to d3 (h1 119 0 (by omega)) (fun k => h1 120 k (by omega)), (h1 119 29 (by omega)).trans d4, fun q => zAmb_to (d5 q) (hn1 q).1 (h1 143 1 (by omega)) (fun x j q1 q2 _ _ => h1 x j (by omega)), fun q => zAmb_to (d6 q) (hn2 q).1 (h1 143 2 (by omega)) (fun x j q1 q2 _ _ => h1 x j (by omega))⟩
theorem zMI_to {I I' : ZMi} {S : ZS} {nS nP nW len na kp n1 n2 : Nat} {T : Nat → Nat} {A A1 A2 : ZA} (h : zMI I S nS nP nW len T na A kp n1 A1 n2 A2) (hp : zPI S nS nP nW len T na A kp n1 A1 n2 A2) (h1 : ∀ a k, ((a = 119 ∧ (k = 0 ∨ k = 29)) ∨ (120 ≤ a ∧ a ≤ 147)) → I' a k = I a k) : zMI I' S nS nP nW len T na A kp n1 A1 n2 A2 :=
  zMI_mk h hp (zD_to h.1 (fun a q1 q2 k => h1 a k (by omega))) (fun a k q => h1 a k (by omega))
theorem zMI_E {I I' : ZMi} {S : ZS} {nS nP nW len na kp n1 n2 : Nat} {T : Nat → Nat} {A A1 A2 : ZA} (h : zMI I S nS nP nW len T na A kp n1 A1 n2 A2) (hp : zPI S nS nP nW len T na A kp n1 A1 n2 A2) (h1 : ∀ a k, 119 ≤ a → I' a k = I a k) : zMI I' S nS nP nW len T na A kp n1 A1 n2 A2 := zMI_to h hp (fun a k q => h1 a k (by omega))
theorem zD_fV {I I' : ZMi} {S : ZS} {nS nP nW : Nat} (h : zD I 0 S nS nP nW) (hf : zfV I I') (hs6 : nS ≤ 6) (hp8 : nP ≤ 8) (hw6 : nW ≤ 6) : zD I' 0 S nS nP nW := by
  have hz : ∀ a k z, zbk a = z → 121 ≤ a → a ≤ 142 → k < z → I' a k = I a k := fun a k z h0 h1 h2 h3 => hf a k (by omega) (by omega) (by omega)
  have z8 : ∀ j, 1 ≤ j → j ≤ 8 → zbk (124 + j) = 8 := fun j h1 h2 => by
    unfold zbk
    rw [if_neg (by omega), if_neg (by omega), if_neg (by omega), if_neg (by omega), if_neg (by omega), if_neg (by omega)]
  have z6 : ∀ j, j < 3 → zbk (138 + j) = 6 := fun j h1 => by
    unfold zbk
    rw [if_neg (by omega), if_pos (by omega)]
  obtain ⟨d1, d2, d3, d4, d5, d6, d7, d8⟩ := h
  refine ⟨(hz 121 0 1 (by decide) (by decide) (by decide) (by decide)).trans d1, (hz 124 0 1 (by decide) (by decide) (by decide) (by decide)).trans d2, (hz 137 0 1 (by decide) (by decide) (by decide) (by decide)).trans d3, fun s hs => ?_, fun p hp => ⟨fun j h1 h2 => ?_, fun t ht => ?_⟩, fun i hi j hj => ?_, fun t ht => ?_, fun k hk => ?_⟩
  · obtain ⟨e1, e2, e3⟩ := d4 s hs
    exact ⟨(hz 122 _ 6 (by decide) (by decide) (by decide) (by omega)).trans e1, (hz 123 _ 6 (by decide) (by decide) (by decide) (by omega)).trans e2, fun t ht => (hz 136 _ 18 (by decide) (by decide) (by decide) (by omega)).trans (e3 t ht)⟩
  · exact (hz (124 + j) _ 8 (z8 j h1 h2) (by omega) (by omega) (by omega)).trans ((d5 p hp).1 j h1 h2)
  · exact (hz 134 _ 24 (by decide) (by decide) (by decide) (by omega)).trans ((d5 p hp).2 t ht)
  · exact (hz (138 + j) _ 6 (z6 j hj) (by omega) (by omega) (by omega)).trans (d6 i hi j hj)
  · exact (hz 141 _ 3 (by decide) (by decide) (by decide) (by omega)).trans (d7 t ht)
  · exact (hz 142 _ 5 (by decide) (by decide) (by decide) (by omega)).trans (d8 k hk)
theorem zMI_V {I I' : ZMi} {S : ZS} {nS nP nW len na kp n1 n2 : Nat} {T : Nat → Nat} {A A1 A2 : ZA} (h : zMI I S nS nP nW len T na A kp n1 A1 n2 A2) (hp : zPI S nS nP nW len T na A kp n1 A1 n2 A2) (hf : zfV I I') : zMI I' S nS nP nW len T na A kp n1 A1 n2 A2 :=
  zMI_mk h hp (zD_fV h.1 hf hp.2.1.2 hp.2.2.1.2 hp.2.2.2.1) (fun a k q => hf a k (by omega) (by omega) (by omega))
theorem zfE_r (I : ZMi) : zfE I I := fun _ _ _ => rfl
theorem zfM_r {α : Type} (f : Nat → Nat → α) : zfM f f := fun _ _ _ => rfl
theorem zAo_an {nS nP na : Nat} {A : ZA} (h : zAo nS nP na A) (hs6 : nS ≤ 6) (hp8 : nP ≤ 8) (k o m a : Int32) : zAo nS nP (zan nS nP na k o m a) (zaA nS nP na A k o m a) := by
  by_cases hc : zac nS nP na k o m a
  · rw [zan, zaA, if_pos hc, if_pos hc]
    obtain ⟨j, hj, ho⟩ := (zr_iff (by have := zak_b (x := k) hs6 hp8; omega)).mp hc.1.1.2
    obtain ⟨i, hi, hk⟩ := zb_nI (n := 4) rfl (by decide) hc.1.1.1
    have hjb := zak_b (x := k) hs6 hp8
    subst ho
    subst hk
    refine zAo_add h ?_ ?_
    · show (nI i).toNatClampNeg < 5
      rw [nI_clamp (by omega)]; omega
    · show (nI j).toNatClampNeg < zak (nI (nI i).toNatClampNeg) nS nP
      rw [nI_clamp (by omega), nI_clamp (by omega)]; exact hj
  · rw [zan, zaA, if_neg hc, if_neg hc]; exact h
theorem zan_10 {nS nP na : Nat} (h : na ≤ 10) (k o m a : Int32) : zan nS nP na k o m a ≤ 10 := by
  rw [zan]
  split
  · rename_i hc; have := hc.2; omega
  · exact h
theorem zwn_4 {len : Nat} (h : len ≤ 400) (n : Int32) : zwn len n ≤ 400 := by
  rw [zwn]
  split
  · rename_i hc; exact hc.2
  · exact h
theorem zwT_256 {T : Nat → Nat} (h : ∀ i, T i < 256) (len : Nat) (n : Int32) (v : Int64) : ∀ i, zwT T len n v i < 256 := fun i => by
  rw [zwT]
  split
  · rw [zTa]
    split
    · exact h i
    · exact zby_lt _ _
  · exact h i
abbrev zU_ (T : Nat → Nat) (len : Nat) : Int32 × ZU := zrd (zto T len) len 400 0 zu0

set_option maxRecDepth 4000 in
theorem p_part {K : ZKh} {P : Nat → Nat → List Value → List Value → ZMi → ZMl → ZMr → ZRt → Prop} {I : ZMi} {L : ZMl} {R : ZMr} {Q : ZRt} (hP : ZCl K P) (hK : zKa K) {w v : Nat} (hRI : zRI R w v) {S : ZS} {nS nP nW len na kp n1 n2 : Nat} {T : Nat → Nat} {A A1 A2 : ZA} (hPI : zPI S nS nP nW len T na A kp n1 A1 n2 A2) (hCI : zCI I L w S nS nP nW len T na A kp n1 A1 n2 A2) {p x : Int32} (h : ∀ I2 L2, zCI I2 L2 w S nS nP nW len T na A kp n1 A1 n2 A2 → zfE I I2 → Q (some (.int (f_part S nP p x))) I2 L2 R) : P 74 0 [.ref 2, .int p, .int x, .null] [] I L R Q := by
  obtain ⟨hRa, hRb, hl9, hl10, hw, hv, hwv⟩ := id hRI
  obtain ⟨hsr, ⟨hs1, hs6⟩, ⟨hp1, hp8⟩, hw6, hl4, h256, ⟨hn10, hAo⟩, hk2, hn1, hn2⟩ := id hPI
  obtain ⟨hC, hqt, hcs, hA, hTx, hkp, hA1, hA2⟩ := id hCI
  have hsg : ∀ p, p < nP → ∃ a, a < nS ∧ S 3 p 0 = nI a := fun p hp => (hsr.2.1 p hp).1
  have hkd : ∀ p, p < nP → ∃ a, a < 5 ∧ S 4 p 0 = nI a := fun p hp => (hsr.2.1 p hp).2.1
  have hok := zok_ps S nS hp8 A na
  have hw39 := zW39 hw
  have hv39 := zW39 hv
  exact x_part hP hK hRa hw hC hp8 hs6 hw6 hs1 hp1 hsg hl9 (h I L hCI (zfE_r I))
set_option maxRecDepth 4000 in
theorem p_hum {K : ZKh} {P : Nat → Nat → List Value → List Value → ZMi → ZMl → ZMr → ZRt → Prop} {I : ZMi} {L : ZMl} {R : ZMr} {Q : ZRt} (hP : ZCl K P) (hK : zKa K) {w v : Nat} (hRI : zRI R w v) {S : ZS} {nS nP nW len na kp n1 n2 : Nat} {T : Nat → Nat} {A A1 A2 : ZA} (hPI : zPI S nS nP nW len T na A kp n1 A1 n2 A2) (hCI : zCI I L w S nS nP nW len T na A kp n1 A1 n2 A2) {x t0 m : Int32} (h : ∀ I2 L2, zCI I2 L2 w S nS nP nW len T na A kp n1 A1 n2 A2 → zfE I I2 → Q (some (.int (f_hum S nS nP x t0 m))) I2 L2 R) : P 75 0 [.ref 2, .int x, .int t0, .int m] [] I L R Q := by
  obtain ⟨hRa, hRb, hl9, hl10, hw, hv, hwv⟩ := id hRI
  obtain ⟨hsr, ⟨hs1, hs6⟩, ⟨hp1, hp8⟩, hw6, hl4, h256, ⟨hn10, hAo⟩, hk2, hn1, hn2⟩ := id hPI
  obtain ⟨hC, hqt, hcs, hA, hTx, hkp, hA1, hA2⟩ := id hCI
  have hsg : ∀ p, p < nP → ∃ a, a < nS ∧ S 3 p 0 = nI a := fun p hp => (hsr.2.1 p hp).1
  have hkd : ∀ p, p < nP → ∃ a, a < 5 ∧ S 4 p 0 = nI a := fun p hp => (hsr.2.1 p hp).2.1
  have hok := zok_ps S nS hp8 A na
  have hw39 := zW39 hw
  have hv39 := zW39 hv
  exact x_hum hP hK hRa hw hC hp8 hs6 hw6 hs1 hp1 hsg hl9 (fun I2 g => h I2 L (zCI_to hCI hs6 hp8 hw6 (fun a k q => g a (by omega) k) (fun _ _ _ => rfl)) (fun a k q => g a (by omega) k))
set_option maxRecDepth 4000 in
theorem p_in {K : ZKh} {P : Nat → Nat → List Value → List Value → ZMi → ZMl → ZMr → ZRt → Prop} {I : ZMi} {L : ZMl} {R : ZMr} {Q : ZRt} (hP : ZCl K P) (hK : zKa K) {w v : Nat} (hRI : zRI R w v) {S : ZS} {nS nP nW len na kp n1 n2 : Nat} {T : Nat → Nat} {A A1 A2 : ZA} (hPI : zPI S nS nP nW len T na A kp n1 A1 n2 A2) (hCI : zCI I L w S nS nP nW len T na A kp n1 A1 n2 A2) {x s0 t0 m : Int32} (h : ∀ I2 L2, zCI I2 L2 w S nS nP nW len T na A kp n1 A1 n2 A2 → zfE I I2 → Q (some (.int (f_in S nS nP x s0 t0 m))) I2 L2 R) : P 76 0 [.ref 2, .int x, .int s0, .int t0, .int m] [] I L R Q := by
  obtain ⟨hRa, hRb, hl9, hl10, hw, hv, hwv⟩ := id hRI
  obtain ⟨hsr, ⟨hs1, hs6⟩, ⟨hp1, hp8⟩, hw6, hl4, h256, ⟨hn10, hAo⟩, hk2, hn1, hn2⟩ := id hPI
  obtain ⟨hC, hqt, hcs, hA, hTx, hkp, hA1, hA2⟩ := id hCI
  have hsg : ∀ p, p < nP → ∃ a, a < nS ∧ S 3 p 0 = nI a := fun p hp => (hsr.2.1 p hp).1
  have hkd : ∀ p, p < nP → ∃ a, a < 5 ∧ S 4 p 0 = nI a := fun p hp => (hsr.2.1 p hp).2.1
  have hok := zok_ps S nS hp8 A na
  have hw39 := zW39 hw
  have hv39 := zW39 hv
  exact x_in hP hK hRa hw hC hp8 hs6 hw6 hs1 hp1 hsg hl9 (fun I2 g => h I2 L (zCI_to hCI hs6 hp8 hw6 (fun a k q => g a (by omega) k) (fun _ _ _ => rfl)) (fun a k q => g a (by omega) k))
set_option maxRecDepth 4000 in
theorem p_heard {K : ZKh} {P : Nat → Nat → List Value → List Value → ZMi → ZMl → ZMr → ZRt → Prop} {I : ZMi} {L : ZMl} {R : ZMr} {Q : ZRt} (hP : ZCl K P) (hK : zKa K) {w v : Nat} (hRI : zRI R w v) {S : ZS} {nS nP nW len na kp n1 n2 : Nat} {T : Nat → Nat} {A A1 A2 : ZA} (hPI : zPI S nS nP nW len T na A kp n1 A1 n2 A2) (hCI : zCI I L w S nS nP nW len T na A kp n1 A1 n2 A2) {x m y : Int32} (h : ∀ I2 L2, zCI I2 L2 w S nS nP nW len T na A kp n1 A1 n2 A2 → zfE I I2 → Q (some (.int (f_heard S nS nP x m y))) I2 L2 R) : P 77 0 [.ref 2, .int x, .int m, .int y] [] I L R Q := by
  obtain ⟨hRa, hRb, hl9, hl10, hw, hv, hwv⟩ := id hRI
  obtain ⟨hsr, ⟨hs1, hs6⟩, ⟨hp1, hp8⟩, hw6, hl4, h256, ⟨hn10, hAo⟩, hk2, hn1, hn2⟩ := id hPI
  obtain ⟨hC, hqt, hcs, hA, hTx, hkp, hA1, hA2⟩ := id hCI
  have hsg : ∀ p, p < nP → ∃ a, a < nS ∧ S 3 p 0 = nI a := fun p hp => (hsr.2.1 p hp).1
  have hkd : ∀ p, p < nP → ∃ a, a < 5 ∧ S 4 p 0 = nI a := fun p hp => (hsr.2.1 p hp).2.1
  have hok := zok_ps S nS hp8 A na
  have hw39 := zW39 hw
  have hv39 := zW39 hv
  exact x_heard hP hK hRa hw hC hp8 hs6 hw6 hs1 hp1 hsg hl9 (fun I2 g => h I2 L (zCI_to hCI hs6 hp8 hw6 (fun a k q => g a (by omega) k) (fun _ _ _ => rfl)) (fun a k q => g a (by omega) k))
set_option maxRecDepth 4000 in
theorem p_ask {K : ZKh} {P : Nat → Nat → List Value → List Value → ZMi → ZMl → ZMr → ZRt → Prop} {I : ZMi} {L : ZMl} {R : ZMr} {Q : ZRt} (hP : ZCl K P) (hK : zKa K) {w v : Nat} (hRI : zRI R w v) {S : ZS} {nS nP nW len na kp n1 n2 : Nat} {T : Nat → Nat} {A A1 A2 : ZA} (hPI : zPI S nS nP nW len T na A kp n1 A1 n2 A2) (hCI : zCI I L w S nS nP nW len T na A kp n1 A1 n2 A2) {x k0 o0 m : Int32} (h : ∀ I2 L2, zCI I2 L2 w S nS nP nW len T na A kp n1 A1 n2 A2 → zfE I I2 → Q (some (.int (f_ask S nS nP x k0 o0 m))) I2 L2 R) : P 78 0 [.ref 2, .int x, .int k0, .int o0, .int m] [] I L R Q := by
  obtain ⟨hRa, hRb, hl9, hl10, hw, hv, hwv⟩ := id hRI
  obtain ⟨hsr, ⟨hs1, hs6⟩, ⟨hp1, hp8⟩, hw6, hl4, h256, ⟨hn10, hAo⟩, hk2, hn1, hn2⟩ := id hPI
  obtain ⟨hC, hqt, hcs, hA, hTx, hkp, hA1, hA2⟩ := id hCI
  have hsg : ∀ p, p < nP → ∃ a, a < nS ∧ S 3 p 0 = nI a := fun p hp => (hsr.2.1 p hp).1
  have hkd : ∀ p, p < nP → ∃ a, a < 5 ∧ S 4 p 0 = nI a := fun p hp => (hsr.2.1 p hp).2.1
  have hok := zok_ps S nS hp8 A na
  have hw39 := zW39 hw
  have hv39 := zW39 hv
  exact x_ask hP hK hRa hw hC hp8 hs6 hw6 hs1 hp1 hsg hl9 (fun I2 g => h I2 L (zCI_to hCI hs6 hp8 hw6 (fun a k q => g a (by omega) k) (fun _ _ _ => rfl)) (fun a k q => g a (by omega) k))
set_option maxRecDepth 4000 in
theorem p_risk {K : ZKh} {P : Nat → Nat → List Value → List Value → ZMi → ZMl → ZMr → ZRt → Prop} {I : ZMi} {L : ZMl} {R : ZMr} {Q : ZRt} (hP : ZCl K P) (hK : zKa K) {w v : Nat} (hRI : zRI R w v) {S : ZS} {nS nP nW len na kp n1 n2 : Nat} {T : Nat → Nat} {A A1 A2 : ZA} (hPI : zPI S nS nP nW len T na A kp n1 A1 n2 A2) (hCI : zCI I L w S nS nP nW len T na A kp n1 A1 n2 A2) {k0 o0 : Int32} (h : ∀ I2 L2, zCI I2 L2 w S nS nP nW len T na A kp n1 A1 n2 A2 → zfE I I2 → Q (some (.int (f_risk S nS nP k0 o0))) I2 L2 R) : P 79 0 [.ref 2, .int k0, .int o0] [] I L R Q := by
  obtain ⟨hRa, hRb, hl9, hl10, hw, hv, hwv⟩ := id hRI
  obtain ⟨hsr, ⟨hs1, hs6⟩, ⟨hp1, hp8⟩, hw6, hl4, h256, ⟨hn10, hAo⟩, hk2, hn1, hn2⟩ := id hPI
  obtain ⟨hC, hqt, hcs, hA, hTx, hkp, hA1, hA2⟩ := id hCI
  have hsg : ∀ p, p < nP → ∃ a, a < nS ∧ S 3 p 0 = nI a := fun p hp => (hsr.2.1 p hp).1
  have hkd : ∀ p, p < nP → ∃ a, a < 5 ∧ S 4 p 0 = nI a := fun p hp => (hsr.2.1 p hp).2.1
  have hok := zok_ps S nS hp8 A na
  have hw39 := zW39 hw
  have hv39 := zW39 hv
  exact x_risk hP hK hRa hw hC hp8 hs6 hw6 hs1 hp1 hsg hl9 (h I L hCI (zfE_r I))
set_option maxRecDepth 4000 in
theorem p_volts {K : ZKh} {P : Nat → Nat → List Value → List Value → ZMi → ZMl → ZMr → ZRt → Prop} {I : ZMi} {L : ZMl} {R : ZMr} {Q : ZRt} (hP : ZCl K P) (hK : zKa K) {w v : Nat} (hRI : zRI R w v) {S : ZS} {nS nP nW len na kp n1 n2 : Nat} {T : Nat → Nat} {A A1 A2 : ZA} (hPI : zPI S nS nP nW len T na A kp n1 A1 n2 A2) (hCI : zCI I L w S nS nP nW len T na A kp n1 A1 n2 A2) {p m : Int32} (h : ∀ I2 L2, zCI I2 L2 w S nS nP nW len T na A kp n1 A1 n2 A2 → zfE I I2 → Q (some (.int (f_volts S nP p m))) I2 L2 R) : P 80 0 [.ref 2, .int p, .int m] [] I L R Q := by
  obtain ⟨hRa, hRb, hl9, hl10, hw, hv, hwv⟩ := id hRI
  obtain ⟨hsr, ⟨hs1, hs6⟩, ⟨hp1, hp8⟩, hw6, hl4, h256, ⟨hn10, hAo⟩, hk2, hn1, hn2⟩ := id hPI
  obtain ⟨hC, hqt, hcs, hA, hTx, hkp, hA1, hA2⟩ := id hCI
  have hsg : ∀ p, p < nP → ∃ a, a < nS ∧ S 3 p 0 = nI a := fun p hp => (hsr.2.1 p hp).1
  have hkd : ∀ p, p < nP → ∃ a, a < 5 ∧ S 4 p 0 = nI a := fun p hp => (hsr.2.1 p hp).2.1
  have hok := zok_ps S nS hp8 A na
  have hw39 := zW39 hw
  have hv39 := zW39 hv
  exact x_volts hP hK hRa hw hC hp8 hs6 hw6 hs1 hp1 hsg hl9 (h I L hCI (zfE_r I))
set_option maxRecDepth 4000 in
theorem p_safe {K : ZKh} {P : Nat → Nat → List Value → List Value → ZMi → ZMl → ZMr → ZRt → Prop} {I : ZMi} {L : ZMl} {R : ZMr} {Q : ZRt} (hP : ZCl K P) (hK : zKa K) {w v : Nat} (hRI : zRI R w v) {S : ZS} {nS nP nW len na kp n1 n2 : Nat} {T : Nat → Nat} {A A1 A2 : ZA} (hPI : zPI S nS nP nW len T na A kp n1 A1 n2 A2) (hCI : zCI I L w S nS nP nW len T na A kp n1 A1 n2 A2) (h : ∀ I2 L2, zCI I2 L2 w S nS nP nW len T na A kp n1 A1 n2 A2 → zfE I I2 → Q (some (.int (if zmx (zfst S) nP ≤ 999 then nI (zmx (zfst S) nP) else -4))) I2 L2 R) : P 81 0 [.ref 2] [] I L R Q := by
  obtain ⟨hRa, hRb, hl9, hl10, hw, hv, hwv⟩ := id hRI
  obtain ⟨hsr, ⟨hs1, hs6⟩, ⟨hp1, hp8⟩, hw6, hl4, h256, ⟨hn10, hAo⟩, hk2, hn1, hn2⟩ := id hPI
  obtain ⟨hC, hqt, hcs, hA, hTx, hkp, hA1, hA2⟩ := id hCI
  have hsg : ∀ p, p < nP → ∃ a, a < nS ∧ S 3 p 0 = nI a := fun p hp => (hsr.2.1 p hp).1
  have hkd : ∀ p, p < nP → ∃ a, a < 5 ∧ S 4 p 0 = nI a := fun p hp => (hsr.2.1 p hp).2.1
  have hok := zok_ps S nS hp8 A na
  have hw39 := zW39 hw
  have hv39 := zW39 hv
  exact x_safe hP hK hRa hw hC hp8 hs6 hw6 hs1 hp1 hsg hl9 (h I L hCI (zfE_r I))
set_option maxRecDepth 4000 in
theorem p_howls {K : ZKh} {P : Nat → Nat → List Value → List Value → ZMi → ZMl → ZMr → ZRt → Prop} {I : ZMi} {L : ZMl} {R : ZMr} {Q : ZRt} (hP : ZCl K P) (hK : zKa K) {w v : Nat} (hRI : zRI R w v) {S : ZS} {nS nP nW len na kp n1 n2 : Nat} {T : Nat → Nat} {A A1 A2 : ZA} (hPI : zPI S nS nP nW len T na A kp n1 A1 n2 A2) (hCI : zCI I L w S nS nP nW len T na A kp n1 A1 n2 A2) (h : ∀ I2 L2, zCI I2 L2 w S nS nP nW len T na A kp n1 A1 n2 A2 → zfE I I2 → Q (some (.int (zhw S nS nW))) I2 L2 R) : P 91 0 [.ref 2] [] I L R Q := by
  obtain ⟨hRa, hRb, hl9, hl10, hw, hv, hwv⟩ := id hRI
  obtain ⟨hsr, ⟨hs1, hs6⟩, ⟨hp1, hp8⟩, hw6, hl4, h256, ⟨hn10, hAo⟩, hk2, hn1, hn2⟩ := id hPI
  obtain ⟨hC, hqt, hcs, hA, hTx, hkp, hA1, hA2⟩ := id hCI
  have hsg : ∀ p, p < nP → ∃ a, a < nS ∧ S 3 p 0 = nI a := fun p hp => (hsr.2.1 p hp).1
  have hkd : ∀ p, p < nP → ∃ a, a < 5 ∧ S 4 p 0 = nI a := fun p hp => (hsr.2.1 p hp).2.1
  have hok := zok_ps S nS hp8 A na
  have hw39 := zW39 hw
  have hv39 := zW39 hv
  exact x_howls hP hK hRa hw hC hp8 hs6 hw6 hs1 hp1 hsg hl9 hsr.2.2.1 (h I L hCI (zfE_r I))
set_option maxRecDepth 4000 in
theorem p_goes {K : ZKh} {P : Nat → Nat → List Value → List Value → ZMi → ZMl → ZMr → ZRt → Prop} {I : ZMi} {L : ZMl} {R : ZMr} {Q : ZRt} (hP : ZCl K P) (hK : zKa K) {w v : Nat} (hRI : zRI R w v) {S : ZS} {nS nP nW len na kp n1 n2 : Nat} {T : Nat → Nat} {A A1 A2 : ZA} (hPI : zPI S nS nP nW len T na A kp n1 A1 n2 A2) (hCI : zCI I L w S nS nP nW len T na A kp n1 A1 n2 A2) {p y : Int32} (h : ∀ I2 L2, zCI I2 L2 w S nS nP nW len T na A kp n1 A1 n2 A2 → zfE I I2 → Q (some (.int (f_goes S nP p y))) I2 L2 R) : P 92 0 [.ref 2, .int p, .int y] [] I L R Q := by
  obtain ⟨hRa, hRb, hl9, hl10, hw, hv, hwv⟩ := id hRI
  obtain ⟨hsr, ⟨hs1, hs6⟩, ⟨hp1, hp8⟩, hw6, hl4, h256, ⟨hn10, hAo⟩, hk2, hn1, hn2⟩ := id hPI
  obtain ⟨hC, hqt, hcs, hA, hTx, hkp, hA1, hA2⟩ := id hCI
  have hsg : ∀ p, p < nP → ∃ a, a < nS ∧ S 3 p 0 = nI a := fun p hp => (hsr.2.1 p hp).1
  have hkd : ∀ p, p < nP → ∃ a, a < 5 ∧ S 4 p 0 = nI a := fun p hp => (hsr.2.1 p hp).2.1
  have hok := zok_ps S nS hp8 A na
  have hw39 := zW39 hw
  have hv39 := zW39 hv
  exact x_goes hP hK hRa hw hC hp8 hs6 hw6 hs1 hp1 hsg hl9 hkd (h I L hCI (zfE_r I))
set_option maxRecDepth 4000 in
theorem p_set {K : ZKh} {P : Nat → Nat → List Value → List Value → ZMi → ZMl → ZMr → ZRt → Prop} {I : ZMi} {L : ZMl} {R : ZMr} {Q : ZRt} (hP : ZCl K P) (hK : zKa K) {w v : Nat} (hRI : zRI R w v) {S : ZS} {nS nP nW len na kp n1 n2 : Nat} {T : Nat → Nat} {A A1 A2 : ZA} (hPI : zPI S nS nP nW len T na A kp n1 A1 n2 A2) (hCI : zCI I L w S nS nP nW len T na A kp n1 A1 n2 A2) {z : Int32} (h : ∀ I2 L2, zCI I2 L2 w S nS nP nW len T na A kp n1 A1 n2 A2 → zfE I I2 → Q (some (.int (f_set S nP z))) I2 L2 R) : P 94 0 [.ref 2, .int z, .null, .null, .null, .null] [] I L R Q := by
  obtain ⟨hRa, hRb, hl9, hl10, hw, hv, hwv⟩ := id hRI
  obtain ⟨hsr, ⟨hs1, hs6⟩, ⟨hp1, hp8⟩, hw6, hl4, h256, ⟨hn10, hAo⟩, hk2, hn1, hn2⟩ := id hPI
  obtain ⟨hC, hqt, hcs, hA, hTx, hkp, hA1, hA2⟩ := id hCI
  have hsg : ∀ p, p < nP → ∃ a, a < nS ∧ S 3 p 0 = nI a := fun p hp => (hsr.2.1 p hp).1
  have hkd : ∀ p, p < nP → ∃ a, a < 5 ∧ S 4 p 0 = nI a := fun p hp => (hsr.2.1 p hp).2.1
  have hok := zok_ps S nS hp8 A na
  have hw39 := zW39 hw
  have hv39 := zW39 hv
  exact x_set hP hK hRa hw hC hp8 hs6 hw6 hs1 hp1 hsg hl9 (h I L hCI (zfE_r I))
set_option maxRecDepth 4000 in
theorem p_louder {K : ZKh} {P : Nat → Nat → List Value → List Value → ZMi → ZMl → ZMr → ZRt → Prop} {I : ZMi} {L : ZMl} {R : ZMr} {Q : ZRt} (hP : ZCl K P) (hK : zKa K) {w v : Nat} (hRI : zRI R w v) {S : ZS} {nS nP nW len na kp n1 n2 : Nat} {T : Nat → Nat} {A A1 A2 : ZA} (hPI : zPI S nS nP nW len T na A kp n1 A1 n2 A2) (hCI : zCI I L w S nS nP nW len T na A kp n1 A1 n2 A2) {x : Int32} (h : ∀ I2 L2, zCI I2 L2 w S nS nP nW len T na A kp n1 A1 n2 A2 → zfE I I2 → Q (some (.int (f_louder S nS nP x))) I2 L2 R) : P 90 0 [.ref 2, .int x, .null, .null, .null, .null] [] I L R Q := by
  obtain ⟨hRa, hRb, hl9, hl10, hw, hv, hwv⟩ := id hRI
  obtain ⟨hsr, ⟨hs1, hs6⟩, ⟨hp1, hp8⟩, hw6, hl4, h256, ⟨hn10, hAo⟩, hk2, hn1, hn2⟩ := id hPI
  obtain ⟨hC, hqt, hcs, hA, hTx, hkp, hA1, hA2⟩ := id hCI
  have hsg : ∀ p, p < nP → ∃ a, a < nS ∧ S 3 p 0 = nI a := fun p hp => (hsr.2.1 p hp).1
  have hkd : ∀ p, p < nP → ∃ a, a < 5 ∧ S 4 p 0 = nI a := fun p hp => (hsr.2.1 p hp).2.1
  have hok := zok_ps S nS hp8 A na
  have hw39 := zW39 hw
  have hv39 := zW39 hv
  exact x_louder hP hK hRa hw hC hp8 hs6 hw6 hs1 hp1 hsg hl9 (fun I2 g => h I2 L (zCI_to hCI hs6 hp8 hw6 (fun a k q => g a (by omega) k) (fun _ _ _ => rfl)) (fun a k q => g a (by omega) k))
set_option maxRecDepth 4000 in
theorem p_ntg {K : ZKh} {P : Nat → Nat → List Value → List Value → ZMi → ZMl → ZMr → ZRt → Prop} {I : ZMi} {L : ZMl} {R : ZMr} {Q : ZRt} (hP : ZCl K P) (hK : zKa K) {w v : Nat} (hRI : zRI R w v) {S : ZS} {nS nP nW len na kp n1 n2 : Nat} {T : Nat → Nat} {A A1 A2 : ZA} (hPI : zPI S nS nP nW len T na A kp n1 A1 n2 A2) (hCI : zCI I L w S nS nP nW len T na A kp n1 A1 n2 A2) {y : Int32} (h : ∀ I2 L2, zCI I2 L2 w S nS nP nW len T na A kp n1 A1 n2 A2 → zfE I I2 → Q (some (.int (f_ntg S nP y))) I2 L2 R) : P 93 0 [.ref 2, .int y, .null, .null, .null, .null] [] I L R Q := by
  obtain ⟨hRa, hRb, hl9, hl10, hw, hv, hwv⟩ := id hRI
  obtain ⟨hsr, ⟨hs1, hs6⟩, ⟨hp1, hp8⟩, hw6, hl4, h256, ⟨hn10, hAo⟩, hk2, hn1, hn2⟩ := id hPI
  obtain ⟨hC, hqt, hcs, hA, hTx, hkp, hA1, hA2⟩ := id hCI
  have hsg : ∀ p, p < nP → ∃ a, a < nS ∧ S 3 p 0 = nI a := fun p hp => (hsr.2.1 p hp).1
  have hkd : ∀ p, p < nP → ∃ a, a < 5 ∧ S 4 p 0 = nI a := fun p hp => (hsr.2.1 p hp).2.1
  have hok := zok_ps S nS hp8 A na
  have hw39 := zW39 hw
  have hv39 := zW39 hv
  exact x_ntg hP hK hRa hw hC hp8 hs6 hw6 hs1 hp1 hsg hl9 hkd (h I L hCI (zfE_r I))
set_option maxRecDepth 4000 in
theorem p_possible {K : ZKh} {P : Nat → Nat → List Value → List Value → ZMi → ZMl → ZMr → ZRt → Prop} {I : ZMi} {L : ZMl} {R : ZMr} {Q : ZRt} (hP : ZCl K P) (hK : zKa K) {w v : Nat} (hRI : zRI R w v) {S : ZS} {nS nP nW len na kp n1 n2 : Nat} {T : Nat → Nat} {A A1 A2 : ZA} (hPI : zPI S nS nP nW len T na A kp n1 A1 n2 A2) (hCI : zCI I L w S nS nP nW len T na A kp n1 A1 n2 A2) {x : Int32} (h : ∀ I2 L2, zCI I2 L2 w S nS nP nW len T na A kp n1 A1 n2 A2 → zfE I I2 → Q (some (.long (f_poss S nP (zps S nS nP A na) x))) I2 L2 R) : P 84 0 [.ref 2, .int x] [] I L R Q := by
  obtain ⟨hRa, hRb, hl9, hl10, hw, hv, hwv⟩ := id hRI
  obtain ⟨hsr, ⟨hs1, hs6⟩, ⟨hp1, hp8⟩, hw6, hl4, h256, ⟨hn10, hAo⟩, hk2, hn1, hn2⟩ := id hPI
  obtain ⟨hC, hqt, hcs, hA, hTx, hkp, hA1, hA2⟩ := id hCI
  have hsg : ∀ p, p < nP → ∃ a, a < nS ∧ S 3 p 0 = nI a := fun p hp => (hsr.2.1 p hp).1
  have hkd : ∀ p, p < nP → ∃ a, a < 5 ∧ S 4 p 0 = nI a := fun p hp => (hsr.2.1 p hp).2.1
  have hok := zok_ps S nS hp8 A na
  have hw39 := zW39 hw
  have hv39 := zW39 hv
  exact x_possible hP hK hRa hw hC hp8 hs6 hw6 hs1 hp1 hsg hl9 hcs hok (h I L hCI (zfE_r I))
set_option maxRecDepth 4000 in
theorem p_likeliest {K : ZKh} {P : Nat → Nat → List Value → List Value → ZMi → ZMl → ZMr → ZRt → Prop} {I : ZMi} {L : ZMl} {R : ZMr} {Q : ZRt} (hP : ZCl K P) (hK : zKa K) {w v : Nat} (hRI : zRI R w v) {S : ZS} {nS nP nW len na kp n1 n2 : Nat} {T : Nat → Nat} {A A1 A2 : ZA} (hPI : zPI S nS nP nW len T na A kp n1 A1 n2 A2) (hCI : zCI I L w S nS nP nW len T na A kp n1 A1 n2 A2) (h : ∀ I2 L2, zCI I2 L2 w S nS nP nW len T na A kp n1 A1 n2 A2 → zfE I I2 → Q (some (.int (zhv S nP (zps S nS nP A na)).1)) I2 L2 R) : P 86 0 [.ref 2] [] I L R Q := by
  obtain ⟨hRa, hRb, hl9, hl10, hw, hv, hwv⟩ := id hRI
  obtain ⟨hsr, ⟨hs1, hs6⟩, ⟨hp1, hp8⟩, hw6, hl4, h256, ⟨hn10, hAo⟩, hk2, hn1, hn2⟩ := id hPI
  obtain ⟨hC, hqt, hcs, hA, hTx, hkp, hA1, hA2⟩ := id hCI
  have hsg : ∀ p, p < nP → ∃ a, a < nS ∧ S 3 p 0 = nI a := fun p hp => (hsr.2.1 p hp).1
  have hkd : ∀ p, p < nP → ∃ a, a < 5 ∧ S 4 p 0 = nI a := fun p hp => (hsr.2.1 p hp).2.1
  have hok := zok_ps S nS hp8 A na
  have hw39 := zW39 hw
  have hv39 := zW39 hv
  exact x_likeliest hP hK hRa hw hC hp8 hs6 hw6 hs1 hp1 hsg hl9 hcs hok (h I L hCI (zfE_r I))
set_option maxRecDepth 4000 in
theorem p_odds {K : ZKh} {P : Nat → Nat → List Value → List Value → ZMi → ZMl → ZMr → ZRt → Prop} {I : ZMi} {L : ZMl} {R : ZMr} {Q : ZRt} (hP : ZCl K P) (hK : zKa K) {w v : Nat} (hRI : zRI R w v) {S : ZS} {nS nP nW len na kp n1 n2 : Nat} {T : Nat → Nat} {A A1 A2 : ZA} (hPI : zPI S nS nP nW len T na A kp n1 A1 n2 A2) (hCI : zCI I L w S nS nP nW len T na A kp n1 A1 n2 A2) {p y : Int32} (h : ∀ I2 L2, zCI I2 L2 w S nS nP nW len T na A kp n1 A1 n2 A2 → zfE I I2 → Q (some (.long (f_odds S nP (zps S nS nP A na) p y))) I2 L2 R) : P 85 0 [.ref 2, .int p, .int y, .null, .null, .null, .null, .null, .null] [] I L R Q := by
  obtain ⟨hRa, hRb, hl9, hl10, hw, hv, hwv⟩ := id hRI
  obtain ⟨hsr, ⟨hs1, hs6⟩, ⟨hp1, hp8⟩, hw6, hl4, h256, ⟨hn10, hAo⟩, hk2, hn1, hn2⟩ := id hPI
  obtain ⟨hC, hqt, hcs, hA, hTx, hkp, hA1, hA2⟩ := id hCI
  have hsg : ∀ p, p < nP → ∃ a, a < nS ∧ S 3 p 0 = nI a := fun p hp => (hsr.2.1 p hp).1
  have hkd : ∀ p, p < nP → ∃ a, a < 5 ∧ S 4 p 0 = nI a := fun p hp => (hsr.2.1 p hp).2.1
  have hok := zok_ps S nS hp8 A na
  have hw39 := zW39 hw
  have hv39 := zW39 hv
  exact x_odds hP hK hRa hw hC hp8 hs6 hw6 hs1 hp1 hsg hl9 hcs hok (h I L hCI (zfE_r I))
set_option maxRecDepth 4000 in
theorem p_change {K : ZKh} {P : Nat → Nat → List Value → List Value → ZMi → ZMl → ZMr → ZRt → Prop} {I : ZMi} {L : ZMl} {R : ZMr} {Q : ZRt} (hP : ZCl K P) (hK : zKa K) {w v : Nat} (hRI : zRI R w v) {S : ZS} {nS nP nW len na kp n1 n2 : Nat} {T : Nat → Nat} {A A1 A2 : ZA} (hPI : zPI S nS nP nW len T na A kp n1 A1 n2 A2) (hCI : zCI I L w S nS nP nW len T na A kp n1 A1 n2 A2) {q y : Int32} (h : ∀ I2 L2, zCI I2 L2 w S nS nP nW len T na A kp n1 A1 n2 A2 → zfE I I2 → Q (some (.int (f_change S nS nP (zps S nS nP A na) q y))) I2 L2 R) : P 88 0 [.ref 2, .int q, .int y, .null] [] I L R Q := by
  obtain ⟨hRa, hRb, hl9, hl10, hw, hv, hwv⟩ := id hRI
  obtain ⟨hsr, ⟨hs1, hs6⟩, ⟨hp1, hp8⟩, hw6, hl4, h256, ⟨hn10, hAo⟩, hk2, hn1, hn2⟩ := id hPI
  obtain ⟨hC, hqt, hcs, hA, hTx, hkp, hA1, hA2⟩ := id hCI
  have hsg : ∀ p, p < nP → ∃ a, a < nS ∧ S 3 p 0 = nI a := fun p hp => (hsr.2.1 p hp).1
  have hkd : ∀ p, p < nP → ∃ a, a < 5 ∧ S 4 p 0 = nI a := fun p hp => (hsr.2.1 p hp).2.1
  have hok := zok_ps S nS hp8 A na
  have hw39 := zW39 hw
  have hv39 := zW39 hv
  exact x_change hP hK hRa hw hC hp8 hs6 hw6 hs1 hp1 hsg hl9 hcs hok hqt (h I L hCI (zfE_r I))
set_option maxRecDepth 4000 in
theorem p_obo {K : ZKh} {P : Nat → Nat → List Value → List Value → ZMi → ZMl → ZMr → ZRt → Prop} {I : ZMi} {L : ZMl} {R : ZMr} {Q : ZRt} (hP : ZCl K P) (hK : zKa K) {w v : Nat} (hRI : zRI R w v) {S : ZS} {nS nP nW len na kp n1 n2 : Nat} {T : Nat → Nat} {A A1 A2 : ZA} (hPI : zPI S nS nP nW len T na A kp n1 A1 n2 A2) (hCI : zCI I L w S nS nP nW len T na A kp n1 A1 n2 A2) {y : Int32} (h : ∀ I2 L2, zCI I2 L2 w S nS nP nW len T na A kp n1 A1 n2 A2 → zfE I I2 → Q (some (.long (f_obo S nS nP (zps S nS nP A na) y))) I2 L2 R) : P 89 0 [.ref 2, .int y] [] I L R Q := by
  obtain ⟨hRa, hRb, hl9, hl10, hw, hv, hwv⟩ := id hRI
  obtain ⟨hsr, ⟨hs1, hs6⟩, ⟨hp1, hp8⟩, hw6, hl4, h256, ⟨hn10, hAo⟩, hk2, hn1, hn2⟩ := id hPI
  obtain ⟨hC, hqt, hcs, hA, hTx, hkp, hA1, hA2⟩ := id hCI
  have hsg : ∀ p, p < nP → ∃ a, a < nS ∧ S 3 p 0 = nI a := fun p hp => (hsr.2.1 p hp).1
  have hkd : ∀ p, p < nP → ∃ a, a < 5 ∧ S 4 p 0 = nI a := fun p hp => (hsr.2.1 p hp).2.1
  have hok := zok_ps S nS hp8 A na
  have hw39 := zW39 hw
  have hv39 := zW39 hv
  exact x_obo hP hK hRa hw hC hp8 hs6 hw6 hs1 hp1 hsg hl9 hcs hok hqt (fun I2 L2 g g2 => h I2 L2 (zCI_to hCI hs6 hp8 hw6 (fun a k q => g a k (by omega)) (fun a k q => g2 a k (by omega))) (fun a k q => g a k (by omega)))
set_option maxRecDepth 4000 in
theorem p_next {K : ZKh} {P : Nat → Nat → List Value → List Value → ZMi → ZMl → ZMr → ZRt → Prop} {I : ZMi} {L : ZMl} {R : ZMr} {Q : ZRt} (hP : ZCl K P) (hK : zKa K) {w v : Nat} (hRI : zRI R w v) {S : ZS} {nS nP nW len na kp n1 n2 : Nat} {T : Nat → Nat} {A A1 A2 : ZA} (hPI : zPI S nS nP nW len T na A kp n1 A1 n2 A2) (hCI : zCI I L w S nS nP nW len T na A kp n1 A1 n2 A2) (hmn : ∀ k, k < 5 → I 1 k = zmn k) {m y : Int32} (h : ∀ I2 L2, zCI I2 L2 w S nS nP nW len T na A kp n1 A1 n2 A2 → zfE I I2 → Q (some (.long (f_next S nS nP (zps S nS nP A na) m y))) I2 L2 R) : P 87 0 [.ref 2, .int m, .int y] [] I L R Q := by
  obtain ⟨hRa, hRb, hl9, hl10, hw, hv, hwv⟩ := id hRI
  obtain ⟨hsr, ⟨hs1, hs6⟩, ⟨hp1, hp8⟩, hw6, hl4, h256, ⟨hn10, hAo⟩, hk2, hn1, hn2⟩ := id hPI
  obtain ⟨hC, hqt, hcs, hA, hTx, hkp, hA1, hA2⟩ := id hCI
  have hsg : ∀ p, p < nP → ∃ a, a < nS ∧ S 3 p 0 = nI a := fun p hp => (hsr.2.1 p hp).1
  have hkd : ∀ p, p < nP → ∃ a, a < 5 ∧ S 4 p 0 = nI a := fun p hp => (hsr.2.1 p hp).2.1
  have hok := zok_ps S nS hp8 A na
  have hw39 := zW39 hw
  have hv39 := zW39 hv
  exact x_next hP hK hRa hw hC hp8 hs6 hw6 hs1 hp1 hsg hl9 hcs hok hmn (fun I2 L2 g g2 => h I2 L2 (zCI_to hCI hs6 hp8 hw6 (fun a k q => g a k (by omega) (by omega)) (fun a k q => g2 a k (by omega) (by omega))) (fun a k q => g a k (by omega) (by omega)))
set_option maxRecDepth 4000 in
theorem p_count {K : ZKh} {P : Nat → Nat → List Value → List Value → ZMi → ZMl → ZMr → ZRt → Prop} {I : ZMi} {L : ZMl} {R : ZMr} {Q : ZRt} (hP : ZCl K P) (hK : zKa K) {w v : Nat} (hRI : zRI R w v) {S : ZS} {nS nP nW len na kp n1 n2 : Nat} {T : Nat → Nat} {A A1 A2 : ZA} (hPI : zPI S nS nP nW len T na A kp n1 A1 n2 A2) (hCI : zCI I L w S nS nP nW len T na A kp n1 A1 n2 A2) {x : Int32} (h : ∀ I2 L2, zCI I2 L2 w S nS nP nW len T na A kp n1 A1 n2 A2 → zfE I I2 → Q (some (.int (f_count nS nP len na kp x))) I2 L2 R) : P 97 0 [.ref 2, .int x] [] I L R Q := by
  obtain ⟨hRa, hRb, hl9, hl10, hw, hv, hwv⟩ := id hRI
  obtain ⟨hsr, ⟨hs1, hs6⟩, ⟨hp1, hp8⟩, hw6, hl4, h256, ⟨hn10, hAo⟩, hk2, hn1, hn2⟩ := id hPI
  obtain ⟨hC, hqt, hcs, hA, hTx, hkp, hA1, hA2⟩ := id hCI
  have hsg : ∀ p, p < nP → ∃ a, a < nS ∧ S 3 p 0 = nI a := fun p hp => (hsr.2.1 p hp).1
  have hkd : ∀ p, p < nP → ∃ a, a < 5 ∧ S 4 p 0 = nI a := fun p hp => (hsr.2.1 p hp).2.1
  have hok := zok_ps S nS hp8 A na
  have hw39 := zW39 hw
  have hv39 := zW39 hv
  exact x_count hP hK hRa hw hC hp8 hs6 hw6 hl9 hTx hA hkp (h I L hCI (zfE_r I))
set_option maxRecDepth 4000 in
theorem p_write {K : ZKh} {P : Nat → Nat → List Value → List Value → ZMi → ZMl → ZMr → ZRt → Prop} {I : ZMi} {L : ZMl} {R : ZMr} {Q : ZRt} (hP : ZCl K P) (hK : zKa K) {w v : Nat} (hRI : zRI R w v) {S : ZS} {nS nP nW len na kp n1 n2 : Nat} {T : Nat → Nat} {A A1 A2 : ZA} (hPI : zPI S nS nP nW len T na A kp n1 A1 n2 A2) (hCI : zCI I L w S nS nP nW len T na A kp n1 A1 n2 A2) {n0 : Int32} {x : Int64} (h : ∀ I2 L2, zCI I2 L2 w S nS nP nW (zwn len n0) (zwT T len n0 x) na A kp n1 A1 n2 A2 → zfE I I2 → Q (some (.int (f_write len n0))) I2 L2 R) : P 70 0 [.ref 2, .int n0, .long x, .null] [] I L R Q := by
  obtain ⟨hRa, hRb, hl9, hl10, hw, hv, hwv⟩ := id hRI
  obtain ⟨hsr, ⟨hs1, hs6⟩, ⟨hp1, hp8⟩, hw6, hl4, h256, ⟨hn10, hAo⟩, hk2, hn1, hn2⟩ := id hPI
  obtain ⟨hC, hqt, hcs, hA, hTx, hkp, hA1, hA2⟩ := id hCI
  have hsg : ∀ p, p < nP → ∃ a, a < nS ∧ S 3 p 0 = nI a := fun p hp => (hsr.2.1 p hp).1
  have hkd : ∀ p, p < nP → ∃ a, a < 5 ∧ S 4 p 0 = nI a := fun p hp => (hsr.2.1 p hp).2.1
  have hok := zok_ps S nS hp8 A na
  have hw39 := zW39 hw
  have hv39 := zW39 hv
  refine x_write hP hK hRa hTx hl4 (fun I2 g g2 => h I2 L ?_ (fun a k q => g a k (by omega) (by omega)))
  exact ⟨zC_to hC (fun a q1 q2 k => g a k (by omega) (by omega)) hs6 hp8 hw6, zQt_fr hqt (fun k => g 37 k (by omega) (by omega)), zCs_to hcs (fun k => g 31 k (by omega) (by omega)) (fun k => g 32 k (by omega) (by omega)) (fun k => rfl) (fun k => rfl), zAn_to hA (fun x q1 q2 j => g x j (by omega) (by omega)), g2, (g 2 11 (by omega) (by omega)).trans hkp, fun q => zAn_to (hA1 q) (fun x q1 q2 j => g x j (by omega) (by omega)), fun q => zAn_to (hA2 q) (fun x q1 q2 j => g x j (by omega) (by omega))⟩
set_option maxRecDepth 4000 in
theorem p_wipe {K : ZKh} {P : Nat → Nat → List Value → List Value → ZMi → ZMl → ZMr → ZRt → Prop} {I : ZMi} {L : ZMl} {R : ZMr} {Q : ZRt} (hP : ZCl K P) (hK : zKa K) {w v : Nat} (hRI : zRI R w v) {S : ZS} {nS nP nW len na kp n1 n2 : Nat} {T : Nat → Nat} {A A1 A2 : ZA} (hPI : zPI S nS nP nW len T na A kp n1 A1 n2 A2) (hCI : zCI I L w S nS nP nW len T na A kp n1 A1 n2 A2) (h : ∀ I2 L2, zCI I2 L2 w S nS nP nW 0 T na A kp n1 A1 n2 A2 → zfE I I2 → Q (some (.int (nI len))) I2 L2 R) : P 71 0 [.ref 2, .null] [] I L R Q := by
  obtain ⟨hRa, hRb, hl9, hl10, hw, hv, hwv⟩ := id hRI
  obtain ⟨hsr, ⟨hs1, hs6⟩, ⟨hp1, hp8⟩, hw6, hl4, h256, ⟨hn10, hAo⟩, hk2, hn1, hn2⟩ := id hPI
  obtain ⟨hC, hqt, hcs, hA, hTx, hkp, hA1, hA2⟩ := id hCI
  have hsg : ∀ p, p < nP → ∃ a, a < nS ∧ S 3 p 0 = nI a := fun p hp => (hsr.2.1 p hp).1
  have hkd : ∀ p, p < nP → ∃ a, a < 5 ∧ S 4 p 0 = nI a := fun p hp => (hsr.2.1 p hp).2.1
  have hok := zok_ps S nS hp8 A na
  have hw39 := zW39 hw
  have hv39 := zW39 hv
  refine x_wipe hP hK hRa hTx hl4 (fun I2 g g2 => h I2 L ?_ (fun a k q => g a k (by omega) (by omega)))
  exact ⟨zC_to hC (fun a q1 q2 k => g a k (by omega) (by omega)) hs6 hp8 hw6, zQt_fr hqt (fun k => g 37 k (by omega) (by omega)), zCs_to hcs (fun k => g 31 k (by omega) (by omega)) (fun k => g 32 k (by omega) (by omega)) (fun k => rfl) (fun k => rfl), zAn_to hA (fun x q1 q2 j => g x j (by omega) (by omega)), g2, (g 2 11 (by omega) (by omega)).trans hkp, fun q => zAn_to (hA1 q) (fun x q1 q2 j => g x j (by omega) (by omega)), fun q => zAn_to (hA2 q) (fun x q1 q2 j => g x j (by omega) (by omega))⟩
set_option maxRecDepth 4000 in
theorem p_fault {K : ZKh} {P : Nat → Nat → List Value → List Value → ZMi → ZMl → ZMr → ZRt → Prop} {I : ZMi} {L : ZMl} {R : ZMr} {Q : ZRt} (hP : ZCl K P) (hK : zKa K) {w v : Nat} (hRI : zRI R w v) {S : ZS} {nS nP nW len na kp n1 n2 : Nat} {T : Nat → Nat} {A A1 A2 : ZA} (hPI : zPI S nS nP nW len T na A kp n1 A1 n2 A2) (hCI : zCI I L w S nS nP nW len T na A kp n1 A1 n2 A2) (h : ∀ I2 L2, zCI I2 L2 w S nS nP nW len T na A kp n1 A1 n2 A2 → zfE I I2 → Q (some (.int (zU_ T len).1)) I2 L2 R) : P 72 0 [.ref 2] [] I L R Q := by
  obtain ⟨hRa, hRb, hl9, hl10, hw, hv, hwv⟩ := id hRI
  obtain ⟨hsr, ⟨hs1, hs6⟩, ⟨hp1, hp8⟩, hw6, hl4, h256, ⟨hn10, hAo⟩, hk2, hn1, hn2⟩ := id hPI
  obtain ⟨hC, hqt, hcs, hA, hTx, hkp, hA1, hA2⟩ := id hCI
  have hsg : ∀ p, p < nP → ∃ a, a < nS ∧ S 3 p 0 = nI a := fun p hp => (hsr.2.1 p hp).1
  have hkd : ∀ p, p < nP → ∃ a, a < 5 ∧ S 4 p 0 = nI a := fun p hp => (hsr.2.1 p hp).2.1
  have hok := zok_ps S nS hp8 A na
  have hw39 := zW39 hw
  have hv39 := zW39 hv
  have hdj : v + 40 ≤ w ∨ w + 40 ≤ v := by
    rcases hw with rfl | rfl <;> rcases hv with rfl | rfl <;> first | omega | exact absurd rfl hwv
  exact x_fault hP hK hRa hTx hl4 h256 hv hl10 (fun I2 g => h I2 L (zCI_to hCI hs6 hp8 hw6 (fun a k q => g a k (by omega) (by omega) (by omega)) (fun _ _ _ => rfl)) (fun a k q => g a k (by omega) (by omega) (by omega)))
set_option maxRecDepth 4000 in
theorem p_lay0 {K : ZKh} {P : Nat → Nat → List Value → List Value → ZMi → ZMl → ZMr → ZRt → Prop} {I : ZMi} {L : ZMl} {R : ZMr} {Q : ZRt} (hP : ZCl K P) (hK : zKa K) {w v : Nat} (hRI : zRI R w v) {S : ZS} {nS nP nW len na kp n1 n2 : Nat} {T : Nat → Nat} {A A1 A2 : ZA} (hPI : zPI S nS nP nW len T na A kp n1 A1 n2 A2) (hCI : zCI I L w S nS nP nW len T na A kp n1 A1 n2 A2) (hz : ¬ zlk (zU_ T len)) (h : ∀ I2 L2, zCI I2 L2 w S nS nP nW len T na A kp n1 A1 n2 A2 → zfE I I2 → Q (some (.int (-2))) I2 L2 R) : P 73 0 [.ref 2, .null] [] I L R Q := by
  obtain ⟨hRa, hRb, hl9, hl10, hw, hv, hwv⟩ := id hRI
  obtain ⟨hsr, ⟨hs1, hs6⟩, ⟨hp1, hp8⟩, hw6, hl4, h256, ⟨hn10, hAo⟩, hk2, hn1, hn2⟩ := id hPI
  obtain ⟨hC, hqt, hcs, hA, hTx, hkp, hA1, hA2⟩ := id hCI
  have hsg : ∀ p, p < nP → ∃ a, a < nS ∧ S 3 p 0 = nI a := fun p hp => (hsr.2.1 p hp).1
  have hkd : ∀ p, p < nP → ∃ a, a < 5 ∧ S 4 p 0 = nI a := fun p hp => (hsr.2.1 p hp).2.1
  have hok := zok_ps S nS hp8 A na
  have hw39 := zW39 hw
  have hv39 := zW39 hv
  have hdj : v + 40 ≤ w ∨ w + 40 ≤ v := by
    rcases hw with rfl | rfl <;> rcases hv with rfl | rfl <;> first | omega | exact absurd rfl hwv
  exact x_lay (A := A) hP hK hRa hTx hl4 h256 hw hv hl9 hl10 (fun p hp => (zrd_sr.2.1 p hp).1) (fun _ I2 g => h I2 L (zCI_to hCI hs6 hp8 hw6 (fun a k q => g a k (by omega) (by omega) (by omega)) (fun _ _ _ => rfl)) (fun a k q => g a k (by omega) (by omega) (by omega))) (fun q => absurd q hz)
set_option maxRecDepth 4000 in
theorem p_lay1 {K : ZKh} {P : Nat → Nat → List Value → List Value → ZMi → ZMl → ZMr → ZRt → Prop} {I : ZMi} {L : ZMl} {R : ZMr} {Q : ZRt} (hP : ZCl K P) (hK : zKa K) {w v : Nat} (hRI : zRI R w v) {S : ZS} {nS nP nW len na kp n1 n2 : Nat} {T : Nat → Nat} {A A1 A2 : ZA} (hPI : zPI S nS nP nW len T na A kp n1 A1 n2 A2) (hCI : zCI I L w S nS nP nW len T na A kp n1 A1 n2 A2) (hz : zlk (zU_ T len)) (h : ∀ I2 L2, zCI I2 L2 v (zU_ T len).2.1 (zU_ T len).2.2.1 (zU_ T len).2.2.2.1 (zU_ T len).2.2.2.2.1 len T 0 A 0 n1 A1 n2 A2 → (∀ a k, (a = 1 ∨ 119 ≤ a) → I2 a k = I a k) → Q (some (.int (nI (zU_ T len).2.2.2.1))) I2 L2 (zup (zup R 2 9 (v + 1)) 2 10 (w + 1))) : P 73 0 [.ref 2, .null] [] I L R Q := by
  obtain ⟨hRa, hRb, hl9, hl10, hw, hv, hwv⟩ := id hRI
  obtain ⟨hsr, ⟨hs1, hs6⟩, ⟨hp1, hp8⟩, hw6, hl4, h256, ⟨hn10, hAo⟩, hk2, hn1, hn2⟩ := id hPI
  obtain ⟨hC, hqt, hcs, hA, hTx, hkp, hA1, hA2⟩ := id hCI
  have hsg : ∀ p, p < nP → ∃ a, a < nS ∧ S 3 p 0 = nI a := fun p hp => (hsr.2.1 p hp).1
  have hkd : ∀ p, p < nP → ∃ a, a < 5 ∧ S 4 p 0 = nI a := fun p hp => (hsr.2.1 p hp).2.1
  have hok := zok_ps S nS hp8 A na
  have hw39 := zW39 hw
  have hv39 := zW39 hv
  exact x_lay (A := A) hP hK hRa hTx hl4 h256 hw hv hl9 hl10 (fun p hp => (zrd_sr.2.1 p hp).1) (fun q => absurd hz q) (fun _ I2 L2 g1 g2 g3 g4 g5 g6 g7 => h I2 L2 ⟨g7, g5, g6, g3, zTx_to hTx (g1 3 1 (by omega)) (fun k => g1 4 k (by omega)), g4, fun q => absurd q (by decide), fun q => absurd q (by decide)⟩ (fun a k q => g1 a k (by omega)))
set_option maxRecDepth 4000 in
theorem p_answer {K : ZKh} {P : Nat → Nat → List Value → List Value → ZMi → ZMl → ZMr → ZRt → Prop} {I : ZMi} {L : ZMl} {R : ZMr} {Q : ZRt} (hP : ZCl K P) (hK : zKa K) {w v : Nat} (hRI : zRI R w v) {S : ZS} {nS nP nW len na kp n1 n2 : Nat} {T : Nat → Nat} {A A1 A2 : ZA} (hPI : zPI S nS nP nW len T na A kp n1 A1 n2 A2) (hCI : zCI I L w S nS nP nW len T na A kp n1 A1 n2 A2) {k0 o0 m a0 : Int32} (h : ∀ I2 L2, zCI I2 L2 w S nS nP nW len T (zan nS nP na k0 o0 m a0) (zaA nS nP na A k0 o0 m a0) kp n1 A1 n2 A2 → zfE I I2 → Q (some (.int (f_answer nS nP na k0 o0 m a0))) I2 L2 R) : P 82 0 [.ref 2, .int k0, .int o0, .int m, .int a0] [] I L R Q := by
  obtain ⟨hRa, hRb, hl9, hl10, hw, hv, hwv⟩ := id hRI
  obtain ⟨hsr, ⟨hs1, hs6⟩, ⟨hp1, hp8⟩, hw6, hl4, h256, ⟨hn10, hAo⟩, hk2, hn1, hn2⟩ := id hPI
  obtain ⟨hC, hqt, hcs, hA, hTx, hkp, hA1, hA2⟩ := id hCI
  have hsg : ∀ p, p < nP → ∃ a, a < nS ∧ S 3 p 0 = nI a := fun p hp => (hsr.2.1 p hp).1
  have hkd : ∀ p, p < nP → ∃ a, a < 5 ∧ S 4 p 0 = nI a := fun p hp => (hsr.2.1 p hp).2.1
  have hok := zok_ps S nS hp8 A na
  have hw39 := zW39 hw
  have hv39 := zW39 hv
  exact x_answer2 hP hK hRa hw hC hp8 hs6 hw6 hs1 hp1 hsg hl9 hA hAo hn10 hcs (fun I2 L2 g1 g2 g3 g4 => h I2 L2 ⟨zC_fD hC g1 hw hs6 hp8 hw6, zQt_fr hqt (fun k => g1 37 k (by omega) (by omega) (by omega)), g4, g3, zTx_to hTx (g1 3 1 (by omega) (by omega) (by omega)) (fun k => g1 4 k (by omega) (by omega) (by omega)), (g1 2 11 (by omega) (by omega) (by omega)).trans hkp, fun q => zAn_to (hA1 q) (fun x q1 q2 j => g1 x j (by omega) (by omega) (by omega)), fun q => zAn_to (hA2 q) (fun x q1 q2 j => g1 x j (by omega) (by omega) (by omega))⟩ (fun a k q => g1 a k (by omega) (by omega) (by omega)))
set_option maxRecDepth 4000 in
theorem p_forget {K : ZKh} {P : Nat → Nat → List Value → List Value → ZMi → ZMl → ZMr → ZRt → Prop} {I : ZMi} {L : ZMl} {R : ZMr} {Q : ZRt} (hP : ZCl K P) (hK : zKa K) {w v : Nat} (hRI : zRI R w v) {S : ZS} {nS nP nW len na kp n1 n2 : Nat} {T : Nat → Nat} {A A1 A2 : ZA} (hPI : zPI S nS nP nW len T na A kp n1 A1 n2 A2) (hCI : zCI I L w S nS nP nW len T na A kp n1 A1 n2 A2) (h : ∀ I2 L2, zCI I2 L2 w S nS nP nW len T 0 A kp n1 A1 n2 A2 → zfE I I2 → Q (some (.int (nI na))) I2 L2 R) : P 83 0 [.ref 2, .null] [] I L R Q := by
  obtain ⟨hRa, hRb, hl9, hl10, hw, hv, hwv⟩ := id hRI
  obtain ⟨hsr, ⟨hs1, hs6⟩, ⟨hp1, hp8⟩, hw6, hl4, h256, ⟨hn10, hAo⟩, hk2, hn1, hn2⟩ := id hPI
  obtain ⟨hC, hqt, hcs, hA, hTx, hkp, hA1, hA2⟩ := id hCI
  have hsg : ∀ p, p < nP → ∃ a, a < nS ∧ S 3 p 0 = nI a := fun p hp => (hsr.2.1 p hp).1
  have hkd : ∀ p, p < nP → ∃ a, a < 5 ∧ S 4 p 0 = nI a := fun p hp => (hsr.2.1 p hp).2.1
  have hok := zok_ps S nS hp8 A na
  have hw39 := zW39 hw
  have hv39 := zW39 hv
  exact x_forget2 hP hK hRa hw hC hp8 hs6 hw6 hs1 hp1 hsg hl9 hA hAo hn10 (fun I2 L2 g1 g2 g3 g4 => h I2 L2 ⟨zC_fD hC g1 hw hs6 hp8 hw6, zQt_fr hqt (fun k => g1 37 k (by omega) (by omega) (by omega)), g4, g3, zTx_to hTx (g1 3 1 (by omega) (by omega) (by omega)) (fun k => g1 4 k (by omega) (by omega) (by omega)), (g1 2 11 (by omega) (by omega) (by omega)).trans hkp, fun q => zAn_to (hA1 q) (fun x q1 q2 j => g1 x j (by omega) (by omega) (by omega)), fun q => zAn_to (hA2 q) (fun x q1 q2 j => g1 x j (by omega) (by omega) (by omega))⟩ (fun a k q => g1 a k (by omega) (by omega) (by omega)))
set_option maxRecDepth 4000 in
theorem p_keep2 {K : ZKh} {P : Nat → Nat → List Value → List Value → ZMi → ZMl → ZMr → ZRt → Prop} {I : ZMi} {L : ZMl} {R : ZMr} {Q : ZRt} (hP : ZCl K P) (hK : zKa K) {w v : Nat} (hRI : zRI R w v) {S : ZS} {nS nP nW len na kp n1 n2 : Nat} {T : Nat → Nat} {A A1 A2 : ZA} (hPI : zPI S nS nP nW len T na A kp n1 A1 n2 A2) (hCI : zCI I L w S nS nP nW len T na A kp n1 A1 n2 A2) (hkk : kp = 2) (h : ∀ I2 L2, zCI I2 L2 w S nS nP nW len T na A kp n1 A1 n2 A2 → zfE I I2 → Q (some (.int (-3))) I2 L2 R) : P 95 0 [.ref 2] [] I L R Q := by
  obtain ⟨hRa, hRb, hl9, hl10, hw, hv, hwv⟩ := id hRI
  obtain ⟨hsr, ⟨hs1, hs6⟩, ⟨hp1, hp8⟩, hw6, hl4, h256, ⟨hn10, hAo⟩, hk2, hn1, hn2⟩ := id hPI
  obtain ⟨hC, hqt, hcs, hA, hTx, hkp, hA1, hA2⟩ := id hCI
  have hsg : ∀ p, p < nP → ∃ a, a < nS ∧ S 3 p 0 = nI a := fun p hp => (hsr.2.1 p hp).1
  have hkd : ∀ p, p < nP → ∃ a, a < 5 ∧ S 4 p 0 = nI a := fun p hp => (hsr.2.1 p hp).2.1
  have hok := zok_ps S nS hp8 A na
  have hw39 := zW39 hw
  have hv39 := zW39 hv
  subst hkk
  exact x_keep2 hP hK hRa hA hn10 hkp (h I L hCI (zfE_r I))
set_option maxRecDepth 4000 in
theorem p_keep0 {K : ZKh} {P : Nat → Nat → List Value → List Value → ZMi → ZMl → ZMr → ZRt → Prop} {I : ZMi} {L : ZMl} {R : ZMr} {Q : ZRt} (hP : ZCl K P) (hK : zKa K) {w v : Nat} (hRI : zRI R w v) {S : ZS} {nS nP nW len na kp n1 n2 : Nat} {T : Nat → Nat} {A A1 A2 : ZA} (hPI : zPI S nS nP nW len T na A kp n1 A1 n2 A2) (hCI : zCI I L w S nS nP nW len T na A kp n1 A1 n2 A2) (hkk : kp = 0) (h : ∀ I2 L2, zCI I2 L2 w S nS nP nW len T na A 1 na A n2 A2 → zfE I I2 → Q (some (.int 1)) I2 L2 R) : P 95 0 [.ref 2] [] I L R Q := by
  obtain ⟨hRa, hRb, hl9, hl10, hw, hv, hwv⟩ := id hRI
  obtain ⟨hsr, ⟨hs1, hs6⟩, ⟨hp1, hp8⟩, hw6, hl4, h256, ⟨hn10, hAo⟩, hk2, hn1, hn2⟩ := id hPI
  obtain ⟨hC, hqt, hcs, hA, hTx, hkp, hA1, hA2⟩ := id hCI
  have hsg : ∀ p, p < nP → ∃ a, a < nS ∧ S 3 p 0 = nI a := fun p hp => (hsr.2.1 p hp).1
  have hkd : ∀ p, p < nP → ∃ a, a < 5 ∧ S 4 p 0 = nI a := fun p hp => (hsr.2.1 p hp).2.1
  have hok := zok_ps S nS hp8 A na
  have hw39 := zW39 hw
  have hv39 := zW39 hv
  subst hkk
  exact x_keep0 hP hK hRa hA hn10 hkp (fun I2 g g2 g3 => h I2 L ⟨zC_to hC (fun a q1 q2 k => g a k (by omega) (by omega)) hs6 hp8 hw6, zQt_fr hqt (fun k => g 37 k (by omega) (by omega)), zCs_to hcs (fun k => g 31 k (by omega) (by omega)) (fun k => g 32 k (by omega) (by omega)) (fun k => rfl) (fun k => rfl), zAn_to hA (fun x q1 q2 j => g x j (by omega) (by omega)), zTx_to hTx (g 3 1 (by omega) (by omega)) (fun k => g 4 k (by omega) (by omega)), g3, fun _ => g2, fun q => absurd q (by decide)⟩ (fun a k q => g a k (by omega) (by omega)))
set_option maxRecDepth 4000 in
theorem p_keep1 {K : ZKh} {P : Nat → Nat → List Value → List Value → ZMi → ZMl → ZMr → ZRt → Prop} {I : ZMi} {L : ZMl} {R : ZMr} {Q : ZRt} (hP : ZCl K P) (hK : zKa K) {w v : Nat} (hRI : zRI R w v) {S : ZS} {nS nP nW len na kp n1 n2 : Nat} {T : Nat → Nat} {A A1 A2 : ZA} (hPI : zPI S nS nP nW len T na A kp n1 A1 n2 A2) (hCI : zCI I L w S nS nP nW len T na A kp n1 A1 n2 A2) (hkk : kp = 1) (h : ∀ I2 L2, zCI I2 L2 w S nS nP nW len T na A 2 n1 A1 na A → zfE I I2 → Q (some (.int 2)) I2 L2 R) : P 95 0 [.ref 2] [] I L R Q := by
  obtain ⟨hRa, hRb, hl9, hl10, hw, hv, hwv⟩ := id hRI
  obtain ⟨hsr, ⟨hs1, hs6⟩, ⟨hp1, hp8⟩, hw6, hl4, h256, ⟨hn10, hAo⟩, hk2, hn1, hn2⟩ := id hPI
  obtain ⟨hC, hqt, hcs, hA, hTx, hkp, hA1, hA2⟩ := id hCI
  have hsg : ∀ p, p < nP → ∃ a, a < nS ∧ S 3 p 0 = nI a := fun p hp => (hsr.2.1 p hp).1
  have hkd : ∀ p, p < nP → ∃ a, a < 5 ∧ S 4 p 0 = nI a := fun p hp => (hsr.2.1 p hp).2.1
  have hok := zok_ps S nS hp8 A na
  have hw39 := zW39 hw
  have hv39 := zW39 hv
  subst hkk
  exact x_keep1 hP hK hRa hA hn10 hkp (fun I2 g g2 g3 => h I2 L ⟨zC_to hC (fun a q1 q2 k => g a k (by omega) (by omega)) hs6 hp8 hw6, zQt_fr hqt (fun k => g 37 k (by omega) (by omega)), zCs_to hcs (fun k => g 31 k (by omega) (by omega)) (fun k => g 32 k (by omega) (by omega)) (fun k => rfl) (fun k => rfl), zAn_to hA (fun x q1 q2 j => g x j (by omega) (by omega)), zTx_to hTx (g 3 1 (by omega) (by omega)) (fun k => g 4 k (by omega) (by omega)), g3, fun _ => zAn_to (hA1 (by decide)) (fun x q1 q2 j => g x j (by omega) (by omega)), fun _ => g2⟩ (fun a k q => g a k (by omega) (by omega)))
set_option maxRecDepth 4000 in
theorem p_back0 {K : ZKh} {P : Nat → Nat → List Value → List Value → ZMi → ZMl → ZMr → ZRt → Prop} {I : ZMi} {L : ZMl} {R : ZMr} {Q : ZRt} (hP : ZCl K P) (hK : zKa K) {w v : Nat} (hRI : zRI R w v) {S : ZS} {nS nP nW len na kp n1 n2 : Nat} {T : Nat → Nat} {A A1 A2 : ZA} (hPI : zPI S nS nP nW len T na A kp n1 A1 n2 A2) (hCI : zCI I L w S nS nP nW len T na A kp n1 A1 n2 A2) (hkk : kp = 0) (h : ∀ I2 L2, zCI I2 L2 w S nS nP nW len T na A kp n1 A1 n2 A2 → zfE I I2 → Q (some (.int (-2))) I2 L2 R) : P 96 0 [.ref 2] [] I L R Q := by
  obtain ⟨hRa, hRb, hl9, hl10, hw, hv, hwv⟩ := id hRI
  obtain ⟨hsr, ⟨hs1, hs6⟩, ⟨hp1, hp8⟩, hw6, hl4, h256, ⟨hn10, hAo⟩, hk2, hn1, hn2⟩ := id hPI
  obtain ⟨hC, hqt, hcs, hA, hTx, hkp, hA1, hA2⟩ := id hCI
  have hsg : ∀ p, p < nP → ∃ a, a < nS ∧ S 3 p 0 = nI a := fun p hp => (hsr.2.1 p hp).1
  have hkd : ∀ p, p < nP → ∃ a, a < 5 ∧ S 4 p 0 = nI a := fun p hp => (hsr.2.1 p hp).2.1
  have hok := zok_ps S nS hp8 A na
  have hw39 := zW39 hw
  have hv39 := zW39 hv
  subst hkk
  exact x_back0 hP hK hRa hkp (h I L hCI (zfE_r I))
set_option maxRecDepth 4000 in
theorem p_back1 {K : ZKh} {P : Nat → Nat → List Value → List Value → ZMi → ZMl → ZMr → ZRt → Prop} {I : ZMi} {L : ZMl} {R : ZMr} {Q : ZRt} (hP : ZCl K P) (hK : zKa K) {w v : Nat} (hRI : zRI R w v) {S : ZS} {nS nP nW len na kp n1 n2 : Nat} {T : Nat → Nat} {A A1 A2 : ZA} (hPI : zPI S nS nP nW len T na A kp n1 A1 n2 A2) (hCI : zCI I L w S nS nP nW len T na A kp n1 A1 n2 A2) (hkk : kp = 1) (h : ∀ I2 L2, zCI I2 L2 w S nS nP nW len T n1 A1 0 n1 A1 n2 A2 → zfE I I2 → Q (some (.int 0)) I2 L2 R) : P 96 0 [.ref 2] [] I L R Q := by
  obtain ⟨hRa, hRb, hl9, hl10, hw, hv, hwv⟩ := id hRI
  obtain ⟨hsr, ⟨hs1, hs6⟩, ⟨hp1, hp8⟩, hw6, hl4, h256, ⟨hn10, hAo⟩, hk2, hn1, hn2⟩ := id hPI
  obtain ⟨hC, hqt, hcs, hA, hTx, hkp, hA1, hA2⟩ := id hCI
  have hsg : ∀ p, p < nP → ∃ a, a < nS ∧ S 3 p 0 = nI a := fun p hp => (hsr.2.1 p hp).1
  have hkd : ∀ p, p < nP → ∃ a, a < 5 ∧ S 4 p 0 = nI a := fun p hp => (hsr.2.1 p hp).2.1
  have hok := zok_ps S nS hp8 A na
  have hw39 := zW39 hw
  have hv39 := zW39 hv
  subst hkk
  exact x_back1 hP hK hRa hw hC hp8 hs6 hw6 hs1 hp1 hsg hl9 (hA1 (by decide)) (hn1 (by decide)).2 (hn1 (by decide)).1 hkp (fun I2 L2 g _ g2 g3 g4 => h I2 L2 ⟨zC_fB hC g hw hs6 hp8 hw6, zQt_fr hqt (fun k => g 37 k (by omega) (by omega) (by omega) (by omega)), g4, g2, zTx_to hTx (g 3 1 (by omega) (by omega) (by omega) (by omega)) (fun k => g 4 k (by omega) (by omega) (by omega) (by omega)), g3, fun q => absurd q (by decide), fun q => absurd q (by decide)⟩ (fun a k q => g a k (by omega) (by omega) (by omega) (by omega)))
set_option maxRecDepth 4000 in
theorem p_back2 {K : ZKh} {P : Nat → Nat → List Value → List Value → ZMi → ZMl → ZMr → ZRt → Prop} {I : ZMi} {L : ZMl} {R : ZMr} {Q : ZRt} (hP : ZCl K P) (hK : zKa K) {w v : Nat} (hRI : zRI R w v) {S : ZS} {nS nP nW len na kp n1 n2 : Nat} {T : Nat → Nat} {A A1 A2 : ZA} (hPI : zPI S nS nP nW len T na A kp n1 A1 n2 A2) (hCI : zCI I L w S nS nP nW len T na A kp n1 A1 n2 A2) (hkk : kp = 2) (h : ∀ I2 L2, zCI I2 L2 w S nS nP nW len T n2 A2 1 n1 A1 n2 A2 → zfE I I2 → Q (some (.int 1)) I2 L2 R) : P 96 0 [.ref 2] [] I L R Q := by
  obtain ⟨hRa, hRb, hl9, hl10, hw, hv, hwv⟩ := id hRI
  obtain ⟨hsr, ⟨hs1, hs6⟩, ⟨hp1, hp8⟩, hw6, hl4, h256, ⟨hn10, hAo⟩, hk2, hn1, hn2⟩ := id hPI
  obtain ⟨hC, hqt, hcs, hA, hTx, hkp, hA1, hA2⟩ := id hCI
  have hsg : ∀ p, p < nP → ∃ a, a < nS ∧ S 3 p 0 = nI a := fun p hp => (hsr.2.1 p hp).1
  have hkd : ∀ p, p < nP → ∃ a, a < 5 ∧ S 4 p 0 = nI a := fun p hp => (hsr.2.1 p hp).2.1
  have hok := zok_ps S nS hp8 A na
  have hw39 := zW39 hw
  have hv39 := zW39 hv
  subst hkk
  exact x_back2 hP hK hRa hw hC hp8 hs6 hw6 hs1 hp1 hsg hl9 (hA2 (by decide)) (hn2 (by decide)).2 (hn2 (by decide)).1 hkp (fun I2 L2 g _ g2 g3 g4 => h I2 L2 ⟨zC_fB hC g hw hs6 hp8 hw6, zQt_fr hqt (fun k => g 37 k (by omega) (by omega) (by omega) (by omega)), g4, g2, zTx_to hTx (g 3 1 (by omega) (by omega) (by omega) (by omega)) (fun k => g 4 k (by omega) (by omega) (by omega) (by omega)), g3, fun _ => zAn_to (hA1 (by decide)) (fun x q1 q2 j => g x j (by omega) (by omega) (by omega) (by omega)), fun q => absurd q (by decide)⟩ (fun a k q => g a k (by omega) (by omega) (by omega) (by omega)))
set_option maxRecDepth 4000 in
theorem q_part {K : ZKh} {P : Nat → Nat → List Value → List Value → ZMi → ZMl → ZMr → ZRt → Prop} {I : ZMi} {L : ZMl} {R : ZMr} {Q : ZRt} (hP : ZCl K P) (hKb : zKb K) (hRb : zRb R) {S : ZS} {nS nP nW len na kp n1 n2 : Nat} {T : Nat → Nat} {A A1 A2 : ZA} (hPI : zPI S nS nP nW len T na A kp n1 A1 n2 A2) (hMI : zMI I S nS nP nW len T na A kp n1 A1 n2 A2) {p x : Int32} (h : ∀ I2 L2, zMI I2 S nS nP nW len T na A kp n1 A1 n2 A2 → zfM I I2 → zfM L L2 → Q (some (.int (f_part S nP p x))) I2 L2 R) : P 129 0 [.ref 119, .int p, .int x] [] I L R Q := by
  obtain ⟨hsr, ⟨hs1, hs6⟩, ⟨hp1, hp8⟩, hw6, hl4, h256, ⟨hn10, hAo⟩, hk2, hn1, hn2⟩ := id hPI
  obtain ⟨hD, hA, hTm, hkp, hA1, hA2⟩ := id hMI
  exact y_part hP hKb hRb hD hs1 hp1 hp8 hs6 hw6 (h I L hMI (zfM_r I) (zfM_r L))
set_option maxRecDepth 4000 in
theorem q_hum {K : ZKh} {P : Nat → Nat → List Value → List Value → ZMi → ZMl → ZMr → ZRt → Prop} {I : ZMi} {L : ZMl} {R : ZMr} {Q : ZRt} (hP : ZCl K P) (hKb : zKb K) (hRb : zRb R) {S : ZS} {nS nP nW len na kp n1 n2 : Nat} {T : Nat → Nat} {A A1 A2 : ZA} (hPI : zPI S nS nP nW len T na A kp n1 A1 n2 A2) (hMI : zMI I S nS nP nW len T na A kp n1 A1 n2 A2) {x t0 m : Int32} (h : ∀ I2 L2, zMI I2 S nS nP nW len T na A kp n1 A1 n2 A2 → zfM I I2 → zfM L L2 → Q (some (.int (f_hum S nS nP x t0 m))) I2 L2 R) : P 134 0 [.ref 119, .int x, .int t0, .int m] [] I L R Q := by
  obtain ⟨hsr, ⟨hs1, hs6⟩, ⟨hp1, hp8⟩, hw6, hl4, h256, ⟨hn10, hAo⟩, hk2, hn1, hn2⟩ := id hPI
  obtain ⟨hD, hA, hTm, hkp, hA1, hA2⟩ := id hMI
  exact y_hum hP hKb hRb hD hs1 hp1 hp8 hs6 hw6 (h I L hMI (zfM_r I) (zfM_r L))
set_option maxRecDepth 4000 in
theorem q_in {K : ZKh} {P : Nat → Nat → List Value → List Value → ZMi → ZMl → ZMr → ZRt → Prop} {I : ZMi} {L : ZMl} {R : ZMr} {Q : ZRt} (hP : ZCl K P) (hKb : zKb K) (hRb : zRb R) {S : ZS} {nS nP nW len na kp n1 n2 : Nat} {T : Nat → Nat} {A A1 A2 : ZA} (hPI : zPI S nS nP nW len T na A kp n1 A1 n2 A2) (hMI : zMI I S nS nP nW len T na A kp n1 A1 n2 A2) {x s0 t0 m : Int32} (h : ∀ I2 L2, zMI I2 S nS nP nW len T na A kp n1 A1 n2 A2 → zfM I I2 → zfM L L2 → Q (some (.int (f_in S nS nP x s0 t0 m))) I2 L2 R) : P 135 0 [.ref 119, .int x, .int s0, .int t0, .int m] [] I L R Q := by
  obtain ⟨hsr, ⟨hs1, hs6⟩, ⟨hp1, hp8⟩, hw6, hl4, h256, ⟨hn10, hAo⟩, hk2, hn1, hn2⟩ := id hPI
  obtain ⟨hD, hA, hTm, hkp, hA1, hA2⟩ := id hMI
  exact y_in hP hKb hRb hD hs1 hp1 hp8 hs6 hw6 (h I L hMI (zfM_r I) (zfM_r L))
set_option maxRecDepth 4000 in
theorem q_heard {K : ZKh} {P : Nat → Nat → List Value → List Value → ZMi → ZMl → ZMr → ZRt → Prop} {I : ZMi} {L : ZMl} {R : ZMr} {Q : ZRt} (hP : ZCl K P) (hKb : zKb K) (hRb : zRb R) {S : ZS} {nS nP nW len na kp n1 n2 : Nat} {T : Nat → Nat} {A A1 A2 : ZA} (hPI : zPI S nS nP nW len T na A kp n1 A1 n2 A2) (hMI : zMI I S nS nP nW len T na A kp n1 A1 n2 A2) {x m y : Int32} (h : ∀ I2 L2, zMI I2 S nS nP nW len T na A kp n1 A1 n2 A2 → zfM I I2 → zfM L L2 → Q (some (.int (f_heard S nS nP x m y))) I2 L2 R) : P 136 0 [.ref 119, .int x, .int m, .int y, .null, .null] [] I L R Q := by
  obtain ⟨hsr, ⟨hs1, hs6⟩, ⟨hp1, hp8⟩, hw6, hl4, h256, ⟨hn10, hAo⟩, hk2, hn1, hn2⟩ := id hPI
  obtain ⟨hD, hA, hTm, hkp, hA1, hA2⟩ := id hMI
  exact y_heard hP hKb hRb hD hs1 hp1 hp8 hs6 hw6 (h I L hMI (zfM_r I) (zfM_r L))
set_option maxRecDepth 4000 in
theorem q_ask {K : ZKh} {P : Nat → Nat → List Value → List Value → ZMi → ZMl → ZMr → ZRt → Prop} {I : ZMi} {L : ZMl} {R : ZMr} {Q : ZRt} (hP : ZCl K P) (hKb : zKb K) (hRb : zRb R) {S : ZS} {nS nP nW len na kp n1 n2 : Nat} {T : Nat → Nat} {A A1 A2 : ZA} (hPI : zPI S nS nP nW len T na A kp n1 A1 n2 A2) (hMI : zMI I S nS nP nW len T na A kp n1 A1 n2 A2) {x k0 o0 m : Int32} (h : ∀ I2 L2, zMI I2 S nS nP nW len T na A kp n1 A1 n2 A2 → zfM I I2 → zfM L L2 → Q (some (.int (f_ask S nS nP x k0 o0 m))) I2 L2 R) : P 139 0 [.ref 119, .int x, .int k0, .int o0, .int m] [] I L R Q := by
  obtain ⟨hsr, ⟨hs1, hs6⟩, ⟨hp1, hp8⟩, hw6, hl4, h256, ⟨hn10, hAo⟩, hk2, hn1, hn2⟩ := id hPI
  obtain ⟨hD, hA, hTm, hkp, hA1, hA2⟩ := id hMI
  exact y_ask hP hKb hRb hD hs1 hp1 hp8 hs6 hw6 (h I L hMI (zfM_r I) (zfM_r L))
set_option maxRecDepth 4000 in
theorem q_risk {K : ZKh} {P : Nat → Nat → List Value → List Value → ZMi → ZMl → ZMr → ZRt → Prop} {I : ZMi} {L : ZMl} {R : ZMr} {Q : ZRt} (hP : ZCl K P) (hKb : zKb K) (hRb : zRb R) {S : ZS} {nS nP nW len na kp n1 n2 : Nat} {T : Nat → Nat} {A A1 A2 : ZA} (hPI : zPI S nS nP nW len T na A kp n1 A1 n2 A2) (hMI : zMI I S nS nP nW len T na A kp n1 A1 n2 A2) {k0 o0 : Int32} (h : ∀ I2 L2, zMI I2 S nS nP nW len T na A kp n1 A1 n2 A2 → zfM I I2 → zfM L L2 → Q (some (.int (f_risk S nS nP k0 o0))) I2 L2 R) : P 141 0 [.ref 119, .int k0, .int o0] [] I L R Q := by
  obtain ⟨hsr, ⟨hs1, hs6⟩, ⟨hp1, hp8⟩, hw6, hl4, h256, ⟨hn10, hAo⟩, hk2, hn1, hn2⟩ := id hPI
  obtain ⟨hD, hA, hTm, hkp, hA1, hA2⟩ := id hMI
  exact y_risk hP hKb hRb hD hs1 hp1 hp8 hs6 hw6 (h I L hMI (zfM_r I) (zfM_r L))
set_option maxRecDepth 4000 in
theorem q_volts {K : ZKh} {P : Nat → Nat → List Value → List Value → ZMi → ZMl → ZMr → ZRt → Prop} {I : ZMi} {L : ZMl} {R : ZMr} {Q : ZRt} (hP : ZCl K P) (hKb : zKb K) (hRb : zRb R) {S : ZS} {nS nP nW len na kp n1 n2 : Nat} {T : Nat → Nat} {A A1 A2 : ZA} (hPI : zPI S nS nP nW len T na A kp n1 A1 n2 A2) (hMI : zMI I S nS nP nW len T na A kp n1 A1 n2 A2) {p m : Int32} (h : ∀ I2 L2, zMI I2 S nS nP nW len T na A kp n1 A1 n2 A2 → zfM I I2 → zfM L L2 → Q (some (.int (f_volts S nP p m))) I2 L2 R) : P 143 0 [.ref 119, .int p, .int m] [] I L R Q := by
  obtain ⟨hsr, ⟨hs1, hs6⟩, ⟨hp1, hp8⟩, hw6, hl4, h256, ⟨hn10, hAo⟩, hk2, hn1, hn2⟩ := id hPI
  obtain ⟨hD, hA, hTm, hkp, hA1, hA2⟩ := id hMI
  exact y_volts hP hKb hRb hD hs1 hp1 hp8 hs6 hw6 (h I L hMI (zfM_r I) (zfM_r L))
set_option maxRecDepth 4000 in
theorem q_safe {K : ZKh} {P : Nat → Nat → List Value → List Value → ZMi → ZMl → ZMr → ZRt → Prop} {I : ZMi} {L : ZMl} {R : ZMr} {Q : ZRt} (hP : ZCl K P) (hKb : zKb K) (hRb : zRb R) {S : ZS} {nS nP nW len na kp n1 n2 : Nat} {T : Nat → Nat} {A A1 A2 : ZA} (hPI : zPI S nS nP nW len T na A kp n1 A1 n2 A2) (hMI : zMI I S nS nP nW len T na A kp n1 A1 n2 A2) (h : ∀ I2 L2, zMI I2 S nS nP nW len T na A kp n1 A1 n2 A2 → zfM I I2 → zfM L L2 → Q (some (.int (if zmx (zfst S) nP ≤ 999 then nI (zmx (zfst S) nP) else -4))) I2 L2 R) : P 144 0 [.ref 119, .null, .null, .null] [] I L R Q := by
  obtain ⟨hsr, ⟨hs1, hs6⟩, ⟨hp1, hp8⟩, hw6, hl4, h256, ⟨hn10, hAo⟩, hk2, hn1, hn2⟩ := id hPI
  obtain ⟨hD, hA, hTm, hkp, hA1, hA2⟩ := id hMI
  exact y_safe hP hKb hRb hD hs1 hp1 hp8 hs6 hw6 hsr (h I L hMI (zfM_r I) (zfM_r L))
set_option maxRecDepth 4000 in
theorem q_howls {K : ZKh} {P : Nat → Nat → List Value → List Value → ZMi → ZMl → ZMr → ZRt → Prop} {I : ZMi} {L : ZMl} {R : ZMr} {Q : ZRt} (hP : ZCl K P) (hKb : zKb K) (hRb : zRb R) {S : ZS} {nS nP nW len na kp n1 n2 : Nat} {T : Nat → Nat} {A A1 A2 : ZA} (hPI : zPI S nS nP nW len T na A kp n1 A1 n2 A2) (hMI : zMI I S nS nP nW len T na A kp n1 A1 n2 A2) (h : ∀ I2 L2, zMI I2 S nS nP nW len T na A kp n1 A1 n2 A2 → zfM I I2 → zfM L L2 → Q (some (.int (zhw S nS nW))) I2 L2 R) : P 166 0 [.ref 119, .null, .null, .null, .null, .null, .null, .null] [] I L R Q := by
  obtain ⟨hsr, ⟨hs1, hs6⟩, ⟨hp1, hp8⟩, hw6, hl4, h256, ⟨hn10, hAo⟩, hk2, hn1, hn2⟩ := id hPI
  obtain ⟨hD, hA, hTm, hkp, hA1, hA2⟩ := id hMI
  exact y_howls hP hKb hRb hD hs1 hp1 hp8 hs6 hw6 hsr.2.2.1 (h I L hMI (zfM_r I) (zfM_r L))
set_option maxRecDepth 4000 in
theorem q_goes {K : ZKh} {P : Nat → Nat → List Value → List Value → ZMi → ZMl → ZMr → ZRt → Prop} {I : ZMi} {L : ZMl} {R : ZMr} {Q : ZRt} (hP : ZCl K P) (hKb : zKb K) (hRb : zRb R) {S : ZS} {nS nP nW len na kp n1 n2 : Nat} {T : Nat → Nat} {A A1 A2 : ZA} (hPI : zPI S nS nP nW len T na A kp n1 A1 n2 A2) (hMI : zMI I S nS nP nW len T na A kp n1 A1 n2 A2) {p y : Int32} (h : ∀ I2 L2, zMI I2 S nS nP nW len T na A kp n1 A1 n2 A2 → zfM I I2 → zfM L L2 → Q (some (.int (f_goes S nP p y))) I2 L2 R) : P 168 0 [.ref 119, .int p, .int y] [] I L R Q := by
  obtain ⟨hsr, ⟨hs1, hs6⟩, ⟨hp1, hp8⟩, hw6, hl4, h256, ⟨hn10, hAo⟩, hk2, hn1, hn2⟩ := id hPI
  obtain ⟨hD, hA, hTm, hkp, hA1, hA2⟩ := id hMI
  exact y_goes hP hKb hRb hD hs1 hp1 hp8 hs6 hw6 hsr (h I L hMI (zfM_r I) (zfM_r L))
set_option maxRecDepth 4000 in
theorem q_set {K : ZKh} {P : Nat → Nat → List Value → List Value → ZMi → ZMl → ZMr → ZRt → Prop} {I : ZMi} {L : ZMl} {R : ZMr} {Q : ZRt} (hP : ZCl K P) (hKb : zKb K) (hRb : zRb R) {S : ZS} {nS nP nW len na kp n1 n2 : Nat} {T : Nat → Nat} {A A1 A2 : ZA} (hPI : zPI S nS nP nW len T na A kp n1 A1 n2 A2) (hMI : zMI I S nS nP nW len T na A kp n1 A1 n2 A2) {z : Int32} (h : ∀ I2 L2, zMI I2 S nS nP nW len T na A kp n1 A1 n2 A2 → zfM I I2 → zfM L L2 → Q (some (.int (f_set S nP z))) I2 L2 R) : P 170 0 [.ref 119, .int z, .null, .null, .null, .null] [] I L R Q := by
  obtain ⟨hsr, ⟨hs1, hs6⟩, ⟨hp1, hp8⟩, hw6, hl4, h256, ⟨hn10, hAo⟩, hk2, hn1, hn2⟩ := id hPI
  obtain ⟨hD, hA, hTm, hkp, hA1, hA2⟩ := id hMI
  exact y_set hP hKb hRb hD hs1 hp1 hp8 hs6 hw6 (h I L hMI (zfM_r I) (zfM_r L))
set_option maxRecDepth 4000 in
theorem q_louder {K : ZKh} {P : Nat → Nat → List Value → List Value → ZMi → ZMl → ZMr → ZRt → Prop} {I : ZMi} {L : ZMl} {R : ZMr} {Q : ZRt} (hP : ZCl K P) (hKb : zKb K) (hRb : zRb R) {S : ZS} {nS nP nW len na kp n1 n2 : Nat} {T : Nat → Nat} {A A1 A2 : ZA} (hPI : zPI S nS nP nW len T na A kp n1 A1 n2 A2) (hMI : zMI I S nS nP nW len T na A kp n1 A1 n2 A2) {x : Int32} (h : ∀ I2 L2, zMI I2 S nS nP nW len T na A kp n1 A1 n2 A2 → zfM I I2 → zfM L L2 → Q (some (.int (f_louder S nS nP x))) I2 L2 R) : P 165 0 [.ref 119, .int x, .null, .null] [] I L R Q := by
  obtain ⟨hsr, ⟨hs1, hs6⟩, ⟨hp1, hp8⟩, hw6, hl4, h256, ⟨hn10, hAo⟩, hk2, hn1, hn2⟩ := id hPI
  obtain ⟨hD, hA, hTm, hkp, hA1, hA2⟩ := id hMI
  exact y_louder hP hKb hRb hD hs1 hp1 hp8 hs6 hw6 (h I L hMI (zfM_r I) (zfM_r L))
set_option maxRecDepth 4000 in
theorem q_ntg {K : ZKh} {P : Nat → Nat → List Value → List Value → ZMi → ZMl → ZMr → ZRt → Prop} {I : ZMi} {L : ZMl} {R : ZMr} {Q : ZRt} (hP : ZCl K P) (hKb : zKb K) (hRb : zRb R) {S : ZS} {nS nP nW len na kp n1 n2 : Nat} {T : Nat → Nat} {A A1 A2 : ZA} (hPI : zPI S nS nP nW len T na A kp n1 A1 n2 A2) (hMI : zMI I S nS nP nW len T na A kp n1 A1 n2 A2) {y : Int32} (h : ∀ I2 L2, zMI I2 S nS nP nW len T na A kp n1 A1 n2 A2 → zfM I I2 → zfM L L2 → Q (some (.int (f_ntg S nP y))) I2 L2 R) : P 169 0 [.ref 119, .int y, .null, .null] [] I L R Q := by
  obtain ⟨hsr, ⟨hs1, hs6⟩, ⟨hp1, hp8⟩, hw6, hl4, h256, ⟨hn10, hAo⟩, hk2, hn1, hn2⟩ := id hPI
  obtain ⟨hD, hA, hTm, hkp, hA1, hA2⟩ := id hMI
  exact y_ntg hP hKb hRb hD hs1 hp1 hp8 hs6 hw6 hsr (h I L hMI (zfM_r I) (zfM_r L))
set_option maxRecDepth 4000 in
theorem q_possible {K : ZKh} {P : Nat → Nat → List Value → List Value → ZMi → ZMl → ZMr → ZRt → Prop} {I : ZMi} {L : ZMl} {R : ZMr} {Q : ZRt} (hP : ZCl K P) (hKb : zKb K) (hRb : zRb R) {S : ZS} {nS nP nW len na kp n1 n2 : Nat} {T : Nat → Nat} {A A1 A2 : ZA} (hPI : zPI S nS nP nW len T na A kp n1 A1 n2 A2) (hMI : zMI I S nS nP nW len T na A kp n1 A1 n2 A2) {x : Int32} (h : ∀ I2 L2, zMI I2 S nS nP nW len T na A kp n1 A1 n2 A2 → zfM I I2 → zfM L L2 → Q (some (.long (f_poss S nP (zps S nS nP A na) x))) I2 L2 R) : P 152 0 [.ref 119, .int x] [] I L R Q := by
  obtain ⟨hsr, ⟨hs1, hs6⟩, ⟨hp1, hp8⟩, hw6, hl4, h256, ⟨hn10, hAo⟩, hk2, hn1, hn2⟩ := id hPI
  obtain ⟨hD, hA, hTm, hkp, hA1, hA2⟩ := id hMI
  exact y_possible hP hKb hRb hD hs1 hp1 hp8 hs6 hw6 hA hAo hn10 (fun I2 L2 g g2 => h I2 L2 (zMI_to hMI hPI (fun a k q => g a k (by omega) (by omega))) (fun a k q => g a k (by omega) (by omega)) (fun a k q => g2 a (by omega) k))
set_option maxRecDepth 4000 in
theorem q_likeliest {K : ZKh} {P : Nat → Nat → List Value → List Value → ZMi → ZMl → ZMr → ZRt → Prop} {I : ZMi} {L : ZMl} {R : ZMr} {Q : ZRt} (hP : ZCl K P) (hKb : zKb K) (hRb : zRb R) {S : ZS} {nS nP nW len na kp n1 n2 : Nat} {T : Nat → Nat} {A A1 A2 : ZA} (hPI : zPI S nS nP nW len T na A kp n1 A1 n2 A2) (hMI : zMI I S nS nP nW len T na A kp n1 A1 n2 A2) (h : ∀ I2 L2, zMI I2 S nS nP nW len T na A kp n1 A1 n2 A2 → zfM I I2 → zfM L L2 → Q (some (.int (zhv S nP (zps S nS nP A na)).1)) I2 L2 R) : P 155 0 [.ref 119, .null, .null] [] I L R Q := by
  obtain ⟨hsr, ⟨hs1, hs6⟩, ⟨hp1, hp8⟩, hw6, hl4, h256, ⟨hn10, hAo⟩, hk2, hn1, hn2⟩ := id hPI
  obtain ⟨hD, hA, hTm, hkp, hA1, hA2⟩ := id hMI
  exact y_likeliest hP hKb hRb hD hs1 hp1 hp8 hs6 hw6 hA hAo hn10 (fun I2 L2 g g2 => h I2 L2 (zMI_to hMI hPI (fun a k q => g a k (by omega) (by omega))) (fun a k q => g a k (by omega) (by omega)) (fun a k q => g2 a (by omega) k))
set_option maxRecDepth 4000 in
theorem q_odds {K : ZKh} {P : Nat → Nat → List Value → List Value → ZMi → ZMl → ZMr → ZRt → Prop} {I : ZMi} {L : ZMl} {R : ZMr} {Q : ZRt} (hP : ZCl K P) (hKb : zKb K) (hRb : zRb R) {S : ZS} {nS nP nW len na kp n1 n2 : Nat} {T : Nat → Nat} {A A1 A2 : ZA} (hPI : zPI S nS nP nW len T na A kp n1 A1 n2 A2) (hMI : zMI I S nS nP nW len T na A kp n1 A1 n2 A2) {p y : Int32} (h : ∀ I2 L2, zMI I2 S nS nP nW len T na A kp n1 A1 n2 A2 → zfM I I2 → zfM L L2 → Q (some (.long (f_odds S nP (zps S nS nP A na) p y))) I2 L2 R) : P 154 0 [.ref 119, .int p, .int y, .null, .null, .null, .null] [] I L R Q := by
  obtain ⟨hsr, ⟨hs1, hs6⟩, ⟨hp1, hp8⟩, hw6, hl4, h256, ⟨hn10, hAo⟩, hk2, hn1, hn2⟩ := id hPI
  obtain ⟨hD, hA, hTm, hkp, hA1, hA2⟩ := id hMI
  exact y_odds hP hKb hRb hD hs1 hp1 hp8 hs6 hw6 hsr hA hAo hn10 (fun I2 L2 g g2 => h I2 L2 (zMI_to hMI hPI (fun a k q => g a k (by omega) (by omega))) (fun a k q => g a k (by omega) (by omega)) (fun a k q => g2 a (by omega) k))
set_option maxRecDepth 4000 in
theorem q_change {K : ZKh} {P : Nat → Nat → List Value → List Value → ZMi → ZMl → ZMr → ZRt → Prop} {I : ZMi} {L : ZMl} {R : ZMr} {Q : ZRt} (hP : ZCl K P) (hKb : zKb K) (hRb : zRb R) {S : ZS} {nS nP nW len na kp n1 n2 : Nat} {T : Nat → Nat} {A A1 A2 : ZA} (hPI : zPI S nS nP nW len T na A kp n1 A1 n2 A2) (hMI : zMI I S nS nP nW len T na A kp n1 A1 n2 A2) {q y : Int32} (h : ∀ I2 L2, zMI I2 S nS nP nW len T na A kp n1 A1 n2 A2 → zfM I I2 → zfM L L2 → Q (some (.int (f_change S nS nP (zps S nS nP A na) q y))) I2 L2 R) : P 161 0 [.ref 119, .int q, .int y, .null, .null, .null, .null, .null] [] I L R Q := by
  obtain ⟨hsr, ⟨hs1, hs6⟩, ⟨hp1, hp8⟩, hw6, hl4, h256, ⟨hn10, hAo⟩, hk2, hn1, hn2⟩ := id hPI
  obtain ⟨hD, hA, hTm, hkp, hA1, hA2⟩ := id hMI
  exact y_change hP hKb hRb hD hs1 hp1 hp8 hs6 hw6 hA hAo hn10 (fun I2 L2 g g2 => h I2 L2 (zMI_to hMI hPI (fun a k q => g a k (by omega) (by omega))) (fun a k q => g a k (by omega) (by omega)) (fun a k q => g2 a (by omega) k))
set_option maxRecDepth 4000 in
theorem q_obo {K : ZKh} {P : Nat → Nat → List Value → List Value → ZMi → ZMl → ZMr → ZRt → Prop} {I : ZMi} {L : ZMl} {R : ZMr} {Q : ZRt} (hP : ZCl K P) (hKb : zKb K) (hRb : zRb R) {S : ZS} {nS nP nW len na kp n1 n2 : Nat} {T : Nat → Nat} {A A1 A2 : ZA} (hPI : zPI S nS nP nW len T na A kp n1 A1 n2 A2) (hMI : zMI I S nS nP nW len T na A kp n1 A1 n2 A2) {y : Int32} (h : ∀ I2 L2, zMI I2 S nS nP nW len T na A kp n1 A1 n2 A2 → zfM I I2 → zfM L L2 → Q (some (.long (f_obo S nS nP (zps S nS nP A na) y))) I2 L2 R) : P 164 0 [.ref 119, .int y] [] I L R Q := by
  obtain ⟨hsr, ⟨hs1, hs6⟩, ⟨hp1, hp8⟩, hw6, hl4, h256, ⟨hn10, hAo⟩, hk2, hn1, hn2⟩ := id hPI
  obtain ⟨hD, hA, hTm, hkp, hA1, hA2⟩ := id hMI
  exact y_obo hP hKb hRb hD hs1 hp1 hp8 hs6 hw6 hsr hA hAo hn10 (fun I2 L2 g g2 => h I2 L2 (zMI_to hMI hPI (fun a k q => g a k (by omega) (by omega) (by omega))) (fun a k q => g a k (by omega) (by omega) (by omega)) (fun a k q => g2 a (by omega) (by omega) k))
set_option maxRecDepth 4000 in
theorem q_next {K : ZKh} {P : Nat → Nat → List Value → List Value → ZMi → ZMl → ZMr → ZRt → Prop} {I : ZMi} {L : ZMl} {R : ZMr} {Q : ZRt} (hP : ZCl K P) (hKb : zKb K) (hRb : zRb R) {S : ZS} {nS nP nW len na kp n1 n2 : Nat} {T : Nat → Nat} {A A1 A2 : ZA} (hPI : zPI S nS nP nW len T na A kp n1 A1 n2 A2) (hMI : zMI I S nS nP nW len T na A kp n1 A1 n2 A2) {m y : Int32} (h : ∀ I2 L2, zMI I2 S nS nP nW len T na A kp n1 A1 n2 A2 → zfM I I2 → zfM L L2 → Q (some (.long (f_next S nS nP (zps S nS nP A na) m y))) I2 L2 R) : P 158 0 [.ref 119, .int m, .int y, .null, .null, .null, .null, .null, .null, .null, .null, .null] [] I L R Q := by
  obtain ⟨hsr, ⟨hs1, hs6⟩, ⟨hp1, hp8⟩, hw6, hl4, h256, ⟨hn10, hAo⟩, hk2, hn1, hn2⟩ := id hPI
  obtain ⟨hD, hA, hTm, hkp, hA1, hA2⟩ := id hMI
  exact y_next hP hKb hRb hD hs1 hp1 hp8 hs6 hw6 hsr hA hAo hn10 (fun I2 L2 g g2 => h I2 L2 (zMI_to hMI hPI (fun a k q => g a k (by omega) (by omega))) (fun a k q => g a k (by omega) (by omega)) (fun a k q => g2 a (by omega) (by omega) k))
set_option maxRecDepth 4000 in
theorem q_count {K : ZKh} {P : Nat → Nat → List Value → List Value → ZMi → ZMl → ZMr → ZRt → Prop} {I : ZMi} {L : ZMl} {R : ZMr} {Q : ZRt} (hP : ZCl K P) (hKb : zKb K) (hRb : zRb R) {S : ZS} {nS nP nW len na kp n1 n2 : Nat} {T : Nat → Nat} {A A1 A2 : ZA} (hPI : zPI S nS nP nW len T na A kp n1 A1 n2 A2) (hMI : zMI I S nS nP nW len T na A kp n1 A1 n2 A2) {x : Int32} (h : ∀ I2 L2, zMI I2 S nS nP nW len T na A kp n1 A1 n2 A2 → zfM I I2 → zfM L L2 → Q (some (.int (f_count nS nP len na kp x))) I2 L2 R) : P 174 0 [.ref 119, .int x] [] I L R Q := by
  obtain ⟨hsr, ⟨hs1, hs6⟩, ⟨hp1, hp8⟩, hw6, hl4, h256, ⟨hn10, hAo⟩, hk2, hn1, hn2⟩ := id hPI
  obtain ⟨hD, hA, hTm, hkp, hA1, hA2⟩ := id hMI
  exact y_count hP hKb hRb hD hs1 hp1 hp8 hs6 hw6 hTm hA hkp (h I L hMI (zfM_r I) (zfM_r L))
set_option maxRecDepth 4000 in
theorem q_write {K : ZKh} {P : Nat → Nat → List Value → List Value → ZMi → ZMl → ZMr → ZRt → Prop} {I : ZMi} {L : ZMl} {R : ZMr} {Q : ZRt} (hP : ZCl K P) (hKb : zKb K) (hRb : zRb R) {S : ZS} {nS nP nW len na kp n1 n2 : Nat} {T : Nat → Nat} {A A1 A2 : ZA} (hPI : zPI S nS nP nW len T na A kp n1 A1 n2 A2) (hMI : zMI I S nS nP nW len T na A kp n1 A1 n2 A2) {n0 : Int32} {x : Int64} (h : ∀ I2 L2, zMI I2 S nS nP nW (zwn len n0) (zwT T len n0 x) na A kp n1 A1 n2 A2 → zfM I I2 → zfM L L2 → Q (some (.int (f_write len n0))) I2 L2 R) : P 110 0 [.ref 119, .int n0, .long x, .null, .null] [] I L R Q := by
  obtain ⟨hsr, ⟨hs1, hs6⟩, ⟨hp1, hp8⟩, hw6, hl4, h256, ⟨hn10, hAo⟩, hk2, hn1, hn2⟩ := id hPI
  obtain ⟨hD, hA, hTm, hkp, hA1, hA2⟩ := id hMI
  exact y_write hP hKb hRb hTm hl4 (fun I2 g g2 => h I2 L ⟨zD_to hD (fun a q1 q2 k => g a k (by omega) (by omega)), zAmb_0.mp (zAmb_to (zAmb_0.mpr hA) hn10 (g 143 0 (by omega) (by omega)) (fun x j q1 q2 _ _ => g x j (by omega) (by omega))), g2, (g 119 29 (by omega) (by omega)).trans hkp, fun q => zAmb_to (hA1 q) (hn1 q).1 (g 143 1 (by omega) (by omega)) (fun x j q1 q2 _ _ => g x j (by omega) (by omega)), fun q => zAmb_to (hA2 q) (hn2 q).1 (g 143 2 (by omega) (by omega)) (fun x j q1 q2 _ _ => g x j (by omega) (by omega))⟩ (fun a k q => g a k (by omega) (by omega)) (zfM_r L))
set_option maxRecDepth 4000 in
theorem q_wipe {K : ZKh} {P : Nat → Nat → List Value → List Value → ZMi → ZMl → ZMr → ZRt → Prop} {I : ZMi} {L : ZMl} {R : ZMr} {Q : ZRt} (hP : ZCl K P) (hKb : zKb K) (hRb : zRb R) {S : ZS} {nS nP nW len na kp n1 n2 : Nat} {T : Nat → Nat} {A A1 A2 : ZA} (hPI : zPI S nS nP nW len T na A kp n1 A1 n2 A2) (hMI : zMI I S nS nP nW len T na A kp n1 A1 n2 A2) (h : ∀ I2 L2, zMI I2 S nS nP nW 0 T na A kp n1 A1 n2 A2 → zfM I I2 → zfM L L2 → Q (some (.int (nI len))) I2 L2 R) : P 111 0 [.ref 119, .null] [] I L R Q := by
  obtain ⟨hsr, ⟨hs1, hs6⟩, ⟨hp1, hp8⟩, hw6, hl4, h256, ⟨hn10, hAo⟩, hk2, hn1, hn2⟩ := id hPI
  obtain ⟨hD, hA, hTm, hkp, hA1, hA2⟩ := id hMI
  exact y_wipe hP hKb hRb hTm hl4 (fun I2 g g2 => h I2 L ⟨zD_to hD (fun a q1 q2 k => g a k (by omega) (by omega)), zAmb_0.mp (zAmb_to (zAmb_0.mpr hA) hn10 (g 143 0 (by omega) (by omega)) (fun x j q1 q2 _ _ => g x j (by omega) (by omega))), g2, (g 119 29 (by omega) (by omega)).trans hkp, fun q => zAmb_to (hA1 q) (hn1 q).1 (g 143 1 (by omega) (by omega)) (fun x j q1 q2 _ _ => g x j (by omega) (by omega)), fun q => zAmb_to (hA2 q) (hn2 q).1 (g 143 2 (by omega) (by omega)) (fun x j q1 q2 _ _ => g x j (by omega) (by omega))⟩ (fun a k q => g a k (by omega) (by omega)) (zfM_r L))
set_option maxRecDepth 4000 in
theorem q_fault {K : ZKh} {P : Nat → Nat → List Value → List Value → ZMi → ZMl → ZMr → ZRt → Prop} {I : ZMi} {L : ZMl} {R : ZMr} {Q : ZRt} (hP : ZCl K P) (hKb : zKb K) (hRb : zRb R) {S : ZS} {nS nP nW len na kp n1 n2 : Nat} {T : Nat → Nat} {A A1 A2 : ZA} (hPI : zPI S nS nP nW len T na A kp n1 A1 n2 A2) (hMI : zMI I S nS nP nW len T na A kp n1 A1 n2 A2) (h : ∀ I2 L2, zMI I2 S nS nP nW len T na A kp n1 A1 n2 A2 → zfM I I2 → zfM L L2 → Q (some (.int (zU_ T len).1)) I2 L2 R) : P 123 0 [.ref 119] [] I L R Q := by
  obtain ⟨hsr, ⟨hs1, hs6⟩, ⟨hp1, hp8⟩, hw6, hl4, h256, ⟨hn10, hAo⟩, hk2, hn1, hn2⟩ := id hPI
  obtain ⟨hD, hA, hTm, hkp, hA1, hA2⟩ := id hMI
  exact y_fault hP hKb hRb hTm hl4 h256 (fun I2 g => h I2 L (zMI_V hMI hPI g) (fun a k q => g a k (by omega) (by omega) (by omega)) (zfM_r L))
set_option maxRecDepth 4000 in
theorem q_lay0 {K : ZKh} {P : Nat → Nat → List Value → List Value → ZMi → ZMl → ZMr → ZRt → Prop} {I : ZMi} {L : ZMl} {R : ZMr} {Q : ZRt} (hP : ZCl K P) (hKb : zKb K) (hRb : zRb R) {S : ZS} {nS nP nW len na kp n1 n2 : Nat} {T : Nat → Nat} {A A1 A2 : ZA} (hPI : zPI S nS nP nW len T na A kp n1 A1 n2 A2) (hMI : zMI I S nS nP nW len T na A kp n1 A1 n2 A2) (hz : ¬ zlk (zU_ T len)) (h : ∀ I2 L2, zMI I2 S nS nP nW len T na A kp n1 A1 n2 A2 → zfM I I2 → zfM L L2 → Q (some (.int (-2))) I2 L2 R) : P 124 0 [.ref 119, .null] [] I L R Q := by
  obtain ⟨hsr, ⟨hs1, hs6⟩, ⟨hp1, hp8⟩, hw6, hl4, h256, ⟨hn10, hAo⟩, hk2, hn1, hn2⟩ := id hPI
  obtain ⟨hD, hA, hTm, hkp, hA1, hA2⟩ := id hMI
  exact y_lay hP hKb hRb hTm hl4 h256 (fun _ I2 g => h I2 L (zMI_V hMI hPI g) (fun a k q => g a k (by omega) (by omega) (by omega)) (zfM_r L)) (fun q => absurd q hz)
set_option maxRecDepth 4000 in
theorem q_lay1 {K : ZKh} {P : Nat → Nat → List Value → List Value → ZMi → ZMl → ZMr → ZRt → Prop} {I : ZMi} {L : ZMl} {R : ZMr} {Q : ZRt} (hP : ZCl K P) (hKb : zKb K) (hRb : zRb R) {S : ZS} {nS nP nW len na kp n1 n2 : Nat} {T : Nat → Nat} {A A1 A2 : ZA} (hPI : zPI S nS nP nW len T na A kp n1 A1 n2 A2) (hMI : zMI I S nS nP nW len T na A kp n1 A1 n2 A2) (hz : zlk (zU_ T len)) (h : ∀ I2 L2, zMI I2 (zU_ T len).2.1 (zU_ T len).2.2.1 (zU_ T len).2.2.2.1 (zU_ T len).2.2.2.2.1 len T 0 A 0 n1 A1 n2 A2 → zfM I I2 → zfM L L2 → Q (some (.int (nI (zU_ T len).2.2.2.1))) I2 L2 R) : P 124 0 [.ref 119, .null] [] I L R Q := by
  obtain ⟨hsr, ⟨hs1, hs6⟩, ⟨hp1, hp8⟩, hw6, hl4, h256, ⟨hn10, hAo⟩, hk2, hn1, hn2⟩ := id hPI
  obtain ⟨hD, hA, hTm, hkp, hA1, hA2⟩ := id hMI
  exact y_lay hP hKb hRb hTm hl4 h256 (fun q => absurd hz q) (fun _ I2 g g2 g3 g4 => h I2 L ⟨g2, ⟨g3, fun i hi => absurd hi (Nat.not_lt_zero i)⟩, zTm_to hTm (g 119 0 (by omega) (by omega) (by omega) (by omega) (by omega)) (fun k => g 120 k (by omega) (by omega) (by omega) (by omega) (by omega)), g4, fun q => absurd q (by decide), fun q => absurd q (by decide)⟩ (fun a k q => g a k (by omega) (by omega) (by omega) (by omega) (by omega)) (zfM_r L))
set_option maxRecDepth 4000 in
theorem q_answer {K : ZKh} {P : Nat → Nat → List Value → List Value → ZMi → ZMl → ZMr → ZRt → Prop} {I : ZMi} {L : ZMl} {R : ZMr} {Q : ZRt} (hP : ZCl K P) (hKb : zKb K) (hRb : zRb R) {S : ZS} {nS nP nW len na kp n1 n2 : Nat} {T : Nat → Nat} {A A1 A2 : ZA} (hPI : zPI S nS nP nW len T na A kp n1 A1 n2 A2) (hMI : zMI I S nS nP nW len T na A kp n1 A1 n2 A2) {k0 o0 m a0 : Int32} (h : ∀ I2 L2, zMI I2 S nS nP nW len T (zan nS nP na k0 o0 m a0) (zaA nS nP na A k0 o0 m a0) kp n1 A1 n2 A2 → zfM I I2 → zfM L L2 → Q (some (.int (f_answer nS nP na k0 o0 m a0))) I2 L2 R) : P 150 0 [.ref 119, .int k0, .int o0, .int m, .int a0, .null] [] I L R Q := by
  obtain ⟨hsr, ⟨hs1, hs6⟩, ⟨hp1, hp8⟩, hw6, hl4, h256, ⟨hn10, hAo⟩, hk2, hn1, hn2⟩ := id hPI
  obtain ⟨hD, hA, hTm, hkp, hA1, hA2⟩ := id hMI
  exact y_answer hP hKb hRb hD hs1 hp1 hp8 hs6 hw6 hA hn10 (fun I2 g g2 => h I2 L ⟨zD_to hD (fun a q1 q2 k => g a k (by omega) (by omega)), g2, zTm_to hTm (g 119 0 (by omega) (by omega)) (fun k => g 120 k (by omega) (by omega)), (g 119 29 (by omega) (by omega)).trans hkp, fun q => zAmb_to (hA1 q) (hn1 q).1 (g 143 1 (by omega) (by omega)) (fun x j q1 q2 _ _ => g x j (by omega) (by omega)), fun q => zAmb_to (hA2 q) (hn2 q).1 (g 143 2 (by omega) (by omega)) (fun x j q1 q2 _ _ => g x j (by omega) (by omega))⟩ (fun a k q => g a k (by omega) (by omega)) (zfM_r L))
set_option maxRecDepth 4000 in
theorem q_forget {K : ZKh} {P : Nat → Nat → List Value → List Value → ZMi → ZMl → ZMr → ZRt → Prop} {I : ZMi} {L : ZMl} {R : ZMr} {Q : ZRt} (hP : ZCl K P) (hKb : zKb K) (hRb : zRb R) {S : ZS} {nS nP nW len na kp n1 n2 : Nat} {T : Nat → Nat} {A A1 A2 : ZA} (hPI : zPI S nS nP nW len T na A kp n1 A1 n2 A2) (hMI : zMI I S nS nP nW len T na A kp n1 A1 n2 A2) (h : ∀ I2 L2, zMI I2 S nS nP nW len T 0 A kp n1 A1 n2 A2 → zfM I I2 → zfM L L2 → Q (some (.int (nI na))) I2 L2 R) : P 151 0 [.ref 119, .null] [] I L R Q := by
  obtain ⟨hsr, ⟨hs1, hs6⟩, ⟨hp1, hp8⟩, hw6, hl4, h256, ⟨hn10, hAo⟩, hk2, hn1, hn2⟩ := id hPI
  obtain ⟨hD, hA, hTm, hkp, hA1, hA2⟩ := id hMI
  exact y_forget hP hKb hRb hA (fun I2 g g2 => h I2 L ⟨zD_to hD (fun a q1 q2 k => g a k (by omega)), g2, zTm_to hTm (g 119 0 (by omega)) (fun k => g 120 k (by omega)), (g 119 29 (by omega)).trans hkp, fun q => zAmb_to (hA1 q) (hn1 q).1 (g 143 1 (by omega)) (fun x j q1 q2 _ _ => g x j (by omega)), fun q => zAmb_to (hA2 q) (hn2 q).1 (g 143 2 (by omega)) (fun x j q1 q2 _ _ => g x j (by omega))⟩ (fun a k q => g a k (by omega)) (zfM_r L))
set_option maxRecDepth 4000 in
theorem q_keep2 {K : ZKh} {P : Nat → Nat → List Value → List Value → ZMi → ZMl → ZMr → ZRt → Prop} {I : ZMi} {L : ZMl} {R : ZMr} {Q : ZRt} (hP : ZCl K P) (hKb : zKb K) (hRb : zRb R) {S : ZS} {nS nP nW len na kp n1 n2 : Nat} {T : Nat → Nat} {A A1 A2 : ZA} (hPI : zPI S nS nP nW len T na A kp n1 A1 n2 A2) (hMI : zMI I S nS nP nW len T na A kp n1 A1 n2 A2) (hkk : kp = 2) (h : ∀ I2 L2, zMI I2 S nS nP nW len T na A kp n1 A1 n2 A2 → zfM I I2 → zfM L L2 → Q (some (.int (-3))) I2 L2 R) : P 172 0 [.ref 119] [] I L R Q := by
  obtain ⟨hsr, ⟨hs1, hs6⟩, ⟨hp1, hp8⟩, hw6, hl4, h256, ⟨hn10, hAo⟩, hk2, hn1, hn2⟩ := id hPI
  obtain ⟨hD, hA, hTm, hkp, hA1, hA2⟩ := id hMI
  subst hkk
  exact y_keep2 hP hKb hRb hkp (h I L hMI (zfM_r I) (zfM_r L))
set_option maxRecDepth 4000 in
theorem q_keep0 {K : ZKh} {P : Nat → Nat → List Value → List Value → ZMi → ZMl → ZMr → ZRt → Prop} {I : ZMi} {L : ZMl} {R : ZMr} {Q : ZRt} (hP : ZCl K P) (hKb : zKb K) (hRb : zRb R) {S : ZS} {nS nP nW len na kp n1 n2 : Nat} {T : Nat → Nat} {A A1 A2 : ZA} (hPI : zPI S nS nP nW len T na A kp n1 A1 n2 A2) (hMI : zMI I S nS nP nW len T na A kp n1 A1 n2 A2) (hkk : kp = 0) (h : ∀ I2 L2, zMI I2 S nS nP nW len T na A 1 na A n2 A2 → zfM I I2 → zfM L L2 → Q (some (.int 1)) I2 L2 R) : P 172 0 [.ref 119] [] I L R Q := by
  obtain ⟨hsr, ⟨hs1, hs6⟩, ⟨hp1, hp8⟩, hw6, hl4, h256, ⟨hn10, hAo⟩, hk2, hn1, hn2⟩ := id hPI
  obtain ⟨hD, hA, hTm, hkp, hA1, hA2⟩ := id hMI
  subst hkk
  exact y_keep0 hP hKb hRb hn10 (zAmb_0.mpr hA) hkp (fun I2 g g2 g3 => h I2 L ⟨zD_to hD (fun a q1 q2 k => g a k (by omega) (by omega) (by omega)), zAmb_0.mp (zAmb_to (zAmb_0.mpr hA) hn10 (g 143 0 (by omega) (by omega) (by omega)) (fun x j q1 q2 q3 q4 => g x j (by omega) (by omega) (by omega))), zTm_to hTm (g 119 0 (by omega) (by omega) (by omega)) (fun k => g 120 k (by omega) (by omega) (by omega)), g3, fun _ => g2, fun q => absurd q (by decide)⟩ (fun a k q => g a k (by omega) (by omega) (by omega)) (zfM_r L))
set_option maxRecDepth 4000 in
theorem q_keep1 {K : ZKh} {P : Nat → Nat → List Value → List Value → ZMi → ZMl → ZMr → ZRt → Prop} {I : ZMi} {L : ZMl} {R : ZMr} {Q : ZRt} (hP : ZCl K P) (hKb : zKb K) (hRb : zRb R) {S : ZS} {nS nP nW len na kp n1 n2 : Nat} {T : Nat → Nat} {A A1 A2 : ZA} (hPI : zPI S nS nP nW len T na A kp n1 A1 n2 A2) (hMI : zMI I S nS nP nW len T na A kp n1 A1 n2 A2) (hkk : kp = 1) (h : ∀ I2 L2, zMI I2 S nS nP nW len T na A 2 n1 A1 na A → zfM I I2 → zfM L L2 → Q (some (.int 2)) I2 L2 R) : P 172 0 [.ref 119] [] I L R Q := by
  obtain ⟨hsr, ⟨hs1, hs6⟩, ⟨hp1, hp8⟩, hw6, hl4, h256, ⟨hn10, hAo⟩, hk2, hn1, hn2⟩ := id hPI
  obtain ⟨hD, hA, hTm, hkp, hA1, hA2⟩ := id hMI
  subst hkk
  exact y_keep1 hP hKb hRb hn10 (zAmb_0.mpr hA) hkp (fun I2 g g2 g3 => h I2 L ⟨zD_to hD (fun a q1 q2 k => g a k (by omega) (by omega) (by omega)), zAmb_0.mp (zAmb_to (zAmb_0.mpr hA) hn10 (g 143 0 (by omega) (by omega) (by omega)) (fun x j q1 q2 q3 q4 => g x j (by omega) (by omega) (by omega))), zTm_to hTm (g 119 0 (by omega) (by omega) (by omega)) (fun k => g 120 k (by omega) (by omega) (by omega)), g3, fun _ => zAmb_to (hA1 (by decide)) (hn1 (by decide)).1 (g 143 1 (by omega) (by omega) (by omega)) (fun x j q1 q2 _ _ => g x j (by omega) (by omega) (by omega)), fun _ => g2⟩ (fun a k q => g a k (by omega) (by omega) (by omega)) (zfM_r L))
set_option maxRecDepth 4000 in
theorem q_back0 {K : ZKh} {P : Nat → Nat → List Value → List Value → ZMi → ZMl → ZMr → ZRt → Prop} {I : ZMi} {L : ZMl} {R : ZMr} {Q : ZRt} (hP : ZCl K P) (hKb : zKb K) (hRb : zRb R) {S : ZS} {nS nP nW len na kp n1 n2 : Nat} {T : Nat → Nat} {A A1 A2 : ZA} (hPI : zPI S nS nP nW len T na A kp n1 A1 n2 A2) (hMI : zMI I S nS nP nW len T na A kp n1 A1 n2 A2) (hkk : kp = 0) (h : ∀ I2 L2, zMI I2 S nS nP nW len T na A kp n1 A1 n2 A2 → zfM I I2 → zfM L L2 → Q (some (.int (-2))) I2 L2 R) : P 173 0 [.ref 119] [] I L R Q := by
  obtain ⟨hsr, ⟨hs1, hs6⟩, ⟨hp1, hp8⟩, hw6, hl4, h256, ⟨hn10, hAo⟩, hk2, hn1, hn2⟩ := id hPI
  obtain ⟨hD, hA, hTm, hkp, hA1, hA2⟩ := id hMI
  subst hkk
  exact y_back0 hP hKb hRb hkp (h I L hMI (zfM_r I) (zfM_r L))
set_option maxRecDepth 4000 in
theorem q_back1 {K : ZKh} {P : Nat → Nat → List Value → List Value → ZMi → ZMl → ZMr → ZRt → Prop} {I : ZMi} {L : ZMl} {R : ZMr} {Q : ZRt} (hP : ZCl K P) (hKb : zKb K) (hRb : zRb R) {S : ZS} {nS nP nW len na kp n1 n2 : Nat} {T : Nat → Nat} {A A1 A2 : ZA} (hPI : zPI S nS nP nW len T na A kp n1 A1 n2 A2) (hMI : zMI I S nS nP nW len T na A kp n1 A1 n2 A2) (hkk : kp = 1) (h : ∀ I2 L2, zMI I2 S nS nP nW len T n1 A1 0 n1 A1 n2 A2 → zfM I I2 → zfM L L2 → Q (some (.int 0)) I2 L2 R) : P 173 0 [.ref 119] [] I L R Q := by
  obtain ⟨hsr, ⟨hs1, hs6⟩, ⟨hp1, hp8⟩, hw6, hl4, h256, ⟨hn10, hAo⟩, hk2, hn1, hn2⟩ := id hPI
  obtain ⟨hD, hA, hTm, hkp, hA1, hA2⟩ := id hMI
  subst hkk
  exact y_back1 hP hKb hRb (hn1 (by decide)).1 (hA1 (by decide)) hkp (fun I2 g g2 g3 => h I2 L ⟨zD_to hD (fun a q1 q2 k => g a k (by omega) (by omega) (by omega)), zAmb_0.mp g2, zTm_to hTm (g 119 0 (by omega) (by omega) (by omega)) (fun k => g 120 k (by omega) (by omega) (by omega)), g3, fun q => absurd q (by decide), fun q => absurd q (by decide)⟩ (fun a k q => g a k (by omega) (by omega) (by omega)) (zfM_r L))
set_option maxRecDepth 4000 in
theorem q_back2 {K : ZKh} {P : Nat → Nat → List Value → List Value → ZMi → ZMl → ZMr → ZRt → Prop} {I : ZMi} {L : ZMl} {R : ZMr} {Q : ZRt} (hP : ZCl K P) (hKb : zKb K) (hRb : zRb R) {S : ZS} {nS nP nW len na kp n1 n2 : Nat} {T : Nat → Nat} {A A1 A2 : ZA} (hPI : zPI S nS nP nW len T na A kp n1 A1 n2 A2) (hMI : zMI I S nS nP nW len T na A kp n1 A1 n2 A2) (hkk : kp = 2) (h : ∀ I2 L2, zMI I2 S nS nP nW len T n2 A2 1 n1 A1 n2 A2 → zfM I I2 → zfM L L2 → Q (some (.int 1)) I2 L2 R) : P 173 0 [.ref 119] [] I L R Q := by
  obtain ⟨hsr, ⟨hs1, hs6⟩, ⟨hp1, hp8⟩, hw6, hl4, h256, ⟨hn10, hAo⟩, hk2, hn1, hn2⟩ := id hPI
  obtain ⟨hD, hA, hTm, hkp, hA1, hA2⟩ := id hMI
  subst hkk
  exact y_back2 hP hKb hRb (hn2 (by decide)).1 (hA2 (by decide)) hkp (fun I2 g g2 g3 => h I2 L ⟨zD_to hD (fun a q1 q2 k => g a k (by omega) (by omega) (by omega)), zAmb_0.mp g2, zTm_to hTm (g 119 0 (by omega) (by omega) (by omega)) (fun k => g 120 k (by omega) (by omega) (by omega)), g3, fun _ => zAmb_to (hA1 (by decide)) (hn1 (by decide)).1 (g 143 1 (by omega) (by omega) (by omega)) (fun x j q1 q2 _ _ => g x j (by omega) (by omega) (by omega)), fun q => absurd q (by decide)⟩ (fun a k q => g a k (by omega) (by omega) (by omega)) (zfM_r L))
