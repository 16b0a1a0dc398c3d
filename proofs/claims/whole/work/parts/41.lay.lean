/-! ===== the class lays a set ===== -/
theorem zrd_ub {t : Nat → Nat} {len : Nat} : ∀ (f p : Nat) (u : ZU), zUb u → zUb (zrd t len f p u).2
  | 0, _, _, h => h
  | f + 1, p, u, h => by
    unfold zrd
    split
    · split
      · exact h
      · rename_i q hq
        exact zrd_ub f q.2 q.1 (zit_ub h hq)
    · exact h
def zfL (I I' : ZMi) : Prop := ∀ a k, (a = 1 ∨ a = 3 ∨ a = 4 ∨ 119 ≤ a) → I' a k = I a k
abbrev zlk (r : Int32 × ZU) : Prop := r.1 = -4 ∧ ¬ r.2.2.1 = 0 ∧ ¬ r.2.2.2.1 = 0
def f_lay (r : Int32 × ZU) : Int32 := if zlk r then nI r.2.2.2.1 else -2
theorem zRa_up {R : ZMr} (h : zRa R) {k x : Nat} (hk : 9 ≤ k) : zRa (zup R 2 k x) := ⟨fun a h1 h2 j => (zup_n _ _ _ _ (by omega)).trans (h.1 a h1 h2 j), fun j hj => (zup_n _ _ _ _ (by omega)).trans (h.2 j hj)⟩
set_option maxRecDepth 4000 in
theorem x_lay2 {K : ZKh} {P : Nat → Nat → List Value → List Value → ZMi → ZMl → ZMr → ZRt → Prop} {I : ZMi} {L : ZMl} {R : ZMr} {Q : ZRt} (hP : ZCl K P) {w nS nP nW : Nat} {S : ZS} (hK : zKa K) (hR : zRa R) (hw : zisW w) (hC : zC I w S nS nP nW) (hp8 : nP ≤ 8) (hs6 : nS ≤ 6) (hw6 : nW ≤ 6) (hs1 : 1 ≤ nS) (hp1 : 1 ≤ nP) (hsg : ∀ p, p < nP → ∃ a, a < nS ∧ S 3 p 0 = nI a) (hl9 : R 2 9 = w + 1) {A : ZA} {v1 : Value} (h : ∀ I2 L2, zfL I I2 → zfl_ L L2 → zAn I2 16 0 A → I2 2 11 = 0 → zQt I2 S nS nP (2 ^ nP) → zCs I2 L2 S nP (zps S nS nP A 0) → zC I2 w S nS nP nW → Q (some (.int (nI nP))) I2 L2 R) : P 73 61 [.ref 2, v1] [] I L R Q := by
  have hw39 := zW39 hw
  refine r_al hP c73_61 rfl ?_
  refine r_gR (x := 16) hP c73_62 (zj2 hK) (zr2_3 hR) ?_
  refine r_ic hP c73_65 ?_
  refine r_pI hP c73_66 (zj16 hK) ?_
  refine r_al hP c73_69 rfl ?_
  refine r_ic hP c73_70 ?_
  refine r_pI hP c73_71 (zj2 hK) ?_
  refine r_al hP c73_74 rfl ?_
  refine r_gR (x := 36) hP c73_75 (zj2 hK) (zr2_8 hR) ?_
  refine r_al hP c73_78 rfl ?_
  refine r_gR (x := w) hP c73_79 (zj2 hK) hl9 ?_
  refine r_al hP c73_82 rfl ?_
  refine r_gR (x := 7) hP c73_83 (zj2 hK) (zr2_2 hR) ?_
  refine r_cVvp (as := [.ref w, .ref 7]) (r := []) (a := 36) hP c73_86 rfl (zj36 hK) rfl (fun I2 L2 R2 => (zfq (zup (zup I 16 4 0) 2 11 0) I2 ∧ zQt I2 S nS nP (2 ^ nP)) ∧ L = L2 ∧ R = R2) (fun Q2 hq => x_learn hP hK hR hw (zC_to hC (fun a q1 q2 k => (zup_n _ _ _ _ (by omega)).trans (zup_n _ _ _ _ (by omega))) hs6 hp8 hw6) hp8 hs6 hw6 hs1 hsg (fun I2 a b => hq I2 L R ⟨⟨a, b⟩, rfl, rfl⟩)) ?_
  rintro I2 L2 R2 ⟨⟨ha, hb⟩, rfl, rfl⟩
  refine r_al hP c73_89 rfl ?_
  refine r_cVvp (as := []) (r := []) (a := 2) hP c73_90 rfl (zj2 hK) rfl (fun I3 L3 R2 => (zfc I2 I3 ∧ zfl_ L L3 ∧ zCs I3 L3 S nP (zps S nS nP A 0)) ∧ R = R2) (fun Q2 hq => x_weigh hP hK hR hw (zC_fq (zC_to hC (fun a q1 q2 k => (zup_n _ _ _ _ (by omega)).trans (zup_n _ _ _ _ (by omega))) hs6 hp8 hw6) ha hw hs6 hp8 hw6) hp8 hs6 hw6 hs1 hsg hl9 (zAn_to (⟨(zup_n _ _ _ _ (by omega)).trans (zup_s _ _ _ _), fun i hi => absurd hi (Nat.not_lt_zero i)⟩ : zAn (zup (zup I 16 4 0) 2 11 0) 16 0 A) (fun x q1 q2 j => ha x (by omega) (by omega) j)) (fun i hi => absurd hi (Nat.not_lt_zero i)) (by omega) (fun I2 L2 a b c => hq I2 L2 R ⟨⟨a, b, c⟩, rfl⟩)) ?_
  rintro I3 L3 R2 ⟨⟨hc, hd, he⟩, rfl⟩
  refine r_al hP c73_93 rfl ?_
  refine r_gR (x := w) hP c73_94 (zj2 hK) hl9 ?_
  refine r_gI (x := nI nP) hP c73_97 (zj_W hK hw) (zC_p (zC_fc (zC_fq (zC_to hC (fun a q1 q2 k => (zup_n _ _ _ _ (by omega)).trans (zup_n _ _ _ _ (by omega))) hs6 hp8 hw6) ha hw hs6 hp8 hw6) hc hw hs6 hp8 hw6)) ?_
  exact r_irE hP c73_100 (h _ _ (fun a k q => (hc a (by omega) (by omega) (by omega) k).trans ((ha a (by omega) (by omega) k).trans ((zup_n _ _ _ _ (by omega)).trans (zup_n _ _ _ _ (by omega))))) hd (zAn_fc (zAn_to (⟨(zup_n _ _ _ _ (by omega)).trans (zup_s _ _ _ _), fun i hi => absurd hi (Nat.not_lt_zero i)⟩ : zAn (zup (zup I 16 4 0) 2 11 0) 16 0 A) (fun x q1 q2 j => ha x (by omega) (by omega) j)) hc) ((hc 2 (by omega) (by omega) (by omega) 11).trans ((ha 2 (by omega) (by omega) 11).trans (zup_s _ _ _ _))) (zQt_fr hb (fun k => hc 37 (by omega) (by omega) (by omega) k)) he (zC_fc (zC_fq (zC_to hC (fun a q1 q2 k => (zup_n _ _ _ _ (by omega)).trans (zup_n _ _ _ _ (by omega))) hs6 hp8 hw6) ha hw hs6 hp8 hw6) hc hw hs6 hp8 hw6)) rfl
set_option maxRecDepth 4000 in
theorem x_lay {K : ZKh} {P : Nat → Nat → List Value → List Value → ZMi → ZMl → ZMr → ZRt → Prop} {I : ZMi} {L : ZMl} {R : ZMr} {Q : ZRt} (hP : ZCl K P) (hK : zKa K) (hR : zRa R) {len : Nat} {T : Nat → Nat} {A : ZA} (hT : zTx I len T) (hl : len ≤ 400) (h256 : ∀ i, T i < 256) {w v : Nat} (hw : zisW w) (hv : zisW v) (hl9 : R 2 9 = w + 1) (hl10 : R 2 10 = v + 1) (hsgU : ∀ p, p < (zrd (zto T len) len 400 0 zu0).2.2.2.1 → ∃ a, a < (zrd (zto T len) len 400 0 zu0).2.2.1 ∧ (zrd (zto T len) len 400 0 zu0).2.1 3 p 0 = nI a) (h0 : ¬ zlk (zrd (zto T len) len 400 0 zu0) → ∀ I2, zfR v I I2 → Q (some (.int (-2))) I2 L R) (h1 : zlk (zrd (zto T len) len 400 0 zu0) → ∀ I2 L2, zfL I I2 → zfl_ L L2 → zAn I2 16 0 A → I2 2 11 = 0 → zQt I2 (zrd (zto T len) len 400 0 zu0).2.1 (zrd (zto T len) len 400 0 zu0).2.2.1 (zrd (zto T len) len 400 0 zu0).2.2.2.1 (2 ^ (zrd (zto T len) len 400 0 zu0).2.2.2.1) → zCs I2 L2 (zrd (zto T len) len 400 0 zu0).2.1 (zrd (zto T len) len 400 0 zu0).2.2.2.1 (zps (zrd (zto T len) len 400 0 zu0).2.1 (zrd (zto T len) len 400 0 zu0).2.2.1 (zrd (zto T len) len 400 0 zu0).2.2.2.1 A 0) → zC I2 v (zrd (zto T len) len 400 0 zu0).2.1 (zrd (zto T len) len 400 0 zu0).2.2.1 (zrd (zto T len) len 400 0 zu0).2.2.2.1 (zrd (zto T len) len 400 0 zu0).2.2.2.2.1 → Q (some (.int (nI (zrd (zto T len) len 400 0 zu0).2.2.2.1))) I2 L2 (zup (zup R 2 9 (v + 1)) 2 10 (w + 1))) : P 73 0 [.ref 2, .null] [] I L R Q := by
  have hub : zUb (zrd (zto T len) len 400 0 zu0).2 := zrd_ub 400 0 zu0 zub0
  obtain ⟨hu1, hu2, -⟩ := id hub
  have hv39 := zW39 hv
  refine r_al hP c73_0 rfl ?_
  refine r_gR (x := 5) hP c73_1 (zj2 hK) (zr2_1 hR) ?_
  refine r_al hP c73_4 rfl ?_
  refine r_gR (x := 3) hP c73_5 (zj2 hK) (zr2_0 hR) ?_
  refine r_al hP c73_8 rfl ?_
  refine r_gR (x := v) hP c73_9 (zj2 hK) hl10 ?_
  refine r_cVip (as := [.ref 3, .ref v]) (r := []) (a := 5) hP c73_12 rfl (zj5 hK) rfl (fun z I2 L2 R2 => (z = (zrd (zto T len) len 400 0 zu0).1 ∧ zfR v I I2 ∧ ((zrd (zto T len) len 400 0 zu0).1 = -4 → zCu I2 v (zrd (zto T len) len 400 0 zu0).2)) ∧ L = L2 ∧ R = R2) (fun Q2 hq => x_read hP hK hR hT hl h256 hv (fun I2 a b => hq _ I2 L R ⟨⟨rfl, a, b⟩, rfl, rfl⟩)) ?_
  rintro z I2 L2 R2 ⟨⟨rfl, ha, hb⟩, rfl, rfl⟩
  refine r_ic hP c73_15 ?_
  refine r_ine hP c73_17 (fun h17 => ?_) (fun h17 => ?_)
  · refine r_ic hP c73_40 ?_
    first
      | exact r_ir hP c73_42 (h0 (fun q => h17 q.1) _ ha)
      | exact r_ir hP c73_42 (h0 (fun q => q.2.1 ((nI_eq (b := 0) (by omega) (by decide)).mp h27)) _ ha)
      | exact r_ir hP c73_42 (h0 (fun q => q.2.2 ((nI_eq (b := 0) (by omega) (by decide)).mp h37)) _ ha)
  · refine r_al hP c73_20 rfl ?_
    refine r_gR (x := v) hP c73_21 (zj2 hK) hl10 ?_
    refine r_gI (x := nI (zrd (zto T len) len 400 0 zu0).2.2.1) hP c73_24 (zj_W hK hv) (zC_s (hb h17).1) ?_
    refine r_ifeq hP c73_27 (fun h27 => ?_) (fun h27 => ?_)
    · refine r_ic hP c73_40 ?_
      first
        | exact r_ir hP c73_42 (h0 (fun q => h17 q.1) _ ha)
        | exact r_ir hP c73_42 (h0 (fun q => q.2.1 ((nI_eq (b := 0) (by omega) (by decide)).mp h27)) _ ha)
        | exact r_ir hP c73_42 (h0 (fun q => q.2.2 ((nI_eq (b := 0) (by omega) (by decide)).mp h37)) _ ha)
    · refine r_al hP c73_30 rfl ?_
      refine r_gR (x := v) hP c73_31 (zj2 hK) hl10 ?_
      refine r_gI (x := nI (zrd (zto T len) len 400 0 zu0).2.2.2.1) hP c73_34 (zj_W hK hv) (zC_p (hb h17).1) ?_
      refine r_ifne hP c73_37 (fun h37 => ?_) (fun h37 => ?_)
      · refine r_al hP c73_43 rfl ?_
        refine r_gR (x := w) hP c73_44 (zj2 hK) hl9 ?_
        refine r_as (ls' := [.ref 2, .ref w]) hP c73_47 (Nat.le_of_ble_eq_true rfl) rfl ?_
        refine r_al hP c73_48 rfl ?_
        refine r_al hP c73_49 rfl ?_
        refine r_gR (x := v) hP c73_50 (zj2 hK) hl10 ?_
        refine r_pR hP c73_53 (zj2 hK) ?_
        refine r_al hP c73_56 rfl ?_
        refine r_al hP c73_57 rfl ?_
        refine r_pR hP c73_58 (zj2 hK) ?_
        have hz1 : ¬ (zrd (zto T len) len 400 0 zu0).2.2.1 = 0 := fun q => h27 (by rw [q]; rfl)
        have hz2 : ¬ (zrd (zto T len) len 400 0 zu0).2.2.2.1 = 0 := fun q => h37 (by rw [q]; rfl)
        exact x_lay2 hP hK (zRa_up (zRa_up hR (by decide)) (by decide)) hv (hb h17).1 hub.2.1 hub.1 hub.2.2.1 (by omega) (by omega) hsgU ((zup_n _ _ _ _ (by decide)).trans (zup_s _ _ _ _)) (fun I3 L3 a b c d e f g => h1 ⟨h17, hz1, hz2⟩ _ _ (fun x k q => (a x k q).trans (ha x k (by omega) (by omega) (by omega))) b c d e f g)
      · refine r_ic hP c73_40 ?_
        first
          | exact r_ir hP c73_42 (h0 (fun q => h17 q.1) _ ha)
          | exact r_ir hP c73_42 (h0 (fun q => q.2.1 ((nI_eq (b := 0) (by omega) (by decide)).mp h27)) _ ha)
          | exact r_ir hP c73_42 (h0 (fun q => q.2.2 ((nI_eq (b := 0) (by omega) (by decide)).mp h37)) _ ha)
