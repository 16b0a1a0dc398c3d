/-! ===== the bench plays ===== -/
def zA5 (I I' : ZMi) (S : ZS) (nP st : Nat) (m : Int32) (o f nS t : Nat) : Prop := zfr I I' ∧ (∀ s t', s < nS → t' < 3 → I' (9 + s) t' = if t' < t then zin S nP st m o f s t' else zbs S nP st m f s t') ∧ ∀ t', t' < t → I' 15 t' = zhd S nP st m o f t' nS
def zA6 (I I' : ZMi) (S : ZS) (nP st : Nat) (m : Int32) (o f nS t s : Nat) (hd : Int32) : Prop := zfr I I' ∧ (∀ s' t', s' < nS → t' < 3 → I' (9 + s') t' = if t' < t ∨ (t' = t ∧ s' < s) then zin S nP st m o f s' t' else zbs S nP st m f s' t') ∧ (∀ t', t' < t → I' 15 t' = zhd S nP st m o f t' nS) ∧ hd = zhd S nP st m o f t s
theorem zA6_up {I I' : ZMi} {S : ZS} {nP st : Nat} {m : Int32} {o f nS t s : Nat} {hd x y : Int32} (h : zA6 I I' S nP st m o f nS t s hd) (hs : s < nS) (hs6 : nS ≤ 6) (hx : x = zbs S nP st m f s t + hd) (hy : y = zhd S nP st m o f t (s + 1)) : zA6 I (zup I' (9 + s) t x) S nP st m o f nS t (s + 1) y := by
  refine ⟨zfr_up h.1 (by omega), fun s' t' h1 h2 => ?_, fun t' h1 => ?_, hy⟩
  · by_cases e : s' = s ∧ t' = t
    · rw [e.1, e.2, zup_s, if_pos (by omega), hx, h.2.2.2]
      rfl
    · rw [zup_n _ _ _ _ (by omega), h.2.1 s' t' h1 h2]
      by_cases q : t' < t ∨ (t' = t ∧ s' < s)
      · rw [if_pos q, if_pos (by omega)]
      · rw [if_neg q, if_neg (by omega)]
  · rw [zup_n _ _ _ _ (by omega)]
    exact h.2.2.1 t' h1
theorem zA6_end {I I' : ZMi} {S : ZS} {nP st : Nat} {m : Int32} {o f nS t : Nat} {hd : Int32} (h : zA6 I I' S nP st m o f nS t nS hd) (hs6 : nS ≤ 6) : zA5 I (zup I' 15 t hd) S nP st m o f nS (t + 1) := by
  refine ⟨zfr_up h.1 (by omega), fun s' t' h1 h2 => ?_, fun t' h1 => ?_⟩
  · rw [zup_n _ _ _ _ (by omega), h.2.1 s' t' h1 h2]
    by_cases q : t' < t + 1
    · rw [if_pos q, if_pos (by omega)]
    · rw [if_neg q, if_neg (by omega)]
  · by_cases e : t' = t
    · subst e
      rw [zup_s, h.2.2.2]
    · rw [zup_n _ _ _ _ (by omega)]
      exact h.2.2.1 t' (by omega)
def zPl (I I' : ZMi) (S : ZS) (nP st : Nat) (m : Int32) (o f nS : Nat) : Prop := zfr I I' ∧ (∀ s t, s < nS → t < 3 → I' (9 + s) t = zin S nP st m o f s t) ∧ ∀ t, t < 3 → I' 15 t = zhd S nP st m o f t nS
theorem zA5_0 {I I' : ZMi} {S : ZS} {nP st : Nat} {m : Int32} {o f nS : Nat} (h : zA2 I I' S st m nS nP) (hf : nS ≤ f) : zA5 I I' S nP st m o f nS 0 := ⟨h.1, fun s t h1 h2 => by rw [if_neg (by omega), h.2 s t h1 h2, zbs, if_neg (by omega), Int32.add_zero], fun t h1 => by omega⟩
theorem zA5_1 {I I' : ZMi} {S : ZS} {nP st : Nat} {m : Int32} {o f nS : Nat} (h : zA2 I I' S st m nS nP) (hf : f < nS) (hs6 : nS ≤ 6) : zA5 I (zup I' (9 + f) 0 (zlt S st m f 0 nP + 100)) S nP st m o f nS 0 := by
  refine ⟨zfr_up h.1 (by omega), fun s t h1 h2 => ?_, fun t h1 => by omega⟩
  rw [if_neg (by omega), zbs]
  by_cases e : s = f ∧ t = 0
  · rw [e.1, e.2, zup_s, if_pos ⟨rfl, rfl⟩]
  · rw [zup_n _ _ _ _ (by omega), h.2 s t h1 h2, if_neg e, Int32.add_zero]
def zclr (st j : Nat) : Nat := if st.testBit j then st - 2 ^ j else st
theorem zclr_c : ∀ st, st < 256 → ∀ j, j < 8 → (nI st &&& ((1 <<< (nI j &&& 31)) ^^^ (-1))) = nI (zclr st j) := by decide +kernel
theorem zclr_le (st j : Nat) : zclr st j ≤ st := by
  unfold zclr
  split
  · exact Nat.sub_le _ _
  · exact Nat.le_refl _
set_option maxRecDepth 4000 in
theorem x_playS {K : ZKh} {P : Nat → Nat → List Value → List Value → ZMi → ZMl → ZMr → ZRt → Prop} {I : ZMi} {L : ZMl} {R : ZMr} {Q : ZRt} (hP : ZCl K P) {w nS nP nW : Nat} {S : ZS} (hK : zKa K) (hR : zRa R) (hw : zisW w) (hC : zC I w S nS nP nW) (hp8 : nP ≤ 8) (hs6 : nS ≤ 6) (hw6 : nW ≤ 6) (hs1 : 1 ≤ nS) (hsg : ∀ p, p < nP → ∃ a, a < nS ∧ S 3 p 0 = nI a) {st : Nat} {m : Int32} (hst : st < 256) {o f : Nat} {out fin : Int32} (ho : ∀ s, s < 6 → (nI s = out ↔ s = o)) {t : Nat} (ht : t < 3) (hx : ∀ I2 hd, zA6 I I2 S nP st m o f nS t nS hd → P 4 112 [.ref 7, .ref w, .int (nI st), .int m, .int out, .int fin, .int (nI t), .int hd, .int (nI nS)] [] I2 L R Q) : ∀ s, s ≤ nS → ∀ (I1 : ZMi) (hd : Int32), zA6 I I1 S nP st m o f nS t s hd → P 4 45 [.ref 7, .ref w, .int (nI st), .int m, .int out, .int fin, .int (nI t), .int hd, .int (nI s)] [] I1 L R Q := by
  refine zloop nS (fun s => ∀ (I1 : ZMi) (hd : Int32), zA6 I I1 S nP st m o f nS t s hd → P 4 45 [.ref 7, .ref w, .int (nI st), .int m, .int out, .int fin, .int (nI t), .int hd, .int (nI s)] [] I1 L R Q) ?_
  intro s hle ih I1 hd hacc
  have hw39 := zW39 hw
  refine r_il hP c4_45 rfl ?_
  refine r_al hP c4_47 rfl ?_
  refine r_gI (x := nI nS) hP c4_48 (zj_W hK hw) (zC_s (zC_fr hC hacc.1 hw hs6 hp8 hw6)) ?_
  refine r_ige hP c4_51 (fun h51 => ?_) (fun h51 => ?_)
  · have he : s = nS := Nat.le_antisymm hle ((nI_leI (by omega) (by omega)).mp h51)
    subst he
    exact hx _ _ hacc
  · have hlt : s < nS := by
      rcases Nat.lt_or_ge s nS with q | q
      · exact q
      · exact absurd (nI_le q (by omega)) h51
    refine r_al hP c4_54 rfl ?_
    refine r_gR (x := 8) hP c4_55 (zj7 hK) (zr7_0 hR) ?_
    refine r_il hP c4_58 rfl ?_
    refine r_aald (j := s) (x := 9 + s) hP c4_60 (zk8 hK) rfl (by omega) (zr_in (s := s) hR (by omega)) ?_
    refine r_il hP c4_61 rfl ?_
    refine r_dup2 hP c4_63 rfl rfl ?_
    refine r_iald (j := t) (x := zbs S nP st m f s t) hP c4_64 (zk_in (s := s) hK (by omega)) rfl (by omega) ((hacc.2.1 s t hlt ht).trans (if_neg (by omega))) ?_
    refine r_il hP c4_65 rfl ?_
    refine r_iadd hP c4_67 ?_
    refine r_iast (j := t) hP c4_68 (zk_in (s := s) hK (by omega)) rfl (by omega) ?_
    refine r_il hP c4_69 rfl ?_
    refine r_il hP c4_71 rfl ?_
    refine r_ine hP c4_73 (fun h73 => ?_) (fun h73 => ?_)
    · refine r_al hP c4_80 rfl ?_
      refine r_gR (x := 8) hP c4_81 (zj7 hK) (zr7_0 hR) ?_
      refine r_il hP c4_84 rfl ?_
      refine r_aald (j := s) (x := 9 + s) hP c4_86 (zk8 hK) rfl (by omega) (zr_in (s := s) hR (by omega)) ?_
      refine r_il hP c4_87 rfl ?_
      refine r_iald (j := t) (x := (zbs S nP st m f s t) + hd) hP c4_89 (zk_in (s := s) hK (by omega)) rfl (by omega) (zup_s _ _ _ _) ?_
      refine r_al hP c4_90 rfl ?_
      refine r_gR (x := w + 1) hP c4_91 (zj_W hK hw) (zr_sts hR hw) ?_
      refine r_il hP c4_94 rfl ?_
      refine r_aald (j := s) (x := w + 6 + 2 * s) hP c4_96 (zk_sts hK hw) rfl (by omega) (zr_stg hR hw (by omega)) ?_
      refine r_gI (x := S 0 s 0) hP c4_97 (zj_stg hK hw (by omega)) ((zup_n _ _ _ _ (by omega)).trans (zC_g (zC_fr hC hacc.1 hw hs6 hp8 hw6) (by omega))) ?_
      refine r_imul hP c4_100 ?_
      refine r_ic hP c4_101 ?_
      refine r_idiv hP c4_103 (by decide) ?_
      refine r_is (ls' := [.ref 7, .ref w, .int (nI st), .int m, .int out, .int fin, .int (nI t), .int ((((zbs S nP st m f s t) + hd) * (S 0 s 0)) / 10), .int (nI s)]) hP c4_104 (Nat.le_of_ble_eq_true rfl) rfl ?_
      refine r_inc (y := nI (s + 1)) (ls' := [.ref 7, .ref w, .int (nI st), .int m, .int out, .int fin, .int (nI t), .int ((((zbs S nP st m f s t) + hd) * (S 0 s 0)) / 10), .int (nI (s + 1))]) hP c4_106 rfl (nI_1 _) rfl ?_
      refine r_goto hP c4_109 ?_
      exact ih hlt _ _ (zA6_up hacc hlt hs6 rfl (by rw [zhd]; first | rw [if_pos ((ho s (by omega)).mp h73)] | rw [if_neg (fun q => h73 ((ho s (by omega)).mpr q)), hacc.2.2.2]))
    · refine r_ic hP c4_76 ?_
      refine r_goto hP c4_77 ?_
      refine r_is (ls' := [.ref 7, .ref w, .int (nI st), .int m, .int out, .int fin, .int (nI t), .int 0, .int (nI s)]) hP c4_104 (Nat.le_of_ble_eq_true rfl) rfl ?_
      refine r_inc (y := nI (s + 1)) (ls' := [.ref 7, .ref w, .int (nI st), .int m, .int out, .int fin, .int (nI t), .int 0, .int (nI (s + 1))]) hP c4_106 rfl (nI_1 _) rfl ?_
      refine r_goto hP c4_109 ?_
      exact ih hlt _ _ (zA6_up hacc hlt hs6 rfl (by rw [zhd]; first | rw [if_pos ((ho s (by omega)).mp h73)] | rw [if_neg (fun q => h73 ((ho s (by omega)).mpr q)), hacc.2.2.2]))
set_option maxRecDepth 4000 in
theorem x_playT {K : ZKh} {P : Nat → Nat → List Value → List Value → ZMi → ZMl → ZMr → ZRt → Prop} {I : ZMi} {L : ZMl} {R : ZMr} {Q : ZRt} (hP : ZCl K P) {w nS nP nW : Nat} {S : ZS} (hK : zKa K) (hR : zRa R) (hw : zisW w) (hC : zC I w S nS nP nW) (hp8 : nP ≤ 8) (hs6 : nS ≤ 6) (hw6 : nW ≤ 6) (hs1 : 1 ≤ nS) (hsg : ∀ p, p < nP → ∃ a, a < nS ∧ S 3 p 0 = nI a) {st : Nat} {m : Int32} (hst : st < 256) {o f : Nat} {out fin : Int32} (ho : ∀ s, s < 6 → (nI s = out ↔ s = o)) (h : ∀ I2, zPl I I2 S nP st m o f nS → Q none I2 L R) : ∀ t, t ≤ 3 → ∀ (I1 : ZMi) (v7 v8 : Value), zA5 I I1 S nP st m o f nS t → P 4 33 [.ref 7, .ref w, .int (nI st), .int m, .int out, .int fin, .int (nI t), v7, v8] [] I1 L R Q := by
  refine zloop 3 (fun t => ∀ (I1 : ZMi) (v7 v8 : Value), zA5 I I1 S nP st m o f nS t → P 4 33 [.ref 7, .ref w, .int (nI st), .int m, .int out, .int fin, .int (nI t), v7, v8] [] I1 L R Q) ?_
  intro t hle ih I1 v7 v8 hacc
  refine r_il hP c4_33 rfl ?_
  refine r_ic hP c4_35 ?_
  refine r_ige hP c4_36 (fun h36 => ?_) (fun h36 => ?_)
  · have he : t = 3 := Nat.le_antisymm hle ((nI_leI (by omega) (by omega)).mp h36)
    subst he
    exact r_vr hP c4_127 (h _ ⟨hacc.1, fun s t h1 h2 => by rw [hacc.2.1 s t h1 h2, if_pos h2], hacc.2.2⟩)
  · have hlt : t < 3 := by
      rcases Nat.lt_or_ge t 3 with q | q
      · exact q
      · exact absurd (nI_le q (by omega)) h36
    refine r_ic hP c4_39 ?_
    refine r_is (ls' := [.ref 7, .ref w, .int (nI st), .int m, .int out, .int fin, .int (nI t), .int 0, v8]) hP c4_40 (Nat.le_of_ble_eq_true rfl) rfl ?_
    refine r_ic hP c4_42 ?_
    refine r_is (ls' := [.ref 7, .ref w, .int (nI st), .int m, .int out, .int fin, .int (nI t), .int 0, .int 0]) hP c4_43 (Nat.le_of_ble_eq_true rfl) rfl ?_
    refine x_playS hP hK hR hw hC hp8 hs6 hw6 hs1 hsg hst ho hlt (fun I2 hd h2 => ?_) 0 (by omega) _ _ ⟨hacc.1, fun s t' h1 h2 => by rw [hacc.2.1 s t' h1 h2]; by_cases q : t' < t <;> simp [q], hacc.2.2, rfl⟩
    refine r_al hP c4_112 rfl ?_
    refine r_gR (x := 15) hP c4_113 (zj7 hK) (zr7_1 hR) ?_
    refine r_il hP c4_116 rfl ?_
    refine r_il hP c4_118 rfl ?_
    refine r_iast (j := t) hP c4_120 (zk15 hK) rfl (by omega) ?_
    refine r_inc (y := nI (t + 1)) (ls' := [.ref 7, .ref w, .int (nI st), .int m, .int out, .int fin, .int (nI (t + 1)), .int hd, .int (nI nS)]) hP c4_121 rfl (nI_1 _) rfl ?_
    refine r_goto hP c4_124 ?_
    exact ih hlt _ _ _ (zA6_end h2 hs6)
set_option maxRecDepth 4000 in
theorem x_play {K : ZKh} {P : Nat → Nat → List Value → List Value → ZMi → ZMl → ZMr → ZRt → Prop} {I : ZMi} {L : ZMl} {R : ZMr} {Q : ZRt} (hP : ZCl K P) {w nS nP nW : Nat} {S : ZS} (hK : zKa K) (hR : zRa R) (hw : zisW w) (hC : zC I w S nS nP nW) (hp8 : nP ≤ 8) (hs6 : nS ≤ 6) (hw6 : nW ≤ 6) (hs1 : 1 ≤ nS) (hsg : ∀ p, p < nP → ∃ a, a < nS ∧ S 3 p 0 = nI a) {st : Nat} {m : Int32} (hst : st < 256) {o f : Nat} {out fin : Int32} (ho : ∀ s, s < 6 → (nI s = out ↔ s = o)) (hf : (fin = nI f ∧ f < nS) ∨ (¬ zr fin nS ∧ nS ≤ f)) (h : ∀ I2, zPl I I2 S nP st m o f nS → Q none I2 L R) : P 4 0 [.ref 7, .ref w, .int (nI st), .int m, .int out, .int fin, .null, .null, .null] [] I L R Q := by
  have hw39 := zW39 hw
  refine r_al hP c4_0 rfl ?_
  refine r_al hP c4_1 rfl ?_
  refine r_il hP c4_2 rfl ?_
  refine r_il hP c4_3 rfl ?_
  refine r_cVvp (as := [.ref w, .int (nI st), .int m]) (r := []) (a := 7) hP c4_4 rfl (zj7 hK) rfl (fun I2 L2 R2 => zA2 I I2 S st m nS nP ∧ L = L2 ∧ R = R2) (fun Q2 hq => x_comeIn hP hK hR hw hC hp8 hs6 hw6 hs1 hsg hst (fun I2 h2 => hq I2 L R ⟨h2, rfl, rfl⟩)) ?_
  rintro I1 L1 R1 ⟨h1, rfl, rfl⟩
  refine r_al hP c4_7 rfl ?_
  refine r_il hP c4_8 rfl ?_
  refine r_cVi (as := [.int fin]) (r := []) (I' := I1) (L' := L) (R' := R) (x := if zr fin nS then 1 else 0) (a := w) hP c4_10 rfl (zj_W hK hw) rfl (fun _ hq => x_hasStage hP (zj_W hK hw) (zC_s (zC_fr hC h1.1 hw hs6 hp8 hw6)) (by omega) hq) ?_
  refine r_ifeqB hP c4_13 (fun h13 => ?_) (fun h13 => ?_)
  · have hfn : nS ≤ f := by
      rcases hf with q | q
      · exact absurd (by rw [q.1]; exact zr_nI q.2 (by omega)) h13
      · exact q.2
    refine r_ic hP c4_30 ?_
    refine r_is (ls' := [.ref 7, .ref w, .int (nI st), .int m, .int out, .int fin, .int 0, .null, .null]) hP c4_31 (Nat.le_of_ble_eq_true rfl) rfl ?_
    exact x_playT hP hK hR hw hC hp8 hs6 hw6 hs1 hsg hst ho h 0 (by decide) _ _ _ (by first | exact zA5_0 h1 hfn | exact zA5_1 h1 hfe.2 hs6)
  · have hfe : fin = nI f ∧ f < nS := hf.resolve_right (fun q => q.1 h13)
    refine r_al hP c4_16 rfl ?_
    refine r_gR (x := 8) hP c4_17 (zj7 hK) (zr7_0 hR) ?_
    refine r_il hP c4_20 rfl ?_
    refine r_aald (j := f) (x := 9 + f) hP c4_22 (zk8 hK) hfe.1 (by omega) (zr_in (s := f) hR (by omega)) ?_
    refine r_ic hP c4_23 ?_
    refine r_dup2 hP c4_24 rfl rfl ?_
    refine r_iald (j := 0) (x := zlt S st m f 0 nP) hP c4_25 (zk_in (s := f) hK (by omega)) rfl (by decide) (h1.2 f 0 hfe.2 (by decide)) ?_
    refine r_ic hP c4_26 ?_
    refine r_iadd hP c4_28 ?_
    refine r_iast (j := 0) hP c4_29 (zk_in (s := f) hK (by omega)) rfl (by decide) ?_
    refine r_ic hP c4_30 ?_
    refine r_is (ls' := [.ref 7, .ref w, .int (nI st), .int m, .int out, .int fin, .int 0, .null, .null]) hP c4_31 (Nat.le_of_ble_eq_true rfl) rfl ?_
    exact x_playT hP hK hR hw hC hp8 hs6 hw6 hs1 hsg hst ho h 0 (by decide) _ _ _ (by first | exact zA5_0 h1 hfn | exact zA5_1 h1 hfe.2 hs6)
set_option maxRecDepth 4000 in
theorem x_tones_l {K : ZKh} {P : Nat → Nat → List Value → List Value → ZMi → ZMl → ZMr → ZRt → Prop} {I : ZMi} {L : ZMl} {R : ZMr} {Q : ZRt} (hP : ZCl K P) {w nS nP nW : Nat} {S : ZS} (hK : zKa K) (hR : zRa R) (hw : zisW w) (hC : zC I w S nS nP nW) (hp8 : nP ≤ 8) (hs6 : nS ≤ 6) (hw6 : nW ≤ 6) {e : Nat → Int32} (he15 : ∀ t, t < 3 → I 15 t = e t) (h : Q (some (.int (zth S e 3))) I L R) : ∀ t, t ≤ 3 → ∀ (acc : Int32), acc = zth S e t → P 6 4 [.ref 7, .ref w, .int acc, .int (nI t)] [] I L R Q := by
  refine zloop 3 (fun t => ∀ (acc : Int32), acc = zth S e t → P 6 4 [.ref 7, .ref w, .int acc, .int (nI t)] [] I L R Q) ?_
  intro t hle ih acc hacc
  refine r_il hP c6_4 rfl ?_
  refine r_ic hP c6_5 ?_
  refine r_ige hP c6_6 (fun h6 => ?_) (fun h6 => ?_)
  · have he : t = 3 := Nat.le_antisymm hle ((nI_leI (by omega) (by omega)).mp h6)
    refine r_il hP c6_39 rfl ?_
    exact r_irE hP c6_40 h (by rw [hacc, he])
  · have hlt : t < 3 := by
      rcases Nat.lt_or_ge t 3 with q | q
      · exact q
      · exact absurd (nI_le q (by omega)) h6
    refine r_al hP c6_9 rfl ?_
    refine r_gR (x := 15) hP c6_10 (zj7 hK) (zr7_1 hR) ?_
    refine r_il hP c6_13 rfl ?_
    refine r_iald (j := t) (x := e t) hP c6_14 (zk15 hK) rfl (by omega) (he15 t (by omega)) ?_
    refine r_mabs hP c6_15 rfl ?_
    refine r_ti (y := zabs (e t)) rfl ?_
    refine r_al hP c6_18 rfl ?_
    refine r_gR (x := w + 4) hP c6_19 (zj_W hK hw) (zr_ear hR hw) ?_
    refine r_il hP c6_22 rfl ?_
    refine r_iald (j := t) (x := S 15 t 0) hP c6_23 (zk_ear hK hw) rfl (by omega) (zC_e hC (by omega)) ?_
    refine r_ilt hP c6_24 (fun h24 => ?_) (fun h24 => ?_)
    · refine r_inc (y := nI (t + 1)) (ls' := [.ref 7, .ref w, .int acc, .int (nI (t + 1))]) hP c6_33 rfl (nI_1 _) rfl ?_
      refine r_goto hP c6_36 ?_
      exact ih hlt _ (by simp only [zth, hacc]; first | rw [if_pos (Int32.not_lt.mp h24)] | rw [if_neg (fun q => absurd h24 (Int32.not_lt.mpr q))])
    · refine r_il hP c6_27 rfl ?_
      refine r_ic hP c6_28 ?_
      refine r_il hP c6_29 rfl ?_
      refine r_ishl hP c6_30 ?_
      refine r_ior hP c6_31 ?_
      refine r_is (ls' := [.ref 7, .ref w, .int (acc ||| (1 <<< ((nI t) &&& 31))), .int (nI t)]) hP c6_32 (Nat.le_of_ble_eq_true rfl) rfl ?_
      refine r_inc (y := nI (t + 1)) (ls' := [.ref 7, .ref w, .int (acc ||| (1 <<< ((nI t) &&& 31))), .int (nI (t + 1))]) hP c6_33 rfl (nI_1 _) rfl ?_
      refine r_goto hP c6_36 ?_
      exact ih hlt _ (by simp only [zth, hacc]; first | rw [if_pos (Int32.not_lt.mp h24)] | rw [if_neg (fun q => absurd h24 (Int32.not_lt.mpr q))])
set_option maxRecDepth 4000 in
theorem x_tones {K : ZKh} {P : Nat → Nat → List Value → List Value → ZMi → ZMl → ZMr → ZRt → Prop} {I : ZMi} {L : ZMl} {R : ZMr} {Q : ZRt} (hP : ZCl K P) {w nS nP nW : Nat} {S : ZS} (hK : zKa K) (hR : zRa R) (hw : zisW w) (hC : zC I w S nS nP nW) (hp8 : nP ≤ 8) (hs6 : nS ≤ 6) (hw6 : nW ≤ 6) {e : Nat → Int32} (he15 : ∀ t, t < 3 → I 15 t = e t) (h : Q (some (.int (zth S e 3))) I L R) : P 6 0 [.ref 7, .ref w, .null, .null] [] I L R Q := by
  refine r_ic hP c6_0 ?_
  refine r_is (ls' := [.ref 7, .ref w, .int 0, .null]) hP c6_1 (Nat.le_of_ble_eq_true rfl) rfl ?_
  refine r_ic hP c6_2 ?_
  refine r_is (ls' := [.ref 7, .ref w, .int 0, .int 0]) hP c6_3 (Nat.le_of_ble_eq_true rfl) rfl ?_
  exact x_tones_l hP hK hR hw hC hp8 hs6 hw6 he15 h 0 (Nat.zero_le _) 0 rfl
set_option maxRecDepth 4000 in
theorem x_mag_l {K : ZKh} {P : Nat → Nat → List Value → List Value → ZMi → ZMl → ZMr → ZRt → Prop} {I : ZMi} {L : ZMl} {R : ZMr} {Q : ZRt} (hP : ZCl K P) {a : Nat} {e : Nat → Int32} (hka : K a = (20, 3)) (hea : ∀ t, t < 3 → I a t = e t) (h : Q (some (.int (zsum e 3))) I L R) : ∀ t, t ≤ 3 → ∀ (acc : Int32), acc = zsum e t → P 8 4 [.ref a, .int acc, .int (nI t)] [] I L R Q := by
  refine zloop 3 (fun t => ∀ (acc : Int32), acc = zsum e t → P 8 4 [.ref a, .int acc, .int (nI t)] [] I L R Q) ?_
  intro t hle ih acc hacc
  refine r_il hP c8_4 rfl ?_
  refine r_al hP c8_5 rfl ?_
  refine r_alen (n := 3) hP c8_6 hka ?_
  refine r_ige hP c8_7 (fun h7 => ?_) (fun h7 => ?_)
  · have he : t = 3 := Nat.le_antisymm hle ((nI_leI (by omega) (by omega)).mp h7)
    refine r_il hP c8_25 rfl ?_
    exact r_irE hP c8_26 h (by rw [hacc, he])
  · have hlt : t < 3 := by
      rcases Nat.lt_or_ge t 3 with q | q
      · exact q
      · exact absurd (nI_le q (by omega)) h7
    refine r_il hP c8_10 rfl ?_
    refine r_al hP c8_11 rfl ?_
    refine r_il hP c8_12 rfl ?_
    refine r_iald (j := t) (x := e t) hP c8_13 hka rfl (by omega) (hea t (by omega)) ?_
    refine r_mabs hP c8_14 rfl ?_
    refine r_ti (y := zabs (e t)) rfl ?_
    refine r_iadd hP c8_17 ?_
    refine r_is (ls' := [.ref a, .int (acc + (zabs (e t))), .int (nI t)]) hP c8_18 (Nat.le_of_ble_eq_true rfl) rfl ?_
    refine r_inc (y := nI (t + 1)) (ls' := [.ref a, .int (acc + (zabs (e t))), .int (nI (t + 1))]) hP c8_19 rfl (nI_1 _) rfl ?_
    refine r_goto hP c8_22 ?_
    exact ih hlt _ (by rw [hacc]; rfl)
set_option maxRecDepth 4000 in
theorem x_mag {K : ZKh} {P : Nat → Nat → List Value → List Value → ZMi → ZMl → ZMr → ZRt → Prop} {I : ZMi} {L : ZMl} {R : ZMr} {Q : ZRt} (hP : ZCl K P) {a : Nat} {e : Nat → Int32} (hka : K a = (20, 3)) (hea : ∀ t, t < 3 → I a t = e t) (h : Q (some (.int (zsum e 3))) I L R) : P 8 0 [.ref a, .null, .null] [] I L R Q := by
  refine r_ic hP c8_0 ?_
  refine r_is (ls' := [.ref a, .int 0, .null]) hP c8_1 (Nat.le_of_ble_eq_true rfl) rfl ?_
  refine r_ic hP c8_2 ?_
  refine r_is (ls' := [.ref a, .int 0, .int 0]) hP c8_3 (Nat.le_of_ble_eq_true rfl) rfl ?_
  exact x_mag_l hP hka hea h 0 (Nat.zero_le _) 0 rfl
set_option maxRecDepth 4000 in
theorem x_loud {K : ZKh} {P : Nat → Nat → List Value → List Value → ZMi → ZMl → ZMr → ZRt → Prop} {I : ZMi} {L : ZMl} {R : ZMr} {Q : ZRt} (hP : ZCl K P) {e : Nat → Int32} (hK : zKa K) (hR : zRa R) (he15 : ∀ t, t < 3 → I 15 t = e t) (h : Q (some (.int (zsum e 3))) I L R) : P 7 0 [.ref 7] [] I L R Q := by
  refine r_al hP c7_0 rfl ?_
  refine r_gR (x := 15) hP c7_1 (zj7 hK) (zr7_1 hR) ?_
  refine r_cSi (as := [.ref 15]) (r := []) (I' := I) (L' := L) (R' := R) (x := zsum e 3) hP c7_4 rfl rfl (fun _ hq => x_mag hP (zk15 hK) he15 hq) ?_
  exact r_irE hP c7_7 h (by rfl)
set_option maxRecDepth 4000 in
theorem x_across {K : ZKh} {P : Nat → Nat → List Value → List Value → ZMi → ZMl → ZMr → ZRt → Prop} {I : ZMi} {L : ZMl} {R : ZMr} {Q : ZRt} (hP : ZCl K P) {w nS nP nW : Nat} {S : ZS} (hK : zKa K) (hR : zRa R) (hw : zisW w) (hC : zC I w S nS nP nW) (hp8 : nP ≤ 8) (hs6 : nS ≤ 6) (hw6 : nW ≤ 6) {st j : Nat} (hst : st < 256) (hj : j < nP) (h : Q (some (.int (nI (if S 4 j 0 = 0 then zclr st j else st)))) I L R) : P 10 0 [.ref w, .int (nI st), .int (nI j)] [] I L R Q := by
  refine r_al hP c10_0 rfl ?_
  refine r_il hP c10_1 rfl ?_
  refine r_cVi (as := [.int (nI j)]) (r := []) (I' := I) (L' := L) (R' := R) (x := if zr (nI j) nP then 1 else 0) (a := w) hP c10_2 rfl (zj_W hK hw) rfl (fun _ h2 => x_hasPart hP (zj_W hK hw) (zC_p hC) (by omega) h2) ?_
  refine r_ifeqB hP c10_5 (fun h5 => absurd h5 (not_not_intro (zr_nI hj (by omega)))) (fun h5 => ?_)
  refine r_al hP c10_8 rfl ?_
  refine r_gR (x := w + 2) hP c10_9 (zj_W hK hw) (zr_pts hR hw) ?_
  refine r_il hP c10_12 rfl ?_
  refine r_aald (j := j) (x := w + 18 + 2 * j) hP c10_13 (zk_pts hK hw) rfl (by omega) (zr_prt hR hw (by omega)) ?_
  refine r_gI (x := S 4 j 0) hP c10_14 (zj_prt hK hw (by omega)) (zC_f hC (by omega) 2 (by decide) (by decide)) ?_
  refine r_ifne hP c10_17 (fun h17 => ?_) (fun h17 => ?_)
  · refine r_il hP c10_30 rfl ?_
    exact r_irE hP c10_31 h (by first | rw [if_pos h17] | rw [if_neg h17])
  · refine r_il hP c10_20 rfl ?_
    refine r_ic hP c10_21 ?_
    refine r_il hP c10_22 rfl ?_
    refine r_ishl hP c10_23 ?_
    refine r_ic hP c10_24 ?_
    refine r_ixor hP c10_25 ?_
    refine r_iand hP c10_26 ?_
    refine r_ti (y := nI (zclr st j)) (zclr_c st hst j (by omega)) ?_
    refine r_goto hP c10_27 ?_
    exact r_irE hP c10_31 h (by first | rw [if_pos h17] | rw [if_neg h17])
def zmin9 (v : Int32) : Int32 := if v < 9 then v else 9
def zrep (S : ZS) (nS nP st k j : Nat) (m : Int32) : Int32 := if k = 4 then zmin9 (zsum (fun t => zin S nP st m 100 100 j t) 3 / 20) else zth S (fun t => zhd S nP (if k = 3 ∧ S 4 j 0 = 0 then zclr st j else st) m (if k = 1 then j else 100) (if k = 2 then j else 100) t nS) 3
theorem zno : ∀ s, s < 6 → (nI s = -1 ↔ s = 100) := by decide +kernel
theorem zno2 {n : Nat} (h : n ≤ 6) : (((-1 : Int32) = nI 100 ∧ 100 < n) ∨ (¬ zr (-1) n ∧ n ≤ 100)) := Or.inr ⟨fun q => absurd q.1 (by decide), by omega⟩
theorem zyes {j : Nat} (hj : j < 6) : ∀ s, s < 6 → (nI s = nI j ↔ s = j) := fun s hs => nI_eq (by omega) (by omega)
set_option maxRecDepth 4000 in
theorem x_reply0 {K : ZKh} {P : Nat → Nat → List Value → List Value → ZMi → ZMl → ZMr → ZRt → Prop} {I : ZMi} {L : ZMl} {R : ZMr} {Q : ZRt} (hP : ZCl K P) {w nS nP nW : Nat} {S : ZS} (hK : zKa K) (hR : zRa R) (hw : zisW w) (hC : zC I w S nS nP nW) (hp8 : nP ≤ 8) (hs6 : nS ≤ 6) (hw6 : nW ≤ 6) (hs1 : 1 ≤ nS) (hsg : ∀ p, p < nP → ∃ a, a < nS ∧ S 3 p 0 = nI a) {st : Nat} {m : Int32} (hst : st < 256) {j : Nat} (hj : j < 1) (h : ∀ I2, zfr I I2 → Q (some (.int (zrep S nS nP st 0 j m))) I2 L R) : P 9 0 [.ref 7, .ref w, .int (nI st), .int 0, .int (nI j), .int m, .null] [] I L R Q := by
  have hw39 := zW39 hw
  refine r_il hP c9_0 rfl ?_
  refine r_ic hP c9_1 ?_
  refine r_ine hP c9_2 (fun h2 => ?_) (fun h2 => absurd h2 (by decide))
  refine r_il hP c9_15 rfl ?_
  refine r_is (ls' := [.ref 7, .ref w, .int (nI st), .int 0, .int (nI j), .int m, .int (nI st)]) hP c9_16 (Nat.le_of_ble_eq_true rfl) rfl ?_
  refine r_al hP c9_18 rfl ?_
  refine r_al hP c9_19 rfl ?_
  refine r_il hP c9_20 rfl ?_
  refine r_il hP c9_22 rfl ?_
  refine r_il hP c9_24 rfl ?_
  refine r_ic hP c9_25 ?_
  refine r_ine hP c9_26 (fun h26 => ?_) (fun h26 => absurd h26 (by decide))
  refine r_ic hP c9_34 ?_
  refine r_il hP c9_35 rfl ?_
  refine r_ic hP c9_36 ?_
  refine r_ine hP c9_37 (fun h37 => ?_) (fun h37 => absurd h37 (by decide))
  refine r_ic hP c9_45 ?_
  refine r_cVvp (as := [.ref w, .int (nI st), .int m, .int (-1), .int (-1)]) (r := []) (a := 7) hP c9_46 rfl (zj7 hK) rfl (fun I2 L2 R2 => zPl I I2 S nP st m 100 100 nS ∧ L = L2 ∧ R = R2) (fun Q2 hq => x_play hP hK hR hw hC hp8 hs6 hw6 hs1 hsg hst zno (zno2 hs6) (fun I2 h2 => hq I2 L R ⟨h2, rfl, rfl⟩)) ?_
  rintro I1 L1 R1 ⟨h1, rfl, rfl⟩
  refine r_il hP c9_49 rfl ?_
  refine r_ic hP c9_50 ?_
  refine r_ine hP c9_51 (fun h51 => ?_) (fun h51 => absurd h51 (by decide))
  refine r_al hP c9_82 rfl ?_
  refine r_al hP c9_83 rfl ?_
  refine r_cVi (as := [.ref w]) (r := []) (I' := I1) (L' := L) (R' := R) (x := zth S (fun t => zhd S nP st m 100 100 t nS) 3) (a := 7) hP c9_84 rfl (zj7 hK) rfl (fun _ hq => x_tones hP hK hR hw (zC_fr hC h1.1 hw hs6 hp8 hw6) hp8 hs6 hw6 (fun t ht => h1.2.2 t ht) hq) ?_
  exact r_irE hP c9_87 (h _ h1.1) (by simp [zrep, zmin9])
set_option maxRecDepth 4000 in
theorem x_reply1 {K : ZKh} {P : Nat → Nat → List Value → List Value → ZMi → ZMl → ZMr → ZRt → Prop} {I : ZMi} {L : ZMl} {R : ZMr} {Q : ZRt} (hP : ZCl K P) {w nS nP nW : Nat} {S : ZS} (hK : zKa K) (hR : zRa R) (hw : zisW w) (hC : zC I w S nS nP nW) (hp8 : nP ≤ 8) (hs6 : nS ≤ 6) (hw6 : nW ≤ 6) (hs1 : 1 ≤ nS) (hsg : ∀ p, p < nP → ∃ a, a < nS ∧ S 3 p 0 = nI a) {st : Nat} {m : Int32} (hst : st < 256) {j : Nat} (hj : j < nS) (h : ∀ I2, zfr I I2 → Q (some (.int (zrep S nS nP st 1 j m))) I2 L R) : P 9 0 [.ref 7, .ref w, .int (nI st), .int 1, .int (nI j), .int m, .null] [] I L R Q := by
  have hw39 := zW39 hw
  refine r_il hP c9_0 rfl ?_
  refine r_ic hP c9_1 ?_
  refine r_ine hP c9_2 (fun h2 => ?_) (fun h2 => absurd h2 (by decide))
  refine r_il hP c9_15 rfl ?_
  refine r_is (ls' := [.ref 7, .ref w, .int (nI st), .int 1, .int (nI j), .int m, .int (nI st)]) hP c9_16 (Nat.le_of_ble_eq_true rfl) rfl ?_
  refine r_al hP c9_18 rfl ?_
  refine r_al hP c9_19 rfl ?_
  refine r_il hP c9_20 rfl ?_
  refine r_il hP c9_22 rfl ?_
  refine r_il hP c9_24 rfl ?_
  refine r_ic hP c9_25 ?_
  refine r_ine hP c9_26 (fun h26 => absurd h26 (by decide)) (fun h26 => ?_)
  refine r_il hP c9_29 rfl ?_
  refine r_goto hP c9_31 ?_
  refine r_il hP c9_35 rfl ?_
  refine r_ic hP c9_36 ?_
  refine r_ine hP c9_37 (fun h37 => ?_) (fun h37 => absurd h37 (by decide))
  refine r_ic hP c9_45 ?_
  refine r_cVvp (as := [.ref w, .int (nI st), .int m, .int (nI j), .int (-1)]) (r := []) (a := 7) hP c9_46 rfl (zj7 hK) rfl (fun I2 L2 R2 => zPl I I2 S nP st m j 100 nS ∧ L = L2 ∧ R = R2) (fun Q2 hq => x_play hP hK hR hw hC hp8 hs6 hw6 hs1 hsg hst (zyes (by omega)) (zno2 hs6) (fun I2 h2 => hq I2 L R ⟨h2, rfl, rfl⟩)) ?_
  rintro I1 L1 R1 ⟨h1, rfl, rfl⟩
  refine r_il hP c9_49 rfl ?_
  refine r_ic hP c9_50 ?_
  refine r_ine hP c9_51 (fun h51 => ?_) (fun h51 => absurd h51 (by decide))
  refine r_al hP c9_82 rfl ?_
  refine r_al hP c9_83 rfl ?_
  refine r_cVi (as := [.ref w]) (r := []) (I' := I1) (L' := L) (R' := R) (x := zth S (fun t => zhd S nP st m j 100 t nS) 3) (a := 7) hP c9_84 rfl (zj7 hK) rfl (fun _ hq => x_tones hP hK hR hw (zC_fr hC h1.1 hw hs6 hp8 hw6) hp8 hs6 hw6 (fun t ht => h1.2.2 t ht) hq) ?_
  exact r_irE hP c9_87 (h _ h1.1) (by simp [zrep, zmin9])
set_option maxRecDepth 4000 in
theorem x_reply2 {K : ZKh} {P : Nat → Nat → List Value → List Value → ZMi → ZMl → ZMr → ZRt → Prop} {I : ZMi} {L : ZMl} {R : ZMr} {Q : ZRt} (hP : ZCl K P) {w nS nP nW : Nat} {S : ZS} (hK : zKa K) (hR : zRa R) (hw : zisW w) (hC : zC I w S nS nP nW) (hp8 : nP ≤ 8) (hs6 : nS ≤ 6) (hw6 : nW ≤ 6) (hs1 : 1 ≤ nS) (hsg : ∀ p, p < nP → ∃ a, a < nS ∧ S 3 p 0 = nI a) {st : Nat} {m : Int32} (hst : st < 256) {j : Nat} (hj : j < nS) (h : ∀ I2, zfr I I2 → Q (some (.int (zrep S nS nP st 2 j m))) I2 L R) : P 9 0 [.ref 7, .ref w, .int (nI st), .int 2, .int (nI j), .int m, .null] [] I L R Q := by
  have hw39 := zW39 hw
  refine r_il hP c9_0 rfl ?_
  refine r_ic hP c9_1 ?_
  refine r_ine hP c9_2 (fun h2 => ?_) (fun h2 => absurd h2 (by decide))
  refine r_il hP c9_15 rfl ?_
  refine r_is (ls' := [.ref 7, .ref w, .int (nI st), .int 2, .int (nI j), .int m, .int (nI st)]) hP c9_16 (Nat.le_of_ble_eq_true rfl) rfl ?_
  refine r_al hP c9_18 rfl ?_
  refine r_al hP c9_19 rfl ?_
  refine r_il hP c9_20 rfl ?_
  refine r_il hP c9_22 rfl ?_
  refine r_il hP c9_24 rfl ?_
  refine r_ic hP c9_25 ?_
  refine r_ine hP c9_26 (fun h26 => ?_) (fun h26 => absurd h26 (by decide))
  refine r_ic hP c9_34 ?_
  refine r_il hP c9_35 rfl ?_
  refine r_ic hP c9_36 ?_
  refine r_ine hP c9_37 (fun h37 => absurd h37 (by decide)) (fun h37 => ?_)
  refine r_il hP c9_40 rfl ?_
  refine r_goto hP c9_42 ?_
  refine r_cVvp (as := [.ref w, .int (nI st), .int m, .int (-1), .int (nI j)]) (r := []) (a := 7) hP c9_46 rfl (zj7 hK) rfl (fun I2 L2 R2 => zPl I I2 S nP st m 100 j nS ∧ L = L2 ∧ R = R2) (fun Q2 hq => x_play hP hK hR hw hC hp8 hs6 hw6 hs1 hsg hst zno (Or.inl ⟨rfl, hj⟩) (fun I2 h2 => hq I2 L R ⟨h2, rfl, rfl⟩)) ?_
  rintro I1 L1 R1 ⟨h1, rfl, rfl⟩
  refine r_il hP c9_49 rfl ?_
  refine r_ic hP c9_50 ?_
  refine r_ine hP c9_51 (fun h51 => ?_) (fun h51 => absurd h51 (by decide))
  refine r_al hP c9_82 rfl ?_
  refine r_al hP c9_83 rfl ?_
  refine r_cVi (as := [.ref w]) (r := []) (I' := I1) (L' := L) (R' := R) (x := zth S (fun t => zhd S nP st m 100 j t nS) 3) (a := 7) hP c9_84 rfl (zj7 hK) rfl (fun _ hq => x_tones hP hK hR hw (zC_fr hC h1.1 hw hs6 hp8 hw6) hp8 hs6 hw6 (fun t ht => h1.2.2 t ht) hq) ?_
  exact r_irE hP c9_87 (h _ h1.1) (by simp [zrep, zmin9])
set_option maxRecDepth 4000 in
theorem x_reply3 {K : ZKh} {P : Nat → Nat → List Value → List Value → ZMi → ZMl → ZMr → ZRt → Prop} {I : ZMi} {L : ZMl} {R : ZMr} {Q : ZRt} (hP : ZCl K P) {w nS nP nW : Nat} {S : ZS} (hK : zKa K) (hR : zRa R) (hw : zisW w) (hC : zC I w S nS nP nW) (hp8 : nP ≤ 8) (hs6 : nS ≤ 6) (hw6 : nW ≤ 6) (hs1 : 1 ≤ nS) (hsg : ∀ p, p < nP → ∃ a, a < nS ∧ S 3 p 0 = nI a) {st : Nat} {m : Int32} (hst : st < 256) {j : Nat} (hj : j < nP) (h : ∀ I2, zfr I I2 → Q (some (.int (zrep S nS nP st 3 j m))) I2 L R) : P 9 0 [.ref 7, .ref w, .int (nI st), .int 3, .int (nI j), .int m, .null] [] I L R Q := by
  have hw39 := zW39 hw
  refine r_il hP c9_0 rfl ?_
  refine r_ic hP c9_1 ?_
  refine r_ine hP c9_2 (fun h2 => absurd h2 (by decide)) (fun h2 => ?_)
  refine r_al hP c9_5 rfl ?_
  refine r_il hP c9_6 rfl ?_
  refine r_il hP c9_7 rfl ?_
  refine r_cSi (as := [.ref w, .int (nI st), .int (nI j)]) (r := []) (I' := I) (L' := L) (R' := R) (x := nI (if S 4 j 0 = 0 then zclr st j else st)) hP c9_9 rfl rfl (fun _ hq => x_across hP hK hR hw hC hp8 hs6 hw6 hst hj hq) ?_
  refine r_goto hP c9_12 ?_
  refine r_is (ls' := [.ref 7, .ref w, .int (nI st), .int 3, .int (nI j), .int m, .int (nI (if S 4 j 0 = 0 then zclr st j else st))]) hP c9_16 (Nat.le_of_ble_eq_true rfl) rfl ?_
  refine r_al hP c9_18 rfl ?_
  refine r_al hP c9_19 rfl ?_
  refine r_il hP c9_20 rfl ?_
  refine r_il hP c9_22 rfl ?_
  refine r_il hP c9_24 rfl ?_
  refine r_ic hP c9_25 ?_
  refine r_ine hP c9_26 (fun h26 => ?_) (fun h26 => absurd h26 (by decide))
  refine r_ic hP c9_34 ?_
  refine r_il hP c9_35 rfl ?_
  refine r_ic hP c9_36 ?_
  refine r_ine hP c9_37 (fun h37 => ?_) (fun h37 => absurd h37 (by decide))
  refine r_ic hP c9_45 ?_
  refine r_cVvp (as := [.ref w, .int (nI (if S 4 j 0 = 0 then zclr st j else st)), .int m, .int (-1), .int (-1)]) (r := []) (a := 7) hP c9_46 rfl (zj7 hK) rfl (fun I2 L2 R2 => zPl I I2 S nP (if S 4 j 0 = 0 then zclr st j else st) m 100 100 nS ∧ L = L2 ∧ R = R2) (fun Q2 hq => x_play hP hK hR hw hC hp8 hs6 hw6 hs1 hsg (by split <;> first | exact Nat.lt_of_le_of_lt (zclr_le st j) hst | exact hst) zno (zno2 hs6) (fun I2 h2 => hq I2 L R ⟨h2, rfl, rfl⟩)) ?_
  rintro I1 L1 R1 ⟨h1, rfl, rfl⟩
  refine r_il hP c9_49 rfl ?_
  refine r_ic hP c9_50 ?_
  refine r_ine hP c9_51 (fun h51 => ?_) (fun h51 => absurd h51 (by decide))
  refine r_al hP c9_82 rfl ?_
  refine r_al hP c9_83 rfl ?_
  refine r_cVi (as := [.ref w]) (r := []) (I' := I1) (L' := L) (R' := R) (x := zth S (fun t => zhd S nP (if S 4 j 0 = 0 then zclr st j else st) m 100 100 t nS) 3) (a := 7) hP c9_84 rfl (zj7 hK) rfl (fun _ hq => x_tones hP hK hR hw (zC_fr hC h1.1 hw hs6 hp8 hw6) hp8 hs6 hw6 (fun t ht => h1.2.2 t ht) hq) ?_
  exact r_irE hP c9_87 (h _ h1.1) (by simp [zrep, zmin9])
set_option maxRecDepth 4000 in
theorem x_reply4 {K : ZKh} {P : Nat → Nat → List Value → List Value → ZMi → ZMl → ZMr → ZRt → Prop} {I : ZMi} {L : ZMl} {R : ZMr} {Q : ZRt} (hP : ZCl K P) {w nS nP nW : Nat} {S : ZS} (hK : zKa K) (hR : zRa R) (hw : zisW w) (hC : zC I w S nS nP nW) (hp8 : nP ≤ 8) (hs6 : nS ≤ 6) (hw6 : nW ≤ 6) (hs1 : 1 ≤ nS) (hsg : ∀ p, p < nP → ∃ a, a < nS ∧ S 3 p 0 = nI a) {st : Nat} {m : Int32} (hst : st < 256) {j : Nat} (hj : j < nS) (h : ∀ I2, zfr I I2 → Q (some (.int (zrep S nS nP st 4 j m))) I2 L R) : P 9 0 [.ref 7, .ref w, .int (nI st), .int 4, .int (nI j), .int m, .null] [] I L R Q := by
  have hw39 := zW39 hw
  refine r_il hP c9_0 rfl ?_
  refine r_ic hP c9_1 ?_
  refine r_ine hP c9_2 (fun h2 => ?_) (fun h2 => absurd h2 (by decide))
  refine r_il hP c9_15 rfl ?_
  refine r_is (ls' := [.ref 7, .ref w, .int (nI st), .int 4, .int (nI j), .int m, .int (nI st)]) hP c9_16 (Nat.le_of_ble_eq_true rfl) rfl ?_
  refine r_al hP c9_18 rfl ?_
  refine r_al hP c9_19 rfl ?_
  refine r_il hP c9_20 rfl ?_
  refine r_il hP c9_22 rfl ?_
  refine r_il hP c9_24 rfl ?_
  refine r_ic hP c9_25 ?_
  refine r_ine hP c9_26 (fun h26 => ?_) (fun h26 => absurd h26 (by decide))
  refine r_ic hP c9_34 ?_
  refine r_il hP c9_35 rfl ?_
  refine r_ic hP c9_36 ?_
  refine r_ine hP c9_37 (fun h37 => ?_) (fun h37 => absurd h37 (by decide))
  refine r_ic hP c9_45 ?_
  refine r_cVvp (as := [.ref w, .int (nI st), .int m, .int (-1), .int (-1)]) (r := []) (a := 7) hP c9_46 rfl (zj7 hK) rfl (fun I2 L2 R2 => zPl I I2 S nP st m 100 100 nS ∧ L = L2 ∧ R = R2) (fun Q2 hq => x_play hP hK hR hw hC hp8 hs6 hw6 hs1 hsg hst zno (zno2 hs6) (fun I2 h2 => hq I2 L R ⟨h2, rfl, rfl⟩)) ?_
  rintro I1 L1 R1 ⟨h1, rfl, rfl⟩
  refine r_il hP c9_49 rfl ?_
  refine r_ic hP c9_50 ?_
  refine r_ine hP c9_51 (fun h51 => absurd h51 (by decide)) (fun h51 => ?_)
  refine r_al hP c9_54 rfl ?_
  refine r_il hP c9_55 rfl ?_
  refine r_cVi (as := [.int (nI j)]) (r := []) (I' := I1) (L' := L) (R' := R) (x := if zr (nI j) nS then 1 else 0) (a := w) hP c9_57 rfl (zj_W hK hw) rfl (fun _ hq => x_hasStage hP (zj_W hK hw) (zC_s (zC_fr hC h1.1 hw hs6 hp8 hw6)) (by omega) hq) ?_
  refine r_ifeqB hP c9_60 (fun h60 => absurd h60 (not_not_intro (zr_nI hj (by omega)))) (fun h60 => ?_)
  refine r_ic hP c9_63 ?_
  refine r_al hP c9_65 rfl ?_
  refine r_gR (x := 8) hP c9_66 (zj7 hK) (zr7_0 hR) ?_
  refine r_il hP c9_69 rfl ?_
  refine r_aald (j := j) (x := 9 + j) hP c9_71 (zk8 hK) rfl (by omega) (zr_in (s := j) hR (by omega)) ?_
  refine r_cSi (as := [.ref (9 + j)]) (r := [.int 9]) (I' := I1) (L' := L) (R' := R) (x := zsum (fun t => zin S nP st m 100 100 j t) 3) hP c9_72 rfl rfl (fun _ hq => x_mag hP (zk_in (s := j) hK (by omega)) (fun t ht => h1.2.1 j t hj ht) hq) ?_
  refine r_ic hP c9_75 ?_
  refine r_idiv hP c9_77 (by decide) ?_
  refine r_mmin hP c9_78 rfl ?_
  exact r_irE hP c9_81 (h _ h1.1) (by simp [zrep, zmin9])
theorem x_reply {K : ZKh} {P : Nat → Nat → List Value → List Value → ZMi → ZMl → ZMr → ZRt → Prop} {I : ZMi} {L : ZMl} {R : ZMr} {Q : ZRt} (hP : ZCl K P) {w nS nP nW : Nat} {S : ZS} (hK : zKa K) (hR : zRa R) (hw : zisW w) (hC : zC I w S nS nP nW) (hp8 : nP ≤ 8) (hs6 : nS ≤ 6) (hw6 : nW ≤ 6) (hs1 : 1 ≤ nS) (hsg : ∀ p, p < nP → ∃ a, a < nS ∧ S 3 p 0 = nI a) {st : Nat} {m : Int32} (hst : st < 256) {k j : Nat} (hk : k < 5) (hj : j < zak (nI k) nS nP) (h : ∀ I2, zfr I I2 → Q (some (.int (zrep S nS nP st k j m))) I2 L R) : P 9 0 [.ref 7, .ref w, .int (nI st), .int (nI k), .int (nI j), .int m, .null] [] I L R Q := by
  match k, hk with
  | 0, _ => exact x_reply0 hP hK hR hw hC hp8 hs6 hw6 hs1 hsg hst hj h
  | 1, _ => exact x_reply1 hP hK hR hw hC hp8 hs6 hw6 hs1 hsg hst hj h
  | 2, _ => exact x_reply2 hP hK hR hw hC hp8 hs6 hw6 hs1 hsg hst hj h
  | 3, _ => exact x_reply3 hP hK hR hw hC hp8 hs6 hw6 hs1 hsg hst hj h
  | 4, _ => exact x_reply4 hP hK hR hw hC hp8 hs6 hw6 hs1 hsg hst hj h
  | n + 5, q => exact absurd q (by omega)
