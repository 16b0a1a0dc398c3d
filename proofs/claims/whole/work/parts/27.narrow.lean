/-! ===== answers ===== -/
abbrev ZA : Type := Nat → Nat × Nat × Int32 × Int32
/-- na answers at b: kind, of, minute, answer -/
def zAn (I : ZMi) (b na : Nat) (A : ZA) : Prop := I b 4 = nI na ∧ ∀ i, i < na → I (b + 1) i = nI (A i).1 ∧ I (b + 2) i = nI (A i).2.1 ∧ I (b + 3) i = (A i).2.2.1 ∧ I (b + 4) i = (A i).2.2.2
/-- answers that may be asked of a set -/
def zAo (nS nP na : Nat) (A : ZA) : Prop := ∀ i, i < na → (A i).1 < 5 ∧ (A i).2.1 < zak (nI (A i).1) nS nP
def zfa (S : ZS) (nS nP : Nat) (q : Nat × Nat × Int32 × Int32) (st : Nat) : Bool := decide (zrep S nS nP st q.1 q.2.1 q.2.2.1 = q.2.2.2)
def zps (S : ZS) (nS nP : Nat) (A : ZA) : Nat → List Nat
  | 0 => zall S nP
  | i + 1 => (zps S nS nP A i).filter (zfa S nS nP (A i))
/-- a list of cases that may be -/
def zok (S : ZS) (nP : Nat) (cs : List Nat) : Prop := cs.length ≤ 37 ∧ ∀ c ∈ cs, c < 2 ^ nP ∧ 0 < zwt S c nP ∧ zbc c ≤ 2
theorem zok_f {S : ZS} {nP : Nat} {cs : List Nat} (h : zok S nP cs) (f : Nat → Bool) : zok S nP (cs.filter f) := ⟨Nat.le_trans (List.length_filter_le f cs) h.1, fun c hc => h.2 c (List.mem_filter.mp hc).1⟩
theorem zok_all (S : ZS) {nP : Nat} (hp8 : nP ≤ 8) : zok S nP (zall S nP) := ⟨z37l S hp8 (Nat.le_refl _), fun c hc => by
  obtain ⟨h1, h2⟩ := List.mem_filter.mp hc
  simp only [zwp, Bool.and_eq_true, decide_eq_true_eq] at h2
  exact ⟨List.mem_range.mp h1, h2.2, h2.1⟩⟩
theorem zok_ps (S : ZS) (nS : Nat) {nP : Nat} (hp8 : nP ≤ 8) (A : ZA) : ∀ i, zok S nP (zps S nS nP A i)
  | 0 => zok_all S hp8
  | i + 1 => zok_f (zok_ps S nS hp8 A i) _
theorem zok_256 {S : ZS} {nP : Nat} {cs : List Nat} (h : zok S nP cs) (hp8 : nP ≤ 8) : ∀ c ∈ cs, c < 256 := fun c hc => Nat.lt_of_lt_of_le (h.2 c hc).1 (zp256 hp8)
theorem zCs_to {I I' : ZMi} {L L' : ZMl} {S : ZS} {nP : Nat} {cs : List Nat} (h : zCs I L S nP cs) (h1 : ∀ k, I' 31 k = I 31 k) (h2 : ∀ k, I' 32 k = I 32 k) (h3 : ∀ k, L' 31 k = L 31 k) (h4 : ∀ k, L' 33 k = L 33 k) : zCs I' L' S nP cs := ⟨by rw [h1]; exact h.1, fun i hi => by rw [h2, h4]; exact h.2.1 i hi, by rw [h3]; exact h.2.2⟩
/-- while the list is narrowed: what is left so far, what is still to come -/
def zNr (I I' : ZMi) (L L' : ZMl) (S : ZS) (nP : Nat) (cs : List Nat) (f : Nat → Bool) (c : Nat) : Prop := zfc I I' ∧ zfl_ L L' ∧ zCs I' L' S nP ((cs.take c).filter f) ∧ ∀ i, c ≤ i → i < cs.length → I' 32 i = nI (cs.getD i 0) ∧ L' 33 i = zwt S (cs.getD i 0) nP
theorem z_takeF {cs : List Nat} {f : Nat → Bool} {c : Nat} (hc : c < cs.length) : (cs.take (c + 1)).filter f = (cs.take c).filter f ++ (if f (cs.getD c 0) then [cs.getD c 0] else []) := by
  rw [z_take hc, List.filter_append]
  congr 1
  by_cases q : f (cs.getD c 0) = true
  · rw [if_pos q, List.filter_cons_of_pos q, List.filter_nil]
  · rw [if_neg q, List.filter_cons_of_neg q, List.filter_nil]
theorem z_takeL {cs : List Nat} {f : Nat → Bool} {c : Nat} : ((cs.take c).filter f).length ≤ c := Nat.le_trans (List.length_filter_le _ _) (by rw [List.length_take]; omega)
theorem zNr_no {I I' I2 : ZMi} {L L' : ZMl} {S : ZS} {nP : Nat} {cs : List Nat} {f : Nat → Bool} {c : Nat} (h : zNr I I' L L' S nP cs f c) (h2 : zfr I' I2) (hc : c < cs.length) (hf : ¬ f (cs.getD c 0) = true) : zNr I I2 L L' S nP cs f (c + 1) := by
  refine ⟨zfc_t h.1 (zfc_b h2), h.2.1, ?_, fun i h3 h4 => ?_⟩
  · rw [z_takeF hc, if_neg hf, List.append_nil]
    exact zCs_to h.2.2.1 (fun k => h2 31 (by omega) k) (fun k => h2 32 (by omega) k) (fun _ => rfl) (fun _ => rfl)
  · rw [h2 32 (by omega)]
    exact h.2.2.2 i (by omega) h4
theorem zNr_yes {I I' I2 : ZMi} {L L' : ZMl} {S : ZS} {nP : Nat} {cs : List Nat} {f : Nat → Bool} {c : Nat} (h : zNr I I' L L' S nP cs f c) (h2 : zfr I' I2) (hc : c < cs.length) (hf : f (cs.getD c 0) = true) :
    zNr I (zup (zup I2 32 ((cs.take c).filter f).length (nI (cs.getD c 0))) 31 2 (nI (((cs.take c).filter f).length + 1))) L (zup (zup L' 33 ((cs.take c).filter f).length (zwt S (cs.getD c 0) nP)) 31 3 (zsw_ S nP ((cs.take c).filter f) + zwt S (cs.getD c 0) nP)) S nP cs f (c + 1) := by
  have hl := z_takeL (cs := cs) (f := f) (c := c)
  have hz : zCs I2 L' S nP ((cs.take c).filter f) := zCs_to h.2.2.1 (fun k => h2 31 (by omega) k) (fun k => h2 32 (by omega) k) (fun _ => rfl) (fun _ => rfl)
  refine ⟨zfc_u (zfc_u (zfc_t h.1 (zfc_b h2)) (Or.inr rfl)) (Or.inl rfl), zfl_u (zfl_u h.2.1 (Or.inr rfl)) (Or.inl rfl), ?_, fun i h3 h4 => ?_⟩
  · rw [z_takeF hc, if_pos hf]
    exact zCs_add hz _
  · rw [zup_n _ _ _ _ (by omega), zup_n _ _ _ _ (by omega), zup_n _ _ _ _ (by omega), zup_n _ _ _ _ (by omega), h2 32 (by omega)]
    exact h.2.2.2 i (by omega) h4
set_option maxRecDepth 4000 in
theorem x_narrow_l {K : ZKh} {P : Nat → Nat → List Value → List Value → ZMi → ZMl → ZMr → ZRt → Prop} {I : ZMi} {L : ZMl} {R : ZMr} {Q : ZRt} (hP : ZCl K P) {w nS nP nW : Nat} {S : ZS} (hK : zKa K) (hR : zRa R) (hw : zisW w) (hC : zC I w S nS nP nW) (hp8 : nP ≤ 8) (hs6 : nS ≤ 6) (hw6 : nW ≤ 6) (hs1 : 1 ≤ nS) (hsg : ∀ p, p < nP → ∃ a, a < nS ∧ S 3 p 0 = nI a) {cs : List Nat} {na i : Nat} {A : ZA} (hA : zAn I 16 na A) (hAo : zAo nS nP na A) (hi : i < na) (hn10 : na ≤ 10) (hok : zok S nP cs) (h : ∀ I2 L2, zfc I I2 → zfl_ L L2 → zCs I2 L2 S nP (cs.filter (zfa S nS nP (A i))) → Q none I2 L2 R) : ∀ c, c ≤ cs.length → ∀ (I1 : ZMi) (L1 : ZMl) (v7 : Value), zNr I I1 L L1 S nP cs (zfa S nS nP (A i)) c → P 14 34 [.ref 31, .ref w, .ref 7, .ref 16, .int (nI i), .int (nI cs.length), .int (nI c), v7] [] I1 L1 R Q := by
  refine zloop cs.length (fun c => ∀ (I1 : ZMi) (L1 : ZMl) (v7 : Value), zNr I I1 L L1 S nP cs (zfa S nS nP (A i)) c → P 14 34 [.ref 31, .ref w, .ref 7, .ref 16, .int (nI i), .int (nI cs.length), .int (nI c), v7] [] I1 L1 R Q) ?_
  intro c hle ih I1 L1 v7 hacc
  have hw39 := zW39 hw
  refine r_il hP c14_34 rfl ?_
  refine r_il hP c14_36 rfl ?_
  refine r_ige hP c14_38 (fun h38 => ?_) (fun h38 => ?_)
  · have he : c = cs.length := Nat.le_antisymm hle ((nI_leI (by have := hok.1; omega) (by have := hok.1; omega)).mp h38)
    rw [he] at hacc
    have hz := hacc.2.2.1
    rw [List.take_length] at hz
    exact r_vr hP c14_112 (h _ _ hacc.1 hacc.2.1 hz)
  · have hlt : c < cs.length := by
      rcases Nat.lt_or_ge c cs.length with q | q
      · exact q
      · exact absurd (nI_le q (by have := hok.1; omega)) h38
    refine r_al hP c14_41 rfl ?_
    refine r_al hP c14_42 rfl ?_
    refine r_al hP c14_43 rfl ?_
    refine r_gR (x := 32) hP c14_44 (zj31 hK) (zr31_0 hR) ?_
    refine r_il hP c14_47 rfl ?_
    refine r_iald (j := c) (x := nI (cs.getD c 0)) hP c14_49 (zk32 hK) rfl (by have := hok.1; omega) (hacc.2.2.2 c (Nat.le_refl c) hlt).1 ?_
    refine r_al hP c14_50 rfl ?_
    refine r_gR (x := 16 + 1) hP c14_51 (zj_A hK (Or.inl rfl)) (zr_A1 hR (Or.inl rfl)) ?_
    refine r_il hP c14_54 rfl ?_
    refine r_iald (j := i) (x := nI (A i).1) hP c14_56 (zk_A1 hK (Or.inl rfl)) rfl (by omega) ((hacc.1 17 (by decide) (by decide) (by decide) i).trans (hA.2 i hi).1) ?_
    refine r_al hP c14_57 rfl ?_
    refine r_gR (x := 16 + 2) hP c14_58 (zj_A hK (Or.inl rfl)) (zr_A2 hR (Or.inl rfl)) ?_
    refine r_il hP c14_61 rfl ?_
    refine r_iald (j := i) (x := nI (A i).2.1) hP c14_63 (zk_A2 hK (Or.inl rfl)) rfl (by omega) ((hacc.1 18 (by decide) (by decide) (by decide) i).trans (hA.2 i hi).2.1) ?_
    refine r_al hP c14_64 rfl ?_
    refine r_gR (x := 16 + 3) hP c14_65 (zj_A hK (Or.inl rfl)) (zr_A3 hR (Or.inl rfl)) ?_
    refine r_il hP c14_68 rfl ?_
    refine r_iald (j := i) (x := (A i).2.2.1) hP c14_70 (zk_A3 hK (Or.inl rfl)) rfl (by omega) ((hacc.1 19 (by decide) (by decide) (by decide) i).trans (hA.2 i hi).2.2.1) ?_
    refine r_cVip (as := [.ref w, .int (nI (cs.getD c 0)), .int (nI (A i).1), .int (nI (A i).2.1), .int ((A i).2.2.1)]) (r := []) (a := 7) hP c14_71 rfl (zj7 hK) rfl (fun x I2 L2 R2 => (x = zrep S nS nP (cs.getD c 0) (A i).1 (A i).2.1 (A i).2.2.1 ∧ zfr I1 I2) ∧ L1 = L2 ∧ R = R2) (fun Q2 hq => x_reply hP hK hR hw (zC_fc hC hacc.1 hw hs6 hp8 hw6) hp8 hs6 hw6 hs1 hsg (zok_256 hok hp8 _ (z_mem hlt)) (hAo i hi).1 (hAo i hi).2 (fun I2 h2 => hq _ I2 L1 R ⟨⟨rfl, h2⟩, rfl, rfl⟩)) ?_
    rintro x I2 L2 R2 ⟨⟨rfl, h2⟩, rfl, rfl⟩
    refine r_is (ls' := [.ref 31, .ref w, .ref 7, .ref 16, .int (nI i), .int (nI cs.length), .int (nI c), .int (zrep S nS nP (cs.getD c 0) (A i).1 (A i).2.1 (A i).2.2.1)]) hP c14_74 (Nat.le_of_ble_eq_true rfl) rfl ?_
    refine r_il hP c14_76 rfl ?_
    refine r_al hP c14_78 rfl ?_
    refine r_gR (x := 16 + 4) hP c14_79 (zj_A hK (Or.inl rfl)) (zr_A4 hR (Or.inl rfl)) ?_
    refine r_il hP c14_82 rfl ?_
    refine r_iald (j := i) (x := (A i).2.2.2) hP c14_84 (zk_A4 hK (Or.inl rfl)) rfl (by omega) ((h2 20 (by decide) i).trans ((hacc.1 20 (by decide) (by decide) (by decide) i).trans (hA.2 i hi).2.2.2)) ?_
    refine r_ine hP c14_85 (fun h85 => ?_) (fun h85 => ?_)
    · refine r_inc (y := nI (c + 1)) (ls' := [.ref 31, .ref w, .ref 7, .ref 16, .int (nI i), .int (nI cs.length), .int (nI (c + 1)), .int (zrep S nS nP (cs.getD c 0) (A i).1 (A i).2.1 (A i).2.2.1)]) hP c14_106 rfl (nI_1 _) rfl ?_
      refine r_goto hP c14_109 ?_
      exact ih hlt _ _ _ (by first | exact zNr_no hacc h2 hlt (by simp only [zfa, decide_eq_true_eq]; exact h85) | exact zNr_yes hacc h2 hlt (by simp only [zfa, decide_eq_true_eq]; exact h85))
    · refine r_al hP c14_88 rfl ?_
      refine r_al hP c14_89 rfl ?_
      refine r_gR (x := 32) hP c14_90 (zj31 hK) (zr31_0 hR) ?_
      refine r_il hP c14_93 rfl ?_
      refine r_iald (j := c) (x := nI (cs.getD c 0)) hP c14_95 (zk32 hK) rfl (by have := hok.1; omega) ((h2 32 (by decide) c).trans (hacc.2.2.2 c (Nat.le_refl c) hlt).1) ?_
      refine r_al hP c14_96 rfl ?_
      refine r_gR (x := 33) hP c14_97 (zj31 hK) (zr31_1 hR) ?_
      refine r_il hP c14_100 rfl ?_
      refine r_lald (j := c) (x := zwt S (cs.getD c 0) nP) hP c14_102 (zk33 hK) rfl (by have := hok.1; omega) (hacc.2.2.2 c (Nat.le_refl c) hlt).2 ?_
      refine r_cVv (as := [.int (nI (cs.getD c 0)), .long (zwt S (cs.getD c 0) nP)]) (r := []) (I' := zup (zup I2 32 ((cs.take c).filter (zfa S nS nP (A i))).length (nI (cs.getD c 0))) 31 2 (nI (((cs.take c).filter (zfa S nS nP (A i))).length + 1))) (L' := zup (zup L1 33 ((cs.take c).filter (zfa S nS nP (A i))).length (zwt S (cs.getD c 0) nP)) 31 3 (zsw_ S nP ((cs.take c).filter (zfa S nS nP (A i))) + zwt S (cs.getD c 0) nP)) (R' := R) (a := 31) hP c14_103 rfl (zj31 hK) rfl (fun _ hq => x_cadd hP hK hR (zCs_to hacc.2.2.1 (fun k => h2 31 (by omega) k) (fun k => h2 32 (by omega) k) (fun _ => rfl) (fun _ => rfl)) (by have := z_takeL (cs := cs) (f := (zfa S nS nP (A i))) (c := c); have := hok.1; omega) (hok.2 _ (z_mem hlt)).2.1 hq) ?_
      refine r_inc (y := nI (c + 1)) (ls' := [.ref 31, .ref w, .ref 7, .ref 16, .int (nI i), .int (nI cs.length), .int (nI (c + 1)), .int (zrep S nS nP (cs.getD c 0) (A i).1 (A i).2.1 (A i).2.2.1)]) hP c14_106 rfl (nI_1 _) rfl ?_
      refine r_goto hP c14_109 ?_
      exact ih hlt _ _ _ (by first | exact zNr_no hacc h2 hlt (by simp only [zfa, decide_eq_true_eq]; exact h85) | exact zNr_yes hacc h2 hlt (by simp only [zfa, decide_eq_true_eq]; exact h85))
set_option maxRecDepth 4000 in
theorem x_narrow {K : ZKh} {P : Nat → Nat → List Value → List Value → ZMi → ZMl → ZMr → ZRt → Prop} {I : ZMi} {L : ZMl} {R : ZMr} {Q : ZRt} (hP : ZCl K P) {w nS nP nW : Nat} {S : ZS} (hK : zKa K) (hR : zRa R) (hw : zisW w) (hC : zC I w S nS nP nW) (hp8 : nP ≤ 8) (hs6 : nS ≤ 6) (hw6 : nW ≤ 6) (hs1 : 1 ≤ nS) (hsg : ∀ p, p < nP → ∃ a, a < nS ∧ S 3 p 0 = nI a) {cs : List Nat} {na i : Nat} {A : ZA} (hA : zAn I 16 na A) (hAo : zAo nS nP na A) (hi : i < na) (hn10 : na ≤ 10) (hok : zok S nP cs) (hcs : zCs I L S nP cs) (h : ∀ I2 L2, zfc I I2 → zfl_ L L2 → zCs I2 L2 S nP (cs.filter (zfa S nS nP (A i))) → Q none I2 L2 R) : P 14 0 [.ref 31, .ref w, .ref 7, .ref 16, .int (nI i), .null, .null, .null] [] I L R Q := by
  refine r_il hP c14_0 rfl ?_
  refine r_iflt hP c14_2 (fun h2 => absurd h2 (nI_pos (by omega))) (fun h2 => ?_)
  refine r_il hP c14_5 rfl ?_
  refine r_al hP c14_7 rfl ?_
  refine r_gI (x := nI na) hP c14_8 (zj_A hK (Or.inl rfl)) hA.1 ?_
  refine r_ilt hP c14_11 (fun h11 => ?_) (fun h11 => absurd h11 (not_not_intro (nI_lt hi (by omega))))
  refine r_al hP c14_15 rfl ?_
  refine r_gI (x := nI cs.length) hP c14_16 (zj31 hK) hcs.1 ?_
  refine r_is (ls' := [.ref 31, .ref w, .ref 7, .ref 16, .int (nI i), .int (nI cs.length), .null, .null]) hP c14_19 (Nat.le_of_ble_eq_true rfl) rfl ?_
  refine r_al hP c14_21 rfl ?_
  refine r_ic hP c14_22 ?_
  refine r_pI hP c14_23 (zj31 hK) ?_
  refine r_al hP c14_26 rfl ?_
  refine r_lc hP c14_27 ?_
  refine r_pL hP c14_28 (zj31 hK) ?_
  refine r_ic hP c14_31 ?_
  refine r_is (ls' := [.ref 31, .ref w, .ref 7, .ref 16, .int (nI i), .int (nI cs.length), .int 0, .null]) hP c14_32 (Nat.le_of_ble_eq_true rfl) rfl ?_
  exact x_narrow_l hP hK hR hw hC hp8 hs6 hw6 hs1 hsg hA hAo hi hn10 hok h 0 (Nat.zero_le _) _ _ _ ⟨zfc_u (zfc_r I) (Or.inl rfl), zfl_u (zfl_r L) (Or.inl rfl), ⟨by rw [zup_s]; rfl, fun i hi => absurd hi (Nat.not_lt_zero i), by rw [zup_s]; rfl⟩, fun i h3 h4 => by rw [zup_n _ _ _ _ (by omega), zup_n _ _ _ _ (by omega)]; exact hcs.2.1 i h4⟩
theorem zAn_fc {I I' : ZMi} {na : Nat} {A : ZA} (h : zAn I 16 na A) (hf : zfc I I') : zAn I' 16 na A := ⟨(hf 16 (by decide) (by decide) (by decide) 4).trans h.1, fun i hi => ⟨(hf 17 (by decide) (by decide) (by decide) i).trans (h.2 i hi).1, (hf 18 (by decide) (by decide) (by decide) i).trans (h.2 i hi).2.1, (hf 19 (by decide) (by decide) (by decide) i).trans (h.2 i hi).2.2.1, (hf 20 (by decide) (by decide) (by decide) i).trans (h.2 i hi).2.2.2⟩⟩
set_option maxRecDepth 4000 in
theorem x_weigh_l {K : ZKh} {P : Nat → Nat → List Value → List Value → ZMi → ZMl → ZMr → ZRt → Prop} {I : ZMi} {L : ZMl} {R : ZMr} {Q : ZRt} (hP : ZCl K P) {w nS nP nW : Nat} {S : ZS} (hK : zKa K) (hR : zRa R) (hw : zisW w) (hC : zC I w S nS nP nW) (hp8 : nP ≤ 8) (hs6 : nS ≤ 6) (hw6 : nW ≤ 6) (hs1 : 1 ≤ nS) (hsg : ∀ p, p < nP → ∃ a, a < nS ∧ S 3 p 0 = nI a) {na : Nat} {A : ZA} (hl9 : R 2 9 = w + 1) (hA : zAn I 16 na A) (hAo : zAo nS nP na A) (hn10 : na ≤ 10) (h : ∀ I2 L2, zfc I I2 → zfl_ L L2 → zCs I2 L2 S nP (zps S nS nP A na) → Q none I2 L2 R) : ∀ i, i ≤ na → ∀ (I1 : ZMi) (L1 : ZMl), zfc I I1 ∧ zfl_ L L1 ∧ zCs I1 L1 S nP (zps S nS nP A i) → P 98 13 [.ref 2, .int (nI i)] [] I1 L1 R Q := by
  refine zloop na (fun i => ∀ (I1 : ZMi) (L1 : ZMl), zfc I I1 ∧ zfl_ L L1 ∧ zCs I1 L1 S nP (zps S nS nP A i) → P 98 13 [.ref 2, .int (nI i)] [] I1 L1 R Q) ?_
  intro i hle ih I1 L1 hacc
  refine r_il hP c98_13 rfl ?_
  refine r_al hP c98_14 rfl ?_
  refine r_gR (x := 16) hP c98_15 (zj2 hK) (zr2_3 hR) ?_
  refine r_gI (x := nI na) hP c98_18 (zj16 hK) (zAn_fc hA hacc.1).1 ?_
  refine r_ige hP c98_21 (fun h21 => ?_) (fun h21 => ?_)
  · have he : i = na := Nat.le_antisymm hle ((nI_leI (by omega) (by omega)).mp h21)
    subst he
    exact r_vr hP c98_50 (h _ _ hacc.1 hacc.2.1 hacc.2.2)
  · have hlt : i < na := by
      rcases Nat.lt_or_ge i na with q | q
      · exact q
      · exact absurd (nI_le q (by omega)) h21
    refine r_al hP c98_24 rfl ?_
    refine r_gR (x := 31) hP c98_25 (zj2 hK) (zr2_6 hR) ?_
    refine r_al hP c98_28 rfl ?_
    refine r_gR (x := w) hP c98_29 (zj2 hK) hl9 ?_
    refine r_al hP c98_32 rfl ?_
    refine r_gR (x := 7) hP c98_33 (zj2 hK) (zr2_2 hR) ?_
    refine r_al hP c98_36 rfl ?_
    refine r_gR (x := 16) hP c98_37 (zj2 hK) (zr2_3 hR) ?_
    refine r_il hP c98_40 rfl ?_
    refine r_cVvp (as := [.ref w, .ref 7, .ref 16, .int (nI i)]) (r := []) (a := 31) hP c98_41 rfl (zj31 hK) rfl (fun I2 L2 R2 => (zfc I1 I2 ∧ zfl_ L1 L2 ∧ zCs I2 L2 S nP (zps S nS nP A (i + 1))) ∧ R = R2) (fun Q2 hq => x_narrow hP hK hR hw (zC_fc hC hacc.1 hw hs6 hp8 hw6) hp8 hs6 hw6 hs1 hsg (zAn_fc hA hacc.1) hAo hlt hn10 (zok_ps S nS hp8 A i) hacc.2.2 (fun I2 L2 a b c => hq I2 L2 R ⟨⟨a, b, c⟩, rfl⟩)) ?_
    rintro I2 L2 R2 ⟨⟨ha, hb, hc⟩, rfl⟩
    refine r_inc (y := nI (i + 1)) (ls' := [.ref 2, .int (nI (i + 1))]) hP c98_44 rfl (nI_1 _) rfl ?_
    refine r_goto hP c98_47 ?_
    exact ih hlt _ _ ⟨zfc_t hacc.1 ha, zfl_t hacc.2.1 hb, hc⟩
set_option maxRecDepth 4000 in
theorem x_weigh {K : ZKh} {P : Nat → Nat → List Value → List Value → ZMi → ZMl → ZMr → ZRt → Prop} {I : ZMi} {L : ZMl} {R : ZMr} {Q : ZRt} (hP : ZCl K P) {w nS nP nW : Nat} {S : ZS} (hK : zKa K) (hR : zRa R) (hw : zisW w) (hC : zC I w S nS nP nW) (hp8 : nP ≤ 8) (hs6 : nS ≤ 6) (hw6 : nW ≤ 6) (hs1 : 1 ≤ nS) (hsg : ∀ p, p < nP → ∃ a, a < nS ∧ S 3 p 0 = nI a) {na : Nat} {A : ZA} (hl9 : R 2 9 = w + 1) (hA : zAn I 16 na A) (hAo : zAo nS nP na A) (hn10 : na ≤ 10) (h : ∀ I2 L2, zfc I I2 → zfl_ L L2 → zCs I2 L2 S nP (zps S nS nP A na) → Q none I2 L2 R) : P 98 0 [.ref 2, .null] [] I L R Q := by
  refine r_al hP c98_0 rfl ?_
  refine r_gR (x := 31) hP c98_1 (zj2 hK) (zr2_6 hR) ?_
  refine r_al hP c98_4 rfl ?_
  refine r_gR (x := w) hP c98_5 (zj2 hK) hl9 ?_
  refine r_cVvp (as := [.ref w]) (r := []) (a := 31) hP c98_8 rfl (zj31 hK) rfl (fun I2 L2 R2 => (zfc I I2 ∧ zfl_ L L2 ∧ zCs I2 L2 S nP (zall S nP)) ∧ R = R2) (fun Q2 hq => x_fill hP hK hR hw hC hp8 hs6 hw6 (fun I2 L2 a b c => hq I2 L2 R ⟨⟨a, b, c⟩, rfl⟩)) ?_
  rintro I2 L2 R2 ⟨⟨ha, hb, hc⟩, rfl⟩
  refine r_ic hP c98_11 ?_
  refine r_is (ls' := [.ref 2, .int 0]) hP c98_12 (Nat.le_of_ble_eq_true rfl) rfl ?_
  exact x_weigh_l hP hK hR hw hC hp8 hs6 hw6 hs1 hsg hl9 hA hAo hn10 h 0 (Nat.zero_le _) _ _ ⟨ha, hb, hc⟩
