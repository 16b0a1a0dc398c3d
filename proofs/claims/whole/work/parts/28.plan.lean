/-! ===== the plan ===== -/
def zq (S : ZS) (nS nP st : Nat) : Bool := decide (zth S (fun t => zhd S nP st 30 100 100 t nS) 3 = 0)
def zfq (I I' : ZMi) : Prop := ∀ a, ¬ (9 ≤ a ∧ a < 16) → a ≠ 37 → ∀ k, I' a k = I a k
theorem zfq_r (I : ZMi) : zfq I I := fun _ _ _ _ => rfl
theorem zfq_t {I I' I2 : ZMi} (h : zfq I I') (h2 : zfr I' I2) : zfq I I2 := fun b h3 h4 j => (h2 b h3 j).trans (h b h3 h4 j)
theorem zfq_u {I I' : ZMi} (h : zfq I I') {k : Nat} {x : Int32} : zfq I (zup I' 37 k x) := fun b h1 h2 j => by
  rw [zup_na _ _ _ _ h2]
  exact h b h1 h2 j
theorem zC_fq {I I' : ZMi} {w : Nat} {S : ZS} {nS nP nW : Nat} (h : zC I w S nS nP nW) (hf : zfq I I') (hw : zisW w) (hs6 : nS ≤ 6) (hp8 : nP ≤ 8) (hw6 : nW ≤ 6) : zC I' w S nS nP nW := zC_to h (fun a h1 h2 k => hf a (by have := zW39 hw; omega) (by have := zW39 hw; omega) k) hs6 hp8 hw6
def zQt (I : ZMi) (S : ZS) (nS nP i : Nat) : Prop := ∀ st, st < i → zbc st ≤ 2 → I 37 st = if zq S nS nP st = true then 1 else 0
theorem zbc8 (st : Nat) : zbc st ≤ 8 := by
  have := List.length_filter_le (fun p => st.testBit p) (List.range 8)
  simp only [zbc]
  simp at this
  omega
theorem zQt_fr {I I' : ZMi} {S : ZS} {nS nP i : Nat} (h : zQt I S nS nP i) (hf : ∀ k, I' 37 k = I 37 k) : zQt I' S nS nP i := fun st h1 h2 => by rw [hf]; exact h st h1 h2
theorem zQt_skip {I : ZMi} {S : ZS} {nS nP i : Nat} (h : zQt I S nS nP i) (hb : 2 < zbc i) : zQt I S nS nP (i + 1) := fun st h1 h2 => h st (by rcases Nat.lt_or_ge st i with q | q; exact q; have e : st = i := (by omega); rw [e] at h2; omega) h2
theorem zQt_up {I : ZMi} {S : ZS} {nS nP i : Nat} {x : Int32} (h : zQt I S nS nP i) (hx : x = if zq S nS nP i = true then 1 else 0) : zQt (zup I 37 i x) S nS nP (i + 1) := fun st h1 h2 => by
  by_cases e : st = i
  · rw [e, zup_s, hx]
  · rw [zup_nk _ _ _ _ e]
    exact h st (by omega) h2
def zdf (c ch : Nat) : Nat := c - (c &&& ch)
theorem zdf_c : ∀ c, c < 256 → ∀ ch, ch < 256 → (nI c &&& (nI ch ^^^ (-1))) = nI (zdf c ch) := by decide +kernel
theorem zdf_le (c ch : Nat) : zdf c ch ≤ c := Nat.sub_le _ _
theorem zdf_b : ∀ c, c < 256 → zbc c ≤ 2 → ∀ ch, ch < 256 → zbc (zdf c ch) ≤ 2 := by decide +kernel
def znw (S : ZS) (nS nP ch : Nat) (cs : List Nat) : Int64 := cs.foldl (fun a c => if zq S nS nP (zdf c ch) = true then a else a + zwt S c nP) 0
set_option maxRecDepth 4000 in
theorem x_learn_l {K : ZKh} {P : Nat → Nat → List Value → List Value → ZMi → ZMl → ZMr → ZRt → Prop} {I : ZMi} {L : ZMl} {R : ZMr} {Q : ZRt} (hP : ZCl K P) {w nS nP nW : Nat} {S : ZS} (hK : zKa K) (hR : zRa R) (hw : zisW w) (hC : zC I w S nS nP nW) (hp8 : nP ≤ 8) (hs6 : nS ≤ 6) (hw6 : nW ≤ 6) (hs1 : 1 ≤ nS) (hsg : ∀ p, p < nP → ∃ a, a < nS ∧ S 3 p 0 = nI a) (h : ∀ I2, zfq I I2 → zQt I2 S nS nP (2 ^ nP) → Q none I2 L R) : ∀ i, i ≤ (2 ^ nP) → ∀ (I1 : ZMi), zfq I I1 ∧ zQt I1 S nS nP i → P 22 2 [.ref 36, .ref w, .ref 7, .int (nI i)] [] I1 L R Q := by
  refine zloop (2 ^ nP) (fun i => ∀ (I1 : ZMi), zfq I I1 ∧ zQt I1 S nS nP i → P 22 2 [.ref 36, .ref w, .ref 7, .int (nI i)] [] I1 L R Q) ?_
  intro i hle ih I1 hacc
  have hp256 := zp256 hp8
  have hw39 := zW39 hw
  refine r_il hP c22_2 rfl ?_
  refine r_ic hP c22_3 ?_
  refine r_ige hP c22_6 (fun h6 => ?_) (fun h6 => ?_)
  · have h6b := (nI_leI (a := 256) (b := i) (by omega) (by omega)).mp h6
    have he : i = 2 ^ nP := by omega
    subst he
    exact r_vr hP c22_60 (h _ hacc.1 hacc.2)
  · refine r_al hP c22_9 rfl ?_
    refine r_il hP c22_10 rfl ?_
    refine r_cVi (as := [.int (nI i)]) (r := []) (I' := I1) (L' := L) (R' := R) (x := if zr (nI i) (2 ^ nP) then 1 else 0) (a := w) hP c22_11 rfl (zj_W hK hw) rfl (fun _ hq => x_hasState hP hK hR hw (zC_fq hC hacc.1 hw hs6 hp8 hw6) hp8 hs6 hw6 hq) ?_
    refine r_ifeqB hP c22_14 (fun h14 => ?_) (fun h14 => ?_)
    · have he : i = 2 ^ nP := by
        have hn : ¬ i < 2 ^ nP := fun q => h14 (zr_nI q (by omega))
        omega
      subst he
      exact r_vr hP c22_60 (h _ hacc.1 hacc.2)
    · have hlt : i < 2 ^ nP := by
        have hq := h14.2
        rw [nI_toInt (by omega)] at hq
        omega
      have hi256 : i < 256 := by omega
      refine r_il hP c22_17 rfl ?_
      refine r_cSi (as := [.int (nI i)]) (r := []) (I' := I1) (L' := L) (R' := R) (x := nI (zbc i)) hP c22_18 rfl rfl (fun _ hq => x_bitCount hP hi256 hq) ?_
      refine r_ic hP c22_21 ?_
      refine r_igt hP c22_22 (fun h22 => ?_) (fun h22 => ?_)
      · have hbc := (nI_ltI (a := 2) (b := zbc i) (by omega) (by have := zbc8 i; omega)).mp h22
        refine r_inc (y := nI (i + 1)) (ls' := [.ref 36, .ref w, .ref 7, .int (nI (i + 1))]) hP c22_54 rfl (nI_1 _) rfl ?_
        refine r_goto hP c22_57 ?_
        exact ih hlt _ (by first | exact ⟨hacc.1, zQt_skip hacc.2 hbc⟩ | exact ⟨zfq_u (zfq_t hacc.1 h2.1), zQt_up (zQt_fr hacc.2 (fun k => h2.1 37 (by decide) k)) (by simp [zq, h45]; rfl)⟩)
      · refine r_al hP c22_25 rfl ?_
        refine r_al hP c22_26 rfl ?_
        refine r_il hP c22_27 rfl ?_
        refine r_ic hP c22_28 ?_
        refine r_ic hP c22_30 ?_
        refine r_ic hP c22_31 ?_
        refine r_cVvp (as := [.ref w, .int (nI i), .int 30, .int (-1), .int (-1)]) (r := []) (a := 7) hP c22_32 rfl (zj7 hK) rfl (fun I2 L2 R2 => zPl I1 I2 S nP i 30 100 100 nS ∧ L = L2 ∧ R = R2) (fun Q2 hq => x_play hP hK hR hw (zC_fq hC hacc.1 hw hs6 hp8 hw6) hp8 hs6 hw6 hs1 hsg hi256 zno (zno2 hs6) (fun I2 h2 => hq I2 L R ⟨h2, rfl, rfl⟩)) ?_
        rintro I2 L2 R2 ⟨h2, rfl, rfl⟩
        refine r_al hP c22_35 rfl ?_
        refine r_gR (x := 37) hP c22_36 (zj36 hK) (zr36_0 hR) ?_
        refine r_il hP c22_39 rfl ?_
        refine r_al hP c22_40 rfl ?_
        refine r_al hP c22_41 rfl ?_
        refine r_cVi (as := [.ref w]) (r := [.int (nI i), .ref 37]) (I' := I2) (L' := L) (R' := R) (x := zth S (fun t => zhd S nP i 30 100 100 t nS) 3) (a := 7) hP c22_42 rfl (zj7 hK) rfl (fun _ hq => x_tones hP hK hR hw (zC_fq hC (zfq_t hacc.1 h2.1) hw hs6 hp8 hw6) hp8 hs6 hw6 (fun t ht => h2.2.2 t ht) hq) ?_
        refine r_ifne hP c22_45 (fun h45 => ?_) (fun h45 => ?_)
        · refine r_ic hP c22_52 ?_
          refine r_zast (j := i) hP c22_53 (zk37 hK) rfl (by omega) ?_
          refine r_inc (y := nI (i + 1)) (ls' := [.ref 36, .ref w, .ref 7, .int (nI (i + 1))]) hP c22_54 rfl (nI_1 _) rfl ?_
          refine r_goto hP c22_57 ?_
          exact ih hlt _ (by first | exact ⟨hacc.1, zQt_skip hacc.2 hbc⟩ | exact ⟨zfq_u (zfq_t hacc.1 h2.1), zQt_up (zQt_fr hacc.2 (fun k => h2.1 37 (by decide) k)) (by simp [zq, h45]; rfl)⟩)
        · refine r_ic hP c22_48 ?_
          refine r_goto hP c22_49 ?_
          refine r_zast (j := i) hP c22_53 (zk37 hK) rfl (by omega) ?_
          refine r_inc (y := nI (i + 1)) (ls' := [.ref 36, .ref w, .ref 7, .int (nI (i + 1))]) hP c22_54 rfl (nI_1 _) rfl ?_
          refine r_goto hP c22_57 ?_
          exact ih hlt _ (by first | exact ⟨hacc.1, zQt_skip hacc.2 hbc⟩ | exact ⟨zfq_u (zfq_t hacc.1 h2.1), zQt_up (zQt_fr hacc.2 (fun k => h2.1 37 (by decide) k)) (by simp [zq, h45]; rfl)⟩)
set_option maxRecDepth 4000 in
theorem x_learn {K : ZKh} {P : Nat → Nat → List Value → List Value → ZMi → ZMl → ZMr → ZRt → Prop} {I : ZMi} {L : ZMl} {R : ZMr} {Q : ZRt} (hP : ZCl K P) {w nS nP nW : Nat} {S : ZS} (hK : zKa K) (hR : zRa R) (hw : zisW w) (hC : zC I w S nS nP nW) (hp8 : nP ≤ 8) (hs6 : nS ≤ 6) (hw6 : nW ≤ 6) (hs1 : 1 ≤ nS) (hsg : ∀ p, p < nP → ∃ a, a < nS ∧ S 3 p 0 = nI a) (h : ∀ I2, zfq I I2 → zQt I2 S nS nP (2 ^ nP) → Q none I2 L R) : P 22 0 [.ref 36, .ref w, .ref 7, .null] [] I L R Q := by
  refine r_ic hP c22_0 ?_
  refine r_is (ls' := [.ref 36, .ref w, .ref 7, .int 0]) hP c22_1 (Nat.le_of_ble_eq_true rfl) rfl ?_
  exact x_learn_l hP hK hR hw hC hp8 hs6 hw6 hs1 hsg h 0 (Nat.zero_le _) _ ⟨zfq_r I, fun st h1 _ => absurd h1 (Nat.not_lt_zero st)⟩
set_option maxRecDepth 4000 in
theorem x_noisy_l {K : ZKh} {P : Nat → Nat → List Value → List Value → ZMi → ZMl → ZMr → ZRt → Prop} {I : ZMi} {L : ZMl} {R : ZMr} {Q : ZRt} (hP : ZCl K P) {S : ZS} {nS nP ch : Nat} {cs : List Nat} (hK : zKa K) (hR : zRa R) (hp8 : nP ≤ 8) (hcs : zCs I L S nP cs) (hok : zok S nP cs) (hqt : zQt I S nS nP (2 ^ nP)) (hch : ch < 256) (h : Q (some (.long (znw S nS nP ch cs))) I L R) : ∀ i, i ≤ cs.length → ∀ (acc : Int64) (v6 : Value), acc = znw S nS nP ch (cs.take i) → P 23 5 [.ref 36, .ref 31, .int (nI ch), .long acc, .null, .int (nI i), v6] [] I L R Q := by
  refine zloop cs.length (fun i => ∀ (acc : Int64) (v6 : Value), acc = znw S nS nP ch (cs.take i) → P 23 5 [.ref 36, .ref 31, .int (nI ch), .long acc, .null, .int (nI i), v6] [] I L R Q) ?_
  intro i hle ih acc v6 hacc
  have hl37 := hok.1
  refine r_il hP c23_5 rfl ?_
  refine r_al hP c23_7 rfl ?_
  refine r_gI (x := nI cs.length) hP c23_8 (zj31 hK) hcs.1 ?_
  refine r_ige hP c23_11 (fun h11 => ?_) (fun h11 => ?_)
  · have he : i = cs.length := Nat.le_antisymm hle ((nI_leI (by omega) (by omega)).mp h11)
    refine r_ll hP c23_66 rfl ?_
    exact r_lrE hP c23_67 h (by rw [hacc, he, List.take_length])
  · have hlt : i < cs.length := by
      rcases Nat.lt_or_ge i cs.length with q | q
      · exact q
      · exact absurd (nI_le q (by omega)) h11
    have hcm := hok.2 _ (z_mem hlt)
    have hc2 : cs.getD i 0 < 256 := Nat.lt_of_lt_of_le hcm.1 (zp256 hp8)
    refine r_al hP c23_14 rfl ?_
    refine r_gR (x := 32) hP c23_15 (zj31 hK) (zr31_0 hR) ?_
    refine r_il hP c23_18 rfl ?_
    refine r_iald (j := i) (x := nI (cs.getD i 0)) hP c23_20 (zk32 hK) rfl (by omega) (hcs.2.1 i hlt).1 ?_
    refine r_il hP c23_21 rfl ?_
    refine r_ic hP c23_22 ?_
    refine r_ixor hP c23_23 ?_
    refine r_iand hP c23_24 ?_
    refine r_ti (y := nI (zdf (cs.getD i 0) ch)) (zdf_c _ hc2 _ hch) ?_
    refine r_is (ls' := [.ref 36, .ref 31, .int (nI ch), .long acc, .null, .int (nI i), .int (nI (zdf (cs.getD i 0) ch))]) hP c23_25 (Nat.le_of_ble_eq_true rfl) rfl ?_
    refine r_il hP c23_27 rfl ?_
    refine r_iflt hP c23_29 (fun h29 => absurd h29 (nI_pos (by have := zdf_le (cs.getD i 0) ch; omega))) (fun h29 => ?_)
    refine r_il hP c23_32 rfl ?_
    refine r_ic hP c23_34 ?_
    refine r_ige hP c23_37 (fun h37 => absurd h37 (nI_ge (b := 256) (by have := zdf_le (cs.getD i 0) ch; omega) (by decide))) (fun h37 => ?_)
    refine r_al hP c23_40 rfl ?_
    refine r_gR (x := 37) hP c23_41 (zj36 hK) (zr36_0 hR) ?_
    refine r_il hP c23_44 rfl ?_
    refine r_iald (j := zdf (cs.getD i 0) ch) (x := if zq S nS nP (zdf (cs.getD i 0) ch) = true then 1 else 0) hP c23_46 (zk37 hK) rfl (by have := zdf_le (cs.getD i 0) ch; omega) (hqt _ (Nat.lt_of_le_of_lt (zdf_le _ _) hcm.1) (zdf_b _ hc2 hcm.2.2 _ hch)) ?_
    refine r_ifneB hP c23_47 (fun h47 => ?_) (fun h47 => ?_)
    · refine r_inc (y := nI (i + 1)) (ls' := [.ref 36, .ref 31, .int (nI ch), .long acc, .null, .int (nI (i + 1)), .int (nI (zdf (cs.getD i 0) ch))]) hP c23_60 rfl (nI_1 _) rfl ?_
      refine r_goto hP c23_63 ?_
      exact ih hlt _ _ (by rw [z_take hlt, znw, List.foldl_append, ← znw, hacc]; simp only [List.foldl_cons, List.foldl_nil]; first | rw [if_pos h47] | rw [if_neg h47])
    · refine r_ll hP c23_50 rfl ?_
      refine r_al hP c23_51 rfl ?_
      refine r_gR (x := 33) hP c23_52 (zj31 hK) (zr31_1 hR) ?_
      refine r_il hP c23_55 rfl ?_
      refine r_lald (j := i) (x := zwt S (cs.getD i 0) nP) hP c23_57 (zk33 hK) rfl (by omega) (hcs.2.1 i hlt).2 ?_
      refine r_ladd hP c23_58 ?_
      refine r_ls (ls' := [.ref 36, .ref 31, .int (nI ch), .long (acc + (zwt S (cs.getD i 0) nP)), .null, .int (nI i), .int (nI (zdf (cs.getD i 0) ch))]) hP c23_59 (Nat.le_of_ble_eq_true rfl) rfl ?_
      refine r_inc (y := nI (i + 1)) (ls' := [.ref 36, .ref 31, .int (nI ch), .long (acc + (zwt S (cs.getD i 0) nP)), .null, .int (nI (i + 1)), .int (nI (zdf (cs.getD i 0) ch))]) hP c23_60 rfl (nI_1 _) rfl ?_
      refine r_goto hP c23_63 ?_
      exact ih hlt _ _ (by rw [z_take hlt, znw, List.foldl_append, ← znw, hacc]; simp only [List.foldl_cons, List.foldl_nil]; first | rw [if_pos h47] | rw [if_neg h47])
set_option maxRecDepth 4000 in
theorem x_noisy {K : ZKh} {P : Nat → Nat → List Value → List Value → ZMi → ZMl → ZMr → ZRt → Prop} {I : ZMi} {L : ZMl} {R : ZMr} {Q : ZRt} (hP : ZCl K P) {S : ZS} {nS nP ch : Nat} {cs : List Nat} (hK : zKa K) (hR : zRa R) (hp8 : nP ≤ 8) (hcs : zCs I L S nP cs) (hok : zok S nP cs) (hqt : zQt I S nS nP (2 ^ nP)) (hch : ch < 256) (h : Q (some (.long (znw S nS nP ch cs))) I L R) : P 23 0 [.ref 36, .ref 31, .int (nI ch), .null, .null, .null, .null] [] I L R Q := by
  refine r_lc hP c23_0 ?_
  refine r_ls (ls' := [.ref 36, .ref 31, .int (nI ch), .long 0, .null, .null, .null]) hP c23_1 (Nat.le_of_ble_eq_true rfl) rfl ?_
  refine r_ic hP c23_2 ?_
  refine r_is (ls' := [.ref 36, .ref 31, .int (nI ch), .long 0, .null, .int 0, .null]) hP c23_3 (Nat.le_of_ble_eq_true rfl) rfl ?_
  exact x_noisy_l hP hK hR hp8 hcs hok hqt hch h 0 (Nat.zero_le _) _ _ rfl
def zch (S : ZS) (nS nP : Nat) (cs : List Nat) (x : Int32) : Nat → Int32 × Int32
  | 0 => (-4, 0)
  | i + 1 => if ((zch S nS nP cs x i).1 = -4 ∨ zcs S i nP < (zch S nS nP cs x i).2) ∧ x.toInt64 * zsw_ S nP cs ≤ 100 * (zsw_ S nP cs - znw S nS nP i cs) then (nI i, zcs S i nP) else zch S nS nP cs x i
set_option maxRecDepth 4000 in
theorem x_cheap_l {K : ZKh} {P : Nat → Nat → List Value → List Value → ZMi → ZMl → ZMr → ZRt → Prop} {I : ZMi} {L : ZMl} {R : ZMr} {Q : ZRt} (hP : ZCl K P) {w nS nP nW : Nat} {S : ZS} (hK : zKa K) (hR : zRa R) (hw : zisW w) (hC : zC I w S nS nP nW) (hp8 : nP ≤ 8) (hs6 : nS ≤ 6) (hw6 : nW ≤ 6) {cs : List Nat} {x : Int32} (hcs : zCs I L S nP cs) (hok : zok S nP cs) (hqt : zQt I S nS nP (2 ^ nP)) (h : Q (some (.int (zch S nS nP cs x (2 ^ nP)).1)) I L R) : ∀ i, i ≤ (2 ^ nP) → ∀ (x1 x2 : Int32) (v7 : Value), (x1, x2) = zch S nS nP cs x i → P 24 10 [.ref 36, .ref w, .ref 31, .int x, .int x1, .int x2, .int (nI i), v7] [] I L R Q := by
  refine zloop (2 ^ nP) (fun i => ∀ (x1 x2 : Int32) (v7 : Value), (x1, x2) = zch S nS nP cs x i → P 24 10 [.ref 36, .ref w, .ref 31, .int x, .int x1, .int x2, .int (nI i), v7] [] I L R Q) ?_
  intro i hle ih x1 x2 v7 hacc
  have hp256 := zp256 hp8
  refine r_il hP c24_10 rfl ?_
  refine r_ic hP c24_12 ?_
  refine r_ige hP c24_15 (fun h15 => ?_) (fun h15 => ?_)
  · have h15b := (nI_leI (a := 256) (b := i) (by omega) (by omega)).mp h15
    have he : i = 2 ^ nP := by omega
    refine r_il hP c24_90 rfl ?_
    exact r_irE hP c24_92 h (by subst he; rw [← hacc])
  · refine r_al hP c24_18 rfl ?_
    refine r_il hP c24_19 rfl ?_
    refine r_cVi (as := [.int (nI i)]) (r := []) (I' := I) (L' := L) (R' := R) (x := if zr (nI i) (2 ^ nP) then 1 else 0) (a := w) hP c24_21 rfl (zj_W hK hw) rfl (fun _ hq => x_hasState hP hK hR hw hC hp8 hs6 hw6 hq) ?_
    refine r_ifeqB hP c24_24 (fun h24 => ?_) (fun h24 => ?_)
    · have he : i = 2 ^ nP := by
        have hn : ¬ i < 2 ^ nP := fun q => h24 (zr_nI q (by omega))
        omega
      refine r_il hP c24_90 rfl ?_
      exact r_irE hP c24_92 h (by subst he; rw [← hacc])
    · have hlt : i < 2 ^ nP := by
        have hq := h24.2
        rw [nI_toInt (by omega)] at hq
        omega
      have hi256 : i < 256 := by omega
      refine r_al hP c24_27 rfl ?_
      refine r_il hP c24_28 rfl ?_
      refine r_cVi (as := [.int (nI i)]) (r := []) (I' := I) (L' := L) (R' := R) (x := zcs S i nP) (a := w) hP c24_30 rfl (zj_W hK hw) rfl (fun _ hq => x_costOf hP hK hR hw hC hp8 hs6 hw6 hi256 hq) ?_
      refine r_is (ls' := [.ref 36, .ref w, .ref 31, .int x, .int x1, .int x2, .int (nI i), .int (zcs S i nP)]) hP c24_33 (Nat.le_of_ble_eq_true rfl) rfl ?_
      refine r_il hP c24_35 rfl ?_
      refine r_ic hP c24_37 ?_
      refine r_ieq hP c24_39 (fun h39 => ?_) (fun h39 => ?_)
      · refine r_lc hP c24_49 ?_
        refine r_al hP c24_52 rfl ?_
        refine r_gL (x := zsw_ S nP cs) hP c24_53 (zj31 hK) hcs.2.2 ?_
        refine r_al hP c24_56 rfl ?_
        refine r_al hP c24_57 rfl ?_
        refine r_il hP c24_58 rfl ?_
        refine r_cVl (as := [.ref 31, .int (nI i)]) (r := [.long (zsw_ S nP cs), .long 100]) (I' := I) (L' := L) (R' := R) (x := znw S nS nP i cs) (a := 36) hP c24_60 rfl (zj36 hK) rfl (fun _ hq => x_noisy hP hK hR hp8 hcs hok hqt hi256 hq) ?_
        refine r_lsub hP c24_63 ?_
        refine r_lmul hP c24_64 ?_
        refine r_il hP c24_65 rfl ?_
        refine r_i2l hP c24_66 ?_
        refine r_al hP c24_67 rfl ?_
        refine r_gL (x := zsw_ S nP cs) hP c24_68 (zj31 hK) hcs.2.2 ?_
        refine r_lmul hP c24_71 ?_
        refine r_lcmp hP c24_72 ?_
        refine r_ifltL hP c24_73 (fun h73 => ?_) (fun h73 => ?_)
        · refine r_inc (y := nI (i + 1)) (ls' := [.ref 36, .ref w, .ref 31, .int x, .int x1, .int x2, .int (nI (i + 1)), .int (zcs S i nP)]) hP c24_84 rfl (nI_1 _) rfl ?_
          refine r_goto hP c24_87 ?_
          exact ih hlt _ _ _ (by
            rw [zch, ← hacc]
            first
              | exact (if_pos (And.intro (Or.inl h39) (Int64.not_lt.mp h73))).symm
              | exact (if_pos (And.intro (Or.inr (Int32.not_le.mp h46)) (Int64.not_lt.mp h73))).symm
              | exact (if_neg (fun q => absurd h73 (Int64.not_lt.mpr q.2))).symm
              | exact (if_neg (fun q => Or.elim q.1 h39 (fun z => absurd h46 (Int32.not_le.mpr z)))).symm)
        · refine r_il hP c24_76 rfl ?_
          refine r_is (ls' := [.ref 36, .ref w, .ref 31, .int x, .int (nI i), .int x2, .int (nI i), .int (zcs S i nP)]) hP c24_78 (Nat.le_of_ble_eq_true rfl) rfl ?_
          refine r_il hP c24_80 rfl ?_
          refine r_is (ls' := [.ref 36, .ref w, .ref 31, .int x, .int (nI i), .int (zcs S i nP), .int (nI i), .int (zcs S i nP)]) hP c24_82 (Nat.le_of_ble_eq_true rfl) rfl ?_
          refine r_inc (y := nI (i + 1)) (ls' := [.ref 36, .ref w, .ref 31, .int x, .int (nI i), .int (zcs S i nP), .int (nI (i + 1)), .int (zcs S i nP)]) hP c24_84 rfl (nI_1 _) rfl ?_
          refine r_goto hP c24_87 ?_
          exact ih hlt _ _ _ (by
            rw [zch, ← hacc]
            first
              | exact (if_pos (And.intro (Or.inl h39) (Int64.not_lt.mp h73))).symm
              | exact (if_pos (And.intro (Or.inr (Int32.not_le.mp h46)) (Int64.not_lt.mp h73))).symm
              | exact (if_neg (fun q => absurd h73 (Int64.not_lt.mpr q.2))).symm
              | exact (if_neg (fun q => Or.elim q.1 h39 (fun z => absurd h46 (Int32.not_le.mpr z)))).symm)
      · refine r_il hP c24_42 rfl ?_
        refine r_il hP c24_44 rfl ?_
        refine r_ige hP c24_46 (fun h46 => ?_) (fun h46 => ?_)
        · refine r_inc (y := nI (i + 1)) (ls' := [.ref 36, .ref w, .ref 31, .int x, .int x1, .int x2, .int (nI (i + 1)), .int (zcs S i nP)]) hP c24_84 rfl (nI_1 _) rfl ?_
          refine r_goto hP c24_87 ?_
          exact ih hlt _ _ _ (by
            rw [zch, ← hacc]
            first
              | exact (if_pos (And.intro (Or.inl h39) (Int64.not_lt.mp h73))).symm
              | exact (if_pos (And.intro (Or.inr (Int32.not_le.mp h46)) (Int64.not_lt.mp h73))).symm
              | exact (if_neg (fun q => absurd h73 (Int64.not_lt.mpr q.2))).symm
              | exact (if_neg (fun q => Or.elim q.1 h39 (fun z => absurd h46 (Int32.not_le.mpr z)))).symm)
        · refine r_lc hP c24_49 ?_
          refine r_al hP c24_52 rfl ?_
          refine r_gL (x := zsw_ S nP cs) hP c24_53 (zj31 hK) hcs.2.2 ?_
          refine r_al hP c24_56 rfl ?_
          refine r_al hP c24_57 rfl ?_
          refine r_il hP c24_58 rfl ?_
          refine r_cVl (as := [.ref 31, .int (nI i)]) (r := [.long (zsw_ S nP cs), .long 100]) (I' := I) (L' := L) (R' := R) (x := znw S nS nP i cs) (a := 36) hP c24_60 rfl (zj36 hK) rfl (fun _ hq => x_noisy hP hK hR hp8 hcs hok hqt hi256 hq) ?_
          refine r_lsub hP c24_63 ?_
          refine r_lmul hP c24_64 ?_
          refine r_il hP c24_65 rfl ?_
          refine r_i2l hP c24_66 ?_
          refine r_al hP c24_67 rfl ?_
          refine r_gL (x := zsw_ S nP cs) hP c24_68 (zj31 hK) hcs.2.2 ?_
          refine r_lmul hP c24_71 ?_
          refine r_lcmp hP c24_72 ?_
          refine r_ifltL hP c24_73 (fun h73 => ?_) (fun h73 => ?_)
          · refine r_inc (y := nI (i + 1)) (ls' := [.ref 36, .ref w, .ref 31, .int x, .int x1, .int x2, .int (nI (i + 1)), .int (zcs S i nP)]) hP c24_84 rfl (nI_1 _) rfl ?_
            refine r_goto hP c24_87 ?_
            exact ih hlt _ _ _ (by
              rw [zch, ← hacc]
              first
                | exact (if_pos (And.intro (Or.inl h39) (Int64.not_lt.mp h73))).symm
                | exact (if_pos (And.intro (Or.inr (Int32.not_le.mp h46)) (Int64.not_lt.mp h73))).symm
                | exact (if_neg (fun q => absurd h73 (Int64.not_lt.mpr q.2))).symm
                | exact (if_neg (fun q => Or.elim q.1 h39 (fun z => absurd h46 (Int32.not_le.mpr z)))).symm)
          · refine r_il hP c24_76 rfl ?_
            refine r_is (ls' := [.ref 36, .ref w, .ref 31, .int x, .int (nI i), .int x2, .int (nI i), .int (zcs S i nP)]) hP c24_78 (Nat.le_of_ble_eq_true rfl) rfl ?_
            refine r_il hP c24_80 rfl ?_
            refine r_is (ls' := [.ref 36, .ref w, .ref 31, .int x, .int (nI i), .int (zcs S i nP), .int (nI i), .int (zcs S i nP)]) hP c24_82 (Nat.le_of_ble_eq_true rfl) rfl ?_
            refine r_inc (y := nI (i + 1)) (ls' := [.ref 36, .ref w, .ref 31, .int x, .int (nI i), .int (zcs S i nP), .int (nI (i + 1)), .int (zcs S i nP)]) hP c24_84 rfl (nI_1 _) rfl ?_
            refine r_goto hP c24_87 ?_
            exact ih hlt _ _ _ (by
              rw [zch, ← hacc]
              first
                | exact (if_pos (And.intro (Or.inl h39) (Int64.not_lt.mp h73))).symm
                | exact (if_pos (And.intro (Or.inr (Int32.not_le.mp h46)) (Int64.not_lt.mp h73))).symm
                | exact (if_neg (fun q => absurd h73 (Int64.not_lt.mpr q.2))).symm
                | exact (if_neg (fun q => Or.elim q.1 h39 (fun z => absurd h46 (Int32.not_le.mpr z)))).symm)
set_option maxRecDepth 4000 in
theorem x_cheap {K : ZKh} {P : Nat → Nat → List Value → List Value → ZMi → ZMl → ZMr → ZRt → Prop} {I : ZMi} {L : ZMl} {R : ZMr} {Q : ZRt} (hP : ZCl K P) {w nS nP nW : Nat} {S : ZS} (hK : zKa K) (hR : zRa R) (hw : zisW w) (hC : zC I w S nS nP nW) (hp8 : nP ≤ 8) (hs6 : nS ≤ 6) (hw6 : nW ≤ 6) {cs : List Nat} {x : Int32} (hcs : zCs I L S nP cs) (hok : zok S nP cs) (hqt : zQt I S nS nP (2 ^ nP)) (h : Q (some (.int (zch S nS nP cs x (2 ^ nP)).1)) I L R) : P 24 0 [.ref 36, .ref w, .ref 31, .int x, .null, .null, .null, .null] [] I L R Q := by
  refine r_ic hP c24_0 ?_
  refine r_is (ls' := [.ref 36, .ref w, .ref 31, .int x, .int (-4), .null, .null, .null]) hP c24_2 (Nat.le_of_ble_eq_true rfl) rfl ?_
  refine r_ic hP c24_4 ?_
  refine r_is (ls' := [.ref 36, .ref w, .ref 31, .int x, .int (-4), .int 0, .null, .null]) hP c24_5 (Nat.le_of_ble_eq_true rfl) rfl ?_
  refine r_ic hP c24_7 ?_
  refine r_is (ls' := [.ref 36, .ref w, .ref 31, .int x, .int (-4), .int 0, .int 0, .null]) hP c24_8 (Nat.le_of_ble_eq_true rfl) rfl ?_
  exact x_cheap_l hP hK hR hw hC hp8 hs6 hw6 hcs hok hqt h 0 (Nat.zero_le _) _ _ _ rfl
/-- one row of the table: T the sums of what is more, ns the noise -/
def zgn (S : ZS) (T : Nat → Int64) (ch : Nat) (ns : Int64) : Nat → Int64 × Int32
  | 0 => (0, -4)
  | p + 1 => if ch.testBit p = true then zgn S T ch ns p else if (zgn S T ch ns p).2 = -4 ∨ (S 8 p 0).toInt64 * ns + T (ch ||| 2 ^ p) < (zgn S T ch ns p).1 then ((S 8 p 0).toInt64 * ns + T (ch ||| 2 ^ p), nI p) else zgn S T ch ns p
theorem zor_c : ∀ ch, ch < 256 → ∀ p, p < 8 → (nI ch ||| (1 <<< (nI p &&& 31))) = nI (ch ||| 2 ^ p) := by decide +kernel
theorem zor_e : ∀ ch, ch < 256 → ∀ p, p < 8 → ((nI (ch ||| 2 ^ p) = nI ch ↔ ch.testBit p = true) ∧ ch ||| 2 ^ p < 256 ∧ (ch.testBit p = false → ch < ch ||| 2 ^ p)) := by decide +kernel
theorem zor_n : ∀ n, n ≤ 8 → ∀ ch, ch < 2 ^ n → ∀ p, p < n → ch ||| 2 ^ p < 2 ^ n := by decide +kernel
def zfs_ (L L' : ZMl) (ch : Nat) : Prop := ∀ a k, ¬ (a = 38 ∧ k = ch) → L' a k = L a k
def zfi (I I' : ZMi) : Prop := ∀ a k, ¬ (a = 36 ∧ k = 2) → I' a k = I a k
set_option maxRecDepth 4000 in
theorem x_goOn_l {K : ZKh} {P : Nat → Nat → List Value → List Value → ZMi → ZMl → ZMr → ZRt → Prop} {I : ZMi} {L : ZMl} {R : ZMr} {Q : ZRt} (hP : ZCl K P) {w nS nP nW : Nat} {S : ZS} (hK : zKa K) (hR : zRa R) (hw : zisW w) (hC : zC I w S nS nP nW) (hp8 : nP ≤ 8) (hs6 : nS ≤ 6) (hw6 : nW ≤ 6) {ch : Nat} {T : Nat → Int64} {ns : Int64} (hch : ch < 2 ^ nP) (hT : ∀ st, ch < st → st < 2 ^ nP → L 38 st = T st) (h : ∀ I2 L2, zfi I I2 → zfs_ L L2 ch → L2 38 ch = (zgn S T ch ns nP).1 → I2 36 2 = (zgn S T ch ns nP).2 → Q none I2 L2 R) : ∀ p, p ≤ nP → ∀ (I1 : ZMi) (L1 : ZMl) (v6 v7 v8 : Value), zfi I I1 ∧ zfs_ L L1 ch ∧ L1 38 ch = (zgn S T ch ns p).1 ∧ I1 36 2 = (zgn S T ch ns p).2 → P 26 3 [.ref 36, .ref w, .int (nI ch), .long ns, .null, .int (nI p), v6, v7, v8] [] I1 L1 R Q := by
  refine zloop nP (fun p => ∀ (I1 : ZMi) (L1 : ZMl) (v6 v7 v8 : Value), zfi I I1 ∧ zfs_ L L1 ch ∧ L1 38 ch = (zgn S T ch ns p).1 ∧ I1 36 2 = (zgn S T ch ns p).2 → P 26 3 [.ref 36, .ref w, .int (nI ch), .long ns, .null, .int (nI p), v6, v7, v8] [] I1 L1 R Q) ?_
  intro p hle ih I1 L1 v6 v7 v8 hacc
  have hw39 := zW39 hw
  have hc256 : ch < 256 := Nat.lt_of_lt_of_le hch (zp256 hp8)
  refine r_il hP c26_3 rfl ?_
  refine r_al hP c26_5 rfl ?_
  refine r_gI (x := nI nP) hP c26_6 (zj_W hK hw) (zC_p (zC_to hC (fun a h1 h2 k => hacc.1 a k (by omega)) hs6 hp8 hw6)) ?_
  refine r_ige hP c26_9 (fun h9 => ?_) (fun h9 => ?_)
  · have he : p = nP := Nat.le_antisymm hle ((nI_leI (by omega) (by omega)).mp h9)
    subst he
    exact r_vr hP c26_98 (h _ _ hacc.1 hacc.2.1 hacc.2.2.1 hacc.2.2.2)
  · have hlt : p < nP := by
      rcases Nat.lt_or_ge p nP with q | q
      · exact q
      · exact absurd (nI_le q (by omega)) h9
    have hoe := zor_e ch hc256 p (by omega)
    have hor := zor_n nP hp8 ch hch p hlt
    have hor256 := hoe.2.1
    refine r_il hP c26_12 rfl ?_
    refine r_ic hP c26_13 ?_
    refine r_il hP c26_14 rfl ?_
    refine r_ishl hP c26_16 ?_
    refine r_ior hP c26_17 ?_
    refine r_ti (y := nI (ch ||| 2 ^ p)) (zor_c ch hc256 p (by omega)) ?_
    refine r_is (ls' := [.ref 36, .ref w, .int (nI ch), .long ns, .null, .int (nI p), .int (nI (ch ||| 2 ^ p)), v7, v8]) hP c26_18 (Nat.le_of_ble_eq_true rfl) rfl ?_
    refine r_il hP c26_20 rfl ?_
    refine r_il hP c26_22 rfl ?_
    refine r_ieq hP c26_23 (fun h23 => ?_) (fun h23 => ?_)
    · have hbt := hoe.1.mp h23
      refine r_inc (y := nI (p + 1)) (ls' := [.ref 36, .ref w, .int (nI ch), .long ns, .null, .int (nI (p + 1)), .int (nI (ch ||| 2 ^ p)), v7, v8]) hP c26_92 rfl (nI_1 _) rfl ?_
      refine r_goto hP c26_95 ?_
      exact ih hlt _ _ _ _ _ (by
        first
          | (rw [zgn, if_pos hbt]; exact hacc)
          | (rw [zgn, if_neg hbt]
             first
               | (have hq : (zgn S T ch ns p).2 = -4 ∨ (S 8 p 0).toInt64 * ns + T (ch ||| 2 ^ p) < (zgn S T ch ns p).1 := Or.inl h63; rw [if_pos hq]; exact ⟨fun a k q => (zup_n _ _ _ _ q).trans (hacc.1 a k q), fun a k q => (zup_n _ _ _ _ q).trans (hacc.2.1 a k q), zup_s _ _ _ _, zup_s _ _ _ _⟩)
               | (have hq : (zgn S T ch ns p).2 = -4 ∨ (S 8 p 0).toInt64 * ns + T (ch ||| 2 ^ p) < (zgn S T ch ns p).1 := Or.inr (Int64.not_le.mp h75); rw [if_pos hq]; exact ⟨fun a k q => (zup_n _ _ _ _ q).trans (hacc.1 a k q), fun a k q => (zup_n _ _ _ _ q).trans (hacc.2.1 a k q), zup_s _ _ _ _, zup_s _ _ _ _⟩)
               | (have hq : ¬ ((zgn S T ch ns p).2 = -4 ∨ (S 8 p 0).toInt64 * ns + T (ch ||| 2 ^ p) < (zgn S T ch ns p).1) := fun q => Or.elim q h63 (fun z => absurd h75 (Int64.not_le.mpr z)); rw [if_neg hq]; exact hacc)))
    · have hbt : ¬ ch.testBit p = true := fun q => h23 (hoe.1.mpr q)
      have hgt := hoe.2.2 (by simpa using hbt)
      refine r_il hP c26_26 rfl ?_
      refine r_ic hP c26_28 ?_
      refine r_ige hP c26_31 (fun h31 => absurd h31 (nI_ge (b := 256) (by omega) (by decide))) (fun h31 => ?_)
      refine r_al hP c26_34 rfl ?_
      refine r_gR (x := w + 2) hP c26_35 (zj_W hK hw) (zr_pts hR hw) ?_
      refine r_il hP c26_38 rfl ?_
      refine r_aald (j := p) (x := w + 18 + 2 * p) hP c26_40 (zk_pts hK hw) rfl (by omega) (zr_prt hR hw (by omega)) ?_
      refine r_gI (x := S 8 p 0) hP c26_41 (zj_prt hK hw (by omega)) (zC_f (zC_to hC (fun a h1 h2 k => hacc.1 a k (by omega)) hs6 hp8 hw6) (by omega) 6 (by decide) (by decide)) ?_
      refine r_i2l hP c26_44 ?_
      refine r_ll hP c26_45 rfl ?_
      refine r_lmul hP c26_46 ?_
      refine r_al hP c26_47 rfl ?_
      refine r_gR (x := 38) hP c26_48 (zj36 hK) (zr36_1 hR) ?_
      refine r_il hP c26_51 rfl ?_
      refine r_lald (j := ch ||| 2 ^ p) (x := T (ch ||| 2 ^ p)) hP c26_53 (zk38 hK) rfl (by omega) ((hacc.2.1 38 _ (by omega)).trans (hT _ hgt hor)) ?_
      refine r_ladd hP c26_54 ?_
      refine r_ls (ls' := [.ref 36, .ref w, .int (nI ch), .long ns, .null, .int (nI p), .int (nI (ch ||| 2 ^ p)), .long ((((S 8 p 0).toInt64) * ns) + (T (ch ||| 2 ^ p))), .null]) hP c26_55 (Nat.le_of_ble_eq_true rfl) rfl ?_
      refine r_al hP c26_57 rfl ?_
      refine r_gI (x := (zgn S T ch ns p).2) hP c26_58 (zj36 hK) hacc.2.2.2 ?_
      refine r_ic hP c26_61 ?_
      refine r_ieq hP c26_63 (fun h63 => ?_) (fun h63 => ?_)
      · refine r_al hP c26_78 rfl ?_
        refine r_gR (x := 38) hP c26_79 (zj36 hK) (zr36_1 hR) ?_
        refine r_il hP c26_82 rfl ?_
        refine r_ll hP c26_83 rfl ?_
        refine r_last (j := ch) hP c26_85 (zk38 hK) rfl (by omega) ?_
        refine r_al hP c26_86 rfl ?_
        refine r_il hP c26_87 rfl ?_
        refine r_pI hP c26_89 (zj36 hK) ?_
        refine r_inc (y := nI (p + 1)) (ls' := [.ref 36, .ref w, .int (nI ch), .long ns, .null, .int (nI (p + 1)), .int (nI (ch ||| 2 ^ p)), .long ((((S 8 p 0).toInt64) * ns) + (T (ch ||| 2 ^ p))), .null]) hP c26_92 rfl (nI_1 _) rfl ?_
        refine r_goto hP c26_95 ?_
        exact ih hlt _ _ _ _ _ (by
          first
            | (rw [zgn, if_pos hbt]; exact hacc)
            | (rw [zgn, if_neg hbt]
               first
                 | (have hq : (zgn S T ch ns p).2 = -4 ∨ (S 8 p 0).toInt64 * ns + T (ch ||| 2 ^ p) < (zgn S T ch ns p).1 := Or.inl h63; rw [if_pos hq]; exact ⟨fun a k q => (zup_n _ _ _ _ q).trans (hacc.1 a k q), fun a k q => (zup_n _ _ _ _ q).trans (hacc.2.1 a k q), zup_s _ _ _ _, zup_s _ _ _ _⟩)
                 | (have hq : (zgn S T ch ns p).2 = -4 ∨ (S 8 p 0).toInt64 * ns + T (ch ||| 2 ^ p) < (zgn S T ch ns p).1 := Or.inr (Int64.not_le.mp h75); rw [if_pos hq]; exact ⟨fun a k q => (zup_n _ _ _ _ q).trans (hacc.1 a k q), fun a k q => (zup_n _ _ _ _ q).trans (hacc.2.1 a k q), zup_s _ _ _ _, zup_s _ _ _ _⟩)
                 | (have hq : ¬ ((zgn S T ch ns p).2 = -4 ∨ (S 8 p 0).toInt64 * ns + T (ch ||| 2 ^ p) < (zgn S T ch ns p).1) := fun q => Or.elim q h63 (fun z => absurd h75 (Int64.not_le.mpr z)); rw [if_neg hq]; exact hacc)))
      · refine r_ll hP c26_66 rfl ?_
        refine r_al hP c26_68 rfl ?_
        refine r_gR (x := 38) hP c26_69 (zj36 hK) (zr36_1 hR) ?_
        refine r_il hP c26_72 rfl ?_
        refine r_lald (j := ch) (x := (zgn S T ch ns p).1) hP c26_73 (zk38 hK) rfl (by omega) hacc.2.2.1 ?_
        refine r_lcmp hP c26_74 ?_
        refine r_ifgeL hP c26_75 (fun h75 => ?_) (fun h75 => ?_)
        · refine r_inc (y := nI (p + 1)) (ls' := [.ref 36, .ref w, .int (nI ch), .long ns, .null, .int (nI (p + 1)), .int (nI (ch ||| 2 ^ p)), .long ((((S 8 p 0).toInt64) * ns) + (T (ch ||| 2 ^ p))), .null]) hP c26_92 rfl (nI_1 _) rfl ?_
          refine r_goto hP c26_95 ?_
          exact ih hlt _ _ _ _ _ (by
            first
              | (rw [zgn, if_pos hbt]; exact hacc)
              | (rw [zgn, if_neg hbt]
                 first
                   | (have hq : (zgn S T ch ns p).2 = -4 ∨ (S 8 p 0).toInt64 * ns + T (ch ||| 2 ^ p) < (zgn S T ch ns p).1 := Or.inl h63; rw [if_pos hq]; exact ⟨fun a k q => (zup_n _ _ _ _ q).trans (hacc.1 a k q), fun a k q => (zup_n _ _ _ _ q).trans (hacc.2.1 a k q), zup_s _ _ _ _, zup_s _ _ _ _⟩)
                   | (have hq : (zgn S T ch ns p).2 = -4 ∨ (S 8 p 0).toInt64 * ns + T (ch ||| 2 ^ p) < (zgn S T ch ns p).1 := Or.inr (Int64.not_le.mp h75); rw [if_pos hq]; exact ⟨fun a k q => (zup_n _ _ _ _ q).trans (hacc.1 a k q), fun a k q => (zup_n _ _ _ _ q).trans (hacc.2.1 a k q), zup_s _ _ _ _, zup_s _ _ _ _⟩)
                   | (have hq : ¬ ((zgn S T ch ns p).2 = -4 ∨ (S 8 p 0).toInt64 * ns + T (ch ||| 2 ^ p) < (zgn S T ch ns p).1) := fun q => Or.elim q h63 (fun z => absurd h75 (Int64.not_le.mpr z)); rw [if_neg hq]; exact hacc)))
        · refine r_al hP c26_78 rfl ?_
          refine r_gR (x := 38) hP c26_79 (zj36 hK) (zr36_1 hR) ?_
          refine r_il hP c26_82 rfl ?_
          refine r_ll hP c26_83 rfl ?_
          refine r_last (j := ch) hP c26_85 (zk38 hK) rfl (by omega) ?_
          refine r_al hP c26_86 rfl ?_
          refine r_il hP c26_87 rfl ?_
          refine r_pI hP c26_89 (zj36 hK) ?_
          refine r_inc (y := nI (p + 1)) (ls' := [.ref 36, .ref w, .int (nI ch), .long ns, .null, .int (nI (p + 1)), .int (nI (ch ||| 2 ^ p)), .long ((((S 8 p 0).toInt64) * ns) + (T (ch ||| 2 ^ p))), .null]) hP c26_92 rfl (nI_1 _) rfl ?_
          refine r_goto hP c26_95 ?_
          exact ih hlt _ _ _ _ _ (by
            first
              | (rw [zgn, if_pos hbt]; exact hacc)
              | (rw [zgn, if_neg hbt]
                 first
                   | (have hq : (zgn S T ch ns p).2 = -4 ∨ (S 8 p 0).toInt64 * ns + T (ch ||| 2 ^ p) < (zgn S T ch ns p).1 := Or.inl h63; rw [if_pos hq]; exact ⟨fun a k q => (zup_n _ _ _ _ q).trans (hacc.1 a k q), fun a k q => (zup_n _ _ _ _ q).trans (hacc.2.1 a k q), zup_s _ _ _ _, zup_s _ _ _ _⟩)
                   | (have hq : (zgn S T ch ns p).2 = -4 ∨ (S 8 p 0).toInt64 * ns + T (ch ||| 2 ^ p) < (zgn S T ch ns p).1 := Or.inr (Int64.not_le.mp h75); rw [if_pos hq]; exact ⟨fun a k q => (zup_n _ _ _ _ q).trans (hacc.1 a k q), fun a k q => (zup_n _ _ _ _ q).trans (hacc.2.1 a k q), zup_s _ _ _ _, zup_s _ _ _ _⟩)
                   | (have hq : ¬ ((zgn S T ch ns p).2 = -4 ∨ (S 8 p 0).toInt64 * ns + T (ch ||| 2 ^ p) < (zgn S T ch ns p).1) := fun q => Or.elim q h63 (fun z => absurd h75 (Int64.not_le.mpr z)); rw [if_neg hq]; exact hacc)))
set_option maxRecDepth 4000 in
theorem x_goOn {K : ZKh} {P : Nat → Nat → List Value → List Value → ZMi → ZMl → ZMr → ZRt → Prop} {I : ZMi} {L : ZMl} {R : ZMr} {Q : ZRt} (hP : ZCl K P) {w nS nP nW : Nat} {S : ZS} (hK : zKa K) (hR : zRa R) (hw : zisW w) (hC : zC I w S nS nP nW) (hp8 : nP ≤ 8) (hs6 : nS ≤ 6) (hw6 : nW ≤ 6) {ch : Nat} {T : Nat → Int64} {ns : Int64} (hch : ch < 2 ^ nP) (hT : ∀ st, ch < st → st < 2 ^ nP → L 38 st = T st) (h0 : L 38 ch = 0) (h4 : I 36 2 = -4) (h : ∀ I2 L2, zfi I I2 → zfs_ L L2 ch → L2 38 ch = (zgn S T ch ns nP).1 → I2 36 2 = (zgn S T ch ns nP).2 → Q none I2 L2 R) : P 26 0 [.ref 36, .ref w, .int (nI ch), .long ns, .null, .null, .null, .null, .null] [] I L R Q := by
  refine r_ic hP c26_0 ?_
  refine r_is (ls' := [.ref 36, .ref w, .int (nI ch), .long ns, .null, .int 0, .null, .null, .null]) hP c26_1 (Nat.le_of_ble_eq_true rfl) rfl ?_
  exact x_goOn_l hP hK hR hw hC hp8 hs6 hw6 hch hT h 0 (Nat.zero_le _) _ _ _ _ _ ⟨fun _ _ _ => rfl, fun _ _ _ => rfl, h0, h4⟩
