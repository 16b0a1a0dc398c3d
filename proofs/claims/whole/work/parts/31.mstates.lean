/-! ===== the model: weights, states ===== -/
theorem zkern : ∀ k, k < 256 → k ≠ 0 → ((nI k &&& (nI k - 1)) = nI (k &&& (k - 1)) ∧ zbc k = zbc (k &&& (k - 1)) + 1 ∧ k &&& (k - 1) < 256) := by decide +kernel
theorem zbc0 : ∀ k, k < 256 → (zbc k = 0 ↔ k = 0) := by decide +kernel
def zAm (I : ZMi) (na : Nat) (A : ZA) : Prop := I 143 0 = nI na ∧ ∀ i, i < na → I 144 i = nI (A i).1 ∧ I 145 i = nI (A i).2.1 ∧ I 146 i = (A i).2.2.1 ∧ I 147 i = (A i).2.2.2
def zft (S : ZS) (nS nP : Nat) (A : ZA) (st : Nat) : Nat → Bool
  | 0 => true
  | i + 1 => zft S nS nP A st i && zfa S nS nP (A i) st
theorem zft_f {S : ZS} {nS nP : Nat} {A : ZA} {st i : Nat} (h : zft S nS nP A st i = false) : ∀ k, zft S nS nP A st (i + k) = false
  | 0 => h
  | k + 1 => by
    show zft S nS nP A st (i + k + 1) = false
    rw [zft, zft_f h k, Bool.false_and]
def zMs_ (I : ZMi) (L : ZMl) (S : ZS) (nP : Nat) (cs : List Nat) : Prop := I 119 32 = nI cs.length ∧ ∀ i, i < cs.length → I 149 i = nI (cs.getD i 0) ∧ L 150 i = zwt S (cs.getD i 0) nP
def zfm_ (I I' : ZMi) : Prop := ∀ a k, ¬ (a = 119 ∧ k = 32) → a ≠ 149 → I' a k = I a k
def zfn_ (L L' : ZMl) : Prop := ∀ a, a ≠ 150 → ∀ k, L' a k = L a k
theorem zD_to {I I' : ZMi} {b : Nat} {S : ZS} {nS nP nW : Nat} (h : zD I b S nS nP nW) (he : ∀ a, 121 ≤ a → a < 143 → ∀ k, I' a k = I a k) : zD I' b S nS nP nW := by
  obtain ⟨h1, h2, h3, h4, h5, h6, h7, h8⟩ := h
  refine ⟨by rw [he _ (by omega) (by omega)]; exact h1, by rw [he _ (by omega) (by omega)]; exact h2, by rw [he _ (by omega) (by omega)]; exact h3, fun s hs => ⟨?_, ?_, fun t ht => ?_⟩, fun p hp => ⟨fun j a b => ?_, fun t ht => ?_⟩, fun i hi j hj => ?_, fun t ht => ?_, fun k hk => ?_⟩
  · rw [he _ (by omega) (by omega)]; exact (h4 s hs).1
  · rw [he _ (by omega) (by omega)]; exact (h4 s hs).2.1
  · rw [he _ (by omega) (by omega)]; exact (h4 s hs).2.2 t ht
  · rw [he _ (by omega) (by omega)]; exact (h5 p hp).1 j a b
  · rw [he _ (by omega) (by omega)]; exact (h5 p hp).2 t ht
  · rw [he _ (by omega) (by omega)]; exact h6 i hi j hj
  · rw [he _ (by omega) (by omega)]; exact h7 t ht
  · rw [he _ (by omega) (by omega)]; exact h8 k hk
theorem zD_fm {I I' : ZMi} {b : Nat} {S : ZS} {nS nP nW : Nat} (h : zD I b S nS nP nW) (hf : zfm_ I I') : zD I' b S nS nP nW := zD_to h (fun a h1 h2 k => hf a k (by omega) (by omega))
theorem zAm_fm {I I' : ZMi} {na : Nat} {A : ZA} (h : zAm I na A) (hf : zfm_ I I') : zAm I' na A := ⟨(hf 143 0 (by omega) (by decide)).trans h.1, fun i hi => ⟨(hf 144 i (by omega) (by decide)).trans (h.2 i hi).1, (hf 145 i (by omega) (by decide)).trans (h.2 i hi).2.1, (hf 146 i (by omega) (by decide)).trans (h.2 i hi).2.2.1, (hf 147 i (by omega) (by decide)).trans (h.2 i hi).2.2.2⟩⟩
def zwq (S : ZS) (nS nP : Nat) (A : ZA) (na st : Nat) : Bool := zwp S nP st && zft S nS nP A st na
theorem zps_eq (S : ZS) (nS nP : Nat) (A : ZA) : ∀ na, zps S nS nP A na = (List.range (2 ^ nP)).filter (zwq S nS nP A na)
  | 0 => by
    unfold zps zall zwq
    congr 1
    funext st
    simp [zft]
  | na + 1 => by
    rw [zps, zps_eq S nS nP A na, List.filter_filter]
    congr 1
    funext st
    simp only [zwq, zft]
    cases zwp S nP st <;> cases zft S nS nP A st na <;> cases zfa S nS nP (A na) st <;> rfl
theorem zwq_len (S : ZS) (nS : Nat) {nP i : Nat} (A : ZA) (na : Nat) (hp8 : nP ≤ 8) (hi : i ≤ 2 ^ nP) : ((List.range i).filter (zwq S nS nP A na)).length ≤ 37 := by
  have e : (List.range i).filter (zwq S nS nP A na) = ((List.range i).filter (zwp S nP)).filter (fun st => zft S nS nP A st na) := by
    rw [List.filter_filter]
    congr 1
    funext st
    simp [zwq, Bool.and_comm]
  rw [e]
  exact Nat.le_trans (List.length_filter_le _ _) (z37l S hp8 hi)
theorem zMs_add {I : ZMi} {L : ZMl} {S : ZS} {nP : Nat} {cs : List Nat} (h : zMs_ I L S nP cs) (st : Nat) : zMs_ (zup (zup I 149 cs.length (nI st)) 119 32 (nI (cs.length + 1))) (zup L 150 cs.length (zwt S st nP)) S nP (cs ++ [st]) := by
  refine ⟨by rw [zup_s, List.length_append]; rfl, fun i hi => ?_⟩
  have hi : i < cs.length + 1 := by rw [List.length_append] at hi; exact hi
  have hI : ∀ (f : ZMi) (x : Int32) (k : Nat), zup f 119 32 x 149 k = f 149 k := fun f x k => zup_na _ _ _ _ (by decide)
  rw [hI]
  by_cases e : i = cs.length
  · subst e
    rw [zup_s, zup_s]
    simp
  · rw [zup_nk _ _ _ _ e, zup_nk _ _ _ _ e]
    have hl : i < cs.length := by omega
    have e2 : (cs ++ [st]).getD i 0 = cs.getD i 0 := by simp [List.getD, List.getElem?_append_left hl]
    rw [e2]
    exact h.2 i hl
set_option maxRecDepth 4000 in
theorem x_mweight_l {K : ZKh} {P : Nat → Nat → List Value → List Value → ZMi → ZMl → ZMr → ZRt → Prop} {I : ZMi} {L : ZMl} {R : ZMr} {Q : ZRt} (hP : ZCl K P) {nS nP nW : Nat} {S : ZS} (hKb : zKb K) (hRb : zRb R) (hD : zD I 0 S nS nP nW) (hs1 : 1 ≤ nS) (hp1 : 1 ≤ nP) (hp8 : nP ≤ 8) (hs6 : nS ≤ 6) (hw6 : nW ≤ 6) {st : Nat} (hst : st < 256) (h : Q (some (.long (zwt S st nP))) I L R) : ∀ p, p ≤ nP → ∀ (acc : Int64), acc = zwt S st p → P 146 5 [.ref 119, .int (nI st), .long acc, .null, .int (nI p)] [] I L R Q := by
  refine zloop nP (fun p => ∀ (acc : Int64), acc = zwt S st p → P 146 5 [.ref 119, .int (nI st), .long acc, .null, .int (nI p)] [] I L R Q) ?_
  intro p hle ih acc hacc
  refine r_il hP c146_5 rfl ?_
  refine r_al hP c146_7 rfl ?_
  refine r_gR (x := 124) hP c146_8 (zj119 hKb) (zr119_5 hRb) ?_
  refine r_ic hP c146_11 ?_
  refine r_iald (j := 0) (x := nI nP) hP c146_12 (zk124 hKb) rfl (by decide) hD.2.1 ?_
  refine r_ige hP c146_13 (fun h13 => ?_) (fun h13 => ?_)
  · have he : p = nP := Nat.le_antisymm hle ((nI_leI (by omega) (by omega)).mp h13)
    refine r_ll hP c146_56 rfl ?_
    exact r_lrE hP c146_57 h (by rw [hacc, he])
  · have hlt : p < nP := by
      rcases Nat.lt_or_ge p nP with q | q
      · exact q
      · exact absurd (nI_le q (by omega)) h13
    refine r_ll hP c146_16 rfl ?_
    refine r_il hP c146_17 rfl ?_
    refine r_il hP c146_18 rfl ?_
    refine r_cSi (as := [.int (nI st), .int (nI p)]) (r := [.long acc]) (I' := I) (L' := L) (R' := R) (x := if st.testBit p = true then 1 else 0) hP c146_20 rfl rfl (fun _ hq => x_has hP hst (by omega) hq) ?_
    refine r_ifeqB hP c146_23 (fun h23 => ?_) (fun h23 => ?_)
    · refine r_ic hP c146_37 ?_
      refine r_al hP c146_39 rfl ?_
      refine r_gR (x := 128) hP c146_40 (zj119 hKb) (zr119_9 hRb) ?_
      refine r_il hP c146_43 rfl ?_
      refine r_iald (j := p) (x := S 6 p 0) hP c146_45 (zk128 hKb) rfl (by omega) (zD_f hD (by omega) 4 (by decide) (by decide)) ?_
      refine r_isub hP c146_46 ?_
      refine r_i2l hP c146_47 ?_
      refine r_lmul hP c146_48 ?_
      refine r_ls (ls' := [.ref 119, .int (nI st), .long (acc * ((10 - (S 6 p 0)).toInt64)), .null, .int (nI p)]) hP c146_49 (Nat.le_of_ble_eq_true rfl) rfl ?_
      refine r_inc (y := nI (p + 1)) (ls' := [.ref 119, .int (nI st), .long (acc * ((10 - (S 6 p 0)).toInt64)), .null, .int (nI (p + 1))]) hP c146_50 rfl (nI_1 _) rfl ?_
      refine r_goto hP c146_53 ?_
      exact ih hlt _ (by rw [hacc, zwt]; first | rw [if_pos h23] | rw [if_neg h23])
    · refine r_al hP c146_26 rfl ?_
      refine r_gR (x := 128) hP c146_27 (zj119 hKb) (zr119_9 hRb) ?_
      refine r_il hP c146_30 rfl ?_
      refine r_iald (j := p) (x := S 6 p 0) hP c146_32 (zk128 hKb) rfl (by omega) (zD_f hD (by omega) 4 (by decide) (by decide)) ?_
      refine r_i2l hP c146_33 ?_
      refine r_goto hP c146_34 ?_
      refine r_lmul hP c146_48 ?_
      refine r_ls (ls' := [.ref 119, .int (nI st), .long (acc * ((S 6 p 0).toInt64)), .null, .int (nI p)]) hP c146_49 (Nat.le_of_ble_eq_true rfl) rfl ?_
      refine r_inc (y := nI (p + 1)) (ls' := [.ref 119, .int (nI st), .long (acc * ((S 6 p 0).toInt64)), .null, .int (nI (p + 1))]) hP c146_50 rfl (nI_1 _) rfl ?_
      refine r_goto hP c146_53 ?_
      exact ih hlt _ (by rw [hacc, zwt]; first | rw [if_pos h23] | rw [if_neg h23])
set_option maxRecDepth 4000 in
theorem x_mweight {K : ZKh} {P : Nat → Nat → List Value → List Value → ZMi → ZMl → ZMr → ZRt → Prop} {I : ZMi} {L : ZMl} {R : ZMr} {Q : ZRt} (hP : ZCl K P) {nS nP nW : Nat} {S : ZS} (hKb : zKb K) (hRb : zRb R) (hD : zD I 0 S nS nP nW) (hs1 : 1 ≤ nS) (hp1 : 1 ≤ nP) (hp8 : nP ≤ 8) (hs6 : nS ≤ 6) (hw6 : nW ≤ 6) {st : Nat} (hst : st < 256) (h : Q (some (.long (zwt S st nP))) I L R) : P 146 0 [.ref 119, .int (nI st), .null, .null, .null] [] I L R Q := by
  refine r_lc hP c146_0 ?_
  refine r_ls (ls' := [.ref 119, .int (nI st), .long 1, .null, .null]) hP c146_1 (Nat.le_of_ble_eq_true rfl) rfl ?_
  refine r_ic hP c146_2 ?_
  refine r_is (ls' := [.ref 119, .int (nI st), .long 1, .null, .int 0]) hP c146_3 (Nat.le_of_ble_eq_true rfl) rfl ?_
  exact x_mweight_l hP hKb hRb hD hs1 hp1 hp8 hs6 hw6 hst h 0 (Nat.zero_le _) _ rfl
set_option maxRecDepth 4000 in
theorem x_bits_l {K : ZKh} {P : Nat → Nat → List Value → List Value → ZMi → ZMl → ZMr → ZRt → Prop} {I : ZMi} {L : ZMl} {R : ZMr} {Q : ZRt} (hP : ZCl K P) {st : Nat} (hst : st < 256) (h : Q (some (.int (nI (zbc st)))) I L R) : ∀ d, d ≤ (zbc st) → ∀ (k : Nat), zbc k + d = zbc st ∧ k < 256 → P 145 4 [.int (nI st), .int (nI d), .int (nI k)] [] I L R Q := by
  refine zloop (zbc st) (fun d => ∀ (k : Nat), zbc k + d = zbc st ∧ k < 256 → P 145 4 [.int (nI st), .int (nI d), .int (nI k)] [] I L R Q) ?_
  intro d hle ih k hacc
  refine r_il hP c145_4 rfl ?_
  refine r_ifeq hP c145_5 (fun h5 => ?_) (fun h5 => ?_)
  · have hk0 : k = 0 := (nI_eq (b := 0) (by omega) (by omega)).mp h5
    have hz := (zbc0 k hacc.2).mpr hk0
    refine r_il hP c145_20 rfl ?_
    exact r_irE hP c145_21 h (by rw [show d = zbc st from (by omega)])
  · have hk0 : k ≠ 0 := fun q => h5 (by rw [q]; rfl)
    refine r_inc (y := nI (d + 1)) (ls' := [.int (nI st), .int (nI (d + 1)), .int (nI k)]) hP c145_8 rfl (nI_1 _) rfl ?_
    refine r_il hP c145_11 rfl ?_
    refine r_il hP c145_12 rfl ?_
    refine r_ic hP c145_13 ?_
    refine r_isub hP c145_14 ?_
    refine r_iand hP c145_15 ?_
    refine r_ti (y := nI (k &&& (k - 1))) (zkern k hacc.2 hk0).1 ?_
    refine r_is (ls' := [.int (nI st), .int (nI (d + 1)), .int (nI (k &&& (k - 1)))]) hP c145_16 (Nat.le_of_ble_eq_true rfl) rfl ?_
    refine r_goto hP c145_17 ?_
    exact ih (by have := (zkern k hacc.2 hk0).2.1; omega) _ ⟨by have := (zkern k hacc.2 hk0).2.1; omega, (zkern k hacc.2 hk0).2.2⟩
set_option maxRecDepth 4000 in
theorem x_bits {K : ZKh} {P : Nat → Nat → List Value → List Value → ZMi → ZMl → ZMr → ZRt → Prop} {I : ZMi} {L : ZMl} {R : ZMr} {Q : ZRt} (hP : ZCl K P) {st : Nat} (hst : st < 256) (h : Q (some (.int (nI (zbc st)))) I L R) : P 145 0 [.int (nI st), .null, .null] [] I L R Q := by
  refine r_ic hP c145_0 ?_
  refine r_is (ls' := [.int (nI st), .int 0, .null]) hP c145_1 (Nat.le_of_ble_eq_true rfl) rfl ?_
  refine r_il hP c145_2 rfl ?_
  refine r_is (ls' := [.int (nI st), .int 0, .int (nI st)]) hP c145_3 (Nat.le_of_ble_eq_true rfl) rfl ?_
  exact x_bits_l hP hst h 0 (Nat.zero_le _) _ ⟨rfl, hst⟩
set_option maxRecDepth 4000 in
theorem x_fits_l {K : ZKh} {P : Nat → Nat → List Value → List Value → ZMi → ZMl → ZMr → ZRt → Prop} {I : ZMi} {L : ZMl} {R : ZMr} {Q : ZRt} (hP : ZCl K P) {nS nP nW : Nat} {S : ZS} (hKb : zKb K) (hRb : zRb R) (hD : zD I 0 S nS nP nW) (hs1 : 1 ≤ nS) (hp1 : 1 ≤ nP) (hp8 : nP ≤ 8) (hs6 : nS ≤ 6) (hw6 : nW ≤ 6) {st na : Nat} {A : ZA} (hst : st < 256) (hA : zAm I na A) (hAo : zAo nS nP na A) (hn10 : na ≤ 10) (h : Q (some (.int (if zft S nS nP A st na = true then 1 else 0))) I L R) : ∀ i, i ≤ na → ∀ (_u : Unit), True → P 147 4 [.ref 119, .int (nI st), .int (if zft S nS nP A st i = true then 1 else 0), .int (nI i)] [] I L R Q := by
  refine zloop na (fun i => ∀ (_u : Unit), True → P 147 4 [.ref 119, .int (nI st), .int (if zft S nS nP A st i = true then 1 else 0), .int (nI i)] [] I L R Q) ?_
  intro i hle ih _u hacc
  refine r_il hP c147_4 rfl ?_
  refine r_al hP c147_5 rfl ?_
  refine r_gR (x := 143) hP c147_6 (zj119 hKb) (zr119_24 hRb) ?_
  refine r_ic hP c147_9 ?_
  refine r_iald (j := 0) (x := nI na) hP c147_10 (zk143 hKb) rfl (by decide) hA.1 ?_
  refine r_ige hP c147_11 (fun h11 => ?_) (fun h11 => ?_)
  · have he : i = na := Nat.le_antisymm hle ((nI_leI (by omega) (by omega)).mp h11)
    refine r_il hP c147_62 rfl ?_
    first
      | (subst he; exact r_zrB hP c147_63 h)
      | (have hf := zft_f (S := S) (nS := nS) (nP := nP) (A := A) (st := st) (i := i) (by simpa using h15) (na - i)
         rw [Nat.add_sub_cancel' hle] at hf
         rw [if_neg (by rw [hf]; decide)] at h
         rw [if_neg h15]
         exact r_zr hP c147_63 (Or.inl rfl) h)
  · have hlt : i < na := by
      rcases Nat.lt_or_ge i na with q | q
      · exact q
      · exact absurd (nI_le q (by omega)) h11
    refine r_il hP c147_14 rfl ?_
    refine r_ifeqB hP c147_15 (fun h15 => ?_) (fun h15 => ?_)
    · refine r_il hP c147_62 rfl ?_
      first
        | (subst he; exact r_zrB hP c147_63 h)
        | (have hf := zft_f (S := S) (nS := nS) (nP := nP) (A := A) (st := st) (i := i) (by simpa using h15) (na - i)
           rw [Nat.add_sub_cancel' hle] at hf
           rw [if_neg (by rw [hf]; decide)] at h
           rw [if_neg h15]
           exact r_zr hP c147_63 (Or.inl rfl) h)
    · refine r_al hP c147_18 rfl ?_
      refine r_il hP c147_19 rfl ?_
      refine r_al hP c147_20 rfl ?_
      refine r_gR (x := 144) hP c147_21 (zj119 hKb) (zr119_25 hRb) ?_
      refine r_il hP c147_24 rfl ?_
      refine r_iald (j := i) (x := nI (A i).1) hP c147_25 (zk144 hKb) rfl (by omega) (hA.2 i hlt).1 ?_
      refine r_al hP c147_26 rfl ?_
      refine r_gR (x := 145) hP c147_27 (zj119 hKb) (zr119_26 hRb) ?_
      refine r_il hP c147_30 rfl ?_
      refine r_iald (j := i) (x := nI (A i).2.1) hP c147_31 (zk145 hKb) rfl (by omega) (hA.2 i hlt).2.1 ?_
      refine r_al hP c147_32 rfl ?_
      refine r_gR (x := 146) hP c147_33 (zj119 hKb) (zr119_27 hRb) ?_
      refine r_il hP c147_36 rfl ?_
      refine r_iald (j := i) (x := (A i).2.2.1) hP c147_37 (zk146 hKb) rfl (by omega) (hA.2 i hlt).2.2.1 ?_
      refine r_cVi (as := [.int (nI st), .int (nI (A i).1), .int (nI (A i).2.1), .int ((A i).2.2.1)]) (r := []) (I' := I) (L' := L) (R' := R) (x := zrep S nS nP st (A i).1 (A i).2.1 (A i).2.2.1) (a := 119) hP c147_38 rfl (zj119 hKb) rfl (fun _ hq => x_askOf hP hKb hRb hD hs1 hp1 hp8 hs6 hw6 hst (hAo i hlt).1 (hAo i hlt).2 hq) ?_
      refine r_al hP c147_41 rfl ?_
      refine r_gR (x := 147) hP c147_42 (zj119 hKb) (zr119_28 hRb) ?_
      refine r_il hP c147_45 rfl ?_
      refine r_iald (j := i) (x := (A i).2.2.2) hP c147_46 (zk147 hKb) rfl (by omega) (hA.2 i hlt).2.2.2 ?_
      refine r_ine hP c147_47 (fun h47 => ?_) (fun h47 => ?_)
      · refine r_ic hP c147_54 ?_
        refine r_is (ls' := [.ref 119, .int (nI st), .int 0, .int (nI i)]) hP c147_55 (Nat.le_of_ble_eq_true rfl) rfl ?_
        refine r_inc (y := nI (i + 1)) (ls' := [.ref 119, .int (nI st), .int 0, .int (nI (i + 1))]) hP c147_56 rfl (nI_1 _) rfl ?_
        refine r_goto hP c147_59 ?_
        have hx := ih hlt () trivial
        rw [zft, h15, Bool.true_and] at hx
        first
          | (rw [if_pos (by rw [zfa, decide_eq_true_eq]; exact h47)] at hx; exact hx)
          | (rw [if_neg (by rw [zfa, decide_eq_true_eq]; exact h47)] at hx; exact hx)
      · refine r_ic hP c147_50 ?_
        refine r_goto hP c147_51 ?_
        refine r_is (ls' := [.ref 119, .int (nI st), .int 1, .int (nI i)]) hP c147_55 (Nat.le_of_ble_eq_true rfl) rfl ?_
        refine r_inc (y := nI (i + 1)) (ls' := [.ref 119, .int (nI st), .int 1, .int (nI (i + 1))]) hP c147_56 rfl (nI_1 _) rfl ?_
        refine r_goto hP c147_59 ?_
        have hx := ih hlt () trivial
        rw [zft, h15, Bool.true_and] at hx
        first
          | (rw [if_pos (by rw [zfa, decide_eq_true_eq]; exact h47)] at hx; exact hx)
          | (rw [if_neg (by rw [zfa, decide_eq_true_eq]; exact h47)] at hx; exact hx)
set_option maxRecDepth 4000 in
theorem x_fits {K : ZKh} {P : Nat → Nat → List Value → List Value → ZMi → ZMl → ZMr → ZRt → Prop} {I : ZMi} {L : ZMl} {R : ZMr} {Q : ZRt} (hP : ZCl K P) {nS nP nW : Nat} {S : ZS} (hKb : zKb K) (hRb : zRb R) (hD : zD I 0 S nS nP nW) (hs1 : 1 ≤ nS) (hp1 : 1 ≤ nP) (hp8 : nP ≤ 8) (hs6 : nS ≤ 6) (hw6 : nW ≤ 6) {st na : Nat} {A : ZA} (hst : st < 256) (hA : zAm I na A) (hAo : zAo nS nP na A) (hn10 : na ≤ 10) (h : Q (some (.int (if zft S nS nP A st na = true then 1 else 0))) I L R) : P 147 0 [.ref 119, .int (nI st), .null, .null] [] I L R Q := by
  refine r_ic hP c147_0 ?_
  refine r_is (ls' := [.ref 119, .int (nI st), .int 1, .null]) hP c147_1 (Nat.le_of_ble_eq_true rfl) rfl ?_
  refine r_ic hP c147_2 ?_
  refine r_is (ls' := [.ref 119, .int (nI st), .int 1, .int 0]) hP c147_3 (Nat.le_of_ble_eq_true rfl) rfl ?_
  exact x_fits_l hP hKb hRb hD hs1 hp1 hp8 hs6 hw6 hst hA hAo hn10 h 0 (Nat.zero_le _) () trivial
set_option maxRecDepth 4000 in
theorem x_lay_l {K : ZKh} {P : Nat → Nat → List Value → List Value → ZMi → ZMl → ZMr → ZRt → Prop} {I : ZMi} {L : ZMl} {R : ZMr} {Q : ZRt} (hP : ZCl K P) {nS nP nW : Nat} {S : ZS} (hKb : zKb K) (hRb : zRb R) (hD : zD I 0 S nS nP nW) (hs1 : 1 ≤ nS) (hp1 : 1 ≤ nP) (hp8 : nP ≤ 8) (hs6 : nS ≤ 6) (hw6 : nW ≤ 6) {na : Nat} {A : ZA} (hA : zAm I na A) (hAo : zAo nS nP na A) (hn10 : na ≤ 10) (h : ∀ I2 L2, zfm_ I I2 → zfn_ L L2 → zMs_ I2 L2 S nP (zps S nS nP A na) → Q none I2 L2 R) : ∀ i, i ≤ (2 ^ nP) → ∀ (I1 : ZMi) (L1 : ZMl), zfm_ I I1 ∧ zfn_ L L1 ∧ zMs_ I1 L1 S nP ((List.range i).filter (zwq S nS nP A na)) → P 148 7 [.ref 119, .int (nI i)] [] I1 L1 R Q := by
  refine zloop (2 ^ nP) (fun i => ∀ (I1 : ZMi) (L1 : ZMl), zfm_ I I1 ∧ zfn_ L L1 ∧ zMs_ I1 L1 S nP ((List.range i).filter (zwq S nS nP A na)) → P 148 7 [.ref 119, .int (nI i)] [] I1 L1 R Q) ?_
  intro i hle ih I1 L1 hacc
  have hp256 := zp256 hp8
  refine r_il hP c148_7 rfl ?_
  refine r_ic hP c148_8 ?_
  refine r_al hP c148_9 rfl ?_
  refine r_gR (x := 124) hP c148_10 (zj119 hKb) (zr119_5 hRb) ?_
  refine r_ic hP c148_13 ?_
  refine r_iald (j := 0) (x := nI nP) hP c148_14 (zk124 hKb) rfl (by decide) (zD_fm hD hacc.1).2.1 ?_
  refine r_ishl hP c148_15 ?_
  refine r_ti (y := nI (2 ^ nP)) (zpow nP hp8) ?_
  refine r_ige hP c148_16 (fun h16 => ?_) (fun h16 => ?_)
  · have he : i = (2 ^ nP) := Nat.le_antisymm hle ((nI_leI (by omega) (by omega)).mp h16)
    subst he
    exact r_vr hP c148_85 (h _ _ hacc.1 hacc.2.1 (by rw [zps_eq]; exact hacc.2.2))
  · have hlt : i < (2 ^ nP) := by
      rcases Nat.lt_or_ge i (2 ^ nP) with q | q
      · exact q
      · exact absurd (nI_le q (by omega)) h16
    have hi256 : i < 256 := by omega
    refine r_il hP c148_19 rfl ?_
    refine r_cSi (as := [.int (nI i)]) (r := []) (I' := I1) (L' := L1) (R' := R) (x := nI (zbc i)) hP c148_20 rfl rfl (fun _ hq => x_bits hP hi256 hq) ?_
    refine r_ic hP c148_23 ?_
    refine r_ige hP c148_24 (fun h24 => ?_) (fun h24 => ?_)
    · have hbc : 3 ≤ zbc i := (nI_leI (a := 3) (b := zbc i) (by omega) (by have := zbc8 i; omega)).mp h24
      refine r_inc (y := nI (i + 1)) (ls' := [.ref 119, .int (nI (i + 1))]) hP c148_79 rfl (nI_1 _) rfl ?_
      refine r_goto hP c148_82 ?_
      exact ih hlt _ _ (by
        rw [List.range_succ, List.filter_append]
        first
          | (have hp : zwq S nS nP A na i = true := by simp [zwq, zwp, hbc, Int64.not_le.mp h34, h42]
             rw [List.filter_cons_of_pos hp, List.filter_nil]
             exact ⟨fun a k q1 q2 => (zup_n _ _ _ _ q1).trans ((zup_na _ _ _ _ q2).trans (hacc.1 a k q1 q2)), fun a q k => (zup_na _ _ _ _ q).trans (hacc.2.1 a q k), zMs_add hacc.2.2 i⟩)
          | (have hp : ¬ zwq S nS nP A na i = true := by
               simp only [zwq, zwp, Bool.and_eq_true, decide_eq_true_eq]
               first | exact fun q => absurd q.1.1 (by omega) | exact fun q => absurd h34 (Int64.not_le.mpr q.1.2) | exact fun q => h42 q.2
             rw [List.filter_cons_of_neg hp, List.filter_nil, List.append_nil]
             exact hacc))
    · have hbc : zbc i ≤ 2 := by
        have := (not_congr (nI_leI (a := 3) (b := zbc i) (by omega) (by have := zbc8 i; omega))).mp h24
        omega
      refine r_al hP c148_27 rfl ?_
      refine r_il hP c148_28 rfl ?_
      refine r_cVl (as := [.int (nI i)]) (r := []) (I' := I1) (L' := L1) (R' := R) (x := zwt S i nP) (a := 119) hP c148_29 rfl (zj119 hKb) rfl (fun _ hq => x_mweight hP hKb hRb (zD_fm hD hacc.1) hs1 hp1 hp8 hs6 hw6 hi256 hq) ?_
      refine r_lc hP c148_32 ?_
      refine r_lcmp hP c148_33 ?_
      refine r_ifleL hP c148_34 (fun h34 => ?_) (fun h34 => ?_)
      · refine r_inc (y := nI (i + 1)) (ls' := [.ref 119, .int (nI (i + 1))]) hP c148_79 rfl (nI_1 _) rfl ?_
        refine r_goto hP c148_82 ?_
        exact ih hlt _ _ (by
          rw [List.range_succ, List.filter_append]
          first
            | (have hp : zwq S nS nP A na i = true := by simp [zwq, zwp, hbc, Int64.not_le.mp h34, h42]
               rw [List.filter_cons_of_pos hp, List.filter_nil]
               exact ⟨fun a k q1 q2 => (zup_n _ _ _ _ q1).trans ((zup_na _ _ _ _ q2).trans (hacc.1 a k q1 q2)), fun a q k => (zup_na _ _ _ _ q).trans (hacc.2.1 a q k), zMs_add hacc.2.2 i⟩)
            | (have hp : ¬ zwq S nS nP A na i = true := by
                 simp only [zwq, zwp, Bool.and_eq_true, decide_eq_true_eq]
                 first | exact fun q => absurd q.1.1 (by omega) | exact fun q => absurd h34 (Int64.not_le.mpr q.1.2) | exact fun q => h42 q.2
               rw [List.filter_cons_of_neg hp, List.filter_nil, List.append_nil]
               exact hacc))
      · refine r_al hP c148_37 rfl ?_
        refine r_il hP c148_38 rfl ?_
        refine r_cVi (as := [.int (nI i)]) (r := []) (I' := I1) (L' := L1) (R' := R) (x := if zft S nS nP A i na = true then 1 else 0) (a := 119) hP c148_39 rfl (zj119 hKb) rfl (fun _ hq => x_fits hP hKb hRb (zD_fm hD hacc.1) hs1 hp1 hp8 hs6 hw6 hi256 (zAm_fm hA hacc.1) hAo hn10 hq) ?_
        refine r_ifeqB hP c148_42 (fun h42 => ?_) (fun h42 => ?_)
        · refine r_inc (y := nI (i + 1)) (ls' := [.ref 119, .int (nI (i + 1))]) hP c148_79 rfl (nI_1 _) rfl ?_
          refine r_goto hP c148_82 ?_
          exact ih hlt _ _ (by
            rw [List.range_succ, List.filter_append]
            first
              | (have hp : zwq S nS nP A na i = true := by simp [zwq, zwp, hbc, Int64.not_le.mp h34, h42]
                 rw [List.filter_cons_of_pos hp, List.filter_nil]
                 exact ⟨fun a k q1 q2 => (zup_n _ _ _ _ q1).trans ((zup_na _ _ _ _ q2).trans (hacc.1 a k q1 q2)), fun a q k => (zup_na _ _ _ _ q).trans (hacc.2.1 a q k), zMs_add hacc.2.2 i⟩)
              | (have hp : ¬ zwq S nS nP A na i = true := by
                   simp only [zwq, zwp, Bool.and_eq_true, decide_eq_true_eq]
                   first | exact fun q => absurd q.1.1 (by omega) | exact fun q => absurd h34 (Int64.not_le.mpr q.1.2) | exact fun q => h42 q.2
                 rw [List.filter_cons_of_neg hp, List.filter_nil, List.append_nil]
                 exact hacc))
        · have hl37 : ((List.range i).filter (zwq S nS nP A na)).length < 37 := by
            have h9 := zwq_len S nS A na hp8 (i := i + 1) (by omega)
            rw [List.range_succ, List.filter_append, List.filter_cons_of_pos (by simp [zwq, zwp, hbc, Int64.not_le.mp h34, h42]), List.length_append] at h9
            simp at h9
            omega
          refine r_al hP c148_45 rfl ?_
          refine r_gR (x := 149) hP c148_46 (zj119 hKb) (zr119_33 hRb) ?_
          refine r_al hP c148_49 rfl ?_
          refine r_gI (x := nI ((List.range i).filter (zwq S nS nP A na)).length) hP c148_50 (zj119 hKb) hacc.2.2.1 ?_
          refine r_il hP c148_53 rfl ?_
          refine r_iast (j := ((List.range i).filter (zwq S nS nP A na)).length) hP c148_54 (zk149 hKb) rfl (by omega) ?_
          refine r_al hP c148_55 rfl ?_
          refine r_gR (x := 150) hP c148_56 (zj119 hKb) (zr119_34 hRb) ?_
          refine r_al hP c148_59 rfl ?_
          refine r_gI (x := nI ((List.range i).filter (zwq S nS nP A na)).length) hP c148_60 (zj119 hKb) ((zup_n _ _ _ _ (by omega)).trans hacc.2.2.1) ?_
          refine r_al hP c148_63 rfl ?_
          refine r_il hP c148_64 rfl ?_
          refine r_cVl (as := [.int (nI i)]) (r := [.int (nI ((List.range i).filter (zwq S nS nP A na)).length), .ref 150]) (I' := zup I1 149 (((List.range i).filter (zwq S nS nP A na)).length) (nI i)) (L' := L1) (R' := R) (x := zwt S i nP) (a := 119) hP c148_65 rfl (zj119 hKb) rfl (fun _ hq => x_mweight hP hKb hRb (zD_to hD (fun a h1 h2 k => (zup_na _ _ _ _ (by omega)).trans (hacc.1 a k (by omega) (by omega)))) hs1 hp1 hp8 hs6 hw6 hi256 hq) ?_
          refine r_last (j := ((List.range i).filter (zwq S nS nP A na)).length) hP c148_68 (zk150 hKb) rfl (by omega) ?_
          refine r_al hP c148_69 rfl ?_
          refine r_dup hP c148_70 rfl ?_
          refine r_gI (x := nI ((List.range i).filter (zwq S nS nP A na)).length) hP c148_71 (zj119 hKb) ((zup_n _ _ _ _ (by omega)).trans hacc.2.2.1) ?_
          refine r_ic hP c148_74 ?_
          refine r_iadd hP c148_75 ?_
          refine r_ti (y := nI (((List.range i).filter (zwq S nS nP A na)).length + 1)) (nI_1 _) ?_
          refine r_pI hP c148_76 (zj119 hKb) ?_
          refine r_inc (y := nI (i + 1)) (ls' := [.ref 119, .int (nI (i + 1))]) hP c148_79 rfl (nI_1 _) rfl ?_
          refine r_goto hP c148_82 ?_
          exact ih hlt _ _ (by
            rw [List.range_succ, List.filter_append]
            first
              | (have hp : zwq S nS nP A na i = true := by simp [zwq, zwp, hbc, Int64.not_le.mp h34, h42]
                 rw [List.filter_cons_of_pos hp, List.filter_nil]
                 exact ⟨fun a k q1 q2 => (zup_n _ _ _ _ q1).trans ((zup_na _ _ _ _ q2).trans (hacc.1 a k q1 q2)), fun a q k => (zup_na _ _ _ _ q).trans (hacc.2.1 a q k), zMs_add hacc.2.2 i⟩)
              | (have hp : ¬ zwq S nS nP A na i = true := by
                   simp only [zwq, zwp, Bool.and_eq_true, decide_eq_true_eq]
                   first | exact fun q => absurd q.1.1 (by omega) | exact fun q => absurd h34 (Int64.not_le.mpr q.1.2) | exact fun q => h42 q.2
                 rw [List.filter_cons_of_neg hp, List.filter_nil, List.append_nil]
                 exact hacc))
set_option maxRecDepth 4000 in
theorem x_layStates {K : ZKh} {P : Nat → Nat → List Value → List Value → ZMi → ZMl → ZMr → ZRt → Prop} {I : ZMi} {L : ZMl} {R : ZMr} {Q : ZRt} (hP : ZCl K P) {nS nP nW : Nat} {S : ZS} (hKb : zKb K) (hRb : zRb R) (hD : zD I 0 S nS nP nW) (hs1 : 1 ≤ nS) (hp1 : 1 ≤ nP) (hp8 : nP ≤ 8) (hs6 : nS ≤ 6) (hw6 : nW ≤ 6) {na : Nat} {A : ZA} (hA : zAm I na A) (hAo : zAo nS nP na A) (hn10 : na ≤ 10) (h : ∀ I2 L2, zfm_ I I2 → zfn_ L L2 → zMs_ I2 L2 S nP (zps S nS nP A na) → Q none I2 L2 R) : P 148 0 [.ref 119, .null] [] I L R Q := by
  refine r_al hP c148_0 rfl ?_
  refine r_ic hP c148_1 ?_
  refine r_pI hP c148_2 (zj119 hKb) ?_
  refine r_ic hP c148_5 ?_
  refine r_is (ls' := [.ref 119, .int 0]) hP c148_6 (Nat.le_of_ble_eq_true rfl) rfl ?_
  exact x_lay_l hP hKb hRb hD hs1 hp1 hp8 hs6 hw6 hA hAo hn10 h 0 (Nat.zero_le _) _ _ ⟨fun a k q1 _ => zup_n _ _ _ _ q1, fun _ _ _ => rfl, by rw [zup_s]; rfl, fun i hi => absurd hi (Nat.not_lt_zero i)⟩
set_option maxRecDepth 4000 in
theorem x_wall_l {K : ZKh} {P : Nat → Nat → List Value → List Value → ZMi → ZMl → ZMr → ZRt → Prop} {I : ZMi} {L : ZMl} {R : ZMr} {Q : ZRt} (hP : ZCl K P) {S : ZS} {nP : Nat} {cs : List Nat} (hKb : zKb K) (hRb : zRb R) (hms : zMs_ I L S nP cs) (hl : cs.length ≤ 37) (h : Q (some (.long (zsw_ S nP cs))) I L R) : ∀ i, i ≤ cs.length → ∀ (acc : Int64), acc = zsw_ S nP (cs.take i) → P 149 4 [.ref 119, .long acc, .null, .int (nI i)] [] I L R Q := by
  refine zloop cs.length (fun i => ∀ (acc : Int64), acc = zsw_ S nP (cs.take i) → P 149 4 [.ref 119, .long acc, .null, .int (nI i)] [] I L R Q) ?_
  intro i hle ih acc hacc
  refine r_il hP c149_4 rfl ?_
  refine r_al hP c149_5 rfl ?_
  refine r_gI (x := nI cs.length) hP c149_6 (zj119 hKb) hms.1 ?_
  refine r_ige hP c149_9 (fun h9 => ?_) (fun h9 => ?_)
  · have he : i = cs.length := Nat.le_antisymm hle ((nI_leI (by omega) (by omega)).mp h9)
    refine r_ll hP c149_27 rfl ?_
    exact r_lrE hP c149_28 h (by rw [hacc, he, List.take_length])
  · have hlt : i < cs.length := by
      rcases Nat.lt_or_ge i cs.length with q | q
      · exact q
      · exact absurd (nI_le q (by omega)) h9
    refine r_ll hP c149_12 rfl ?_
    refine r_al hP c149_13 rfl ?_
    refine r_gR (x := 150) hP c149_14 (zj119 hKb) (zr119_34 hRb) ?_
    refine r_il hP c149_17 rfl ?_
    refine r_lald (j := i) (x := zwt S (cs.getD i 0) nP) hP c149_18 (zk150 hKb) rfl (by omega) (hms.2 i hlt).2 ?_
    refine r_ladd hP c149_19 ?_
    refine r_ls (ls' := [.ref 119, .long (acc + (zwt S (cs.getD i 0) nP)), .null, .int (nI i)]) hP c149_20 (Nat.le_of_ble_eq_true rfl) rfl ?_
    refine r_inc (y := nI (i + 1)) (ls' := [.ref 119, .long (acc + (zwt S (cs.getD i 0) nP)), .null, .int (nI (i + 1))]) hP c149_21 rfl (nI_1 _) rfl ?_
    refine r_goto hP c149_24 ?_
    exact ih hlt _ (by rw [z_take hlt, zsw_app, hacc])
set_option maxRecDepth 4000 in
theorem x_wall {K : ZKh} {P : Nat → Nat → List Value → List Value → ZMi → ZMl → ZMr → ZRt → Prop} {I : ZMi} {L : ZMl} {R : ZMr} {Q : ZRt} (hP : ZCl K P) {S : ZS} {nP : Nat} {cs : List Nat} (hKb : zKb K) (hRb : zRb R) (hms : zMs_ I L S nP cs) (hl : cs.length ≤ 37) (h : Q (some (.long (zsw_ S nP cs))) I L R) : P 149 0 [.ref 119, .null, .null, .null] [] I L R Q := by
  refine r_lc hP c149_0 ?_
  refine r_ls (ls' := [.ref 119, .long 0, .null, .null]) hP c149_1 (Nat.le_of_ble_eq_true rfl) rfl ?_
  refine r_ic hP c149_2 ?_
  refine r_is (ls' := [.ref 119, .long 0, .null, .int 0]) hP c149_3 (Nat.le_of_ble_eq_true rfl) rfl ?_
  exact x_wall_l hP hKb hRb hms hl h 0 (Nat.zero_le _) _ rfl
