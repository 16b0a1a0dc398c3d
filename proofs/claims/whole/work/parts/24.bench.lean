/-! ===== ways back, age ===== -/
theorem zW39 {w : Nat} (hw : zisW w) : 39 ≤ w ∧ w ≤ 79 := by rcases hw with rfl | rfl <;> omega
set_option maxRecDepth 4000 in
theorem x_bring_l {K : ZKh} {P : Nat → Nat → List Value → List Value → ZMi → ZMl → ZMr → ZRt → Prop} {I : ZMi} {L : ZMl} {R : ZMr} {Q : ZRt} (hP : ZCl K P) {w nS nP nW : Nat} {S : ZS} (hK : zKa K) (hR : zRa R) (hw : zisW w) (hC : zC I w S nS nP nW) (hp8 : nP ≤ 8) (hs6 : nS ≤ 6) (hw6 : nW ≤ 6) {i a : Nat} (hi : i < nW) (haS : a < nS) (ha : S 12 i 0 = nI a) (h : Q (some (.int (if zb2 (nS - a) ≤ zb1 S i a (nS - a) then 1 else 0))) I L R) : ∀ s, s ≤ nS → ∀ (x1 x2 : Int64), x1 = zb1 S i a (s - a) ∧ x2 = zb2 (s - a) ∧ a ≤ s → P 67 17 [.ref w, .ref (w + 34 + i), .long x1, .null, .long x2, .null, .int (nI s)] [] I L R Q := by
  refine zloop nS (fun s => ∀ (x1 x2 : Int64), x1 = zb1 S i a (s - a) ∧ x2 = zb2 (s - a) ∧ a ≤ s → P 67 17 [.ref w, .ref (w + 34 + i), .long x1, .null, .long x2, .null, .int (nI s)] [] I L R Q) ?_
  intro s hle ih x1 x2 hacc
  refine r_il hP c67_17 rfl ?_
  refine r_al hP c67_19 rfl ?_
  refine r_gI (x := nI nS) hP c67_20 (zj_W hK hw) (zC_s hC) ?_
  refine r_ige hP c67_23 (fun h23 => ?_) (fun h23 => ?_)
  · have he : s = nS := Nat.le_antisymm hle ((nI_leI (by omega) (by omega)).mp h23)
    refine r_ll hP c67_54 rfl ?_
    refine r_ll hP c67_55 rfl ?_
    refine r_lcmp hP c67_57 ?_
    refine r_ifltL hP c67_58 (fun h58 => ?_) (fun h58 => ?_)
    · refine r_ic hP c67_65 ?_
      exact r_zr0 hP c67_66 (by subst he; rw [hacc.1, hacc.2.1] at h58; first | exact Int64.not_lt.mp h58 | exact fun q => absurd h58 (Int64.not_lt.mpr q)) h
    · refine r_ic hP c67_61 ?_
      refine r_goto hP c67_62 ?_
      exact r_zr1 hP c67_66 (by subst he; rw [hacc.1, hacc.2.1] at h58; first | exact Int64.not_lt.mp h58 | exact fun q => absurd h58 (Int64.not_lt.mpr q)) h
  · have hlt : s < nS := by
      rcases Nat.lt_or_ge s nS with q | q
      · exact q
      · exact absurd (nI_le q (by omega)) h23
    refine r_ll hP c67_26 rfl ?_
    refine r_al hP c67_27 rfl ?_
    refine r_gR (x := w + 1) hP c67_28 (zj_W hK hw) (zr_sts hR hw) ?_
    refine r_il hP c67_31 rfl ?_
    refine r_aald (j := s) (x := w + 6 + 2 * s) hP c67_33 (zk_sts hK hw) rfl (by omega) (zr_stg hR hw (by omega)) ?_
    refine r_gI (x := S 0 s 0) hP c67_34 (zj_stg hK hw (by omega)) (zC_g hC (by omega)) ?_
    refine r_i2l hP c67_37 ?_
    refine r_lmul hP c67_38 ?_
    refine r_ls (ls' := [.ref w, .ref (w + 34 + i), .long (x1 * ((S 0 s 0).toInt64)), .null, .long x2, .null, .int (nI s)]) hP c67_39 (Nat.le_of_ble_eq_true rfl) rfl ?_
    refine r_ll hP c67_40 rfl ?_
    refine r_lc hP c67_42 ?_
    refine r_lmul hP c67_45 ?_
    refine r_ls (ls' := [.ref w, .ref (w + 34 + i), .long (x1 * ((S 0 s 0).toInt64)), .null, .long (x2 * 10), .null, .int (nI s)]) hP c67_46 (Nat.le_of_ble_eq_true rfl) rfl ?_
    refine r_inc (y := nI (s + 1)) (ls' := [.ref w, .ref (w + 34 + i), .long (x1 * ((S 0 s 0).toInt64)), .null, .long (x2 * 10), .null, .int (nI (s + 1))]) hP c67_48 rfl (nI_1 _) rfl ?_
    refine r_goto hP c67_51 ?_
    exact ih hlt _ _ (by rw [hacc.1, hacc.2.1, show s + 1 - a = s - a + 1 from (by omega), zb1, zb2, show a + (s - a) = s from (by omega)]; exact ⟨rfl, rfl, by omega⟩)
set_option maxRecDepth 4000 in
theorem x_bring {K : ZKh} {P : Nat → Nat → List Value → List Value → ZMi → ZMl → ZMr → ZRt → Prop} {I : ZMi} {L : ZMl} {R : ZMr} {Q : ZRt} (hP : ZCl K P) {w nS nP nW : Nat} {S : ZS} (hK : zKa K) (hR : zRa R) (hw : zisW w) (hC : zC I w S nS nP nW) (hp8 : nP ≤ 8) (hs6 : nS ≤ 6) (hw6 : nW ≤ 6) {i a : Nat} (hi : i < nW) (haS : a < nS) (ha : S 12 i 0 = nI a) (h : Q (some (.int (if zb2 (nS - a) ≤ zb1 S i a (nS - a) then 1 else 0))) I L R) : P 67 0 [.ref w, .ref (w + 34 + i), .null, .null, .null, .null, .null] [] I L R Q := by
  refine r_al hP c67_0 rfl ?_
  refine r_gI (x := S 14 i 0) hP c67_1 (zj_way hK hw (by omega)) (zC_y hC (by omega) 2 (by decide)) ?_
  refine r_i2l hP c67_4 ?_
  refine r_ls (ls' := [.ref w, .ref (w + 34 + i), .long ((S 14 i 0).toInt64), .null, .null, .null, .null]) hP c67_5 (Nat.le_of_ble_eq_true rfl) rfl ?_
  refine r_lc hP c67_6 ?_
  refine r_ls (ls' := [.ref w, .ref (w + 34 + i), .long ((S 14 i 0).toInt64), .null, .long 100, .null, .null]) hP c67_9 (Nat.le_of_ble_eq_true rfl) rfl ?_
  refine r_al hP c67_11 rfl ?_
  refine r_gI (x := nI a) hP c67_12 (zj_way hK hw (by omega)) ((zC_y hC (by omega) 0 (by decide)).trans ha) ?_
  refine r_is (ls' := [.ref w, .ref (w + 34 + i), .long ((S 14 i 0).toInt64), .null, .long 100, .null, .int (nI a)]) hP c67_15 (Nat.le_of_ble_eq_true rfl) rfl ?_
  exact x_bring_l hP hK hR hw hC hp8 hs6 hw6 hi haS ha h a (by omega) _ _ (by rw [Nat.sub_self]; exact ⟨rfl, rfl, by omega⟩)
set_option maxRecDepth 4000 in
theorem x_howl_l {K : ZKh} {P : Nat → Nat → List Value → List Value → ZMi → ZMl → ZMr → ZRt → Prop} {I : ZMi} {L : ZMl} {R : ZMr} {Q : ZRt} (hP : ZCl K P) {w nS nP nW : Nat} {S : ZS} (hK : zKa K) (hR : zRa R) (hw : zisW w) (hC : zC I w S nS nP nW) (hp8 : nP ≤ 8) (hs6 : nS ≤ 6) (hw6 : nW ≤ 6) (hwy : ∀ i, i < nW → ∃ a, a < nS ∧ S 12 i 0 = nI a) (h : Q (some (.int (zhw S nS nW))) I L R) : ∀ i, i ≤ nW → ∀ (acc : Int32), acc = zhw S nS i → P 66 4 [.ref w, .int acc, .int (nI i)] [] I L R Q := by
  refine zloop nW (fun i => ∀ (acc : Int32), acc = zhw S nS i → P 66 4 [.ref w, .int acc, .int (nI i)] [] I L R Q) ?_
  intro i hle ih acc hacc
  refine r_il hP c66_4 rfl ?_
  refine r_al hP c66_5 rfl ?_
  refine r_gI (x := nI nW) hP c66_6 (zj_W hK hw) (zC_w hC) ?_
  refine r_ige hP c66_9 (fun h9 => ?_) (fun h9 => ?_)
  · have he : i = nW := Nat.le_antisymm hle ((nI_leI (by omega) (by omega)).mp h9)
    refine r_il hP c66_45 rfl ?_
    exact r_irE hP c66_46 h (by rw [hacc, he])
  · have hlt : i < nW := by
      rcases Nat.lt_or_ge i nW with q | q
      · exact q
      · exact absurd (nI_le q (by omega)) h9
    obtain ⟨a, haS, ha⟩ := hwy i hlt
    have hcl : (S 12 i 0).toNatClampNeg = a := by rw [ha]; exact nI_clamp (by omega)
    refine r_al hP c66_12 rfl ?_
    refine r_al hP c66_13 rfl ?_
    refine r_gR (x := w + 3) hP c66_14 (zj_W hK hw) (zr_wys hR hw) ?_
    refine r_il hP c66_17 rfl ?_
    refine r_aald (j := i) (x := w + 34 + i) hP c66_18 (zk_wys hK hw) rfl (by omega) (zr_way hR hw (by omega)) ?_
    refine r_cVi (as := [.ref (w + 34 + i)]) (r := []) (I' := I) (L' := L) (R' := R) (x := if zb2 (nS - a) ≤ zb1 S i a (nS - a) then 1 else 0) (a := w) hP c66_19 rfl (zj_W hK hw) rfl (fun _ hq => x_bring hP hK hR hw hC hp8 hs6 hw6 hlt haS ha hq) ?_
    refine r_ifeqB hP c66_22 (fun h22 => ?_) (fun h22 => ?_)
    · refine r_inc (y := nI (i + 1)) (ls' := [.ref w, .int acc, .int (nI (i + 1))]) hP c66_39 rfl (nI_1 _) rfl ?_
      refine r_goto hP c66_42 ?_
      exact ih hlt _ (by simp only [zhw, hcl, hacc]; first | rw [if_pos h22] | rw [if_neg h22])
    · refine r_il hP c66_25 rfl ?_
      refine r_ic hP c66_26 ?_
      refine r_al hP c66_27 rfl ?_
      refine r_gR (x := w + 3) hP c66_28 (zj_W hK hw) (zr_wys hR hw) ?_
      refine r_il hP c66_31 rfl ?_
      refine r_aald (j := i) (x := w + 34 + i) hP c66_32 (zk_wys hK hw) rfl (by omega) (zr_way hR hw (by omega)) ?_
      refine r_gI (x := S 13 i 0) hP c66_33 (zj_way hK hw (by omega)) (zC_y hC (by omega) 1 (by decide)) ?_
      refine r_ishl hP c66_36 ?_
      refine r_ior hP c66_37 ?_
      refine r_is (ls' := [.ref w, .int (acc ||| (1 <<< ((S 13 i 0) &&& 31))), .int (nI i)]) hP c66_38 (Nat.le_of_ble_eq_true rfl) rfl ?_
      refine r_inc (y := nI (i + 1)) (ls' := [.ref w, .int (acc ||| (1 <<< ((S 13 i 0) &&& 31))), .int (nI (i + 1))]) hP c66_39 rfl (nI_1 _) rfl ?_
      refine r_goto hP c66_42 ?_
      exact ih hlt _ (by simp only [zhw, hcl, hacc]; first | rw [if_pos h22] | rw [if_neg h22])
set_option maxRecDepth 4000 in
theorem x_howl {K : ZKh} {P : Nat → Nat → List Value → List Value → ZMi → ZMl → ZMr → ZRt → Prop} {I : ZMi} {L : ZMl} {R : ZMr} {Q : ZRt} (hP : ZCl K P) {w nS nP nW : Nat} {S : ZS} (hK : zKa K) (hR : zRa R) (hw : zisW w) (hC : zC I w S nS nP nW) (hp8 : nP ≤ 8) (hs6 : nS ≤ 6) (hw6 : nW ≤ 6) (hwy : ∀ i, i < nW → ∃ a, a < nS ∧ S 12 i 0 = nI a) (h : Q (some (.int (zhw S nS nW))) I L R) : P 66 0 [.ref w, .null, .null] [] I L R Q := by
  refine r_ic hP c66_0 ?_
  refine r_is (ls' := [.ref w, .int 0, .null]) hP c66_1 (Nat.le_of_ble_eq_true rfl) rfl ?_
  refine r_ic hP c66_2 ?_
  refine r_is (ls' := [.ref w, .int 0, .int 0]) hP c66_3 (Nat.le_of_ble_eq_true rfl) rfl ?_
  exact x_howl_l hP hK hR hw hC hp8 hs6 hw6 hwy h 0 (Nat.zero_le _) 0 rfl
set_option maxRecDepth 4000 in
theorem x_gone_l {K : ZKh} {P : Nat → Nat → List Value → List Value → ZMi → ZMl → ZMr → ZRt → Prop} {I : ZMi} {L : ZMl} {R : ZMr} {Q : ZRt} (hP : ZCl K P) {w nS nP nW : Nat} {S : ZS} (hK : zKa K) (hR : zRa R) (hw : zisW w) (hC : zC I w S nS nP nW) (hp8 : nP ≤ 8) (hs6 : nS ≤ 6) (hw6 : nW ≤ 6) {j n kk : Nat} (hj : j < nP) (hkk : kk < 5) (hkd : S 4 j 0 = nI kk) (hn : n ≤ 50) (h : Q (some (.int (1000000 - zgone (S 16 kk 0) (S 5 j 0) n))) I L R) : ∀ i, i ≤ n → ∀ (left age : Int32), left = zgone (S 16 kk 0) (S 5 j 0) i ∧ age = S 5 j 0 + nI i → P 68 60 [.ref w, .int (nI j), .int (nI n), .int left, .int age, .int (S 16 kk 0), .int (nI i)] [] I L R Q := by
  refine zloop n (fun i => ∀ (left age : Int32), left = zgone (S 16 kk 0) (S 5 j 0) i ∧ age = S 5 j 0 + nI i → P 68 60 [.ref w, .int (nI j), .int (nI n), .int left, .int age, .int (S 16 kk 0), .int (nI i)] [] I L R Q) ?_
  intro i hle ih left age hacc
  refine r_il hP c68_60 rfl ?_
  refine r_il hP c68_62 rfl ?_
  refine r_ige hP c68_63 (fun h63 => ?_) (fun h63 => ?_)
  · have he : i = n := Nat.le_antisymm hle ((nI_leI (by omega) (by omega)).mp h63)
    refine r_ic hP c68_98 ?_
    refine r_il hP c68_100 rfl ?_
    refine r_isub hP c68_101 ?_
    exact r_irE hP c68_102 h (by rw [hacc.1, he])
  · have hlt : i < n := by
      rcases Nat.lt_or_ge i n with q | q
      · exact q
      · exact absurd (nI_le q (by omega)) h63
    refine r_il hP c68_66 rfl ?_
    refine r_il hP c68_67 rfl ?_
    refine r_ic hP c68_68 ?_
    refine r_il hP c68_71 rfl ?_
    refine r_il hP c68_73 rfl ?_
    refine r_imul hP c68_75 ?_
    refine r_ic hP c68_76 ?_
    refine r_idiv hP c68_78 (by decide) ?_
    refine r_mmin hP c68_79 rfl ?_
    refine r_ti (y := zgr (S 16 kk 0) age) rfl ?_
    refine r_imul hP c68_82 ?_
    refine r_ic hP c68_83 ?_
    refine r_idiv hP c68_86 (by decide) ?_
    refine r_isub hP c68_87 ?_
    refine r_is (ls' := [.ref w, .int (nI j), .int (nI n), .int (left - ((left * (zgr (S 16 kk 0) age)) / 1000)), .int age, .int (S 16 kk 0), .int (nI i)]) hP c68_88 (Nat.le_of_ble_eq_true rfl) rfl ?_
    refine r_inc (y := age + 1) (ls' := [.ref w, .int (nI j), .int (nI n), .int (left - ((left * (zgr (S 16 kk 0) age)) / 1000)), .int (age + 1), .int (S 16 kk 0), .int (nI i)]) hP c68_89 rfl rfl rfl ?_
    refine r_inc (y := nI (i + 1)) (ls' := [.ref w, .int (nI j), .int (nI n), .int (left - ((left * (zgr (S 16 kk 0) age)) / 1000)), .int (age + 1), .int (S 16 kk 0), .int (nI (i + 1))]) hP c68_92 rfl (nI_1 _) rfl ?_
    refine r_goto hP c68_95 ?_
    exact ih hlt _ _ (by rw [hacc.1, hacc.2]; exact ⟨rfl, by rw [Int32.add_assoc, nI_1]⟩)
set_option maxRecDepth 4000 in
theorem x_gone {K : ZKh} {P : Nat → Nat → List Value → List Value → ZMi → ZMl → ZMr → ZRt → Prop} {I : ZMi} {L : ZMl} {R : ZMr} {Q : ZRt} (hP : ZCl K P) {w nS nP nW : Nat} {S : ZS} (hK : zKa K) (hR : zRa R) (hw : zisW w) (hC : zC I w S nS nP nW) (hp8 : nP ≤ 8) (hs6 : nS ≤ 6) (hw6 : nW ≤ 6) {j n kk : Nat} (hj : j < nP) (hkk : kk < 5) (hkd : S 4 j 0 = nI kk) (hn : n ≤ 50) (h : Q (some (.int (1000000 - zgone (S 16 kk 0) (S 5 j 0) n))) I L R) : P 68 0 [.ref w, .int (nI j), .int (nI n), .null, .null, .null, .null] [] I L R Q := by
  refine r_al hP c68_0 rfl ?_
  refine r_il hP c68_1 rfl ?_
  refine r_cVi (as := [.int (nI j)]) (r := []) (I' := I) (L' := L) (R' := R) (x := if zr (nI j) nP then 1 else 0) (a := w) hP c68_2 rfl (zj_W hK hw) rfl (fun _ h2 => x_hasPart hP (zj_W hK hw) (zC_p hC) (by omega) h2) ?_
  refine r_ifeqB hP c68_5 (fun h5 => absurd h5 (not_not_intro (zr_nI hj (by omega)))) (fun h5 => ?_)
  refine r_al hP c68_8 rfl ?_
  refine r_gR (x := w + 2) hP c68_9 (zj_W hK hw) (zr_pts hR hw) ?_
  refine r_il hP c68_12 rfl ?_
  refine r_aald (j := j) (x := w + 18 + 2 * j) hP c68_13 (zk_pts hK hw) rfl (by omega) (zr_prt hR hw (by omega)) ?_
  refine r_gI (x := S 4 j 0) hP c68_14 (zj_prt hK hw (by omega)) (zC_f hC (by omega) 2 (by decide) (by decide)) ?_
  refine r_ic hP c68_17 ?_
  refine r_ic hP c68_18 ?_
  refine r_cSi (as := [.int (S 4 j 0), .int 0, .int 4]) (r := []) (I' := I) (L' := L) (R' := R) (x := if 0 ≤ S 4 j 0 ∧ S 4 j 0 ≤ 4 then 1 else 0) hP c68_19 rfl rfl (fun _ h2 => x_within hP h2) ?_
  refine r_ifneB hP c68_22 (fun h22 => ?_) (fun h22 => absurd h22 (not_not_intro (by rw [hkd]; exact ⟨nI_pos' (by omega), nI_le (b := 4) (by omega) (by decide)⟩)))
  refine r_ic hP c68_27 ?_
  refine r_is (ls' := [.ref w, .int (nI j), .int (nI n), .int 1000000, .null, .null, .null]) hP c68_29 (Nat.le_of_ble_eq_true rfl) rfl ?_
  refine r_al hP c68_30 rfl ?_
  refine r_gR (x := w + 2) hP c68_31 (zj_W hK hw) (zr_pts hR hw) ?_
  refine r_il hP c68_34 rfl ?_
  refine r_aald (j := j) (x := w + 18 + 2 * j) hP c68_35 (zk_pts hK hw) rfl (by omega) (zr_prt hR hw (by omega)) ?_
  refine r_gI (x := S 5 j 0) hP c68_36 (zj_prt hK hw (by omega)) (zC_f hC (by omega) 3 (by decide) (by decide)) ?_
  refine r_is (ls' := [.ref w, .int (nI j), .int (nI n), .int 1000000, .int (S 5 j 0), .null, .null]) hP c68_39 (Nat.le_of_ble_eq_true rfl) rfl ?_
  refine r_al hP c68_41 rfl ?_
  refine r_gR (x := w + 5) hP c68_42 (zj_W hK hw) (zr_yrl hR hw) ?_
  refine r_al hP c68_45 rfl ?_
  refine r_gR (x := w + 2) hP c68_46 (zj_W hK hw) (zr_pts hR hw) ?_
  refine r_il hP c68_49 rfl ?_
  refine r_aald (j := j) (x := w + 18 + 2 * j) hP c68_50 (zk_pts hK hw) rfl (by omega) (zr_prt hR hw (by omega)) ?_
  refine r_gI (x := S 4 j 0) hP c68_51 (zj_prt hK hw (by omega)) (zC_f hC (by omega) 2 (by decide) (by decide)) ?_
  refine r_iald (j := kk) (x := S 16 kk 0) hP c68_54 (zk_yrl hK hw) hkd hkk (zC_k hC (by omega)) ?_
  refine r_is (ls' := [.ref w, .int (nI j), .int (nI n), .int 1000000, .int (S 5 j 0), .int (S 16 kk 0), .null]) hP c68_55 (Nat.le_of_ble_eq_true rfl) rfl ?_
  refine r_ic hP c68_57 ?_
  refine r_is (ls' := [.ref w, .int (nI j), .int (nI n), .int 1000000, .int (S 5 j 0), .int (S 16 kk 0), .int 0]) hP c68_58 (Nat.le_of_ble_eq_true rfl) rfl ?_
  exact x_gone_l hP hK hR hw hC hp8 hs6 hw6 hj hkk hkd hn h 0 (Nat.zero_le _) _ _ ⟨rfl, (Int32.add_zero _).symm⟩
/-! ===== the bench ===== -/
/-- all but the bench's rows stands -/
def zfr (I I' : ZMi) : Prop := ∀ a, ¬ (9 ≤ a ∧ a < 16) → ∀ k, I' a k = I a k
theorem zfr_r (I : ZMi) : zfr I I := fun _ _ _ => rfl
theorem zfr_up {I I' : ZMi} (h : zfr I I') {a k : Nat} {x : Int32} (ha : 9 ≤ a ∧ a < 16) : zfr I (zup I' a k x) := fun b hb j => by
  rw [zup_na _ _ _ _ (fun q => hb (by rw [q]; exact ha))]
  exact h b hb j
theorem zfr_t {I I' I2 : ZMi} (h : zfr I I') (h2 : zfr I' I2) : zfr I I2 := fun b hb j => (h2 b hb j).trans (h b hb j)
theorem zC_to {I I' : ZMi} {w : Nat} {S : ZS} {nS nP nW : Nat} (h : zC I w S nS nP nW) (he : ∀ a, w ≤ a → a < w + 40 → ∀ k, I' a k = I a k) (hs6 : nS ≤ 6) (hp8 : nP ≤ 8) (hw6 : nW ≤ 6) : zC I' w S nS nP nW := by
  obtain ⟨h1, h2, h3, h4, h5, h6, h7, h8⟩ := h
  refine ⟨by rw [he _ (by omega) (by omega)]; exact h1, by rw [he _ (by omega) (by omega)]; exact h2, by rw [he _ (by omega) (by omega)]; exact h3, fun s hs => ⟨?_, ?_, fun t ht => ?_⟩, fun p hp => ⟨fun j a b => ?_, fun t ht => ?_⟩, fun i hi j hj => ?_, fun t ht => ?_, fun k hk => ?_⟩
  · rw [he _ (by omega) (by omega)]; exact (h4 s hs).1
  · rw [he _ (by omega) (by omega)]; exact (h4 s hs).2.1
  · rw [he _ (by omega) (by omega)]; exact (h4 s hs).2.2 t ht
  · rw [he _ (by omega) (by omega)]; exact (h5 p hp).1 j a b
  · rw [he _ (by omega) (by omega)]; exact (h5 p hp).2 t ht
  · rw [he _ (by omega) (by omega)]; exact h6 i hi j hj
  · rw [he _ (by omega) (by omega)]; exact h7 t ht
  · rw [he _ (by omega) (by omega)]; exact h8 k hk
theorem zC_fr {I I' : ZMi} {w : Nat} {S : ZS} {nS nP nW : Nat} (h : zC I w S nS nP nW) (hf : zfr I I') (hw : zisW w) (hs6 : nS ≤ 6) (hp8 : nP ≤ 8) (hw6 : nW ≤ 6) : zC I' w S nS nP nW := zC_to h (fun a h1 h2 k => hf a (by have := zW39 hw; omega) k) hs6 hp8 hw6
def zlt (S : ZS) (st : Nat) (m : Int32) (s t : Nat) : Nat → Int32
  | 0 => S 2 s t
  | p + 1 => zlt S st m s t p + (if S 3 p 0 = nI s ∧ st.testBit p = true ∧ S 7 p 0 ≤ m then S 11 p t else 0)
def zbs (S : ZS) (nP st : Nat) (m : Int32) (f s t : Nat) : Int32 := zlt S st m s t nP + (if s = f ∧ t = 0 then 100 else 0)
def zhd (S : ZS) (nP st : Nat) (m : Int32) (o f t : Nat) : Nat → Int32
  | 0 => 0
  | s + 1 => if s = o then 0 else (zbs S nP st m f s t + zhd S nP st m o f t s) * S 0 s 0 / 10
def zin (S : ZS) (nP st : Nat) (m : Int32) (o f s t : Nat) : Int32 := zbs S nP st m f s t + zhd S nP st m o f t s
def zabs (x : Int32) : Int32 := if 0 ≤ x then x else 0 - x
def zsum (e : Nat → Int32) : Nat → Int32
  | 0 => 0
  | t + 1 => zsum e t + zabs (e t)
def zth (S : ZS) (e : Nat → Int32) : Nat → Int32
  | 0 => 0
  | t + 1 => if S 15 t 0 ≤ zabs (e t) then zth S e t ||| (1 <<< (nI t &&& 31)) else zth S e t
/-- rows s' < s, and of row s the tones below t -/
def zA1 (I I' : ZMi) (S : ZS) (s t : Nat) : Prop := zfr I I' ∧ ∀ s' t', (s' < s ∧ t' < 3) ∨ (s' = s ∧ t' < t) → I' (9 + s') t' = S 2 s' t'
theorem zA1_up {I I' : ZMi} {S : ZS} {s t : Nat} (h : zA1 I I' S s t) (hs : s < 6) : zA1 I (zup I' (9 + s) t (S 2 s t)) S s (t + 1) := by
  refine ⟨zfr_up h.1 (by omega), fun s' t' q => ?_⟩
  by_cases e : s' = s ∧ t' = t
  · rw [e.1, e.2, zup_s]
  · rw [zup_n _ _ _ _ (by omega)]
    exact h.2 s' t' (by omega)
theorem zA1_next {I I' : ZMi} {S : ZS} {s : Nat} (h : zA1 I I' S s 3) : zA1 I I' S (s + 1) 0 := ⟨h.1, fun s' t' q => h.2 s' t' (by omega)⟩
def zA2 (I I' : ZMi) (S : ZS) (st : Nat) (m : Int32) (nS p : Nat) : Prop := zfr I I' ∧ ∀ s t, s < nS → t < 3 → I' (9 + s) t = zlt S st m s t p
def zA3 (I I' : ZMi) (S : ZS) (st : Nat) (m : Int32) (nS p a t : Nat) : Prop := zfr I I' ∧ ∀ s t', s < nS → t' < 3 → I' (9 + s) t' = if s = a ∧ t' < t then zlt S st m s t' p + S 11 p t' else zlt S st m s t' p
theorem zA3_up {I I' : ZMi} {S : ZS} {st : Nat} {m : Int32} {nS p a t : Nat} {x : Int32} (h : zA3 I I' S st m nS p a t) (ha : a < nS) (hs : nS ≤ 6) (hx : x = zlt S st m a t p + S 11 p t) : zA3 I (zup I' (9 + a) t x) S st m nS p a (t + 1) := by
  refine ⟨zfr_up h.1 (by omega), fun s' t' h1 h2 => ?_⟩
  by_cases e : s' = a ∧ t' = t
  · rw [e.1, e.2, zup_s, if_pos ⟨rfl, by omega⟩, hx]
  · rw [zup_n _ _ _ _ (by omega), h.2 s' t' h1 h2]
    by_cases q : s' = a ∧ t' < t
    · rw [if_pos q, if_pos ⟨q.1, by omega⟩]
    · rw [if_neg q, if_neg (by omega)]
theorem zA3_end {I I' : ZMi} {S : ZS} {st : Nat} {m : Int32} {nS p a : Nat} (h : zA3 I I' S st m nS p a 3) (ha : S 3 p 0 = nI a) (ha6 : a < 6) (hs : nS ≤ 6) (hb : st.testBit p = true) (hm : S 7 p 0 ≤ m) : zA2 I I' S st m nS (p + 1) := by
  refine ⟨h.1, fun s t h1 h2 => ?_⟩
  rw [h.2 s t h1 h2, zlt, ha]
  by_cases e : s = a
  · subst e
    rw [if_pos ⟨rfl, h2⟩, if_pos ⟨rfl, hb, hm⟩]
  · rw [if_neg (fun q => e q.1), if_neg (fun q => e ((nI_eq (by omega) (by omega)).mp q.1).symm), Int32.add_zero]
theorem zA2_skip {I I' : ZMi} {S : ZS} {st : Nat} {m : Int32} {nS p : Nat} (h : zA2 I I' S st m nS p) (hn : ¬ (st.testBit p = true ∧ S 7 p 0 ≤ m)) : zA2 I I' S st m nS (p + 1) := by
  refine ⟨h.1, fun s t h1 h2 => ?_⟩
  rw [h.2 s t h1 h2, zlt, if_neg (fun q => hn ⟨q.2.1, q.2.2⟩), Int32.add_zero]
set_option maxRecDepth 4000 in
theorem x_comeB {K : ZKh} {P : Nat → Nat → List Value → List Value → ZMi → ZMl → ZMr → ZRt → Prop} {I : ZMi} {L : ZMl} {R : ZMr} {Q : ZRt} (hP : ZCl K P) {w nS nP nW : Nat} {S : ZS} (hK : zKa K) (hR : zRa R) (hw : zisW w) (hC : zC I w S nS nP nW) (hp8 : nP ≤ 8) (hs6 : nS ≤ 6) (hw6 : nW ≤ 6) (hs1 : 1 ≤ nS) (hsg : ∀ p, p < nP → ∃ a, a < nS ∧ S 3 p 0 = nI a) {st : Nat} {m : Int32} (hst : st < 256) {s : Nat} (hs : s < nS) {v6 : Value} (hx : ∀ I2, zA1 I I2 S s 3 → P 5 50 [.ref 7, .ref w, .int (nI st), .int m, .int (nI s), .int (nI 3), v6] [] I2 L R Q) : ∀ t, t ≤ 3 → ∀ (I1 : ZMi), zA1 I I1 S s t → P 5 15 [.ref 7, .ref w, .int (nI st), .int m, .int (nI s), .int (nI t), v6] [] I1 L R Q := by
  refine zloop 3 (fun t => ∀ (I1 : ZMi), zA1 I I1 S s t → P 5 15 [.ref 7, .ref w, .int (nI st), .int m, .int (nI s), .int (nI t), v6] [] I1 L R Q) ?_
  intro t hle ih I1 hacc
  refine r_il hP c5_15 rfl ?_
  refine r_ic hP c5_17 ?_
  refine r_ige hP c5_18 (fun h18 => ?_) (fun h18 => ?_)
  · have he : t = 3 := Nat.le_antisymm hle ((nI_leI (by omega) (by omega)).mp h18)
    subst he
    exact hx _ hacc
  · have hlt : t < 3 := by
      rcases Nat.lt_or_ge t 3 with q | q
      · exact q
      · exact absurd (nI_le q (by omega)) h18
    refine r_al hP c5_21 rfl ?_
    refine r_gR (x := 8) hP c5_22 (zj7 hK) (zr7_0 hR) ?_
    refine r_il hP c5_25 rfl ?_
    refine r_aald (j := s) (x := 9 + s) hP c5_27 (zk8 hK) rfl (by omega) (zr_in hR (by omega)) ?_
    refine r_il hP c5_28 rfl ?_
    refine r_al hP c5_30 rfl ?_
    refine r_gR (x := w + 1) hP c5_31 (zj_W hK hw) (zr_sts hR hw) ?_
    refine r_il hP c5_34 rfl ?_
    refine r_aald (j := s) (x := w + 6 + 2 * s) hP c5_36 (zk_sts hK hw) rfl (by omega) (zr_stg hR hw (by omega)) ?_
    refine r_gR (x := w + 7 + 2 * s) hP c5_37 (zj_stg hK hw (by omega)) (zr_mns hR hw (by omega)) ?_
    refine r_il hP c5_40 rfl ?_
    refine r_iald (j := t) (x := S 2 s t) hP c5_42 (zk_mns hK hw (by omega)) rfl (by omega) (zC_m (zC_fr hC hacc.1 hw hs6 hp8 hw6) (by omega) (by omega)) ?_
    refine r_iast (j := t) hP c5_43 (zk_in hK (by omega)) rfl (by omega) ?_
    refine r_inc (y := nI (t + 1)) (ls' := [.ref 7, .ref w, .int (nI st), .int m, .int (nI s), .int (nI (t + 1)), v6]) hP c5_44 rfl (nI_1 _) rfl ?_
    refine r_goto hP c5_47 ?_
    exact ih hlt _ (zA1_up hacc (by omega))
set_option maxRecDepth 4000 in
theorem x_comeA {K : ZKh} {P : Nat → Nat → List Value → List Value → ZMi → ZMl → ZMr → ZRt → Prop} {I : ZMi} {L : ZMl} {R : ZMr} {Q : ZRt} (hP : ZCl K P) {w nS nP nW : Nat} {S : ZS} (hK : zKa K) (hR : zRa R) (hw : zisW w) (hC : zC I w S nS nP nW) (hp8 : nP ≤ 8) (hs6 : nS ≤ 6) (hw6 : nW ≤ 6) (hs1 : 1 ≤ nS) (hsg : ∀ p, p < nP → ∃ a, a < nS ∧ S 3 p 0 = nI a) {st : Nat} {m : Int32} (hst : st < 256) {v6 : Value} (hx : ∀ I2 v5, zA1 I I2 S nS 0 → P 5 56 [.ref 7, .ref w, .int (nI st), .int m, .int (nI nS), v5, v6] [] I2 L R Q) : ∀ s, s ≤ nS → ∀ (I1 : ZMi) (v5 : Value), zA1 I I1 S s 0 → P 5 3 [.ref 7, .ref w, .int (nI st), .int m, .int (nI s), v5, v6] [] I1 L R Q := by
  refine zloop nS (fun s => ∀ (I1 : ZMi) (v5 : Value), zA1 I I1 S s 0 → P 5 3 [.ref 7, .ref w, .int (nI st), .int m, .int (nI s), v5, v6] [] I1 L R Q) ?_
  intro s hle ih I1 v5 hacc
  refine r_il hP c5_3 rfl ?_
  refine r_al hP c5_5 rfl ?_
  refine r_gI (x := nI nS) hP c5_6 (zj_W hK hw) (zC_s (zC_fr hC hacc.1 hw hs6 hp8 hw6)) ?_
  refine r_ige hP c5_9 (fun h9 => ?_) (fun h9 => ?_)
  · have he : s = nS := Nat.le_antisymm hle ((nI_leI (by omega) (by omega)).mp h9)
    subst he
    exact hx _ _ hacc
  · have hlt : s < nS := by
      rcases Nat.lt_or_ge s nS with q | q
      · exact q
      · exact absurd (nI_le q (by omega)) h9
    refine r_ic hP c5_12 ?_
    refine r_is (ls' := [.ref 7, .ref w, .int (nI st), .int m, .int (nI s), .int 0, v6]) hP c5_13 (Nat.le_of_ble_eq_true rfl) rfl ?_
    refine x_comeB hP hK hR hw hC hp8 hs6 hw6 hs1 hsg hst hlt (fun I2 h2 => ?_) 0 (by decide) _ hacc
    refine r_inc (y := nI (s + 1)) (ls' := [.ref 7, .ref w, .int (nI st), .int m, .int (nI (s + 1)), .int (nI 3), v6]) hP c5_50 rfl (nI_1 _) rfl ?_
    refine r_goto hP c5_53 ?_
    exact ih hlt _ _ (zA1_next h2)
set_option maxRecDepth 4000 in
theorem x_comeD {K : ZKh} {P : Nat → Nat → List Value → List Value → ZMi → ZMl → ZMr → ZRt → Prop} {I : ZMi} {L : ZMl} {R : ZMr} {Q : ZRt} (hP : ZCl K P) {w nS nP nW : Nat} {S : ZS} (hK : zKa K) (hR : zRa R) (hw : zisW w) (hC : zC I w S nS nP nW) (hp8 : nP ≤ 8) (hs6 : nS ≤ 6) (hw6 : nW ≤ 6) (hs1 : 1 ≤ nS) (hsg : ∀ p, p < nP → ∃ a, a < nS ∧ S 3 p 0 = nI a) {st : Nat} {m : Int32} (hst : st < 256) {p a : Nat} (hp : p < nP) (haS : a < nS) (ha : S 3 p 0 = nI a) (hx : ∀ I2 v6, zA3 I I2 S st m nS p a 3 → P 5 146 [.ref 7, .ref w, .int (nI st), .int m, .int (nI p), .ref (w + 18 + 2 * p), v6] [] I2 L R Q) : ∀ t, t ≤ 3 → ∀ (I1 : ZMi), zA3 I I1 S st m nS p a t → P 5 110 [.ref 7, .ref w, .int (nI st), .int m, .int (nI p), .ref (w + 18 + 2 * p), .int (nI t)] [] I1 L R Q := by
  refine zloop 3 (fun t => ∀ (I1 : ZMi), zA3 I I1 S st m nS p a t → P 5 110 [.ref 7, .ref w, .int (nI st), .int m, .int (nI p), .ref (w + 18 + 2 * p), .int (nI t)] [] I1 L R Q) ?_
  intro t hle ih I1 hacc
  refine r_il hP c5_110 rfl ?_
  refine r_ic hP c5_112 ?_
  refine r_ige hP c5_113 (fun h113 => ?_) (fun h113 => ?_)
  · have he : t = 3 := Nat.le_antisymm hle ((nI_leI (by omega) (by omega)).mp h113)
    subst he
    exact hx _ _ hacc
  · have hlt : t < 3 := by
      rcases Nat.lt_or_ge t 3 with q | q
      · exact q
      · exact absurd (nI_le q (by omega)) h113
    refine r_al hP c5_116 rfl ?_
    refine r_gR (x := 8) hP c5_117 (zj7 hK) (zr7_0 hR) ?_
    refine r_al hP c5_120 rfl ?_
    refine r_gI (x := nI a) hP c5_122 (zj_prt hK hw (by omega)) ((zC_f (zC_fr hC hacc.1 hw hs6 hp8 hw6) (by omega) 1 (by decide) (by decide)).trans ha) ?_
    refine r_aald (j := a) (x := 9 + a) hP c5_125 (zk8 hK) rfl (by omega) (zr_in hR (by omega)) ?_
    refine r_il hP c5_126 rfl ?_
    refine r_dup2 hP c5_128 rfl rfl ?_
    refine r_iald (j := t) (x := zlt S st m a t p) hP c5_129 (zk_in hK (by omega)) rfl (by omega) ((hacc.2 a t haS (by omega)).trans (if_neg (by omega))) ?_
    refine r_al hP c5_130 rfl ?_
    refine r_gR (x := w + 19 + 2 * p) hP c5_132 (zj_prt hK hw (by omega)) (zr_lts hR hw (by omega)) ?_
    refine r_il hP c5_135 rfl ?_
    refine r_iald (j := t) (x := S 11 p t) hP c5_137 (zk_lts hK hw (by omega)) rfl (by omega) (zC_l (zC_fr hC hacc.1 hw hs6 hp8 hw6) (by omega) (by omega)) ?_
    refine r_iadd hP c5_138 ?_
    refine r_iast (j := t) hP c5_139 (zk_in hK (by omega)) rfl (by omega) ?_
    refine r_inc (y := nI (t + 1)) (ls' := [.ref 7, .ref w, .int (nI st), .int m, .int (nI p), .ref (w + 18 + 2 * p), .int (nI (t + 1))]) hP c5_140 rfl (nI_1 _) rfl ?_
    refine r_goto hP c5_143 ?_
    exact ih hlt _ (zA3_up hacc haS hs6 rfl)
set_option maxRecDepth 4000 in
theorem x_comeC {K : ZKh} {P : Nat → Nat → List Value → List Value → ZMi → ZMl → ZMr → ZRt → Prop} {I : ZMi} {L : ZMl} {R : ZMr} {Q : ZRt} (hP : ZCl K P) {w nS nP nW : Nat} {S : ZS} (hK : zKa K) (hR : zRa R) (hw : zisW w) (hC : zC I w S nS nP nW) (hp8 : nP ≤ 8) (hs6 : nS ≤ 6) (hw6 : nW ≤ 6) (hs1 : 1 ≤ nS) (hsg : ∀ p, p < nP → ∃ a, a < nS ∧ S 3 p 0 = nI a) {st : Nat} {m : Int32} (hst : st < 256) (h : ∀ I2, zA2 I I2 S st m nS nP → Q none I2 L R) : ∀ p, p ≤ nP → ∀ (I1 : ZMi) (v5 v6 : Value), zA2 I I1 S st m nS p → P 5 59 [.ref 7, .ref w, .int (nI st), .int m, .int (nI p), v5, v6] [] I1 L R Q := by
  refine zloop nP (fun p => ∀ (I1 : ZMi) (v5 v6 : Value), zA2 I I1 S st m nS p → P 5 59 [.ref 7, .ref w, .int (nI st), .int m, .int (nI p), v5, v6] [] I1 L R Q) ?_
  intro p hle ih I1 v5 v6 hacc
  refine r_il hP c5_59 rfl ?_
  refine r_al hP c5_61 rfl ?_
  refine r_gI (x := nI nP) hP c5_62 (zj_W hK hw) (zC_p (zC_fr hC hacc.1 hw hs6 hp8 hw6)) ?_
  refine r_ige hP c5_65 (fun h65 => ?_) (fun h65 => ?_)
  · have he : p = nP := Nat.le_antisymm hle ((nI_leI (by omega) (by omega)).mp h65)
    subst he
    exact r_vr hP c5_152 (h _ hacc)
  · have hlt : p < nP := by
      rcases Nat.lt_or_ge p nP with q | q
      · exact q
      · exact absurd (nI_le q (by omega)) h65
    obtain ⟨a, haS, ha⟩ := hsg p hlt
    refine r_al hP c5_68 rfl ?_
    refine r_gR (x := w + 2) hP c5_69 (zj_W hK hw) (zr_pts hR hw) ?_
    refine r_il hP c5_72 rfl ?_
    refine r_aald (j := p) (x := w + 18 + 2 * p) hP c5_74 (zk_pts hK hw) rfl (by omega) (zr_prt hR hw (by omega)) ?_
    refine r_as (ls' := [.ref 7, .ref w, .int (nI st), .int m, .int (nI p), .ref (w + 18 + 2 * p), v6]) hP c5_75 (Nat.le_of_ble_eq_true rfl) rfl ?_
    refine r_il hP c5_77 rfl ?_
    refine r_ic hP c5_78 ?_
    refine r_il hP c5_79 rfl ?_
    refine r_ishl hP c5_81 ?_
    refine r_iand hP c5_82 ?_
    refine r_ifeq hP c5_83 (fun h83 => ?_) (fun h83 => ?_)
    · have hb := (zbit_c st hst p (by omega)).mp h83
      refine r_inc (y := nI (p + 1)) (ls' := [.ref 7, .ref w, .int (nI st), .int m, .int (nI (p + 1)), .ref (w + 18 + 2 * p), v6]) hP c5_146 rfl (nI_1 _) rfl ?_
      refine r_goto hP c5_149 ?_
      exact ih hlt _ _ _ (by first | exact zA3_end h2 ha (by omega) hs6 hb (Int32.not_lt.mp h92) | exact zA2_skip hacc (fun q => hb q.1) | exact zA2_skip hacc (fun q => absurd h92 (Int32.not_lt.mpr q.2)))
    · have hb : st.testBit p = true := Classical.byContradiction (fun q => h83 ((zbit_c st hst p (by omega)).mpr q))
      refine r_al hP c5_86 rfl ?_
      refine r_gI (x := S 7 p 0) hP c5_88 (zj_prt hK hw (by omega)) (zC_f (zC_fr hC hacc.1 hw hs6 hp8 hw6) (by omega) 5 (by decide) (by decide)) ?_
      refine r_il hP c5_91 rfl ?_
      refine r_igt hP c5_92 (fun h92 => ?_) (fun h92 => ?_)
      · refine r_inc (y := nI (p + 1)) (ls' := [.ref 7, .ref w, .int (nI st), .int m, .int (nI (p + 1)), .ref (w + 18 + 2 * p), v6]) hP c5_146 rfl (nI_1 _) rfl ?_
        refine r_goto hP c5_149 ?_
        exact ih hlt _ _ _ (by first | exact zA3_end h2 ha (by omega) hs6 hb (Int32.not_lt.mp h92) | exact zA2_skip hacc (fun q => hb q.1) | exact zA2_skip hacc (fun q => absurd h92 (Int32.not_lt.mpr q.2)))
      · refine r_al hP c5_95 rfl ?_
        refine r_al hP c5_96 rfl ?_
        refine r_gI (x := nI a) hP c5_98 (zj_prt hK hw (by omega)) ((zC_f (zC_fr hC hacc.1 hw hs6 hp8 hw6) (by omega) 1 (by decide) (by decide)).trans ha) ?_
        refine r_cVi (as := [.int (nI a)]) (r := []) (I' := I1) (L' := L) (R' := R) (x := if zr (nI a) nS then 1 else 0) (a := w) hP c5_101 rfl (zj_W hK hw) rfl (fun _ hq => x_hasStage hP (zj_W hK hw) (zC_s (zC_fr hC hacc.1 hw hs6 hp8 hw6)) (by omega) hq) ?_
        refine r_ifeqB hP c5_104 (fun h104 => absurd h104 (not_not_intro (zr_nI haS (by omega)))) (fun h104 => ?_)
        refine r_ic hP c5_107 ?_
        refine r_is (ls' := [.ref 7, .ref w, .int (nI st), .int m, .int (nI p), .ref (w + 18 + 2 * p), .int 0]) hP c5_108 (Nat.le_of_ble_eq_true rfl) rfl ?_
        refine x_comeD hP hK hR hw hC hp8 hs6 hw6 hs1 hsg hst hlt haS ha (fun I2 v6 h2 => ?_) 0 (by decide) _ ⟨hacc.1, fun s t h1 h2 => by rw [if_neg (by omega)]; exact hacc.2 s t h1 h2⟩
        refine r_inc (y := nI (p + 1)) (ls' := [.ref 7, .ref w, .int (nI st), .int m, .int (nI (p + 1)), .ref (w + 18 + 2 * p), v6]) hP c5_146 rfl (nI_1 _) rfl ?_
        refine r_goto hP c5_149 ?_
        exact ih hlt _ _ _ (by first | exact zA3_end h2 ha (by omega) hs6 hb (Int32.not_lt.mp h92) | exact zA2_skip hacc (fun q => hb q.1) | exact zA2_skip hacc (fun q => absurd h92 (Int32.not_lt.mpr q.2)))
set_option maxRecDepth 4000 in
theorem x_comeIn {K : ZKh} {P : Nat → Nat → List Value → List Value → ZMi → ZMl → ZMr → ZRt → Prop} {I : ZMi} {L : ZMl} {R : ZMr} {Q : ZRt} (hP : ZCl K P) {w nS nP nW : Nat} {S : ZS} (hK : zKa K) (hR : zRa R) (hw : zisW w) (hC : zC I w S nS nP nW) (hp8 : nP ≤ 8) (hs6 : nS ≤ 6) (hw6 : nW ≤ 6) (hs1 : 1 ≤ nS) (hsg : ∀ p, p < nP → ∃ a, a < nS ∧ S 3 p 0 = nI a) {st : Nat} {m : Int32} (hst : st < 256) (h : ∀ I2, zA2 I I2 S st m nS nP → Q none I2 L R) : P 5 0 [.ref 7, .ref w, .int (nI st), .int m, .null, .null, .null] [] I L R Q := by
  refine r_ic hP c5_0 ?_
  refine r_is (ls' := [.ref 7, .ref w, .int (nI st), .int m, .int 0, .null, .null]) hP c5_1 (Nat.le_of_ble_eq_true rfl) rfl ?_
  refine x_comeA hP hK hR hw hC hp8 hs6 hw6 hs1 hsg hst (fun I2 v5 h2 => ?_) 0 (by omega) _ _ ⟨zfr_r I, fun s' t' q => by omega⟩
  refine r_ic hP c5_56 ?_
  refine r_is (ls' := [.ref 7, .ref w, .int (nI st), .int m, .int 0, v5, .null]) hP c5_57 (Nat.le_of_ble_eq_true rfl) rfl ?_
  exact x_comeC hP hK hR hw hC hp8 hs6 hw6 hs1 hsg hst h 0 (Nat.zero_le _) _ _ _ ⟨h2.1, fun s t a b => h2.2 s t (by omega)⟩
