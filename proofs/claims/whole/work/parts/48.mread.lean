/-! ===== the model reads numbers ===== -/
theorem zcn_4 {t : Nat → Nat} {q : Nat} : (zcn t q 4 ≤ 3 ∧ zcn t q 3 = zcn t q 4) ∨ (zcn t q 4 = 4 ∧ zcn t q 3 = 3 ∧ 48 ≤ t (q + 3) ∧ t (q + 3) ≤ 57) := by
  simp only [zcn]
  by_cases h0 : 48 ≤ t q ∧ t q ≤ 57
  · simp only [if_pos h0]
    by_cases h1 : 48 ≤ t (q + 1) ∧ t (q + 1) ≤ 57
    · simp only [if_pos h1]
      by_cases h2 : 48 ≤ t (q + 1 + 1) ∧ t (q + 1 + 1) ≤ 57
      · simp only [if_pos h2]
        by_cases h3 : 48 ≤ t (q + 1 + 1 + 1) ∧ t (q + 1 + 1 + 1) ≤ 57
        · simp only [if_pos h3]
          exact Or.inr ⟨by simp, by simp, h3⟩
        · simp only [if_neg h3]
          exact Or.inl ⟨by simp, by simp⟩
      · simp only [if_neg h2]
        exact Or.inl ⟨by simp, by simp⟩
    · simp only [if_neg h1]
      exact Or.inl ⟨by simp, by simp⟩
  · simp only [if_neg h0]
    exact Or.inl ⟨by simp, by simp⟩
theorem znm_f1 {t : Nat → Nat} {p d : Nat} (h : ¬ (1 ≤ zcn t (zn_q t p) 4 ∧ zcn t (zn_q t p) 4 ≤ 3)) (hd : d = 44 ∨ d = 59) : znm t p d = none := by
  refine if_neg (fun z => ?_)
  obtain ⟨⟨z1, z2⟩, z3⟩ := z
  rcases zcn_4 (t := t) (q := zn_q t p) with ⟨a, b⟩ | ⟨a, b, c⟩
  · apply z1
    rw [zn_n, b]
    omega
  · rw [zn_e, zn_n, b] at z3
    omega
theorem znm_f2 {t : Nat → Nat} {p d : Nat} (h : zcn t (zn_q t p) 4 ≤ 3) (hm : t p = 45) (hv : zva t (zn_q t p) (zcn t (zn_q t p) 4) = 0) : znm t p d = none := by
  refine if_neg (fun z => z.1.2 ⟨hm, ?_⟩)
  rcases zcn_4 (t := t) (q := zn_q t p) with ⟨a, b⟩ | ⟨a, b, c⟩
  · rw [zn_w, zn_n, b]; exact hv
  · omega
theorem znm_f3 {t : Nat → Nat} {p d : Nat} (h : zcn t (zn_q t p) 4 ≤ 3) (hs : ¬ t (zn_q t p + zcn t (zn_q t p) 4) = d) : znm t p d = none := by
  refine if_neg (fun z => hs ?_)
  rcases zcn_4 (t := t) (q := zn_q t p) with ⟨a, b⟩ | ⟨a, b, c⟩
  · have z2 := z.2
    rw [zn_e, zn_n, b] at z2
    exact z2
  · omega
theorem znm_s {t : Nat → Nat} {p d : Nat} (h1 : 1 ≤ zcn t (zn_q t p) 4) (h : zcn t (zn_q t p) 4 ≤ 3) (hm : t p = 45 → ¬ zva t (zn_q t p) (zcn t (zn_q t p) 4) = 0) (hs : t (zn_q t p + zcn t (zn_q t p) 4) = d) : znm t p d = some (if t p = 45 then -(nI (zva t (zn_q t p) (zcn t (zn_q t p) 4))) else nI (zva t (zn_q t p) (zcn t (zn_q t p) 4)), zn_q t p + zcn t (zn_q t p) 4 + 1) := by
  rcases zcn_4 (t := t) (q := zn_q t p) with ⟨a, b⟩ | ⟨a, b, c⟩
  · have e1 : zn_n t p = zcn t (zn_q t p) 4 := b
    have e2 : zn_w t p = zva t (zn_q t p) (zcn t (zn_q t p) 4) := by rw [zn_w, e1]
    have e3 : zn_e t p = zn_q t p + zcn t (zn_q t p) 4 := by rw [zn_e, e1]
    rw [znm, if_pos ⟨⟨by rw [e1]; omega, fun z => hm z.1 (by rw [← e2]; exact z.2)⟩, by rw [e3]; exact hs⟩, zn_v, e2, e3]
  · omega
theorem zva_b4 {t : Nat → Nat} {q : Nat} (h : ∀ i, t i < 256) : ∀ n, n ≤ 4 → zva t q n < 1000000
  | n, hn => by
    have h0 := h q
    have h1 := h (q + 1)
    have h2 := h (q + 2)
    have h3 := h (q + 3)
    have hc : n = 0 ∨ n = 1 ∨ n = 2 ∨ n = 3 ∨ n = 4 := by omega
    rcases hc with rfl | rfl | rfl | rfl | rfl <;> simp only [zva, Nat.add_zero] <;> omega
theorem zva_m {t : Nat → Nat} {q n : Nat} (hd : 48 ≤ t (q + n)) : 10 * nI (zva t q n) + nI (t (q + n)) - 48 = nI (zva t q (n + 1)) := by
  rw [zva, show (10 : Int32) = nI 10 from rfl, show (48 : Int32) = nI 48 from rfl, pk_mul, nI_add, pk_sub (by omega)]
  congr 1
  omega
def zfZ (I I' : ZMi) : Prop := ∀ a k, ¬ (a = 119 ∧ k = 30) → a ≠ 148 → I' a k = I a k
theorem zfZ_t {I I' I2 : ZMi} (h : zfZ I I') (h2 : zfZ I' I2) : zfZ I I2 := fun a k x y => (h2 a k x y).trans (h a k x y)
theorem zTm_to {I I' : ZMi} {len : Nat} {T : Nat → Nat} (h : zTm I len T) (h1 : I' 119 0 = I 119 0) (h2 : ∀ k, I' 120 k = I 120 k) : zTm I' len T := ⟨h1.trans h.1, fun i hi => by rw [h2]; exact h.2 i hi⟩
theorem zTm_fZ {I I' : ZMi} {len : Nat} {T : Nat → Nat} (h : zTm I len T) (hf : zfZ I I') : zTm I' len T := zTm_to h (hf 119 0 (by decide) (by decide)) (fun k => hf 120 k (by omega) (by decide))
theorem zdgI {n : Nat} (h : n < 256) : (48 ≤ nI n ∧ nI n ≤ 57) ↔ (48 ≤ n ∧ n ≤ 57) := by
  rw [show (48 : Int32) = nI 48 from rfl, show (57 : Int32) = nI 57 from rfl, nI_leI (by omega) (by omega), nI_leI (by omega) (by omega)]
theorem zn13 {n : Nat} (h : n < 256) : (1 ≤ nI n ∧ nI n ≤ 3) ↔ (1 ≤ n ∧ n ≤ 3) := by
  rw [show (1 : Int32) = nI 1 from rfl, show (3 : Int32) = nI 3 from rfl, nI_leI (by omega) (by omega), nI_leI (by omega) (by omega)]
set_option maxRecDepth 4000 in
theorem y_byteAt {K : ZKh} {P : Nat → Nat → List Value → List Value → ZMi → ZMl → ZMr → ZRt → Prop} {I : ZMi} {L : ZMl} {R : ZMr} {Q : ZRt} (hP : ZCl K P) (hKb : zKb K) (hRb : zRb R) {len : Nat} {T : Nat → Nat} (hT : zTm I len T) (hl : len ≤ 400) {p : Nat} (hp : p < 2 ^ 31) (h : Q (some (.int (nI (zto T len p)))) I L R) : P 112 0 [.ref 119, .int (nI p)] [] I L R Q := by
  refine r_il hP c112_0 rfl ?_
  refine r_al hP c112_1 rfl ?_
  refine r_gI (x := nI len) hP c112_2 (zj119 hKb) hT.1 ?_
  refine r_ige hP c112_5 (fun h5 => ?_) (fun h5 => ?_)
  · have hlt : ¬ p < len := fun q => absurd h5 (nI_ge q (by omega))
    refine r_ic hP c112_17 ?_
    exact r_irE hP c112_18 h (by first | (rw [zto, if_pos hlt]; done) | (rw [zto, if_neg hlt]; rfl))
  · have hlt : p < len := by
      rcases Nat.lt_or_ge p len with q | q
      · exact q
      · exact absurd (nI_le q (by omega)) h5
    refine r_al hP c112_8 rfl ?_
    refine r_gR (x := 120) hP c112_9 (zj119 hKb) (zr119_1 hRb) ?_
    refine r_il hP c112_12 rfl ?_
    refine r_iald (j := p) (x := nI (T p)) hP c112_13 (zk120 hKb) rfl (by omega) (hT.2 p hlt) ?_
    refine r_goto hP c112_14 ?_
    exact r_irE hP c112_18 h (by first | (rw [zto, if_pos hlt]; done) | (rw [zto, if_neg hlt]; rfl))
set_option maxRecDepth 4000 in
theorem y_fig_d {K : ZKh} {P : Nat → Nat → List Value → List Value → ZMi → ZMl → ZMr → ZRt → Prop} {I : ZMi} {L : ZMl} {R : ZMr} {Q : ZRt} (hP : ZCl K P) (hKb : zKb K) (hRb : zRb R) {len : Nat} {T : Nat → Nat} (hT : zTm I len T) (hl : len ≤ 400) (h256 : ∀ i, T i < 256) {many k q : Nat} {le : Int32} (hq : q ≤ 2000) (hx : ∀ I2, (∀ a k, ¬ (a = 119 ∧ k = 30) → I2 a k = I a k) → I2 119 30 = nI (q + zcn (zto T len) q 4) → P 113 112 [.ref 119, .int (nI many), .int (nI k), .int le, .int (nI (zcn (zto T len) q 4)), .int (nI (zva (zto T len) q (zcn (zto T len) q 4)))] [] I2 L R Q) : ∀ n, n ≤ 4 → ∀ (I1 : ZMi), (∀ a k, ¬ (a = 119 ∧ k = 30) → I1 a k = I a k) ∧ I1 119 30 = nI (q + n) ∧ zcn (zto T len) q 4 = n + zcn (zto T len) (q + n) (4 - n) → P 113 50 [.ref 119, .int (nI many), .int (nI k), .int le, .int (nI n), .int (nI (zva (zto T len) q n))] [] I1 L R Q := by
  refine zloop 4 (fun n => ∀ (I1 : ZMi), (∀ a k, ¬ (a = 119 ∧ k = 30) → I1 a k = I a k) ∧ I1 119 30 = nI (q + n) ∧ zcn (zto T len) q 4 = n + zcn (zto T len) (q + n) (4 - n) → P 113 50 [.ref 119, .int (nI many), .int (nI k), .int le, .int (nI n), .int (nI (zva (zto T len) q n))] [] I1 L R Q) ?_
  intro n hle ih I1 hacc
  refine r_al hP c113_50 rfl ?_
  refine r_al hP c113_51 rfl ?_
  refine r_gI (x := nI (q + n)) hP c113_52 (zj119 hKb) hacc.2.1 ?_
  refine r_cVi (as := [.int (nI (q + n))]) (r := []) (I' := I1) (L' := L) (R' := R) (x := nI (zto T len (q + n))) (a := 119) hP c113_55 rfl (zj119 hKb) rfl (fun _ hq => y_byteAt hP hKb hRb (zTm_to hT (hacc.1 119 0 (by decide)) (fun k => hacc.1 120 k (by omega))) hl (p := q + n) (by omega) hq) ?_
  refine r_i2l hP c113_58 ?_
  refine r_lc hP c113_59 ?_
  refine r_lc hP c113_62 ?_
  refine r_cSi (as := [.long ((nI (zto T len (q + n))).toInt64), .long 48, .long 57]) (r := []) (I' := I1) (L' := L) (R' := R) (x := if 48 ≤ (nI (zto T len (q + n))).toInt64 ∧ (nI (zto T len (q + n))).toInt64 ≤ 57 then 1 else 0) hP c113_65 rfl rfl (fun _ h2 => x_isIn hP h2) ?_
  refine r_ti (y := if 48 ≤ (nI (zto T len (q + n))) ∧ (nI (zto T len (q + n))) ≤ 57 then 1 else 0) (zisC rfl rfl) ?_
  refine r_ifeqB hP c113_68 (fun h68 => ?_) (fun h68 => ?_)
  · have hz : zcn (zto T len) q 4 = n := by rw [hacc.2.2, zcn_z (fun z => h68 ((zdgI (zto_b h256 _)).mpr z))]; rfl
    rw [hz] at hx
    exact hx _ hacc.1 hacc.2.1
  · have hd := (zdgI (zto_b h256 _)).mp h68
    refine r_il hP c113_71 rfl ?_
    refine r_ic hP c113_73 ?_
    refine r_ige hP c113_74 (fun h74 => ?_) (fun h74 => ?_)
    · have he : n = 4 := Nat.le_antisymm hle ((nI_leI (a := 4) (by decide) (by omega)).mp h74)
      have hz : zcn (zto T len) q 4 = n := by rw [hacc.2.2, he]; rfl
      rw [hz] at hx
      exact hx _ hacc.1 hacc.2.1
    · have hlt : n < 4 := by
        rcases Nat.lt_or_ge n 4 with q | q
        · exact q
        · exact absurd (nI_le q (by omega)) h74
      refine r_ic hP c113_77 ?_
      refine r_il hP c113_79 rfl ?_
      refine r_imul hP c113_81 ?_
      refine r_al hP c113_82 rfl ?_
      refine r_al hP c113_83 rfl ?_
      refine r_gI (x := nI (q + n)) hP c113_84 (zj119 hKb) hacc.2.1 ?_
      refine r_cVi (as := [.int (nI (q + n))]) (r := [.int (10 * (nI (zva (zto T len) q n)))]) (I' := I1) (L' := L) (R' := R) (x := nI (zto T len (q + n))) (a := 119) hP c113_87 rfl (zj119 hKb) rfl (fun _ hq => y_byteAt hP hKb hRb (zTm_to hT (hacc.1 119 0 (by decide)) (fun k => hacc.1 120 k (by omega))) hl (p := q + n) (by omega) hq) ?_
      refine r_iadd hP c113_90 ?_
      refine r_ic hP c113_91 ?_
      refine r_isub hP c113_93 ?_
      refine r_ti (y := nI (zva (zto T len) q (n + 1))) (zva_m hd.1) ?_
      refine r_is (ls' := [.ref 119, .int (nI many), .int (nI k), .int le, .int (nI n), .int (nI (zva (zto T len) q (n + 1)))]) hP c113_94 (Nat.le_of_ble_eq_true rfl) rfl ?_
      refine r_inc (y := nI (n + 1)) (ls' := [.ref 119, .int (nI many), .int (nI k), .int le, .int (nI (n + 1)), .int (nI (zva (zto T len) q (n + 1)))]) hP c113_96 rfl (nI_1 _) rfl ?_
      refine r_al hP c113_99 rfl ?_
      refine r_dup hP c113_100 rfl ?_
      refine r_gI (x := nI (q + n)) hP c113_101 (zj119 hKb) hacc.2.1 ?_
      refine r_ic hP c113_104 ?_
      refine r_iadd hP c113_105 ?_
      refine r_ti (y := nI (q + n + 1)) (nI_1 _) ?_
      refine r_pI hP c113_106 (zj119 hKb) ?_
      refine r_goto hP c113_109 ?_
      exact ih hlt _ ⟨fun a k q1 => (zup_n _ _ _ _ q1).trans (hacc.1 a k q1), zup_s _ _ _ _, by
        rw [hacc.2.2, show 4 - n = (4 - (n + 1)) + 1 from by omega, zcn, if_pos hd]
        show n + (zcn _ (q + n + 1) (4 - (n + 1)) + 1) = n + 1 + zcn _ (q + n + 1) (4 - (n + 1))
        omega⟩
set_option maxRecDepth 4000 in
theorem y_fig_k {K : ZKh} {P : Nat → Nat → List Value → List Value → ZMi → ZMl → ZMr → ZRt → Prop} {I : ZMi} {L : ZMl} {R : ZMr} {Q : ZRt} (hP : ZCl K P) (hKb : zKb K) (hRb : zRb R) {len : Nat} {T : Nat → Nat} (hT : zTm I len T) (hl : len ≤ 400) (h256 : ∀ i, T i < 256) {many p : Nat} (hm5 : many ≤ 5) (hp : p ≤ 500) (h : ∀ I2, zfZ I I2 → (∀ q, zns (zto T len) many p many = some q → I2 119 30 = nI q.2 ∧ ∀ j, j < many → I2 148 j = q.1 j) → Q (some (.int (if (zns (zto T len) many p many).isSome = true then 1 else 0))) I2 L R) : ∀ k, k ≤ many → ∀ (I1 : ZMi) (q : ZFp) (v3 v4 v5 : Value), zfZ I I1 ∧ zns (zto T len) many p k = some q ∧ I1 119 30 = nI q.2 ∧ (∀ j, j < k → I1 148 j = q.1 j) → P 113 2 [.ref 119, .int (nI many), .int (nI k), v3, v4, v5] [] I1 L R Q := by
  refine zloop many (fun k => ∀ (I1 : ZMi) (q : ZFp) (v3 v4 v5 : Value), zfZ I I1 ∧ zns (zto T len) many p k = some q ∧ I1 119 30 = nI q.2 ∧ (∀ j, j < k → I1 148 j = q.1 j) → P 113 2 [.ref 119, .int (nI many), .int (nI k), v3, v4, v5] [] I1 L R Q) ?_
  intro k hle ih I1 q v3 v4 v5 hacc
  refine r_il hP c113_2 rfl ?_
  refine r_il hP c113_3 rfl ?_
  refine r_ige hP c113_4 (fun h4 => ?_) (fun h4 => ?_)
  · have he : k = many := Nat.le_antisymm hle ((nI_leI (by omega) (by omega)).mp h4)
    refine r_ic hP c113_195 ?_
    subst he
    exact r_zr1 hP c113_196 (by rw [hacc.2.1]; rfl) (h _ hacc.1 (fun q1 z => by rw [hacc.2.1] at z; cases z; exact ⟨hacc.2.2.1, hacc.2.2.2⟩))
  · have hlt : k < many := by
      rcases Nat.lt_or_ge k many with q | q
      · exact q
      · exact absurd (nI_le q (by omega)) h4
    have hq2 := zns_le hacc.2.1
    refine r_al hP c113_7 rfl ?_
    refine r_al hP c113_8 rfl ?_
    refine r_gI (x := nI q.2) hP c113_9 (zj119 hKb) hacc.2.2.1 ?_
    refine r_cVi (as := [.int (nI q.2)]) (r := []) (I' := I1) (L' := L) (R' := R) (x := nI (zto T len q.2)) (a := 119) hP c113_12 rfl (zj119 hKb) rfl (fun _ hq => y_byteAt hP hKb hRb (zTm_fZ hT hacc.1) hl (p := q.2) (by omega) hq) ?_
    refine r_ic hP c113_15 ?_
    refine r_ine hP c113_17 (fun h17 => ?_) (fun h17 => ?_)
    · have hm : ¬ (zto T len) q.2 = 45 := fun z => h17 (by rw [z]; rfl)
      refine r_ic hP c113_24 ?_
      refine r_is (ls' := [.ref 119, .int (nI many), .int (nI k), .int 0, v4, v5]) hP c113_25 (Nat.le_of_ble_eq_true rfl) rfl ?_
      refine r_al hP c113_26 rfl ?_
      refine r_dup hP c113_27 rfl ?_
      refine r_gI (x := nI q.2) hP c113_28 (zj119 hKb) hacc.2.2.1 ?_
      refine r_il hP c113_31 rfl ?_
      refine r_ifeq hP c113_32 (fun h32 => ?_) (fun h32 => absurd h32 (not_not_intro rfl))
      refine r_ic hP c113_39 ?_
      refine r_iadd hP c113_40 ?_
      refine r_ti (y := nI q.2) (Int32.add_zero _) ?_
      refine r_pI hP c113_41 (zj119 hKb) ?_
      refine r_ic hP c113_44 ?_
      refine r_is (ls' := [.ref 119, .int (nI many), .int (nI k), .int 0, .int 0, v5]) hP c113_45 (Nat.le_of_ble_eq_true rfl) rfl ?_
      refine r_ic hP c113_47 ?_
      refine r_is (ls' := [.ref 119, .int (nI many), .int (nI k), .int 0, .int 0, .int 0]) hP c113_48 (Nat.le_of_ble_eq_true rfl) rfl ?_
      obtain ⟨qq, hqq⟩ : ∃ qq, qq = zn_q (zto T len) q.2 := ⟨_, rfl⟩
      have hqe : qq = q.2 := by rw [hqq, zn_q, if_neg hm]
      rw [← hqe]
      refine y_fig_d (q := qq) (k := k) hP hKb hRb (zTm_to (zTm_fZ hT hacc.1) (zup_n _ _ _ _ (by decide)) (fun k => zup_n _ _ _ _ (by omega))) hl h256 (by omega) (fun I2 h1 h2 => ?_) 0 (Nat.zero_le _) _ ⟨fun _ _ _ => rfl, zup_s _ _ _ _, (Nat.zero_add _).symm⟩
      have hfZ : zfZ I I2 := fun a k q1 q2 => (h1 a k q1).trans ((zup_n _ _ _ _ q1).trans (hacc.1 a k q1 q2))
      have hn4 : zcn (zto T len) qq 4 ≤ 4 := zcn_le _ 4 _
      have hb9 := zva_b4 (t := (zto T len)) (q := qq) (zto_b h256) (zcn (zto T len) qq 4) hn4
      refine r_il hP c113_112 rfl ?_
      refine r_i2l hP c113_114 ?_
      refine r_lc hP c113_115 ?_
      refine r_lc hP c113_116 ?_
      refine r_cSi (as := [.long ((nI (zcn (zto T len) qq 4)).toInt64), .long 1, .long 3]) (r := []) (I' := I2) (L' := L) (R' := R) (x := if 1 ≤ (nI (zcn (zto T len) qq 4)).toInt64 ∧ (nI (zcn (zto T len) qq 4)).toInt64 ≤ 3 then 1 else 0) hP c113_119 rfl rfl (fun _ h2 => x_isIn hP h2) ?_
      refine r_ti (y := if 1 ≤ (nI (zcn (zto T len) qq 4)) ∧ (nI (zcn (zto T len) qq 4)) ≤ 3 then 1 else 0) (zisC rfl rfl) ?_
      refine r_ifeqB hP c113_122 (fun h122 => ?_) (fun h122 => ?_)
      · refine r_ic hP c113_159 ?_
        first
          | (have hno : zns (zto T len) many p many = none := (by have hz := zns_nn (zns_n hacc.2.1 (znm_f1 (by rw [← hqq]; exact fun z => h122 ((zn13 (by omega)).mpr z)) (by by_cases z : k + 1 < many; exact Or.inl (if_pos z); exact Or.inr (if_neg z)))) (many - (k + 1)); rw [show k + 1 + (many - (k + 1)) = many from by omega] at hz; exact hz)
             exact r_zr0 hP c113_160 (by rw [hno]; decide) (h _ hfZ (fun q q1 => by rw [hno] at q1; cases q1)))
          | (have hno : zns (zto T len) many p many = none := (by have hz := zns_nn (zns_n hacc.2.1 (znm_f3 (by rw [← hqq]; exact ((zn13 (by omega)).mp h122).2) (by rw [← hqq]; exact hsep))) (many - (k + 1)); rw [show k + 1 + (many - (k + 1)) = many from by omega] at hz; exact hz)
             exact r_zr0 hP c113_160 (by rw [hno]; decide) (h _ hfZ (fun q q1 => by rw [hno] at q1; cases q1)))
      · refine r_il hP c113_125 rfl ?_
        refine r_ifeq hP c113_126 (fun h126 => ?_) (fun h126 => absurd h126 (not_not_intro rfl))
        refine r_al hP c113_134 rfl ?_
        refine r_al hP c113_135 rfl ?_
        refine r_gI (x := nI (qq + zcn (zto T len) qq 4)) hP c113_136 (zj119 hKb) h2 ?_
        refine r_cVi (as := [.int (nI (qq + zcn (zto T len) qq 4))]) (r := []) (I' := I2) (L' := L) (R' := R) (x := nI (zto T len (qq + zcn (zto T len) qq 4))) (a := 119) hP c113_139 rfl (zj119 hKb) rfl (fun _ hq => y_byteAt hP hKb hRb (zTm_fZ hT hfZ) hl (p := qq + zcn (zto T len) qq 4) (by omega) hq) ?_
        refine r_il hP c113_142 rfl ?_
        refine r_il hP c113_143 rfl ?_
        refine r_ic hP c113_144 ?_
        refine r_isub hP c113_145 ?_
        refine r_ti (y := nI (many - 1)) (pk_sub (b := 1) (by omega)) ?_
        refine r_ige hP c113_146 (fun h146 => ?_) (fun h146 => ?_)
        · have hk1 : ¬ k + 1 < many := by
            have := (nI_leI (a := many - 1) (b := k) (by omega) (by omega)).mp h146
            omega
          refine r_ic hP c113_154 ?_
          refine r_ieq hP c113_156 (fun h156 => ?_) (fun h156 => ?_)
          · have hsep :  (zto T len (qq + zcn (zto T len) qq 4) = (if k + 1 < many then 44 else 59)) := by
              first
                | (rw [if_neg (show ¬ k + 1 < many from by omega)]; exact (nI_eq (b := 59) (by have := zto_b (len := len) h256 (qq + zcn (zto T len) qq 4); omega) (by decide)).mp h156)
                | (rw [if_pos (show k + 1 < many from by omega)]; exact (nI_eq (b := 44) (by have := zto_b (len := len) h256 (qq + zcn (zto T len) qq 4); omega) (by decide)).mp h156)
            refine r_al hP c113_161 rfl ?_
            refine r_gR (x := 148) hP c113_162 (zj119 hKb) (zr119_31 hRb) ?_
            refine r_il hP c113_165 rfl ?_
            refine r_il hP c113_166 rfl ?_
            refine r_ifeq hP c113_167 (fun h167 => ?_) (fun h167 => absurd h167 (not_not_intro rfl))
            refine r_il hP c113_176 rfl ?_
            refine r_iast (j := k) hP c113_178 (zk148 hKb) rfl (by omega) ?_
            refine r_al hP c113_179 rfl ?_
            refine r_dup hP c113_180 rfl ?_
            refine r_gI (x := nI (qq + zcn (zto T len) qq 4)) hP c113_181 (zj119 hKb) ((zup_n _ _ _ _ (by omega)).trans h2) ?_
            refine r_ic hP c113_184 ?_
            refine r_iadd hP c113_185 ?_
            refine r_ti (y := nI (qq + zcn (zto T len) qq 4 + 1)) (nI_1 _) ?_
            refine r_pI hP c113_186 (zj119 hKb) ?_
            refine r_inc (y := nI (k + 1)) (ls' := [.ref 119, .int (nI many), .int (nI (k + 1)), .int 0, .int (nI (zcn (zto T len) qq 4)), .int (nI (zva (zto T len) qq (zcn (zto T len) qq 4)))]) hP c113_189 rfl (nI_1 _) rfl ?_
            refine r_goto hP c113_192 ?_
            have hsm := znm_s (t := (zto T len)) (p := q.2) (d := (if k + 1 < many then 44 else 59)) (by rw [← hqq]; exact ((zn13 (by omega)).mp h122).1) (by rw [← hqq]; exact ((zn13 (by omega)).mp h122).2) (fun z => absurd z hm) (by rw [← hqq]; exact hsep)
            rw [if_neg hm, ← hqq] at hsm
            have hns := zns_s hacc.2.1 hsm
            exact ih hlt _ _ _ _ _ ⟨fun a k2 q1 q2 => (zup_n _ _ _ _ q1).trans ((zup_na _ _ _ _ q2).trans (hfZ a k2 q1 q2)), hns, zup_s _ _ _ _, fun j hj => by
              show _ = if j = k then _ else _
              rw [zup_n _ _ _ _ (by omega)]
              by_cases z : j = k
              · subst z
                rw [if_pos rfl, zup_s]
              · rw [if_neg z, zup_nk _ _ _ _ z, h1 148 j (by omega), zup_n _ _ _ _ (by omega)]
                exact hacc.2.2.2 j (by omega)⟩
          · have hsep : ¬ (zto T len (qq + zcn (zto T len) qq 4) = (if k + 1 < many then 44 else 59)) := by
              first
                | (rw [if_neg (show ¬ k + 1 < many from by omega)]; exact fun z => h156 (by rw [z]; rfl))
                | (rw [if_pos (show k + 1 < many from by omega)]; exact fun z => h156 (by rw [z]; rfl))
            refine r_ic hP c113_159 ?_
            first
              | (have hno : zns (zto T len) many p many = none := (by have hz := zns_nn (zns_n hacc.2.1 (znm_f1 (by rw [← hqq]; exact fun z => h122 ((zn13 (by omega)).mpr z)) (by by_cases z : k + 1 < many; exact Or.inl (if_pos z); exact Or.inr (if_neg z)))) (many - (k + 1)); rw [show k + 1 + (many - (k + 1)) = many from by omega] at hz; exact hz)
                 exact r_zr0 hP c113_160 (by rw [hno]; decide) (h _ hfZ (fun q q1 => by rw [hno] at q1; cases q1)))
              | (have hno : zns (zto T len) many p many = none := (by have hz := zns_nn (zns_n hacc.2.1 (znm_f3 (by rw [← hqq]; exact ((zn13 (by omega)).mp h122).2) (by rw [← hqq]; exact hsep))) (many - (k + 1)); rw [show k + 1 + (many - (k + 1)) = many from by omega] at hz; exact hz)
                 exact r_zr0 hP c113_160 (by rw [hno]; decide) (h _ hfZ (fun q q1 => by rw [hno] at q1; cases q1)))
        · have hk1 : k + 1 < many := by
            have := (not_congr (nI_leI (a := many - 1) (b := k) (by omega) (by omega))).mp h146
            omega
          refine r_ic hP c113_149 ?_
          refine r_goto hP c113_151 ?_
          refine r_ieq hP c113_156 (fun h156 => ?_) (fun h156 => ?_)
          · have hsep :  (zto T len (qq + zcn (zto T len) qq 4) = (if k + 1 < many then 44 else 59)) := by
              first
                | (rw [if_neg (show ¬ k + 1 < many from by omega)]; exact (nI_eq (b := 59) (by have := zto_b (len := len) h256 (qq + zcn (zto T len) qq 4); omega) (by decide)).mp h156)
                | (rw [if_pos (show k + 1 < many from by omega)]; exact (nI_eq (b := 44) (by have := zto_b (len := len) h256 (qq + zcn (zto T len) qq 4); omega) (by decide)).mp h156)
            refine r_al hP c113_161 rfl ?_
            refine r_gR (x := 148) hP c113_162 (zj119 hKb) (zr119_31 hRb) ?_
            refine r_il hP c113_165 rfl ?_
            refine r_il hP c113_166 rfl ?_
            refine r_ifeq hP c113_167 (fun h167 => ?_) (fun h167 => absurd h167 (not_not_intro rfl))
            refine r_il hP c113_176 rfl ?_
            refine r_iast (j := k) hP c113_178 (zk148 hKb) rfl (by omega) ?_
            refine r_al hP c113_179 rfl ?_
            refine r_dup hP c113_180 rfl ?_
            refine r_gI (x := nI (qq + zcn (zto T len) qq 4)) hP c113_181 (zj119 hKb) ((zup_n _ _ _ _ (by omega)).trans h2) ?_
            refine r_ic hP c113_184 ?_
            refine r_iadd hP c113_185 ?_
            refine r_ti (y := nI (qq + zcn (zto T len) qq 4 + 1)) (nI_1 _) ?_
            refine r_pI hP c113_186 (zj119 hKb) ?_
            refine r_inc (y := nI (k + 1)) (ls' := [.ref 119, .int (nI many), .int (nI (k + 1)), .int 0, .int (nI (zcn (zto T len) qq 4)), .int (nI (zva (zto T len) qq (zcn (zto T len) qq 4)))]) hP c113_189 rfl (nI_1 _) rfl ?_
            refine r_goto hP c113_192 ?_
            have hsm := znm_s (t := (zto T len)) (p := q.2) (d := (if k + 1 < many then 44 else 59)) (by rw [← hqq]; exact ((zn13 (by omega)).mp h122).1) (by rw [← hqq]; exact ((zn13 (by omega)).mp h122).2) (fun z => absurd z hm) (by rw [← hqq]; exact hsep)
            rw [if_neg hm, ← hqq] at hsm
            have hns := zns_s hacc.2.1 hsm
            exact ih hlt _ _ _ _ _ ⟨fun a k2 q1 q2 => (zup_n _ _ _ _ q1).trans ((zup_na _ _ _ _ q2).trans (hfZ a k2 q1 q2)), hns, zup_s _ _ _ _, fun j hj => by
              show _ = if j = k then _ else _
              rw [zup_n _ _ _ _ (by omega)]
              by_cases z : j = k
              · subst z
                rw [if_pos rfl, zup_s]
              · rw [if_neg z, zup_nk _ _ _ _ z, h1 148 j (by omega), zup_n _ _ _ _ (by omega)]
                exact hacc.2.2.2 j (by omega)⟩
          · have hsep : ¬ (zto T len (qq + zcn (zto T len) qq 4) = (if k + 1 < many then 44 else 59)) := by
              first
                | (rw [if_neg (show ¬ k + 1 < many from by omega)]; exact fun z => h156 (by rw [z]; rfl))
                | (rw [if_pos (show k + 1 < many from by omega)]; exact fun z => h156 (by rw [z]; rfl))
            refine r_ic hP c113_159 ?_
            first
              | (have hno : zns (zto T len) many p many = none := (by have hz := zns_nn (zns_n hacc.2.1 (znm_f1 (by rw [← hqq]; exact fun z => h122 ((zn13 (by omega)).mpr z)) (by by_cases z : k + 1 < many; exact Or.inl (if_pos z); exact Or.inr (if_neg z)))) (many - (k + 1)); rw [show k + 1 + (many - (k + 1)) = many from by omega] at hz; exact hz)
                 exact r_zr0 hP c113_160 (by rw [hno]; decide) (h _ hfZ (fun q q1 => by rw [hno] at q1; cases q1)))
              | (have hno : zns (zto T len) many p many = none := (by have hz := zns_nn (zns_n hacc.2.1 (znm_f3 (by rw [← hqq]; exact ((zn13 (by omega)).mp h122).2) (by rw [← hqq]; exact hsep))) (many - (k + 1)); rw [show k + 1 + (many - (k + 1)) = many from by omega] at hz; exact hz)
                 exact r_zr0 hP c113_160 (by rw [hno]; decide) (h _ hfZ (fun q q1 => by rw [hno] at q1; cases q1)))
    · have hm : (zto T len) q.2 = 45 := (nI_eq (b := 45) (by have := zto_b (len := len) h256 q.2; omega) (by decide)).mp h17
      refine r_ic hP c113_20 ?_
      refine r_goto hP c113_21 ?_
      refine r_is (ls' := [.ref 119, .int (nI many), .int (nI k), .int 1, v4, v5]) hP c113_25 (Nat.le_of_ble_eq_true rfl) rfl ?_
      refine r_al hP c113_26 rfl ?_
      refine r_dup hP c113_27 rfl ?_
      refine r_gI (x := nI q.2) hP c113_28 (zj119 hKb) hacc.2.2.1 ?_
      refine r_il hP c113_31 rfl ?_
      refine r_ifeq hP c113_32 (fun h32 => absurd h32 (by decide)) (fun h32 => ?_)
      refine r_ic hP c113_35 ?_
      refine r_goto hP c113_36 ?_
      refine r_iadd hP c113_40 ?_
      refine r_ti (y := nI (q.2 + 1)) (nI_1 _) ?_
      refine r_pI hP c113_41 (zj119 hKb) ?_
      refine r_ic hP c113_44 ?_
      refine r_is (ls' := [.ref 119, .int (nI many), .int (nI k), .int 1, .int 0, v5]) hP c113_45 (Nat.le_of_ble_eq_true rfl) rfl ?_
      refine r_ic hP c113_47 ?_
      refine r_is (ls' := [.ref 119, .int (nI many), .int (nI k), .int 1, .int 0, .int 0]) hP c113_48 (Nat.le_of_ble_eq_true rfl) rfl ?_
      obtain ⟨qq, hqq⟩ : ∃ qq, qq = zn_q (zto T len) q.2 := ⟨_, rfl⟩
      have hqe : qq = q.2 + 1 := by rw [hqq, zn_q, if_pos hm]
      rw [← hqe]
      refine y_fig_d (q := qq) (k := k) hP hKb hRb (zTm_to (zTm_fZ hT hacc.1) (zup_n _ _ _ _ (by decide)) (fun k => zup_n _ _ _ _ (by omega))) hl h256 (by omega) (fun I2 h1 h2 => ?_) 0 (Nat.zero_le _) _ ⟨fun _ _ _ => rfl, zup_s _ _ _ _, (Nat.zero_add _).symm⟩
      have hfZ : zfZ I I2 := fun a k q1 q2 => (h1 a k q1).trans ((zup_n _ _ _ _ q1).trans (hacc.1 a k q1 q2))
      have hn4 : zcn (zto T len) qq 4 ≤ 4 := zcn_le _ 4 _
      have hb9 := zva_b4 (t := (zto T len)) (q := qq) (zto_b h256) (zcn (zto T len) qq 4) hn4
      refine r_il hP c113_112 rfl ?_
      refine r_i2l hP c113_114 ?_
      refine r_lc hP c113_115 ?_
      refine r_lc hP c113_116 ?_
      refine r_cSi (as := [.long ((nI (zcn (zto T len) qq 4)).toInt64), .long 1, .long 3]) (r := []) (I' := I2) (L' := L) (R' := R) (x := if 1 ≤ (nI (zcn (zto T len) qq 4)).toInt64 ∧ (nI (zcn (zto T len) qq 4)).toInt64 ≤ 3 then 1 else 0) hP c113_119 rfl rfl (fun _ h2 => x_isIn hP h2) ?_
      refine r_ti (y := if 1 ≤ (nI (zcn (zto T len) qq 4)) ∧ (nI (zcn (zto T len) qq 4)) ≤ 3 then 1 else 0) (zisC rfl rfl) ?_
      refine r_ifeqB hP c113_122 (fun h122 => ?_) (fun h122 => ?_)
      · refine r_ic hP c113_159 ?_
        first
          | (have hno : zns (zto T len) many p many = none := (by have hz := zns_nn (zns_n hacc.2.1 (znm_f1 (by rw [← hqq]; exact fun z => h122 ((zn13 (by omega)).mpr z)) (by by_cases z : k + 1 < many; exact Or.inl (if_pos z); exact Or.inr (if_neg z)))) (many - (k + 1)); rw [show k + 1 + (many - (k + 1)) = many from by omega] at hz; exact hz)
             exact r_zr0 hP c113_160 (by rw [hno]; decide) (h _ hfZ (fun q q1 => by rw [hno] at q1; cases q1)))
          | (have hno : zns (zto T len) many p many = none := (by have hz := zns_nn (zns_n hacc.2.1 (znm_f2 (by rw [← hqq]; exact ((zn13 (by omega)).mp h122).2) hm (by rw [← hqq]; exact (nI_eq (b := 0) (by omega) (by decide)).mp h131))) (many - (k + 1)); rw [show k + 1 + (many - (k + 1)) = many from by omega] at hz; exact hz)
             exact r_zr0 hP c113_160 (by rw [hno]; decide) (h _ hfZ (fun q q1 => by rw [hno] at q1; cases q1)))
          | (have hno : zns (zto T len) many p many = none := (by have hz := zns_nn (zns_n hacc.2.1 (znm_f3 (by rw [← hqq]; exact ((zn13 (by omega)).mp h122).2) (by rw [← hqq]; exact hsep))) (many - (k + 1)); rw [show k + 1 + (many - (k + 1)) = many from by omega] at hz; exact hz)
             exact r_zr0 hP c113_160 (by rw [hno]; decide) (h _ hfZ (fun q q1 => by rw [hno] at q1; cases q1)))
      · refine r_il hP c113_125 rfl ?_
        refine r_ifeq hP c113_126 (fun h126 => absurd h126 (by decide)) (fun h126 => ?_)
        refine r_il hP c113_129 rfl ?_
        refine r_ifeq hP c113_131 (fun h131 => ?_) (fun h131 => ?_)
        · refine r_ic hP c113_159 ?_
          first
            | (have hno : zns (zto T len) many p many = none := (by have hz := zns_nn (zns_n hacc.2.1 (znm_f1 (by rw [← hqq]; exact fun z => h122 ((zn13 (by omega)).mpr z)) (by by_cases z : k + 1 < many; exact Or.inl (if_pos z); exact Or.inr (if_neg z)))) (many - (k + 1)); rw [show k + 1 + (many - (k + 1)) = many from by omega] at hz; exact hz)
               exact r_zr0 hP c113_160 (by rw [hno]; decide) (h _ hfZ (fun q q1 => by rw [hno] at q1; cases q1)))
            | (have hno : zns (zto T len) many p many = none := (by have hz := zns_nn (zns_n hacc.2.1 (znm_f2 (by rw [← hqq]; exact ((zn13 (by omega)).mp h122).2) hm (by rw [← hqq]; exact (nI_eq (b := 0) (by omega) (by decide)).mp h131))) (many - (k + 1)); rw [show k + 1 + (many - (k + 1)) = many from by omega] at hz; exact hz)
               exact r_zr0 hP c113_160 (by rw [hno]; decide) (h _ hfZ (fun q q1 => by rw [hno] at q1; cases q1)))
            | (have hno : zns (zto T len) many p many = none := (by have hz := zns_nn (zns_n hacc.2.1 (znm_f3 (by rw [← hqq]; exact ((zn13 (by omega)).mp h122).2) (by rw [← hqq]; exact hsep))) (many - (k + 1)); rw [show k + 1 + (many - (k + 1)) = many from by omega] at hz; exact hz)
               exact r_zr0 hP c113_160 (by rw [hno]; decide) (h _ hfZ (fun q q1 => by rw [hno] at q1; cases q1)))
        · refine r_al hP c113_134 rfl ?_
          refine r_al hP c113_135 rfl ?_
          refine r_gI (x := nI (qq + zcn (zto T len) qq 4)) hP c113_136 (zj119 hKb) h2 ?_
          refine r_cVi (as := [.int (nI (qq + zcn (zto T len) qq 4))]) (r := []) (I' := I2) (L' := L) (R' := R) (x := nI (zto T len (qq + zcn (zto T len) qq 4))) (a := 119) hP c113_139 rfl (zj119 hKb) rfl (fun _ hq => y_byteAt hP hKb hRb (zTm_fZ hT hfZ) hl (p := qq + zcn (zto T len) qq 4) (by omega) hq) ?_
          refine r_il hP c113_142 rfl ?_
          refine r_il hP c113_143 rfl ?_
          refine r_ic hP c113_144 ?_
          refine r_isub hP c113_145 ?_
          refine r_ti (y := nI (many - 1)) (pk_sub (b := 1) (by omega)) ?_
          refine r_ige hP c113_146 (fun h146 => ?_) (fun h146 => ?_)
          · have hk1 : ¬ k + 1 < many := by
              have := (nI_leI (a := many - 1) (b := k) (by omega) (by omega)).mp h146
              omega
            refine r_ic hP c113_154 ?_
            refine r_ieq hP c113_156 (fun h156 => ?_) (fun h156 => ?_)
            · have hsep :  (zto T len (qq + zcn (zto T len) qq 4) = (if k + 1 < many then 44 else 59)) := by
                first
                  | (rw [if_neg (show ¬ k + 1 < many from by omega)]; exact (nI_eq (b := 59) (by have := zto_b (len := len) h256 (qq + zcn (zto T len) qq 4); omega) (by decide)).mp h156)
                  | (rw [if_pos (show k + 1 < many from by omega)]; exact (nI_eq (b := 44) (by have := zto_b (len := len) h256 (qq + zcn (zto T len) qq 4); omega) (by decide)).mp h156)
              refine r_al hP c113_161 rfl ?_
              refine r_gR (x := 148) hP c113_162 (zj119 hKb) (zr119_31 hRb) ?_
              refine r_il hP c113_165 rfl ?_
              refine r_il hP c113_166 rfl ?_
              refine r_ifeq hP c113_167 (fun h167 => absurd h167 (by decide)) (fun h167 => ?_)
              refine r_il hP c113_170 rfl ?_
              refine r_ineg hP c113_172 ?_
              refine r_goto hP c113_173 ?_
              refine r_iast (j := k) hP c113_178 (zk148 hKb) rfl (by omega) ?_
              refine r_al hP c113_179 rfl ?_
              refine r_dup hP c113_180 rfl ?_
              refine r_gI (x := nI (qq + zcn (zto T len) qq 4)) hP c113_181 (zj119 hKb) ((zup_n _ _ _ _ (by omega)).trans h2) ?_
              refine r_ic hP c113_184 ?_
              refine r_iadd hP c113_185 ?_
              refine r_ti (y := nI (qq + zcn (zto T len) qq 4 + 1)) (nI_1 _) ?_
              refine r_pI hP c113_186 (zj119 hKb) ?_
              refine r_inc (y := nI (k + 1)) (ls' := [.ref 119, .int (nI many), .int (nI (k + 1)), .int 1, .int (nI (zcn (zto T len) qq 4)), .int (nI (zva (zto T len) qq (zcn (zto T len) qq 4)))]) hP c113_189 rfl (nI_1 _) rfl ?_
              refine r_goto hP c113_192 ?_
              have hsm := znm_s (t := (zto T len)) (p := q.2) (d := (if k + 1 < many then 44 else 59)) (by rw [← hqq]; exact ((zn13 (by omega)).mp h122).1) (by rw [← hqq]; exact ((zn13 (by omega)).mp h122).2) (fun _ z => h131 (by rw [← hqq] at z; rw [z]; rfl)) (by rw [← hqq]; exact hsep)
              rw [if_pos hm, ← hqq] at hsm
              have hns := zns_s hacc.2.1 hsm
              exact ih hlt _ _ _ _ _ ⟨fun a k2 q1 q2 => (zup_n _ _ _ _ q1).trans ((zup_na _ _ _ _ q2).trans (hfZ a k2 q1 q2)), hns, zup_s _ _ _ _, fun j hj => by
                show _ = if j = k then _ else _
                rw [zup_n _ _ _ _ (by omega)]
                by_cases z : j = k
                · subst z
                  rw [if_pos rfl, zup_s]
                · rw [if_neg z, zup_nk _ _ _ _ z, h1 148 j (by omega), zup_n _ _ _ _ (by omega)]
                  exact hacc.2.2.2 j (by omega)⟩
            · have hsep : ¬ (zto T len (qq + zcn (zto T len) qq 4) = (if k + 1 < many then 44 else 59)) := by
                first
                  | (rw [if_neg (show ¬ k + 1 < many from by omega)]; exact fun z => h156 (by rw [z]; rfl))
                  | (rw [if_pos (show k + 1 < many from by omega)]; exact fun z => h156 (by rw [z]; rfl))
              refine r_ic hP c113_159 ?_
              first
                | (have hno : zns (zto T len) many p many = none := (by have hz := zns_nn (zns_n hacc.2.1 (znm_f1 (by rw [← hqq]; exact fun z => h122 ((zn13 (by omega)).mpr z)) (by by_cases z : k + 1 < many; exact Or.inl (if_pos z); exact Or.inr (if_neg z)))) (many - (k + 1)); rw [show k + 1 + (many - (k + 1)) = many from by omega] at hz; exact hz)
                   exact r_zr0 hP c113_160 (by rw [hno]; decide) (h _ hfZ (fun q q1 => by rw [hno] at q1; cases q1)))
                | (have hno : zns (zto T len) many p many = none := (by have hz := zns_nn (zns_n hacc.2.1 (znm_f2 (by rw [← hqq]; exact ((zn13 (by omega)).mp h122).2) hm (by rw [← hqq]; exact (nI_eq (b := 0) (by omega) (by decide)).mp h131))) (many - (k + 1)); rw [show k + 1 + (many - (k + 1)) = many from by omega] at hz; exact hz)
                   exact r_zr0 hP c113_160 (by rw [hno]; decide) (h _ hfZ (fun q q1 => by rw [hno] at q1; cases q1)))
                | (have hno : zns (zto T len) many p many = none := (by have hz := zns_nn (zns_n hacc.2.1 (znm_f3 (by rw [← hqq]; exact ((zn13 (by omega)).mp h122).2) (by rw [← hqq]; exact hsep))) (many - (k + 1)); rw [show k + 1 + (many - (k + 1)) = many from by omega] at hz; exact hz)
                   exact r_zr0 hP c113_160 (by rw [hno]; decide) (h _ hfZ (fun q q1 => by rw [hno] at q1; cases q1)))
          · have hk1 : k + 1 < many := by
              have := (not_congr (nI_leI (a := many - 1) (b := k) (by omega) (by omega))).mp h146
              omega
            refine r_ic hP c113_149 ?_
            refine r_goto hP c113_151 ?_
            refine r_ieq hP c113_156 (fun h156 => ?_) (fun h156 => ?_)
            · have hsep :  (zto T len (qq + zcn (zto T len) qq 4) = (if k + 1 < many then 44 else 59)) := by
                first
                  | (rw [if_neg (show ¬ k + 1 < many from by omega)]; exact (nI_eq (b := 59) (by have := zto_b (len := len) h256 (qq + zcn (zto T len) qq 4); omega) (by decide)).mp h156)
                  | (rw [if_pos (show k + 1 < many from by omega)]; exact (nI_eq (b := 44) (by have := zto_b (len := len) h256 (qq + zcn (zto T len) qq 4); omega) (by decide)).mp h156)
              refine r_al hP c113_161 rfl ?_
              refine r_gR (x := 148) hP c113_162 (zj119 hKb) (zr119_31 hRb) ?_
              refine r_il hP c113_165 rfl ?_
              refine r_il hP c113_166 rfl ?_
              refine r_ifeq hP c113_167 (fun h167 => absurd h167 (by decide)) (fun h167 => ?_)
              refine r_il hP c113_170 rfl ?_
              refine r_ineg hP c113_172 ?_
              refine r_goto hP c113_173 ?_
              refine r_iast (j := k) hP c113_178 (zk148 hKb) rfl (by omega) ?_
              refine r_al hP c113_179 rfl ?_
              refine r_dup hP c113_180 rfl ?_
              refine r_gI (x := nI (qq + zcn (zto T len) qq 4)) hP c113_181 (zj119 hKb) ((zup_n _ _ _ _ (by omega)).trans h2) ?_
              refine r_ic hP c113_184 ?_
              refine r_iadd hP c113_185 ?_
              refine r_ti (y := nI (qq + zcn (zto T len) qq 4 + 1)) (nI_1 _) ?_
              refine r_pI hP c113_186 (zj119 hKb) ?_
              refine r_inc (y := nI (k + 1)) (ls' := [.ref 119, .int (nI many), .int (nI (k + 1)), .int 1, .int (nI (zcn (zto T len) qq 4)), .int (nI (zva (zto T len) qq (zcn (zto T len) qq 4)))]) hP c113_189 rfl (nI_1 _) rfl ?_
              refine r_goto hP c113_192 ?_
              have hsm := znm_s (t := (zto T len)) (p := q.2) (d := (if k + 1 < many then 44 else 59)) (by rw [← hqq]; exact ((zn13 (by omega)).mp h122).1) (by rw [← hqq]; exact ((zn13 (by omega)).mp h122).2) (fun _ z => h131 (by rw [← hqq] at z; rw [z]; rfl)) (by rw [← hqq]; exact hsep)
              rw [if_pos hm, ← hqq] at hsm
              have hns := zns_s hacc.2.1 hsm
              exact ih hlt _ _ _ _ _ ⟨fun a k2 q1 q2 => (zup_n _ _ _ _ q1).trans ((zup_na _ _ _ _ q2).trans (hfZ a k2 q1 q2)), hns, zup_s _ _ _ _, fun j hj => by
                show _ = if j = k then _ else _
                rw [zup_n _ _ _ _ (by omega)]
                by_cases z : j = k
                · subst z
                  rw [if_pos rfl, zup_s]
                · rw [if_neg z, zup_nk _ _ _ _ z, h1 148 j (by omega), zup_n _ _ _ _ (by omega)]
                  exact hacc.2.2.2 j (by omega)⟩
            · have hsep : ¬ (zto T len (qq + zcn (zto T len) qq 4) = (if k + 1 < many then 44 else 59)) := by
                first
                  | (rw [if_neg (show ¬ k + 1 < many from by omega)]; exact fun z => h156 (by rw [z]; rfl))
                  | (rw [if_pos (show k + 1 < many from by omega)]; exact fun z => h156 (by rw [z]; rfl))
              refine r_ic hP c113_159 ?_
              first
                | (have hno : zns (zto T len) many p many = none := (by have hz := zns_nn (zns_n hacc.2.1 (znm_f1 (by rw [← hqq]; exact fun z => h122 ((zn13 (by omega)).mpr z)) (by by_cases z : k + 1 < many; exact Or.inl (if_pos z); exact Or.inr (if_neg z)))) (many - (k + 1)); rw [show k + 1 + (many - (k + 1)) = many from by omega] at hz; exact hz)
                   exact r_zr0 hP c113_160 (by rw [hno]; decide) (h _ hfZ (fun q q1 => by rw [hno] at q1; cases q1)))
                | (have hno : zns (zto T len) many p many = none := (by have hz := zns_nn (zns_n hacc.2.1 (znm_f2 (by rw [← hqq]; exact ((zn13 (by omega)).mp h122).2) hm (by rw [← hqq]; exact (nI_eq (b := 0) (by omega) (by decide)).mp h131))) (many - (k + 1)); rw [show k + 1 + (many - (k + 1)) = many from by omega] at hz; exact hz)
                   exact r_zr0 hP c113_160 (by rw [hno]; decide) (h _ hfZ (fun q q1 => by rw [hno] at q1; cases q1)))
                | (have hno : zns (zto T len) many p many = none := (by have hz := zns_nn (zns_n hacc.2.1 (znm_f3 (by rw [← hqq]; exact ((zn13 (by omega)).mp h122).2) (by rw [← hqq]; exact hsep))) (many - (k + 1)); rw [show k + 1 + (many - (k + 1)) = many from by omega] at hz; exact hz)
                   exact r_zr0 hP c113_160 (by rw [hno]; decide) (h _ hfZ (fun q q1 => by rw [hno] at q1; cases q1)))
set_option maxRecDepth 4000 in
theorem y_figures {K : ZKh} {P : Nat → Nat → List Value → List Value → ZMi → ZMl → ZMr → ZRt → Prop} {I : ZMi} {L : ZMl} {R : ZMr} {Q : ZRt} (hP : ZCl K P) (hKb : zKb K) (hRb : zRb R) {len : Nat} {T : Nat → Nat} (hT : zTm I len T) (hl : len ≤ 400) (h256 : ∀ i, T i < 256) {many p : Nat} (hm5 : many ≤ 5) (hp : p ≤ 500) (hpl : I 119 30 = nI p) (h : ∀ I2, zfZ I I2 → (∀ q, zns (zto T len) many p many = some q → I2 119 30 = nI q.2 ∧ ∀ j, j < many → I2 148 j = q.1 j) → Q (some (.int (if (zns (zto T len) many p many).isSome = true then 1 else 0))) I2 L R) : P 113 0 [.ref 119, .int (nI many), .null, .null, .null, .null] [] I L R Q := by
  refine r_ic hP c113_0 ?_
  refine r_is (ls' := [.ref 119, .int (nI many), .int 0, .null, .null, .null]) hP c113_1 (Nat.le_of_ble_eq_true rfl) rfl ?_
  exact y_fig_k hP hKb hRb hT hl h256 hm5 hp h 0 (Nat.zero_le _) _ _ _ _ _ ⟨fun _ _ _ _ => rfl, rfl, hpl, fun j hj => absurd hj (Nat.not_lt_zero j)⟩
