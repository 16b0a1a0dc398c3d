/-! ===== the model: an item, the whole text, fault, lay ===== -/
set_option maxRecDepth 4000 in
theorem y_item {K : ZKh} {P : Nat → Nat → List Value → List Value → ZMi → ZMl → ZMr → ZRt → Prop} {I : ZMi} {L : ZMl} {R : ZMr} {Q : ZRt} (hP : ZCl K P) (hKb : zKb K) (hRb : zRb R) {len : Nat} {T : Nat → Nat} (hT : zTm I len T) (hl : len ≤ 400) (h256 : ∀ i, T i < 256) {S : ZS} {nS nP nW nL nM : Nat} (hE : zE I (S, nS, nP, nW, nL, nM)) (hub : zUb (S, nS, nP, nW, nL, nM)) {p : Nat} (hpl : I 119 30 = nI p) (hp : p < len) (h : ∀ I2, zfV I I2 → (∀ r, zit (zto T len) p (S, nS, nP, nW, nL, nM) = some r → zE I2 r.1 ∧ I2 119 30 = nI r.2) → Q (some (.int (if (zit (zto T len) p (S, nS, nP, nW, nL, nM)).isSome = true then 1 else 0))) I2 L R) : P 121 0 [.ref 119, .null] [] I L R Q := by
  refine r_al hP c121_0 rfl ?_
  refine r_al hP c121_1 rfl ?_
  refine r_gI (x := nI p) hP c121_2 (zj119 hKb) hpl ?_
  refine r_cVi (as := [.int (nI p)]) (r := []) (I' := I) (L' := L) (R' := R) (x := nI (zto T len p)) (a := 119) hP c121_5 rfl (zj119 hKb) rfl (fun _ hq => y_byteAt hP hKb hRb hT hl (p := p) (by omega) hq) ?_
  refine r_is (ls' := [.ref 119, .int (nI (zto T len p))]) hP c121_8 (Nat.le_of_ble_eq_true rfl) rfl ?_
  refine r_al hP c121_9 rfl ?_
  refine r_dup hP c121_10 rfl ?_
  refine r_gI (x := nI p) hP c121_11 (zj119 hKb) hpl ?_
  refine r_ic hP c121_14 ?_
  refine r_iadd hP c121_15 ?_
  refine r_ti (y := nI (p + 1)) (nI_1 _) ?_
  refine r_pI hP c121_16 (zj119 hKb) ?_
  have hJ : zfV I (zup I 119 30 (nI (p + 1))) := zfV_Z (fun a k q1 q2 => zup_n _ _ _ _ q1)
  have hTJ : zTm (zup I 119 30 (nI (p + 1))) len T := zTm_fV hT hJ
  have hEJ : zE (zup I 119 30 (nI (p + 1))) (S, nS, nP, nW, nL, nM) := zE_to hE (fun a h1 h2 k => zup_n _ _ _ _ (by omega))
  refine r_il hP c121_19 rfl ?_
  refine r_sw hP c121_20 ?_
  refine zsw_c (fun h20_0 => ?_) (fun h20_0 => ?_)
  · have hc : zto T len p = 99 := (nI_eq (b := 99) (by have := zto_b (len := len) h256 p; omega) (by decide)).mp h20_0
    have hzi : zit (zto T len) p (S, nS, nP, nW, nL, nM) = zi2 (zto T len) 2 (p + 1) (S, nS, nP, nW, nL, nM) 99 := by
      rw [zit_i2, hc, if_neg (by decide)]; rfl
    rw [hzi] at h
    exact y_it_c (p := p + 1) hP hKb hRb hTJ hl h256 hEJ hub (zup_s _ _ _ _) (by omega) (fun I2 a b => h I2 (zfV_t hJ a) b)
  refine zsw_c (fun h20_1 => ?_) (fun h20_1 => ?_)
  · have hc : zto T len p = 100 := (nI_eq (b := 100) (by have := zto_b (len := len) h256 p; omega) (by decide)).mp h20_1
    have hz1 : zmy (zto T len p) = 0 := by rw [hc]; decide
    refine r_ic hP c121_420 ?_
    first
      | (have hz0 : zmy (zto T len p) = 0 := hz1
         have hno : zit (zto T len) p (S, nS, nP, nW, nL, nM) = none := by rw [zit_i2, if_pos hz0]
         exact r_zr0 hP c121_421 (by rw [hno]; decide) (h _ hJ (fun r z => by rw [hno] at z; cases z)))
      | (have hz0 : zmy (zto T len p) = 0 := by
           exact zmy_no (fun n n1 n2 z => by
             have hn : n = 99 ∨ n = 100 ∨ n = 101 ∨ n = 102 ∨ n = 103 ∨ n = 104 ∨ n = 105 ∨ n = 106 ∨ n = 107 ∨ n = 108 ∨ n = 109 ∨ n = 110 ∨ n = 111 ∨ n = 112 ∨ n = 113 ∨ n = 114 ∨ n = 115 ∨ n = 116 ∨ n = 117 ∨ n = 118 := by omega
             rcases hn with rfl | rfl | rfl | rfl | rfl | rfl | rfl | rfl | rfl | rfl | rfl | rfl | rfl | rfl | rfl | rfl | rfl | rfl | rfl | rfl
             · exact h20_0 (by rw [z]; rfl)
             · exact h20_1 (by rw [z]; rfl)
             · exact h20_2 (by rw [z]; rfl)
             · exact h20_3 (by rw [z]; rfl)
             · exact h20_4 (by rw [z]; rfl)
             · exact h20_5 (by rw [z]; rfl)
             · exact h20_6 (by rw [z]; rfl)
             · exact h20_7 (by rw [z]; rfl)
             · exact h20_8 (by rw [z]; rfl)
             · exact h20_9 (by rw [z]; rfl)
             · exact h20_10 (by rw [z]; rfl)
             · exact h20_11 (by rw [z]; rfl)
             · exact h20_12 (by rw [z]; rfl)
             · exact h20_13 (by rw [z]; rfl)
             · exact h20_14 (by rw [z]; rfl)
             · exact h20_15 (by rw [z]; rfl)
             · exact h20_16 (by rw [z]; rfl)
             · exact h20_17 (by rw [z]; rfl)
             · exact h20_18 (by rw [z]; rfl)
             · exact h20_19 (by rw [z]; rfl))
         have hno : zit (zto T len) p (S, nS, nP, nW, nL, nM) = none := by rw [zit_i2, if_pos hz0]
         exact r_zr0 hP c121_421 (by rw [hno]; decide) (h _ hJ (fun r z => by rw [hno] at z; cases z)))
  refine zsw_c (fun h20_2 => ?_) (fun h20_2 => ?_)
  · have hc : zto T len p = 101 := (nI_eq (b := 101) (by have := zto_b (len := len) h256 p; omega) (by decide)).mp h20_2
    have hzi : zit (zto T len) p (S, nS, nP, nW, nL, nM) = zi2 (zto T len) 2 (p + 1) (S, nS, nP, nW, nL, nM) 101 := by
      rw [zit_i2, hc, if_neg (by decide)]; rfl
    rw [hzi] at h
    exact y_it_e (p := p + 1) hP hKb hRb hTJ hl h256 hEJ hub (zup_s _ _ _ _) (by omega) (fun I2 a b => h I2 (zfV_t hJ a) b)
  refine zsw_c (fun h20_3 => ?_) (fun h20_3 => ?_)
  · have hc : zto T len p = 102 := (nI_eq (b := 102) (by have := zto_b (len := len) h256 p; omega) (by decide)).mp h20_3
    have hzi : zit (zto T len) p (S, nS, nP, nW, nL, nM) = zi2 (zto T len) 3 (p + 1) (S, nS, nP, nW, nL, nM) 102 := by
      rw [zit_i2, hc, if_neg (by decide)]; rfl
    rw [hzi] at h
    refine r_al hP c121_136 rfl ?_
    refine r_cVip (as := []) (r := []) (a := 119) hP c121_137 rfl (zj119 hKb) rfl (fun z I2 L2 R2 => (z = (if (zi2 (zto T len) 3 (p + 1) (S, nS, nP, nW, nL, nM) 102).isSome = true then 1 else 0) ∧ zfV (zup I 119 30 (nI (p + 1))) I2 ∧ (∀ r, zi2 (zto T len) 3 (p + 1) (S, nS, nP, nW, nL, nM) 102 = some r → zE I2 r.1 ∧ I2 119 30 = nI r.2)) ∧ L = L2 ∧ R = R2) (fun Q2 hq => y_wayItem (p := p + 1) hP hKb hRb hTJ hl h256 hEJ hub (zup_s _ _ _ _) (by omega) (fun I2 a b => hq _ I2 L R ⟨⟨rfl, a, b⟩, rfl, rfl⟩)) ?_
    rintro zz I2 L2 R2 ⟨⟨rfl, ha, hb⟩, rfl, rfl⟩
    exact r_zrB hP c121_140 (h _ (zfV_t hJ ha) hb)
  refine zsw_c (fun h20_4 => ?_) (fun h20_4 => ?_)
  · have hc : zto T len p = 103 := (nI_eq (b := 103) (by have := zto_b (len := len) h256 p; omega) (by decide)).mp h20_4
    have hz1 : zmy (zto T len p) = 0 := by rw [hc]; decide
    refine r_ic hP c121_420 ?_
    first
      | (have hz0 : zmy (zto T len p) = 0 := hz1
         have hno : zit (zto T len) p (S, nS, nP, nW, nL, nM) = none := by rw [zit_i2, if_pos hz0]
         exact r_zr0 hP c121_421 (by rw [hno]; decide) (h _ hJ (fun r z => by rw [hno] at z; cases z)))
      | (have hz0 : zmy (zto T len p) = 0 := by
           exact zmy_no (fun n n1 n2 z => by
             have hn : n = 99 ∨ n = 100 ∨ n = 101 ∨ n = 102 ∨ n = 103 ∨ n = 104 ∨ n = 105 ∨ n = 106 ∨ n = 107 ∨ n = 108 ∨ n = 109 ∨ n = 110 ∨ n = 111 ∨ n = 112 ∨ n = 113 ∨ n = 114 ∨ n = 115 ∨ n = 116 ∨ n = 117 ∨ n = 118 := by omega
             rcases hn with rfl | rfl | rfl | rfl | rfl | rfl | rfl | rfl | rfl | rfl | rfl | rfl | rfl | rfl | rfl | rfl | rfl | rfl | rfl | rfl
             · exact h20_0 (by rw [z]; rfl)
             · exact h20_1 (by rw [z]; rfl)
             · exact h20_2 (by rw [z]; rfl)
             · exact h20_3 (by rw [z]; rfl)
             · exact h20_4 (by rw [z]; rfl)
             · exact h20_5 (by rw [z]; rfl)
             · exact h20_6 (by rw [z]; rfl)
             · exact h20_7 (by rw [z]; rfl)
             · exact h20_8 (by rw [z]; rfl)
             · exact h20_9 (by rw [z]; rfl)
             · exact h20_10 (by rw [z]; rfl)
             · exact h20_11 (by rw [z]; rfl)
             · exact h20_12 (by rw [z]; rfl)
             · exact h20_13 (by rw [z]; rfl)
             · exact h20_14 (by rw [z]; rfl)
             · exact h20_15 (by rw [z]; rfl)
             · exact h20_16 (by rw [z]; rfl)
             · exact h20_17 (by rw [z]; rfl)
             · exact h20_18 (by rw [z]; rfl)
             · exact h20_19 (by rw [z]; rfl))
         have hno : zit (zto T len) p (S, nS, nP, nW, nL, nM) = none := by rw [zit_i2, if_pos hz0]
         exact r_zr0 hP c121_421 (by rw [hno]; decide) (h _ hJ (fun r z => by rw [hno] at z; cases z)))
  refine zsw_c (fun h20_5 => ?_) (fun h20_5 => ?_)
  · have hc : zto T len p = 104 := (nI_eq (b := 104) (by have := zto_b (len := len) h256 p; omega) (by decide)).mp h20_5
    have hzi : zit (zto T len) p (S, nS, nP, nW, nL, nM) = zi2 (zto T len) 3 (p + 1) (S, nS, nP, nW, nL, nM) 104 := by
      rw [zit_i2, hc, if_neg (by decide)]; rfl
    rw [hzi] at h
    refine r_al hP c121_126 rfl ?_
    refine r_cVip (as := []) (r := []) (a := 119) hP c121_127 rfl (zj119 hKb) rfl (fun z I2 L2 R2 => (z = (if (zi2 (zto T len) 3 (p + 1) (S, nS, nP, nW, nL, nM) 104).isSome = true then 1 else 0) ∧ zfV (zup I 119 30 (nI (p + 1))) I2 ∧ (∀ r, zi2 (zto T len) 3 (p + 1) (S, nS, nP, nW, nL, nM) 104 = some r → zE I2 r.1 ∧ I2 119 30 = nI r.2)) ∧ L = L2 ∧ R = R2) (fun Q2 hq => y_letItem (p := p + 1) hP hKb hRb hTJ hl h256 hEJ hub (zup_s _ _ _ _) (by omega) (fun I2 a b => hq _ I2 L R ⟨⟨rfl, a, b⟩, rfl, rfl⟩)) ?_
    rintro zz I2 L2 R2 ⟨⟨rfl, ha, hb⟩, rfl, rfl⟩
    exact r_zrB hP c121_130 (h _ (zfV_t hJ ha) hb)
  refine zsw_c (fun h20_6 => ?_) (fun h20_6 => ?_)
  · have hc : zto T len p = 105 := (nI_eq (b := 105) (by have := zto_b (len := len) h256 p; omega) (by decide)).mp h20_6
    have hz1 : zmy (zto T len p) = 0 := by rw [hc]; decide
    refine r_ic hP c121_420 ?_
    first
      | (have hz0 : zmy (zto T len p) = 0 := hz1
         have hno : zit (zto T len) p (S, nS, nP, nW, nL, nM) = none := by rw [zit_i2, if_pos hz0]
         exact r_zr0 hP c121_421 (by rw [hno]; decide) (h _ hJ (fun r z => by rw [hno] at z; cases z)))
      | (have hz0 : zmy (zto T len p) = 0 := by
           exact zmy_no (fun n n1 n2 z => by
             have hn : n = 99 ∨ n = 100 ∨ n = 101 ∨ n = 102 ∨ n = 103 ∨ n = 104 ∨ n = 105 ∨ n = 106 ∨ n = 107 ∨ n = 108 ∨ n = 109 ∨ n = 110 ∨ n = 111 ∨ n = 112 ∨ n = 113 ∨ n = 114 ∨ n = 115 ∨ n = 116 ∨ n = 117 ∨ n = 118 := by omega
             rcases hn with rfl | rfl | rfl | rfl | rfl | rfl | rfl | rfl | rfl | rfl | rfl | rfl | rfl | rfl | rfl | rfl | rfl | rfl | rfl | rfl
             · exact h20_0 (by rw [z]; rfl)
             · exact h20_1 (by rw [z]; rfl)
             · exact h20_2 (by rw [z]; rfl)
             · exact h20_3 (by rw [z]; rfl)
             · exact h20_4 (by rw [z]; rfl)
             · exact h20_5 (by rw [z]; rfl)
             · exact h20_6 (by rw [z]; rfl)
             · exact h20_7 (by rw [z]; rfl)
             · exact h20_8 (by rw [z]; rfl)
             · exact h20_9 (by rw [z]; rfl)
             · exact h20_10 (by rw [z]; rfl)
             · exact h20_11 (by rw [z]; rfl)
             · exact h20_12 (by rw [z]; rfl)
             · exact h20_13 (by rw [z]; rfl)
             · exact h20_14 (by rw [z]; rfl)
             · exact h20_15 (by rw [z]; rfl)
             · exact h20_16 (by rw [z]; rfl)
             · exact h20_17 (by rw [z]; rfl)
             · exact h20_18 (by rw [z]; rfl)
             · exact h20_19 (by rw [z]; rfl))
         have hno : zit (zto T len) p (S, nS, nP, nW, nL, nM) = none := by rw [zit_i2, if_pos hz0]
         exact r_zr0 hP c121_421 (by rw [hno]; decide) (h _ hJ (fun r z => by rw [hno] at z; cases z)))
  refine zsw_c (fun h20_7 => ?_) (fun h20_7 => ?_)
  · have hc : zto T len p = 106 := (nI_eq (b := 106) (by have := zto_b (len := len) h256 p; omega) (by decide)).mp h20_7
    have hz1 : zmy (zto T len p) = 0 := by rw [hc]; decide
    refine r_ic hP c121_420 ?_
    first
      | (have hz0 : zmy (zto T len p) = 0 := hz1
         have hno : zit (zto T len) p (S, nS, nP, nW, nL, nM) = none := by rw [zit_i2, if_pos hz0]
         exact r_zr0 hP c121_421 (by rw [hno]; decide) (h _ hJ (fun r z => by rw [hno] at z; cases z)))
      | (have hz0 : zmy (zto T len p) = 0 := by
           exact zmy_no (fun n n1 n2 z => by
             have hn : n = 99 ∨ n = 100 ∨ n = 101 ∨ n = 102 ∨ n = 103 ∨ n = 104 ∨ n = 105 ∨ n = 106 ∨ n = 107 ∨ n = 108 ∨ n = 109 ∨ n = 110 ∨ n = 111 ∨ n = 112 ∨ n = 113 ∨ n = 114 ∨ n = 115 ∨ n = 116 ∨ n = 117 ∨ n = 118 := by omega
             rcases hn with rfl | rfl | rfl | rfl | rfl | rfl | rfl | rfl | rfl | rfl | rfl | rfl | rfl | rfl | rfl | rfl | rfl | rfl | rfl | rfl
             · exact h20_0 (by rw [z]; rfl)
             · exact h20_1 (by rw [z]; rfl)
             · exact h20_2 (by rw [z]; rfl)
             · exact h20_3 (by rw [z]; rfl)
             · exact h20_4 (by rw [z]; rfl)
             · exact h20_5 (by rw [z]; rfl)
             · exact h20_6 (by rw [z]; rfl)
             · exact h20_7 (by rw [z]; rfl)
             · exact h20_8 (by rw [z]; rfl)
             · exact h20_9 (by rw [z]; rfl)
             · exact h20_10 (by rw [z]; rfl)
             · exact h20_11 (by rw [z]; rfl)
             · exact h20_12 (by rw [z]; rfl)
             · exact h20_13 (by rw [z]; rfl)
             · exact h20_14 (by rw [z]; rfl)
             · exact h20_15 (by rw [z]; rfl)
             · exact h20_16 (by rw [z]; rfl)
             · exact h20_17 (by rw [z]; rfl)
             · exact h20_18 (by rw [z]; rfl)
             · exact h20_19 (by rw [z]; rfl))
         have hno : zit (zto T len) p (S, nS, nP, nW, nL, nM) = none := by rw [zit_i2, if_pos hz0]
         exact r_zr0 hP c121_421 (by rw [hno]; decide) (h _ hJ (fun r z => by rw [hno] at z; cases z)))
  refine zsw_c (fun h20_8 => ?_) (fun h20_8 => ?_)
  · have hc : zto T len p = 107 := (nI_eq (b := 107) (by have := zto_b (len := len) h256 p; omega) (by decide)).mp h20_8
    have hzi : zit (zto T len) p (S, nS, nP, nW, nL, nM) = zi2 (zto T len) 2 (p + 1) (S, nS, nP, nW, nL, nM) 107 := by
      rw [zit_i2, hc, if_neg (by decide)]; rfl
    rw [hzi] at h
    exact y_it_k (p := p + 1) hP hKb hRb hTJ hl h256 hEJ hub (zup_s _ _ _ _) (by omega) (fun I2 a b => h I2 (zfV_t hJ a) b)
  refine zsw_c (fun h20_9 => ?_) (fun h20_9 => ?_)
  · have hc : zto T len p = 108 := (nI_eq (b := 108) (by have := zto_b (len := len) h256 p; omega) (by decide)).mp h20_9
    have hz1 : zmy (zto T len p) = 0 := by rw [hc]; decide
    refine r_ic hP c121_420 ?_
    first
      | (have hz0 : zmy (zto T len p) = 0 := hz1
         have hno : zit (zto T len) p (S, nS, nP, nW, nL, nM) = none := by rw [zit_i2, if_pos hz0]
         exact r_zr0 hP c121_421 (by rw [hno]; decide) (h _ hJ (fun r z => by rw [hno] at z; cases z)))
      | (have hz0 : zmy (zto T len p) = 0 := by
           exact zmy_no (fun n n1 n2 z => by
             have hn : n = 99 ∨ n = 100 ∨ n = 101 ∨ n = 102 ∨ n = 103 ∨ n = 104 ∨ n = 105 ∨ n = 106 ∨ n = 107 ∨ n = 108 ∨ n = 109 ∨ n = 110 ∨ n = 111 ∨ n = 112 ∨ n = 113 ∨ n = 114 ∨ n = 115 ∨ n = 116 ∨ n = 117 ∨ n = 118 := by omega
             rcases hn with rfl | rfl | rfl | rfl | rfl | rfl | rfl | rfl | rfl | rfl | rfl | rfl | rfl | rfl | rfl | rfl | rfl | rfl | rfl | rfl
             · exact h20_0 (by rw [z]; rfl)
             · exact h20_1 (by rw [z]; rfl)
             · exact h20_2 (by rw [z]; rfl)
             · exact h20_3 (by rw [z]; rfl)
             · exact h20_4 (by rw [z]; rfl)
             · exact h20_5 (by rw [z]; rfl)
             · exact h20_6 (by rw [z]; rfl)
             · exact h20_7 (by rw [z]; rfl)
             · exact h20_8 (by rw [z]; rfl)
             · exact h20_9 (by rw [z]; rfl)
             · exact h20_10 (by rw [z]; rfl)
             · exact h20_11 (by rw [z]; rfl)
             · exact h20_12 (by rw [z]; rfl)
             · exact h20_13 (by rw [z]; rfl)
             · exact h20_14 (by rw [z]; rfl)
             · exact h20_15 (by rw [z]; rfl)
             · exact h20_16 (by rw [z]; rfl)
             · exact h20_17 (by rw [z]; rfl)
             · exact h20_18 (by rw [z]; rfl)
             · exact h20_19 (by rw [z]; rfl))
         have hno : zit (zto T len) p (S, nS, nP, nW, nL, nM) = none := by rw [zit_i2, if_pos hz0]
         exact r_zr0 hP c121_421 (by rw [hno]; decide) (h _ hJ (fun r z => by rw [hno] at z; cases z)))
  refine zsw_c (fun h20_10 => ?_) (fun h20_10 => ?_)
  · have hc : zto T len p = 109 := (nI_eq (b := 109) (by have := zto_b (len := len) h256 p; omega) (by decide)).mp h20_10
    have hzi : zit (zto T len) p (S, nS, nP, nW, nL, nM) = zi2 (zto T len) 3 (p + 1) (S, nS, nP, nW, nL, nM) 109 := by
      rw [zit_i2, hc, if_neg (by decide)]; rfl
    rw [hzi] at h
    refine r_al hP c121_131 rfl ?_
    refine r_cVip (as := []) (r := []) (a := 119) hP c121_132 rfl (zj119 hKb) rfl (fun z I2 L2 R2 => (z = (if (zi2 (zto T len) 3 (p + 1) (S, nS, nP, nW, nL, nM) 109).isSome = true then 1 else 0) ∧ zfV (zup I 119 30 (nI (p + 1))) I2 ∧ (∀ r, zi2 (zto T len) 3 (p + 1) (S, nS, nP, nW, nL, nM) 109 = some r → zE I2 r.1 ∧ I2 119 30 = nI r.2)) ∧ L = L2 ∧ R = R2) (fun Q2 hq => y_comeItem (p := p + 1) hP hKb hRb hTJ hl h256 hEJ hub (zup_s _ _ _ _) (by omega) (fun I2 a b => hq _ I2 L R ⟨⟨rfl, a, b⟩, rfl, rfl⟩)) ?_
    rintro zz I2 L2 R2 ⟨⟨rfl, ha, hb⟩, rfl, rfl⟩
    exact r_zrB hP c121_135 (h _ (zfV_t hJ ha) hb)
  refine zsw_c (fun h20_11 => ?_) (fun h20_11 => ?_)
  · have hc : zto T len p = 110 := (nI_eq (b := 110) (by have := zto_b (len := len) h256 p; omega) (by decide)).mp h20_11
    have hz1 : zmy (zto T len p) = 0 := by rw [hc]; decide
    refine r_ic hP c121_420 ?_
    first
      | (have hz0 : zmy (zto T len p) = 0 := hz1
         have hno : zit (zto T len) p (S, nS, nP, nW, nL, nM) = none := by rw [zit_i2, if_pos hz0]
         exact r_zr0 hP c121_421 (by rw [hno]; decide) (h _ hJ (fun r z => by rw [hno] at z; cases z)))
      | (have hz0 : zmy (zto T len p) = 0 := by
           exact zmy_no (fun n n1 n2 z => by
             have hn : n = 99 ∨ n = 100 ∨ n = 101 ∨ n = 102 ∨ n = 103 ∨ n = 104 ∨ n = 105 ∨ n = 106 ∨ n = 107 ∨ n = 108 ∨ n = 109 ∨ n = 110 ∨ n = 111 ∨ n = 112 ∨ n = 113 ∨ n = 114 ∨ n = 115 ∨ n = 116 ∨ n = 117 ∨ n = 118 := by omega
             rcases hn with rfl | rfl | rfl | rfl | rfl | rfl | rfl | rfl | rfl | rfl | rfl | rfl | rfl | rfl | rfl | rfl | rfl | rfl | rfl | rfl
             · exact h20_0 (by rw [z]; rfl)
             · exact h20_1 (by rw [z]; rfl)
             · exact h20_2 (by rw [z]; rfl)
             · exact h20_3 (by rw [z]; rfl)
             · exact h20_4 (by rw [z]; rfl)
             · exact h20_5 (by rw [z]; rfl)
             · exact h20_6 (by rw [z]; rfl)
             · exact h20_7 (by rw [z]; rfl)
             · exact h20_8 (by rw [z]; rfl)
             · exact h20_9 (by rw [z]; rfl)
             · exact h20_10 (by rw [z]; rfl)
             · exact h20_11 (by rw [z]; rfl)
             · exact h20_12 (by rw [z]; rfl)
             · exact h20_13 (by rw [z]; rfl)
             · exact h20_14 (by rw [z]; rfl)
             · exact h20_15 (by rw [z]; rfl)
             · exact h20_16 (by rw [z]; rfl)
             · exact h20_17 (by rw [z]; rfl)
             · exact h20_18 (by rw [z]; rfl)
             · exact h20_19 (by rw [z]; rfl))
         have hno : zit (zto T len) p (S, nS, nP, nW, nL, nM) = none := by rw [zit_i2, if_pos hz0]
         exact r_zr0 hP c121_421 (by rw [hno]; decide) (h _ hJ (fun r z => by rw [hno] at z; cases z)))
  refine zsw_c (fun h20_12 => ?_) (fun h20_12 => ?_)
  · have hc : zto T len p = 111 := (nI_eq (b := 111) (by have := zto_b (len := len) h256 p; omega) (by decide)).mp h20_12
    have hz1 : zmy (zto T len p) = 0 := by rw [hc]; decide
    refine r_ic hP c121_420 ?_
    first
      | (have hz0 : zmy (zto T len p) = 0 := hz1
         have hno : zit (zto T len) p (S, nS, nP, nW, nL, nM) = none := by rw [zit_i2, if_pos hz0]
         exact r_zr0 hP c121_421 (by rw [hno]; decide) (h _ hJ (fun r z => by rw [hno] at z; cases z)))
      | (have hz0 : zmy (zto T len p) = 0 := by
           exact zmy_no (fun n n1 n2 z => by
             have hn : n = 99 ∨ n = 100 ∨ n = 101 ∨ n = 102 ∨ n = 103 ∨ n = 104 ∨ n = 105 ∨ n = 106 ∨ n = 107 ∨ n = 108 ∨ n = 109 ∨ n = 110 ∨ n = 111 ∨ n = 112 ∨ n = 113 ∨ n = 114 ∨ n = 115 ∨ n = 116 ∨ n = 117 ∨ n = 118 := by omega
             rcases hn with rfl | rfl | rfl | rfl | rfl | rfl | rfl | rfl | rfl | rfl | rfl | rfl | rfl | rfl | rfl | rfl | rfl | rfl | rfl | rfl
             · exact h20_0 (by rw [z]; rfl)
             · exact h20_1 (by rw [z]; rfl)
             · exact h20_2 (by rw [z]; rfl)
             · exact h20_3 (by rw [z]; rfl)
             · exact h20_4 (by rw [z]; rfl)
             · exact h20_5 (by rw [z]; rfl)
             · exact h20_6 (by rw [z]; rfl)
             · exact h20_7 (by rw [z]; rfl)
             · exact h20_8 (by rw [z]; rfl)
             · exact h20_9 (by rw [z]; rfl)
             · exact h20_10 (by rw [z]; rfl)
             · exact h20_11 (by rw [z]; rfl)
             · exact h20_12 (by rw [z]; rfl)
             · exact h20_13 (by rw [z]; rfl)
             · exact h20_14 (by rw [z]; rfl)
             · exact h20_15 (by rw [z]; rfl)
             · exact h20_16 (by rw [z]; rfl)
             · exact h20_17 (by rw [z]; rfl)
             · exact h20_18 (by rw [z]; rfl)
             · exact h20_19 (by rw [z]; rfl))
         have hno : zit (zto T len) p (S, nS, nP, nW, nL, nM) = none := by rw [zit_i2, if_pos hz0]
         exact r_zr0 hP c121_421 (by rw [hno]; decide) (h _ hJ (fun r z => by rw [hno] at z; cases z)))
  refine zsw_c (fun h20_13 => ?_) (fun h20_13 => ?_)
  · have hc : zto T len p = 112 := (nI_eq (b := 112) (by have := zto_b (len := len) h256 p; omega) (by decide)).mp h20_13
    have hzi : zit (zto T len) p (S, nS, nP, nW, nL, nM) = zi2 (zto T len) 5 (p + 1) (S, nS, nP, nW, nL, nM) 112 := by
      rw [zit_i2, hc, if_neg (by decide)]; rfl
    rw [hzi] at h
    refine r_al hP c121_121 rfl ?_
    refine r_cVip (as := []) (r := []) (a := 119) hP c121_122 rfl (zj119 hKb) rfl (fun z I2 L2 R2 => (z = (if (zi2 (zto T len) 5 (p + 1) (S, nS, nP, nW, nL, nM) 112).isSome = true then 1 else 0) ∧ zfV (zup I 119 30 (nI (p + 1))) I2 ∧ (∀ r, zi2 (zto T len) 5 (p + 1) (S, nS, nP, nW, nL, nM) 112 = some r → zE I2 r.1 ∧ I2 119 30 = nI r.2)) ∧ L = L2 ∧ R = R2) (fun Q2 hq => y_partItem (p := p + 1) hP hKb hRb hTJ hl h256 hEJ hub (zup_s _ _ _ _) (by omega) (fun I2 a b => hq _ I2 L R ⟨⟨rfl, a, b⟩, rfl, rfl⟩)) ?_
    rintro zz I2 L2 R2 ⟨⟨rfl, ha, hb⟩, rfl, rfl⟩
    exact r_zrB hP c121_125 (h _ (zfV_t hJ ha) hb)
  refine zsw_c (fun h20_14 => ?_) (fun h20_14 => ?_)
  · have hc : zto T len p = 113 := (nI_eq (b := 113) (by have := zto_b (len := len) h256 p; omega) (by decide)).mp h20_14
    have hz1 : zmy (zto T len p) = 0 := by rw [hc]; decide
    refine r_ic hP c121_420 ?_
    first
      | (have hz0 : zmy (zto T len p) = 0 := hz1
         have hno : zit (zto T len) p (S, nS, nP, nW, nL, nM) = none := by rw [zit_i2, if_pos hz0]
         exact r_zr0 hP c121_421 (by rw [hno]; decide) (h _ hJ (fun r z => by rw [hno] at z; cases z)))
      | (have hz0 : zmy (zto T len p) = 0 := by
           exact zmy_no (fun n n1 n2 z => by
             have hn : n = 99 ∨ n = 100 ∨ n = 101 ∨ n = 102 ∨ n = 103 ∨ n = 104 ∨ n = 105 ∨ n = 106 ∨ n = 107 ∨ n = 108 ∨ n = 109 ∨ n = 110 ∨ n = 111 ∨ n = 112 ∨ n = 113 ∨ n = 114 ∨ n = 115 ∨ n = 116 ∨ n = 117 ∨ n = 118 := by omega
             rcases hn with rfl | rfl | rfl | rfl | rfl | rfl | rfl | rfl | rfl | rfl | rfl | rfl | rfl | rfl | rfl | rfl | rfl | rfl | rfl | rfl
             · exact h20_0 (by rw [z]; rfl)
             · exact h20_1 (by rw [z]; rfl)
             · exact h20_2 (by rw [z]; rfl)
             · exact h20_3 (by rw [z]; rfl)
             · exact h20_4 (by rw [z]; rfl)
             · exact h20_5 (by rw [z]; rfl)
             · exact h20_6 (by rw [z]; rfl)
             · exact h20_7 (by rw [z]; rfl)
             · exact h20_8 (by rw [z]; rfl)
             · exact h20_9 (by rw [z]; rfl)
             · exact h20_10 (by rw [z]; rfl)
             · exact h20_11 (by rw [z]; rfl)
             · exact h20_12 (by rw [z]; rfl)
             · exact h20_13 (by rw [z]; rfl)
             · exact h20_14 (by rw [z]; rfl)
             · exact h20_15 (by rw [z]; rfl)
             · exact h20_16 (by rw [z]; rfl)
             · exact h20_17 (by rw [z]; rfl)
             · exact h20_18 (by rw [z]; rfl)
             · exact h20_19 (by rw [z]; rfl))
         have hno : zit (zto T len) p (S, nS, nP, nW, nL, nM) = none := by rw [zit_i2, if_pos hz0]
         exact r_zr0 hP c121_421 (by rw [hno]; decide) (h _ hJ (fun r z => by rw [hno] at z; cases z)))
  refine zsw_c (fun h20_15 => ?_) (fun h20_15 => ?_)
  · have hc : zto T len p = 114 := (nI_eq (b := 114) (by have := zto_b (len := len) h256 p; omega) (by decide)).mp h20_15
    have hz1 : zmy (zto T len p) = 0 := by rw [hc]; decide
    refine r_ic hP c121_420 ?_
    first
      | (have hz0 : zmy (zto T len p) = 0 := hz1
         have hno : zit (zto T len) p (S, nS, nP, nW, nL, nM) = none := by rw [zit_i2, if_pos hz0]
         exact r_zr0 hP c121_421 (by rw [hno]; decide) (h _ hJ (fun r z => by rw [hno] at z; cases z)))
      | (have hz0 : zmy (zto T len p) = 0 := by
           exact zmy_no (fun n n1 n2 z => by
             have hn : n = 99 ∨ n = 100 ∨ n = 101 ∨ n = 102 ∨ n = 103 ∨ n = 104 ∨ n = 105 ∨ n = 106 ∨ n = 107 ∨ n = 108 ∨ n = 109 ∨ n = 110 ∨ n = 111 ∨ n = 112 ∨ n = 113 ∨ n = 114 ∨ n = 115 ∨ n = 116 ∨ n = 117 ∨ n = 118 := by omega
             rcases hn with rfl | rfl | rfl | rfl | rfl | rfl | rfl | rfl | rfl | rfl | rfl | rfl | rfl | rfl | rfl | rfl | rfl | rfl | rfl | rfl
             · exact h20_0 (by rw [z]; rfl)
             · exact h20_1 (by rw [z]; rfl)
             · exact h20_2 (by rw [z]; rfl)
             · exact h20_3 (by rw [z]; rfl)
             · exact h20_4 (by rw [z]; rfl)
             · exact h20_5 (by rw [z]; rfl)
             · exact h20_6 (by rw [z]; rfl)
             · exact h20_7 (by rw [z]; rfl)
             · exact h20_8 (by rw [z]; rfl)
             · exact h20_9 (by rw [z]; rfl)
             · exact h20_10 (by rw [z]; rfl)
             · exact h20_11 (by rw [z]; rfl)
             · exact h20_12 (by rw [z]; rfl)
             · exact h20_13 (by rw [z]; rfl)
             · exact h20_14 (by rw [z]; rfl)
             · exact h20_15 (by rw [z]; rfl)
             · exact h20_16 (by rw [z]; rfl)
             · exact h20_17 (by rw [z]; rfl)
             · exact h20_18 (by rw [z]; rfl)
             · exact h20_19 (by rw [z]; rfl))
         have hno : zit (zto T len) p (S, nS, nP, nW, nL, nM) = none := by rw [zit_i2, if_pos hz0]
         exact r_zr0 hP c121_421 (by rw [hno]; decide) (h _ hJ (fun r z => by rw [hno] at z; cases z)))
  refine zsw_c (fun h20_16 => ?_) (fun h20_16 => ?_)
  · have hc : zto T len p = 115 := (nI_eq (b := 115) (by have := zto_b (len := len) h256 p; omega) (by decide)).mp h20_16
    have hzi : zit (zto T len) p (S, nS, nP, nW, nL, nM) = zi2 (zto T len) 2 (p + 1) (S, nS, nP, nW, nL, nM) 115 := by
      rw [zit_i2, hc, if_neg (by decide)]; rfl
    rw [hzi] at h
    refine r_al hP c121_116 rfl ?_
    refine r_cVip (as := []) (r := []) (a := 119) hP c121_117 rfl (zj119 hKb) rfl (fun z I2 L2 R2 => (z = (if (zi2 (zto T len) 2 (p + 1) (S, nS, nP, nW, nL, nM) 115).isSome = true then 1 else 0) ∧ zfV (zup I 119 30 (nI (p + 1))) I2 ∧ (∀ r, zi2 (zto T len) 2 (p + 1) (S, nS, nP, nW, nL, nM) 115 = some r → zE I2 r.1 ∧ I2 119 30 = nI r.2)) ∧ L = L2 ∧ R = R2) (fun Q2 hq => y_stageItem (p := p + 1) hP hKb hRb hTJ hl h256 hEJ hub (zup_s _ _ _ _) (by omega) (fun I2 a b => hq _ I2 L R ⟨⟨rfl, a, b⟩, rfl, rfl⟩)) ?_
    rintro zz I2 L2 R2 ⟨⟨rfl, ha, hb⟩, rfl, rfl⟩
    exact r_zrB hP c121_120 (h _ (zfV_t hJ ha) hb)
  refine zsw_c (fun h20_17 => ?_) (fun h20_17 => ?_)
  · have hc : zto T len p = 116 := (nI_eq (b := 116) (by have := zto_b (len := len) h256 p; omega) (by decide)).mp h20_17
    have hz1 : zmy (zto T len p) = 0 := by rw [hc]; decide
    refine r_ic hP c121_420 ?_
    first
      | (have hz0 : zmy (zto T len p) = 0 := hz1
         have hno : zit (zto T len) p (S, nS, nP, nW, nL, nM) = none := by rw [zit_i2, if_pos hz0]
         exact r_zr0 hP c121_421 (by rw [hno]; decide) (h _ hJ (fun r z => by rw [hno] at z; cases z)))
      | (have hz0 : zmy (zto T len p) = 0 := by
           exact zmy_no (fun n n1 n2 z => by
             have hn : n = 99 ∨ n = 100 ∨ n = 101 ∨ n = 102 ∨ n = 103 ∨ n = 104 ∨ n = 105 ∨ n = 106 ∨ n = 107 ∨ n = 108 ∨ n = 109 ∨ n = 110 ∨ n = 111 ∨ n = 112 ∨ n = 113 ∨ n = 114 ∨ n = 115 ∨ n = 116 ∨ n = 117 ∨ n = 118 := by omega
             rcases hn with rfl | rfl | rfl | rfl | rfl | rfl | rfl | rfl | rfl | rfl | rfl | rfl | rfl | rfl | rfl | rfl | rfl | rfl | rfl | rfl
             · exact h20_0 (by rw [z]; rfl)
             · exact h20_1 (by rw [z]; rfl)
             · exact h20_2 (by rw [z]; rfl)
             · exact h20_3 (by rw [z]; rfl)
             · exact h20_4 (by rw [z]; rfl)
             · exact h20_5 (by rw [z]; rfl)
             · exact h20_6 (by rw [z]; rfl)
             · exact h20_7 (by rw [z]; rfl)
             · exact h20_8 (by rw [z]; rfl)
             · exact h20_9 (by rw [z]; rfl)
             · exact h20_10 (by rw [z]; rfl)
             · exact h20_11 (by rw [z]; rfl)
             · exact h20_12 (by rw [z]; rfl)
             · exact h20_13 (by rw [z]; rfl)
             · exact h20_14 (by rw [z]; rfl)
             · exact h20_15 (by rw [z]; rfl)
             · exact h20_16 (by rw [z]; rfl)
             · exact h20_17 (by rw [z]; rfl)
             · exact h20_18 (by rw [z]; rfl)
             · exact h20_19 (by rw [z]; rfl))
         have hno : zit (zto T len) p (S, nS, nP, nW, nL, nM) = none := by rw [zit_i2, if_pos hz0]
         exact r_zr0 hP c121_421 (by rw [hno]; decide) (h _ hJ (fun r z => by rw [hno] at z; cases z)))
  refine zsw_c (fun h20_18 => ?_) (fun h20_18 => ?_)
  · have hc : zto T len p = 117 := (nI_eq (b := 117) (by have := zto_b (len := len) h256 p; omega) (by decide)).mp h20_18
    have hz1 : zmy (zto T len p) = 0 := by rw [hc]; decide
    refine r_ic hP c121_420 ?_
    first
      | (have hz0 : zmy (zto T len p) = 0 := hz1
         have hno : zit (zto T len) p (S, nS, nP, nW, nL, nM) = none := by rw [zit_i2, if_pos hz0]
         exact r_zr0 hP c121_421 (by rw [hno]; decide) (h _ hJ (fun r z => by rw [hno] at z; cases z)))
      | (have hz0 : zmy (zto T len p) = 0 := by
           exact zmy_no (fun n n1 n2 z => by
             have hn : n = 99 ∨ n = 100 ∨ n = 101 ∨ n = 102 ∨ n = 103 ∨ n = 104 ∨ n = 105 ∨ n = 106 ∨ n = 107 ∨ n = 108 ∨ n = 109 ∨ n = 110 ∨ n = 111 ∨ n = 112 ∨ n = 113 ∨ n = 114 ∨ n = 115 ∨ n = 116 ∨ n = 117 ∨ n = 118 := by omega
             rcases hn with rfl | rfl | rfl | rfl | rfl | rfl | rfl | rfl | rfl | rfl | rfl | rfl | rfl | rfl | rfl | rfl | rfl | rfl | rfl | rfl
             · exact h20_0 (by rw [z]; rfl)
             · exact h20_1 (by rw [z]; rfl)
             · exact h20_2 (by rw [z]; rfl)
             · exact h20_3 (by rw [z]; rfl)
             · exact h20_4 (by rw [z]; rfl)
             · exact h20_5 (by rw [z]; rfl)
             · exact h20_6 (by rw [z]; rfl)
             · exact h20_7 (by rw [z]; rfl)
             · exact h20_8 (by rw [z]; rfl)
             · exact h20_9 (by rw [z]; rfl)
             · exact h20_10 (by rw [z]; rfl)
             · exact h20_11 (by rw [z]; rfl)
             · exact h20_12 (by rw [z]; rfl)
             · exact h20_13 (by rw [z]; rfl)
             · exact h20_14 (by rw [z]; rfl)
             · exact h20_15 (by rw [z]; rfl)
             · exact h20_16 (by rw [z]; rfl)
             · exact h20_17 (by rw [z]; rfl)
             · exact h20_18 (by rw [z]; rfl)
             · exact h20_19 (by rw [z]; rfl))
         have hno : zit (zto T len) p (S, nS, nP, nW, nL, nM) = none := by rw [zit_i2, if_pos hz0]
         exact r_zr0 hP c121_421 (by rw [hno]; decide) (h _ hJ (fun r z => by rw [hno] at z; cases z)))
  refine zsw_c (fun h20_19 => ?_) (fun h20_19 => ?_)
  · have hc : zto T len p = 118 := (nI_eq (b := 118) (by have := zto_b (len := len) h256 p; omega) (by decide)).mp h20_19
    have hzi : zit (zto T len) p (S, nS, nP, nW, nL, nM) = zi2 (zto T len) 3 (p + 1) (S, nS, nP, nW, nL, nM) 118 := by
      rw [zit_i2, hc, if_neg (by decide)]; rfl
    rw [hzi] at h
    exact y_it_v (p := p + 1) hP hKb hRb hTJ hl h256 hEJ hub (zup_s _ _ _ _) (by omega) (fun I2 a b => h I2 (zfV_t hJ a) b)
  refine zsw_n ?_
  refine r_ic hP c121_420 ?_
  first
    | (have hz0 : zmy (zto T len p) = 0 := hz1
       have hno : zit (zto T len) p (S, nS, nP, nW, nL, nM) = none := by rw [zit_i2, if_pos hz0]
       exact r_zr0 hP c121_421 (by rw [hno]; decide) (h _ hJ (fun r z => by rw [hno] at z; cases z)))
    | (have hz0 : zmy (zto T len p) = 0 := by
         exact zmy_no (fun n n1 n2 z => by
           have hn : n = 99 ∨ n = 100 ∨ n = 101 ∨ n = 102 ∨ n = 103 ∨ n = 104 ∨ n = 105 ∨ n = 106 ∨ n = 107 ∨ n = 108 ∨ n = 109 ∨ n = 110 ∨ n = 111 ∨ n = 112 ∨ n = 113 ∨ n = 114 ∨ n = 115 ∨ n = 116 ∨ n = 117 ∨ n = 118 := by omega
           rcases hn with rfl | rfl | rfl | rfl | rfl | rfl | rfl | rfl | rfl | rfl | rfl | rfl | rfl | rfl | rfl | rfl | rfl | rfl | rfl | rfl
           · exact h20_0 (by rw [z]; rfl)
           · exact h20_1 (by rw [z]; rfl)
           · exact h20_2 (by rw [z]; rfl)
           · exact h20_3 (by rw [z]; rfl)
           · exact h20_4 (by rw [z]; rfl)
           · exact h20_5 (by rw [z]; rfl)
           · exact h20_6 (by rw [z]; rfl)
           · exact h20_7 (by rw [z]; rfl)
           · exact h20_8 (by rw [z]; rfl)
           · exact h20_9 (by rw [z]; rfl)
           · exact h20_10 (by rw [z]; rfl)
           · exact h20_11 (by rw [z]; rfl)
           · exact h20_12 (by rw [z]; rfl)
           · exact h20_13 (by rw [z]; rfl)
           · exact h20_14 (by rw [z]; rfl)
           · exact h20_15 (by rw [z]; rfl)
           · exact h20_16 (by rw [z]; rfl)
           · exact h20_17 (by rw [z]; rfl)
           · exact h20_18 (by rw [z]; rfl)
           · exact h20_19 (by rw [z]; rfl))
       have hno : zit (zto T len) p (S, nS, nP, nW, nL, nM) = none := by rw [zit_i2, if_pos hz0]
       exact r_zr0 hP c121_421 (by rw [hno]; decide) (h _ hJ (fun r z => by rw [hno] at z; cases z)))
set_option maxRecDepth 4000 in
theorem y_readAll_l {K : ZKh} {P : Nat → Nat → List Value → List Value → ZMi → ZMl → ZMr → ZRt → Prop} {I : ZMi} {L : ZMl} {R : ZMr} {Q : ZRt} (hP : ZCl K P) (hKb : zKb K) (hRb : zRb R) {len : Nat} {T : Nat → Nat} (hT : zTm I len T) (hl : len ≤ 400) (h256 : ∀ i, T i < 256) (h : ∀ I2, zfV I I2 → ((zrd (zto T len) len 400 0 zu0).1 = -4 → zE I2 (zrd (zto T len) len 400 0 zu0).2) → Q (some (.int (zrd (zto T len) len 400 0 zu0).1)) I2 L R) : ∀ i, i ≤ 400 → ∀ (I1 : ZMi) (p : Nat) (u : ZU) (v1 : Value), zfV I I1 ∧ I1 119 30 = nI p ∧ zE I1 u ∧ zUb u ∧ i ≤ p ∧ p ≤ 500 ∧ (zrd (zto T len) len 400 0 zu0) = zrd (zto T len) len (400 - i) p u → P 122 10 [.ref 119, v1] [] I1 L R Q := by
  refine zloop 400 (fun i => ∀ (I1 : ZMi) (p : Nat) (u : ZU) (v1 : Value), zfV I I1 ∧ I1 119 30 = nI p ∧ zE I1 u ∧ zUb u ∧ i ≤ p ∧ p ≤ 500 ∧ (zrd (zto T len) len 400 0 zu0) = zrd (zto T len) len (400 - i) p u → P 122 10 [.ref 119, v1] [] I1 L R Q) ?_
  intro i hle ih I1 p u v1 hacc
  refine r_al hP c122_10 rfl ?_
  refine r_gI (x := nI p) hP c122_11 (zj119 hKb) hacc.2.1 ?_
  refine r_al hP c122_14 rfl ?_
  refine r_gI (x := nI len) hP c122_15 (zj119 hKb) ((hacc.1 119 0 (by decide) (by decide) (by omega)).trans hT.1) ?_
  refine r_ige hP c122_18 (fun h18 => ?_) (fun h18 => ?_)
  · have hlt : len ≤ p := (nI_leI (by omega) (by omega)).mp h18
    refine r_ic hP c122_38 ?_
    have he : (zrd (zto T len) len 400 0 zu0) = (-4, u) := by rw [hacc.2.2.2.2.2.2, zrd_end hlt]
    exact r_irE hP c122_40 (h _ hacc.1 (fun z => by rw [he]; exact hacc.2.2.1)) (by rw [he])
  · have hlt : p < len := by
      rcases Nat.lt_or_ge p len with q | q
      · exact q
      · exact absurd (nI_le q (by omega)) h18
    refine r_al hP c122_21 rfl ?_
    refine r_gI (x := nI p) hP c122_22 (zj119 hKb) hacc.2.1 ?_
    refine r_is (ls' := [.ref 119, .int (nI p)]) hP c122_25 (Nat.le_of_ble_eq_true rfl) rfl ?_
    refine r_al hP c122_26 rfl ?_
    refine r_cVip (as := []) (r := []) (a := 119) hP c122_27 rfl (zj119 hKb) rfl (fun z I2 L2 R2 => (z = (if (zit (zto T len) p u).isSome = true then 1 else 0) ∧ zfV I1 I2 ∧ (∀ r, zit (zto T len) p u = some r → zE I2 r.1 ∧ I2 119 30 = nI r.2)) ∧ L = L2 ∧ R = R2) (fun Q2 hq => y_item (p := p) (S := u.1) (nS := u.2.1) (nP := u.2.2.1) (nW := u.2.2.2.1) (nL := u.2.2.2.2.1) (nM := u.2.2.2.2.2) hP hKb hRb (zTm_fV hT hacc.1) hl h256 hacc.2.2.1 hacc.2.2.2.1 hacc.2.1 hlt (fun I2 a b => hq _ I2 L R ⟨⟨rfl, a, b⟩, rfl, rfl⟩)) ?_
    rintro zz I2 L2 R2 ⟨⟨rfl, ha, hb⟩, rfl, rfl⟩
    refine r_ifneB hP c122_30 (fun h30 => ?_) (fun h30 => ?_)
    · refine r_goto hP c122_35 ?_
      obtain ⟨r, hr⟩ := Option.isSome_iff_exists.mp h30
      have hle2 := zit_le hr
      have hi4 : i < 400 := by omega
      exact ih hi4 _ _ _ _ ⟨zfV_t hacc.1 ha, (hb r hr).2, (hb r hr).1, zit_ub hacc.2.2.2.1 hr, by omega, by omega, by rw [hacc.2.2.2.2.2.2, show 400 - i = 400 - (i + 1) + 1 from by omega, zrd_s hlt hr]⟩
    · refine r_il hP c122_33 rfl ?_
      have hno : zit (zto T len) p u = none := Option.not_isSome_iff_eq_none.mp h30
      have he : (zrd (zto T len) len 400 0 zu0) = (nI p, u) := by rw [hacc.2.2.2.2.2.2, show 400 - i = 400 - (i + 1) + 1 from by omega, zrd_n hlt hno]
      exact r_irE hP c122_34 (h _ (zfV_t hacc.1 ha) (fun z => by rw [he] at z; exact absurd z (zne400 p (by omega)))) (by rw [he])
theorem zE_0 {I I2 : ZMi} (h : (∀ x j, ¬ ((x = 121 ∨ x = 124 ∨ x = 133 ∨ x = 135 ∨ x = 137) ∧ j = 1) → ¬ (x = 136 ∧ 18 * 1 ≤ j ∧ j < 18 * 1 + 18) → ¬ (x = 141 ∧ 3 * 1 ≤ j ∧ j < 3 * 1 + 3) → ¬ (x = 142 ∧ 5 * 1 ≤ j ∧ j < 5 * 1 + 5) → I2 x j = I x j) ∧ (I2 121 1 = 0 ∧ I2 124 1 = 0 ∧ I2 133 1 = 0 ∧ I2 135 1 = 0 ∧ I2 137 1 = 0) ∧ (∀ i, i < 18 → I2 136 (18 * 1 + i) = 0) ∧ (∀ i, i < 3 → I2 141 (3 * 1 + i) = 20) ∧ (∀ i, i < 5 → I2 142 (5 * 1 + i) = 5)) : zfV I I2 ∧ zE I2 zu0 := by
  obtain ⟨h1, ⟨v1, v2, v3, v4, v5⟩, h3, h4, h5⟩ := h
  refine ⟨fun a k q1 q2 q3 => h1 a k (fun z => q3 ?_) (fun z => q3 ?_) (fun z => q3 ?_) (fun z => q3 ?_), ⟨v1, v2, v5, fun s hs => absurd hs (Nat.not_lt_zero s), fun s hs => absurd hs (Nat.not_lt_zero s), fun s hs => absurd hs (Nat.not_lt_zero s), fun t ht => h4 t ht, fun k hk => h5 k hk⟩, v3, v4, fun s t _ q2 q3 => ?_⟩
  · rw [z.2]
    rcases z.1 with rfl | rfl | rfl | rfl | rfl <;> decide
  · rw [z.1]
    exact ⟨by decide, by decide, by show 18 ≤ k; omega⟩
  · rw [z.1]
    exact ⟨by decide, by decide, by show 3 ≤ k; omega⟩
  · rw [z.1]
    exact ⟨by decide, by decide, by show 5 ≤ k; omega⟩
  · have := h3 (3 * s + t) (by omega)
    rw [show 18 * 1 + (3 * s + t) = 18 + 3 * s + t from by omega] at this
    exact this
set_option maxRecDepth 4000 in
theorem y_readAll {K : ZKh} {P : Nat → Nat → List Value → List Value → ZMi → ZMl → ZMr → ZRt → Prop} {I : ZMi} {L : ZMl} {R : ZMr} {Q : ZRt} (hP : ZCl K P) (hKb : zKb K) (hRb : zRb R) {len : Nat} {T : Nat → Nat} (hT : zTm I len T) (hl : len ≤ 400) (h256 : ∀ i, T i < 256) (h : ∀ I2, zfV I I2 → ((zrd (zto T len) len 400 0 zu0).1 = -4 → zE I2 (zrd (zto T len) len 400 0 zu0).2) → Q (some (.int (zrd (zto T len) len 400 0 zu0).1)) I2 L R) : P 122 0 [.ref 119, .null] [] I L R Q := by
  refine r_al hP c122_0 rfl ?_
  refine r_ic hP c122_1 ?_
  refine r_cVvp (as := [.int 1]) (r := []) (a := 119) hP c122_2 rfl (zj119 hKb) rfl (fun I2 L2 R2 => (zfV I I2 ∧ zE I2 zu0) ∧ L = L2 ∧ R = R2) (fun Q2 hq => y_noSet (b := 1) hP hKb hRb (by decide) (fun I2 z => hq I2 L R ⟨zE_0 z, rfl, rfl⟩)) ?_
  rintro I2 L2 R2 ⟨⟨ha, hb⟩, rfl, rfl⟩
  refine r_al hP c122_5 rfl ?_
  refine r_ic hP c122_6 ?_
  refine r_pI hP c122_7 (zj119 hKb) ?_
  exact y_readAll_l hP hKb hRb hT hl h256 h 0 (Nat.zero_le _) _ 0 zu0 _ ⟨zfV_t ha (zfV_Z (fun a k q1 q2 => zup_n _ _ _ _ q1)), zup_s _ _ _ _, zE_to hb (fun a h1 h2 k => zup_n _ _ _ _ (by omega)), zub0, Nat.le_refl _, by decide, rfl⟩
set_option maxRecDepth 4000 in
theorem y_fault {K : ZKh} {P : Nat → Nat → List Value → List Value → ZMi → ZMl → ZMr → ZRt → Prop} {I : ZMi} {L : ZMl} {R : ZMr} {Q : ZRt} (hP : ZCl K P) (hKb : zKb K) (hRb : zRb R) {len : Nat} {T : Nat → Nat} (hT : zTm I len T) (hl : len ≤ 400) (h256 : ∀ i, T i < 256) (h : ∀ I2, zfV I I2 → Q (some (.int (zrd (zto T len) len 400 0 zu0).1)) I2 L R) : P 123 0 [.ref 119] [] I L R Q := by
  refine r_al hP c123_0 rfl ?_
  refine r_cVip (as := []) (r := []) (a := 119) hP c123_1 rfl (zj119 hKb) rfl (fun z I2 L2 R2 => (z = (zrd (zto T len) len 400 0 zu0).1 ∧ zfV I I2 ∧ ((zrd (zto T len) len 400 0 zu0).1 = -4 → zE I2 (zrd (zto T len) len 400 0 zu0).2)) ∧ L = L2 ∧ R = R2) (fun Q2 hq => y_readAll hP hKb hRb hT hl h256 (fun I2 a b => hq _ I2 L R ⟨⟨rfl, a, b⟩, rfl, rfl⟩)) ?_
  rintro zz I2 L2 R2 ⟨⟨rfl, ha, hb⟩, rfl, rfl⟩
  exact r_irE hP c123_4 (h _ ha) rfl
/-- book 1 laid over book 0 where c says so -/
def zly (I : ZMi) (c : Nat → Nat → Prop) (I' : ZMi) : Prop := (∀ a k, c a k → I' a k = I a (zbk a + k)) ∧ ∀ a k, ¬ c a k → I' a k = I a k
theorem zly_w {I I' : ZMi} {c d : Nat → Nat → Prop} (h : zly I c I') (hd : ∀ a k, c a k ↔ d a k) : zly I d I' := ⟨fun a k q => h.1 a k ((hd a k).mpr q), fun a k q => h.2 a k (fun z => q ((hd a k).mp z))⟩
theorem zly_u {I I' : ZMi} {c d : Nat → Nat → Prop} (h : zly I c I') {b j : Nat} {x : Int32} (hx : x = I b (zbk b + j)) (hd : ∀ a k, d a k ↔ (c a k ∨ (a = b ∧ k = j))) : zly I d (zup I' b j x) := by
  refine ⟨fun a k q => ?_, fun a k q => ?_⟩
  · by_cases z : a = b ∧ k = j
    · obtain ⟨rfl, rfl⟩ := z
      rw [zup_s, hx]
    · rw [zup_n _ _ _ _ z]
      exact h.1 a k (Or.resolve_right ((hd a k).mp q) z)
  · rw [zup_n _ _ _ _ (fun z => q ((hd a k).mpr (Or.inr z)))]
    exact h.2 a k (fun z => q ((hd a k).mpr (Or.inl z)))
theorem zly_0 {I I' : ZMi} {c : Nat → Nat → Prop} {lo j : Nat} (h : zly I c I') : zly I (fun a k => c a k ∨ (k = j ∧ lo ≤ a ∧ a < lo + 0)) I' := zly_w h (fun a k => ⟨Or.inl, fun q => Or.elim q id (fun z => by omega)⟩)
theorem zly_q {I I' : ZMi} {c : Nat → Nat → Prop} {lo q j : Nat} {x : Int32} (h : zly I (fun a k => c a k ∨ (k = j ∧ lo ≤ a ∧ a < lo + q)) I') (hx : x = I (lo + q) (zbk (lo + q) + j)) : zly I (fun a k => c a k ∨ (k = j ∧ lo ≤ a ∧ a < lo + (q + 1))) (zup I' (lo + q) j x) := by
  refine zly_u h hx (fun a k => ⟨fun z => ?_, fun z => ?_⟩)
  · rcases z with z | z
    · exact Or.inl (Or.inl z)
    · by_cases e : a = lo + q
      · exact Or.inr ⟨e, z.1⟩
      · exact Or.inl (Or.inr (by omega))
  · rcases z with (z | z) | z
    · exact Or.inl z
    · exact Or.inr (by omega)
    · exact Or.inr (by omega)
set_option maxRecDepth 4000 in
theorem y_lay_0 {K : ZKh} {P : Nat → Nat → List Value → List Value → ZMi → ZMl → ZMr → ZRt → Prop} {I : ZMi} {L : ZMl} {R : ZMr} {Q : ZRt} (hP : ZCl K P) (hKb : zKb K) (hRb : zRb R) (hx : ∀ I2, zly I (fun a k => (k = 0 ∧ (a = 121 ∨ a = 124 ∨ a = 137)) ∨ (k < 6 ∧ (a = 122 ∨ a = 123 ∨ a = 138 ∨ a = 139 ∨ a = 140))) I2 → P 124 155 [.ref 119, .int (nI 6)] [] I2 L R Q) : ∀ i, i ≤ 6 → ∀ (I1 : ZMi), zly I (fun a k => (k = 0 ∧ (a = 121 ∨ a = 124 ∨ a = 137)) ∨ (k < i ∧ (a = 122 ∨ a = 123 ∨ a = 138 ∨ a = 139 ∨ a = 140))) I1 → P 124 68 [.ref 119, .int (nI i)] [] I1 L R Q := by
  refine zloop 6 (fun i => ∀ (I1 : ZMi), zly I (fun a k => (k = 0 ∧ (a = 121 ∨ a = 124 ∨ a = 137)) ∨ (k < i ∧ (a = 122 ∨ a = 123 ∨ a = 138 ∨ a = 139 ∨ a = 140))) I1 → P 124 68 [.ref 119, .int (nI i)] [] I1 L R Q) ?_
  intro i hle ih I1 hacc
  refine r_il hP c124_68 rfl ?_
  refine r_ic hP c124_69 ?_
  refine r_ige hP c124_71 (fun h71 => ?_) (fun h71 => ?_)
  · have he : i = 6 := Nat.le_antisymm hle ((nI_leI (by omega) (by omega)).mp h71)
    subst he
    exact hx _ hacc
  · have hlt : i < 6 := by
      rcases Nat.lt_or_ge i 6 with q | q
      · exact q
      · exact absurd (nI_le q (by omega)) h71
    refine r_al hP c124_74 rfl ?_
    refine r_gR (x := 122) hP c124_75 (zj119 hKb) (zr119_3 hRb) ?_
    refine r_il hP c124_78 rfl ?_
    refine r_al hP c124_79 rfl ?_
    refine r_gR (x := 122) hP c124_80 (zj119 hKb) (zr119_3 hRb) ?_
    refine r_ic hP c124_83 ?_
    refine r_il hP c124_85 rfl ?_
    refine r_iadd hP c124_86 ?_
    refine r_ti (y := nI (6 + i)) (nI_add 6 i) ?_
    refine r_iald (j := 6 + i) (x := I 122 (6 + i)) hP c124_87 (zk122 hKb) rfl (by omega) (hacc.2 122 (6 + i) (by omega)) ?_
    refine r_iast (j := i) hP c124_88 (zk122 hKb) rfl (by omega) ?_
    refine r_al hP c124_89 rfl ?_
    refine r_gR (x := 123) hP c124_90 (zj119 hKb) (zr119_4 hRb) ?_
    refine r_il hP c124_93 rfl ?_
    refine r_al hP c124_94 rfl ?_
    refine r_gR (x := 123) hP c124_95 (zj119 hKb) (zr119_4 hRb) ?_
    refine r_ic hP c124_98 ?_
    refine r_il hP c124_100 rfl ?_
    refine r_iadd hP c124_101 ?_
    refine r_ti (y := nI (6 + i)) (nI_add 6 i) ?_
    refine r_iald (j := 6 + i) (x := I 123 (6 + i)) hP c124_102 (zk123 hKb) rfl (by omega) ((zup_n _ _ _ _ (by omega)).trans (hacc.2 123 (6 + i) (by omega))) ?_
    refine r_iast (j := i) hP c124_103 (zk123 hKb) rfl (by omega) ?_
    refine r_al hP c124_104 rfl ?_
    refine r_gR (x := 138) hP c124_105 (zj119 hKb) (zr119_19 hRb) ?_
    refine r_il hP c124_108 rfl ?_
    refine r_al hP c124_109 rfl ?_
    refine r_gR (x := 138) hP c124_110 (zj119 hKb) (zr119_19 hRb) ?_
    refine r_ic hP c124_113 ?_
    refine r_il hP c124_115 rfl ?_
    refine r_iadd hP c124_116 ?_
    refine r_ti (y := nI (6 + i)) (nI_add 6 i) ?_
    refine r_iald (j := 6 + i) (x := I 138 (6 + i)) hP c124_117 (zk138 hKb) rfl (by omega) ((zup_n _ _ _ _ (by omega)).trans ((zup_n _ _ _ _ (by omega)).trans (hacc.2 138 (6 + i) (by omega)))) ?_
    refine r_iast (j := i) hP c124_118 (zk138 hKb) rfl (by omega) ?_
    refine r_al hP c124_119 rfl ?_
    refine r_gR (x := 139) hP c124_120 (zj119 hKb) (zr119_20 hRb) ?_
    refine r_il hP c124_123 rfl ?_
    refine r_al hP c124_124 rfl ?_
    refine r_gR (x := 139) hP c124_125 (zj119 hKb) (zr119_20 hRb) ?_
    refine r_ic hP c124_128 ?_
    refine r_il hP c124_130 rfl ?_
    refine r_iadd hP c124_131 ?_
    refine r_ti (y := nI (6 + i)) (nI_add 6 i) ?_
    refine r_iald (j := 6 + i) (x := I 139 (6 + i)) hP c124_132 (zk139 hKb) rfl (by omega) ((zup_n _ _ _ _ (by omega)).trans ((zup_n _ _ _ _ (by omega)).trans ((zup_n _ _ _ _ (by omega)).trans (hacc.2 139 (6 + i) (by omega))))) ?_
    refine r_iast (j := i) hP c124_133 (zk139 hKb) rfl (by omega) ?_
    refine r_al hP c124_134 rfl ?_
    refine r_gR (x := 140) hP c124_135 (zj119 hKb) (zr119_21 hRb) ?_
    refine r_il hP c124_138 rfl ?_
    refine r_al hP c124_139 rfl ?_
    refine r_gR (x := 140) hP c124_140 (zj119 hKb) (zr119_21 hRb) ?_
    refine r_ic hP c124_143 ?_
    refine r_il hP c124_145 rfl ?_
    refine r_iadd hP c124_146 ?_
    refine r_ti (y := nI (6 + i)) (nI_add 6 i) ?_
    refine r_iald (j := 6 + i) (x := I 140 (6 + i)) hP c124_147 (zk140 hKb) rfl (by omega) ((zup_n _ _ _ _ (by omega)).trans ((zup_n _ _ _ _ (by omega)).trans ((zup_n _ _ _ _ (by omega)).trans ((zup_n _ _ _ _ (by omega)).trans (hacc.2 140 (6 + i) (by omega)))))) ?_
    refine r_iast (j := i) hP c124_148 (zk140 hKb) rfl (by omega) ?_
    refine r_inc (y := nI (i + 1)) (ls' := [.ref 119, .int (nI (i + 1))]) hP c124_149 rfl (nI_1 _) rfl ?_
    refine r_goto hP c124_152 ?_
    exact ih hlt _ (zly_w (zly_q (c := (fun a k => (fun a k => (k = 0 ∧ (a = 121 ∨ a = 124 ∨ a = 137)) ∨ (k < i ∧ (a = 122 ∨ a = 123 ∨ a = 138 ∨ a = 139 ∨ a = 140))) a k ∨ (k = i ∧ 122 ≤ a ∧ a < 122 + 2))) (lo := 138) (q := 2) (j := i) (zly_q (c := (fun a k => (fun a k => (k = 0 ∧ (a = 121 ∨ a = 124 ∨ a = 137)) ∨ (k < i ∧ (a = 122 ∨ a = 123 ∨ a = 138 ∨ a = 139 ∨ a = 140))) a k ∨ (k = i ∧ 122 ≤ a ∧ a < 122 + 2))) (lo := 138) (q := 1) (j := i) (zly_q (c := (fun a k => (fun a k => (k = 0 ∧ (a = 121 ∨ a = 124 ∨ a = 137)) ∨ (k < i ∧ (a = 122 ∨ a = 123 ∨ a = 138 ∨ a = 139 ∨ a = 140))) a k ∨ (k = i ∧ 122 ≤ a ∧ a < 122 + 2))) (lo := 138) (q := 0) (j := i) (zly_0 (c := (fun a k => (fun a k => (k = 0 ∧ (a = 121 ∨ a = 124 ∨ a = 137)) ∨ (k < i ∧ (a = 122 ∨ a = 123 ∨ a = 138 ∨ a = 139 ∨ a = 140))) a k ∨ (k = i ∧ 122 ≤ a ∧ a < 122 + 2))) (lo := 138) (j := i) (zly_q (c := (fun a k => (k = 0 ∧ (a = 121 ∨ a = 124 ∨ a = 137)) ∨ (k < i ∧ (a = 122 ∨ a = 123 ∨ a = 138 ∨ a = 139 ∨ a = 140)))) (lo := 122) (q := 1) (j := i) (zly_q (c := (fun a k => (k = 0 ∧ (a = 121 ∨ a = 124 ∨ a = 137)) ∨ (k < i ∧ (a = 122 ∨ a = 123 ∨ a = 138 ∨ a = 139 ∨ a = 140)))) (lo := 122) (q := 0) (j := i) (zly_0 (c := (fun a k => (k = 0 ∧ (a = 121 ∨ a = 124 ∨ a = 137)) ∨ (k < i ∧ (a = 122 ∨ a = 123 ∨ a = 138 ∨ a = 139 ∨ a = 140)))) (lo := 122) (j := i) hacc) rfl) rfl)) rfl) rfl) rfl) (fun a k => by omega))
set_option maxRecDepth 4000 in
theorem y_lay_1 {K : ZKh} {P : Nat → Nat → List Value → List Value → ZMi → ZMl → ZMr → ZRt → Prop} {I : ZMi} {L : ZMl} {R : ZMr} {Q : ZRt} (hP : ZCl K P) (hKb : zKb K) (hRb : zRb R) (hx : ∀ I2, zly I (fun a k => (k = 0 ∧ (a = 121 ∨ a = 124 ∨ a = 137)) ∨ (k < 6 ∧ (a = 122 ∨ a = 123 ∨ a = 138 ∨ a = 139 ∨ a = 140)) ∨ (k < 8 ∧ 125 ≤ a ∧ a ≤ 132)) I2 → P 124 289 [.ref 119, .int (nI 8)] [] I2 L R Q) : ∀ i, i ≤ 8 → ∀ (I1 : ZMi), zly I (fun a k => (k = 0 ∧ (a = 121 ∨ a = 124 ∨ a = 137)) ∨ (k < 6 ∧ (a = 122 ∨ a = 123 ∨ a = 138 ∨ a = 139 ∨ a = 140)) ∨ (k < i ∧ 125 ≤ a ∧ a ≤ 132)) I1 → P 124 157 [.ref 119, .int (nI i)] [] I1 L R Q := by
  refine zloop 8 (fun i => ∀ (I1 : ZMi), zly I (fun a k => (k = 0 ∧ (a = 121 ∨ a = 124 ∨ a = 137)) ∨ (k < 6 ∧ (a = 122 ∨ a = 123 ∨ a = 138 ∨ a = 139 ∨ a = 140)) ∨ (k < i ∧ 125 ≤ a ∧ a ≤ 132)) I1 → P 124 157 [.ref 119, .int (nI i)] [] I1 L R Q) ?_
  intro i hle ih I1 hacc
  refine r_il hP c124_157 rfl ?_
  refine r_ic hP c124_158 ?_
  refine r_ige hP c124_160 (fun h160 => ?_) (fun h160 => ?_)
  · have he : i = 8 := Nat.le_antisymm hle ((nI_leI (by omega) (by omega)).mp h160)
    subst he
    exact hx _ hacc
  · have hlt : i < 8 := by
      rcases Nat.lt_or_ge i 8 with q | q
      · exact q
      · exact absurd (nI_le q (by omega)) h160
    refine r_al hP c124_163 rfl ?_
    refine r_gR (x := 125) hP c124_164 (zj119 hKb) (zr119_6 hRb) ?_
    refine r_il hP c124_167 rfl ?_
    refine r_al hP c124_168 rfl ?_
    refine r_gR (x := 125) hP c124_169 (zj119 hKb) (zr119_6 hRb) ?_
    refine r_ic hP c124_172 ?_
    refine r_il hP c124_174 rfl ?_
    refine r_iadd hP c124_175 ?_
    refine r_ti (y := nI (8 + i)) (nI_add 8 i) ?_
    refine r_iald (j := 8 + i) (x := I 125 (8 + i)) hP c124_176 (zk125 hKb) rfl (by omega) (hacc.2 125 (8 + i) (by omega)) ?_
    refine r_iast (j := i) hP c124_177 (zk125 hKb) rfl (by omega) ?_
    refine r_al hP c124_178 rfl ?_
    refine r_gR (x := 126) hP c124_179 (zj119 hKb) (zr119_7 hRb) ?_
    refine r_il hP c124_182 rfl ?_
    refine r_al hP c124_183 rfl ?_
    refine r_gR (x := 126) hP c124_184 (zj119 hKb) (zr119_7 hRb) ?_
    refine r_ic hP c124_187 ?_
    refine r_il hP c124_189 rfl ?_
    refine r_iadd hP c124_190 ?_
    refine r_ti (y := nI (8 + i)) (nI_add 8 i) ?_
    refine r_iald (j := 8 + i) (x := I 126 (8 + i)) hP c124_191 (zk126 hKb) rfl (by omega) ((zup_n _ _ _ _ (by omega)).trans (hacc.2 126 (8 + i) (by omega))) ?_
    refine r_iast (j := i) hP c124_192 (zk126 hKb) rfl (by omega) ?_
    refine r_al hP c124_193 rfl ?_
    refine r_gR (x := 127) hP c124_194 (zj119 hKb) (zr119_8 hRb) ?_
    refine r_il hP c124_197 rfl ?_
    refine r_al hP c124_198 rfl ?_
    refine r_gR (x := 127) hP c124_199 (zj119 hKb) (zr119_8 hRb) ?_
    refine r_ic hP c124_202 ?_
    refine r_il hP c124_204 rfl ?_
    refine r_iadd hP c124_205 ?_
    refine r_ti (y := nI (8 + i)) (nI_add 8 i) ?_
    refine r_iald (j := 8 + i) (x := I 127 (8 + i)) hP c124_206 (zk127 hKb) rfl (by omega) ((zup_n _ _ _ _ (by omega)).trans ((zup_n _ _ _ _ (by omega)).trans (hacc.2 127 (8 + i) (by omega)))) ?_
    refine r_iast (j := i) hP c124_207 (zk127 hKb) rfl (by omega) ?_
    refine r_al hP c124_208 rfl ?_
    refine r_gR (x := 128) hP c124_209 (zj119 hKb) (zr119_9 hRb) ?_
    refine r_il hP c124_212 rfl ?_
    refine r_al hP c124_213 rfl ?_
    refine r_gR (x := 128) hP c124_214 (zj119 hKb) (zr119_9 hRb) ?_
    refine r_ic hP c124_217 ?_
    refine r_il hP c124_219 rfl ?_
    refine r_iadd hP c124_220 ?_
    refine r_ti (y := nI (8 + i)) (nI_add 8 i) ?_
    refine r_iald (j := 8 + i) (x := I 128 (8 + i)) hP c124_221 (zk128 hKb) rfl (by omega) ((zup_n _ _ _ _ (by omega)).trans ((zup_n _ _ _ _ (by omega)).trans ((zup_n _ _ _ _ (by omega)).trans (hacc.2 128 (8 + i) (by omega))))) ?_
    refine r_iast (j := i) hP c124_222 (zk128 hKb) rfl (by omega) ?_
    refine r_al hP c124_223 rfl ?_
    refine r_gR (x := 129) hP c124_224 (zj119 hKb) (zr119_10 hRb) ?_
    refine r_il hP c124_227 rfl ?_
    refine r_al hP c124_228 rfl ?_
    refine r_gR (x := 129) hP c124_229 (zj119 hKb) (zr119_10 hRb) ?_
    refine r_ic hP c124_232 ?_
    refine r_il hP c124_234 rfl ?_
    refine r_iadd hP c124_235 ?_
    refine r_ti (y := nI (8 + i)) (nI_add 8 i) ?_
    refine r_iald (j := 8 + i) (x := I 129 (8 + i)) hP c124_236 (zk129 hKb) rfl (by omega) ((zup_n _ _ _ _ (by omega)).trans ((zup_n _ _ _ _ (by omega)).trans ((zup_n _ _ _ _ (by omega)).trans ((zup_n _ _ _ _ (by omega)).trans (hacc.2 129 (8 + i) (by omega)))))) ?_
    refine r_iast (j := i) hP c124_237 (zk129 hKb) rfl (by omega) ?_
    refine r_al hP c124_238 rfl ?_
    refine r_gR (x := 130) hP c124_239 (zj119 hKb) (zr119_11 hRb) ?_
    refine r_il hP c124_242 rfl ?_
    refine r_al hP c124_243 rfl ?_
    refine r_gR (x := 130) hP c124_244 (zj119 hKb) (zr119_11 hRb) ?_
    refine r_ic hP c124_247 ?_
    refine r_il hP c124_249 rfl ?_
    refine r_iadd hP c124_250 ?_
    refine r_ti (y := nI (8 + i)) (nI_add 8 i) ?_
    refine r_iald (j := 8 + i) (x := I 130 (8 + i)) hP c124_251 (zk130 hKb) rfl (by omega) ((zup_n _ _ _ _ (by omega)).trans ((zup_n _ _ _ _ (by omega)).trans ((zup_n _ _ _ _ (by omega)).trans ((zup_n _ _ _ _ (by omega)).trans ((zup_n _ _ _ _ (by omega)).trans (hacc.2 130 (8 + i) (by omega))))))) ?_
    refine r_iast (j := i) hP c124_252 (zk130 hKb) rfl (by omega) ?_
    refine r_al hP c124_253 rfl ?_
    refine r_gR (x := 131) hP c124_254 (zj119 hKb) (zr119_12 hRb) ?_
    refine r_il hP c124_257 rfl ?_
    refine r_al hP c124_258 rfl ?_
    refine r_gR (x := 131) hP c124_259 (zj119 hKb) (zr119_12 hRb) ?_
    refine r_ic hP c124_262 ?_
    refine r_il hP c124_264 rfl ?_
    refine r_iadd hP c124_265 ?_
    refine r_ti (y := nI (8 + i)) (nI_add 8 i) ?_
    refine r_iald (j := 8 + i) (x := I 131 (8 + i)) hP c124_266 (zk131 hKb) rfl (by omega) ((zup_n _ _ _ _ (by omega)).trans ((zup_n _ _ _ _ (by omega)).trans ((zup_n _ _ _ _ (by omega)).trans ((zup_n _ _ _ _ (by omega)).trans ((zup_n _ _ _ _ (by omega)).trans ((zup_n _ _ _ _ (by omega)).trans (hacc.2 131 (8 + i) (by omega)))))))) ?_
    refine r_iast (j := i) hP c124_267 (zk131 hKb) rfl (by omega) ?_
    refine r_al hP c124_268 rfl ?_
    refine r_gR (x := 132) hP c124_269 (zj119 hKb) (zr119_13 hRb) ?_
    refine r_il hP c124_272 rfl ?_
    refine r_al hP c124_273 rfl ?_
    refine r_gR (x := 132) hP c124_274 (zj119 hKb) (zr119_13 hRb) ?_
    refine r_ic hP c124_277 ?_
    refine r_il hP c124_279 rfl ?_
    refine r_iadd hP c124_280 ?_
    refine r_ti (y := nI (8 + i)) (nI_add 8 i) ?_
    refine r_iald (j := 8 + i) (x := I 132 (8 + i)) hP c124_281 (zk132 hKb) rfl (by omega) ((zup_n _ _ _ _ (by omega)).trans ((zup_n _ _ _ _ (by omega)).trans ((zup_n _ _ _ _ (by omega)).trans ((zup_n _ _ _ _ (by omega)).trans ((zup_n _ _ _ _ (by omega)).trans ((zup_n _ _ _ _ (by omega)).trans ((zup_n _ _ _ _ (by omega)).trans (hacc.2 132 (8 + i) (by omega))))))))) ?_
    refine r_iast (j := i) hP c124_282 (zk132 hKb) rfl (by omega) ?_
    refine r_inc (y := nI (i + 1)) (ls' := [.ref 119, .int (nI (i + 1))]) hP c124_283 rfl (nI_1 _) rfl ?_
    refine r_goto hP c124_286 ?_
    exact ih hlt _ (zly_w (zly_q (c := (fun a k => (k = 0 ∧ (a = 121 ∨ a = 124 ∨ a = 137)) ∨ (k < 6 ∧ (a = 122 ∨ a = 123 ∨ a = 138 ∨ a = 139 ∨ a = 140)) ∨ (k < i ∧ 125 ≤ a ∧ a ≤ 132))) (lo := 125) (q := 7) (j := i) (zly_q (c := (fun a k => (k = 0 ∧ (a = 121 ∨ a = 124 ∨ a = 137)) ∨ (k < 6 ∧ (a = 122 ∨ a = 123 ∨ a = 138 ∨ a = 139 ∨ a = 140)) ∨ (k < i ∧ 125 ≤ a ∧ a ≤ 132))) (lo := 125) (q := 6) (j := i) (zly_q (c := (fun a k => (k = 0 ∧ (a = 121 ∨ a = 124 ∨ a = 137)) ∨ (k < 6 ∧ (a = 122 ∨ a = 123 ∨ a = 138 ∨ a = 139 ∨ a = 140)) ∨ (k < i ∧ 125 ≤ a ∧ a ≤ 132))) (lo := 125) (q := 5) (j := i) (zly_q (c := (fun a k => (k = 0 ∧ (a = 121 ∨ a = 124 ∨ a = 137)) ∨ (k < 6 ∧ (a = 122 ∨ a = 123 ∨ a = 138 ∨ a = 139 ∨ a = 140)) ∨ (k < i ∧ 125 ≤ a ∧ a ≤ 132))) (lo := 125) (q := 4) (j := i) (zly_q (c := (fun a k => (k = 0 ∧ (a = 121 ∨ a = 124 ∨ a = 137)) ∨ (k < 6 ∧ (a = 122 ∨ a = 123 ∨ a = 138 ∨ a = 139 ∨ a = 140)) ∨ (k < i ∧ 125 ≤ a ∧ a ≤ 132))) (lo := 125) (q := 3) (j := i) (zly_q (c := (fun a k => (k = 0 ∧ (a = 121 ∨ a = 124 ∨ a = 137)) ∨ (k < 6 ∧ (a = 122 ∨ a = 123 ∨ a = 138 ∨ a = 139 ∨ a = 140)) ∨ (k < i ∧ 125 ≤ a ∧ a ≤ 132))) (lo := 125) (q := 2) (j := i) (zly_q (c := (fun a k => (k = 0 ∧ (a = 121 ∨ a = 124 ∨ a = 137)) ∨ (k < 6 ∧ (a = 122 ∨ a = 123 ∨ a = 138 ∨ a = 139 ∨ a = 140)) ∨ (k < i ∧ 125 ≤ a ∧ a ≤ 132))) (lo := 125) (q := 1) (j := i) (zly_q (c := (fun a k => (k = 0 ∧ (a = 121 ∨ a = 124 ∨ a = 137)) ∨ (k < 6 ∧ (a = 122 ∨ a = 123 ∨ a = 138 ∨ a = 139 ∨ a = 140)) ∨ (k < i ∧ 125 ≤ a ∧ a ≤ 132))) (lo := 125) (q := 0) (j := i) (zly_0 (c := (fun a k => (k = 0 ∧ (a = 121 ∨ a = 124 ∨ a = 137)) ∨ (k < 6 ∧ (a = 122 ∨ a = 123 ∨ a = 138 ∨ a = 139 ∨ a = 140)) ∨ (k < i ∧ 125 ≤ a ∧ a ≤ 132))) (lo := 125) (j := i) hacc) rfl) rfl) rfl) rfl) rfl) rfl) rfl) rfl) (fun a k => by omega))
set_option maxRecDepth 4000 in
theorem y_lay_2 {K : ZKh} {P : Nat → Nat → List Value → List Value → ZMi → ZMl → ZMr → ZRt → Prop} {I : ZMi} {L : ZMl} {R : ZMr} {Q : ZRt} (hP : ZCl K P) (hKb : zKb K) (hRb : zRb R) (hx : ∀ I2, zly I (fun a k => (k = 0 ∧ (a = 121 ∨ a = 124 ∨ a = 137)) ∨ (k < 6 ∧ (a = 122 ∨ a = 123 ∨ a = 138 ∨ a = 139 ∨ a = 140)) ∨ (k < 8 ∧ 125 ≤ a ∧ a ≤ 132) ∨ (k < 24 ∧ a = 134)) I2 → P 124 318 [.ref 119, .int (nI 24)] [] I2 L R Q) : ∀ i, i ≤ 24 → ∀ (I1 : ZMi), zly I (fun a k => (k = 0 ∧ (a = 121 ∨ a = 124 ∨ a = 137)) ∨ (k < 6 ∧ (a = 122 ∨ a = 123 ∨ a = 138 ∨ a = 139 ∨ a = 140)) ∨ (k < 8 ∧ 125 ≤ a ∧ a ≤ 132) ∨ (k < i ∧ a = 134)) I1 → P 124 291 [.ref 119, .int (nI i)] [] I1 L R Q := by
  refine zloop 24 (fun i => ∀ (I1 : ZMi), zly I (fun a k => (k = 0 ∧ (a = 121 ∨ a = 124 ∨ a = 137)) ∨ (k < 6 ∧ (a = 122 ∨ a = 123 ∨ a = 138 ∨ a = 139 ∨ a = 140)) ∨ (k < 8 ∧ 125 ≤ a ∧ a ≤ 132) ∨ (k < i ∧ a = 134)) I1 → P 124 291 [.ref 119, .int (nI i)] [] I1 L R Q) ?_
  intro i hle ih I1 hacc
  refine r_il hP c124_291 rfl ?_
  refine r_ic hP c124_292 ?_
  refine r_ige hP c124_294 (fun h294 => ?_) (fun h294 => ?_)
  · have he : i = 24 := Nat.le_antisymm hle ((nI_leI (by omega) (by omega)).mp h294)
    subst he
    exact hx _ hacc
  · have hlt : i < 24 := by
      rcases Nat.lt_or_ge i 24 with q | q
      · exact q
      · exact absurd (nI_le q (by omega)) h294
    refine r_al hP c124_297 rfl ?_
    refine r_gR (x := 134) hP c124_298 (zj119 hKb) (zr119_15 hRb) ?_
    refine r_il hP c124_301 rfl ?_
    refine r_al hP c124_302 rfl ?_
    refine r_gR (x := 134) hP c124_303 (zj119 hKb) (zr119_15 hRb) ?_
    refine r_ic hP c124_306 ?_
    refine r_il hP c124_308 rfl ?_
    refine r_iadd hP c124_309 ?_
    refine r_ti (y := nI (24 + i)) (nI_add 24 i) ?_
    refine r_iald (j := 24 + i) (x := I 134 (24 + i)) hP c124_310 (zk134 hKb) rfl (by omega) (hacc.2 134 (24 + i) (by omega)) ?_
    refine r_iast (j := i) hP c124_311 (zk134 hKb) rfl (by omega) ?_
    refine r_inc (y := nI (i + 1)) (ls' := [.ref 119, .int (nI (i + 1))]) hP c124_312 rfl (nI_1 _) rfl ?_
    refine r_goto hP c124_315 ?_
    exact ih hlt _ (zly_w (zly_q (c := (fun a k => (k = 0 ∧ (a = 121 ∨ a = 124 ∨ a = 137)) ∨ (k < 6 ∧ (a = 122 ∨ a = 123 ∨ a = 138 ∨ a = 139 ∨ a = 140)) ∨ (k < 8 ∧ 125 ≤ a ∧ a ≤ 132) ∨ (k < i ∧ a = 134))) (lo := 134) (q := 0) (j := i) (zly_0 (c := (fun a k => (k = 0 ∧ (a = 121 ∨ a = 124 ∨ a = 137)) ∨ (k < 6 ∧ (a = 122 ∨ a = 123 ∨ a = 138 ∨ a = 139 ∨ a = 140)) ∨ (k < 8 ∧ 125 ≤ a ∧ a ≤ 132) ∨ (k < i ∧ a = 134))) (lo := 134) (j := i) hacc) rfl) (fun a k => by omega))
set_option maxRecDepth 4000 in
theorem y_lay_3 {K : ZKh} {P : Nat → Nat → List Value → List Value → ZMi → ZMl → ZMr → ZRt → Prop} {I : ZMi} {L : ZMl} {R : ZMr} {Q : ZRt} (hP : ZCl K P) (hKb : zKb K) (hRb : zRb R) (hx : ∀ I2, zly I (fun a k => (k = 0 ∧ (a = 121 ∨ a = 124 ∨ a = 137)) ∨ (k < 6 ∧ (a = 122 ∨ a = 123 ∨ a = 138 ∨ a = 139 ∨ a = 140)) ∨ (k < 8 ∧ 125 ≤ a ∧ a ≤ 132) ∨ (k < 24 ∧ a = 134) ∨ (k < 18 ∧ a = 136)) I2 → P 124 347 [.ref 119, .int (nI 18)] [] I2 L R Q) : ∀ i, i ≤ 18 → ∀ (I1 : ZMi), zly I (fun a k => (k = 0 ∧ (a = 121 ∨ a = 124 ∨ a = 137)) ∨ (k < 6 ∧ (a = 122 ∨ a = 123 ∨ a = 138 ∨ a = 139 ∨ a = 140)) ∨ (k < 8 ∧ 125 ≤ a ∧ a ≤ 132) ∨ (k < 24 ∧ a = 134) ∨ (k < i ∧ a = 136)) I1 → P 124 320 [.ref 119, .int (nI i)] [] I1 L R Q := by
  refine zloop 18 (fun i => ∀ (I1 : ZMi), zly I (fun a k => (k = 0 ∧ (a = 121 ∨ a = 124 ∨ a = 137)) ∨ (k < 6 ∧ (a = 122 ∨ a = 123 ∨ a = 138 ∨ a = 139 ∨ a = 140)) ∨ (k < 8 ∧ 125 ≤ a ∧ a ≤ 132) ∨ (k < 24 ∧ a = 134) ∨ (k < i ∧ a = 136)) I1 → P 124 320 [.ref 119, .int (nI i)] [] I1 L R Q) ?_
  intro i hle ih I1 hacc
  refine r_il hP c124_320 rfl ?_
  refine r_ic hP c124_321 ?_
  refine r_ige hP c124_323 (fun h323 => ?_) (fun h323 => ?_)
  · have he : i = 18 := Nat.le_antisymm hle ((nI_leI (by omega) (by omega)).mp h323)
    subst he
    exact hx _ hacc
  · have hlt : i < 18 := by
      rcases Nat.lt_or_ge i 18 with q | q
      · exact q
      · exact absurd (nI_le q (by omega)) h323
    refine r_al hP c124_326 rfl ?_
    refine r_gR (x := 136) hP c124_327 (zj119 hKb) (zr119_17 hRb) ?_
    refine r_il hP c124_330 rfl ?_
    refine r_al hP c124_331 rfl ?_
    refine r_gR (x := 136) hP c124_332 (zj119 hKb) (zr119_17 hRb) ?_
    refine r_ic hP c124_335 ?_
    refine r_il hP c124_337 rfl ?_
    refine r_iadd hP c124_338 ?_
    refine r_ti (y := nI (18 + i)) (nI_add 18 i) ?_
    refine r_iald (j := 18 + i) (x := I 136 (18 + i)) hP c124_339 (zk136 hKb) rfl (by omega) (hacc.2 136 (18 + i) (by omega)) ?_
    refine r_iast (j := i) hP c124_340 (zk136 hKb) rfl (by omega) ?_
    refine r_inc (y := nI (i + 1)) (ls' := [.ref 119, .int (nI (i + 1))]) hP c124_341 rfl (nI_1 _) rfl ?_
    refine r_goto hP c124_344 ?_
    exact ih hlt _ (zly_w (zly_q (c := (fun a k => (k = 0 ∧ (a = 121 ∨ a = 124 ∨ a = 137)) ∨ (k < 6 ∧ (a = 122 ∨ a = 123 ∨ a = 138 ∨ a = 139 ∨ a = 140)) ∨ (k < 8 ∧ 125 ≤ a ∧ a ≤ 132) ∨ (k < 24 ∧ a = 134) ∨ (k < i ∧ a = 136))) (lo := 136) (q := 0) (j := i) (zly_0 (c := (fun a k => (k = 0 ∧ (a = 121 ∨ a = 124 ∨ a = 137)) ∨ (k < 6 ∧ (a = 122 ∨ a = 123 ∨ a = 138 ∨ a = 139 ∨ a = 140)) ∨ (k < 8 ∧ 125 ≤ a ∧ a ≤ 132) ∨ (k < 24 ∧ a = 134) ∨ (k < i ∧ a = 136))) (lo := 136) (j := i) hacc) rfl) (fun a k => by omega))
set_option maxRecDepth 4000 in
theorem y_lay_4 {K : ZKh} {P : Nat → Nat → List Value → List Value → ZMi → ZMl → ZMr → ZRt → Prop} {I : ZMi} {L : ZMl} {R : ZMr} {Q : ZRt} (hP : ZCl K P) (hKb : zKb K) (hRb : zRb R) (hx : ∀ I2, zly I (fun a k => (k = 0 ∧ (a = 121 ∨ a = 124 ∨ a = 137)) ∨ (k < 6 ∧ (a = 122 ∨ a = 123 ∨ a = 138 ∨ a = 139 ∨ a = 140)) ∨ (k < 8 ∧ 125 ≤ a ∧ a ≤ 132) ∨ (k < 24 ∧ a = 134) ∨ (k < 18 ∧ a = 136) ∨ (k < 3 ∧ a = 141)) I2 → P 124 374 [.ref 119, .int (nI 3)] [] I2 L R Q) : ∀ i, i ≤ 3 → ∀ (I1 : ZMi), zly I (fun a k => (k = 0 ∧ (a = 121 ∨ a = 124 ∨ a = 137)) ∨ (k < 6 ∧ (a = 122 ∨ a = 123 ∨ a = 138 ∨ a = 139 ∨ a = 140)) ∨ (k < 8 ∧ 125 ≤ a ∧ a ≤ 132) ∨ (k < 24 ∧ a = 134) ∨ (k < 18 ∧ a = 136) ∨ (k < i ∧ a = 141)) I1 → P 124 349 [.ref 119, .int (nI i)] [] I1 L R Q := by
  refine zloop 3 (fun i => ∀ (I1 : ZMi), zly I (fun a k => (k = 0 ∧ (a = 121 ∨ a = 124 ∨ a = 137)) ∨ (k < 6 ∧ (a = 122 ∨ a = 123 ∨ a = 138 ∨ a = 139 ∨ a = 140)) ∨ (k < 8 ∧ 125 ≤ a ∧ a ≤ 132) ∨ (k < 24 ∧ a = 134) ∨ (k < 18 ∧ a = 136) ∨ (k < i ∧ a = 141)) I1 → P 124 349 [.ref 119, .int (nI i)] [] I1 L R Q) ?_
  intro i hle ih I1 hacc
  refine r_il hP c124_349 rfl ?_
  refine r_ic hP c124_350 ?_
  refine r_ige hP c124_351 (fun h351 => ?_) (fun h351 => ?_)
  · have he : i = 3 := Nat.le_antisymm hle ((nI_leI (by omega) (by omega)).mp h351)
    subst he
    exact hx _ hacc
  · have hlt : i < 3 := by
      rcases Nat.lt_or_ge i 3 with q | q
      · exact q
      · exact absurd (nI_le q (by omega)) h351
    refine r_al hP c124_354 rfl ?_
    refine r_gR (x := 141) hP c124_355 (zj119 hKb) (zr119_22 hRb) ?_
    refine r_il hP c124_358 rfl ?_
    refine r_al hP c124_359 rfl ?_
    refine r_gR (x := 141) hP c124_360 (zj119 hKb) (zr119_22 hRb) ?_
    refine r_ic hP c124_363 ?_
    refine r_il hP c124_364 rfl ?_
    refine r_iadd hP c124_365 ?_
    refine r_ti (y := nI (3 + i)) (nI_add 3 i) ?_
    refine r_iald (j := 3 + i) (x := I 141 (3 + i)) hP c124_366 (zk141 hKb) rfl (by omega) (hacc.2 141 (3 + i) (by omega)) ?_
    refine r_iast (j := i) hP c124_367 (zk141 hKb) rfl (by omega) ?_
    refine r_inc (y := nI (i + 1)) (ls' := [.ref 119, .int (nI (i + 1))]) hP c124_368 rfl (nI_1 _) rfl ?_
    refine r_goto hP c124_371 ?_
    exact ih hlt _ (zly_w (zly_q (c := (fun a k => (k = 0 ∧ (a = 121 ∨ a = 124 ∨ a = 137)) ∨ (k < 6 ∧ (a = 122 ∨ a = 123 ∨ a = 138 ∨ a = 139 ∨ a = 140)) ∨ (k < 8 ∧ 125 ≤ a ∧ a ≤ 132) ∨ (k < 24 ∧ a = 134) ∨ (k < 18 ∧ a = 136) ∨ (k < i ∧ a = 141))) (lo := 141) (q := 0) (j := i) (zly_0 (c := (fun a k => (k = 0 ∧ (a = 121 ∨ a = 124 ∨ a = 137)) ∨ (k < 6 ∧ (a = 122 ∨ a = 123 ∨ a = 138 ∨ a = 139 ∨ a = 140)) ∨ (k < 8 ∧ 125 ≤ a ∧ a ≤ 132) ∨ (k < 24 ∧ a = 134) ∨ (k < 18 ∧ a = 136) ∨ (k < i ∧ a = 141))) (lo := 141) (j := i) hacc) rfl) (fun a k => by omega))
set_option maxRecDepth 4000 in
theorem y_lay_5 {K : ZKh} {P : Nat → Nat → List Value → List Value → ZMi → ZMl → ZMr → ZRt → Prop} {I : ZMi} {L : ZMl} {R : ZMr} {Q : ZRt} (hP : ZCl K P) (hKb : zKb K) (hRb : zRb R) (hx : ∀ I2, zly I (fun a k => (k = 0 ∧ (a = 121 ∨ a = 124 ∨ a = 137)) ∨ (k < 6 ∧ (a = 122 ∨ a = 123 ∨ a = 138 ∨ a = 139 ∨ a = 140)) ∨ (k < 8 ∧ 125 ≤ a ∧ a ≤ 132) ∨ (k < 24 ∧ a = 134) ∨ (k < 18 ∧ a = 136) ∨ (k < 3 ∧ a = 141) ∨ (k < 5 ∧ a = 142)) I2 → P 124 401 [.ref 119, .int (nI 5)] [] I2 L R Q) : ∀ i, i ≤ 5 → ∀ (I1 : ZMi), zly I (fun a k => (k = 0 ∧ (a = 121 ∨ a = 124 ∨ a = 137)) ∨ (k < 6 ∧ (a = 122 ∨ a = 123 ∨ a = 138 ∨ a = 139 ∨ a = 140)) ∨ (k < 8 ∧ 125 ≤ a ∧ a ≤ 132) ∨ (k < 24 ∧ a = 134) ∨ (k < 18 ∧ a = 136) ∨ (k < 3 ∧ a = 141) ∨ (k < i ∧ a = 142)) I1 → P 124 376 [.ref 119, .int (nI i)] [] I1 L R Q := by
  refine zloop 5 (fun i => ∀ (I1 : ZMi), zly I (fun a k => (k = 0 ∧ (a = 121 ∨ a = 124 ∨ a = 137)) ∨ (k < 6 ∧ (a = 122 ∨ a = 123 ∨ a = 138 ∨ a = 139 ∨ a = 140)) ∨ (k < 8 ∧ 125 ≤ a ∧ a ≤ 132) ∨ (k < 24 ∧ a = 134) ∨ (k < 18 ∧ a = 136) ∨ (k < 3 ∧ a = 141) ∨ (k < i ∧ a = 142)) I1 → P 124 376 [.ref 119, .int (nI i)] [] I1 L R Q) ?_
  intro i hle ih I1 hacc
  refine r_il hP c124_376 rfl ?_
  refine r_ic hP c124_377 ?_
  refine r_ige hP c124_378 (fun h378 => ?_) (fun h378 => ?_)
  · have he : i = 5 := Nat.le_antisymm hle ((nI_leI (by omega) (by omega)).mp h378)
    subst he
    exact hx _ hacc
  · have hlt : i < 5 := by
      rcases Nat.lt_or_ge i 5 with q | q
      · exact q
      · exact absurd (nI_le q (by omega)) h378
    refine r_al hP c124_381 rfl ?_
    refine r_gR (x := 142) hP c124_382 (zj119 hKb) (zr119_23 hRb) ?_
    refine r_il hP c124_385 rfl ?_
    refine r_al hP c124_386 rfl ?_
    refine r_gR (x := 142) hP c124_387 (zj119 hKb) (zr119_23 hRb) ?_
    refine r_ic hP c124_390 ?_
    refine r_il hP c124_391 rfl ?_
    refine r_iadd hP c124_392 ?_
    refine r_ti (y := nI (5 + i)) (nI_add 5 i) ?_
    refine r_iald (j := 5 + i) (x := I 142 (5 + i)) hP c124_393 (zk142 hKb) rfl (by omega) (hacc.2 142 (5 + i) (by omega)) ?_
    refine r_iast (j := i) hP c124_394 (zk142 hKb) rfl (by omega) ?_
    refine r_inc (y := nI (i + 1)) (ls' := [.ref 119, .int (nI (i + 1))]) hP c124_395 rfl (nI_1 _) rfl ?_
    refine r_goto hP c124_398 ?_
    exact ih hlt _ (zly_w (zly_q (c := (fun a k => (k = 0 ∧ (a = 121 ∨ a = 124 ∨ a = 137)) ∨ (k < 6 ∧ (a = 122 ∨ a = 123 ∨ a = 138 ∨ a = 139 ∨ a = 140)) ∨ (k < 8 ∧ 125 ≤ a ∧ a ≤ 132) ∨ (k < 24 ∧ a = 134) ∨ (k < 18 ∧ a = 136) ∨ (k < 3 ∧ a = 141) ∨ (k < i ∧ a = 142))) (lo := 142) (q := 0) (j := i) (zly_0 (c := (fun a k => (k = 0 ∧ (a = 121 ∨ a = 124 ∨ a = 137)) ∨ (k < 6 ∧ (a = 122 ∨ a = 123 ∨ a = 138 ∨ a = 139 ∨ a = 140)) ∨ (k < 8 ∧ 125 ≤ a ∧ a ≤ 132) ∨ (k < 24 ∧ a = 134) ∨ (k < 18 ∧ a = 136) ∨ (k < 3 ∧ a = 141) ∨ (k < i ∧ a = 142))) (lo := 142) (j := i) hacc) rfl) (fun a k => by omega))
theorem zly_D {I I2 : ZMi} {S : ZS} {nS nP nW : Nat} (hD : zD I 1 S nS nP nW) (hs6 : nS ≤ 6) (hp8 : nP ≤ 8) (hw6 : nW ≤ 6) (h : zly I (fun a k => (k = 0 ∧ (a = 121 ∨ a = 124 ∨ a = 137)) ∨ (k < 6 ∧ (a = 122 ∨ a = 123 ∨ a = 138 ∨ a = 139 ∨ a = 140)) ∨ (k < 8 ∧ 125 ≤ a ∧ a ≤ 132) ∨ (k < 24 ∧ a = 134) ∨ (k < 18 ∧ a = 136) ∨ (k < 3 ∧ a = 141) ∨ (k < 5 ∧ a = 142)) I2) : zD I2 0 S nS nP nW := by
  have h1 := h.1
  refine ⟨(h1 121 0 (by omega)).trans hD.1, (h1 124 0 (by omega)).trans hD.2.1, (h1 137 0 (by omega)).trans hD.2.2.1, fun s hs => ⟨?_, ?_, fun t ht => ?_⟩, fun p hp => ⟨fun j q1 q2 => ?_, fun t ht => ?_⟩, fun i hi j hj => ?_, fun t ht => ?_, fun k hk => ?_⟩
  · have := (hD.2.2.2.1 s hs).1
    rw [Nat.mul_zero, Nat.zero_add]
    exact (h1 122 s (by omega)).trans this
  · have := (hD.2.2.2.1 s hs).2.1
    rw [Nat.mul_zero, Nat.zero_add]
    exact (h1 123 s (by omega)).trans this
  · have := (hD.2.2.2.1 s hs).2.2 t ht
    rw [Nat.mul_zero, Nat.zero_add]
    exact (h1 136 (3 * s + t) (by omega)).trans (by rw [← this]; show I 136 (18 + (3 * s + t)) = _; congr 1; omega)
  · have := (hD.2.2.2.2.1 p hp).1 j q1 q2
    rw [Nat.mul_zero, Nat.zero_add]
    refine (h1 (124 + j) p (by omega)).trans ?_
    rw [← this]
    have hz : zbk (124 + j) = 8 := by
      have hj : j = 1 ∨ j = 2 ∨ j = 3 ∨ j = 4 ∨ j = 5 ∨ j = 6 ∨ j = 7 ∨ j = 8 := by omega
      rcases hj with rfl | rfl | rfl | rfl | rfl | rfl | rfl | rfl <;> decide
    rw [hz]
  · have := (hD.2.2.2.2.1 p hp).2 t ht
    rw [Nat.mul_zero, Nat.zero_add]
    exact (h1 134 (3 * p + t) (by omega)).trans (by rw [← this]; show I 134 (24 + (3 * p + t)) = _; congr 1; omega)
  · have := hD.2.2.2.2.2.1 i hi j hj
    rw [Nat.mul_zero, Nat.zero_add]
    refine (h1 (138 + j) i (by omega)).trans ?_
    rw [← this]
    have hz : zbk (138 + j) = 6 := by
      have hj2 : j = 0 ∨ j = 1 ∨ j = 2 := by omega
      rcases hj2 with rfl | rfl | rfl <;> decide
    rw [hz]
  · have := hD.2.2.2.2.2.2.1 t ht
    rw [Nat.mul_zero, Nat.zero_add]
    exact (h1 141 t (by omega)).trans this
  · have := hD.2.2.2.2.2.2.2 k hk
    rw [Nat.mul_zero, Nat.zero_add]
    exact (h1 142 k (by omega)).trans this
set_option maxRecDepth 4000 in
theorem y_lay {K : ZKh} {P : Nat → Nat → List Value → List Value → ZMi → ZMl → ZMr → ZRt → Prop} {I : ZMi} {L : ZMl} {R : ZMr} {Q : ZRt} (hP : ZCl K P) (hKb : zKb K) (hRb : zRb R) {len : Nat} {T : Nat → Nat} (hT : zTm I len T) (hl : len ≤ 400) (h256 : ∀ i, T i < 256) (h0 : ¬ zlk (zrd (zto T len) len 400 0 zu0) → ∀ I2, zfV I I2 → Q (some (.int (-2))) I2 L R) (h1 : zlk (zrd (zto T len) len 400 0 zu0) → ∀ I2, (∀ a k, ¬ (121 ≤ a ∧ a ≤ 142) → ¬ (a = 119 ∧ k = 30) → ¬ (a = 119 ∧ k = 29) → a ≠ 148 → ¬ (a = 143 ∧ k = 0) → I2 a k = I a k) → zD I2 0 (zrd (zto T len) len 400 0 zu0).2.1 (zrd (zto T len) len 400 0 zu0).2.2.1 (zrd (zto T len) len 400 0 zu0).2.2.2.1 (zrd (zto T len) len 400 0 zu0).2.2.2.2.1 → I2 143 0 = 0 → I2 119 29 = 0 → Q (some (.int (nI (zrd (zto T len) len 400 0 zu0).2.2.2.1))) I2 L R) : P 124 0 [.ref 119, .null] [] I L R Q := by
  refine r_al hP c124_0 rfl ?_
  refine r_cVip (as := []) (r := []) (a := 119) hP c124_1 rfl (zj119 hKb) rfl (fun z I2 L2 R2 => (z = (zrd (zto T len) len 400 0 zu0).1 ∧ zfV I I2 ∧ ((zrd (zto T len) len 400 0 zu0).1 = -4 → zE I2 (zrd (zto T len) len 400 0 zu0).2)) ∧ L = L2 ∧ R = R2) (fun Q2 hq => y_readAll hP hKb hRb hT hl h256 (fun I2 a b => hq _ I2 L R ⟨⟨rfl, a, b⟩, rfl, rfl⟩)) ?_
  rintro zz I2 L2 R2 ⟨⟨rfl, ha, hb⟩, rfl, rfl⟩
  refine r_ic hP c124_4 ?_
  refine r_ine hP c124_6 (fun h6 => ?_) (fun h6 => ?_)
  · refine r_ic hP c124_27 ?_
    first
      | exact r_irE hP c124_29 (h0 (fun z => h6 z.1) _ ha) rfl
      | exact r_irE hP c124_29 (h0 (fun z => z.2.1 ((nI_eq (b := 0) (by omega) (by decide)).mp h15)) _ ha) rfl
      | exact r_irE hP c124_29 (h0 (fun z => z.2.2 ((nI_eq (b := 0) (by omega) (by decide)).mp h24)) _ ha) rfl
  · have hE := hb h6
    have hub := zrd_ub (t := (zto T len)) (len := len) 400 0 zu0 zub0
    obtain ⟨hub1, hub2, hub3, -, -⟩ := id hub
    refine r_al hP c124_9 rfl ?_
    refine r_gR (x := 121) hP c124_10 (zj119 hKb) (zr119_2 hRb) ?_
    refine r_ic hP c124_13 ?_
    refine r_iald (j := 1) (x := nI (zrd (zto T len) len 400 0 zu0).2.2.1) hP c124_14 (zk121 hKb) rfl (by decide) hE.1.1 ?_
    refine r_ifeq hP c124_15 (fun h15 => ?_) (fun h15 => ?_)
    · refine r_ic hP c124_27 ?_
      first
        | exact r_irE hP c124_29 (h0 (fun z => h6 z.1) _ ha) rfl
        | exact r_irE hP c124_29 (h0 (fun z => z.2.1 ((nI_eq (b := 0) (by omega) (by decide)).mp h15)) _ ha) rfl
        | exact r_irE hP c124_29 (h0 (fun z => z.2.2 ((nI_eq (b := 0) (by omega) (by decide)).mp h24)) _ ha) rfl
    · refine r_al hP c124_18 rfl ?_
      refine r_gR (x := 124) hP c124_19 (zj119 hKb) (zr119_5 hRb) ?_
      refine r_ic hP c124_22 ?_
      refine r_iald (j := 1) (x := nI (zrd (zto T len) len 400 0 zu0).2.2.2.1) hP c124_23 (zk124 hKb) rfl (by decide) hE.1.2.1 ?_
      refine r_ifne hP c124_24 (fun h24 => ?_) (fun h24 => ?_)
      · refine r_al hP c124_30 rfl ?_
        refine r_gR (x := 121) hP c124_31 (zj119 hKb) (zr119_2 hRb) ?_
        refine r_ic hP c124_34 ?_
        refine r_al hP c124_35 rfl ?_
        refine r_gR (x := 121) hP c124_36 (zj119 hKb) (zr119_2 hRb) ?_
        refine r_ic hP c124_39 ?_
        refine r_iald (j := 1) (x := nI (zrd (zto T len) len 400 0 zu0).2.2.1) hP c124_40 (zk121 hKb) rfl (by decide) hE.1.1 ?_
        refine r_iast (j := 0) hP c124_41 (zk121 hKb) rfl (by decide) ?_
        refine r_al hP c124_42 rfl ?_
        refine r_gR (x := 124) hP c124_43 (zj119 hKb) (zr119_5 hRb) ?_
        refine r_ic hP c124_46 ?_
        refine r_al hP c124_47 rfl ?_
        refine r_gR (x := 124) hP c124_48 (zj119 hKb) (zr119_5 hRb) ?_
        refine r_ic hP c124_51 ?_
        refine r_iald (j := 1) (x := nI (zrd (zto T len) len 400 0 zu0).2.2.2.1) hP c124_52 (zk124 hKb) rfl (by decide) ((zup_n _ _ _ _ (by omega)).trans hE.1.2.1) ?_
        refine r_iast (j := 0) hP c124_53 (zk124 hKb) rfl (by decide) ?_
        refine r_al hP c124_54 rfl ?_
        refine r_gR (x := 137) hP c124_55 (zj119 hKb) (zr119_18 hRb) ?_
        refine r_ic hP c124_58 ?_
        refine r_al hP c124_59 rfl ?_
        refine r_gR (x := 137) hP c124_60 (zj119 hKb) (zr119_18 hRb) ?_
        refine r_ic hP c124_63 ?_
        refine r_iald (j := 1) (x := nI (zrd (zto T len) len 400 0 zu0).2.2.2.2.1) hP c124_64 (zk137 hKb) rfl (by decide) ((zup_n _ _ _ _ (by omega)).trans ((zup_n _ _ _ _ (by omega)).trans hE.1.2.2.1)) ?_
        refine r_iast (j := 0) hP c124_65 (zk137 hKb) rfl (by decide) ?_
        refine r_ic hP c124_66 ?_
        refine r_is (ls' := [.ref 119, .int 0]) hP c124_67 (Nat.le_of_ble_eq_true rfl) rfl ?_
        have g0 : zly I2 (fun a k => (k = 0 ∧ (a = 121 ∨ a = 124 ∨ a = 137))) (zup (zup (zup I2 121 0 (nI (zrd (zto T len) len 400 0 zu0).2.2.1)) 124 0 (nI (zrd (zto T len) len 400 0 zu0).2.2.2.1)) 137 0 (nI (zrd (zto T len) len 400 0 zu0).2.2.2.2.1)) := zly_u (d := (fun a k => (k = 0 ∧ (a = 121 ∨ a = 124 ∨ a = 137)))) (zly_u (d := fun a k => (a = 121 ∧ k = 0) ∨ (a = 124 ∧ k = 0)) (zly_u (d := fun a k => a = 121 ∧ k = 0) (c := fun _ _ => False) ⟨fun _ _ z => z.elim, fun _ _ _ => rfl⟩ (b := 121) (j := 0) hE.1.1.symm (fun a k => by simp)) (b := 124) (j := 0) hE.1.2.1.symm (fun a k => by omega)) (b := 137) (j := 0) hE.1.2.2.1.symm (fun a k => by omega)
        refine y_lay_0 hP hKb hRb (fun J1 g1 => ?_) 0 (Nat.zero_le _) _ (zly_w g0 (fun a k => by omega))
        refine r_ic hP c124_155 ?_
        refine r_is (ls' := [.ref 119, .int 0]) hP c124_156 (Nat.le_of_ble_eq_true rfl) rfl ?_
        refine y_lay_1 hP hKb hRb (fun J2 g2 => ?_) 0 (Nat.zero_le _) _ (zly_w g1 (fun a k => by omega))
        refine r_ic hP c124_289 ?_
        refine r_is (ls' := [.ref 119, .int 0]) hP c124_290 (Nat.le_of_ble_eq_true rfl) rfl ?_
        refine y_lay_2 hP hKb hRb (fun J3 g3 => ?_) 0 (Nat.zero_le _) _ (zly_w g2 (fun a k => by omega))
        refine r_ic hP c124_318 ?_
        refine r_is (ls' := [.ref 119, .int 0]) hP c124_319 (Nat.le_of_ble_eq_true rfl) rfl ?_
        refine y_lay_3 hP hKb hRb (fun J4 g4 => ?_) 0 (Nat.zero_le _) _ (zly_w g3 (fun a k => by omega))
        refine r_ic hP c124_347 ?_
        refine r_is (ls' := [.ref 119, .int 0]) hP c124_348 (Nat.le_of_ble_eq_true rfl) rfl ?_
        refine y_lay_4 hP hKb hRb (fun J5 g5 => ?_) 0 (Nat.zero_le _) _ (zly_w g4 (fun a k => by omega))
        refine r_ic hP c124_374 ?_
        refine r_is (ls' := [.ref 119, .int 0]) hP c124_375 (Nat.le_of_ble_eq_true rfl) rfl ?_
        refine y_lay_5 hP hKb hRb (fun J6 g6 => ?_) 0 (Nat.zero_le _) _ (zly_w g5 (fun a k => by omega))
        refine r_al hP c124_401 rfl ?_
        refine r_gR (x := 143) hP c124_402 (zj119 hKb) (zr119_24 hRb) ?_
        refine r_ic hP c124_405 ?_
        refine r_ic hP c124_406 ?_
        refine r_iast (j := 0) hP c124_407 (zk143 hKb) rfl (by decide) ?_
        refine r_al hP c124_408 rfl ?_
        refine r_ic hP c124_409 ?_
        refine r_pI hP c124_410 (zj119 hKb) ?_
        refine r_al hP c124_413 rfl ?_
        refine r_gR (x := 124) hP c124_414 (zj119 hKb) (zr119_5 hRb) ?_
        refine r_ic hP c124_417 ?_
        refine r_iald (j := 0) (x := nI (zrd (zto T len) len 400 0 zu0).2.2.2.1) hP c124_418 (zk124 hKb) rfl (by decide) ((zup_n _ _ _ _ (by omega)).trans ((zup_n _ _ _ _ (by omega)).trans ((g6.1 124 0 (by omega)).trans hE.1.2.1))) ?_
        have hlk : zlk (zrd (zto T len) len 400 0 zu0) := ⟨h6, fun z => h15 (by rw [z]; rfl), fun z => h24 (by rw [z]; rfl)⟩
        exact r_irE hP c124_419 (h1 hlk _ (fun a k q1 q2 q3 q4 q5 => (zup_n _ _ _ _ q3).trans ((zup_n _ _ _ _ q5).trans ((g6.2 a k (by omega)).trans (ha a k q2 q4 (by omega))))) (zD_to (zly_D hE.1 hub.1 hub.2.1 hub.2.2.1 g6) (fun a h1 h2 k => (zup_n _ _ _ _ (by omega)).trans (zup_n _ _ _ _ (by omega)))) ((zup_n _ _ _ _ (by omega)).trans (zup_s _ _ _ _)) (zup_s _ _ _ _)) rfl
      · refine r_ic hP c124_27 ?_
        first
          | exact r_irE hP c124_29 (h0 (fun z => h6 z.1) _ ha) rfl
          | exact r_irE hP c124_29 (h0 (fun z => z.2.1 ((nI_eq (b := 0) (by omega) (by decide)).mp h15)) _ ha) rfl
          | exact r_irE hP c124_29 (h0 (fun z => z.2.2 ((nI_eq (b := 0) (by omega) (by decide)).mp h24)) _ ha) rfl
