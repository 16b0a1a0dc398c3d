/-! ===== the model: risk, age, safe, odds ===== -/
theorem zany_1 {f : Nat → Bool} {s : Nat} (h : zany f s = true) : zany f (s + 1) = true := by rw [zany, h]; rfl
theorem zany_2 {f : Nat → Bool} {s : Nat} (h : f s = true) : zany f (s + 1) = true := by rw [zany, h]; exact Bool.or_true _
theorem zany_0 {f : Nat → Bool} {s : Nat} (h1 : ¬ zany f s = true) (h2 : ¬ f s = true) : ¬ zany f (s + 1) = true := by
  rw [zany, Bool.or_eq_true]
  exact fun q => Or.elim q h1 h2
theorem zi1 {c : Prop} [Decidable c] (h : c) : (1 : Int32) = if c then 1 else 0 := (if_pos h).symm
theorem zi0 {c : Prop} [Decidable c] (h : ¬ c) : (0 : Int32) = if c then 1 else 0 := (if_neg h).symm
set_option maxRecDepth 4000 in
theorem y_risk1_l {K : ZKh} {P : Nat → Nat → List Value → List Value → ZMi → ZMl → ZMr → ZRt → Prop} {I : ZMi} {L : ZMl} {R : ZMr} {Q : ZRt} (hP : ZCl K P) {nS nP nW : Nat} {S : ZS} (hKb : zKb K) (hRb : zRb R) (hD : zD I 0 S nS nP nW) (hs1 : 1 ≤ nS) (hp1 : 1 ≤ nP) (hp8 : nP ≤ 8) (hs6 : nS ≤ 6) (hw6 : nW ≤ 6) {j : Nat} (hj : j < nS) (h : Q (some (.int (if zany (zsb S nS j) nS = true then 1 else 0))) I L R) : ∀ s, s ≤ nS → ∀ (acc : Int32), acc = (if zany (zsb S nS j) s = true then 1 else 0) → P 140 5 [.ref 119, .int 1, .int (nI j), .int acc, .int (nI s)] [] I L R Q := by
  refine zloop nS (fun s => ∀ (acc : Int32), acc = (if zany (zsb S nS j) s = true then 1 else 0) → P 140 5 [.ref 119, .int 1, .int (nI j), .int acc, .int (nI s)] [] I L R Q) ?_
  intro s hle ih acc hacc
  refine r_il hP c140_5 rfl ?_
  refine r_al hP c140_7 rfl ?_
  refine r_gR (x := 121) hP c140_8 (zj119 hKb) (zr119_2 hRb) ?_
  refine r_ic hP c140_11 ?_
  refine r_iald (j := 0) (x := nI nS) hP c140_12 (zk121 hKb) rfl (by decide) hD.1 ?_
  refine r_ige hP c140_13 (fun h13 => ?_) (fun h13 => ?_)
  · have he : s = nS := Nat.le_antisymm hle ((nI_leI (by omega) (by omega)).mp h13)
    refine r_ic hP c140_76 ?_
    refine r_is (ls' := [.ref 119, .int 1, .int (nI j), .int acc, .int 0]) hP c140_77 (Nat.le_of_ble_eq_true rfl) rfl ?_
    refine r_il hP c140_79 rfl ?_
    refine r_al hP c140_81 rfl ?_
    refine r_gR (x := 124) hP c140_82 (zj119 hKb) (zr119_5 hRb) ?_
    refine r_ic hP c140_85 ?_
    refine r_iald (j := 0) (x := nI nP) hP c140_86 (zk124 hKb) rfl (by decide) hD.2.1 ?_
    refine r_ige hP c140_87 (fun h87 => ?_) (fun h87 => ?_)
    · refine r_il hP c140_140 rfl ?_
      refine r_ifeq hP c140_141 (fun h141 => ?_) (fun h141 => ?_)
      · refine r_ic hP c140_148 ?_
        subst he
        first
          | exact r_irE hP c140_149 h (zi0 (fun q => by rw [hacc, if_pos q] at h141; exact absurd h141 (by decide)))
          | exact r_irE hP c140_149 h (zi1 (Classical.byContradiction (fun q => h141 (by rw [hacc, if_neg q]))))
      · refine r_ic hP c140_144 ?_
        refine r_goto hP c140_145 ?_
        subst he
        first
          | exact r_irE hP c140_149 h (zi0 (fun q => by rw [hacc, if_pos q] at h141; exact absurd h141 (by decide)))
          | exact r_irE hP c140_149 h (zi1 (Classical.byContradiction (fun q => h141 (by rw [hacc, if_neg q]))))
    · refine r_il hP c140_90 rfl ?_
      refine r_ic hP c140_91 ?_
      refine r_ieq hP c140_92 (fun h92 => absurd h92 (by decide)) (fun h92 => ?_)
      refine r_il hP c140_95 rfl ?_
      refine r_ic hP c140_96 ?_
      refine r_ine hP c140_97 (fun h97 => ?_) (fun h97 => absurd h97 (by decide))
      refine r_il hP c140_140 rfl ?_
      refine r_ifeq hP c140_141 (fun h141 => ?_) (fun h141 => ?_)
      · refine r_ic hP c140_148 ?_
        subst he
        first
          | exact r_irE hP c140_149 h (zi0 (fun q => by rw [hacc, if_pos q] at h141; exact absurd h141 (by decide)))
          | exact r_irE hP c140_149 h (zi1 (Classical.byContradiction (fun q => h141 (by rw [hacc, if_neg q]))))
      · refine r_ic hP c140_144 ?_
        refine r_goto hP c140_145 ?_
        subst he
        first
          | exact r_irE hP c140_149 h (zi0 (fun q => by rw [hacc, if_pos q] at h141; exact absurd h141 (by decide)))
          | exact r_irE hP c140_149 h (zi1 (Classical.byContradiction (fun q => h141 (by rw [hacc, if_neg q]))))
  · have hlt : s < nS := by
      rcases Nat.lt_or_ge s nS with q | q
      · exact q
      · exact absurd (nI_le q (by omega)) h13
    refine r_il hP c140_16 rfl ?_
    refine r_ic hP c140_17 ?_
    refine r_ine hP c140_18 (fun h18 => absurd h18 (not_not_intro rfl)) (fun h18 => ?_)
    refine r_il hP c140_21 rfl ?_
    refine r_ifne hP c140_22 (fun h22 => ?_) (fun h22 => ?_)
    · have hz : zany (zsb S nS j) s = true := Classical.byContradiction (fun q => h22 (by rw [hacc, if_neg q]))
      refine r_ic hP c140_64 ?_
      refine r_goto hP c140_65 ?_
      refine r_is (ls' := [.ref 119, .int 1, .int (nI j), .int 1, .int (nI s)]) hP c140_69 (Nat.le_of_ble_eq_true rfl) rfl ?_
      refine r_inc (y := nI (s + 1)) (ls' := [.ref 119, .int 1, .int (nI j), .int 1, .int (nI (s + 1))]) hP c140_70 rfl (nI_1 _) rfl ?_
      refine r_goto hP c140_73 ?_
      exact ih hlt _ (by
        first
          | exact zi1 (zany_1 hz)
          | exact zi1 (zany_2 (by rw [zsb, Bool.and_eq_true]; exact ⟨decide_eq_true hne, decide_eq_true (Int32.not_le.mp h61)⟩))
          | exact zi0 (zany_0 hz (by rw [zsb, Bool.and_eq_true]; exact fun q => absurd h61 (Int32.not_le.mpr (of_decide_eq_true q.2))))
          | exact zi0 (zany_0 hz (by rw [zsb, Bool.and_eq_true]; exact fun q => of_decide_eq_true q.1 hne)))
    · have hz : ¬ zany (zsb S nS j) s = true := fun q => by
        rw [hacc, if_pos q] at h22
        exact absurd h22 (by decide)
      refine r_il hP c140_25 rfl ?_
      refine r_il hP c140_27 rfl ?_
      refine r_ieq hP c140_28 (fun h28 => ?_) (fun h28 => ?_)
      · have hne : s = j := (nI_eq (by omega) (by omega)).mp h28
        refine r_ic hP c140_68 ?_
        refine r_is (ls' := [.ref 119, .int 1, .int (nI j), .int 0, .int (nI s)]) hP c140_69 (Nat.le_of_ble_eq_true rfl) rfl ?_
        refine r_inc (y := nI (s + 1)) (ls' := [.ref 119, .int 1, .int (nI j), .int 0, .int (nI (s + 1))]) hP c140_70 rfl (nI_1 _) rfl ?_
        refine r_goto hP c140_73 ?_
        exact ih hlt _ (by
          first
            | exact zi1 (zany_1 hz)
            | exact zi1 (zany_2 (by rw [zsb, Bool.and_eq_true]; exact ⟨decide_eq_true hne, decide_eq_true (Int32.not_le.mp h61)⟩))
            | exact zi0 (zany_0 hz (by rw [zsb, Bool.and_eq_true]; exact fun q => absurd h61 (Int32.not_le.mpr (of_decide_eq_true q.2))))
            | exact zi0 (zany_0 hz (by rw [zsb, Bool.and_eq_true]; exact fun q => of_decide_eq_true q.1 hne)))
      · have hne : ¬ s = j := fun q => h28 (by rw [q])
        refine r_al hP c140_31 rfl ?_
        refine r_gR (x := 122) hP c140_32 (zj119 hKb) (zr119_3 hRb) ?_
        refine r_il hP c140_35 rfl ?_
        refine r_iald (j := s) (x := S 0 s 0) hP c140_37 (zk122 hKb) rfl (by omega) (zD_g hD (by omega)) ?_
        refine r_al hP c140_38 rfl ?_
        refine r_gR (x := 122) hP c140_39 (zj119 hKb) (zr119_3 hRb) ?_
        refine r_il hP c140_42 rfl ?_
        refine r_iald (j := j) (x := S 0 j 0) hP c140_43 (zk122 hKb) rfl (by omega) (zD_g hD (by omega)) ?_
        refine r_al hP c140_44 rfl ?_
        refine r_gR (x := 121) hP c140_45 (zj119 hKb) (zr119_2 hRb) ?_
        refine r_ic hP c140_48 ?_
        refine r_iald (j := 0) (x := nI nS) hP c140_49 (zk121 hKb) rfl (by decide) hD.1 ?_
        refine r_ic hP c140_50 ?_
        refine r_isub hP c140_51 ?_
        refine r_ti (y := nI (nS - 1)) (pk_sub (b := 1) hs1) ?_
        refine r_idiv hP c140_52 (nI_ne0 (by omega) (by omega)) ?_
        refine r_iadd hP c140_53 ?_
        refine r_al hP c140_54 rfl ?_
        refine r_gR (x := 123) hP c140_55 (zj119 hKb) (zr119_4 hRb) ?_
        refine r_il hP c140_58 rfl ?_
        refine r_iald (j := s) (x := S 1 s 0) hP c140_60 (zk123 hKb) rfl (by omega) (zD_b hD (by omega)) ?_
        refine r_ile hP c140_61 (fun h61 => ?_) (fun h61 => ?_)
        · refine r_ic hP c140_68 ?_
          refine r_is (ls' := [.ref 119, .int 1, .int (nI j), .int 0, .int (nI s)]) hP c140_69 (Nat.le_of_ble_eq_true rfl) rfl ?_
          refine r_inc (y := nI (s + 1)) (ls' := [.ref 119, .int 1, .int (nI j), .int 0, .int (nI (s + 1))]) hP c140_70 rfl (nI_1 _) rfl ?_
          refine r_goto hP c140_73 ?_
          exact ih hlt _ (by
            first
              | exact zi1 (zany_1 hz)
              | exact zi1 (zany_2 (by rw [zsb, Bool.and_eq_true]; exact ⟨decide_eq_true hne, decide_eq_true (Int32.not_le.mp h61)⟩))
              | exact zi0 (zany_0 hz (by rw [zsb, Bool.and_eq_true]; exact fun q => absurd h61 (Int32.not_le.mpr (of_decide_eq_true q.2))))
              | exact zi0 (zany_0 hz (by rw [zsb, Bool.and_eq_true]; exact fun q => of_decide_eq_true q.1 hne)))
        · refine r_ic hP c140_64 ?_
          refine r_goto hP c140_65 ?_
          refine r_is (ls' := [.ref 119, .int 1, .int (nI j), .int 1, .int (nI s)]) hP c140_69 (Nat.le_of_ble_eq_true rfl) rfl ?_
          refine r_inc (y := nI (s + 1)) (ls' := [.ref 119, .int 1, .int (nI j), .int 1, .int (nI (s + 1))]) hP c140_70 rfl (nI_1 _) rfl ?_
          refine r_goto hP c140_73 ?_
          exact ih hlt _ (by
            first
              | exact zi1 (zany_1 hz)
              | exact zi1 (zany_2 (by rw [zsb, Bool.and_eq_true]; exact ⟨decide_eq_true hne, decide_eq_true (Int32.not_le.mp h61)⟩))
              | exact zi0 (zany_0 hz (by rw [zsb, Bool.and_eq_true]; exact fun q => absurd h61 (Int32.not_le.mpr (of_decide_eq_true q.2))))
              | exact zi0 (zany_0 hz (by rw [zsb, Bool.and_eq_true]; exact fun q => of_decide_eq_true q.1 hne)))
set_option maxRecDepth 4000 in
theorem y_risk1 {K : ZKh} {P : Nat → Nat → List Value → List Value → ZMi → ZMl → ZMr → ZRt → Prop} {I : ZMi} {L : ZMl} {R : ZMr} {Q : ZRt} (hP : ZCl K P) {nS nP nW : Nat} {S : ZS} (hKb : zKb K) (hRb : zRb R) (hD : zD I 0 S nS nP nW) (hs1 : 1 ≤ nS) (hp1 : 1 ≤ nP) (hp8 : nP ≤ 8) (hs6 : nS ≤ 6) (hw6 : nW ≤ 6) {j : Nat} (hj : j < nS) (h : Q (some (.int (if zany (zsb S nS j) nS = true then 1 else 0))) I L R) : P 140 0 [.ref 119, .int 1, .int (nI j), .null, .null] [] I L R Q := by
  refine r_ic hP c140_0 ?_
  refine r_is (ls' := [.ref 119, .int 1, .int (nI j), .int 0, .null]) hP c140_1 (Nat.le_of_ble_eq_true rfl) rfl ?_
  refine r_ic hP c140_2 ?_
  refine r_is (ls' := [.ref 119, .int 1, .int (nI j), .int 0, .int 0]) hP c140_3 (Nat.le_of_ble_eq_true rfl) rfl ?_
  exact y_risk1_l hP hKb hRb hD hs1 hp1 hp8 hs6 hw6 hj h 0 (Nat.zero_le _) _ rfl
set_option maxRecDepth 4000 in
theorem y_risk2_l {K : ZKh} {P : Nat → Nat → List Value → List Value → ZMi → ZMl → ZMr → ZRt → Prop} {I : ZMi} {L : ZMl} {R : ZMr} {Q : ZRt} (hP : ZCl K P) {nS nP nW : Nat} {S : ZS} (hKb : zKb K) (hRb : zRb R) (hD : zD I 0 S nS nP nW) (hs1 : 1 ≤ nS) (hp1 : 1 ≤ nP) (hp8 : nP ≤ 8) (hs6 : nS ≤ 6) (hw6 : nW ≤ 6) {y : Int32} (h : Q (some (.int (if zany (zsh S y) nP = true then 1 else 0))) I L R) : ∀ p, p ≤ nP → ∀ (acc : Int32), acc = (if zany (zsh S y) p = true then 1 else 0) → P 140 79 [.ref 119, .int 2, .int y, .int acc, .int (nI p)] [] I L R Q := by
  refine zloop nP (fun p => ∀ (acc : Int32), acc = (if zany (zsh S y) p = true then 1 else 0) → P 140 79 [.ref 119, .int 2, .int y, .int acc, .int (nI p)] [] I L R Q) ?_
  intro p hle ih acc hacc
  refine r_il hP c140_79 rfl ?_
  refine r_al hP c140_81 rfl ?_
  refine r_gR (x := 124) hP c140_82 (zj119 hKb) (zr119_5 hRb) ?_
  refine r_ic hP c140_85 ?_
  refine r_iald (j := 0) (x := nI nP) hP c140_86 (zk124 hKb) rfl (by decide) hD.2.1 ?_
  refine r_ige hP c140_87 (fun h87 => ?_) (fun h87 => ?_)
  · have he : p = nP := Nat.le_antisymm hle ((nI_leI (by omega) (by omega)).mp h87)
    refine r_il hP c140_140 rfl ?_
    refine r_ifeq hP c140_141 (fun h141 => ?_) (fun h141 => ?_)
    · refine r_ic hP c140_148 ?_
      subst he
      first
        | exact r_irE hP c140_149 h (zi0 (fun q => by rw [hacc, if_pos q] at h141; exact absurd h141 (by decide)))
        | exact r_irE hP c140_149 h (zi1 (Classical.byContradiction (fun q => h141 (by rw [hacc, if_neg q]))))
    · refine r_ic hP c140_144 ?_
      refine r_goto hP c140_145 ?_
      subst he
      first
        | exact r_irE hP c140_149 h (zi0 (fun q => by rw [hacc, if_pos q] at h141; exact absurd h141 (by decide)))
        | exact r_irE hP c140_149 h (zi1 (Classical.byContradiction (fun q => h141 (by rw [hacc, if_neg q]))))
  · have hlt : p < nP := by
      rcases Nat.lt_or_ge p nP with q | q
      · exact q
      · exact absurd (nI_le q (by omega)) h87
    refine r_il hP c140_90 rfl ?_
    refine r_ic hP c140_91 ?_
    refine r_ieq hP c140_92 (fun h92 => ?_) (fun h92 => absurd h92 (not_not_intro rfl))
    refine r_il hP c140_100 rfl ?_
    refine r_ifne hP c140_101 (fun h101 => ?_) (fun h101 => ?_)
    · have hz : zany (zsh S y) p = true := Classical.byContradiction (fun q => h101 (by rw [hacc, if_neg q]))
      refine r_ic hP c140_128 ?_
      refine r_goto hP c140_129 ?_
      refine r_is (ls' := [.ref 119, .int 2, .int y, .int 1, .int (nI p)]) hP c140_133 (Nat.le_of_ble_eq_true rfl) rfl ?_
      refine r_inc (y := nI (p + 1)) (ls' := [.ref 119, .int 2, .int y, .int 1, .int (nI (p + 1))]) hP c140_134 rfl (nI_1 _) rfl ?_
      refine r_goto hP c140_137 ?_
      exact ih hlt _ (by
        first
          | exact zi1 (zany_1 hz)
          | exact zi1 (zany_2 (by rw [zsh, Bool.and_eq_true]; exact ⟨decide_eq_true h112, decide_eq_true (Int32.not_lt.mp h125)⟩))
          | exact zi0 (zany_0 hz (by rw [zsh, Bool.and_eq_true]; exact fun q => h112 (of_decide_eq_true q.1)))
          | exact zi0 (zany_0 hz (by rw [zsh, Bool.and_eq_true]; exact fun q => absurd h125 (Int32.not_lt.mpr (of_decide_eq_true q.2)))))
    · have hz : ¬ zany (zsh S y) p = true := fun q => by
        rw [hacc, if_pos q] at h101
        exact absurd h101 (by decide)
      refine r_al hP c140_104 rfl ?_
      refine r_gR (x := 125) hP c140_105 (zj119 hKb) (zr119_6 hRb) ?_
      refine r_il hP c140_108 rfl ?_
      refine r_iald (j := p) (x := S 3 p 0) hP c140_110 (zk125 hKb) rfl (by omega) (zD_f hD (by omega) 1 (by decide) (by decide)) ?_
      refine r_il hP c140_111 rfl ?_
      refine r_ine hP c140_112 (fun h112 => ?_) (fun h112 => ?_)
      · refine r_ic hP c140_132 ?_
        refine r_is (ls' := [.ref 119, .int 2, .int y, .int 0, .int (nI p)]) hP c140_133 (Nat.le_of_ble_eq_true rfl) rfl ?_
        refine r_inc (y := nI (p + 1)) (ls' := [.ref 119, .int 2, .int y, .int 0, .int (nI (p + 1))]) hP c140_134 rfl (nI_1 _) rfl ?_
        refine r_goto hP c140_137 ?_
        exact ih hlt _ (by
          first
            | exact zi1 (zany_1 hz)
            | exact zi1 (zany_2 (by rw [zsh, Bool.and_eq_true]; exact ⟨decide_eq_true h112, decide_eq_true (Int32.not_lt.mp h125)⟩))
            | exact zi0 (zany_0 hz (by rw [zsh, Bool.and_eq_true]; exact fun q => h112 (of_decide_eq_true q.1)))
            | exact zi0 (zany_0 hz (by rw [zsh, Bool.and_eq_true]; exact fun q => absurd h125 (Int32.not_lt.mpr (of_decide_eq_true q.2)))))
      · refine r_al hP c140_115 rfl ?_
        refine r_gR (x := 131) hP c140_116 (zj119 hKb) (zr119_12 hRb) ?_
        refine r_il hP c140_119 rfl ?_
        refine r_iald (j := p) (x := S 9 p 0) hP c140_121 (zk131 hKb) rfl (by omega) (zD_f hD (by omega) 7 (by decide) (by decide)) ?_
        refine r_ic hP c140_122 ?_
        refine r_ilt hP c140_125 (fun h125 => ?_) (fun h125 => ?_)
        · refine r_ic hP c140_132 ?_
          refine r_is (ls' := [.ref 119, .int 2, .int y, .int 0, .int (nI p)]) hP c140_133 (Nat.le_of_ble_eq_true rfl) rfl ?_
          refine r_inc (y := nI (p + 1)) (ls' := [.ref 119, .int 2, .int y, .int 0, .int (nI (p + 1))]) hP c140_134 rfl (nI_1 _) rfl ?_
          refine r_goto hP c140_137 ?_
          exact ih hlt _ (by
            first
              | exact zi1 (zany_1 hz)
              | exact zi1 (zany_2 (by rw [zsh, Bool.and_eq_true]; exact ⟨decide_eq_true h112, decide_eq_true (Int32.not_lt.mp h125)⟩))
              | exact zi0 (zany_0 hz (by rw [zsh, Bool.and_eq_true]; exact fun q => h112 (of_decide_eq_true q.1)))
              | exact zi0 (zany_0 hz (by rw [zsh, Bool.and_eq_true]; exact fun q => absurd h125 (Int32.not_lt.mpr (of_decide_eq_true q.2)))))
        · refine r_ic hP c140_128 ?_
          refine r_goto hP c140_129 ?_
          refine r_is (ls' := [.ref 119, .int 2, .int y, .int 1, .int (nI p)]) hP c140_133 (Nat.le_of_ble_eq_true rfl) rfl ?_
          refine r_inc (y := nI (p + 1)) (ls' := [.ref 119, .int 2, .int y, .int 1, .int (nI (p + 1))]) hP c140_134 rfl (nI_1 _) rfl ?_
          refine r_goto hP c140_137 ?_
          exact ih hlt _ (by
            first
              | exact zi1 (zany_1 hz)
              | exact zi1 (zany_2 (by rw [zsh, Bool.and_eq_true]; exact ⟨decide_eq_true h112, decide_eq_true (Int32.not_lt.mp h125)⟩))
              | exact zi0 (zany_0 hz (by rw [zsh, Bool.and_eq_true]; exact fun q => h112 (of_decide_eq_true q.1)))
              | exact zi0 (zany_0 hz (by rw [zsh, Bool.and_eq_true]; exact fun q => absurd h125 (Int32.not_lt.mpr (of_decide_eq_true q.2)))))
set_option maxRecDepth 4000 in
theorem y_risk2 {K : ZKh} {P : Nat → Nat → List Value → List Value → ZMi → ZMl → ZMr → ZRt → Prop} {I : ZMi} {L : ZMl} {R : ZMr} {Q : ZRt} (hP : ZCl K P) {nS nP nW : Nat} {S : ZS} (hKb : zKb K) (hRb : zRb R) (hD : zD I 0 S nS nP nW) (hs1 : 1 ≤ nS) (hp1 : 1 ≤ nP) (hp8 : nP ≤ 8) (hs6 : nS ≤ 6) (hw6 : nW ≤ 6) {y : Int32} (h : Q (some (.int (if zany (zsh S y) nP = true then 1 else 0))) I L R) : P 140 0 [.ref 119, .int 2, .int y, .null, .null] [] I L R Q := by
  refine r_ic hP c140_0 ?_
  refine r_is (ls' := [.ref 119, .int 2, .int y, .int 0, .null]) hP c140_1 (Nat.le_of_ble_eq_true rfl) rfl ?_
  refine r_ic hP c140_2 ?_
  refine r_is (ls' := [.ref 119, .int 2, .int y, .int 0, .int 0]) hP c140_3 (Nat.le_of_ble_eq_true rfl) rfl ?_
  refine r_il hP c140_5 rfl ?_
  refine r_al hP c140_7 rfl ?_
  refine r_gR (x := 121) hP c140_8 (zj119 hKb) (zr119_2 hRb) ?_
  refine r_ic hP c140_11 ?_
  refine r_iald (j := 0) (x := nI nS) hP c140_12 (zk121 hKb) rfl (by decide) hD.1 ?_
  refine r_ige hP c140_13 (fun h13 => ?_) (fun h13 => ?_)
  · refine r_ic hP c140_76 ?_
    refine r_is (ls' := [.ref 119, .int 2, .int y, .int 0, .int 0]) hP c140_77 (Nat.le_of_ble_eq_true rfl) rfl ?_
    exact y_risk2_l hP hKb hRb hD hs1 hp1 hp8 hs6 hw6 h 0 (Nat.zero_le _) _ rfl
  · refine r_il hP c140_16 rfl ?_
    refine r_ic hP c140_17 ?_
    refine r_ine hP c140_18 (fun h18 => ?_) (fun h18 => absurd h18 (by decide))
    refine r_ic hP c140_76 ?_
    refine r_is (ls' := [.ref 119, .int 2, .int y, .int 0, .int 0]) hP c140_77 (Nat.le_of_ble_eq_true rfl) rfl ?_
    exact y_risk2_l hP hKb hRb hD hs1 hp1 hp8 hs6 hw6 h 0 (Nat.zero_le _) _ rfl
set_option maxRecDepth 4000 in
theorem y_risk4_l {K : ZKh} {P : Nat → Nat → List Value → List Value → ZMi → ZMl → ZMr → ZRt → Prop} {I : ZMi} {L : ZMl} {R : ZMr} {Q : ZRt} (hP : ZCl K P) {nS nP nW : Nat} {S : ZS} (hKb : zKb K) (hRb : zRb R) (hD : zD I 0 S nS nP nW) (hs1 : 1 ≤ nS) (hp1 : 1 ≤ nP) (hp8 : nP ≤ 8) (hs6 : nS ≤ 6) (hw6 : nW ≤ 6) {y : Int32} (h : Q (some (.int (if zany (zsh S y) nP = true then 1 else 0))) I L R) : ∀ p, p ≤ nP → ∀ (acc : Int32), acc = (if zany (zsh S y) p = true then 1 else 0) → P 140 79 [.ref 119, .int 4, .int y, .int acc, .int (nI p)] [] I L R Q := by
  refine zloop nP (fun p => ∀ (acc : Int32), acc = (if zany (zsh S y) p = true then 1 else 0) → P 140 79 [.ref 119, .int 4, .int y, .int acc, .int (nI p)] [] I L R Q) ?_
  intro p hle ih acc hacc
  refine r_il hP c140_79 rfl ?_
  refine r_al hP c140_81 rfl ?_
  refine r_gR (x := 124) hP c140_82 (zj119 hKb) (zr119_5 hRb) ?_
  refine r_ic hP c140_85 ?_
  refine r_iald (j := 0) (x := nI nP) hP c140_86 (zk124 hKb) rfl (by decide) hD.2.1 ?_
  refine r_ige hP c140_87 (fun h87 => ?_) (fun h87 => ?_)
  · have he : p = nP := Nat.le_antisymm hle ((nI_leI (by omega) (by omega)).mp h87)
    refine r_il hP c140_140 rfl ?_
    refine r_ifeq hP c140_141 (fun h141 => ?_) (fun h141 => ?_)
    · refine r_ic hP c140_148 ?_
      subst he
      first
        | exact r_irE hP c140_149 h (zi0 (fun q => by rw [hacc, if_pos q] at h141; exact absurd h141 (by decide)))
        | exact r_irE hP c140_149 h (zi1 (Classical.byContradiction (fun q => h141 (by rw [hacc, if_neg q]))))
    · refine r_ic hP c140_144 ?_
      refine r_goto hP c140_145 ?_
      subst he
      first
        | exact r_irE hP c140_149 h (zi0 (fun q => by rw [hacc, if_pos q] at h141; exact absurd h141 (by decide)))
        | exact r_irE hP c140_149 h (zi1 (Classical.byContradiction (fun q => h141 (by rw [hacc, if_neg q]))))
  · have hlt : p < nP := by
      rcases Nat.lt_or_ge p nP with q | q
      · exact q
      · exact absurd (nI_le q (by omega)) h87
    refine r_il hP c140_90 rfl ?_
    refine r_ic hP c140_91 ?_
    refine r_ieq hP c140_92 (fun h92 => absurd h92 (by decide)) (fun h92 => ?_)
    refine r_il hP c140_95 rfl ?_
    refine r_ic hP c140_96 ?_
    refine r_ine hP c140_97 (fun h97 => absurd h97 (not_not_intro rfl)) (fun h97 => ?_)
    refine r_il hP c140_100 rfl ?_
    refine r_ifne hP c140_101 (fun h101 => ?_) (fun h101 => ?_)
    · have hz : zany (zsh S y) p = true := Classical.byContradiction (fun q => h101 (by rw [hacc, if_neg q]))
      refine r_ic hP c140_128 ?_
      refine r_goto hP c140_129 ?_
      refine r_is (ls' := [.ref 119, .int 4, .int y, .int 1, .int (nI p)]) hP c140_133 (Nat.le_of_ble_eq_true rfl) rfl ?_
      refine r_inc (y := nI (p + 1)) (ls' := [.ref 119, .int 4, .int y, .int 1, .int (nI (p + 1))]) hP c140_134 rfl (nI_1 _) rfl ?_
      refine r_goto hP c140_137 ?_
      exact ih hlt _ (by
        first
          | exact zi1 (zany_1 hz)
          | exact zi1 (zany_2 (by rw [zsh, Bool.and_eq_true]; exact ⟨decide_eq_true h112, decide_eq_true (Int32.not_lt.mp h125)⟩))
          | exact zi0 (zany_0 hz (by rw [zsh, Bool.and_eq_true]; exact fun q => h112 (of_decide_eq_true q.1)))
          | exact zi0 (zany_0 hz (by rw [zsh, Bool.and_eq_true]; exact fun q => absurd h125 (Int32.not_lt.mpr (of_decide_eq_true q.2)))))
    · have hz : ¬ zany (zsh S y) p = true := fun q => by
        rw [hacc, if_pos q] at h101
        exact absurd h101 (by decide)
      refine r_al hP c140_104 rfl ?_
      refine r_gR (x := 125) hP c140_105 (zj119 hKb) (zr119_6 hRb) ?_
      refine r_il hP c140_108 rfl ?_
      refine r_iald (j := p) (x := S 3 p 0) hP c140_110 (zk125 hKb) rfl (by omega) (zD_f hD (by omega) 1 (by decide) (by decide)) ?_
      refine r_il hP c140_111 rfl ?_
      refine r_ine hP c140_112 (fun h112 => ?_) (fun h112 => ?_)
      · refine r_ic hP c140_132 ?_
        refine r_is (ls' := [.ref 119, .int 4, .int y, .int 0, .int (nI p)]) hP c140_133 (Nat.le_of_ble_eq_true rfl) rfl ?_
        refine r_inc (y := nI (p + 1)) (ls' := [.ref 119, .int 4, .int y, .int 0, .int (nI (p + 1))]) hP c140_134 rfl (nI_1 _) rfl ?_
        refine r_goto hP c140_137 ?_
        exact ih hlt _ (by
          first
            | exact zi1 (zany_1 hz)
            | exact zi1 (zany_2 (by rw [zsh, Bool.and_eq_true]; exact ⟨decide_eq_true h112, decide_eq_true (Int32.not_lt.mp h125)⟩))
            | exact zi0 (zany_0 hz (by rw [zsh, Bool.and_eq_true]; exact fun q => h112 (of_decide_eq_true q.1)))
            | exact zi0 (zany_0 hz (by rw [zsh, Bool.and_eq_true]; exact fun q => absurd h125 (Int32.not_lt.mpr (of_decide_eq_true q.2)))))
      · refine r_al hP c140_115 rfl ?_
        refine r_gR (x := 131) hP c140_116 (zj119 hKb) (zr119_12 hRb) ?_
        refine r_il hP c140_119 rfl ?_
        refine r_iald (j := p) (x := S 9 p 0) hP c140_121 (zk131 hKb) rfl (by omega) (zD_f hD (by omega) 7 (by decide) (by decide)) ?_
        refine r_ic hP c140_122 ?_
        refine r_ilt hP c140_125 (fun h125 => ?_) (fun h125 => ?_)
        · refine r_ic hP c140_132 ?_
          refine r_is (ls' := [.ref 119, .int 4, .int y, .int 0, .int (nI p)]) hP c140_133 (Nat.le_of_ble_eq_true rfl) rfl ?_
          refine r_inc (y := nI (p + 1)) (ls' := [.ref 119, .int 4, .int y, .int 0, .int (nI (p + 1))]) hP c140_134 rfl (nI_1 _) rfl ?_
          refine r_goto hP c140_137 ?_
          exact ih hlt _ (by
            first
              | exact zi1 (zany_1 hz)
              | exact zi1 (zany_2 (by rw [zsh, Bool.and_eq_true]; exact ⟨decide_eq_true h112, decide_eq_true (Int32.not_lt.mp h125)⟩))
              | exact zi0 (zany_0 hz (by rw [zsh, Bool.and_eq_true]; exact fun q => h112 (of_decide_eq_true q.1)))
              | exact zi0 (zany_0 hz (by rw [zsh, Bool.and_eq_true]; exact fun q => absurd h125 (Int32.not_lt.mpr (of_decide_eq_true q.2)))))
        · refine r_ic hP c140_128 ?_
          refine r_goto hP c140_129 ?_
          refine r_is (ls' := [.ref 119, .int 4, .int y, .int 1, .int (nI p)]) hP c140_133 (Nat.le_of_ble_eq_true rfl) rfl ?_
          refine r_inc (y := nI (p + 1)) (ls' := [.ref 119, .int 4, .int y, .int 1, .int (nI (p + 1))]) hP c140_134 rfl (nI_1 _) rfl ?_
          refine r_goto hP c140_137 ?_
          exact ih hlt _ (by
            first
              | exact zi1 (zany_1 hz)
              | exact zi1 (zany_2 (by rw [zsh, Bool.and_eq_true]; exact ⟨decide_eq_true h112, decide_eq_true (Int32.not_lt.mp h125)⟩))
              | exact zi0 (zany_0 hz (by rw [zsh, Bool.and_eq_true]; exact fun q => h112 (of_decide_eq_true q.1)))
              | exact zi0 (zany_0 hz (by rw [zsh, Bool.and_eq_true]; exact fun q => absurd h125 (Int32.not_lt.mpr (of_decide_eq_true q.2)))))
set_option maxRecDepth 4000 in
theorem y_risk4 {K : ZKh} {P : Nat → Nat → List Value → List Value → ZMi → ZMl → ZMr → ZRt → Prop} {I : ZMi} {L : ZMl} {R : ZMr} {Q : ZRt} (hP : ZCl K P) {nS nP nW : Nat} {S : ZS} (hKb : zKb K) (hRb : zRb R) (hD : zD I 0 S nS nP nW) (hs1 : 1 ≤ nS) (hp1 : 1 ≤ nP) (hp8 : nP ≤ 8) (hs6 : nS ≤ 6) (hw6 : nW ≤ 6) {y : Int32} (h : Q (some (.int (if zany (zsh S y) nP = true then 1 else 0))) I L R) : P 140 0 [.ref 119, .int 4, .int y, .null, .null] [] I L R Q := by
  refine r_ic hP c140_0 ?_
  refine r_is (ls' := [.ref 119, .int 4, .int y, .int 0, .null]) hP c140_1 (Nat.le_of_ble_eq_true rfl) rfl ?_
  refine r_ic hP c140_2 ?_
  refine r_is (ls' := [.ref 119, .int 4, .int y, .int 0, .int 0]) hP c140_3 (Nat.le_of_ble_eq_true rfl) rfl ?_
  refine r_il hP c140_5 rfl ?_
  refine r_al hP c140_7 rfl ?_
  refine r_gR (x := 121) hP c140_8 (zj119 hKb) (zr119_2 hRb) ?_
  refine r_ic hP c140_11 ?_
  refine r_iald (j := 0) (x := nI nS) hP c140_12 (zk121 hKb) rfl (by decide) hD.1 ?_
  refine r_ige hP c140_13 (fun h13 => ?_) (fun h13 => ?_)
  · refine r_ic hP c140_76 ?_
    refine r_is (ls' := [.ref 119, .int 4, .int y, .int 0, .int 0]) hP c140_77 (Nat.le_of_ble_eq_true rfl) rfl ?_
    exact y_risk4_l hP hKb hRb hD hs1 hp1 hp8 hs6 hw6 h 0 (Nat.zero_le _) _ rfl
  · refine r_il hP c140_16 rfl ?_
    refine r_ic hP c140_17 ?_
    refine r_ine hP c140_18 (fun h18 => ?_) (fun h18 => absurd h18 (by decide))
    refine r_ic hP c140_76 ?_
    refine r_is (ls' := [.ref 119, .int 4, .int y, .int 0, .int 0]) hP c140_77 (Nat.le_of_ble_eq_true rfl) rfl ?_
    exact y_risk4_l hP hKb hRb hD hs1 hp1 hp8 hs6 hw6 h 0 (Nat.zero_le _) _ rfl
set_option maxRecDepth 4000 in
theorem y_risk0 {K : ZKh} {P : Nat → Nat → List Value → List Value → ZMi → ZMl → ZMr → ZRt → Prop} {I : ZMi} {L : ZMl} {R : ZMr} {Q : ZRt} (hP : ZCl K P) {nS nP nW : Nat} {S : ZS} (hKb : zKb K) (hRb : zRb R) (hD : zD I 0 S nS nP nW) (hs1 : 1 ≤ nS) (hp1 : 1 ≤ nP) (hp8 : nP ≤ 8) (hs6 : nS ≤ 6) (hw6 : nW ≤ 6) {y : Int32} (h : Q (some (.int 0)) I L R) : P 140 0 [.ref 119, .int 0, .int y, .null, .null] [] I L R Q := by
  refine r_ic hP c140_0 ?_
  refine r_is (ls' := [.ref 119, .int 0, .int y, .int 0, .null]) hP c140_1 (Nat.le_of_ble_eq_true rfl) rfl ?_
  refine r_ic hP c140_2 ?_
  refine r_is (ls' := [.ref 119, .int 0, .int y, .int 0, .int 0]) hP c140_3 (Nat.le_of_ble_eq_true rfl) rfl ?_
  refine r_il hP c140_5 rfl ?_
  refine r_al hP c140_7 rfl ?_
  refine r_gR (x := 121) hP c140_8 (zj119 hKb) (zr119_2 hRb) ?_
  refine r_ic hP c140_11 ?_
  refine r_iald (j := 0) (x := nI nS) hP c140_12 (zk121 hKb) rfl (by decide) hD.1 ?_
  refine r_ige hP c140_13 (fun h13 => ?_) (fun h13 => ?_)
  · refine r_ic hP c140_76 ?_
    refine r_is (ls' := [.ref 119, .int 0, .int y, .int 0, .int 0]) hP c140_77 (Nat.le_of_ble_eq_true rfl) rfl ?_
    refine r_il hP c140_79 rfl ?_
    refine r_al hP c140_81 rfl ?_
    refine r_gR (x := 124) hP c140_82 (zj119 hKb) (zr119_5 hRb) ?_
    refine r_ic hP c140_85 ?_
    refine r_iald (j := 0) (x := nI nP) hP c140_86 (zk124 hKb) rfl (by decide) hD.2.1 ?_
    refine r_ige hP c140_87 (fun h87 => ?_) (fun h87 => ?_)
    · refine r_il hP c140_140 rfl ?_
      refine r_ifeq hP c140_141 (fun h141 => ?_) (fun h141 => absurd h141 (not_not_intro rfl))
      refine r_ic hP c140_148 ?_
      exact r_irE hP c140_149 h (by rfl)
    · refine r_il hP c140_90 rfl ?_
      refine r_ic hP c140_91 ?_
      refine r_ieq hP c140_92 (fun h92 => absurd h92 (by decide)) (fun h92 => ?_)
      refine r_il hP c140_95 rfl ?_
      refine r_ic hP c140_96 ?_
      refine r_ine hP c140_97 (fun h97 => ?_) (fun h97 => absurd h97 (by decide))
      refine r_il hP c140_140 rfl ?_
      refine r_ifeq hP c140_141 (fun h141 => ?_) (fun h141 => absurd h141 (not_not_intro rfl))
      refine r_ic hP c140_148 ?_
      exact r_irE hP c140_149 h (by rfl)
  · refine r_il hP c140_16 rfl ?_
    refine r_ic hP c140_17 ?_
    refine r_ine hP c140_18 (fun h18 => ?_) (fun h18 => absurd h18 (by decide))
    refine r_ic hP c140_76 ?_
    refine r_is (ls' := [.ref 119, .int 0, .int y, .int 0, .int 0]) hP c140_77 (Nat.le_of_ble_eq_true rfl) rfl ?_
    refine r_il hP c140_79 rfl ?_
    refine r_al hP c140_81 rfl ?_
    refine r_gR (x := 124) hP c140_82 (zj119 hKb) (zr119_5 hRb) ?_
    refine r_ic hP c140_85 ?_
    refine r_iald (j := 0) (x := nI nP) hP c140_86 (zk124 hKb) rfl (by decide) hD.2.1 ?_
    refine r_ige hP c140_87 (fun h87 => ?_) (fun h87 => ?_)
    · refine r_il hP c140_140 rfl ?_
      refine r_ifeq hP c140_141 (fun h141 => ?_) (fun h141 => absurd h141 (not_not_intro rfl))
      refine r_ic hP c140_148 ?_
      exact r_irE hP c140_149 h (by rfl)
    · refine r_il hP c140_90 rfl ?_
      refine r_ic hP c140_91 ?_
      refine r_ieq hP c140_92 (fun h92 => absurd h92 (by decide)) (fun h92 => ?_)
      refine r_il hP c140_95 rfl ?_
      refine r_ic hP c140_96 ?_
      refine r_ine hP c140_97 (fun h97 => ?_) (fun h97 => absurd h97 (by decide))
      refine r_il hP c140_140 rfl ?_
      refine r_ifeq hP c140_141 (fun h141 => ?_) (fun h141 => absurd h141 (not_not_intro rfl))
      refine r_ic hP c140_148 ?_
      exact r_irE hP c140_149 h (by rfl)
set_option maxRecDepth 4000 in
theorem y_risk3 {K : ZKh} {P : Nat → Nat → List Value → List Value → ZMi → ZMl → ZMr → ZRt → Prop} {I : ZMi} {L : ZMl} {R : ZMr} {Q : ZRt} (hP : ZCl K P) {nS nP nW : Nat} {S : ZS} (hKb : zKb K) (hRb : zRb R) (hD : zD I 0 S nS nP nW) (hs1 : 1 ≤ nS) (hp1 : 1 ≤ nP) (hp8 : nP ≤ 8) (hs6 : nS ≤ 6) (hw6 : nW ≤ 6) {y : Int32} (h : Q (some (.int 0)) I L R) : P 140 0 [.ref 119, .int 3, .int y, .null, .null] [] I L R Q := by
  refine r_ic hP c140_0 ?_
  refine r_is (ls' := [.ref 119, .int 3, .int y, .int 0, .null]) hP c140_1 (Nat.le_of_ble_eq_true rfl) rfl ?_
  refine r_ic hP c140_2 ?_
  refine r_is (ls' := [.ref 119, .int 3, .int y, .int 0, .int 0]) hP c140_3 (Nat.le_of_ble_eq_true rfl) rfl ?_
  refine r_il hP c140_5 rfl ?_
  refine r_al hP c140_7 rfl ?_
  refine r_gR (x := 121) hP c140_8 (zj119 hKb) (zr119_2 hRb) ?_
  refine r_ic hP c140_11 ?_
  refine r_iald (j := 0) (x := nI nS) hP c140_12 (zk121 hKb) rfl (by decide) hD.1 ?_
  refine r_ige hP c140_13 (fun h13 => ?_) (fun h13 => ?_)
  · refine r_ic hP c140_76 ?_
    refine r_is (ls' := [.ref 119, .int 3, .int y, .int 0, .int 0]) hP c140_77 (Nat.le_of_ble_eq_true rfl) rfl ?_
    refine r_il hP c140_79 rfl ?_
    refine r_al hP c140_81 rfl ?_
    refine r_gR (x := 124) hP c140_82 (zj119 hKb) (zr119_5 hRb) ?_
    refine r_ic hP c140_85 ?_
    refine r_iald (j := 0) (x := nI nP) hP c140_86 (zk124 hKb) rfl (by decide) hD.2.1 ?_
    refine r_ige hP c140_87 (fun h87 => ?_) (fun h87 => ?_)
    · refine r_il hP c140_140 rfl ?_
      refine r_ifeq hP c140_141 (fun h141 => ?_) (fun h141 => absurd h141 (not_not_intro rfl))
      refine r_ic hP c140_148 ?_
      exact r_irE hP c140_149 h (by rfl)
    · refine r_il hP c140_90 rfl ?_
      refine r_ic hP c140_91 ?_
      refine r_ieq hP c140_92 (fun h92 => absurd h92 (by decide)) (fun h92 => ?_)
      refine r_il hP c140_95 rfl ?_
      refine r_ic hP c140_96 ?_
      refine r_ine hP c140_97 (fun h97 => ?_) (fun h97 => absurd h97 (by decide))
      refine r_il hP c140_140 rfl ?_
      refine r_ifeq hP c140_141 (fun h141 => ?_) (fun h141 => absurd h141 (not_not_intro rfl))
      refine r_ic hP c140_148 ?_
      exact r_irE hP c140_149 h (by rfl)
  · refine r_il hP c140_16 rfl ?_
    refine r_ic hP c140_17 ?_
    refine r_ine hP c140_18 (fun h18 => ?_) (fun h18 => absurd h18 (by decide))
    refine r_ic hP c140_76 ?_
    refine r_is (ls' := [.ref 119, .int 3, .int y, .int 0, .int 0]) hP c140_77 (Nat.le_of_ble_eq_true rfl) rfl ?_
    refine r_il hP c140_79 rfl ?_
    refine r_al hP c140_81 rfl ?_
    refine r_gR (x := 124) hP c140_82 (zj119 hKb) (zr119_5 hRb) ?_
    refine r_ic hP c140_85 ?_
    refine r_iald (j := 0) (x := nI nP) hP c140_86 (zk124 hKb) rfl (by decide) hD.2.1 ?_
    refine r_ige hP c140_87 (fun h87 => ?_) (fun h87 => ?_)
    · refine r_il hP c140_140 rfl ?_
      refine r_ifeq hP c140_141 (fun h141 => ?_) (fun h141 => absurd h141 (not_not_intro rfl))
      refine r_ic hP c140_148 ?_
      exact r_irE hP c140_149 h (by rfl)
    · refine r_il hP c140_90 rfl ?_
      refine r_ic hP c140_91 ?_
      refine r_ieq hP c140_92 (fun h92 => absurd h92 (by decide)) (fun h92 => ?_)
      refine r_il hP c140_95 rfl ?_
      refine r_ic hP c140_96 ?_
      refine r_ine hP c140_97 (fun h97 => ?_) (fun h97 => absurd h97 (by decide))
      refine r_il hP c140_140 rfl ?_
      refine r_ifeq hP c140_141 (fun h141 => ?_) (fun h141 => absurd h141 (not_not_intro rfl))
      refine r_ic hP c140_148 ?_
      exact r_irE hP c140_149 h (by rfl)
theorem y_riskOf {K : ZKh} {P : Nat → Nat → List Value → List Value → ZMi → ZMl → ZMr → ZRt → Prop} {I : ZMi} {L : ZMl} {R : ZMr} {Q : ZRt} (hP : ZCl K P) {nS nP nW : Nat} {S : ZS} (hKb : zKb K) (hRb : zRb R) (hD : zD I 0 S nS nP nW) (hs1 : 1 ≤ nS) (hp1 : 1 ≤ nP) (hp8 : nP ≤ 8) (hs6 : nS ≤ 6) (hw6 : nW ≤ 6) {k j : Nat} (hk : k < 5) (hj : j < zak (nI k) nS nP) (h : Q (some (.int (zrisk S nS nP (nI k) (nI j)))) I L R) : P 140 0 [.ref 119, .int (nI k), .int (nI j), .null, .null] [] I L R Q := by
  match k, hk, hj, h with
  | 0, _, hj, h => exact y_risk0 hP hKb hRb hD hs1 hp1 hp8 hs6 hw6 h
  | 1, _, hj, h =>
    have hj' : j < nS := hj
    have e : zrisk S nS nP (nI 1) (nI j) = if zany (zsb S nS j) nS = true then 1 else 0 := by
      rw [zrisk, if_pos (show nI 1 = 1 from rfl), nI_clamp (by omega)]
    rw [e] at h
    exact y_risk1 hP hKb hRb hD hs1 hp1 hp8 hs6 hw6 hj' h
  | 2, _, hj, h => exact y_risk2 hP hKb hRb hD hs1 hp1 hp8 hs6 hw6 h
  | 3, _, hj, h => exact y_risk3 hP hKb hRb hD hs1 hp1 hp8 hs6 hw6 h
  | 4, _, hj, h => exact y_risk4 hP hKb hRb hD hs1 hp1 hp8 hs6 hw6 h
  | n + 5, hk, _, _ => exact absurd hk (by omega)
set_option maxRecDepth 4000 in
theorem y_risk {K : ZKh} {P : Nat → Nat → List Value → List Value → ZMi → ZMl → ZMr → ZRt → Prop} {I : ZMi} {L : ZMl} {R : ZMr} {Q : ZRt} (hP : ZCl K P) {nS nP nW : Nat} {S : ZS} (hKb : zKb K) (hRb : zRb R) (hD : zD I 0 S nS nP nW) (hs1 : 1 ≤ nS) (hp1 : 1 ≤ nP) (hp8 : nP ≤ 8) (hs6 : nS ≤ 6) (hw6 : nW ≤ 6) {k0 o0 : Int32} (h : Q (some (.int (f_risk S nS nP k0 o0))) I L R) : P 141 0 [.ref 119, .int k0, .int o0] [] I L R Q := by
  refine r_al hP c141_0 rfl ?_
  refine r_il hP c141_1 rfl ?_
  refine r_il hP c141_2 rfl ?_
  refine r_cVi (as := [.int k0, .int o0]) (r := []) (I' := I) (L' := L) (R' := R) (x := if (0 ≤ k0 ∧ k0 ≤ 4) ∧ zr o0 (zak k0 nS nP) then 1 else 0) (a := 119) hP c141_3 rfl (zj119 hKb) rfl (fun _ hq => x_isAsk hP hKb hRb hD hs1 hp1 hp8 hs6 hw6 hq) ?_
  refine r_ifeqB hP c141_6 (fun h6 => ?_) (fun h6 => ?_)
  · refine r_ic hP c141_18 ?_
    exact r_irE hP c141_19 h (by first | (rw [f_risk, if_neg h6]; done) | (rw [f_risk, if_pos h6]; done))
  · obtain ⟨j, hj, rfl⟩ := (zr_iff (by have := zak_b (x := k0) hs6 hp8; omega)).mp h6.2
    obtain ⟨k, hk4, rfl⟩ := zb_nI (n := 4) rfl (by decide) h6.1
    have hk : k < 5 := by omega
    have hjb := zak_b (x := nI k) hs6 hp8
    refine r_al hP c141_9 rfl ?_
    refine r_il hP c141_10 rfl ?_
    refine r_il hP c141_11 rfl ?_
    refine r_cVi (as := [.int (nI k), .int (nI j)]) (r := []) (I' := I) (L' := L) (R' := R) (x := zrisk S nS nP (nI k) (nI j)) (a := 119) hP c141_12 rfl (zj119 hKb) rfl (fun _ hq => y_riskOf hP hKb hRb hD hs1 hp1 hp8 hs6 hw6 hk hj hq) ?_
    refine r_goto hP c141_15 ?_
    exact r_irE hP c141_19 h (by first | (rw [f_risk, if_neg h6]; done) | (rw [f_risk, if_pos h6]; done))
theorem zgr_a {q a : Int32} (h : q * a / 10 ≤ 999) : q * a / 10 = zgr q a := by
  unfold zgr
  split
  · rfl
  · rename_i z
    rw [z_le] at h
    rw [z_lt] at z
    exact Int32.toInt_inj.mp (by omega)
theorem zgr_b {q a : Int32} (h : ¬ q * a / 10 ≤ 999) : 999 = zgr q a := by
  unfold zgr
  split
  · rename_i z
    rw [z_le] at h
    rw [z_lt] at z
    exact absurd (Int.le_of_lt z) h
  · rfl
set_option maxRecDepth 4000 in
theorem y_goesOf_l {K : ZKh} {P : Nat → Nat → List Value → List Value → ZMi → ZMl → ZMr → ZRt → Prop} {I : ZMi} {L : ZMl} {R : ZMr} {Q : ZRt} (hP : ZCl K P) {nS nP nW : Nat} {S : ZS} (hKb : zKb K) (hRb : zRb R) (hD : zD I 0 S nS nP nW) (hs1 : 1 ≤ nS) (hp1 : 1 ≤ nP) (hp8 : nP ≤ 8) (hs6 : nS ≤ 6) (hw6 : nW ≤ 6) {j n kk q0 a0 : Nat} (hj : j < nP) (hkk : kk < 5) (hke : S 4 j 0 = nI kk) (hq0 : q0 ≤ 50) (eq0 : S 16 kk 0 = nI q0) (ha0 : a0 ≤ 99) (ea0 : S 5 j 0 = nI a0) (hn : n ≤ 50) (h : Q (some (.int (1000000 - zgone (S 16 kk 0) (S 5 j 0) n))) I L R) : ∀ i, i ≤ n → ∀ (left : Int32) (v5 : Value), left = zgone (S 16 kk 0) (S 5 j 0) i → P 167 7 [.ref 119, .int (nI j), .int (nI n), .int left, .int (nI i), v5] [] I L R Q := by
  refine zloop n (fun i => ∀ (left : Int32) (v5 : Value), left = zgone (S 16 kk 0) (S 5 j 0) i → P 167 7 [.ref 119, .int (nI j), .int (nI n), .int left, .int (nI i), v5] [] I L R Q) ?_
  intro i hle ih left v5 hacc
  refine r_il hP c167_7 rfl ?_
  refine r_il hP c167_9 rfl ?_
  refine r_ige hP c167_10 (fun h10 => ?_) (fun h10 => ?_)
  · have he : i = n := Nat.le_antisymm hle ((nI_leI (by omega) (by omega)).mp h10)
    refine r_ic hP c167_77 ?_
    refine r_il hP c167_80 rfl ?_
    refine r_isub hP c167_81 ?_
    exact r_irE hP c167_82 h (by rw [hacc, he])
  · have hlt : i < n := by
      rcases Nat.lt_or_ge i n with q | q
      · exact q
      · exact absurd (nI_le q (by omega)) h10
    refine r_al hP c167_13 rfl ?_
    refine r_gR (x := 142) hP c167_14 (zj119 hKb) (zr119_23 hRb) ?_
    refine r_al hP c167_17 rfl ?_
    refine r_gR (x := 126) hP c167_18 (zj119 hKb) (zr119_7 hRb) ?_
    refine r_il hP c167_21 rfl ?_
    refine r_iald (j := j) (x := S 4 j 0) hP c167_22 (zk126 hKb) rfl (by omega) (zD_f hD (by omega) 2 (by decide) (by decide)) ?_
    refine r_iald (j := kk) (x := S 16 kk 0) hP c167_23 (zk142 hKb) hke (by omega) (zD_k hD (by omega)) ?_
    refine r_al hP c167_24 rfl ?_
    refine r_gR (x := 127) hP c167_25 (zj119 hKb) (zr119_8 hRb) ?_
    refine r_il hP c167_28 rfl ?_
    refine r_iald (j := j) (x := S 5 j 0) hP c167_29 (zk127 hKb) rfl (by omega) (zD_f hD (by omega) 3 (by decide) (by decide)) ?_
    refine r_il hP c167_30 rfl ?_
    refine r_iadd hP c167_32 ?_
    refine r_imul hP c167_33 ?_
    refine r_ic hP c167_34 ?_
    refine r_idiv hP c167_36 (by decide) ?_
    refine r_is (ls' := [.ref 119, .int (nI j), .int (nI n), .int left, .int (nI i), .int (((S 16 kk 0) * ((S 5 j 0) + (nI i))) / 10)]) hP c167_37 (Nat.le_of_ble_eq_true rfl) rfl ?_
    refine r_il hP c167_39 rfl ?_
    refine r_ic hP c167_41 ?_
    refine r_ile hP c167_44 (fun h44 => ?_) (fun h44 => ?_)
    · refine r_il hP c167_53 rfl ?_
      refine r_is (ls' := [.ref 119, .int (nI j), .int (nI n), .int left, .int (nI i), .int (((S 16 kk 0) * ((S 5 j 0) + (nI i))) / 10)]) hP c167_55 (Nat.le_of_ble_eq_true rfl) rfl ?_
      refine r_il hP c167_57 rfl ?_
      refine r_il hP c167_58 rfl ?_
      refine r_i2l hP c167_59 ?_
      refine r_il hP c167_60 rfl ?_
      refine r_i2l hP c167_62 ?_
      refine r_lmul hP c167_63 ?_
      refine r_lc hP c167_64 ?_
      refine r_ldiv hP c167_67 (by decide) ?_
      refine r_l2i hP c167_68 ?_
      refine r_isub hP c167_69 ?_
      refine r_ti (y := zgone (S 16 kk 0) (S 5 j 0) (i + 1)) (by rw [hacc]; exact zgo_s eq0 ea0 hq0 ha0 (by omega) (by first | exact zgr_a h44 | exact zgr_b h44)) ?_
      refine r_is (ls' := [.ref 119, .int (nI j), .int (nI n), .int (zgone (S 16 kk 0) (S 5 j 0) (i + 1)), .int (nI i), .int (((S 16 kk 0) * ((S 5 j 0) + (nI i))) / 10)]) hP c167_70 (Nat.le_of_ble_eq_true rfl) rfl ?_
      refine r_inc (y := nI (i + 1)) (ls' := [.ref 119, .int (nI j), .int (nI n), .int (zgone (S 16 kk 0) (S 5 j 0) (i + 1)), .int (nI (i + 1)), .int (((S 16 kk 0) * ((S 5 j 0) + (nI i))) / 10)]) hP c167_71 rfl (nI_1 _) rfl ?_
      refine r_goto hP c167_74 ?_
      exact ih hlt _ _ rfl
    · refine r_ic hP c167_47 ?_
      refine r_goto hP c167_50 ?_
      refine r_is (ls' := [.ref 119, .int (nI j), .int (nI n), .int left, .int (nI i), .int 999]) hP c167_55 (Nat.le_of_ble_eq_true rfl) rfl ?_
      refine r_il hP c167_57 rfl ?_
      refine r_il hP c167_58 rfl ?_
      refine r_i2l hP c167_59 ?_
      refine r_il hP c167_60 rfl ?_
      refine r_i2l hP c167_62 ?_
      refine r_lmul hP c167_63 ?_
      refine r_lc hP c167_64 ?_
      refine r_ldiv hP c167_67 (by decide) ?_
      refine r_l2i hP c167_68 ?_
      refine r_isub hP c167_69 ?_
      refine r_ti (y := zgone (S 16 kk 0) (S 5 j 0) (i + 1)) (by rw [hacc]; exact zgo_s eq0 ea0 hq0 ha0 (by omega) (by first | exact zgr_a h44 | exact zgr_b h44)) ?_
      refine r_is (ls' := [.ref 119, .int (nI j), .int (nI n), .int (zgone (S 16 kk 0) (S 5 j 0) (i + 1)), .int (nI i), .int 999]) hP c167_70 (Nat.le_of_ble_eq_true rfl) rfl ?_
      refine r_inc (y := nI (i + 1)) (ls' := [.ref 119, .int (nI j), .int (nI n), .int (zgone (S 16 kk 0) (S 5 j 0) (i + 1)), .int (nI (i + 1)), .int 999]) hP c167_71 rfl (nI_1 _) rfl ?_
      refine r_goto hP c167_74 ?_
      exact ih hlt _ _ rfl
set_option maxRecDepth 4000 in
theorem y_goesOf0 {K : ZKh} {P : Nat → Nat → List Value → List Value → ZMi → ZMl → ZMr → ZRt → Prop} {I : ZMi} {L : ZMl} {R : ZMr} {Q : ZRt} (hP : ZCl K P) {nS nP nW : Nat} {S : ZS} (hKb : zKb K) (hRb : zRb R) (hD : zD I 0 S nS nP nW) (hs1 : 1 ≤ nS) (hp1 : 1 ≤ nP) (hp8 : nP ≤ 8) (hs6 : nS ≤ 6) (hw6 : nW ≤ 6) {j n kk q0 a0 : Nat} (hj : j < nP) (hkk : kk < 5) (hke : S 4 j 0 = nI kk) (hq0 : q0 ≤ 50) (eq0 : S 16 kk 0 = nI q0) (ha0 : a0 ≤ 99) (ea0 : S 5 j 0 = nI a0) (hn : n ≤ 50) (h : Q (some (.int (1000000 - zgone (S 16 kk 0) (S 5 j 0) n))) I L R) : P 167 0 [.ref 119, .int (nI j), .int (nI n), .null, .null, .null] [] I L R Q := by
  refine r_ic hP c167_0 ?_
  refine r_is (ls' := [.ref 119, .int (nI j), .int (nI n), .int 1000000, .null, .null]) hP c167_3 (Nat.le_of_ble_eq_true rfl) rfl ?_
  refine r_ic hP c167_4 ?_
  refine r_is (ls' := [.ref 119, .int (nI j), .int (nI n), .int 1000000, .int 0, .null]) hP c167_5 (Nat.le_of_ble_eq_true rfl) rfl ?_
  exact y_goesOf_l hP hKb hRb hD hs1 hp1 hp8 hs6 hw6 hj hkk hke hq0 eq0 ha0 ea0 hn h 0 (Nat.zero_le _) _ _ rfl
theorem y_goesOf {K : ZKh} {P : Nat → Nat → List Value → List Value → ZMi → ZMl → ZMr → ZRt → Prop} {I : ZMi} {L : ZMl} {R : ZMr} {Q : ZRt} (hP : ZCl K P) {nS nP nW : Nat} {S : ZS} (hKb : zKb K) (hRb : zRb R) (hD : zD I 0 S nS nP nW) (hs1 : 1 ≤ nS) (hp1 : 1 ≤ nP) (hp8 : nP ≤ 8) (hs6 : nS ≤ 6) (hw6 : nW ≤ 6) (hsr : zSr S nS nP nW 300 800) {j n : Nat} (hj : j < nP) (hn : n ≤ 50) (h : Q (some (.int (zgg S n j))) I L R) : P 167 0 [.ref 119, .int (nI j), .int (nI n), .null, .null, .null] [] I L R Q := by
  obtain ⟨-, ⟨kk, hkk, hke⟩, ⟨a0, ha0, ea0⟩, -⟩ := hsr.2.1 j hj
  obtain ⟨q0, hq0, eq0⟩ := hsr.2.2.2 kk hkk
  have hkc : (S 4 j 0).toNatClampNeg = kk := by rw [hke]; exact nI_clamp (by omega)
  rw [zgg, hkc] at h
  exact y_goesOf0 hP hKb hRb hD hs1 hp1 hp8 hs6 hw6 hj hkk hke hq0 eq0 ha0 ea0 hn h
set_option maxRecDepth 4000 in
theorem y_goes {K : ZKh} {P : Nat → Nat → List Value → List Value → ZMi → ZMl → ZMr → ZRt → Prop} {I : ZMi} {L : ZMl} {R : ZMr} {Q : ZRt} (hP : ZCl K P) {nS nP nW : Nat} {S : ZS} (hKb : zKb K) (hRb : zRb R) (hD : zD I 0 S nS nP nW) (hs1 : 1 ≤ nS) (hp1 : 1 ≤ nP) (hp8 : nP ≤ 8) (hs6 : nS ≤ 6) (hw6 : nW ≤ 6) (hsr : zSr S nS nP nW 300 800) {p y : Int32} (h : Q (some (.int (f_goes S nP p y))) I L R) : P 168 0 [.ref 119, .int p, .int y] [] I L R Q := by
  refine r_al hP c168_0 rfl ?_
  refine r_il hP c168_1 rfl ?_
  refine r_cVi (as := [.int p]) (r := []) (I' := I) (L' := L) (R' := R) (x := if zr p nP then 1 else 0) (a := 119) hP c168_2 rfl (zj119 hKb) rfl (fun _ hq => x_isPart hP hKb hRb hD hs1 hp1 hp8 hs6 hw6 hq) ?_
  refine r_ifeqB hP c168_5 (fun h5 => ?_) (fun h5 => ?_)
  · refine r_ic hP c168_29 ?_
    exact r_irE hP c168_30 h (by first | (rw [f_goes, if_neg (fun q => h5 q.1)]; done) | (rw [f_goes, if_neg (fun q => h17 q.2)]; done) | (rw [f_goes, if_pos ⟨h5, h17⟩, nI_clamp (by omega), nI_clamp (by omega)]; rfl))
  · refine r_il hP c168_8 rfl ?_
    refine r_i2l hP c168_9 ?_
    refine r_lc hP c168_10 ?_
    refine r_lc hP c168_11 ?_
    refine r_cSi (as := [.long y.toInt64, .long 1, .long 50]) (r := []) (I' := I) (L' := L) (R' := R) (x := if 1 ≤ y.toInt64 ∧ y.toInt64 ≤ 50 then 1 else 0) hP c168_14 rfl rfl (fun _ h2 => x_isIn hP h2) ?_
    refine r_ti (y := if 1 ≤ y ∧ y ≤ 50 then 1 else 0) (zisC rfl rfl) ?_
    refine r_ifeqB hP c168_17 (fun h17 => ?_) (fun h17 => ?_)
    · refine r_ic hP c168_29 ?_
      exact r_irE hP c168_30 h (by first | (rw [f_goes, if_neg (fun q => h5 q.1)]; done) | (rw [f_goes, if_neg (fun q => h17 q.2)]; done) | (rw [f_goes, if_pos ⟨h5, h17⟩, nI_clamp (by omega), nI_clamp (by omega)]; rfl))
    · obtain ⟨j, hj, rfl⟩ := (zr_iff (by omega)).mp h5
      obtain ⟨n, hn, rfl⟩ := zb_nI (n := 50) rfl (by decide) ⟨Int32.le_trans (by decide : (0 : Int32) ≤ 1) h17.1, h17.2⟩
      refine r_al hP c168_20 rfl ?_
      refine r_il hP c168_21 rfl ?_
      refine r_il hP c168_22 rfl ?_
      refine r_cVi (as := [.int (nI j), .int (nI n)]) (r := []) (I' := I) (L' := L) (R' := R) (x := zgg S n j) (a := 119) hP c168_23 rfl (zj119 hKb) rfl (fun _ hq => y_goesOf (j := j) hP hKb hRb hD hs1 hp1 hp8 hs6 hw6 hsr hj hn hq) ?_
      refine r_goto hP c168_26 ?_
      exact r_irE hP c168_30 h (by first | (rw [f_goes, if_neg (fun q => h5 q.1)]; done) | (rw [f_goes, if_neg (fun q => h17 q.2)]; done) | (rw [f_goes, if_pos ⟨h5, h17⟩, nI_clamp (by omega), nI_clamp (by omega)]; rfl))
set_option maxRecDepth 4000 in
theorem y_ntg_l {K : ZKh} {P : Nat → Nat → List Value → List Value → ZMi → ZMl → ZMr → ZRt → Prop} {I : ZMi} {L : ZMl} {R : ZMr} {Q : ZRt} (hP : ZCl K P) {nS nP nW : Nat} {S : ZS} (hKb : zKb K) (hRb : zRb R) (hD : zD I 0 S nS nP nW) (hs1 : 1 ≤ nS) (hp1 : 1 ≤ nP) (hp8 : nP ≤ 8) (hs6 : nS ≤ 6) (hw6 : nW ≤ 6) (hsr : zSr S nS nP nW 300 800) {n : Nat} (hn : n ≤ 50) (h : Q (some (.int (nI (zng (zgg S n) (nP - 1))))) I L R) : ∀ q, q ≤ (nP - 1) → ∀ (_u : Unit), True → P 169 18 [.ref 119, .int (nI n), .int (nI (zng (zgg S n) q)), .int (nI (q + 1))] [] I L R Q := by
  refine zloop (nP - 1) (fun q => ∀ (_u : Unit), True → P 169 18 [.ref 119, .int (nI n), .int (nI (zng (zgg S n) q)), .int (nI (q + 1))] [] I L R Q) ?_
  intro q hle ih _u hacc
  refine r_il hP c169_18 rfl ?_
  refine r_al hP c169_19 rfl ?_
  refine r_gR (x := 124) hP c169_20 (zj119 hKb) (zr119_5 hRb) ?_
  refine r_ic hP c169_23 ?_
  refine r_iald (j := 0) (x := nI nP) hP c169_24 (zk124 hKb) rfl (by decide) hD.2.1 ?_
  refine r_ige hP c169_25 (fun h25 => ?_) (fun h25 => ?_)
  · have he : q = nP - 1 := by
      have := (nI_leI (a := nP) (b := q + 1) (by omega) (by omega)).mp h25
      omega
    refine r_il hP c169_55 rfl ?_
    exact r_irE hP c169_56 h (by rw [he])
  · have hlt : q < nP - 1 := by
      have := (not_congr (nI_leI (a := nP) (b := q + 1) (by omega) (by omega))).mp h25
      omega
    refine r_al hP c169_28 rfl ?_
    refine r_il hP c169_29 rfl ?_
    refine r_il hP c169_30 rfl ?_
    refine r_cVi (as := [.int (nI (q + 1)), .int (nI n)]) (r := []) (I' := I) (L' := L) (R' := R) (x := zgg S n (q + 1)) (a := 119) hP c169_31 rfl (zj119 hKb) rfl (fun _ hq => y_goesOf (j := q + 1) hP hKb hRb hD hs1 hp1 hp8 hs6 hw6 hsr (by omega) hn hq) ?_
    refine r_al hP c169_34 rfl ?_
    refine r_il hP c169_35 rfl ?_
    refine r_il hP c169_36 rfl ?_
    refine r_cVi (as := [.int (nI (zng (zgg S n) q)), .int (nI n)]) (r := [.int (zgg S n (q + 1))]) (I' := I) (L' := L) (R' := R) (x := zgg S n (zng (zgg S n) q)) (a := 119) hP c169_37 rfl (zj119 hKb) rfl (fun _ hq => y_goesOf (j := zng (zgg S n) q) hP hKb hRb hD hs1 hp1 hp8 hs6 hw6 hsr (by have := zng_le (zgg S n) q; omega) hn hq) ?_
    refine r_ile hP c169_40 (fun h40 => ?_) (fun h40 => ?_)
    · refine r_il hP c169_47 rfl ?_
      refine r_is (ls' := [.ref 119, .int (nI n), .int (nI (zng (zgg S n) q)), .int (nI (q + 1))]) hP c169_48 (Nat.le_of_ble_eq_true rfl) rfl ?_
      refine r_inc (y := nI (q + 2)) (ls' := [.ref 119, .int (nI n), .int (nI (zng (zgg S n) q)), .int (nI (q + 2))]) hP c169_49 rfl (nI_1 _) rfl ?_
      refine r_goto hP c169_52 ?_
      first
        | (have e : zng (zgg S n) (q + 1) = q + 1 := by rw [zng, if_pos (Int32.not_le.mp h40)]
           have hi := ih hlt ()
           rw [e] at hi
           exact hi trivial)
        | (have e : zng (zgg S n) (q + 1) = zng (zgg S n) q := by rw [zng, if_neg (fun z => absurd h40 (Int32.not_le.mpr z))]
           have hi := ih hlt ()
           rw [e] at hi
           exact hi trivial)
    · refine r_il hP c169_43 rfl ?_
      refine r_goto hP c169_44 ?_
      refine r_is (ls' := [.ref 119, .int (nI n), .int (nI (q + 1)), .int (nI (q + 1))]) hP c169_48 (Nat.le_of_ble_eq_true rfl) rfl ?_
      refine r_inc (y := nI (q + 2)) (ls' := [.ref 119, .int (nI n), .int (nI (q + 1)), .int (nI (q + 2))]) hP c169_49 rfl (nI_1 _) rfl ?_
      refine r_goto hP c169_52 ?_
      first
        | (have e : zng (zgg S n) (q + 1) = q + 1 := by rw [zng, if_pos (Int32.not_le.mp h40)]
           have hi := ih hlt ()
           rw [e] at hi
           exact hi trivial)
        | (have e : zng (zgg S n) (q + 1) = zng (zgg S n) q := by rw [zng, if_neg (fun z => absurd h40 (Int32.not_le.mpr z))]
           have hi := ih hlt ()
           rw [e] at hi
           exact hi trivial)
set_option maxRecDepth 4000 in
theorem y_ntg {K : ZKh} {P : Nat → Nat → List Value → List Value → ZMi → ZMl → ZMr → ZRt → Prop} {I : ZMi} {L : ZMl} {R : ZMr} {Q : ZRt} (hP : ZCl K P) {nS nP nW : Nat} {S : ZS} (hKb : zKb K) (hRb : zRb R) (hD : zD I 0 S nS nP nW) (hs1 : 1 ≤ nS) (hp1 : 1 ≤ nP) (hp8 : nP ≤ 8) (hs6 : nS ≤ 6) (hw6 : nW ≤ 6) (hsr : zSr S nS nP nW 300 800) {y : Int32} (h : Q (some (.int (f_ntg S nP y))) I L R) : P 169 0 [.ref 119, .int y, .null, .null] [] I L R Q := by
  refine r_il hP c169_0 rfl ?_
  refine r_i2l hP c169_1 ?_
  refine r_lc hP c169_2 ?_
  refine r_lc hP c169_3 ?_
  refine r_cSi (as := [.long y.toInt64, .long 1, .long 50]) (r := []) (I' := I) (L' := L) (R' := R) (x := if 1 ≤ y.toInt64 ∧ y.toInt64 ≤ 50 then 1 else 0) hP c169_6 rfl rfl (fun _ h2 => x_isIn hP h2) ?_
  refine r_ti (y := if 1 ≤ y ∧ y ≤ 50 then 1 else 0) (zisC rfl rfl) ?_
  refine r_ifneB hP c169_9 (fun h9 => ?_) (fun h9 => ?_)
  · obtain ⟨n, hn, rfl⟩ := zb_nI (n := 50) rfl (by decide) ⟨Int32.le_trans (by decide : (0 : Int32) ≤ 1) h9.1, h9.2⟩
    refine r_ic hP c169_14 ?_
    refine r_is (ls' := [.ref 119, .int (nI n), .int 0, .null]) hP c169_15 (Nat.le_of_ble_eq_true rfl) rfl ?_
    refine r_ic hP c169_16 ?_
    refine r_is (ls' := [.ref 119, .int (nI n), .int 0, .int 1]) hP c169_17 (Nat.le_of_ble_eq_true rfl) rfl ?_
    exact y_ntg_l hP hKb hRb hD hs1 hp1 hp8 hs6 hw6 hsr hn (by rw [f_ntg, if_pos h9, nI_clamp (by omega)] at h; exact h) 0 (Nat.zero_le _) () trivial
  · refine r_ic hP c169_12 ?_
    exact r_irE hP c169_13 h (by rw [f_ntg, if_neg h9])
theorem zal_s1 {f : Nat → Bool} {p : Nat} (h1 : zal f p = true) (h2 : f p = true) : zal f (p + 1) = true := by rw [zal, h1, h2]; rfl
theorem zal_s0 {f : Nat → Bool} {p : Nat} (h2 : ¬ f p = true) : ¬ zal f (p + 1) = true := by
  rw [zal, Bool.and_eq_true]
  exact fun q => h2 q.2
theorem zal_f {f : Nat → Bool} {p n : Nat} (hp : p ≤ n) (h : ¬ zal f p = true) : ¬ zal f n = true := fun q => h (zal_iff.mpr (fun i hi => zal_iff.mp q i (by omega)))
set_option maxRecDepth 4000 in
theorem y_safe_p {K : ZKh} {P : Nat → Nat → List Value → List Value → ZMi → ZMl → ZMr → ZRt → Prop} {I : ZMi} {L : ZMl} {R : ZMr} {Q : ZRt} (hP : ZCl K P) {nS nP nW : Nat} {S : ZS} (hKb : zKb K) (hRb : zRb R) (hD : zD I 0 S nS nP nW) (hs1 : 1 ≤ nS) (hp1 : 1 ≤ nP) (hp8 : nP ≤ 8) (hs6 : nS ≤ 6) (hw6 : nW ≤ 6) {m : Nat} (hm : m ≤ 999) (hx : ∀ (acc : Int32) (p : Nat), acc = (if zal (fun p => decide (zvl S p m < 50)) nP = true then 1 else 0) → P 144 50 [.ref 119, .int (nI m), .int acc, .int (nI p)] [] I L R Q) : ∀ p, p ≤ nP → ∀ (acc : Int32), acc = (if zal (fun p => decide (zvl S p m < 50)) p = true then 1 else 0) → P 144 13 [.ref 119, .int (nI m), .int acc, .int (nI p)] [] I L R Q := by
  refine zloop nP (fun p => ∀ (acc : Int32), acc = (if zal (fun p => decide (zvl S p m < 50)) p = true then 1 else 0) → P 144 13 [.ref 119, .int (nI m), .int acc, .int (nI p)] [] I L R Q) ?_
  intro p hle ih acc hacc
  refine r_il hP c144_13 rfl ?_
  refine r_al hP c144_14 rfl ?_
  refine r_gR (x := 124) hP c144_15 (zj119 hKb) (zr119_5 hRb) ?_
  refine r_ic hP c144_18 ?_
  refine r_iald (j := 0) (x := nI nP) hP c144_19 (zk124 hKb) rfl (by decide) hD.2.1 ?_
  refine r_ige hP c144_20 (fun h20 => ?_) (fun h20 => ?_)
  · have he : p = nP := Nat.le_antisymm hle ((nI_leI (by omega) (by omega)).mp h20)
    first
      | (subst he; exact hx _ _ hacc)
      | exact hx _ _ (by rw [h24]; exact zi0 (zal_f hle hz))
  · have hlt : p < nP := by
      rcases Nat.lt_or_ge p nP with q | q
      · exact q
      · exact absurd (nI_le q (by omega)) h20
    refine r_il hP c144_23 rfl ?_
    refine r_ifeq hP c144_24 (fun h24 => ?_) (fun h24 => ?_)
    · have hz : ¬ zal (fun p => decide (zvl S p m < 50)) p = true := fun q => by
        rw [hacc, if_pos q] at h24
        exact absurd h24 (by decide)
      first
        | (subst he; exact hx _ _ hacc)
        | exact hx _ _ (by rw [h24]; exact zi0 (zal_f hle hz))
    · have hz : zal (fun p => decide (zvl S p m < 50)) p = true := Classical.byContradiction (fun q => h24 (by rw [hacc, if_neg q]))
      refine r_al hP c144_27 rfl ?_
      refine r_il hP c144_28 rfl ?_
      refine r_il hP c144_29 rfl ?_
      refine r_cVi (as := [.int (nI p), .int (nI m)]) (r := []) (I' := I) (L' := L) (R' := R) (x := zvl S p m) (a := 119) hP c144_30 rfl (zj119 hKb) rfl (fun _ hq => y_voltsOf hP hKb hRb hD hs1 hp1 hp8 hs6 hw6 hlt (by omega) hq) ?_
      refine r_ic hP c144_33 ?_
      refine r_ige hP c144_35 (fun h35 => ?_) (fun h35 => ?_)
      · refine r_ic hP c144_42 ?_
        refine r_is (ls' := [.ref 119, .int (nI m), .int 0, .int (nI p)]) hP c144_43 (Nat.le_of_ble_eq_true rfl) rfl ?_
        refine r_inc (y := nI (p + 1)) (ls' := [.ref 119, .int (nI m), .int 0, .int (nI (p + 1))]) hP c144_44 rfl (nI_1 _) rfl ?_
        refine r_goto hP c144_47 ?_
        exact ih hlt _ (by first | exact zi1 (zal_s1 hz (decide_eq_true (Int32.not_le.mp h35))) | exact zi0 (zal_s0 (fun q => absurd h35 (Int32.not_le.mpr (of_decide_eq_true q)))))
      · refine r_ic hP c144_38 ?_
        refine r_goto hP c144_39 ?_
        refine r_is (ls' := [.ref 119, .int (nI m), .int 1, .int (nI p)]) hP c144_43 (Nat.le_of_ble_eq_true rfl) rfl ?_
        refine r_inc (y := nI (p + 1)) (ls' := [.ref 119, .int (nI m), .int 1, .int (nI (p + 1))]) hP c144_44 rfl (nI_1 _) rfl ?_
        refine r_goto hP c144_47 ?_
        exact ih hlt _ (by first | exact zi1 (zal_s1 hz (decide_eq_true (Int32.not_le.mp h35))) | exact zi0 (zal_s0 (fun q => absurd h35 (Int32.not_le.mpr (of_decide_eq_true q)))))
set_option maxRecDepth 4000 in
theorem y_safe_m {K : ZKh} {P : Nat → Nat → List Value → List Value → ZMi → ZMl → ZMr → ZRt → Prop} {I : ZMi} {L : ZMl} {R : ZMr} {Q : ZRt} (hP : ZCl K P) {nS nP nW : Nat} {S : ZS} (hKb : zKb K) (hRb : zRb R) (hD : zD I 0 S nS nP nW) (hs1 : 1 ≤ nS) (hp1 : 1 ≤ nP) (hp8 : nP ≤ 8) (hs6 : nS ≤ 6) (hw6 : nW ≤ 6) (h : Q (some (.int (if zff (fun m => zal (fun p => decide (zvl S p m < 50)) nP) 1000 0 ≤ 999 then nI (zff (fun m => zal (fun p => decide (zvl S p m < 50)) nP) 1000 0) else -4))) I L R) : ∀ m, m ≤ 1000 → ∀ (v2 v3 : Value), zff (fun m => zal (fun p => decide (zvl S p m < 50)) nP) 1000 0 = zff (fun m => zal (fun p => decide (zvl S p m < 50)) nP) (1000 - m) m → P 144 2 [.ref 119, .int (nI m), v2, v3] [] I L R Q := by
  refine zloop 1000 (fun m => ∀ (v2 v3 : Value), zff (fun m => zal (fun p => decide (zvl S p m < 50)) nP) 1000 0 = zff (fun m => zal (fun p => decide (zvl S p m < 50)) nP) (1000 - m) m → P 144 2 [.ref 119, .int (nI m), v2, v3] [] I L R Q) ?_
  intro m hle ih v2 v3 hacc
  refine r_il hP c144_2 rfl ?_
  refine r_ic hP c144_3 ?_
  refine r_igt hP c144_6 (fun h6 => ?_) (fun h6 => ?_)
  · have he : m = 1000 := by
      have := (nI_ltI (a := 999) (by decide) (by omega)).mp h6
      omega
    refine r_ic hP c144_62 ?_
    have hf : zff (fun m => zal (fun p => decide (zvl S p m < 50)) nP) 1000 0 = 1000 := by rw [hacc, he]; rfl
    exact r_irE hP c144_64 h (by rw [hf, if_neg (by decide)])
  · have hlt : m < 1000 := by
      have := (not_congr (nI_ltI (a := 999) (by decide) (by omega))).mp h6
      omega
    refine r_ic hP c144_9 ?_
    refine r_is (ls' := [.ref 119, .int (nI m), .int 1, v3]) hP c144_10 (Nat.le_of_ble_eq_true rfl) rfl ?_
    refine r_ic hP c144_11 ?_
    refine r_is (ls' := [.ref 119, .int (nI m), .int 1, .int 0]) hP c144_12 (Nat.le_of_ble_eq_true rfl) rfl ?_
    refine y_safe_p (m := m) hP hKb hRb hD hs1 hp1 hp8 hs6 hw6 (by omega) (fun acc pp hac => ?_) 0 (Nat.zero_le _) _ rfl
    refine r_il hP c144_50 rfl ?_
    refine r_ifeq hP c144_51 (fun h51 => ?_) (fun h51 => ?_)
    · have hz : ¬ zal (fun p => decide (zvl S p m < 50)) nP = true := fun q => by
        rw [hac, if_pos q] at h51
        exact absurd h51 (by decide)
      refine r_inc (y := nI (m + 1)) (ls' := [.ref 119, .int (nI (m + 1)), .int acc, .int (nI pp)]) hP c144_56 rfl (nI_1 _) rfl ?_
      refine r_goto hP c144_59 ?_
      exact ih hlt _ _ (by rw [hacc, show 1000 - m = (1000 - (m + 1)) + 1 from by omega, zff, if_neg hz])
    · have hz : zal (fun p => decide (zvl S p m < 50)) nP = true := Classical.byContradiction (fun q => h51 (by rw [hac, if_neg q]))
      refine r_il hP c144_54 rfl ?_
      have hf : zff (fun m => zal (fun p => decide (zvl S p m < 50)) nP) 1000 0 = m := by rw [hacc, show 1000 - m = (1000 - (m + 1)) + 1 from by omega, zff, if_pos hz]
      exact r_irE hP c144_55 h (by rw [hf, if_pos (by omega)])
set_option maxRecDepth 4000 in
theorem y_safe0 {K : ZKh} {P : Nat → Nat → List Value → List Value → ZMi → ZMl → ZMr → ZRt → Prop} {I : ZMi} {L : ZMl} {R : ZMr} {Q : ZRt} (hP : ZCl K P) {nS nP nW : Nat} {S : ZS} (hKb : zKb K) (hRb : zRb R) (hD : zD I 0 S nS nP nW) (hs1 : 1 ≤ nS) (hp1 : 1 ≤ nP) (hp8 : nP ≤ 8) (hs6 : nS ≤ 6) (hw6 : nW ≤ 6) (h : Q (some (.int (if zff (fun m => zal (fun p => decide (zvl S p m < 50)) nP) 1000 0 ≤ 999 then nI (zff (fun m => zal (fun p => decide (zvl S p m < 50)) nP) 1000 0) else -4))) I L R) : P 144 0 [.ref 119, .null, .null, .null] [] I L R Q := by
  refine r_ic hP c144_0 ?_
  refine r_is (ls' := [.ref 119, .int 0, .null, .null]) hP c144_1 (Nat.le_of_ble_eq_true rfl) rfl ?_
  exact y_safe_m hP hKb hRb hD hs1 hp1 hp8 hs6 hw6 h 0 (Nat.zero_le _) _ _ rfl
theorem y_safe {K : ZKh} {P : Nat → Nat → List Value → List Value → ZMi → ZMl → ZMr → ZRt → Prop} {I : ZMi} {L : ZMl} {R : ZMr} {Q : ZRt} (hP : ZCl K P) {nS nP nW : Nat} {S : ZS} (hKb : zKb K) (hRb : zRb R) (hD : zD I 0 S nS nP nW) (hs1 : 1 ≤ nS) (hp1 : 1 ≤ nP) (hp8 : nP ≤ 8) (hs6 : nS ≤ 6) (hw6 : nW ≤ 6) (hsr : zSr S nS nP nW 300 800) (h : Q (some (.int (if zmx (zfst S) nP ≤ 999 then nI (zmx (zfst S) nP) else -4))) I L R) : P 144 0 [.ref 119, .null, .null, .null] [] I L R Q := by
  have e := zsafe_eq (S := S) (nP := nP) (fun p hp => (hsr.2.1 p hp).2.2.2.2.1) (fun p hp => (hsr.2.1 p hp).2.2.2.2.2.1)
  rw [← e] at h
  exact y_safe0 hP hKb hRb hD hs1 hp1 hp8 hs6 hw6 h
set_option maxRecDepth 4000 in
theorem y_possible {K : ZKh} {P : Nat → Nat → List Value → List Value → ZMi → ZMl → ZMr → ZRt → Prop} {I : ZMi} {L : ZMl} {R : ZMr} {Q : ZRt} (hP : ZCl K P) {nS nP nW : Nat} {S : ZS} (hKb : zKb K) (hRb : zRb R) (hD : zD I 0 S nS nP nW) (hs1 : 1 ≤ nS) (hp1 : 1 ≤ nP) (hp8 : nP ≤ 8) (hs6 : nS ≤ 6) (hw6 : nW ≤ 6) {na : Nat} {A : ZA} (hA : zAm I na A) (hAo : zAo nS nP na A) (hn10 : na ≤ 10) {x : Int32} (h : ∀ I2 L2, zfm_ I I2 → zfn_ L L2 →  Q (some (.long (f_poss S nP (zps S nS nP A na) x))) I2 L2 R) : P 152 0 [.ref 119, .int x] [] I L R Q := by
  refine r_il hP c152_0 rfl ?_
  refine r_i2l hP c152_1 ?_
  refine r_lc hP c152_2 ?_
  refine r_lc hP c152_3 ?_
  refine r_cSi (as := [.long x.toInt64, .long 0, .long 1]) (r := []) (I' := I) (L' := L) (R' := R) (x := if 0 ≤ x.toInt64 ∧ x.toInt64 ≤ 1 then 1 else 0) hP c152_4 rfl rfl (fun _ h2 => x_isIn hP h2) ?_
  refine r_ti (y := if 0 ≤ x ∧ x ≤ 1 then 1 else 0) (zisC rfl rfl) ?_
  refine r_ifneB hP c152_7 (fun h7 => ?_) (fun h7 => ?_)
  · refine r_al hP c152_14 rfl ?_
    refine r_cVvp (as := []) (r := []) (a := 119) hP c152_15 rfl (zj119 hKb) rfl (fun I2 L2 R2 => (zfm_ I I2 ∧ zfn_ L L2 ∧ zMs_ I2 L2 S nP (zps S nS nP A na)) ∧ R = R2) (fun Q2 hq => x_layStates hP hKb hRb hD hs1 hp1 hp8 hs6 hw6 hA hAo hn10 (fun I2 L2 a b c => hq I2 L2 R ⟨⟨a, b, c⟩, rfl⟩)) ?_
    rintro I2 L2 R2 ⟨⟨ha, hb, hc⟩, rfl⟩
    refine r_il hP c152_18 rfl ?_
    refine r_ifne hP c152_19 (fun h19 => ?_) (fun h19 => ?_)
    · refine r_al hP c152_30 rfl ?_
      refine r_cVl (as := []) (r := []) (I' := I2) (L' := L2) (R' := R) (x := zsw_ S nP (zps S nS nP A na)) (a := 119) hP c152_31 rfl (zj119 hKb) rfl (fun _ hq => x_wall hP hKb hRb hc (zok_ps S nS hp8 A na).1 hq) ?_
      first
        | exact r_lrE hP c152_34 (h _ _ (fun _ _ _ _ => rfl) (fun _ _ _ => rfl)) (by rw [f_poss, if_neg h7])
        | exact r_lrE hP c152_34 (h _ _ ha hb) (by rw [f_poss, if_pos h7, if_pos h19])
        | exact r_lrE hP c152_34 (h _ _ ha hb) (by rw [f_poss, if_pos h7, if_neg h19])
    · refine r_al hP c152_22 rfl ?_
      refine r_gI (x := nI (zps S nS nP A na).length) hP c152_23 (zj119 hKb) hc.1 ?_
      refine r_i2l hP c152_26 ?_
      refine r_goto hP c152_27 ?_
      first
        | exact r_lrE hP c152_34 (h _ _ (fun _ _ _ _ => rfl) (fun _ _ _ => rfl)) (by rw [f_poss, if_neg h7])
        | exact r_lrE hP c152_34 (h _ _ ha hb) (by rw [f_poss, if_pos h7, if_pos h19])
        | exact r_lrE hP c152_34 (h _ _ ha hb) (by rw [f_poss, if_pos h7, if_neg h19])
  · refine r_lc hP c152_10 ?_
    first
      | exact r_lrE hP c152_13 (h _ _ (fun _ _ _ _ => rfl) (fun _ _ _ => rfl)) (by rw [f_poss, if_neg h7])
      | exact r_lrE hP c152_13 (h _ _ ha hb) (by rw [f_poss, if_pos h7, if_pos h19])
      | exact r_lrE hP c152_13 (h _ _ ha hb) (by rw [f_poss, if_pos h7, if_neg h19])
theorem zgcd_s {x y : Nat} : Nat.gcd y (x % y) = Nat.gcd x y := by
  rw [Nat.gcd_comm y, ← Nat.gcd_rec, Nat.gcd_comm]
set_option maxRecDepth 4000 in
theorem y_common_l {K : ZKh} {P : Nat → Nat → List Value → List Value → ZMi → ZMl → ZMr → ZRt → Prop} {I : ZMi} {L : ZMl} {R : ZMr} {Q : ZRt} (hP : ZCl K P) {a b : Int64} (g : Nat) (h : Q (some (.long (lN g))) I L R) : ∀ (y x : Nat) (v8 v9 : Value), x < 2 ^ 63 → y < 2 ^ 63 → Nat.gcd x y = g → P 153 6 [.long a, .null, .long b, .null, .long (lN x), .null, .long (lN y), .null, v8, v9] [] I L R Q := by
  intro y
  induction y using Nat.strongRecOn with
  | ind y ih =>
  intro x v8 v9 hx hy hg
  refine r_ll hP c153_6 rfl ?_
  refine r_lc hP c153_8 ?_
  refine r_lcmp hP c153_9 ?_
  refine r_ifeqL hP c153_10 (fun h10 => ?_) (fun h10 => ?_)
  · have hy0 : y = 0 := (zln0 hy).mp h10
    refine r_ll hP c153_31 rfl ?_
    subst hy0
    exact r_lrE hP c153_33 h (by rw [← hg, Nat.gcd_zero_right])
  · have hy0 : 0 < y := Nat.pos_of_ne_zero (fun q => h10 ((zln0 hy).mpr q))
    refine r_ll hP c153_13 rfl ?_
    refine r_ll hP c153_15 rfl ?_
    refine r_lrem hP c153_17 h10 ?_
    refine r_tl (y := lN (x % y)) (zlrem hx hy0 hy) ?_
    refine r_ls (ls' := [.long a, .null, .long b, .null, .long (lN x), .null, .long (lN y), .null, .long (lN (x % y)), .null]) hP c153_18 (Nat.le_of_ble_eq_true rfl) rfl ?_
    refine r_ll hP c153_20 rfl ?_
    refine r_ls (ls' := [.long a, .null, .long b, .null, .long (lN y), .null, .long (lN y), .null, .long (lN (x % y)), .null]) hP c153_22 (Nat.le_of_ble_eq_true rfl) rfl ?_
    refine r_ll hP c153_24 rfl ?_
    refine r_ls (ls' := [.long a, .null, .long b, .null, .long (lN y), .null, .long (lN (x % y)), .null, .long (lN (x % y)), .null]) hP c153_26 (Nat.le_of_ble_eq_true rfl) rfl ?_
    refine r_goto hP c153_28 ?_
    exact ih (x % y) (Nat.mod_lt x hy0) y _ _ hy (Nat.lt_trans (Nat.mod_lt x hy0) hy) (zgcd_s.trans hg)
set_option maxRecDepth 4000 in
theorem y_common {K : ZKh} {P : Nat → Nat → List Value → List Value → ZMi → ZMl → ZMr → ZRt → Prop} {I : ZMi} {L : ZMl} {R : ZMr} {Q : ZRt} (hP : ZCl K P) {x y : Nat} (hx : x < 2 ^ 63) (hy : y < 2 ^ 63) (h : Q (some (.long (lN (Nat.gcd x y)))) I L R) : P 153 0 [.long (lN x), .null, .long (lN y), .null, .null, .null, .null, .null, .null, .null] [] I L R Q := by
  refine r_ll hP c153_0 rfl ?_
  refine r_ls (ls' := [.long (lN x), .null, .long (lN y), .null, .long (lN x), .null, .null, .null, .null, .null]) hP c153_1 (Nat.le_of_ble_eq_true rfl) rfl ?_
  refine r_ll hP c153_3 rfl ?_
  refine r_ls (ls' := [.long (lN x), .null, .long (lN y), .null, .long (lN x), .null, .long (lN y), .null, .null, .null]) hP c153_4 (Nat.le_of_ble_eq_true rfl) rfl ?_
  exact y_common_l hP _ h y x _ _ hx hy rfl
set_option maxRecDepth 4000 in
theorem y_odds_l {K : ZKh} {P : Nat → Nat → List Value → List Value → ZMi → ZMl → ZMr → ZRt → Prop} {I : ZMi} {L : ZMl} {R : ZMr} {Q : ZRt} (hP : ZCl K P) (hKb : zKb K) (hRb : zRb R) {S : ZS} {nP j : Nat} {cs : List Nat} {y : Int32} (hp8 : nP ≤ 8) (hj : j < nP) (hms : zMs_ I L S nP cs) (hok : zok S nP cs) (hx : ∀ v5 v6, P 154 85 [.ref 119, .int (nI j), .int y, .long (zww S nP j cs), .null, v5, v6] [] I L R Q) : ∀ i, i ≤ cs.length → ∀ (acc : Int64) (v6 : Value), acc = zww S nP j (cs.take i) → P 154 42 [.ref 119, .int (nI j), .int y, .long acc, .null, .int (nI i), v6] [] I L R Q := by
  refine zloop cs.length (fun i => ∀ (acc : Int64) (v6 : Value), acc = zww S nP j (cs.take i) → P 154 42 [.ref 119, .int (nI j), .int y, .long acc, .null, .int (nI i), v6] [] I L R Q) ?_
  intro i hle ih acc v6 hacc
  have hl37 := hok.1
  refine r_il hP c154_42 rfl ?_
  refine r_al hP c154_44 rfl ?_
  refine r_gI (x := nI cs.length) hP c154_45 (zj119 hKb) hms.1 ?_
  refine r_ige hP c154_48 (fun h48 => ?_) (fun h48 => ?_)
  · have he : i = cs.length := Nat.le_antisymm hle ((nI_leI (by omega) (by omega)).mp h48)
    rw [hacc, he, List.take_length]
    exact hx _ _
  · have hlt : i < cs.length := by
      rcases Nat.lt_or_ge i cs.length with q | q
      · exact q
      · exact absurd (nI_le q (by omega)) h48
    have hc2 : cs.getD i 0 < 256 := Nat.lt_of_lt_of_le (hok.2 _ (z_mem hlt)).1 (zp256 hp8)
    refine r_ll hP c154_51 rfl ?_
    refine r_al hP c154_52 rfl ?_
    refine r_gR (x := 149) hP c154_53 (zj119 hKb) (zr119_33 hRb) ?_
    refine r_il hP c154_56 rfl ?_
    refine r_iald (j := i) (x := nI (cs.getD i 0)) hP c154_58 (zk149 hKb) rfl (by omega) (hms.2 i hlt).1 ?_
    refine r_il hP c154_59 rfl ?_
    refine r_cSi (as := [.int (nI (cs.getD i 0)), .int (nI j)]) (r := [.long acc]) (I' := I) (L' := L) (R' := R) (x := if (cs.getD i 0).testBit j = true then 1 else 0) hP c154_60 rfl rfl (fun _ hq => x_has hP hc2 (by omega) hq) ?_
    refine r_ifeqB hP c154_63 (fun h63 => ?_) (fun h63 => ?_)
    · refine r_lc hP c154_76 ?_
      refine r_ladd hP c154_77 ?_
      refine r_ls (ls' := [.ref 119, .int (nI j), .int y, .long (acc + 0), .null, .int (nI i), v6]) hP c154_78 (Nat.le_of_ble_eq_true rfl) rfl ?_
      refine r_inc (y := nI (i + 1)) (ls' := [.ref 119, .int (nI j), .int y, .long (acc + 0), .null, .int (nI (i + 1)), v6]) hP c154_79 rfl (nI_1 _) rfl ?_
      refine r_goto hP c154_82 ?_
      exact ih hlt _ _ (by rw [z_take hlt, zww, List.foldl_append, ← zww, hacc]; simp only [List.foldl_cons, List.foldl_nil]; first | rw [if_pos h63] | (rw [if_neg h63]; exact Int64.add_zero _))
    · refine r_al hP c154_66 rfl ?_
      refine r_gR (x := 150) hP c154_67 (zj119 hKb) (zr119_34 hRb) ?_
      refine r_il hP c154_70 rfl ?_
      refine r_lald (j := i) (x := zwt S (cs.getD i 0) nP) hP c154_72 (zk150 hKb) rfl (by omega) (hms.2 i hlt).2 ?_
      refine r_goto hP c154_73 ?_
      refine r_ladd hP c154_77 ?_
      refine r_ls (ls' := [.ref 119, .int (nI j), .int y, .long (acc + (zwt S (cs.getD i 0) nP)), .null, .int (nI i), v6]) hP c154_78 (Nat.le_of_ble_eq_true rfl) rfl ?_
      refine r_inc (y := nI (i + 1)) (ls' := [.ref 119, .int (nI j), .int y, .long (acc + (zwt S (cs.getD i 0) nP)), .null, .int (nI (i + 1)), v6]) hP c154_79 rfl (nI_1 _) rfl ?_
      refine r_goto hP c154_82 ?_
      exact ih hlt _ _ (by rw [z_take hlt, zww, List.foldl_append, ← zww, hacc]; simp only [List.foldl_cons, List.foldl_nil]; first | rw [if_pos h63] | (rw [if_neg h63]; exact Int64.add_zero _))
set_option maxRecDepth 4000 in
theorem y_odds {K : ZKh} {P : Nat → Nat → List Value → List Value → ZMi → ZMl → ZMr → ZRt → Prop} {I : ZMi} {L : ZMl} {R : ZMr} {Q : ZRt} (hP : ZCl K P) {nS nP nW : Nat} {S : ZS} (hKb : zKb K) (hRb : zRb R) (hD : zD I 0 S nS nP nW) (hs1 : 1 ≤ nS) (hp1 : 1 ≤ nP) (hp8 : nP ≤ 8) (hs6 : nS ≤ 6) (hw6 : nW ≤ 6) (hsr : zSr S nS nP nW 300 800) {na : Nat} {A : ZA} (hA : zAm I na A) (hAo : zAo nS nP na A) (hn10 : na ≤ 10) {p y : Int32} (h : ∀ I2 L2, zfm_ I I2 → zfn_ L L2 →  Q (some (.long (f_odds S nP (zps S nS nP A na) p y))) I2 L2 R) : P 154 0 [.ref 119, .int p, .int y, .null, .null, .null, .null] [] I L R Q := by
  refine r_al hP c154_0 rfl ?_
  refine r_il hP c154_1 rfl ?_
  refine r_cVi (as := [.int p]) (r := []) (I' := I) (L' := L) (R' := R) (x := if zr p nP then 1 else 0) (a := 119) hP c154_2 rfl (zj119 hKb) rfl (fun _ hq => x_isPart hP hKb hRb hD hs1 hp1 hp8 hs6 hw6 hq) ?_
  refine r_ifeqB hP c154_5 (fun h5 => ?_) (fun h5 => ?_)
  · refine r_lc hP c154_18 ?_
    first
      | exact r_lrE hP c154_21 (h _ _ (fun _ _ _ _ => rfl) (fun _ _ _ => rfl)) (by rw [f_odds, if_neg (fun q => h5 q.1)])
      | exact r_lrE hP c154_21 (h _ _ (fun _ _ _ _ => rfl) (fun _ _ _ => rfl)) (by rw [f_odds, if_neg (fun q => h15 q.2)])
      | exact r_lrE hP c154_21 (h _ _ ha hb) (by rw [f_odds, if_pos ⟨h5, h15⟩, if_pos hl0])
      | exact r_lrE hP c154_21 (h _ _ ha hb) (by rw [f_odds, if_pos ⟨h5, h15⟩, if_neg hl0, nI_clamp (by omega), e3, if_neg hgn, if_pos h96])
      | exact r_lrE hP c154_21 (h _ _ ha hb) (by rw [f_odds, if_pos ⟨h5, h15⟩, if_neg hl0, nI_clamp (by omega), e3, if_neg hgn, if_neg h96])
  · refine r_il hP c154_8 rfl ?_
    refine r_i2l hP c154_9 ?_
    refine r_lc hP c154_10 ?_
    refine r_lc hP c154_11 ?_
    refine r_cSi (as := [.long y.toInt64, .long 0, .long 1]) (r := []) (I' := I) (L' := L) (R' := R) (x := if 0 ≤ y.toInt64 ∧ y.toInt64 ≤ 1 then 1 else 0) hP c154_12 rfl rfl (fun _ h2 => x_isIn hP h2) ?_
    refine r_ti (y := if 0 ≤ y ∧ y ≤ 1 then 1 else 0) (zisC rfl rfl) ?_
    refine r_ifneB hP c154_15 (fun h15 => ?_) (fun h15 => ?_)
    · obtain ⟨j, hj, rfl⟩ := (zr_iff (by omega)).mp h5
      refine r_al hP c154_22 rfl ?_
      refine r_cVvp (as := []) (r := []) (a := 119) hP c154_23 rfl (zj119 hKb) rfl (fun I2 L2 R2 => (zfm_ I I2 ∧ zfn_ L L2 ∧ zMs_ I2 L2 S nP (zps S nS nP A na)) ∧ R = R2) (fun Q2 hq => x_layStates hP hKb hRb hD hs1 hp1 hp8 hs6 hw6 hA hAo hn10 (fun I2 L2 a b c => hq I2 L2 R ⟨⟨a, b, c⟩, rfl⟩)) ?_
      rintro I2 L2 R2 ⟨⟨ha, hb, hc⟩, rfl⟩
      refine r_al hP c154_26 rfl ?_
      refine r_gI (x := nI (zps S nS nP A na).length) hP c154_27 (zj119 hKb) hc.1 ?_
      refine r_ifne hP c154_30 (fun h30 => ?_) (fun h30 => ?_)
      · have hl0 : ¬ (zps S nS nP A na).length = 0 := fun q => h30 (by rw [q]; rfl)
        refine r_lc hP c154_37 ?_
        refine r_ls (ls' := [.ref 119, .int (nI j), .int y, .long 0, .null, .null, .null]) hP c154_38 (Nat.le_of_ble_eq_true rfl) rfl ?_
        refine r_ic hP c154_39 ?_
        refine r_is (ls' := [.ref 119, .int (nI j), .int y, .long 0, .null, .int 0, .null]) hP c154_40 (Nat.le_of_ble_eq_true rfl) rfl ?_
        have htr : ∀ p, p < nP → ∃ a, a ≤ 9 ∧ S 6 p 0 = nI a := fun p hp => (hsr.2.1 p hp).2.2.2.1
        have hok := zok_ps S nS hp8 A na
        have e1 := zww_N htr j (zps S nS nP A na)
        have e2 := zsw_N htr (zps S nS nP A na)
        have b1 : zsN (zwwN S nP j) (zps S nS nP A na) ≤ 3700000000 := zsN_8 htr hp8 hok.1 (fun c _ => zwwN_le S nP j c)
        have b2 : zsN (fun c => zwN S c nP) (zps S nS nP A na) ≤ 3700000000 := zsN_8 htr hp8 hok.1 (fun c _ => Nat.le_refl _)
        have p2 : 0 < zsN (fun c => zwN S c nP) (zps S nS nP A na) := zsN_pos (fun c hc => zwN_pos htr hp8 (hok.2 c hc).2.1) hl0
        have hg : 0 < Nat.gcd (zsN (zwwN S nP j) (zps S nS nP A na)) (zsN (fun c => zwN S c nP) (zps S nS nP A na)) := Nat.gcd_pos_of_pos_right _ p2
        have hgb : Nat.gcd (zsN (zwwN S nP j) (zps S nS nP A na)) (zsN (fun c => zwN S c nP) (zps S nS nP A na)) ≤ 3700000000 := Nat.le_trans (Nat.gcd_le_right _ p2) b2
        have e3 : zeu 100 (zww S nP j (zps S nS nP A na)) (zsw_ S nP (zps S nS nP A na)) = lN (Nat.gcd (zsN (zwwN S nP j) (zps S nS nP A na)) (zsN (fun c => zwN S c nP) (zps S nS nP A na))) := by rw [e1, e2]; exact zeu_100 b1 b2
        have hgn : ¬ lN (Nat.gcd (zsN (zwwN S nP j) (zps S nS nP A na)) (zsN (fun c => zwN S c nP) (zps S nS nP A na))) = 0 := fun q => absurd ((zln0 (by omega)).mp q) (by omega)
        refine y_odds_l hP hKb hRb hp8 hj hc hok (fun v5 v6 => ?_) 0 (Nat.zero_le _) _ _ rfl
        refine r_ll hP c154_85 rfl ?_
        refine r_al hP c154_86 rfl ?_
        refine r_cVl (as := []) (r := [.long (zww S nP j (zps S nS nP A na))]) (I' := I2) (L' := L2) (R' := R) (x := zsw_ S nP (zps S nS nP A na)) (a := 119) hP c154_87 rfl (zj119 hKb) rfl (fun _ hq => x_wall hP hKb hRb hc (zok_ps S nS hp8 A na).1 hq) ?_
        refine r_cSl (as := [.long (zww S nP j (zps S nS nP A na)), .long (zsw_ S nP (zps S nS nP A na))]) (r := []) (I' := I2) (L' := L2) (R' := R) (x := lN (Nat.gcd (zsN (zwwN S nP j) (zps S nS nP A na)) (zsN (fun c => zwN S c nP) (zps S nS nP A na)))) hP c154_90 rfl rfl (fun _ hq => by
    rw [e1, e2]
    exact y_common hP (by omega) (by omega) hq) ?_
        refine r_ls (ls' := [.ref 119, .int (nI j), .int y, .long (zww S nP j (zps S nS nP A na)), .null, .long (lN (Nat.gcd (zsN (zwwN S nP j) (zps S nS nP A na)) (zsN (fun c => zwN S c nP) (zps S nS nP A na)))), .null]) hP c154_93 (Nat.le_of_ble_eq_true rfl) rfl ?_
        refine r_il hP c154_95 rfl ?_
        refine r_ifne hP c154_96 (fun h96 => ?_) (fun h96 => ?_)
        · refine r_al hP c154_106 rfl ?_
          refine r_cVl (as := []) (r := []) (I' := I2) (L' := L2) (R' := R) (x := zsw_ S nP (zps S nS nP A na)) (a := 119) hP c154_107 rfl (zj119 hKb) rfl (fun _ hq => x_wall hP hKb hRb hc (zok_ps S nS hp8 A na).1 hq) ?_
          refine r_ll hP c154_110 rfl ?_
          refine r_ldiv hP c154_112 hgn ?_
          first
            | exact r_lrE hP c154_113 (h _ _ (fun _ _ _ _ => rfl) (fun _ _ _ => rfl)) (by rw [f_odds, if_neg (fun q => h5 q.1)])
            | exact r_lrE hP c154_113 (h _ _ (fun _ _ _ _ => rfl) (fun _ _ _ => rfl)) (by rw [f_odds, if_neg (fun q => h15 q.2)])
            | exact r_lrE hP c154_113 (h _ _ ha hb) (by rw [f_odds, if_pos ⟨h5, h15⟩, if_pos hl0])
            | exact r_lrE hP c154_113 (h _ _ ha hb) (by rw [f_odds, if_pos ⟨h5, h15⟩, if_neg hl0, nI_clamp (by omega), e3, if_neg hgn, if_pos h96])
            | exact r_lrE hP c154_113 (h _ _ ha hb) (by rw [f_odds, if_pos ⟨h5, h15⟩, if_neg hl0, nI_clamp (by omega), e3, if_neg hgn, if_neg h96])
        · refine r_ll hP c154_99 rfl ?_
          refine r_ll hP c154_100 rfl ?_
          refine r_ldiv hP c154_102 hgn ?_
          refine r_goto hP c154_103 ?_
          first
            | exact r_lrE hP c154_113 (h _ _ (fun _ _ _ _ => rfl) (fun _ _ _ => rfl)) (by rw [f_odds, if_neg (fun q => h5 q.1)])
            | exact r_lrE hP c154_113 (h _ _ (fun _ _ _ _ => rfl) (fun _ _ _ => rfl)) (by rw [f_odds, if_neg (fun q => h15 q.2)])
            | exact r_lrE hP c154_113 (h _ _ ha hb) (by rw [f_odds, if_pos ⟨h5, h15⟩, if_pos hl0])
            | exact r_lrE hP c154_113 (h _ _ ha hb) (by rw [f_odds, if_pos ⟨h5, h15⟩, if_neg hl0, nI_clamp (by omega), e3, if_neg hgn, if_pos h96])
            | exact r_lrE hP c154_113 (h _ _ ha hb) (by rw [f_odds, if_pos ⟨h5, h15⟩, if_neg hl0, nI_clamp (by omega), e3, if_neg hgn, if_neg h96])
      · have hl0 : (zps S nS nP A na).length = 0 := (nI_eq (b := 0) (by have := (zok_ps S nS hp8 A na).1; omega) (by decide)).mp h30
        refine r_lc hP c154_33 ?_
        first
          | exact r_lrE hP c154_36 (h _ _ (fun _ _ _ _ => rfl) (fun _ _ _ => rfl)) (by rw [f_odds, if_neg (fun q => h5 q.1)])
          | exact r_lrE hP c154_36 (h _ _ (fun _ _ _ _ => rfl) (fun _ _ _ => rfl)) (by rw [f_odds, if_neg (fun q => h15 q.2)])
          | exact r_lrE hP c154_36 (h _ _ ha hb) (by rw [f_odds, if_pos ⟨h5, h15⟩, if_pos hl0])
          | exact r_lrE hP c154_36 (h _ _ ha hb) (by rw [f_odds, if_pos ⟨h5, h15⟩, if_neg hl0, nI_clamp (by omega), e3, if_neg hgn, if_pos h96])
          | exact r_lrE hP c154_36 (h _ _ ha hb) (by rw [f_odds, if_pos ⟨h5, h15⟩, if_neg hl0, nI_clamp (by omega), e3, if_neg hgn, if_neg h96])
    · refine r_lc hP c154_18 ?_
      first
        | exact r_lrE hP c154_21 (h _ _ (fun _ _ _ _ => rfl) (fun _ _ _ => rfl)) (by rw [f_odds, if_neg (fun q => h5 q.1)])
        | exact r_lrE hP c154_21 (h _ _ (fun _ _ _ _ => rfl) (fun _ _ _ => rfl)) (by rw [f_odds, if_neg (fun q => h15 q.2)])
        | exact r_lrE hP c154_21 (h _ _ ha hb) (by rw [f_odds, if_pos ⟨h5, h15⟩, if_pos hl0])
        | exact r_lrE hP c154_21 (h _ _ ha hb) (by rw [f_odds, if_pos ⟨h5, h15⟩, if_neg hl0, nI_clamp (by omega), e3, if_neg hgn, if_pos h96])
        | exact r_lrE hP c154_21 (h _ _ ha hb) (by rw [f_odds, if_pos ⟨h5, h15⟩, if_neg hl0, nI_clamp (by omega), e3, if_neg hgn, if_neg h96])
theorem zhv_s {S : ZS} {nP : Nat} {cs : List Nat} {c : Nat} (hc : c < cs.length) : zhv S nP (cs.take (c + 1)) = if (zhv S nP (cs.take c)).2 < zwt S (cs.getD c 0) nP then (nI (cs.getD c 0), zwt S (cs.getD c 0) nP) else zhv S nP (cs.take c) := by
  rw [z_take hc, zhv, List.foldl_append]; rfl
set_option maxRecDepth 4000 in
theorem y_likely_l {K : ZKh} {P : Nat → Nat → List Value → List Value → ZMi → ZMl → ZMr → ZRt → Prop} {I : ZMi} {L : ZMl} {R : ZMr} {Q : ZRt} (hP : ZCl K P) (hKb : zKb K) (hRb : zRb R) {S : ZS} {nP : Nat} {cs : List Nat} (hms : zMs_ I L S nP cs) (hok : zok S nP cs) (h : Q (some (.int (zhv S nP cs).1)) I L R) : ∀ i, i ≤ cs.length → ∀ (x1 : Int32), (i = 0 ∧ x1 = -4) ∨ (∃ b, b < i ∧ x1 = nI b ∧ zhv S nP (cs.take i) = (nI (cs.getD b 0), zwt S (cs.getD b 0) nP)) → P 155 9 [.ref 119, .int x1, .int (nI i)] [] I L R Q := by
  refine zloop cs.length (fun i => ∀ (x1 : Int32), (i = 0 ∧ x1 = -4) ∨ (∃ b, b < i ∧ x1 = nI b ∧ zhv S nP (cs.take i) = (nI (cs.getD b 0), zwt S (cs.getD b 0) nP)) → P 155 9 [.ref 119, .int x1, .int (nI i)] [] I L R Q) ?_
  intro i hle ih x1 hacc
  have hl37 := hok.1
  refine r_il hP c155_9 rfl ?_
  refine r_al hP c155_10 rfl ?_
  refine r_gI (x := nI cs.length) hP c155_11 (zj119 hKb) hms.1 ?_
  refine r_ige hP c155_14 (fun h14 => ?_) (fun h14 => ?_)
  · have he : i = cs.length := Nat.le_antisymm hle ((nI_leI (by omega) (by omega)).mp h14)
    refine r_il hP c155_49 rfl ?_
    refine r_ifge hP c155_50 (fun h50 => ?_) (fun h50 => ?_)
    · rcases hacc with ⟨z1, z2⟩ | ⟨b, z1, z2, z3⟩
      · rw [z2] at h50; exact absurd h50 (by decide)
      subst z2
      refine r_al hP c155_58 rfl ?_
      refine r_gR (x := 149) hP c155_59 (zj119 hKb) (zr119_33 hRb) ?_
      refine r_il hP c155_62 rfl ?_
      refine r_iald (j := b) (x := nI (cs.getD b 0)) hP c155_63 (zk149 hKb) rfl (by omega) (hms.2 b (by omega)).1 ?_
      subst he
      first
        | exact r_irE hP c155_64 h (by rw [List.take_length] at z3; rw [z3])
        | exact r_irE hP c155_64 h (by
            rcases hacc with ⟨z1, z2⟩ | ⟨b, z1, z2, z3⟩
            · have hn : cs = [] := List.eq_nil_of_length_eq_zero z1
              rw [hn]; rfl
            · rw [z2] at h50; exact absurd (nI_pos' (by omega)) h50)
    · refine r_ic hP c155_53 ?_
      refine r_goto hP c155_55 ?_
      subst he
      first
        | exact r_irE hP c155_64 h (by rw [List.take_length] at z3; rw [z3])
        | exact r_irE hP c155_64 h (by
            rcases hacc with ⟨z1, z2⟩ | ⟨b, z1, z2, z3⟩
            · have hn : cs = [] := List.eq_nil_of_length_eq_zero z1
              rw [hn]; rfl
            · rw [z2] at h50; exact absurd (nI_pos' (by omega)) h50)
  · have hlt : i < cs.length := by
      rcases Nat.lt_or_ge i cs.length with q | q
      · exact q
      · exact absurd (nI_le q (by omega)) h14
    refine r_il hP c155_17 rfl ?_
    refine r_iflt hP c155_18 (fun h18 => ?_) (fun h18 => ?_)
    · refine r_il hP c155_37 rfl ?_
      refine r_goto hP c155_38 ?_
      refine r_is (ls' := [.ref 119, .int (nI i), .int (nI i)]) hP c155_42 (Nat.le_of_ble_eq_true rfl) rfl ?_
      refine r_inc (y := nI (i + 1)) (ls' := [.ref 119, .int (nI i), .int (nI (i + 1))]) hP c155_43 rfl (nI_1 _) rfl ?_
      refine r_goto hP c155_46 ?_
      first
        | exact ih hlt _ (Or.inr ⟨i, by omega, rfl, by
            rw [zhv_s hlt]
            rcases hacc with ⟨z1, z2⟩ | ⟨b, z1, z2, z3⟩
            · subst z1
              exact if_pos (hok.2 _ (z_mem hlt)).2.1
            · rw [z2] at h18; exact absurd h18 (nI_pos (by omega))⟩)
        | exact ih hlt _ (Or.inr ⟨i, by omega, rfl, by rw [zhv_s hlt, z3, if_pos (Int64.not_le.mp h34)]⟩)
        | exact ih hlt _ (Or.inr ⟨b, by omega, rfl, by rw [zhv_s hlt, z3, if_neg (fun q => absurd h34 (Int64.not_le.mpr q))]⟩)
    · rcases hacc with ⟨z1, z2⟩ | ⟨b, z1, z2, z3⟩
      · rw [z2] at h18; exact absurd (by decide : (-4 : Int32) < 0) h18
      subst z2
      refine r_al hP c155_21 rfl ?_
      refine r_gR (x := 150) hP c155_22 (zj119 hKb) (zr119_34 hRb) ?_
      refine r_il hP c155_25 rfl ?_
      refine r_lald (j := i) (x := zwt S (cs.getD i 0) nP) hP c155_26 (zk150 hKb) rfl (by omega) (hms.2 i hlt).2 ?_
      refine r_al hP c155_27 rfl ?_
      refine r_gR (x := 150) hP c155_28 (zj119 hKb) (zr119_34 hRb) ?_
      refine r_il hP c155_31 rfl ?_
      refine r_lald (j := b) (x := zwt S (cs.getD b 0) nP) hP c155_32 (zk150 hKb) rfl (by omega) (hms.2 b (by omega)).2 ?_
      refine r_lcmp hP c155_33 ?_
      refine r_ifleL hP c155_34 (fun h34 => ?_) (fun h34 => ?_)
      · refine r_il hP c155_41 rfl ?_
        refine r_is (ls' := [.ref 119, .int (nI b), .int (nI i)]) hP c155_42 (Nat.le_of_ble_eq_true rfl) rfl ?_
        refine r_inc (y := nI (i + 1)) (ls' := [.ref 119, .int (nI b), .int (nI (i + 1))]) hP c155_43 rfl (nI_1 _) rfl ?_
        refine r_goto hP c155_46 ?_
        first
          | exact ih hlt _ (Or.inr ⟨i, by omega, rfl, by
              rw [zhv_s hlt]
              rcases hacc with ⟨z1, z2⟩ | ⟨b, z1, z2, z3⟩
              · subst z1
                exact if_pos (hok.2 _ (z_mem hlt)).2.1
              · rw [z2] at h18; exact absurd h18 (nI_pos (by omega))⟩)
          | exact ih hlt _ (Or.inr ⟨i, by omega, rfl, by rw [zhv_s hlt, z3, if_pos (Int64.not_le.mp h34)]⟩)
          | exact ih hlt _ (Or.inr ⟨b, by omega, rfl, by rw [zhv_s hlt, z3, if_neg (fun q => absurd h34 (Int64.not_le.mpr q))]⟩)
      · refine r_il hP c155_37 rfl ?_
        refine r_goto hP c155_38 ?_
        refine r_is (ls' := [.ref 119, .int (nI i), .int (nI i)]) hP c155_42 (Nat.le_of_ble_eq_true rfl) rfl ?_
        refine r_inc (y := nI (i + 1)) (ls' := [.ref 119, .int (nI i), .int (nI (i + 1))]) hP c155_43 rfl (nI_1 _) rfl ?_
        refine r_goto hP c155_46 ?_
        first
          | exact ih hlt _ (Or.inr ⟨i, by omega, rfl, by
              rw [zhv_s hlt]
              rcases hacc with ⟨z1, z2⟩ | ⟨b, z1, z2, z3⟩
              · subst z1
                exact if_pos (hok.2 _ (z_mem hlt)).2.1
              · rw [z2] at h18; exact absurd h18 (nI_pos (by omega))⟩)
          | exact ih hlt _ (Or.inr ⟨i, by omega, rfl, by rw [zhv_s hlt, z3, if_pos (Int64.not_le.mp h34)]⟩)
          | exact ih hlt _ (Or.inr ⟨b, by omega, rfl, by rw [zhv_s hlt, z3, if_neg (fun q => absurd h34 (Int64.not_le.mpr q))]⟩)
set_option maxRecDepth 4000 in
theorem y_likeliest {K : ZKh} {P : Nat → Nat → List Value → List Value → ZMi → ZMl → ZMr → ZRt → Prop} {I : ZMi} {L : ZMl} {R : ZMr} {Q : ZRt} (hP : ZCl K P) {nS nP nW : Nat} {S : ZS} (hKb : zKb K) (hRb : zRb R) (hD : zD I 0 S nS nP nW) (hs1 : 1 ≤ nS) (hp1 : 1 ≤ nP) (hp8 : nP ≤ 8) (hs6 : nS ≤ 6) (hw6 : nW ≤ 6) {na : Nat} {A : ZA} (hA : zAm I na A) (hAo : zAo nS nP na A) (hn10 : na ≤ 10) (h : ∀ I2 L2, zfm_ I I2 → zfn_ L L2 →  Q (some (.int (zhv S nP (zps S nS nP A na)).1)) I2 L2 R) : P 155 0 [.ref 119, .null, .null] [] I L R Q := by
  refine r_al hP c155_0 rfl ?_
  refine r_cVvp (as := []) (r := []) (a := 119) hP c155_1 rfl (zj119 hKb) rfl (fun I2 L2 R2 => (zfm_ I I2 ∧ zfn_ L L2 ∧ zMs_ I2 L2 S nP (zps S nS nP A na)) ∧ R = R2) (fun Q2 hq => x_layStates hP hKb hRb hD hs1 hp1 hp8 hs6 hw6 hA hAo hn10 (fun I2 L2 a b c => hq I2 L2 R ⟨⟨a, b, c⟩, rfl⟩)) ?_
  rintro I2 L2 R2 ⟨⟨ha, hb, hc⟩, rfl⟩
  refine r_ic hP c155_4 ?_
  refine r_is (ls' := [.ref 119, .int (-4), .null]) hP c155_6 (Nat.le_of_ble_eq_true rfl) rfl ?_
  refine r_ic hP c155_7 ?_
  refine r_is (ls' := [.ref 119, .int (-4), .int 0]) hP c155_8 (Nat.le_of_ble_eq_true rfl) rfl ?_
  exact y_likely_l hP hKb hRb hc (zok_ps S nS hp8 A na) (h _ _ ha hb) 0 (Nat.zero_le _) _ (Or.inl ⟨rfl, rfl⟩)
