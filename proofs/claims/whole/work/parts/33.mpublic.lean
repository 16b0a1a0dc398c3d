/-! ===== the model's public questions ===== -/
theorem zak_0 (nS nP : Nat) : zak 0 nS nP = 1 := rfl
theorem zak_3 (nS nP : Nat) : zak 3 nS nP = nP := rfl
theorem zak_o {k : Int32} (h0 : ¬ k = 0) (h3 : ¬ k = 3) (nS nP : Nat) : zak k nS nP = nS := by rw [zak, if_neg h0, if_neg h3]
theorem zr_1 {y : Int32} : zr y 1 ↔ y = 0 := by
  constructor
  · intro h
    obtain ⟨j, hj, rfl⟩ := (zr_iff (by decide)).mp h
    have : j = 0 := by omega
    subst this
    rfl
  · rintro rfl
    decide
set_option maxRecDepth 4000 in
theorem x_isAsk {K : ZKh} {P : Nat → Nat → List Value → List Value → ZMi → ZMl → ZMr → ZRt → Prop} {I : ZMi} {L : ZMl} {R : ZMr} {Q : ZRt} (hP : ZCl K P) {nS nP nW : Nat} {S : ZS} (hKb : zKb K) (hRb : zRb R) (hD : zD I 0 S nS nP nW) (hs1 : 1 ≤ nS) (hp1 : 1 ≤ nP) (hp8 : nP ≤ 8) (hs6 : nS ≤ 6) (hw6 : nW ≤ 6) {k y : Int32} (h : Q (some (.int (if (0 ≤ k ∧ k ≤ 4) ∧ zr y (zak k nS nP) then 1 else 0))) I L R) : P 137 0 [.ref 119, .int k, .int y] [] I L R Q := by
  refine r_il hP c137_0 rfl ?_
  refine r_ifne hP c137_1 (fun h1 => ?_) (fun h1 => ?_)
  · refine r_il hP c137_8 rfl ?_
    refine r_ic hP c137_9 ?_
    refine r_ine hP c137_10 (fun h10 => ?_) (fun h10 => ?_)
    · refine r_il hP c137_21 rfl ?_
      refine r_i2l hP c137_22 ?_
      refine r_lc hP c137_23 ?_
      refine r_lc hP c137_24 ?_
      refine r_cSi (as := [.long k.toInt64, .long 1, .long 4]) (r := []) (I' := I) (L' := L) (R' := R) (x := if 1 ≤ k.toInt64 ∧ k.toInt64 ≤ 4 then 1 else 0) hP c137_27 rfl rfl (fun _ h2 => x_isIn hP h2) ?_
      refine r_ti (y := if 1 ≤ k ∧ k ≤ 4 then 1 else 0) (zisC rfl rfl) ?_
      refine r_ifeqB hP c137_30 (fun h30 => ?_) (fun h30 => ?_)
      · refine r_ic hP c137_50 ?_
        exact r_zr0 hP c137_51 (by
          intro q
          obtain ⟨⟨q1, q2⟩, q3⟩ := q
          by_cases hk0 : k = 0
          · subst hk0
            rw [zak_0] at q3
            first | exact h5 (zr_1.mp q3) | exact h1 rfl
          · by_cases hk3 : k = 3
            · subst hk3
              rw [zak_3] at q3
              first | exact h18 q3 | exact h10 rfl
            · rw [zak_o hk0 hk3] at q3
              have hk1 : (1 : Int32) ≤ k := by
                rw [z_le] at *
                have e0 : (0 : Int32).toInt = 0 := rfl
                have e1 : (1 : Int32).toInt = 1 := rfl
                have hne : ¬ k.toInt = 0 := fun z => hk0 (Int32.toInt_inj.mp z)
                omega
              first | exact h30 ⟨hk1, q2⟩ | exact hk3 h35 | exact h43 q3) h
      · refine r_il hP c137_33 rfl ?_
        refine r_ic hP c137_34 ?_
        refine r_ieq hP c137_35 (fun h35 => ?_) (fun h35 => ?_)
        · refine r_ic hP c137_50 ?_
          exact r_zr0 hP c137_51 (by
            intro q
            obtain ⟨⟨q1, q2⟩, q3⟩ := q
            by_cases hk0 : k = 0
            · subst hk0
              rw [zak_0] at q3
              first | exact h5 (zr_1.mp q3) | exact h1 rfl
            · by_cases hk3 : k = 3
              · subst hk3
                rw [zak_3] at q3
                first | exact h18 q3 | exact h10 rfl
              · rw [zak_o hk0 hk3] at q3
                have hk1 : (1 : Int32) ≤ k := by
                  rw [z_le] at *
                  have e0 : (0 : Int32).toInt = 0 := rfl
                  have e1 : (1 : Int32).toInt = 1 := rfl
                  have hne : ¬ k.toInt = 0 := fun z => hk0 (Int32.toInt_inj.mp z)
                  omega
                first | exact h30 ⟨hk1, q2⟩ | exact hk3 h35 | exact h43 q3) h
        · refine r_al hP c137_38 rfl ?_
          refine r_il hP c137_39 rfl ?_
          refine r_cVi (as := [.int y]) (r := []) (I' := I) (L' := L) (R' := R) (x := if zr y nS then 1 else 0) (a := 119) hP c137_40 rfl (zj119 hKb) rfl (fun _ hq => x_isStage hP hKb hRb hD hs1 hp1 hp8 hs6 hw6 hq) ?_
          refine r_ifeqB hP c137_43 (fun h43 => ?_) (fun h43 => ?_)
          · refine r_ic hP c137_50 ?_
            exact r_zr0 hP c137_51 (by
              intro q
              obtain ⟨⟨q1, q2⟩, q3⟩ := q
              by_cases hk0 : k = 0
              · subst hk0
                rw [zak_0] at q3
                first | exact h5 (zr_1.mp q3) | exact h1 rfl
              · by_cases hk3 : k = 3
                · subst hk3
                  rw [zak_3] at q3
                  first | exact h18 q3 | exact h10 rfl
                · rw [zak_o hk0 hk3] at q3
                  have hk1 : (1 : Int32) ≤ k := by
                    rw [z_le] at *
                    have e0 : (0 : Int32).toInt = 0 := rfl
                    have e1 : (1 : Int32).toInt = 1 := rfl
                    have hne : ¬ k.toInt = 0 := fun z => hk0 (Int32.toInt_inj.mp z)
                    omega
                  first | exact h30 ⟨hk1, q2⟩ | exact hk3 h35 | exact h43 q3) h
          · refine r_ic hP c137_46 ?_
            refine r_goto hP c137_47 ?_
            exact r_zr1 hP c137_51 (by
              first
                | (have hk0 : k = 0 := h1; subst hk0; exact ⟨by decide, by rw [zak_0]; exact zr_1.mpr h5⟩)
                | (have hk3 : k = 3 := h10; subst hk3; exact ⟨by decide, by rw [zak_3]; exact h18⟩)
                | (have hk0 : ¬ k = 0 := fun q => by subst q; exact absurd h30.1 (by decide)
                   exact ⟨⟨Int32.le_trans (by decide : (0 : Int32) ≤ 1) h30.1, h30.2⟩, by rw [zak_o hk0 h35]; exact h43⟩)) h
    · refine r_al hP c137_13 rfl ?_
      refine r_il hP c137_14 rfl ?_
      refine r_cVi (as := [.int y]) (r := []) (I' := I) (L' := L) (R' := R) (x := if zr y nP then 1 else 0) (a := 119) hP c137_15 rfl (zj119 hKb) rfl (fun _ hq => x_isPart hP hKb hRb hD hs1 hp1 hp8 hs6 hw6 hq) ?_
      refine r_ifneB hP c137_18 (fun h18 => ?_) (fun h18 => ?_)
      · refine r_ic hP c137_46 ?_
        refine r_goto hP c137_47 ?_
        exact r_zr1 hP c137_51 (by
          first
            | (have hk0 : k = 0 := h1; subst hk0; exact ⟨by decide, by rw [zak_0]; exact zr_1.mpr h5⟩)
            | (have hk3 : k = 3 := h10; subst hk3; exact ⟨by decide, by rw [zak_3]; exact h18⟩)
            | (have hk0 : ¬ k = 0 := fun q => by subst q; exact absurd h30.1 (by decide)
               exact ⟨⟨Int32.le_trans (by decide : (0 : Int32) ≤ 1) h30.1, h30.2⟩, by rw [zak_o hk0 h35]; exact h43⟩)) h
      · refine r_il hP c137_21 rfl ?_
        refine r_i2l hP c137_22 ?_
        refine r_lc hP c137_23 ?_
        refine r_lc hP c137_24 ?_
        refine r_cSi (as := [.long k.toInt64, .long 1, .long 4]) (r := []) (I' := I) (L' := L) (R' := R) (x := if 1 ≤ k.toInt64 ∧ k.toInt64 ≤ 4 then 1 else 0) hP c137_27 rfl rfl (fun _ h2 => x_isIn hP h2) ?_
        refine r_ti (y := if 1 ≤ k ∧ k ≤ 4 then 1 else 0) (zisC rfl rfl) ?_
        refine r_ifeqB hP c137_30 (fun h30 => ?_) (fun h30 => ?_)
        · refine r_ic hP c137_50 ?_
          exact r_zr0 hP c137_51 (by
            intro q
            obtain ⟨⟨q1, q2⟩, q3⟩ := q
            by_cases hk0 : k = 0
            · subst hk0
              rw [zak_0] at q3
              first | exact h5 (zr_1.mp q3) | exact h1 rfl
            · by_cases hk3 : k = 3
              · subst hk3
                rw [zak_3] at q3
                first | exact h18 q3 | exact h10 rfl
              · rw [zak_o hk0 hk3] at q3
                have hk1 : (1 : Int32) ≤ k := by
                  rw [z_le] at *
                  have e0 : (0 : Int32).toInt = 0 := rfl
                  have e1 : (1 : Int32).toInt = 1 := rfl
                  have hne : ¬ k.toInt = 0 := fun z => hk0 (Int32.toInt_inj.mp z)
                  omega
                first | exact h30 ⟨hk1, q2⟩ | exact hk3 h35 | exact h43 q3) h
        · refine r_il hP c137_33 rfl ?_
          refine r_ic hP c137_34 ?_
          refine r_ieq hP c137_35 (fun h35 => ?_) (fun h35 => ?_)
          · refine r_ic hP c137_50 ?_
            exact r_zr0 hP c137_51 (by
              intro q
              obtain ⟨⟨q1, q2⟩, q3⟩ := q
              by_cases hk0 : k = 0
              · subst hk0
                rw [zak_0] at q3
                first | exact h5 (zr_1.mp q3) | exact h1 rfl
              · by_cases hk3 : k = 3
                · subst hk3
                  rw [zak_3] at q3
                  first | exact h18 q3 | exact h10 rfl
                · rw [zak_o hk0 hk3] at q3
                  have hk1 : (1 : Int32) ≤ k := by
                    rw [z_le] at *
                    have e0 : (0 : Int32).toInt = 0 := rfl
                    have e1 : (1 : Int32).toInt = 1 := rfl
                    have hne : ¬ k.toInt = 0 := fun z => hk0 (Int32.toInt_inj.mp z)
                    omega
                  first | exact h30 ⟨hk1, q2⟩ | exact hk3 h35 | exact h43 q3) h
          · refine r_al hP c137_38 rfl ?_
            refine r_il hP c137_39 rfl ?_
            refine r_cVi (as := [.int y]) (r := []) (I' := I) (L' := L) (R' := R) (x := if zr y nS then 1 else 0) (a := 119) hP c137_40 rfl (zj119 hKb) rfl (fun _ hq => x_isStage hP hKb hRb hD hs1 hp1 hp8 hs6 hw6 hq) ?_
            refine r_ifeqB hP c137_43 (fun h43 => ?_) (fun h43 => ?_)
            · refine r_ic hP c137_50 ?_
              exact r_zr0 hP c137_51 (by
                intro q
                obtain ⟨⟨q1, q2⟩, q3⟩ := q
                by_cases hk0 : k = 0
                · subst hk0
                  rw [zak_0] at q3
                  first | exact h5 (zr_1.mp q3) | exact h1 rfl
                · by_cases hk3 : k = 3
                  · subst hk3
                    rw [zak_3] at q3
                    first | exact h18 q3 | exact h10 rfl
                  · rw [zak_o hk0 hk3] at q3
                    have hk1 : (1 : Int32) ≤ k := by
                      rw [z_le] at *
                      have e0 : (0 : Int32).toInt = 0 := rfl
                      have e1 : (1 : Int32).toInt = 1 := rfl
                      have hne : ¬ k.toInt = 0 := fun z => hk0 (Int32.toInt_inj.mp z)
                      omega
                    first | exact h30 ⟨hk1, q2⟩ | exact hk3 h35 | exact h43 q3) h
            · refine r_ic hP c137_46 ?_
              refine r_goto hP c137_47 ?_
              exact r_zr1 hP c137_51 (by
                first
                  | (have hk0 : k = 0 := h1; subst hk0; exact ⟨by decide, by rw [zak_0]; exact zr_1.mpr h5⟩)
                  | (have hk3 : k = 3 := h10; subst hk3; exact ⟨by decide, by rw [zak_3]; exact h18⟩)
                  | (have hk0 : ¬ k = 0 := fun q => by subst q; exact absurd h30.1 (by decide)
                     exact ⟨⟨Int32.le_trans (by decide : (0 : Int32) ≤ 1) h30.1, h30.2⟩, by rw [zak_o hk0 h35]; exact h43⟩)) h
  · refine r_il hP c137_4 rfl ?_
    refine r_ifeq hP c137_5 (fun h5 => ?_) (fun h5 => ?_)
    · refine r_ic hP c137_46 ?_
      refine r_goto hP c137_47 ?_
      exact r_zr1 hP c137_51 (by
        first
          | (have hk0 : k = 0 := h1; subst hk0; exact ⟨by decide, by rw [zak_0]; exact zr_1.mpr h5⟩)
          | (have hk3 : k = 3 := h10; subst hk3; exact ⟨by decide, by rw [zak_3]; exact h18⟩)
          | (have hk0 : ¬ k = 0 := fun q => by subst q; exact absurd h30.1 (by decide)
             exact ⟨⟨Int32.le_trans (by decide : (0 : Int32) ≤ 1) h30.1, h30.2⟩, by rw [zak_o hk0 h35]; exact h43⟩)) h
    · refine r_il hP c137_8 rfl ?_
      refine r_ic hP c137_9 ?_
      refine r_ine hP c137_10 (fun h10 => ?_) (fun h10 => ?_)
      · refine r_il hP c137_21 rfl ?_
        refine r_i2l hP c137_22 ?_
        refine r_lc hP c137_23 ?_
        refine r_lc hP c137_24 ?_
        refine r_cSi (as := [.long k.toInt64, .long 1, .long 4]) (r := []) (I' := I) (L' := L) (R' := R) (x := if 1 ≤ k.toInt64 ∧ k.toInt64 ≤ 4 then 1 else 0) hP c137_27 rfl rfl (fun _ h2 => x_isIn hP h2) ?_
        refine r_ti (y := if 1 ≤ k ∧ k ≤ 4 then 1 else 0) (zisC rfl rfl) ?_
        refine r_ifeqB hP c137_30 (fun h30 => ?_) (fun h30 => ?_)
        · refine r_ic hP c137_50 ?_
          exact r_zr0 hP c137_51 (by
            intro q
            obtain ⟨⟨q1, q2⟩, q3⟩ := q
            by_cases hk0 : k = 0
            · subst hk0
              rw [zak_0] at q3
              first | exact h5 (zr_1.mp q3) | exact h1 rfl
            · by_cases hk3 : k = 3
              · subst hk3
                rw [zak_3] at q3
                first | exact h18 q3 | exact h10 rfl
              · rw [zak_o hk0 hk3] at q3
                have hk1 : (1 : Int32) ≤ k := by
                  rw [z_le] at *
                  have e0 : (0 : Int32).toInt = 0 := rfl
                  have e1 : (1 : Int32).toInt = 1 := rfl
                  have hne : ¬ k.toInt = 0 := fun z => hk0 (Int32.toInt_inj.mp z)
                  omega
                first | exact h30 ⟨hk1, q2⟩ | exact hk3 h35 | exact h43 q3) h
        · refine r_il hP c137_33 rfl ?_
          refine r_ic hP c137_34 ?_
          refine r_ieq hP c137_35 (fun h35 => ?_) (fun h35 => ?_)
          · refine r_ic hP c137_50 ?_
            exact r_zr0 hP c137_51 (by
              intro q
              obtain ⟨⟨q1, q2⟩, q3⟩ := q
              by_cases hk0 : k = 0
              · subst hk0
                rw [zak_0] at q3
                first | exact h5 (zr_1.mp q3) | exact h1 rfl
              · by_cases hk3 : k = 3
                · subst hk3
                  rw [zak_3] at q3
                  first | exact h18 q3 | exact h10 rfl
                · rw [zak_o hk0 hk3] at q3
                  have hk1 : (1 : Int32) ≤ k := by
                    rw [z_le] at *
                    have e0 : (0 : Int32).toInt = 0 := rfl
                    have e1 : (1 : Int32).toInt = 1 := rfl
                    have hne : ¬ k.toInt = 0 := fun z => hk0 (Int32.toInt_inj.mp z)
                    omega
                  first | exact h30 ⟨hk1, q2⟩ | exact hk3 h35 | exact h43 q3) h
          · refine r_al hP c137_38 rfl ?_
            refine r_il hP c137_39 rfl ?_
            refine r_cVi (as := [.int y]) (r := []) (I' := I) (L' := L) (R' := R) (x := if zr y nS then 1 else 0) (a := 119) hP c137_40 rfl (zj119 hKb) rfl (fun _ hq => x_isStage hP hKb hRb hD hs1 hp1 hp8 hs6 hw6 hq) ?_
            refine r_ifeqB hP c137_43 (fun h43 => ?_) (fun h43 => ?_)
            · refine r_ic hP c137_50 ?_
              exact r_zr0 hP c137_51 (by
                intro q
                obtain ⟨⟨q1, q2⟩, q3⟩ := q
                by_cases hk0 : k = 0
                · subst hk0
                  rw [zak_0] at q3
                  first | exact h5 (zr_1.mp q3) | exact h1 rfl
                · by_cases hk3 : k = 3
                  · subst hk3
                    rw [zak_3] at q3
                    first | exact h18 q3 | exact h10 rfl
                  · rw [zak_o hk0 hk3] at q3
                    have hk1 : (1 : Int32) ≤ k := by
                      rw [z_le] at *
                      have e0 : (0 : Int32).toInt = 0 := rfl
                      have e1 : (1 : Int32).toInt = 1 := rfl
                      have hne : ¬ k.toInt = 0 := fun z => hk0 (Int32.toInt_inj.mp z)
                      omega
                    first | exact h30 ⟨hk1, q2⟩ | exact hk3 h35 | exact h43 q3) h
            · refine r_ic hP c137_46 ?_
              refine r_goto hP c137_47 ?_
              exact r_zr1 hP c137_51 (by
                first
                  | (have hk0 : k = 0 := h1; subst hk0; exact ⟨by decide, by rw [zak_0]; exact zr_1.mpr h5⟩)
                  | (have hk3 : k = 3 := h10; subst hk3; exact ⟨by decide, by rw [zak_3]; exact h18⟩)
                  | (have hk0 : ¬ k = 0 := fun q => by subst q; exact absurd h30.1 (by decide)
                     exact ⟨⟨Int32.le_trans (by decide : (0 : Int32) ≤ 1) h30.1, h30.2⟩, by rw [zak_o hk0 h35]; exact h43⟩)) h
      · refine r_al hP c137_13 rfl ?_
        refine r_il hP c137_14 rfl ?_
        refine r_cVi (as := [.int y]) (r := []) (I' := I) (L' := L) (R' := R) (x := if zr y nP then 1 else 0) (a := 119) hP c137_15 rfl (zj119 hKb) rfl (fun _ hq => x_isPart hP hKb hRb hD hs1 hp1 hp8 hs6 hw6 hq) ?_
        refine r_ifneB hP c137_18 (fun h18 => ?_) (fun h18 => ?_)
        · refine r_ic hP c137_46 ?_
          refine r_goto hP c137_47 ?_
          exact r_zr1 hP c137_51 (by
            first
              | (have hk0 : k = 0 := h1; subst hk0; exact ⟨by decide, by rw [zak_0]; exact zr_1.mpr h5⟩)
              | (have hk3 : k = 3 := h10; subst hk3; exact ⟨by decide, by rw [zak_3]; exact h18⟩)
              | (have hk0 : ¬ k = 0 := fun q => by subst q; exact absurd h30.1 (by decide)
                 exact ⟨⟨Int32.le_trans (by decide : (0 : Int32) ≤ 1) h30.1, h30.2⟩, by rw [zak_o hk0 h35]; exact h43⟩)) h
        · refine r_il hP c137_21 rfl ?_
          refine r_i2l hP c137_22 ?_
          refine r_lc hP c137_23 ?_
          refine r_lc hP c137_24 ?_
          refine r_cSi (as := [.long k.toInt64, .long 1, .long 4]) (r := []) (I' := I) (L' := L) (R' := R) (x := if 1 ≤ k.toInt64 ∧ k.toInt64 ≤ 4 then 1 else 0) hP c137_27 rfl rfl (fun _ h2 => x_isIn hP h2) ?_
          refine r_ti (y := if 1 ≤ k ∧ k ≤ 4 then 1 else 0) (zisC rfl rfl) ?_
          refine r_ifeqB hP c137_30 (fun h30 => ?_) (fun h30 => ?_)
          · refine r_ic hP c137_50 ?_
            exact r_zr0 hP c137_51 (by
              intro q
              obtain ⟨⟨q1, q2⟩, q3⟩ := q
              by_cases hk0 : k = 0
              · subst hk0
                rw [zak_0] at q3
                first | exact h5 (zr_1.mp q3) | exact h1 rfl
              · by_cases hk3 : k = 3
                · subst hk3
                  rw [zak_3] at q3
                  first | exact h18 q3 | exact h10 rfl
                · rw [zak_o hk0 hk3] at q3
                  have hk1 : (1 : Int32) ≤ k := by
                    rw [z_le] at *
                    have e0 : (0 : Int32).toInt = 0 := rfl
                    have e1 : (1 : Int32).toInt = 1 := rfl
                    have hne : ¬ k.toInt = 0 := fun z => hk0 (Int32.toInt_inj.mp z)
                    omega
                  first | exact h30 ⟨hk1, q2⟩ | exact hk3 h35 | exact h43 q3) h
          · refine r_il hP c137_33 rfl ?_
            refine r_ic hP c137_34 ?_
            refine r_ieq hP c137_35 (fun h35 => ?_) (fun h35 => ?_)
            · refine r_ic hP c137_50 ?_
              exact r_zr0 hP c137_51 (by
                intro q
                obtain ⟨⟨q1, q2⟩, q3⟩ := q
                by_cases hk0 : k = 0
                · subst hk0
                  rw [zak_0] at q3
                  first | exact h5 (zr_1.mp q3) | exact h1 rfl
                · by_cases hk3 : k = 3
                  · subst hk3
                    rw [zak_3] at q3
                    first | exact h18 q3 | exact h10 rfl
                  · rw [zak_o hk0 hk3] at q3
                    have hk1 : (1 : Int32) ≤ k := by
                      rw [z_le] at *
                      have e0 : (0 : Int32).toInt = 0 := rfl
                      have e1 : (1 : Int32).toInt = 1 := rfl
                      have hne : ¬ k.toInt = 0 := fun z => hk0 (Int32.toInt_inj.mp z)
                      omega
                    first | exact h30 ⟨hk1, q2⟩ | exact hk3 h35 | exact h43 q3) h
            · refine r_al hP c137_38 rfl ?_
              refine r_il hP c137_39 rfl ?_
              refine r_cVi (as := [.int y]) (r := []) (I' := I) (L' := L) (R' := R) (x := if zr y nS then 1 else 0) (a := 119) hP c137_40 rfl (zj119 hKb) rfl (fun _ hq => x_isStage hP hKb hRb hD hs1 hp1 hp8 hs6 hw6 hq) ?_
              refine r_ifeqB hP c137_43 (fun h43 => ?_) (fun h43 => ?_)
              · refine r_ic hP c137_50 ?_
                exact r_zr0 hP c137_51 (by
                  intro q
                  obtain ⟨⟨q1, q2⟩, q3⟩ := q
                  by_cases hk0 : k = 0
                  · subst hk0
                    rw [zak_0] at q3
                    first | exact h5 (zr_1.mp q3) | exact h1 rfl
                  · by_cases hk3 : k = 3
                    · subst hk3
                      rw [zak_3] at q3
                      first | exact h18 q3 | exact h10 rfl
                    · rw [zak_o hk0 hk3] at q3
                      have hk1 : (1 : Int32) ≤ k := by
                        rw [z_le] at *
                        have e0 : (0 : Int32).toInt = 0 := rfl
                        have e1 : (1 : Int32).toInt = 1 := rfl
                        have hne : ¬ k.toInt = 0 := fun z => hk0 (Int32.toInt_inj.mp z)
                        omega
                      first | exact h30 ⟨hk1, q2⟩ | exact hk3 h35 | exact h43 q3) h
              · refine r_ic hP c137_46 ?_
                refine r_goto hP c137_47 ?_
                exact r_zr1 hP c137_51 (by
                  first
                    | (have hk0 : k = 0 := h1; subst hk0; exact ⟨by decide, by rw [zak_0]; exact zr_1.mpr h5⟩)
                    | (have hk3 : k = 3 := h10; subst hk3; exact ⟨by decide, by rw [zak_3]; exact h18⟩)
                    | (have hk0 : ¬ k = 0 := fun q => by subst q; exact absurd h30.1 (by decide)
                       exact ⟨⟨Int32.le_trans (by decide : (0 : Int32) ≤ 1) h30.1, h30.2⟩, by rw [zak_o hk0 h35]; exact h43⟩)) h
set_option maxRecDepth 4000 in
theorem y_hum {K : ZKh} {P : Nat → Nat → List Value → List Value → ZMi → ZMl → ZMr → ZRt → Prop} {I : ZMi} {L : ZMl} {R : ZMr} {Q : ZRt} (hP : ZCl K P) {nS nP nW : Nat} {S : ZS} (hKb : zKb K) (hRb : zRb R) (hD : zD I 0 S nS nP nW) (hs1 : 1 ≤ nS) (hp1 : 1 ≤ nP) (hp8 : nP ≤ 8) (hs6 : nS ≤ 6) (hw6 : nW ≤ 6) {x t0 m : Int32} (h : Q (some (.int (f_hum S nS nP x t0 m))) I L R) : P 134 0 [.ref 119, .int x, .int t0, .int m] [] I L R Q := by
  have hp256 := zp256 hp8
  have hq2 := Nat.two_pow_pos nP
  refine r_al hP c134_0 rfl ?_
  refine r_il hP c134_1 rfl ?_
  refine r_cVi (as := [.int x]) (r := []) (I' := I) (L' := L) (R' := R) (x := if zr x (2 ^ nP) then 1 else 0) (a := 119) hP c134_2 rfl (zj119 hKb) rfl (fun _ hq => x_isState hP hKb hRb hD hs1 hp1 hp8 hs6 hw6 hq) ?_
  refine r_ifeqB hP c134_5 (fun h5 => ?_) (fun h5 => ?_)
  · refine r_ic hP c134_41 ?_
    first
      | exact r_irE hP c134_43 h (by rw [f_hum, if_neg (fun q => h5 q.1)])
      | exact r_irE hP c134_43 h (by rw [f_hum, if_neg (fun q => h17 q.2.1)])
      | exact r_irE hP c134_43 h (by rw [f_hum, if_neg (fun q => h24 q.2.2)])
  · refine r_il hP c134_8 rfl ?_
    refine r_i2l hP c134_9 ?_
    refine r_lc hP c134_10 ?_
    refine r_lc hP c134_11 ?_
    refine r_cSi (as := [.long t0.toInt64, .long 0, .long 2]) (r := []) (I' := I) (L' := L) (R' := R) (x := if 0 ≤ t0.toInt64 ∧ t0.toInt64 ≤ 2 then 1 else 0) hP c134_14 rfl rfl (fun _ h2 => x_isIn hP h2) ?_
    refine r_ti (y := if 0 ≤ t0 ∧ t0 ≤ 2 then 1 else 0) (zisC rfl rfl) ?_
    refine r_ifeqB hP c134_17 (fun h17 => ?_) (fun h17 => ?_)
    · refine r_ic hP c134_41 ?_
      first
        | exact r_irE hP c134_43 h (by rw [f_hum, if_neg (fun q => h5 q.1)])
        | exact r_irE hP c134_43 h (by rw [f_hum, if_neg (fun q => h17 q.2.1)])
        | exact r_irE hP c134_43 h (by rw [f_hum, if_neg (fun q => h24 q.2.2)])
    · refine r_il hP c134_20 rfl ?_
      refine r_cSi (as := [.int m]) (r := []) (I' := I) (L' := L) (R' := R) (x := if 0 ≤ m ∧ m ≤ 30 then 1 else 0) hP c134_21 rfl rfl (fun _ hq => x_isTime hP hq) ?_
      refine r_ifeqB hP c134_24 (fun h24 => ?_) (fun h24 => ?_)
      · refine r_ic hP c134_41 ?_
        first
          | exact r_irE hP c134_43 h (by rw [f_hum, if_neg (fun q => h5 q.1)])
          | exact r_irE hP c134_43 h (by rw [f_hum, if_neg (fun q => h17 q.2.1)])
          | exact r_irE hP c134_43 h (by rw [f_hum, if_neg (fun q => h24 q.2.2)])
      · obtain ⟨st, hst, rfl⟩ := (zr_iff (Nat.lt_of_le_of_lt (zp256 hp8) (by decide))).mp h5
        obtain ⟨t, ht, rfl⟩ := zb_nI (n := 2) rfl (by decide) h17
        refine r_al hP c134_27 rfl ?_
        refine r_il hP c134_28 rfl ?_
        refine r_il hP c134_29 rfl ?_
        refine r_il hP c134_30 rfl ?_
        refine r_ic hP c134_31 ?_
        refine r_ic hP c134_33 ?_
        refine r_cVi (as := [.int (nI st), .int (nI t), .int m, .int (-4), .int (-4)]) (r := []) (I' := I) (L' := L) (R' := R) (x := zhd S nP st m 100 100 t nS) (a := 119) hP c134_35 rfl (zj119 hKb) rfl (fun _ hq => x_endOf hP hKb hRb hD hs1 hp1 hp8 hs6 hw6 (by omega) (by omega) zno4 zno4 hq) ?_
        refine r_goto hP c134_38 ?_
        exact r_irE hP c134_43 h (by rw [f_hum, if_pos ⟨h5, h17, h24⟩, nI_clamp (by omega), nI_clamp (by omega)])
set_option maxRecDepth 4000 in
theorem y_in {K : ZKh} {P : Nat → Nat → List Value → List Value → ZMi → ZMl → ZMr → ZRt → Prop} {I : ZMi} {L : ZMl} {R : ZMr} {Q : ZRt} (hP : ZCl K P) {nS nP nW : Nat} {S : ZS} (hKb : zKb K) (hRb : zRb R) (hD : zD I 0 S nS nP nW) (hs1 : 1 ≤ nS) (hp1 : 1 ≤ nP) (hp8 : nP ≤ 8) (hs6 : nS ≤ 6) (hw6 : nW ≤ 6) {x s0 t0 m : Int32} (h : Q (some (.int (f_in S nS nP x s0 t0 m))) I L R) : P 135 0 [.ref 119, .int x, .int s0, .int t0, .int m] [] I L R Q := by
  have hp256 := zp256 hp8
  have hq2 := Nat.two_pow_pos nP
  refine r_al hP c135_0 rfl ?_
  refine r_il hP c135_1 rfl ?_
  refine r_cVi (as := [.int x]) (r := []) (I' := I) (L' := L) (R' := R) (x := if zr x (2 ^ nP) then 1 else 0) (a := 119) hP c135_2 rfl (zj119 hKb) rfl (fun _ hq => x_isState hP hKb hRb hD hs1 hp1 hp8 hs6 hw6 hq) ?_
  refine r_ifeqB hP c135_5 (fun h5 => ?_) (fun h5 => ?_)
  · refine r_ic hP c135_52 ?_
    first
      | exact r_irE hP c135_54 h (by rw [f_in, if_neg (fun q => h5 q.1)])
      | exact r_irE hP c135_54 h (by rw [f_in, if_neg (fun q => h13 q.2.1)])
      | exact r_irE hP c135_54 h (by rw [f_in, if_neg (fun q => h25 q.2.2.1)])
      | exact r_irE hP c135_54 h (by rw [f_in, if_neg (fun q => h33 q.2.2.2)])
  · refine r_al hP c135_8 rfl ?_
    refine r_il hP c135_9 rfl ?_
    refine r_cVi (as := [.int s0]) (r := []) (I' := I) (L' := L) (R' := R) (x := if zr s0 nS then 1 else 0) (a := 119) hP c135_10 rfl (zj119 hKb) rfl (fun _ hq => x_isStage hP hKb hRb hD hs1 hp1 hp8 hs6 hw6 hq) ?_
    refine r_ifeqB hP c135_13 (fun h13 => ?_) (fun h13 => ?_)
    · refine r_ic hP c135_52 ?_
      first
        | exact r_irE hP c135_54 h (by rw [f_in, if_neg (fun q => h5 q.1)])
        | exact r_irE hP c135_54 h (by rw [f_in, if_neg (fun q => h13 q.2.1)])
        | exact r_irE hP c135_54 h (by rw [f_in, if_neg (fun q => h25 q.2.2.1)])
        | exact r_irE hP c135_54 h (by rw [f_in, if_neg (fun q => h33 q.2.2.2)])
    · refine r_il hP c135_16 rfl ?_
      refine r_i2l hP c135_17 ?_
      refine r_lc hP c135_18 ?_
      refine r_lc hP c135_19 ?_
      refine r_cSi (as := [.long t0.toInt64, .long 0, .long 2]) (r := []) (I' := I) (L' := L) (R' := R) (x := if 0 ≤ t0.toInt64 ∧ t0.toInt64 ≤ 2 then 1 else 0) hP c135_22 rfl rfl (fun _ h2 => x_isIn hP h2) ?_
      refine r_ti (y := if 0 ≤ t0 ∧ t0 ≤ 2 then 1 else 0) (zisC rfl rfl) ?_
      refine r_ifeqB hP c135_25 (fun h25 => ?_) (fun h25 => ?_)
      · refine r_ic hP c135_52 ?_
        first
          | exact r_irE hP c135_54 h (by rw [f_in, if_neg (fun q => h5 q.1)])
          | exact r_irE hP c135_54 h (by rw [f_in, if_neg (fun q => h13 q.2.1)])
          | exact r_irE hP c135_54 h (by rw [f_in, if_neg (fun q => h25 q.2.2.1)])
          | exact r_irE hP c135_54 h (by rw [f_in, if_neg (fun q => h33 q.2.2.2)])
      · refine r_il hP c135_28 rfl ?_
        refine r_cSi (as := [.int m]) (r := []) (I' := I) (L' := L) (R' := R) (x := if 0 ≤ m ∧ m ≤ 30 then 1 else 0) hP c135_30 rfl rfl (fun _ hq => x_isTime hP hq) ?_
        refine r_ifeqB hP c135_33 (fun h33 => ?_) (fun h33 => ?_)
        · refine r_ic hP c135_52 ?_
          first
            | exact r_irE hP c135_54 h (by rw [f_in, if_neg (fun q => h5 q.1)])
            | exact r_irE hP c135_54 h (by rw [f_in, if_neg (fun q => h13 q.2.1)])
            | exact r_irE hP c135_54 h (by rw [f_in, if_neg (fun q => h25 q.2.2.1)])
            | exact r_irE hP c135_54 h (by rw [f_in, if_neg (fun q => h33 q.2.2.2)])
        · obtain ⟨st, hst, rfl⟩ := (zr_iff (Nat.lt_of_le_of_lt (zp256 hp8) (by decide))).mp h5
          obtain ⟨s, hs, rfl⟩ := (zr_iff (by omega)).mp h13
          obtain ⟨t, ht, rfl⟩ := zb_nI (n := 2) rfl (by decide) h25
          refine r_al hP c135_36 rfl ?_
          refine r_il hP c135_37 rfl ?_
          refine r_il hP c135_38 rfl ?_
          refine r_il hP c135_39 rfl ?_
          refine r_il hP c135_40 rfl ?_
          refine r_ic hP c135_42 ?_
          refine r_ic hP c135_44 ?_
          refine r_cVi (as := [.int (nI st), .int (nI s), .int (nI t), .int m, .int (-4), .int (-4)]) (r := []) (I' := I) (L' := L) (R' := R) (x := zin S nP st m 100 100 s t) (a := 119) hP c135_46 rfl (zj119 hKb) rfl (fun _ hq => x_inOf hP hKb hRb hD hs1 hp1 hp8 hs6 hw6 (by omega) hs (by omega) zno4 zno4 hq) ?_
          refine r_goto hP c135_49 ?_
          exact r_irE hP c135_54 h (by rw [f_in, if_pos ⟨h5, h13, h25, h33⟩, nI_clamp (by omega), nI_clamp (by omega), nI_clamp (by omega)])
set_option maxRecDepth 4000 in
theorem y_heard_l {K : ZKh} {P : Nat → Nat → List Value → List Value → ZMi → ZMl → ZMr → ZRt → Prop} {I : ZMi} {L : ZMl} {R : ZMr} {Q : ZRt} (hP : ZCl K P) {nS nP nW : Nat} {S : ZS} (hKb : zKb K) (hRb : zRb R) (hD : zD I 0 S nS nP nW) (hs1 : 1 ≤ nS) (hp1 : 1 ≤ nP) (hp8 : nP ≤ 8) (hs6 : nS ≤ 6) (hw6 : nW ≤ 6) {st : Nat} {m y : Int32} (hst : st < 256) (h : Q (some (.int (zsum (fun t => zhd S nP st m 100 100 t nS) 3))) I L R) : ∀ t, t ≤ 3 → ∀ (acc : Int32), acc = zsum (fun t => zhd S nP st m 100 100 t nS) t → P 136 48 [.ref 119, .int (nI st), .int m, .int y, .int acc, .int (nI t)] [] I L R Q := by
  refine zloop 3 (fun t => ∀ (acc : Int32), acc = zsum (fun t => zhd S nP st m 100 100 t nS) t → P 136 48 [.ref 119, .int (nI st), .int m, .int y, .int acc, .int (nI t)] [] I L R Q) ?_
  intro t hle ih acc hacc
  refine r_il hP c136_48 rfl ?_
  refine r_ic hP c136_50 ?_
  refine r_ige hP c136_51 (fun h51 => ?_) (fun h51 => ?_)
  · have he : t = 3 := Nat.le_antisymm hle ((nI_leI (by omega) (by omega)).mp h51)
    refine r_il hP c136_80 rfl ?_
    exact r_irE hP c136_82 h (by rw [hacc, he])
  · have hlt : t < 3 := by
      rcases Nat.lt_or_ge t 3 with q | q
      · exact q
      · exact absurd (nI_le q (by omega)) h51
    refine r_il hP c136_54 rfl ?_
    refine r_al hP c136_56 rfl ?_
    refine r_il hP c136_57 rfl ?_
    refine r_il hP c136_58 rfl ?_
    refine r_il hP c136_60 rfl ?_
    refine r_ic hP c136_61 ?_
    refine r_ic hP c136_63 ?_
    refine r_cVi (as := [.int (nI st), .int (nI t), .int m, .int (-4), .int (-4)]) (r := [.int acc]) (I' := I) (L' := L) (R' := R) (x := zhd S nP st m 100 100 t nS) (a := 119) hP c136_65 rfl (zj119 hKb) rfl (fun _ hq => x_endOf hP hKb hRb hD hs1 hp1 hp8 hs6 hw6 hst (by omega) zno4 zno4 hq) ?_
    refine r_cSi (as := [.int (zhd S nP st m 100 100 t nS)]) (r := [.int acc]) (I' := I) (L' := L) (R' := R) (x := zabs (zhd S nP st m 100 100 t nS)) hP c136_68 rfl rfl (fun _ hq => x_up hP hq) ?_
    refine r_iadd hP c136_71 ?_
    refine r_is (ls' := [.ref 119, .int (nI st), .int m, .int y, .int (acc + (zabs (zhd S nP st m 100 100 t nS))), .int (nI t)]) hP c136_72 (Nat.le_of_ble_eq_true rfl) rfl ?_
    refine r_inc (y := nI (t + 1)) (ls' := [.ref 119, .int (nI st), .int m, .int y, .int (acc + (zabs (zhd S nP st m 100 100 t nS))), .int (nI (t + 1))]) hP c136_74 rfl (nI_1 _) rfl ?_
    refine r_goto hP c136_77 ?_
    exact ih hlt _ (by rw [hacc]; rfl)
set_option maxRecDepth 4000 in
theorem y_heard {K : ZKh} {P : Nat → Nat → List Value → List Value → ZMi → ZMl → ZMr → ZRt → Prop} {I : ZMi} {L : ZMl} {R : ZMr} {Q : ZRt} (hP : ZCl K P) {nS nP nW : Nat} {S : ZS} (hKb : zKb K) (hRb : zRb R) (hD : zD I 0 S nS nP nW) (hs1 : 1 ≤ nS) (hp1 : 1 ≤ nP) (hp8 : nP ≤ 8) (hs6 : nS ≤ 6) (hw6 : nW ≤ 6) {x m y : Int32} (h : Q (some (.int (f_heard S nS nP x m y))) I L R) : P 136 0 [.ref 119, .int x, .int m, .int y, .null, .null] [] I L R Q := by
  have hp256 := zp256 hp8
  have hq2 := Nat.two_pow_pos nP
  refine r_al hP c136_0 rfl ?_
  refine r_il hP c136_1 rfl ?_
  refine r_cVi (as := [.int x]) (r := []) (I' := I) (L' := L) (R' := R) (x := if zr x (2 ^ nP) then 1 else 0) (a := 119) hP c136_2 rfl (zj119 hKb) rfl (fun _ hq => x_isState hP hKb hRb hD hs1 hp1 hp8 hs6 hw6 hq) ?_
  refine r_ifeqB hP c136_5 (fun h5 => ?_) (fun h5 => ?_)
  · refine r_ic hP c136_25 ?_
    first
      | exact r_irE hP c136_26 h (by rw [f_heard, if_neg (fun q => h5 q.1)])
      | exact r_irE hP c136_26 h (by rw [f_heard, if_neg (fun q => h12 q.2.1)])
      | exact r_irE hP c136_26 h (by rw [f_heard, if_neg (fun q => h22 q.2.2)])
  · refine r_il hP c136_8 rfl ?_
    refine r_cSi (as := [.int m]) (r := []) (I' := I) (L' := L) (R' := R) (x := if 0 ≤ m ∧ m ≤ 30 then 1 else 0) hP c136_9 rfl rfl (fun _ hq => x_isTime hP hq) ?_
    refine r_ifeqB hP c136_12 (fun h12 => ?_) (fun h12 => ?_)
    · refine r_ic hP c136_25 ?_
      first
        | exact r_irE hP c136_26 h (by rw [f_heard, if_neg (fun q => h5 q.1)])
        | exact r_irE hP c136_26 h (by rw [f_heard, if_neg (fun q => h12 q.2.1)])
        | exact r_irE hP c136_26 h (by rw [f_heard, if_neg (fun q => h22 q.2.2)])
    · refine r_il hP c136_15 rfl ?_
      refine r_i2l hP c136_16 ?_
      refine r_lc hP c136_17 ?_
      refine r_lc hP c136_18 ?_
      refine r_cSi (as := [.long y.toInt64, .long 0, .long 1]) (r := []) (I' := I) (L' := L) (R' := R) (x := if 0 ≤ y.toInt64 ∧ y.toInt64 ≤ 1 then 1 else 0) hP c136_19 rfl rfl (fun _ h2 => x_isIn hP h2) ?_
      refine r_ti (y := if 0 ≤ y ∧ y ≤ 1 then 1 else 0) (zisC rfl rfl) ?_
      refine r_ifneB hP c136_22 (fun h22 => ?_) (fun h22 => ?_)
      · obtain ⟨st, hst, rfl⟩ := (zr_iff (Nat.lt_of_le_of_lt (zp256 hp8) (by decide))).mp h5
        refine r_il hP c136_27 rfl ?_
        refine r_ifne hP c136_28 (fun h28 => ?_) (fun h28 => ?_)
        · refine r_ic hP c136_42 ?_
          refine r_is (ls' := [.ref 119, .int (nI st), .int m, .int y, .int 0, .null]) hP c136_43 (Nat.le_of_ble_eq_true rfl) rfl ?_
          refine r_ic hP c136_45 ?_
          refine r_is (ls' := [.ref 119, .int (nI st), .int m, .int y, .int 0, .int 0]) hP c136_46 (Nat.le_of_ble_eq_true rfl) rfl ?_
          exact y_heard_l hP hKb hRb hD hs1 hp1 hp8 hs6 hw6 (by omega) (by rw [f_heard, if_pos ⟨h5, h12, h22⟩, nI_clamp (by omega), if_neg h28] at h; exact h) 0 (Nat.zero_le _) _ rfl
        · refine r_al hP c136_31 rfl ?_
          refine r_il hP c136_32 rfl ?_
          refine r_il hP c136_33 rfl ?_
          refine r_ic hP c136_34 ?_
          refine r_ic hP c136_36 ?_
          refine r_cVi (as := [.int (nI st), .int m, .int (-4), .int (-4)]) (r := []) (I' := I) (L' := L) (R' := R) (x := zth S (fun t => zhd S nP st m 100 100 t nS) 3) (a := 119) hP c136_38 rfl (zj119 hKb) rfl (fun _ hq => x_heardOf hP hKb hRb hD hs1 hp1 hp8 hs6 hw6 (by omega) zno4 zno4 hq) ?_
          exact r_irE hP c136_41 h (by rw [f_heard, if_pos ⟨h5, h12, h22⟩, nI_clamp (by omega), if_pos h28])
      · refine r_ic hP c136_25 ?_
        first
          | exact r_irE hP c136_26 h (by rw [f_heard, if_neg (fun q => h5 q.1)])
          | exact r_irE hP c136_26 h (by rw [f_heard, if_neg (fun q => h12 q.2.1)])
          | exact r_irE hP c136_26 h (by rw [f_heard, if_neg (fun q => h22 q.2.2)])
set_option maxRecDepth 4000 in
theorem y_ask {K : ZKh} {P : Nat → Nat → List Value → List Value → ZMi → ZMl → ZMr → ZRt → Prop} {I : ZMi} {L : ZMl} {R : ZMr} {Q : ZRt} (hP : ZCl K P) {nS nP nW : Nat} {S : ZS} (hKb : zKb K) (hRb : zRb R) (hD : zD I 0 S nS nP nW) (hs1 : 1 ≤ nS) (hp1 : 1 ≤ nP) (hp8 : nP ≤ 8) (hs6 : nS ≤ 6) (hw6 : nW ≤ 6) {x k0 o0 m : Int32} (h : Q (some (.int (f_ask S nS nP x k0 o0 m))) I L R) : P 139 0 [.ref 119, .int x, .int k0, .int o0, .int m] [] I L R Q := by
  have hp256 := zp256 hp8
  have hq2 := Nat.two_pow_pos nP
  refine r_al hP c139_0 rfl ?_
  refine r_il hP c139_1 rfl ?_
  refine r_cVi (as := [.int x]) (r := []) (I' := I) (L' := L) (R' := R) (x := if zr x (2 ^ nP) then 1 else 0) (a := 119) hP c139_2 rfl (zj119 hKb) rfl (fun _ hq => x_isState hP hKb hRb hD hs1 hp1 hp8 hs6 hw6 hq) ?_
  refine r_ifeqB hP c139_5 (fun h5 => ?_) (fun h5 => ?_)
  · refine r_ic hP c139_37 ?_
    first
      | exact r_irE hP c139_38 h (by rw [f_ask, if_neg (fun q => h5 q.1)])
      | exact r_irE hP c139_38 h (by rw [f_ask, if_neg (fun q => h14 q.2.1)])
      | exact r_irE hP c139_38 h (by rw [f_ask, if_neg (fun q => h22 q.2.2)])
  · refine r_al hP c139_8 rfl ?_
    refine r_il hP c139_9 rfl ?_
    refine r_il hP c139_10 rfl ?_
    refine r_cVi (as := [.int k0, .int o0]) (r := []) (I' := I) (L' := L) (R' := R) (x := if (0 ≤ k0 ∧ k0 ≤ 4) ∧ zr o0 (zak k0 nS nP) then 1 else 0) (a := 119) hP c139_11 rfl (zj119 hKb) rfl (fun _ hq => x_isAsk hP hKb hRb hD hs1 hp1 hp8 hs6 hw6 hq) ?_
    refine r_ifeqB hP c139_14 (fun h14 => ?_) (fun h14 => ?_)
    · refine r_ic hP c139_37 ?_
      first
        | exact r_irE hP c139_38 h (by rw [f_ask, if_neg (fun q => h5 q.1)])
        | exact r_irE hP c139_38 h (by rw [f_ask, if_neg (fun q => h14 q.2.1)])
        | exact r_irE hP c139_38 h (by rw [f_ask, if_neg (fun q => h22 q.2.2)])
    · refine r_il hP c139_17 rfl ?_
      refine r_cSi (as := [.int m]) (r := []) (I' := I) (L' := L) (R' := R) (x := if 0 ≤ m ∧ m ≤ 30 then 1 else 0) hP c139_19 rfl rfl (fun _ hq => x_isTime hP hq) ?_
      refine r_ifeqB hP c139_22 (fun h22 => ?_) (fun h22 => ?_)
      · refine r_ic hP c139_37 ?_
        first
          | exact r_irE hP c139_38 h (by rw [f_ask, if_neg (fun q => h5 q.1)])
          | exact r_irE hP c139_38 h (by rw [f_ask, if_neg (fun q => h14 q.2.1)])
          | exact r_irE hP c139_38 h (by rw [f_ask, if_neg (fun q => h22 q.2.2)])
      · obtain ⟨st, hst, rfl⟩ := (zr_iff (Nat.lt_of_le_of_lt (zp256 hp8) (by decide))).mp h5
        obtain ⟨j, hj, rfl⟩ := (zr_iff (by have := zak_b (x := k0) hs6 hp8; omega)).mp h14.2
        obtain ⟨k, hk4, rfl⟩ := zb_nI (n := 4) rfl (by decide) h14.1
        have hk : k < 5 := by omega
        have hjb := zak_b (x := nI k) hs6 hp8
        refine r_al hP c139_25 rfl ?_
        refine r_il hP c139_26 rfl ?_
        refine r_il hP c139_27 rfl ?_
        refine r_il hP c139_28 rfl ?_
        refine r_il hP c139_29 rfl ?_
        refine r_cVi (as := [.int (nI st), .int (nI k), .int (nI j), .int m]) (r := []) (I' := I) (L' := L) (R' := R) (x := zrep S nS nP st k j m) (a := 119) hP c139_31 rfl (zj119 hKb) rfl (fun _ hq => x_askOf hP hKb hRb hD hs1 hp1 hp8 hs6 hw6 (by omega) hk hj hq) ?_
        refine r_goto hP c139_34 ?_
        exact r_irE hP c139_38 h (by rw [f_ask, if_pos ⟨h5, h14, h22⟩, nI_clamp (by omega), nI_clamp (by omega), nI_clamp (by omega)])
set_option maxRecDepth 4000 in
theorem y_part {K : ZKh} {P : Nat → Nat → List Value → List Value → ZMi → ZMl → ZMr → ZRt → Prop} {I : ZMi} {L : ZMl} {R : ZMr} {Q : ZRt} (hP : ZCl K P) {nS nP nW : Nat} {S : ZS} (hKb : zKb K) (hRb : zRb R) (hD : zD I 0 S nS nP nW) (hs1 : 1 ≤ nS) (hp1 : 1 ≤ nP) (hp8 : nP ≤ 8) (hs6 : nS ≤ 6) (hw6 : nW ≤ 6) {p x : Int32} (h : Q (some (.int (f_part S nP p x))) I L R) : P 129 0 [.ref 119, .int p, .int x] [] I L R Q := by
  have hp256 := zp256 hp8
  have hq2 := Nat.two_pow_pos nP
  refine r_al hP c129_0 rfl ?_
  refine r_il hP c129_1 rfl ?_
  refine r_cVi (as := [.int p]) (r := []) (I' := I) (L' := L) (R' := R) (x := if zr p nP then 1 else 0) (a := 119) hP c129_2 rfl (zj119 hKb) rfl (fun _ hq => x_isPart hP hKb hRb hD hs1 hp1 hp8 hs6 hw6 hq) ?_
  refine r_ifeqB hP c129_5 (fun h5 => ?_) (fun h5 => ?_)
  · refine r_ic hP c129_20 ?_
    first
      | exact r_irE hP c129_21 h (by rw [f_part, if_neg (fun q => h5 q.1)])
      | exact r_irE hP c129_21 h (by rw [f_part, if_neg (fun q => h17 ?_)]; obtain ⟨i, hi, e⟩ := (zr_iff (by decide)).mp q.2; rw [e]; exact ⟨nI_pos' (by omega), nI_le (b := 5) (by omega) (by decide)⟩)
  · refine r_il hP c129_8 rfl ?_
    refine r_i2l hP c129_9 ?_
    refine r_lc hP c129_10 ?_
    refine r_lc hP c129_11 ?_
    refine r_cSi (as := [.long x.toInt64, .long 0, .long 5]) (r := []) (I' := I) (L' := L) (R' := R) (x := if 0 ≤ x.toInt64 ∧ x.toInt64 ≤ 5 then 1 else 0) hP c129_14 rfl rfl (fun _ h2 => x_isIn hP h2) ?_
    refine r_ti (y := if 0 ≤ x ∧ x ≤ 5 then 1 else 0) (zisC rfl rfl) ?_
    refine r_ifneB hP c129_17 (fun h17 => ?_) (fun h17 => ?_)
    · obtain ⟨j, hj, rfl⟩ := (zr_iff (by omega)).mp h5
      refine r_il hP c129_22 rfl ?_
      refine r_sw hP c129_23 ?_
      refine zsw_c (fun h23_0 => ?_) (fun h23_0 => ?_)
      · refine r_al hP c129_56 rfl ?_
        refine r_gR (x := 125) hP c129_57 (zj119 hKb) (zr119_6 hRb) ?_
        refine r_il hP c129_60 rfl ?_
        refine r_iald (j := j) (x := S 3 j 0) hP c129_61 (zk125 hKb) rfl (by omega) (zD_f hD (by omega) 1 (by decide) (by decide)) ?_
        first
          | exact r_irE hP c129_62 h (by subst_vars; rw [f_part, if_pos ⟨h5, by decide⟩, nI_clamp (by omega)]; rfl)
          | exact r_irE hP c129_62 h (by
              obtain ⟨i, hi, rfl⟩ := zb_nI (n := 5) rfl (by decide) h17
              have hi5 : i = 5 := by
                match i, hi with
                | 0, _ => exact absurd rfl h23_0
                | 1, _ => exact absurd rfl h23_1
                | 2, _ => exact absurd rfl h23_2
                | 3, _ => exact absurd rfl h23_3
                | 4, _ => exact absurd rfl h23_4
                | 5, _ => rfl
                | n + 6, q => exact absurd q (by omega)
              subst hi5
              rw [f_part, if_pos ⟨h5, by decide⟩, nI_clamp (n := j) (by omega)]; rfl)
      refine zsw_c (fun h23_1 => ?_) (fun h23_1 => ?_)
      · refine r_al hP c129_63 rfl ?_
        refine r_gR (x := 126) hP c129_64 (zj119 hKb) (zr119_7 hRb) ?_
        refine r_il hP c129_67 rfl ?_
        refine r_iald (j := j) (x := S 4 j 0) hP c129_68 (zk126 hKb) rfl (by omega) (zD_f hD (by omega) 2 (by decide) (by decide)) ?_
        first
          | exact r_irE hP c129_69 h (by subst_vars; rw [f_part, if_pos ⟨h5, by decide⟩, nI_clamp (by omega)]; rfl)
          | exact r_irE hP c129_69 h (by
              obtain ⟨i, hi, rfl⟩ := zb_nI (n := 5) rfl (by decide) h17
              have hi5 : i = 5 := by
                match i, hi with
                | 0, _ => exact absurd rfl h23_0
                | 1, _ => exact absurd rfl h23_1
                | 2, _ => exact absurd rfl h23_2
                | 3, _ => exact absurd rfl h23_3
                | 4, _ => exact absurd rfl h23_4
                | 5, _ => rfl
                | n + 6, q => exact absurd q (by omega)
              subst hi5
              rw [f_part, if_pos ⟨h5, by decide⟩, nI_clamp (n := j) (by omega)]; rfl)
      refine zsw_c (fun h23_2 => ?_) (fun h23_2 => ?_)
      · refine r_al hP c129_70 rfl ?_
        refine r_gR (x := 127) hP c129_71 (zj119 hKb) (zr119_8 hRb) ?_
        refine r_il hP c129_74 rfl ?_
        refine r_iald (j := j) (x := S 5 j 0) hP c129_75 (zk127 hKb) rfl (by omega) (zD_f hD (by omega) 3 (by decide) (by decide)) ?_
        first
          | exact r_irE hP c129_76 h (by subst_vars; rw [f_part, if_pos ⟨h5, by decide⟩, nI_clamp (by omega)]; rfl)
          | exact r_irE hP c129_76 h (by
              obtain ⟨i, hi, rfl⟩ := zb_nI (n := 5) rfl (by decide) h17
              have hi5 : i = 5 := by
                match i, hi with
                | 0, _ => exact absurd rfl h23_0
                | 1, _ => exact absurd rfl h23_1
                | 2, _ => exact absurd rfl h23_2
                | 3, _ => exact absurd rfl h23_3
                | 4, _ => exact absurd rfl h23_4
                | 5, _ => rfl
                | n + 6, q => exact absurd q (by omega)
              subst hi5
              rw [f_part, if_pos ⟨h5, by decide⟩, nI_clamp (n := j) (by omega)]; rfl)
      refine zsw_c (fun h23_3 => ?_) (fun h23_3 => ?_)
      · refine r_al hP c129_77 rfl ?_
        refine r_gR (x := 128) hP c129_78 (zj119 hKb) (zr119_9 hRb) ?_
        refine r_il hP c129_81 rfl ?_
        refine r_iald (j := j) (x := S 6 j 0) hP c129_82 (zk128 hKb) rfl (by omega) (zD_f hD (by omega) 4 (by decide) (by decide)) ?_
        first
          | exact r_irE hP c129_83 h (by subst_vars; rw [f_part, if_pos ⟨h5, by decide⟩, nI_clamp (by omega)]; rfl)
          | exact r_irE hP c129_83 h (by
              obtain ⟨i, hi, rfl⟩ := zb_nI (n := 5) rfl (by decide) h17
              have hi5 : i = 5 := by
                match i, hi with
                | 0, _ => exact absurd rfl h23_0
                | 1, _ => exact absurd rfl h23_1
                | 2, _ => exact absurd rfl h23_2
                | 3, _ => exact absurd rfl h23_3
                | 4, _ => exact absurd rfl h23_4
                | 5, _ => rfl
                | n + 6, q => exact absurd q (by omega)
              subst hi5
              rw [f_part, if_pos ⟨h5, by decide⟩, nI_clamp (n := j) (by omega)]; rfl)
      refine zsw_c (fun h23_4 => ?_) (fun h23_4 => ?_)
      · refine r_al hP c129_84 rfl ?_
        refine r_gR (x := 129) hP c129_85 (zj119 hKb) (zr119_10 hRb) ?_
        refine r_il hP c129_88 rfl ?_
        refine r_iald (j := j) (x := S 7 j 0) hP c129_89 (zk129 hKb) rfl (by omega) (zD_f hD (by omega) 5 (by decide) (by decide)) ?_
        first
          | exact r_irE hP c129_90 h (by subst_vars; rw [f_part, if_pos ⟨h5, by decide⟩, nI_clamp (by omega)]; rfl)
          | exact r_irE hP c129_90 h (by
              obtain ⟨i, hi, rfl⟩ := zb_nI (n := 5) rfl (by decide) h17
              have hi5 : i = 5 := by
                match i, hi with
                | 0, _ => exact absurd rfl h23_0
                | 1, _ => exact absurd rfl h23_1
                | 2, _ => exact absurd rfl h23_2
                | 3, _ => exact absurd rfl h23_3
                | 4, _ => exact absurd rfl h23_4
                | 5, _ => rfl
                | n + 6, q => exact absurd q (by omega)
              subst hi5
              rw [f_part, if_pos ⟨h5, by decide⟩, nI_clamp (n := j) (by omega)]; rfl)
      refine zsw_n ?_
      refine r_al hP c129_91 rfl ?_
      refine r_gR (x := 130) hP c129_92 (zj119 hKb) (zr119_11 hRb) ?_
      refine r_il hP c129_95 rfl ?_
      refine r_iald (j := j) (x := S 8 j 0) hP c129_96 (zk130 hKb) rfl (by omega) (zD_f hD (by omega) 6 (by decide) (by decide)) ?_
      first
        | exact r_irE hP c129_97 h (by subst_vars; rw [f_part, if_pos ⟨h5, by decide⟩, nI_clamp (by omega)]; rfl)
        | exact r_irE hP c129_97 h (by
            obtain ⟨i, hi, rfl⟩ := zb_nI (n := 5) rfl (by decide) h17
            have hi5 : i = 5 := by
              match i, hi with
              | 0, _ => exact absurd rfl h23_0
              | 1, _ => exact absurd rfl h23_1
              | 2, _ => exact absurd rfl h23_2
              | 3, _ => exact absurd rfl h23_3
              | 4, _ => exact absurd rfl h23_4
              | 5, _ => rfl
              | n + 6, q => exact absurd q (by omega)
            subst hi5
            rw [f_part, if_pos ⟨h5, by decide⟩, nI_clamp (n := j) (by omega)]; rfl)
    · refine r_ic hP c129_20 ?_
      first
        | exact r_irE hP c129_21 h (by rw [f_part, if_neg (fun q => h5 q.1)])
        | exact r_irE hP c129_21 h (by rw [f_part, if_neg (fun q => h17 ?_)]; obtain ⟨i, hi, e⟩ := (zr_iff (by decide)).mp q.2; rw [e]; exact ⟨nI_pos' (by omega), nI_le (b := 5) (by omega) (by decide)⟩)
theorem z_sub2 (v a b : Int32) : v - (a + b) = v - a - b := by
  have h1 : (v - a - b) + (a + b) = v := by rw [Int32.add_comm a b, ← Int32.add_assoc, Int32.sub_add_cancel, Int32.sub_add_cancel]
  have h2 : v - (a + b) = (v - a - b) + (a + b) - (a + b) := by rw [h1]
  rw [h2, Int32.add_sub_cancel]
theorem zvs_m (S : ZS) (p : Nat) (v : Int32) : (if 0 ≤ v - (v * S 10 p 0 / 100 + 1) then v - (v * S 10 p 0 / 100 + 1) else 0) = zvs S p v := by
  have e : v - (v * S 10 p 0 / 100 + 1) = v - v * S 10 p 0 / 100 - 1 := z_sub2 _ _ _
  rw [e, zvs]
  generalize v - v * S 10 p 0 / 100 - 1 = x
  by_cases h1 : 0 < x
  · rw [if_pos h1, if_pos (Int32.le_of_lt h1)]
  · rw [if_neg h1]
    by_cases h2 : 0 ≤ x
    · rw [if_pos h2]
      exact Int32.le_antisymm (Int32.not_lt.mp h1) h2
    · rw [if_neg h2]
set_option maxRecDepth 4000 in
theorem y_voltsOf_l {K : ZKh} {P : Nat → Nat → List Value → List Value → ZMi → ZMl → ZMr → ZRt → Prop} {I : ZMi} {L : ZMl} {R : ZMr} {Q : ZRt} (hP : ZCl K P) {nS nP nW : Nat} {S : ZS} (hKb : zKb K) (hRb : zRb R) (hD : zD I 0 S nS nP nW) (hs1 : 1 ≤ nS) (hp1 : 1 ≤ nP) (hp8 : nP ≤ 8) (hs6 : nS ≤ 6) (hw6 : nW ≤ 6) {p n : Nat} (hp : p < nP) (hn : n ≤ 999) (h : Q (some (.int (zvl S p n))) I L R) : ∀ i, i ≤ n → ∀ (acc : Int32), acc = zvl S p i → P 142 10 [.ref 119, .int (nI p), .int (nI n), .int acc, .int (nI i)] [] I L R Q := by
  refine zloop n (fun i => ∀ (acc : Int32), acc = zvl S p i → P 142 10 [.ref 119, .int (nI p), .int (nI n), .int acc, .int (nI i)] [] I L R Q) ?_
  intro i hle ih acc hacc
  refine r_il hP c142_10 rfl ?_
  refine r_il hP c142_12 rfl ?_
  refine r_ige hP c142_13 (fun h13 => ?_) (fun h13 => ?_)
  · have he : i = n := Nat.le_antisymm hle ((nI_leI (by omega) (by omega)).mp h13)
    refine r_il hP c142_52 rfl ?_
    exact r_irE hP c142_53 h (by first | (rw [hacc, he]; done) | (have hz := zvl_stop (S := S) (p := p) (i := i) (by rw [← hacc]; exact fun q => absurd h17 (Int32.not_le.mpr q)) (n - i); rw [Nat.add_sub_cancel' hle] at hz; rw [hacc, hz]))
  · have hlt : i < n := by
      rcases Nat.lt_or_ge i n with q | q
      · exact q
      · exact absurd (nI_le q (by omega)) h13
    refine r_il hP c142_16 rfl ?_
    refine r_ifle hP c142_17 (fun h17 => ?_) (fun h17 => ?_)
    · refine r_il hP c142_52 rfl ?_
      exact r_irE hP c142_53 h (by first | (rw [hacc, he]; done) | (have hz := zvl_stop (S := S) (p := p) (i := i) (by rw [← hacc]; exact fun q => absurd h17 (Int32.not_le.mpr q)) (n - i); rw [Nat.add_sub_cancel' hle] at hz; rw [hacc, hz]))
    · refine r_il hP c142_20 rfl ?_
      refine r_il hP c142_21 rfl ?_
      refine r_al hP c142_22 rfl ?_
      refine r_gR (x := 132) hP c142_23 (zj119 hKb) (zr119_13 hRb) ?_
      refine r_il hP c142_26 rfl ?_
      refine r_iald (j := p) (x := S 10 p 0) hP c142_27 (zk132 hKb) rfl (by omega) (zD_f hD (by omega) 8 (by decide) (by decide)) ?_
      refine r_imul hP c142_28 ?_
      refine r_ic hP c142_29 ?_
      refine r_idiv hP c142_31 (by decide) ?_
      refine r_ic hP c142_32 ?_
      refine r_iadd hP c142_33 ?_
      refine r_isub hP c142_34 ?_
      refine r_is (ls' := [.ref 119, .int (nI p), .int (nI n), .int (acc - (((acc * (S 10 p 0)) / 100) + 1)), .int (nI i)]) hP c142_35 (Nat.le_of_ble_eq_true rfl) rfl ?_
      refine r_il hP c142_36 rfl ?_
      refine r_ifge hP c142_37 (fun h37 => ?_) (fun h37 => ?_)
      · refine r_il hP c142_44 rfl ?_
        refine r_is (ls' := [.ref 119, .int (nI p), .int (nI n), .int (acc - (((acc * (S 10 p 0)) / 100) + 1)), .int (nI i)]) hP c142_45 (Nat.le_of_ble_eq_true rfl) rfl ?_
        refine r_inc (y := nI (i + 1)) (ls' := [.ref 119, .int (nI p), .int (nI n), .int (acc - (((acc * (S 10 p 0)) / 100) + 1)), .int (nI (i + 1))]) hP c142_46 rfl (nI_1 _) rfl ?_
        refine r_goto hP c142_49 ?_
        exact ih hlt _ (by
          have hz := zvs_m S p (zvl S p i)
          rw [zvl, if_pos (by rw [← hacc]; exact Int32.not_le.mp h17), ← hz, ← hacc]
          first | exact (if_pos h37).symm | exact (if_neg h37).symm)
      · refine r_ic hP c142_40 ?_
        refine r_goto hP c142_41 ?_
        refine r_is (ls' := [.ref 119, .int (nI p), .int (nI n), .int 0, .int (nI i)]) hP c142_45 (Nat.le_of_ble_eq_true rfl) rfl ?_
        refine r_inc (y := nI (i + 1)) (ls' := [.ref 119, .int (nI p), .int (nI n), .int 0, .int (nI (i + 1))]) hP c142_46 rfl (nI_1 _) rfl ?_
        refine r_goto hP c142_49 ?_
        exact ih hlt _ (by
          have hz := zvs_m S p (zvl S p i)
          rw [zvl, if_pos (by rw [← hacc]; exact Int32.not_le.mp h17), ← hz, ← hacc]
          first | exact (if_pos h37).symm | exact (if_neg h37).symm)
set_option maxRecDepth 4000 in
theorem y_voltsOf {K : ZKh} {P : Nat → Nat → List Value → List Value → ZMi → ZMl → ZMr → ZRt → Prop} {I : ZMi} {L : ZMl} {R : ZMr} {Q : ZRt} (hP : ZCl K P) {nS nP nW : Nat} {S : ZS} (hKb : zKb K) (hRb : zRb R) (hD : zD I 0 S nS nP nW) (hs1 : 1 ≤ nS) (hp1 : 1 ≤ nP) (hp8 : nP ≤ 8) (hs6 : nS ≤ 6) (hw6 : nW ≤ 6) {p n : Nat} (hp : p < nP) (hn : n ≤ 999) (h : Q (some (.int (zvl S p n))) I L R) : P 142 0 [.ref 119, .int (nI p), .int (nI n), .null, .null] [] I L R Q := by
  refine r_al hP c142_0 rfl ?_
  refine r_gR (x := 131) hP c142_1 (zj119 hKb) (zr119_12 hRb) ?_
  refine r_il hP c142_4 rfl ?_
  refine r_iald (j := p) (x := S 9 p 0) hP c142_5 (zk131 hKb) rfl (by omega) (zD_f hD (by omega) 7 (by decide) (by decide)) ?_
  refine r_is (ls' := [.ref 119, .int (nI p), .int (nI n), .int (S 9 p 0), .null]) hP c142_6 (Nat.le_of_ble_eq_true rfl) rfl ?_
  refine r_ic hP c142_7 ?_
  refine r_is (ls' := [.ref 119, .int (nI p), .int (nI n), .int (S 9 p 0), .int 0]) hP c142_8 (Nat.le_of_ble_eq_true rfl) rfl ?_
  exact y_voltsOf_l hP hKb hRb hD hs1 hp1 hp8 hs6 hw6 hp hn h 0 (Nat.zero_le _) _ rfl
set_option maxRecDepth 4000 in
theorem y_volts {K : ZKh} {P : Nat → Nat → List Value → List Value → ZMi → ZMl → ZMr → ZRt → Prop} {I : ZMi} {L : ZMl} {R : ZMr} {Q : ZRt} (hP : ZCl K P) {nS nP nW : Nat} {S : ZS} (hKb : zKb K) (hRb : zRb R) (hD : zD I 0 S nS nP nW) (hs1 : 1 ≤ nS) (hp1 : 1 ≤ nP) (hp8 : nP ≤ 8) (hs6 : nS ≤ 6) (hw6 : nW ≤ 6) {p m : Int32} (h : Q (some (.int (f_volts S nP p m))) I L R) : P 143 0 [.ref 119, .int p, .int m] [] I L R Q := by
  have hp256 := zp256 hp8
  have hq2 := Nat.two_pow_pos nP
  refine r_al hP c143_0 rfl ?_
  refine r_il hP c143_1 rfl ?_
  refine r_cVi (as := [.int p]) (r := []) (I' := I) (L' := L) (R' := R) (x := if zr p nP then 1 else 0) (a := 119) hP c143_2 rfl (zj119 hKb) rfl (fun _ hq => x_isPart hP hKb hRb hD hs1 hp1 hp8 hs6 hw6 hq) ?_
  refine r_ifeqB hP c143_5 (fun h5 => ?_) (fun h5 => ?_)
  · refine r_ic hP c143_29 ?_
    exact r_irE hP c143_30 h (by first | (rw [f_volts, if_neg (fun q => h5 q.1)]; done) | (rw [f_volts, if_neg (fun q => h17 q.2)]; done) | (rw [f_volts, if_pos ⟨h5, h17⟩, nI_clamp (by omega), nI_clamp (by omega)]; done))
  · refine r_il hP c143_8 rfl ?_
    refine r_i2l hP c143_9 ?_
    refine r_lc hP c143_10 ?_
    refine r_lc hP c143_11 ?_
    refine r_cSi (as := [.long m.toInt64, .long 0, .long 999]) (r := []) (I' := I) (L' := L) (R' := R) (x := if 0 ≤ m.toInt64 ∧ m.toInt64 ≤ 999 then 1 else 0) hP c143_14 rfl rfl (fun _ h2 => x_isIn hP h2) ?_
    refine r_ti (y := if 0 ≤ m ∧ m ≤ 999 then 1 else 0) (zisC rfl rfl) ?_
    refine r_ifeqB hP c143_17 (fun h17 => ?_) (fun h17 => ?_)
    · refine r_ic hP c143_29 ?_
      exact r_irE hP c143_30 h (by first | (rw [f_volts, if_neg (fun q => h5 q.1)]; done) | (rw [f_volts, if_neg (fun q => h17 q.2)]; done) | (rw [f_volts, if_pos ⟨h5, h17⟩, nI_clamp (by omega), nI_clamp (by omega)]; done))
    · obtain ⟨j, hj, rfl⟩ := (zr_iff (by omega)).mp h5
      obtain ⟨n, hn, rfl⟩ := zb_nI (n := 999) rfl (by decide) h17
      refine r_al hP c143_20 rfl ?_
      refine r_il hP c143_21 rfl ?_
      refine r_il hP c143_22 rfl ?_
      refine r_cVi (as := [.int (nI j), .int (nI n)]) (r := []) (I' := I) (L' := L) (R' := R) (x := zvl S j n) (a := 119) hP c143_23 rfl (zj119 hKb) rfl (fun _ hq => y_voltsOf hP hKb hRb hD hs1 hp1 hp8 hs6 hw6 hj hn hq) ?_
      refine r_goto hP c143_26 ?_
      exact r_irE hP c143_30 h (by first | (rw [f_volts, if_neg (fun q => h5 q.1)]; done) | (rw [f_volts, if_neg (fun q => h17 q.2)]; done) | (rw [f_volts, if_pos ⟨h5, h17⟩, nI_clamp (by omega), nI_clamp (by omega)]; done))
set_option maxRecDepth 4000 in
theorem y_costOf_l {K : ZKh} {P : Nat → Nat → List Value → List Value → ZMi → ZMl → ZMr → ZRt → Prop} {I : ZMi} {L : ZMl} {R : ZMr} {Q : ZRt} (hP : ZCl K P) {nS nP nW : Nat} {S : ZS} (hKb : zKb K) (hRb : zRb R) (hD : zD I 0 S nS nP nW) (hs1 : 1 ≤ nS) (hp1 : 1 ≤ nP) (hp8 : nP ≤ 8) (hs6 : nS ≤ 6) (hw6 : nW ≤ 6) {st : Nat} (hst : st < 256) (h : Q (some (.int (zcs S st nP))) I L R) : ∀ p, p ≤ nP → ∀ (acc : Int32), acc = zcs S st p → P 160 4 [.ref 119, .int (nI st), .int acc, .int (nI p)] [] I L R Q := by
  refine zloop nP (fun p => ∀ (acc : Int32), acc = zcs S st p → P 160 4 [.ref 119, .int (nI st), .int acc, .int (nI p)] [] I L R Q) ?_
  intro p hle ih acc hacc
  refine r_il hP c160_4 rfl ?_
  refine r_al hP c160_5 rfl ?_
  refine r_gR (x := 124) hP c160_6 (zj119 hKb) (zr119_5 hRb) ?_
  refine r_ic hP c160_9 ?_
  refine r_iald (j := 0) (x := nI nP) hP c160_10 (zk124 hKb) rfl (by decide) hD.2.1 ?_
  refine r_ige hP c160_11 (fun h11 => ?_) (fun h11 => ?_)
  · have he : p = nP := Nat.le_antisymm hle ((nI_leI (by omega) (by omega)).mp h11)
    refine r_il hP c160_41 rfl ?_
    exact r_irE hP c160_42 h (by rw [hacc, he])
  · have hlt : p < nP := by
      rcases Nat.lt_or_ge p nP with q | q
      · exact q
      · exact absurd (nI_le q (by omega)) h11
    refine r_il hP c160_14 rfl ?_
    refine r_il hP c160_15 rfl ?_
    refine r_il hP c160_16 rfl ?_
    refine r_cSi (as := [.int (nI st), .int (nI p)]) (r := [.int acc]) (I' := I) (L' := L) (R' := R) (x := if st.testBit p = true then 1 else 0) hP c160_17 rfl rfl (fun _ hq => x_has hP hst (by omega) hq) ?_
    refine r_ifeqB hP c160_20 (fun h20 => ?_) (fun h20 => ?_)
    · refine r_ic hP c160_32 ?_
      refine r_iadd hP c160_33 ?_
      refine r_is (ls' := [.ref 119, .int (nI st), .int (acc + 0), .int (nI p)]) hP c160_34 (Nat.le_of_ble_eq_true rfl) rfl ?_
      refine r_inc (y := nI (p + 1)) (ls' := [.ref 119, .int (nI st), .int (acc + 0), .int (nI (p + 1))]) hP c160_35 rfl (nI_1 _) rfl ?_
      refine r_goto hP c160_38 ?_
      exact ih hlt _ (by rw [hacc, zcs]; first | rw [if_pos h20] | rw [if_neg h20])
    · refine r_al hP c160_23 rfl ?_
      refine r_gR (x := 130) hP c160_24 (zj119 hKb) (zr119_11 hRb) ?_
      refine r_il hP c160_27 rfl ?_
      refine r_iald (j := p) (x := S 8 p 0) hP c160_28 (zk130 hKb) rfl (by omega) (zD_f hD (by omega) 6 (by decide) (by decide)) ?_
      refine r_goto hP c160_29 ?_
      refine r_iadd hP c160_33 ?_
      refine r_is (ls' := [.ref 119, .int (nI st), .int (acc + (S 8 p 0)), .int (nI p)]) hP c160_34 (Nat.le_of_ble_eq_true rfl) rfl ?_
      refine r_inc (y := nI (p + 1)) (ls' := [.ref 119, .int (nI st), .int (acc + (S 8 p 0)), .int (nI (p + 1))]) hP c160_35 rfl (nI_1 _) rfl ?_
      refine r_goto hP c160_38 ?_
      exact ih hlt _ (by rw [hacc, zcs]; first | rw [if_pos h20] | rw [if_neg h20])
set_option maxRecDepth 4000 in
theorem y_costOf {K : ZKh} {P : Nat → Nat → List Value → List Value → ZMi → ZMl → ZMr → ZRt → Prop} {I : ZMi} {L : ZMl} {R : ZMr} {Q : ZRt} (hP : ZCl K P) {nS nP nW : Nat} {S : ZS} (hKb : zKb K) (hRb : zRb R) (hD : zD I 0 S nS nP nW) (hs1 : 1 ≤ nS) (hp1 : 1 ≤ nP) (hp8 : nP ≤ 8) (hs6 : nS ≤ 6) (hw6 : nW ≤ 6) {st : Nat} (hst : st < 256) (h : Q (some (.int (zcs S st nP))) I L R) : P 160 0 [.ref 119, .int (nI st), .null, .null] [] I L R Q := by
  refine r_ic hP c160_0 ?_
  refine r_is (ls' := [.ref 119, .int (nI st), .int 0, .null]) hP c160_1 (Nat.le_of_ble_eq_true rfl) rfl ?_
  refine r_ic hP c160_2 ?_
  refine r_is (ls' := [.ref 119, .int (nI st), .int 0, .int 0]) hP c160_3 (Nat.le_of_ble_eq_true rfl) rfl ?_
  exact y_costOf_l hP hKb hRb hD hs1 hp1 hp8 hs6 hw6 hst h 0 (Nat.zero_le _) _ rfl
set_option maxRecDepth 4000 in
theorem y_isQuiet {K : ZKh} {P : Nat → Nat → List Value → List Value → ZMi → ZMl → ZMr → ZRt → Prop} {I : ZMi} {L : ZMl} {R : ZMr} {Q : ZRt} (hP : ZCl K P) {nS nP nW : Nat} {S : ZS} (hKb : zKb K) (hRb : zRb R) (hD : zD I 0 S nS nP nW) (hs1 : 1 ≤ nS) (hp1 : 1 ≤ nP) (hp8 : nP ≤ 8) (hs6 : nS ≤ 6) (hw6 : nW ≤ 6) {st : Nat} (hst : st < 256) (h : Q (some (.int (if zq S nS nP st = true then 1 else 0))) I L R) : P 159 0 [.ref 119, .int (nI st)] [] I L R Q := by
  refine r_al hP c159_0 rfl ?_
  refine r_il hP c159_1 rfl ?_
  refine r_ic hP c159_2 ?_
  refine r_ic hP c159_4 ?_
  refine r_ic hP c159_6 ?_
  refine r_cVi (as := [.int (nI st), .int 30, .int (-4), .int (-4)]) (r := []) (I' := I) (L' := L) (R' := R) (x := zth S (fun t => zhd S nP st 30 100 100 t nS) 3) (a := 119) hP c159_8 rfl (zj119 hKb) rfl (fun _ hq => x_heardOf hP hKb hRb hD hs1 hp1 hp8 hs6 hw6 hst zno4 zno4 hq) ?_
  refine r_ifne hP c159_11 (fun h11 => ?_) (fun h11 => ?_)
  · refine r_ic hP c159_18 ?_
    exact r_zr0 hP c159_19 (by simp only [zq, decide_eq_true_eq]; exact h11) h
  · refine r_ic hP c159_14 ?_
    refine r_goto hP c159_15 ?_
    exact r_zr1 hP c159_19 (by simp only [zq, decide_eq_true_eq]; exact h11) h
set_option maxRecDepth 4000 in
theorem y_hums_l {K : ZKh} {P : Nat → Nat → List Value → List Value → ZMi → ZMl → ZMr → ZRt → Prop} {I : ZMi} {L : ZMl} {R : ZMr} {Q : ZRt} (hP : ZCl K P) {nS nP nW : Nat} {S : ZS} (hKb : zKb K) (hRb : zRb R) (hD : zD I 0 S nS nP nW) (hs1 : 1 ≤ nS) (hp1 : 1 ≤ nP) (hp8 : nP ≤ 8) (hs6 : nS ≤ 6) (hw6 : nW ≤ 6) {ch : Nat} {cs : List Nat} (hms : zMs_ I L S nP cs) (hok : zok S nP cs) (hch : ch < 256) (h : Q (some (.long (znw S nS nP ch cs))) I L R) : ∀ i, i ≤ cs.length → ∀ (acc : Int64), acc = znw S nS nP ch (cs.take i) → P 162 5 [.ref 119, .int (nI ch), .long acc, .null, .int (nI i)] [] I L R Q := by
  refine zloop cs.length (fun i => ∀ (acc : Int64), acc = znw S nS nP ch (cs.take i) → P 162 5 [.ref 119, .int (nI ch), .long acc, .null, .int (nI i)] [] I L R Q) ?_
  intro i hle ih acc hacc
  have hl37 := hok.1
  refine r_il hP c162_5 rfl ?_
  refine r_al hP c162_7 rfl ?_
  refine r_gI (x := nI cs.length) hP c162_8 (zj119 hKb) hms.1 ?_
  refine r_ige hP c162_11 (fun h11 => ?_) (fun h11 => ?_)
  · have he : i = cs.length := Nat.le_antisymm hle ((nI_leI (by omega) (by omega)).mp h11)
    refine r_ll hP c162_52 rfl ?_
    exact r_lrE hP c162_53 h (by rw [hacc, he, List.take_length])
  · have hlt : i < cs.length := by
      rcases Nat.lt_or_ge i cs.length with q | q
      · exact q
      · exact absurd (nI_le q (by omega)) h11
    have hc2 : cs.getD i 0 < 256 := Nat.lt_of_lt_of_le (hok.2 _ (z_mem hlt)).1 (zp256 hp8)
    refine r_ll hP c162_14 rfl ?_
    refine r_al hP c162_15 rfl ?_
    refine r_al hP c162_16 rfl ?_
    refine r_gR (x := 149) hP c162_17 (zj119 hKb) (zr119_33 hRb) ?_
    refine r_il hP c162_20 rfl ?_
    refine r_iald (j := i) (x := nI (cs.getD i 0)) hP c162_22 (zk149 hKb) rfl (by omega) (hms.2 i hlt).1 ?_
    refine r_il hP c162_23 rfl ?_
    refine r_ic hP c162_24 ?_
    refine r_ixor hP c162_25 ?_
    refine r_iand hP c162_26 ?_
    refine r_ti (y := nI (zdf (cs.getD i 0) ch)) (zdf_c _ hc2 _ hch) ?_
    refine r_cVi (as := [.int (nI (zdf (cs.getD i 0) ch))]) (r := [.long acc]) (I' := I) (L' := L) (R' := R) (x := if zq S nS nP (zdf (cs.getD i 0) ch) = true then 1 else 0) (a := 119) hP c162_27 rfl (zj119 hKb) rfl (fun _ hq => y_isQuiet hP hKb hRb hD hs1 hp1 hp8 hs6 hw6 (Nat.lt_of_le_of_lt (zdf_le _ _) hc2) hq) ?_
    refine r_ifeqB hP c162_30 (fun h30 => ?_) (fun h30 => ?_)
    · refine r_al hP c162_37 rfl ?_
      refine r_gR (x := 150) hP c162_38 (zj119 hKb) (zr119_34 hRb) ?_
      refine r_il hP c162_41 rfl ?_
      refine r_lald (j := i) (x := zwt S (cs.getD i 0) nP) hP c162_43 (zk150 hKb) rfl (by omega) (hms.2 i hlt).2 ?_
      refine r_ladd hP c162_44 ?_
      refine r_ls (ls' := [.ref 119, .int (nI ch), .long (acc + (zwt S (cs.getD i 0) nP)), .null, .int (nI i)]) hP c162_45 (Nat.le_of_ble_eq_true rfl) rfl ?_
      refine r_inc (y := nI (i + 1)) (ls' := [.ref 119, .int (nI ch), .long (acc + (zwt S (cs.getD i 0) nP)), .null, .int (nI (i + 1))]) hP c162_46 rfl (nI_1 _) rfl ?_
      refine r_goto hP c162_49 ?_
      exact ih hlt _ (by rw [z_take hlt, znw, List.foldl_append, ← znw, hacc]; simp only [List.foldl_cons, List.foldl_nil]; first | (rw [if_pos h30]; exact Int64.add_zero _) | rw [if_neg h30])
    · refine r_lc hP c162_33 ?_
      refine r_goto hP c162_34 ?_
      refine r_ladd hP c162_44 ?_
      refine r_ls (ls' := [.ref 119, .int (nI ch), .long (acc + 0), .null, .int (nI i)]) hP c162_45 (Nat.le_of_ble_eq_true rfl) rfl ?_
      refine r_inc (y := nI (i + 1)) (ls' := [.ref 119, .int (nI ch), .long (acc + 0), .null, .int (nI (i + 1))]) hP c162_46 rfl (nI_1 _) rfl ?_
      refine r_goto hP c162_49 ?_
      exact ih hlt _ (by rw [z_take hlt, znw, List.foldl_append, ← znw, hacc]; simp only [List.foldl_cons, List.foldl_nil]; first | (rw [if_pos h30]; exact Int64.add_zero _) | rw [if_neg h30])
set_option maxRecDepth 4000 in
theorem y_hums {K : ZKh} {P : Nat → Nat → List Value → List Value → ZMi → ZMl → ZMr → ZRt → Prop} {I : ZMi} {L : ZMl} {R : ZMr} {Q : ZRt} (hP : ZCl K P) {nS nP nW : Nat} {S : ZS} (hKb : zKb K) (hRb : zRb R) (hD : zD I 0 S nS nP nW) (hs1 : 1 ≤ nS) (hp1 : 1 ≤ nP) (hp8 : nP ≤ 8) (hs6 : nS ≤ 6) (hw6 : nW ≤ 6) {ch : Nat} {cs : List Nat} (hms : zMs_ I L S nP cs) (hok : zok S nP cs) (hch : ch < 256) (h : Q (some (.long (znw S nS nP ch cs))) I L R) : P 162 0 [.ref 119, .int (nI ch), .null, .null, .null] [] I L R Q := by
  refine r_lc hP c162_0 ?_
  refine r_ls (ls' := [.ref 119, .int (nI ch), .long 0, .null, .null]) hP c162_1 (Nat.le_of_ble_eq_true rfl) rfl ?_
  refine r_ic hP c162_2 ?_
  refine r_is (ls' := [.ref 119, .int (nI ch), .long 0, .null, .int 0]) hP c162_3 (Nat.le_of_ble_eq_true rfl) rfl ?_
  exact y_hums_l hP hKb hRb hD hs1 hp1 hp8 hs6 hw6 hms hok hch h 0 (Nat.zero_le _) _ rfl
set_option maxRecDepth 4000 in
theorem y_howl_l {K : ZKh} {P : Nat → Nat → List Value → List Value → ZMi → ZMl → ZMr → ZRt → Prop} {I : ZMi} {L : ZMl} {R : ZMr} {Q : ZRt} (hP : ZCl K P) {nS nP nW : Nat} {S : ZS} (hKb : zKb K) (hRb : zRb R) (hD : zD I 0 S nS nP nW) (hs1 : 1 ≤ nS) (hp1 : 1 ≤ nP) (hp8 : nP ≤ 8) (hs6 : nS ≤ 6) (hw6 : nW ≤ 6) {i a : Nat} {acc : Int32} (hi : i < nW) (haS : a < nS) (ha : S 12 i 0 = nI a) (hx : P 166 71 [.ref 119, .int acc, .int (nI i), .long (zb1 S i a (nS - a)), .null, .long (zb2 (nS - a)), .null, .int (nI nS)] [] I L R Q) : ∀ s, s ≤ nS → ∀ (x1 x2 : Int64), x1 = zb1 S i a (s - a) ∧ x2 = zb2 (s - a) ∧ a ≤ s → P 166 35 [.ref 119, .int acc, .int (nI i), .long x1, .null, .long x2, .null, .int (nI s)] [] I L R Q := by
  refine zloop nS (fun s => ∀ (x1 x2 : Int64), x1 = zb1 S i a (s - a) ∧ x2 = zb2 (s - a) ∧ a ≤ s → P 166 35 [.ref 119, .int acc, .int (nI i), .long x1, .null, .long x2, .null, .int (nI s)] [] I L R Q) ?_
  intro s hle ih x1 x2 hacc
  refine r_il hP c166_35 rfl ?_
  refine r_al hP c166_37 rfl ?_
  refine r_gR (x := 121) hP c166_38 (zj119 hKb) (zr119_2 hRb) ?_
  refine r_ic hP c166_41 ?_
  refine r_iald (j := 0) (x := nI nS) hP c166_42 (zk121 hKb) rfl (by decide) hD.1 ?_
  refine r_ige hP c166_43 (fun h43 => ?_) (fun h43 => ?_)
  · have he : s = nS := Nat.le_antisymm hle ((nI_leI (by omega) (by omega)).mp h43)
    subst he
    rw [hacc.1, hacc.2.1]
    exact hx
  · have hlt : s < nS := by
      rcases Nat.lt_or_ge s nS with q | q
      · exact q
      · exact absurd (nI_le q (by omega)) h43
    refine r_ll hP c166_46 rfl ?_
    refine r_al hP c166_47 rfl ?_
    refine r_gR (x := 122) hP c166_48 (zj119 hKb) (zr119_3 hRb) ?_
    refine r_il hP c166_51 rfl ?_
    refine r_iald (j := s) (x := S 0 s 0) hP c166_53 (zk122 hKb) rfl (by omega) (zD_g hD (by omega)) ?_
    refine r_i2l hP c166_54 ?_
    refine r_lmul hP c166_55 ?_
    refine r_ls (ls' := [.ref 119, .int acc, .int (nI i), .long (x1 * ((S 0 s 0).toInt64)), .null, .long x2, .null, .int (nI s)]) hP c166_56 (Nat.le_of_ble_eq_true rfl) rfl ?_
    refine r_ll hP c166_57 rfl ?_
    refine r_lc hP c166_59 ?_
    refine r_lmul hP c166_62 ?_
    refine r_ls (ls' := [.ref 119, .int acc, .int (nI i), .long (x1 * ((S 0 s 0).toInt64)), .null, .long (x2 * 10), .null, .int (nI s)]) hP c166_63 (Nat.le_of_ble_eq_true rfl) rfl ?_
    refine r_inc (y := nI (s + 1)) (ls' := [.ref 119, .int acc, .int (nI i), .long (x1 * ((S 0 s 0).toInt64)), .null, .long (x2 * 10), .null, .int (nI (s + 1))]) hP c166_65 rfl (nI_1 _) rfl ?_
    refine r_goto hP c166_68 ?_
    exact ih hlt _ _ (by rw [hacc.1, hacc.2.1, show s + 1 - a = s - a + 1 from (by omega), zb1, zb2, show a + (s - a) = s from (by omega)]; exact ⟨rfl, rfl, by omega⟩)
set_option maxRecDepth 4000 in
theorem y_howls_l {K : ZKh} {P : Nat → Nat → List Value → List Value → ZMi → ZMl → ZMr → ZRt → Prop} {I : ZMi} {L : ZMl} {R : ZMr} {Q : ZRt} (hP : ZCl K P) {nS nP nW : Nat} {S : ZS} (hKb : zKb K) (hRb : zRb R) (hD : zD I 0 S nS nP nW) (hs1 : 1 ≤ nS) (hp1 : 1 ≤ nP) (hp8 : nP ≤ 8) (hs6 : nS ≤ 6) (hw6 : nW ≤ 6) (hwy : ∀ i, i < nW → ∃ a, a < nS ∧ S 12 i 0 = nI a) (h : Q (some (.int (zhw S nS nW))) I L R) : ∀ i, i ≤ nW → ∀ (acc : Int32) (v3 v4 v5 v6 v7 : Value), acc = zhw S nS i → P 166 4 [.ref 119, .int acc, .int (nI i), v3, v4, v5, v6, v7] [] I L R Q := by
  refine zloop nW (fun i => ∀ (acc : Int32) (v3 v4 v5 v6 v7 : Value), acc = zhw S nS i → P 166 4 [.ref 119, .int acc, .int (nI i), v3, v4, v5, v6, v7] [] I L R Q) ?_
  intro i hle ih acc v3 v4 v5 v6 v7 hacc
  refine r_il hP c166_4 rfl ?_
  refine r_al hP c166_5 rfl ?_
  refine r_gR (x := 137) hP c166_6 (zj119 hKb) (zr119_18 hRb) ?_
  refine r_ic hP c166_9 ?_
  refine r_iald (j := 0) (x := nI nW) hP c166_10 (zk137 hKb) rfl (by decide) hD.2.2.1 ?_
  refine r_ige hP c166_11 (fun h11 => ?_) (fun h11 => ?_)
  · have he : i = nW := Nat.le_antisymm hle ((nI_leI (by omega) (by omega)).mp h11)
    refine r_il hP c166_99 rfl ?_
    exact r_irE hP c166_100 h (by rw [hacc, he])
  · have hlt : i < nW := by
      rcases Nat.lt_or_ge i nW with q | q
      · exact q
      · exact absurd (nI_le q (by omega)) h11
    obtain ⟨a, haS, ha⟩ := hwy i hlt
    have hcl : (S 12 i 0).toNatClampNeg = a := by rw [ha]; exact nI_clamp (by omega)
    refine r_al hP c166_14 rfl ?_
    refine r_gR (x := 140) hP c166_15 (zj119 hKb) (zr119_21 hRb) ?_
    refine r_il hP c166_18 rfl ?_
    refine r_iald (j := i) (x := S 14 i 0) hP c166_19 (zk140 hKb) rfl (by omega) (zD_y hD (by omega) 2 (by decide)) ?_
    refine r_i2l hP c166_20 ?_
    refine r_ls (ls' := [.ref 119, .int acc, .int (nI i), .long ((S 14 i 0).toInt64), .null, v5, v6, v7]) hP c166_21 (Nat.le_of_ble_eq_true rfl) rfl ?_
    refine r_lc hP c166_22 ?_
    refine r_ls (ls' := [.ref 119, .int acc, .int (nI i), .long ((S 14 i 0).toInt64), .null, .long 100, .null, v7]) hP c166_25 (Nat.le_of_ble_eq_true rfl) rfl ?_
    refine r_al hP c166_27 rfl ?_
    refine r_gR (x := 138) hP c166_28 (zj119 hKb) (zr119_19 hRb) ?_
    refine r_il hP c166_31 rfl ?_
    refine r_iald (j := i) (x := nI a) hP c166_32 (zk138 hKb) rfl (by omega) ((zD_y hD (by omega) 0 (by decide)).trans ha) ?_
    refine r_is (ls' := [.ref 119, .int acc, .int (nI i), .long ((S 14 i 0).toInt64), .null, .long 100, .null, .int (nI a)]) hP c166_33 (Nat.le_of_ble_eq_true rfl) rfl ?_
    refine y_howl_l hP hKb hRb hD hs1 hp1 hp8 hs6 hw6 hlt haS ha ?_ a (by omega) _ _ (by rw [Nat.sub_self]; exact ⟨rfl, rfl, by omega⟩)
    refine r_il hP c166_71 rfl ?_
    refine r_ll hP c166_72 rfl ?_
    refine r_ll hP c166_73 rfl ?_
    refine r_lcmp hP c166_75 ?_
    refine r_ifltL hP c166_76 (fun h76 => ?_) (fun h76 => ?_)
    · refine r_ic hP c166_90 ?_
      refine r_ior hP c166_91 ?_
      refine r_is (ls' := [.ref 119, .int (acc ||| 0), .int (nI i), .long (zb1 S i a (nS - a)), .null, .long (zb2 (nS - a)), .null, .int (nI nS)]) hP c166_92 (Nat.le_of_ble_eq_true rfl) rfl ?_
      refine r_inc (y := nI (i + 1)) (ls' := [.ref 119, .int (acc ||| 0), .int (nI (i + 1)), .long (zb1 S i a (nS - a)), .null, .long (zb2 (nS - a)), .null, .int (nI nS)]) hP c166_93 rfl (nI_1 _) rfl ?_
      refine r_goto hP c166_96 ?_
      exact ih hlt _ _ _ _ _ _ (by simp only [zhw, hcl, hacc]; first | rw [if_pos (Int64.not_lt.mp h76)] | (rw [if_neg (fun q => absurd h76 (Int64.not_lt.mpr q))]; exact Int32.or_zero))
    · refine r_ic hP c166_79 ?_
      refine r_al hP c166_80 rfl ?_
      refine r_gR (x := 139) hP c166_81 (zj119 hKb) (zr119_20 hRb) ?_
      refine r_il hP c166_84 rfl ?_
      refine r_iald (j := i) (x := S 13 i 0) hP c166_85 (zk139 hKb) rfl (by omega) (zD_y hD (by omega) 1 (by decide)) ?_
      refine r_ishl hP c166_86 ?_
      refine r_goto hP c166_87 ?_
      refine r_ior hP c166_91 ?_
      refine r_is (ls' := [.ref 119, .int (acc ||| (1 <<< ((S 13 i 0) &&& 31))), .int (nI i), .long (zb1 S i a (nS - a)), .null, .long (zb2 (nS - a)), .null, .int (nI nS)]) hP c166_92 (Nat.le_of_ble_eq_true rfl) rfl ?_
      refine r_inc (y := nI (i + 1)) (ls' := [.ref 119, .int (acc ||| (1 <<< ((S 13 i 0) &&& 31))), .int (nI (i + 1)), .long (zb1 S i a (nS - a)), .null, .long (zb2 (nS - a)), .null, .int (nI nS)]) hP c166_93 rfl (nI_1 _) rfl ?_
      refine r_goto hP c166_96 ?_
      exact ih hlt _ _ _ _ _ _ (by simp only [zhw, hcl, hacc]; first | rw [if_pos (Int64.not_lt.mp h76)] | (rw [if_neg (fun q => absurd h76 (Int64.not_lt.mpr q))]; exact Int32.or_zero))
set_option maxRecDepth 4000 in
theorem y_howls {K : ZKh} {P : Nat → Nat → List Value → List Value → ZMi → ZMl → ZMr → ZRt → Prop} {I : ZMi} {L : ZMl} {R : ZMr} {Q : ZRt} (hP : ZCl K P) {nS nP nW : Nat} {S : ZS} (hKb : zKb K) (hRb : zRb R) (hD : zD I 0 S nS nP nW) (hs1 : 1 ≤ nS) (hp1 : 1 ≤ nP) (hp8 : nP ≤ 8) (hs6 : nS ≤ 6) (hw6 : nW ≤ 6) (hwy : ∀ i, i < nW → ∃ a, a < nS ∧ S 12 i 0 = nI a) (h : Q (some (.int (zhw S nS nW))) I L R) : P 166 0 [.ref 119, .null, .null, .null, .null, .null, .null, .null] [] I L R Q := by
  refine r_ic hP c166_0 ?_
  refine r_is (ls' := [.ref 119, .int 0, .null, .null, .null, .null, .null, .null]) hP c166_1 (Nat.le_of_ble_eq_true rfl) rfl ?_
  refine r_ic hP c166_2 ?_
  refine r_is (ls' := [.ref 119, .int 0, .int 0, .null, .null, .null, .null, .null]) hP c166_3 (Nat.le_of_ble_eq_true rfl) rfl ?_
  exact y_howls_l hP hKb hRb hD hs1 hp1 hp8 hs6 hw6 hwy h 0 (Nat.zero_le _) _ _ _ _ _ _ rfl
