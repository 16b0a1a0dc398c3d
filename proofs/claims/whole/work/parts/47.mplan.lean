/-! ===== the model: what to change, one by one ===== -/
def zqw (S : ZS) (nS nP ch : Nat) (cs : List Nat) : Int64 := cs.foldl (fun a c => if zq S nS nP (zdf c ch) = true then a + zwt S c nP else a) 0
theorem zqw_f (S : ZS) (nS nP ch : Nat) : ∀ (cs : List Nat) (a b : Int64), cs.foldl (fun a c => if zq S nS nP (zdf c ch) = true then a + zwt S c nP else a) a + cs.foldl (fun a c => if zq S nS nP (zdf c ch) = true then a else a + zwt S c nP) b = cs.foldl (fun a c => a + zwt S c nP) (a + b)
  | [], a, b => rfl
  | c :: cs, a, b => by
    simp only [List.foldl_cons]
    by_cases h : zq S nS nP (zdf c ch) = true
    · rw [if_pos h, if_pos h, zqw_f S nS nP ch cs, Int64.add_assoc, Int64.add_comm (zwt S c nP), ← Int64.add_assoc]
    · rw [if_neg h, if_neg h, zqw_f S nS nP ch cs, Int64.add_assoc]
theorem zqw_s (S : ZS) (nS nP ch : Nat) (cs : List Nat) : zqw S nS nP ch cs = zsw_ S nP cs - znw S nS nP ch cs := by
  have h : zqw S nS nP ch cs + znw S nS nP ch cs = zsw_ S nP cs := zqw_f S nS nP ch cs 0 0
  rw [← h, Int64.add_sub_cancel]
set_option maxRecDepth 4000 in
theorem y_change_c {K : ZKh} {P : Nat → Nat → List Value → List Value → ZMi → ZMl → ZMr → ZRt → Prop} {I : ZMi} {L : ZMl} {R : ZMr} {Q : ZRt} (hP : ZCl K P) {nS nP nW : Nat} {S : ZS} (hKb : zKb K) (hRb : zRb R) (hD : zD I 0 S nS nP nW) (hs1 : 1 ≤ nS) (hp1 : 1 ≤ nP) (hp8 : nP ≤ 8) (hs6 : nS ≤ 6) (hw6 : nW ≤ 6) {cs : List Nat} (hms : zMs_ I L S nP cs) (hok : zok S nP cs) {i : Nat} {x y x1 : Int32} (hi : i < 2 ^ nP) (hx : P 161 113 [.ref 119, .int x, .int y, .int x1, .int (nI i), .long (zqw S nS nP i cs), .null, .int (nI cs.length)] [] I L R Q) : ∀ c, c ≤ cs.length → ∀ (acc : Int64), acc = zqw S nS nP i (cs.take c) → P 161 63 [.ref 119, .int x, .int y, .int x1, .int (nI i), .long acc, .null, .int (nI c)] [] I L R Q := by
  refine zloop cs.length (fun c => ∀ (acc : Int64), acc = zqw S nS nP i (cs.take c) → P 161 63 [.ref 119, .int x, .int y, .int x1, .int (nI i), .long acc, .null, .int (nI c)] [] I L R Q) ?_
  intro c hle ih acc hacc
  have hl37 := hok.1
  have hp256 := zp256 hp8
  refine r_il hP c161_63 rfl ?_
  refine r_al hP c161_65 rfl ?_
  refine r_gI (x := nI cs.length) hP c161_66 (zj119 hKb) hms.1 ?_
  refine r_ige hP c161_69 (fun h69 => ?_) (fun h69 => ?_)
  · have he : c = cs.length := Nat.le_antisymm hle ((nI_leI (by omega) (by omega)).mp h69)
    subst he
    rw [hacc, List.take_length]
    exact hx
  · have hlt : c < cs.length := by
      rcases Nat.lt_or_ge c cs.length with q | q
      · exact q
      · exact absurd (nI_le q (by omega)) h69
    have hc2 : cs.getD c 0 < 256 := Nat.lt_of_lt_of_le (hok.2 _ (z_mem hlt)).1 (zp256 hp8)
    refine r_ll hP c161_72 rfl ?_
    refine r_al hP c161_74 rfl ?_
    refine r_al hP c161_75 rfl ?_
    refine r_gR (x := 149) hP c161_76 (zj119 hKb) (zr119_33 hRb) ?_
    refine r_il hP c161_79 rfl ?_
    refine r_iald (j := c) (x := nI (cs.getD c 0)) hP c161_81 (zk149 hKb) rfl (by omega) (hms.2 c hlt).1 ?_
    refine r_il hP c161_82 rfl ?_
    refine r_ic hP c161_84 ?_
    refine r_ixor hP c161_85 ?_
    refine r_iand hP c161_86 ?_
    refine r_ti (y := nI (zdf (cs.getD c 0) i)) (zdf_c _ hc2 _ (by omega)) ?_
    refine r_cVi (as := [.int (nI (zdf (cs.getD c 0) i))]) (r := [.long acc]) (I' := I) (L' := L) (R' := R) (x := if zq S nS nP (zdf (cs.getD c 0) i) = true then 1 else 0) (a := 119) hP c161_87 rfl (zj119 hKb) rfl (fun _ hq => y_isQuiet hP hKb hRb hD hs1 hp1 hp8 hs6 hw6 (Nat.lt_of_le_of_lt (zdf_le _ _) hc2) hq) ?_
    refine r_ifeqB hP c161_90 (fun h90 => ?_) (fun h90 => ?_)
    · refine r_lc hP c161_103 ?_
      refine r_ladd hP c161_104 ?_
      refine r_ls (ls' := [.ref 119, .int x, .int y, .int x1, .int (nI i), .long (acc + 0), .null, .int (nI c)]) hP c161_105 (Nat.le_of_ble_eq_true rfl) rfl ?_
      refine r_inc (y := nI (c + 1)) (ls' := [.ref 119, .int x, .int y, .int x1, .int (nI i), .long (acc + 0), .null, .int (nI (c + 1))]) hP c161_107 rfl (nI_1 _) rfl ?_
      refine r_goto hP c161_110 ?_
      exact ih hlt _ (by rw [z_take hlt, zqw, List.foldl_append, ← zqw, hacc]; simp only [List.foldl_cons, List.foldl_nil]; first | (rw [if_pos h90]; done) | (rw [if_neg h90]; exact Int64.add_zero _))
    · refine r_al hP c161_93 rfl ?_
      refine r_gR (x := 150) hP c161_94 (zj119 hKb) (zr119_34 hRb) ?_
      refine r_il hP c161_97 rfl ?_
      refine r_lald (j := c) (x := zwt S (cs.getD c 0) nP) hP c161_99 (zk150 hKb) rfl (by omega) (hms.2 c hlt).2 ?_
      refine r_goto hP c161_100 ?_
      refine r_ladd hP c161_104 ?_
      refine r_ls (ls' := [.ref 119, .int x, .int y, .int x1, .int (nI i), .long (acc + (zwt S (cs.getD c 0) nP)), .null, .int (nI c)]) hP c161_105 (Nat.le_of_ble_eq_true rfl) rfl ?_
      refine r_inc (y := nI (c + 1)) (ls' := [.ref 119, .int x, .int y, .int x1, .int (nI i), .long (acc + (zwt S (cs.getD c 0) nP)), .null, .int (nI (c + 1))]) hP c161_107 rfl (nI_1 _) rfl ?_
      refine r_goto hP c161_110 ?_
      exact ih hlt _ (by rw [z_take hlt, zqw, List.foldl_append, ← zqw, hacc]; simp only [List.foldl_cons, List.foldl_nil]; first | (rw [if_pos h90]; done) | (rw [if_neg h90]; exact Int64.add_zero _))
theorem zne256 : ∀ b, b < 256 → ¬ nI b = -4 := by decide +kernel
set_option maxRecDepth 4000 in
theorem y_change_i {K : ZKh} {P : Nat → Nat → List Value → List Value → ZMi → ZMl → ZMr → ZRt → Prop} {I : ZMi} {L : ZMl} {R : ZMr} {Q : ZRt} (hP : ZCl K P) {nS nP nW : Nat} {S : ZS} (hKb : zKb K) (hRb : zRb R) (hD : zD I 0 S nS nP nW) (hs1 : 1 ≤ nS) (hp1 : 1 ≤ nP) (hp8 : nP ≤ 8) (hs6 : nS ≤ 6) (hw6 : nW ≤ 6) {cs : List Nat} (hms : zMs_ I L S nP cs) (hok : zok S nP cs) {x y : Int32} (hx : ∀ v4 v5 v6 v7, P 161 173 [.ref 119, .int x, .int y, .int (zch S nS nP cs x (2 ^ nP)).1, v4, v5, v6, v7] [] I L R Q) : ∀ i, i ≤ (2 ^ nP) → ∀ (x1 : Int32) (v5 v6 v7 : Value), x1 = (zch S nS nP cs x i).1 → P 161 44 [.ref 119, .int x, .int y, .int x1, .int (nI i), v5, v6, v7] [] I L R Q := by
  refine zloop (2 ^ nP) (fun i => ∀ (x1 : Int32) (v5 v6 v7 : Value), x1 = (zch S nS nP cs x i).1 → P 161 44 [.ref 119, .int x, .int y, .int x1, .int (nI i), v5, v6, v7] [] I L R Q) ?_
  intro i hle ih x1 v5 v6 v7 hacc
  have hp256 := zp256 hp8
  refine r_il hP c161_44 rfl ?_
  refine r_ic hP c161_46 ?_
  refine r_al hP c161_47 rfl ?_
  refine r_gR (x := 124) hP c161_48 (zj119 hKb) (zr119_5 hRb) ?_
  refine r_ic hP c161_51 ?_
  refine r_iald (j := 0) (x := nI nP) hP c161_52 (zk124 hKb) rfl (by decide) hD.2.1 ?_
  refine r_ishl hP c161_53 ?_
  refine r_ti (y := nI (2 ^ nP)) (zpow nP hp8) ?_
  refine r_ige hP c161_54 (fun h54 => ?_) (fun h54 => ?_)
  · have he : i = (2 ^ nP) := Nat.le_antisymm hle ((nI_leI (by omega) (by omega)).mp h54)
    subst he
    rw [hacc]
    exact hx _ _ _ _
  · have hlt : i < (2 ^ nP) := by
      rcases Nat.lt_or_ge i (2 ^ nP) with q | q
      · exact q
      · exact absurd (nI_le q (by omega)) h54
    refine r_lc hP c161_57 ?_
    refine r_ls (ls' := [.ref 119, .int x, .int y, .int x1, .int (nI i), .long 0, .null, v7]) hP c161_58 (Nat.le_of_ble_eq_true rfl) rfl ?_
    refine r_ic hP c161_60 ?_
    refine r_is (ls' := [.ref 119, .int x, .int y, .int x1, .int (nI i), .long 0, .null, .int 0]) hP c161_61 (Nat.le_of_ble_eq_true rfl) rfl ?_
    refine y_change_c hP hKb hRb hD hs1 hp1 hp8 hs6 hw6 hms hok hlt ?_ 0 (Nat.zero_le _) _ rfl
    refine r_lc hP c161_113 ?_
    refine r_ll hP c161_116 rfl ?_
    refine r_lmul hP c161_118 ?_
    refine r_il hP c161_119 rfl ?_
    refine r_i2l hP c161_120 ?_
    refine r_al hP c161_121 rfl ?_
    refine r_cVl (as := []) (r := [.long x.toInt64, .long (100 * (zqw S nS nP i cs))]) (I' := I) (L' := L) (R' := R) (x := zsw_ S nP cs) (a := 119) hP c161_122 rfl (zj119 hKb) rfl (fun _ hq => x_wall hP hKb hRb hms hok.1 hq) ?_
    refine r_lmul hP c161_125 ?_
    refine r_lcmp hP c161_126 ?_
    refine r_ifltL hP c161_127 (fun h127 => ?_) (fun h127 => ?_)
    · refine r_ic hP c161_134 ?_
      refine r_is (ls' := [.ref 119, .int x, .int y, .int x1, .int (nI i), .long (zqw S nS nP i cs), .null, .int 0]) hP c161_135 (Nat.le_of_ble_eq_true rfl) rfl ?_
      refine r_il hP c161_137 rfl ?_
      refine r_ifeq hP c161_139 (fun h139 => ?_) (fun h139 => absurd h139 (not_not_intro rfl))
      refine r_il hP c161_165 rfl ?_
      refine r_is (ls' := [.ref 119, .int x, .int y, .int x1, .int (nI i), .long (zqw S nS nP i cs), .null, .int 0]) hP c161_166 (Nat.le_of_ble_eq_true rfl) rfl ?_
      refine r_inc (y := nI (i + 1)) (ls' := [.ref 119, .int x, .int y, .int x1, .int (nI (i + 1)), .long (zqw S nS nP i cs), .null, .int 0]) hP c161_167 rfl (nI_1 _) rfl ?_
      refine r_goto hP c161_170 ?_
      exact ih hlt _ _ _ _ (by
        have hqs := zqw_s S nS nP i cs
        first
          | (have hm : ¬ (x.toInt64 * zsw_ S nP cs ≤ 100 * (zsw_ S nP cs - znw S nS nP i cs)) := fun q => absurd h127 (Int64.not_lt.mpr (by rw [hqs]; exact q))
             rw [zch, if_neg (fun q => hm q.2)]; exact hacc)
          | (have hm : x.toInt64 * zsw_ S nP cs ≤ 100 * (zsw_ S nP cs - znw S nS nP i cs) := by have hq := Int64.not_lt.mp h127; rw [hqs] at hq; exact hq
             first
               | (rw [zch, if_pos ⟨Or.inl (by
                   rcases zch_st S nS nP cs x i with z | ⟨b, hb, hbe, hbc⟩
                   · exact z
                   · rw [hacc, hbe] at h143; exact absurd h143 (nI_pos (by omega))), hm⟩]; done)
               | (rw [zch, if_pos ⟨Or.inr (by rw [hbc]; exact Int32.not_le.mp h157), hm⟩]; done)
               | (rw [zch, if_neg (fun q => Or.elim q.1 (fun z => by rw [hbe] at z; exact absurd z (zne256 b (by omega))) (fun z => absurd h157 (Int32.not_le.mpr (by rw [hbc] at z; exact z))))]; exact hacc)))
    · refine r_ic hP c161_130 ?_
      refine r_goto hP c161_131 ?_
      refine r_is (ls' := [.ref 119, .int x, .int y, .int x1, .int (nI i), .long (zqw S nS nP i cs), .null, .int 1]) hP c161_135 (Nat.le_of_ble_eq_true rfl) rfl ?_
      refine r_il hP c161_137 rfl ?_
      refine r_ifeq hP c161_139 (fun h139 => absurd h139 (by decide)) (fun h139 => ?_)
      refine r_il hP c161_142 rfl ?_
      refine r_iflt hP c161_143 (fun h143 => ?_) (fun h143 => ?_)
      · refine r_il hP c161_160 rfl ?_
        refine r_goto hP c161_162 ?_
        refine r_is (ls' := [.ref 119, .int x, .int y, .int (nI i), .int (nI i), .long (zqw S nS nP i cs), .null, .int 1]) hP c161_166 (Nat.le_of_ble_eq_true rfl) rfl ?_
        refine r_inc (y := nI (i + 1)) (ls' := [.ref 119, .int x, .int y, .int (nI i), .int (nI (i + 1)), .long (zqw S nS nP i cs), .null, .int 1]) hP c161_167 rfl (nI_1 _) rfl ?_
        refine r_goto hP c161_170 ?_
        exact ih hlt _ _ _ _ (by
          have hqs := zqw_s S nS nP i cs
          first
            | (have hm : ¬ (x.toInt64 * zsw_ S nP cs ≤ 100 * (zsw_ S nP cs - znw S nS nP i cs)) := fun q => absurd h127 (Int64.not_lt.mpr (by rw [hqs]; exact q))
               rw [zch, if_neg (fun q => hm q.2)]; exact hacc)
            | (have hm : x.toInt64 * zsw_ S nP cs ≤ 100 * (zsw_ S nP cs - znw S nS nP i cs) := by have hq := Int64.not_lt.mp h127; rw [hqs] at hq; exact hq
               first
                 | (rw [zch, if_pos ⟨Or.inl (by
                     rcases zch_st S nS nP cs x i with z | ⟨b, hb, hbe, hbc⟩
                     · exact z
                     · rw [hacc, hbe] at h143; exact absurd h143 (nI_pos (by omega))), hm⟩]; done)
                 | (rw [zch, if_pos ⟨Or.inr (by rw [hbc]; exact Int32.not_le.mp h157), hm⟩]; done)
                 | (rw [zch, if_neg (fun q => Or.elim q.1 (fun z => by rw [hbe] at z; exact absurd z (zne256 b (by omega))) (fun z => absurd h157 (Int32.not_le.mpr (by rw [hbc] at z; exact z))))]; exact hacc)))
      · rcases zch_st S nS nP cs x i with z | ⟨b, hb, hbe, hbc⟩
        · rw [hacc, z] at h143; exact absurd (by decide : (-4 : Int32) < 0) h143
        have hx1 : x1 = nI b := hacc.trans hbe
        subst hx1
        refine r_al hP c161_146 rfl ?_
        refine r_il hP c161_147 rfl ?_
        refine r_cVi (as := [.int (nI i)]) (r := []) (I' := I) (L' := L) (R' := R) (x := zcs S i nP) (a := 119) hP c161_149 rfl (zj119 hKb) rfl (fun _ hq => y_costOf hP hKb hRb hD hs1 hp1 hp8 hs6 hw6 (st := i) (by omega) hq) ?_
        refine r_al hP c161_152 rfl ?_
        refine r_il hP c161_153 rfl ?_
        refine r_cVi (as := [.int (nI b)]) (r := [.int (zcs S i nP)]) (I' := I) (L' := L) (R' := R) (x := zcs S b nP) (a := 119) hP c161_154 rfl (zj119 hKb) rfl (fun _ hq => y_costOf hP hKb hRb hD hs1 hp1 hp8 hs6 hw6 (st := b) (by omega) hq) ?_
        refine r_ige hP c161_157 (fun h157 => ?_) (fun h157 => ?_)
        · refine r_il hP c161_165 rfl ?_
          refine r_is (ls' := [.ref 119, .int x, .int y, .int (nI b), .int (nI i), .long (zqw S nS nP i cs), .null, .int 1]) hP c161_166 (Nat.le_of_ble_eq_true rfl) rfl ?_
          refine r_inc (y := nI (i + 1)) (ls' := [.ref 119, .int x, .int y, .int (nI b), .int (nI (i + 1)), .long (zqw S nS nP i cs), .null, .int 1]) hP c161_167 rfl (nI_1 _) rfl ?_
          refine r_goto hP c161_170 ?_
          exact ih hlt _ _ _ _ (by
            have hqs := zqw_s S nS nP i cs
            first
              | (have hm : ¬ (x.toInt64 * zsw_ S nP cs ≤ 100 * (zsw_ S nP cs - znw S nS nP i cs)) := fun q => absurd h127 (Int64.not_lt.mpr (by rw [hqs]; exact q))
                 rw [zch, if_neg (fun q => hm q.2)]; exact hacc)
              | (have hm : x.toInt64 * zsw_ S nP cs ≤ 100 * (zsw_ S nP cs - znw S nS nP i cs) := by have hq := Int64.not_lt.mp h127; rw [hqs] at hq; exact hq
                 first
                   | (rw [zch, if_pos ⟨Or.inl (by
                       rcases zch_st S nS nP cs x i with z | ⟨b, hb, hbe, hbc⟩
                       · exact z
                       · rw [hacc, hbe] at h143; exact absurd h143 (nI_pos (by omega))), hm⟩]; done)
                   | (rw [zch, if_pos ⟨Or.inr (by rw [hbc]; exact Int32.not_le.mp h157), hm⟩]; done)
                   | (rw [zch, if_neg (fun q => Or.elim q.1 (fun z => by rw [hbe] at z; exact absurd z (zne256 b (by omega))) (fun z => absurd h157 (Int32.not_le.mpr (by rw [hbc] at z; exact z))))]; exact hacc)))
        · refine r_il hP c161_160 rfl ?_
          refine r_goto hP c161_162 ?_
          refine r_is (ls' := [.ref 119, .int x, .int y, .int (nI i), .int (nI i), .long (zqw S nS nP i cs), .null, .int 1]) hP c161_166 (Nat.le_of_ble_eq_true rfl) rfl ?_
          refine r_inc (y := nI (i + 1)) (ls' := [.ref 119, .int x, .int y, .int (nI i), .int (nI (i + 1)), .long (zqw S nS nP i cs), .null, .int 1]) hP c161_167 rfl (nI_1 _) rfl ?_
          refine r_goto hP c161_170 ?_
          exact ih hlt _ _ _ _ (by
            have hqs := zqw_s S nS nP i cs
            first
              | (have hm : ¬ (x.toInt64 * zsw_ S nP cs ≤ 100 * (zsw_ S nP cs - znw S nS nP i cs)) := fun q => absurd h127 (Int64.not_lt.mpr (by rw [hqs]; exact q))
                 rw [zch, if_neg (fun q => hm q.2)]; exact hacc)
              | (have hm : x.toInt64 * zsw_ S nP cs ≤ 100 * (zsw_ S nP cs - znw S nS nP i cs) := by have hq := Int64.not_lt.mp h127; rw [hqs] at hq; exact hq
                 first
                   | (rw [zch, if_pos ⟨Or.inl (by
                       rcases zch_st S nS nP cs x i with z | ⟨b, hb, hbe, hbc⟩
                       · exact z
                       · rw [hacc, hbe] at h143; exact absurd h143 (nI_pos (by omega))), hm⟩]; done)
                   | (rw [zch, if_pos ⟨Or.inr (by rw [hbc]; exact Int32.not_le.mp h157), hm⟩]; done)
                   | (rw [zch, if_neg (fun q => Or.elim q.1 (fun z => by rw [hbe] at z; exact absurd z (zne256 b (by omega))) (fun z => absurd h157 (Int32.not_le.mpr (by rw [hbc] at z; exact z))))]; exact hacc)))
set_option maxRecDepth 4000 in
theorem y_change {K : ZKh} {P : Nat → Nat → List Value → List Value → ZMi → ZMl → ZMr → ZRt → Prop} {I : ZMi} {L : ZMl} {R : ZMr} {Q : ZRt} (hP : ZCl K P) {nS nP nW : Nat} {S : ZS} (hKb : zKb K) (hRb : zRb R) (hD : zD I 0 S nS nP nW) (hs1 : 1 ≤ nS) (hp1 : 1 ≤ nP) (hp8 : nP ≤ 8) (hs6 : nS ≤ 6) (hw6 : nW ≤ 6) {na : Nat} {A : ZA} (hA : zAm I na A) (hAo : zAo nS nP na A) (hn10 : na ≤ 10) {q y : Int32} (h : ∀ I2 L2, zfm_ I I2 → zfn_ L L2 →  Q (some (.int (f_change S nS nP (zps S nS nP A na) q y))) I2 L2 R) : P 161 0 [.ref 119, .int q, .int y, .null, .null, .null, .null, .null] [] I L R Q := by
  refine r_il hP c161_0 rfl ?_
  refine r_i2l hP c161_1 ?_
  refine r_lc hP c161_2 ?_
  refine r_lc hP c161_3 ?_
  refine r_cSi (as := [.long q.toInt64, .long 0, .long 100]) (r := []) (I' := I) (L' := L) (R' := R) (x := if 0 ≤ q.toInt64 ∧ q.toInt64 ≤ 100 then 1 else 0) hP c161_6 rfl rfl (fun _ h2 => x_isIn hP h2) ?_
  refine r_ti (y := if 0 ≤ q ∧ q ≤ 100 then 1 else 0) (zisC rfl rfl) ?_
  refine r_ifeqB hP c161_9 (fun h9 => ?_) (fun h9 => ?_)
  · refine r_ic hP c161_22 ?_
    first
      | exact r_irE hP c161_23 (h _ _ (fun _ _ _ _ => rfl) (fun _ _ _ => rfl)) (by rw [f_change, if_neg (fun q => h9 q.1)])
      | exact r_irE hP c161_23 (h _ _ (fun _ _ _ _ => rfl) (fun _ _ _ => rfl)) (by rw [f_change, if_neg (fun q => h19 q.2)])
      | exact r_irE hP c161_23 (h _ _ ha hb0) (by rw [f_change, if_pos ⟨h9, h19⟩, if_pos hl0])
      | exact r_irE hP c161_23 (h _ _ ha hb0) (by
          have hp256 := zp256 hp8
          rcases zch_st S nS nP (zps S nS nP A na) q (2 ^ nP) with z | ⟨b, hb, hbe, hbc⟩
          · rw [f_change, if_pos ⟨h9, h19⟩, if_neg hl0, if_pos z]
          · rw [hx1, hbe] at h174; exact absurd (nI_pos' (by omega)) h174)
      | exact r_irE hP c161_23 (h _ _ ha hb0) (by rw [f_change, if_pos ⟨h9, h19⟩, if_neg hl0, if_neg (by rw [hbe]; exact zne256 b (by omega)), if_pos h183, hbe])
      | exact r_irE hP c161_23 (h _ _ ha hb0) (by rw [f_change, if_pos ⟨h9, h19⟩, if_neg hl0, if_neg (by rw [hbe]; exact zne256 b (by omega)), if_neg h183, hbe, nI_clamp (by omega)])
  · refine r_il hP c161_12 rfl ?_
    refine r_i2l hP c161_13 ?_
    refine r_lc hP c161_14 ?_
    refine r_lc hP c161_15 ?_
    refine r_cSi (as := [.long y.toInt64, .long 0, .long 1]) (r := []) (I' := I) (L' := L) (R' := R) (x := if 0 ≤ y.toInt64 ∧ y.toInt64 ≤ 1 then 1 else 0) hP c161_16 rfl rfl (fun _ h2 => x_isIn hP h2) ?_
    refine r_ti (y := if 0 ≤ y ∧ y ≤ 1 then 1 else 0) (zisC rfl rfl) ?_
    refine r_ifneB hP c161_19 (fun h19 => ?_) (fun h19 => ?_)
    · refine r_al hP c161_24 rfl ?_
      refine r_cVvp (as := []) (r := []) (a := 119) hP c161_25 rfl (zj119 hKb) rfl (fun I2 L2 R2 => (zfm_ I I2 ∧ zfn_ L L2 ∧ zMs_ I2 L2 S nP (zps S nS nP A na)) ∧ R = R2) (fun Q2 hq => x_layStates hP hKb hRb hD hs1 hp1 hp8 hs6 hw6 hA hAo hn10 (fun I2 L2 a b c => hq I2 L2 R ⟨⟨a, b, c⟩, rfl⟩)) ?_
      rintro I2 L2 R2 ⟨⟨ha, hb0, hc⟩, rfl⟩
      refine r_al hP c161_28 rfl ?_
      refine r_gI (x := nI (zps S nS nP A na).length) hP c161_29 (zj119 hKb) hc.1 ?_
      refine r_ifne hP c161_32 (fun h32 => ?_) (fun h32 => ?_)
      · have hl0 : ¬ (zps S nS nP A na).length = 0 := fun q => h32 (by rw [q]; rfl)
        refine r_ic hP c161_38 ?_
        refine r_is (ls' := [.ref 119, .int q, .int y, .int (-4), .null, .null, .null, .null]) hP c161_40 (Nat.le_of_ble_eq_true rfl) rfl ?_
        refine r_ic hP c161_41 ?_
        refine r_is (ls' := [.ref 119, .int q, .int y, .int (-4), .int 0, .null, .null, .null]) hP c161_42 (Nat.le_of_ble_eq_true rfl) rfl ?_
        refine y_change_i hP hKb hRb (zD_fm hD ha) hs1 hp1 hp8 hs6 hw6 hc (zok_ps S nS hp8 A na) (fun v4 v5 v6 v7 => ?_) 0 (Nat.zero_le _) _ _ _ _ rfl
        obtain ⟨x1, hx1⟩ : ∃ x1, x1 = (zch S nS nP (zps S nS nP A na) q (2 ^ nP)).1 := ⟨_, rfl⟩
        rw [← hx1]
        refine r_il hP c161_173 rfl ?_
        refine r_ifge hP c161_174 (fun h174 => ?_) (fun h174 => ?_)
        · have hp256 := zp256 hp8
          rcases zch_st S nS nP (zps S nS nP A na) q (2 ^ nP) with z | ⟨b, hb, hbe, hbc⟩
          · rw [hx1, z] at h174; exact absurd h174 (by decide)
          have hx2 : x1 = nI b := hx1.trans hbe
          subst hx2
          refine r_il hP c161_182 rfl ?_
          refine r_ifne hP c161_183 (fun h183 => ?_) (fun h183 => ?_)
          · refine r_al hP c161_190 rfl ?_
            refine r_il hP c161_191 rfl ?_
            refine r_cVi (as := [.int (nI b)]) (r := []) (I' := I2) (L' := L2) (R' := R) (x := zcs S b nP) (a := 119) hP c161_192 rfl (zj119 hKb) rfl (fun _ hq => y_costOf hP hKb hRb (zD_fm hD ha) hs1 hp1 hp8 hs6 hw6 (st := b) (by omega) hq) ?_
            first
              | exact r_irE hP c161_195 (h _ _ (fun _ _ _ _ => rfl) (fun _ _ _ => rfl)) (by rw [f_change, if_neg (fun q => h9 q.1)])
              | exact r_irE hP c161_195 (h _ _ (fun _ _ _ _ => rfl) (fun _ _ _ => rfl)) (by rw [f_change, if_neg (fun q => h19 q.2)])
              | exact r_irE hP c161_195 (h _ _ ha hb0) (by rw [f_change, if_pos ⟨h9, h19⟩, if_pos hl0])
              | exact r_irE hP c161_195 (h _ _ ha hb0) (by
                  have hp256 := zp256 hp8
                  rcases zch_st S nS nP (zps S nS nP A na) q (2 ^ nP) with z | ⟨b, hb, hbe, hbc⟩
                  · rw [f_change, if_pos ⟨h9, h19⟩, if_neg hl0, if_pos z]
                  · rw [hx1, hbe] at h174; exact absurd (nI_pos' (by omega)) h174)
              | exact r_irE hP c161_195 (h _ _ ha hb0) (by rw [f_change, if_pos ⟨h9, h19⟩, if_neg hl0, if_neg (by rw [hbe]; exact zne256 b (by omega)), if_pos h183, hbe])
              | exact r_irE hP c161_195 (h _ _ ha hb0) (by rw [f_change, if_pos ⟨h9, h19⟩, if_neg hl0, if_neg (by rw [hbe]; exact zne256 b (by omega)), if_neg h183, hbe, nI_clamp (by omega)])
          · refine r_il hP c161_186 rfl ?_
            refine r_goto hP c161_187 ?_
            first
              | exact r_irE hP c161_195 (h _ _ (fun _ _ _ _ => rfl) (fun _ _ _ => rfl)) (by rw [f_change, if_neg (fun q => h9 q.1)])
              | exact r_irE hP c161_195 (h _ _ (fun _ _ _ _ => rfl) (fun _ _ _ => rfl)) (by rw [f_change, if_neg (fun q => h19 q.2)])
              | exact r_irE hP c161_195 (h _ _ ha hb0) (by rw [f_change, if_pos ⟨h9, h19⟩, if_pos hl0])
              | exact r_irE hP c161_195 (h _ _ ha hb0) (by
                  have hp256 := zp256 hp8
                  rcases zch_st S nS nP (zps S nS nP A na) q (2 ^ nP) with z | ⟨b, hb, hbe, hbc⟩
                  · rw [f_change, if_pos ⟨h9, h19⟩, if_neg hl0, if_pos z]
                  · rw [hx1, hbe] at h174; exact absurd (nI_pos' (by omega)) h174)
              | exact r_irE hP c161_195 (h _ _ ha hb0) (by rw [f_change, if_pos ⟨h9, h19⟩, if_neg hl0, if_neg (by rw [hbe]; exact zne256 b (by omega)), if_pos h183, hbe])
              | exact r_irE hP c161_195 (h _ _ ha hb0) (by rw [f_change, if_pos ⟨h9, h19⟩, if_neg hl0, if_neg (by rw [hbe]; exact zne256 b (by omega)), if_neg h183, hbe, nI_clamp (by omega)])
        · refine r_ic hP c161_177 ?_
          refine r_goto hP c161_179 ?_
          first
            | exact r_irE hP c161_195 (h _ _ (fun _ _ _ _ => rfl) (fun _ _ _ => rfl)) (by rw [f_change, if_neg (fun q => h9 q.1)])
            | exact r_irE hP c161_195 (h _ _ (fun _ _ _ _ => rfl) (fun _ _ _ => rfl)) (by rw [f_change, if_neg (fun q => h19 q.2)])
            | exact r_irE hP c161_195 (h _ _ ha hb0) (by rw [f_change, if_pos ⟨h9, h19⟩, if_pos hl0])
            | exact r_irE hP c161_195 (h _ _ ha hb0) (by
                have hp256 := zp256 hp8
                rcases zch_st S nS nP (zps S nS nP A na) q (2 ^ nP) with z | ⟨b, hb, hbe, hbc⟩
                · rw [f_change, if_pos ⟨h9, h19⟩, if_neg hl0, if_pos z]
                · rw [hx1, hbe] at h174; exact absurd (nI_pos' (by omega)) h174)
            | exact r_irE hP c161_195 (h _ _ ha hb0) (by rw [f_change, if_pos ⟨h9, h19⟩, if_neg hl0, if_neg (by rw [hbe]; exact zne256 b (by omega)), if_pos h183, hbe])
            | exact r_irE hP c161_195 (h _ _ ha hb0) (by rw [f_change, if_pos ⟨h9, h19⟩, if_neg hl0, if_neg (by rw [hbe]; exact zne256 b (by omega)), if_neg h183, hbe, nI_clamp (by omega)])
      · have hl0 : (zps S nS nP A na).length = 0 := (nI_eq (b := 0) (by have := (zok_ps S nS hp8 A na).1; omega) (by decide)).mp h32
        refine r_ic hP c161_35 ?_
        first
          | exact r_irE hP c161_37 (h _ _ (fun _ _ _ _ => rfl) (fun _ _ _ => rfl)) (by rw [f_change, if_neg (fun q => h9 q.1)])
          | exact r_irE hP c161_37 (h _ _ (fun _ _ _ _ => rfl) (fun _ _ _ => rfl)) (by rw [f_change, if_neg (fun q => h19 q.2)])
          | exact r_irE hP c161_37 (h _ _ ha hb0) (by rw [f_change, if_pos ⟨h9, h19⟩, if_pos hl0])
          | exact r_irE hP c161_37 (h _ _ ha hb0) (by
              have hp256 := zp256 hp8
              rcases zch_st S nS nP (zps S nS nP A na) q (2 ^ nP) with z | ⟨b, hb, hbe, hbc⟩
              · rw [f_change, if_pos ⟨h9, h19⟩, if_neg hl0, if_pos z]
              · rw [hx1, hbe] at h174; exact absurd (nI_pos' (by omega)) h174)
          | exact r_irE hP c161_37 (h _ _ ha hb0) (by rw [f_change, if_pos ⟨h9, h19⟩, if_neg hl0, if_neg (by rw [hbe]; exact zne256 b (by omega)), if_pos h183, hbe])
          | exact r_irE hP c161_37 (h _ _ ha hb0) (by rw [f_change, if_pos ⟨h9, h19⟩, if_neg hl0, if_neg (by rw [hbe]; exact zne256 b (by omega)), if_neg h183, hbe, nI_clamp (by omega)])
    · refine r_ic hP c161_22 ?_
      first
        | exact r_irE hP c161_23 (h _ _ (fun _ _ _ _ => rfl) (fun _ _ _ => rfl)) (by rw [f_change, if_neg (fun q => h9 q.1)])
        | exact r_irE hP c161_23 (h _ _ (fun _ _ _ _ => rfl) (fun _ _ _ => rfl)) (by rw [f_change, if_neg (fun q => h19 q.2)])
        | exact r_irE hP c161_23 (h _ _ ha hb0) (by rw [f_change, if_pos ⟨h9, h19⟩, if_pos hl0])
        | exact r_irE hP c161_23 (h _ _ ha hb0) (by
            have hp256 := zp256 hp8
            rcases zch_st S nS nP (zps S nS nP A na) q (2 ^ nP) with z | ⟨b, hb, hbe, hbc⟩
            · rw [f_change, if_pos ⟨h9, h19⟩, if_neg hl0, if_pos z]
            · rw [hx1, hbe] at h174; exact absurd (nI_pos' (by omega)) h174)
        | exact r_irE hP c161_23 (h _ _ ha hb0) (by rw [f_change, if_pos ⟨h9, h19⟩, if_neg hl0, if_neg (by rw [hbe]; exact zne256 b (by omega)), if_pos h183, hbe])
        | exact r_irE hP c161_23 (h _ _ ha hb0) (by rw [f_change, if_pos ⟨h9, h19⟩, if_neg hl0, if_neg (by rw [hbe]; exact zne256 b (by omega)), if_neg h183, hbe, nI_clamp (by omega)])
theorem zgn_all {S : ZS} {T : Nat → Int64} {ns : Int64} {nP : Nat} : ∀ p, p ≤ nP → zgn S T (2 ^ nP - 1) ns p = (0, -4)
  | 0, _ => rfl
  | p + 1, h => by
    rw [zgn, if_pos (by rw [Nat.testBit_two_pow_sub_one]; exact decide_eq_true (by omega))]
    exact zgn_all p (by omega)
theorem zgn_st {S : ZS} {T : Nat → Int64} {ns : Int64} {ch : Nat} : ∀ p, (zgn S T ch ns p).2 = -4 ∨ ∃ q, q < p ∧ (zgn S T ch ns p).2 = nI q
  | 0 => Or.inl rfl
  | p + 1 => by
    have ih := zgn_st (S := S) (T := T) (ns := ns) (ch := ch) p
    have ih' : (zgn S T ch ns p).2 = -4 ∨ ∃ q, q < p + 1 ∧ (zgn S T ch ns p).2 = nI q := by
      rcases ih with h | ⟨q, h1, h2⟩
      · exact Or.inl h
      · exact Or.inr ⟨q, by omega, h2⟩
    rw [zgn]
    split
    · exact ih'
    · split
      · exact Or.inr ⟨p, by omega, rfl⟩
      · exact ih'
/-- a row as the model lays it -/
def zgm (S : ZS) (T : Nat → Int64) (ch : Nat) (du : Int64) (p : Nat) : Int64 × Int32 := if du = 0 then (0, -4) else zgn S T ch du p
theorem zgm_0 (S : ZS) (T : Nat → Int64) (ch : Nat) (du : Int64) : zgm S T ch du 0 = (0, -4) := by
  unfold zgm
  split <;> rfl
set_option maxRecDepth 4000 in
theorem y_rows_p {K : ZKh} {P : Nat → Nat → List Value → List Value → ZMi → ZMl → ZMr → ZRt → Prop} {I : ZMi} {L : ZMl} {R : ZMr} {Q : ZRt} (hP : ZCl K P) {nS nP nW : Nat} {S : ZS} (hKb : zKb K) (hRb : zRb R) (hD : zD I 0 S nS nP nW) (hs1 : 1 ≤ nS) (hp1 : 1 ≤ nP) (hp8 : nP ≤ 8) (hs6 : nS ≤ 6) (hw6 : nW ≤ 6) {ch : Nat} {T : Nat → Int64} {du : Int64} (hch : ch < 2 ^ nP) (hT : ∀ st, ch < st → st < 2 ^ nP → L 152 st = T st) (hdu : ¬ du = 0 → 0 < du) (hx : ∀ I2 L2 v6 v7, (∀ a k, ¬ (a = 153 ∧ k = ch) → I2 a k = I a k) → (∀ a k, ¬ (a = 152 ∧ k = ch) → L2 a k = L a k) → L2 152 ch = (zgm S T ch du nP).1 → I2 153 ch = (zgm S T ch du nP).2 → P 163 143 [.ref 119, .int (nI (2 ^ nP - 1)), .int (nI ch), .long du, .null, .int (nI nP), v6, v7] [] I2 L2 R Q) : ∀ p, p ≤ nP → ∀ (I1 : ZMi) (L1 : ZMl) (v6 v7 : Value), (∀ a k, ¬ (a = 153 ∧ k = ch) → I1 a k = I a k) ∧ (∀ a k, ¬ (a = 152 ∧ k = ch) → L1 a k = L a k) ∧ L1 152 ch = (zgm S T ch du p).1 ∧ I1 153 ch = (zgm S T ch du p).2 → P 163 50 [.ref 119, .int (nI (2 ^ nP - 1)), .int (nI ch), .long du, .null, .int (nI p), v6, v7] [] I1 L1 R Q := by
  refine zloop nP (fun p => ∀ (I1 : ZMi) (L1 : ZMl) (v6 v7 : Value), (∀ a k, ¬ (a = 153 ∧ k = ch) → I1 a k = I a k) ∧ (∀ a k, ¬ (a = 152 ∧ k = ch) → L1 a k = L a k) ∧ L1 152 ch = (zgm S T ch du p).1 ∧ I1 153 ch = (zgm S T ch du p).2 → P 163 50 [.ref 119, .int (nI (2 ^ nP - 1)), .int (nI ch), .long du, .null, .int (nI p), v6, v7] [] I1 L1 R Q) ?_
  intro p hle ih I1 L1 v6 v7 hacc
  have hc256 : ch < 256 := Nat.lt_of_lt_of_le hch (zp256 hp8)
  refine r_il hP c163_50 rfl ?_
  refine r_al hP c163_52 rfl ?_
  refine r_gR (x := 124) hP c163_53 (zj119 hKb) (zr119_5 hRb) ?_
  refine r_ic hP c163_56 ?_
  refine r_iald (j := 0) (x := nI nP) hP c163_57 (zk124 hKb) rfl (by decide) (zD_to hD (fun a h1 h2 k => hacc.1 a k (by omega))).2.1 ?_
  refine r_ige hP c163_58 (fun h58 => ?_) (fun h58 => ?_)
  · have he : p = nP := Nat.le_antisymm hle ((nI_leI (by omega) (by omega)).mp h58)
    subst he
    exact hx _ _ _ _ hacc.1 hacc.2.1 hacc.2.2.1 hacc.2.2.2
  · have hlt : p < nP := by
      rcases Nat.lt_or_ge p nP with q | q
      · exact q
      · exact absurd (nI_le q (by omega)) h58
    have hoe := zor_e ch hc256 p (by omega)
    have hor := zor_n nP hp8 ch hch p hlt
    have hor256 := hoe.2.1
    refine r_il hP c163_61 rfl ?_
    refine r_il hP c163_62 rfl ?_
    refine r_cSi (as := [.int (nI ch), .int (nI p)]) (r := []) (I' := I1) (L' := L1) (R' := R) (x := if ch.testBit p = true then 1 else 0) hP c163_64 rfl rfl (fun _ hq => x_has hP hc256 (by omega) hq) ?_
    refine r_ifneB hP c163_67 (fun h67 => ?_) (fun h67 => ?_)
    · refine r_inc (y := nI (p + 1)) (ls' := [.ref 119, .int (nI (2 ^ nP - 1)), .int (nI ch), .long du, .null, .int (nI (p + 1)), v6, v7]) hP c163_137 rfl (nI_1 _) rfl ?_
      refine r_goto hP c163_140 ?_
      exact ih hlt _ _ _ _ (by
        first
          | (have e1 : zgm S T ch du (p + 1) = zgm S T ch du p := by
               unfold zgm
               split
               · rfl
               · rw [zgn, if_pos h67]
             rw [e1]; exact hacc)
          | (have e0 : du = 0 := Classical.byContradiction (fun q => absurd h73 (Int64.not_le.mpr (hdu q)))
             have e1 : zgm S T ch du (p + 1) = zgm S T ch du p := by rw [zgm, zgm, if_pos e0, if_pos e0]
             rw [e1]; exact hacc)
          | (have e0 : ¬ du = 0 := fun q => h73 (by rw [q]; decide)
             have e2 : zgm S T ch du p = zgn S T ch du p := if_neg e0
             have e3 : zgm S T ch du (p + 1) = zgn S T ch du (p + 1) := if_neg e0
             rw [e3, zgn, if_neg h67]
             first
               | (have hq : (zgn S T ch du p).2 = -4 ∨ (S 8 p 0).toInt64 * du + T (ch ||| 2 ^ p) < (zgn S T ch du p).1 := Or.inl (by
                    rcases zgn_st (S := S) (T := T) (ns := du) (ch := ch) p with z | ⟨q, z1, z2⟩
                    · exact z
                    · rw [e2, z2] at h106; exact absurd h106 (nI_pos (by omega)))
                  rw [if_pos hq]; exact ⟨fun a k q => (zup_n _ _ _ _ q).trans (hacc.1 a k q), fun a k q => (zup_n _ _ _ _ q).trans (hacc.2.1 a k q), zup_s _ _ _ _, zup_s _ _ _ _⟩)
               | (have hq : (zgn S T ch du p).2 = -4 ∨ (S 8 p 0).toInt64 * du + T (ch ||| 2 ^ p) < (zgn S T ch du p).1 := Or.inr (by rw [← e2]; exact Int64.not_le.mp h118)
                  rw [if_pos hq]; exact ⟨fun a k q => (zup_n _ _ _ _ q).trans (hacc.1 a k q), fun a k q => (zup_n _ _ _ _ q).trans (hacc.2.1 a k q), zup_s _ _ _ _, zup_s _ _ _ _⟩)
               | (have hq : ¬ ((zgn S T ch du p).2 = -4 ∨ (S 8 p 0).toInt64 * du + T (ch ||| 2 ^ p) < (zgn S T ch du p).1) := fun q => by
                    rcases q with q | q
                    · rw [e2, q] at h106; exact absurd (by decide : (-4 : Int32) < 0) h106
                    · rw [← e2] at q; exact absurd h118 (Int64.not_le.mpr q)
                  rw [if_neg hq, ← e2]; exact hacc)))
    · have hgt := hoe.2.2 (by simpa using h67)
      refine r_ll hP c163_70 rfl ?_
      refine r_lc hP c163_71 ?_
      refine r_lcmp hP c163_72 ?_
      refine r_ifleL hP c163_73 (fun h73 => ?_) (fun h73 => ?_)
      · refine r_inc (y := nI (p + 1)) (ls' := [.ref 119, .int (nI (2 ^ nP - 1)), .int (nI ch), .long du, .null, .int (nI (p + 1)), v6, v7]) hP c163_137 rfl (nI_1 _) rfl ?_
        refine r_goto hP c163_140 ?_
        exact ih hlt _ _ _ _ (by
          first
            | (have e1 : zgm S T ch du (p + 1) = zgm S T ch du p := by
                 unfold zgm
                 split
                 · rfl
                 · rw [zgn, if_pos h67]
               rw [e1]; exact hacc)
            | (have e0 : du = 0 := Classical.byContradiction (fun q => absurd h73 (Int64.not_le.mpr (hdu q)))
               have e1 : zgm S T ch du (p + 1) = zgm S T ch du p := by rw [zgm, zgm, if_pos e0, if_pos e0]
               rw [e1]; exact hacc)
            | (have e0 : ¬ du = 0 := fun q => h73 (by rw [q]; decide)
               have e2 : zgm S T ch du p = zgn S T ch du p := if_neg e0
               have e3 : zgm S T ch du (p + 1) = zgn S T ch du (p + 1) := if_neg e0
               rw [e3, zgn, if_neg h67]
               first
                 | (have hq : (zgn S T ch du p).2 = -4 ∨ (S 8 p 0).toInt64 * du + T (ch ||| 2 ^ p) < (zgn S T ch du p).1 := Or.inl (by
                      rcases zgn_st (S := S) (T := T) (ns := du) (ch := ch) p with z | ⟨q, z1, z2⟩
                      · exact z
                      · rw [e2, z2] at h106; exact absurd h106 (nI_pos (by omega)))
                    rw [if_pos hq]; exact ⟨fun a k q => (zup_n _ _ _ _ q).trans (hacc.1 a k q), fun a k q => (zup_n _ _ _ _ q).trans (hacc.2.1 a k q), zup_s _ _ _ _, zup_s _ _ _ _⟩)
                 | (have hq : (zgn S T ch du p).2 = -4 ∨ (S 8 p 0).toInt64 * du + T (ch ||| 2 ^ p) < (zgn S T ch du p).1 := Or.inr (by rw [← e2]; exact Int64.not_le.mp h118)
                    rw [if_pos hq]; exact ⟨fun a k q => (zup_n _ _ _ _ q).trans (hacc.1 a k q), fun a k q => (zup_n _ _ _ _ q).trans (hacc.2.1 a k q), zup_s _ _ _ _, zup_s _ _ _ _⟩)
                 | (have hq : ¬ ((zgn S T ch du p).2 = -4 ∨ (S 8 p 0).toInt64 * du + T (ch ||| 2 ^ p) < (zgn S T ch du p).1) := fun q => by
                      rcases q with q | q
                      · rw [e2, q] at h106; exact absurd (by decide : (-4 : Int32) < 0) h106
                      · rw [← e2] at q; exact absurd h118 (Int64.not_le.mpr q)
                    rw [if_neg hq, ← e2]; exact hacc)))
      · refine r_ll hP c163_76 rfl ?_
        refine r_al hP c163_77 rfl ?_
        refine r_gR (x := 130) hP c163_78 (zj119 hKb) (zr119_11 hRb) ?_
        refine r_il hP c163_81 rfl ?_
        refine r_iald (j := p) (x := S 8 p 0) hP c163_83 (zk130 hKb) rfl (by omega) (zD_f (zD_to hD (fun a h1 h2 k => hacc.1 a k (by omega))) (by omega) 6 (by decide) (by decide)) ?_
        refine r_i2l hP c163_84 ?_
        refine r_lmul hP c163_85 ?_
        refine r_tl (y := (S 8 p 0).toInt64 * du) (Int64.mul_comm _ _) ?_
        refine r_al hP c163_86 rfl ?_
        refine r_gR (x := 152) hP c163_87 (zj119 hKb) (zr119_36 hRb) ?_
        refine r_il hP c163_90 rfl ?_
        refine r_ic hP c163_91 ?_
        refine r_il hP c163_92 rfl ?_
        refine r_ishl hP c163_94 ?_
        refine r_ior hP c163_95 ?_
        refine r_ti (y := nI (ch ||| 2 ^ p)) (zor_c ch hc256 p (by omega)) ?_
        refine r_lald (j := ch ||| 2 ^ p) (x := T (ch ||| 2 ^ p)) hP c163_96 (zk152 hKb) rfl (by omega) ((hacc.2.1 152 _ (by omega)).trans (hT _ hgt hor)) ?_
        refine r_ladd hP c163_97 ?_
        refine r_ls (ls' := [.ref 119, .int (nI (2 ^ nP - 1)), .int (nI ch), .long du, .null, .int (nI p), .long (((S 8 p 0).toInt64 * du) + (T (ch ||| 2 ^ p))), .null]) hP c163_98 (Nat.le_of_ble_eq_true rfl) rfl ?_
        refine r_al hP c163_100 rfl ?_
        refine r_gR (x := 153) hP c163_101 (zj119 hKb) (zr119_37 hRb) ?_
        refine r_il hP c163_104 rfl ?_
        refine r_iald (j := ch) (x := (zgm S T ch du p).2) hP c163_105 (zk153 hKb) rfl (by omega) hacc.2.2.2 ?_
        refine r_iflt hP c163_106 (fun h106 => ?_) (fun h106 => ?_)
        · refine r_al hP c163_121 rfl ?_
          refine r_gR (x := 152) hP c163_122 (zj119 hKb) (zr119_36 hRb) ?_
          refine r_il hP c163_125 rfl ?_
          refine r_ll hP c163_126 rfl ?_
          refine r_last (j := ch) hP c163_128 (zk152 hKb) rfl (by omega) ?_
          refine r_al hP c163_129 rfl ?_
          refine r_gR (x := 153) hP c163_130 (zj119 hKb) (zr119_37 hRb) ?_
          refine r_il hP c163_133 rfl ?_
          refine r_il hP c163_134 rfl ?_
          refine r_iast (j := ch) hP c163_136 (zk153 hKb) rfl (by omega) ?_
          refine r_inc (y := nI (p + 1)) (ls' := [.ref 119, .int (nI (2 ^ nP - 1)), .int (nI ch), .long du, .null, .int (nI (p + 1)), .long (((S 8 p 0).toInt64 * du) + (T (ch ||| 2 ^ p))), .null]) hP c163_137 rfl (nI_1 _) rfl ?_
          refine r_goto hP c163_140 ?_
          exact ih hlt _ _ _ _ (by
            first
              | (have e1 : zgm S T ch du (p + 1) = zgm S T ch du p := by
                   unfold zgm
                   split
                   · rfl
                   · rw [zgn, if_pos h67]
                 rw [e1]; exact hacc)
              | (have e0 : du = 0 := Classical.byContradiction (fun q => absurd h73 (Int64.not_le.mpr (hdu q)))
                 have e1 : zgm S T ch du (p + 1) = zgm S T ch du p := by rw [zgm, zgm, if_pos e0, if_pos e0]
                 rw [e1]; exact hacc)
              | (have e0 : ¬ du = 0 := fun q => h73 (by rw [q]; decide)
                 have e2 : zgm S T ch du p = zgn S T ch du p := if_neg e0
                 have e3 : zgm S T ch du (p + 1) = zgn S T ch du (p + 1) := if_neg e0
                 rw [e3, zgn, if_neg h67]
                 first
                   | (have hq : (zgn S T ch du p).2 = -4 ∨ (S 8 p 0).toInt64 * du + T (ch ||| 2 ^ p) < (zgn S T ch du p).1 := Or.inl (by
                        rcases zgn_st (S := S) (T := T) (ns := du) (ch := ch) p with z | ⟨q, z1, z2⟩
                        · exact z
                        · rw [e2, z2] at h106; exact absurd h106 (nI_pos (by omega)))
                      rw [if_pos hq]; exact ⟨fun a k q => (zup_n _ _ _ _ q).trans (hacc.1 a k q), fun a k q => (zup_n _ _ _ _ q).trans (hacc.2.1 a k q), zup_s _ _ _ _, zup_s _ _ _ _⟩)
                   | (have hq : (zgn S T ch du p).2 = -4 ∨ (S 8 p 0).toInt64 * du + T (ch ||| 2 ^ p) < (zgn S T ch du p).1 := Or.inr (by rw [← e2]; exact Int64.not_le.mp h118)
                      rw [if_pos hq]; exact ⟨fun a k q => (zup_n _ _ _ _ q).trans (hacc.1 a k q), fun a k q => (zup_n _ _ _ _ q).trans (hacc.2.1 a k q), zup_s _ _ _ _, zup_s _ _ _ _⟩)
                   | (have hq : ¬ ((zgn S T ch du p).2 = -4 ∨ (S 8 p 0).toInt64 * du + T (ch ||| 2 ^ p) < (zgn S T ch du p).1) := fun q => by
                        rcases q with q | q
                        · rw [e2, q] at h106; exact absurd (by decide : (-4 : Int32) < 0) h106
                        · rw [← e2] at q; exact absurd h118 (Int64.not_le.mpr q)
                      rw [if_neg hq, ← e2]; exact hacc)))
        · refine r_ll hP c163_109 rfl ?_
          refine r_al hP c163_111 rfl ?_
          refine r_gR (x := 152) hP c163_112 (zj119 hKb) (zr119_36 hRb) ?_
          refine r_il hP c163_115 rfl ?_
          refine r_lald (j := ch) (x := (zgm S T ch du p).1) hP c163_116 (zk152 hKb) rfl (by omega) hacc.2.2.1 ?_
          refine r_lcmp hP c163_117 ?_
          refine r_ifgeL hP c163_118 (fun h118 => ?_) (fun h118 => ?_)
          · refine r_inc (y := nI (p + 1)) (ls' := [.ref 119, .int (nI (2 ^ nP - 1)), .int (nI ch), .long du, .null, .int (nI (p + 1)), .long (((S 8 p 0).toInt64 * du) + (T (ch ||| 2 ^ p))), .null]) hP c163_137 rfl (nI_1 _) rfl ?_
            refine r_goto hP c163_140 ?_
            exact ih hlt _ _ _ _ (by
              first
                | (have e1 : zgm S T ch du (p + 1) = zgm S T ch du p := by
                     unfold zgm
                     split
                     · rfl
                     · rw [zgn, if_pos h67]
                   rw [e1]; exact hacc)
                | (have e0 : du = 0 := Classical.byContradiction (fun q => absurd h73 (Int64.not_le.mpr (hdu q)))
                   have e1 : zgm S T ch du (p + 1) = zgm S T ch du p := by rw [zgm, zgm, if_pos e0, if_pos e0]
                   rw [e1]; exact hacc)
                | (have e0 : ¬ du = 0 := fun q => h73 (by rw [q]; decide)
                   have e2 : zgm S T ch du p = zgn S T ch du p := if_neg e0
                   have e3 : zgm S T ch du (p + 1) = zgn S T ch du (p + 1) := if_neg e0
                   rw [e3, zgn, if_neg h67]
                   first
                     | (have hq : (zgn S T ch du p).2 = -4 ∨ (S 8 p 0).toInt64 * du + T (ch ||| 2 ^ p) < (zgn S T ch du p).1 := Or.inl (by
                          rcases zgn_st (S := S) (T := T) (ns := du) (ch := ch) p with z | ⟨q, z1, z2⟩
                          · exact z
                          · rw [e2, z2] at h106; exact absurd h106 (nI_pos (by omega)))
                        rw [if_pos hq]; exact ⟨fun a k q => (zup_n _ _ _ _ q).trans (hacc.1 a k q), fun a k q => (zup_n _ _ _ _ q).trans (hacc.2.1 a k q), zup_s _ _ _ _, zup_s _ _ _ _⟩)
                     | (have hq : (zgn S T ch du p).2 = -4 ∨ (S 8 p 0).toInt64 * du + T (ch ||| 2 ^ p) < (zgn S T ch du p).1 := Or.inr (by rw [← e2]; exact Int64.not_le.mp h118)
                        rw [if_pos hq]; exact ⟨fun a k q => (zup_n _ _ _ _ q).trans (hacc.1 a k q), fun a k q => (zup_n _ _ _ _ q).trans (hacc.2.1 a k q), zup_s _ _ _ _, zup_s _ _ _ _⟩)
                     | (have hq : ¬ ((zgn S T ch du p).2 = -4 ∨ (S 8 p 0).toInt64 * du + T (ch ||| 2 ^ p) < (zgn S T ch du p).1) := fun q => by
                          rcases q with q | q
                          · rw [e2, q] at h106; exact absurd (by decide : (-4 : Int32) < 0) h106
                          · rw [← e2] at q; exact absurd h118 (Int64.not_le.mpr q)
                        rw [if_neg hq, ← e2]; exact hacc)))
          · refine r_al hP c163_121 rfl ?_
            refine r_gR (x := 152) hP c163_122 (zj119 hKb) (zr119_36 hRb) ?_
            refine r_il hP c163_125 rfl ?_
            refine r_ll hP c163_126 rfl ?_
            refine r_last (j := ch) hP c163_128 (zk152 hKb) rfl (by omega) ?_
            refine r_al hP c163_129 rfl ?_
            refine r_gR (x := 153) hP c163_130 (zj119 hKb) (zr119_37 hRb) ?_
            refine r_il hP c163_133 rfl ?_
            refine r_il hP c163_134 rfl ?_
            refine r_iast (j := ch) hP c163_136 (zk153 hKb) rfl (by omega) ?_
            refine r_inc (y := nI (p + 1)) (ls' := [.ref 119, .int (nI (2 ^ nP - 1)), .int (nI ch), .long du, .null, .int (nI (p + 1)), .long (((S 8 p 0).toInt64 * du) + (T (ch ||| 2 ^ p))), .null]) hP c163_137 rfl (nI_1 _) rfl ?_
            refine r_goto hP c163_140 ?_
            exact ih hlt _ _ _ _ (by
              first
                | (have e1 : zgm S T ch du (p + 1) = zgm S T ch du p := by
                     unfold zgm
                     split
                     · rfl
                     · rw [zgn, if_pos h67]
                   rw [e1]; exact hacc)
                | (have e0 : du = 0 := Classical.byContradiction (fun q => absurd h73 (Int64.not_le.mpr (hdu q)))
                   have e1 : zgm S T ch du (p + 1) = zgm S T ch du p := by rw [zgm, zgm, if_pos e0, if_pos e0]
                   rw [e1]; exact hacc)
                | (have e0 : ¬ du = 0 := fun q => h73 (by rw [q]; decide)
                   have e2 : zgm S T ch du p = zgn S T ch du p := if_neg e0
                   have e3 : zgm S T ch du (p + 1) = zgn S T ch du (p + 1) := if_neg e0
                   rw [e3, zgn, if_neg h67]
                   first
                     | (have hq : (zgn S T ch du p).2 = -4 ∨ (S 8 p 0).toInt64 * du + T (ch ||| 2 ^ p) < (zgn S T ch du p).1 := Or.inl (by
                          rcases zgn_st (S := S) (T := T) (ns := du) (ch := ch) p with z | ⟨q, z1, z2⟩
                          · exact z
                          · rw [e2, z2] at h106; exact absurd h106 (nI_pos (by omega)))
                        rw [if_pos hq]; exact ⟨fun a k q => (zup_n _ _ _ _ q).trans (hacc.1 a k q), fun a k q => (zup_n _ _ _ _ q).trans (hacc.2.1 a k q), zup_s _ _ _ _, zup_s _ _ _ _⟩)
                     | (have hq : (zgn S T ch du p).2 = -4 ∨ (S 8 p 0).toInt64 * du + T (ch ||| 2 ^ p) < (zgn S T ch du p).1 := Or.inr (by rw [← e2]; exact Int64.not_le.mp h118)
                        rw [if_pos hq]; exact ⟨fun a k q => (zup_n _ _ _ _ q).trans (hacc.1 a k q), fun a k q => (zup_n _ _ _ _ q).trans (hacc.2.1 a k q), zup_s _ _ _ _, zup_s _ _ _ _⟩)
                     | (have hq : ¬ ((zgn S T ch du p).2 = -4 ∨ (S 8 p 0).toInt64 * du + T (ch ||| 2 ^ p) < (zgn S T ch du p).1) := fun q => by
                          rcases q with q | q
                          · rw [e2, q] at h106; exact absurd (by decide : (-4 : Int32) < 0) h106
                          · rw [← e2] at q; exact absurd h118 (Int64.not_le.mpr q)
                        rw [if_neg hq, ← e2]; exact hacc)))
set_option maxRecDepth 4000 in
theorem y_rows_l {K : ZKh} {P : Nat → Nat → List Value → List Value → ZMi → ZMl → ZMr → ZRt → Prop} {I : ZMi} {L : ZMl} {R : ZMr} {Q : ZRt} (hP : ZCl K P) {nS nP nW : Nat} {S : ZS} (hKb : zKb K) (hRb : zRb R) (hD : zD I 0 S nS nP nW) (hs1 : 1 ≤ nS) (hp1 : 1 ≤ nP) (hp8 : nP ≤ 8) (hs6 : nS ≤ 6) (hw6 : nW ≤ 6) (hsr : zSr S nS nP nW 300 800) {cs : List Nat} (hms : zMs_ I L S nP cs) (hok : zok S nP cs) (h : ∀ I2 L2, (∀ a k, a ≠ 153 → I2 a k = I a k) → (∀ a k, a ≠ 152 → L2 a k = L a k) → L2 152 0 = (zdt S nS nP cs (2 ^ nP)).1 0 → I2 153 0 = (zdt S nS nP cs (2 ^ nP)).2 → Q none I2 L2 R) : ∀ j, j ≤ (2 ^ nP) → ∀ (I1 : ZMi) (L1 : ZMl) (v3 v4 v5 v6 v7 : Value), 1 ≤ j ∧ (∀ a k, a ≠ 153 → I1 a k = I a k) ∧ (∀ a k, a ≠ 152 → L1 a k = L a k) ∧ (∀ st, 2 ^ nP - j ≤ st → st < 2 ^ nP → L1 152 st = (zdt S nS nP cs j).1 st) ∧ (1 < j → I1 153 (2 ^ nP - j) = (zdt S nS nP cs j).2) → P 163 22 [.ref 119, .int (nI (2 ^ nP - 1)), .int (nI (2 ^ nP - j) - 1), v3, v4, v5, v6, v7] [] I1 L1 R Q := by
  refine zloop (2 ^ nP) (fun j => ∀ (I1 : ZMi) (L1 : ZMl) (v3 v4 v5 v6 v7 : Value), 1 ≤ j ∧ (∀ a k, a ≠ 153 → I1 a k = I a k) ∧ (∀ a k, a ≠ 152 → L1 a k = L a k) ∧ (∀ st, 2 ^ nP - j ≤ st → st < 2 ^ nP → L1 152 st = (zdt S nS nP cs j).1 st) ∧ (1 < j → I1 153 (2 ^ nP - j) = (zdt S nS nP cs j).2) → P 163 22 [.ref 119, .int (nI (2 ^ nP - 1)), .int (nI (2 ^ nP - j) - 1), v3, v4, v5, v6, v7] [] I1 L1 R Q) ?_
  intro j hle ih I1 L1 v3 v4 v5 v6 v7 hacc
  have hp256 := zp256 hp8
  have hp2 : 2 ≤ 2 ^ nP := by
    have := Nat.pow_le_pow_right (n := 2) (by decide) hp1
    omega
  refine r_il hP c163_22 rfl ?_
  refine r_iflt hP c163_23 (fun h23 => ?_) (fun h23 => ?_)
  · have he : j = 2 ^ nP := by
      rcases Nat.lt_or_ge j (2 ^ nP) with q | q
      · rw [zdn q hp256] at h23
        exact absurd h23 (nI_pos (by omega))
      · omega
    subst he
    exact r_vr hP c163_149 (h _ _ hacc.2.1 hacc.2.2.1 (hacc.2.2.2.1 0 (by omega) (by omega)) (by have hz := hacc.2.2.2.2 (by omega); rw [Nat.sub_self] at hz; exact hz))
  · have hlt : j < 2 ^ nP := by
      rcases Nat.lt_or_ge j (2 ^ nP) with q | q
      · exact q
      · exact absurd (by rw [show 2 ^ nP - j = 0 from by omega]; decide) h23
    rw [zdn hlt hp256]
    refine r_al hP c163_26 rfl ?_
    refine r_il hP c163_27 rfl ?_
    refine r_cVl (as := [.int (nI (2 ^ nP - 1 - j))]) (r := []) (I' := I1) (L' := L1) (R' := R) (x := znw S nS nP (2 ^ nP - 1 - j) cs) (a := 119) hP c163_28 rfl (zj119 hKb) rfl (fun _ hq => y_hums hP hKb hRb (zD_to hD (fun a h1 h2 k => hacc.2.1 a k (by omega))) hs1 hp1 hp8 hs6 hw6 (show zMs_ I1 L1 S nP cs from ⟨(hacc.2.1 119 32 (by decide)).trans hms.1, fun i hi => ⟨(hacc.2.1 149 i (by decide)).trans (hms.2 i hi).1, (hacc.2.2.1 150 i (by decide)).trans (hms.2 i hi).2⟩⟩) hok (by omega) hq) ?_
    refine r_ls (ls' := [.ref 119, .int (nI (2 ^ nP - 1)), .int (nI (2 ^ nP - 1 - j)), .long (znw S nS nP (2 ^ nP - 1 - j) cs), .null, v5, v6, v7]) hP c163_31 (Nat.le_of_ble_eq_true rfl) rfl ?_
    refine r_al hP c163_32 rfl ?_
    refine r_gR (x := 153) hP c163_33 (zj119 hKb) (zr119_37 hRb) ?_
    refine r_il hP c163_36 rfl ?_
    refine r_ic hP c163_37 ?_
    refine r_iast (j := 2 ^ nP - 1 - j) hP c163_39 (zk153 hKb) rfl (by omega) ?_
    refine r_al hP c163_40 rfl ?_
    refine r_gR (x := 152) hP c163_41 (zj119 hKb) (zr119_36 hRb) ?_
    refine r_il hP c163_44 rfl ?_
    refine r_lc hP c163_45 ?_
    refine r_last (j := 2 ^ nP - 1 - j) hP c163_46 (zk152 hKb) rfl (by omega) ?_
    refine r_ic hP c163_47 ?_
    refine r_is (ls' := [.ref 119, .int (nI (2 ^ nP - 1)), .int (nI (2 ^ nP - 1 - j)), .long (znw S nS nP (2 ^ nP - 1 - j) cs), .null, .int 0, v6, v7]) hP c163_48 (Nat.le_of_ble_eq_true rfl) rfl ?_
    have htr : ∀ p, p < nP → ∃ a, a ≤ 9 ∧ S 6 p 0 = nI a := fun p hp => (hsr.2.1 p hp).2.2.2.1
    have hdu : ¬ znw S nS nP (2 ^ nP - 1 - j) cs = 0 → 0 < znw S nS nP (2 ^ nP - 1 - j) cs := fun q => by
      have e1 := znw_N (nS := nS) htr (2 ^ nP - 1 - j) cs
      have b1 : zsN (znwN S nS nP (2 ^ nP - 1 - j)) cs ≤ 3700000000 := zsN_8 htr hp8 hok.1 (fun c _ => znwN_le S nS nP (2 ^ nP - 1 - j) c)
      rw [e1] at q ⊢
      have q2 : ¬ zsN (znwN S nS nP (2 ^ nP - 1 - j)) cs = 0 := fun z => q ((zln0 (by omega)).mpr z)
      exact (pk_lLT (a := 0) (by decide) (by omega)).mpr (by omega)
    refine y_rows_p hP hKb hRb (zD_to hD (fun a h1 h2 k => (zup_n _ _ _ _ (by omega)).trans (hacc.2.1 a k (by omega)))) hs1 hp1 hp8 hs6 hw6 (T := (zdt S nS nP cs j).1) (by omega) (fun st h1 h2 => (zup_n _ _ _ _ (by omega)).trans (hacc.2.2.2.1 st (by omega) h2)) hdu (fun I2 L2 w6 w7 ha hb hc hd => ?_) 0 (Nat.zero_le _) _ _ _ _ ⟨fun _ _ _ => rfl, fun _ _ _ => rfl, by rw [zgm_0]; exact zup_s _ _ _ _, by rw [zgm_0]; exact zup_s _ _ _ _⟩
    refine r_inc (y := nI (2 ^ nP - (j + 1)) - 1) (ls' := [.ref 119, .int (nI (2 ^ nP - 1)), .int (nI (2 ^ nP - (j + 1)) - 1), .long (znw S nS nP (2 ^ nP - 1 - j) cs), .null, .int (nI nP), w6, w7]) hP c163_143 rfl (zdm hlt hp256) rfl ?_
    refine r_goto hP c163_146 ?_
    exact ih hlt _ _ _ _ _ _ _ (by
      have hz : ∀ st, st < 2 ^ nP → 2 ^ nP - (j + 1) ≤ st → st ≠ 2 ^ nP - 1 - j → 2 ^ nP - j ≤ st := fun st a b c => by omega
      have hgz : zgm S (zdt S nS nP cs j).1 (2 ^ nP - 1 - j) (znw S nS nP (2 ^ nP - 1 - j) cs) nP = zdr S nS nP cs (zdt S nS nP cs j).1 (2 ^ nP - 1 - j) := rfl
      refine ⟨by omega, fun a k q => (ha a k (fun z => q z.1)).trans ((zup_na _ _ _ _ q).trans (hacc.2.1 a k q)), fun a k q => (hb a k (fun z => q z.1)).trans ((zup_na _ _ _ _ q).trans (hacc.2.2.1 a k q)), fun st a b => ?_, fun _ => ?_⟩
      · by_cases e : st = 2 ^ nP - 1 - j
        · rw [e, hc, hgz, zdt]; simp only [if_pos]
        · rw [hb 152 st (fun z => e z.2), zup_nk _ _ _ _ e, zdt]; simp only [if_neg e]; exact hacc.2.2.2.1 st (hz st b a e) b
      · rw [show 2 ^ nP - (j + 1) = 2 ^ nP - 1 - j from by omega, hd, hgz, zdt])
set_option maxRecDepth 4000 in
theorem y_rows {K : ZKh} {P : Nat → Nat → List Value → List Value → ZMi → ZMl → ZMr → ZRt → Prop} {I : ZMi} {L : ZMl} {R : ZMr} {Q : ZRt} (hP : ZCl K P) {nS nP nW : Nat} {S : ZS} (hKb : zKb K) (hRb : zRb R) (hD : zD I 0 S nS nP nW) (hs1 : 1 ≤ nS) (hp1 : 1 ≤ nP) (hp8 : nP ≤ 8) (hs6 : nS ≤ 6) (hw6 : nW ≤ 6) (hsr : zSr S nS nP nW 300 800) {cs : List Nat} (hms : zMs_ I L S nP cs) (hok : zok S nP cs) (h : ∀ I2 L2, (∀ a k, a ≠ 153 → I2 a k = I a k) → (∀ a k, a ≠ 152 → L2 a k = L a k) → L2 152 0 = (zdt S nS nP cs (2 ^ nP)).1 0 → I2 153 0 = (zdt S nS nP cs (2 ^ nP)).2 → Q none I2 L2 R) : P 163 0 [.ref 119, .null, .null, .null, .null, .null, .null, .null] [] I L R Q := by
  have hp256 := zp256 hp8
  have hp2 : 2 ≤ 2 ^ nP := by
    have := Nat.pow_le_pow_right (n := 2) (by decide) hp1
    omega
  refine r_ic hP c163_0 ?_
  refine r_al hP c163_1 rfl ?_
  refine r_gR (x := 124) hP c163_2 (zj119 hKb) (zr119_5 hRb) ?_
  refine r_ic hP c163_5 ?_
  refine r_iald (j := 0) (x := nI nP) hP c163_6 (zk124 hKb) rfl (by decide) hD.2.1 ?_
  refine r_ishl hP c163_7 ?_
  refine r_ti (y := nI (2 ^ nP)) (zpow nP hp8) ?_
  refine r_ic hP c163_8 ?_
  refine r_isub hP c163_9 ?_
  refine r_ti (y := nI (2 ^ nP - 1)) (pk_sub (b := 1) (Nat.two_pow_pos nP)) ?_
  refine r_is (ls' := [.ref 119, .int (nI (2 ^ nP - 1)), .null, .null, .null, .null, .null, .null]) hP c163_10 (Nat.le_of_ble_eq_true rfl) rfl ?_
  refine r_al hP c163_11 rfl ?_
  refine r_gR (x := 152) hP c163_12 (zj119 hKb) (zr119_36 hRb) ?_
  refine r_il hP c163_15 rfl ?_
  refine r_lc hP c163_16 ?_
  refine r_last (j := 2 ^ nP - 1) hP c163_17 (zk152 hKb) rfl (by omega) ?_
  refine r_il hP c163_18 rfl ?_
  refine r_ic hP c163_19 ?_
  refine r_isub hP c163_20 ?_
  refine r_is (ls' := [.ref 119, .int (nI (2 ^ nP - 1)), .int ((nI (2 ^ nP - 1)) - 1), .null, .null, .null, .null, .null]) hP c163_21 (Nat.le_of_ble_eq_true rfl) rfl ?_
  have e0 : nI (2 ^ nP - 1) - 1 = nI (2 ^ nP - 1) - 1 := rfl
  exact y_rows_l hP hKb hRb hD hs1 hp1 hp8 hs6 hw6 hsr hms hok h 1 (by omega) _ _ _ _ _ _ _ ⟨Nat.le_refl _, fun _ _ _ => rfl, fun a k q => zup_na _ _ _ _ q, fun st a b => by
    have e : st = 2 ^ nP - 1 := by omega
    subst e
    rw [zup_s]
    show (0 : Int64) = (zdt S nS nP cs (0 + 1)).1 (2 ^ nP - 1)
    rw [zdt]
    simp only [Nat.sub_zero, if_pos, zdr]
    split
    · rfl
    · rw [zgn_all nP (Nat.le_refl _)], fun q => absurd q (by decide)⟩
theorem zdt_nil (S : ZS) (nS nP : Nat) : ∀ j, (∀ st, (zdt S nS nP [] j).1 st = 0) ∧ (zdt S nS nP [] j).2 = -4
  | 0 => ⟨fun _ => rfl, rfl⟩
  | j + 1 => by
    have ih := zdt_nil S nS nP j
    rw [zdt]
    refine ⟨fun st => ?_, rfl⟩
    show (if st = 2 ^ nP - 1 - j then _ else _) = _
    split
    · rfl
    · exact ih.1 st
set_option maxRecDepth 4000 in
theorem y_obo {K : ZKh} {P : Nat → Nat → List Value → List Value → ZMi → ZMl → ZMr → ZRt → Prop} {I : ZMi} {L : ZMl} {R : ZMr} {Q : ZRt} (hP : ZCl K P) {nS nP nW : Nat} {S : ZS} (hKb : zKb K) (hRb : zRb R) (hD : zD I 0 S nS nP nW) (hs1 : 1 ≤ nS) (hp1 : 1 ≤ nP) (hp8 : nP ≤ 8) (hs6 : nS ≤ 6) (hw6 : nW ≤ 6) (hsr : zSr S nS nP nW 300 800) {na : Nat} {A : ZA} (hA : zAm I na A) (hAo : zAo nS nP na A) (hn10 : na ≤ 10) {y : Int32} (h : ∀ I2 L2, (∀ a k, ¬ (a = 119 ∧ k = 32) → a ≠ 149 → a ≠ 153 → I2 a k = I a k) → (∀ a, a ≠ 150 → a ≠ 152 → ∀ k, L2 a k = L a k) →  Q (some (.long (f_obo S nS nP (zps S nS nP A na) y))) I2 L2 R) : P 164 0 [.ref 119, .int y] [] I L R Q := by
  refine r_il hP c164_0 rfl ?_
  refine r_i2l hP c164_1 ?_
  refine r_lc hP c164_2 ?_
  refine r_lc hP c164_3 ?_
  refine r_cSi (as := [.long y.toInt64, .long 0, .long 1]) (r := []) (I' := I) (L' := L) (R' := R) (x := if 0 ≤ y.toInt64 ∧ y.toInt64 ≤ 1 then 1 else 0) hP c164_4 rfl rfl (fun _ h2 => x_isIn hP h2) ?_
  refine r_ti (y := if 0 ≤ y ∧ y ≤ 1 then 1 else 0) (zisC rfl rfl) ?_
  refine r_ifneB hP c164_7 (fun h7 => ?_) (fun h7 => ?_)
  · refine r_al hP c164_14 rfl ?_
    refine r_cVvp (as := []) (r := []) (a := 119) hP c164_15 rfl (zj119 hKb) rfl (fun I2 L2 R2 => (zfm_ I I2 ∧ zfn_ L L2 ∧ zMs_ I2 L2 S nP (zps S nS nP A na)) ∧ R = R2) (fun Q2 hq => x_layStates hP hKb hRb hD hs1 hp1 hp8 hs6 hw6 hA hAo hn10 (fun I2 L2 a b c => hq I2 L2 R ⟨⟨a, b, c⟩, rfl⟩)) ?_
    rintro I2 L2 R2 ⟨⟨ha, hb, hc⟩, rfl⟩
    refine r_al hP c164_18 rfl ?_
    refine r_gI (x := nI (zps S nS nP A na).length) hP c164_19 (zj119 hKb) hc.1 ?_
    refine r_ifne hP c164_22 (fun h22 => ?_) (fun h22 => ?_)
    · have hl0 : ¬ (zps S nS nP A na).length = 0 := fun q => h22 (by rw [q]; rfl)
      refine r_al hP c164_37 rfl ?_
      refine r_cVvp (as := []) (r := []) (a := 119) hP c164_38 rfl (zj119 hKb) rfl (fun I3 L3 R3 => ((∀ a k, a ≠ 153 → I3 a k = I2 a k) ∧ (∀ a k, a ≠ 152 → L3 a k = L2 a k) ∧ L3 152 0 = (zdt S nS nP (zps S nS nP A na) (2 ^ nP)).1 0 ∧ I3 153 0 = (zdt S nS nP (zps S nS nP A na) (2 ^ nP)).2) ∧ R = R3) (fun Q2 hq => y_rows hP hKb hRb (zD_fm hD ha) hs1 hp1 hp8 hs6 hw6 hsr hc (zok_ps S nS hp8 A na) (fun I3 L3 a b c d => hq I3 L3 R ⟨⟨a, b, c, d⟩, rfl⟩)) ?_
      rintro I3 L3 R3 ⟨⟨ga, gb, gc, gd⟩, rfl⟩
      refine r_il hP c164_41 rfl ?_
      refine r_ifne hP c164_42 (fun h42 => ?_) (fun h42 => ?_)
      · refine r_al hP c164_54 rfl ?_
        refine r_gR (x := 153) hP c164_55 (zj119 hKb) (zr119_37 hRb) ?_
        refine r_ic hP c164_58 ?_
        refine r_iald (j := 0) (x := (zdt S nS nP (zps S nS nP A na) (2 ^ nP)).2) hP c164_59 (zk153 hKb) rfl (by decide) gd ?_
        refine r_i2l hP c164_60 ?_
        first
          | exact r_lrE hP c164_61 (h _ _ (fun _ _ _ _ _ => rfl) (fun _ _ _ _ => rfl)) (by rw [f_obo, if_neg h7])
          | exact r_lrE hP c164_61 (h _ _ (fun a k q1 q2 q3 => ha a k q1 q2) (fun a q1 q2 k => hb a q1 k)) (by rw [f_obo, if_pos h7, if_pos h26, hl0, (zdt_nil S nS nP _).1])
          | exact r_lrE hP c164_61 (h _ _ (fun a k q1 q2 q3 => ha a k q1 q2) (fun a q1 q2 k => hb a q1 k)) (by rw [f_obo, if_pos h7, if_neg h26, hl0, (zdt_nil S nS nP _).2]; rfl)
          | exact r_lrE hP c164_61 (h _ _ (fun a k q1 q2 q3 => (ga a k q3).trans (ha a k q1 q2)) (fun a q1 q2 k => (gb a k q2).trans (hb a q1 k))) (by rw [f_obo, if_pos h7, if_pos h42])
          | exact r_lrE hP c164_61 (h _ _ (fun a k q1 q2 q3 => (ga a k q3).trans (ha a k q1 q2)) (fun a q1 q2 k => (gb a k q2).trans (hb a q1 k))) (by rw [f_obo, if_pos h7, if_neg h42])
      · refine r_al hP c164_45 rfl ?_
        refine r_gR (x := 152) hP c164_46 (zj119 hKb) (zr119_36 hRb) ?_
        refine r_ic hP c164_49 ?_
        refine r_lald (j := 0) (x := (zdt S nS nP (zps S nS nP A na) (2 ^ nP)).1 0) hP c164_50 (zk152 hKb) rfl (by decide) gc ?_
        refine r_goto hP c164_51 ?_
        first
          | exact r_lrE hP c164_61 (h _ _ (fun _ _ _ _ _ => rfl) (fun _ _ _ _ => rfl)) (by rw [f_obo, if_neg h7])
          | exact r_lrE hP c164_61 (h _ _ (fun a k q1 q2 q3 => ha a k q1 q2) (fun a q1 q2 k => hb a q1 k)) (by rw [f_obo, if_pos h7, if_pos h26, hl0, (zdt_nil S nS nP _).1])
          | exact r_lrE hP c164_61 (h _ _ (fun a k q1 q2 q3 => ha a k q1 q2) (fun a q1 q2 k => hb a q1 k)) (by rw [f_obo, if_pos h7, if_neg h26, hl0, (zdt_nil S nS nP _).2]; rfl)
          | exact r_lrE hP c164_61 (h _ _ (fun a k q1 q2 q3 => (ga a k q3).trans (ha a k q1 q2)) (fun a q1 q2 k => (gb a k q2).trans (hb a q1 k))) (by rw [f_obo, if_pos h7, if_pos h42])
          | exact r_lrE hP c164_61 (h _ _ (fun a k q1 q2 q3 => (ga a k q3).trans (ha a k q1 q2)) (fun a q1 q2 k => (gb a k q2).trans (hb a q1 k))) (by rw [f_obo, if_pos h7, if_neg h42])
    · have hl0 : (zps S nS nP A na) = [] := List.eq_nil_of_length_eq_zero ((nI_eq (b := 0) (by have := (zok_ps S nS hp8 A na).1; omega) (by decide)).mp h22)
      refine r_il hP c164_25 rfl ?_
      refine r_ifne hP c164_26 (fun h26 => ?_) (fun h26 => ?_)
      · refine r_lc hP c164_33 ?_
        first
          | exact r_lrE hP c164_36 (h _ _ (fun _ _ _ _ _ => rfl) (fun _ _ _ _ => rfl)) (by rw [f_obo, if_neg h7])
          | exact r_lrE hP c164_36 (h _ _ (fun a k q1 q2 q3 => ha a k q1 q2) (fun a q1 q2 k => hb a q1 k)) (by rw [f_obo, if_pos h7, if_pos h26, hl0, (zdt_nil S nS nP _).1])
          | exact r_lrE hP c164_36 (h _ _ (fun a k q1 q2 q3 => ha a k q1 q2) (fun a q1 q2 k => hb a q1 k)) (by rw [f_obo, if_pos h7, if_neg h26, hl0, (zdt_nil S nS nP _).2]; rfl)
          | exact r_lrE hP c164_36 (h _ _ (fun a k q1 q2 q3 => (ga a k q3).trans (ha a k q1 q2)) (fun a q1 q2 k => (gb a k q2).trans (hb a q1 k))) (by rw [f_obo, if_pos h7, if_pos h42])
          | exact r_lrE hP c164_36 (h _ _ (fun a k q1 q2 q3 => (ga a k q3).trans (ha a k q1 q2)) (fun a q1 q2 k => (gb a k q2).trans (hb a q1 k))) (by rw [f_obo, if_pos h7, if_neg h42])
      · refine r_lc hP c164_29 ?_
        refine r_goto hP c164_30 ?_
        first
          | exact r_lrE hP c164_36 (h _ _ (fun _ _ _ _ _ => rfl) (fun _ _ _ _ => rfl)) (by rw [f_obo, if_neg h7])
          | exact r_lrE hP c164_36 (h _ _ (fun a k q1 q2 q3 => ha a k q1 q2) (fun a q1 q2 k => hb a q1 k)) (by rw [f_obo, if_pos h7, if_pos h26, hl0, (zdt_nil S nS nP _).1])
          | exact r_lrE hP c164_36 (h _ _ (fun a k q1 q2 q3 => ha a k q1 q2) (fun a q1 q2 k => hb a q1 k)) (by rw [f_obo, if_pos h7, if_neg h26, hl0, (zdt_nil S nS nP _).2]; rfl)
          | exact r_lrE hP c164_36 (h _ _ (fun a k q1 q2 q3 => (ga a k q3).trans (ha a k q1 q2)) (fun a q1 q2 k => (gb a k q2).trans (hb a q1 k))) (by rw [f_obo, if_pos h7, if_pos h42])
          | exact r_lrE hP c164_36 (h _ _ (fun a k q1 q2 q3 => (ga a k q3).trans (ha a k q1 q2)) (fun a q1 q2 k => (gb a k q2).trans (hb a q1 k))) (by rw [f_obo, if_pos h7, if_neg h42])
  · refine r_lc hP c164_10 ?_
    first
      | exact r_lrE hP c164_13 (h _ _ (fun _ _ _ _ _ => rfl) (fun _ _ _ _ => rfl)) (by rw [f_obo, if_neg h7])
      | exact r_lrE hP c164_13 (h _ _ (fun a k q1 q2 q3 => ha a k q1 q2) (fun a q1 q2 k => hb a q1 k)) (by rw [f_obo, if_pos h7, if_pos h26, hl0, (zdt_nil S nS nP _).1])
      | exact r_lrE hP c164_13 (h _ _ (fun a k q1 q2 q3 => ha a k q1 q2) (fun a q1 q2 k => hb a q1 k)) (by rw [f_obo, if_pos h7, if_neg h26, hl0, (zdt_nil S nS nP _).2]; rfl)
      | exact r_lrE hP c164_13 (h _ _ (fun a k q1 q2 q3 => (ga a k q3).trans (ha a k q1 q2)) (fun a q1 q2 k => (gb a k q2).trans (hb a q1 k))) (by rw [f_obo, if_pos h7, if_pos h42])
      | exact r_lrE hP c164_13 (h _ _ (fun a k q1 q2 q3 => (ga a k q3).trans (ha a k q1 q2)) (fun a q1 q2 k => (gb a k q2).trans (hb a q1 k))) (by rw [f_obo, if_pos h7, if_neg h42])
