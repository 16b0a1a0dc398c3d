/-! ===== the model: the next ask, what to change, one by one ===== -/
theorem zrisk_01 (S : ZS) (nS nP : Nat) (x y : Int32) : zrisk S nS nP x y = 0 ∨ zrisk S nS nP x y = 1 := by
  unfold zrisk
  split
  · split
    · exact Or.inr rfl
    · exact Or.inl rfl
  · split
    · split
      · exact Or.inr rfl
      · exact Or.inl rfl
    · exact Or.inl rfl
theorem zdear00 : ∀ k, k < 5 → ∀ k0, k0 < 5 → ((10 * (0 : Int32) + zmn k < 10 * (0 : Int32) + zmn k0) ↔ ((0 : Int32) < 0 ∨ ((0 : Int32) = 0 ∧ zmn k < zmn k0))) := by decide +kernel
theorem zdear01 : ∀ k, k < 5 → ∀ k0, k0 < 5 → ((10 * (0 : Int32) + zmn k < 10 * (1 : Int32) + zmn k0) ↔ ((0 : Int32) < 1 ∨ ((0 : Int32) = 1 ∧ zmn k < zmn k0))) := by decide +kernel
theorem zdear10 : ∀ k, k < 5 → ∀ k0, k0 < 5 → ((10 * (1 : Int32) + zmn k < 10 * (0 : Int32) + zmn k0) ↔ ((1 : Int32) < 0 ∨ ((1 : Int32) = 0 ∧ zmn k < zmn k0))) := by decide +kernel
theorem zdear11 : ∀ k, k < 5 → ∀ k0, k0 < 5 → ((10 * (1 : Int32) + zmn k < 10 * (1 : Int32) + zmn k0) ↔ ((1 : Int32) < 1 ∨ ((1 : Int32) = 1 ∧ zmn k < zmn k0))) := by decide +kernel
theorem zdear {r d : Int32} (hr : r = 0 ∨ r = 1) (hd : d = 0 ∨ d = 1) {k k0 : Nat} (hk : k < 5) (hk0 : k0 < 5) : (10 * r + zmn k < 10 * d + zmn k0) ↔ (r < d ∨ (r = d ∧ zmn k < zmn k0)) := by
  rcases hr with rfl | rfl <;> rcases hd with rfl | rfl
  · exact zdear00 k hk k0 hk0
  · exact zdear01 k hk k0 hk0
  · exact zdear10 k hk k0 hk0
  · exact zdear11 k hk k0 hk0
/-- the model's best against the class's -/
def zNb (b : ZB) (x : Int32) (y : Int64) (z : Int32) : Prop := (b.1 = -4 ∧ x = -4) ∨ ∃ k0 o0, k0 < 5 ∧ o0 < 8 ∧ b.1 = nI k0 ∧ b.2.1 = nI o0 ∧ x = nI (8 * k0 + o0) ∧ y = b.2.2.1 ∧ z = 10 * b.2.2.2 + zmn k0 ∧ (b.2.2.2 = 0 ∨ b.2.2.2 = 1)
theorem zNb_y {b : ZB} {x : Int32} {y : Int64} {z : Int32} (h : zNb b x y z) {k o : Nat} (hk : k < 5) (ho : o < 8) {v : Int64} {r : Int32} (hr : r = 0 ∨ r = 1) (hc : x < 0 ∨ v < y ∨ (v = y ∧ 10 * r + zmn k < z)) : zNb (zbt b k o v r) (nI (8 * k + o)) v (10 * r + zmn k) := by
  have hq : zbt b k o v r = (nI k, nI o, v, r) := by
    rw [zbt]
    refine if_pos ?_
    rcases h with ⟨h1, h2⟩ | ⟨k0, o0, hk0, ho0, e1, e2, e3, e4, e5, e6⟩
    · exact Or.inl h1
    · rcases hc with c | c | ⟨c1, c2⟩
      · rw [e3] at c
        exact absurd c (nI_pos (by omega))
      · exact Or.inr (Or.inl (by rw [← e4]; exact c))
      · refine Or.inr (Or.inr ⟨by rw [← e4]; exact c1, ?_⟩)
        rw [e1, nI_clamp (by omega)]
        rw [e5] at c2
        exact (zdear hr e6 hk hk0).mp c2
  rw [hq]
  exact Or.inr ⟨k, o, hk, ho, rfl, rfl, rfl, rfl, rfl, hr⟩
theorem zNb_n {b : ZB} {x : Int32} {y : Int64} {z : Int32} (h : zNb b x y z) {k o : Nat} (hk : k < 5) {v : Int64} {r : Int32} (hr : r = 0 ∨ r = 1) (hc : ¬ (x < 0 ∨ v < y ∨ (v = y ∧ 10 * r + zmn k < z))) : zNb (zbt b k o v r) x y z := by
  have hq : zbt b k o v r = b := by
    rw [zbt]
    refine if_neg (fun q => hc ?_)
    rcases h with ⟨h1, h2⟩ | ⟨k0, o0, hk0, ho0, e1, e2, e3, e4, e5, e6⟩
    · exact Or.inl (by rw [h2]; decide)
    · rcases q with q | q | ⟨q1, q2⟩
      · rw [e1] at q
        exact absurd q (zne4 k0 hk0)
      · exact Or.inr (Or.inl (by rw [e4]; exact q))
      · refine Or.inr (Or.inr ⟨by rw [e4]; exact q1, ?_⟩)
        rw [e1, nI_clamp (by omega)] at q2
        rw [e5]
        exact (zdear hr e6 hk hk0).mpr q2
  rw [hq]
  exact h
theorem y_minutes {K : ZKh} {P : Nat → Nat → List Value → List Value → ZMi → ZMl → ZMr → ZRt → Prop} {I : ZMi} {L : ZMl} {R : ZMr} {Q : ZRt} (hP : ZCl K P) {k : Nat} (hk : k < 5) (h : Q (some (.int (zmn k))) I L R) : P 157 0 [.int (nI k)] [] I L R Q := by
  match k, hk, h with
  | 0, _, h =>
    show P 157 0 [.int (0 : Int32)] [] I L R Q
    refine r_il hP c157_0 rfl ?_
    refine r_ifne hP c157_1 (fun h1 => absurd h1 (not_not_intro rfl)) (fun h1 => ?_)
    refine r_ic hP c157_4 ?_
    refine r_goto hP c157_5 ?_
    exact r_irE hP c157_36 h (by rfl)
  | 1, _, h =>
    show P 157 0 [.int (1 : Int32)] [] I L R Q
    refine r_il hP c157_0 rfl ?_
    refine r_ifne hP c157_1 (fun h1 => ?_) (fun h1 => absurd h1 (by decide))
    refine r_il hP c157_8 rfl ?_
    refine r_ic hP c157_9 ?_
    refine r_ine hP c157_10 (fun h10 => absurd h10 (not_not_intro rfl)) (fun h10 => ?_)
    refine r_ic hP c157_13 ?_
    refine r_goto hP c157_14 ?_
    exact r_irE hP c157_36 h (by rfl)
  | 2, _, h =>
    show P 157 0 [.int (2 : Int32)] [] I L R Q
    refine r_il hP c157_0 rfl ?_
    refine r_ifne hP c157_1 (fun h1 => ?_) (fun h1 => absurd h1 (by decide))
    refine r_il hP c157_8 rfl ?_
    refine r_ic hP c157_9 ?_
    refine r_ine hP c157_10 (fun h10 => ?_) (fun h10 => absurd h10 (by decide))
    refine r_il hP c157_17 rfl ?_
    refine r_ic hP c157_18 ?_
    refine r_ine hP c157_19 (fun h19 => absurd h19 (not_not_intro rfl)) (fun h19 => ?_)
    refine r_ic hP c157_22 ?_
    refine r_goto hP c157_23 ?_
    exact r_irE hP c157_36 h (by rfl)
  | 3, _, h =>
    show P 157 0 [.int (3 : Int32)] [] I L R Q
    refine r_il hP c157_0 rfl ?_
    refine r_ifne hP c157_1 (fun h1 => ?_) (fun h1 => absurd h1 (by decide))
    refine r_il hP c157_8 rfl ?_
    refine r_ic hP c157_9 ?_
    refine r_ine hP c157_10 (fun h10 => ?_) (fun h10 => absurd h10 (by decide))
    refine r_il hP c157_17 rfl ?_
    refine r_ic hP c157_18 ?_
    refine r_ine hP c157_19 (fun h19 => ?_) (fun h19 => absurd h19 (by decide))
    refine r_il hP c157_26 rfl ?_
    refine r_ic hP c157_27 ?_
    refine r_ine hP c157_28 (fun h28 => absurd h28 (not_not_intro rfl)) (fun h28 => ?_)
    refine r_ic hP c157_31 ?_
    refine r_goto hP c157_32 ?_
    exact r_irE hP c157_36 h (by rfl)
  | 4, _, h =>
    show P 157 0 [.int (4 : Int32)] [] I L R Q
    refine r_il hP c157_0 rfl ?_
    refine r_ifne hP c157_1 (fun h1 => ?_) (fun h1 => absurd h1 (by decide))
    refine r_il hP c157_8 rfl ?_
    refine r_ic hP c157_9 ?_
    refine r_ine hP c157_10 (fun h10 => ?_) (fun h10 => absurd h10 (by decide))
    refine r_il hP c157_17 rfl ?_
    refine r_ic hP c157_18 ?_
    refine r_ine hP c157_19 (fun h19 => ?_) (fun h19 => absurd h19 (by decide))
    refine r_il hP c157_26 rfl ?_
    refine r_ic hP c157_27 ?_
    refine r_ine hP c157_28 (fun h28 => ?_) (fun h28 => absurd h28 (by decide))
    refine r_ic hP c157_35 ?_
    exact r_irE hP c157_36 h (by rfl)
  | n + 5, hk, _ => exact absurd hk (by omega)
set_option maxRecDepth 4000 in
theorem y_worst_a {K : ZKh} {P : Nat → Nat → List Value → List Value → ZMi → ZMl → ZMr → ZRt → Prop} {I : ZMi} {L : ZMl} {R : ZMr} {Q : ZRt} (hP : ZCl K P) {nS nP nW : Nat} {S : ZS} (hKb : zKb K) (hRb : zRb R) (hD : zD I 0 S nS nP nW) (hs1 : 1 ≤ nS) (hp1 : 1 ≤ nP) (hp8 : nP ≤ 8) (hs6 : nS ≤ 6) (hw6 : nW ≤ 6) (hsr : zSr S nS nP nW 300 800) {cs : List Nat} (hms : zMs_ I L S nP cs) (hok : zok S nP cs) {k j : Nat} {m : Int32} (hk : k < 5) (hj : j < zak (nI k) nS nP) (hx : ∀ L2, (∀ x k, x ≠ 151 → L2 x k = L x k) → (∀ i, i < 10 → L2 151 i = 0) → P 156 24 [.ref 119, .int (nI k), .int (nI j), .int m, .int (nI 10), .null, .null] [] I L2 R Q) : ∀ a, a ≤ 10 → ∀ (L1 : ZMl), (∀ x k, x ≠ 151 → L1 x k = L x k) ∧ (∀ i, i < a → L1 151 i = 0) → P 156 3 [.ref 119, .int (nI k), .int (nI j), .int m, .int (nI a), .null, .null] [] I L1 R Q := by
  refine zloop 10 (fun a => ∀ (L1 : ZMl), (∀ x k, x ≠ 151 → L1 x k = L x k) ∧ (∀ i, i < a → L1 151 i = 0) → P 156 3 [.ref 119, .int (nI k), .int (nI j), .int m, .int (nI a), .null, .null] [] I L1 R Q) ?_
  intro a hle ih L1 hacc
  refine r_il hP c156_3 rfl ?_
  refine r_ic hP c156_5 ?_
  refine r_ige hP c156_7 (fun h7 => ?_) (fun h7 => ?_)
  · have he : a = 10 := Nat.le_antisymm hle ((nI_leI (by omega) (by omega)).mp h7)
    subst he
    exact hx _ hacc.1 hacc.2
  · have hlt : a < 10 := by
      rcases Nat.lt_or_ge a 10 with q | q
      · exact q
      · exact absurd (nI_le q (by omega)) h7
    refine r_al hP c156_10 rfl ?_
    refine r_gR (x := 151) hP c156_11 (zj119 hKb) (zr119_35 hRb) ?_
    refine r_il hP c156_14 rfl ?_
    refine r_lc hP c156_16 ?_
    refine r_last (j := a) hP c156_17 (zk151 hKb) rfl (by omega) ?_
    refine r_inc (y := nI (a + 1)) (ls' := [.ref 119, .int (nI k), .int (nI j), .int m, .int (nI (a + 1)), .null, .null]) hP c156_18 rfl (nI_1 _) rfl ?_
    refine r_goto hP c156_21 ?_
    exact ih hlt _ ⟨fun x k q => (zup_na _ _ _ _ q).trans (hacc.1 x k q), fun i hi => by
      by_cases z : i = a
      · subst z
        exact zup_s _ _ _ _
      · exact (zup_n _ _ _ _ (fun q => z q.2)).trans (hacc.2 i (by omega))⟩
set_option maxRecDepth 4000 in
theorem y_worst_b {K : ZKh} {P : Nat → Nat → List Value → List Value → ZMi → ZMl → ZMr → ZRt → Prop} {I : ZMi} {L : ZMl} {R : ZMr} {Q : ZRt} (hP : ZCl K P) {nS nP nW : Nat} {S : ZS} (hKb : zKb K) (hRb : zRb R) (hD : zD I 0 S nS nP nW) (hs1 : 1 ≤ nS) (hp1 : 1 ≤ nP) (hp8 : nP ≤ 8) (hs6 : nS ≤ 6) (hw6 : nW ≤ 6) (hsr : zSr S nS nP nW 300 800) {cs : List Nat} (hms : zMs_ I L S nP cs) (hok : zok S nP cs) {k j : Nat} {m : Int32} (hk : k < 5) (hj : j < zak (nI k) nS nP) (hx : ∀ L2, (∀ x k, x ≠ 151 → L2 x k = L x k) → (∀ i, i < 10 → L2 151 i = (zwo S nS nP k j m cs).1 i) → P 156 71 [.ref 119, .int (nI k), .int (nI j), .int m, .int (nI cs.length), .null, .null] [] I L2 R Q) : ∀ c, c ≤ cs.length → ∀ (L1 : ZMl), (∀ x k, x ≠ 151 → L1 x k = L x k) ∧ (∀ i, i < 10 → L1 151 i = (zwo S nS nP k j m (cs.take c)).1 i) → P 156 27 [.ref 119, .int (nI k), .int (nI j), .int m, .int (nI c), .null, .null] [] I L1 R Q := by
  refine zloop cs.length (fun c => ∀ (L1 : ZMl), (∀ x k, x ≠ 151 → L1 x k = L x k) ∧ (∀ i, i < 10 → L1 151 i = (zwo S nS nP k j m (cs.take c)).1 i) → P 156 27 [.ref 119, .int (nI k), .int (nI j), .int m, .int (nI c), .null, .null] [] I L1 R Q) ?_
  intro c hle ih L1 hacc
  have hl37 := hok.1
  refine r_il hP c156_27 rfl ?_
  refine r_al hP c156_29 rfl ?_
  refine r_gI (x := nI cs.length) hP c156_30 (zj119 hKb) hms.1 ?_
  refine r_ige hP c156_33 (fun h33 => ?_) (fun h33 => ?_)
  · have he : c = cs.length := Nat.le_antisymm hle ((nI_leI (by omega) (by omega)).mp h33)
    subst he
    rw [List.take_length] at hacc
    exact hx _ hacc.1 hacc.2
  · have hlt : c < cs.length := by
      rcases Nat.lt_or_ge c cs.length with q | q
      · exact q
      · exact absurd (nI_le q (by omega)) h33
    obtain ⟨r, hr, hre⟩ := zrep_n hsr hs6 hp8 (cs.getD c 0) m hj
    refine r_al hP c156_36 rfl ?_
    refine r_gR (x := 151) hP c156_37 (zj119 hKb) (zr119_35 hRb) ?_
    refine r_al hP c156_40 rfl ?_
    refine r_al hP c156_41 rfl ?_
    refine r_gR (x := 149) hP c156_42 (zj119 hKb) (zr119_33 hRb) ?_
    refine r_il hP c156_45 rfl ?_
    refine r_iald (j := c) (x := nI (cs.getD c 0)) hP c156_47 (zk149 hKb) rfl (by omega) (hms.2 c hlt).1 ?_
    refine r_il hP c156_48 rfl ?_
    refine r_il hP c156_49 rfl ?_
    refine r_il hP c156_50 rfl ?_
    refine r_cVi (as := [.int (nI (cs.getD c 0)), .int (nI k), .int (nI j), .int m]) (r := [.ref 151]) (I' := I) (L' := L1) (R' := R) (x := zrep S nS nP (cs.getD c 0) k j m) (a := 119) hP c156_51 rfl (zj119 hKb) rfl (fun _ hq => x_askOf hP hKb hRb hD hs1 hp1 hp8 hs6 hw6 (Nat.lt_of_lt_of_le (hok.2 _ (z_mem hlt)).1 (zp256 hp8)) hk hj hq) ?_
    refine r_dup2 hP c156_54 rfl rfl ?_
    refine r_lald (j := r) (x := (zwo S nS nP k j m (cs.take c)).1 r) hP c156_55 (zk151 hKb) hre (by omega) (hacc.2 r (by omega)) ?_
    refine r_al hP c156_56 rfl ?_
    refine r_gR (x := 150) hP c156_57 (zj119 hKb) (zr119_34 hRb) ?_
    refine r_il hP c156_60 rfl ?_
    refine r_lald (j := c) (x := zwt S (cs.getD c 0) nP) hP c156_62 (zk150 hKb) rfl (by omega) ((hacc.1 150 c (by decide)).trans (hms.2 c hlt).2) ?_
    refine r_ladd hP c156_63 ?_
    refine r_last (j := r) hP c156_64 (zk151 hKb) hre (by omega) ?_
    refine r_inc (y := nI (c + 1)) (ls' := [.ref 119, .int (nI k), .int (nI j), .int m, .int (nI (c + 1)), .null, .null]) hP c156_65 rfl (nI_1 _) rfl ?_
    refine r_goto hP c156_68 ?_
    exact ih hlt _ (by
      rw [zwo_s hlt, zwu_y hre hr]
      refine ⟨fun x k q => (zup_na _ _ _ _ q).trans (hacc.1 x k q), fun i hi => ?_⟩
      by_cases z : i = r
      · subst z
        rw [zup_s]; exact (if_pos rfl).symm
      · rw [zup_n _ _ _ _ (fun q => z q.2)]; exact (hacc.2 i hi).trans (if_neg z).symm)
set_option maxRecDepth 4000 in
theorem y_worst_c {K : ZKh} {P : Nat → Nat → List Value → List Value → ZMi → ZMl → ZMr → ZRt → Prop} {I : ZMi} {L : ZMl} {R : ZMr} {Q : ZRt} (hP : ZCl K P) (hKb : zKb K) (hRb : zRb R) {k j : Nat} {m : Int32} {T : Nat → Int64} (hT : ∀ i, i < 10 → L 151 i = T i) (h : Q (some (.long (zm10 T 10))) I L R) : ∀ a, a ≤ 10 → ∀ (acc : Int64), acc = zm10 T a → P 156 77 [.ref 119, .int (nI k), .int (nI j), .int m, .long acc, .null, .int (nI a)] [] I L R Q := by
  refine zloop 10 (fun a => ∀ (acc : Int64), acc = zm10 T a → P 156 77 [.ref 119, .int (nI k), .int (nI j), .int m, .long acc, .null, .int (nI a)] [] I L R Q) ?_
  intro a hle ih acc hacc
  refine r_il hP c156_77 rfl ?_
  refine r_ic hP c156_79 ?_
  refine r_ige hP c156_81 (fun h81 => ?_) (fun h81 => ?_)
  · have he : a = 10 := Nat.le_antisymm hle ((nI_leI (by omega) (by omega)).mp h81)
    refine r_ll hP c156_117 rfl ?_
    exact r_lrE hP c156_119 h (by rw [hacc, he])
  · have hlt : a < 10 := by
      rcases Nat.lt_or_ge a 10 with q | q
      · exact q
      · exact absurd (nI_le q (by omega)) h81
    refine r_al hP c156_84 rfl ?_
    refine r_gR (x := 151) hP c156_85 (zj119 hKb) (zr119_35 hRb) ?_
    refine r_il hP c156_88 rfl ?_
    refine r_lald (j := a) (x := T a) hP c156_90 (zk151 hKb) rfl (by omega) (hT a (by omega)) ?_
    refine r_ll hP c156_91 rfl ?_
    refine r_lcmp hP c156_93 ?_
    refine r_ifleL hP c156_94 (fun h94 => ?_) (fun h94 => ?_)
    · refine r_ll hP c156_107 rfl ?_
      refine r_ls (ls' := [.ref 119, .int (nI k), .int (nI j), .int m, .long acc, .null, .int (nI a)]) hP c156_109 (Nat.le_of_ble_eq_true rfl) rfl ?_
      refine r_inc (y := nI (a + 1)) (ls' := [.ref 119, .int (nI k), .int (nI j), .int m, .long acc, .null, .int (nI (a + 1))]) hP c156_111 rfl (nI_1 _) rfl ?_
      refine r_goto hP c156_114 ?_
      exact ih hlt _ (by rw [zm10, ← hacc]; first | exact (if_neg (Int64.not_lt.mpr h94)).symm | exact (if_pos (Int64.not_le.mp h94)).symm)
    · refine r_al hP c156_97 rfl ?_
      refine r_gR (x := 151) hP c156_98 (zj119 hKb) (zr119_35 hRb) ?_
      refine r_il hP c156_101 rfl ?_
      refine r_lald (j := a) (x := T a) hP c156_103 (zk151 hKb) rfl (by omega) (hT a (by omega)) ?_
      refine r_goto hP c156_104 ?_
      refine r_ls (ls' := [.ref 119, .int (nI k), .int (nI j), .int m, .long (T a), .null, .int (nI a)]) hP c156_109 (Nat.le_of_ble_eq_true rfl) rfl ?_
      refine r_inc (y := nI (a + 1)) (ls' := [.ref 119, .int (nI k), .int (nI j), .int m, .long (T a), .null, .int (nI (a + 1))]) hP c156_111 rfl (nI_1 _) rfl ?_
      refine r_goto hP c156_114 ?_
      exact ih hlt _ (by rw [zm10, ← hacc]; first | exact (if_neg (Int64.not_lt.mpr h94)).symm | exact (if_pos (Int64.not_le.mp h94)).symm)
set_option maxRecDepth 4000 in
theorem y_worst {K : ZKh} {P : Nat → Nat → List Value → List Value → ZMi → ZMl → ZMr → ZRt → Prop} {I : ZMi} {L : ZMl} {R : ZMr} {Q : ZRt} (hP : ZCl K P) {nS nP nW : Nat} {S : ZS} (hKb : zKb K) (hRb : zRb R) (hD : zD I 0 S nS nP nW) (hs1 : 1 ≤ nS) (hp1 : 1 ≤ nP) (hp8 : nP ≤ 8) (hs6 : nS ≤ 6) (hw6 : nW ≤ 6) (hsr : zSr S nS nP nW 300 800) {cs : List Nat} (hms : zMs_ I L S nP cs) (hok : zok S nP cs) {k j : Nat} {m : Int32} (hk : k < 5) (hj : j < zak (nI k) nS nP) (h : ∀ L2, (∀ x k, x ≠ 151 → L2 x k = L x k) → Q (some (.long (zwo S nS nP k j m cs).2)) I L2 R) : P 156 0 [.ref 119, .int (nI k), .int (nI j), .int m, .null, .null, .null] [] I L R Q := by
  refine r_ic hP c156_0 ?_
  refine r_is (ls' := [.ref 119, .int (nI k), .int (nI j), .int m, .int 0, .null, .null]) hP c156_1 (Nat.le_of_ble_eq_true rfl) rfl ?_
  refine y_worst_a hP hKb hRb hD hs1 hp1 hp8 hs6 hw6 hsr hms hok hk hj (fun L2 h1 h2 => ?_) 0 (Nat.zero_le _) _ ⟨fun _ _ _ => rfl, fun i hi => absurd hi (Nat.not_lt_zero i)⟩
  refine r_ic hP c156_24 ?_
  refine r_is (ls' := [.ref 119, .int (nI k), .int (nI j), .int m, .int 0, .null, .null]) hP c156_25 (Nat.le_of_ble_eq_true rfl) rfl ?_
  have hms2 : zMs_ I L2 S nP cs := ⟨hms.1, fun i hi => ⟨(hms.2 i hi).1, (h1 150 i (by decide)).trans (hms.2 i hi).2⟩⟩
  refine y_worst_b hP hKb hRb hD hs1 hp1 hp8 hs6 hw6 hsr hms2 hok hk hj (fun L3 h3 h4 => ?_) 0 (Nat.zero_le _) _ ⟨fun _ _ _ => rfl, h2⟩
  refine r_lc hP c156_71 ?_
  refine r_ls (ls' := [.ref 119, .int (nI k), .int (nI j), .int m, .long 0, .null, .null]) hP c156_72 (Nat.le_of_ble_eq_true rfl) rfl ?_
  refine r_ic hP c156_74 ?_
  refine r_is (ls' := [.ref 119, .int (nI k), .int (nI j), .int m, .long 0, .null, .int 0]) hP c156_75 (Nat.le_of_ble_eq_true rfl) rfl ?_
  exact y_worst_c hP hKb hRb h4 (by rw [← zwo_10 hsr hs6 hp8 hj hok.1]; exact h _ (fun x k q => (h3 x k q).trans (h1 x k q))) 0 (Nat.zero_le _) _ rfl
set_option maxRecDepth 4000 in
theorem y_next_o {K : ZKh} {P : Nat → Nat → List Value → List Value → ZMi → ZMl → ZMr → ZRt → Prop} {I : ZMi} {L : ZMl} {R : ZMr} {Q : ZRt} (hP : ZCl K P) {nS nP nW : Nat} {S : ZS} (hKb : zKb K) (hRb : zRb R) (hD : zD I 0 S nS nP nW) (hs1 : 1 ≤ nS) (hp1 : 1 ≤ nP) (hp8 : nP ≤ 8) (hs6 : nS ≤ 6) (hw6 : nW ≤ 6) (hsr : zSr S nS nP nW 300 800) {cs : List Nat} (hms : zMs_ I L S nP cs) (hok : zok S nP cs) {m y : Int32} {k : Nat} (hk : k < 5) (hx : ∀ L2 x y2 z v9 v10 v11, (∀ x k, x ≠ 151 → L2 x k = L x k) → zNb (zfk S nS nP m cs (k + 1)) x y2 z → P 158 157 [.ref 119, .int m, .int y, .int x, .long y2, .null, .int z, .int (nI k), .int (nI 8), v9, v10, v11] [] I L2 R Q) : ∀ o, o ≤ 8 → ∀ (L1 : ZMl) (x : Int32) (y2 : Int64) (z : Int32) (v9 v10 v11 : Value), (∀ x k, x ≠ 151 → L1 x k = L x k) ∧ zNb (zfo S nS nP m cs k (zfk S nS nP m cs k) (min o (zak (nI k) nS nP))) x y2 z → P 158 59 [.ref 119, .int m, .int y, .int x, .long y2, .null, .int z, .int (nI k), .int (nI o), v9, v10, v11] [] I L1 R Q := by
  refine zloop 8 (fun o => ∀ (L1 : ZMl) (x : Int32) (y2 : Int64) (z : Int32) (v9 v10 v11 : Value), (∀ x k, x ≠ 151 → L1 x k = L x k) ∧ zNb (zfo S nS nP m cs k (zfk S nS nP m cs k) (min o (zak (nI k) nS nP))) x y2 z → P 158 59 [.ref 119, .int m, .int y, .int x, .long y2, .null, .int z, .int (nI k), .int (nI o), v9, v10, v11] [] I L1 R Q) ?_
  intro o hle ih L1 x y2 z v9 v10 v11 hacc
  have hz8 := zak_b (x := nI k) hs6 hp8
  refine r_il hP c158_59 rfl ?_
  refine r_ic hP c158_61 ?_
  refine r_ige hP c158_63 (fun h63 => ?_) (fun h63 => ?_)
  · have he : o = 8 := Nat.le_antisymm hle ((nI_leI (b := o) (a := 8) (by decide) (by omega)).mp h63)
    subst he
    rw [show min 8 (zak (nI k) nS nP) = zak (nI k) nS nP from by omega] at hacc
    exact hx _ _ _ _ _ _ _ hacc.1 hacc.2
  · have hlt : o < 8 := by
      rcases Nat.lt_or_ge o 8 with q | q
      · exact q
      · exact absurd (nI_le q (by omega)) h63
    refine r_al hP c158_66 rfl ?_
    refine r_il hP c158_67 rfl ?_
    refine r_il hP c158_69 rfl ?_
    refine r_cVi (as := [.int (nI k), .int (nI o)]) (r := []) (I' := I) (L' := L1) (R' := R) (x := if (0 ≤ nI k ∧ nI k ≤ 4) ∧ zr (nI o) (zak (nI k) nS nP) then 1 else 0) (a := 119) hP c158_71 rfl (zj119 hKb) rfl (fun _ hq => x_isAsk hP hKb hRb hD hs1 hp1 hp8 hs6 hw6 hq) ?_
    refine r_ifeqB hP c158_74 (fun h74 => ?_) (fun h74 => ?_)
    · have hoz : ¬ o < zak (nI k) nS nP := fun q => h74 ⟨⟨nI_pos' (by omega), nI_le (b := 4) (by omega) (by decide)⟩, zr_nI q (by omega)⟩
      refine r_inc (y := nI (o + 1)) (ls' := [.ref 119, .int m, .int y, .int x, .long y2, .null, .int z, .int (nI k), .int (nI (o + 1)), v9, v10, v11]) hP c158_151 rfl (nI_1 _) rfl ?_
      refine r_goto hP c158_154 ?_
      exact ih hlt _ _ _ _ _ _ _ (by
        first
          | (rw [show min (o + 1) (zak (nI k) nS nP) = min o (zak (nI k) nS nP) from by omega]; exact hacc)
          | (rw [show min (o + 1) (zak (nI k) nS nP) = o + 1 from by omega, zfo]
             rw [show min o (zak (nI k) nS nP) = o from by omega] at hacc
             refine ⟨fun x k q => (hb x k q).trans (hacc.1 x k q), ?_⟩
             first
               | exact zNb_y hacc.2 hk (by omega) (zrisk_01 _ _ _ _ _) (Or.inl h108)
               | exact zNb_y hacc.2 hk (by omega) (zrisk_01 _ _ _ _ _) (Or.inr (Or.inl h116))
               | exact zNb_y hacc.2 hk (by omega) (zrisk_01 _ _ _ _ _) (Or.inr (Or.inr ⟨h124, Int32.not_le.mp h131⟩))
               | exact zNb_n hacc.2 hk (zrisk_01 _ _ _ _ _) (fun q => by
                   rcases q with q | q | ⟨q1, q2⟩
                   · exact h108 q
                   · exact h116 q
                   · first | exact h124 q1 | exact absurd h131 (Int32.not_le.mpr q2))))
    · have hoz : o < zak (nI k) nS nP := by
        have hq := h74.2.2
        rw [nI_toInt (by omega)] at hq
        omega
      refine r_al hP c158_77 rfl ?_
      refine r_il hP c158_78 rfl ?_
      refine r_il hP c158_80 rfl ?_
      refine r_il hP c158_82 rfl ?_
      refine r_cVlp (as := [.int (nI k), .int (nI o), .int m]) (r := []) (a := 119) hP c158_83 rfl (zj119 hKb) rfl (fun z I2 L2 R2 => (z = (zwo S nS nP k o m cs).2 ∧ ∀ x k, x ≠ 151 → L2 x k = L1 x k) ∧ I = I2 ∧ R = R2) (fun Q2 hq => y_worst hP hKb hRb hD hs1 hp1 hp8 hs6 hw6 hsr (show zMs_ I L1 S nP cs from ⟨hms.1, fun i hi => ⟨(hms.2 i hi).1, (hacc.1 150 i (by decide)).trans (hms.2 i hi).2⟩⟩) hok hk hoz (fun L2 a => hq _ I L2 R ⟨⟨rfl, a⟩, rfl, rfl⟩)) ?_
      rintro zz I2 L2 R2 ⟨⟨rfl, hb⟩, rfl, rfl⟩
      refine r_ls (ls' := [.ref 119, .int m, .int y, .int x, .long y2, .null, .int z, .int (nI k), .int (nI o), .long ((zwo S nS nP k o m cs).2), .null, v11]) hP c158_86 (Nat.le_of_ble_eq_true rfl) rfl ?_
      refine r_ic hP c158_88 ?_
      refine r_al hP c158_90 rfl ?_
      refine r_il hP c158_91 rfl ?_
      refine r_il hP c158_93 rfl ?_
      refine r_cVi (as := [.int (nI k), .int (nI o)]) (r := [.int 10]) (I' := I) (L' := L2) (R' := R) (x := zrisk S nS nP (nI k) (nI o)) (a := 119) hP c158_95 rfl (zj119 hKb) rfl (fun _ hq => y_riskOf hP hKb hRb hD hs1 hp1 hp8 hs6 hw6 hk hoz hq) ?_
      refine r_imul hP c158_98 ?_
      refine r_il hP c158_99 rfl ?_
      refine r_cSi (as := [.int (nI k)]) (r := [.int (10 * (zrisk S nS nP (nI k) (nI o)))]) (I' := I) (L' := L2) (R' := R) (x := zmn k) hP c158_101 rfl rfl (fun _ hq => y_minutes hP hk hq) ?_
      refine r_iadd hP c158_104 ?_
      refine r_is (ls' := [.ref 119, .int m, .int y, .int x, .long y2, .null, .int z, .int (nI k), .int (nI o), .long ((zwo S nS nP k o m cs).2), .null, .int ((10 * (zrisk S nS nP (nI k) (nI o))) + (zmn k))]) hP c158_105 (Nat.le_of_ble_eq_true rfl) rfl ?_
      refine r_il hP c158_107 rfl ?_
      refine r_iflt hP c158_108 (fun h108 => ?_) (fun h108 => ?_)
      · refine r_ic hP c158_134 ?_
        refine r_il hP c158_136 rfl ?_
        refine r_imul hP c158_138 ?_
        refine r_ti (y := nI (8 * k)) (pk_mul 8 k) ?_
        refine r_il hP c158_139 rfl ?_
        refine r_iadd hP c158_141 ?_
        refine r_ti (y := nI (8 * k + o)) (nI_add _ _) ?_
        refine r_is (ls' := [.ref 119, .int m, .int y, .int (nI (8 * k + o)), .long y2, .null, .int z, .int (nI k), .int (nI o), .long ((zwo S nS nP k o m cs).2), .null, .int ((10 * (zrisk S nS nP (nI k) (nI o))) + (zmn k))]) hP c158_142 (Nat.le_of_ble_eq_true rfl) rfl ?_
        refine r_ll hP c158_143 rfl ?_
        refine r_ls (ls' := [.ref 119, .int m, .int y, .int (nI (8 * k + o)), .long ((zwo S nS nP k o m cs).2), .null, .int z, .int (nI k), .int (nI o), .long ((zwo S nS nP k o m cs).2), .null, .int ((10 * (zrisk S nS nP (nI k) (nI o))) + (zmn k))]) hP c158_145 (Nat.le_of_ble_eq_true rfl) rfl ?_
        refine r_il hP c158_147 rfl ?_
        refine r_is (ls' := [.ref 119, .int m, .int y, .int (nI (8 * k + o)), .long ((zwo S nS nP k o m cs).2), .null, .int ((10 * (zrisk S nS nP (nI k) (nI o))) + (zmn k)), .int (nI k), .int (nI o), .long ((zwo S nS nP k o m cs).2), .null, .int ((10 * (zrisk S nS nP (nI k) (nI o))) + (zmn k))]) hP c158_149 (Nat.le_of_ble_eq_true rfl) rfl ?_
        refine r_inc (y := nI (o + 1)) (ls' := [.ref 119, .int m, .int y, .int (nI (8 * k + o)), .long ((zwo S nS nP k o m cs).2), .null, .int ((10 * (zrisk S nS nP (nI k) (nI o))) + (zmn k)), .int (nI k), .int (nI (o + 1)), .long ((zwo S nS nP k o m cs).2), .null, .int ((10 * (zrisk S nS nP (nI k) (nI o))) + (zmn k))]) hP c158_151 rfl (nI_1 _) rfl ?_
        refine r_goto hP c158_154 ?_
        exact ih hlt _ _ _ _ _ _ _ (by
          first
            | (rw [show min (o + 1) (zak (nI k) nS nP) = min o (zak (nI k) nS nP) from by omega]; exact hacc)
            | (rw [show min (o + 1) (zak (nI k) nS nP) = o + 1 from by omega, zfo]
               rw [show min o (zak (nI k) nS nP) = o from by omega] at hacc
               refine ⟨fun x k q => (hb x k q).trans (hacc.1 x k q), ?_⟩
               first
                 | exact zNb_y hacc.2 hk (by omega) (zrisk_01 _ _ _ _ _) (Or.inl h108)
                 | exact zNb_y hacc.2 hk (by omega) (zrisk_01 _ _ _ _ _) (Or.inr (Or.inl h116))
                 | exact zNb_y hacc.2 hk (by omega) (zrisk_01 _ _ _ _ _) (Or.inr (Or.inr ⟨h124, Int32.not_le.mp h131⟩))
                 | exact zNb_n hacc.2 hk (zrisk_01 _ _ _ _ _) (fun q => by
                     rcases q with q | q | ⟨q1, q2⟩
                     · exact h108 q
                     · exact h116 q
                     · first | exact h124 q1 | exact absurd h131 (Int32.not_le.mpr q2))))
      · refine r_ll hP c158_111 rfl ?_
        refine r_ll hP c158_113 rfl ?_
        refine r_lcmp hP c158_115 ?_
        refine r_ifltL hP c158_116 (fun h116 => ?_) (fun h116 => ?_)
        · refine r_ic hP c158_134 ?_
          refine r_il hP c158_136 rfl ?_
          refine r_imul hP c158_138 ?_
          refine r_ti (y := nI (8 * k)) (pk_mul 8 k) ?_
          refine r_il hP c158_139 rfl ?_
          refine r_iadd hP c158_141 ?_
          refine r_ti (y := nI (8 * k + o)) (nI_add _ _) ?_
          refine r_is (ls' := [.ref 119, .int m, .int y, .int (nI (8 * k + o)), .long y2, .null, .int z, .int (nI k), .int (nI o), .long ((zwo S nS nP k o m cs).2), .null, .int ((10 * (zrisk S nS nP (nI k) (nI o))) + (zmn k))]) hP c158_142 (Nat.le_of_ble_eq_true rfl) rfl ?_
          refine r_ll hP c158_143 rfl ?_
          refine r_ls (ls' := [.ref 119, .int m, .int y, .int (nI (8 * k + o)), .long ((zwo S nS nP k o m cs).2), .null, .int z, .int (nI k), .int (nI o), .long ((zwo S nS nP k o m cs).2), .null, .int ((10 * (zrisk S nS nP (nI k) (nI o))) + (zmn k))]) hP c158_145 (Nat.le_of_ble_eq_true rfl) rfl ?_
          refine r_il hP c158_147 rfl ?_
          refine r_is (ls' := [.ref 119, .int m, .int y, .int (nI (8 * k + o)), .long ((zwo S nS nP k o m cs).2), .null, .int ((10 * (zrisk S nS nP (nI k) (nI o))) + (zmn k)), .int (nI k), .int (nI o), .long ((zwo S nS nP k o m cs).2), .null, .int ((10 * (zrisk S nS nP (nI k) (nI o))) + (zmn k))]) hP c158_149 (Nat.le_of_ble_eq_true rfl) rfl ?_
          refine r_inc (y := nI (o + 1)) (ls' := [.ref 119, .int m, .int y, .int (nI (8 * k + o)), .long ((zwo S nS nP k o m cs).2), .null, .int ((10 * (zrisk S nS nP (nI k) (nI o))) + (zmn k)), .int (nI k), .int (nI (o + 1)), .long ((zwo S nS nP k o m cs).2), .null, .int ((10 * (zrisk S nS nP (nI k) (nI o))) + (zmn k))]) hP c158_151 rfl (nI_1 _) rfl ?_
          refine r_goto hP c158_154 ?_
          exact ih hlt _ _ _ _ _ _ _ (by
            first
              | (rw [show min (o + 1) (zak (nI k) nS nP) = min o (zak (nI k) nS nP) from by omega]; exact hacc)
              | (rw [show min (o + 1) (zak (nI k) nS nP) = o + 1 from by omega, zfo]
                 rw [show min o (zak (nI k) nS nP) = o from by omega] at hacc
                 refine ⟨fun x k q => (hb x k q).trans (hacc.1 x k q), ?_⟩
                 first
                   | exact zNb_y hacc.2 hk (by omega) (zrisk_01 _ _ _ _ _) (Or.inl h108)
                   | exact zNb_y hacc.2 hk (by omega) (zrisk_01 _ _ _ _ _) (Or.inr (Or.inl h116))
                   | exact zNb_y hacc.2 hk (by omega) (zrisk_01 _ _ _ _ _) (Or.inr (Or.inr ⟨h124, Int32.not_le.mp h131⟩))
                   | exact zNb_n hacc.2 hk (zrisk_01 _ _ _ _ _) (fun q => by
                       rcases q with q | q | ⟨q1, q2⟩
                       · exact h108 q
                       · exact h116 q
                       · first | exact h124 q1 | exact absurd h131 (Int32.not_le.mpr q2))))
        · refine r_ll hP c158_119 rfl ?_
          refine r_ll hP c158_121 rfl ?_
          refine r_lcmp hP c158_123 ?_
          refine r_ifneL hP c158_124 (fun h124 => ?_) (fun h124 => ?_)
          · refine r_inc (y := nI (o + 1)) (ls' := [.ref 119, .int m, .int y, .int x, .long y2, .null, .int z, .int (nI k), .int (nI (o + 1)), .long ((zwo S nS nP k o m cs).2), .null, .int ((10 * (zrisk S nS nP (nI k) (nI o))) + (zmn k))]) hP c158_151 rfl (nI_1 _) rfl ?_
            refine r_goto hP c158_154 ?_
            exact ih hlt _ _ _ _ _ _ _ (by
              first
                | (rw [show min (o + 1) (zak (nI k) nS nP) = min o (zak (nI k) nS nP) from by omega]; exact hacc)
                | (rw [show min (o + 1) (zak (nI k) nS nP) = o + 1 from by omega, zfo]
                   rw [show min o (zak (nI k) nS nP) = o from by omega] at hacc
                   refine ⟨fun x k q => (hb x k q).trans (hacc.1 x k q), ?_⟩
                   first
                     | exact zNb_y hacc.2 hk (by omega) (zrisk_01 _ _ _ _ _) (Or.inl h108)
                     | exact zNb_y hacc.2 hk (by omega) (zrisk_01 _ _ _ _ _) (Or.inr (Or.inl h116))
                     | exact zNb_y hacc.2 hk (by omega) (zrisk_01 _ _ _ _ _) (Or.inr (Or.inr ⟨h124, Int32.not_le.mp h131⟩))
                     | exact zNb_n hacc.2 hk (zrisk_01 _ _ _ _ _) (fun q => by
                         rcases q with q | q | ⟨q1, q2⟩
                         · exact h108 q
                         · exact h116 q
                         · first | exact h124 q1 | exact absurd h131 (Int32.not_le.mpr q2))))
          · refine r_il hP c158_127 rfl ?_
            refine r_il hP c158_129 rfl ?_
            refine r_ige hP c158_131 (fun h131 => ?_) (fun h131 => ?_)
            · refine r_inc (y := nI (o + 1)) (ls' := [.ref 119, .int m, .int y, .int x, .long y2, .null, .int z, .int (nI k), .int (nI (o + 1)), .long ((zwo S nS nP k o m cs).2), .null, .int ((10 * (zrisk S nS nP (nI k) (nI o))) + (zmn k))]) hP c158_151 rfl (nI_1 _) rfl ?_
              refine r_goto hP c158_154 ?_
              exact ih hlt _ _ _ _ _ _ _ (by
                first
                  | (rw [show min (o + 1) (zak (nI k) nS nP) = min o (zak (nI k) nS nP) from by omega]; exact hacc)
                  | (rw [show min (o + 1) (zak (nI k) nS nP) = o + 1 from by omega, zfo]
                     rw [show min o (zak (nI k) nS nP) = o from by omega] at hacc
                     refine ⟨fun x k q => (hb x k q).trans (hacc.1 x k q), ?_⟩
                     first
                       | exact zNb_y hacc.2 hk (by omega) (zrisk_01 _ _ _ _ _) (Or.inl h108)
                       | exact zNb_y hacc.2 hk (by omega) (zrisk_01 _ _ _ _ _) (Or.inr (Or.inl h116))
                       | exact zNb_y hacc.2 hk (by omega) (zrisk_01 _ _ _ _ _) (Or.inr (Or.inr ⟨h124, Int32.not_le.mp h131⟩))
                       | exact zNb_n hacc.2 hk (zrisk_01 _ _ _ _ _) (fun q => by
                           rcases q with q | q | ⟨q1, q2⟩
                           · exact h108 q
                           · exact h116 q
                           · first | exact h124 q1 | exact absurd h131 (Int32.not_le.mpr q2))))
            · refine r_ic hP c158_134 ?_
              refine r_il hP c158_136 rfl ?_
              refine r_imul hP c158_138 ?_
              refine r_ti (y := nI (8 * k)) (pk_mul 8 k) ?_
              refine r_il hP c158_139 rfl ?_
              refine r_iadd hP c158_141 ?_
              refine r_ti (y := nI (8 * k + o)) (nI_add _ _) ?_
              refine r_is (ls' := [.ref 119, .int m, .int y, .int (nI (8 * k + o)), .long y2, .null, .int z, .int (nI k), .int (nI o), .long ((zwo S nS nP k o m cs).2), .null, .int ((10 * (zrisk S nS nP (nI k) (nI o))) + (zmn k))]) hP c158_142 (Nat.le_of_ble_eq_true rfl) rfl ?_
              refine r_ll hP c158_143 rfl ?_
              refine r_ls (ls' := [.ref 119, .int m, .int y, .int (nI (8 * k + o)), .long ((zwo S nS nP k o m cs).2), .null, .int z, .int (nI k), .int (nI o), .long ((zwo S nS nP k o m cs).2), .null, .int ((10 * (zrisk S nS nP (nI k) (nI o))) + (zmn k))]) hP c158_145 (Nat.le_of_ble_eq_true rfl) rfl ?_
              refine r_il hP c158_147 rfl ?_
              refine r_is (ls' := [.ref 119, .int m, .int y, .int (nI (8 * k + o)), .long ((zwo S nS nP k o m cs).2), .null, .int ((10 * (zrisk S nS nP (nI k) (nI o))) + (zmn k)), .int (nI k), .int (nI o), .long ((zwo S nS nP k o m cs).2), .null, .int ((10 * (zrisk S nS nP (nI k) (nI o))) + (zmn k))]) hP c158_149 (Nat.le_of_ble_eq_true rfl) rfl ?_
              refine r_inc (y := nI (o + 1)) (ls' := [.ref 119, .int m, .int y, .int (nI (8 * k + o)), .long ((zwo S nS nP k o m cs).2), .null, .int ((10 * (zrisk S nS nP (nI k) (nI o))) + (zmn k)), .int (nI k), .int (nI (o + 1)), .long ((zwo S nS nP k o m cs).2), .null, .int ((10 * (zrisk S nS nP (nI k) (nI o))) + (zmn k))]) hP c158_151 rfl (nI_1 _) rfl ?_
              refine r_goto hP c158_154 ?_
              exact ih hlt _ _ _ _ _ _ _ (by
                first
                  | (rw [show min (o + 1) (zak (nI k) nS nP) = min o (zak (nI k) nS nP) from by omega]; exact hacc)
                  | (rw [show min (o + 1) (zak (nI k) nS nP) = o + 1 from by omega, zfo]
                     rw [show min o (zak (nI k) nS nP) = o from by omega] at hacc
                     refine ⟨fun x k q => (hb x k q).trans (hacc.1 x k q), ?_⟩
                     first
                       | exact zNb_y hacc.2 hk (by omega) (zrisk_01 _ _ _ _ _) (Or.inl h108)
                       | exact zNb_y hacc.2 hk (by omega) (zrisk_01 _ _ _ _ _) (Or.inr (Or.inl h116))
                       | exact zNb_y hacc.2 hk (by omega) (zrisk_01 _ _ _ _ _) (Or.inr (Or.inr ⟨h124, Int32.not_le.mp h131⟩))
                       | exact zNb_n hacc.2 hk (zrisk_01 _ _ _ _ _) (fun q => by
                           rcases q with q | q | ⟨q1, q2⟩
                           · exact h108 q
                           · exact h116 q
                           · first | exact h124 q1 | exact absurd h131 (Int32.not_le.mpr q2))))
set_option maxRecDepth 4000 in
theorem y_next_k {K : ZKh} {P : Nat → Nat → List Value → List Value → ZMi → ZMl → ZMr → ZRt → Prop} {I : ZMi} {L : ZMl} {R : ZMr} {Q : ZRt} (hP : ZCl K P) {nS nP nW : Nat} {S : ZS} (hKb : zKb K) (hRb : zRb R) (hD : zD I 0 S nS nP nW) (hs1 : 1 ≤ nS) (hp1 : 1 ≤ nP) (hp8 : nP ≤ 8) (hs6 : nS ≤ 6) (hw6 : nW ≤ 6) (hsr : zSr S nS nP nW 300 800) {cs : List Nat} (hms : zMs_ I L S nP cs) (hok : zok S nP cs) {m y : Int32} (hx : ∀ L2 x y2 z v8 v9 v10 v11, (∀ x k, x ≠ 151 → L2 x k = L x k) → zNb (zfk S nS nP m cs 5) x y2 z → P 158 163 [.ref 119, .int m, .int y, .int x, .long y2, .null, .int z, .int (nI 5), v8, v9, v10, v11] [] I L2 R Q) : ∀ k, k ≤ 5 → ∀ (L1 : ZMl) (x : Int32) (y2 : Int64) (z : Int32) (v8 v9 v10 v11 : Value), (∀ x k, x ≠ 151 → L1 x k = L x k) ∧ zNb (zfk S nS nP m cs k) x y2 z → P 158 50 [.ref 119, .int m, .int y, .int x, .long y2, .null, .int z, .int (nI k), v8, v9, v10, v11] [] I L1 R Q := by
  refine zloop 5 (fun k => ∀ (L1 : ZMl) (x : Int32) (y2 : Int64) (z : Int32) (v8 v9 v10 v11 : Value), (∀ x k, x ≠ 151 → L1 x k = L x k) ∧ zNb (zfk S nS nP m cs k) x y2 z → P 158 50 [.ref 119, .int m, .int y, .int x, .long y2, .null, .int z, .int (nI k), v8, v9, v10, v11] [] I L1 R Q) ?_
  intro k hle ih L1 x y2 z v8 v9 v10 v11 hacc
  refine r_il hP c158_50 rfl ?_
  refine r_ic hP c158_52 ?_
  refine r_ige hP c158_53 (fun h53 => ?_) (fun h53 => ?_)
  · have he : k = 5 := Nat.le_antisymm hle ((nI_leI (by omega) (by omega)).mp h53)
    subst he
    exact hx _ _ _ _ _ _ _ _ hacc.1 hacc.2
  · have hlt : k < 5 := by
      rcases Nat.lt_or_ge k 5 with q | q
      · exact q
      · exact absurd (nI_le q (by omega)) h53
    refine r_ic hP c158_56 ?_
    refine r_is (ls' := [.ref 119, .int m, .int y, .int x, .long y2, .null, .int z, .int (nI k), .int 0, v9, v10, v11]) hP c158_57 (Nat.le_of_ble_eq_true rfl) rfl ?_
    refine y_next_o hP hKb hRb hD hs1 hp1 hp8 hs6 hw6 hsr (show zMs_ I L1 S nP cs from ⟨hms.1, fun i hi => ⟨(hms.2 i hi).1, (hacc.1 150 i (by decide)).trans (hms.2 i hi).2⟩⟩) hok hlt (fun L2 x2 y3 z2 w9 w10 w11 a b => ?_) 0 (Nat.zero_le _) _ _ _ _ _ _ _ ⟨fun _ _ _ => rfl, by rw [Nat.zero_min]; exact hacc.2⟩
    refine r_inc (y := nI (k + 1)) (ls' := [.ref 119, .int m, .int y, .int x2, .long y3, .null, .int z2, .int (nI (k + 1)), .int (nI 8), w9, w10, w11]) hP c158_157 rfl (nI_1 _) rfl ?_
    refine r_goto hP c158_160 ?_
    exact ih hlt _ _ _ _ _ _ _ _ ⟨fun x k q => (a x k q).trans (hacc.1 x k q), b⟩
set_option maxRecDepth 4000 in
theorem y_next {K : ZKh} {P : Nat → Nat → List Value → List Value → ZMi → ZMl → ZMr → ZRt → Prop} {I : ZMi} {L : ZMl} {R : ZMr} {Q : ZRt} (hP : ZCl K P) {nS nP nW : Nat} {S : ZS} (hKb : zKb K) (hRb : zRb R) (hD : zD I 0 S nS nP nW) (hs1 : 1 ≤ nS) (hp1 : 1 ≤ nP) (hp8 : nP ≤ 8) (hs6 : nS ≤ 6) (hw6 : nW ≤ 6) (hsr : zSr S nS nP nW 300 800) {na : Nat} {A : ZA} (hA : zAm I na A) (hAo : zAo nS nP na A) (hn10 : na ≤ 10) {m y : Int32} (h : ∀ I2 L2, zfm_ I I2 → (∀ a, a ≠ 150 → a ≠ 151 → ∀ k, L2 a k = L a k) →  Q (some (.long (f_next S nS nP (zps S nS nP A na) m y))) I2 L2 R) : P 158 0 [.ref 119, .int m, .int y, .null, .null, .null, .null, .null, .null, .null, .null, .null] [] I L R Q := by
  refine r_il hP c158_0 rfl ?_
  refine r_cSi (as := [.int m]) (r := []) (I' := I) (L' := L) (R' := R) (x := if 0 ≤ m ∧ m ≤ 30 then 1 else 0) hP c158_1 rfl rfl (fun _ hq => x_isTime hP hq) ?_
  refine r_ifeqB hP c158_4 (fun h4 => ?_) (fun h4 => ?_)
  · refine r_lc hP c158_19 ?_
    first
      | exact r_lrE hP c158_22 (h _ _ (fun _ _ _ _ => rfl) (fun _ _ _ _ => rfl)) (by rw [f_next, if_neg (fun q => h4 q.1)])
      | exact r_lrE hP c158_22 (h _ _ (fun _ _ _ _ => rfl) (fun _ _ _ _ => rfl)) (by rw [f_next, if_neg (fun q => h16 q.2)])
      | exact r_lrE hP c158_22 (h _ _ ha (fun a q1 q2 k => hb a q1 k)) (by rw [f_next, if_pos ⟨h4, h16⟩, if_pos hl0])
      | exact r_lrE hP c158_22 (h _ _ ha (fun a q1 q2 k => (h3 a k q2).trans (hb a q1 k))) (by rw [f_next, if_pos ⟨h4, h16⟩, if_neg hl0, if_pos h164, e1])
      | exact r_lrE hP c158_22 (h _ _ ha (fun a q1 q2 k => (h3 a k q2).trans (hb a q1 k))) (by rw [f_next, if_pos ⟨h4, h16⟩, if_neg hl0, if_neg h164, if_pos h177, e2])
      | exact r_lrE hP c158_22 (h _ _ ha (fun a q1 q2 k => (h3 a k q2).trans (hb a q1 k))) (by rw [f_next, if_pos ⟨h4, h16⟩, if_neg hl0, if_neg h164, if_neg h177])
  · refine r_il hP c158_7 rfl ?_
    refine r_i2l hP c158_8 ?_
    refine r_lc hP c158_9 ?_
    refine r_lc hP c158_10 ?_
    refine r_cSi (as := [.long y.toInt64, .long 0, .long 2]) (r := []) (I' := I) (L' := L) (R' := R) (x := if 0 ≤ y.toInt64 ∧ y.toInt64 ≤ 2 then 1 else 0) hP c158_13 rfl rfl (fun _ h2 => x_isIn hP h2) ?_
    refine r_ti (y := if 0 ≤ y ∧ y ≤ 2 then 1 else 0) (zisC rfl rfl) ?_
    refine r_ifneB hP c158_16 (fun h16 => ?_) (fun h16 => ?_)
    · refine r_al hP c158_23 rfl ?_
      refine r_cVvp (as := []) (r := []) (a := 119) hP c158_24 rfl (zj119 hKb) rfl (fun I2 L2 R2 => (zfm_ I I2 ∧ zfn_ L L2 ∧ zMs_ I2 L2 S nP (zps S nS nP A na)) ∧ R = R2) (fun Q2 hq => x_layStates hP hKb hRb hD hs1 hp1 hp8 hs6 hw6 hA hAo hn10 (fun I2 L2 a b c => hq I2 L2 R ⟨⟨a, b, c⟩, rfl⟩)) ?_
      rintro I2 L2 R2 ⟨⟨ha, hb, hc⟩, rfl⟩
      refine r_al hP c158_27 rfl ?_
      refine r_gI (x := nI (zps S nS nP A na).length) hP c158_28 (zj119 hKb) hc.1 ?_
      refine r_ifne hP c158_31 (fun h31 => ?_) (fun h31 => ?_)
      · have hl0 : ¬ (zps S nS nP A na).length = 0 := fun q => h31 (by rw [q]; rfl)
        refine r_ic hP c158_38 ?_
        refine r_is (ls' := [.ref 119, .int m, .int y, .int (-4), .null, .null, .null, .null, .null, .null, .null, .null]) hP c158_40 (Nat.le_of_ble_eq_true rfl) rfl ?_
        refine r_lc hP c158_41 ?_
        refine r_ls (ls' := [.ref 119, .int m, .int y, .int (-4), .long 0, .null, .null, .null, .null, .null, .null, .null]) hP c158_42 (Nat.le_of_ble_eq_true rfl) rfl ?_
        refine r_ic hP c158_44 ?_
        refine r_is (ls' := [.ref 119, .int m, .int y, .int (-4), .long 0, .null, .int 0, .null, .null, .null, .null, .null]) hP c158_45 (Nat.le_of_ble_eq_true rfl) rfl ?_
        refine r_ic hP c158_47 ?_
        refine r_is (ls' := [.ref 119, .int m, .int y, .int (-4), .long 0, .null, .int 0, .int 0, .null, .null, .null, .null]) hP c158_48 (Nat.le_of_ble_eq_true rfl) rfl ?_
        refine y_next_k hP hKb hRb (zD_fm hD ha) hs1 hp1 hp8 hs6 hw6 hsr hc (zok_ps S nS hp8 A na) (fun L3 x y2 z v8 v9 v10 v11 h3 h4 => ?_) 0 (Nat.zero_le _) _ _ _ _ _ _ _ _ ⟨fun _ _ _ => rfl, Or.inl ⟨rfl, rfl⟩⟩
        rcases h4 with ⟨q1, -⟩ | ⟨k0, o0, hk0, ho0, e1, e2, rfl, rfl, -, -⟩
        · exact absurd q1 (zfk_ne hs1)
        refine r_il hP c158_163 rfl ?_
        refine r_ifne hP c158_164 (fun h164 => ?_) (fun h164 => ?_)
        · refine r_il hP c158_175 rfl ?_
          refine r_ic hP c158_176 ?_
          refine r_ine hP c158_177 (fun h177 => ?_) (fun h177 => ?_)
          · refine r_ll hP c158_188 rfl ?_
            first
              | exact r_lrE hP c158_190 (h _ _ (fun _ _ _ _ => rfl) (fun _ _ _ _ => rfl)) (by rw [f_next, if_neg (fun q => h4 q.1)])
              | exact r_lrE hP c158_190 (h _ _ (fun _ _ _ _ => rfl) (fun _ _ _ _ => rfl)) (by rw [f_next, if_neg (fun q => h16 q.2)])
              | exact r_lrE hP c158_190 (h _ _ ha (fun a q1 q2 k => hb a q1 k)) (by rw [f_next, if_pos ⟨h4, h16⟩, if_pos hl0])
              | exact r_lrE hP c158_190 (h _ _ ha (fun a q1 q2 k => (h3 a k q2).trans (hb a q1 k))) (by rw [f_next, if_pos ⟨h4, h16⟩, if_neg hl0, if_pos h164, e1])
              | exact r_lrE hP c158_190 (h _ _ ha (fun a q1 q2 k => (h3 a k q2).trans (hb a q1 k))) (by rw [f_next, if_pos ⟨h4, h16⟩, if_neg hl0, if_neg h164, if_pos h177, e2])
              | exact r_lrE hP c158_190 (h _ _ ha (fun a q1 q2 k => (h3 a k q2).trans (hb a q1 k))) (by rw [f_next, if_pos ⟨h4, h16⟩, if_neg hl0, if_neg h164, if_neg h177])
          · refine r_il hP c158_180 rfl ?_
            refine r_ic hP c158_181 ?_
            refine r_irem hP c158_183 (by decide) ?_
            refine r_ti (y := nI o0) ((pk_rem (a := 8 * k0 + o0) (d := 8) (by omega) (by decide) (by decide)).trans (congrArg nI (by omega))) ?_
            refine r_i2l hP c158_184 ?_
            refine r_goto hP c158_185 ?_
            first
              | exact r_lrE hP c158_190 (h _ _ (fun _ _ _ _ => rfl) (fun _ _ _ _ => rfl)) (by rw [f_next, if_neg (fun q => h4 q.1)])
              | exact r_lrE hP c158_190 (h _ _ (fun _ _ _ _ => rfl) (fun _ _ _ _ => rfl)) (by rw [f_next, if_neg (fun q => h16 q.2)])
              | exact r_lrE hP c158_190 (h _ _ ha (fun a q1 q2 k => hb a q1 k)) (by rw [f_next, if_pos ⟨h4, h16⟩, if_pos hl0])
              | exact r_lrE hP c158_190 (h _ _ ha (fun a q1 q2 k => (h3 a k q2).trans (hb a q1 k))) (by rw [f_next, if_pos ⟨h4, h16⟩, if_neg hl0, if_pos h164, e1])
              | exact r_lrE hP c158_190 (h _ _ ha (fun a q1 q2 k => (h3 a k q2).trans (hb a q1 k))) (by rw [f_next, if_pos ⟨h4, h16⟩, if_neg hl0, if_neg h164, if_pos h177, e2])
              | exact r_lrE hP c158_190 (h _ _ ha (fun a q1 q2 k => (h3 a k q2).trans (hb a q1 k))) (by rw [f_next, if_pos ⟨h4, h16⟩, if_neg hl0, if_neg h164, if_neg h177])
        · refine r_il hP c158_167 rfl ?_
          refine r_ic hP c158_168 ?_
          refine r_idiv hP c158_170 (by decide) ?_
          refine r_ti (y := nI k0) ((pk_div (a := 8 * k0 + o0) (d := 8) (by omega) (by decide) (by decide)).trans (congrArg nI (by omega))) ?_
          refine r_i2l hP c158_171 ?_
          refine r_goto hP c158_172 ?_
          first
            | exact r_lrE hP c158_190 (h _ _ (fun _ _ _ _ => rfl) (fun _ _ _ _ => rfl)) (by rw [f_next, if_neg (fun q => h4 q.1)])
            | exact r_lrE hP c158_190 (h _ _ (fun _ _ _ _ => rfl) (fun _ _ _ _ => rfl)) (by rw [f_next, if_neg (fun q => h16 q.2)])
            | exact r_lrE hP c158_190 (h _ _ ha (fun a q1 q2 k => hb a q1 k)) (by rw [f_next, if_pos ⟨h4, h16⟩, if_pos hl0])
            | exact r_lrE hP c158_190 (h _ _ ha (fun a q1 q2 k => (h3 a k q2).trans (hb a q1 k))) (by rw [f_next, if_pos ⟨h4, h16⟩, if_neg hl0, if_pos h164, e1])
            | exact r_lrE hP c158_190 (h _ _ ha (fun a q1 q2 k => (h3 a k q2).trans (hb a q1 k))) (by rw [f_next, if_pos ⟨h4, h16⟩, if_neg hl0, if_neg h164, if_pos h177, e2])
            | exact r_lrE hP c158_190 (h _ _ ha (fun a q1 q2 k => (h3 a k q2).trans (hb a q1 k))) (by rw [f_next, if_pos ⟨h4, h16⟩, if_neg hl0, if_neg h164, if_neg h177])
      · have hl0 : (zps S nS nP A na).length = 0 := (nI_eq (b := 0) (by have := (zok_ps S nS hp8 A na).1; omega) (by decide)).mp h31
        refine r_lc hP c158_34 ?_
        first
          | exact r_lrE hP c158_37 (h _ _ (fun _ _ _ _ => rfl) (fun _ _ _ _ => rfl)) (by rw [f_next, if_neg (fun q => h4 q.1)])
          | exact r_lrE hP c158_37 (h _ _ (fun _ _ _ _ => rfl) (fun _ _ _ _ => rfl)) (by rw [f_next, if_neg (fun q => h16 q.2)])
          | exact r_lrE hP c158_37 (h _ _ ha (fun a q1 q2 k => hb a q1 k)) (by rw [f_next, if_pos ⟨h4, h16⟩, if_pos hl0])
          | exact r_lrE hP c158_37 (h _ _ ha (fun a q1 q2 k => (h3 a k q2).trans (hb a q1 k))) (by rw [f_next, if_pos ⟨h4, h16⟩, if_neg hl0, if_pos h164, e1])
          | exact r_lrE hP c158_37 (h _ _ ha (fun a q1 q2 k => (h3 a k q2).trans (hb a q1 k))) (by rw [f_next, if_pos ⟨h4, h16⟩, if_neg hl0, if_neg h164, if_pos h177, e2])
          | exact r_lrE hP c158_37 (h _ _ ha (fun a q1 q2 k => (h3 a k q2).trans (hb a q1 k))) (by rw [f_next, if_pos ⟨h4, h16⟩, if_neg hl0, if_neg h164, if_neg h177])
    · refine r_lc hP c158_19 ?_
      first
        | exact r_lrE hP c158_22 (h _ _ (fun _ _ _ _ => rfl) (fun _ _ _ _ => rfl)) (by rw [f_next, if_neg (fun q => h4 q.1)])
        | exact r_lrE hP c158_22 (h _ _ (fun _ _ _ _ => rfl) (fun _ _ _ _ => rfl)) (by rw [f_next, if_neg (fun q => h16 q.2)])
        | exact r_lrE hP c158_22 (h _ _ ha (fun a q1 q2 k => hb a q1 k)) (by rw [f_next, if_pos ⟨h4, h16⟩, if_pos hl0])
        | exact r_lrE hP c158_22 (h _ _ ha (fun a q1 q2 k => (h3 a k q2).trans (hb a q1 k))) (by rw [f_next, if_pos ⟨h4, h16⟩, if_neg hl0, if_pos h164, e1])
        | exact r_lrE hP c158_22 (h _ _ ha (fun a q1 q2 k => (h3 a k q2).trans (hb a q1 k))) (by rw [f_next, if_pos ⟨h4, h16⟩, if_neg hl0, if_neg h164, if_pos h177, e2])
        | exact r_lrE hP c158_22 (h _ _ ha (fun a q1 q2 k => (h3 a k q2).trans (hb a q1 k))) (by rw [f_next, if_pos ⟨h4, h16⟩, if_neg hl0, if_neg h164, if_neg h177])
