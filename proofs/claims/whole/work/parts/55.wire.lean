/-! ===== the constructors of the class ===== -/
set_option maxRecDepth 4000 in
theorem x_cle2_b {K : ZKh} {P : Nat → Nat → List Value → List Value → ZMi → ZMl → ZMr → ZRt → Prop} {I : ZMi} {L : ZMl} {R : ZMr} {Q : ZRt} (hP : ZCl K P) {w : Nat} (h10 : (K w).1 = 10) (hk4 : K (w + 4) = (20, 3)) (hk5 : K (w + 5) = (20, 5)) (hr3 : R w 3 = w + 4 + 1) (hr4 : R w 4 = w + 5 + 1) (h : ∀ I2, zfW w I I2 → zCu I2 w zu0 → Q none I2 L R) : ∀ k, k ≤ 5 → ∀ (I1 : ZMi), zfW w I I1 ∧ (I1 w 5 = 0 ∧ I1 w 6 = 0 ∧ I1 w 7 = 0 ∧ I1 w 8 = 0 ∧ I1 w 9 = 0) ∧ (∀ i, i < 3 → I1 (w + 4) i = 20) ∧ (∀ i, i < k → I1 (w + 5) i = 5) → P 45 48 [.ref w, .int (nI k)] [] I1 L R Q := by
  refine zloop 5 (fun k => ∀ (I1 : ZMi), zfW w I I1 ∧ (I1 w 5 = 0 ∧ I1 w 6 = 0 ∧ I1 w 7 = 0 ∧ I1 w 8 = 0 ∧ I1 w 9 = 0) ∧ (∀ i, i < 3 → I1 (w + 4) i = 20) ∧ (∀ i, i < k → I1 (w + 5) i = 5) → P 45 48 [.ref w, .int (nI k)] [] I1 L R Q) ?_
  intro k hle ih I1 hacc
  refine r_il hP c45_48 rfl ?_
  refine r_ic hP c45_49 ?_
  refine r_ige hP c45_50 (fun h50 => ?_) (fun h50 => ?_)
  · have he : k = 5 := Nat.le_antisymm hle ((nI_leI (by omega) (by omega)).mp h50)
    subst he
    exact r_vr hP c45_66 (h _ hacc.1 (zCu_0 hacc.2))
  · have hlt : k < 5 := by
      rcases Nat.lt_or_ge k 5 with q | q
      · exact q
      · exact absurd (nI_le q (by omega)) h50
    refine r_al hP c45_53 rfl ?_
    refine r_gR (x := w + 5) hP c45_54 h10 hr4 ?_
    refine r_il hP c45_57 rfl ?_
    refine r_ic hP c45_58 ?_
    refine r_iast (j := k) hP c45_59 hk5 rfl (by omega) ?_
    refine r_inc (y := nI (k + 1)) (ls' := [.ref w, .int (nI (k + 1))]) hP c45_60 rfl (nI_1 _) rfl ?_
    refine r_goto hP c45_63 ?_
    exact ih hlt _ (zcl_up (c := 5) hacc (Or.inr ⟨rfl, rfl, rfl⟩))
set_option maxRecDepth 4000 in
theorem x_cle2_a {K : ZKh} {P : Nat → Nat → List Value → List Value → ZMi → ZMl → ZMr → ZRt → Prop} {I : ZMi} {L : ZMl} {R : ZMr} {Q : ZRt} (hP : ZCl K P) {w : Nat} (h10 : (K w).1 = 10) (hk4 : K (w + 4) = (20, 3)) (hk5 : K (w + 5) = (20, 5)) (hr3 : R w 3 = w + 4 + 1) (hr4 : R w 4 = w + 5 + 1) (h : ∀ I2, zfW w I I2 → zCu I2 w zu0 → Q none I2 L R) : ∀ t, t ≤ 3 → ∀ (I1 : ZMi), zfW w I I1 ∧ (I1 w 5 = 0 ∧ I1 w 6 = 0 ∧ I1 w 7 = 0 ∧ I1 w 8 = 0 ∧ I1 w 9 = 0) ∧ (∀ i, i < t → I1 (w + 4) i = 20) ∧ (∀ i, i < 0 → I1 (w + 5) i = 5) → P 45 27 [.ref w, .int (nI t)] [] I1 L R Q := by
  refine zloop 3 (fun t => ∀ (I1 : ZMi), zfW w I I1 ∧ (I1 w 5 = 0 ∧ I1 w 6 = 0 ∧ I1 w 7 = 0 ∧ I1 w 8 = 0 ∧ I1 w 9 = 0) ∧ (∀ i, i < t → I1 (w + 4) i = 20) ∧ (∀ i, i < 0 → I1 (w + 5) i = 5) → P 45 27 [.ref w, .int (nI t)] [] I1 L R Q) ?_
  intro t hle ih I1 hacc
  refine r_il hP c45_27 rfl ?_
  refine r_ic hP c45_28 ?_
  refine r_ige hP c45_29 (fun h29 => ?_) (fun h29 => ?_)
  · have he : t = 3 := Nat.le_antisymm hle ((nI_leI (by omega) (by omega)).mp h29)
    refine r_ic hP c45_46 ?_
    refine r_is (ls' := [.ref w, .int 0]) hP c45_47 (Nat.le_of_ble_eq_true rfl) rfl ?_
    subst he
    exact x_cle2_b hP h10 hk4 hk5 hr3 hr4 h 0 (Nat.zero_le _) _ hacc
  · have hlt : t < 3 := by
      rcases Nat.lt_or_ge t 3 with q | q
      · exact q
      · exact absurd (nI_le q (by omega)) h29
    refine r_al hP c45_32 rfl ?_
    refine r_gR (x := w + 4) hP c45_33 h10 hr3 ?_
    refine r_il hP c45_36 rfl ?_
    refine r_ic hP c45_37 ?_
    refine r_iast (j := t) hP c45_39 hk4 rfl (by omega) ?_
    refine r_inc (y := nI (t + 1)) (ls' := [.ref w, .int (nI (t + 1))]) hP c45_40 rfl (nI_1 _) rfl ?_
    refine r_goto hP c45_43 ?_
    exact ih hlt _ (zcl_up (c := 4) hacc (Or.inl ⟨rfl, rfl, rfl⟩))
set_option maxRecDepth 4000 in
theorem x_cle2 {K : ZKh} {P : Nat → Nat → List Value → List Value → ZMi → ZMl → ZMr → ZRt → Prop} {I : ZMi} {L : ZMl} {R : ZMr} {Q : ZRt} (hP : ZCl K P) {w : Nat} (h10 : (K w).1 = 10) (hk4 : K (w + 4) = (20, 3)) (hk5 : K (w + 5) = (20, 5)) (hr3 : R w 3 = w + 4 + 1) (hr4 : R w 4 = w + 5 + 1) (h : ∀ I2, zfW w I I2 → zCu I2 w zu0 → Q none I2 L R) : P 45 0 [.ref w, .null] [] I L R Q := by
  refine r_al hP c45_0 rfl ?_
  refine r_ic hP c45_1 ?_
  refine r_pI hP c45_2 h10 ?_
  refine r_al hP c45_5 rfl ?_
  refine r_ic hP c45_6 ?_
  refine r_pI hP c45_7 h10 ?_
  refine r_al hP c45_10 rfl ?_
  refine r_ic hP c45_11 ?_
  refine r_pI hP c45_12 h10 ?_
  refine r_al hP c45_15 rfl ?_
  refine r_ic hP c45_16 ?_
  refine r_pI hP c45_17 h10 ?_
  refine r_al hP c45_20 rfl ?_
  refine r_ic hP c45_21 ?_
  refine r_pI hP c45_22 h10 ?_
  refine r_ic hP c45_25 ?_
  refine r_is (ls' := [.ref w, .int 0]) hP c45_26 (Nat.le_of_ble_eq_true rfl) rfl ?_
  exact x_cle2_a hP h10 hk4 hk5 hr3 hr4 h 0 (Nat.zero_le _) _ ⟨zfW_u (zfW_u (zfW_u (zfW_u (zfW_u (zfW_r w I) (by omega)) (by omega)) (by omega)) (by omega)) (by omega), ⟨((zup_n _ _ _ _ (by omega)).trans ((zup_n _ _ _ _ (by omega)).trans ((zup_n _ _ _ _ (by omega)).trans ((zup_n _ _ _ _ (by omega)).trans (zup_s _ _ _ _))))), ((zup_n _ _ _ _ (by omega)).trans ((zup_n _ _ _ _ (by omega)).trans ((zup_n _ _ _ _ (by omega)).trans (zup_s _ _ _ _)))), ((zup_n _ _ _ _ (by omega)).trans ((zup_n _ _ _ _ (by omega)).trans (zup_s _ _ _ _))), ((zup_n _ _ _ _ (by omega)).trans (zup_s _ _ _ _)), (zup_s _ _ _ _)⟩, fun i hi => absurd hi (Nat.not_lt_zero i), fun i hi => absurd hi (Nat.not_lt_zero i)⟩
def zRi (R : ZMr) (m : Nat) : Prop := (∀ a j, R a j ≤ m) ∧ (∀ a, m ≤ a → ∀ j, R a j = 0) ∧ ∀ a j, 40 ≤ j → R a j = 0
theorem zRi_up {R : ZMr} {m m' a j x : Nat} (h : zRi R m) (h1 : a < m') (h2 : x ≤ m') (h3 : j < 40) (hm : m ≤ m') : zRi (zup R a j x) m' := by
  refine ⟨fun b i => ?_, fun b hb i => ?_, fun b i hi => ?_⟩
  · unfold zup
    split
    · exact h2
    · exact Nat.le_trans (h.1 b i) hm
  · rw [zup_na _ _ _ _ (by omega)]; exact h.2.1 b (by omega) i
  · rw [zup_nk _ _ _ _ (by omega)]; exact h.2.2 b i hi
theorem zRi_w {R : ZMr} {m m' : Nat} (h : zRi R m) (hm : m ≤ m') : zRi R m' := ⟨fun a j => Nat.le_trans (h.1 a j) hm, fun a q j => h.2.1 a (by omega) j, h.2.2⟩
def zRL : List (Nat × Nat × Nat) → ZMr → ZMr
  | [], R => R
  | q :: r, R => zRL r (zup R q.1 q.2.1 q.2.2)
theorem zRi_L : ∀ {l : List (Nat × Nat × Nat)} {R : ZMr} {m m' : Nat}, zRi R m → m ≤ m' → (l.all fun q => Nat.blt q.1 m' && Nat.ble q.2.2 m' && Nat.blt q.2.1 40) = true → zRi (zRL l R) m'
  | [], R, m, m', h, hm, _ => zRi_w h hm
  | q :: r, R, m, m', h, hm, hb => by
    rw [List.all_cons, Bool.and_eq_true, Bool.and_eq_true, Bool.and_eq_true] at hb
    obtain ⟨⟨⟨h1, h2⟩, h3⟩, h4⟩ := hb
    rw [Nat.blt_eq] at h1 h3
    rw [Nat.ble_eq] at h2
    show zRi (zRL r (zup R q.1 q.2.1 q.2.2)) m'
    exact zRi_L (zRi_up h h1 h2 h3 hm) (Nat.le_refl _) h4
theorem zKg_c {N a : Nat} {q : Nat × Nat} (h : (Nat.ble 2 a && Nat.blt a 154) = true) (hq : zKC a = q) : zKg N a = q := by
  rw [Bool.and_eq_true, Nat.ble_eq, Nat.blt_eq] at h
  unfold zKg
  rw [if_neg (by omega), if_neg (by omega), if_pos h.2]
  exact hq
theorem zKr_c {N n a : Nat} {q : Nat × Nat} (h : (Nat.ble 2 a && Nat.blt a 154 && Nat.blt a (n + 2)) = true) (hq : zKC a = q) : zKr N n a = q := by
  rw [Bool.and_eq_true] at h
  rw [zKr_lt (by have := h.2; rw [Nat.blt_eq] at this; exact this)]
  exact zKg_c h.1 hq
theorem zKr_f {N n a ci : Nat} (h : (Nat.ble 2 a && Nat.blt a 154 && Nat.blt a (n + 2)) = true) (hq : (zKC a).1 = ci) : (zKr N n a).1 = ci := by rw [zKr_c h rfl]; exact hq
theorem zKg_6 {N : Nat} : ∀ i, i < 6 → zKg N (6 + 3 + i) = (20, 3) := fun i hi => by
  rcases (show i = 0 ∨ i = 1 ∨ i = 2 ∨ i = 3 ∨ i = 4 ∨ i = 5 by omega) with rfl | rfl | rfl | rfl | rfl | rfl <;> exact zKg_c (by decide) (by decide)
theorem zR6_eq (R : ZMr) (n : Nat) : zR6 R n = zup (zup (zup (zup (zup (zup R (n + 2) 0 (n + 4)) (n + 2) 1 (n + 5)) (n + 2) 2 (n + 6)) (n + 2) 3 (n + 7)) (n + 2) 4 (n + 8)) (n + 2) 5 (n + 9) := by
  funext a j
  unfold zR6
  by_cases ha : a = n + 2
  · subst ha
    rcases Nat.lt_or_ge j 6 with hj | hj
    · rw [if_pos ⟨rfl, hj⟩]
      rcases (show j = 0 ∨ j = 1 ∨ j = 2 ∨ j = 3 ∨ j = 4 ∨ j = 5 by omega) with rfl | rfl | rfl | rfl | rfl | rfl <;> simp [zup]
    · rw [if_neg (by omega)]
      repeat rw [zup_nk _ _ _ _ (by omega)]
  · rw [if_neg (fun q => ha q.1)]
    repeat rw [zup_na _ _ _ _ ha]
section ZG
variable {l : Launch} {dC : Nat → ClassId} {dI : Nat → Nat → Nat} {cA : Nat → ClassId} {N : Nat} {E : ZMi} {A : Nat → Prop} {k mc ms cells slots n pc : Nat} {ls ls' st r : List Value} {I : ZMi} {L : ZMl} {R : ZMr} {F : ZFin}
theorem zg_n {n' c' s' pc' : Nat} (e2 : n = n') (e3 : cells = c') (e4 : slots = s') (e5 : pc = pc') (h : zSG l dC dI cA N E A k mc ms c' s' n' pc' ls st I L R F) : zSG l dC dI cA N E A k mc ms cells slots n pc ls st I L R F := by
  subst e2; subst e3; subst e4; subst e5; exact h
theorem zg_al {x q n' c' s' pc' : Nat} (e1 : x = q) (e2 : n = n') (e3 : cells = c') (e4 : slots = s') (e5 : pc = pc') (h : zSG l dC dI cA N E A k mc ms c' s' n' pc' ls (.ref q :: st) I L R F) : zSG l dC dI cA N E A k mc ms cells slots n pc ls (.ref x :: st) I L R F := by
  subst e1; subst e2; subst e3; subst e4; subst e5; exact h
theorem g_cI2 {k2 idx mc2 ms2 a n2 : Nat} {I2 : ZMi} {L2 : ZMl} {R2 : ZMr} (hlk : zmm (zy k).cls idx (zy k2)) (hcal : zcal k2 0) (hins : Cond.instanceMethod (zy k2) ∈ zWS) (hnm : (zy k2).name = "<init>") (hrt : zrt k2 = none) (hrk : zrk k2 < zrk k) (hmx : zml k2 ≤ 21) (hd : decode (zb k) pc = .ok (.invokespecial idx, 3)) (hc : zck (zml k2) [.ref a] r = true) (hcc : cells + mc2 ≤ mc) (hss : slots + ms2 ≤ ms) (hvl : ∀ v ∈ ls, zvk n v) (hvr : ∀ v ∈ r, zvk n v)
    (hs : ∀ Q : Nat → ZMi → ZMl → ZMr → Prop, Q n2 I2 L2 R2 → zSG l dC dI cA N E A k2 mc2 ms2 0 0 n 0 (zent (zml k2) [.ref a]) [] I L R (zFr k2 mc2 ms2 Q))
    (h : zSG l dC dI cA N E A k mc ms (cells + mc2) (slots + ms2) n2 (pc + 3) ls r I2 L2 R2 F) : zSG l dC dI cA N E A k mc ms cells slots n pc ls (.ref a :: r) I L R F :=
  g_cI hlk hcal hins hnm hrt hrk hmx hd hc hcc hss hvl hvr (fun a b c d => n2 = a ∧ I2 = b ∧ L2 = c ∧ R2 = d) (hs _ ⟨rfl, rfl, rfl, rfl⟩) (by rintro _ _ _ _ ⟨rfl, rfl, rfl, rfl⟩; exact h)
theorem g_cVi {k2 idx na ci ml a : Nat} {as : List Value} {C : String} {T : u_T} {FT : Nat → FieldType} (x : Int32) (ho : zOK ci C T FT) (hCy : (zy k2).cls = C) (hml2 : zml k2 = ml) (hins : Cond.instanceMethod (zy k2) ∈ zWS) (hsel : Cond.selects C (zy k2) (zy k2) ∈ zWS) (hcal : zcal k2 na) (hrk : zrk k2 < zrk k) (hmx : zml k2 ≤ 21) (hlk : zmm (zy k).cls idx (zy k2)) (hd : decode (zb k) pc = .ok (.invokevirtual idx, 3)) (hz : zarg na [] st = some (as, .ref a :: r)) (hk : (zKr N n a).1 = ci) (hc : zck ml (.ref a :: as) r = true) (hcc : cells ≤ mc) (hss : slots ≤ ms) (post : ZMi → ZMl → ZMr → Prop)
    (hs : ∀ (P : Nat → Nat → List Value → List Value → ZMi → ZMl → ZMr → ZRt → Prop), ZCl (zKr N n) P → ∀ Q : ZRt, (∀ I' L' R', post I' L' R' → Q (some (.int x)) I' L' R') → P k2 0 (zent ml (.ref a :: as)) [] I L R Q)
    (h : ∀ I' L' R', post I' L' R' → zSG l dC dI cA N E A k mc ms cells slots n (pc + 3) ls (.int x :: r) I' L' R' F) : zSG l dC dI cA N E A k mc ms cells slots n pc ls st I L R F :=
  g_cV ho hCy hml2 hins hsel hcal hrk hmx hlk hd hz hk hc hcc hss (fun v I' L' R' => v = some (.int x) ∧ post I' L' R') (fun P hP Q hq => hs P hP Q (fun I' L' R' g => hq _ _ _ _ ⟨rfl, g⟩)) (by rintro _ I' L' R' ⟨rfl, g⟩; exact h I' L' R' g)
theorem g_cVv {k2 idx na ci ml a : Nat} {as : List Value} {C : String} {T : u_T} {FT : Nat → FieldType} (ho : zOK ci C T FT) (hCy : (zy k2).cls = C) (hml2 : zml k2 = ml) (hins : Cond.instanceMethod (zy k2) ∈ zWS) (hsel : Cond.selects C (zy k2) (zy k2) ∈ zWS) (hcal : zcal k2 na) (hrk : zrk k2 < zrk k) (hmx : zml k2 ≤ 21) (hlk : zmm (zy k).cls idx (zy k2)) (hd : decode (zb k) pc = .ok (.invokevirtual idx, 3)) (hz : zarg na [] st = some (as, .ref a :: r)) (hk : (zKr N n a).1 = ci) (hc : zck ml (.ref a :: as) r = true) (hcc : cells ≤ mc) (hss : slots ≤ ms) (post : ZMi → ZMl → ZMr → Prop)
    (hs : ∀ (P : Nat → Nat → List Value → List Value → ZMi → ZMl → ZMr → ZRt → Prop), ZCl (zKr N n) P → ∀ Q : ZRt, (∀ I' L' R', post I' L' R' → Q none I' L' R') → P k2 0 (zent ml (.ref a :: as)) [] I L R Q)
    (h : ∀ I' L' R', post I' L' R' → zSG l dC dI cA N E A k mc ms cells slots n (pc + 3) ls r I' L' R' F) : zSG l dC dI cA N E A k mc ms cells slots n pc ls st I L R F :=
  g_cV ho hCy hml2 hins hsel hcal hrk hmx hlk hd hz hk hc hcc hss (fun v I' L' R' => v = none ∧ post I' L' R') (fun P hP Q hq => hs P hP Q (fun I' L' R' g => hq _ _ _ _ ⟨rfl, g⟩)) (by rintro _ I' L' R' ⟨rfl, g⟩; exact h I' L' R' g)
end ZG
theorem zgm_HummingSet_Wireless_3 : Cond.methodLink "HummingSet$Wireless" 3 Lib.objectInit ∈ zWS := zmW 177 (by decide +kernel) rfl
theorem zgl_HummingSet_Wireless_9 : Cond.classLink "HummingSet$Wireless" (9 : Nat) "HummingSet$Stage" ∈ zWS := zmW 178 (by decide +kernel) rfl
theorem zgf_HummingSet_Wireless_11 : Cond.fieldLink "HummingSet$Wireless" 11 "HummingSet$Wireless" "stages" "[LHummingSet$Stage;" ∈ zWS := zmW 268 (by decide +kernel) rfl
theorem zgl_HummingSet_Wireless_17 : Cond.classLink "HummingSet$Wireless" (17 : Nat) "HummingSet$Part" ∈ zWS := zmW 180 (by decide +kernel) rfl
theorem zgf_HummingSet_Wireless_19 : Cond.fieldLink "HummingSet$Wireless" 19 "HummingSet$Wireless" "parts" "[LHummingSet$Part;" ∈ zWS := zmW 270 (by decide +kernel) rfl
theorem zgl_HummingSet_Wireless_23 : Cond.classLink "HummingSet$Wireless" (23 : Nat) "HummingSet$Way" ∈ zWS := zmW 182 (by decide +kernel) rfl
theorem zgf_HummingSet_Wireless_25 : Cond.fieldLink "HummingSet$Wireless" 25 "HummingSet$Wireless" "ways" "[LHummingSet$Way;" ∈ zWS := zmW 274 (by decide +kernel) rfl
theorem zgf_HummingSet_Wireless_29 : Cond.fieldLink "HummingSet$Wireless" 29 "HummingSet$Wireless" "ears" "[I" ∈ zWS := zmW 275 (by decide +kernel) rfl
theorem zgf_HummingSet_Wireless_33 : Cond.fieldLink "HummingSet$Wireless" 33 "HummingSet$Wireless" "yearly" "[I" ∈ zWS := zmW 277 (by decide +kernel) rfl
theorem zgn_7 : Cond.instantiable "HummingSet$Stage" (3 : Nat) ∈ zWS := zmW 184 (by decide +kernel) rfl
theorem zgj_7 : Cond.initialized "HummingSet$Stage" ∈ zWS := zmW 10 (by decide +kernel) rfl
theorem zgd_7 : ∀ j, j < zN 7 → defaultValue (zF7 j) = zdf0 (zty 7 j) := by decide +kernel
theorem zgm_HummingSet_Wireless_36 : zmm "HummingSet$Wireless" 36 zy38 := Or.inr ⟨"HummingSet", zmN 185 (by decide +kernel) rfl⟩
theorem zgc38 : zcal 38 0 := ⟨by decide +kernel, zcw38, by decide +kernel, by decide +kernel, zmW (w := Cond.initialized "HummingSet$Stage") 10 (by decide +kernel) rfl⟩
theorem zgi38 : Cond.instanceMethod (zy 38) ∈ zWS := zmW (w := Cond.instanceMethod zy38) 186 (by decide +kernel) rfl
theorem zgn_3 : Cond.instantiable "HummingSet$Part" (9 : Nat) ∈ zWS := zmW 202 (by decide +kernel) rfl
theorem zgj_3 : Cond.initialized "HummingSet$Part" ∈ zWS := zmW 11 (by decide +kernel) rfl
theorem zgd_3 : ∀ j, j < zN 3 → defaultValue (zF3 j) = zdf0 (zty 3 j) := by decide +kernel
theorem zgm_HummingSet_Wireless_37 : zmm "HummingSet$Wireless" 37 zy17 := Or.inr ⟨"HummingSet", zmN 203 (by decide +kernel) rfl⟩
theorem zgc17 : zcal 17 0 := ⟨by decide +kernel, zcw17, by decide +kernel, by decide +kernel, zmW (w := Cond.initialized "HummingSet$Part") 11 (by decide +kernel) rfl⟩
theorem zgi17 : Cond.instanceMethod (zy 17) ∈ zWS := zmW (w := Cond.instanceMethod zy17) 204 (by decide +kernel) rfl
theorem zgn_9 : Cond.instantiable "HummingSet$Way" (3 : Nat) ∈ zWS := zmW 249 (by decide +kernel) rfl
theorem zgj_9 : Cond.initialized "HummingSet$Way" ∈ zWS := zmW 12 (by decide +kernel) rfl
theorem zgd_9 : ∀ j, j < zN 9 → defaultValue (zF9 j) = zdf0 (zty 9 j) := by decide +kernel
theorem zgm_HummingSet_Wireless_38 : zmm "HummingSet$Wireless" 38 zy43 := Or.inr ⟨"HummingSet", zmN 250 (by decide +kernel) rfl⟩
theorem zgc43 : zcal 43 0 := ⟨by decide +kernel, zcw43, by decide +kernel, by decide +kernel, zmW (w := Cond.initialized "HummingSet$Way") 12 (by decide +kernel) rfl⟩
theorem zgi43 : Cond.instanceMethod (zy 43) ∈ zWS := zmW (w := Cond.instanceMethod zy43) 251 (by decide +kernel) rfl
theorem zgm_HummingSet_Wireless_39 : zmm "HummingSet$Wireless" 39 zy45 := Or.inl (zmW 264 (by decide +kernel) rfl)
theorem dg44_0 : decode (zb 44) 0 = .ok (.aload_n 0, 1) := by decide +kernel
theorem dg44_1 : decode (zb 44) 1 = .ok (.invokespecial 3, 3) := by decide +kernel
theorem dg44_4 : decode (zb 44) 4 = .ok (.aload_n 0, 1) := by decide +kernel
theorem dg44_5 : decode (zb 44) 5 = .ok (.bipush 6, 2) := by decide +kernel
theorem dg44_7 : decode (zb 44) 7 = .ok (.anewarray 9, 3) := by decide +kernel
theorem dg44_10 : decode (zb 44) 10 = .ok (.putfield 11, 3) := by decide +kernel
theorem dg44_13 : decode (zb 44) 13 = .ok (.aload_n 0, 1) := by decide +kernel
theorem dg44_14 : decode (zb 44) 14 = .ok (.bipush 8, 2) := by decide +kernel
theorem dg44_16 : decode (zb 44) 16 = .ok (.anewarray 17, 3) := by decide +kernel
theorem dg44_19 : decode (zb 44) 19 = .ok (.putfield 19, 3) := by decide +kernel
theorem dg44_22 : decode (zb 44) 22 = .ok (.aload_n 0, 1) := by decide +kernel
theorem dg44_23 : decode (zb 44) 23 = .ok (.bipush 6, 2) := by decide +kernel
theorem dg44_25 : decode (zb 44) 25 = .ok (.anewarray 23, 3) := by decide +kernel
theorem dg44_28 : decode (zb 44) 28 = .ok (.putfield 25, 3) := by decide +kernel
theorem dg44_31 : decode (zb 44) 31 = .ok (.aload_n 0, 1) := by decide +kernel
theorem dg44_32 : decode (zb 44) 32 = .ok (.iconst 3, 1) := by decide +kernel
theorem dg44_33 : decode (zb 44) 33 = .ok (.newarray .int, 2) := by decide +kernel
theorem dg44_35 : decode (zb 44) 35 = .ok (.putfield 29, 3) := by decide +kernel
theorem dg44_38 : decode (zb 44) 38 = .ok (.aload_n 0, 1) := by decide +kernel
theorem dg44_39 : decode (zb 44) 39 = .ok (.iconst 5, 1) := by decide +kernel
theorem dg44_40 : decode (zb 44) 40 = .ok (.newarray .int, 2) := by decide +kernel
theorem dg44_42 : decode (zb 44) 42 = .ok (.putfield 33, 3) := by decide +kernel
theorem dg44_45 : decode (zb 44) 45 = .ok (.iconst 0, 1) := by decide +kernel
theorem dg44_46 : decode (zb 44) 46 = .ok (.istore_n 1, 1) := by decide +kernel
theorem dg44_47 : decode (zb 44) 47 = .ok (.iload_n 1, 1) := by decide +kernel
theorem dg44_48 : decode (zb 44) 48 = .ok (.bipush 6, 2) := by decide +kernel
theorem dg44_50 : decode (zb 44) 50 = .ok (.if_icmp .ge 22, 3) := by decide +kernel
theorem dg44_53 : decode (zb 44) 53 = .ok (.aload_n 0, 1) := by decide +kernel
theorem dg44_54 : decode (zb 44) 54 = .ok (.getfield 11, 3) := by decide +kernel
theorem dg44_57 : decode (zb 44) 57 = .ok (.iload_n 1, 1) := by decide +kernel
theorem dg44_58 : decode (zb 44) 58 = .ok (.new 9, 3) := by decide +kernel
theorem dg44_61 : decode (zb 44) 61 = .ok (.dup, 1) := by decide +kernel
theorem dg44_62 : decode (zb 44) 62 = .ok (.invokespecial 36, 3) := by decide +kernel
theorem dg44_65 : decode (zb 44) 65 = .ok (.aastore, 1) := by decide +kernel
theorem dg44_66 : decode (zb 44) 66 = .ok (.iinc 1 1, 3) := by decide +kernel
theorem dg44_69 : decode (zb 44) 69 = .ok (.goto (-22), 3) := by decide +kernel
theorem dg44_72 : decode (zb 44) 72 = .ok (.iconst 0, 1) := by decide +kernel
theorem dg44_73 : decode (zb 44) 73 = .ok (.istore_n 1, 1) := by decide +kernel
theorem dg44_74 : decode (zb 44) 74 = .ok (.iload_n 1, 1) := by decide +kernel
theorem dg44_75 : decode (zb 44) 75 = .ok (.bipush 8, 2) := by decide +kernel
theorem dg44_77 : decode (zb 44) 77 = .ok (.if_icmp .ge 22, 3) := by decide +kernel
theorem dg44_80 : decode (zb 44) 80 = .ok (.aload_n 0, 1) := by decide +kernel
theorem dg44_81 : decode (zb 44) 81 = .ok (.getfield 19, 3) := by decide +kernel
theorem dg44_84 : decode (zb 44) 84 = .ok (.iload_n 1, 1) := by decide +kernel
theorem dg44_85 : decode (zb 44) 85 = .ok (.new 17, 3) := by decide +kernel
theorem dg44_88 : decode (zb 44) 88 = .ok (.dup, 1) := by decide +kernel
theorem dg44_89 : decode (zb 44) 89 = .ok (.invokespecial 37, 3) := by decide +kernel
theorem dg44_92 : decode (zb 44) 92 = .ok (.aastore, 1) := by decide +kernel
theorem dg44_93 : decode (zb 44) 93 = .ok (.iinc 1 1, 3) := by decide +kernel
theorem dg44_96 : decode (zb 44) 96 = .ok (.goto (-22), 3) := by decide +kernel
theorem dg44_99 : decode (zb 44) 99 = .ok (.iconst 0, 1) := by decide +kernel
theorem dg44_100 : decode (zb 44) 100 = .ok (.istore_n 1, 1) := by decide +kernel
theorem dg44_101 : decode (zb 44) 101 = .ok (.iload_n 1, 1) := by decide +kernel
theorem dg44_102 : decode (zb 44) 102 = .ok (.bipush 6, 2) := by decide +kernel
theorem dg44_104 : decode (zb 44) 104 = .ok (.if_icmp .ge 22, 3) := by decide +kernel
theorem dg44_107 : decode (zb 44) 107 = .ok (.aload_n 0, 1) := by decide +kernel
theorem dg44_108 : decode (zb 44) 108 = .ok (.getfield 25, 3) := by decide +kernel
theorem dg44_111 : decode (zb 44) 111 = .ok (.iload_n 1, 1) := by decide +kernel
theorem dg44_112 : decode (zb 44) 112 = .ok (.new 23, 3) := by decide +kernel
theorem dg44_115 : decode (zb 44) 115 = .ok (.dup, 1) := by decide +kernel
theorem dg44_116 : decode (zb 44) 116 = .ok (.invokespecial 38, 3) := by decide +kernel
theorem dg44_119 : decode (zb 44) 119 = .ok (.aastore, 1) := by decide +kernel
theorem dg44_120 : decode (zb 44) 120 = .ok (.iinc 1 1, 3) := by decide +kernel
theorem dg44_123 : decode (zb 44) 123 = .ok (.goto (-22), 3) := by decide +kernel
theorem dg44_126 : decode (zb 44) 126 = .ok (.aload_n 0, 1) := by decide +kernel
theorem dg44_127 : decode (zb 44) 127 = .ok (.invokevirtual 39, 3) := by decide +kernel
theorem dg44_130 : decode (zb 44) 130 = .ok (.return_, 1) := by decide +kernel
def zW39_ : List (Nat × Nat × Nat) := [(39, 0, 41), (39, 1, 42), (39, 2, 43), (39, 3, 44), (39, 4, 45), (45, 0, 47), (40, 0, 46), (47, 0, 49), (40, 1, 48), (49, 0, 51), (40, 2, 50), (51, 0, 53), (40, 3, 52), (53, 0, 55), (40, 4, 54), (55, 0, 57), (40, 5, 56), (57, 0, 59), (41, 0, 58), (59, 0, 61), (41, 1, 60), (61, 0, 63), (41, 2, 62), (63, 0, 65), (41, 3, 64), (65, 0, 67), (41, 4, 66), (67, 0, 69), (41, 5, 68), (69, 0, 71), (41, 6, 70), (71, 0, 73), (41, 7, 72), (42, 0, 74), (42, 1, 75), (42, 2, 76), (42, 3, 77), (42, 4, 78), (42, 5, 79)]
set_option maxRecDepth 4000 in
theorem c_44_39 {l : Launch} {dC : Nat → ClassId} {dI : Nat → Nat → Nat} {cA : Nat → ClassId} {N : Nat} {E : ZMi} {A : Nat → Prop} {I : ZMi} {L : ZMl} {R : ZMr} {Q : Nat → ZMi → ZMl → ZMr → Prop} (hR : zRi R 40) (hI : ∀ a, 40 ≤ a → ∀ j, I a j = 0) (hL : ∀ a, 40 ≤ a → ∀ j, L a j = 0) (h : ∀ I2, zfW 39 I I2 → zCu I2 39 zu0 → Q 77 I2 L (zRL zW39_ R)) : zSG l dC dI cA N E A 44 39 178 0 0 38 0 [.ref 39, .null] [] I L R (zFr 44 39 178 Q) := by
  have hR0 := hR
  refine g_al dg44_0 rfl rfl ?_
  refine g_oi (own := "HummingSet$Wireless") rfl zgm_HummingSet_Wireless_3 zgoi_i zgoi_c (Nat.le_of_ble_eq_true rfl) rfl dg44_1 ?_
  refine g_al dg44_4 rfl rfl ?_
  refine g_bi (v := 6) dg44_5 (by decide) ?_
  refine g_nq (kd := 24) (t0 := 4) (len := 6) (C := "HummingSet$Stage") (own := "HummingSet$Wireless") rfl zgl_HummingSet_Wireless_9 (fun U q => q.1) (by decide) (fun _ => rfl) (by decide) (by decide) (by decide) (zKg_c (by decide +kernel) (by decide +kernel)) (zvL_all ⟨zvk_r (by decide), trivial, trivial⟩) (zvL_all ⟨zvk_r (by decide), trivial⟩) (fun a j => hR0.1 a j) (fun j => hR0.2.1 _ (by decide) j) (by decide) (by decide) dg44_7 ?_
  refine zg_al (q := 40) (n' := 39) (c' := 1) (s' := 6) (pc' := 10) rfl rfl rfl rfl rfl ?_
  have hR1 := zRi_w (m' := 41) hR0 (by decide)
  refine g_pRF (j := 0) zo10 (by decide) (own := "HummingSet$Wireless") rfl (by decide) zgf_HummingSet_Wireless_11 rfl rfl rfl ⟨rfl, fun _ => ⟨rfl, rfl⟩⟩ dg44_10 (zKr_f (by decide +kernel) (by decide +kernel)) ?_
  have hR2 := zRi_up (a := 39) (j := 0) (x := 40 + 1) (m' := 41) hR1 (by decide) (by decide) (by decide) (by decide)
  refine g_al dg44_13 rfl rfl ?_
  refine g_bi (v := 8) dg44_14 (by decide) ?_
  refine g_nq (kd := 25) (t0 := 5) (len := 8) (C := "HummingSet$Part") (own := "HummingSet$Wireless") rfl zgl_HummingSet_Wireless_17 (fun U q => q.2.1) (by decide) (fun _ => rfl) (by decide) (by decide) (by decide) (zKg_c (by decide +kernel) (by decide +kernel)) (zvL_all ⟨zvk_r (by decide), trivial, trivial⟩) (zvL_all ⟨zvk_r (by decide), trivial⟩) (fun a j => hR2.1 a j) (fun j => hR2.2.1 _ (by decide) j) (by decide) (by decide) dg44_16 ?_
  refine zg_al (q := 41) (n' := 40) (c' := 2) (s' := 14) (pc' := 19) rfl rfl rfl rfl rfl ?_
  have hR3 := zRi_w (m' := 42) hR2 (by decide)
  refine zg_n (n' := 40) (c' := 2) (s' := 14) (pc' := 19) rfl rfl rfl rfl ?_
  refine g_pRF (j := 1) zo10 (by decide) (own := "HummingSet$Wireless") rfl (by decide) zgf_HummingSet_Wireless_19 rfl rfl rfl ⟨rfl, fun _ => ⟨rfl, rfl⟩⟩ dg44_19 (zKr_f (by decide +kernel) (by decide +kernel)) ?_
  have hR4 := zRi_up (a := 39) (j := 1) (x := 41 + 1) (m' := 42) hR3 (by decide) (by decide) (by decide) (by decide)
  refine g_al dg44_22 rfl rfl ?_
  refine g_bi (v := 6) dg44_23 (by decide) ?_
  refine g_nq (kd := 26) (t0 := 6) (len := 6) (C := "HummingSet$Way") (own := "HummingSet$Wireless") rfl zgl_HummingSet_Wireless_23 (fun U q => q.2.2.1) (by decide) (fun _ => rfl) (by decide) (by decide) (by decide) (zKg_c (by decide +kernel) (by decide +kernel)) (zvL_all ⟨zvk_r (by decide), trivial, trivial⟩) (zvL_all ⟨zvk_r (by decide), trivial⟩) (fun a j => hR4.1 a j) (fun j => hR4.2.1 _ (by decide) j) (by decide) (by decide) dg44_25 ?_
  refine zg_al (q := 42) (n' := 41) (c' := 3) (s' := 20) (pc' := 28) rfl rfl rfl rfl rfl ?_
  have hR5 := zRi_w (m' := 43) hR4 (by decide)
  refine g_pRF (j := 2) zo10 (by decide) (own := "HummingSet$Wireless") rfl (by decide) zgf_HummingSet_Wireless_25 rfl rfl rfl ⟨rfl, fun _ => ⟨rfl, rfl⟩⟩ dg44_28 (zKr_f (by decide +kernel) (by decide +kernel)) ?_
  have hR6 := zRi_up (a := 39) (j := 2) (x := 42 + 1) (m' := 43) hR5 (by decide) (by decide) (by decide) (by decide)
  refine g_al dg44_31 rfl rfl ?_
  refine g_ic (v := 3) dg44_32 (by decide) ?_
  refine g_na (kd := 20) (t0 := 0) (len := 3) (ty := .int) rfl (Or.inl rfl) rfl (by decide) (fun _ => rfl) zgac_int (by decide) (by decide) (by decide) (zKg_c (by decide +kernel) (by decide +kernel)) (zvL_all ⟨zvk_r (by decide), trivial, trivial⟩) (zvL_all ⟨zvk_r (by decide), trivial⟩) (fun a j => hR6.1 a j) (hI _ (by decide)) (by decide) (by decide) dg44_33 ?_
  refine zg_al (q := 43) (n' := 42) (c' := 4) (s' := 23) (pc' := 35) rfl rfl rfl rfl rfl ?_
  have hR7 := zRi_w (m' := 44) hR6 (by decide)
  refine g_pRF (j := 3) zo10 (by decide) (own := "HummingSet$Wireless") rfl (by decide) zgf_HummingSet_Wireless_29 rfl rfl rfl ⟨rfl, fun _ => ⟨rfl, rfl⟩⟩ dg44_35 (zKr_f (by decide +kernel) (by decide +kernel)) ?_
  have hR8 := zRi_up (a := 39) (j := 3) (x := 43 + 1) (m' := 44) hR7 (by decide) (by decide) (by decide) (by decide)
  refine g_al dg44_38 rfl rfl ?_
  refine zg_n (n' := 42) (c' := 4) (s' := 23) (pc' := 39) rfl rfl rfl rfl ?_
  refine g_ic (v := 5) dg44_39 (by decide) ?_
  refine g_na (kd := 20) (t0 := 0) (len := 5) (ty := .int) rfl (Or.inl rfl) rfl (by decide) (fun _ => rfl) zgac_int (by decide) (by decide) (by decide) (zKg_c (by decide +kernel) (by decide +kernel)) (zvL_all ⟨zvk_r (by decide), trivial, trivial⟩) (zvL_all ⟨zvk_r (by decide), trivial⟩) (fun a j => hR8.1 a j) (hI _ (by decide)) (by decide) (by decide) dg44_40 ?_
  refine zg_al (q := 44) (n' := 43) (c' := 5) (s' := 28) (pc' := 42) rfl rfl rfl rfl rfl ?_
  have hR9 := zRi_w (m' := 45) hR8 (by decide)
  refine g_pRF (j := 4) zo10 (by decide) (own := "HummingSet$Wireless") rfl (by decide) zgf_HummingSet_Wireless_33 rfl rfl rfl ⟨rfl, fun _ => ⟨rfl, rfl⟩⟩ dg44_42 (zKr_f (by decide +kernel) (by decide +kernel)) ?_
  have hR10 := zRi_up (a := 39) (j := 4) (x := 44 + 1) (m' := 45) hR9 (by decide) (by decide) (by decide) (by decide)
  refine g_ic (v := 0) dg44_45 (by decide) ?_
  refine g_is (ls' := [.ref 39, .int 0]) dg44_46 rfl (Nat.le_of_ble_eq_true rfl) rfl ?_
  refine g_il dg44_47 rfl rfl ?_
  refine g_bi (v := 6) dg44_48 (by decide) ?_
  refine zg_n (n' := 43) (c' := 5) (s' := 28) (pc' := 50) rfl rfl rfl rfl ?_
  refine g_geF (t := 72) dg44_50 (by decide) (by decide) ?_
  refine g_al dg44_53 rfl rfl ?_
  refine g_gR (j := 0) (x := 40) zo10 (by decide) (own := "HummingSet$Wireless") rfl (Or.inl zgf_HummingSet_Wireless_11) rfl dg44_54 (zKr_f (by decide +kernel) (by decide +kernel)) rfl ?_
  refine zg_n (n' := 43) (c' := 5) (s' := 28) (pc' := 57) rfl rfl rfl rfl ?_
  refine g_il dg44_57 rfl rfl ?_
  refine g_new (ci := 7) (C := "HummingSet$Stage") (own := "HummingSet$Wireless") zo7 rfl zgl_HummingSet_Wireless_9 zgn_7 zgj_7 zgd_7 (zKg_c (by decide +kernel) (by decide +kernel)) (zvL_all ⟨zvk_r (by decide), trivial, trivial⟩) (zvL_all ⟨trivial, zvk_r (by decide), trivial⟩) (fun a j => hR10.1 a j) (hI _ (by decide)) (hL _ (by decide)) (fun j => hR10.2.1 _ (by decide) j) (by decide) (by decide) dg44_58 ?_
  refine zg_al (q := 45) (n' := 44) (c' := 6) (s' := 31) (pc' := 61) rfl rfl rfl rfl rfl ?_
  have hR11 := zRi_w (m' := 46) hR10 (by decide)
  refine g_dup dg44_61 ?_
  refine g_cI2 (k2 := 38) (mc2 := 1) (ms2 := 3) zgm_HummingSet_Wireless_36 zgc38 zgi38 rfl rfl (by decide +kernel) (by decide +kernel) dg44_62 rfl (by decide) (by decide) (zvL_all ⟨zvk_r (by decide), trivial, trivial⟩) (zvL_all ⟨zvk_r (by decide), trivial, zvk_r (by decide), trivial⟩) (fun Q hq => c_38 (zKr_f (by decide +kernel) (by decide +kernel)) (by decide) (zKg_c (by decide +kernel) (by decide +kernel)) (hI _ (by decide)) (fun a j => hR11.1 a j) hq) ?_
  refine zg_n (n' := 45) (c' := 7) (s' := 34) (pc' := 65) rfl rfl rfl rfl ?_
  have hR12 := zRi_up (a := 45) (j := 0) (x := 47) (m' := 47) hR11 (by decide) (by decide) (by decide) (by decide)
  refine g_aast (kd := 24) (t0 := 4) (ci := 7) (nn := 6) (j := 0) (C := "HummingSet$Stage") zo7 (by decide) (fun _ => rfl) dg44_65 (zKr_c (by decide +kernel) (by decide +kernel)) (zKr_f (by decide +kernel) (by decide +kernel)) (by decide) rfl (by decide) ?_
  have hR13 := zRi_up (a := 40) (j := 0) (x := 45 + 1) (m' := 47) hR12 (by decide) (by decide) (by decide) (by decide)
  refine g_inc (d := 1) (y := 1) (ls' := [.ref 39, .int 1]) dg44_66 (by decide) rfl (by decide) rfl ?_
  refine zg_n (n' := 45) (c' := 7) (s' := 34) (pc' := 69) rfl rfl rfl rfl ?_
  refine g_goto (t := 47) dg44_69 (by decide) ?_
  refine g_il dg44_47 rfl rfl ?_
  refine g_bi (v := 6) dg44_48 (by decide) ?_
  refine zg_n (n' := 45) (c' := 7) (s' := 34) (pc' := 50) rfl rfl rfl rfl ?_
  refine g_geF (t := 72) dg44_50 (by decide) (by decide) ?_
  refine zg_n (n' := 45) (c' := 7) (s' := 34) (pc' := 53) rfl rfl rfl rfl ?_
  refine g_al dg44_53 rfl rfl ?_
  refine g_gR (j := 0) (x := 40) zo10 (by decide) (own := "HummingSet$Wireless") rfl (Or.inl zgf_HummingSet_Wireless_11) rfl dg44_54 (zKr_f (by decide +kernel) (by decide +kernel)) rfl ?_
  refine g_il dg44_57 rfl rfl ?_
  refine g_new (ci := 7) (C := "HummingSet$Stage") (own := "HummingSet$Wireless") zo7 rfl zgl_HummingSet_Wireless_9 zgn_7 zgj_7 zgd_7 (zKg_c (by decide +kernel) (by decide +kernel)) (zvL_all ⟨zvk_r (by decide), trivial, trivial⟩) (zvL_all ⟨trivial, zvk_r (by decide), trivial⟩) (fun a j => hR13.1 a j) (hI _ (by decide)) (hL _ (by decide)) (fun j => hR13.2.1 _ (by decide) j) (by decide) (by decide) dg44_58 ?_
  refine zg_al (q := 47) (n' := 46) (c' := 8) (s' := 37) (pc' := 61) rfl rfl rfl rfl rfl ?_
  have hR14 := zRi_w (m' := 48) hR13 (by decide)
  refine g_dup dg44_61 ?_
  refine g_cI2 (k2 := 38) (mc2 := 1) (ms2 := 3) zgm_HummingSet_Wireless_36 zgc38 zgi38 rfl rfl (by decide +kernel) (by decide +kernel) dg44_62 rfl (by decide) (by decide) (zvL_all ⟨zvk_r (by decide), trivial, trivial⟩) (zvL_all ⟨zvk_r (by decide), trivial, zvk_r (by decide), trivial⟩) (fun Q hq => c_38 (zKr_f (by decide +kernel) (by decide +kernel)) (by decide) (zKg_c (by decide +kernel) (by decide +kernel)) (hI _ (by decide)) (fun a j => hR14.1 a j) hq) ?_
  refine zg_n (n' := 47) (c' := 9) (s' := 40) (pc' := 65) rfl rfl rfl rfl ?_
  have hR15 := zRi_up (a := 47) (j := 0) (x := 49) (m' := 49) hR14 (by decide) (by decide) (by decide) (by decide)
  refine g_aast (kd := 24) (t0 := 4) (ci := 7) (nn := 6) (j := 1) (C := "HummingSet$Stage") zo7 (by decide) (fun _ => rfl) dg44_65 (zKr_c (by decide +kernel) (by decide +kernel)) (zKr_f (by decide +kernel) (by decide +kernel)) (by decide) rfl (by decide) ?_
  have hR16 := zRi_up (a := 40) (j := 1) (x := 47 + 1) (m' := 49) hR15 (by decide) (by decide) (by decide) (by decide)
  refine g_inc (d := 1) (y := 2) (ls' := [.ref 39, .int 2]) dg44_66 (by decide) rfl (by decide) rfl ?_
  refine zg_n (n' := 47) (c' := 9) (s' := 40) (pc' := 69) rfl rfl rfl rfl ?_
  refine g_goto (t := 47) dg44_69 (by decide) ?_
  refine g_il dg44_47 rfl rfl ?_
  refine zg_n (n' := 47) (c' := 9) (s' := 40) (pc' := 48) rfl rfl rfl rfl ?_
  refine g_bi (v := 6) dg44_48 (by decide) ?_
  refine zg_n (n' := 47) (c' := 9) (s' := 40) (pc' := 50) rfl rfl rfl rfl ?_
  refine g_geF (t := 72) dg44_50 (by decide) (by decide) ?_
  refine g_al dg44_53 rfl rfl ?_
  refine g_gR (j := 0) (x := 40) zo10 (by decide) (own := "HummingSet$Wireless") rfl (Or.inl zgf_HummingSet_Wireless_11) rfl dg44_54 (zKr_f (by decide +kernel) (by decide +kernel)) rfl ?_
  refine g_il dg44_57 rfl rfl ?_
  refine g_new (ci := 7) (C := "HummingSet$Stage") (own := "HummingSet$Wireless") zo7 rfl zgl_HummingSet_Wireless_9 zgn_7 zgj_7 zgd_7 (zKg_c (by decide +kernel) (by decide +kernel)) (zvL_all ⟨zvk_r (by decide), trivial, trivial⟩) (zvL_all ⟨trivial, zvk_r (by decide), trivial⟩) (fun a j => hR16.1 a j) (hI _ (by decide)) (hL _ (by decide)) (fun j => hR16.2.1 _ (by decide) j) (by decide) (by decide) dg44_58 ?_
  refine zg_al (q := 49) (n' := 48) (c' := 10) (s' := 43) (pc' := 61) rfl rfl rfl rfl rfl ?_
  have hR17 := zRi_w (m' := 50) hR16 (by decide)
  refine g_dup dg44_61 ?_
  refine g_cI2 (k2 := 38) (mc2 := 1) (ms2 := 3) zgm_HummingSet_Wireless_36 zgc38 zgi38 rfl rfl (by decide +kernel) (by decide +kernel) dg44_62 rfl (by decide) (by decide) (zvL_all ⟨zvk_r (by decide), trivial, trivial⟩) (zvL_all ⟨zvk_r (by decide), trivial, zvk_r (by decide), trivial⟩) (fun Q hq => c_38 (zKr_f (by decide +kernel) (by decide +kernel)) (by decide) (zKg_c (by decide +kernel) (by decide +kernel)) (hI _ (by decide)) (fun a j => hR17.1 a j) hq) ?_
  refine zg_n (n' := 49) (c' := 11) (s' := 46) (pc' := 65) rfl rfl rfl rfl ?_
  have hR18 := zRi_up (a := 49) (j := 0) (x := 51) (m' := 51) hR17 (by decide) (by decide) (by decide) (by decide)
  refine g_aast (kd := 24) (t0 := 4) (ci := 7) (nn := 6) (j := 2) (C := "HummingSet$Stage") zo7 (by decide) (fun _ => rfl) dg44_65 (zKr_c (by decide +kernel) (by decide +kernel)) (zKr_f (by decide +kernel) (by decide +kernel)) (by decide) rfl (by decide) ?_
  have hR19 := zRi_up (a := 40) (j := 2) (x := 49 + 1) (m' := 51) hR18 (by decide) (by decide) (by decide) (by decide)
  refine g_inc (d := 1) (y := 3) (ls' := [.ref 39, .int 3]) dg44_66 (by decide) rfl (by decide) rfl ?_
  refine zg_n (n' := 49) (c' := 11) (s' := 46) (pc' := 69) rfl rfl rfl rfl ?_
  refine zg_n (n' := 49) (c' := 11) (s' := 46) (pc' := 69) rfl rfl rfl rfl ?_
  refine g_goto (t := 47) dg44_69 (by decide) ?_
  refine g_il dg44_47 rfl rfl ?_
  refine g_bi (v := 6) dg44_48 (by decide) ?_
  refine zg_n (n' := 49) (c' := 11) (s' := 46) (pc' := 50) rfl rfl rfl rfl ?_
  refine g_geF (t := 72) dg44_50 (by decide) (by decide) ?_
  refine g_al dg44_53 rfl rfl ?_
  refine g_gR (j := 0) (x := 40) zo10 (by decide) (own := "HummingSet$Wireless") rfl (Or.inl zgf_HummingSet_Wireless_11) rfl dg44_54 (zKr_f (by decide +kernel) (by decide +kernel)) rfl ?_
  refine g_il dg44_57 rfl rfl ?_
  refine g_new (ci := 7) (C := "HummingSet$Stage") (own := "HummingSet$Wireless") zo7 rfl zgl_HummingSet_Wireless_9 zgn_7 zgj_7 zgd_7 (zKg_c (by decide +kernel) (by decide +kernel)) (zvL_all ⟨zvk_r (by decide), trivial, trivial⟩) (zvL_all ⟨trivial, zvk_r (by decide), trivial⟩) (fun a j => hR19.1 a j) (hI _ (by decide)) (hL _ (by decide)) (fun j => hR19.2.1 _ (by decide) j) (by decide) (by decide) dg44_58 ?_
  refine zg_al (q := 51) (n' := 50) (c' := 12) (s' := 49) (pc' := 61) rfl rfl rfl rfl rfl ?_
  have hR20 := zRi_w (m' := 52) hR19 (by decide)
  refine g_dup dg44_61 ?_
  refine g_cI2 (k2 := 38) (mc2 := 1) (ms2 := 3) zgm_HummingSet_Wireless_36 zgc38 zgi38 rfl rfl (by decide +kernel) (by decide +kernel) dg44_62 rfl (by decide) (by decide) (zvL_all ⟨zvk_r (by decide), trivial, trivial⟩) (zvL_all ⟨zvk_r (by decide), trivial, zvk_r (by decide), trivial⟩) (fun Q hq => c_38 (zKr_f (by decide +kernel) (by decide +kernel)) (by decide) (zKg_c (by decide +kernel) (by decide +kernel)) (hI _ (by decide)) (fun a j => hR20.1 a j) hq) ?_
  refine zg_n (n' := 51) (c' := 13) (s' := 52) (pc' := 65) rfl rfl rfl rfl ?_
  have hR21 := zRi_up (a := 51) (j := 0) (x := 53) (m' := 53) hR20 (by decide) (by decide) (by decide) (by decide)
  refine zg_n (n' := 51) (c' := 13) (s' := 52) (pc' := 65) rfl rfl rfl rfl ?_
  refine g_aast (kd := 24) (t0 := 4) (ci := 7) (nn := 6) (j := 3) (C := "HummingSet$Stage") zo7 (by decide) (fun _ => rfl) dg44_65 (zKr_c (by decide +kernel) (by decide +kernel)) (zKr_f (by decide +kernel) (by decide +kernel)) (by decide) rfl (by decide) ?_
  have hR22 := zRi_up (a := 40) (j := 3) (x := 51 + 1) (m' := 53) hR21 (by decide) (by decide) (by decide) (by decide)
  refine g_inc (d := 1) (y := 4) (ls' := [.ref 39, .int 4]) dg44_66 (by decide) rfl (by decide) rfl ?_
  refine zg_n (n' := 51) (c' := 13) (s' := 52) (pc' := 69) rfl rfl rfl rfl ?_
  refine g_goto (t := 47) dg44_69 (by decide) ?_
  refine g_il dg44_47 rfl rfl ?_
  refine g_bi (v := 6) dg44_48 (by decide) ?_
  refine zg_n (n' := 51) (c' := 13) (s' := 52) (pc' := 50) rfl rfl rfl rfl ?_
  refine g_geF (t := 72) dg44_50 (by decide) (by decide) ?_
  refine g_al dg44_53 rfl rfl ?_
  refine g_gR (j := 0) (x := 40) zo10 (by decide) (own := "HummingSet$Wireless") rfl (Or.inl zgf_HummingSet_Wireless_11) rfl dg44_54 (zKr_f (by decide +kernel) (by decide +kernel)) rfl ?_
  refine g_il dg44_57 rfl rfl ?_
  refine g_new (ci := 7) (C := "HummingSet$Stage") (own := "HummingSet$Wireless") zo7 rfl zgl_HummingSet_Wireless_9 zgn_7 zgj_7 zgd_7 (zKg_c (by decide +kernel) (by decide +kernel)) (zvL_all ⟨zvk_r (by decide), trivial, trivial⟩) (zvL_all ⟨trivial, zvk_r (by decide), trivial⟩) (fun a j => hR22.1 a j) (hI _ (by decide)) (hL _ (by decide)) (fun j => hR22.2.1 _ (by decide) j) (by decide) (by decide) dg44_58 ?_
  refine zg_al (q := 53) (n' := 52) (c' := 14) (s' := 55) (pc' := 61) rfl rfl rfl rfl rfl ?_
  have hR23 := zRi_w (m' := 54) hR22 (by decide)
  refine zg_n (n' := 52) (c' := 14) (s' := 55) (pc' := 61) rfl rfl rfl rfl ?_
  refine g_dup dg44_61 ?_
  refine g_cI2 (k2 := 38) (mc2 := 1) (ms2 := 3) zgm_HummingSet_Wireless_36 zgc38 zgi38 rfl rfl (by decide +kernel) (by decide +kernel) dg44_62 rfl (by decide) (by decide) (zvL_all ⟨zvk_r (by decide), trivial, trivial⟩) (zvL_all ⟨zvk_r (by decide), trivial, zvk_r (by decide), trivial⟩) (fun Q hq => c_38 (zKr_f (by decide +kernel) (by decide +kernel)) (by decide) (zKg_c (by decide +kernel) (by decide +kernel)) (hI _ (by decide)) (fun a j => hR23.1 a j) hq) ?_
  refine zg_n (n' := 53) (c' := 15) (s' := 58) (pc' := 65) rfl rfl rfl rfl ?_
  have hR24 := zRi_up (a := 53) (j := 0) (x := 55) (m' := 55) hR23 (by decide) (by decide) (by decide) (by decide)
  refine g_aast (kd := 24) (t0 := 4) (ci := 7) (nn := 6) (j := 4) (C := "HummingSet$Stage") zo7 (by decide) (fun _ => rfl) dg44_65 (zKr_c (by decide +kernel) (by decide +kernel)) (zKr_f (by decide +kernel) (by decide +kernel)) (by decide) rfl (by decide) ?_
  have hR25 := zRi_up (a := 40) (j := 4) (x := 53 + 1) (m' := 55) hR24 (by decide) (by decide) (by decide) (by decide)
  refine g_inc (d := 1) (y := 5) (ls' := [.ref 39, .int 5]) dg44_66 (by decide) rfl (by decide) rfl ?_
  refine zg_n (n' := 53) (c' := 15) (s' := 58) (pc' := 69) rfl rfl rfl rfl ?_
  refine g_goto (t := 47) dg44_69 (by decide) ?_
  refine g_il dg44_47 rfl rfl ?_
  refine g_bi (v := 6) dg44_48 (by decide) ?_
  refine zg_n (n' := 53) (c' := 15) (s' := 58) (pc' := 50) rfl rfl rfl rfl ?_
  refine g_geF (t := 72) dg44_50 (by decide) (by decide) ?_
  refine g_al dg44_53 rfl rfl ?_
  refine g_gR (j := 0) (x := 40) zo10 (by decide) (own := "HummingSet$Wireless") rfl (Or.inl zgf_HummingSet_Wireless_11) rfl dg44_54 (zKr_f (by decide +kernel) (by decide +kernel)) rfl ?_
  refine zg_n (n' := 53) (c' := 15) (s' := 58) (pc' := 57) rfl rfl rfl rfl ?_
  refine g_il dg44_57 rfl rfl ?_
  refine g_new (ci := 7) (C := "HummingSet$Stage") (own := "HummingSet$Wireless") zo7 rfl zgl_HummingSet_Wireless_9 zgn_7 zgj_7 zgd_7 (zKg_c (by decide +kernel) (by decide +kernel)) (zvL_all ⟨zvk_r (by decide), trivial, trivial⟩) (zvL_all ⟨trivial, zvk_r (by decide), trivial⟩) (fun a j => hR25.1 a j) (hI _ (by decide)) (hL _ (by decide)) (fun j => hR25.2.1 _ (by decide) j) (by decide) (by decide) dg44_58 ?_
  refine zg_al (q := 55) (n' := 54) (c' := 16) (s' := 61) (pc' := 61) rfl rfl rfl rfl rfl ?_
  have hR26 := zRi_w (m' := 56) hR25 (by decide)
  refine g_dup dg44_61 ?_
  refine g_cI2 (k2 := 38) (mc2 := 1) (ms2 := 3) zgm_HummingSet_Wireless_36 zgc38 zgi38 rfl rfl (by decide +kernel) (by decide +kernel) dg44_62 rfl (by decide) (by decide) (zvL_all ⟨zvk_r (by decide), trivial, trivial⟩) (zvL_all ⟨zvk_r (by decide), trivial, zvk_r (by decide), trivial⟩) (fun Q hq => c_38 (zKr_f (by decide +kernel) (by decide +kernel)) (by decide) (zKg_c (by decide +kernel) (by decide +kernel)) (hI _ (by decide)) (fun a j => hR26.1 a j) hq) ?_
  refine zg_n (n' := 55) (c' := 17) (s' := 64) (pc' := 65) rfl rfl rfl rfl ?_
  have hR27 := zRi_up (a := 55) (j := 0) (x := 57) (m' := 57) hR26 (by decide) (by decide) (by decide) (by decide)
  refine g_aast (kd := 24) (t0 := 4) (ci := 7) (nn := 6) (j := 5) (C := "HummingSet$Stage") zo7 (by decide) (fun _ => rfl) dg44_65 (zKr_c (by decide +kernel) (by decide +kernel)) (zKr_f (by decide +kernel) (by decide +kernel)) (by decide) rfl (by decide) ?_
  have hR28 := zRi_up (a := 40) (j := 5) (x := 55 + 1) (m' := 57) hR27 (by decide) (by decide) (by decide) (by decide)
  refine g_inc (d := 1) (y := 6) (ls' := [.ref 39, .int 6]) dg44_66 (by decide) rfl (by decide) rfl ?_
  refine zg_n (n' := 55) (c' := 17) (s' := 64) (pc' := 69) rfl rfl rfl rfl ?_
  refine g_goto (t := 47) dg44_69 (by decide) ?_
  refine g_il dg44_47 rfl rfl ?_
  refine g_bi (v := 6) dg44_48 (by decide) ?_
  refine zg_n (n' := 55) (c' := 17) (s' := 64) (pc' := 50) rfl rfl rfl rfl ?_
  refine g_geT (t := 72) dg44_50 (by decide) (by decide) ?_
  refine zg_n (n' := 55) (c' := 17) (s' := 64) (pc' := 72) rfl rfl rfl rfl ?_
  refine g_ic (v := 0) dg44_72 (by decide) ?_
  refine g_is (ls' := [.ref 39, .int 0]) dg44_73 rfl (Nat.le_of_ble_eq_true rfl) rfl ?_
  refine g_il dg44_74 rfl rfl ?_
  refine g_bi (v := 8) dg44_75 (by decide) ?_
  refine zg_n (n' := 55) (c' := 17) (s' := 64) (pc' := 77) rfl rfl rfl rfl ?_
  refine g_geF (t := 99) dg44_77 (by decide) (by decide) ?_
  refine g_al dg44_80 rfl rfl ?_
  refine g_gR (j := 1) (x := 41) zo10 (by decide) (own := "HummingSet$Wireless") rfl (Or.inl zgf_HummingSet_Wireless_19) rfl dg44_81 (zKr_f (by decide +kernel) (by decide +kernel)) rfl ?_
  refine g_il dg44_84 rfl rfl ?_
  refine g_new (ci := 3) (C := "HummingSet$Part") (own := "HummingSet$Wireless") zo3 rfl zgl_HummingSet_Wireless_17 zgn_3 zgj_3 zgd_3 (zKg_c (by decide +kernel) (by decide +kernel)) (zvL_all ⟨zvk_r (by decide), trivial, trivial⟩) (zvL_all ⟨trivial, zvk_r (by decide), trivial⟩) (fun a j => hR28.1 a j) (hI _ (by decide)) (hL _ (by decide)) (fun j => hR28.2.1 _ (by decide) j) (by decide) (by decide) dg44_85 ?_
  refine zg_al (q := 57) (n' := 56) (c' := 18) (s' := 73) (pc' := 88) rfl rfl rfl rfl rfl ?_
  have hR29 := zRi_w (m' := 58) hR28 (by decide)
  refine g_dup dg44_88 ?_
  refine zg_n (n' := 56) (c' := 18) (s' := 73) (pc' := 89) rfl rfl rfl rfl ?_
  refine g_cI2 (k2 := 17) (mc2 := 1) (ms2 := 3) zgm_HummingSet_Wireless_37 zgc17 zgi17 rfl rfl (by decide +kernel) (by decide +kernel) dg44_89 rfl (by decide) (by decide) (zvL_all ⟨zvk_r (by decide), trivial, trivial⟩) (zvL_all ⟨zvk_r (by decide), trivial, zvk_r (by decide), trivial⟩) (fun Q hq => c_17 (zKr_f (by decide +kernel) (by decide +kernel)) (by decide) (zKg_c (by decide +kernel) (by decide +kernel)) (hI _ (by decide)) (fun a j => hR29.1 a j) hq) ?_
  refine zg_n (n' := 57) (c' := 19) (s' := 76) (pc' := 92) rfl rfl rfl rfl ?_
  have hR30 := zRi_up (a := 57) (j := 0) (x := 59) (m' := 59) hR29 (by decide) (by decide) (by decide) (by decide)
  refine g_aast (kd := 25) (t0 := 5) (ci := 3) (nn := 8) (j := 0) (C := "HummingSet$Part") zo3 (by decide) (fun _ => rfl) dg44_92 (zKr_c (by decide +kernel) (by decide +kernel)) (zKr_f (by decide +kernel) (by decide +kernel)) (by decide) rfl (by decide) ?_
  have hR31 := zRi_up (a := 41) (j := 0) (x := 57 + 1) (m' := 59) hR30 (by decide) (by decide) (by decide) (by decide)
  refine g_inc (d := 1) (y := 1) (ls' := [.ref 39, .int 1]) dg44_93 (by decide) rfl (by decide) rfl ?_
  refine zg_n (n' := 57) (c' := 19) (s' := 76) (pc' := 96) rfl rfl rfl rfl ?_
  refine g_goto (t := 74) dg44_96 (by decide) ?_
  refine g_il dg44_74 rfl rfl ?_
  refine g_bi (v := 8) dg44_75 (by decide) ?_
  refine zg_n (n' := 57) (c' := 19) (s' := 76) (pc' := 77) rfl rfl rfl rfl ?_
  refine g_geF (t := 99) dg44_77 (by decide) (by decide) ?_
  refine g_al dg44_80 rfl rfl ?_
  refine g_gR (j := 1) (x := 41) zo10 (by decide) (own := "HummingSet$Wireless") rfl (Or.inl zgf_HummingSet_Wireless_19) rfl dg44_81 (zKr_f (by decide +kernel) (by decide +kernel)) rfl ?_
  refine g_il dg44_84 rfl rfl ?_
  refine zg_n (n' := 57) (c' := 19) (s' := 76) (pc' := 85) rfl rfl rfl rfl ?_
  refine g_new (ci := 3) (C := "HummingSet$Part") (own := "HummingSet$Wireless") zo3 rfl zgl_HummingSet_Wireless_17 zgn_3 zgj_3 zgd_3 (zKg_c (by decide +kernel) (by decide +kernel)) (zvL_all ⟨zvk_r (by decide), trivial, trivial⟩) (zvL_all ⟨trivial, zvk_r (by decide), trivial⟩) (fun a j => hR31.1 a j) (hI _ (by decide)) (hL _ (by decide)) (fun j => hR31.2.1 _ (by decide) j) (by decide) (by decide) dg44_85 ?_
  refine zg_al (q := 59) (n' := 58) (c' := 20) (s' := 85) (pc' := 88) rfl rfl rfl rfl rfl ?_
  have hR32 := zRi_w (m' := 60) hR31 (by decide)
  refine g_dup dg44_88 ?_
  refine g_cI2 (k2 := 17) (mc2 := 1) (ms2 := 3) zgm_HummingSet_Wireless_37 zgc17 zgi17 rfl rfl (by decide +kernel) (by decide +kernel) dg44_89 rfl (by decide) (by decide) (zvL_all ⟨zvk_r (by decide), trivial, trivial⟩) (zvL_all ⟨zvk_r (by decide), trivial, zvk_r (by decide), trivial⟩) (fun Q hq => c_17 (zKr_f (by decide +kernel) (by decide +kernel)) (by decide) (zKg_c (by decide +kernel) (by decide +kernel)) (hI _ (by decide)) (fun a j => hR32.1 a j) hq) ?_
  refine zg_n (n' := 59) (c' := 21) (s' := 88) (pc' := 92) rfl rfl rfl rfl ?_
  have hR33 := zRi_up (a := 59) (j := 0) (x := 61) (m' := 61) hR32 (by decide) (by decide) (by decide) (by decide)
  refine g_aast (kd := 25) (t0 := 5) (ci := 3) (nn := 8) (j := 1) (C := "HummingSet$Part") zo3 (by decide) (fun _ => rfl) dg44_92 (zKr_c (by decide +kernel) (by decide +kernel)) (zKr_f (by decide +kernel) (by decide +kernel)) (by decide) rfl (by decide) ?_
  have hR34 := zRi_up (a := 41) (j := 1) (x := 59 + 1) (m' := 61) hR33 (by decide) (by decide) (by decide) (by decide)
  refine g_inc (d := 1) (y := 2) (ls' := [.ref 39, .int 2]) dg44_93 (by decide) rfl (by decide) rfl ?_
  refine zg_n (n' := 59) (c' := 21) (s' := 88) (pc' := 96) rfl rfl rfl rfl ?_
  refine g_goto (t := 74) dg44_96 (by decide) ?_
  refine g_il dg44_74 rfl rfl ?_
  refine g_bi (v := 8) dg44_75 (by decide) ?_
  refine zg_n (n' := 59) (c' := 21) (s' := 88) (pc' := 77) rfl rfl rfl rfl ?_
  refine g_geF (t := 99) dg44_77 (by decide) (by decide) ?_
  refine g_al dg44_80 rfl rfl ?_
  refine zg_n (n' := 59) (c' := 21) (s' := 88) (pc' := 81) rfl rfl rfl rfl ?_
  refine g_gR (j := 1) (x := 41) zo10 (by decide) (own := "HummingSet$Wireless") rfl (Or.inl zgf_HummingSet_Wireless_19) rfl dg44_81 (zKr_f (by decide +kernel) (by decide +kernel)) rfl ?_
  refine g_il dg44_84 rfl rfl ?_
  refine g_new (ci := 3) (C := "HummingSet$Part") (own := "HummingSet$Wireless") zo3 rfl zgl_HummingSet_Wireless_17 zgn_3 zgj_3 zgd_3 (zKg_c (by decide +kernel) (by decide +kernel)) (zvL_all ⟨zvk_r (by decide), trivial, trivial⟩) (zvL_all ⟨trivial, zvk_r (by decide), trivial⟩) (fun a j => hR34.1 a j) (hI _ (by decide)) (hL _ (by decide)) (fun j => hR34.2.1 _ (by decide) j) (by decide) (by decide) dg44_85 ?_
  refine zg_al (q := 61) (n' := 60) (c' := 22) (s' := 97) (pc' := 88) rfl rfl rfl rfl rfl ?_
  have hR35 := zRi_w (m' := 62) hR34 (by decide)
  refine g_dup dg44_88 ?_
  refine g_cI2 (k2 := 17) (mc2 := 1) (ms2 := 3) zgm_HummingSet_Wireless_37 zgc17 zgi17 rfl rfl (by decide +kernel) (by decide +kernel) dg44_89 rfl (by decide) (by decide) (zvL_all ⟨zvk_r (by decide), trivial, trivial⟩) (zvL_all ⟨zvk_r (by decide), trivial, zvk_r (by decide), trivial⟩) (fun Q hq => c_17 (zKr_f (by decide +kernel) (by decide +kernel)) (by decide) (zKg_c (by decide +kernel) (by decide +kernel)) (hI _ (by decide)) (fun a j => hR35.1 a j) hq) ?_
  refine zg_n (n' := 61) (c' := 23) (s' := 100) (pc' := 92) rfl rfl rfl rfl ?_
  have hR36 := zRi_up (a := 61) (j := 0) (x := 63) (m' := 63) hR35 (by decide) (by decide) (by decide) (by decide)
  refine g_aast (kd := 25) (t0 := 5) (ci := 3) (nn := 8) (j := 2) (C := "HummingSet$Part") zo3 (by decide) (fun _ => rfl) dg44_92 (zKr_c (by decide +kernel) (by decide +kernel)) (zKr_f (by decide +kernel) (by decide +kernel)) (by decide) rfl (by decide) ?_
  have hR37 := zRi_up (a := 41) (j := 2) (x := 61 + 1) (m' := 63) hR36 (by decide) (by decide) (by decide) (by decide)
  refine g_inc (d := 1) (y := 3) (ls' := [.ref 39, .int 3]) dg44_93 (by decide) rfl (by decide) rfl ?_
  refine zg_n (n' := 61) (c' := 23) (s' := 100) (pc' := 96) rfl rfl rfl rfl ?_
  refine g_goto (t := 74) dg44_96 (by decide) ?_
  refine g_il dg44_74 rfl rfl ?_
  refine g_bi (v := 8) dg44_75 (by decide) ?_
  refine zg_n (n' := 61) (c' := 23) (s' := 100) (pc' := 77) rfl rfl rfl rfl ?_
  refine zg_n (n' := 61) (c' := 23) (s' := 100) (pc' := 77) rfl rfl rfl rfl ?_
  refine g_geF (t := 99) dg44_77 (by decide) (by decide) ?_
  refine g_al dg44_80 rfl rfl ?_
  refine g_gR (j := 1) (x := 41) zo10 (by decide) (own := "HummingSet$Wireless") rfl (Or.inl zgf_HummingSet_Wireless_19) rfl dg44_81 (zKr_f (by decide +kernel) (by decide +kernel)) rfl ?_
  refine g_il dg44_84 rfl rfl ?_
  refine g_new (ci := 3) (C := "HummingSet$Part") (own := "HummingSet$Wireless") zo3 rfl zgl_HummingSet_Wireless_17 zgn_3 zgj_3 zgd_3 (zKg_c (by decide +kernel) (by decide +kernel)) (zvL_all ⟨zvk_r (by decide), trivial, trivial⟩) (zvL_all ⟨trivial, zvk_r (by decide), trivial⟩) (fun a j => hR37.1 a j) (hI _ (by decide)) (hL _ (by decide)) (fun j => hR37.2.1 _ (by decide) j) (by decide) (by decide) dg44_85 ?_
  refine zg_al (q := 63) (n' := 62) (c' := 24) (s' := 109) (pc' := 88) rfl rfl rfl rfl rfl ?_
  have hR38 := zRi_w (m' := 64) hR37 (by decide)
  refine g_dup dg44_88 ?_
  refine g_cI2 (k2 := 17) (mc2 := 1) (ms2 := 3) zgm_HummingSet_Wireless_37 zgc17 zgi17 rfl rfl (by decide +kernel) (by decide +kernel) dg44_89 rfl (by decide) (by decide) (zvL_all ⟨zvk_r (by decide), trivial, trivial⟩) (zvL_all ⟨zvk_r (by decide), trivial, zvk_r (by decide), trivial⟩) (fun Q hq => c_17 (zKr_f (by decide +kernel) (by decide +kernel)) (by decide) (zKg_c (by decide +kernel) (by decide +kernel)) (hI _ (by decide)) (fun a j => hR38.1 a j) hq) ?_
  refine zg_n (n' := 63) (c' := 25) (s' := 112) (pc' := 92) rfl rfl rfl rfl ?_
  have hR39 := zRi_up (a := 63) (j := 0) (x := 65) (m' := 65) hR38 (by decide) (by decide) (by decide) (by decide)
  refine g_aast (kd := 25) (t0 := 5) (ci := 3) (nn := 8) (j := 3) (C := "HummingSet$Part") zo3 (by decide) (fun _ => rfl) dg44_92 (zKr_c (by decide +kernel) (by decide +kernel)) (zKr_f (by decide +kernel) (by decide +kernel)) (by decide) rfl (by decide) ?_
  have hR40 := zRi_up (a := 41) (j := 3) (x := 63 + 1) (m' := 65) hR39 (by decide) (by decide) (by decide) (by decide)
  refine g_inc (d := 1) (y := 4) (ls' := [.ref 39, .int 4]) dg44_93 (by decide) rfl (by decide) rfl ?_
  refine zg_n (n' := 63) (c' := 25) (s' := 112) (pc' := 96) rfl rfl rfl rfl ?_
  refine g_goto (t := 74) dg44_96 (by decide) ?_
  refine zg_n (n' := 63) (c' := 25) (s' := 112) (pc' := 74) rfl rfl rfl rfl ?_
  refine g_il dg44_74 rfl rfl ?_
  refine g_bi (v := 8) dg44_75 (by decide) ?_
  refine zg_n (n' := 63) (c' := 25) (s' := 112) (pc' := 77) rfl rfl rfl rfl ?_
  refine g_geF (t := 99) dg44_77 (by decide) (by decide) ?_
  refine g_al dg44_80 rfl rfl ?_
  refine g_gR (j := 1) (x := 41) zo10 (by decide) (own := "HummingSet$Wireless") rfl (Or.inl zgf_HummingSet_Wireless_19) rfl dg44_81 (zKr_f (by decide +kernel) (by decide +kernel)) rfl ?_
  refine g_il dg44_84 rfl rfl ?_
  refine g_new (ci := 3) (C := "HummingSet$Part") (own := "HummingSet$Wireless") zo3 rfl zgl_HummingSet_Wireless_17 zgn_3 zgj_3 zgd_3 (zKg_c (by decide +kernel) (by decide +kernel)) (zvL_all ⟨zvk_r (by decide), trivial, trivial⟩) (zvL_all ⟨trivial, zvk_r (by decide), trivial⟩) (fun a j => hR40.1 a j) (hI _ (by decide)) (hL _ (by decide)) (fun j => hR40.2.1 _ (by decide) j) (by decide) (by decide) dg44_85 ?_
  refine zg_al (q := 65) (n' := 64) (c' := 26) (s' := 121) (pc' := 88) rfl rfl rfl rfl rfl ?_
  have hR41 := zRi_w (m' := 66) hR40 (by decide)
  refine g_dup dg44_88 ?_
  refine g_cI2 (k2 := 17) (mc2 := 1) (ms2 := 3) zgm_HummingSet_Wireless_37 zgc17 zgi17 rfl rfl (by decide +kernel) (by decide +kernel) dg44_89 rfl (by decide) (by decide) (zvL_all ⟨zvk_r (by decide), trivial, trivial⟩) (zvL_all ⟨zvk_r (by decide), trivial, zvk_r (by decide), trivial⟩) (fun Q hq => c_17 (zKr_f (by decide +kernel) (by decide +kernel)) (by decide) (zKg_c (by decide +kernel) (by decide +kernel)) (hI _ (by decide)) (fun a j => hR41.1 a j) hq) ?_
  refine zg_n (n' := 65) (c' := 27) (s' := 124) (pc' := 92) rfl rfl rfl rfl ?_
  have hR42 := zRi_up (a := 65) (j := 0) (x := 67) (m' := 67) hR41 (by decide) (by decide) (by decide) (by decide)
  refine g_aast (kd := 25) (t0 := 5) (ci := 3) (nn := 8) (j := 4) (C := "HummingSet$Part") zo3 (by decide) (fun _ => rfl) dg44_92 (zKr_c (by decide +kernel) (by decide +kernel)) (zKr_f (by decide +kernel) (by decide +kernel)) (by decide) rfl (by decide) ?_
  have hR43 := zRi_up (a := 41) (j := 4) (x := 65 + 1) (m' := 67) hR42 (by decide) (by decide) (by decide) (by decide)
  refine zg_n (n' := 65) (c' := 27) (s' := 124) (pc' := 93) rfl rfl rfl rfl ?_
  refine g_inc (d := 1) (y := 5) (ls' := [.ref 39, .int 5]) dg44_93 (by decide) rfl (by decide) rfl ?_
  refine zg_n (n' := 65) (c' := 27) (s' := 124) (pc' := 96) rfl rfl rfl rfl ?_
  refine g_goto (t := 74) dg44_96 (by decide) ?_
  refine g_il dg44_74 rfl rfl ?_
  refine g_bi (v := 8) dg44_75 (by decide) ?_
  refine zg_n (n' := 65) (c' := 27) (s' := 124) (pc' := 77) rfl rfl rfl rfl ?_
  refine g_geF (t := 99) dg44_77 (by decide) (by decide) ?_
  refine g_al dg44_80 rfl rfl ?_
  refine g_gR (j := 1) (x := 41) zo10 (by decide) (own := "HummingSet$Wireless") rfl (Or.inl zgf_HummingSet_Wireless_19) rfl dg44_81 (zKr_f (by decide +kernel) (by decide +kernel)) rfl ?_
  refine g_il dg44_84 rfl rfl ?_
  refine g_new (ci := 3) (C := "HummingSet$Part") (own := "HummingSet$Wireless") zo3 rfl zgl_HummingSet_Wireless_17 zgn_3 zgj_3 zgd_3 (zKg_c (by decide +kernel) (by decide +kernel)) (zvL_all ⟨zvk_r (by decide), trivial, trivial⟩) (zvL_all ⟨trivial, zvk_r (by decide), trivial⟩) (fun a j => hR43.1 a j) (hI _ (by decide)) (hL _ (by decide)) (fun j => hR43.2.1 _ (by decide) j) (by decide) (by decide) dg44_85 ?_
  refine zg_al (q := 67) (n' := 66) (c' := 28) (s' := 133) (pc' := 88) rfl rfl rfl rfl rfl ?_
  have hR44 := zRi_w (m' := 68) hR43 (by decide)
  refine g_dup dg44_88 ?_
  refine zg_n (n' := 66) (c' := 28) (s' := 133) (pc' := 89) rfl rfl rfl rfl ?_
  refine g_cI2 (k2 := 17) (mc2 := 1) (ms2 := 3) zgm_HummingSet_Wireless_37 zgc17 zgi17 rfl rfl (by decide +kernel) (by decide +kernel) dg44_89 rfl (by decide) (by decide) (zvL_all ⟨zvk_r (by decide), trivial, trivial⟩) (zvL_all ⟨zvk_r (by decide), trivial, zvk_r (by decide), trivial⟩) (fun Q hq => c_17 (zKr_f (by decide +kernel) (by decide +kernel)) (by decide) (zKg_c (by decide +kernel) (by decide +kernel)) (hI _ (by decide)) (fun a j => hR44.1 a j) hq) ?_
  refine zg_n (n' := 67) (c' := 29) (s' := 136) (pc' := 92) rfl rfl rfl rfl ?_
  have hR45 := zRi_up (a := 67) (j := 0) (x := 69) (m' := 69) hR44 (by decide) (by decide) (by decide) (by decide)
  refine g_aast (kd := 25) (t0 := 5) (ci := 3) (nn := 8) (j := 5) (C := "HummingSet$Part") zo3 (by decide) (fun _ => rfl) dg44_92 (zKr_c (by decide +kernel) (by decide +kernel)) (zKr_f (by decide +kernel) (by decide +kernel)) (by decide) rfl (by decide) ?_
  have hR46 := zRi_up (a := 41) (j := 5) (x := 67 + 1) (m' := 69) hR45 (by decide) (by decide) (by decide) (by decide)
  refine g_inc (d := 1) (y := 6) (ls' := [.ref 39, .int 6]) dg44_93 (by decide) rfl (by decide) rfl ?_
  refine zg_n (n' := 67) (c' := 29) (s' := 136) (pc' := 96) rfl rfl rfl rfl ?_
  refine g_goto (t := 74) dg44_96 (by decide) ?_
  refine g_il dg44_74 rfl rfl ?_
  refine g_bi (v := 8) dg44_75 (by decide) ?_
  refine zg_n (n' := 67) (c' := 29) (s' := 136) (pc' := 77) rfl rfl rfl rfl ?_
  refine g_geF (t := 99) dg44_77 (by decide) (by decide) ?_
  refine g_al dg44_80 rfl rfl ?_
  refine g_gR (j := 1) (x := 41) zo10 (by decide) (own := "HummingSet$Wireless") rfl (Or.inl zgf_HummingSet_Wireless_19) rfl dg44_81 (zKr_f (by decide +kernel) (by decide +kernel)) rfl ?_
  refine g_il dg44_84 rfl rfl ?_
  refine zg_n (n' := 67) (c' := 29) (s' := 136) (pc' := 85) rfl rfl rfl rfl ?_
  refine g_new (ci := 3) (C := "HummingSet$Part") (own := "HummingSet$Wireless") zo3 rfl zgl_HummingSet_Wireless_17 zgn_3 zgj_3 zgd_3 (zKg_c (by decide +kernel) (by decide +kernel)) (zvL_all ⟨zvk_r (by decide), trivial, trivial⟩) (zvL_all ⟨trivial, zvk_r (by decide), trivial⟩) (fun a j => hR46.1 a j) (hI _ (by decide)) (hL _ (by decide)) (fun j => hR46.2.1 _ (by decide) j) (by decide) (by decide) dg44_85 ?_
  refine zg_al (q := 69) (n' := 68) (c' := 30) (s' := 145) (pc' := 88) rfl rfl rfl rfl rfl ?_
  have hR47 := zRi_w (m' := 70) hR46 (by decide)
  refine g_dup dg44_88 ?_
  refine g_cI2 (k2 := 17) (mc2 := 1) (ms2 := 3) zgm_HummingSet_Wireless_37 zgc17 zgi17 rfl rfl (by decide +kernel) (by decide +kernel) dg44_89 rfl (by decide) (by decide) (zvL_all ⟨zvk_r (by decide), trivial, trivial⟩) (zvL_all ⟨zvk_r (by decide), trivial, zvk_r (by decide), trivial⟩) (fun Q hq => c_17 (zKr_f (by decide +kernel) (by decide +kernel)) (by decide) (zKg_c (by decide +kernel) (by decide +kernel)) (hI _ (by decide)) (fun a j => hR47.1 a j) hq) ?_
  refine zg_n (n' := 69) (c' := 31) (s' := 148) (pc' := 92) rfl rfl rfl rfl ?_
  have hR48 := zRi_up (a := 69) (j := 0) (x := 71) (m' := 71) hR47 (by decide) (by decide) (by decide) (by decide)
  refine g_aast (kd := 25) (t0 := 5) (ci := 3) (nn := 8) (j := 6) (C := "HummingSet$Part") zo3 (by decide) (fun _ => rfl) dg44_92 (zKr_c (by decide +kernel) (by decide +kernel)) (zKr_f (by decide +kernel) (by decide +kernel)) (by decide) rfl (by decide) ?_
  have hR49 := zRi_up (a := 41) (j := 6) (x := 69 + 1) (m' := 71) hR48 (by decide) (by decide) (by decide) (by decide)
  refine g_inc (d := 1) (y := 7) (ls' := [.ref 39, .int 7]) dg44_93 (by decide) rfl (by decide) rfl ?_
  refine zg_n (n' := 69) (c' := 31) (s' := 148) (pc' := 96) rfl rfl rfl rfl ?_
  refine g_goto (t := 74) dg44_96 (by decide) ?_
  refine g_il dg44_74 rfl rfl ?_
  refine g_bi (v := 8) dg44_75 (by decide) ?_
  refine zg_n (n' := 69) (c' := 31) (s' := 148) (pc' := 77) rfl rfl rfl rfl ?_
  refine g_geF (t := 99) dg44_77 (by decide) (by decide) ?_
  refine g_al dg44_80 rfl rfl ?_
  refine zg_n (n' := 69) (c' := 31) (s' := 148) (pc' := 81) rfl rfl rfl rfl ?_
  refine g_gR (j := 1) (x := 41) zo10 (by decide) (own := "HummingSet$Wireless") rfl (Or.inl zgf_HummingSet_Wireless_19) rfl dg44_81 (zKr_f (by decide +kernel) (by decide +kernel)) rfl ?_
  refine g_il dg44_84 rfl rfl ?_
  refine g_new (ci := 3) (C := "HummingSet$Part") (own := "HummingSet$Wireless") zo3 rfl zgl_HummingSet_Wireless_17 zgn_3 zgj_3 zgd_3 (zKg_c (by decide +kernel) (by decide +kernel)) (zvL_all ⟨zvk_r (by decide), trivial, trivial⟩) (zvL_all ⟨trivial, zvk_r (by decide), trivial⟩) (fun a j => hR49.1 a j) (hI _ (by decide)) (hL _ (by decide)) (fun j => hR49.2.1 _ (by decide) j) (by decide) (by decide) dg44_85 ?_
  refine zg_al (q := 71) (n' := 70) (c' := 32) (s' := 157) (pc' := 88) rfl rfl rfl rfl rfl ?_
  have hR50 := zRi_w (m' := 72) hR49 (by decide)
  refine g_dup dg44_88 ?_
  refine g_cI2 (k2 := 17) (mc2 := 1) (ms2 := 3) zgm_HummingSet_Wireless_37 zgc17 zgi17 rfl rfl (by decide +kernel) (by decide +kernel) dg44_89 rfl (by decide) (by decide) (zvL_all ⟨zvk_r (by decide), trivial, trivial⟩) (zvL_all ⟨zvk_r (by decide), trivial, zvk_r (by decide), trivial⟩) (fun Q hq => c_17 (zKr_f (by decide +kernel) (by decide +kernel)) (by decide) (zKg_c (by decide +kernel) (by decide +kernel)) (hI _ (by decide)) (fun a j => hR50.1 a j) hq) ?_
  refine zg_n (n' := 71) (c' := 33) (s' := 160) (pc' := 92) rfl rfl rfl rfl ?_
  have hR51 := zRi_up (a := 71) (j := 0) (x := 73) (m' := 73) hR50 (by decide) (by decide) (by decide) (by decide)
  refine g_aast (kd := 25) (t0 := 5) (ci := 3) (nn := 8) (j := 7) (C := "HummingSet$Part") zo3 (by decide) (fun _ => rfl) dg44_92 (zKr_c (by decide +kernel) (by decide +kernel)) (zKr_f (by decide +kernel) (by decide +kernel)) (by decide) rfl (by decide) ?_
  have hR52 := zRi_up (a := 41) (j := 7) (x := 71 + 1) (m' := 73) hR51 (by decide) (by decide) (by decide) (by decide)
  refine g_inc (d := 1) (y := 8) (ls' := [.ref 39, .int 8]) dg44_93 (by decide) rfl (by decide) rfl ?_
  refine zg_n (n' := 71) (c' := 33) (s' := 160) (pc' := 96) rfl rfl rfl rfl ?_
  refine g_goto (t := 74) dg44_96 (by decide) ?_
  refine g_il dg44_74 rfl rfl ?_
  refine g_bi (v := 8) dg44_75 (by decide) ?_
  refine zg_n (n' := 71) (c' := 33) (s' := 160) (pc' := 77) rfl rfl rfl rfl ?_
  refine zg_n (n' := 71) (c' := 33) (s' := 160) (pc' := 77) rfl rfl rfl rfl ?_
  refine g_geT (t := 99) dg44_77 (by decide) (by decide) ?_
  refine g_ic (v := 0) dg44_99 (by decide) ?_
  refine g_is (ls' := [.ref 39, .int 0]) dg44_100 rfl (Nat.le_of_ble_eq_true rfl) rfl ?_
  refine g_il dg44_101 rfl rfl ?_
  refine g_bi (v := 6) dg44_102 (by decide) ?_
  refine zg_n (n' := 71) (c' := 33) (s' := 160) (pc' := 104) rfl rfl rfl rfl ?_
  refine g_geF (t := 126) dg44_104 (by decide) (by decide) ?_
  refine g_al dg44_107 rfl rfl ?_
  refine g_gR (j := 2) (x := 42) zo10 (by decide) (own := "HummingSet$Wireless") rfl (Or.inl zgf_HummingSet_Wireless_25) rfl dg44_108 (zKr_f (by decide +kernel) (by decide +kernel)) rfl ?_
  refine g_il dg44_111 rfl rfl ?_
  refine g_new (ci := 9) (C := "HummingSet$Way") (own := "HummingSet$Wireless") zo9 rfl zgl_HummingSet_Wireless_23 zgn_9 zgj_9 zgd_9 (zKg_c (by decide +kernel) (by decide +kernel)) (zvL_all ⟨zvk_r (by decide), trivial, trivial⟩) (zvL_all ⟨trivial, zvk_r (by decide), trivial⟩) (fun a j => hR52.1 a j) (hI _ (by decide)) (hL _ (by decide)) (fun j => hR52.2.1 _ (by decide) j) (by decide) (by decide) dg44_112 ?_
  refine zg_al (q := 73) (n' := 72) (c' := 34) (s' := 163) (pc' := 115) rfl rfl rfl rfl rfl ?_
  have hR53 := zRi_w (m' := 74) hR52 (by decide)
  refine zg_n (n' := 72) (c' := 34) (s' := 163) (pc' := 115) rfl rfl rfl rfl ?_
  refine g_dup dg44_115 ?_
  refine g_cI2 (k2 := 43) (mc2 := 0) (ms2 := 0) zgm_HummingSet_Wireless_38 zgc43 zgi43 rfl rfl (by decide +kernel) (by decide +kernel) dg44_116 rfl (by decide) (by decide) (zvL_all ⟨zvk_r (by decide), trivial, trivial⟩) (zvL_all ⟨zvk_r (by decide), trivial, zvk_r (by decide), trivial⟩) (fun Q hq => c_43 (zKr_f (by decide +kernel) (by decide +kernel)) (by decide) (fun a j => hR53.1 a j) hq) ?_
  refine zg_n (n' := 72) (c' := 34) (s' := 163) (pc' := 119) rfl rfl rfl rfl ?_
  refine g_aast (kd := 26) (t0 := 6) (ci := 9) (nn := 6) (j := 0) (C := "HummingSet$Way") zo9 (by decide) (fun _ => rfl) dg44_119 (zKr_c (by decide +kernel) (by decide +kernel)) (zKr_f (by decide +kernel) (by decide +kernel)) (by decide) rfl (by decide) ?_
  have hR54 := zRi_up (a := 42) (j := 0) (x := 73 + 1) (m' := 74) hR53 (by decide) (by decide) (by decide) (by decide)
  refine g_inc (d := 1) (y := 1) (ls' := [.ref 39, .int 1]) dg44_120 (by decide) rfl (by decide) rfl ?_
  refine zg_n (n' := 72) (c' := 34) (s' := 163) (pc' := 123) rfl rfl rfl rfl ?_
  refine g_goto (t := 101) dg44_123 (by decide) ?_
  refine g_il dg44_101 rfl rfl ?_
  refine g_bi (v := 6) dg44_102 (by decide) ?_
  refine zg_n (n' := 72) (c' := 34) (s' := 163) (pc' := 104) rfl rfl rfl rfl ?_
  refine g_geF (t := 126) dg44_104 (by decide) (by decide) ?_
  refine g_al dg44_107 rfl rfl ?_
  refine g_gR (j := 2) (x := 42) zo10 (by decide) (own := "HummingSet$Wireless") rfl (Or.inl zgf_HummingSet_Wireless_25) rfl dg44_108 (zKr_f (by decide +kernel) (by decide +kernel)) rfl ?_
  refine zg_n (n' := 72) (c' := 34) (s' := 163) (pc' := 111) rfl rfl rfl rfl ?_
  refine g_il dg44_111 rfl rfl ?_
  refine g_new (ci := 9) (C := "HummingSet$Way") (own := "HummingSet$Wireless") zo9 rfl zgl_HummingSet_Wireless_23 zgn_9 zgj_9 zgd_9 (zKg_c (by decide +kernel) (by decide +kernel)) (zvL_all ⟨zvk_r (by decide), trivial, trivial⟩) (zvL_all ⟨trivial, zvk_r (by decide), trivial⟩) (fun a j => hR54.1 a j) (hI _ (by decide)) (hL _ (by decide)) (fun j => hR54.2.1 _ (by decide) j) (by decide) (by decide) dg44_112 ?_
  refine zg_al (q := 74) (n' := 73) (c' := 35) (s' := 166) (pc' := 115) rfl rfl rfl rfl rfl ?_
  have hR55 := zRi_w (m' := 75) hR54 (by decide)
  refine g_dup dg44_115 ?_
  refine g_cI2 (k2 := 43) (mc2 := 0) (ms2 := 0) zgm_HummingSet_Wireless_38 zgc43 zgi43 rfl rfl (by decide +kernel) (by decide +kernel) dg44_116 rfl (by decide) (by decide) (zvL_all ⟨zvk_r (by decide), trivial, trivial⟩) (zvL_all ⟨zvk_r (by decide), trivial, zvk_r (by decide), trivial⟩) (fun Q hq => c_43 (zKr_f (by decide +kernel) (by decide +kernel)) (by decide) (fun a j => hR55.1 a j) hq) ?_
  refine zg_n (n' := 73) (c' := 35) (s' := 166) (pc' := 119) rfl rfl rfl rfl ?_
  refine g_aast (kd := 26) (t0 := 6) (ci := 9) (nn := 6) (j := 1) (C := "HummingSet$Way") zo9 (by decide) (fun _ => rfl) dg44_119 (zKr_c (by decide +kernel) (by decide +kernel)) (zKr_f (by decide +kernel) (by decide +kernel)) (by decide) rfl (by decide) ?_
  have hR56 := zRi_up (a := 42) (j := 1) (x := 74 + 1) (m' := 75) hR55 (by decide) (by decide) (by decide) (by decide)
  refine g_inc (d := 1) (y := 2) (ls' := [.ref 39, .int 2]) dg44_120 (by decide) rfl (by decide) rfl ?_
  refine zg_n (n' := 73) (c' := 35) (s' := 166) (pc' := 123) rfl rfl rfl rfl ?_
  refine g_goto (t := 101) dg44_123 (by decide) ?_
  refine g_il dg44_101 rfl rfl ?_
  refine g_bi (v := 6) dg44_102 (by decide) ?_
  refine zg_n (n' := 73) (c' := 35) (s' := 166) (pc' := 104) rfl rfl rfl rfl ?_
  refine g_geF (t := 126) dg44_104 (by decide) (by decide) ?_
  refine zg_n (n' := 73) (c' := 35) (s' := 166) (pc' := 107) rfl rfl rfl rfl ?_
  refine g_al dg44_107 rfl rfl ?_
  refine g_gR (j := 2) (x := 42) zo10 (by decide) (own := "HummingSet$Wireless") rfl (Or.inl zgf_HummingSet_Wireless_25) rfl dg44_108 (zKr_f (by decide +kernel) (by decide +kernel)) rfl ?_
  refine g_il dg44_111 rfl rfl ?_
  refine g_new (ci := 9) (C := "HummingSet$Way") (own := "HummingSet$Wireless") zo9 rfl zgl_HummingSet_Wireless_23 zgn_9 zgj_9 zgd_9 (zKg_c (by decide +kernel) (by decide +kernel)) (zvL_all ⟨zvk_r (by decide), trivial, trivial⟩) (zvL_all ⟨trivial, zvk_r (by decide), trivial⟩) (fun a j => hR56.1 a j) (hI _ (by decide)) (hL _ (by decide)) (fun j => hR56.2.1 _ (by decide) j) (by decide) (by decide) dg44_112 ?_
  refine zg_al (q := 75) (n' := 74) (c' := 36) (s' := 169) (pc' := 115) rfl rfl rfl rfl rfl ?_
  have hR57 := zRi_w (m' := 76) hR56 (by decide)
  refine g_dup dg44_115 ?_
  refine g_cI2 (k2 := 43) (mc2 := 0) (ms2 := 0) zgm_HummingSet_Wireless_38 zgc43 zgi43 rfl rfl (by decide +kernel) (by decide +kernel) dg44_116 rfl (by decide) (by decide) (zvL_all ⟨zvk_r (by decide), trivial, trivial⟩) (zvL_all ⟨zvk_r (by decide), trivial, zvk_r (by decide), trivial⟩) (fun Q hq => c_43 (zKr_f (by decide +kernel) (by decide +kernel)) (by decide) (fun a j => hR57.1 a j) hq) ?_
  refine zg_n (n' := 74) (c' := 36) (s' := 169) (pc' := 119) rfl rfl rfl rfl ?_
  refine g_aast (kd := 26) (t0 := 6) (ci := 9) (nn := 6) (j := 2) (C := "HummingSet$Way") zo9 (by decide) (fun _ => rfl) dg44_119 (zKr_c (by decide +kernel) (by decide +kernel)) (zKr_f (by decide +kernel) (by decide +kernel)) (by decide) rfl (by decide) ?_
  have hR58 := zRi_up (a := 42) (j := 2) (x := 75 + 1) (m' := 76) hR57 (by decide) (by decide) (by decide) (by decide)
  refine g_inc (d := 1) (y := 3) (ls' := [.ref 39, .int 3]) dg44_120 (by decide) rfl (by decide) rfl ?_
  refine zg_n (n' := 74) (c' := 36) (s' := 169) (pc' := 123) rfl rfl rfl rfl ?_
  refine g_goto (t := 101) dg44_123 (by decide) ?_
  refine g_il dg44_101 rfl rfl ?_
  refine zg_n (n' := 74) (c' := 36) (s' := 169) (pc' := 102) rfl rfl rfl rfl ?_
  refine g_bi (v := 6) dg44_102 (by decide) ?_
  refine zg_n (n' := 74) (c' := 36) (s' := 169) (pc' := 104) rfl rfl rfl rfl ?_
  refine g_geF (t := 126) dg44_104 (by decide) (by decide) ?_
  refine g_al dg44_107 rfl rfl ?_
  refine g_gR (j := 2) (x := 42) zo10 (by decide) (own := "HummingSet$Wireless") rfl (Or.inl zgf_HummingSet_Wireless_25) rfl dg44_108 (zKr_f (by decide +kernel) (by decide +kernel)) rfl ?_
  refine g_il dg44_111 rfl rfl ?_
  refine g_new (ci := 9) (C := "HummingSet$Way") (own := "HummingSet$Wireless") zo9 rfl zgl_HummingSet_Wireless_23 zgn_9 zgj_9 zgd_9 (zKg_c (by decide +kernel) (by decide +kernel)) (zvL_all ⟨zvk_r (by decide), trivial, trivial⟩) (zvL_all ⟨trivial, zvk_r (by decide), trivial⟩) (fun a j => hR58.1 a j) (hI _ (by decide)) (hL _ (by decide)) (fun j => hR58.2.1 _ (by decide) j) (by decide) (by decide) dg44_112 ?_
  refine zg_al (q := 76) (n' := 75) (c' := 37) (s' := 172) (pc' := 115) rfl rfl rfl rfl rfl ?_
  have hR59 := zRi_w (m' := 77) hR58 (by decide)
  refine g_dup dg44_115 ?_
  refine g_cI2 (k2 := 43) (mc2 := 0) (ms2 := 0) zgm_HummingSet_Wireless_38 zgc43 zgi43 rfl rfl (by decide +kernel) (by decide +kernel) dg44_116 rfl (by decide) (by decide) (zvL_all ⟨zvk_r (by decide), trivial, trivial⟩) (zvL_all ⟨zvk_r (by decide), trivial, zvk_r (by decide), trivial⟩) (fun Q hq => c_43 (zKr_f (by decide +kernel) (by decide +kernel)) (by decide) (fun a j => hR59.1 a j) hq) ?_
  refine zg_n (n' := 75) (c' := 37) (s' := 172) (pc' := 119) rfl rfl rfl rfl ?_
  refine g_aast (kd := 26) (t0 := 6) (ci := 9) (nn := 6) (j := 3) (C := "HummingSet$Way") zo9 (by decide) (fun _ => rfl) dg44_119 (zKr_c (by decide +kernel) (by decide +kernel)) (zKr_f (by decide +kernel) (by decide +kernel)) (by decide) rfl (by decide) ?_
  have hR60 := zRi_up (a := 42) (j := 3) (x := 76 + 1) (m' := 77) hR59 (by decide) (by decide) (by decide) (by decide)
  refine g_inc (d := 1) (y := 4) (ls' := [.ref 39, .int 4]) dg44_120 (by decide) rfl (by decide) rfl ?_
  refine zg_n (n' := 75) (c' := 37) (s' := 172) (pc' := 123) rfl rfl rfl rfl ?_
  refine zg_n (n' := 75) (c' := 37) (s' := 172) (pc' := 123) rfl rfl rfl rfl ?_
  refine g_goto (t := 101) dg44_123 (by decide) ?_
  refine g_il dg44_101 rfl rfl ?_
  refine g_bi (v := 6) dg44_102 (by decide) ?_
  refine zg_n (n' := 75) (c' := 37) (s' := 172) (pc' := 104) rfl rfl rfl rfl ?_
  refine g_geF (t := 126) dg44_104 (by decide) (by decide) ?_
  refine g_al dg44_107 rfl rfl ?_
  refine g_gR (j := 2) (x := 42) zo10 (by decide) (own := "HummingSet$Wireless") rfl (Or.inl zgf_HummingSet_Wireless_25) rfl dg44_108 (zKr_f (by decide +kernel) (by decide +kernel)) rfl ?_
  refine g_il dg44_111 rfl rfl ?_
  refine g_new (ci := 9) (C := "HummingSet$Way") (own := "HummingSet$Wireless") zo9 rfl zgl_HummingSet_Wireless_23 zgn_9 zgj_9 zgd_9 (zKg_c (by decide +kernel) (by decide +kernel)) (zvL_all ⟨zvk_r (by decide), trivial, trivial⟩) (zvL_all ⟨trivial, zvk_r (by decide), trivial⟩) (fun a j => hR60.1 a j) (hI _ (by decide)) (hL _ (by decide)) (fun j => hR60.2.1 _ (by decide) j) (by decide) (by decide) dg44_112 ?_
  refine zg_al (q := 77) (n' := 76) (c' := 38) (s' := 175) (pc' := 115) rfl rfl rfl rfl rfl ?_
  have hR61 := zRi_w (m' := 78) hR60 (by decide)
  refine g_dup dg44_115 ?_
  refine g_cI2 (k2 := 43) (mc2 := 0) (ms2 := 0) zgm_HummingSet_Wireless_38 zgc43 zgi43 rfl rfl (by decide +kernel) (by decide +kernel) dg44_116 rfl (by decide) (by decide) (zvL_all ⟨zvk_r (by decide), trivial, trivial⟩) (zvL_all ⟨zvk_r (by decide), trivial, zvk_r (by decide), trivial⟩) (fun Q hq => c_43 (zKr_f (by decide +kernel) (by decide +kernel)) (by decide) (fun a j => hR61.1 a j) hq) ?_
  refine zg_n (n' := 76) (c' := 38) (s' := 175) (pc' := 119) rfl rfl rfl rfl ?_
  refine zg_n (n' := 76) (c' := 38) (s' := 175) (pc' := 119) rfl rfl rfl rfl ?_
  refine g_aast (kd := 26) (t0 := 6) (ci := 9) (nn := 6) (j := 4) (C := "HummingSet$Way") zo9 (by decide) (fun _ => rfl) dg44_119 (zKr_c (by decide +kernel) (by decide +kernel)) (zKr_f (by decide +kernel) (by decide +kernel)) (by decide) rfl (by decide) ?_
  have hR62 := zRi_up (a := 42) (j := 4) (x := 77 + 1) (m' := 78) hR61 (by decide) (by decide) (by decide) (by decide)
  refine g_inc (d := 1) (y := 5) (ls' := [.ref 39, .int 5]) dg44_120 (by decide) rfl (by decide) rfl ?_
  refine zg_n (n' := 76) (c' := 38) (s' := 175) (pc' := 123) rfl rfl rfl rfl ?_
  refine g_goto (t := 101) dg44_123 (by decide) ?_
  refine g_il dg44_101 rfl rfl ?_
  refine g_bi (v := 6) dg44_102 (by decide) ?_
  refine zg_n (n' := 76) (c' := 38) (s' := 175) (pc' := 104) rfl rfl rfl rfl ?_
  refine g_geF (t := 126) dg44_104 (by decide) (by decide) ?_
  refine g_al dg44_107 rfl rfl ?_
  refine g_gR (j := 2) (x := 42) zo10 (by decide) (own := "HummingSet$Wireless") rfl (Or.inl zgf_HummingSet_Wireless_25) rfl dg44_108 (zKr_f (by decide +kernel) (by decide +kernel)) rfl ?_
  refine g_il dg44_111 rfl rfl ?_
  refine g_new (ci := 9) (C := "HummingSet$Way") (own := "HummingSet$Wireless") zo9 rfl zgl_HummingSet_Wireless_23 zgn_9 zgj_9 zgd_9 (zKg_c (by decide +kernel) (by decide +kernel)) (zvL_all ⟨zvk_r (by decide), trivial, trivial⟩) (zvL_all ⟨trivial, zvk_r (by decide), trivial⟩) (fun a j => hR62.1 a j) (hI _ (by decide)) (hL _ (by decide)) (fun j => hR62.2.1 _ (by decide) j) (by decide) (by decide) dg44_112 ?_
  refine zg_al (q := 78) (n' := 77) (c' := 39) (s' := 178) (pc' := 115) rfl rfl rfl rfl rfl ?_
  have hR63 := zRi_w (m' := 79) hR62 (by decide)
  refine zg_n (n' := 77) (c' := 39) (s' := 178) (pc' := 115) rfl rfl rfl rfl ?_
  refine g_dup dg44_115 ?_
  refine g_cI2 (k2 := 43) (mc2 := 0) (ms2 := 0) zgm_HummingSet_Wireless_38 zgc43 zgi43 rfl rfl (by decide +kernel) (by decide +kernel) dg44_116 rfl (by decide) (by decide) (zvL_all ⟨zvk_r (by decide), trivial, trivial⟩) (zvL_all ⟨zvk_r (by decide), trivial, zvk_r (by decide), trivial⟩) (fun Q hq => c_43 (zKr_f (by decide +kernel) (by decide +kernel)) (by decide) (fun a j => hR63.1 a j) hq) ?_
  refine zg_n (n' := 77) (c' := 39) (s' := 178) (pc' := 119) rfl rfl rfl rfl ?_
  refine g_aast (kd := 26) (t0 := 6) (ci := 9) (nn := 6) (j := 5) (C := "HummingSet$Way") zo9 (by decide) (fun _ => rfl) dg44_119 (zKr_c (by decide +kernel) (by decide +kernel)) (zKr_f (by decide +kernel) (by decide +kernel)) (by decide) rfl (by decide) ?_
  have hR64 := zRi_up (a := 42) (j := 5) (x := 78 + 1) (m' := 79) hR63 (by decide) (by decide) (by decide) (by decide)
  refine g_inc (d := 1) (y := 6) (ls' := [.ref 39, .int 6]) dg44_120 (by decide) rfl (by decide) rfl ?_
  refine zg_n (n' := 77) (c' := 39) (s' := 178) (pc' := 123) rfl rfl rfl rfl ?_
  refine g_goto (t := 101) dg44_123 (by decide) ?_
  refine g_il dg44_101 rfl rfl ?_
  refine g_bi (v := 6) dg44_102 (by decide) ?_
  refine zg_n (n' := 77) (c' := 39) (s' := 178) (pc' := 104) rfl rfl rfl rfl ?_
  refine g_geT (t := 126) dg44_104 (by decide) (by decide) ?_
  refine g_al dg44_126 rfl rfl ?_
  refine g_cVv (k2 := 45) (as := []) (r := []) zo10 zw45 rfl zin45 zse45 zca45 (by decide +kernel) (by decide +kernel) zgm_HummingSet_Wireless_39 dg44_127 rfl (zKr_f (by decide +kernel) (by decide +kernel)) rfl (by decide) (by decide) (fun I2 L2 R2 => (zfW 39 I I2 ∧ zCu I2 39 zu0) ∧ L = L2 ∧ zRL zW39_ R = R2) (fun P hP Q hq => x_cle2 (w := 39) hP (zKr_f (by decide +kernel) (by decide +kernel)) (zKr_c (by decide +kernel) (by decide +kernel)) (zKr_c (by decide +kernel) (by decide +kernel)) rfl rfl (fun I2 g1 g2 => hq I2 L _ ⟨⟨g1, g2⟩, rfl, rfl⟩)) ?_
  rintro I2 L2 _ ⟨⟨g1, g2⟩, rfl, rfl⟩
  refine zg_n (n' := 77) (c' := 39) (s' := 178) (pc' := 130) rfl rfl rfl rfl ?_
  exact g_fin ⟨rfl, rfl, rfl, dg44_130, h I2 g1 g2⟩
def zW79_ : List (Nat × Nat × Nat) := [(79, 0, 81), (79, 1, 82), (79, 2, 83), (79, 3, 84), (79, 4, 85), (85, 0, 87), (80, 0, 86), (87, 0, 89), (80, 1, 88), (89, 0, 91), (80, 2, 90), (91, 0, 93), (80, 3, 92), (93, 0, 95), (80, 4, 94), (95, 0, 97), (80, 5, 96), (97, 0, 99), (81, 0, 98), (99, 0, 101), (81, 1, 100), (101, 0, 103), (81, 2, 102), (103, 0, 105), (81, 3, 104), (105, 0, 107), (81, 4, 106), (107, 0, 109), (81, 5, 108), (109, 0, 111), (81, 6, 110), (111, 0, 113), (81, 7, 112), (82, 0, 114), (82, 1, 115), (82, 2, 116), (82, 3, 117), (82, 4, 118), (82, 5, 119)]
set_option maxRecDepth 4000 in
theorem c_44_79 {l : Launch} {dC : Nat → ClassId} {dI : Nat → Nat → Nat} {cA : Nat → ClassId} {N : Nat} {E : ZMi} {A : Nat → Prop} {I : ZMi} {L : ZMl} {R : ZMr} {Q : Nat → ZMi → ZMl → ZMr → Prop} (hR : zRi R 80) (hI : ∀ a, 80 ≤ a → ∀ j, I a j = 0) (hL : ∀ a, 80 ≤ a → ∀ j, L a j = 0) (h : ∀ I2, zfW 79 I I2 → zCu I2 79 zu0 → Q 117 I2 L (zRL zW79_ R)) : zSG l dC dI cA N E A 44 39 178 0 0 78 0 [.ref 79, .null] [] I L R (zFr 44 39 178 Q) := by
  have hR0 := hR
  refine g_al dg44_0 rfl rfl ?_
  refine g_oi (own := "HummingSet$Wireless") rfl zgm_HummingSet_Wireless_3 zgoi_i zgoi_c (Nat.le_of_ble_eq_true rfl) rfl dg44_1 ?_
  refine g_al dg44_4 rfl rfl ?_
  refine g_bi (v := 6) dg44_5 (by decide) ?_
  refine g_nq (kd := 24) (t0 := 4) (len := 6) (C := "HummingSet$Stage") (own := "HummingSet$Wireless") rfl zgl_HummingSet_Wireless_9 (fun U q => q.1) (by decide) (fun _ => rfl) (by decide) (by decide) (by decide) (zKg_c (by decide +kernel) (by decide +kernel)) (zvL_all ⟨zvk_r (by decide), trivial, trivial⟩) (zvL_all ⟨zvk_r (by decide), trivial⟩) (fun a j => hR0.1 a j) (fun j => hR0.2.1 _ (by decide) j) (by decide) (by decide) dg44_7 ?_
  refine zg_al (q := 80) (n' := 79) (c' := 1) (s' := 6) (pc' := 10) rfl rfl rfl rfl rfl ?_
  have hR1 := zRi_w (m' := 81) hR0 (by decide)
  refine g_pRF (j := 0) zo10 (by decide) (own := "HummingSet$Wireless") rfl (by decide) zgf_HummingSet_Wireless_11 rfl rfl rfl ⟨rfl, fun _ => ⟨rfl, rfl⟩⟩ dg44_10 (zKr_f (by decide +kernel) (by decide +kernel)) ?_
  have hR2 := zRi_up (a := 79) (j := 0) (x := 80 + 1) (m' := 81) hR1 (by decide) (by decide) (by decide) (by decide)
  refine g_al dg44_13 rfl rfl ?_
  refine g_bi (v := 8) dg44_14 (by decide) ?_
  refine g_nq (kd := 25) (t0 := 5) (len := 8) (C := "HummingSet$Part") (own := "HummingSet$Wireless") rfl zgl_HummingSet_Wireless_17 (fun U q => q.2.1) (by decide) (fun _ => rfl) (by decide) (by decide) (by decide) (zKg_c (by decide +kernel) (by decide +kernel)) (zvL_all ⟨zvk_r (by decide), trivial, trivial⟩) (zvL_all ⟨zvk_r (by decide), trivial⟩) (fun a j => hR2.1 a j) (fun j => hR2.2.1 _ (by decide) j) (by decide) (by decide) dg44_16 ?_
  refine zg_al (q := 81) (n' := 80) (c' := 2) (s' := 14) (pc' := 19) rfl rfl rfl rfl rfl ?_
  have hR3 := zRi_w (m' := 82) hR2 (by decide)
  refine zg_n (n' := 80) (c' := 2) (s' := 14) (pc' := 19) rfl rfl rfl rfl ?_
  refine g_pRF (j := 1) zo10 (by decide) (own := "HummingSet$Wireless") rfl (by decide) zgf_HummingSet_Wireless_19 rfl rfl rfl ⟨rfl, fun _ => ⟨rfl, rfl⟩⟩ dg44_19 (zKr_f (by decide +kernel) (by decide +kernel)) ?_
  have hR4 := zRi_up (a := 79) (j := 1) (x := 81 + 1) (m' := 82) hR3 (by decide) (by decide) (by decide) (by decide)
  refine g_al dg44_22 rfl rfl ?_
  refine g_bi (v := 6) dg44_23 (by decide) ?_
  refine g_nq (kd := 26) (t0 := 6) (len := 6) (C := "HummingSet$Way") (own := "HummingSet$Wireless") rfl zgl_HummingSet_Wireless_23 (fun U q => q.2.2.1) (by decide) (fun _ => rfl) (by decide) (by decide) (by decide) (zKg_c (by decide +kernel) (by decide +kernel)) (zvL_all ⟨zvk_r (by decide), trivial, trivial⟩) (zvL_all ⟨zvk_r (by decide), trivial⟩) (fun a j => hR4.1 a j) (fun j => hR4.2.1 _ (by decide) j) (by decide) (by decide) dg44_25 ?_
  refine zg_al (q := 82) (n' := 81) (c' := 3) (s' := 20) (pc' := 28) rfl rfl rfl rfl rfl ?_
  have hR5 := zRi_w (m' := 83) hR4 (by decide)
  refine g_pRF (j := 2) zo10 (by decide) (own := "HummingSet$Wireless") rfl (by decide) zgf_HummingSet_Wireless_25 rfl rfl rfl ⟨rfl, fun _ => ⟨rfl, rfl⟩⟩ dg44_28 (zKr_f (by decide +kernel) (by decide +kernel)) ?_
  have hR6 := zRi_up (a := 79) (j := 2) (x := 82 + 1) (m' := 83) hR5 (by decide) (by decide) (by decide) (by decide)
  refine g_al dg44_31 rfl rfl ?_
  refine g_ic (v := 3) dg44_32 (by decide) ?_
  refine g_na (kd := 20) (t0 := 0) (len := 3) (ty := .int) rfl (Or.inl rfl) rfl (by decide) (fun _ => rfl) zgac_int (by decide) (by decide) (by decide) (zKg_c (by decide +kernel) (by decide +kernel)) (zvL_all ⟨zvk_r (by decide), trivial, trivial⟩) (zvL_all ⟨zvk_r (by decide), trivial⟩) (fun a j => hR6.1 a j) (hI _ (by decide)) (by decide) (by decide) dg44_33 ?_
  refine zg_al (q := 83) (n' := 82) (c' := 4) (s' := 23) (pc' := 35) rfl rfl rfl rfl rfl ?_
  have hR7 := zRi_w (m' := 84) hR6 (by decide)
  refine g_pRF (j := 3) zo10 (by decide) (own := "HummingSet$Wireless") rfl (by decide) zgf_HummingSet_Wireless_29 rfl rfl rfl ⟨rfl, fun _ => ⟨rfl, rfl⟩⟩ dg44_35 (zKr_f (by decide +kernel) (by decide +kernel)) ?_
  have hR8 := zRi_up (a := 79) (j := 3) (x := 83 + 1) (m' := 84) hR7 (by decide) (by decide) (by decide) (by decide)
  refine g_al dg44_38 rfl rfl ?_
  refine zg_n (n' := 82) (c' := 4) (s' := 23) (pc' := 39) rfl rfl rfl rfl ?_
  refine g_ic (v := 5) dg44_39 (by decide) ?_
  refine g_na (kd := 20) (t0 := 0) (len := 5) (ty := .int) rfl (Or.inl rfl) rfl (by decide) (fun _ => rfl) zgac_int (by decide) (by decide) (by decide) (zKg_c (by decide +kernel) (by decide +kernel)) (zvL_all ⟨zvk_r (by decide), trivial, trivial⟩) (zvL_all ⟨zvk_r (by decide), trivial⟩) (fun a j => hR8.1 a j) (hI _ (by decide)) (by decide) (by decide) dg44_40 ?_
  refine zg_al (q := 84) (n' := 83) (c' := 5) (s' := 28) (pc' := 42) rfl rfl rfl rfl rfl ?_
  have hR9 := zRi_w (m' := 85) hR8 (by decide)
  refine g_pRF (j := 4) zo10 (by decide) (own := "HummingSet$Wireless") rfl (by decide) zgf_HummingSet_Wireless_33 rfl rfl rfl ⟨rfl, fun _ => ⟨rfl, rfl⟩⟩ dg44_42 (zKr_f (by decide +kernel) (by decide +kernel)) ?_
  have hR10 := zRi_up (a := 79) (j := 4) (x := 84 + 1) (m' := 85) hR9 (by decide) (by decide) (by decide) (by decide)
  refine g_ic (v := 0) dg44_45 (by decide) ?_
  refine g_is (ls' := [.ref 79, .int 0]) dg44_46 rfl (Nat.le_of_ble_eq_true rfl) rfl ?_
  refine g_il dg44_47 rfl rfl ?_
  refine g_bi (v := 6) dg44_48 (by decide) ?_
  refine zg_n (n' := 83) (c' := 5) (s' := 28) (pc' := 50) rfl rfl rfl rfl ?_
  refine g_geF (t := 72) dg44_50 (by decide) (by decide) ?_
  refine g_al dg44_53 rfl rfl ?_
  refine g_gR (j := 0) (x := 80) zo10 (by decide) (own := "HummingSet$Wireless") rfl (Or.inl zgf_HummingSet_Wireless_11) rfl dg44_54 (zKr_f (by decide +kernel) (by decide +kernel)) rfl ?_
  refine zg_n (n' := 83) (c' := 5) (s' := 28) (pc' := 57) rfl rfl rfl rfl ?_
  refine g_il dg44_57 rfl rfl ?_
  refine g_new (ci := 7) (C := "HummingSet$Stage") (own := "HummingSet$Wireless") zo7 rfl zgl_HummingSet_Wireless_9 zgn_7 zgj_7 zgd_7 (zKg_c (by decide +kernel) (by decide +kernel)) (zvL_all ⟨zvk_r (by decide), trivial, trivial⟩) (zvL_all ⟨trivial, zvk_r (by decide), trivial⟩) (fun a j => hR10.1 a j) (hI _ (by decide)) (hL _ (by decide)) (fun j => hR10.2.1 _ (by decide) j) (by decide) (by decide) dg44_58 ?_
  refine zg_al (q := 85) (n' := 84) (c' := 6) (s' := 31) (pc' := 61) rfl rfl rfl rfl rfl ?_
  have hR11 := zRi_w (m' := 86) hR10 (by decide)
  refine g_dup dg44_61 ?_
  refine g_cI2 (k2 := 38) (mc2 := 1) (ms2 := 3) zgm_HummingSet_Wireless_36 zgc38 zgi38 rfl rfl (by decide +kernel) (by decide +kernel) dg44_62 rfl (by decide) (by decide) (zvL_all ⟨zvk_r (by decide), trivial, trivial⟩) (zvL_all ⟨zvk_r (by decide), trivial, zvk_r (by decide), trivial⟩) (fun Q hq => c_38 (zKr_f (by decide +kernel) (by decide +kernel)) (by decide) (zKg_c (by decide +kernel) (by decide +kernel)) (hI _ (by decide)) (fun a j => hR11.1 a j) hq) ?_
  refine zg_n (n' := 85) (c' := 7) (s' := 34) (pc' := 65) rfl rfl rfl rfl ?_
  have hR12 := zRi_up (a := 85) (j := 0) (x := 87) (m' := 87) hR11 (by decide) (by decide) (by decide) (by decide)
  refine g_aast (kd := 24) (t0 := 4) (ci := 7) (nn := 6) (j := 0) (C := "HummingSet$Stage") zo7 (by decide) (fun _ => rfl) dg44_65 (zKr_c (by decide +kernel) (by decide +kernel)) (zKr_f (by decide +kernel) (by decide +kernel)) (by decide) rfl (by decide) ?_
  have hR13 := zRi_up (a := 80) (j := 0) (x := 85 + 1) (m' := 87) hR12 (by decide) (by decide) (by decide) (by decide)
  refine g_inc (d := 1) (y := 1) (ls' := [.ref 79, .int 1]) dg44_66 (by decide) rfl (by decide) rfl ?_
  refine zg_n (n' := 85) (c' := 7) (s' := 34) (pc' := 69) rfl rfl rfl rfl ?_
  refine g_goto (t := 47) dg44_69 (by decide) ?_
  refine g_il dg44_47 rfl rfl ?_
  refine g_bi (v := 6) dg44_48 (by decide) ?_
  refine zg_n (n' := 85) (c' := 7) (s' := 34) (pc' := 50) rfl rfl rfl rfl ?_
  refine g_geF (t := 72) dg44_50 (by decide) (by decide) ?_
  refine zg_n (n' := 85) (c' := 7) (s' := 34) (pc' := 53) rfl rfl rfl rfl ?_
  refine g_al dg44_53 rfl rfl ?_
  refine g_gR (j := 0) (x := 80) zo10 (by decide) (own := "HummingSet$Wireless") rfl (Or.inl zgf_HummingSet_Wireless_11) rfl dg44_54 (zKr_f (by decide +kernel) (by decide +kernel)) rfl ?_
  refine g_il dg44_57 rfl rfl ?_
  refine g_new (ci := 7) (C := "HummingSet$Stage") (own := "HummingSet$Wireless") zo7 rfl zgl_HummingSet_Wireless_9 zgn_7 zgj_7 zgd_7 (zKg_c (by decide +kernel) (by decide +kernel)) (zvL_all ⟨zvk_r (by decide), trivial, trivial⟩) (zvL_all ⟨trivial, zvk_r (by decide), trivial⟩) (fun a j => hR13.1 a j) (hI _ (by decide)) (hL _ (by decide)) (fun j => hR13.2.1 _ (by decide) j) (by decide) (by decide) dg44_58 ?_
  refine zg_al (q := 87) (n' := 86) (c' := 8) (s' := 37) (pc' := 61) rfl rfl rfl rfl rfl ?_
  have hR14 := zRi_w (m' := 88) hR13 (by decide)
  refine g_dup dg44_61 ?_
  refine g_cI2 (k2 := 38) (mc2 := 1) (ms2 := 3) zgm_HummingSet_Wireless_36 zgc38 zgi38 rfl rfl (by decide +kernel) (by decide +kernel) dg44_62 rfl (by decide) (by decide) (zvL_all ⟨zvk_r (by decide), trivial, trivial⟩) (zvL_all ⟨zvk_r (by decide), trivial, zvk_r (by decide), trivial⟩) (fun Q hq => c_38 (zKr_f (by decide +kernel) (by decide +kernel)) (by decide) (zKg_c (by decide +kernel) (by decide +kernel)) (hI _ (by decide)) (fun a j => hR14.1 a j) hq) ?_
  refine zg_n (n' := 87) (c' := 9) (s' := 40) (pc' := 65) rfl rfl rfl rfl ?_
  have hR15 := zRi_up (a := 87) (j := 0) (x := 89) (m' := 89) hR14 (by decide) (by decide) (by decide) (by decide)
  refine g_aast (kd := 24) (t0 := 4) (ci := 7) (nn := 6) (j := 1) (C := "HummingSet$Stage") zo7 (by decide) (fun _ => rfl) dg44_65 (zKr_c (by decide +kernel) (by decide +kernel)) (zKr_f (by decide +kernel) (by decide +kernel)) (by decide) rfl (by decide) ?_
  have hR16 := zRi_up (a := 80) (j := 1) (x := 87 + 1) (m' := 89) hR15 (by decide) (by decide) (by decide) (by decide)
  refine g_inc (d := 1) (y := 2) (ls' := [.ref 79, .int 2]) dg44_66 (by decide) rfl (by decide) rfl ?_
  refine zg_n (n' := 87) (c' := 9) (s' := 40) (pc' := 69) rfl rfl rfl rfl ?_
  refine g_goto (t := 47) dg44_69 (by decide) ?_
  refine g_il dg44_47 rfl rfl ?_
  refine zg_n (n' := 87) (c' := 9) (s' := 40) (pc' := 48) rfl rfl rfl rfl ?_
  refine g_bi (v := 6) dg44_48 (by decide) ?_
  refine zg_n (n' := 87) (c' := 9) (s' := 40) (pc' := 50) rfl rfl rfl rfl ?_
  refine g_geF (t := 72) dg44_50 (by decide) (by decide) ?_
  refine g_al dg44_53 rfl rfl ?_
  refine g_gR (j := 0) (x := 80) zo10 (by decide) (own := "HummingSet$Wireless") rfl (Or.inl zgf_HummingSet_Wireless_11) rfl dg44_54 (zKr_f (by decide +kernel) (by decide +kernel)) rfl ?_
  refine g_il dg44_57 rfl rfl ?_
  refine g_new (ci := 7) (C := "HummingSet$Stage") (own := "HummingSet$Wireless") zo7 rfl zgl_HummingSet_Wireless_9 zgn_7 zgj_7 zgd_7 (zKg_c (by decide +kernel) (by decide +kernel)) (zvL_all ⟨zvk_r (by decide), trivial, trivial⟩) (zvL_all ⟨trivial, zvk_r (by decide), trivial⟩) (fun a j => hR16.1 a j) (hI _ (by decide)) (hL _ (by decide)) (fun j => hR16.2.1 _ (by decide) j) (by decide) (by decide) dg44_58 ?_
  refine zg_al (q := 89) (n' := 88) (c' := 10) (s' := 43) (pc' := 61) rfl rfl rfl rfl rfl ?_
  have hR17 := zRi_w (m' := 90) hR16 (by decide)
  refine g_dup dg44_61 ?_
  refine g_cI2 (k2 := 38) (mc2 := 1) (ms2 := 3) zgm_HummingSet_Wireless_36 zgc38 zgi38 rfl rfl (by decide +kernel) (by decide +kernel) dg44_62 rfl (by decide) (by decide) (zvL_all ⟨zvk_r (by decide), trivial, trivial⟩) (zvL_all ⟨zvk_r (by decide), trivial, zvk_r (by decide), trivial⟩) (fun Q hq => c_38 (zKr_f (by decide +kernel) (by decide +kernel)) (by decide) (zKg_c (by decide +kernel) (by decide +kernel)) (hI _ (by decide)) (fun a j => hR17.1 a j) hq) ?_
  refine zg_n (n' := 89) (c' := 11) (s' := 46) (pc' := 65) rfl rfl rfl rfl ?_
  have hR18 := zRi_up (a := 89) (j := 0) (x := 91) (m' := 91) hR17 (by decide) (by decide) (by decide) (by decide)
  refine g_aast (kd := 24) (t0 := 4) (ci := 7) (nn := 6) (j := 2) (C := "HummingSet$Stage") zo7 (by decide) (fun _ => rfl) dg44_65 (zKr_c (by decide +kernel) (by decide +kernel)) (zKr_f (by decide +kernel) (by decide +kernel)) (by decide) rfl (by decide) ?_
  have hR19 := zRi_up (a := 80) (j := 2) (x := 89 + 1) (m' := 91) hR18 (by decide) (by decide) (by decide) (by decide)
  refine g_inc (d := 1) (y := 3) (ls' := [.ref 79, .int 3]) dg44_66 (by decide) rfl (by decide) rfl ?_
  refine zg_n (n' := 89) (c' := 11) (s' := 46) (pc' := 69) rfl rfl rfl rfl ?_
  refine zg_n (n' := 89) (c' := 11) (s' := 46) (pc' := 69) rfl rfl rfl rfl ?_
  refine g_goto (t := 47) dg44_69 (by decide) ?_
  refine g_il dg44_47 rfl rfl ?_
  refine g_bi (v := 6) dg44_48 (by decide) ?_
  refine zg_n (n' := 89) (c' := 11) (s' := 46) (pc' := 50) rfl rfl rfl rfl ?_
  refine g_geF (t := 72) dg44_50 (by decide) (by decide) ?_
  refine g_al dg44_53 rfl rfl ?_
  refine g_gR (j := 0) (x := 80) zo10 (by decide) (own := "HummingSet$Wireless") rfl (Or.inl zgf_HummingSet_Wireless_11) rfl dg44_54 (zKr_f (by decide +kernel) (by decide +kernel)) rfl ?_
  refine g_il dg44_57 rfl rfl ?_
  refine g_new (ci := 7) (C := "HummingSet$Stage") (own := "HummingSet$Wireless") zo7 rfl zgl_HummingSet_Wireless_9 zgn_7 zgj_7 zgd_7 (zKg_c (by decide +kernel) (by decide +kernel)) (zvL_all ⟨zvk_r (by decide), trivial, trivial⟩) (zvL_all ⟨trivial, zvk_r (by decide), trivial⟩) (fun a j => hR19.1 a j) (hI _ (by decide)) (hL _ (by decide)) (fun j => hR19.2.1 _ (by decide) j) (by decide) (by decide) dg44_58 ?_
  refine zg_al (q := 91) (n' := 90) (c' := 12) (s' := 49) (pc' := 61) rfl rfl rfl rfl rfl ?_
  have hR20 := zRi_w (m' := 92) hR19 (by decide)
  refine g_dup dg44_61 ?_
  refine g_cI2 (k2 := 38) (mc2 := 1) (ms2 := 3) zgm_HummingSet_Wireless_36 zgc38 zgi38 rfl rfl (by decide +kernel) (by decide +kernel) dg44_62 rfl (by decide) (by decide) (zvL_all ⟨zvk_r (by decide), trivial, trivial⟩) (zvL_all ⟨zvk_r (by decide), trivial, zvk_r (by decide), trivial⟩) (fun Q hq => c_38 (zKr_f (by decide +kernel) (by decide +kernel)) (by decide) (zKg_c (by decide +kernel) (by decide +kernel)) (hI _ (by decide)) (fun a j => hR20.1 a j) hq) ?_
  refine zg_n (n' := 91) (c' := 13) (s' := 52) (pc' := 65) rfl rfl rfl rfl ?_
  have hR21 := zRi_up (a := 91) (j := 0) (x := 93) (m' := 93) hR20 (by decide) (by decide) (by decide) (by decide)
  refine zg_n (n' := 91) (c' := 13) (s' := 52) (pc' := 65) rfl rfl rfl rfl ?_
  refine g_aast (kd := 24) (t0 := 4) (ci := 7) (nn := 6) (j := 3) (C := "HummingSet$Stage") zo7 (by decide) (fun _ => rfl) dg44_65 (zKr_c (by decide +kernel) (by decide +kernel)) (zKr_f (by decide +kernel) (by decide +kernel)) (by decide) rfl (by decide) ?_
  have hR22 := zRi_up (a := 80) (j := 3) (x := 91 + 1) (m' := 93) hR21 (by decide) (by decide) (by decide) (by decide)
  refine g_inc (d := 1) (y := 4) (ls' := [.ref 79, .int 4]) dg44_66 (by decide) rfl (by decide) rfl ?_
  refine zg_n (n' := 91) (c' := 13) (s' := 52) (pc' := 69) rfl rfl rfl rfl ?_
  refine g_goto (t := 47) dg44_69 (by decide) ?_
  refine g_il dg44_47 rfl rfl ?_
  refine g_bi (v := 6) dg44_48 (by decide) ?_
  refine zg_n (n' := 91) (c' := 13) (s' := 52) (pc' := 50) rfl rfl rfl rfl ?_
  refine g_geF (t := 72) dg44_50 (by decide) (by decide) ?_
  refine g_al dg44_53 rfl rfl ?_
  refine g_gR (j := 0) (x := 80) zo10 (by decide) (own := "HummingSet$Wireless") rfl (Or.inl zgf_HummingSet_Wireless_11) rfl dg44_54 (zKr_f (by decide +kernel) (by decide +kernel)) rfl ?_
  refine g_il dg44_57 rfl rfl ?_
  refine g_new (ci := 7) (C := "HummingSet$Stage") (own := "HummingSet$Wireless") zo7 rfl zgl_HummingSet_Wireless_9 zgn_7 zgj_7 zgd_7 (zKg_c (by decide +kernel) (by decide +kernel)) (zvL_all ⟨zvk_r (by decide), trivial, trivial⟩) (zvL_all ⟨trivial, zvk_r (by decide), trivial⟩) (fun a j => hR22.1 a j) (hI _ (by decide)) (hL _ (by decide)) (fun j => hR22.2.1 _ (by decide) j) (by decide) (by decide) dg44_58 ?_
  refine zg_al (q := 93) (n' := 92) (c' := 14) (s' := 55) (pc' := 61) rfl rfl rfl rfl rfl ?_
  have hR23 := zRi_w (m' := 94) hR22 (by decide)
  refine zg_n (n' := 92) (c' := 14) (s' := 55) (pc' := 61) rfl rfl rfl rfl ?_
  refine g_dup dg44_61 ?_
  refine g_cI2 (k2 := 38) (mc2 := 1) (ms2 := 3) zgm_HummingSet_Wireless_36 zgc38 zgi38 rfl rfl (by decide +kernel) (by decide +kernel) dg44_62 rfl (by decide) (by decide) (zvL_all ⟨zvk_r (by decide), trivial, trivial⟩) (zvL_all ⟨zvk_r (by decide), trivial, zvk_r (by decide), trivial⟩) (fun Q hq => c_38 (zKr_f (by decide +kernel) (by decide +kernel)) (by decide) (zKg_c (by decide +kernel) (by decide +kernel)) (hI _ (by decide)) (fun a j => hR23.1 a j) hq) ?_
  refine zg_n (n' := 93) (c' := 15) (s' := 58) (pc' := 65) rfl rfl rfl rfl ?_
  have hR24 := zRi_up (a := 93) (j := 0) (x := 95) (m' := 95) hR23 (by decide) (by decide) (by decide) (by decide)
  refine g_aast (kd := 24) (t0 := 4) (ci := 7) (nn := 6) (j := 4) (C := "HummingSet$Stage") zo7 (by decide) (fun _ => rfl) dg44_65 (zKr_c (by decide +kernel) (by decide +kernel)) (zKr_f (by decide +kernel) (by decide +kernel)) (by decide) rfl (by decide) ?_
  have hR25 := zRi_up (a := 80) (j := 4) (x := 93 + 1) (m' := 95) hR24 (by decide) (by decide) (by decide) (by decide)
  refine g_inc (d := 1) (y := 5) (ls' := [.ref 79, .int 5]) dg44_66 (by decide) rfl (by decide) rfl ?_
  refine zg_n (n' := 93) (c' := 15) (s' := 58) (pc' := 69) rfl rfl rfl rfl ?_
  refine g_goto (t := 47) dg44_69 (by decide) ?_
  refine g_il dg44_47 rfl rfl ?_
  refine g_bi (v := 6) dg44_48 (by decide) ?_
  refine zg_n (n' := 93) (c' := 15) (s' := 58) (pc' := 50) rfl rfl rfl rfl ?_
  refine g_geF (t := 72) dg44_50 (by decide) (by decide) ?_
  refine g_al dg44_53 rfl rfl ?_
  refine g_gR (j := 0) (x := 80) zo10 (by decide) (own := "HummingSet$Wireless") rfl (Or.inl zgf_HummingSet_Wireless_11) rfl dg44_54 (zKr_f (by decide +kernel) (by decide +kernel)) rfl ?_
  refine zg_n (n' := 93) (c' := 15) (s' := 58) (pc' := 57) rfl rfl rfl rfl ?_
  refine g_il dg44_57 rfl rfl ?_
  refine g_new (ci := 7) (C := "HummingSet$Stage") (own := "HummingSet$Wireless") zo7 rfl zgl_HummingSet_Wireless_9 zgn_7 zgj_7 zgd_7 (zKg_c (by decide +kernel) (by decide +kernel)) (zvL_all ⟨zvk_r (by decide), trivial, trivial⟩) (zvL_all ⟨trivial, zvk_r (by decide), trivial⟩) (fun a j => hR25.1 a j) (hI _ (by decide)) (hL _ (by decide)) (fun j => hR25.2.1 _ (by decide) j) (by decide) (by decide) dg44_58 ?_
  refine zg_al (q := 95) (n' := 94) (c' := 16) (s' := 61) (pc' := 61) rfl rfl rfl rfl rfl ?_
  have hR26 := zRi_w (m' := 96) hR25 (by decide)
  refine g_dup dg44_61 ?_
  refine g_cI2 (k2 := 38) (mc2 := 1) (ms2 := 3) zgm_HummingSet_Wireless_36 zgc38 zgi38 rfl rfl (by decide +kernel) (by decide +kernel) dg44_62 rfl (by decide) (by decide) (zvL_all ⟨zvk_r (by decide), trivial, trivial⟩) (zvL_all ⟨zvk_r (by decide), trivial, zvk_r (by decide), trivial⟩) (fun Q hq => c_38 (zKr_f (by decide +kernel) (by decide +kernel)) (by decide) (zKg_c (by decide +kernel) (by decide +kernel)) (hI _ (by decide)) (fun a j => hR26.1 a j) hq) ?_
  refine zg_n (n' := 95) (c' := 17) (s' := 64) (pc' := 65) rfl rfl rfl rfl ?_
  have hR27 := zRi_up (a := 95) (j := 0) (x := 97) (m' := 97) hR26 (by decide) (by decide) (by decide) (by decide)
  refine g_aast (kd := 24) (t0 := 4) (ci := 7) (nn := 6) (j := 5) (C := "HummingSet$Stage") zo7 (by decide) (fun _ => rfl) dg44_65 (zKr_c (by decide +kernel) (by decide +kernel)) (zKr_f (by decide +kernel) (by decide +kernel)) (by decide) rfl (by decide) ?_
  have hR28 := zRi_up (a := 80) (j := 5) (x := 95 + 1) (m' := 97) hR27 (by decide) (by decide) (by decide) (by decide)
  refine g_inc (d := 1) (y := 6) (ls' := [.ref 79, .int 6]) dg44_66 (by decide) rfl (by decide) rfl ?_
  refine zg_n (n' := 95) (c' := 17) (s' := 64) (pc' := 69) rfl rfl rfl rfl ?_
  refine g_goto (t := 47) dg44_69 (by decide) ?_
  refine g_il dg44_47 rfl rfl ?_
  refine g_bi (v := 6) dg44_48 (by decide) ?_
  refine zg_n (n' := 95) (c' := 17) (s' := 64) (pc' := 50) rfl rfl rfl rfl ?_
  refine g_geT (t := 72) dg44_50 (by decide) (by decide) ?_
  refine zg_n (n' := 95) (c' := 17) (s' := 64) (pc' := 72) rfl rfl rfl rfl ?_
  refine g_ic (v := 0) dg44_72 (by decide) ?_
  refine g_is (ls' := [.ref 79, .int 0]) dg44_73 rfl (Nat.le_of_ble_eq_true rfl) rfl ?_
  refine g_il dg44_74 rfl rfl ?_
  refine g_bi (v := 8) dg44_75 (by decide) ?_
  refine zg_n (n' := 95) (c' := 17) (s' := 64) (pc' := 77) rfl rfl rfl rfl ?_
  refine g_geF (t := 99) dg44_77 (by decide) (by decide) ?_
  refine g_al dg44_80 rfl rfl ?_
  refine g_gR (j := 1) (x := 81) zo10 (by decide) (own := "HummingSet$Wireless") rfl (Or.inl zgf_HummingSet_Wireless_19) rfl dg44_81 (zKr_f (by decide +kernel) (by decide +kernel)) rfl ?_
  refine g_il dg44_84 rfl rfl ?_
  refine g_new (ci := 3) (C := "HummingSet$Part") (own := "HummingSet$Wireless") zo3 rfl zgl_HummingSet_Wireless_17 zgn_3 zgj_3 zgd_3 (zKg_c (by decide +kernel) (by decide +kernel)) (zvL_all ⟨zvk_r (by decide), trivial, trivial⟩) (zvL_all ⟨trivial, zvk_r (by decide), trivial⟩) (fun a j => hR28.1 a j) (hI _ (by decide)) (hL _ (by decide)) (fun j => hR28.2.1 _ (by decide) j) (by decide) (by decide) dg44_85 ?_
  refine zg_al (q := 97) (n' := 96) (c' := 18) (s' := 73) (pc' := 88) rfl rfl rfl rfl rfl ?_
  have hR29 := zRi_w (m' := 98) hR28 (by decide)
  refine g_dup dg44_88 ?_
  refine zg_n (n' := 96) (c' := 18) (s' := 73) (pc' := 89) rfl rfl rfl rfl ?_
  refine g_cI2 (k2 := 17) (mc2 := 1) (ms2 := 3) zgm_HummingSet_Wireless_37 zgc17 zgi17 rfl rfl (by decide +kernel) (by decide +kernel) dg44_89 rfl (by decide) (by decide) (zvL_all ⟨zvk_r (by decide), trivial, trivial⟩) (zvL_all ⟨zvk_r (by decide), trivial, zvk_r (by decide), trivial⟩) (fun Q hq => c_17 (zKr_f (by decide +kernel) (by decide +kernel)) (by decide) (zKg_c (by decide +kernel) (by decide +kernel)) (hI _ (by decide)) (fun a j => hR29.1 a j) hq) ?_
  refine zg_n (n' := 97) (c' := 19) (s' := 76) (pc' := 92) rfl rfl rfl rfl ?_
  have hR30 := zRi_up (a := 97) (j := 0) (x := 99) (m' := 99) hR29 (by decide) (by decide) (by decide) (by decide)
  refine g_aast (kd := 25) (t0 := 5) (ci := 3) (nn := 8) (j := 0) (C := "HummingSet$Part") zo3 (by decide) (fun _ => rfl) dg44_92 (zKr_c (by decide +kernel) (by decide +kernel)) (zKr_f (by decide +kernel) (by decide +kernel)) (by decide) rfl (by decide) ?_
  have hR31 := zRi_up (a := 81) (j := 0) (x := 97 + 1) (m' := 99) hR30 (by decide) (by decide) (by decide) (by decide)
  refine g_inc (d := 1) (y := 1) (ls' := [.ref 79, .int 1]) dg44_93 (by decide) rfl (by decide) rfl ?_
  refine zg_n (n' := 97) (c' := 19) (s' := 76) (pc' := 96) rfl rfl rfl rfl ?_
  refine g_goto (t := 74) dg44_96 (by decide) ?_
  refine g_il dg44_74 rfl rfl ?_
  refine g_bi (v := 8) dg44_75 (by decide) ?_
  refine zg_n (n' := 97) (c' := 19) (s' := 76) (pc' := 77) rfl rfl rfl rfl ?_
  refine g_geF (t := 99) dg44_77 (by decide) (by decide) ?_
  refine g_al dg44_80 rfl rfl ?_
  refine g_gR (j := 1) (x := 81) zo10 (by decide) (own := "HummingSet$Wireless") rfl (Or.inl zgf_HummingSet_Wireless_19) rfl dg44_81 (zKr_f (by decide +kernel) (by decide +kernel)) rfl ?_
  refine g_il dg44_84 rfl rfl ?_
  refine zg_n (n' := 97) (c' := 19) (s' := 76) (pc' := 85) rfl rfl rfl rfl ?_
  refine g_new (ci := 3) (C := "HummingSet$Part") (own := "HummingSet$Wireless") zo3 rfl zgl_HummingSet_Wireless_17 zgn_3 zgj_3 zgd_3 (zKg_c (by decide +kernel) (by decide +kernel)) (zvL_all ⟨zvk_r (by decide), trivial, trivial⟩) (zvL_all ⟨trivial, zvk_r (by decide), trivial⟩) (fun a j => hR31.1 a j) (hI _ (by decide)) (hL _ (by decide)) (fun j => hR31.2.1 _ (by decide) j) (by decide) (by decide) dg44_85 ?_
  refine zg_al (q := 99) (n' := 98) (c' := 20) (s' := 85) (pc' := 88) rfl rfl rfl rfl rfl ?_
  have hR32 := zRi_w (m' := 100) hR31 (by decide)
  refine g_dup dg44_88 ?_
  refine g_cI2 (k2 := 17) (mc2 := 1) (ms2 := 3) zgm_HummingSet_Wireless_37 zgc17 zgi17 rfl rfl (by decide +kernel) (by decide +kernel) dg44_89 rfl (by decide) (by decide) (zvL_all ⟨zvk_r (by decide), trivial, trivial⟩) (zvL_all ⟨zvk_r (by decide), trivial, zvk_r (by decide), trivial⟩) (fun Q hq => c_17 (zKr_f (by decide +kernel) (by decide +kernel)) (by decide) (zKg_c (by decide +kernel) (by decide +kernel)) (hI _ (by decide)) (fun a j => hR32.1 a j) hq) ?_
  refine zg_n (n' := 99) (c' := 21) (s' := 88) (pc' := 92) rfl rfl rfl rfl ?_
  have hR33 := zRi_up (a := 99) (j := 0) (x := 101) (m' := 101) hR32 (by decide) (by decide) (by decide) (by decide)
  refine g_aast (kd := 25) (t0 := 5) (ci := 3) (nn := 8) (j := 1) (C := "HummingSet$Part") zo3 (by decide) (fun _ => rfl) dg44_92 (zKr_c (by decide +kernel) (by decide +kernel)) (zKr_f (by decide +kernel) (by decide +kernel)) (by decide) rfl (by decide) ?_
  have hR34 := zRi_up (a := 81) (j := 1) (x := 99 + 1) (m' := 101) hR33 (by decide) (by decide) (by decide) (by decide)
  refine g_inc (d := 1) (y := 2) (ls' := [.ref 79, .int 2]) dg44_93 (by decide) rfl (by decide) rfl ?_
  refine zg_n (n' := 99) (c' := 21) (s' := 88) (pc' := 96) rfl rfl rfl rfl ?_
  refine g_goto (t := 74) dg44_96 (by decide) ?_
  refine g_il dg44_74 rfl rfl ?_
  refine g_bi (v := 8) dg44_75 (by decide) ?_
  refine zg_n (n' := 99) (c' := 21) (s' := 88) (pc' := 77) rfl rfl rfl rfl ?_
  refine g_geF (t := 99) dg44_77 (by decide) (by decide) ?_
  refine g_al dg44_80 rfl rfl ?_
  refine zg_n (n' := 99) (c' := 21) (s' := 88) (pc' := 81) rfl rfl rfl rfl ?_
  refine g_gR (j := 1) (x := 81) zo10 (by decide) (own := "HummingSet$Wireless") rfl (Or.inl zgf_HummingSet_Wireless_19) rfl dg44_81 (zKr_f (by decide +kernel) (by decide +kernel)) rfl ?_
  refine g_il dg44_84 rfl rfl ?_
  refine g_new (ci := 3) (C := "HummingSet$Part") (own := "HummingSet$Wireless") zo3 rfl zgl_HummingSet_Wireless_17 zgn_3 zgj_3 zgd_3 (zKg_c (by decide +kernel) (by decide +kernel)) (zvL_all ⟨zvk_r (by decide), trivial, trivial⟩) (zvL_all ⟨trivial, zvk_r (by decide), trivial⟩) (fun a j => hR34.1 a j) (hI _ (by decide)) (hL _ (by decide)) (fun j => hR34.2.1 _ (by decide) j) (by decide) (by decide) dg44_85 ?_
  refine zg_al (q := 101) (n' := 100) (c' := 22) (s' := 97) (pc' := 88) rfl rfl rfl rfl rfl ?_
  have hR35 := zRi_w (m' := 102) hR34 (by decide)
  refine g_dup dg44_88 ?_
  refine g_cI2 (k2 := 17) (mc2 := 1) (ms2 := 3) zgm_HummingSet_Wireless_37 zgc17 zgi17 rfl rfl (by decide +kernel) (by decide +kernel) dg44_89 rfl (by decide) (by decide) (zvL_all ⟨zvk_r (by decide), trivial, trivial⟩) (zvL_all ⟨zvk_r (by decide), trivial, zvk_r (by decide), trivial⟩) (fun Q hq => c_17 (zKr_f (by decide +kernel) (by decide +kernel)) (by decide) (zKg_c (by decide +kernel) (by decide +kernel)) (hI _ (by decide)) (fun a j => hR35.1 a j) hq) ?_
  refine zg_n (n' := 101) (c' := 23) (s' := 100) (pc' := 92) rfl rfl rfl rfl ?_
  have hR36 := zRi_up (a := 101) (j := 0) (x := 103) (m' := 103) hR35 (by decide) (by decide) (by decide) (by decide)
  refine g_aast (kd := 25) (t0 := 5) (ci := 3) (nn := 8) (j := 2) (C := "HummingSet$Part") zo3 (by decide) (fun _ => rfl) dg44_92 (zKr_c (by decide +kernel) (by decide +kernel)) (zKr_f (by decide +kernel) (by decide +kernel)) (by decide) rfl (by decide) ?_
  have hR37 := zRi_up (a := 81) (j := 2) (x := 101 + 1) (m' := 103) hR36 (by decide) (by decide) (by decide) (by decide)
  refine g_inc (d := 1) (y := 3) (ls' := [.ref 79, .int 3]) dg44_93 (by decide) rfl (by decide) rfl ?_
  refine zg_n (n' := 101) (c' := 23) (s' := 100) (pc' := 96) rfl rfl rfl rfl ?_
  refine g_goto (t := 74) dg44_96 (by decide) ?_
  refine g_il dg44_74 rfl rfl ?_
  refine g_bi (v := 8) dg44_75 (by decide) ?_
  refine zg_n (n' := 101) (c' := 23) (s' := 100) (pc' := 77) rfl rfl rfl rfl ?_
  refine zg_n (n' := 101) (c' := 23) (s' := 100) (pc' := 77) rfl rfl rfl rfl ?_
  refine g_geF (t := 99) dg44_77 (by decide) (by decide) ?_
  refine g_al dg44_80 rfl rfl ?_
  refine g_gR (j := 1) (x := 81) zo10 (by decide) (own := "HummingSet$Wireless") rfl (Or.inl zgf_HummingSet_Wireless_19) rfl dg44_81 (zKr_f (by decide +kernel) (by decide +kernel)) rfl ?_
  refine g_il dg44_84 rfl rfl ?_
  refine g_new (ci := 3) (C := "HummingSet$Part") (own := "HummingSet$Wireless") zo3 rfl zgl_HummingSet_Wireless_17 zgn_3 zgj_3 zgd_3 (zKg_c (by decide +kernel) (by decide +kernel)) (zvL_all ⟨zvk_r (by decide), trivial, trivial⟩) (zvL_all ⟨trivial, zvk_r (by decide), trivial⟩) (fun a j => hR37.1 a j) (hI _ (by decide)) (hL _ (by decide)) (fun j => hR37.2.1 _ (by decide) j) (by decide) (by decide) dg44_85 ?_
  refine zg_al (q := 103) (n' := 102) (c' := 24) (s' := 109) (pc' := 88) rfl rfl rfl rfl rfl ?_
  have hR38 := zRi_w (m' := 104) hR37 (by decide)
  refine g_dup dg44_88 ?_
  refine g_cI2 (k2 := 17) (mc2 := 1) (ms2 := 3) zgm_HummingSet_Wireless_37 zgc17 zgi17 rfl rfl (by decide +kernel) (by decide +kernel) dg44_89 rfl (by decide) (by decide) (zvL_all ⟨zvk_r (by decide), trivial, trivial⟩) (zvL_all ⟨zvk_r (by decide), trivial, zvk_r (by decide), trivial⟩) (fun Q hq => c_17 (zKr_f (by decide +kernel) (by decide +kernel)) (by decide) (zKg_c (by decide +kernel) (by decide +kernel)) (hI _ (by decide)) (fun a j => hR38.1 a j) hq) ?_
  refine zg_n (n' := 103) (c' := 25) (s' := 112) (pc' := 92) rfl rfl rfl rfl ?_
  have hR39 := zRi_up (a := 103) (j := 0) (x := 105) (m' := 105) hR38 (by decide) (by decide) (by decide) (by decide)
  refine g_aast (kd := 25) (t0 := 5) (ci := 3) (nn := 8) (j := 3) (C := "HummingSet$Part") zo3 (by decide) (fun _ => rfl) dg44_92 (zKr_c (by decide +kernel) (by decide +kernel)) (zKr_f (by decide +kernel) (by decide +kernel)) (by decide) rfl (by decide) ?_
  have hR40 := zRi_up (a := 81) (j := 3) (x := 103 + 1) (m' := 105) hR39 (by decide) (by decide) (by decide) (by decide)
  refine g_inc (d := 1) (y := 4) (ls' := [.ref 79, .int 4]) dg44_93 (by decide) rfl (by decide) rfl ?_
  refine zg_n (n' := 103) (c' := 25) (s' := 112) (pc' := 96) rfl rfl rfl rfl ?_
  refine g_goto (t := 74) dg44_96 (by decide) ?_
  refine zg_n (n' := 103) (c' := 25) (s' := 112) (pc' := 74) rfl rfl rfl rfl ?_
  refine g_il dg44_74 rfl rfl ?_
  refine g_bi (v := 8) dg44_75 (by decide) ?_
  refine zg_n (n' := 103) (c' := 25) (s' := 112) (pc' := 77) rfl rfl rfl rfl ?_
  refine g_geF (t := 99) dg44_77 (by decide) (by decide) ?_
  refine g_al dg44_80 rfl rfl ?_
  refine g_gR (j := 1) (x := 81) zo10 (by decide) (own := "HummingSet$Wireless") rfl (Or.inl zgf_HummingSet_Wireless_19) rfl dg44_81 (zKr_f (by decide +kernel) (by decide +kernel)) rfl ?_
  refine g_il dg44_84 rfl rfl ?_
  refine g_new (ci := 3) (C := "HummingSet$Part") (own := "HummingSet$Wireless") zo3 rfl zgl_HummingSet_Wireless_17 zgn_3 zgj_3 zgd_3 (zKg_c (by decide +kernel) (by decide +kernel)) (zvL_all ⟨zvk_r (by decide), trivial, trivial⟩) (zvL_all ⟨trivial, zvk_r (by decide), trivial⟩) (fun a j => hR40.1 a j) (hI _ (by decide)) (hL _ (by decide)) (fun j => hR40.2.1 _ (by decide) j) (by decide) (by decide) dg44_85 ?_
  refine zg_al (q := 105) (n' := 104) (c' := 26) (s' := 121) (pc' := 88) rfl rfl rfl rfl rfl ?_
  have hR41 := zRi_w (m' := 106) hR40 (by decide)
  refine g_dup dg44_88 ?_
  refine g_cI2 (k2 := 17) (mc2 := 1) (ms2 := 3) zgm_HummingSet_Wireless_37 zgc17 zgi17 rfl rfl (by decide +kernel) (by decide +kernel) dg44_89 rfl (by decide) (by decide) (zvL_all ⟨zvk_r (by decide), trivial, trivial⟩) (zvL_all ⟨zvk_r (by decide), trivial, zvk_r (by decide), trivial⟩) (fun Q hq => c_17 (zKr_f (by decide +kernel) (by decide +kernel)) (by decide) (zKg_c (by decide +kernel) (by decide +kernel)) (hI _ (by decide)) (fun a j => hR41.1 a j) hq) ?_
  refine zg_n (n' := 105) (c' := 27) (s' := 124) (pc' := 92) rfl rfl rfl rfl ?_
  have hR42 := zRi_up (a := 105) (j := 0) (x := 107) (m' := 107) hR41 (by decide) (by decide) (by decide) (by decide)
  refine g_aast (kd := 25) (t0 := 5) (ci := 3) (nn := 8) (j := 4) (C := "HummingSet$Part") zo3 (by decide) (fun _ => rfl) dg44_92 (zKr_c (by decide +kernel) (by decide +kernel)) (zKr_f (by decide +kernel) (by decide +kernel)) (by decide) rfl (by decide) ?_
  have hR43 := zRi_up (a := 81) (j := 4) (x := 105 + 1) (m' := 107) hR42 (by decide) (by decide) (by decide) (by decide)
  refine zg_n (n' := 105) (c' := 27) (s' := 124) (pc' := 93) rfl rfl rfl rfl ?_
  refine g_inc (d := 1) (y := 5) (ls' := [.ref 79, .int 5]) dg44_93 (by decide) rfl (by decide) rfl ?_
  refine zg_n (n' := 105) (c' := 27) (s' := 124) (pc' := 96) rfl rfl rfl rfl ?_
  refine g_goto (t := 74) dg44_96 (by decide) ?_
  refine g_il dg44_74 rfl rfl ?_
  refine g_bi (v := 8) dg44_75 (by decide) ?_
  refine zg_n (n' := 105) (c' := 27) (s' := 124) (pc' := 77) rfl rfl rfl rfl ?_
  refine g_geF (t := 99) dg44_77 (by decide) (by decide) ?_
  refine g_al dg44_80 rfl rfl ?_
  refine g_gR (j := 1) (x := 81) zo10 (by decide) (own := "HummingSet$Wireless") rfl (Or.inl zgf_HummingSet_Wireless_19) rfl dg44_81 (zKr_f (by decide +kernel) (by decide +kernel)) rfl ?_
  refine g_il dg44_84 rfl rfl ?_
  refine g_new (ci := 3) (C := "HummingSet$Part") (own := "HummingSet$Wireless") zo3 rfl zgl_HummingSet_Wireless_17 zgn_3 zgj_3 zgd_3 (zKg_c (by decide +kernel) (by decide +kernel)) (zvL_all ⟨zvk_r (by decide), trivial, trivial⟩) (zvL_all ⟨trivial, zvk_r (by decide), trivial⟩) (fun a j => hR43.1 a j) (hI _ (by decide)) (hL _ (by decide)) (fun j => hR43.2.1 _ (by decide) j) (by decide) (by decide) dg44_85 ?_
  refine zg_al (q := 107) (n' := 106) (c' := 28) (s' := 133) (pc' := 88) rfl rfl rfl rfl rfl ?_
  have hR44 := zRi_w (m' := 108) hR43 (by decide)
  refine g_dup dg44_88 ?_
  refine zg_n (n' := 106) (c' := 28) (s' := 133) (pc' := 89) rfl rfl rfl rfl ?_
  refine g_cI2 (k2 := 17) (mc2 := 1) (ms2 := 3) zgm_HummingSet_Wireless_37 zgc17 zgi17 rfl rfl (by decide +kernel) (by decide +kernel) dg44_89 rfl (by decide) (by decide) (zvL_all ⟨zvk_r (by decide), trivial, trivial⟩) (zvL_all ⟨zvk_r (by decide), trivial, zvk_r (by decide), trivial⟩) (fun Q hq => c_17 (zKr_f (by decide +kernel) (by decide +kernel)) (by decide) (zKg_c (by decide +kernel) (by decide +kernel)) (hI _ (by decide)) (fun a j => hR44.1 a j) hq) ?_
  refine zg_n (n' := 107) (c' := 29) (s' := 136) (pc' := 92) rfl rfl rfl rfl ?_
  have hR45 := zRi_up (a := 107) (j := 0) (x := 109) (m' := 109) hR44 (by decide) (by decide) (by decide) (by decide)
  refine g_aast (kd := 25) (t0 := 5) (ci := 3) (nn := 8) (j := 5) (C := "HummingSet$Part") zo3 (by decide) (fun _ => rfl) dg44_92 (zKr_c (by decide +kernel) (by decide +kernel)) (zKr_f (by decide +kernel) (by decide +kernel)) (by decide) rfl (by decide) ?_
  have hR46 := zRi_up (a := 81) (j := 5) (x := 107 + 1) (m' := 109) hR45 (by decide) (by decide) (by decide) (by decide)
  refine g_inc (d := 1) (y := 6) (ls' := [.ref 79, .int 6]) dg44_93 (by decide) rfl (by decide) rfl ?_
  refine zg_n (n' := 107) (c' := 29) (s' := 136) (pc' := 96) rfl rfl rfl rfl ?_
  refine g_goto (t := 74) dg44_96 (by decide) ?_
  refine g_il dg44_74 rfl rfl ?_
  refine g_bi (v := 8) dg44_75 (by decide) ?_
  refine zg_n (n' := 107) (c' := 29) (s' := 136) (pc' := 77) rfl rfl rfl rfl ?_
  refine g_geF (t := 99) dg44_77 (by decide) (by decide) ?_
  refine g_al dg44_80 rfl rfl ?_
  refine g_gR (j := 1) (x := 81) zo10 (by decide) (own := "HummingSet$Wireless") rfl (Or.inl zgf_HummingSet_Wireless_19) rfl dg44_81 (zKr_f (by decide +kernel) (by decide +kernel)) rfl ?_
  refine g_il dg44_84 rfl rfl ?_
  refine zg_n (n' := 107) (c' := 29) (s' := 136) (pc' := 85) rfl rfl rfl rfl ?_
  refine g_new (ci := 3) (C := "HummingSet$Part") (own := "HummingSet$Wireless") zo3 rfl zgl_HummingSet_Wireless_17 zgn_3 zgj_3 zgd_3 (zKg_c (by decide +kernel) (by decide +kernel)) (zvL_all ⟨zvk_r (by decide), trivial, trivial⟩) (zvL_all ⟨trivial, zvk_r (by decide), trivial⟩) (fun a j => hR46.1 a j) (hI _ (by decide)) (hL _ (by decide)) (fun j => hR46.2.1 _ (by decide) j) (by decide) (by decide) dg44_85 ?_
  refine zg_al (q := 109) (n' := 108) (c' := 30) (s' := 145) (pc' := 88) rfl rfl rfl rfl rfl ?_
  have hR47 := zRi_w (m' := 110) hR46 (by decide)
  refine g_dup dg44_88 ?_
  refine g_cI2 (k2 := 17) (mc2 := 1) (ms2 := 3) zgm_HummingSet_Wireless_37 zgc17 zgi17 rfl rfl (by decide +kernel) (by decide +kernel) dg44_89 rfl (by decide) (by decide) (zvL_all ⟨zvk_r (by decide), trivial, trivial⟩) (zvL_all ⟨zvk_r (by decide), trivial, zvk_r (by decide), trivial⟩) (fun Q hq => c_17 (zKr_f (by decide +kernel) (by decide +kernel)) (by decide) (zKg_c (by decide +kernel) (by decide +kernel)) (hI _ (by decide)) (fun a j => hR47.1 a j) hq) ?_
  refine zg_n (n' := 109) (c' := 31) (s' := 148) (pc' := 92) rfl rfl rfl rfl ?_
  have hR48 := zRi_up (a := 109) (j := 0) (x := 111) (m' := 111) hR47 (by decide) (by decide) (by decide) (by decide)
  refine g_aast (kd := 25) (t0 := 5) (ci := 3) (nn := 8) (j := 6) (C := "HummingSet$Part") zo3 (by decide) (fun _ => rfl) dg44_92 (zKr_c (by decide +kernel) (by decide +kernel)) (zKr_f (by decide +kernel) (by decide +kernel)) (by decide) rfl (by decide) ?_
  have hR49 := zRi_up (a := 81) (j := 6) (x := 109 + 1) (m' := 111) hR48 (by decide) (by decide) (by decide) (by decide)
  refine g_inc (d := 1) (y := 7) (ls' := [.ref 79, .int 7]) dg44_93 (by decide) rfl (by decide) rfl ?_
  refine zg_n (n' := 109) (c' := 31) (s' := 148) (pc' := 96) rfl rfl rfl rfl ?_
  refine g_goto (t := 74) dg44_96 (by decide) ?_
  refine g_il dg44_74 rfl rfl ?_
  refine g_bi (v := 8) dg44_75 (by decide) ?_
  refine zg_n (n' := 109) (c' := 31) (s' := 148) (pc' := 77) rfl rfl rfl rfl ?_
  refine g_geF (t := 99) dg44_77 (by decide) (by decide) ?_
  refine g_al dg44_80 rfl rfl ?_
  refine zg_n (n' := 109) (c' := 31) (s' := 148) (pc' := 81) rfl rfl rfl rfl ?_
  refine g_gR (j := 1) (x := 81) zo10 (by decide) (own := "HummingSet$Wireless") rfl (Or.inl zgf_HummingSet_Wireless_19) rfl dg44_81 (zKr_f (by decide +kernel) (by decide +kernel)) rfl ?_
  refine g_il dg44_84 rfl rfl ?_
  refine g_new (ci := 3) (C := "HummingSet$Part") (own := "HummingSet$Wireless") zo3 rfl zgl_HummingSet_Wireless_17 zgn_3 zgj_3 zgd_3 (zKg_c (by decide +kernel) (by decide +kernel)) (zvL_all ⟨zvk_r (by decide), trivial, trivial⟩) (zvL_all ⟨trivial, zvk_r (by decide), trivial⟩) (fun a j => hR49.1 a j) (hI _ (by decide)) (hL _ (by decide)) (fun j => hR49.2.1 _ (by decide) j) (by decide) (by decide) dg44_85 ?_
  refine zg_al (q := 111) (n' := 110) (c' := 32) (s' := 157) (pc' := 88) rfl rfl rfl rfl rfl ?_
  have hR50 := zRi_w (m' := 112) hR49 (by decide)
  refine g_dup dg44_88 ?_
  refine g_cI2 (k2 := 17) (mc2 := 1) (ms2 := 3) zgm_HummingSet_Wireless_37 zgc17 zgi17 rfl rfl (by decide +kernel) (by decide +kernel) dg44_89 rfl (by decide) (by decide) (zvL_all ⟨zvk_r (by decide), trivial, trivial⟩) (zvL_all ⟨zvk_r (by decide), trivial, zvk_r (by decide), trivial⟩) (fun Q hq => c_17 (zKr_f (by decide +kernel) (by decide +kernel)) (by decide) (zKg_c (by decide +kernel) (by decide +kernel)) (hI _ (by decide)) (fun a j => hR50.1 a j) hq) ?_
  refine zg_n (n' := 111) (c' := 33) (s' := 160) (pc' := 92) rfl rfl rfl rfl ?_
  have hR51 := zRi_up (a := 111) (j := 0) (x := 113) (m' := 113) hR50 (by decide) (by decide) (by decide) (by decide)
  refine g_aast (kd := 25) (t0 := 5) (ci := 3) (nn := 8) (j := 7) (C := "HummingSet$Part") zo3 (by decide) (fun _ => rfl) dg44_92 (zKr_c (by decide +kernel) (by decide +kernel)) (zKr_f (by decide +kernel) (by decide +kernel)) (by decide) rfl (by decide) ?_
  have hR52 := zRi_up (a := 81) (j := 7) (x := 111 + 1) (m' := 113) hR51 (by decide) (by decide) (by decide) (by decide)
  refine g_inc (d := 1) (y := 8) (ls' := [.ref 79, .int 8]) dg44_93 (by decide) rfl (by decide) rfl ?_
  refine zg_n (n' := 111) (c' := 33) (s' := 160) (pc' := 96) rfl rfl rfl rfl ?_
  refine g_goto (t := 74) dg44_96 (by decide) ?_
  refine g_il dg44_74 rfl rfl ?_
  refine g_bi (v := 8) dg44_75 (by decide) ?_
  refine zg_n (n' := 111) (c' := 33) (s' := 160) (pc' := 77) rfl rfl rfl rfl ?_
  refine zg_n (n' := 111) (c' := 33) (s' := 160) (pc' := 77) rfl rfl rfl rfl ?_
  refine g_geT (t := 99) dg44_77 (by decide) (by decide) ?_
  refine g_ic (v := 0) dg44_99 (by decide) ?_
  refine g_is (ls' := [.ref 79, .int 0]) dg44_100 rfl (Nat.le_of_ble_eq_true rfl) rfl ?_
  refine g_il dg44_101 rfl rfl ?_
  refine g_bi (v := 6) dg44_102 (by decide) ?_
  refine zg_n (n' := 111) (c' := 33) (s' := 160) (pc' := 104) rfl rfl rfl rfl ?_
  refine g_geF (t := 126) dg44_104 (by decide) (by decide) ?_
  refine g_al dg44_107 rfl rfl ?_
  refine g_gR (j := 2) (x := 82) zo10 (by decide) (own := "HummingSet$Wireless") rfl (Or.inl zgf_HummingSet_Wireless_25) rfl dg44_108 (zKr_f (by decide +kernel) (by decide +kernel)) rfl ?_
  refine g_il dg44_111 rfl rfl ?_
  refine g_new (ci := 9) (C := "HummingSet$Way") (own := "HummingSet$Wireless") zo9 rfl zgl_HummingSet_Wireless_23 zgn_9 zgj_9 zgd_9 (zKg_c (by decide +kernel) (by decide +kernel)) (zvL_all ⟨zvk_r (by decide), trivial, trivial⟩) (zvL_all ⟨trivial, zvk_r (by decide), trivial⟩) (fun a j => hR52.1 a j) (hI _ (by decide)) (hL _ (by decide)) (fun j => hR52.2.1 _ (by decide) j) (by decide) (by decide) dg44_112 ?_
  refine zg_al (q := 113) (n' := 112) (c' := 34) (s' := 163) (pc' := 115) rfl rfl rfl rfl rfl ?_
  have hR53 := zRi_w (m' := 114) hR52 (by decide)
  refine zg_n (n' := 112) (c' := 34) (s' := 163) (pc' := 115) rfl rfl rfl rfl ?_
  refine g_dup dg44_115 ?_
  refine g_cI2 (k2 := 43) (mc2 := 0) (ms2 := 0) zgm_HummingSet_Wireless_38 zgc43 zgi43 rfl rfl (by decide +kernel) (by decide +kernel) dg44_116 rfl (by decide) (by decide) (zvL_all ⟨zvk_r (by decide), trivial, trivial⟩) (zvL_all ⟨zvk_r (by decide), trivial, zvk_r (by decide), trivial⟩) (fun Q hq => c_43 (zKr_f (by decide +kernel) (by decide +kernel)) (by decide) (fun a j => hR53.1 a j) hq) ?_
  refine zg_n (n' := 112) (c' := 34) (s' := 163) (pc' := 119) rfl rfl rfl rfl ?_
  refine g_aast (kd := 26) (t0 := 6) (ci := 9) (nn := 6) (j := 0) (C := "HummingSet$Way") zo9 (by decide) (fun _ => rfl) dg44_119 (zKr_c (by decide +kernel) (by decide +kernel)) (zKr_f (by decide +kernel) (by decide +kernel)) (by decide) rfl (by decide) ?_
  have hR54 := zRi_up (a := 82) (j := 0) (x := 113 + 1) (m' := 114) hR53 (by decide) (by decide) (by decide) (by decide)
  refine g_inc (d := 1) (y := 1) (ls' := [.ref 79, .int 1]) dg44_120 (by decide) rfl (by decide) rfl ?_
  refine zg_n (n' := 112) (c' := 34) (s' := 163) (pc' := 123) rfl rfl rfl rfl ?_
  refine g_goto (t := 101) dg44_123 (by decide) ?_
  refine g_il dg44_101 rfl rfl ?_
  refine g_bi (v := 6) dg44_102 (by decide) ?_
  refine zg_n (n' := 112) (c' := 34) (s' := 163) (pc' := 104) rfl rfl rfl rfl ?_
  refine g_geF (t := 126) dg44_104 (by decide) (by decide) ?_
  refine g_al dg44_107 rfl rfl ?_
  refine g_gR (j := 2) (x := 82) zo10 (by decide) (own := "HummingSet$Wireless") rfl (Or.inl zgf_HummingSet_Wireless_25) rfl dg44_108 (zKr_f (by decide +kernel) (by decide +kernel)) rfl ?_
  refine zg_n (n' := 112) (c' := 34) (s' := 163) (pc' := 111) rfl rfl rfl rfl ?_
  refine g_il dg44_111 rfl rfl ?_
  refine g_new (ci := 9) (C := "HummingSet$Way") (own := "HummingSet$Wireless") zo9 rfl zgl_HummingSet_Wireless_23 zgn_9 zgj_9 zgd_9 (zKg_c (by decide +kernel) (by decide +kernel)) (zvL_all ⟨zvk_r (by decide), trivial, trivial⟩) (zvL_all ⟨trivial, zvk_r (by decide), trivial⟩) (fun a j => hR54.1 a j) (hI _ (by decide)) (hL _ (by decide)) (fun j => hR54.2.1 _ (by decide) j) (by decide) (by decide) dg44_112 ?_
  refine zg_al (q := 114) (n' := 113) (c' := 35) (s' := 166) (pc' := 115) rfl rfl rfl rfl rfl ?_
  have hR55 := zRi_w (m' := 115) hR54 (by decide)
  refine g_dup dg44_115 ?_
  refine g_cI2 (k2 := 43) (mc2 := 0) (ms2 := 0) zgm_HummingSet_Wireless_38 zgc43 zgi43 rfl rfl (by decide +kernel) (by decide +kernel) dg44_116 rfl (by decide) (by decide) (zvL_all ⟨zvk_r (by decide), trivial, trivial⟩) (zvL_all ⟨zvk_r (by decide), trivial, zvk_r (by decide), trivial⟩) (fun Q hq => c_43 (zKr_f (by decide +kernel) (by decide +kernel)) (by decide) (fun a j => hR55.1 a j) hq) ?_
  refine zg_n (n' := 113) (c' := 35) (s' := 166) (pc' := 119) rfl rfl rfl rfl ?_
  refine g_aast (kd := 26) (t0 := 6) (ci := 9) (nn := 6) (j := 1) (C := "HummingSet$Way") zo9 (by decide) (fun _ => rfl) dg44_119 (zKr_c (by decide +kernel) (by decide +kernel)) (zKr_f (by decide +kernel) (by decide +kernel)) (by decide) rfl (by decide) ?_
  have hR56 := zRi_up (a := 82) (j := 1) (x := 114 + 1) (m' := 115) hR55 (by decide) (by decide) (by decide) (by decide)
  refine g_inc (d := 1) (y := 2) (ls' := [.ref 79, .int 2]) dg44_120 (by decide) rfl (by decide) rfl ?_
  refine zg_n (n' := 113) (c' := 35) (s' := 166) (pc' := 123) rfl rfl rfl rfl ?_
  refine g_goto (t := 101) dg44_123 (by decide) ?_
  refine g_il dg44_101 rfl rfl ?_
  refine g_bi (v := 6) dg44_102 (by decide) ?_
  refine zg_n (n' := 113) (c' := 35) (s' := 166) (pc' := 104) rfl rfl rfl rfl ?_
  refine g_geF (t := 126) dg44_104 (by decide) (by decide) ?_
  refine zg_n (n' := 113) (c' := 35) (s' := 166) (pc' := 107) rfl rfl rfl rfl ?_
  refine g_al dg44_107 rfl rfl ?_
  refine g_gR (j := 2) (x := 82) zo10 (by decide) (own := "HummingSet$Wireless") rfl (Or.inl zgf_HummingSet_Wireless_25) rfl dg44_108 (zKr_f (by decide +kernel) (by decide +kernel)) rfl ?_
  refine g_il dg44_111 rfl rfl ?_
  refine g_new (ci := 9) (C := "HummingSet$Way") (own := "HummingSet$Wireless") zo9 rfl zgl_HummingSet_Wireless_23 zgn_9 zgj_9 zgd_9 (zKg_c (by decide +kernel) (by decide +kernel)) (zvL_all ⟨zvk_r (by decide), trivial, trivial⟩) (zvL_all ⟨trivial, zvk_r (by decide), trivial⟩) (fun a j => hR56.1 a j) (hI _ (by decide)) (hL _ (by decide)) (fun j => hR56.2.1 _ (by decide) j) (by decide) (by decide) dg44_112 ?_
  refine zg_al (q := 115) (n' := 114) (c' := 36) (s' := 169) (pc' := 115) rfl rfl rfl rfl rfl ?_
  have hR57 := zRi_w (m' := 116) hR56 (by decide)
  refine g_dup dg44_115 ?_
  refine g_cI2 (k2 := 43) (mc2 := 0) (ms2 := 0) zgm_HummingSet_Wireless_38 zgc43 zgi43 rfl rfl (by decide +kernel) (by decide +kernel) dg44_116 rfl (by decide) (by decide) (zvL_all ⟨zvk_r (by decide), trivial, trivial⟩) (zvL_all ⟨zvk_r (by decide), trivial, zvk_r (by decide), trivial⟩) (fun Q hq => c_43 (zKr_f (by decide +kernel) (by decide +kernel)) (by decide) (fun a j => hR57.1 a j) hq) ?_
  refine zg_n (n' := 114) (c' := 36) (s' := 169) (pc' := 119) rfl rfl rfl rfl ?_
  refine g_aast (kd := 26) (t0 := 6) (ci := 9) (nn := 6) (j := 2) (C := "HummingSet$Way") zo9 (by decide) (fun _ => rfl) dg44_119 (zKr_c (by decide +kernel) (by decide +kernel)) (zKr_f (by decide +kernel) (by decide +kernel)) (by decide) rfl (by decide) ?_
  have hR58 := zRi_up (a := 82) (j := 2) (x := 115 + 1) (m' := 116) hR57 (by decide) (by decide) (by decide) (by decide)
  refine g_inc (d := 1) (y := 3) (ls' := [.ref 79, .int 3]) dg44_120 (by decide) rfl (by decide) rfl ?_
  refine zg_n (n' := 114) (c' := 36) (s' := 169) (pc' := 123) rfl rfl rfl rfl ?_
  refine g_goto (t := 101) dg44_123 (by decide) ?_
  refine g_il dg44_101 rfl rfl ?_
  refine zg_n (n' := 114) (c' := 36) (s' := 169) (pc' := 102) rfl rfl rfl rfl ?_
  refine g_bi (v := 6) dg44_102 (by decide) ?_
  refine zg_n (n' := 114) (c' := 36) (s' := 169) (pc' := 104) rfl rfl rfl rfl ?_
  refine g_geF (t := 126) dg44_104 (by decide) (by decide) ?_
  refine g_al dg44_107 rfl rfl ?_
  refine g_gR (j := 2) (x := 82) zo10 (by decide) (own := "HummingSet$Wireless") rfl (Or.inl zgf_HummingSet_Wireless_25) rfl dg44_108 (zKr_f (by decide +kernel) (by decide +kernel)) rfl ?_
  refine g_il dg44_111 rfl rfl ?_
  refine g_new (ci := 9) (C := "HummingSet$Way") (own := "HummingSet$Wireless") zo9 rfl zgl_HummingSet_Wireless_23 zgn_9 zgj_9 zgd_9 (zKg_c (by decide +kernel) (by decide +kernel)) (zvL_all ⟨zvk_r (by decide), trivial, trivial⟩) (zvL_all ⟨trivial, zvk_r (by decide), trivial⟩) (fun a j => hR58.1 a j) (hI _ (by decide)) (hL _ (by decide)) (fun j => hR58.2.1 _ (by decide) j) (by decide) (by decide) dg44_112 ?_
  refine zg_al (q := 116) (n' := 115) (c' := 37) (s' := 172) (pc' := 115) rfl rfl rfl rfl rfl ?_
  have hR59 := zRi_w (m' := 117) hR58 (by decide)
  refine g_dup dg44_115 ?_
  refine g_cI2 (k2 := 43) (mc2 := 0) (ms2 := 0) zgm_HummingSet_Wireless_38 zgc43 zgi43 rfl rfl (by decide +kernel) (by decide +kernel) dg44_116 rfl (by decide) (by decide) (zvL_all ⟨zvk_r (by decide), trivial, trivial⟩) (zvL_all ⟨zvk_r (by decide), trivial, zvk_r (by decide), trivial⟩) (fun Q hq => c_43 (zKr_f (by decide +kernel) (by decide +kernel)) (by decide) (fun a j => hR59.1 a j) hq) ?_
  refine zg_n (n' := 115) (c' := 37) (s' := 172) (pc' := 119) rfl rfl rfl rfl ?_
  refine g_aast (kd := 26) (t0 := 6) (ci := 9) (nn := 6) (j := 3) (C := "HummingSet$Way") zo9 (by decide) (fun _ => rfl) dg44_119 (zKr_c (by decide +kernel) (by decide +kernel)) (zKr_f (by decide +kernel) (by decide +kernel)) (by decide) rfl (by decide) ?_
  have hR60 := zRi_up (a := 82) (j := 3) (x := 116 + 1) (m' := 117) hR59 (by decide) (by decide) (by decide) (by decide)
  refine g_inc (d := 1) (y := 4) (ls' := [.ref 79, .int 4]) dg44_120 (by decide) rfl (by decide) rfl ?_
  refine zg_n (n' := 115) (c' := 37) (s' := 172) (pc' := 123) rfl rfl rfl rfl ?_
  refine zg_n (n' := 115) (c' := 37) (s' := 172) (pc' := 123) rfl rfl rfl rfl ?_
  refine g_goto (t := 101) dg44_123 (by decide) ?_
  refine g_il dg44_101 rfl rfl ?_
  refine g_bi (v := 6) dg44_102 (by decide) ?_
  refine zg_n (n' := 115) (c' := 37) (s' := 172) (pc' := 104) rfl rfl rfl rfl ?_
  refine g_geF (t := 126) dg44_104 (by decide) (by decide) ?_
  refine g_al dg44_107 rfl rfl ?_
  refine g_gR (j := 2) (x := 82) zo10 (by decide) (own := "HummingSet$Wireless") rfl (Or.inl zgf_HummingSet_Wireless_25) rfl dg44_108 (zKr_f (by decide +kernel) (by decide +kernel)) rfl ?_
  refine g_il dg44_111 rfl rfl ?_
  refine g_new (ci := 9) (C := "HummingSet$Way") (own := "HummingSet$Wireless") zo9 rfl zgl_HummingSet_Wireless_23 zgn_9 zgj_9 zgd_9 (zKg_c (by decide +kernel) (by decide +kernel)) (zvL_all ⟨zvk_r (by decide), trivial, trivial⟩) (zvL_all ⟨trivial, zvk_r (by decide), trivial⟩) (fun a j => hR60.1 a j) (hI _ (by decide)) (hL _ (by decide)) (fun j => hR60.2.1 _ (by decide) j) (by decide) (by decide) dg44_112 ?_
  refine zg_al (q := 117) (n' := 116) (c' := 38) (s' := 175) (pc' := 115) rfl rfl rfl rfl rfl ?_
  have hR61 := zRi_w (m' := 118) hR60 (by decide)
  refine g_dup dg44_115 ?_
  refine g_cI2 (k2 := 43) (mc2 := 0) (ms2 := 0) zgm_HummingSet_Wireless_38 zgc43 zgi43 rfl rfl (by decide +kernel) (by decide +kernel) dg44_116 rfl (by decide) (by decide) (zvL_all ⟨zvk_r (by decide), trivial, trivial⟩) (zvL_all ⟨zvk_r (by decide), trivial, zvk_r (by decide), trivial⟩) (fun Q hq => c_43 (zKr_f (by decide +kernel) (by decide +kernel)) (by decide) (fun a j => hR61.1 a j) hq) ?_
  refine zg_n (n' := 116) (c' := 38) (s' := 175) (pc' := 119) rfl rfl rfl rfl ?_
  refine zg_n (n' := 116) (c' := 38) (s' := 175) (pc' := 119) rfl rfl rfl rfl ?_
  refine g_aast (kd := 26) (t0 := 6) (ci := 9) (nn := 6) (j := 4) (C := "HummingSet$Way") zo9 (by decide) (fun _ => rfl) dg44_119 (zKr_c (by decide +kernel) (by decide +kernel)) (zKr_f (by decide +kernel) (by decide +kernel)) (by decide) rfl (by decide) ?_
  have hR62 := zRi_up (a := 82) (j := 4) (x := 117 + 1) (m' := 118) hR61 (by decide) (by decide) (by decide) (by decide)
  refine g_inc (d := 1) (y := 5) (ls' := [.ref 79, .int 5]) dg44_120 (by decide) rfl (by decide) rfl ?_
  refine zg_n (n' := 116) (c' := 38) (s' := 175) (pc' := 123) rfl rfl rfl rfl ?_
  refine g_goto (t := 101) dg44_123 (by decide) ?_
  refine g_il dg44_101 rfl rfl ?_
  refine g_bi (v := 6) dg44_102 (by decide) ?_
  refine zg_n (n' := 116) (c' := 38) (s' := 175) (pc' := 104) rfl rfl rfl rfl ?_
  refine g_geF (t := 126) dg44_104 (by decide) (by decide) ?_
  refine g_al dg44_107 rfl rfl ?_
  refine g_gR (j := 2) (x := 82) zo10 (by decide) (own := "HummingSet$Wireless") rfl (Or.inl zgf_HummingSet_Wireless_25) rfl dg44_108 (zKr_f (by decide +kernel) (by decide +kernel)) rfl ?_
  refine g_il dg44_111 rfl rfl ?_
  refine g_new (ci := 9) (C := "HummingSet$Way") (own := "HummingSet$Wireless") zo9 rfl zgl_HummingSet_Wireless_23 zgn_9 zgj_9 zgd_9 (zKg_c (by decide +kernel) (by decide +kernel)) (zvL_all ⟨zvk_r (by decide), trivial, trivial⟩) (zvL_all ⟨trivial, zvk_r (by decide), trivial⟩) (fun a j => hR62.1 a j) (hI _ (by decide)) (hL _ (by decide)) (fun j => hR62.2.1 _ (by decide) j) (by decide) (by decide) dg44_112 ?_
  refine zg_al (q := 118) (n' := 117) (c' := 39) (s' := 178) (pc' := 115) rfl rfl rfl rfl rfl ?_
  have hR63 := zRi_w (m' := 119) hR62 (by decide)
  refine zg_n (n' := 117) (c' := 39) (s' := 178) (pc' := 115) rfl rfl rfl rfl ?_
  refine g_dup dg44_115 ?_
  refine g_cI2 (k2 := 43) (mc2 := 0) (ms2 := 0) zgm_HummingSet_Wireless_38 zgc43 zgi43 rfl rfl (by decide +kernel) (by decide +kernel) dg44_116 rfl (by decide) (by decide) (zvL_all ⟨zvk_r (by decide), trivial, trivial⟩) (zvL_all ⟨zvk_r (by decide), trivial, zvk_r (by decide), trivial⟩) (fun Q hq => c_43 (zKr_f (by decide +kernel) (by decide +kernel)) (by decide) (fun a j => hR63.1 a j) hq) ?_
  refine zg_n (n' := 117) (c' := 39) (s' := 178) (pc' := 119) rfl rfl rfl rfl ?_
  refine g_aast (kd := 26) (t0 := 6) (ci := 9) (nn := 6) (j := 5) (C := "HummingSet$Way") zo9 (by decide) (fun _ => rfl) dg44_119 (zKr_c (by decide +kernel) (by decide +kernel)) (zKr_f (by decide +kernel) (by decide +kernel)) (by decide) rfl (by decide) ?_
  have hR64 := zRi_up (a := 82) (j := 5) (x := 118 + 1) (m' := 119) hR63 (by decide) (by decide) (by decide) (by decide)
  refine g_inc (d := 1) (y := 6) (ls' := [.ref 79, .int 6]) dg44_120 (by decide) rfl (by decide) rfl ?_
  refine zg_n (n' := 117) (c' := 39) (s' := 178) (pc' := 123) rfl rfl rfl rfl ?_
  refine g_goto (t := 101) dg44_123 (by decide) ?_
  refine g_il dg44_101 rfl rfl ?_
  refine g_bi (v := 6) dg44_102 (by decide) ?_
  refine zg_n (n' := 117) (c' := 39) (s' := 178) (pc' := 104) rfl rfl rfl rfl ?_
  refine g_geT (t := 126) dg44_104 (by decide) (by decide) ?_
  refine g_al dg44_126 rfl rfl ?_
  refine g_cVv (k2 := 45) (as := []) (r := []) zo10 zw45 rfl zin45 zse45 zca45 (by decide +kernel) (by decide +kernel) zgm_HummingSet_Wireless_39 dg44_127 rfl (zKr_f (by decide +kernel) (by decide +kernel)) rfl (by decide) (by decide) (fun I2 L2 R2 => (zfW 79 I I2 ∧ zCu I2 79 zu0) ∧ L = L2 ∧ zRL zW79_ R = R2) (fun P hP Q hq => x_cle2 (w := 79) hP (zKr_f (by decide +kernel) (by decide +kernel)) (zKr_c (by decide +kernel) (by decide +kernel)) (zKr_c (by decide +kernel) (by decide +kernel)) rfl rfl (fun I2 g1 g2 => hq I2 L _ ⟨⟨g1, g2⟩, rfl, rfl⟩)) ?_
  rintro I2 L2 _ ⟨⟨g1, g2⟩, rfl, rfl⟩
  refine zg_n (n' := 117) (c' := 39) (s' := 178) (pc' := 130) rfl rfl rfl rfl ?_
  exact g_fin ⟨rfl, rfl, rfl, dg44_130, h I2 g1 g2⟩
