/-! ===== the set's and the model's constructors ===== -/
section ZG
variable {l : Launch} {dC : Nat → ClassId} {dI : Nat → Nat → Nat} {cA : Nat → ClassId} {N : Nat} {E : ZMi} {A : Nat → Prop} {k mc ms cells slots n pc : Nat} {ls ls' st r : List Value} {I : ZMi} {L : ZMl} {R : ZMr} {F : ZFin}
theorem g_cI3 {k2 idx mc2 ms2 a n2 : Nat} {R2 : ZMr} (post : ZMi → ZMl → Prop) (hlk : zmm (zy k).cls idx (zy k2)) (hcal : zcal k2 0) (hins : Cond.instanceMethod (zy k2) ∈ zWS) (hnm : (zy k2).name = "<init>") (hrt : zrt k2 = none) (hrk : zrk k2 < zrk k) (hmx : zml k2 ≤ 21) (hd : decode (zb k) pc = .ok (.invokespecial idx, 3)) (hc : zck (zml k2) [.ref a] r = true) (hcc : cells + mc2 ≤ mc) (hss : slots + ms2 ≤ ms) (hvl : ∀ v ∈ ls, zvk n v) (hvr : ∀ v ∈ r, zvk n v)
    (hs : ∀ Q : Nat → ZMi → ZMl → ZMr → Prop, (∀ I2 L2, post I2 L2 → Q n2 I2 L2 R2) → zSG l dC dI cA N E A k2 mc2 ms2 0 0 n 0 (zent (zml k2) [.ref a]) [] I L R (zFr k2 mc2 ms2 Q))
    (h : ∀ I2 L2, post I2 L2 → zSG l dC dI cA N E A k mc ms (cells + mc2) (slots + ms2) n2 (pc + 3) ls r I2 L2 R2 F) : zSG l dC dI cA N E A k mc ms cells slots n pc ls (.ref a :: r) I L R F :=
  g_cI hlk hcal hins hnm hrt hrk hmx hd hc hcc hss hvl hvr (fun a b c d => n2 = a ∧ post b c ∧ R2 = d) (hs _ (fun _ _ q => ⟨rfl, q, rfl⟩)) (by rintro _ I2 L2 _ ⟨rfl, q, rfl⟩; exact h I2 L2 q)
end ZG
def zR00 : ZMr := fun _ _ => 0
theorem zRi_0 (m : Nat) : zRi zR00 m := ⟨fun _ _ => Nat.zero_le _, fun _ _ _ => rfl, fun _ _ _ => rfl⟩
theorem zRL_hi {b : Nat} : ∀ {l : List (Nat × Nat × Nat)} {R : ZMr}, (∀ a j, b ≤ j → R a j = 0) → (l.all fun q => Nat.blt q.2.1 b) = true → ∀ a j, b ≤ j → zRL l R a j = 0
  | [], R, h, _, a, j, hj => h a j hj
  | q :: r, R, h, hb, a, j, hj => by
    rw [List.all_cons, Bool.and_eq_true] at hb
    have h1 := hb.1
    rw [Nat.blt_eq] at h1
    show zRL r (zup R q.1 q.2.1 q.2.2) a j = 0
    exact zRL_hi (fun c i hi => by rw [zup_nk _ _ _ _ (by omega)]; exact h c i hi) hb.2 a j hj
theorem zRL_na {b : Nat} : ∀ {l : List (Nat × Nat × Nat)} {R : ZMr}, (l.all fun q => q.1 == b) = true → ∀ a, a ≠ b → ∀ j, zRL l R a j = R a j
  | [], R, _, a, _, j => rfl
  | q :: r, R, hb, a, ha, j => by
    rw [List.all_cons, Bool.and_eq_true] at hb
    have h1 := hb.1
    rw [beq_iff_eq] at h1
    show zRL r (zup R q.1 q.2.1 q.2.2) a j = R a j
    exact (zRL_na hb.2 a ha j).trans (zup_na _ _ _ _ (by omega))
theorem zR0_hi : ∀ a, a < 154 → ((zRl[a]?).map (fun q => Nat.ble q.length (if a = 119 then 38 else 12))) = some true := by decide +kernel
theorem zR0_z {a k : Nat} (ha : a < 154) (hk : (if a = 119 then 38 else 12) ≤ k) : zR0 a k = 0 := by
  have h := zR0_hi a ha
  unfold zR0
  cases e : zRl[a]? with
  | none => rfl
  | some q =>
    rw [e] at h
    have h := Option.some.inj h
    rw [Nat.ble_eq] at h
    show q.getD k 0 = 0
    rw [List.getD_eq_getElem?_getD, List.getElem?_eq_none (by omega)]
    rfl
theorem c_3b {l : Launch} {dC : Nat → ClassId} {dI : Nat → Nat → Nat} {cA : Nat → ClassId} {N : Nat} {E : ZMi} {A : Nat → Prop} {n a : Nat} {I : ZMi} {L : ZMl} {R : ZMr} {Q : Nat → ZMi → ZMl → ZMr → Prop} (ha : (zKr N n a).1 = 1) (han : a < n + 2) (hk0 : zKg N (n + 2) = (27, 6)) (hk1 : zKg N (n + 7 + 2) = (20, 3)) (hz2 : ∀ j, I (n + 7 + 2) j = 0) (hk6 : ∀ i, i < 6 → zKg N (n + 3 + i) = (20, 3)) (hi6 : ∀ i, i < 6 → ∀ j, I (n + 3 + i) j = 0) (hRn : zRm_ R (n + 2)) (h : Q (n + 7 + 1) I L (zup (zup (zup (zup (zup (zup (zup (zup R (n + 2) 0 (n + 4)) (n + 2) 1 (n + 5)) (n + 2) 2 (n + 6)) (n + 2) 3 (n + 7)) (n + 2) 4 (n + 8)) (n + 2) 5 (n + 9)) a 0 ((n + 2) + 1)) a 1 ((n + 7 + 2) + 1))) : zSG l dC dI cA N E A 3 8 27 0 0 n 0 [.ref a] [] I L R (zFr 3 8 27 Q) := c_3 ha han hk0 hk1 hz2 hk6 hi6 hRn (by rw [zR6_eq]; exact h)
def zS_1 : ZS := zS_s zu0.1 0 10 99
def zS_2 : ZS := zS_p zS_1 0 0 0 0 5 0
def zS_3 : ZS := zsu zS_2 11 0 0 (zS_2 11 0 0 + 30)
theorem zku1 : zk_s zu0.1 0 0 0 0 0 10 99 = some (zS_1, 1, 0, 0, 0, 0) := by rw [zk_s, if_pos (by decide +kernel)]; rfl
theorem zku2 : zk_p zS_1 1 0 0 0 0 0 0 0 5 0 = some (zS_2, 1, 1, 0, 0, 0) := by rw [zk_p, if_pos (by decide +kernel)]; rfl
theorem zku3 : zk_h zS_2 1 1 0 0 0 0 0 30 = some (zS_3, 1, 1, 0, 1, 0) := by rw [zk_h, if_pos (by decide +kernel)]; rfl
theorem zqu1 : (if (zk_s zu0.1 0 0 0 0 0 10 99).isSome = true then (1 : Int32) else 0) = 1 := by rw [zku1]; rfl
theorem zqu2 : (if (zk_p zS_1 1 0 0 0 0 0 0 0 5 0).isSome = true then (1 : Int32) else 0) = 1 := by rw [zku2]; rfl
theorem zqu3 : (if (zk_h zS_2 1 1 0 0 0 0 0 30).isSome = true then (1 : Int32) else 0) = 1 := by rw [zku3]; rfl
theorem zSr_3 : zSr zS_3 1 1 0 300 800 := by
  have h1 : ztk zu0 115 (fun i => if i = 0 then 10 else 99) = some (zS_1, 1, 0, 0, 0, 0) := zku1
  have h2 : ztk (zS_1, 1, 0, 0, 0, 0) 112 (fun i => if i = 3 then 5 else 0) = some (zS_2, 1, 1, 0, 0, 0) := zku2
  have h3 : ztk (zS_2, 1, 1, 0, 0, 0) 104 (fun i => if i = 2 then 30 else 0) = some (zS_3, 1, 1, 0, 1, 0) := zku3
  have b1 := ztk_ub zub0 h1
  have b2 := ztk_ub b1 h2
  exact zSr_w (ztk_r b2 (ztk_r b1 (ztk_r zub0 zUr_0 h1) h2) h3) (by decide) (by decide)
def zA0 : ZA := fun _ => (0, 0, 0, 0)
def zT0_ : Nat → Nat := fun _ => 0
theorem zPI_0 : zPI zS_3 1 1 0 0 zT0_ 0 zA0 0 0 zA0 0 zA0 := ⟨zSr_3, ⟨by decide, by decide⟩, ⟨by decide, by decide⟩, by decide, by decide, fun _ => Nat.zero_lt_succ _, ⟨by decide, fun i hi => absurd hi (Nat.not_lt_zero i)⟩, by decide, fun q => absurd q (by decide), fun q => absurd q (by decide)⟩
def zL_1 : List (Nat × Nat × Nat) := [(3, 0, 5), (2, 0, 4), (5, 0, 7), (2, 1, 6), (8, 0, 10), (8, 1, 11), (8, 2, 12), (8, 3, 13), (8, 4, 14), (8, 5, 15), (7, 0, 9), (7, 1, 16), (2, 2, 8), (16, 0, 18), (16, 1, 19), (16, 2, 20), (16, 3, 21), (2, 3, 17), (21, 0, 23), (21, 1, 24), (21, 2, 25), (21, 3, 26), (2, 4, 22), (26, 0, 28), (26, 1, 29), (26, 2, 30), (26, 3, 31), (2, 5, 27), (31, 0, 33), (31, 1, 34), (2, 6, 32), (34, 0, 36), (2, 7, 35), (36, 0, 38), (36, 1, 39), (2, 8, 37), (39, 0, 41), (39, 1, 42), (39, 2, 43), (39, 3, 44), (39, 4, 45), (45, 0, 47), (40, 0, 46), (47, 0, 49), (40, 1, 48), (49, 0, 51), (40, 2, 50), (51, 0, 53), (40, 3, 52), (53, 0, 55), (40, 4, 54), (55, 0, 57), (40, 5, 56), (57, 0, 59), (41, 0, 58), (59, 0, 61), (41, 1, 60), (61, 0, 63), (41, 2, 62), (63, 0, 65), (41, 3, 64), (65, 0, 67), (41, 4, 66), (67, 0, 69), (41, 5, 68), (69, 0, 71), (41, 6, 70), (71, 0, 73), (41, 7, 72), (42, 0, 74), (42, 1, 75), (42, 2, 76), (42, 3, 77), (42, 4, 78), (42, 5, 79), (2, 9, 40), (79, 0, 81), (79, 1, 82), (79, 2, 83), (79, 3, 84), (79, 4, 85), (85, 0, 87), (80, 0, 86), (87, 0, 89), (80, 1, 88), (89, 0, 91), (80, 2, 90), (91, 0, 93), (80, 3, 92), (93, 0, 95), (80, 4, 94), (95, 0, 97), (80, 5, 96), (97, 0, 99), (81, 0, 98), (99, 0, 101), (81, 1, 100), (101, 0, 103), (81, 2, 102), (103, 0, 105), (81, 3, 104), (105, 0, 107), (81, 4, 106), (107, 0, 109), (81, 5, 108), (109, 0, 111), (81, 6, 110), (111, 0, 113), (81, 7, 112), (82, 0, 114), (82, 1, 115), (82, 2, 116), (82, 3, 117), (82, 4, 118), (82, 5, 119), (2, 10, 80)]
def zR_1 : ZMr := zRL zL_1 zR00
theorem zR1_i : zRi zR_1 119 := zRi_L (m := 0) (zRi_0 0) (Nat.zero_le _) (by decide +kernel)
theorem zR1_c : ∀ a, a < 119 → ∀ k, k < 12 → zR_1 a k = zR0 a k := by decide +kernel
theorem zR1_e {a : Nat} (ha : a < 119) (k : Nat) : zR_1 a k = zR0 a k := by
  rcases Nat.lt_or_ge k 12 with h | h
  · exact zR1_c a ha k h
  · rw [zR0_z (by omega) (by rw [if_neg (by omega)]; exact h)]
    exact zRL_hi (fun _ _ _ => rfl) (by decide +kernel) a k h
theorem zR1_a : zRa zR_1 := ⟨fun a h1 h2 k => zR1_e h2 k, fun k hk => zR1_e (by decide) k⟩
theorem zR1_9 : zR_1 2 9 = 39 + 1 := zR1_e (by decide) 9
theorem zR1_10 : zR_1 2 10 = 79 + 1 := zR1_e (by decide) 10
theorem zK1_k {N n : Nat} (hn : 117 ≤ n) : zKa (zKr N n) := ⟨fun a h1 h2 => by
  rw [zKr_lt (by omega)]
  unfold zKg
  rw [if_neg (by omega), if_neg (by omega), if_pos (by omega)], zKr_1 N n⟩
theorem zK1_a {N : Nat} : zKa (zKr N 117) := zK1_k (Nat.le_refl _)
theorem zgm_HummingSet_1 : Cond.methodLink "HummingSet" 1 Lib.objectInit ∈ zWS := zmW 21 (by decide +kernel) rfl
theorem zgl_HummingSet_7 : Cond.classLink "HummingSet" (7 : Nat) "HummingSet$Text" ∈ zWS := zmW 24 (by decide +kernel) rfl
theorem zgn_8 : Cond.instantiable "HummingSet$Text" (2 : Nat) ∈ zWS := zmW 25 (by decide +kernel) rfl
theorem zgj_8 : Cond.initialized "HummingSet$Text" ∈ zWS := zmW 2 (by decide +kernel) rfl
theorem zgd_8 : ∀ j, j < zN 8 → defaultValue (zF8 j) = zdf0 (zty 8 j) := by decide +kernel
theorem zgm_HummingSet_9 : zmm "HummingSet" 9 zy39 := Or.inr ⟨"HummingSet", zmN 26 (by decide +kernel) rfl⟩
theorem zgc39 : zcal 39 0 := ⟨by decide +kernel, zcw39, by decide +kernel, by decide +kernel, zmW (w := Cond.initialized "HummingSet$Text") 2 (by decide +kernel) rfl⟩
theorem zgi39 : Cond.instanceMethod (zy 39) ∈ zWS := zmW (w := Cond.instanceMethod zy39) 27 (by decide +kernel) rfl
theorem zgf_HummingSet_10 : Cond.fieldLink "HummingSet" 10 "HummingSet" "text" "LHummingSet$Text;" ∈ zWS := zmW 404 (by decide +kernel) rfl
theorem zgl_HummingSet_16 : Cond.classLink "HummingSet" (16 : Nat) "HummingSet$Reader" ∈ zWS := zmW 40 (by decide +kernel) rfl
theorem zgn_5 : Cond.instantiable "HummingSet$Reader" (2 : Nat) ∈ zWS := zmW 41 (by decide +kernel) rfl
theorem zgj_5 : Cond.initialized "HummingSet$Reader" ∈ zWS := zmW 3 (by decide +kernel) rfl
theorem zgd_5 : ∀ j, j < zN 5 → defaultValue (zF5 j) = zdf0 (zty 5 j) := by decide +kernel
theorem zgm_HummingSet_18 : zmm "HummingSet" 18 zy27 := Or.inr ⟨"HummingSet", zmN 42 (by decide +kernel) rfl⟩
theorem zgc27 : zcal 27 0 := ⟨by decide +kernel, zcw27, by decide +kernel, by decide +kernel, zmW (w := Cond.initialized "HummingSet$Reader") 3 (by decide +kernel) rfl⟩
theorem zgi27 : Cond.instanceMethod (zy 27) ∈ zWS := zmW (w := Cond.instanceMethod zy27) 43 (by decide +kernel) rfl
theorem zgf_HummingSet_19 : Cond.fieldLink "HummingSet" 19 "HummingSet" "reader" "LHummingSet$Reader;" ∈ zWS := zmW 405 (by decide +kernel) rfl
theorem zgl_HummingSet_23 : Cond.classLink "HummingSet" (23 : Nat) "HummingSet$Bench" ∈ zWS := zmW 54 (by decide +kernel) rfl
theorem zgn_1 : Cond.instantiable "HummingSet$Bench" (2 : Nat) ∈ zWS := zmW 55 (by decide +kernel) rfl
theorem zgj_1 : Cond.initialized "HummingSet$Bench" ∈ zWS := zmW 4 (by decide +kernel) rfl
theorem zgd_1 : ∀ j, j < zN 1 → defaultValue (zF1 j) = zdf0 (zty 1 j) := by decide +kernel
theorem zgm_HummingSet_25 : zmm "HummingSet" 25 zy3 := Or.inr ⟨"HummingSet", zmN 56 (by decide +kernel) rfl⟩
theorem zgc3 : zcal 3 0 := ⟨by decide +kernel, zcw3, by decide +kernel, by decide +kernel, zmW (w := Cond.initialized "HummingSet$Bench") 4 (by decide +kernel) rfl⟩
theorem zgi3 : Cond.instanceMethod (zy 3) ∈ zWS := zmW (w := Cond.instanceMethod zy3) 57 (by decide +kernel) rfl
theorem zgf_HummingSet_26 : Cond.fieldLink "HummingSet" 26 "HummingSet" "bench" "LHummingSet$Bench;" ∈ zWS := zmW 406 (by decide +kernel) rfl
theorem zgl_HummingSet_30 : Cond.classLink "HummingSet" (30 : Nat) "HummingSet$Answers" ∈ zWS := zmW 71 (by decide +kernel) rfl
theorem zgn_0 : Cond.instantiable "HummingSet$Answers" (5 : Nat) ∈ zWS := zmW 72 (by decide +kernel) rfl
theorem zgj_0 : Cond.initialized "HummingSet$Answers" ∈ zWS := zmW 5 (by decide +kernel) rfl
theorem zgd_0 : ∀ j, j < zN 0 → defaultValue (zF0 j) = zdf0 (zty 0 j) := by decide +kernel
theorem zgm_HummingSet_32 : zmm "HummingSet" 32 zy0 := Or.inr ⟨"HummingSet", zmN 73 (by decide +kernel) rfl⟩
theorem zgc0 : zcal 0 0 := ⟨by decide +kernel, zcw0, by decide +kernel, by decide +kernel, zmW (w := Cond.initialized "HummingSet$Answers") 5 (by decide +kernel) rfl⟩
theorem zgi0 : Cond.instanceMethod (zy 0) ∈ zWS := zmW (w := Cond.instanceMethod zy0) 74 (by decide +kernel) rfl
theorem zgf_HummingSet_33 : Cond.fieldLink "HummingSet" 33 "HummingSet" "answers" "LHummingSet$Answers;" ∈ zWS := zmW 407 (by decide +kernel) rfl
theorem zgf_HummingSet_37 : Cond.fieldLink "HummingSet" 37 "HummingSet" "firstKept" "LHummingSet$Answers;" ∈ zWS := zmW 408 (by decide +kernel) rfl
theorem zgf_HummingSet_40 : Cond.fieldLink "HummingSet" 40 "HummingSet" "secondKept" "LHummingSet$Answers;" ∈ zWS := zmW 409 (by decide +kernel) rfl
theorem zgl_HummingSet_43 : Cond.classLink "HummingSet" (43 : Nat) "HummingSet$Cases" ∈ zWS := zmW 99 (by decide +kernel) rfl
theorem zgn_2 : Cond.instantiable "HummingSet$Cases" (4 : Nat) ∈ zWS := zmW 100 (by decide +kernel) rfl
theorem zgj_2 : Cond.initialized "HummingSet$Cases" ∈ zWS := zmW 6 (by decide +kernel) rfl
theorem zgd_2 : ∀ j, j < zN 2 → defaultValue (zF2 j) = zdf0 (zty 2 j) := by decide +kernel
theorem zgm_HummingSet_45 : zmm "HummingSet" 45 zy11 := Or.inr ⟨"HummingSet", zmN 101 (by decide +kernel) rfl⟩
theorem zgc11 : zcal 11 0 := ⟨by decide +kernel, zcw11, by decide +kernel, by decide +kernel, zmW (w := Cond.initialized "HummingSet$Cases") 6 (by decide +kernel) rfl⟩
theorem zgi11 : Cond.instanceMethod (zy 11) ∈ zWS := zmW (w := Cond.instanceMethod zy11) 102 (by decide +kernel) rfl
theorem zgf_HummingSet_46 : Cond.fieldLink "HummingSet" 46 "HummingSet" "cases" "LHummingSet$Cases;" ∈ zWS := zmW 410 (by decide +kernel) rfl
theorem zgl_HummingSet_50 : Cond.classLink "HummingSet" (50 : Nat) "HummingSet$Search" ∈ zWS := zmW 128 (by decide +kernel) rfl
theorem zgn_6 : Cond.instantiable "HummingSet$Search" (5 : Nat) ∈ zWS := zmW 129 (by decide +kernel) rfl
theorem zgj_6 : Cond.initialized "HummingSet$Search" ∈ zWS := zmW 7 (by decide +kernel) rfl
theorem zgd_6 : ∀ j, j < zN 6 → defaultValue (zF6 j) = zdf0 (zty 6 j) := by decide +kernel
theorem zgm_HummingSet_52 : zmm "HummingSet" 52 zy33 := Or.inr ⟨"HummingSet", zmN 130 (by decide +kernel) rfl⟩
theorem zgc33 : zcal 33 0 := ⟨by decide +kernel, zcw33, by decide +kernel, by decide +kernel, zmW (w := Cond.initialized "HummingSet$Search") 7 (by decide +kernel) rfl⟩
theorem zgi33 : Cond.instanceMethod (zy 33) ∈ zWS := zmW (w := Cond.instanceMethod zy33) 131 (by decide +kernel) rfl
theorem zgf_HummingSet_53 : Cond.fieldLink "HummingSet" 53 "HummingSet" "search" "LHummingSet$Search;" ∈ zWS := zmW 411 (by decide +kernel) rfl
theorem zgl_HummingSet_57 : Cond.classLink "HummingSet" (57 : Nat) "HummingSet$Plan" ∈ zWS := zmW 153 (by decide +kernel) rfl
theorem zgn_4 : Cond.instantiable "HummingSet$Plan" (3 : Nat) ∈ zWS := zmW 154 (by decide +kernel) rfl
theorem zgj_4 : Cond.initialized "HummingSet$Plan" ∈ zWS := zmW 8 (by decide +kernel) rfl
theorem zgd_4 : ∀ j, j < zN 4 → defaultValue (zF4 j) = zdf0 (zty 4 j) := by decide +kernel
theorem zgm_HummingSet_59 : zmm "HummingSet" 59 zy21 := Or.inr ⟨"HummingSet", zmN 155 (by decide +kernel) rfl⟩
theorem zgc21 : zcal 21 0 := ⟨by decide +kernel, zcw21, by decide +kernel, by decide +kernel, zmW (w := Cond.initialized "HummingSet$Plan") 8 (by decide +kernel) rfl⟩
theorem zgi21 : Cond.instanceMethod (zy 21) ∈ zWS := zmW (w := Cond.instanceMethod zy21) 156 (by decide +kernel) rfl
theorem zgf_HummingSet_60 : Cond.fieldLink "HummingSet" 60 "HummingSet" "plan" "LHummingSet$Plan;" ∈ zWS := zmW 412 (by decide +kernel) rfl
theorem zgl_HummingSet_64 : Cond.classLink "HummingSet" (64 : Nat) "HummingSet$Wireless" ∈ zWS := zmW 172 (by decide +kernel) rfl
theorem zgn_10 : Cond.instantiable "HummingSet$Wireless" (10 : Nat) ∈ zWS := zmW 173 (by decide +kernel) rfl
theorem zgj_10 : Cond.initialized "HummingSet$Wireless" ∈ zWS := zmW 9 (by decide +kernel) rfl
theorem zgd_10 : ∀ j, j < zN 10 → defaultValue (zF10 j) = zdf0 (zty 10 j) := by decide +kernel
theorem zgm_HummingSet_66 : zmm "HummingSet" 66 zy44 := Or.inr ⟨"HummingSet", zmN 174 (by decide +kernel) rfl⟩
theorem zgc44 : zcal 44 0 := ⟨by decide +kernel, zcw44, by decide +kernel, by decide +kernel, zmW (w := Cond.initialized "HummingSet$Wireless") 9 (by decide +kernel) rfl⟩
theorem zgi44 : Cond.instanceMethod (zy 44) ∈ zWS := zmW (w := Cond.instanceMethod zy44) 175 (by decide +kernel) rfl
theorem zgf_HummingSet_67 : Cond.fieldLink "HummingSet" 67 "HummingSet" "laid" "LHummingSet$Wireless;" ∈ zWS := zmW 413 (by decide +kernel) rfl
theorem zgf_HummingSet_71 : Cond.fieldLink "HummingSet" 71 "HummingSet" "spare" "LHummingSet$Wireless;" ∈ zWS := zmW 414 (by decide +kernel) rfl
theorem zgm_HummingSet_74 : zmm "HummingSet" 74 zy51 := Or.inr ⟨"HummingSet", zmN 309 (by decide +kernel) rfl⟩
theorem zgm_HummingSet_78 : zmm "HummingSet" 78 zy52 := Or.inr ⟨"HummingSet", zmN 316 (by decide +kernel) rfl⟩
theorem zgm_HummingSet_82 : zmm "HummingSet" 82 zy53 := Or.inr ⟨"HummingSet", zmN 324 (by decide +kernel) rfl⟩
theorem zgm_HummingSet_86 : zmm "HummingSet" 86 zy22 := Or.inr ⟨"HummingSet", zmN 336 (by decide +kernel) rfl⟩
theorem zgm_HummingSet_90 : zmm "HummingSet" 90 zy98 := Or.inl (zmW 366 (by decide +kernel) rfl)
theorem zgm_HummingSetModel_1 : Cond.methodLink "HummingSetModel" 1 Lib.objectInit ∈ zWS := zmW 766 (by decide +kernel) rfl
theorem zgf_HummingSetModel_7 : Cond.fieldLink "HummingSetModel" 7 "HummingSetModel" "text" "[I" ∈ zWS := zmW 776 (by decide +kernel) rfl
theorem zgf_HummingSetModel_13 : Cond.fieldLink "HummingSetModel" 13 "HummingSetModel" "stageMany" "[I" ∈ zWS := zmW 777 (by decide +kernel) rfl
theorem zgf_HummingSetModel_16 : Cond.fieldLink "HummingSetModel" 16 "HummingSetModel" "gains" "[I" ∈ zWS := zmW 778 (by decide +kernel) rfl
theorem zgf_HummingSetModel_19 : Cond.fieldLink "HummingSetModel" 19 "HummingSetModel" "bears" "[I" ∈ zWS := zmW 779 (by decide +kernel) rfl
theorem zgf_HummingSetModel_22 : Cond.fieldLink "HummingSetModel" 22 "HummingSetModel" "partMany" "[I" ∈ zWS := zmW 780 (by decide +kernel) rfl
theorem zgf_HummingSetModel_25 : Cond.fieldLink "HummingSetModel" 25 "HummingSetModel" "stageOf" "[I" ∈ zWS := zmW 781 (by decide +kernel) rfl
theorem zgf_HummingSetModel_28 : Cond.fieldLink "HummingSetModel" 28 "HummingSetModel" "kinds" "[I" ∈ zWS := zmW 782 (by decide +kernel) rfl
theorem zgf_HummingSetModel_31 : Cond.fieldLink "HummingSetModel" 31 "HummingSetModel" "ages" "[I" ∈ zWS := zmW 783 (by decide +kernel) rfl
theorem zgf_HummingSetModel_34 : Cond.fieldLink "HummingSetModel" 34 "HummingSetModel" "chances" "[I" ∈ zWS := zmW 784 (by decide +kernel) rfl
theorem zgf_HummingSetModel_37 : Cond.fieldLink "HummingSetModel" 37 "HummingSetModel" "warms" "[I" ∈ zWS := zmW 785 (by decide +kernel) rfl
theorem zgf_HummingSetModel_40 : Cond.fieldLink "HummingSetModel" 40 "HummingSetModel" "costs" "[I" ∈ zWS := zmW 786 (by decide +kernel) rfl
theorem zgf_HummingSetModel_43 : Cond.fieldLink "HummingSetModel" 43 "HummingSetModel" "volts0" "[I" ∈ zWS := zmW 787 (by decide +kernel) rfl
theorem zgf_HummingSetModel_46 : Cond.fieldLink "HummingSetModel" 46 "HummingSetModel" "losses" "[I" ∈ zWS := zmW 788 (by decide +kernel) rfl
theorem zgf_HummingSetModel_49 : Cond.fieldLink "HummingSetModel" 49 "HummingSetModel" "letsMany" "[I" ∈ zWS := zmW 789 (by decide +kernel) rfl
theorem zgf_HummingSetModel_52 : Cond.fieldLink "HummingSetModel" 52 "HummingSetModel" "lets" "[I" ∈ zWS := zmW 790 (by decide +kernel) rfl
theorem zgf_HummingSetModel_55 : Cond.fieldLink "HummingSetModel" 55 "HummingSetModel" "comesMany" "[I" ∈ zWS := zmW 791 (by decide +kernel) rfl
theorem zgf_HummingSetModel_58 : Cond.fieldLink "HummingSetModel" 58 "HummingSetModel" "comes" "[I" ∈ zWS := zmW 792 (by decide +kernel) rfl
theorem zgf_HummingSetModel_61 : Cond.fieldLink "HummingSetModel" 61 "HummingSetModel" "wayMany" "[I" ∈ zWS := zmW 793 (by decide +kernel) rfl
theorem zgf_HummingSetModel_64 : Cond.fieldLink "HummingSetModel" 64 "HummingSetModel" "wayStage" "[I" ∈ zWS := zmW 794 (by decide +kernel) rfl
theorem zgf_HummingSetModel_67 : Cond.fieldLink "HummingSetModel" 67 "HummingSetModel" "wayTone" "[I" ∈ zWS := zmW 795 (by decide +kernel) rfl
theorem zgf_HummingSetModel_70 : Cond.fieldLink "HummingSetModel" 70 "HummingSetModel" "wayBack" "[I" ∈ zWS := zmW 796 (by decide +kernel) rfl
theorem zgf_HummingSetModel_73 : Cond.fieldLink "HummingSetModel" 73 "HummingSetModel" "ears" "[I" ∈ zWS := zmW 797 (by decide +kernel) rfl
theorem zgf_HummingSetModel_76 : Cond.fieldLink "HummingSetModel" 76 "HummingSetModel" "rates" "[I" ∈ zWS := zmW 798 (by decide +kernel) rfl
theorem zgf_HummingSetModel_79 : Cond.fieldLink "HummingSetModel" 79 "HummingSetModel" "answerMany" "[I" ∈ zWS := zmW 799 (by decide +kernel) rfl
theorem zgf_HummingSetModel_82 : Cond.fieldLink "HummingSetModel" 82 "HummingSetModel" "askKind" "[I" ∈ zWS := zmW 800 (by decide +kernel) rfl
theorem zgf_HummingSetModel_85 : Cond.fieldLink "HummingSetModel" 85 "HummingSetModel" "askOf" "[I" ∈ zWS := zmW 801 (by decide +kernel) rfl
theorem zgf_HummingSetModel_88 : Cond.fieldLink "HummingSetModel" 88 "HummingSetModel" "askAt" "[I" ∈ zWS := zmW 802 (by decide +kernel) rfl
theorem zgf_HummingSetModel_91 : Cond.fieldLink "HummingSetModel" 91 "HummingSetModel" "answers" "[I" ∈ zWS := zmW 803 (by decide +kernel) rfl
theorem zgf_HummingSetModel_94 : Cond.fieldLink "HummingSetModel" 94 "HummingSetModel" "told" "[I" ∈ zWS := zmW 806 (by decide +kernel) rfl
theorem zgf_HummingSetModel_97 : Cond.fieldLink "HummingSetModel" 97 "HummingSetModel" "states" "[I" ∈ zWS := zmW 808 (by decide +kernel) rfl
theorem zgf_HummingSetModel_100 : Cond.fieldLink "HummingSetModel" 100 "HummingSetModel" "weights" "[J" ∈ zWS := zmW 809 (by decide +kernel) rfl
theorem zgf_HummingSetModel_104 : Cond.fieldLink "HummingSetModel" 104 "HummingSetModel" "byAnswer" "[J" ∈ zWS := zmW 810 (by decide +kernel) rfl
theorem zgf_HummingSetModel_107 : Cond.fieldLink "HummingSetModel" 107 "HummingSetModel" "least" "[J" ∈ zWS := zmW 811 (by decide +kernel) rfl
theorem zgf_HummingSetModel_110 : Cond.fieldLink "HummingSetModel" 110 "HummingSetModel" "nexts" "[I" ∈ zWS := zmW 812 (by decide +kernel) rfl
theorem zgm_HummingSetModel_113 : zmm "HummingSetModel" 113 zy109 := Or.inl (zmW 767 (by decide +kernel) rfl)
theorem zgm_HummingSetModel_117 : zmm "HummingSetModel" 117 zy108 := Or.inl (zmW 771 (by decide +kernel) rfl)
theorem dg69_0 : decode (zb 69) 0 = .ok (.aload_n 0, 1) := by decide +kernel
theorem dg69_1 : decode (zb 69) 1 = .ok (.invokespecial 1, 3) := by decide +kernel
theorem dg69_4 : decode (zb 69) 4 = .ok (.aload_n 0, 1) := by decide +kernel
theorem dg69_5 : decode (zb 69) 5 = .ok (.new 7, 3) := by decide +kernel
theorem dg69_8 : decode (zb 69) 8 = .ok (.dup, 1) := by decide +kernel
theorem dg69_9 : decode (zb 69) 9 = .ok (.invokespecial 9, 3) := by decide +kernel
theorem dg69_12 : decode (zb 69) 12 = .ok (.putfield 10, 3) := by decide +kernel
theorem dg69_15 : decode (zb 69) 15 = .ok (.aload_n 0, 1) := by decide +kernel
theorem dg69_16 : decode (zb 69) 16 = .ok (.new 16, 3) := by decide +kernel
theorem dg69_19 : decode (zb 69) 19 = .ok (.dup, 1) := by decide +kernel
theorem dg69_20 : decode (zb 69) 20 = .ok (.invokespecial 18, 3) := by decide +kernel
theorem dg69_23 : decode (zb 69) 23 = .ok (.putfield 19, 3) := by decide +kernel
theorem dg69_26 : decode (zb 69) 26 = .ok (.aload_n 0, 1) := by decide +kernel
theorem dg69_27 : decode (zb 69) 27 = .ok (.new 23, 3) := by decide +kernel
theorem dg69_30 : decode (zb 69) 30 = .ok (.dup, 1) := by decide +kernel
theorem dg69_31 : decode (zb 69) 31 = .ok (.invokespecial 25, 3) := by decide +kernel
theorem dg69_34 : decode (zb 69) 34 = .ok (.putfield 26, 3) := by decide +kernel
theorem dg69_37 : decode (zb 69) 37 = .ok (.aload_n 0, 1) := by decide +kernel
theorem dg69_38 : decode (zb 69) 38 = .ok (.new 30, 3) := by decide +kernel
theorem dg69_41 : decode (zb 69) 41 = .ok (.dup, 1) := by decide +kernel
theorem dg69_42 : decode (zb 69) 42 = .ok (.invokespecial 32, 3) := by decide +kernel
theorem dg69_45 : decode (zb 69) 45 = .ok (.putfield 33, 3) := by decide +kernel
theorem dg69_48 : decode (zb 69) 48 = .ok (.aload_n 0, 1) := by decide +kernel
theorem dg69_49 : decode (zb 69) 49 = .ok (.new 30, 3) := by decide +kernel
theorem dg69_52 : decode (zb 69) 52 = .ok (.dup, 1) := by decide +kernel
theorem dg69_53 : decode (zb 69) 53 = .ok (.invokespecial 32, 3) := by decide +kernel
theorem dg69_56 : decode (zb 69) 56 = .ok (.putfield 37, 3) := by decide +kernel
theorem dg69_59 : decode (zb 69) 59 = .ok (.aload_n 0, 1) := by decide +kernel
theorem dg69_60 : decode (zb 69) 60 = .ok (.new 30, 3) := by decide +kernel
theorem dg69_63 : decode (zb 69) 63 = .ok (.dup, 1) := by decide +kernel
theorem dg69_64 : decode (zb 69) 64 = .ok (.invokespecial 32, 3) := by decide +kernel
theorem dg69_67 : decode (zb 69) 67 = .ok (.putfield 40, 3) := by decide +kernel
theorem dg69_70 : decode (zb 69) 70 = .ok (.aload_n 0, 1) := by decide +kernel
theorem dg69_71 : decode (zb 69) 71 = .ok (.new 43, 3) := by decide +kernel
theorem dg69_74 : decode (zb 69) 74 = .ok (.dup, 1) := by decide +kernel
theorem dg69_75 : decode (zb 69) 75 = .ok (.invokespecial 45, 3) := by decide +kernel
theorem dg69_78 : decode (zb 69) 78 = .ok (.putfield 46, 3) := by decide +kernel
theorem dg69_81 : decode (zb 69) 81 = .ok (.aload_n 0, 1) := by decide +kernel
theorem dg69_82 : decode (zb 69) 82 = .ok (.new 50, 3) := by decide +kernel
theorem dg69_85 : decode (zb 69) 85 = .ok (.dup, 1) := by decide +kernel
theorem dg69_86 : decode (zb 69) 86 = .ok (.invokespecial 52, 3) := by decide +kernel
theorem dg69_89 : decode (zb 69) 89 = .ok (.putfield 53, 3) := by decide +kernel
theorem dg69_92 : decode (zb 69) 92 = .ok (.aload_n 0, 1) := by decide +kernel
theorem dg69_93 : decode (zb 69) 93 = .ok (.new 57, 3) := by decide +kernel
theorem dg69_96 : decode (zb 69) 96 = .ok (.dup, 1) := by decide +kernel
theorem dg69_97 : decode (zb 69) 97 = .ok (.invokespecial 59, 3) := by decide +kernel
theorem dg69_100 : decode (zb 69) 100 = .ok (.putfield 60, 3) := by decide +kernel
theorem dg69_103 : decode (zb 69) 103 = .ok (.aload_n 0, 1) := by decide +kernel
theorem dg69_104 : decode (zb 69) 104 = .ok (.new 64, 3) := by decide +kernel
theorem dg69_107 : decode (zb 69) 107 = .ok (.dup, 1) := by decide +kernel
theorem dg69_108 : decode (zb 69) 108 = .ok (.invokespecial 66, 3) := by decide +kernel
theorem dg69_111 : decode (zb 69) 111 = .ok (.putfield 67, 3) := by decide +kernel
theorem dg69_114 : decode (zb 69) 114 = .ok (.aload_n 0, 1) := by decide +kernel
theorem dg69_115 : decode (zb 69) 115 = .ok (.new 64, 3) := by decide +kernel
theorem dg69_118 : decode (zb 69) 118 = .ok (.dup, 1) := by decide +kernel
theorem dg69_119 : decode (zb 69) 119 = .ok (.invokespecial 66, 3) := by decide +kernel
theorem dg69_122 : decode (zb 69) 122 = .ok (.putfield 71, 3) := by decide +kernel
theorem dg69_125 : decode (zb 69) 125 = .ok (.aload_n 0, 1) := by decide +kernel
theorem dg69_126 : decode (zb 69) 126 = .ok (.getfield 67, 3) := by decide +kernel
theorem dg69_129 : decode (zb 69) 129 = .ok (.bipush 10, 2) := by decide +kernel
theorem dg69_131 : decode (zb 69) 131 = .ok (.bipush 99, 2) := by decide +kernel
theorem dg69_133 : decode (zb 69) 133 = .ok (.invokevirtual 74, 3) := by decide +kernel
theorem dg69_136 : decode (zb 69) 136 = .ok (.pop, 1) := by decide +kernel
theorem dg69_137 : decode (zb 69) 137 = .ok (.aload_n 0, 1) := by decide +kernel
theorem dg69_138 : decode (zb 69) 138 = .ok (.getfield 67, 3) := by decide +kernel
theorem dg69_141 : decode (zb 69) 141 = .ok (.iconst 0, 1) := by decide +kernel
theorem dg69_142 : decode (zb 69) 142 = .ok (.iconst 0, 1) := by decide +kernel
theorem dg69_143 : decode (zb 69) 143 = .ok (.iconst 0, 1) := by decide +kernel
theorem dg69_144 : decode (zb 69) 144 = .ok (.iconst 5, 1) := by decide +kernel
theorem dg69_145 : decode (zb 69) 145 = .ok (.iconst 0, 1) := by decide +kernel
theorem dg69_146 : decode (zb 69) 146 = .ok (.invokevirtual 78, 3) := by decide +kernel
theorem dg69_149 : decode (zb 69) 149 = .ok (.pop, 1) := by decide +kernel
theorem dg69_150 : decode (zb 69) 150 = .ok (.aload_n 0, 1) := by decide +kernel
theorem dg69_151 : decode (zb 69) 151 = .ok (.getfield 67, 3) := by decide +kernel
theorem dg69_154 : decode (zb 69) 154 = .ok (.iconst 0, 1) := by decide +kernel
theorem dg69_155 : decode (zb 69) 155 = .ok (.iconst 0, 1) := by decide +kernel
theorem dg69_156 : decode (zb 69) 156 = .ok (.bipush 30, 2) := by decide +kernel
theorem dg69_158 : decode (zb 69) 158 = .ok (.invokevirtual 82, 3) := by decide +kernel
theorem dg69_161 : decode (zb 69) 161 = .ok (.pop, 1) := by decide +kernel
theorem dg69_162 : decode (zb 69) 162 = .ok (.aload_n 0, 1) := by decide +kernel
theorem dg69_163 : decode (zb 69) 163 = .ok (.getfield 60, 3) := by decide +kernel
theorem dg69_166 : decode (zb 69) 166 = .ok (.aload_n 0, 1) := by decide +kernel
theorem dg69_167 : decode (zb 69) 167 = .ok (.getfield 67, 3) := by decide +kernel
theorem dg69_170 : decode (zb 69) 170 = .ok (.aload_n 0, 1) := by decide +kernel
theorem dg69_171 : decode (zb 69) 171 = .ok (.getfield 26, 3) := by decide +kernel
theorem dg69_174 : decode (zb 69) 174 = .ok (.invokevirtual 86, 3) := by decide +kernel
theorem dg69_177 : decode (zb 69) 177 = .ok (.aload_n 0, 1) := by decide +kernel
theorem dg69_178 : decode (zb 69) 178 = .ok (.invokevirtual 90, 3) := by decide +kernel
theorem dg69_181 : decode (zb 69) 181 = .ok (.return_, 1) := by decide +kernel
theorem dg104_0 : decode (zb 104) 0 = .ok (.aload_n 0, 1) := by decide +kernel
theorem dg104_1 : decode (zb 104) 1 = .ok (.invokespecial 1, 3) := by decide +kernel
theorem dg104_4 : decode (zb 104) 4 = .ok (.aload_n 0, 1) := by decide +kernel
theorem dg104_5 : decode (zb 104) 5 = .ok (.sipush 400, 3) := by decide +kernel
theorem dg104_8 : decode (zb 104) 8 = .ok (.newarray .int, 2) := by decide +kernel
theorem dg104_10 : decode (zb 104) 10 = .ok (.putfield 7, 3) := by decide +kernel
theorem dg104_13 : decode (zb 104) 13 = .ok (.aload_n 0, 1) := by decide +kernel
theorem dg104_14 : decode (zb 104) 14 = .ok (.iconst 2, 1) := by decide +kernel
theorem dg104_15 : decode (zb 104) 15 = .ok (.newarray .int, 2) := by decide +kernel
theorem dg104_17 : decode (zb 104) 17 = .ok (.putfield 13, 3) := by decide +kernel
theorem dg104_20 : decode (zb 104) 20 = .ok (.aload_n 0, 1) := by decide +kernel
theorem dg104_21 : decode (zb 104) 21 = .ok (.bipush 12, 2) := by decide +kernel
theorem dg104_23 : decode (zb 104) 23 = .ok (.newarray .int, 2) := by decide +kernel
theorem dg104_25 : decode (zb 104) 25 = .ok (.putfield 16, 3) := by decide +kernel
theorem dg104_28 : decode (zb 104) 28 = .ok (.aload_n 0, 1) := by decide +kernel
theorem dg104_29 : decode (zb 104) 29 = .ok (.bipush 12, 2) := by decide +kernel
theorem dg104_31 : decode (zb 104) 31 = .ok (.newarray .int, 2) := by decide +kernel
theorem dg104_33 : decode (zb 104) 33 = .ok (.putfield 19, 3) := by decide +kernel
theorem dg104_36 : decode (zb 104) 36 = .ok (.aload_n 0, 1) := by decide +kernel
theorem dg104_37 : decode (zb 104) 37 = .ok (.iconst 2, 1) := by decide +kernel
theorem dg104_38 : decode (zb 104) 38 = .ok (.newarray .int, 2) := by decide +kernel
theorem dg104_40 : decode (zb 104) 40 = .ok (.putfield 22, 3) := by decide +kernel
theorem dg104_43 : decode (zb 104) 43 = .ok (.aload_n 0, 1) := by decide +kernel
theorem dg104_44 : decode (zb 104) 44 = .ok (.bipush 16, 2) := by decide +kernel
theorem dg104_46 : decode (zb 104) 46 = .ok (.newarray .int, 2) := by decide +kernel
theorem dg104_48 : decode (zb 104) 48 = .ok (.putfield 25, 3) := by decide +kernel
theorem dg104_51 : decode (zb 104) 51 = .ok (.aload_n 0, 1) := by decide +kernel
theorem dg104_52 : decode (zb 104) 52 = .ok (.bipush 16, 2) := by decide +kernel
theorem dg104_54 : decode (zb 104) 54 = .ok (.newarray .int, 2) := by decide +kernel
theorem dg104_56 : decode (zb 104) 56 = .ok (.putfield 28, 3) := by decide +kernel
theorem dg104_59 : decode (zb 104) 59 = .ok (.aload_n 0, 1) := by decide +kernel
theorem dg104_60 : decode (zb 104) 60 = .ok (.bipush 16, 2) := by decide +kernel
theorem dg104_62 : decode (zb 104) 62 = .ok (.newarray .int, 2) := by decide +kernel
theorem dg104_64 : decode (zb 104) 64 = .ok (.putfield 31, 3) := by decide +kernel
theorem dg104_67 : decode (zb 104) 67 = .ok (.aload_n 0, 1) := by decide +kernel
theorem dg104_68 : decode (zb 104) 68 = .ok (.bipush 16, 2) := by decide +kernel
theorem dg104_70 : decode (zb 104) 70 = .ok (.newarray .int, 2) := by decide +kernel
theorem dg104_72 : decode (zb 104) 72 = .ok (.putfield 34, 3) := by decide +kernel
theorem dg104_75 : decode (zb 104) 75 = .ok (.aload_n 0, 1) := by decide +kernel
theorem dg104_76 : decode (zb 104) 76 = .ok (.bipush 16, 2) := by decide +kernel
theorem dg104_78 : decode (zb 104) 78 = .ok (.newarray .int, 2) := by decide +kernel
theorem dg104_80 : decode (zb 104) 80 = .ok (.putfield 37, 3) := by decide +kernel
theorem dg104_83 : decode (zb 104) 83 = .ok (.aload_n 0, 1) := by decide +kernel
theorem dg104_84 : decode (zb 104) 84 = .ok (.bipush 16, 2) := by decide +kernel
theorem dg104_86 : decode (zb 104) 86 = .ok (.newarray .int, 2) := by decide +kernel
theorem dg104_88 : decode (zb 104) 88 = .ok (.putfield 40, 3) := by decide +kernel
theorem dg104_91 : decode (zb 104) 91 = .ok (.aload_n 0, 1) := by decide +kernel
theorem dg104_92 : decode (zb 104) 92 = .ok (.bipush 16, 2) := by decide +kernel
theorem dg104_94 : decode (zb 104) 94 = .ok (.newarray .int, 2) := by decide +kernel
theorem dg104_96 : decode (zb 104) 96 = .ok (.putfield 43, 3) := by decide +kernel
theorem dg104_99 : decode (zb 104) 99 = .ok (.aload_n 0, 1) := by decide +kernel
theorem dg104_100 : decode (zb 104) 100 = .ok (.bipush 16, 2) := by decide +kernel
theorem dg104_102 : decode (zb 104) 102 = .ok (.newarray .int, 2) := by decide +kernel
theorem dg104_104 : decode (zb 104) 104 = .ok (.putfield 46, 3) := by decide +kernel
theorem dg104_107 : decode (zb 104) 107 = .ok (.aload_n 0, 1) := by decide +kernel
theorem dg104_108 : decode (zb 104) 108 = .ok (.iconst 2, 1) := by decide +kernel
theorem dg104_109 : decode (zb 104) 109 = .ok (.newarray .int, 2) := by decide +kernel
theorem dg104_111 : decode (zb 104) 111 = .ok (.putfield 49, 3) := by decide +kernel
theorem dg104_114 : decode (zb 104) 114 = .ok (.aload_n 0, 1) := by decide +kernel
theorem dg104_115 : decode (zb 104) 115 = .ok (.bipush 48, 2) := by decide +kernel
theorem dg104_117 : decode (zb 104) 117 = .ok (.newarray .int, 2) := by decide +kernel
theorem dg104_119 : decode (zb 104) 119 = .ok (.putfield 52, 3) := by decide +kernel
theorem dg104_122 : decode (zb 104) 122 = .ok (.aload_n 0, 1) := by decide +kernel
theorem dg104_123 : decode (zb 104) 123 = .ok (.iconst 2, 1) := by decide +kernel
theorem dg104_124 : decode (zb 104) 124 = .ok (.newarray .int, 2) := by decide +kernel
theorem dg104_126 : decode (zb 104) 126 = .ok (.putfield 55, 3) := by decide +kernel
theorem dg104_129 : decode (zb 104) 129 = .ok (.aload_n 0, 1) := by decide +kernel
theorem dg104_130 : decode (zb 104) 130 = .ok (.bipush 36, 2) := by decide +kernel
theorem dg104_132 : decode (zb 104) 132 = .ok (.newarray .int, 2) := by decide +kernel
theorem dg104_134 : decode (zb 104) 134 = .ok (.putfield 58, 3) := by decide +kernel
theorem dg104_137 : decode (zb 104) 137 = .ok (.aload_n 0, 1) := by decide +kernel
theorem dg104_138 : decode (zb 104) 138 = .ok (.iconst 2, 1) := by decide +kernel
theorem dg104_139 : decode (zb 104) 139 = .ok (.newarray .int, 2) := by decide +kernel
theorem dg104_141 : decode (zb 104) 141 = .ok (.putfield 61, 3) := by decide +kernel
theorem dg104_144 : decode (zb 104) 144 = .ok (.aload_n 0, 1) := by decide +kernel
theorem dg104_145 : decode (zb 104) 145 = .ok (.bipush 12, 2) := by decide +kernel
theorem dg104_147 : decode (zb 104) 147 = .ok (.newarray .int, 2) := by decide +kernel
theorem dg104_149 : decode (zb 104) 149 = .ok (.putfield 64, 3) := by decide +kernel
theorem dg104_152 : decode (zb 104) 152 = .ok (.aload_n 0, 1) := by decide +kernel
theorem dg104_153 : decode (zb 104) 153 = .ok (.bipush 12, 2) := by decide +kernel
theorem dg104_155 : decode (zb 104) 155 = .ok (.newarray .int, 2) := by decide +kernel
theorem dg104_157 : decode (zb 104) 157 = .ok (.putfield 67, 3) := by decide +kernel
theorem dg104_160 : decode (zb 104) 160 = .ok (.aload_n 0, 1) := by decide +kernel
theorem dg104_161 : decode (zb 104) 161 = .ok (.bipush 12, 2) := by decide +kernel
theorem dg104_163 : decode (zb 104) 163 = .ok (.newarray .int, 2) := by decide +kernel
theorem dg104_165 : decode (zb 104) 165 = .ok (.putfield 70, 3) := by decide +kernel
theorem dg104_168 : decode (zb 104) 168 = .ok (.aload_n 0, 1) := by decide +kernel
theorem dg104_169 : decode (zb 104) 169 = .ok (.bipush 6, 2) := by decide +kernel
theorem dg104_171 : decode (zb 104) 171 = .ok (.newarray .int, 2) := by decide +kernel
theorem dg104_173 : decode (zb 104) 173 = .ok (.putfield 73, 3) := by decide +kernel
theorem dg104_176 : decode (zb 104) 176 = .ok (.aload_n 0, 1) := by decide +kernel
theorem dg104_177 : decode (zb 104) 177 = .ok (.bipush 10, 2) := by decide +kernel
theorem dg104_179 : decode (zb 104) 179 = .ok (.newarray .int, 2) := by decide +kernel
theorem dg104_181 : decode (zb 104) 181 = .ok (.putfield 76, 3) := by decide +kernel
theorem dg104_184 : decode (zb 104) 184 = .ok (.aload_n 0, 1) := by decide +kernel
theorem dg104_185 : decode (zb 104) 185 = .ok (.iconst 3, 1) := by decide +kernel
theorem dg104_186 : decode (zb 104) 186 = .ok (.newarray .int, 2) := by decide +kernel
theorem dg104_188 : decode (zb 104) 188 = .ok (.putfield 79, 3) := by decide +kernel
theorem dg104_191 : decode (zb 104) 191 = .ok (.aload_n 0, 1) := by decide +kernel
theorem dg104_192 : decode (zb 104) 192 = .ok (.bipush 30, 2) := by decide +kernel
theorem dg104_194 : decode (zb 104) 194 = .ok (.newarray .int, 2) := by decide +kernel
theorem dg104_196 : decode (zb 104) 196 = .ok (.putfield 82, 3) := by decide +kernel
theorem dg104_199 : decode (zb 104) 199 = .ok (.aload_n 0, 1) := by decide +kernel
theorem dg104_200 : decode (zb 104) 200 = .ok (.bipush 30, 2) := by decide +kernel
theorem dg104_202 : decode (zb 104) 202 = .ok (.newarray .int, 2) := by decide +kernel
theorem dg104_204 : decode (zb 104) 204 = .ok (.putfield 85, 3) := by decide +kernel
theorem dg104_207 : decode (zb 104) 207 = .ok (.aload_n 0, 1) := by decide +kernel
theorem dg104_208 : decode (zb 104) 208 = .ok (.bipush 30, 2) := by decide +kernel
theorem dg104_210 : decode (zb 104) 210 = .ok (.newarray .int, 2) := by decide +kernel
theorem dg104_212 : decode (zb 104) 212 = .ok (.putfield 88, 3) := by decide +kernel
theorem dg104_215 : decode (zb 104) 215 = .ok (.aload_n 0, 1) := by decide +kernel
theorem dg104_216 : decode (zb 104) 216 = .ok (.bipush 30, 2) := by decide +kernel
theorem dg104_218 : decode (zb 104) 218 = .ok (.newarray .int, 2) := by decide +kernel
theorem dg104_220 : decode (zb 104) 220 = .ok (.putfield 91, 3) := by decide +kernel
theorem dg104_223 : decode (zb 104) 223 = .ok (.aload_n 0, 1) := by decide +kernel
theorem dg104_224 : decode (zb 104) 224 = .ok (.iconst 5, 1) := by decide +kernel
theorem dg104_225 : decode (zb 104) 225 = .ok (.newarray .int, 2) := by decide +kernel
theorem dg104_227 : decode (zb 104) 227 = .ok (.putfield 94, 3) := by decide +kernel
theorem dg104_230 : decode (zb 104) 230 = .ok (.aload_n 0, 1) := by decide +kernel
theorem dg104_231 : decode (zb 104) 231 = .ok (.bipush 37, 2) := by decide +kernel
theorem dg104_233 : decode (zb 104) 233 = .ok (.newarray .int, 2) := by decide +kernel
theorem dg104_235 : decode (zb 104) 235 = .ok (.putfield 97, 3) := by decide +kernel
theorem dg104_238 : decode (zb 104) 238 = .ok (.aload_n 0, 1) := by decide +kernel
theorem dg104_239 : decode (zb 104) 239 = .ok (.bipush 37, 2) := by decide +kernel
theorem dg104_241 : decode (zb 104) 241 = .ok (.newarray .long, 2) := by decide +kernel
theorem dg104_243 : decode (zb 104) 243 = .ok (.putfield 100, 3) := by decide +kernel
theorem dg104_246 : decode (zb 104) 246 = .ok (.aload_n 0, 1) := by decide +kernel
theorem dg104_247 : decode (zb 104) 247 = .ok (.bipush 10, 2) := by decide +kernel
theorem dg104_249 : decode (zb 104) 249 = .ok (.newarray .long, 2) := by decide +kernel
theorem dg104_251 : decode (zb 104) 251 = .ok (.putfield 104, 3) := by decide +kernel
theorem dg104_254 : decode (zb 104) 254 = .ok (.aload_n 0, 1) := by decide +kernel
theorem dg104_255 : decode (zb 104) 255 = .ok (.sipush 256, 3) := by decide +kernel
theorem dg104_258 : decode (zb 104) 258 = .ok (.newarray .long, 2) := by decide +kernel
theorem dg104_260 : decode (zb 104) 260 = .ok (.putfield 107, 3) := by decide +kernel
theorem dg104_263 : decode (zb 104) 263 = .ok (.aload_n 0, 1) := by decide +kernel
theorem dg104_264 : decode (zb 104) 264 = .ok (.sipush 256, 3) := by decide +kernel
theorem dg104_267 : decode (zb 104) 267 = .ok (.newarray .int, 2) := by decide +kernel
theorem dg104_269 : decode (zb 104) 269 = .ok (.putfield 110, 3) := by decide +kernel
theorem dg104_272 : decode (zb 104) 272 = .ok (.aload_n 0, 1) := by decide +kernel
theorem dg104_273 : decode (zb 104) 273 = .ok (.iconst 0, 1) := by decide +kernel
theorem dg104_274 : decode (zb 104) 274 = .ok (.invokevirtual 113, 3) := by decide +kernel
theorem dg104_277 : decode (zb 104) 277 = .ok (.aload_n 0, 1) := by decide +kernel
theorem dg104_278 : decode (zb 104) 278 = .ok (.getfield 13, 3) := by decide +kernel
theorem dg104_281 : decode (zb 104) 281 = .ok (.iconst 0, 1) := by decide +kernel
theorem dg104_282 : decode (zb 104) 282 = .ok (.iconst 1, 1) := by decide +kernel
theorem dg104_283 : decode (zb 104) 283 = .ok (.iastore, 1) := by decide +kernel
theorem dg104_284 : decode (zb 104) 284 = .ok (.aload_n 0, 1) := by decide +kernel
theorem dg104_285 : decode (zb 104) 285 = .ok (.getfield 16, 3) := by decide +kernel
theorem dg104_288 : decode (zb 104) 288 = .ok (.iconst 0, 1) := by decide +kernel
theorem dg104_289 : decode (zb 104) 289 = .ok (.bipush 10, 2) := by decide +kernel
theorem dg104_291 : decode (zb 104) 291 = .ok (.iastore, 1) := by decide +kernel
theorem dg104_292 : decode (zb 104) 292 = .ok (.aload_n 0, 1) := by decide +kernel
theorem dg104_293 : decode (zb 104) 293 = .ok (.getfield 19, 3) := by decide +kernel
theorem dg104_296 : decode (zb 104) 296 = .ok (.iconst 0, 1) := by decide +kernel
theorem dg104_297 : decode (zb 104) 297 = .ok (.bipush 99, 2) := by decide +kernel
theorem dg104_299 : decode (zb 104) 299 = .ok (.iastore, 1) := by decide +kernel
theorem dg104_300 : decode (zb 104) 300 = .ok (.aload_n 0, 1) := by decide +kernel
theorem dg104_301 : decode (zb 104) 301 = .ok (.getfield 22, 3) := by decide +kernel
theorem dg104_304 : decode (zb 104) 304 = .ok (.iconst 0, 1) := by decide +kernel
theorem dg104_305 : decode (zb 104) 305 = .ok (.iconst 1, 1) := by decide +kernel
theorem dg104_306 : decode (zb 104) 306 = .ok (.iastore, 1) := by decide +kernel
theorem dg104_307 : decode (zb 104) 307 = .ok (.aload_n 0, 1) := by decide +kernel
theorem dg104_308 : decode (zb 104) 308 = .ok (.iconst 0, 1) := by decide +kernel
theorem dg104_309 : decode (zb 104) 309 = .ok (.invokevirtual 117, 3) := by decide +kernel
theorem dg104_312 : decode (zb 104) 312 = .ok (.aload_n 0, 1) := by decide +kernel
theorem dg104_313 : decode (zb 104) 313 = .ok (.getfield 34, 3) := by decide +kernel
theorem dg104_316 : decode (zb 104) 316 = .ok (.iconst 0, 1) := by decide +kernel
theorem dg104_317 : decode (zb 104) 317 = .ok (.iconst 5, 1) := by decide +kernel
theorem dg104_318 : decode (zb 104) 318 = .ok (.iastore, 1) := by decide +kernel
theorem dg104_319 : decode (zb 104) 319 = .ok (.aload_n 0, 1) := by decide +kernel
theorem dg104_320 : decode (zb 104) 320 = .ok (.getfield 49, 3) := by decide +kernel
theorem dg104_323 : decode (zb 104) 323 = .ok (.iconst 0, 1) := by decide +kernel
theorem dg104_324 : decode (zb 104) 324 = .ok (.iconst 1, 1) := by decide +kernel
theorem dg104_325 : decode (zb 104) 325 = .ok (.iastore, 1) := by decide +kernel
theorem dg104_326 : decode (zb 104) 326 = .ok (.aload_n 0, 1) := by decide +kernel
theorem dg104_327 : decode (zb 104) 327 = .ok (.getfield 52, 3) := by decide +kernel
theorem dg104_330 : decode (zb 104) 330 = .ok (.iconst 0, 1) := by decide +kernel
theorem dg104_331 : decode (zb 104) 331 = .ok (.bipush 30, 2) := by decide +kernel
theorem dg104_333 : decode (zb 104) 333 = .ok (.iastore, 1) := by decide +kernel
theorem dg104_334 : decode (zb 104) 334 = .ok (.return_, 1) := by decide +kernel
set_option maxRecDepth 100000 in
set_option maxHeartbeats 4000000 in
theorem c_69 {l : Launch} {dC : Nat → ClassId} {dI : Nat → Nat → Nat} {cA : Nat → ClassId} {N : Nat} {E : ZMi} {A : Nat → Prop} {I : ZMi} {L : ZMl} {Q : Nat → ZMi → ZMl → ZMr → Prop} (hI : ∀ a, 2 ≤ a → ∀ j, I a j = 0) (hL : ∀ a, 2 ≤ a → ∀ j, L a j = 0) (h : ∀ I2 L2, zCI I2 L2 39 zS_3 1 1 0 0 zT0_ 0 zA0 0 0 zA0 0 zA0 → zfE I I2 → (∀ a k, 119 ≤ a → L2 a k = L a k) → Q 117 I2 L2 zR_1) : zSG l dC dI cA N E A 69 116 1557 0 0 1 0 [.ref 2] [] I L zR00 (zFr 69 116 1557 Q) := by
  have hR0 := zRi_0 3
  refine g_al dg69_0 rfl rfl ?_
  refine g_oi (own := "HummingSet") rfl zgm_HummingSet_1 zgoi_i zgoi_c (Nat.le_of_ble_eq_true rfl) rfl dg69_1 ?_
  refine g_al dg69_4 rfl rfl ?_
  refine g_new (ci := 8) (C := "HummingSet$Text") (own := "HummingSet") zo8 rfl zgl_HummingSet_7 zgn_8 zgj_8 zgd_8 (zKg_c (by decide +kernel) (by decide +kernel)) (zvL_all ⟨zvk_r (by decide), trivial⟩) (zvL_all ⟨zvk_r (by decide), trivial⟩) (fun a j => hR0.1 a j) (hI _ (by decide)) (hL _ (by decide)) (fun j => hR0.2.1 _ (by decide) j) (by decide) (by decide) dg69_5 ?_
  refine zg_al (q := 3) (n' := 2) (c' := 1) (s' := 2) (pc' := 8) rfl rfl rfl rfl rfl ?_
  have hR1 := zRi_w (m' := 4) hR0 (by decide)
  refine g_dup dg69_8 ?_
  refine g_cI2 (k2 := 39) (mc2 := 1) (ms2 := 400) zgm_HummingSet_9 zgc39 zgi39 rfl rfl (by decide +kernel) (by decide +kernel) dg69_9 rfl (by decide) (by decide) (zvL_all ⟨zvk_r (by decide), trivial⟩) (zvL_all ⟨zvk_r (by decide), zvk_r (by decide), trivial⟩) (fun Q hq => c_39 (zKr_f (by decide +kernel) (by decide +kernel)) (by decide) (zKg_c (by decide +kernel) (by decide +kernel)) (hI _ (by decide)) (fun a j => hR1.1 a j) hq) ?_
  refine zg_n (n' := 3) (c' := 2) (s' := 402) (pc' := 12) rfl rfl rfl rfl ?_
  have hR2 := zRi_up (a := 3) (j := 0) (x := 5) (m' := 5) hR1 (by decide) (by decide) (by decide) (by decide)
  refine g_pRF (j := 0) zo11 (by decide) (own := "HummingSet") rfl (by decide) zgf_HummingSet_10 rfl rfl rfl ⟨rfl, fun _ => ⟨rfl, rfl⟩⟩ dg69_12 (zKr_f (by decide +kernel) (by decide +kernel)) ?_
  have hR3 := zRi_up (a := 2) (j := 0) (x := 3 + 1) (m' := 5) hR2 (by decide) (by decide) (by decide) (by decide)
  refine g_al dg69_15 rfl rfl ?_
  refine g_new (ci := 5) (C := "HummingSet$Reader") (own := "HummingSet") zo5 rfl zgl_HummingSet_16 zgn_5 zgj_5 zgd_5 (zKg_c (by decide +kernel) (by decide +kernel)) (zvL_all ⟨zvk_r (by decide), trivial⟩) (zvL_all ⟨zvk_r (by decide), trivial⟩) (fun a j => hR3.1 a j) (hI _ (by decide)) (hL _ (by decide)) (fun j => hR3.2.1 _ (by decide) j) (by decide) (by decide) dg69_16 ?_
  refine zg_al (q := 5) (n' := 4) (c' := 3) (s' := 404) (pc' := 19) rfl rfl rfl rfl rfl ?_
  have hR4 := zRi_w (m' := 6) hR3 (by decide)
  refine zg_n (n' := 4) (c' := 3) (s' := 404) (pc' := 19) rfl rfl rfl rfl ?_
  refine g_dup dg69_19 ?_
  refine g_cI2 (k2 := 27) (mc2 := 1) (ms2 := 5) zgm_HummingSet_18 zgc27 zgi27 rfl rfl (by decide +kernel) (by decide +kernel) dg69_20 rfl (by decide) (by decide) (zvL_all ⟨zvk_r (by decide), trivial⟩) (zvL_all ⟨zvk_r (by decide), zvk_r (by decide), trivial⟩) (fun Q hq => c_27 (zKr_f (by decide +kernel) (by decide +kernel)) (by decide) (zKg_c (by decide +kernel) (by decide +kernel)) (hI _ (by decide)) (fun a j => hR4.1 a j) hq) ?_
  refine zg_n (n' := 5) (c' := 4) (s' := 409) (pc' := 23) rfl rfl rfl rfl ?_
  have hR5 := zRi_up (a := 5) (j := 0) (x := 7) (m' := 7) hR4 (by decide) (by decide) (by decide) (by decide)
  refine g_pRF (j := 1) zo11 (by decide) (own := "HummingSet") rfl (by decide) zgf_HummingSet_19 rfl rfl rfl ⟨rfl, fun _ => ⟨rfl, rfl⟩⟩ dg69_23 (zKr_f (by decide +kernel) (by decide +kernel)) ?_
  have hR6 := zRi_up (a := 2) (j := 1) (x := 5 + 1) (m' := 7) hR5 (by decide) (by decide) (by decide) (by decide)
  refine g_al dg69_26 rfl rfl ?_
  refine g_new (ci := 1) (C := "HummingSet$Bench") (own := "HummingSet") zo1 rfl zgl_HummingSet_23 zgn_1 zgj_1 zgd_1 (zKg_c (by decide +kernel) (by decide +kernel)) (zvL_all ⟨zvk_r (by decide), trivial⟩) (zvL_all ⟨zvk_r (by decide), trivial⟩) (fun a j => hR6.1 a j) (hI _ (by decide)) (hL _ (by decide)) (fun j => hR6.2.1 _ (by decide) j) (by decide) (by decide) dg69_27 ?_
  refine zg_al (q := 7) (n' := 6) (c' := 5) (s' := 411) (pc' := 30) rfl rfl rfl rfl rfl ?_
  have hR7 := zRi_w (m' := 8) hR6 (by decide)
  refine g_dup dg69_30 ?_
  refine g_cI2 (k2 := 3) (mc2 := 8) (ms2 := 27) zgm_HummingSet_25 zgc3 zgi3 rfl rfl (by decide +kernel) (by decide +kernel) dg69_31 rfl (by decide) (by decide) (zvL_all ⟨zvk_r (by decide), trivial⟩) (zvL_all ⟨zvk_r (by decide), zvk_r (by decide), trivial⟩) (fun Q hq => c_3b (zKr_f (by decide +kernel) (by decide +kernel)) (by decide) (zKg_c (by decide +kernel) (by decide +kernel)) (zKg_c (by decide +kernel) (by decide +kernel)) (hI _ (by decide)) (fun i hi => zKg_6 i hi) (fun i hi => hI _ (by omega)) (fun a j => hR7.1 a j) hq) ?_
  refine zg_n (n' := 14) (c' := 13) (s' := 438) (pc' := 34) rfl rfl rfl rfl ?_
  have hR8 := zRi_up (a := 8) (j := 0) (x := 10) (m' := 16) hR7 (by decide) (by decide) (by decide) (by decide)
  have hR9 := zRi_up (a := 8) (j := 1) (x := 11) (m' := 16) hR8 (by decide) (by decide) (by decide) (by decide)
  have hR10 := zRi_up (a := 8) (j := 2) (x := 12) (m' := 16) hR9 (by decide) (by decide) (by decide) (by decide)
  have hR11 := zRi_up (a := 8) (j := 3) (x := 13) (m' := 16) hR10 (by decide) (by decide) (by decide) (by decide)
  have hR12 := zRi_up (a := 8) (j := 4) (x := 14) (m' := 16) hR11 (by decide) (by decide) (by decide) (by decide)
  have hR13 := zRi_up (a := 8) (j := 5) (x := 15) (m' := 16) hR12 (by decide) (by decide) (by decide) (by decide)
  have hR14 := zRi_up (a := 7) (j := 0) (x := 9) (m' := 16) hR13 (by decide) (by decide) (by decide) (by decide)
  have hR15 := zRi_up (a := 7) (j := 1) (x := 16) (m' := 16) hR14 (by decide) (by decide) (by decide) (by decide)
  refine g_pRF (j := 2) zo11 (by decide) (own := "HummingSet") rfl (by decide) zgf_HummingSet_26 rfl rfl rfl ⟨rfl, fun _ => ⟨rfl, rfl⟩⟩ dg69_34 (zKr_f (by decide +kernel) (by decide +kernel)) ?_
  have hR16 := zRi_up (a := 2) (j := 2) (x := 7 + 1) (m' := 16) hR15 (by decide) (by decide) (by decide) (by decide)
  refine g_al dg69_37 rfl rfl ?_
  refine g_new (ci := 0) (C := "HummingSet$Answers") (own := "HummingSet") zo0 rfl zgl_HummingSet_30 zgn_0 zgj_0 zgd_0 (zKg_c (by decide +kernel) (by decide +kernel)) (zvL_all ⟨zvk_r (by decide), trivial⟩) (zvL_all ⟨zvk_r (by decide), trivial⟩) (fun a j => hR16.1 a j) (hI _ (by decide)) (hL _ (by decide)) (fun j => hR16.2.1 _ (by decide) j) (by decide) (by decide) dg69_38 ?_
  refine zg_al (q := 16) (n' := 15) (c' := 14) (s' := 443) (pc' := 41) rfl rfl rfl rfl rfl ?_
  have hR17 := zRi_w (m' := 17) hR16 (by decide)
  refine zg_n (n' := 15) (c' := 14) (s' := 443) (pc' := 41) rfl rfl rfl rfl ?_
  refine g_dup dg69_41 ?_
  refine g_cI2 (k2 := 0) (mc2 := 4) (ms2 := 40) zgm_HummingSet_32 zgc0 zgi0 rfl rfl (by decide +kernel) (by decide +kernel) dg69_42 rfl (by decide) (by decide) (zvL_all ⟨zvk_r (by decide), trivial⟩) (zvL_all ⟨zvk_r (by decide), zvk_r (by decide), trivial⟩) (fun Q hq => c_0 (zKr_f (by decide +kernel) (by decide +kernel)) (by decide) (zKg_c (by decide +kernel) (by decide +kernel)) (hI _ (by decide)) (zKg_c (by decide +kernel) (by decide +kernel)) (hI _ (by decide)) (zKg_c (by decide +kernel) (by decide +kernel)) (hI _ (by decide)) (zKg_c (by decide +kernel) (by decide +kernel)) (hI _ (by decide)) (fun a j => hR17.1 a j) hq) ?_
  refine zg_n (n' := 19) (c' := 18) (s' := 483) (pc' := 45) rfl rfl rfl rfl ?_
  have hR18 := zRi_up (a := 16) (j := 0) (x := 18) (m' := 21) hR17 (by decide) (by decide) (by decide) (by decide)
  have hR19 := zRi_up (a := 16) (j := 1) (x := 19) (m' := 21) hR18 (by decide) (by decide) (by decide) (by decide)
  have hR20 := zRi_up (a := 16) (j := 2) (x := 20) (m' := 21) hR19 (by decide) (by decide) (by decide) (by decide)
  have hR21 := zRi_up (a := 16) (j := 3) (x := 21) (m' := 21) hR20 (by decide) (by decide) (by decide) (by decide)
  refine g_pRF (j := 3) zo11 (by decide) (own := "HummingSet") rfl (by decide) zgf_HummingSet_33 rfl rfl rfl ⟨rfl, fun _ => ⟨rfl, rfl⟩⟩ dg69_45 (zKr_f (by decide +kernel) (by decide +kernel)) ?_
  have hR22 := zRi_up (a := 2) (j := 3) (x := 16 + 1) (m' := 21) hR21 (by decide) (by decide) (by decide) (by decide)
  refine g_al dg69_48 rfl rfl ?_
  refine g_new (ci := 0) (C := "HummingSet$Answers") (own := "HummingSet") zo0 rfl zgl_HummingSet_30 zgn_0 zgj_0 zgd_0 (zKg_c (by decide +kernel) (by decide +kernel)) (zvL_all ⟨zvk_r (by decide), trivial⟩) (zvL_all ⟨zvk_r (by decide), trivial⟩) (fun a j => hR22.1 a j) (hI _ (by decide)) (hL _ (by decide)) (fun j => hR22.2.1 _ (by decide) j) (by decide) (by decide) dg69_49 ?_
  refine zg_al (q := 21) (n' := 20) (c' := 19) (s' := 488) (pc' := 52) rfl rfl rfl rfl rfl ?_
  have hR23 := zRi_w (m' := 22) hR22 (by decide)
  refine g_dup dg69_52 ?_
  refine g_cI2 (k2 := 0) (mc2 := 4) (ms2 := 40) zgm_HummingSet_32 zgc0 zgi0 rfl rfl (by decide +kernel) (by decide +kernel) dg69_53 rfl (by decide) (by decide) (zvL_all ⟨zvk_r (by decide), trivial⟩) (zvL_all ⟨zvk_r (by decide), zvk_r (by decide), trivial⟩) (fun Q hq => c_0 (zKr_f (by decide +kernel) (by decide +kernel)) (by decide) (zKg_c (by decide +kernel) (by decide +kernel)) (hI _ (by decide)) (zKg_c (by decide +kernel) (by decide +kernel)) (hI _ (by decide)) (zKg_c (by decide +kernel) (by decide +kernel)) (hI _ (by decide)) (zKg_c (by decide +kernel) (by decide +kernel)) (hI _ (by decide)) (fun a j => hR23.1 a j) hq) ?_
  refine zg_n (n' := 24) (c' := 23) (s' := 528) (pc' := 56) rfl rfl rfl rfl ?_
  have hR24 := zRi_up (a := 21) (j := 0) (x := 23) (m' := 26) hR23 (by decide) (by decide) (by decide) (by decide)
  have hR25 := zRi_up (a := 21) (j := 1) (x := 24) (m' := 26) hR24 (by decide) (by decide) (by decide) (by decide)
  have hR26 := zRi_up (a := 21) (j := 2) (x := 25) (m' := 26) hR25 (by decide) (by decide) (by decide) (by decide)
  have hR27 := zRi_up (a := 21) (j := 3) (x := 26) (m' := 26) hR26 (by decide) (by decide) (by decide) (by decide)
  refine g_pRF (j := 4) zo11 (by decide) (own := "HummingSet") rfl (by decide) zgf_HummingSet_37 rfl rfl rfl ⟨rfl, fun _ => ⟨rfl, rfl⟩⟩ dg69_56 (zKr_f (by decide +kernel) (by decide +kernel)) ?_
  have hR28 := zRi_up (a := 2) (j := 4) (x := 21 + 1) (m' := 26) hR27 (by decide) (by decide) (by decide) (by decide)
  refine g_al dg69_59 rfl rfl ?_
  refine g_new (ci := 0) (C := "HummingSet$Answers") (own := "HummingSet") zo0 rfl zgl_HummingSet_30 zgn_0 zgj_0 zgd_0 (zKg_c (by decide +kernel) (by decide +kernel)) (zvL_all ⟨zvk_r (by decide), trivial⟩) (zvL_all ⟨zvk_r (by decide), trivial⟩) (fun a j => hR28.1 a j) (hI _ (by decide)) (hL _ (by decide)) (fun j => hR28.2.1 _ (by decide) j) (by decide) (by decide) dg69_60 ?_
  refine zg_al (q := 26) (n' := 25) (c' := 24) (s' := 533) (pc' := 63) rfl rfl rfl rfl rfl ?_
  have hR29 := zRi_w (m' := 27) hR28 (by decide)
  refine zg_n (n' := 25) (c' := 24) (s' := 533) (pc' := 63) rfl rfl rfl rfl ?_
  refine g_dup dg69_63 ?_
  refine g_cI2 (k2 := 0) (mc2 := 4) (ms2 := 40) zgm_HummingSet_32 zgc0 zgi0 rfl rfl (by decide +kernel) (by decide +kernel) dg69_64 rfl (by decide) (by decide) (zvL_all ⟨zvk_r (by decide), trivial⟩) (zvL_all ⟨zvk_r (by decide), zvk_r (by decide), trivial⟩) (fun Q hq => c_0 (zKr_f (by decide +kernel) (by decide +kernel)) (by decide) (zKg_c (by decide +kernel) (by decide +kernel)) (hI _ (by decide)) (zKg_c (by decide +kernel) (by decide +kernel)) (hI _ (by decide)) (zKg_c (by decide +kernel) (by decide +kernel)) (hI _ (by decide)) (zKg_c (by decide +kernel) (by decide +kernel)) (hI _ (by decide)) (fun a j => hR29.1 a j) hq) ?_
  refine zg_n (n' := 29) (c' := 28) (s' := 573) (pc' := 67) rfl rfl rfl rfl ?_
  have hR30 := zRi_up (a := 26) (j := 0) (x := 28) (m' := 31) hR29 (by decide) (by decide) (by decide) (by decide)
  have hR31 := zRi_up (a := 26) (j := 1) (x := 29) (m' := 31) hR30 (by decide) (by decide) (by decide) (by decide)
  have hR32 := zRi_up (a := 26) (j := 2) (x := 30) (m' := 31) hR31 (by decide) (by decide) (by decide) (by decide)
  have hR33 := zRi_up (a := 26) (j := 3) (x := 31) (m' := 31) hR32 (by decide) (by decide) (by decide) (by decide)
  refine g_pRF (j := 5) zo11 (by decide) (own := "HummingSet") rfl (by decide) zgf_HummingSet_40 rfl rfl rfl ⟨rfl, fun _ => ⟨rfl, rfl⟩⟩ dg69_67 (zKr_f (by decide +kernel) (by decide +kernel)) ?_
  have hR34 := zRi_up (a := 2) (j := 5) (x := 26 + 1) (m' := 31) hR33 (by decide) (by decide) (by decide) (by decide)
  refine g_al dg69_70 rfl rfl ?_
  refine g_new (ci := 2) (C := "HummingSet$Cases") (own := "HummingSet") zo2 rfl zgl_HummingSet_43 zgn_2 zgj_2 zgd_2 (zKg_c (by decide +kernel) (by decide +kernel)) (zvL_all ⟨zvk_r (by decide), trivial⟩) (zvL_all ⟨zvk_r (by decide), trivial⟩) (fun a j => hR34.1 a j) (hI _ (by decide)) (hL _ (by decide)) (fun j => hR34.2.1 _ (by decide) j) (by decide) (by decide) dg69_71 ?_
  refine zg_al (q := 31) (n' := 30) (c' := 29) (s' := 577) (pc' := 74) rfl rfl rfl rfl rfl ?_
  have hR35 := zRi_w (m' := 32) hR34 (by decide)
  refine g_dup dg69_74 ?_
  refine g_cI2 (k2 := 11) (mc2 := 2) (ms2 := 74) zgm_HummingSet_45 zgc11 zgi11 rfl rfl (by decide +kernel) (by decide +kernel) dg69_75 rfl (by decide) (by decide) (zvL_all ⟨zvk_r (by decide), trivial⟩) (zvL_all ⟨zvk_r (by decide), zvk_r (by decide), trivial⟩) (fun Q hq => c_11 (zKr_f (by decide +kernel) (by decide +kernel)) (by decide) (zKg_c (by decide +kernel) (by decide +kernel)) (hI _ (by decide)) (zKg_c (by decide +kernel) (by decide +kernel)) (hL _ (by decide)) (fun a j => hR35.1 a j) hq) ?_
  refine zg_n (n' := 32) (c' := 31) (s' := 651) (pc' := 78) rfl rfl rfl rfl ?_
  have hR36 := zRi_up (a := 31) (j := 0) (x := 33) (m' := 34) hR35 (by decide) (by decide) (by decide) (by decide)
  have hR37 := zRi_up (a := 31) (j := 1) (x := 34) (m' := 34) hR36 (by decide) (by decide) (by decide) (by decide)
  refine g_pRF (j := 6) zo11 (by decide) (own := "HummingSet") rfl (by decide) zgf_HummingSet_46 rfl rfl rfl ⟨rfl, fun _ => ⟨rfl, rfl⟩⟩ dg69_78 (zKr_f (by decide +kernel) (by decide +kernel)) ?_
  have hR38 := zRi_up (a := 2) (j := 6) (x := 31 + 1) (m' := 34) hR37 (by decide) (by decide) (by decide) (by decide)
  refine g_al dg69_81 rfl rfl ?_
  refine g_new (ci := 6) (C := "HummingSet$Search") (own := "HummingSet") zo6 rfl zgl_HummingSet_50 zgn_6 zgj_6 zgd_6 (zKg_c (by decide +kernel) (by decide +kernel)) (zvL_all ⟨zvk_r (by decide), trivial⟩) (zvL_all ⟨zvk_r (by decide), trivial⟩) (fun a j => hR38.1 a j) (hI _ (by decide)) (hL _ (by decide)) (fun j => hR38.2.1 _ (by decide) j) (by decide) (by decide) dg69_82 ?_
  refine zg_al (q := 34) (n' := 33) (c' := 32) (s' := 656) (pc' := 85) rfl rfl rfl rfl rfl ?_
  have hR39 := zRi_w (m' := 35) hR38 (by decide)
  refine zg_n (n' := 33) (c' := 32) (s' := 656) (pc' := 85) rfl rfl rfl rfl ?_
  refine g_dup dg69_85 ?_
  refine g_cI2 (k2 := 33) (mc2 := 1) (ms2 := 10) zgm_HummingSet_52 zgc33 zgi33 rfl rfl (by decide +kernel) (by decide +kernel) dg69_86 rfl (by decide) (by decide) (zvL_all ⟨zvk_r (by decide), trivial⟩) (zvL_all ⟨zvk_r (by decide), zvk_r (by decide), trivial⟩) (fun Q hq => c_33 (zKr_f (by decide +kernel) (by decide +kernel)) (by decide) (zKg_c (by decide +kernel) (by decide +kernel)) (hL _ (by decide)) (fun a j => hR39.1 a j) hq) ?_
  refine zg_n (n' := 34) (c' := 33) (s' := 666) (pc' := 89) rfl rfl rfl rfl ?_
  have hR40 := zRi_up (a := 34) (j := 0) (x := 36) (m' := 36) hR39 (by decide) (by decide) (by decide) (by decide)
  refine g_pRF (j := 7) zo11 (by decide) (own := "HummingSet") rfl (by decide) zgf_HummingSet_53 rfl rfl rfl ⟨rfl, fun _ => ⟨rfl, rfl⟩⟩ dg69_89 (zKr_f (by decide +kernel) (by decide +kernel)) ?_
  have hR41 := zRi_up (a := 2) (j := 7) (x := 34 + 1) (m' := 36) hR40 (by decide) (by decide) (by decide) (by decide)
  refine g_al dg69_92 rfl rfl ?_
  refine g_new (ci := 4) (C := "HummingSet$Plan") (own := "HummingSet") zo4 rfl zgl_HummingSet_57 zgn_4 zgj_4 zgd_4 (zKg_c (by decide +kernel) (by decide +kernel)) (zvL_all ⟨zvk_r (by decide), trivial⟩) (zvL_all ⟨zvk_r (by decide), trivial⟩) (fun a j => hR41.1 a j) (hI _ (by decide)) (hL _ (by decide)) (fun j => hR41.2.1 _ (by decide) j) (by decide) (by decide) dg69_93 ?_
  refine zg_al (q := 36) (n' := 35) (c' := 34) (s' := 669) (pc' := 96) rfl rfl rfl rfl rfl ?_
  have hR42 := zRi_w (m' := 37) hR41 (by decide)
  refine g_dup dg69_96 ?_
  refine g_cI2 (k2 := 21) (mc2 := 2) (ms2 := 512) zgm_HummingSet_59 zgc21 zgi21 rfl rfl (by decide +kernel) (by decide +kernel) dg69_97 rfl (by decide) (by decide) (zvL_all ⟨zvk_r (by decide), trivial⟩) (zvL_all ⟨zvk_r (by decide), zvk_r (by decide), trivial⟩) (fun Q hq => c_21 (zKr_f (by decide +kernel) (by decide +kernel)) (by decide) (zKg_c (by decide +kernel) (by decide +kernel)) (hI _ (by decide)) (zKg_c (by decide +kernel) (by decide +kernel)) (hL _ (by decide)) (fun a j => hR42.1 a j) hq) ?_
  refine zg_n (n' := 37) (c' := 36) (s' := 1181) (pc' := 100) rfl rfl rfl rfl ?_
  have hR43 := zRi_up (a := 36) (j := 0) (x := 38) (m' := 39) hR42 (by decide) (by decide) (by decide) (by decide)
  have hR44 := zRi_up (a := 36) (j := 1) (x := 39) (m' := 39) hR43 (by decide) (by decide) (by decide) (by decide)
  refine g_pRF (j := 8) zo11 (by decide) (own := "HummingSet") rfl (by decide) zgf_HummingSet_60 rfl rfl rfl ⟨rfl, fun _ => ⟨rfl, rfl⟩⟩ dg69_100 (zKr_f (by decide +kernel) (by decide +kernel)) ?_
  have hR45 := zRi_up (a := 2) (j := 8) (x := 36 + 1) (m' := 39) hR44 (by decide) (by decide) (by decide) (by decide)
  refine g_al dg69_103 rfl rfl ?_
  refine g_new (ci := 10) (C := "HummingSet$Wireless") (own := "HummingSet") zo10 rfl zgl_HummingSet_64 zgn_10 zgj_10 zgd_10 (zKg_c (by decide +kernel) (by decide +kernel)) (zvL_all ⟨zvk_r (by decide), trivial⟩) (zvL_all ⟨zvk_r (by decide), trivial⟩) (fun a j => hR45.1 a j) (hI _ (by decide)) (hL _ (by decide)) (fun j => hR45.2.1 _ (by decide) j) (by decide) (by decide) dg69_104 ?_
  refine zg_al (q := 39) (n' := 38) (c' := 37) (s' := 1191) (pc' := 107) rfl rfl rfl rfl rfl ?_
  have hR46 := zRi_w (m' := 40) hR45 (by decide)
  refine zg_n (n' := 38) (c' := 37) (s' := 1191) (pc' := 107) rfl rfl rfl rfl ?_
  refine g_dup dg69_107 ?_
  refine g_cI3 (k2 := 44) (mc2 := 39) (ms2 := 178) (fun I3 L3 => (zfW 39 I I3 ∧ zCu I3 39 zu0) ∧ L = L3) zgm_HummingSet_66 zgc44 zgi44 rfl rfl (by decide +kernel) (by decide +kernel) dg69_108 rfl (by decide) (by decide) (zvL_all ⟨zvk_r (by decide), trivial⟩) (zvL_all ⟨zvk_r (by decide), zvk_r (by decide), trivial⟩) (fun Q hq => c_44_39 hR46 (fun a ha j => hI a (by omega) j) (fun a ha j => hL a (by omega) j) (fun I3 g1 g2 => hq I3 L ⟨⟨g1, g2⟩, rfl⟩)) ?_
  rintro I1 _ ⟨⟨f39, u39⟩, rfl⟩
  refine zg_n (n' := 77) (c' := 76) (s' := 1369) (pc' := 111) rfl rfl rfl rfl ?_
  have hR47 := zRi_L (l := zW39_) (m' := 79) hR46 (by decide) (by decide +kernel)
  have hI1 : ∀ a, 79 ≤ a → ∀ j, I1 a j = 0 := fun a ha j => (f39 a j (by omega)).trans (hI a (by omega) j)
  refine g_pR (j := 9) zo11 (by decide) (own := "HummingSet") rfl (Or.inl zgf_HummingSet_67) rfl rfl ⟨rfl, fun _ => ⟨rfl, rfl⟩⟩ dg69_111 (zKr_f (by decide +kernel) (by decide +kernel)) ?_
  have hR48 := zRi_up (a := 2) (j := 9) (x := 39 + 1) (m' := 79) hR47 (by decide) (by decide) (by decide) (by decide)
  refine g_al dg69_114 rfl rfl ?_
  refine g_new (ci := 10) (C := "HummingSet$Wireless") (own := "HummingSet") zo10 rfl zgl_HummingSet_64 zgn_10 zgj_10 zgd_10 (zKg_c (by decide +kernel) (by decide +kernel)) (zvL_all ⟨zvk_r (by decide), trivial⟩) (zvL_all ⟨zvk_r (by decide), trivial⟩) (fun a j => hR48.1 a j) (hI1 _ (by decide)) (hL _ (by decide)) (fun j => hR48.2.1 _ (by decide) j) (by decide) (by decide) dg69_115 ?_
  refine zg_al (q := 79) (n' := 78) (c' := 77) (s' := 1379) (pc' := 118) rfl rfl rfl rfl rfl ?_
  have hR49 := zRi_w (m' := 80) hR48 (by decide)
  refine g_dup dg69_118 ?_
  refine g_cI3 (k2 := 44) (mc2 := 39) (ms2 := 178) (fun I3 L3 => (zfW 79 I1 I3 ∧ zCu I3 79 zu0) ∧ L = L3) zgm_HummingSet_66 zgc44 zgi44 rfl rfl (by decide +kernel) (by decide +kernel) dg69_119 rfl (by decide) (by decide) (zvL_all ⟨zvk_r (by decide), trivial⟩) (zvL_all ⟨zvk_r (by decide), zvk_r (by decide), trivial⟩) (fun Q hq => c_44_79 hR49 (fun a ha j => hI1 a (by omega) j) (fun a ha j => hL a (by omega) j) (fun I3 g1 g2 => hq I3 L ⟨⟨g1, g2⟩, rfl⟩)) ?_
  rintro I2 _ ⟨⟨f79, u79⟩, rfl⟩
  refine zg_n (n' := 117) (c' := 116) (s' := 1557) (pc' := 122) rfl rfl rfl rfl ?_
  have hR50 := zRi_L (l := zW79_) (m' := 119) hR49 (by decide) (by decide +kernel)
  refine g_pR (j := 10) zo11 (by decide) (own := "HummingSet") rfl (Or.inl zgf_HummingSet_71) rfl rfl ⟨rfl, fun _ => ⟨rfl, rfl⟩⟩ dg69_122 (zKr_f (by decide +kernel) (by decide +kernel)) ?_
  have hR51 := zRi_up (a := 2) (j := 10) (x := 79 + 1) (m' := 119) hR50 (by decide) (by decide) (by decide) (by decide)
  refine zR_eq (R' := zR_1) rfl ?_
  refine zg_n (n' := 117) (c' := 116) (s' := 1557) (pc' := 125) rfl rfl rfl rfl ?_
  refine g_al dg69_125 rfl rfl ?_
  refine g_gR (j := 9) (x := 39) zo11 (by decide) (own := "HummingSet") rfl (Or.inl zgf_HummingSet_67) rfl dg69_126 (zKr_f (by decide +kernel) (by decide +kernel)) zR1_9 ?_
  refine zg_n (n' := 117) (c' := 116) (s' := 1557) (pc' := 129) rfl rfl rfl rfl ?_
  refine g_bi (v := 10) dg69_129 (by decide) ?_
  refine g_bi (v := 99) dg69_131 (by decide) ?_
  have u39b : zCu I2 39 zu0 := zCu_to u39 zub0 (fun a h1 h2 k => f79 a k (by omega))
  refine g_cVi (k2 := 51) (as := [.int 10, .int 99]) (r := []) 1 zo10 zw51 rfl zin51 zse51 zca51 (by decide +kernel) (by decide +kernel) zgm_HummingSet_74 dg69_133 rfl (zKr_f (by decide +kernel) (by decide +kernel)) rfl (by decide) (by decide) (fun I9 L9 R9 => (zfW 39 I2 I9 ∧ zCu I9 39 (zS_1, 1, 0, 0, 0, 0)) ∧ L = L9 ∧ zR_1 = R9) (fun P hP Q hq => x_tks (S := zu0.1) (nS := 0) (nP := 0) (nW := 0) (nL := 0) (nM := 0) hP zK1_a zR1_a (Or.inl rfl) u39b.1 (by decide) (by decide) (by decide) u39b.2.1 u39b.2.2 (by decide) (by decide) (fun I9 g1 g2 => (congrArg (fun z : Int32 => Q (some (.int z)) I9 L zR_1) zqu1).mpr (hq I9 L zR_1 ⟨⟨g1, g2 _ zku1⟩, rfl, rfl⟩))) ?_
  rintro I3 _ _ ⟨⟨f3, v3⟩, rfl, rfl⟩
  refine zg_n (n' := 117) (c' := 116) (s' := 1557) (pc' := 136) rfl rfl rfl rfl ?_
  refine g_pop dg69_136 ?_
  refine g_al dg69_137 rfl rfl ?_
  refine g_gR (j := 9) (x := 39) zo11 (by decide) (own := "HummingSet") rfl (Or.inl zgf_HummingSet_67) rfl dg69_138 (zKr_f (by decide +kernel) (by decide +kernel)) zR1_9 ?_
  refine g_ic (v := 0) dg69_141 (by decide) ?_
  refine g_ic (v := 0) dg69_142 (by decide) ?_
  refine g_ic (v := 0) dg69_143 (by decide) ?_
  refine g_ic (v := 5) dg69_144 (by decide) ?_
  refine zg_n (n' := 117) (c' := 116) (s' := 1557) (pc' := 145) rfl rfl rfl rfl ?_
  refine g_ic (v := 0) dg69_145 (by decide) ?_
  refine g_cVi (k2 := 52) (as := [.int 0, .int 0, .int 0, .int 5, .int 0]) (r := []) 1 zo10 zw52 rfl zin52 zse52 zca52 (by decide +kernel) (by decide +kernel) zgm_HummingSet_78 dg69_146 rfl (zKr_f (by decide +kernel) (by decide +kernel)) rfl (by decide) (by decide) (fun I9 L9 R9 => (zfW 39 I3 I9 ∧ zCu I9 39 (zS_2, 1, 1, 0, 0, 0)) ∧ L = L9 ∧ zR_1 = R9) (fun P hP Q hq => x_tkp (S := zS_1) (nS := 1) (nP := 0) (nW := 0) (nL := 0) (nM := 0) hP zK1_a zR1_a (Or.inl rfl) v3.1 (by decide) (by decide) (by decide) v3.2.1 v3.2.2 (by decide) (by decide) (fun I9 g1 g2 => (congrArg (fun z : Int32 => Q (some (.int z)) I9 L zR_1) zqu2).mpr (hq I9 L zR_1 ⟨⟨g1, g2 _ zku2⟩, rfl, rfl⟩))) ?_
  rintro I4 _ _ ⟨⟨f4, v4⟩, rfl, rfl⟩
  refine zg_n (n' := 117) (c' := 116) (s' := 1557) (pc' := 149) rfl rfl rfl rfl ?_
  refine g_pop dg69_149 ?_
  refine g_al dg69_150 rfl rfl ?_
  refine g_gR (j := 9) (x := 39) zo11 (by decide) (own := "HummingSet") rfl (Or.inl zgf_HummingSet_67) rfl dg69_151 (zKr_f (by decide +kernel) (by decide +kernel)) zR1_9 ?_
  refine g_ic (v := 0) dg69_154 (by decide) ?_
  refine g_ic (v := 0) dg69_155 (by decide) ?_
  refine g_bi (v := 30) dg69_156 (by decide) ?_
  refine g_cVi (k2 := 53) (as := [.int 0, .int 0, .int 30]) (r := []) 1 zo10 zw53 rfl zin53 zse53 zca53 (by decide +kernel) (by decide +kernel) zgm_HummingSet_82 dg69_158 rfl (zKr_f (by decide +kernel) (by decide +kernel)) rfl (by decide) (by decide) (fun I9 L9 R9 => (zfW 39 I4 I9 ∧ zCu I9 39 (zS_3, 1, 1, 0, 1, 0)) ∧ L = L9 ∧ zR_1 = R9) (fun P hP Q hq => x_tkh (S := zS_2) (nS := 1) (nP := 1) (nW := 0) (nL := 0) (nM := 0) hP zK1_a zR1_a (Or.inl rfl) v4.1 (by decide) (by decide) (by decide) v4.2.1 v4.2.2 (by decide) (by decide) (fun I9 g1 g2 => (congrArg (fun z : Int32 => Q (some (.int z)) I9 L zR_1) zqu3).mpr (hq I9 L zR_1 ⟨⟨g1, g2 _ zku3⟩, rfl, rfl⟩))) ?_
  rintro I5 _ _ ⟨⟨f5, v5⟩, rfl, rfl⟩
  refine zg_n (n' := 117) (c' := 116) (s' := 1557) (pc' := 161) rfl rfl rfl rfl ?_
  refine g_pop dg69_161 ?_
  refine zg_n (n' := 117) (c' := 116) (s' := 1557) (pc' := 162) rfl rfl rfl rfl ?_
  refine g_al dg69_162 rfl rfl ?_
  refine g_gR (j := 8) (x := 36) zo11 (by decide) (own := "HummingSet") rfl (Or.inl zgf_HummingSet_60) rfl dg69_163 (zKr_f (by decide +kernel) (by decide +kernel)) (zr2_8 zR1_a) ?_
  refine g_al dg69_166 rfl rfl ?_
  refine g_gR (j := 9) (x := 39) zo11 (by decide) (own := "HummingSet") rfl (Or.inl zgf_HummingSet_67) rfl dg69_167 (zKr_f (by decide +kernel) (by decide +kernel)) zR1_9 ?_
  refine g_al dg69_170 rfl rfl ?_
  refine g_gR (j := 2) (x := 7) zo11 (by decide) (own := "HummingSet") rfl (Or.inl zgf_HummingSet_26) rfl dg69_171 (zKr_f (by decide +kernel) (by decide +kernel)) (zr2_2 zR1_a) ?_
  have hsg : ∀ p, p < 1 → ∃ a, a < 1 ∧ zS_3 3 p 0 = nI a := fun p hp => (zSr_3.2.1 p hp).1
  refine g_cVv (k2 := 22) (as := [.ref 39, .ref 7]) (r := []) zo4 zw22 rfl zin22 zse22 zca22 (by decide +kernel) (by decide +kernel) zgm_HummingSet_86 dg69_174 rfl (zKr_f (by decide +kernel) (by decide +kernel)) rfl (by decide) (by decide) (fun I9 L9 R9 => (zfq I5 I9 ∧ zQt I9 zS_3 1 1 (2 ^ 1)) ∧ L = L9 ∧ zR_1 = R9) (fun P hP Q hq => x_learn (S := zS_3) (nS := 1) (nP := 1) (nW := 0) hP zK1_a zR1_a (Or.inl rfl) v5.1 (by decide) (by decide) (by decide) (by decide) hsg (fun I9 g1 g2 => hq I9 L zR_1 ⟨⟨g1, g2⟩, rfl, rfl⟩)) ?_
  rintro I6 _ _ ⟨⟨f6, v6⟩, rfl, rfl⟩
  refine zg_n (n' := 117) (c' := 116) (s' := 1557) (pc' := 177) rfl rfl rfl rfl ?_
  refine g_al dg69_177 rfl rfl ?_
  have hf6 : ∀ a k, ¬ (9 ≤ a ∧ a < 16) → a ≠ 37 → ¬ (39 ≤ a ∧ a < 119) → I6 a k = I a k := fun a k h1 h2 h3 => (f6 a h1 h2 k).trans ((f5 a k (by omega)).trans ((f4 a k (by omega)).trans ((f3 a k (by omega)).trans ((f79 a k (by omega)).trans (f39 a k (by omega))))))
  have hC6 : zC I6 39 zS_3 1 1 0 := zC_fq v5.1 f6 (Or.inl rfl) (by decide) (by decide) (by decide)
  have hA6 : zAn I6 16 0 zA0 := ⟨(hf6 16 4 (by omega) (by omega) (by omega)).trans (hI 16 (by decide) 4), fun i hi => absurd hi (Nat.not_lt_zero i)⟩
  refine g_cVv (k2 := 98) (as := []) (r := []) zo11 zw98 rfl zin98 zse98 zca98 (by decide +kernel) (by decide +kernel) zgm_HummingSet_90 dg69_178 rfl (zKr_f (by decide +kernel) (by decide +kernel)) rfl (by decide) (by decide) (fun I9 L9 R9 => (zfc I6 I9 ∧ zfl_ L L9 ∧ zCs I9 L9 zS_3 1 (zps zS_3 1 1 zA0 0)) ∧ zR_1 = R9) (fun P hP Q hq => x_weigh (S := zS_3) (nS := 1) (nP := 1) (nW := 0) (A := zA0) (na := 0) hP zK1_a zR1_a (Or.inl rfl) hC6 (by decide) (by decide) (by decide) (by decide) hsg zR1_9 hA6 (fun i hi => absurd hi (Nat.not_lt_zero i)) (by decide) (fun I9 L9 g1 g2 g3 => hq I9 L9 zR_1 ⟨⟨g1, g2, g3⟩, rfl⟩)) ?_
  rintro I7 L7 _ ⟨⟨f7, fL, v7⟩, rfl⟩
  refine zg_n (n' := 117) (c' := 116) (s' := 1557) (pc' := 181) rfl rfl rfl rfl ?_
  have hf7 : ∀ a k, ¬ (9 ≤ a ∧ a < 16) → a ≠ 31 → a ≠ 32 → a ≠ 37 → ¬ (39 ≤ a ∧ a < 119) → I7 a k = I a k := fun a k h1 h2 h3 h4 h5 => (f7 a h1 h2 h3 k).trans (hf6 a k h1 h4 h5)
  have hQ7 : zQt I7 zS_3 1 1 (2 ^ 1) := zQt_fr v6 (fun k => f7 37 (by omega) (by omega) (by omega) k)
  refine g_fin ⟨rfl, rfl, rfl, dg69_181, h I7 L7 ⟨zC_fc hC6 f7 (Or.inl rfl) (by decide) (by decide) (by decide), hQ7, v7, ⟨(hf7 16 4 (by omega) (by omega) (by omega) (by omega) (by omega)).trans (hI 16 (by decide) 4), fun i hi => absurd hi (Nat.not_lt_zero i)⟩, ⟨(hf7 3 1 (by omega) (by omega) (by omega) (by omega) (by omega)).trans (hI 3 (by decide) 1), fun i hi => absurd hi (Nat.not_lt_zero i)⟩, (hf7 2 11 (by omega) (by omega) (by omega) (by omega) (by omega)).trans (hI 2 (by decide) 11), fun q => absurd q (by decide), fun q => absurd q (by decide)⟩ (fun a k q => hf7 a k (by omega) (by omega) (by omega) (by omega) (by omega)) (fun a k q => fL a (by omega) (by omega) k)⟩
def zL_2 : List (Nat × Nat × Nat) := [(119, 1, 121), (119, 2, 122), (119, 3, 123), (119, 4, 124), (119, 5, 125), (119, 6, 126), (119, 7, 127), (119, 8, 128), (119, 9, 129), (119, 10, 130), (119, 11, 131), (119, 12, 132), (119, 13, 133), (119, 14, 134), (119, 15, 135), (119, 16, 136), (119, 17, 137), (119, 18, 138), (119, 19, 139), (119, 20, 140), (119, 21, 141), (119, 22, 142), (119, 23, 143), (119, 24, 144), (119, 25, 145), (119, 26, 146), (119, 27, 147), (119, 28, 148), (119, 31, 149), (119, 33, 150), (119, 34, 151), (119, 35, 152), (119, 36, 153), (119, 37, 154)]
def zR_2 : ZMr := zRL zL_2 zR_1
theorem zR2_c : ∀ k, k < 38 → zR_2 119 k = zR0 119 k := by decide +kernel
theorem zR2_b : zRb zR_2 := fun k => by
  rcases Nat.lt_or_ge k 38 with h | h
  · exact zR2_c k h
  · rw [zR0_z (by decide) (by rw [if_pos rfl]; exact h)]
    exact zRL_hi (b := 38) (fun a j hj => zRL_hi (b := 12) (fun _ _ _ => rfl) (by decide +kernel) a j (by omega)) (by decide +kernel) 119 k h
theorem zR2_n {a : Nat} (ha : a ≠ 119) (k : Nat) : zR_2 a k = zR_1 a k := zRL_na (by decide +kernel) a ha k
theorem zR2_a : zRa zR_2 := ⟨fun a h1 h2 k => (zR2_n (by omega) k).trans (zR1_a.1 a h1 h2 k), fun k hk => (zR2_n (by decide) k).trans (zR1_a.2 k hk)⟩
theorem zRI_2 : zRI zR_2 39 79 := ⟨zR2_a, zR2_b, (zR2_n (by decide) 9).trans zR1_9, (zR2_n (by decide) 10).trans zR1_10, Or.inl rfl, Or.inr rfl, by decide⟩
theorem zK2_b {N : Nat} : zKb (zKr N 152) := fun a h1 h2 => by
  rw [zKr_lt (by omega)]
  unfold zKg
  rw [if_neg (by omega), if_neg (by omega), if_pos (by omega)]
def zNs0 (I I2 : ZMi) : Prop := (∀ x j, ¬ ((x = 121 ∨ x = 124 ∨ x = 133 ∨ x = 135 ∨ x = 137) ∧ j = 0) → ¬ (x = 136 ∧ 18 * 0 ≤ j ∧ j < 18 * 0 + 18) → ¬ (x = 141 ∧ 3 * 0 ≤ j ∧ j < 3 * 0 + 3) → ¬ (x = 142 ∧ 5 * 0 ≤ j ∧ j < 5 * 0 + 5) → I2 x j = I x j) ∧ (I2 121 0 = 0 ∧ I2 124 0 = 0 ∧ I2 133 0 = 0 ∧ I2 135 0 = 0 ∧ I2 137 0 = 0) ∧ (∀ i, i < 18 → I2 136 (18 * 0 + i) = 0) ∧ (∀ i, i < 3 → I2 141 (3 * 0 + i) = 20) ∧ (∀ i, i < 5 → I2 142 (5 * 0 + i) = 5)
def zNs1 (I I2 : ZMi) : Prop := (∀ x j, ¬ (130 ≤ x ∧ x ≤ 132 ∧ j = 0) → ¬ (x = 134 ∧ 3 * 0 ≤ j ∧ j < 3 * 0 + 3) → I2 x j = I x j) ∧ I2 130 0 = 10 ∧ I2 131 0 = 0 ∧ I2 132 0 = 1 ∧ (∀ t, t < 3 → I2 134 (3 * 0 + t) = 0)
abbrev zJn1 (I : ZMi) : ZMi := zup (zup (zup (zup I 121 0 1) 122 0 10) 123 0 99) 124 0 1
abbrev zFn1 (I : ZMi) : ZMi := zup (zup (zup I 128 0 5) 133 0 1) 134 0 30
theorem zMI_0 {I I1 I2 : ZMi} (hI : ∀ a, 119 ≤ a → ∀ j, I a j = 0) (g1 : zNs0 I I1) (g2 : zNs1 (zJn1 I1) I2) : zMI (zFn1 I2) zS_3 1 1 0 0 zT0_ 0 zA0 0 0 zA0 0 zA0 ∧ zfM I (zFn1 I2) := by
  obtain ⟨f0, ⟨b1, b2, b3, b4, b5⟩, f2, f3, f4⟩ := g1
  obtain ⟨p0, p1, p2, p3, p4⟩ := g2
  have hF : ∀ a k, a ≠ 128 → a ≠ 133 → a ≠ 134 → zFn1 I2 a k = I2 a k := fun a k h1 h2 h3 => (zup_na _ _ _ _ h3).trans ((zup_na _ _ _ _ h2).trans (zup_na _ _ _ _ h1))
  have hG : ∀ a k, a ≠ 128 → a ≠ 133 → a ≠ 134 → a ≠ 130 → a ≠ 131 → a ≠ 132 → zFn1 I2 a k = zJn1 I1 a k := fun a k h1 h2 h3 h4 h5 h6 => (hF a k h1 h2 h3).trans (p0 a k (by omega) (by omega))
  have hJ : ∀ a k, a ≠ 121 → a ≠ 122 → a ≠ 123 → a ≠ 124 → zJn1 I1 a k = I1 a k := fun a k h1 h2 h3 h4 => (zup_na _ _ _ _ h4).trans ((zup_na _ _ _ _ h3).trans ((zup_na _ _ _ _ h2).trans (zup_na _ _ _ _ h1)))
  have hH : ∀ a k, a ≠ 121 → a ≠ 122 → a ≠ 123 → a ≠ 124 → a ≠ 128 → a ≠ 133 → a ≠ 134 → a ≠ 130 → a ≠ 131 → a ≠ 132 → zFn1 I2 a k = I1 a k := fun a k h1 h2 h3 h4 h5 h6 h7 h8 h9 h10 => (hG a k h5 h6 h7 h8 h9 h10).trans (hJ a k h1 h2 h3 h4)
  have h0 : ∀ a k, 119 ≤ a → a ≠ 121 → a ≠ 124 → a ≠ 133 → a ≠ 135 → a ≠ 136 → a ≠ 137 → a ≠ 141 → a ≠ 142 → I1 a k = 0 := fun a k h1 h2 h3 h4 h5 h6 h7 h8 h9 => (f0 a k (by omega) (by omega) (by omega) (by omega)).trans (hI a h1 k)
  refine ⟨⟨⟨?_, ?_, ?_, fun s hs => ?_, fun p hp => ⟨fun j h1 h2 => ?_, fun t ht => ?_⟩, fun i hi => absurd hi (Nat.not_lt_zero i), fun t ht => ?_, fun k hk => ?_⟩, ⟨?_, fun i hi => absurd hi (Nat.not_lt_zero i)⟩, ⟨?_, fun i hi => absurd hi (Nat.not_lt_zero i)⟩, ?_, fun q => absurd q (by decide), fun q => absurd q (by decide)⟩, fun a k ha => ?_⟩
  · exact (hG 121 0 (by decide) (by decide) (by decide) (by decide) (by decide) (by decide)).trans ((zup_na _ _ _ _ (by decide)).trans ((zup_na _ _ _ _ (by decide)).trans ((zup_na _ _ _ _ (by decide)).trans (zup_s _ _ _ _))))
  · exact (hG 124 0 (by decide) (by decide) (by decide) (by decide) (by decide) (by decide)).trans (zup_s _ _ _ _)
  · exact (hH 137 0 (by decide) (by decide) (by decide) (by decide) (by decide) (by decide) (by decide) (by decide) (by decide) (by decide)).trans b5
  · have e : s = 0 := by omega
    subst e
    refine ⟨?_, ?_, fun t ht => ?_⟩
    · exact (hG 122 0 (by decide) (by decide) (by decide) (by decide) (by decide) (by decide)).trans ((zup_na _ _ _ _ (by decide)).trans ((zup_na _ _ _ _ (by decide)).trans (zup_s _ _ _ _)))
    · exact (hG 123 0 (by decide) (by decide) (by decide) (by decide) (by decide) (by decide)).trans ((zup_na _ _ _ _ (by decide)).trans (zup_s _ _ _ _))
    · rcases (show t = 0 ∨ t = 1 ∨ t = 2 by omega) with rfl | rfl | rfl
      · exact (hH 136 _ (by decide) (by decide) (by decide) (by decide) (by decide) (by decide) (by decide) (by decide) (by decide) (by decide)).trans ((f2 0 (by decide)).trans (by decide +kernel))
      · exact (hH 136 _ (by decide) (by decide) (by decide) (by decide) (by decide) (by decide) (by decide) (by decide) (by decide) (by decide)).trans ((f2 1 (by decide)).trans (by decide +kernel))
      · exact (hH 136 _ (by decide) (by decide) (by decide) (by decide) (by decide) (by decide) (by decide) (by decide) (by decide) (by decide)).trans ((f2 2 (by decide)).trans (by decide +kernel))
  · have e : p = 0 := by omega
    subst e
    rcases (show j = 1 ∨ j = 2 ∨ j = 3 ∨ j = 4 ∨ j = 5 ∨ j = 6 ∨ j = 7 ∨ j = 8 by omega) with rfl | rfl | rfl | rfl | rfl | rfl | rfl | rfl
    · exact (hH 125 _ (by decide) (by decide) (by decide) (by decide) (by decide) (by decide) (by decide) (by decide) (by decide) (by decide)).trans ((h0 125 _ (by decide) (by decide) (by decide) (by decide) (by decide) (by decide) (by decide) (by decide) (by decide)).trans (by decide +kernel))
    · exact (hH 126 _ (by decide) (by decide) (by decide) (by decide) (by decide) (by decide) (by decide) (by decide) (by decide) (by decide)).trans ((h0 126 _ (by decide) (by decide) (by decide) (by decide) (by decide) (by decide) (by decide) (by decide) (by decide)).trans (by decide +kernel))
    · exact (hH 127 _ (by decide) (by decide) (by decide) (by decide) (by decide) (by decide) (by decide) (by decide) (by decide) (by decide)).trans ((h0 127 _ (by decide) (by decide) (by decide) (by decide) (by decide) (by decide) (by decide) (by decide) (by decide)).trans (by decide +kernel))
    · exact ((zup_na _ _ _ _ (by decide)).trans ((zup_na _ _ _ _ (by decide)).trans (zup_s _ _ _ _))).trans (by decide +kernel)
    · exact (hH 129 _ (by decide) (by decide) (by decide) (by decide) (by decide) (by decide) (by decide) (by decide) (by decide) (by decide)).trans ((h0 129 _ (by decide) (by decide) (by decide) (by decide) (by decide) (by decide) (by decide) (by decide) (by decide)).trans (by decide +kernel))
    · exact (hF 130 _ (by decide) (by decide) (by decide)).trans (p1.trans (by decide +kernel))
    · exact (hF 131 _ (by decide) (by decide) (by decide)).trans (p2.trans (by decide +kernel))
    · exact (hF 132 _ (by decide) (by decide) (by decide)).trans (p3.trans (by decide +kernel))
  · have e : p = 0 := by omega
    subst e
    have hn : ∀ j, 1 ≤ j → zFn1 I2 134 j = I2 134 j := fun j hj => (zup_nk _ _ _ _ (by omega)).trans ((zup_na _ _ _ _ (by decide)).trans (zup_na _ _ _ _ (by decide)))
    rcases (show t = 0 ∨ t = 1 ∨ t = 2 by omega) with rfl | rfl | rfl
    · exact (zup_s _ _ _ _).trans (by decide +kernel)
    · exact (hn 1 (by decide)).trans ((p4 1 (by decide)).trans (by decide +kernel))
    · exact (hn 2 (by decide)).trans ((p4 2 (by decide)).trans (by decide +kernel))
  · exact (hH 141 _ (by decide) (by decide) (by decide) (by decide) (by decide) (by decide) (by decide) (by decide) (by decide) (by decide)).trans ((f3 t ht).trans (by rcases (show t = 0 ∨ t = 1 ∨ t = 2 by omega) with rfl | rfl | rfl <;> decide +kernel))
  · exact (hH 142 _ (by decide) (by decide) (by decide) (by decide) (by decide) (by decide) (by decide) (by decide) (by decide) (by decide)).trans ((f4 k hk).trans (by rcases (show k = 0 ∨ k = 1 ∨ k = 2 ∨ k = 3 ∨ k = 4 by omega) with rfl | rfl | rfl | rfl | rfl <;> decide +kernel))
  · exact (hH 143 _ (by decide) (by decide) (by decide) (by decide) (by decide) (by decide) (by decide) (by decide) (by decide) (by decide)).trans (h0 143 _ (by decide) (by decide) (by decide) (by decide) (by decide) (by decide) (by decide) (by decide) (by decide))
  · exact (hH 119 _ (by decide) (by decide) (by decide) (by decide) (by decide) (by decide) (by decide) (by decide) (by decide) (by decide)).trans (h0 119 _ (by decide) (by decide) (by decide) (by decide) (by decide) (by decide) (by decide) (by decide) (by decide))
  · exact (hH 119 _ (by decide) (by decide) (by decide) (by decide) (by decide) (by decide) (by decide) (by decide) (by decide) (by decide)).trans (h0 119 _ (by decide) (by decide) (by decide) (by decide) (by decide) (by decide) (by decide) (by decide) (by decide))
  · exact (hH a k (by omega) (by omega) (by omega) (by omega) (by omega) (by omega) (by omega) (by omega) (by omega) (by omega)).trans (f0 a k (by omega) (by omega) (by omega) (by omega))
set_option maxRecDepth 100000 in
set_option maxHeartbeats 4000000 in
theorem c_104 {l : Launch} {dC : Nat → ClassId} {dI : Nat → Nat → Nat} {cA : Nat → ClassId} {N : Nat} {E : ZMi} {A : Nat → Prop} {I : ZMi} {L : ZMl} {Q : Nat → ZMi → ZMl → ZMr → Prop} (hI : ∀ a, 119 ≤ a → ∀ j, I a j = 0) (hL : ∀ a, 119 ≤ a → ∀ j, L a j = 0) (h : ∀ I2, zMI I2 zS_3 1 1 0 0 zT0_ 0 zA0 0 0 zA0 0 zA0 → zfM I I2 → Q 152 I2 L zR_2) : zSG l dC dI cA N E A 104 34 1422 0 0 118 0 [.ref 119] [] I L zR_1 (zFr 104 34 1422 Q) := by
  have hR0 := zRi_w (m' := 120) zR1_i (by decide)
  refine g_al dg104_0 rfl rfl ?_
  refine g_oi (own := "HummingSetModel") rfl zgm_HummingSetModel_1 zgoi_i zgoi_c (Nat.le_of_ble_eq_true rfl) rfl dg104_1 ?_
  refine g_al dg104_4 rfl rfl ?_
  refine g_si (v := 400) dg104_5 (by decide) ?_
  refine g_na (kd := 20) (t0 := 0) (len := 400) (ty := .int) rfl (Or.inl rfl) rfl (by decide) (fun _ => rfl) zgac_int (by decide) (by decide) (by decide) (zKg_c (by decide +kernel) (by decide +kernel)) (zvL_all ⟨zvk_r (by decide), trivial⟩) (zvL_all ⟨zvk_r (by decide), trivial⟩) (fun a j => hR0.1 a j) (hI _ (by decide)) (by decide) (by decide) dg104_8 ?_
  refine zg_al (q := 120) (n' := 119) (c' := 1) (s' := 400) (pc' := 10) rfl rfl rfl rfl rfl ?_
  have hR1 := zRi_w (m' := 121) hR0 (by decide)
  refine g_pRF (j := 1) zo12 (by decide) (own := "HummingSetModel") rfl (by decide) zgf_HummingSetModel_7 rfl rfl rfl ⟨rfl, fun _ => ⟨rfl, rfl⟩⟩ dg104_10 (zKr_f (by decide +kernel) (by decide +kernel)) ?_
  have hR2 := zRi_up (a := 119) (j := 1) (x := 120 + 1) (m' := 121) hR1 (by decide) (by decide) (by decide) (by decide)
  refine g_al dg104_13 rfl rfl ?_
  refine g_ic (v := 2) dg104_14 (by decide) ?_
  refine g_na (kd := 20) (t0 := 0) (len := 2) (ty := .int) rfl (Or.inl rfl) rfl (by decide) (fun _ => rfl) zgac_int (by decide) (by decide) (by decide) (zKg_c (by decide +kernel) (by decide +kernel)) (zvL_all ⟨zvk_r (by decide), trivial⟩) (zvL_all ⟨zvk_r (by decide), trivial⟩) (fun a j => hR2.1 a j) (hI _ (by decide)) (by decide) (by decide) dg104_15 ?_
  refine zg_al (q := 121) (n' := 120) (c' := 2) (s' := 402) (pc' := 17) rfl rfl rfl rfl rfl ?_
  have hR3 := zRi_w (m' := 122) hR2 (by decide)
  refine zg_n (n' := 120) (c' := 2) (s' := 402) (pc' := 17) rfl rfl rfl rfl ?_
  refine g_pRF (j := 2) zo12 (by decide) (own := "HummingSetModel") rfl (by decide) zgf_HummingSetModel_13 rfl rfl rfl ⟨rfl, fun _ => ⟨rfl, rfl⟩⟩ dg104_17 (zKr_f (by decide +kernel) (by decide +kernel)) ?_
  have hR4 := zRi_up (a := 119) (j := 2) (x := 121 + 1) (m' := 122) hR3 (by decide) (by decide) (by decide) (by decide)
  refine g_al dg104_20 rfl rfl ?_
  refine g_bi (v := 12) dg104_21 (by decide) ?_
  refine g_na (kd := 20) (t0 := 0) (len := 12) (ty := .int) rfl (Or.inl rfl) rfl (by decide) (fun _ => rfl) zgac_int (by decide) (by decide) (by decide) (zKg_c (by decide +kernel) (by decide +kernel)) (zvL_all ⟨zvk_r (by decide), trivial⟩) (zvL_all ⟨zvk_r (by decide), trivial⟩) (fun a j => hR4.1 a j) (hI _ (by decide)) (by decide) (by decide) dg104_23 ?_
  refine zg_al (q := 122) (n' := 121) (c' := 3) (s' := 414) (pc' := 25) rfl rfl rfl rfl rfl ?_
  have hR5 := zRi_w (m' := 123) hR4 (by decide)
  refine g_pRF (j := 3) zo12 (by decide) (own := "HummingSetModel") rfl (by decide) zgf_HummingSetModel_16 rfl rfl rfl ⟨rfl, fun _ => ⟨rfl, rfl⟩⟩ dg104_25 (zKr_f (by decide +kernel) (by decide +kernel)) ?_
  have hR6 := zRi_up (a := 119) (j := 3) (x := 122 + 1) (m' := 123) hR5 (by decide) (by decide) (by decide) (by decide)
  refine g_al dg104_28 rfl rfl ?_
  refine g_bi (v := 12) dg104_29 (by decide) ?_
  refine g_na (kd := 20) (t0 := 0) (len := 12) (ty := .int) rfl (Or.inl rfl) rfl (by decide) (fun _ => rfl) zgac_int (by decide) (by decide) (by decide) (zKg_c (by decide +kernel) (by decide +kernel)) (zvL_all ⟨zvk_r (by decide), trivial⟩) (zvL_all ⟨zvk_r (by decide), trivial⟩) (fun a j => hR6.1 a j) (hI _ (by decide)) (by decide) (by decide) dg104_31 ?_
  refine zg_al (q := 123) (n' := 122) (c' := 4) (s' := 426) (pc' := 33) rfl rfl rfl rfl rfl ?_
  have hR7 := zRi_w (m' := 124) hR6 (by decide)
  refine g_pRF (j := 4) zo12 (by decide) (own := "HummingSetModel") rfl (by decide) zgf_HummingSetModel_19 rfl rfl rfl ⟨rfl, fun _ => ⟨rfl, rfl⟩⟩ dg104_33 (zKr_f (by decide +kernel) (by decide +kernel)) ?_
  have hR8 := zRi_up (a := 119) (j := 4) (x := 123 + 1) (m' := 124) hR7 (by decide) (by decide) (by decide) (by decide)
  refine g_al dg104_36 rfl rfl ?_
  refine zg_n (n' := 122) (c' := 4) (s' := 426) (pc' := 37) rfl rfl rfl rfl ?_
  refine g_ic (v := 2) dg104_37 (by decide) ?_
  refine g_na (kd := 20) (t0 := 0) (len := 2) (ty := .int) rfl (Or.inl rfl) rfl (by decide) (fun _ => rfl) zgac_int (by decide) (by decide) (by decide) (zKg_c (by decide +kernel) (by decide +kernel)) (zvL_all ⟨zvk_r (by decide), trivial⟩) (zvL_all ⟨zvk_r (by decide), trivial⟩) (fun a j => hR8.1 a j) (hI _ (by decide)) (by decide) (by decide) dg104_38 ?_
  refine zg_al (q := 124) (n' := 123) (c' := 5) (s' := 428) (pc' := 40) rfl rfl rfl rfl rfl ?_
  have hR9 := zRi_w (m' := 125) hR8 (by decide)
  refine g_pRF (j := 5) zo12 (by decide) (own := "HummingSetModel") rfl (by decide) zgf_HummingSetModel_22 rfl rfl rfl ⟨rfl, fun _ => ⟨rfl, rfl⟩⟩ dg104_40 (zKr_f (by decide +kernel) (by decide +kernel)) ?_
  have hR10 := zRi_up (a := 119) (j := 5) (x := 124 + 1) (m' := 125) hR9 (by decide) (by decide) (by decide) (by decide)
  refine g_al dg104_43 rfl rfl ?_
  refine g_bi (v := 16) dg104_44 (by decide) ?_
  refine g_na (kd := 20) (t0 := 0) (len := 16) (ty := .int) rfl (Or.inl rfl) rfl (by decide) (fun _ => rfl) zgac_int (by decide) (by decide) (by decide) (zKg_c (by decide +kernel) (by decide +kernel)) (zvL_all ⟨zvk_r (by decide), trivial⟩) (zvL_all ⟨zvk_r (by decide), trivial⟩) (fun a j => hR10.1 a j) (hI _ (by decide)) (by decide) (by decide) dg104_46 ?_
  refine zg_al (q := 125) (n' := 124) (c' := 6) (s' := 444) (pc' := 48) rfl rfl rfl rfl rfl ?_
  have hR11 := zRi_w (m' := 126) hR10 (by decide)
  refine g_pRF (j := 6) zo12 (by decide) (own := "HummingSetModel") rfl (by decide) zgf_HummingSetModel_25 rfl rfl rfl ⟨rfl, fun _ => ⟨rfl, rfl⟩⟩ dg104_48 (zKr_f (by decide +kernel) (by decide +kernel)) ?_
  have hR12 := zRi_up (a := 119) (j := 6) (x := 125 + 1) (m' := 126) hR11 (by decide) (by decide) (by decide) (by decide)
  refine g_al dg104_51 rfl rfl ?_
  refine g_bi (v := 16) dg104_52 (by decide) ?_
  refine g_na (kd := 20) (t0 := 0) (len := 16) (ty := .int) rfl (Or.inl rfl) rfl (by decide) (fun _ => rfl) zgac_int (by decide) (by decide) (by decide) (zKg_c (by decide +kernel) (by decide +kernel)) (zvL_all ⟨zvk_r (by decide), trivial⟩) (zvL_all ⟨zvk_r (by decide), trivial⟩) (fun a j => hR12.1 a j) (hI _ (by decide)) (by decide) (by decide) dg104_54 ?_
  refine zg_al (q := 126) (n' := 125) (c' := 7) (s' := 460) (pc' := 56) rfl rfl rfl rfl rfl ?_
  have hR13 := zRi_w (m' := 127) hR12 (by decide)
  refine zg_n (n' := 125) (c' := 7) (s' := 460) (pc' := 56) rfl rfl rfl rfl ?_
  refine g_pRF (j := 7) zo12 (by decide) (own := "HummingSetModel") rfl (by decide) zgf_HummingSetModel_28 rfl rfl rfl ⟨rfl, fun _ => ⟨rfl, rfl⟩⟩ dg104_56 (zKr_f (by decide +kernel) (by decide +kernel)) ?_
  have hR14 := zRi_up (a := 119) (j := 7) (x := 126 + 1) (m' := 127) hR13 (by decide) (by decide) (by decide) (by decide)
  refine g_al dg104_59 rfl rfl ?_
  refine g_bi (v := 16) dg104_60 (by decide) ?_
  refine g_na (kd := 20) (t0 := 0) (len := 16) (ty := .int) rfl (Or.inl rfl) rfl (by decide) (fun _ => rfl) zgac_int (by decide) (by decide) (by decide) (zKg_c (by decide +kernel) (by decide +kernel)) (zvL_all ⟨zvk_r (by decide), trivial⟩) (zvL_all ⟨zvk_r (by decide), trivial⟩) (fun a j => hR14.1 a j) (hI _ (by decide)) (by decide) (by decide) dg104_62 ?_
  refine zg_al (q := 127) (n' := 126) (c' := 8) (s' := 476) (pc' := 64) rfl rfl rfl rfl rfl ?_
  have hR15 := zRi_w (m' := 128) hR14 (by decide)
  refine g_pRF (j := 8) zo12 (by decide) (own := "HummingSetModel") rfl (by decide) zgf_HummingSetModel_31 rfl rfl rfl ⟨rfl, fun _ => ⟨rfl, rfl⟩⟩ dg104_64 (zKr_f (by decide +kernel) (by decide +kernel)) ?_
  have hR16 := zRi_up (a := 119) (j := 8) (x := 127 + 1) (m' := 128) hR15 (by decide) (by decide) (by decide) (by decide)
  refine g_al dg104_67 rfl rfl ?_
  refine g_bi (v := 16) dg104_68 (by decide) ?_
  refine g_na (kd := 20) (t0 := 0) (len := 16) (ty := .int) rfl (Or.inl rfl) rfl (by decide) (fun _ => rfl) zgac_int (by decide) (by decide) (by decide) (zKg_c (by decide +kernel) (by decide +kernel)) (zvL_all ⟨zvk_r (by decide), trivial⟩) (zvL_all ⟨zvk_r (by decide), trivial⟩) (fun a j => hR16.1 a j) (hI _ (by decide)) (by decide) (by decide) dg104_70 ?_
  refine zg_al (q := 128) (n' := 127) (c' := 9) (s' := 492) (pc' := 72) rfl rfl rfl rfl rfl ?_
  have hR17 := zRi_w (m' := 129) hR16 (by decide)
  refine g_pRF (j := 9) zo12 (by decide) (own := "HummingSetModel") rfl (by decide) zgf_HummingSetModel_34 rfl rfl rfl ⟨rfl, fun _ => ⟨rfl, rfl⟩⟩ dg104_72 (zKr_f (by decide +kernel) (by decide +kernel)) ?_
  have hR18 := zRi_up (a := 119) (j := 9) (x := 128 + 1) (m' := 129) hR17 (by decide) (by decide) (by decide) (by decide)
  refine g_al dg104_75 rfl rfl ?_
  refine zg_n (n' := 127) (c' := 9) (s' := 492) (pc' := 76) rfl rfl rfl rfl ?_
  refine g_bi (v := 16) dg104_76 (by decide) ?_
  refine g_na (kd := 20) (t0 := 0) (len := 16) (ty := .int) rfl (Or.inl rfl) rfl (by decide) (fun _ => rfl) zgac_int (by decide) (by decide) (by decide) (zKg_c (by decide +kernel) (by decide +kernel)) (zvL_all ⟨zvk_r (by decide), trivial⟩) (zvL_all ⟨zvk_r (by decide), trivial⟩) (fun a j => hR18.1 a j) (hI _ (by decide)) (by decide) (by decide) dg104_78 ?_
  refine zg_al (q := 129) (n' := 128) (c' := 10) (s' := 508) (pc' := 80) rfl rfl rfl rfl rfl ?_
  have hR19 := zRi_w (m' := 130) hR18 (by decide)
  refine g_pRF (j := 10) zo12 (by decide) (own := "HummingSetModel") rfl (by decide) zgf_HummingSetModel_37 rfl rfl rfl ⟨rfl, fun _ => ⟨rfl, rfl⟩⟩ dg104_80 (zKr_f (by decide +kernel) (by decide +kernel)) ?_
  have hR20 := zRi_up (a := 119) (j := 10) (x := 129 + 1) (m' := 130) hR19 (by decide) (by decide) (by decide) (by decide)
  refine g_al dg104_83 rfl rfl ?_
  refine g_bi (v := 16) dg104_84 (by decide) ?_
  refine g_na (kd := 20) (t0 := 0) (len := 16) (ty := .int) rfl (Or.inl rfl) rfl (by decide) (fun _ => rfl) zgac_int (by decide) (by decide) (by decide) (zKg_c (by decide +kernel) (by decide +kernel)) (zvL_all ⟨zvk_r (by decide), trivial⟩) (zvL_all ⟨zvk_r (by decide), trivial⟩) (fun a j => hR20.1 a j) (hI _ (by decide)) (by decide) (by decide) dg104_86 ?_
  refine zg_al (q := 130) (n' := 129) (c' := 11) (s' := 524) (pc' := 88) rfl rfl rfl rfl rfl ?_
  have hR21 := zRi_w (m' := 131) hR20 (by decide)
  refine g_pRF (j := 11) zo12 (by decide) (own := "HummingSetModel") rfl (by decide) zgf_HummingSetModel_40 rfl rfl rfl ⟨rfl, fun _ => ⟨rfl, rfl⟩⟩ dg104_88 (zKr_f (by decide +kernel) (by decide +kernel)) ?_
  have hR22 := zRi_up (a := 119) (j := 11) (x := 130 + 1) (m' := 131) hR21 (by decide) (by decide) (by decide) (by decide)
  refine g_al dg104_91 rfl rfl ?_
  refine g_bi (v := 16) dg104_92 (by decide) ?_
  refine g_na (kd := 20) (t0 := 0) (len := 16) (ty := .int) rfl (Or.inl rfl) rfl (by decide) (fun _ => rfl) zgac_int (by decide) (by decide) (by decide) (zKg_c (by decide +kernel) (by decide +kernel)) (zvL_all ⟨zvk_r (by decide), trivial⟩) (zvL_all ⟨zvk_r (by decide), trivial⟩) (fun a j => hR22.1 a j) (hI _ (by decide)) (by decide) (by decide) dg104_94 ?_
  refine zg_al (q := 131) (n' := 130) (c' := 12) (s' := 540) (pc' := 96) rfl rfl rfl rfl rfl ?_
  have hR23 := zRi_w (m' := 132) hR22 (by decide)
  refine zg_n (n' := 130) (c' := 12) (s' := 540) (pc' := 96) rfl rfl rfl rfl ?_
  refine g_pRF (j := 12) zo12 (by decide) (own := "HummingSetModel") rfl (by decide) zgf_HummingSetModel_43 rfl rfl rfl ⟨rfl, fun _ => ⟨rfl, rfl⟩⟩ dg104_96 (zKr_f (by decide +kernel) (by decide +kernel)) ?_
  have hR24 := zRi_up (a := 119) (j := 12) (x := 131 + 1) (m' := 132) hR23 (by decide) (by decide) (by decide) (by decide)
  refine g_al dg104_99 rfl rfl ?_
  refine g_bi (v := 16) dg104_100 (by decide) ?_
  refine g_na (kd := 20) (t0 := 0) (len := 16) (ty := .int) rfl (Or.inl rfl) rfl (by decide) (fun _ => rfl) zgac_int (by decide) (by decide) (by decide) (zKg_c (by decide +kernel) (by decide +kernel)) (zvL_all ⟨zvk_r (by decide), trivial⟩) (zvL_all ⟨zvk_r (by decide), trivial⟩) (fun a j => hR24.1 a j) (hI _ (by decide)) (by decide) (by decide) dg104_102 ?_
  refine zg_al (q := 132) (n' := 131) (c' := 13) (s' := 556) (pc' := 104) rfl rfl rfl rfl rfl ?_
  have hR25 := zRi_w (m' := 133) hR24 (by decide)
  refine g_pRF (j := 13) zo12 (by decide) (own := "HummingSetModel") rfl (by decide) zgf_HummingSetModel_46 rfl rfl rfl ⟨rfl, fun _ => ⟨rfl, rfl⟩⟩ dg104_104 (zKr_f (by decide +kernel) (by decide +kernel)) ?_
  have hR26 := zRi_up (a := 119) (j := 13) (x := 132 + 1) (m' := 133) hR25 (by decide) (by decide) (by decide) (by decide)
  refine g_al dg104_107 rfl rfl ?_
  refine g_ic (v := 2) dg104_108 (by decide) ?_
  refine g_na (kd := 20) (t0 := 0) (len := 2) (ty := .int) rfl (Or.inl rfl) rfl (by decide) (fun _ => rfl) zgac_int (by decide) (by decide) (by decide) (zKg_c (by decide +kernel) (by decide +kernel)) (zvL_all ⟨zvk_r (by decide), trivial⟩) (zvL_all ⟨zvk_r (by decide), trivial⟩) (fun a j => hR26.1 a j) (hI _ (by decide)) (by decide) (by decide) dg104_109 ?_
  refine zg_al (q := 133) (n' := 132) (c' := 14) (s' := 558) (pc' := 111) rfl rfl rfl rfl rfl ?_
  have hR27 := zRi_w (m' := 134) hR26 (by decide)
  refine g_pRF (j := 14) zo12 (by decide) (own := "HummingSetModel") rfl (by decide) zgf_HummingSetModel_49 rfl rfl rfl ⟨rfl, fun _ => ⟨rfl, rfl⟩⟩ dg104_111 (zKr_f (by decide +kernel) (by decide +kernel)) ?_
  have hR28 := zRi_up (a := 119) (j := 14) (x := 133 + 1) (m' := 134) hR27 (by decide) (by decide) (by decide) (by decide)
  refine g_al dg104_114 rfl rfl ?_
  refine zg_n (n' := 132) (c' := 14) (s' := 558) (pc' := 115) rfl rfl rfl rfl ?_
  refine g_bi (v := 48) dg104_115 (by decide) ?_
  refine g_na (kd := 20) (t0 := 0) (len := 48) (ty := .int) rfl (Or.inl rfl) rfl (by decide) (fun _ => rfl) zgac_int (by decide) (by decide) (by decide) (zKg_c (by decide +kernel) (by decide +kernel)) (zvL_all ⟨zvk_r (by decide), trivial⟩) (zvL_all ⟨zvk_r (by decide), trivial⟩) (fun a j => hR28.1 a j) (hI _ (by decide)) (by decide) (by decide) dg104_117 ?_
  refine zg_al (q := 134) (n' := 133) (c' := 15) (s' := 606) (pc' := 119) rfl rfl rfl rfl rfl ?_
  have hR29 := zRi_w (m' := 135) hR28 (by decide)
  refine g_pRF (j := 15) zo12 (by decide) (own := "HummingSetModel") rfl (by decide) zgf_HummingSetModel_52 rfl rfl rfl ⟨rfl, fun _ => ⟨rfl, rfl⟩⟩ dg104_119 (zKr_f (by decide +kernel) (by decide +kernel)) ?_
  have hR30 := zRi_up (a := 119) (j := 15) (x := 134 + 1) (m' := 135) hR29 (by decide) (by decide) (by decide) (by decide)
  refine g_al dg104_122 rfl rfl ?_
  refine g_ic (v := 2) dg104_123 (by decide) ?_
  refine g_na (kd := 20) (t0 := 0) (len := 2) (ty := .int) rfl (Or.inl rfl) rfl (by decide) (fun _ => rfl) zgac_int (by decide) (by decide) (by decide) (zKg_c (by decide +kernel) (by decide +kernel)) (zvL_all ⟨zvk_r (by decide), trivial⟩) (zvL_all ⟨zvk_r (by decide), trivial⟩) (fun a j => hR30.1 a j) (hI _ (by decide)) (by decide) (by decide) dg104_124 ?_
  refine zg_al (q := 135) (n' := 134) (c' := 16) (s' := 608) (pc' := 126) rfl rfl rfl rfl rfl ?_
  have hR31 := zRi_w (m' := 136) hR30 (by decide)
  refine g_pRF (j := 16) zo12 (by decide) (own := "HummingSetModel") rfl (by decide) zgf_HummingSetModel_55 rfl rfl rfl ⟨rfl, fun _ => ⟨rfl, rfl⟩⟩ dg104_126 (zKr_f (by decide +kernel) (by decide +kernel)) ?_
  have hR32 := zRi_up (a := 119) (j := 16) (x := 135 + 1) (m' := 136) hR31 (by decide) (by decide) (by decide) (by decide)
  refine g_al dg104_129 rfl rfl ?_
  refine g_bi (v := 36) dg104_130 (by decide) ?_
  refine g_na (kd := 20) (t0 := 0) (len := 36) (ty := .int) rfl (Or.inl rfl) rfl (by decide) (fun _ => rfl) zgac_int (by decide) (by decide) (by decide) (zKg_c (by decide +kernel) (by decide +kernel)) (zvL_all ⟨zvk_r (by decide), trivial⟩) (zvL_all ⟨zvk_r (by decide), trivial⟩) (fun a j => hR32.1 a j) (hI _ (by decide)) (by decide) (by decide) dg104_132 ?_
  refine zg_al (q := 136) (n' := 135) (c' := 17) (s' := 644) (pc' := 134) rfl rfl rfl rfl rfl ?_
  have hR33 := zRi_w (m' := 137) hR32 (by decide)
  refine zg_n (n' := 135) (c' := 17) (s' := 644) (pc' := 134) rfl rfl rfl rfl ?_
  refine g_pRF (j := 17) zo12 (by decide) (own := "HummingSetModel") rfl (by decide) zgf_HummingSetModel_58 rfl rfl rfl ⟨rfl, fun _ => ⟨rfl, rfl⟩⟩ dg104_134 (zKr_f (by decide +kernel) (by decide +kernel)) ?_
  have hR34 := zRi_up (a := 119) (j := 17) (x := 136 + 1) (m' := 137) hR33 (by decide) (by decide) (by decide) (by decide)
  refine g_al dg104_137 rfl rfl ?_
  refine g_ic (v := 2) dg104_138 (by decide) ?_
  refine g_na (kd := 20) (t0 := 0) (len := 2) (ty := .int) rfl (Or.inl rfl) rfl (by decide) (fun _ => rfl) zgac_int (by decide) (by decide) (by decide) (zKg_c (by decide +kernel) (by decide +kernel)) (zvL_all ⟨zvk_r (by decide), trivial⟩) (zvL_all ⟨zvk_r (by decide), trivial⟩) (fun a j => hR34.1 a j) (hI _ (by decide)) (by decide) (by decide) dg104_139 ?_
  refine zg_al (q := 137) (n' := 136) (c' := 18) (s' := 646) (pc' := 141) rfl rfl rfl rfl rfl ?_
  have hR35 := zRi_w (m' := 138) hR34 (by decide)
  refine g_pRF (j := 18) zo12 (by decide) (own := "HummingSetModel") rfl (by decide) zgf_HummingSetModel_61 rfl rfl rfl ⟨rfl, fun _ => ⟨rfl, rfl⟩⟩ dg104_141 (zKr_f (by decide +kernel) (by decide +kernel)) ?_
  have hR36 := zRi_up (a := 119) (j := 18) (x := 137 + 1) (m' := 138) hR35 (by decide) (by decide) (by decide) (by decide)
  refine g_al dg104_144 rfl rfl ?_
  refine g_bi (v := 12) dg104_145 (by decide) ?_
  refine g_na (kd := 20) (t0 := 0) (len := 12) (ty := .int) rfl (Or.inl rfl) rfl (by decide) (fun _ => rfl) zgac_int (by decide) (by decide) (by decide) (zKg_c (by decide +kernel) (by decide +kernel)) (zvL_all ⟨zvk_r (by decide), trivial⟩) (zvL_all ⟨zvk_r (by decide), trivial⟩) (fun a j => hR36.1 a j) (hI _ (by decide)) (by decide) (by decide) dg104_147 ?_
  refine zg_al (q := 138) (n' := 137) (c' := 19) (s' := 658) (pc' := 149) rfl rfl rfl rfl rfl ?_
  have hR37 := zRi_w (m' := 139) hR36 (by decide)
  refine g_pRF (j := 19) zo12 (by decide) (own := "HummingSetModel") rfl (by decide) zgf_HummingSetModel_64 rfl rfl rfl ⟨rfl, fun _ => ⟨rfl, rfl⟩⟩ dg104_149 (zKr_f (by decide +kernel) (by decide +kernel)) ?_
  have hR38 := zRi_up (a := 119) (j := 19) (x := 138 + 1) (m' := 139) hR37 (by decide) (by decide) (by decide) (by decide)
  refine g_al dg104_152 rfl rfl ?_
  refine zg_n (n' := 137) (c' := 19) (s' := 658) (pc' := 153) rfl rfl rfl rfl ?_
  refine g_bi (v := 12) dg104_153 (by decide) ?_
  refine g_na (kd := 20) (t0 := 0) (len := 12) (ty := .int) rfl (Or.inl rfl) rfl (by decide) (fun _ => rfl) zgac_int (by decide) (by decide) (by decide) (zKg_c (by decide +kernel) (by decide +kernel)) (zvL_all ⟨zvk_r (by decide), trivial⟩) (zvL_all ⟨zvk_r (by decide), trivial⟩) (fun a j => hR38.1 a j) (hI _ (by decide)) (by decide) (by decide) dg104_155 ?_
  refine zg_al (q := 139) (n' := 138) (c' := 20) (s' := 670) (pc' := 157) rfl rfl rfl rfl rfl ?_
  have hR39 := zRi_w (m' := 140) hR38 (by decide)
  refine g_pRF (j := 20) zo12 (by decide) (own := "HummingSetModel") rfl (by decide) zgf_HummingSetModel_67 rfl rfl rfl ⟨rfl, fun _ => ⟨rfl, rfl⟩⟩ dg104_157 (zKr_f (by decide +kernel) (by decide +kernel)) ?_
  have hR40 := zRi_up (a := 119) (j := 20) (x := 139 + 1) (m' := 140) hR39 (by decide) (by decide) (by decide) (by decide)
  refine g_al dg104_160 rfl rfl ?_
  refine g_bi (v := 12) dg104_161 (by decide) ?_
  refine g_na (kd := 20) (t0 := 0) (len := 12) (ty := .int) rfl (Or.inl rfl) rfl (by decide) (fun _ => rfl) zgac_int (by decide) (by decide) (by decide) (zKg_c (by decide +kernel) (by decide +kernel)) (zvL_all ⟨zvk_r (by decide), trivial⟩) (zvL_all ⟨zvk_r (by decide), trivial⟩) (fun a j => hR40.1 a j) (hI _ (by decide)) (by decide) (by decide) dg104_163 ?_
  refine zg_al (q := 140) (n' := 139) (c' := 21) (s' := 682) (pc' := 165) rfl rfl rfl rfl rfl ?_
  have hR41 := zRi_w (m' := 141) hR40 (by decide)
  refine g_pRF (j := 21) zo12 (by decide) (own := "HummingSetModel") rfl (by decide) zgf_HummingSetModel_70 rfl rfl rfl ⟨rfl, fun _ => ⟨rfl, rfl⟩⟩ dg104_165 (zKr_f (by decide +kernel) (by decide +kernel)) ?_
  have hR42 := zRi_up (a := 119) (j := 21) (x := 140 + 1) (m' := 141) hR41 (by decide) (by decide) (by decide) (by decide)
  refine g_al dg104_168 rfl rfl ?_
  refine g_bi (v := 6) dg104_169 (by decide) ?_
  refine g_na (kd := 20) (t0 := 0) (len := 6) (ty := .int) rfl (Or.inl rfl) rfl (by decide) (fun _ => rfl) zgac_int (by decide) (by decide) (by decide) (zKg_c (by decide +kernel) (by decide +kernel)) (zvL_all ⟨zvk_r (by decide), trivial⟩) (zvL_all ⟨zvk_r (by decide), trivial⟩) (fun a j => hR42.1 a j) (hI _ (by decide)) (by decide) (by decide) dg104_171 ?_
  refine zg_al (q := 141) (n' := 140) (c' := 22) (s' := 688) (pc' := 173) rfl rfl rfl rfl rfl ?_
  have hR43 := zRi_w (m' := 142) hR42 (by decide)
  refine zg_n (n' := 140) (c' := 22) (s' := 688) (pc' := 173) rfl rfl rfl rfl ?_
  refine g_pRF (j := 22) zo12 (by decide) (own := "HummingSetModel") rfl (by decide) zgf_HummingSetModel_73 rfl rfl rfl ⟨rfl, fun _ => ⟨rfl, rfl⟩⟩ dg104_173 (zKr_f (by decide +kernel) (by decide +kernel)) ?_
  have hR44 := zRi_up (a := 119) (j := 22) (x := 141 + 1) (m' := 142) hR43 (by decide) (by decide) (by decide) (by decide)
  refine g_al dg104_176 rfl rfl ?_
  refine g_bi (v := 10) dg104_177 (by decide) ?_
  refine g_na (kd := 20) (t0 := 0) (len := 10) (ty := .int) rfl (Or.inl rfl) rfl (by decide) (fun _ => rfl) zgac_int (by decide) (by decide) (by decide) (zKg_c (by decide +kernel) (by decide +kernel)) (zvL_all ⟨zvk_r (by decide), trivial⟩) (zvL_all ⟨zvk_r (by decide), trivial⟩) (fun a j => hR44.1 a j) (hI _ (by decide)) (by decide) (by decide) dg104_179 ?_
  refine zg_al (q := 142) (n' := 141) (c' := 23) (s' := 698) (pc' := 181) rfl rfl rfl rfl rfl ?_
  have hR45 := zRi_w (m' := 143) hR44 (by decide)
  refine g_pRF (j := 23) zo12 (by decide) (own := "HummingSetModel") rfl (by decide) zgf_HummingSetModel_76 rfl rfl rfl ⟨rfl, fun _ => ⟨rfl, rfl⟩⟩ dg104_181 (zKr_f (by decide +kernel) (by decide +kernel)) ?_
  have hR46 := zRi_up (a := 119) (j := 23) (x := 142 + 1) (m' := 143) hR45 (by decide) (by decide) (by decide) (by decide)
  refine g_al dg104_184 rfl rfl ?_
  refine g_ic (v := 3) dg104_185 (by decide) ?_
  refine g_na (kd := 20) (t0 := 0) (len := 3) (ty := .int) rfl (Or.inl rfl) rfl (by decide) (fun _ => rfl) zgac_int (by decide) (by decide) (by decide) (zKg_c (by decide +kernel) (by decide +kernel)) (zvL_all ⟨zvk_r (by decide), trivial⟩) (zvL_all ⟨zvk_r (by decide), trivial⟩) (fun a j => hR46.1 a j) (hI _ (by decide)) (by decide) (by decide) dg104_186 ?_
  refine zg_al (q := 143) (n' := 142) (c' := 24) (s' := 701) (pc' := 188) rfl rfl rfl rfl rfl ?_
  have hR47 := zRi_w (m' := 144) hR46 (by decide)
  refine g_pRF (j := 24) zo12 (by decide) (own := "HummingSetModel") rfl (by decide) zgf_HummingSetModel_79 rfl rfl rfl ⟨rfl, fun _ => ⟨rfl, rfl⟩⟩ dg104_188 (zKr_f (by decide +kernel) (by decide +kernel)) ?_
  have hR48 := zRi_up (a := 119) (j := 24) (x := 143 + 1) (m' := 144) hR47 (by decide) (by decide) (by decide) (by decide)
  refine g_al dg104_191 rfl rfl ?_
  refine zg_n (n' := 142) (c' := 24) (s' := 701) (pc' := 192) rfl rfl rfl rfl ?_
  refine g_bi (v := 30) dg104_192 (by decide) ?_
  refine g_na (kd := 20) (t0 := 0) (len := 30) (ty := .int) rfl (Or.inl rfl) rfl (by decide) (fun _ => rfl) zgac_int (by decide) (by decide) (by decide) (zKg_c (by decide +kernel) (by decide +kernel)) (zvL_all ⟨zvk_r (by decide), trivial⟩) (zvL_all ⟨zvk_r (by decide), trivial⟩) (fun a j => hR48.1 a j) (hI _ (by decide)) (by decide) (by decide) dg104_194 ?_
  refine zg_al (q := 144) (n' := 143) (c' := 25) (s' := 731) (pc' := 196) rfl rfl rfl rfl rfl ?_
  have hR49 := zRi_w (m' := 145) hR48 (by decide)
  refine g_pRF (j := 25) zo12 (by decide) (own := "HummingSetModel") rfl (by decide) zgf_HummingSetModel_82 rfl rfl rfl ⟨rfl, fun _ => ⟨rfl, rfl⟩⟩ dg104_196 (zKr_f (by decide +kernel) (by decide +kernel)) ?_
  have hR50 := zRi_up (a := 119) (j := 25) (x := 144 + 1) (m' := 145) hR49 (by decide) (by decide) (by decide) (by decide)
  refine g_al dg104_199 rfl rfl ?_
  refine g_bi (v := 30) dg104_200 (by decide) ?_
  refine g_na (kd := 20) (t0 := 0) (len := 30) (ty := .int) rfl (Or.inl rfl) rfl (by decide) (fun _ => rfl) zgac_int (by decide) (by decide) (by decide) (zKg_c (by decide +kernel) (by decide +kernel)) (zvL_all ⟨zvk_r (by decide), trivial⟩) (zvL_all ⟨zvk_r (by decide), trivial⟩) (fun a j => hR50.1 a j) (hI _ (by decide)) (by decide) (by decide) dg104_202 ?_
  refine zg_al (q := 145) (n' := 144) (c' := 26) (s' := 761) (pc' := 204) rfl rfl rfl rfl rfl ?_
  have hR51 := zRi_w (m' := 146) hR50 (by decide)
  refine g_pRF (j := 26) zo12 (by decide) (own := "HummingSetModel") rfl (by decide) zgf_HummingSetModel_85 rfl rfl rfl ⟨rfl, fun _ => ⟨rfl, rfl⟩⟩ dg104_204 (zKr_f (by decide +kernel) (by decide +kernel)) ?_
  have hR52 := zRi_up (a := 119) (j := 26) (x := 145 + 1) (m' := 146) hR51 (by decide) (by decide) (by decide) (by decide)
  refine g_al dg104_207 rfl rfl ?_
  refine g_bi (v := 30) dg104_208 (by decide) ?_
  refine g_na (kd := 20) (t0 := 0) (len := 30) (ty := .int) rfl (Or.inl rfl) rfl (by decide) (fun _ => rfl) zgac_int (by decide) (by decide) (by decide) (zKg_c (by decide +kernel) (by decide +kernel)) (zvL_all ⟨zvk_r (by decide), trivial⟩) (zvL_all ⟨zvk_r (by decide), trivial⟩) (fun a j => hR52.1 a j) (hI _ (by decide)) (by decide) (by decide) dg104_210 ?_
  refine zg_al (q := 146) (n' := 145) (c' := 27) (s' := 791) (pc' := 212) rfl rfl rfl rfl rfl ?_
  have hR53 := zRi_w (m' := 147) hR52 (by decide)
  refine zg_n (n' := 145) (c' := 27) (s' := 791) (pc' := 212) rfl rfl rfl rfl ?_
  refine g_pRF (j := 27) zo12 (by decide) (own := "HummingSetModel") rfl (by decide) zgf_HummingSetModel_88 rfl rfl rfl ⟨rfl, fun _ => ⟨rfl, rfl⟩⟩ dg104_212 (zKr_f (by decide +kernel) (by decide +kernel)) ?_
  have hR54 := zRi_up (a := 119) (j := 27) (x := 146 + 1) (m' := 147) hR53 (by decide) (by decide) (by decide) (by decide)
  refine g_al dg104_215 rfl rfl ?_
  refine g_bi (v := 30) dg104_216 (by decide) ?_
  refine g_na (kd := 20) (t0 := 0) (len := 30) (ty := .int) rfl (Or.inl rfl) rfl (by decide) (fun _ => rfl) zgac_int (by decide) (by decide) (by decide) (zKg_c (by decide +kernel) (by decide +kernel)) (zvL_all ⟨zvk_r (by decide), trivial⟩) (zvL_all ⟨zvk_r (by decide), trivial⟩) (fun a j => hR54.1 a j) (hI _ (by decide)) (by decide) (by decide) dg104_218 ?_
  refine zg_al (q := 147) (n' := 146) (c' := 28) (s' := 821) (pc' := 220) rfl rfl rfl rfl rfl ?_
  have hR55 := zRi_w (m' := 148) hR54 (by decide)
  refine g_pRF (j := 28) zo12 (by decide) (own := "HummingSetModel") rfl (by decide) zgf_HummingSetModel_91 rfl rfl rfl ⟨rfl, fun _ => ⟨rfl, rfl⟩⟩ dg104_220 (zKr_f (by decide +kernel) (by decide +kernel)) ?_
  have hR56 := zRi_up (a := 119) (j := 28) (x := 147 + 1) (m' := 148) hR55 (by decide) (by decide) (by decide) (by decide)
  refine g_al dg104_223 rfl rfl ?_
  refine g_ic (v := 5) dg104_224 (by decide) ?_
  refine g_na (kd := 20) (t0 := 0) (len := 5) (ty := .int) rfl (Or.inl rfl) rfl (by decide) (fun _ => rfl) zgac_int (by decide) (by decide) (by decide) (zKg_c (by decide +kernel) (by decide +kernel)) (zvL_all ⟨zvk_r (by decide), trivial⟩) (zvL_all ⟨zvk_r (by decide), trivial⟩) (fun a j => hR56.1 a j) (hI _ (by decide)) (by decide) (by decide) dg104_225 ?_
  refine zg_al (q := 148) (n' := 147) (c' := 29) (s' := 826) (pc' := 227) rfl rfl rfl rfl rfl ?_
  have hR57 := zRi_w (m' := 149) hR56 (by decide)
  refine g_pRF (j := 31) zo12 (by decide) (own := "HummingSetModel") rfl (by decide) zgf_HummingSetModel_94 rfl rfl rfl ⟨rfl, fun _ => ⟨rfl, rfl⟩⟩ dg104_227 (zKr_f (by decide +kernel) (by decide +kernel)) ?_
  have hR58 := zRi_up (a := 119) (j := 31) (x := 148 + 1) (m' := 149) hR57 (by decide) (by decide) (by decide) (by decide)
  refine g_al dg104_230 rfl rfl ?_
  refine zg_n (n' := 147) (c' := 29) (s' := 826) (pc' := 231) rfl rfl rfl rfl ?_
  refine g_bi (v := 37) dg104_231 (by decide) ?_
  refine g_na (kd := 20) (t0 := 0) (len := 37) (ty := .int) rfl (Or.inl rfl) rfl (by decide) (fun _ => rfl) zgac_int (by decide) (by decide) (by decide) (zKg_c (by decide +kernel) (by decide +kernel)) (zvL_all ⟨zvk_r (by decide), trivial⟩) (zvL_all ⟨zvk_r (by decide), trivial⟩) (fun a j => hR58.1 a j) (hI _ (by decide)) (by decide) (by decide) dg104_233 ?_
  refine zg_al (q := 149) (n' := 148) (c' := 30) (s' := 863) (pc' := 235) rfl rfl rfl rfl rfl ?_
  have hR59 := zRi_w (m' := 150) hR58 (by decide)
  refine g_pRF (j := 33) zo12 (by decide) (own := "HummingSetModel") rfl (by decide) zgf_HummingSetModel_97 rfl rfl rfl ⟨rfl, fun _ => ⟨rfl, rfl⟩⟩ dg104_235 (zKr_f (by decide +kernel) (by decide +kernel)) ?_
  have hR60 := zRi_up (a := 119) (j := 33) (x := 149 + 1) (m' := 150) hR59 (by decide) (by decide) (by decide) (by decide)
  refine g_al dg104_238 rfl rfl ?_
  refine g_bi (v := 37) dg104_239 (by decide) ?_
  refine g_nl (len := 37) zgac_long (by decide) (by decide) (by decide) (zKg_c (by decide +kernel) (by decide +kernel)) (zvL_all ⟨zvk_r (by decide), trivial⟩) (zvL_all ⟨zvk_r (by decide), trivial⟩) (fun a j => hR60.1 a j) (hL _ (by decide)) (by decide) (by decide) dg104_241 ?_
  refine zg_al (q := 150) (n' := 149) (c' := 31) (s' := 900) (pc' := 243) rfl rfl rfl rfl rfl ?_
  have hR61 := zRi_w (m' := 151) hR60 (by decide)
  refine g_pRF (j := 34) zo12 (by decide) (own := "HummingSetModel") rfl (by decide) zgf_HummingSetModel_100 rfl rfl rfl ⟨rfl, fun _ => ⟨rfl, rfl⟩⟩ dg104_243 (zKr_f (by decide +kernel) (by decide +kernel)) ?_
  have hR62 := zRi_up (a := 119) (j := 34) (x := 150 + 1) (m' := 151) hR61 (by decide) (by decide) (by decide) (by decide)
  refine g_al dg104_246 rfl rfl ?_
  refine g_bi (v := 10) dg104_247 (by decide) ?_
  refine g_nl (len := 10) zgac_long (by decide) (by decide) (by decide) (zKg_c (by decide +kernel) (by decide +kernel)) (zvL_all ⟨zvk_r (by decide), trivial⟩) (zvL_all ⟨zvk_r (by decide), trivial⟩) (fun a j => hR62.1 a j) (hL _ (by decide)) (by decide) (by decide) dg104_249 ?_
  refine zg_al (q := 151) (n' := 150) (c' := 32) (s' := 910) (pc' := 251) rfl rfl rfl rfl rfl ?_
  have hR63 := zRi_w (m' := 152) hR62 (by decide)
  refine zg_n (n' := 150) (c' := 32) (s' := 910) (pc' := 251) rfl rfl rfl rfl ?_
  refine g_pRF (j := 35) zo12 (by decide) (own := "HummingSetModel") rfl (by decide) zgf_HummingSetModel_104 rfl rfl rfl ⟨rfl, fun _ => ⟨rfl, rfl⟩⟩ dg104_251 (zKr_f (by decide +kernel) (by decide +kernel)) ?_
  have hR64 := zRi_up (a := 119) (j := 35) (x := 151 + 1) (m' := 152) hR63 (by decide) (by decide) (by decide) (by decide)
  refine g_al dg104_254 rfl rfl ?_
  refine g_si (v := 256) dg104_255 (by decide) ?_
  refine g_nl (len := 256) zgac_long (by decide) (by decide) (by decide) (zKg_c (by decide +kernel) (by decide +kernel)) (zvL_all ⟨zvk_r (by decide), trivial⟩) (zvL_all ⟨zvk_r (by decide), trivial⟩) (fun a j => hR64.1 a j) (hL _ (by decide)) (by decide) (by decide) dg104_258 ?_
  refine zg_al (q := 152) (n' := 151) (c' := 33) (s' := 1166) (pc' := 260) rfl rfl rfl rfl rfl ?_
  have hR65 := zRi_w (m' := 153) hR64 (by decide)
  refine g_pRF (j := 36) zo12 (by decide) (own := "HummingSetModel") rfl (by decide) zgf_HummingSetModel_107 rfl rfl rfl ⟨rfl, fun _ => ⟨rfl, rfl⟩⟩ dg104_260 (zKr_f (by decide +kernel) (by decide +kernel)) ?_
  have hR66 := zRi_up (a := 119) (j := 36) (x := 152 + 1) (m' := 153) hR65 (by decide) (by decide) (by decide) (by decide)
  refine g_al dg104_263 rfl rfl ?_
  refine g_si (v := 256) dg104_264 (by decide) ?_
  refine g_na (kd := 20) (t0 := 0) (len := 256) (ty := .int) rfl (Or.inl rfl) rfl (by decide) (fun _ => rfl) zgac_int (by decide) (by decide) (by decide) (zKg_c (by decide +kernel) (by decide +kernel)) (zvL_all ⟨zvk_r (by decide), trivial⟩) (zvL_all ⟨zvk_r (by decide), trivial⟩) (fun a j => hR66.1 a j) (hI _ (by decide)) (by decide) (by decide) dg104_267 ?_
  refine zg_al (q := 153) (n' := 152) (c' := 34) (s' := 1422) (pc' := 269) rfl rfl rfl rfl rfl ?_
  have hR67 := zRi_w (m' := 154) hR66 (by decide)
  refine g_pRF (j := 37) zo12 (by decide) (own := "HummingSetModel") rfl (by decide) zgf_HummingSetModel_110 rfl rfl rfl ⟨rfl, fun _ => ⟨rfl, rfl⟩⟩ dg104_269 (zKr_f (by decide +kernel) (by decide +kernel)) ?_
  have hR68 := zRi_up (a := 119) (j := 37) (x := 153 + 1) (m' := 154) hR67 (by decide) (by decide) (by decide) (by decide)
  refine zR_eq (R' := zR_2) rfl ?_
  refine zg_n (n' := 152) (c' := 34) (s' := 1422) (pc' := 272) rfl rfl rfl rfl ?_
  refine g_al dg104_272 rfl rfl ?_
  refine zg_n (n' := 152) (c' := 34) (s' := 1422) (pc' := 273) rfl rfl rfl rfl ?_
  refine g_ic (v := 0) dg104_273 (by decide) ?_
  refine g_cVv (k2 := 109) (as := [.int 0]) (r := []) zo12 zw109 rfl zin109 zse109 zca109 (by decide +kernel) (by decide +kernel) zgm_HummingSetModel_113 dg104_274 rfl (zKr_f (by decide +kernel) (by decide +kernel)) rfl (by decide) (by decide) (fun I9 L9 R9 => zNs0 I I9 ∧ L = L9 ∧ zR_2 = R9) (fun P hP Q hq => y_noSet (b := 0) hP zK2_b zR2_b (by decide) (fun I9 g => hq I9 L zR_2 ⟨g, rfl, rfl⟩)) ?_
  rintro I1 _ _ ⟨g1, rfl, rfl⟩
  refine zg_n (n' := 152) (c' := 34) (s' := 1422) (pc' := 277) rfl rfl rfl rfl ?_
  refine g_al dg104_277 rfl rfl ?_
  refine g_gR (j := 2) (x := 121) zo12 (by decide) (own := "HummingSetModel") rfl (Or.inl zgf_HummingSetModel_13) rfl dg104_278 (zKr_f (by decide +kernel) (by decide +kernel)) (zR2_b 2) ?_
  refine g_ic (v := 0) dg104_281 (by decide) ?_
  refine g_ic (v := 1) dg104_282 (by decide) ?_
  refine g_iast (j := 0) (nn := 2) dg104_283 (zKr_c (by decide +kernel) (by decide +kernel)) rfl (by decide) ?_
  refine g_al dg104_284 rfl rfl ?_
  refine g_gR (j := 3) (x := 122) zo12 (by decide) (own := "HummingSetModel") rfl (Or.inl zgf_HummingSetModel_16) rfl dg104_285 (zKr_f (by decide +kernel) (by decide +kernel)) (zR2_b 3) ?_
  refine g_ic (v := 0) dg104_288 (by decide) ?_
  refine zg_n (n' := 152) (c' := 34) (s' := 1422) (pc' := 289) rfl rfl rfl rfl ?_
  refine g_bi (v := 10) dg104_289 (by decide) ?_
  refine g_iast (j := 0) (nn := 12) dg104_291 (zKr_c (by decide +kernel) (by decide +kernel)) rfl (by decide) ?_
  refine g_al dg104_292 rfl rfl ?_
  refine g_gR (j := 4) (x := 123) zo12 (by decide) (own := "HummingSetModel") rfl (Or.inl zgf_HummingSetModel_19) rfl dg104_293 (zKr_f (by decide +kernel) (by decide +kernel)) (zR2_b 4) ?_
  refine g_ic (v := 0) dg104_296 (by decide) ?_
  refine g_bi (v := 99) dg104_297 (by decide) ?_
  refine g_iast (j := 0) (nn := 12) dg104_299 (zKr_c (by decide +kernel) (by decide +kernel)) rfl (by decide) ?_
  refine g_al dg104_300 rfl rfl ?_
  refine g_gR (j := 5) (x := 124) zo12 (by decide) (own := "HummingSetModel") rfl (Or.inl zgf_HummingSetModel_22) rfl dg104_301 (zKr_f (by decide +kernel) (by decide +kernel)) (zR2_b 5) ?_
  refine g_ic (v := 0) dg104_304 (by decide) ?_
  refine zg_n (n' := 152) (c' := 34) (s' := 1422) (pc' := 305) rfl rfl rfl rfl ?_
  refine g_ic (v := 1) dg104_305 (by decide) ?_
  refine g_iast (j := 0) (nn := 2) dg104_306 (zKr_c (by decide +kernel) (by decide +kernel)) rfl (by decide) ?_
  refine g_al dg104_307 rfl rfl ?_
  refine g_ic (v := 0) dg104_308 (by decide) ?_
  refine g_cVv (k2 := 108) (as := [.int 0]) (r := []) zo12 zw108 rfl zin108 zse108 zca108 (by decide +kernel) (by decide +kernel) zgm_HummingSetModel_117 dg104_309 rfl (zKr_f (by decide +kernel) (by decide +kernel)) rfl (by decide) (by decide) (fun I9 L9 R9 => zNs1 (zJn1 I1) I9 ∧ L = L9 ∧ zR_2 = R9) (fun P hP Q hq => y_noPart (k := 0) hP zK2_b zR2_b (by decide) (fun I9 a0 a1 a2 a3 a4 => hq I9 L zR_2 ⟨⟨a0, a1, a2, a3, a4⟩, rfl, rfl⟩)) ?_
  rintro I2 _ _ ⟨g2, rfl, rfl⟩
  refine zg_n (n' := 152) (c' := 34) (s' := 1422) (pc' := 312) rfl rfl rfl rfl ?_
  refine g_al dg104_312 rfl rfl ?_
  refine g_gR (j := 9) (x := 128) zo12 (by decide) (own := "HummingSetModel") rfl (Or.inl zgf_HummingSetModel_34) rfl dg104_313 (zKr_f (by decide +kernel) (by decide +kernel)) (zR2_b 9) ?_
  refine g_ic (v := 0) dg104_316 (by decide) ?_
  refine g_ic (v := 5) dg104_317 (by decide) ?_
  refine g_iast (j := 0) (nn := 16) dg104_318 (zKr_c (by decide +kernel) (by decide +kernel)) rfl (by decide) ?_
  refine zg_n (n' := 152) (c' := 34) (s' := 1422) (pc' := 319) rfl rfl rfl rfl ?_
  refine g_al dg104_319 rfl rfl ?_
  refine g_gR (j := 14) (x := 133) zo12 (by decide) (own := "HummingSetModel") rfl (Or.inl zgf_HummingSetModel_49) rfl dg104_320 (zKr_f (by decide +kernel) (by decide +kernel)) (zR2_b 14) ?_
  refine g_ic (v := 0) dg104_323 (by decide) ?_
  refine g_ic (v := 1) dg104_324 (by decide) ?_
  refine g_iast (j := 0) (nn := 2) dg104_325 (zKr_c (by decide +kernel) (by decide +kernel)) rfl (by decide) ?_
  refine g_al dg104_326 rfl rfl ?_
  refine g_gR (j := 15) (x := 134) zo12 (by decide) (own := "HummingSetModel") rfl (Or.inl zgf_HummingSetModel_52) rfl dg104_327 (zKr_f (by decide +kernel) (by decide +kernel)) (zR2_b 15) ?_
  refine g_ic (v := 0) dg104_330 (by decide) ?_
  refine g_bi (v := 30) dg104_331 (by decide) ?_
  refine g_iast (j := 0) (nn := 48) dg104_333 (zKr_c (by decide +kernel) (by decide +kernel)) rfl (by decide) ?_
  refine zg_n (n' := 152) (c' := 34) (s' := 1422) (pc' := 334) rfl rfl rfl rfl ?_
  exact g_fin ⟨rfl, rfl, rfl, dg104_334, h (zFn1 I2) (zMI_0 hI g1 g2).1 (zMI_0 hI g1 g2).2⟩
