/-! ===== new int[6][3]; the small constructors ===== -/
theorem zKr_mono {N n m a ci : Nat} (h : (zKr N n a).1 = ci) (hc : ci < 30) (hm : n ≤ m) : (zKr N m a).1 = ci := by
  have hr := (zKn_r N n a (by rw [h]; exact hc)).1
  rw [zKr_lt (by omega)]
  rw [zKr_lt hr.2] at h
  exact h
def zRm_ (R : ZMr) (m : Nat) : Prop := ∀ a j, R a j ≤ m
theorem zRm_up {R : ZMr} {m m' a j x : Nat} (h : zRm_ R m) (hx : x ≤ m') (hm : m ≤ m') : zRm_ (zup R a j x) m' := fun b i => by
  unfold zup
  split
  · exact hx
  · exact Nat.le_trans (h b i) hm
def zvL (n : Nat) : List Value → Prop
  | [] => True
  | v :: r => zvk n v ∧ zvL n r
theorem zvk_r {n a : Nat} (h : a < n + 2) : zvk n (.ref a) := h
theorem zvL_all {n : Nat} : ∀ {ls : List Value}, zvL n ls → ∀ v ∈ ls, zvk n v
  | [], _, v, hv => absurd hv List.not_mem_nil
  | w :: r, h, v, hv => by
    rcases List.mem_cons.mp hv with e | hm
    · rw [e]; exact h.1
    · exact zvL_all h.2 v hm
theorem zRm_w {R : ZMr} {m m' : Nat} (h : zRm_ R m) (hm : m ≤ m') : zRm_ R m' := fun b i => Nat.le_trans (h b i) hm
def zR6 (R : ZMr) (n : Nat) : ZMr := fun a j => if a = n + 2 ∧ j < 6 then n + 4 + j else R a j
theorem zarr_ext {c : ClassId} {len : Nat} {f g : Nat → Value} (h : ∀ j, j < len → f j = g j) : arrV c len f = arrV c len g := by
  unfold arrV
  congr 2
  funext j
  exact h j.val j.isLt
theorem zouterI (c : ClassId) (q : Nat) : ∀ i, Jvm.Free.Multi.outerC c 6 q i = arrV c 6 (fun j => if j < i then .ref (q + 1 + j) else .null)
  | 0 => by
    show ({ cls := c, slots := Array.replicate 6 .null, vm := .none } : Cell) = _
    rw [arrV_new]
    exact zarr_ext (fun j _ => by simp)
  | i + 1 => by
    show (Jvm.Free.Multi.outerC c 6 q i).setSlot i (.ref (q + 1 + i)) = _
    rw [zouterI c q i, arrV_store]
    refine zarr_ext (fun j _ => ?_)
    by_cases e : j = i
    · subst e
      simp [updV]
    · by_cases h : j < i
      · simp [updV, e, h, Nat.lt_succ_of_lt h]
      · simp [updV, e, h, show ¬ j < i + 1 by omega]
theorem zouter (c : ClassId) (q : Nat) : Jvm.Free.Multi.outerC c 6 q 6 = arrV c 6 (fun j => .ref (q + 1 + j)) := by
  rw [zouterI c q 6]
  exact zarr_ext (fun j hj => if_pos hj)
def zad7 (ad : Nat → Nat) (n q : Nat) : Nat → Nat := fun i => if n + 2 ≤ i ∧ i < n + 9 then q + (i - (n + 2)) else ad i
section ZG
variable {l : Launch} {dC : Nat → ClassId} {dI : Nat → Nat → Nat} {cA : Nat → ClassId} {N : Nat} {E : ZMi} {A : Nat → Prop} {k mc ms cells slots n pc : Nat} {ls ls' st r : List Value} {I : ZMi} {L : ZMl} {R : ZMr} {F : ZFin}
theorem zR_eq {R' : ZMr} (e : R = R') (h : zSG l dC dI cA N E A k mc ms cells slots n pc ls st I L R' F) : zSG l dC dI cA N E A k mc ms cells slots n pc ls st I L R F := e ▸ h
set_option maxHeartbeats 4000000 in
theorem g_mna {idx : Nat} {own : String} (how : (zy k).cls = own) (hcl : Cond.classLink own idx "[[I" ∈ zWS) (hw : Cond.arrayClass .int ∈ zWS) (hk : zKg N (n + 2) = (27, 6)) (hki : ∀ i, i < 6 → zKg N (n + 3 + i) = (20, 3)) (hvl : ∀ v ∈ ls, zvk n v) (hvs : ∀ v ∈ st, zvk n v) (hRn : ∀ a j, R a j ≤ n + 2) (hI0 : ∀ i, i < 6 → ∀ j, I (n + 3 + i) j = 0) (hcc : cells + 7 ≤ mc) (hss : slots + 24 ≤ ms) (hd : decode (zb k) pc = .ok (.multianewarray idx 2, 4)) (h : zSG l dC dI cA N E A k mc ms (cells + 7) (slots + 24) (n + 7) (pc + 4) ls (.ref (n + 2) :: st) I L (zR6 R n) F) : zSG l dC dI cA N E A k mc ms cells slots n pc ls (.int 3 :: .int 6 :: st) I L R F := by
  intro ad p e Rm s m args below meth c Z cG hF
  obtain ⟨hx, hb, hml, hown, hts, hWd, hfr, hlo, hce, hsl, hA, hAO, hini⟩ := id cG
  intro hlen hE H locs lsA hl hP hD hS
  intro T hT X
  have hov : (Cond.arrayOver (.array .int)).before args s = true := arrayOver_alikeB (Vm.Alike.refl s.vm) hAO.2.2.2
  have hcl' : (Cond.classLink own idx ("[" ++ (FieldType.array FieldType.int).toString)).before args s = true := by
    rw [show "[" ++ (FieldType.array FieldType.int).toString = "[[I" from by decide +kernel]
    exact hts _ hcl
  obtain ⟨vm₁, c1, comp, hWm, fA, fC, hO, hIa, X', step⟩ := X.multianewarray2F hx (ty := .int) (how ▸ hown) hcl' hov (hts _ hw) (g := F0 m pc lsA ((.int 3 :: .int 6 :: st).map (zcv ad))) rfl (by rw [hb]; exact hd) (n := 6) (k := 3) (rest := st.map (zcv ad)) rfl (by decide) (by decide) (by decide) (by decide) (by decide) rfl rfl (by rw [show (6 : Int32).toNatClampNeg = 6 from by decide]; omega) (by rw [show (6 : Int32).toNatClampNeg = 6 from by decide, show (3 : Int32).toNatClampNeg = 3 from by decide]; omega)
  rw [show (6 : Int32).toNatClampNeg = 6 from by decide, show (3 : Int32).toNatClampNeg = 3 from by decide] at X' step
  have hc1 : c1 = cA 27 := Option.some.inj (fA.symm.trans (hWd.1.2 7 (cA 27, .array .int) rfl).2)
  have hc2 : comp = cA 20 := by
    rw [show (FieldType.array FieldType.int).toString = "[I" from by decide +kernel] at fC
    exact Option.some.inj (fC.symm.trans (va_nm_int (hWd.1.2 0 (cA 20, .int) rfl).2))
  subst hc1
  subst hc2
  have hTh : (T.setVm vm₁).heap = H := hT
  obtain ⟨f1, f2, -, -⟩ := Jvm.Free.Multi.fill_facts (T.setVm vm₁) (cA 27) (cA 20) 6 3 (defaultValue .int) 6
  have f3 := fun x (hx : x < (T.setVm vm₁).heap.size) => Jvm.Free.Multi.fill_old (T.setVm vm₁) (cA 27) (cA 20) 6 3 (defaultValue .int) hx 6
  have f4 := Jvm.Free.Multi.fill_inner (T.setVm vm₁) (cA 27) (cA 20) 6 3 (defaultValue .int) 6
  rw [hTh] at f1 f2 f3 f4
  generalize hFe : Jvm.Free.Multi.fill (T.setVm vm₁) (cA 27) (cA 20) 6 3 (defaultValue .int) 6 = FS at X' step f1 f2 f3 f4
  have hag : zag n ad (zad7 ad n H.size) := fun i hi => if_neg (by omega)
  have hlen2 : ∀ j x, (zwl cA (zad7 ad n H.size) (zKr N (n + 7)) (n + 7) I L (zR6 R n))[j]? = some x → j < n + 7 ∧ x = (zad7 ad n H.size (j + 2), zcel cA (zad7 ad n H.size) (zKr N (n + 7)) I L (zR6 R n) (j + 2)) := fun j x hq => by
    have hj : j < n + 7 := by
      have := (List.getElem?_eq_some_iff.mp hq).1
      simpa [zwl] using this
    have h2 := zwl_at (cA := cA) (ad := zad7 ad n H.size) (K := zKr N (n + 7)) (I := I) (L := L) (R := zR6 R n) (n := n + 7) (a := j + 2) (by omega)
    rw [show j + 2 - 2 = j from by omega] at h2
    exact ⟨hj, Option.some.inj (hq.symm.trans h2)⟩
  have hold : ∀ j, j < n → (zwl cA ad (zKr N n) n I L R)[j]? = some (zad7 ad n H.size (j + 2), zcel cA (zad7 ad n H.size) (zKr N (n + 7)) I L (zR6 R n) (j + 2)) := fun j hj => by
    have h2 := zwl_at (cA := cA) (ad := ad) (K := zKr N n) (I := I) (L := L) (R := R) (n := n) (a := j + 2) (by omega)
    rw [show j + 2 - 2 = j from by omega] at h2
    have hcd := zcel_ad (cA := cA) (ad := ad) (ad' := zad7 ad n H.size) (K := zKr N n) (K' := zKr N (n + 7)) (I := I) (L := L) (R := R) (R' := zR6 R n) (a := j + 2) ((zKr_lt (by omega)).trans (zKr_lt (by omega)).symm) (fun i => by
      have e : zR6 R n (j + 2) i = R (j + 2) i := if_neg (by omega)
      rw [e]
      exact zre_ag hag (hRn _ i))
    rw [h2, hcd, hag (j + 2) (by omega)]
  have hnew : ∀ j, n ≤ j → j < n + 7 → zad7 ad n H.size (j + 2) = H.size + (j - n) := fun j h1 h2 => by
    unfold zad7
    rw [if_pos (by omega)]
    omega
  have hPn : va_P (dC, dI) zcls (zwl cA (zad7 ad n H.size) (zKr N (n + 7)) (n + 7) I L (zR6 R n)) FS.heap := by
    intro j x hq
    obtain ⟨hj, rfl⟩ := hlen2 j x hq
    rcases Nat.lt_or_ge j n with hjn | hjn
    · have ho := hold j hjn
      exact (hP j _ ho).kept (f3 _ (hP j _ ho).lt)
    · rcases Nat.eq_or_lt_of_le hjn with e | hjn
      · subst e
        rw [zcel_r (kd := 27) (k := 6) (by rw [zKr_lt (by omega)]; exact hk) (by decide)]
        show FS.heap[zad7 ad n H.size (n + 2)]? = some (vp_cell _ _)
        rw [hnew n (Nat.le_refl _) (by omega), Nat.sub_self, Nat.add_zero, f2, zouter, vp_cell_q]
        refine congrArg some (zarr_ext (fun i hi => ?_))
        have e : zR6 R n (n + 2) i = n + 4 + i := if_pos ⟨rfl, hi⟩
        show _ = va_rf (zre (zad7 ad n H.size) (zR6 R n (n + 2) i))
        rw [e, show n + 4 + i = (n + 3 + i) + 1 from by omega]
        have hN : (H.size + 1 + i : Nat) = zad7 ad n H.size (n + 3 + i) := by
          have := hnew (n + 1 + i) (by omega) (by omega)
          rw [show n + 1 + i + 2 = n + 3 + i from by omega] at this
          rw [this]
          omega
        exact congrArg Value.ref hN
      · have hz := hki (j - (n + 1)) (by omega)
        rw [show n + 3 + (j - (n + 1)) = j + 2 from by omega] at hz
        have hz0 := hI0 (j - (n + 1)) (by omega)
        rw [show n + 3 + (j - (n + 1)) = j + 2 from by omega] at hz0
        rw [zcel_i (kd := 20) (k := 3) (by rw [zKr_lt (by omega)]; exact hz) (by decide) (by decide) (by decide)]
        show FS.heap[zad7 ad n H.size (j + 2)]? = some (vp_cell _ _)
        have h4 := f4 (j - (n + 1)) (by omega)
        rw [hnew j (by omega) (by omega), show H.size + (j - n) = H.size + 1 + (j - (n + 1)) from by omega, h4, vp_cell_i]
        show some ({ cls := cA 20, slots := Array.replicate 3 (defaultValue .int), vm := .none } : Cell) = _
        rw [arrV_new]
        exact congrArg some (zarr_ext (fun i hi => by rw [hz0]; rfl))
  have hDn : va_D A (zwl cA (zad7 ad n H.size) (zKr N (n + 7)) (n + 7) I L (zR6 R n)) := by
    have hlt : ∀ j, j < n → zad7 ad n H.size (j + 2) < H.size := fun j hj => (hP j _ (hold j hj)).lt
    refine ⟨fun i j x y hi hj hxy => ?_, fun j x hq => ?_⟩
    · obtain ⟨hi1, rfl⟩ := hlen2 i x hi
      obtain ⟨hj1, rfl⟩ := hlen2 j y hj
      have hxy : zad7 ad n H.size (i + 2) = zad7 ad n H.size (j + 2) := hxy
      rcases Nat.lt_or_ge i n with a1 | a1 <;> rcases Nat.lt_or_ge j n with b1 | b1
      · exact hD.1 i j _ _ (hold i a1) (hold j b1) hxy
      · have h1 := hlt i a1
        rw [hxy, hnew j b1 hj1] at h1
        omega
      · have h1 := hlt j b1
        rw [← hxy, hnew i a1 hi1] at h1
        omega
      · rw [hnew i a1 hi1, hnew j b1 hj1] at hxy
        omega
    · obtain ⟨hj1, rfl⟩ := hlen2 j x hq
      rcases Nat.lt_or_ge j n with a1 | a1
      · exact hD.2 j _ (hold j a1)
      · show A (zad7 ad n H.size (j + 2))
        rw [hnew j a1 hj1]
        exact hA _ (Nat.le_trans hS.1 (by omega))
  have hSn : va_S A s.heap FS.heap locs := ⟨Nat.le_trans hS.1 (by rw [f1]; omega), fun x h1 h2 => (f3 x (Nat.lt_of_lt_of_le h1 hS.1)).trans (hS.2.1 x h1 h2), hS.2.2⟩
  have hgo := h (zad7 ad n H.size) p e Rm s m args below meth c Z (zCG_ag hag cG) (fun ad2 c2 s2 n2 pc2 ls2 st2 I2 L2 R2 g1 g2 g3 => hF ad2 c2 s2 n2 pc2 ls2 st2 I2 L2 R2 (by omega) (zag_t hag g2 (by omega)) g3) hlen (zext_n hE) FS.heap locs lsA (by rw [zll_ag hag hvl]; exact hl) hPn hDn hSn
  rw [List.map_cons, zcv_ag hag hvs] at hgo
  have hq0 : zcv (zad7 ad n H.size) (.ref (n + 2)) = .ref H.size := by
    have hN : (zad7 ad n H.size (n + 2) : Nat) = H.size := by
      have := hnew n (Nat.le_refl _) (by omega)
      rw [this]
      omega
    exact congrArg Value.ref hN
  rw [hq0] at hgo
  obtain ⟨t, a1, b1⟩ := hgo FS rfl X'
  refine ⟨t, step t ?_, b1⟩
  rw [hT]
  exact a1
end ZG
theorem zR6_b {R : ZMr} {n : Nat} (h : zRm_ R (n + 2)) : zRm_ (zR6 R n) (n + 7 + 2) := fun a j => by
  unfold zR6
  split
  · omega
  · exact Nat.le_trans (h a j) (by omega)
theorem zgoi_i : Cond.instanceMethod Lib.objectInit ∈ zWS := zmW 22 (by decide +kernel) rfl
theorem zgoi_c : Cond.code Lib.objectInit ⟨#[0xb1]⟩ 1 none ∈ zWS := zmW 23 (by decide +kernel) rfl
theorem zgac_int : Cond.arrayClass .int ∈ zWS := zmW 53 (by decide +kernel) rfl
theorem zgac_long : Cond.arrayClass .long ∈ zWS := zmW 127 (by decide +kernel) rfl
theorem zgac_byte : Cond.arrayClass .byte ∈ zWS := zmW 39 (by decide +kernel) rfl
theorem zgac_boolean : Cond.arrayClass .boolean ∈ zWS := zmW 171 (by decide +kernel) rfl
theorem zgm_HummingSet_Answers_3 : Cond.methodLink "HummingSet$Answers" 3 Lib.objectInit ∈ zWS := zmW 76 (by decide +kernel) rfl
theorem zgf_HummingSet_Answers_9 : Cond.fieldLink "HummingSet$Answers" 9 "HummingSet$Answers" "kinds" "[I" ∈ zWS := zmW 77 (by decide +kernel) rfl
theorem zgf_HummingSet_Answers_15 : Cond.fieldLink "HummingSet$Answers" 15 "HummingSet$Answers" "ofs" "[I" ∈ zWS := zmW 79 (by decide +kernel) rfl
theorem zgf_HummingSet_Answers_18 : Cond.fieldLink "HummingSet$Answers" 18 "HummingSet$Answers" "minutes" "[I" ∈ zWS := zmW 81 (by decide +kernel) rfl
theorem zgf_HummingSet_Answers_21 : Cond.fieldLink "HummingSet$Answers" 21 "HummingSet$Answers" "replies" "[I" ∈ zWS := zmW 83 (by decide +kernel) rfl
theorem zgm_HummingSet_Bench_3 : Cond.methodLink "HummingSet$Bench" 3 Lib.objectInit ∈ zWS := zmW 59 (by decide +kernel) rfl
theorem zgl_HummingSet_Bench_9 : Cond.classLink "HummingSet$Bench" (9 : Nat) "[[I" ∈ zWS := zmW 60 (by decide +kernel) rfl
theorem zgf_HummingSet_Bench_11 : Cond.fieldLink "HummingSet$Bench" 11 "HummingSet$Bench" "ins" "[[I" ∈ zWS := zmW 62 (by decide +kernel) rfl
theorem zgf_HummingSet_Bench_16 : Cond.fieldLink "HummingSet$Bench" 16 "HummingSet$Bench" "ends" "[I" ∈ zWS := zmW 64 (by decide +kernel) rfl
theorem zgm_HummingSet_Cases_3 : Cond.methodLink "HummingSet$Cases" 3 Lib.objectInit ∈ zWS := zmW 104 (by decide +kernel) rfl
theorem zgf_HummingSet_Cases_9 : Cond.fieldLink "HummingSet$Cases" 9 "HummingSet$Cases" "states" "[I" ∈ zWS := zmW 105 (by decide +kernel) rfl
theorem zgf_HummingSet_Cases_15 : Cond.fieldLink "HummingSet$Cases" 15 "HummingSet$Cases" "weights" "[J" ∈ zWS := zmW 108 (by decide +kernel) rfl
theorem zgm_HummingSet_Part_3 : Cond.methodLink "HummingSet$Part" 3 Lib.objectInit ∈ zWS := zmW 206 (by decide +kernel) rfl
theorem zgf_HummingSet_Part_9 : Cond.fieldLink "HummingSet$Part" 9 "HummingSet$Part" "lets" "[I" ∈ zWS := zmW 207 (by decide +kernel) rfl
theorem zgm_HummingSet_Plan_3 : Cond.methodLink "HummingSet$Plan" 3 Lib.objectInit ∈ zWS := zmW 158 (by decide +kernel) rfl
theorem zgf_HummingSet_Plan_9 : Cond.fieldLink "HummingSet$Plan" 9 "HummingSet$Plan" "quiet" "[Z" ∈ zWS := zmW 159 (by decide +kernel) rfl
theorem zgf_HummingSet_Plan_15 : Cond.fieldLink "HummingSet$Plan" 15 "HummingSet$Plan" "sums" "[J" ∈ zWS := zmW 160 (by decide +kernel) rfl
theorem zgm_HummingSet_Reader_3 : Cond.methodLink "HummingSet$Reader" 3 Lib.objectInit ∈ zWS := zmW 45 (by decide +kernel) rfl
theorem zgf_HummingSet_Reader_9 : Cond.fieldLink "HummingSet$Reader" 9 "HummingSet$Reader" "numbers" "[I" ∈ zWS := zmW 46 (by decide +kernel) rfl
theorem zgm_HummingSet_Search_3 : Cond.methodLink "HummingSet$Search" 3 Lib.objectInit ∈ zWS := zmW 133 (by decide +kernel) rfl
theorem zgf_HummingSet_Search_9 : Cond.fieldLink "HummingSet$Search" 9 "HummingSet$Search" "byReply" "[J" ∈ zWS := zmW 134 (by decide +kernel) rfl
theorem zgm_HummingSet_Stage_3 : Cond.methodLink "HummingSet$Stage" 3 Lib.objectInit ∈ zWS := zmW 188 (by decide +kernel) rfl
theorem zgf_HummingSet_Stage_9 : Cond.fieldLink "HummingSet$Stage" 9 "HummingSet$Stage" "mains" "[I" ∈ zWS := zmW 189 (by decide +kernel) rfl
theorem zgm_HummingSet_Text_3 : Cond.methodLink "HummingSet$Text" 3 Lib.objectInit ∈ zWS := zmW 29 (by decide +kernel) rfl
theorem zgf_HummingSet_Text_9 : Cond.fieldLink "HummingSet$Text" 9 "HummingSet$Text" "bytes" "[B" ∈ zWS := zmW 30 (by decide +kernel) rfl
theorem zgm_HummingSet_Way_1 : Cond.methodLink "HummingSet$Way" 1 Lib.objectInit ∈ zWS := zmW 253 (by decide +kernel) rfl
set_option maxRecDepth 4000 in
theorem c_0 {l : Launch} {dC : Nat → ClassId} {dI : Nat → Nat → Nat} {cA : Nat → ClassId} {N : Nat} {E : ZMi} {A : Nat → Prop} {n a : Nat} {I : ZMi} {L : ZMl} {R : ZMr} {Q : Nat → ZMi → ZMl → ZMr → Prop} (ha : (zKr N n a).1 = 0) (han : a < n + 2) (hk0 : zKg N (n + 2) = (20, 10)) (hz1 : ∀ j, I (n + 2) j = 0) (hk2 : zKg N (n + 1 + 2) = (20, 10)) (hz3 : ∀ j, I (n + 1 + 2) j = 0) (hk4 : zKg N (n + 1 + 1 + 2) = (20, 10)) (hz5 : ∀ j, I (n + 1 + 1 + 2) j = 0) (hk6 : zKg N (n + 1 + 1 + 1 + 2) = (20, 10)) (hz7 : ∀ j, I (n + 1 + 1 + 1 + 2) j = 0) (hRn : zRm_ R (n + 2)) (h : Q (n + 1 + 1 + 1 + 1) I L (zup (zup (zup (zup R a 0 ((n + 2) + 1)) a 1 ((n + 1 + 2) + 1)) a 2 ((n + 1 + 1 + 2) + 1)) a 3 ((n + 1 + 1 + 1 + 2) + 1))) : zSG l dC dI cA N E A 0 4 40 0 0 n 0 [.ref a] [] I L R (zFr 0 4 40 Q) := by
  refine g_al (by decide +kernel : decode (zb 0) 0 = .ok (.aload_n 0, 1)) rfl rfl ?_
  refine g_oi (own := "HummingSet$Answers") rfl zgm_HummingSet_Answers_3 zgoi_i zgoi_c (Nat.le_of_ble_eq_true rfl) rfl (by decide +kernel : decode (zb 0) 1 = .ok (.invokespecial 3, 3)) ?_
  refine g_al (by decide +kernel : decode (zb 0) 4 = .ok (.aload_n 0, 1)) rfl rfl ?_
  refine g_bi (v := 10) (by decide +kernel : decode (zb 0) 5 = .ok (.bipush 10, 2)) (by decide) ?_
  refine g_na (kd := 20) (t0 := 0) (len := 10) (ty := .int) rfl (Or.inl rfl) rfl (by decide) (fun _ => rfl) zgac_int (by decide) (by decide) (by decide) hk0 (zvL_all ⟨zvk_r (by omega), trivial⟩) (zvL_all ⟨zvk_r (by omega), trivial⟩) (fun a j => Nat.le_trans (hRn a j) (by omega)) hz1 (by decide) (by decide) (by decide +kernel : decode (zb 0) 7 = .ok (.newarray .int, 2)) ?_
  refine g_pRF (j := 0) zo0 (by decide) (own := "HummingSet$Answers") rfl (by decide) zgf_HummingSet_Answers_9 rfl rfl rfl ⟨rfl, fun _ => ⟨rfl, rfl⟩⟩ (by decide +kernel : decode (zb 0) 9 = .ok (.putfield 9, 3)) (zKr_mono ha (by decide) (by omega)) ?_
  have hR1 : zRm_ (zup R a 0 ((n + 2) + 1)) (n + 1 + 2) := zRm_up hRn (by omega) (by omega)
  refine g_al (by decide +kernel : decode (zb 0) 12 = .ok (.aload_n 0, 1)) rfl rfl ?_
  refine g_bi (v := 10) (by decide +kernel : decode (zb 0) 13 = .ok (.bipush 10, 2)) (by decide) ?_
  refine g_na (kd := 20) (t0 := 0) (len := 10) (ty := .int) rfl (Or.inl rfl) rfl (by decide) (fun _ => rfl) zgac_int (by decide) (by decide) (by decide) hk2 (zvL_all ⟨zvk_r (by omega), trivial⟩) (zvL_all ⟨zvk_r (by omega), trivial⟩) (fun a j => Nat.le_trans (hR1 a j) (by omega)) hz3 (by decide) (by decide) (by decide +kernel : decode (zb 0) 15 = .ok (.newarray .int, 2)) ?_
  refine g_pRF (j := 1) zo0 (by decide) (own := "HummingSet$Answers") rfl (by decide) zgf_HummingSet_Answers_15 rfl rfl rfl ⟨rfl, fun _ => ⟨rfl, rfl⟩⟩ (by decide +kernel : decode (zb 0) 17 = .ok (.putfield 15, 3)) (zKr_mono ha (by decide) (by omega)) ?_
  have hR2 : zRm_ (zup (zup R a 0 ((n + 2) + 1)) a 1 ((n + 1 + 2) + 1)) (n + 1 + 1 + 2) := zRm_up hR1 (by omega) (by omega)
  refine g_al (by decide +kernel : decode (zb 0) 20 = .ok (.aload_n 0, 1)) rfl rfl ?_
  refine g_bi (v := 10) (by decide +kernel : decode (zb 0) 21 = .ok (.bipush 10, 2)) (by decide) ?_
  refine g_na (kd := 20) (t0 := 0) (len := 10) (ty := .int) rfl (Or.inl rfl) rfl (by decide) (fun _ => rfl) zgac_int (by decide) (by decide) (by decide) hk4 (zvL_all ⟨zvk_r (by omega), trivial⟩) (zvL_all ⟨zvk_r (by omega), trivial⟩) (fun a j => Nat.le_trans (hR2 a j) (by omega)) hz5 (by decide) (by decide) (by decide +kernel : decode (zb 0) 23 = .ok (.newarray .int, 2)) ?_
  refine g_pRF (j := 2) zo0 (by decide) (own := "HummingSet$Answers") rfl (by decide) zgf_HummingSet_Answers_18 rfl rfl rfl ⟨rfl, fun _ => ⟨rfl, rfl⟩⟩ (by decide +kernel : decode (zb 0) 25 = .ok (.putfield 18, 3)) (zKr_mono ha (by decide) (by omega)) ?_
  have hR3 : zRm_ (zup (zup (zup R a 0 ((n + 2) + 1)) a 1 ((n + 1 + 2) + 1)) a 2 ((n + 1 + 1 + 2) + 1)) (n + 1 + 1 + 1 + 2) := zRm_up hR2 (by omega) (by omega)
  refine g_al (by decide +kernel : decode (zb 0) 28 = .ok (.aload_n 0, 1)) rfl rfl ?_
  refine g_bi (v := 10) (by decide +kernel : decode (zb 0) 29 = .ok (.bipush 10, 2)) (by decide) ?_
  refine g_na (kd := 20) (t0 := 0) (len := 10) (ty := .int) rfl (Or.inl rfl) rfl (by decide) (fun _ => rfl) zgac_int (by decide) (by decide) (by decide) hk6 (zvL_all ⟨zvk_r (by omega), trivial⟩) (zvL_all ⟨zvk_r (by omega), trivial⟩) (fun a j => Nat.le_trans (hR3 a j) (by omega)) hz7 (by decide) (by decide) (by decide +kernel : decode (zb 0) 31 = .ok (.newarray .int, 2)) ?_
  refine g_pRF (j := 3) zo0 (by decide) (own := "HummingSet$Answers") rfl (by decide) zgf_HummingSet_Answers_21 rfl rfl rfl ⟨rfl, fun _ => ⟨rfl, rfl⟩⟩ (by decide +kernel : decode (zb 0) 33 = .ok (.putfield 21, 3)) (zKr_mono ha (by decide) (by omega)) ?_
  have hR4 : zRm_ (zup (zup (zup (zup R a 0 ((n + 2) + 1)) a 1 ((n + 1 + 2) + 1)) a 2 ((n + 1 + 1 + 2) + 1)) a 3 ((n + 1 + 1 + 1 + 2) + 1)) (n + 1 + 1 + 1 + 1 + 2) := zRm_up hR3 (by omega) (by omega)
  exact g_fin ⟨rfl, rfl, rfl, (by decide +kernel : decode (zb 0) 36 = .ok (.return_, 1)), h⟩
set_option maxRecDepth 4000 in
theorem c_3 {l : Launch} {dC : Nat → ClassId} {dI : Nat → Nat → Nat} {cA : Nat → ClassId} {N : Nat} {E : ZMi} {A : Nat → Prop} {n a : Nat} {I : ZMi} {L : ZMl} {R : ZMr} {Q : Nat → ZMi → ZMl → ZMr → Prop} (ha : (zKr N n a).1 = 1) (han : a < n + 2) (hk0 : zKg N (n + 2) = (27, 6)) (hk1 : zKg N (n + 7 + 2) = (20, 3)) (hz2 : ∀ j, I (n + 7 + 2) j = 0) (hk6 : ∀ i, i < 6 → zKg N (n + 3 + i) = (20, 3)) (hi6 : ∀ i, i < 6 → ∀ j, I (n + 3 + i) j = 0) (hRn : zRm_ R (n + 2)) (h : Q (n + 7 + 1) I L (zup (zup (zR6 R n) a 0 ((n + 2) + 1)) a 1 ((n + 7 + 2) + 1))) : zSG l dC dI cA N E A 3 8 27 0 0 n 0 [.ref a] [] I L R (zFr 3 8 27 Q) := by
  refine g_al (by decide +kernel : decode (zb 3) 0 = .ok (.aload_n 0, 1)) rfl rfl ?_
  refine g_oi (own := "HummingSet$Bench") rfl zgm_HummingSet_Bench_3 zgoi_i zgoi_c (Nat.le_of_ble_eq_true rfl) rfl (by decide +kernel : decode (zb 3) 1 = .ok (.invokespecial 3, 3)) ?_
  refine g_al (by decide +kernel : decode (zb 3) 4 = .ok (.aload_n 0, 1)) rfl rfl ?_
  refine g_bi (v := 6) (by decide +kernel : decode (zb 3) 5 = .ok (.bipush 6, 2)) (by decide) ?_
  refine g_ic (v := 3) (by decide +kernel : decode (zb 3) 7 = .ok (.iconst 3, 1)) (by decide) ?_
  refine g_mna (own := "HummingSet$Bench") rfl zgl_HummingSet_Bench_9 zgac_int hk0 hk6 (zvL_all ⟨zvk_r (by omega), trivial⟩) (zvL_all ⟨zvk_r (by omega), trivial⟩) (fun a j => Nat.le_trans (hRn a j) (by omega)) hi6 (by decide) (by decide) (by decide +kernel : decode (zb 3) 8 = .ok (.multianewarray 9 2, 4)) ?_
  have hR6 : zRm_ (zR6 R n) (n + 7 + 2) := zR6_b hRn
  refine g_pRF (j := 0) zo1 (by decide) (own := "HummingSet$Bench") rfl (by decide) zgf_HummingSet_Bench_11 rfl rfl rfl ⟨rfl, fun _ => ⟨rfl, rfl⟩⟩ (by decide +kernel : decode (zb 3) 12 = .ok (.putfield 11, 3)) (zKr_mono ha (by decide) (by omega)) ?_
  have hR1 : zRm_ (zup (zR6 R n) a 0 ((n + 2) + 1)) (n + 7 + 2) := zRm_up hR6 (by omega) (by omega)
  refine g_al (by decide +kernel : decode (zb 3) 15 = .ok (.aload_n 0, 1)) rfl rfl ?_
  refine g_ic (v := 3) (by decide +kernel : decode (zb 3) 16 = .ok (.iconst 3, 1)) (by decide) ?_
  refine g_na (kd := 20) (t0 := 0) (len := 3) (ty := .int) rfl (Or.inl rfl) rfl (by decide) (fun _ => rfl) zgac_int (by decide) (by decide) (by decide) hk1 (zvL_all ⟨zvk_r (by omega), trivial⟩) (zvL_all ⟨zvk_r (by omega), trivial⟩) (fun a j => Nat.le_trans (hR1 a j) (by omega)) hz2 (by decide) (by decide) (by decide +kernel : decode (zb 3) 17 = .ok (.newarray .int, 2)) ?_
  refine g_pRF (j := 1) zo1 (by decide) (own := "HummingSet$Bench") rfl (by decide) zgf_HummingSet_Bench_16 rfl rfl rfl ⟨rfl, fun _ => ⟨rfl, rfl⟩⟩ (by decide +kernel : decode (zb 3) 19 = .ok (.putfield 16, 3)) (zKr_mono ha (by decide) (by omega)) ?_
  have hR2 : zRm_ (zup (zup (zR6 R n) a 0 ((n + 2) + 1)) a 1 ((n + 7 + 2) + 1)) (n + 7 + 1 + 2) := zRm_up hR1 (by omega) (by omega)
  exact g_fin ⟨rfl, rfl, rfl, (by decide +kernel : decode (zb 3) 22 = .ok (.return_, 1)), h⟩
set_option maxRecDepth 4000 in
theorem c_11 {l : Launch} {dC : Nat → ClassId} {dI : Nat → Nat → Nat} {cA : Nat → ClassId} {N : Nat} {E : ZMi} {A : Nat → Prop} {n a : Nat} {I : ZMi} {L : ZMl} {R : ZMr} {Q : Nat → ZMi → ZMl → ZMr → Prop} (ha : (zKr N n a).1 = 2) (han : a < n + 2) (hk0 : zKg N (n + 2) = (20, 37)) (hz1 : ∀ j, I (n + 2) j = 0) (hk2 : zKg N (n + 1 + 2) = (21, 37)) (hz3 : ∀ j, L (n + 1 + 2) j = 0) (hRn : zRm_ R (n + 2)) (h : Q (n + 1 + 1) I L (zup (zup R a 0 ((n + 2) + 1)) a 1 ((n + 1 + 2) + 1))) : zSG l dC dI cA N E A 11 2 74 0 0 n 0 [.ref a] [] I L R (zFr 11 2 74 Q) := by
  refine g_al (by decide +kernel : decode (zb 11) 0 = .ok (.aload_n 0, 1)) rfl rfl ?_
  refine g_oi (own := "HummingSet$Cases") rfl zgm_HummingSet_Cases_3 zgoi_i zgoi_c (Nat.le_of_ble_eq_true rfl) rfl (by decide +kernel : decode (zb 11) 1 = .ok (.invokespecial 3, 3)) ?_
  refine g_al (by decide +kernel : decode (zb 11) 4 = .ok (.aload_n 0, 1)) rfl rfl ?_
  refine g_bi (v := 37) (by decide +kernel : decode (zb 11) 5 = .ok (.bipush 37, 2)) (by decide) ?_
  refine g_na (kd := 20) (t0 := 0) (len := 37) (ty := .int) rfl (Or.inl rfl) rfl (by decide) (fun _ => rfl) zgac_int (by decide) (by decide) (by decide) hk0 (zvL_all ⟨zvk_r (by omega), trivial⟩) (zvL_all ⟨zvk_r (by omega), trivial⟩) (fun a j => Nat.le_trans (hRn a j) (by omega)) hz1 (by decide) (by decide) (by decide +kernel : decode (zb 11) 7 = .ok (.newarray .int, 2)) ?_
  refine g_pRF (j := 0) zo2 (by decide) (own := "HummingSet$Cases") rfl (by decide) zgf_HummingSet_Cases_9 rfl rfl rfl ⟨rfl, fun _ => ⟨rfl, rfl⟩⟩ (by decide +kernel : decode (zb 11) 9 = .ok (.putfield 9, 3)) (zKr_mono ha (by decide) (by omega)) ?_
  have hR1 : zRm_ (zup R a 0 ((n + 2) + 1)) (n + 1 + 2) := zRm_up hRn (by omega) (by omega)
  refine g_al (by decide +kernel : decode (zb 11) 12 = .ok (.aload_n 0, 1)) rfl rfl ?_
  refine g_bi (v := 37) (by decide +kernel : decode (zb 11) 13 = .ok (.bipush 37, 2)) (by decide) ?_
  refine g_nl (len := 37) zgac_long (by decide) (by decide) (by decide) hk2 (zvL_all ⟨zvk_r (by omega), trivial⟩) (zvL_all ⟨zvk_r (by omega), trivial⟩) (fun a j => Nat.le_trans (hR1 a j) (by omega)) hz3 (by decide) (by decide) (by decide +kernel : decode (zb 11) 15 = .ok (.newarray .long, 2)) ?_
  refine g_pRF (j := 1) zo2 (by decide) (own := "HummingSet$Cases") rfl (by decide) zgf_HummingSet_Cases_15 rfl rfl rfl ⟨rfl, fun _ => ⟨rfl, rfl⟩⟩ (by decide +kernel : decode (zb 11) 17 = .ok (.putfield 15, 3)) (zKr_mono ha (by decide) (by omega)) ?_
  have hR2 : zRm_ (zup (zup R a 0 ((n + 2) + 1)) a 1 ((n + 1 + 2) + 1)) (n + 1 + 1 + 2) := zRm_up hR1 (by omega) (by omega)
  exact g_fin ⟨rfl, rfl, rfl, (by decide +kernel : decode (zb 11) 20 = .ok (.return_, 1)), h⟩
set_option maxRecDepth 4000 in
theorem c_17 {l : Launch} {dC : Nat → ClassId} {dI : Nat → Nat → Nat} {cA : Nat → ClassId} {N : Nat} {E : ZMi} {A : Nat → Prop} {n a : Nat} {I : ZMi} {L : ZMl} {R : ZMr} {Q : Nat → ZMi → ZMl → ZMr → Prop} (ha : (zKr N n a).1 = 3) (han : a < n + 2) (hk0 : zKg N (n + 2) = (20, 3)) (hz1 : ∀ j, I (n + 2) j = 0) (hRn : zRm_ R (n + 2)) (h : Q (n + 1) I L (zup R a 0 ((n + 2) + 1))) : zSG l dC dI cA N E A 17 1 3 0 0 n 0 [.ref a] [] I L R (zFr 17 1 3 Q) := by
  refine g_al (by decide +kernel : decode (zb 17) 0 = .ok (.aload_n 0, 1)) rfl rfl ?_
  refine g_oi (own := "HummingSet$Part") rfl zgm_HummingSet_Part_3 zgoi_i zgoi_c (Nat.le_of_ble_eq_true rfl) rfl (by decide +kernel : decode (zb 17) 1 = .ok (.invokespecial 3, 3)) ?_
  refine g_al (by decide +kernel : decode (zb 17) 4 = .ok (.aload_n 0, 1)) rfl rfl ?_
  refine g_ic (v := 3) (by decide +kernel : decode (zb 17) 5 = .ok (.iconst 3, 1)) (by decide) ?_
  refine g_na (kd := 20) (t0 := 0) (len := 3) (ty := .int) rfl (Or.inl rfl) rfl (by decide) (fun _ => rfl) zgac_int (by decide) (by decide) (by decide) hk0 (zvL_all ⟨zvk_r (by omega), trivial⟩) (zvL_all ⟨zvk_r (by omega), trivial⟩) (fun a j => Nat.le_trans (hRn a j) (by omega)) hz1 (by decide) (by decide) (by decide +kernel : decode (zb 17) 6 = .ok (.newarray .int, 2)) ?_
  refine g_pRF (j := 0) zo3 (by decide) (own := "HummingSet$Part") rfl (by decide) zgf_HummingSet_Part_9 rfl rfl rfl ⟨rfl, fun _ => ⟨rfl, rfl⟩⟩ (by decide +kernel : decode (zb 17) 8 = .ok (.putfield 9, 3)) (zKr_mono ha (by decide) (by omega)) ?_
  have hR1 : zRm_ (zup R a 0 ((n + 2) + 1)) (n + 1 + 2) := zRm_up hRn (by omega) (by omega)
  exact g_fin ⟨rfl, rfl, rfl, (by decide +kernel : decode (zb 17) 11 = .ok (.return_, 1)), h⟩
set_option maxRecDepth 4000 in
theorem c_21 {l : Launch} {dC : Nat → ClassId} {dI : Nat → Nat → Nat} {cA : Nat → ClassId} {N : Nat} {E : ZMi} {A : Nat → Prop} {n a : Nat} {I : ZMi} {L : ZMl} {R : ZMr} {Q : Nat → ZMi → ZMl → ZMr → Prop} (ha : (zKr N n a).1 = 4) (han : a < n + 2) (hk0 : zKg N (n + 2) = (23, 256)) (hz1 : ∀ j, I (n + 2) j = 0) (hk2 : zKg N (n + 1 + 2) = (21, 256)) (hz3 : ∀ j, L (n + 1 + 2) j = 0) (hRn : zRm_ R (n + 2)) (h : Q (n + 1 + 1) I L (zup (zup R a 0 ((n + 2) + 1)) a 1 ((n + 1 + 2) + 1))) : zSG l dC dI cA N E A 21 2 512 0 0 n 0 [.ref a] [] I L R (zFr 21 2 512 Q) := by
  refine g_al (by decide +kernel : decode (zb 21) 0 = .ok (.aload_n 0, 1)) rfl rfl ?_
  refine g_oi (own := "HummingSet$Plan") rfl zgm_HummingSet_Plan_3 zgoi_i zgoi_c (Nat.le_of_ble_eq_true rfl) rfl (by decide +kernel : decode (zb 21) 1 = .ok (.invokespecial 3, 3)) ?_
  refine g_al (by decide +kernel : decode (zb 21) 4 = .ok (.aload_n 0, 1)) rfl rfl ?_
  refine g_si (v := 256) (by decide +kernel : decode (zb 21) 5 = .ok (.sipush 256, 3)) (by decide) ?_
  refine g_na (kd := 23) (t0 := 3) (len := 256) (ty := .boolean) rfl (Or.inr (Or.inr (Or.inr rfl))) rfl (by decide) (fun _ => rfl) zgac_boolean (by decide) (by decide) (by decide) hk0 (zvL_all ⟨zvk_r (by omega), trivial⟩) (zvL_all ⟨zvk_r (by omega), trivial⟩) (fun a j => Nat.le_trans (hRn a j) (by omega)) hz1 (by decide) (by decide) (by decide +kernel : decode (zb 21) 8 = .ok (.newarray .boolean, 2)) ?_
  refine g_pRF (j := 0) zo4 (by decide) (own := "HummingSet$Plan") rfl (by decide) zgf_HummingSet_Plan_9 rfl rfl rfl ⟨rfl, fun _ => ⟨rfl, rfl⟩⟩ (by decide +kernel : decode (zb 21) 10 = .ok (.putfield 9, 3)) (zKr_mono ha (by decide) (by omega)) ?_
  have hR1 : zRm_ (zup R a 0 ((n + 2) + 1)) (n + 1 + 2) := zRm_up hRn (by omega) (by omega)
  refine g_al (by decide +kernel : decode (zb 21) 13 = .ok (.aload_n 0, 1)) rfl rfl ?_
  refine g_si (v := 256) (by decide +kernel : decode (zb 21) 14 = .ok (.sipush 256, 3)) (by decide) ?_
  refine g_nl (len := 256) zgac_long (by decide) (by decide) (by decide) hk2 (zvL_all ⟨zvk_r (by omega), trivial⟩) (zvL_all ⟨zvk_r (by omega), trivial⟩) (fun a j => Nat.le_trans (hR1 a j) (by omega)) hz3 (by decide) (by decide) (by decide +kernel : decode (zb 21) 17 = .ok (.newarray .long, 2)) ?_
  refine g_pRF (j := 1) zo4 (by decide) (own := "HummingSet$Plan") rfl (by decide) zgf_HummingSet_Plan_15 rfl rfl rfl ⟨rfl, fun _ => ⟨rfl, rfl⟩⟩ (by decide +kernel : decode (zb 21) 19 = .ok (.putfield 15, 3)) (zKr_mono ha (by decide) (by omega)) ?_
  have hR2 : zRm_ (zup (zup R a 0 ((n + 2) + 1)) a 1 ((n + 1 + 2) + 1)) (n + 1 + 1 + 2) := zRm_up hR1 (by omega) (by omega)
  exact g_fin ⟨rfl, rfl, rfl, (by decide +kernel : decode (zb 21) 22 = .ok (.return_, 1)), h⟩
set_option maxRecDepth 4000 in
theorem c_27 {l : Launch} {dC : Nat → ClassId} {dI : Nat → Nat → Nat} {cA : Nat → ClassId} {N : Nat} {E : ZMi} {A : Nat → Prop} {n a : Nat} {I : ZMi} {L : ZMl} {R : ZMr} {Q : Nat → ZMi → ZMl → ZMr → Prop} (ha : (zKr N n a).1 = 5) (han : a < n + 2) (hk0 : zKg N (n + 2) = (20, 5)) (hz1 : ∀ j, I (n + 2) j = 0) (hRn : zRm_ R (n + 2)) (h : Q (n + 1) I L (zup R a 0 ((n + 2) + 1))) : zSG l dC dI cA N E A 27 1 5 0 0 n 0 [.ref a] [] I L R (zFr 27 1 5 Q) := by
  refine g_al (by decide +kernel : decode (zb 27) 0 = .ok (.aload_n 0, 1)) rfl rfl ?_
  refine g_oi (own := "HummingSet$Reader") rfl zgm_HummingSet_Reader_3 zgoi_i zgoi_c (Nat.le_of_ble_eq_true rfl) rfl (by decide +kernel : decode (zb 27) 1 = .ok (.invokespecial 3, 3)) ?_
  refine g_al (by decide +kernel : decode (zb 27) 4 = .ok (.aload_n 0, 1)) rfl rfl ?_
  refine g_ic (v := 5) (by decide +kernel : decode (zb 27) 5 = .ok (.iconst 5, 1)) (by decide) ?_
  refine g_na (kd := 20) (t0 := 0) (len := 5) (ty := .int) rfl (Or.inl rfl) rfl (by decide) (fun _ => rfl) zgac_int (by decide) (by decide) (by decide) hk0 (zvL_all ⟨zvk_r (by omega), trivial⟩) (zvL_all ⟨zvk_r (by omega), trivial⟩) (fun a j => Nat.le_trans (hRn a j) (by omega)) hz1 (by decide) (by decide) (by decide +kernel : decode (zb 27) 6 = .ok (.newarray .int, 2)) ?_
  refine g_pRF (j := 0) zo5 (by decide) (own := "HummingSet$Reader") rfl (by decide) zgf_HummingSet_Reader_9 rfl rfl rfl ⟨rfl, fun _ => ⟨rfl, rfl⟩⟩ (by decide +kernel : decode (zb 27) 8 = .ok (.putfield 9, 3)) (zKr_mono ha (by decide) (by omega)) ?_
  have hR1 : zRm_ (zup R a 0 ((n + 2) + 1)) (n + 1 + 2) := zRm_up hRn (by omega) (by omega)
  exact g_fin ⟨rfl, rfl, rfl, (by decide +kernel : decode (zb 27) 11 = .ok (.return_, 1)), h⟩
set_option maxRecDepth 4000 in
theorem c_33 {l : Launch} {dC : Nat → ClassId} {dI : Nat → Nat → Nat} {cA : Nat → ClassId} {N : Nat} {E : ZMi} {A : Nat → Prop} {n a : Nat} {I : ZMi} {L : ZMl} {R : ZMr} {Q : Nat → ZMi → ZMl → ZMr → Prop} (ha : (zKr N n a).1 = 6) (han : a < n + 2) (hk0 : zKg N (n + 2) = (21, 10)) (hz1 : ∀ j, L (n + 2) j = 0) (hRn : zRm_ R (n + 2)) (h : Q (n + 1) I L (zup R a 0 ((n + 2) + 1))) : zSG l dC dI cA N E A 33 1 10 0 0 n 0 [.ref a] [] I L R (zFr 33 1 10 Q) := by
  refine g_al (by decide +kernel : decode (zb 33) 0 = .ok (.aload_n 0, 1)) rfl rfl ?_
  refine g_oi (own := "HummingSet$Search") rfl zgm_HummingSet_Search_3 zgoi_i zgoi_c (Nat.le_of_ble_eq_true rfl) rfl (by decide +kernel : decode (zb 33) 1 = .ok (.invokespecial 3, 3)) ?_
  refine g_al (by decide +kernel : decode (zb 33) 4 = .ok (.aload_n 0, 1)) rfl rfl ?_
  refine g_bi (v := 10) (by decide +kernel : decode (zb 33) 5 = .ok (.bipush 10, 2)) (by decide) ?_
  refine g_nl (len := 10) zgac_long (by decide) (by decide) (by decide) hk0 (zvL_all ⟨zvk_r (by omega), trivial⟩) (zvL_all ⟨zvk_r (by omega), trivial⟩) (fun a j => Nat.le_trans (hRn a j) (by omega)) hz1 (by decide) (by decide) (by decide +kernel : decode (zb 33) 7 = .ok (.newarray .long, 2)) ?_
  refine g_pRF (j := 0) zo6 (by decide) (own := "HummingSet$Search") rfl (by decide) zgf_HummingSet_Search_9 rfl rfl rfl ⟨rfl, fun _ => ⟨rfl, rfl⟩⟩ (by decide +kernel : decode (zb 33) 9 = .ok (.putfield 9, 3)) (zKr_mono ha (by decide) (by omega)) ?_
  have hR1 : zRm_ (zup R a 0 ((n + 2) + 1)) (n + 1 + 2) := zRm_up hRn (by omega) (by omega)
  exact g_fin ⟨rfl, rfl, rfl, (by decide +kernel : decode (zb 33) 12 = .ok (.return_, 1)), h⟩
set_option maxRecDepth 4000 in
theorem c_38 {l : Launch} {dC : Nat → ClassId} {dI : Nat → Nat → Nat} {cA : Nat → ClassId} {N : Nat} {E : ZMi} {A : Nat → Prop} {n a : Nat} {I : ZMi} {L : ZMl} {R : ZMr} {Q : Nat → ZMi → ZMl → ZMr → Prop} (ha : (zKr N n a).1 = 7) (han : a < n + 2) (hk0 : zKg N (n + 2) = (20, 3)) (hz1 : ∀ j, I (n + 2) j = 0) (hRn : zRm_ R (n + 2)) (h : Q (n + 1) I L (zup R a 0 ((n + 2) + 1))) : zSG l dC dI cA N E A 38 1 3 0 0 n 0 [.ref a] [] I L R (zFr 38 1 3 Q) := by
  refine g_al (by decide +kernel : decode (zb 38) 0 = .ok (.aload_n 0, 1)) rfl rfl ?_
  refine g_oi (own := "HummingSet$Stage") rfl zgm_HummingSet_Stage_3 zgoi_i zgoi_c (Nat.le_of_ble_eq_true rfl) rfl (by decide +kernel : decode (zb 38) 1 = .ok (.invokespecial 3, 3)) ?_
  refine g_al (by decide +kernel : decode (zb 38) 4 = .ok (.aload_n 0, 1)) rfl rfl ?_
  refine g_ic (v := 3) (by decide +kernel : decode (zb 38) 5 = .ok (.iconst 3, 1)) (by decide) ?_
  refine g_na (kd := 20) (t0 := 0) (len := 3) (ty := .int) rfl (Or.inl rfl) rfl (by decide) (fun _ => rfl) zgac_int (by decide) (by decide) (by decide) hk0 (zvL_all ⟨zvk_r (by omega), trivial⟩) (zvL_all ⟨zvk_r (by omega), trivial⟩) (fun a j => Nat.le_trans (hRn a j) (by omega)) hz1 (by decide) (by decide) (by decide +kernel : decode (zb 38) 6 = .ok (.newarray .int, 2)) ?_
  refine g_pRF (j := 0) zo7 (by decide) (own := "HummingSet$Stage") rfl (by decide) zgf_HummingSet_Stage_9 rfl rfl rfl ⟨rfl, fun _ => ⟨rfl, rfl⟩⟩ (by decide +kernel : decode (zb 38) 8 = .ok (.putfield 9, 3)) (zKr_mono ha (by decide) (by omega)) ?_
  have hR1 : zRm_ (zup R a 0 ((n + 2) + 1)) (n + 1 + 2) := zRm_up hRn (by omega) (by omega)
  exact g_fin ⟨rfl, rfl, rfl, (by decide +kernel : decode (zb 38) 11 = .ok (.return_, 1)), h⟩
set_option maxRecDepth 4000 in
theorem c_39 {l : Launch} {dC : Nat → ClassId} {dI : Nat → Nat → Nat} {cA : Nat → ClassId} {N : Nat} {E : ZMi} {A : Nat → Prop} {n a : Nat} {I : ZMi} {L : ZMl} {R : ZMr} {Q : Nat → ZMi → ZMl → ZMr → Prop} (ha : (zKr N n a).1 = 8) (han : a < n + 2) (hk0 : zKg N (n + 2) = (22, 400)) (hz1 : ∀ j, I (n + 2) j = 0) (hRn : zRm_ R (n + 2)) (h : Q (n + 1) I L (zup R a 0 ((n + 2) + 1))) : zSG l dC dI cA N E A 39 1 400 0 0 n 0 [.ref a] [] I L R (zFr 39 1 400 Q) := by
  refine g_al (by decide +kernel : decode (zb 39) 0 = .ok (.aload_n 0, 1)) rfl rfl ?_
  refine g_oi (own := "HummingSet$Text") rfl zgm_HummingSet_Text_3 zgoi_i zgoi_c (Nat.le_of_ble_eq_true rfl) rfl (by decide +kernel : decode (zb 39) 1 = .ok (.invokespecial 3, 3)) ?_
  refine g_al (by decide +kernel : decode (zb 39) 4 = .ok (.aload_n 0, 1)) rfl rfl ?_
  refine g_si (v := 400) (by decide +kernel : decode (zb 39) 5 = .ok (.sipush 400, 3)) (by decide) ?_
  refine g_na (kd := 22) (t0 := 2) (len := 400) (ty := .byte) rfl (Or.inr (Or.inr (Or.inl rfl))) rfl (by decide) (fun _ => rfl) zgac_byte (by decide) (by decide) (by decide) hk0 (zvL_all ⟨zvk_r (by omega), trivial⟩) (zvL_all ⟨zvk_r (by omega), trivial⟩) (fun a j => Nat.le_trans (hRn a j) (by omega)) hz1 (by decide) (by decide) (by decide +kernel : decode (zb 39) 8 = .ok (.newarray .byte, 2)) ?_
  refine g_pRF (j := 0) zo8 (by decide) (own := "HummingSet$Text") rfl (by decide) zgf_HummingSet_Text_9 rfl rfl rfl ⟨rfl, fun _ => ⟨rfl, rfl⟩⟩ (by decide +kernel : decode (zb 39) 10 = .ok (.putfield 9, 3)) (zKr_mono ha (by decide) (by omega)) ?_
  have hR1 : zRm_ (zup R a 0 ((n + 2) + 1)) (n + 1 + 2) := zRm_up hRn (by omega) (by omega)
  exact g_fin ⟨rfl, rfl, rfl, (by decide +kernel : decode (zb 39) 13 = .ok (.return_, 1)), h⟩
set_option maxRecDepth 4000 in
theorem c_43 {l : Launch} {dC : Nat → ClassId} {dI : Nat → Nat → Nat} {cA : Nat → ClassId} {N : Nat} {E : ZMi} {A : Nat → Prop} {n a : Nat} {I : ZMi} {L : ZMl} {R : ZMr} {Q : Nat → ZMi → ZMl → ZMr → Prop} (ha : (zKr N n a).1 = 9) (han : a < n + 2) (hRn : zRm_ R (n + 2)) (h : Q (n) I L R) : zSG l dC dI cA N E A 43 0 0 0 0 n 0 [.ref a] [] I L R (zFr 43 0 0 Q) := by
  refine g_al (by decide +kernel : decode (zb 43) 0 = .ok (.aload_n 0, 1)) rfl rfl ?_
  refine g_oi (own := "HummingSet$Way") rfl zgm_HummingSet_Way_1 zgoi_i zgoi_c (Nat.le_of_ble_eq_true rfl) rfl (by decide +kernel : decode (zb 43) 1 = .ok (.invokespecial 1, 3)) ?_
  exact g_fin ⟨rfl, rfl, rfl, (by decide +kernel : decode (zb 43) 4 = .ok (.return_, 1)), h⟩
