/-! ===== the law's first bytes, and the start ===== -/
theorem zgl_HummingSetLaw_7 : Cond.classLink "HummingSetLaw" (7 : Nat) "HummingSet" ∈ zWS := zmW 16 (by decide +kernel) rfl
theorem zgn_11 : Cond.instantiable "HummingSet" (12 : Nat) ∈ zWS := zmW 17 (by decide +kernel) rfl
theorem zgj_11 : Cond.initialized "HummingSet" ∈ zWS := zmW 1 (by decide +kernel) rfl
theorem zgd_11 : ∀ j, j < zN 11 → defaultValue (zF11 j) = zdf0 (zty 11 j) := by decide +kernel
theorem zgm_HummingSetLaw_9 : zmm "HummingSetLaw" 9 zy69 := Or.inl (zmW 18 (by decide +kernel) rfl)
theorem zgc69 : zcal 69 0 := ⟨by decide +kernel, zcw69, by decide +kernel, by decide +kernel, zmW (w := Cond.initialized "HummingSet") 1 (by decide +kernel) rfl⟩
theorem zgi69 : Cond.instanceMethod (zy 69) ∈ zWS := zmW (w := Cond.instanceMethod zy69) 19 (by decide +kernel) rfl
theorem zgl_HummingSetLaw_10 : Cond.classLink "HummingSetLaw" (10 : Nat) "HummingSetModel" ∈ zWS := zmW 761 (by decide +kernel) rfl
theorem zgn_12 : Cond.instantiable "HummingSetModel" (38 : Nat) ∈ zWS := zmW 762 (by decide +kernel) rfl
theorem zgj_12 : Cond.initialized "HummingSetModel" ∈ zWS := zmW 15 (by decide +kernel) rfl
theorem zgd_12 : ∀ j, j < zN 12 → defaultValue (zF12 j) = zdf0 (zty 12 j) := by decide +kernel
theorem zgm_HummingSetLaw_12 : zmm "HummingSetLaw" 12 zy104 := Or.inl (zmW 763 (by decide +kernel) rfl)
theorem zgc104 : zcal 104 0 := ⟨by decide +kernel, zcw104, by decide +kernel, by decide +kernel, zmW (w := Cond.initialized "HummingSetModel") 15 (by decide +kernel) rfl⟩
theorem zgi104 : Cond.instanceMethod (zy 104) ∈ zWS := zmW (w := Cond.instanceMethod zy104) 764 (by decide +kernel) rfl
theorem dg176_0 : decode (zb 176) 0 = .ok (.new 7, 3) := by decide +kernel
theorem dg176_3 : decode (zb 176) 3 = .ok (.dup, 1) := by decide +kernel
theorem dg176_4 : decode (zb 176) 4 = .ok (.invokespecial 9, 3) := by decide +kernel
theorem dg176_7 : decode (zb 176) 7 = .ok (.astore_n 1, 1) := by decide +kernel
theorem dg176_8 : decode (zb 176) 8 = .ok (.new 10, 3) := by decide +kernel
theorem dg176_11 : decode (zb 176) 11 = .ok (.dup, 1) := by decide +kernel
theorem dg176_12 : decode (zb 176) 12 = .ok (.invokespecial 12, 3) := by decide +kernel
theorem dg176_15 : decode (zb 176) 15 = .ok (.astore_n 2, 1) := by decide +kernel
def zFl : ZFin := fun c s n pc ls st I L R => c = 152 ∧ s = 3029 ∧ n = 152 ∧ pc = 16 ∧ ls = [.ref 0, .ref 2, .ref 119, .null] ∧ st = [] ∧ zINV I L R
set_option maxRecDepth 100000 in
theorem c_law {l : Launch} {dC : Nat → ClassId} {dI : Nat → Nat → Nat} {cA : Nat → ClassId} {N : Nat} {E : ZMi} {A : Nat → Prop} {I : ZMi} {L : ZMl} (hI : ∀ a, 2 ≤ a → ∀ j, I a j = 0) (hL : ∀ a, 2 ≤ a → ∀ j, L a j = 0) (hmn : ∀ k, k < 5 → I 1 k = zmn k) : zSG l dC dI cA N E A 176 152 3029 0 0 0 0 [.ref 0, .null, .null, .null] [] I L zR00 zFl := by
  have hR0 := zRi_0 2
  refine g_new (ci := 11) (C := "HummingSet") (own := "HummingSetLaw") zo11 rfl zgl_HummingSetLaw_7 zgn_11 zgj_11 zgd_11 (zKg_c (by decide +kernel) (by decide +kernel)) (zvL_all ⟨zvk_r (by decide), trivial, trivial, trivial, trivial⟩) (zvL_all trivial) (fun a j => hR0.1 a j) (hI _ (by decide)) (hL _ (by decide)) (fun j => hR0.2.1 _ (by decide) j) (by decide) (by decide) dg176_0 ?_
  refine zg_al (q := 2) (n' := 1) (c' := 1) (s' := 12) (pc' := 3) rfl rfl rfl rfl rfl ?_
  have hR1 := zRi_w (m' := 3) hR0 (by decide)
  refine g_dup dg176_3 ?_
  refine g_cI3 (k2 := 69) (mc2 := 116) (ms2 := 1557) (fun I3 L3 => zCI I3 L3 39 zS_3 1 1 0 0 zT0_ 0 zA0 0 0 zA0 0 zA0 ∧ zfE I I3 ∧ ∀ a k, 119 ≤ a → L3 a k = L a k) zgm_HummingSetLaw_9 zgc69 zgi69 rfl rfl (by decide +kernel) (by decide +kernel) dg176_4 rfl (by decide) (by decide) (zvL_all ⟨zvk_r (by decide), trivial, trivial, trivial, trivial⟩) (zvL_all ⟨zvk_r (by decide), trivial⟩) (fun Q hq => c_69 hI hL (fun I3 L3 g1 g2 g3 => hq I3 L3 ⟨g1, g2, g3⟩)) ?_
  rintro I1 L1 ⟨g1, g2, g3⟩
  have hI1 : ∀ a, 119 ≤ a → ∀ j, I1 a j = 0 := fun a ha j => (g2 a j (Or.inr ha)).trans (hI a (by omega) j)
  have hL1 : ∀ a, 119 ≤ a → ∀ j, L1 a j = 0 := fun a ha j => (g3 a j ha).trans (hL a (by omega) j)
  refine zg_n (n' := 117) (c' := 117) (s' := 1569) (pc' := 7) rfl rfl rfl rfl ?_
  refine g_as (ls' := [.ref 0, .ref 2, .null, .null]) dg176_7 rfl (Nat.le_of_ble_eq_true rfl) rfl ?_
  refine g_new (ci := 12) (C := "HummingSetModel") (own := "HummingSetLaw") zo12 rfl zgl_HummingSetLaw_10 zgn_12 zgj_12 zgd_12 (zKg_c (by decide +kernel) (by decide +kernel)) (zvL_all ⟨zvk_r (by decide), zvk_r (by decide), trivial, trivial, trivial⟩) (zvL_all trivial) (fun a j => zR1_i.1 a j) (hI1 _ (by decide)) (hL1 _ (by decide)) (fun j => zR1_i.2.1 _ (by decide) j) (by decide) (by decide) dg176_8 ?_
  refine zg_al (q := 119) (n' := 118) (c' := 118) (s' := 1607) (pc' := 11) rfl rfl rfl rfl rfl ?_
  have hR2 := zRi_w (m' := 120) zR1_i (by decide)
  refine g_dup dg176_11 ?_
  refine g_cI3 (k2 := 104) (mc2 := 34) (ms2 := 1422) (fun I3 L3 => (zMI I3 zS_3 1 1 0 0 zT0_ 0 zA0 0 0 zA0 0 zA0 ∧ zfM I1 I3) ∧ L1 = L3) zgm_HummingSetLaw_12 zgc104 zgi104 rfl rfl (by decide +kernel) (by decide +kernel) dg176_12 rfl (by decide) (by decide) (zvL_all ⟨zvk_r (by decide), zvk_r (by decide), trivial, trivial, trivial⟩) (zvL_all ⟨zvk_r (by decide), trivial⟩) (fun Q hq => c_104 hI1 hL1 (fun I3 g1 g2 => hq I3 L1 ⟨⟨g1, g2⟩, rfl⟩)) ?_
  rintro I2 _ ⟨⟨g4, g5⟩, rfl⟩
  refine zg_n (n' := 152) (c' := 152) (s' := 3029) (pc' := 15) rfl rfl rfl rfl ?_
  refine g_as (ls' := [.ref 0, .ref 2, .ref 119, .null]) dg176_15 rfl (Nat.le_of_ble_eq_true rfl) rfl ?_
  refine zg_n (n' := 152) (c' := 152) (s' := 3029) (pc' := 16) rfl rfl rfl rfl ?_
  exact g_fin ⟨rfl, rfl, rfl, rfl, rfl, rfl, fun k hk => (g5 1 k (by decide)).trans ((g2 1 k (Or.inl (by decide))).trans (hmn k hk)), 39, 79, zS_3, 1, 1, 0, 0, zT0_, 0, zA0, 0, 0, zA0, 0, zA0, zRI_2, zPI_0, zCI_M g1 (Or.inl rfl) zPI_0 g5 (zfM_r L1), g4⟩
theorem zarrO {s : State} {C : String} (h : va_AO C s) : ∃ c, ArrOfT s c (.object C) ∧ va_RA s c (.object C) := by
  obtain ⟨comp, c, k, h1, -, h3, h4, h5⟩ := Cond.arrayOver_spec h
  exact ⟨c, fun n z => ⟨fun k h => (by cases h), k, h3, comp, h4⟩, k, comp, h3, h4, h1, h5⟩
theorem zarrA {s : State} (h : (Cond.arrayOver (.array .int)).before #[] s = true) : ∃ c, ArrOfT s c (.array .int) ∧ va_RA s c (.array .int) := by
  obtain ⟨comp, c, k, h1, -, h3, h4, h5⟩ := arrayOver_specB h
  exact ⟨c, fun n z => ⟨fun k h => (by cases h), k, h3, comp, h4⟩, h5⟩
theorem zarrP {s : State} {args : Array Value} {ty : FieldType} (ht : ty = .int ∨ ty = .long ∨ ty = .byte ∨ ty = .boolean) (h : (Cond.arrayClass ty).before args s = true) : ∃ c, ArrOfT s c ty ∧ va_RA s c ty := by
  obtain ⟨c, k, comp, h1, h2, h3⟩ := Cond.arrayClass_spec h
  exact ⟨c, fun n z => ⟨fun k h => (by cases h), k, h2, comp, h3⟩, by rcases ht with rfl | rfl | rfl | rfl <;> exact h1⟩
def zE_ (xs : Nat → Int32) : ZMi := fun a j => if a = 0 then xs j else if a = 1 then zmn j else 0
/-! THE CLAIM OUT OF ONE WALK OF THE LAW'S BODY. Your part is whole_start (and what it stands on); all else here is the same for every law, but numbers. -/
def R_law : String := "HummingSetLaw"
def lw_P (b : Addr) (xs : List Int32) (args : Array Value) (s : State) : Prop := args = #[.ref b] ∧ s.IntsAt b xs ∧ xs.length ≤ 2560 ∧ (Jvm.Cond.and given_1 narrow_1).before args s = true
def lw_Q (_ : Array Value) (s : State) (o : Outcome) (t : State) : Prop := o = .returned (some (.int 1)) ∧ Framed s o t [] 600000 7302250
def lw_Z (below : List Frame) (a : Array Value) (s : State) : State → Prop := fun t => ∃ o, t.status = .running ∧ Ended t below o ∧ lw_Q a s o t
/-- the law's own end, with 1 on the stack, nothing written that was there before, its room as the claim has it -/
theorem lw_ret {p : Program} {l : Launch} {e : Env} {s : State} {m : MethodId} {below : List Frame} {meth : Method} {c : Code} {b : Nat} (hx : p.tables.exec = Jvm.exec) (hb : c.code = code) (hr : meth.sig.returnType = ret) (hlocks : meth.locks = false) {pc : Nat} {H : Heap} {ls : Array Slot} (hdg : decode code pc = .ok (.ireturn, 1)) : W p l e room_1 s m #[Value.ref b] below meth c H [] 600000 7302250 (lw_Z below #[Value.ref b] s) (F0 m pc ls [.int 1]) := by
  intro T hT X
  obtain ⟨fs, hret, hrun, hended, hW, hframe⟩ := X.leave (v := some (.int 1)) (hlocks := hlocks) (fun h => by rw [hr] at h; cases h)
  have hmeth' : T.vm.method? m = some meth := X.method'
  refine ⟨T.setFrames fs, ?_, .returned (some (.int 1)), hrun, hended, rfl, ⟨_, rfl⟩, hW, hframe⟩
  jvm_step X.here [X.here.top, hx, hb, hdg, hmeth', hr, ret, narrow_b1]
  (try refine ⟨rfl, ?_⟩); (try refine ⟨rfl, ?_⟩)
  first | (intro acts; rw [hret _ acts rfl rfl rfl]) | rw [hret _ _ rfl rfl rfl]
  exact Steps.refl _
/-- what holds at the law's entry: the machine, the code, the tables' words (any of lw_tbl by 'hts w (by decide +kernel)'), the script of L ints xs at the cell b, what the Statement gives of the start (any of its parts by flat_of_before) -/
def lw_At (p : Program) (s : State) (m : MethodId) (meth : Method) (c : Code) (b L : Nat) (xs : Nat → Int32) : Prop :=
  p.tables.exec = Jvm.exec ∧ c.code = code ∧ meth.sig.returnType = ret ∧ c.maxLocals = 4 ∧ s.vm.findClass R_law = some m.cls ∧ (∀ w ∈ lw_tbl, w.before #[Value.ref b] s = true) ∧ va_X b L xs s s.heap ∧ b < s.heap.size ∧ meth.locks = false ∧ (Jvm.Cond.and given_1 narrow_1).before #[Value.ref b] s = true
set_option maxRecDepth 100000 in
set_option maxHeartbeats 4000000 in
theorem whole_start {p : Program} {e : Env} {s : State} {m : MethodId} {below : List Frame} {meth : Method} {c : Code} (l : Launch) {b L : Nat} {xs : Nat → Int32} (hL : L ≤ 2560) (C0 : lw_At p s m meth c b L xs) : W p l e room_1 s m #[Value.ref b] below meth c s.heap [] 0 0 (lw_Z below #[Value.ref b] s) (entryFrame m ([Value.ref b] : List Value).toArray 4) := by
  obtain ⟨hx, hb, hr, hml, hown, hts0, hX, hbl, hlocks, hgv⟩ := id C0
  have hA : ∀ q : Nat, s.heap.size ≤ q → (fun q : Nat => s.heap.size ≤ q) q := fun _ h => h
  have hnA : ∀ q : Nat, q < s.heap.size → ¬ (fun q : Nat => s.heap.size ≤ q) q := fun _ h => Nat.not_le.mpr h
  have hts : ∀ w ∈ zWS, w.before #[Value.ref b] s = true := fun w hw => hts0 w (List.mem_filter.mp hw).1
  have hNW : ∀ w ∈ zNW, va_Nw w s := fun w hw => by
    have h1 := (List.mem_filter.mp hw).2
    refine va_Nw.of (A := #[Value.ref b]) ?_ (hts0 w (List.mem_append_right _ (List.mem_filter.mp hw).1))
    cases w <;> first | rfl | (simp [zisN] at h1)
  obtain ⟨c0, i0, k0⟩ := u_known (C := zC0) (T := zT0) (N := 5) (n := 5) hts zl0 (hts _ zgn_0)
  obtain ⟨c1, i1, k1⟩ := u_known (C := zC1) (T := zT1) (N := 2) (n := 2) hts zl1 (hts _ zgn_1)
  obtain ⟨c2, i2, k2⟩ := u_known (C := zC2) (T := zT2) (N := 4) (n := 4) hts zl2 (hts _ zgn_2)
  obtain ⟨c3, i3, k3⟩ := u_known (C := zC3) (T := zT3) (N := 9) (n := 9) hts zl3 (hts _ zgn_3)
  obtain ⟨c4, i4, k4⟩ := u_known (C := zC4) (T := zT4) (N := 3) (n := 3) hts zl4 (hts _ zgn_4)
  obtain ⟨c5, i5, k5⟩ := u_known (C := zC5) (T := zT5) (N := 2) (n := 2) hts zl5 (hts _ zgn_5)
  obtain ⟨c6, i6, k6⟩ := u_known (C := zC6) (T := zT6) (N := 5) (n := 5) hts zl6 (hts _ zgn_6)
  obtain ⟨c7, i7, k7⟩ := u_known (C := zC7) (T := zT7) (N := 3) (n := 3) hts zl7 (hts _ zgn_7)
  obtain ⟨c8, i8, k8⟩ := u_known (C := zC8) (T := zT8) (N := 2) (n := 2) hts zl8 (hts _ zgn_8)
  obtain ⟨c9, i9, k9⟩ := u_known (C := zC9) (T := zT9) (N := 3) (n := 3) hts zl9 (hts _ zgn_9)
  obtain ⟨c10, i10, k10⟩ := u_known (C := zC10) (T := zT10) (N := 10) (n := 10) hts zl10 (hts _ zgn_10)
  obtain ⟨c11, i11, k11⟩ := u_known (C := zC11) (T := zT11) (N := 12) (n := 12) hts zl11 (hts _ zgn_11)
  obtain ⟨c12, i12, k12⟩ := u_known (C := zC12) (T := zT12) (N := 38) (n := 38) hts zl12 (hts _ zgn_12)
  have HK : ∀ k : Nat, ∃ (cc : ClassId) (ii : Nat → Nat), ∀ q : vw_C, zcls[k]? = some q → u_Kn s q.1 q.2.1 q.2.2 cc ii := by
    intro k
    match k with
    | 0 => exact ⟨c0, i0, fun q hq => by cases hq; exact k0⟩
    | 1 => exact ⟨c1, i1, fun q hq => by cases hq; exact k1⟩
    | 2 => exact ⟨c2, i2, fun q hq => by cases hq; exact k2⟩
    | 3 => exact ⟨c3, i3, fun q hq => by cases hq; exact k3⟩
    | 4 => exact ⟨c4, i4, fun q hq => by cases hq; exact k4⟩
    | 5 => exact ⟨c5, i5, fun q hq => by cases hq; exact k5⟩
    | 6 => exact ⟨c6, i6, fun q hq => by cases hq; exact k6⟩
    | 7 => exact ⟨c7, i7, fun q hq => by cases hq; exact k7⟩
    | 8 => exact ⟨c8, i8, fun q hq => by cases hq; exact k8⟩
    | 9 => exact ⟨c9, i9, fun q hq => by cases hq; exact k9⟩
    | 10 => exact ⟨c10, i10, fun q hq => by cases hq; exact k10⟩
    | 11 => exact ⟨c11, i11, fun q hq => by cases hq; exact k11⟩
    | 12 => exact ⟨c12, i12, fun q hq => by cases hq; exact k12⟩
    | k + 13 => exact ⟨c0, i0, fun q hq => by simp [zcls] at hq⟩
  have hAO : zAO s := ⟨va_AO.of (A := #[Value.ref b]) (hts0 (.arrayOver (.object "HummingSet$Stage")) (List.mem_append_right _ (List.mem_of_getElem? (i := 179) (by decide +kernel)))), va_AO.of (A := #[Value.ref b]) (hts0 (.arrayOver (.object "HummingSet$Part")) (List.mem_append_right _ (List.mem_of_getElem? (i := 181) (by decide +kernel)))), va_AO.of (A := #[Value.ref b]) (hts0 (.arrayOver (.object "HummingSet$Way")) (List.mem_append_right _ (List.mem_of_getElem? (i := 183) (by decide +kernel)))), arrayOver_alikeB (Vm.Alike.refl s.vm) (hts0 (.arrayOver (.array .int)) (List.mem_append_right _ (List.mem_of_getElem? (i := 61) (by decide +kernel))))⟩
  obtain ⟨a20, y20⟩ := zarrP (ty := .int) (Or.inl rfl) (hts _ zgac_int)
  obtain ⟨a21, y21⟩ := zarrP (ty := .long) (Or.inr (Or.inl rfl)) (hts _ zgac_long)
  obtain ⟨a22, y22⟩ := zarrP (ty := .byte) (Or.inr (Or.inr (Or.inl rfl))) (hts _ zgac_byte)
  obtain ⟨a23, y23⟩ := zarrP (ty := .boolean) (Or.inr (Or.inr (Or.inr rfl))) (hts _ zgac_boolean)
  obtain ⟨a24, y24⟩ := zarrO hAO.1
  obtain ⟨a25, y25⟩ := zarrO hAO.2.1
  obtain ⟨a26, y26⟩ := zarrO hAO.2.2.1
  obtain ⟨a27, y27⟩ := zarrA hAO.2.2.2
  obtain ⟨cA, hcA⟩ : ∃ cA : Nat → ClassId, cA 20 = a20 ∧ cA 21 = a21 ∧ cA 22 = a22 ∧ cA 23 = a23 ∧ cA 24 = a24 ∧ cA 25 = a25 ∧ cA 26 = a26 ∧ cA 27 = a27 :=
    ⟨fun k => if k = 20 then a20 else if k = 21 then a21 else if k = 22 then a22 else if k = 23 then a23 else if k = 24 then a24 else if k = 25 then a25 else if k = 26 then a26 else a27, rfl, rfl, rfl, rfl, rfl, rfl, rfl, rfl⟩
  obtain ⟨e20, e21, e22, e23, e24, e25, e26, e27⟩ := hcA
  have hKa : va_K (fun k => Classical.choose (HK k), fun k => Classical.choose (Classical.choose_spec (HK k))) zcls (ztys cA) s := by
    refine ⟨fun k q hq => Classical.choose_spec (Classical.choose_spec (HK k)) q hq, fun k q hq => ?_⟩
    match k, hq with
    | 0, hq => cases hq; rw [e20]; exact y20
    | 1, hq => cases hq; rw [e21]; exact y21
    | 2, hq => cases hq; rw [e22]; exact y22
    | 3, hq => cases hq; rw [e23]; exact y23
    | 4, hq => cases hq; rw [e24]; exact y24
    | 5, hq => cases hq; rw [e25]; exact y25
    | 6, hq => cases hq; rw [e26]; exact y26
    | 7, hq => cases hq; rw [e27]; exact y27
    | k + 8, hq => simp [ztys] at hq
  generalize (fun k => Classical.choose (HK k)) = dC at hKa
  generalize (fun k => Classical.choose (Classical.choose_spec (HK k))) = dI at hKa
  -- the static array
  have hs := flat_of_before _ hgv
  obtain ⟨t, ht, hT⟩ := va_Tof (s := s) (args := #[Value.ref b]) (tm := .static "HummingSet" "MINUTES" "[I") (ty := .int) (N := 5) (f := fun j => .int (zmn j)) (A := fun q : Nat => s.heap.size ≤ q) (by decide) (hs _ (by decide +kernel)) (va_eqt (hs (.eq (.length (.static "HummingSet" "MINUTES" "[I")) (.int 5)) (by decide +kernel))) (fun j hj => by
    rcases (show j = 0 ∨ j = 1 ∨ j = 2 ∨ j = 3 ∨ j = 4 by omega) with rfl | rfl | rfl | rfl | rfl
    · exact va_eqt (hs (.eq (.elem (.static "HummingSet" "MINUTES" "[I") (.int 0)) (.int 1)) (by decide +kernel))
    · exact va_eqt (hs (.eq (.elem (.static "HummingSet" "MINUTES" "[I") (.int 1)) (.int 3)) (by decide +kernel))
    · exact va_eqt (hs (.eq (.elem (.static "HummingSet" "MINUTES" "[I") (.int 2)) (.int 2)) (by decide +kernel))
    · exact va_eqt (hs (.eq (.elem (.static "HummingSet" "MINUTES" "[I") (.int 3)) (.int 4)) (by decide +kernel))
    · exact va_eqt (hs (.eq (.elem (.static "HummingSet" "MINUTES" "[I") (.int 4)) (.int 5)) (by decide +kernel))) hnA
  have hZ : va_Z "HummingSet" "MINUTES" "[I" (.ref t) (fun q : Nat => s.heap.size ≤ q) s s.heap := va_Zref (hts0 (.laysStatic "HummingSet" "MINUTES" "[I") (List.mem_append_right _ (List.mem_of_getElem? (i := 668) (by decide +kernel)))) (hts _ zgj_11) ht hnA
  obtain ⟨scr, x1, x2, x3, x4, x5⟩ := hX
  have hWd : zWd dC dI cA (fun i => if i = 0 then b else t) (zKr L 0) 0 (zE_ xs) (fun q : Nat => s.heap.size ≤ q) s := by
    refine ⟨hKa, hNW, fun a q => ?_, hZ⟩
    rcases zK30 q with rfl | rfl
    · rw [zKr_0]
      exact ⟨⟨scr, x1, x2, x3, by rw [x4]; exact Nat.le_refl _, by rw [x4], x5, hnA b hbl⟩, (show L < 2 ^ 31 by omega)⟩
    · rw [zKr_1]
      exact ⟨hT, by decide⟩
  have hG := c_law (l := l) (dC := dC) (dI := dI) (cA := cA) (N := L) (E := zE_ xs) (A := fun q : Nat => s.heap.size ≤ q) (I := zE_ xs) (L := fun _ _ => 0) (fun a ha j => by unfold zE_; rw [if_neg (by omega), if_neg (by omega)]) (fun _ _ _ => rfl) (fun k _ => rfl)
  rw [lg_entry_eq]
  refine hG (fun i => if i = 0 then b else t) p e room_1 s m #[Value.ref b] below meth c (lw_Z below #[Value.ref b] s) ⟨hx, hb, hml, hown, hts, hWd, by decide +kernel, by decide +kernel, by decide +kernel, by decide +kernel, hA, hAO, fun h => absurd rfl h⟩ ?_ rfl (fun _ _ _ => rfl) s.heap [] _ (zentry (fun i => if i = 0 then b else t) (ml := 4) (as := [.ref 0]) (by decide)) (fun k q h => by simp [zwl] at h) ⟨fun i j p q h => by simp [zwl] at h, fun k q h => by simp [zwl] at h⟩ va_S.rf
  intro ad' cells slots n' pc ls st I L' R hnn hag hfl
  obtain ⟨rfl, rfl, rfl, rfl, rfl, rfl, hinv⟩ := hfl
  have hall := l_all (zclosed l dC dI cA ad' (zKr L 152) 152 (zE_ xs) (fun q : Nat => s.heap.size ≤ q) (zKn_r L 152)) (zK1_k (by decide)) zK2_b (zKr_0 L 152) hL (Q := fun v _ _ _ => v = some (.int 1)) hinv (fun _ _ _ => rfl)
  refine hall p e room_1 s m #[Value.ref b] below meth c 152 3029 (lw_Z below #[Value.ref b] s) ⟨hx, hb, hml, hown, hts, zWd_n hWd (hag 0 (by decide)) (hag 1 (by decide)), by decide +kernel, by decide +kernel, by decide +kernel, by decide +kernel⟩ ?_
  intro pc v ls I L' R hv hi
  subst hv
  intro hlen hE H locs lsA hl hP hD hS
  have hd : decode code pc = .ok (.ireturn, 1) := by
    rcases hi with ⟨x, -, hd, -⟩ | ⟨x, -, -, hd, -⟩ | ⟨x, h, -⟩ | ⟨h, -⟩
    · exact hd
    · exact hd
    · cases h
    · cases h
  refine va_forget (fun q hq => hS.2.2 q hq) ?_
  refine W.widen (k := 600000) (n := 7302250) (by decide) (by decide) ?_
  exact lw_ret hx hb hr hlocks hd
