/-! ===== soundness: Math, returns, calls ===== -/
theorem zck_1 {ml : Nat} {as st : List Value} (ad : Nat → Nat) (h : zck ml as st = true) : ((st.map (zcv ad)).map fun v => v.category).sum ≤ 8 := by
  have h1 := (Bool.and_eq_true_iff.mp h).1
  have e : (st.map (zcv ad)).map (fun v => v.category) = st.map (fun v => v.category) := by
    rw [List.map_map]
    exact List.map_congr_left (fun v _ => zcv_cat ad v)
  rw [e]
  exact Nat.le_of_ble_eq_true h1
theorem zck_2 {ml : Nat} {as st : List Value} (h : zck ml as st = true) : (zsl as).length ≤ ml := Nat.le_of_ble_eq_true (Bool.and_eq_true_iff.mp h).2
theorem zent_len {ml : Nat} {as : List Value} (h : (zsl as).length ≤ ml) : (zent ml as).length = ml := by
  simp [zent]; omega
theorem zarg_eq : ∀ (na : Nat) (acc st as r : List Value), zarg na acc st = some (as, r) → ∃ bs, st = bs.reverse ++ r ∧ as = bs ++ acc ∧ bs.length = na
  | 0, acc, st, as, r, h => by
    simp only [zarg, Option.some.injEq, Prod.mk.injEq] at h
    exact ⟨[], by simp [h.2], by simp [h.1], rfl⟩
  | na + 1, acc, [], as, r, h => by simp [zarg] at h
  | na + 1, acc, v :: st, as, r, h => by
    obtain ⟨bs, h1, h2, h3⟩ := zarg_eq na (v :: acc) st as r h
    exact ⟨bs ++ [v], by simp [h1], by simp [h2], by simp [h3]⟩
theorem zsl_lg (ad : Nat → Nat) : ∀ (as : List Value), (lg_sl (as.map (zcv ad))).length = (zsl as).length
  | [] => rfl
  | v :: r => by
    have ih := zsl_lg ad r
    cases v <;> simp [lg_sl, zsl, zcv, Value.category] at ih ⊢ <;> omega
theorem zll_app_null (ad : Nat → Nat) : ∀ (as : List Value) (k j : Nat), zll ad k (as ++ List.replicate j .null) = zll ad k as
  | [], k, 0 => rfl
  | [], k, j + 1 => by
    show zll ad (k + 1) (List.replicate j .null) = []
    exact zll_app_null ad [] (k + 1) j
  | v :: r, k, j => by
    have ih := zll_app_null ad r (k + 1) j
    cases v <;> simp [zll, ih]
theorem zll_args (ad : Nat → Nat) : ∀ (as : List Value) (k : Nat), ∀ q ∈ zll ad k (zsl as), q ∈ lv_args k (as.map (zcv ad))
  | [], k, q, h => by simp [zsl, zll] at h
  | v :: r, k, q, h => by
    cases v with
    | long x =>
      have h : q ∈ (k, Value.long x) :: zll ad (k + 1 + 1) (zsl r) := h
      rcases List.mem_cons.mp h with h | h
      · exact List.mem_cons.mpr (Or.inl h)
      · exact List.mem_cons_of_mem _ (zll_args ad r (k + 2) q h)
    | double x =>
      have h : q ∈ (k, Value.double x) :: zll ad (k + 1 + 1) (zsl r) := h
      rcases List.mem_cons.mp h with h | h
      · exact List.mem_cons.mpr (Or.inl h)
      · exact List.mem_cons_of_mem _ (zll_args ad r (k + 2) q h)
    | null => exact List.mem_cons_of_mem _ (zll_args ad r (k + 1) q h)
    | int x =>
      have h : q ∈ (k, Value.int x) :: zll ad (k + 1) (zsl r) := h
      rcases List.mem_cons.mp h with h | h
      · exact List.mem_cons.mpr (Or.inl h)
      · exact List.mem_cons_of_mem _ (zll_args ad r (k + 1) q h)
    | float x =>
      have h : q ∈ (k, Value.float x) :: zll ad (k + 1) (zsl r) := h
      rcases List.mem_cons.mp h with h | h
      · exact List.mem_cons.mpr (Or.inl h)
      · exact List.mem_cons_of_mem _ (zll_args ad r (k + 1) q h)
    | ref x =>
      have h : q ∈ (k, Value.ref (ad x)) :: zll ad (k + 1) (zsl r) := h
      rcases List.mem_cons.mp h with h | h
      · exact List.mem_cons.mpr (Or.inl h)
      · exact List.mem_cons_of_mem _ (zll_args ad r (k + 1) q h)
    | retAddr x =>
      have h : q ∈ (k, Value.retAddr x) :: zll ad (k + 1) (zsl r) := h
      rcases List.mem_cons.mp h with h | h
      · exact List.mem_cons.mpr (Or.inl h)
      · exact List.mem_cons_of_mem _ (zll_args ad r (k + 1) q h)
/-- the locals at a method's entry -/
theorem zentry (ad : Nat → Nat) {ml : Nat} {as : List Value} (h : (zsl as).length ≤ ml) : lv_has ((lg_sl (as.map (zcv ad)) ++ List.replicate (ml - (lg_sl (as.map (zcv ad))).length) Slot.unset).toArray) ml (zll ad 0 (zent ml as)) := by
  have hl := lv_entry (as.map (zcv ad)) (n := ml) (by rw [zsl_lg]; exact h)
  refine ⟨hl.1, hl.2.1, fun q hq => hl.2.2 q ?_⟩
  rw [zent, zll_app_null] at hq
  exact zll_args ad as 0 q hq
/-- how a return instruction stands -/
def zisR (cc : ByteArray) (rty : Option FieldType) (pc : Nat) (v : Option Value) : Prop :=
  (∃ x, v = some (.int x) ∧ decode cc pc = .ok (.ireturn, 1) ∧ rty = some .int) ∨ (∃ x, v = some (.int x) ∧ (x = 0 ∨ x = 1) ∧ decode cc pc = .ok (.ireturn, 1) ∧ rty = some .boolean) ∨ (∃ x, v = some (.long x) ∧ decode cc pc = .ok (.lreturn, 1) ∧ rty = some .long) ∨ (v = none ∧ decode cc pc = .ok (.return_, 1) ∧ rty = none)
/-- the world, of a state -/
def zWd (dC : Nat → ClassId) (dI : Nat → Nat → Nat) (cA : Nat → ClassId) (ad : Nat → Nat) (K : ZKh) (n : Nat) (E : ZMi) (A : Nat → Prop) (U : State) : Prop :=
  va_K (dC, dI) zcls (ztys cA) U ∧ (∀ w ∈ zNW, va_Nw w U) ∧ (∀ a, (K a).1 = 30 → va_T .int (ad a) (K a).2 (fun j => .int (E a j)) A U U.heap ∧ (K a).2 < 2 ^ 31) ∧ va_Z "HummingSet" "MINUTES" "[I" (.ref (ad 1)) A U U.heap
/-- what a method leaves -/
def zQ (dC : Nat → ClassId) (dI : Nat → Nat → Nat) (cA : Nat → ClassId) (ad : Nat → Nat) (K : ZKh) (n : Nat) (E : ZMi) (A : Nat → Prop) (Q : ZRt) : Array Value → State → Outcome → State → Prop := fun _ st oc t => (∃ (v : Option Value) (I : ZMi) (L : ZMl) (R : ZMr), oc = .returned (v.map (zcv ad)) ∧ Q v I L R ∧ zext K E I ∧ va_P (dC, dI) zcls (zwl cA ad K n I L R) t.heap ∧ va_D A (zwl cA ad K n I L R)) ∧ va_F A st t
section ZS
variable {p : Program} {l : Launch} {e : Env} {Rm : Room} {s : State} {m : MethodId} {args : Array Value} {below : List Frame} {meth : Method} {c : Code} {cells slots : Nat} {Z : State → Prop}
variable {cc : ByteArray} {pc : Nat} {dC : Nat → ClassId} {dI : Nat → Nat → Nat} {cA : Nat → ClassId} {ad : Nat → Nat} {K : ZKh} {n nL : Nat} {E : ZMi} {A : Nat → Prop} {own : String}
variable {nx : ZNx} {rt : ZRt} {cx : ZCx} {ls st : List Value} {I : ZMi} {L : ZMl} {R : ZMr}
set_option maxHeartbeats 1000000 in
theorem sn_mmax (hx : p.tables.exec = Jvm.exec) (hb : c.code = cc) (hml : c.maxLocals = nL) (hown : s.vm.findClass own = some m.cls) {idx : Nat} (hlk : (Cond.methodLink own idx Lib.Math.max.name).before args s = true) (hst : (Cond.static Lib.Math.max.name).before args s = true) (hin : (Cond.initialized "java/lang/Math").before args s = true) (hcd : (Cond.code Lib.Math.max.name Lib.Math.max.code 2 (some .int)).before args s = true) (hf : 1 ≤ Rm.frames) (hlo : 40 ≤ Rm.locals) (hce : cells ≤ Rm.cells) (hsl : slots ≤ Rm.slots) (hd : decode cc pc = .ok (.invokestatic idx, 3)) (hX : ∀ pc ls st I L R, nx pc ls st I L R → zAt p l e Rm s m args below meth c cells slots Z dC dI cA ad K n nL E A pc ls st I L R) (h : z_mmax K pc nx rt cx ls st I L R) : zAt p l e Rm s m args below meth c cells slots Z dC dI cA ad K n nL E A pc ls st I L R := by
  unfold z_mmax at h
  split at h
  · intro hlen hE H locs lsA hl hP hD hS
    have hk := zck_1 ad h.1
    exact va_mmax hx hb (by rw [hml]; exact hl.1.symm) hown hlk hst hin hcd hf (by omega) hce hsl hd (hX _ _ _ _ _ _ h.2 hlen hE H locs lsA hl hP hD hS)
  · exact h.elim
set_option maxHeartbeats 1000000 in
theorem sn_mmin (hx : p.tables.exec = Jvm.exec) (hb : c.code = cc) (hml : c.maxLocals = nL) (hown : s.vm.findClass own = some m.cls) {idx : Nat} (hlk : (Cond.methodLink own idx Lib.Math.min.name).before args s = true) (hst : (Cond.static Lib.Math.min.name).before args s = true) (hin : (Cond.initialized "java/lang/Math").before args s = true) (hcd : (Cond.code Lib.Math.min.name Lib.Math.min.code 2 (some .int)).before args s = true) (hf : 1 ≤ Rm.frames) (hlo : 40 ≤ Rm.locals) (hce : cells ≤ Rm.cells) (hsl : slots ≤ Rm.slots) (hd : decode cc pc = .ok (.invokestatic idx, 3)) (hX : ∀ pc ls st I L R, nx pc ls st I L R → zAt p l e Rm s m args below meth c cells slots Z dC dI cA ad K n nL E A pc ls st I L R) (h : z_mmin K pc nx rt cx ls st I L R) : zAt p l e Rm s m args below meth c cells slots Z dC dI cA ad K n nL E A pc ls st I L R := by
  unfold z_mmin at h
  split at h
  · intro hlen hE H locs lsA hl hP hD hS
    have hk := zck_1 ad h.1
    exact va_mmin hx hb (by rw [hml]; exact hl.1.symm) hown hlk hst hin hcd hf (by omega) hce hsl hd (hX _ _ _ _ _ _ h.2 hlen hE H locs lsA hl hP hD hS)
  · exact h.elim
set_option maxHeartbeats 1000000 in
theorem sn_mabs (hx : p.tables.exec = Jvm.exec) (hb : c.code = cc) (hml : c.maxLocals = nL) (hown : s.vm.findClass own = some m.cls) {idx : Nat} (hlk : (Cond.methodLink own idx Lib.Math.abs.name).before args s = true) (hst : (Cond.static Lib.Math.abs.name).before args s = true) (hin : (Cond.initialized "java/lang/Math").before args s = true) (hcd : (Cond.code Lib.Math.abs.name Lib.Math.abs.code 1 (some .int)).before args s = true) (hf : 1 ≤ Rm.frames) (hlo : 40 ≤ Rm.locals) (hce : cells ≤ Rm.cells) (hsl : slots ≤ Rm.slots) (hd : decode cc pc = .ok (.invokestatic idx, 3)) (hX : ∀ pc ls st I L R, nx pc ls st I L R → zAt p l e Rm s m args below meth c cells slots Z dC dI cA ad K n nL E A pc ls st I L R) (h : z_mabs K pc nx rt cx ls st I L R) : zAt p l e Rm s m args below meth c cells slots Z dC dI cA ad K n nL E A pc ls st I L R := by
  unfold z_mabs at h
  split at h
  · intro hlen hE H locs lsA hl hP hD hS
    have hk := zck_1 ad h.1
    exact va_mabs hx hb (by rw [hml]; exact hl.1.symm) hown hlk hst hin hcd hf (by omega) hce hsl hd (hX _ _ _ _ _ _ h.2 hlen hE H locs lsA hl hP hD hS)
  · exact h.elim
set_option maxHeartbeats 1000000 in
theorem sn_mmaxl (hx : p.tables.exec = Jvm.exec) (hb : c.code = cc) (hml : c.maxLocals = nL) (hown : s.vm.findClass own = some m.cls) {idx : Nat} (hlk : (Cond.methodLink own idx Lib.MathLoose.max_long.x).before args s = true) (hst : (Cond.static Lib.MathLoose.max_long.x).before args s = true) (hin : (Cond.initialized "java/lang/Math").before args s = true) (hcd : (Cond.code Lib.MathLoose.max_long.x Lib.MathLoose.max_long.code 4 (some .long)).before args s = true) (hf : 1 ≤ Rm.frames) (hlo : 40 ≤ Rm.locals) (hce : cells ≤ Rm.cells) (hsl : slots ≤ Rm.slots) (hd : decode cc pc = .ok (.invokestatic idx, 3)) (hX : ∀ pc ls st I L R, nx pc ls st I L R → zAt p l e Rm s m args below meth c cells slots Z dC dI cA ad K n nL E A pc ls st I L R) (h : z_mmaxl K pc nx rt cx ls st I L R) : zAt p l e Rm s m args below meth c cells slots Z dC dI cA ad K n nL E A pc ls st I L R := by
  unfold z_mmaxl at h
  split at h
  · intro hlen hE H locs lsA hl hP hD hS
    have hk := zck_1 ad h.1
    exact va_mmax_long hx hb (by rw [hml]; exact hl.1.symm) hown hlk hst hin hcd hf (by omega) hce hsl hd (hX _ _ _ _ _ _ h.2 hlen hE H locs lsA hl hP hD hS)
  · exact h.elim
theorem sn_ir {rty : Option FieldType} (hR : ∀ pc v ls I L R, rt v I L R → zisR cc rty pc v → zAt p l e Rm s m args below meth c cells slots Z dC dI cA ad K n nL E A pc ls v.toList I L R) (hd : decode cc pc = .ok (.ireturn, 1)) (hr : rty = some .int) (h : z_ir K pc nx rt cx ls st I L R) : zAt p l e Rm s m args below meth c cells slots Z dC dI cA ad K n nL E A pc ls st I L R := by
  unfold z_ir at h
  split at h
  · exact hR pc _ ls I L R h (Or.inl ⟨_, rfl, hd, hr⟩)
  · exact h.elim
theorem sn_zr {rty : Option FieldType} (hR : ∀ pc v ls I L R, rt v I L R → zisR cc rty pc v → zAt p l e Rm s m args below meth c cells slots Z dC dI cA ad K n nL E A pc ls v.toList I L R) (hd : decode cc pc = .ok (.ireturn, 1)) (hr : rty = some .boolean) (h : z_zr K pc nx rt cx ls st I L R) : zAt p l e Rm s m args below meth c cells slots Z dC dI cA ad K n nL E A pc ls st I L R := by
  unfold z_zr at h
  split at h
  · exact hR pc _ ls I L R h.2 (Or.inr (Or.inl ⟨_, rfl, h.1, hd, hr⟩))
  · exact h.elim
theorem sn_lr {rty : Option FieldType} (hR : ∀ pc v ls I L R, rt v I L R → zisR cc rty pc v → zAt p l e Rm s m args below meth c cells slots Z dC dI cA ad K n nL E A pc ls v.toList I L R) (hd : decode cc pc = .ok (.lreturn, 1)) (hr : rty = some .long) (h : z_lr K pc nx rt cx ls st I L R) : zAt p l e Rm s m args below meth c cells slots Z dC dI cA ad K n nL E A pc ls st I L R := by
  unfold z_lr at h
  split at h
  · exact hR pc _ ls I L R h (Or.inr (Or.inr (Or.inl ⟨_, rfl, hd, hr⟩)))
  · exact h.elim
theorem sn_vr {rty : Option FieldType} (hR : ∀ pc v ls I L R, rt v I L R → zisR cc rty pc v → zAt p l e Rm s m args below meth c cells slots Z dC dI cA ad K n nL E A pc ls v.toList I L R) (hd : decode cc pc = .ok (.return_, 1)) (hr : rty = none) (h : z_vr K pc nx rt cx ls st I L R) : zAt p l e Rm s m args below meth c cells slots Z dC dI cA ad K n nL E A pc ls st I L R := by
  unfold z_vr at h
  split at h
  · exact hR pc _ ls I L R h (Or.inr (Or.inr (Or.inr ⟨rfl, hd, hr⟩)))
  · exact h.elim
/-- the end of a method's frame -/
theorem zret (hx : p.tables.exec = Jvm.exec) (hb : c.code = cc) (hlocks : meth.locks = false) {rty : Option FieldType} (hr : meth.sig.returnType = rty) {Q : ZRt} (pc : Nat) (v : Option Value) (ls : List Value) (I : ZMi) (L : ZMl) (R : ZMr) (hq : Q v I L R) (hi : zisR cc rty pc v) :
    zAt p l e Rm s m args below meth c cells slots (MQ below (zQ dC dI cA ad K n E A Q) args s cells slots A) dC dI cA ad K n nL E A pc ls v.toList I L R := by
  intro hlen hE H locs lsA hl hP hD hS
  have key : ∀ t : State, t.heap = H → zQ dC dI cA ad K n E A Q args s (.returned (v.map (zcv ad))) t := fun t ht => ⟨⟨v, I, L, R, rfl, hq, hE, by rw [ht]; exact hP, hD⟩, hS.F ht⟩
  rcases hi with ⟨x, rfl, hd, hy⟩ | ⟨x, rfl, h01, hd, hy⟩ | ⟨x, rfl, hd, hy⟩ | ⟨rfl, hd, hy⟩
  · exact W.iret (v := x) hx hb (hr.trans hy) (fun t ht _ => key t ht) hS.2.2 hd hlocks
  · exact W.zret (v := x) hx hb (hr.trans hy) (by rcases h01 with h | h <;> rw [h] <;> rfl) (fun t ht _ => key t ht) hS.2.2 hd hlocks
  · exact W.lret (v := x) hx hb (hr.trans hy) (fun t ht _ => key t ht) hS.2.2 hd hlocks
  · exact W.vret hx hb (hr.trans hy) (fun t ht _ => key t ht) hS.2.2 hd hlocks
/-- behind a call -/
theorem zcall {H : Heap} {locs : List Loc} {lsA : Array Slot} {st0 rest : List Value} {Q : ZRt} {a : Array Value} (hr : va_Run p l e Rm s m args below meth c H locs cells slots 0 0 (F0 m pc lsA st0) (rest.map (zcv ad)) (zQ dC dI cA ad K n E A Q a) A) (hlen : ls.length = nL) (hl : lv_has lsA nL (zll ad 0 ls)) (hS : va_S A s.heap H locs)
    (kk : ∀ (v : Option Value) (I : ZMi) (L : ZMl) (R : ZMr), Q v I L R → zAt p l e Rm s m args below meth c cells slots Z dC dI cA ad K n nL E A (pc + 3) ls (v.toList ++ rest) I L R) : W p l e Rm s m args below meth c H locs cells slots Z (F0 m pc lsA st0) := by
  intro T hT X
  obtain ⟨v, st₀, t, T', L9, h0, X', hL, e1, e2, ⟨⟨v', I, L, R, hv, hq, hE, hP, hD⟩, hz, hk⟩, st⟩ := hr T hT X
  cases hv
  rw [h0] at hz hk
  have hS1 : va_S A s.heap T'.heap (locs ++ L9) := ⟨Nat.le_trans hS.1 (by rw [e1]; exact hz), fun q h1 h2 => by rw [e1, hk q (Nat.lt_of_lt_of_le h1 hS.1) h2]; exact hS.2.1 q h1 h2, fun q hq => by
      rcases List.mem_append.mp hq with h | h
      · exact hS.2.2 q h
      · exact hL q h⟩
  obtain ⟨t2, a1, b1⟩ := kk v' I L R hq hlen hE T'.heap (locs ++ L9) lsA hl (by rw [e1]; exact hP) hD hS1 T' rfl X'
  refine ⟨t2, st t2 ?_, b1⟩
  have e9 : (v'.map (zcv ad)).toList ++ rest.map (zcv ad) = (v'.toList ++ rest).map (zcv ad) := by cases v' <;> simp
  show Steps p.tables e below (T'.setTop { F0 m pc lsA st0 with pc := pc + 3, stack := (v'.map (zcv ad)).toList ++ rest.map (zcv ad) }) t2
  rw [e9]
  exact a1
end ZS
