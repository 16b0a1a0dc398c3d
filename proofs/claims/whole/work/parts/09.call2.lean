/-! ===== soundness: a method's contract out of its spec; calls ===== -/
def zKn (K : ZKh) (n : Nat) : Prop := ∀ a, (K a).1 < 30 → (2 ≤ a ∧ a < n + 2) ∧ (K a).2 < 2 ^ 31
def zCx (dC : Nat → ClassId) (dI : Nat → Nat → Nat) (cA : Nat → ClassId) (ad : Nat → Nat) (K : ZKh) (n : Nat) (E : ZMi) (A : Nat → Prop) (k : Nat) (p : Program) (Rm : Room) (s : State) (m : MethodId) (args : Array Value) (c : Code) (cells slots : Nat) : Prop :=
  p.tables.exec = Jvm.exec ∧ c.code = zb k ∧ c.maxLocals = zml k ∧ s.vm.findClass (zy k).cls = some m.cls ∧ (∀ w ∈ zWS, w.before args s = true) ∧ zWd dC dI cA ad K n E A s ∧ zrk k ≤ Rm.frames ∧ 40 * zrk k ≤ Rm.locals ∧ cells ≤ Rm.cells ∧ slots ≤ Rm.slots
/-- the machine's own predicate: at every frame of method k in this world -/
def zSW (l : Launch) (dC : Nat → ClassId) (dI : Nat → Nat → Nat) (cA : Nat → ClassId) (ad : Nat → Nat) (K : ZKh) (n : Nat) (E : ZMi) (A : Nat → Prop) (k pc : Nat) (ls st : List Value) (I : ZMi) (L : ZMl) (R : ZMr) (Q : ZRt) : Prop :=
  ∀ (p : Program) (e : Env) (Rm : Room) (s : State) (m : MethodId) (args : Array Value) (below : List Frame) (meth : Method) (c : Code) (cells slots : Nat) (Z : State → Prop), zCx dC dI cA ad K n E A k p Rm s m args c cells slots →
    (∀ (pc : Nat) (v : Option Value) (ls : List Value) (I : ZMi) (L : ZMl) (R : ZMr), Q v I L R → zisR (zb k) (zrt k) pc v → zAt p l e Rm s m args below meth c cells slots Z dC dI cA ad K n (zml k) E A pc ls v.toList I L R) →
    zAt p l e Rm s m args below meth c cells slots Z dC dI cA ad K n (zml k) E A pc ls st I L R
def zrm (k : Nat) : Room := { frames := zrk k, cells := 0, slots := 0, locals := 40 * zrk k }
theorem zWd_blind {dC : Nat → ClassId} {dI : Nat → Nat → Nat} {cA : Nat → ClassId} {ad : Nat → Nat} {K : ZKh} {n : Nat} {E : ZMi} {A : Nat → Prop} {U V : State} (hv : U.vm = V.vm) (hh : U.heap = V.heap) (h : zWd dC dI cA ad K n E A U) : zWd dC dI cA ad K n E A V := by
  obtain ⟨h1, h2, h3, h4⟩ := h
  have ha : U.vm.Alike V.vm := by rw [hv]; exact Vm.Alike.refl V.vm
  exact ⟨va_K.moved ha h1, zNW_same hv h2, fun a q => ⟨by rw [← hh]; exact va_T.moved ha (h3 a q).1, (h3 a q).2⟩, by rw [← hh]; exact va_Z.moved ha h4⟩
theorem zWd_to {dC : Nat → ClassId} {dI : Nat → Nat → Nat} {cA : Nat → ClassId} {ad : Nat → Nat} {K : ZKh} {n : Nat} {E : ZMi} {A : Nat → Prop} {s U : State} {H : Heap} {locs : List Loc} (hS : va_S A s.heap H locs) (hH : U.heap = H) (hW : s.WarmedH U.vm) (h : zWd dC dI cA ad K n E A s) : zWd dC dI cA ad K n E A U := by
  obtain ⟨h1, h2, h3, h4⟩ := h
  refine ⟨va_K.moved hW.alike h1, zNW_warm hW h2, fun a q => ⟨?_, (h3 a q).2⟩, ?_⟩
  · rw [hH]
    exact va_T.kept (va_T.moved hW.alike (h3 a q).1) (fun b hb hA => hS.2.1 b hb hA)
  · rw [hH]
    exact va_Z.kept (va_Z.moved hW.alike h4) (fun b hb hA => hS.2.1 b hb hA)
theorem zmet {l : Launch} {dC : Nat → ClassId} {dI : Nat → Nat → Nat} {cA : Nat → ClassId} {ad : Nat → Nat} {K : ZKh} {n : Nat} {E : ZMi} {A : Nat → Prop} {k : Nat} {as : List Value} {I : ZMi} {L : ZMl} {R : ZMr} {Q : ZRt} (hy : plainName (zy k).cls = true) (hf : (zsl as).length ≤ zml k)
    (hE : zext K E I) (hD : va_D A (zwl cA ad K n I L R)) (hw : zSW l dC dI cA ad K n E A k 0 (zent (zml k) as) [] I L R Q) :
    Met l (zy k) (Cond.code (zy k) (zb k) (zml k) (zrt k) :: zWS) (zrm k) (va_Pc (as.map (zcv ad)) (fun U => va_P (dC, dI) zcls (zwl cA ad K n I L R) U.heap ∧ zWd dC dI cA ad K n E A U)) (zQ dC dI cA ad K n E A Q) 0 0 A := by
  refine Met.ofW (cc := zb k) (maxL := zml k) (ret := zrt k) hy rfl ?_
  intro p e s m args below meth c s₁ B hml hv
  obtain ⟨rfl, hP, hW⟩ := hv
  have hts := atoms_spec (ws := Cond.code (zy k) (zb k) (zml k) (zrt k) :: zWS) B.pre
  rw [lg_entry_eq]
  exact hw p e (zrm k) s m _ below meth c 0 0 _ ⟨B.exec, B.bytes, hml, findClass_of_methodNamed B.named, fun w h => hts w (List.mem_cons_of_mem _ h), hW, Nat.le_refl _, Nat.le_refl _, Nat.zero_le _, Nat.zero_le _⟩
    (fun pc v ls I L R hq hi => zret B.exec B.bytes B.notSynchronized B.returns pc v ls I L R hq hi) (zent_len hf) hE s.heap [] _ (zentry ad hf) hP hD va_S.rf
section ZS
variable {p : Program} {l : Launch} {e : Env} {Rm : Room} {s : State} {m : MethodId} {args : Array Value} {below : List Frame} {meth : Method} {c : Code} {cells slots : Nat} {Z : State → Prop}
variable {cc : ByteArray} {pc : Nat} {dC : Nat → ClassId} {dI : Nat → Nat → Nat} {cA : Nat → ClassId} {ad : Nat → Nat} {K : ZKh} {n nL : Nat} {E : ZMi} {A : Nat → Prop} {own : String}
variable {nx : ZNx} {rt : ZRt} {cx : ZCx} {ls st : List Value} {I : ZMi} {L : ZMl} {R : ZMr}
/-- a callee's words -/
def zcal (k na : Nat) : Prop := plainName (zy k).cls = true ∧ Cond.code (zy k) (zb k) (zml k) (zrt k) ∈ zWS ∧ ((zy k).cls ≠ "java/lang/invoke/MethodHandle" ∧ (zy k).cls ≠ "java/lang/invoke/VarHandle") ∧ (parseMethodDescriptor (zy k).desc).map (fun d => d.parameters.length) = some na ∧ Cond.initialized (zy k).cls ∈ zWS
def zml2 (own : String) (idx : Nat) (y : MethodName) (args : Array Value) (s : State) : Prop := (Cond.methodLink own idx y).before args s = true ∨ ∃ host, (Cond.methodLinkNest own idx y host).before args s = true
set_option maxHeartbeats 1000000 in
theorem sn_cV {k k2 idx na ci ml : Nat} {C : String} {T : u_T} {F : Nat → FieldType} (ho : zOK ci C T F) (hCy : (zy k2).cls = C) (hml2 : zml k2 = ml) (hins : Cond.instanceMethod (zy k2) ∈ zWS) (hsel : Cond.selects C (zy k2) (zy k2) ∈ zWS) (cX : zCx dC dI cA ad K n E A k p Rm s m args c cells slots) (hKn : zKn K n) (hcal : zcal k2 na) (hrk : zrk k2 < zrk k) (hmx : zml k2 ≤ 21) (hlk : zml2 (zy k).cls idx (zy k2) args s) (hC : ∀ ls I L R Q, cx k2 ls I L R Q → zSW l dC dI cA ad K n E A k2 0 ls [] I L R Q) (hd : decode (zb k) pc = .ok (.invokevirtual idx, 3)) (hX : ∀ pc ls st I L R, nx pc ls st I L R → zAt p l e Rm s m args below meth c cells slots Z dC dI cA ad K n (zml k) E A pc ls st I L R) (h : z_cV ci k2 ml na K pc nx rt cx ls st I L R) : zAt p l e Rm s m args below meth c cells slots Z dC dI cA ad K n (zml k) E A pc ls st I L R := by
  subst hml2
  unfold z_cV at h
  split at h
  · rename_i as a r hz
    obtain ⟨h1, hck, h⟩ := h
    obtain ⟨hci, hcl, -⟩ := ho
    obtain ⟨hpl, hcw, hnm, hpar, hini⟩ := hcal
    obtain ⟨hx, hb, hml, hown, hts, hWd, hfr, hlo, hce, hsl⟩ := id cX
    intro hlen hE H locs lsA hl hP hD hS
    have hM := zmet (l := l) (as := (.ref a :: as : List Value)) hpl (zck_2 hck) hE hD (hC _ _ _ _ _ h)
    have hws : ∀ w ∈ (Cond.code (zy k2) (zb k2) (zml k2) (zrt k2) :: zWS), ∀ (a' : Array Value) (U : State), s.WarmedH U.vm → w.before a' U = true := pay_in hts (zgoodc hcw)
    have hsig : ∀ sig, parseMethodDescriptor (zy k2).desc = some sig → na = sig.parameters.length := fun sig q => by rw [q] at hpar; exact (Option.some.inj hpar).symm
    have hcat := zck_1 ad hck
    have hbl : FrameBlind (va_Pc (((.ref a :: as : List Value)).map (zcv ad)) (fun U => va_P (dC, dI) zcls (zwl cA ad K n I L R) U.heap ∧ zWd dC dI cA ad K n E A U)) := fun a U g mk q => ⟨q.1, q.2.1, zWd_blind (U := U) (V := U.calling g mk a) rfl rfl q.2.2⟩
    have hpc : ∀ U : State, U.heap = H → s.WarmedH U.vm → (va_Pc (((.ref a :: as : List Value)).map (zcv ad)) (fun U => va_P (dC, dI) zcls (zwl cA ad K n I L R) U.heap ∧ zWd dC dI cA ad K n E A U)) (((.ref a :: as : List Value)).map (zcv ad)).toArray U := fun U hU hW => ⟨rfl, by rw [hU]; exact hP, zWd_to hS hU hW hWd⟩
    have hlo2 : 8 + (zml k2 + 11) + 40 * zrk k2 ≤ Rm.locals := by omega
    obtain ⟨bs, e1, e2, e3⟩ := zarg_eq _ _ _ _ _ hz
    rw [List.append_nil] at e2
    subst e2
    have he := zwl_at (cA := cA) (ad := ad) (K := K) (I := I) (L := L) (R := R) (hKn a (by omega)).1
    rw [zcel_o (by omega), h1] at he
    have hrec := va_recv hWd.1 hP hcl he
    have hstk : st.map (zcv ad) = (as.map (zcv ad)).reverse ++ .ref (ad a) :: r.map (zcv ad) := by rw [e1]; simp [zcv]
    rcases hlk with hlk | ⟨host, hlk⟩
    · exact zcall (va_runV (As := as.map (zcv ad)) (rest := r.map (zcv ad)) (C := C) (n := na) (index := idx) (own := (zy k).cls) (bytes := zb k2) (maxL := zml k2) (ret := zrt k2) (Ts := zWS) ⟨hx, hb, hml, hown, hts⟩ hM ⟨⟨rfl, rfl, by show zrk k2 + 1 ≤ _; omega, hlo2, hws, List.mem_cons_self, hts _ hcw, hts _ hini, hnm, hsig, hlk⟩, hts _ hins, hts _ hsel⟩ ⟨hbl, hrec, hpc⟩ rfl (by rw [List.length_map]; exact e3) hl.1 hstk (lv_room hcat) hd ⟨hce, hsl⟩) hlen hl hS (fun v I L R q => hX _ _ _ _ _ _ q)
    · exact zcall (va_runVN (As := as.map (zcv ad)) (rest := r.map (zcv ad)) (C := C) (n := na) (index := idx) (own := (zy k).cls) (host := host) (bytes := zb k2) (maxL := zml k2) (ret := zrt k2) (Ts := zWS) ⟨hx, hb, hml, hown, hts⟩ hM ⟨⟨⟨rfl, rfl, by show zrk k2 + 1 ≤ _; omega, hlo2, hws, List.mem_cons_self⟩, hts _ hcw, hts _ hini, hnm, hsig, hlk⟩, hts _ hins, hts _ hsel⟩ ⟨hbl, hrec, hpc⟩ rfl (by rw [List.length_map]; exact e3) hl.1 hstk (lv_room hcat) hd ⟨hce, hsl⟩) hlen hl hS (fun v I L R q => hX _ _ _ _ _ _ q)
  · exact h.elim
set_option maxHeartbeats 1000000 in
theorem sn_cS {k k2 idx na ml : Nat} (hml2 : zml k2 = ml) (hsta : Cond.static (zy k2) ∈ zWS) (cX : zCx dC dI cA ad K n E A k p Rm s m args c cells slots) (hKn : zKn K n) (hcal : zcal k2 na) (hrk : zrk k2 < zrk k) (hmx : zml k2 ≤ 21) (hlk : zml2 (zy k).cls idx (zy k2) args s) (hC : ∀ ls I L R Q, cx k2 ls I L R Q → zSW l dC dI cA ad K n E A k2 0 ls [] I L R Q) (hd : decode (zb k) pc = .ok (.invokestatic idx, 3)) (hX : ∀ pc ls st I L R, nx pc ls st I L R → zAt p l e Rm s m args below meth c cells slots Z dC dI cA ad K n (zml k) E A pc ls st I L R) (h : z_cS k2 ml na K pc nx rt cx ls st I L R) : zAt p l e Rm s m args below meth c cells slots Z dC dI cA ad K n (zml k) E A pc ls st I L R := by
  subst hml2
  unfold z_cS at h
  split at h
  · rename_i as r hz
    obtain ⟨hck, h⟩ := h
    obtain ⟨hpl, hcw, hnm, hpar, hini⟩ := hcal
    obtain ⟨hx, hb, hml, hown, hts, hWd, hfr, hlo, hce, hsl⟩ := id cX
    intro hlen hE H locs lsA hl hP hD hS
    have hM := zmet (l := l) (as := as) hpl (zck_2 hck) hE hD (hC _ _ _ _ _ h)
    have hws : ∀ w ∈ (Cond.code (zy k2) (zb k2) (zml k2) (zrt k2) :: zWS), ∀ (a' : Array Value) (U : State), s.WarmedH U.vm → w.before a' U = true := pay_in hts (zgoodc hcw)
    have hsig : ∀ sig, parseMethodDescriptor (zy k2).desc = some sig → na = sig.parameters.length := fun sig q => by rw [q] at hpar; exact (Option.some.inj hpar).symm
    have hcat := zck_1 ad hck
    have hbl : FrameBlind (va_Pc ((as).map (zcv ad)) (fun U => va_P (dC, dI) zcls (zwl cA ad K n I L R) U.heap ∧ zWd dC dI cA ad K n E A U)) := fun a U g mk q => ⟨q.1, q.2.1, zWd_blind (U := U) (V := U.calling g mk a) rfl rfl q.2.2⟩
    have hpc : ∀ U : State, U.heap = H → s.WarmedH U.vm → (va_Pc ((as).map (zcv ad)) (fun U => va_P (dC, dI) zcls (zwl cA ad K n I L R) U.heap ∧ zWd dC dI cA ad K n E A U)) ((as).map (zcv ad)).toArray U := fun U hU hW => ⟨rfl, by rw [hU]; exact hP, zWd_to hS hU hW hWd⟩
    have hlo2 : 8 + (zml k2 + 11) + 40 * zrk k2 ≤ Rm.locals := by omega
    obtain ⟨bs, e1, e2, e3⟩ := zarg_eq _ _ _ _ _ hz
    rw [List.append_nil] at e2
    subst e2
    have hstk : st.map (zcv ad) = (as.map (zcv ad)).reverse ++ r.map (zcv ad) := by rw [e1]; simp
    rcases hlk with hlk | ⟨host, hlk⟩
    · exact zcall (va_runS (As := as.map (zcv ad)) (rest := r.map (zcv ad)) (n := na) (index := idx) (own := (zy k).cls) (bytes := zb k2) (maxL := zml k2) (ret := zrt k2) (Ts := zWS) ⟨hx, hb, hml, hown, hts⟩ hM ⟨⟨rfl, rfl, by show zrk k2 + 1 ≤ _; omega, hlo2, hws, List.mem_cons_self, hts _ hcw, hts _ hini, hnm, hsig, hlk⟩, hts _ hsta⟩ ⟨hbl, hpc⟩ rfl (by rw [List.length_map]; exact e3) hl.1 hstk (lv_room hcat) hd ⟨hce, hsl⟩) hlen hl hS (fun v I L R q => hX _ _ _ _ _ _ q)
    · exact zcall (va_runSN (As := as.map (zcv ad)) (rest := r.map (zcv ad)) (n := na) (index := idx) (own := (zy k).cls) (host := host) (bytes := zb k2) (maxL := zml k2) (ret := zrt k2) (Ts := zWS) ⟨hx, hb, hml, hown, hts⟩ hM ⟨⟨⟨rfl, rfl, by show zrk k2 + 1 ≤ _; omega, hlo2, hws, List.mem_cons_self⟩, hts _ hcw, hts _ hini, hnm, hsig, hlk⟩, hts _ hsta, trivial⟩ ⟨hbl, hpc⟩ rfl (by rw [List.length_map]; exact e3) hl.1 hstk (lv_room hcat) hd ⟨hce, hsl⟩) hlen hl hS (fun v I L R q => hX _ _ _ _ _ _ q)
  · exact h.elim
set_option maxHeartbeats 1000000 in
theorem sn_aald27 (hx : p.tables.exec = Jvm.exec) (hb : c.code = cc) (hK : va_K (dC, dI) zcls (ztys cA) s) (hKn : ∀ a, (K a).1 < 30 → (2 ≤ a ∧ a < n + 2) ∧ (K a).2 < 2 ^ 31) (hd : decode cc pc = .ok (.aaload, 1)) (hX : ∀ pc ls st I L R, nx pc ls st I L R → zAt p l e Rm s m args below meth c cells slots Z dC dI cA ad K n nL E A pc ls st I L R) (h : z_aald 27 K pc nx rt cx ls st I L R) : zAt p l e Rm s m args below meth c cells slots Z dC dI cA ad K n nL E A pc ls st I L R := by
  unfold z_aald at h
  split at h
  · rename_i i a r
    obtain ⟨k, j, x, h1, hi, hj, h2, h⟩ := h
    intro hlen hE H locs lsA hl hP hD hS
    obtain ⟨hr, hk⟩ := hKn a (by rw [h1]; exact Nat.le_of_ble_eq_true rfl)
    rw [h1] at hk
    have he := zwl_at (cA := cA) (ad := ad) (K := K) (I := I) (L := L) (R := R) hr
    rw [zcel_r h1 (by decide)] at he
    obtain ⟨hin, hcl⟩ := zlt_i hi hj hk
    refine W.aald (v := .ref (ad x)) (ty := .array .int) hx hb (hP (a - 2) _ he) ((hK.2 7 _ rfl).1 k (fun j => va_rf (zre ad (R a j)))) rfl (fun q => by cases q) (by show ¬ (i < 0 ∨ (arrV _ _ _).slots.size ≤ _); rw [arrV_size]; exact hin) (by show (arrV _ _ _).slots[_]? = _; rw [arrV_read _ _ (by rw [hcl]; exact hj), hcl]; show some (va_rf (zre ad (R a j))) = _; rw [h2]; rfl) rfl rfl hd ?_
    exact hX _ _ _ _ _ _ h hlen hE H locs lsA hl hP hD hS
  · exact h.elim
end ZS
