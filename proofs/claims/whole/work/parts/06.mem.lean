/-! ===== soundness: memory, switches, returns ===== -/
def ztys (cA : Nat → ClassId) : List (ClassId × FieldType) := [(cA 20, .int), (cA 21, .long), (cA 22, .byte), (cA 23, .boolean), (cA 24, .object "HummingSet$Stage"), (cA 25, .object "HummingSet$Part"), (cA 26, .object "HummingSet$Way"), (cA 27, .array .int)]
/-- a field link: own's entry idx is field k of class ci; by its own class or a nest mate's -/
def zfl (own : String) (idx : Nat) (ref name desc : String) (args : Array Value) (s : State) : Prop := (Cond.fieldLink own idx ref name desc).before args s = true ∨ ∃ host, (Cond.fieldLinkNest own idx ref name desc host).before args s = true
theorem zlt_i {i : Int32} {j n : Nat} (hi : i = nI j) (hj : j < n) (hn : n < 2 ^ 31) : vp_in i n ∧ i.toNatClampNeg = j := by
  subst hi
  exact ⟨vp_in_nI hj hn, nI_clamp (by omega)⟩
theorem zcel_o {cA : Nat → ClassId} {ad : Nat → Nat} {K : ZKh} {I : ZMi} {L : ZMl} {R : ZMr} {a : Nat} (h : (K a).1 < 13) : zcel cA ad K I L R a = .inr ((K a).1, zfs ad (K a).1 I L R a) := by simp [zcel, h]
theorem zcel_i {cA : Nat → ClassId} {ad : Nat → Nat} {K : ZKh} {I : ZMi} {L : ZMl} {R : ZMr} {a kd k : Nat} (h : K a = (kd, k)) (h1 : 13 ≤ kd) (h2 : kd ≠ 21) (h3 : kd < 24) : zcel cA ad K I L R a = .inl (cA kd, k, .inl (I a)) := by
  have e : ¬ kd < 13 := by omega
  simp [zcel, h, e, h2, h3]
theorem zcel_l {cA : Nat → ClassId} {ad : Nat → Nat} {K : ZKh} {I : ZMi} {L : ZMl} {R : ZMr} {a k : Nat} (h : K a = (21, k)) : zcel cA ad K I L R a = .inl (cA 21, k, .inr (.inl (L a))) := by
  simp [zcel, h]
theorem zcel_r {cA : Nat → ClassId} {ad : Nat → Nat} {K : ZKh} {I : ZMi} {L : ZMl} {R : ZMr} {a kd k : Nat} (h : K a = (kd, k)) (h1 : 24 ≤ kd) : zcel cA ad K I L R a = .inl (cA kd, k, .inr (.inr (.inr (.inr (fun j => zre ad (R a j)))))) := by
  have e1 : ¬ kd < 13 := by omega
  have e2 : ¬ kd = 21 := by omega
  have e3 : ¬ kd < 24 := by omega
  simp [zcel, h, e1, e2, e3]
theorem zcel_eq {cA : Nat → ClassId} {ad : Nat → Nat} {K : ZKh} {I I' : ZMi} {L L' : ZMl} {R R' : ZMr} {b : Nat} (h1 : ∀ j, I' b j = I b j) (h2 : ∀ j, L' b j = L b j) (h3 : ∀ j, R' b j = R b j) : zcel cA ad K I' L' R' b = zcel cA ad K I L R b := by
  have e1 : I' b = I b := funext h1
  have e2 : L' b = L b := funext h2
  have e3 : R' b = R b := funext h3
  simp only [zcel, zfs, zfv, e1, e2, e3]
theorem zrow {α : Type} (f : Nat → Nat → α) (a j : Nat) (x : α) : zup f a j x a = fun q => if q = j then x else f a q := by
  funext q
  simp [zup]
section ZS
variable {p : Program} {l : Launch} {e : Env} {Rm : Room} {s : State} {m : MethodId} {args : Array Value} {below : List Frame} {meth : Method} {c : Code} {cells slots : Nat} {Z : State → Prop}
variable {cc : ByteArray} {pc : Nat} {dC : Nat → ClassId} {dI : Nat → Nat → Nat} {cA : Nat → ClassId} {ad : Nat → Nat} {K : ZKh} {n nL : Nat} {E : ZMi} {A : Nat → Prop} {own : String}
variable {nx : ZNx} {rt : ZRt} {cx : ZCx} {ls st : List Value} {I : ZMi} {L : ZMl} {R : ZMr}
set_option maxHeartbeats 1000000 in
theorem sn_gI (hx : p.tables.exec = Jvm.exec) (hb : c.code = cc) (hown : s.vm.findClass own = some m.cls) (hts : ∀ w ∈ zWS, w.before args s = true) (hK : va_K (dC, dI) zcls (ztys cA) s) (hKn : ∀ a, (K a).1 < 30 → (2 ≤ a ∧ a < n + 2) ∧ (K a).2 < 2 ^ 31) {ci k idx : Nat} {C : String} {T : u_T} {F : Nat → FieldType} (ho : zOK ci C T F) (hk : k < zN ci) (hlk : zfl own idx (T k).1 (T k).2.1 (T k).2.2.1 args s) (hty : zty ci k = 0) (hd : decode cc pc = .ok (.getfield idx, 3)) (hX : ∀ pc ls st I L R, nx pc ls st I L R → zAt p l e Rm s m args below meth c cells slots Z dC dI cA ad K n nL E A pc ls st I L R) (h : z_gI ci k K pc nx rt cx ls st I L R) : zAt p l e Rm s m args below meth c cells slots Z dC dI cA ad K n nL E A pc ls st I L R := by
  unfold z_gI at h
  split at h
  · rename_i a r
    obtain ⟨h1, x, h2, h⟩ := h
    obtain ⟨hci, hcl, hin, hnm, hF⟩ := ho
    intro hlen hE H locs lsA hl hP hD hS
    have hr := (hKn a (by omega)).1
    have he := zwl_at (cA := cA) (ad := ad) (K := K) (I := I) (L := L) (R := R) hr
    rw [zcel_o (by omega), h1] at he
    rcases hlk with hlk | ⟨host, hlk⟩
    · exact va_get (C := C) (T := T) (N := zN ci) (v := .int x) hx hb hts hin hown hK hP (a - 2) he hcl k hk hlk (fun _ q => q) (by rw [zfs_at hk]; simp only [hty, zfv]; rw [h2]) hd (hX _ _ _ _ _ _ h hlen hE H locs lsA hl hP hD hS)
    · exact va_getN (C := C) (T := T) (N := zN ci) (v := .int x) hx hb hts hin hown hK hP (a - 2) he hcl k hk hlk (fun _ q => q) (by rw [zfs_at hk]; simp only [hty, zfv]; rw [h2]) hd (hX _ _ _ _ _ _ h hlen hE H locs lsA hl hP hD hS)
  · exact h.elim
set_option maxHeartbeats 1000000 in
theorem sn_gL (hx : p.tables.exec = Jvm.exec) (hb : c.code = cc) (hown : s.vm.findClass own = some m.cls) (hts : ∀ w ∈ zWS, w.before args s = true) (hK : va_K (dC, dI) zcls (ztys cA) s) (hKn : ∀ a, (K a).1 < 30 → (2 ≤ a ∧ a < n + 2) ∧ (K a).2 < 2 ^ 31) {ci k idx : Nat} {C : String} {T : u_T} {F : Nat → FieldType} (ho : zOK ci C T F) (hk : k < zN ci) (hlk : zfl own idx (T k).1 (T k).2.1 (T k).2.2.1 args s) (hty : zty ci k = 1) (hd : decode cc pc = .ok (.getfield idx, 3)) (hX : ∀ pc ls st I L R, nx pc ls st I L R → zAt p l e Rm s m args below meth c cells slots Z dC dI cA ad K n nL E A pc ls st I L R) (h : z_gL ci k K pc nx rt cx ls st I L R) : zAt p l e Rm s m args below meth c cells slots Z dC dI cA ad K n nL E A pc ls st I L R := by
  unfold z_gL at h
  split at h
  · rename_i a r
    obtain ⟨h1, x, h2, h⟩ := h
    obtain ⟨hci, hcl, hin, hnm, hF⟩ := ho
    intro hlen hE H locs lsA hl hP hD hS
    have hr := (hKn a (by omega)).1
    have he := zwl_at (cA := cA) (ad := ad) (K := K) (I := I) (L := L) (R := R) hr
    rw [zcel_o (by omega), h1] at he
    rcases hlk with hlk | ⟨host, hlk⟩
    · exact va_get (C := C) (T := T) (N := zN ci) (v := .long x) hx hb hts hin hown hK hP (a - 2) he hcl k hk hlk (fun _ q => q) (by rw [zfs_at hk]; simp only [hty, zfv]; rw [h2]) hd (hX _ _ _ _ _ _ h hlen hE H locs lsA hl hP hD hS)
    · exact va_getN (C := C) (T := T) (N := zN ci) (v := .long x) hx hb hts hin hown hK hP (a - 2) he hcl k hk hlk (fun _ q => q) (by rw [zfs_at hk]; simp only [hty, zfv]; rw [h2]) hd (hX _ _ _ _ _ _ h hlen hE H locs lsA hl hP hD hS)
  · exact h.elim
set_option maxHeartbeats 1000000 in
theorem sn_gR (hx : p.tables.exec = Jvm.exec) (hb : c.code = cc) (hown : s.vm.findClass own = some m.cls) (hts : ∀ w ∈ zWS, w.before args s = true) (hK : va_K (dC, dI) zcls (ztys cA) s) (hKn : ∀ a, (K a).1 < 30 → (2 ≤ a ∧ a < n + 2) ∧ (K a).2 < 2 ^ 31) {ci k idx : Nat} {C : String} {T : u_T} {F : Nat → FieldType} (ho : zOK ci C T F) (hk : k < zN ci) (hlk : zfl own idx (T k).1 (T k).2.1 (T k).2.2.1 args s) (hty : zty ci k = 2) (hd : decode cc pc = .ok (.getfield idx, 3)) (hX : ∀ pc ls st I L R, nx pc ls st I L R → zAt p l e Rm s m args below meth c cells slots Z dC dI cA ad K n nL E A pc ls st I L R) (h : z_gR ci k K pc nx rt cx ls st I L R) : zAt p l e Rm s m args below meth c cells slots Z dC dI cA ad K n nL E A pc ls st I L R := by
  unfold z_gR at h
  split at h
  · rename_i a r
    obtain ⟨h1, x, h2, h⟩ := h
    obtain ⟨hci, hcl, hin, hnm, hF⟩ := ho
    intro hlen hE H locs lsA hl hP hD hS
    have hr := (hKn a (by omega)).1
    have he := zwl_at (cA := cA) (ad := ad) (K := K) (I := I) (L := L) (R := R) hr
    rw [zcel_o (by omega), h1] at he
    rcases hlk with hlk | ⟨host, hlk⟩
    · exact va_get (C := C) (T := T) (N := zN ci) (v := .ref (ad x)) hx hb hts hin hown hK hP (a - 2) he hcl k hk hlk (fun _ q => q) (by rw [zfs_at hk]; simp only [hty, zfv]; rw [h2]; rfl) hd (hX _ _ _ _ _ _ h hlen hE H locs lsA hl hP hD hS)
    · exact va_getN (C := C) (T := T) (N := zN ci) (v := .ref (ad x)) hx hb hts hin hown hK hP (a - 2) he hcl k hk hlk (fun _ q => q) (by rw [zfs_at hk]; simp only [hty, zfv]; rw [h2]; rfl) hd (hX _ _ _ _ _ _ h hlen hE H locs lsA hl hP hD hS)
  · exact h.elim
set_option maxHeartbeats 1000000 in
theorem sn_pI (hx : p.tables.exec = Jvm.exec) (hb : c.code = cc) (hown : s.vm.findClass own = some m.cls) (hts : ∀ w ∈ zWS, w.before args s = true) (hK : va_K (dC, dI) zcls (ztys cA) s) (hKn : ∀ a, (K a).1 < 30 → (2 ≤ a ∧ a < n + 2) ∧ (K a).2 < 2 ^ 31) {ci k idx : Nat} {C : String} {T : u_T} {F : Nat → FieldType} (ho : zOK ci C T F) (hk : k < zN ci) (hlk : zfl own idx (T k).1 (T k).2.1 (T k).2.2.1 args s) (hty : zty ci k = 0) (hfin : (T k).2.2.2 = false) (hf : F k = .int) (hd : decode cc pc = .ok (.putfield idx, 3)) (hX : ∀ pc ls st I L R, nx pc ls st I L R → zAt p l e Rm s m args below meth c cells slots Z dC dI cA ad K n nL E A pc ls st I L R) (h : z_pI ci k K pc nx rt cx ls st I L R) : zAt p l e Rm s m args below meth c cells slots Z dC dI cA ad K n nL E A pc ls st I L R := by
  unfold z_pI at h
  split at h
  · rename_i x a r
    obtain ⟨h1, h⟩ := h
    obtain ⟨hci, hcl, hin, hnm, hF⟩ := ho
    intro hlen hE H locs lsA hl hP hD hS
    have hr := (hKn a (by omega)).1
    have he := zwl_at (cA := cA) (ad := ad) (K := K) (I := I) (L := L) (R := R) hr
    rw [zcel_o (by omega), h1] at he
    have hset : (zwl cA ad K n I L R).set (a - 2) (ad a, .inr (ci, (zfs ad ci I L R a).set k (.int x))) = zwl cA ad K n (zup I a k x) L R := by
      refine zwl_set hr ?_ (fun b hb => zcel_eq (fun j => zup_na _ _ _ _ hb) (fun j => rfl) (fun j => rfl))
      rw [zcel_o (by omega), h1]
      rw [zfs_set (I' := (zup I a k x)) (L' := L) (R' := R) hk (by simp only [hty, zfv, zup_s]; try rfl) (fun j hj => by simp only [zfv]; split <;> first | rfl | rw [zup_nk _ _ _ _ hj])]
    rcases hlk with hlk | ⟨host, hlk⟩
    · refine va_put (C := C) (T := T) (N := zN ci) (v := .int x) (ty := F k) hx hb hts hin F hF hnm hown hK hP hD hS (a - 2) he hcl k hk hlk (fun _ q => q) hfin (hF k hk) (by rw [hf]; rfl) (by rw [hf]; rfl) (by rw [zfs_len]; exact hk) hd (fun H1 locs1 hP1 hD1 hS1 => ?_)
      rw [hset] at hP1 hD1
      exact hX _ _ _ _ _ _ h hlen (fun b hb2 j => by rw [zup_na _ _ _ _ (fun q => by rw [q] at hb2; omega)]; exact hE b hb2 j) H1 locs1 lsA hl hP1 hD1 hS1
    · refine va_putN (C := C) (T := T) (N := zN ci) (v := .int x) (ty := F k) hx hb hts hin F hF hnm hown hK hP hD hS (a - 2) he hcl k hk hlk (fun _ q => q) hfin (hF k hk) (by rw [hf]; rfl) (by rw [hf]; rfl) (by rw [zfs_len]; exact hk) hd (fun H1 locs1 hP1 hD1 hS1 => ?_)
      rw [hset] at hP1 hD1
      exact hX _ _ _ _ _ _ h hlen (fun b hb2 j => by rw [zup_na _ _ _ _ (fun q => by rw [q] at hb2; omega)]; exact hE b hb2 j) H1 locs1 lsA hl hP1 hD1 hS1
  · exact h.elim
set_option maxHeartbeats 1000000 in
theorem sn_pL (hx : p.tables.exec = Jvm.exec) (hb : c.code = cc) (hown : s.vm.findClass own = some m.cls) (hts : ∀ w ∈ zWS, w.before args s = true) (hK : va_K (dC, dI) zcls (ztys cA) s) (hKn : ∀ a, (K a).1 < 30 → (2 ≤ a ∧ a < n + 2) ∧ (K a).2 < 2 ^ 31) {ci k idx : Nat} {C : String} {T : u_T} {F : Nat → FieldType} (ho : zOK ci C T F) (hk : k < zN ci) (hlk : zfl own idx (T k).1 (T k).2.1 (T k).2.2.1 args s) (hty : zty ci k = 1) (hfin : (T k).2.2.2 = false) (hf : F k = .long) (hd : decode cc pc = .ok (.putfield idx, 3)) (hX : ∀ pc ls st I L R, nx pc ls st I L R → zAt p l e Rm s m args below meth c cells slots Z dC dI cA ad K n nL E A pc ls st I L R) (h : z_pL ci k K pc nx rt cx ls st I L R) : zAt p l e Rm s m args below meth c cells slots Z dC dI cA ad K n nL E A pc ls st I L R := by
  unfold z_pL at h
  split at h
  · rename_i x a r
    obtain ⟨h1, h⟩ := h
    obtain ⟨hci, hcl, hin, hnm, hF⟩ := ho
    intro hlen hE H locs lsA hl hP hD hS
    have hr := (hKn a (by omega)).1
    have he := zwl_at (cA := cA) (ad := ad) (K := K) (I := I) (L := L) (R := R) hr
    rw [zcel_o (by omega), h1] at he
    have hset : (zwl cA ad K n I L R).set (a - 2) (ad a, .inr (ci, (zfs ad ci I L R a).set k (.long x))) = zwl cA ad K n I (zup L a k x) R := by
      refine zwl_set hr ?_ (fun b hb => zcel_eq (fun j => rfl) (fun j => zup_na _ _ _ _ hb) (fun j => rfl))
      rw [zcel_o (by omega), h1]
      rw [zfs_set (I' := I) (L' := (zup L a k x)) (R' := R) hk (by simp only [hty, zfv, zup_s]; try rfl) (fun j hj => by simp only [zfv]; split <;> first | rfl | rw [zup_nk _ _ _ _ hj])]
    rcases hlk with hlk | ⟨host, hlk⟩
    · refine va_put (C := C) (T := T) (N := zN ci) (v := .long x) (ty := F k) hx hb hts hin F hF hnm hown hK hP hD hS (a - 2) he hcl k hk hlk (fun _ q => q) hfin (hF k hk) (by rw [hf]; rfl) (by rw [hf]; rfl) (by rw [zfs_len]; exact hk) hd (fun H1 locs1 hP1 hD1 hS1 => ?_)
      rw [hset] at hP1 hD1
      exact hX _ _ _ _ _ _ h hlen hE H1 locs1 lsA hl hP1 hD1 hS1
    · refine va_putN (C := C) (T := T) (N := zN ci) (v := .long x) (ty := F k) hx hb hts hin F hF hnm hown hK hP hD hS (a - 2) he hcl k hk hlk (fun _ q => q) hfin (hF k hk) (by rw [hf]; rfl) (by rw [hf]; rfl) (by rw [zfs_len]; exact hk) hd (fun H1 locs1 hP1 hD1 hS1 => ?_)
      rw [hset] at hP1 hD1
      exact hX _ _ _ _ _ _ h hlen hE H1 locs1 lsA hl hP1 hD1 hS1
  · exact h.elim
set_option maxHeartbeats 1000000 in
theorem sn_pR (hx : p.tables.exec = Jvm.exec) (hb : c.code = cc) (hown : s.vm.findClass own = some m.cls) (hts : ∀ w ∈ zWS, w.before args s = true) (hK : va_K (dC, dI) zcls (ztys cA) s) (hKn : ∀ a, (K a).1 < 30 → (2 ≤ a ∧ a < n + 2) ∧ (K a).2 < 2 ^ 31) {ci k idx : Nat} {C : String} {T : u_T} {F : Nat → FieldType} (ho : zOK ci C T F) (hk : k < zN ci) (hlk : zfl own idx (T k).1 (T k).2.1 (T k).2.2.1 args s) (hty : zty ci k = 2) (hfin : (T k).2.2.2 = false) (hf : narrow (F k) (.ref 0) = .ref 0 ∧ ∀ b, narrow (F k) (.ref b) = .ref b ∧ fits (F k) (.ref b) = true) (hd : decode cc pc = .ok (.putfield idx, 3)) (hX : ∀ pc ls st I L R, nx pc ls st I L R → zAt p l e Rm s m args below meth c cells slots Z dC dI cA ad K n nL E A pc ls st I L R) (h : z_pR ci k K pc nx rt cx ls st I L R) : zAt p l e Rm s m args below meth c cells slots Z dC dI cA ad K n nL E A pc ls st I L R := by
  unfold z_pR at h
  split at h
  · rename_i x a r
    obtain ⟨h1, h⟩ := h
    obtain ⟨hci, hcl, hin, hnm, hF⟩ := ho
    intro hlen hE H locs lsA hl hP hD hS
    have hr := (hKn a (by omega)).1
    have he := zwl_at (cA := cA) (ad := ad) (K := K) (I := I) (L := L) (R := R) hr
    rw [zcel_o (by omega), h1] at he
    have hset : (zwl cA ad K n I L R).set (a - 2) (ad a, .inr (ci, (zfs ad ci I L R a).set k (.ref (ad x)))) = zwl cA ad K n I L (zup R a k (x + 1)) := by
      refine zwl_set hr ?_ (fun b hb => zcel_eq (fun j => rfl) (fun j => rfl) (fun j => zup_na _ _ _ _ hb))
      rw [zcel_o (by omega), h1]
      rw [zfs_set (I' := I) (L' := L) (R' := (zup R a k (x + 1))) hk (by simp only [hty, zfv, zup_s]; try rfl) (fun j hj => by simp only [zfv]; split <;> first | rfl | rw [zup_nk _ _ _ _ hj])]
    rcases hlk with hlk | ⟨host, hlk⟩
    · refine va_put (C := C) (T := T) (N := zN ci) (v := .ref (ad x)) (ty := F k) hx hb hts hin F hF hnm hown hK hP hD hS (a - 2) he hcl k hk hlk (fun _ q => q) hfin (hF k hk) (hf.2 _).1 (hf.2 _).2 (by rw [zfs_len]; exact hk) hd (fun H1 locs1 hP1 hD1 hS1 => ?_)
      rw [hset] at hP1 hD1
      exact hX _ _ _ _ _ _ h hlen hE H1 locs1 lsA hl hP1 hD1 hS1
    · refine va_putN (C := C) (T := T) (N := zN ci) (v := .ref (ad x)) (ty := F k) hx hb hts hin F hF hnm hown hK hP hD hS (a - 2) he hcl k hk hlk (fun _ q => q) hfin (hF k hk) (hf.2 _).1 (hf.2 _).2 (by rw [zfs_len]; exact hk) hd (fun H1 locs1 hP1 hD1 hS1 => ?_)
      rw [hset] at hP1 hD1
      exact hX _ _ _ _ _ _ h hlen hE H1 locs1 lsA hl hP1 hD1 hS1
  · exact h.elim
set_option maxHeartbeats 1000000 in
theorem sn_pRF (hx : p.tables.exec = Jvm.exec) (hb : c.code = cc) (hown : s.vm.findClass own = some m.cls) (hts : ∀ w ∈ zWS, w.before args s = true) (hK : va_K (dC, dI) zcls (ztys cA) s) (hKn : ∀ a, (K a).1 < 30 → (2 ≤ a ∧ a < n + 2) ∧ (K a).2 < 2 ^ 31) {ci k idx : Nat} {C : String} {T : u_T} {F : Nat → FieldType} (ho : zOK ci C T F) (hk : k < zN ci) (hlk : (Cond.fieldLink own idx (T k).1 (T k).2.1 (T k).2.2.1).before args s = true) (hty : zty ci k = 2) (hfin : (T k).2.2.2 = true) (hinit : meth.name = "<init>") (hdecl : (T k).1 = own) (hf : narrow (F k) (.ref 0) = .ref 0 ∧ ∀ b, narrow (F k) (.ref b) = .ref b ∧ fits (F k) (.ref b) = true) (hd : decode cc pc = .ok (.putfield idx, 3)) (hX : ∀ pc ls st I L R, nx pc ls st I L R → zAt p l e Rm s m args below meth c cells slots Z dC dI cA ad K n nL E A pc ls st I L R) (h : z_pR ci k K pc nx rt cx ls st I L R) : zAt p l e Rm s m args below meth c cells slots Z dC dI cA ad K n nL E A pc ls st I L R := by
  unfold z_pR at h
  split at h
  · rename_i x a r
    obtain ⟨h1, h⟩ := h
    obtain ⟨hci, hcl, hin, hnm, hF⟩ := ho
    intro hlen hE H locs lsA hl hP hD hS
    have hr := (hKn a (by omega)).1
    have he := zwl_at (cA := cA) (ad := ad) (K := K) (I := I) (L := L) (R := R) hr
    rw [zcel_o (by omega), h1] at he
    have hset : (zwl cA ad K n I L R).set (a - 2) (ad a, .inr (ci, (zfs ad ci I L R a).set k (.ref (ad x)))) = zwl cA ad K n I L (zup R a k (x + 1)) := by
      refine zwl_set hr ?_ (fun b hb => zcel_eq (fun j => rfl) (fun j => rfl) (fun j => zup_na _ _ _ _ hb))
      rw [zcel_o (by omega), h1]
      rw [zfs_set (I' := I) (L' := L) (R' := (zup R a k (x + 1))) hk (by simp only [hty, zfv, zup_s]; try rfl) (fun j hj => by simp only [zfv]; split <;> first | rfl | rw [zup_nk _ _ _ _ hj])]
    refine va_putF (C := C) (T := T) (N := zN ci) (v := .ref (ad x)) (ty := F k) hx hb hts hin F hF hnm hown hK hP hD hS (a - 2) he hcl k hk hlk (fun _ q => q) hfin hinit hdecl (hF k hk) (hf.2 _).1 (hf.2 _).2 (by rw [zfs_len]; exact hk) hd (fun H1 locs1 hP1 hD1 hS1 => ?_)
    rw [hset] at hP1 hD1
    exact hX _ _ _ _ _ _ h hlen hE H1 locs1 lsA hl hP1 hD1 hS1
  · exact h.elim
set_option maxHeartbeats 1000000 in
theorem sn_iald (hx : p.tables.exec = Jvm.exec) (hb : c.code = cc) (hK : va_K (dC, dI) zcls (ztys cA) s) (hKn : ∀ a, (K a).1 < 30 → (2 ≤ a ∧ a < n + 2) ∧ (K a).2 < 2 ^ 31) (hd : decode cc pc = .ok (.iaload, 1)) (hX : ∀ pc ls st I L R, nx pc ls st I L R → zAt p l e Rm s m args below meth c cells slots Z dC dI cA ad K n nL E A pc ls st I L R) (h : z_iald 20 K pc nx rt cx ls st I L R) : zAt p l e Rm s m args below meth c cells slots Z dC dI cA ad K n nL E A pc ls st I L R := by
  unfold z_iald at h
  split at h
  · rename_i i a r
    obtain ⟨k, j, x, h1, hi, hj, h2, h⟩ := h
    intro hlen hE H locs lsA hl hP hD hS
    obtain ⟨hr, hk⟩ := hKn a (by rw [h1]; exact Nat.le_of_ble_eq_true rfl)
    rw [h1] at hk
    have he := zwl_at (cA := cA) (ad := ad) (K := K) (I := I) (L := L) (R := R) hr
    rw [zcel_i h1 (by decide) (by decide) (by decide)] at he
    obtain ⟨hin, hcl⟩ := zlt_i hi hj hk
    refine va_iald hx hb hK hP (a - 2) 0 he rfl hin hd ?_
    rw [hcl, h2]
    exact hX _ _ _ _ _ _ h hlen hE H locs lsA hl hP hD hS
  · exact h.elim
set_option maxHeartbeats 1000000 in
theorem sn_bald (hx : p.tables.exec = Jvm.exec) (hb : c.code = cc) (hK : va_K (dC, dI) zcls (ztys cA) s) (hKn : ∀ a, (K a).1 < 30 → (2 ≤ a ∧ a < n + 2) ∧ (K a).2 < 2 ^ 31) (hd : decode cc pc = .ok (.baload, 1)) (hX : ∀ pc ls st I L R, nx pc ls st I L R → zAt p l e Rm s m args below meth c cells slots Z dC dI cA ad K n nL E A pc ls st I L R) (h : z_iald 22 K pc nx rt cx ls st I L R) : zAt p l e Rm s m args below meth c cells slots Z dC dI cA ad K n nL E A pc ls st I L R := by
  unfold z_iald at h
  split at h
  · rename_i i a r
    obtain ⟨k, j, x, h1, hi, hj, h2, h⟩ := h
    intro hlen hE H locs lsA hl hP hD hS
    obtain ⟨hr, hk⟩ := hKn a (by rw [h1]; exact Nat.le_of_ble_eq_true rfl)
    rw [h1] at hk
    have he := zwl_at (cA := cA) (ad := ad) (K := K) (I := I) (L := L) (R := R) hr
    rw [zcel_i h1 (by decide) (by decide) (by decide)] at he
    obtain ⟨hin, hcl⟩ := zlt_i hi hj hk
    refine va_bald hx hb hK hP (a - 2) 2 he rfl hin hd ?_
    rw [hcl, h2]
    exact hX _ _ _ _ _ _ h hlen hE H locs lsA hl hP hD hS
  · exact h.elim
set_option maxHeartbeats 1000000 in
theorem sn_zald (hx : p.tables.exec = Jvm.exec) (hb : c.code = cc) (hK : va_K (dC, dI) zcls (ztys cA) s) (hKn : ∀ a, (K a).1 < 30 → (2 ≤ a ∧ a < n + 2) ∧ (K a).2 < 2 ^ 31) (hd : decode cc pc = .ok (.baload, 1)) (hX : ∀ pc ls st I L R, nx pc ls st I L R → zAt p l e Rm s m args below meth c cells slots Z dC dI cA ad K n nL E A pc ls st I L R) (h : z_iald 23 K pc nx rt cx ls st I L R) : zAt p l e Rm s m args below meth c cells slots Z dC dI cA ad K n nL E A pc ls st I L R := by
  unfold z_iald at h
  split at h
  · rename_i i a r
    obtain ⟨k, j, x, h1, hi, hj, h2, h⟩ := h
    intro hlen hE H locs lsA hl hP hD hS
    obtain ⟨hr, hk⟩ := hKn a (by rw [h1]; exact Nat.le_of_ble_eq_true rfl)
    rw [h1] at hk
    have he := zwl_at (cA := cA) (ad := ad) (K := K) (I := I) (L := L) (R := R) hr
    rw [zcel_i h1 (by decide) (by decide) (by decide)] at he
    obtain ⟨hin, hcl⟩ := zlt_i hi hj hk
    refine va_zald hx hb hK hP (a - 2) 3 he rfl hin hd ?_
    rw [hcl, h2]
    exact hX _ _ _ _ _ _ h hlen hE H locs lsA hl hP hD hS
  · exact h.elim
set_option maxHeartbeats 1000000 in
theorem sn_lald (hx : p.tables.exec = Jvm.exec) (hb : c.code = cc) (hK : va_K (dC, dI) zcls (ztys cA) s) (hKn : ∀ a, (K a).1 < 30 → (2 ≤ a ∧ a < n + 2) ∧ (K a).2 < 2 ^ 31) (hd : decode cc pc = .ok (.laload, 1)) (hX : ∀ pc ls st I L R, nx pc ls st I L R → zAt p l e Rm s m args below meth c cells slots Z dC dI cA ad K n nL E A pc ls st I L R) (h : z_lald K pc nx rt cx ls st I L R) : zAt p l e Rm s m args below meth c cells slots Z dC dI cA ad K n nL E A pc ls st I L R := by
  unfold z_lald at h
  split at h
  · rename_i i a r
    obtain ⟨k, j, x, h1, hi, hj, h2, h⟩ := h
    intro hlen hE H locs lsA hl hP hD hS
    obtain ⟨hr, hk⟩ := hKn a (by rw [h1]; exact Nat.le_of_ble_eq_true rfl)
    rw [h1] at hk
    have he := zwl_at (cA := cA) (ad := ad) (K := K) (I := I) (L := L) (R := R) hr
    rw [zcel_l h1] at he
    obtain ⟨hin, hcl⟩ := zlt_i hi hj hk
    refine va_lald hx hb hK hP (a - 2) 1 he rfl hin hd ?_
    rw [hcl, h2]
    exact hX _ _ _ _ _ _ h hlen hE H locs lsA hl hP hD hS
  · exact h.elim
set_option maxHeartbeats 1000000 in
theorem sn_aald24 (hx : p.tables.exec = Jvm.exec) (hb : c.code = cc) (hK : va_K (dC, dI) zcls (ztys cA) s) (hKn : ∀ a, (K a).1 < 30 → (2 ≤ a ∧ a < n + 2) ∧ (K a).2 < 2 ^ 31) (hd : decode cc pc = .ok (.aaload, 1)) (hX : ∀ pc ls st I L R, nx pc ls st I L R → zAt p l e Rm s m args below meth c cells slots Z dC dI cA ad K n nL E A pc ls st I L R) (h : z_aald 24 K pc nx rt cx ls st I L R) : zAt p l e Rm s m args below meth c cells slots Z dC dI cA ad K n nL E A pc ls st I L R := by
  unfold z_aald at h
  split at h
  · rename_i i a r
    obtain ⟨k, j, x, h1, hi, hj, h2, h⟩ := h
    intro hlen hE H locs lsA hl hP hD hS
    obtain ⟨hr, hk⟩ := hKn a (by rw [h1]; exact Nat.le_of_ble_eq_true rfl)
    rw [h1] at hk
    have he := zwl_at (cA := cA) (ad := ad) (K := K) (I := I) (L := L) (R := R) hr
    rw [zcel_r h1 (by decide)] at he
    obtain ⟨hin, hcl⟩ := zlt_i hi hj hk
    refine va_aldq hx hb hK hP (a - 2) 4 he rfl hin hd ?_
    rw [hcl, h2]
    exact hX _ _ _ _ _ _ h hlen hE H locs lsA hl hP hD hS
  · exact h.elim
set_option maxHeartbeats 1000000 in
theorem sn_aald25 (hx : p.tables.exec = Jvm.exec) (hb : c.code = cc) (hK : va_K (dC, dI) zcls (ztys cA) s) (hKn : ∀ a, (K a).1 < 30 → (2 ≤ a ∧ a < n + 2) ∧ (K a).2 < 2 ^ 31) (hd : decode cc pc = .ok (.aaload, 1)) (hX : ∀ pc ls st I L R, nx pc ls st I L R → zAt p l e Rm s m args below meth c cells slots Z dC dI cA ad K n nL E A pc ls st I L R) (h : z_aald 25 K pc nx rt cx ls st I L R) : zAt p l e Rm s m args below meth c cells slots Z dC dI cA ad K n nL E A pc ls st I L R := by
  unfold z_aald at h
  split at h
  · rename_i i a r
    obtain ⟨k, j, x, h1, hi, hj, h2, h⟩ := h
    intro hlen hE H locs lsA hl hP hD hS
    obtain ⟨hr, hk⟩ := hKn a (by rw [h1]; exact Nat.le_of_ble_eq_true rfl)
    rw [h1] at hk
    have he := zwl_at (cA := cA) (ad := ad) (K := K) (I := I) (L := L) (R := R) hr
    rw [zcel_r h1 (by decide)] at he
    obtain ⟨hin, hcl⟩ := zlt_i hi hj hk
    refine va_aldq hx hb hK hP (a - 2) 5 he rfl hin hd ?_
    rw [hcl, h2]
    exact hX _ _ _ _ _ _ h hlen hE H locs lsA hl hP hD hS
  · exact h.elim
set_option maxHeartbeats 1000000 in
theorem sn_aald26 (hx : p.tables.exec = Jvm.exec) (hb : c.code = cc) (hK : va_K (dC, dI) zcls (ztys cA) s) (hKn : ∀ a, (K a).1 < 30 → (2 ≤ a ∧ a < n + 2) ∧ (K a).2 < 2 ^ 31) (hd : decode cc pc = .ok (.aaload, 1)) (hX : ∀ pc ls st I L R, nx pc ls st I L R → zAt p l e Rm s m args below meth c cells slots Z dC dI cA ad K n nL E A pc ls st I L R) (h : z_aald 26 K pc nx rt cx ls st I L R) : zAt p l e Rm s m args below meth c cells slots Z dC dI cA ad K n nL E A pc ls st I L R := by
  unfold z_aald at h
  split at h
  · rename_i i a r
    obtain ⟨k, j, x, h1, hi, hj, h2, h⟩ := h
    intro hlen hE H locs lsA hl hP hD hS
    obtain ⟨hr, hk⟩ := hKn a (by rw [h1]; exact Nat.le_of_ble_eq_true rfl)
    rw [h1] at hk
    have he := zwl_at (cA := cA) (ad := ad) (K := K) (I := I) (L := L) (R := R) hr
    rw [zcel_r h1 (by decide)] at he
    obtain ⟨hin, hcl⟩ := zlt_i hi hj hk
    refine va_aldq hx hb hK hP (a - 2) 6 he rfl hin hd ?_
    rw [hcl, h2]
    exact hX _ _ _ _ _ _ h hlen hE H locs lsA hl hP hD hS
  · exact h.elim
set_option maxHeartbeats 1000000 in
theorem sn_iast (hx : p.tables.exec = Jvm.exec) (hb : c.code = cc) (hK : va_K (dC, dI) zcls (ztys cA) s) (hKn : ∀ a, (K a).1 < 30 → (2 ≤ a ∧ a < n + 2) ∧ (K a).2 < 2 ^ 31) (hd : decode cc pc = .ok (.iastore, 1)) (hX : ∀ pc ls st I L R, nx pc ls st I L R → zAt p l e Rm s m args below meth c cells slots Z dC dI cA ad K n nL E A pc ls st I L R) (h : z_iast K pc nx rt cx ls st I L R) : zAt p l e Rm s m args below meth c cells slots Z dC dI cA ad K n nL E A pc ls st I L R := by
  unfold z_iast at h
  split at h
  · rename_i x i a r
    obtain ⟨k, j, h1, hi, hj, h⟩ := h
    intro hlen hE H locs lsA hl hP hD hS
    obtain ⟨hr, hk⟩ := hKn a (by rw [h1]; exact Nat.le_of_ble_eq_true rfl)
    rw [h1] at hk
    have he := zwl_at (cA := cA) (ad := ad) (K := K) (I := I) (L := L) (R := R) hr
    rw [zcel_i h1 (by decide) (by decide) (by decide)] at he
    obtain ⟨hin, hcl⟩ := zlt_i hi hj hk
    refine va_iast hx hb hK hP hD hS (a - 2) 0 he rfl hin hd (fun H1 locs1 hP1 hD1 hS1 => ?_)
    have hset : (zwl cA ad K n I L R).set (a - 2) (ad a, .inl (cA 20, k, .inl (upd (I a) i.toNatClampNeg x))) = zwl cA ad K n (zup I a j x) L R := by
      refine zwl_set hr ?_ (fun b hb => zcel_eq (fun q => zup_na _ _ _ _ hb) (fun q => rfl) (fun q => rfl))
      rw [zcel_i h1 (by decide) (by decide) (by decide), zrow, hcl]
      rfl
    rw [hset] at hP1 hD1
    exact hX _ _ _ _ _ _ h hlen (fun b hb2 q => by rw [zup_na _ _ _ _ (fun q => by rw [q, h1] at hb2; cases hb2)]; exact hE b hb2 q) H1 locs1 lsA hl hP1 hD1 hS1
  · exact h.elim
set_option maxHeartbeats 1000000 in
theorem sn_bast (hx : p.tables.exec = Jvm.exec) (hb : c.code = cc) (hK : va_K (dC, dI) zcls (ztys cA) s) (hKn : ∀ a, (K a).1 < 30 → (2 ≤ a ∧ a < n + 2) ∧ (K a).2 < 2 ^ 31) (hd : decode cc pc = .ok (.bastore, 1)) (hX : ∀ pc ls st I L R, nx pc ls st I L R → zAt p l e Rm s m args below meth c cells slots Z dC dI cA ad K n nL E A pc ls st I L R) (h : z_bast K pc nx rt cx ls st I L R) : zAt p l e Rm s m args below meth c cells slots Z dC dI cA ad K n nL E A pc ls st I L R := by
  unfold z_bast at h
  split at h
  · rename_i x i a r
    obtain ⟨k, j, h1, hi, hj, h⟩ := h
    intro hlen hE H locs lsA hl hP hD hS
    obtain ⟨hr, hk⟩ := hKn a (by rw [h1]; exact Nat.le_of_ble_eq_true rfl)
    rw [h1] at hk
    have he := zwl_at (cA := cA) (ad := ad) (K := K) (I := I) (L := L) (R := R) hr
    rw [zcel_i h1 (by decide) (by decide) (by decide)] at he
    obtain ⟨hin, hcl⟩ := zlt_i hi hj hk
    refine va_bast hx hb hK hP hD hS (a - 2) 2 he rfl hin hd (fun H1 locs1 hP1 hD1 hS1 => ?_)
    have hset : (zwl cA ad K n I L R).set (a - 2) (ad a, .inl (cA 22, k, .inl (upd (I a) i.toNatClampNeg (vp_nar .byte x)))) = zwl cA ad K n (zup I a j (vp_nar .byte x)) L R := by
      refine zwl_set hr ?_ (fun b hb => zcel_eq (fun q => zup_na _ _ _ _ hb) (fun q => rfl) (fun q => rfl))
      rw [zcel_i h1 (by decide) (by decide) (by decide), zrow, hcl]
      rfl
    rw [hset] at hP1 hD1
    exact hX _ _ _ _ _ _ h hlen (fun b hb2 q => by rw [zup_na _ _ _ _ (fun q => by rw [q, h1] at hb2; cases hb2)]; exact hE b hb2 q) H1 locs1 lsA hl hP1 hD1 hS1
  · exact h.elim
set_option maxHeartbeats 1000000 in
theorem sn_zast (hx : p.tables.exec = Jvm.exec) (hb : c.code = cc) (hK : va_K (dC, dI) zcls (ztys cA) s) (hKn : ∀ a, (K a).1 < 30 → (2 ≤ a ∧ a < n + 2) ∧ (K a).2 < 2 ^ 31) (hd : decode cc pc = .ok (.bastore, 1)) (hX : ∀ pc ls st I L R, nx pc ls st I L R → zAt p l e Rm s m args below meth c cells slots Z dC dI cA ad K n nL E A pc ls st I L R) (h : z_zast K pc nx rt cx ls st I L R) : zAt p l e Rm s m args below meth c cells slots Z dC dI cA ad K n nL E A pc ls st I L R := by
  unfold z_zast at h
  split at h
  · rename_i x i a r
    obtain ⟨k, j, h1, hi, hj, h⟩ := h
    intro hlen hE H locs lsA hl hP hD hS
    obtain ⟨hr, hk⟩ := hKn a (by rw [h1]; exact Nat.le_of_ble_eq_true rfl)
    rw [h1] at hk
    have he := zwl_at (cA := cA) (ad := ad) (K := K) (I := I) (L := L) (R := R) hr
    rw [zcel_i h1 (by decide) (by decide) (by decide)] at he
    obtain ⟨hin, hcl⟩ := zlt_i hi hj hk
    refine va_zast hx hb hK hP hD hS (a - 2) 3 he rfl hin hd (fun H1 locs1 hP1 hD1 hS1 => ?_)
    have hset : (zwl cA ad K n I L R).set (a - 2) (ad a, .inl (cA 23, k, .inl (upd (I a) i.toNatClampNeg (vp_nar .boolean x)))) = zwl cA ad K n (zup I a j (vp_nar .boolean x)) L R := by
      refine zwl_set hr ?_ (fun b hb => zcel_eq (fun q => zup_na _ _ _ _ hb) (fun q => rfl) (fun q => rfl))
      rw [zcel_i h1 (by decide) (by decide) (by decide), zrow, hcl]
      rfl
    rw [hset] at hP1 hD1
    exact hX _ _ _ _ _ _ h hlen (fun b hb2 q => by rw [zup_na _ _ _ _ (fun q => by rw [q, h1] at hb2; cases hb2)]; exact hE b hb2 q) H1 locs1 lsA hl hP1 hD1 hS1
  · exact h.elim
set_option maxHeartbeats 1000000 in
theorem sn_last (hx : p.tables.exec = Jvm.exec) (hb : c.code = cc) (hK : va_K (dC, dI) zcls (ztys cA) s) (hKn : ∀ a, (K a).1 < 30 → (2 ≤ a ∧ a < n + 2) ∧ (K a).2 < 2 ^ 31) (hd : decode cc pc = .ok (.lastore, 1)) (hX : ∀ pc ls st I L R, nx pc ls st I L R → zAt p l e Rm s m args below meth c cells slots Z dC dI cA ad K n nL E A pc ls st I L R) (h : z_last K pc nx rt cx ls st I L R) : zAt p l e Rm s m args below meth c cells slots Z dC dI cA ad K n nL E A pc ls st I L R := by
  unfold z_last at h
  split at h
  · rename_i x i a r
    obtain ⟨k, j, h1, hi, hj, h⟩ := h
    intro hlen hE H locs lsA hl hP hD hS
    obtain ⟨hr, hk⟩ := hKn a (by rw [h1]; exact Nat.le_of_ble_eq_true rfl)
    rw [h1] at hk
    have he := zwl_at (cA := cA) (ad := ad) (K := K) (I := I) (L := L) (R := R) hr
    rw [zcel_l h1] at he
    obtain ⟨hin, hcl⟩ := zlt_i hi hj hk
    refine va_last hx hb hK hP hD hS (a - 2) 1 he rfl hin hd (fun H1 locs1 hP1 hD1 hS1 => ?_)
    have hset : (zwl cA ad K n I L R).set (a - 2) (ad a, .inl (cA 21, k, .inr (.inl (vp_updL (L a) i.toNatClampNeg x)))) = zwl cA ad K n I (zup L a j x) R := by
      refine zwl_set hr ?_ (fun b hb => zcel_eq (fun q => rfl) (fun q => zup_na _ _ _ _ hb) (fun q => rfl))
      rw [zcel_l h1, zrow, hcl]
      rfl
    rw [hset] at hP1 hD1
    exact hX _ _ _ _ _ _ h hlen hE H1 locs1 lsA hl hP1 hD1 hS1
  · exact h.elim
set_option maxHeartbeats 1000000 in
theorem sn_alen (hx : p.tables.exec = Jvm.exec) (hb : c.code = cc) (hK : va_K (dC, dI) zcls (ztys cA) s) (hKn : ∀ a, (K a).1 < 30 → (2 ≤ a ∧ a < n + 2) ∧ (K a).2 < 2 ^ 31) (hd : decode cc pc = .ok (.arraylength, 1)) (hX : ∀ pc ls st I L R, nx pc ls st I L R → zAt p l e Rm s m args below meth c cells slots Z dC dI cA ad K n nL E A pc ls st I L R) (h : z_alen 20 K pc nx rt cx ls st I L R) : zAt p l e Rm s m args below meth c cells slots Z dC dI cA ad K n nL E A pc ls st I L R := by
  unfold z_alen at h
  split at h
  · rename_i a r
    obtain ⟨k, h1, h⟩ := h
    intro hlen hE H locs lsA hl hP hD hS
    obtain ⟨hr, hk⟩ := hKn a (by rw [h1]; exact Nat.le_of_ble_eq_true rfl)
    have he := zwl_at (cA := cA) (ad := ad) (K := K) (I := I) (L := L) (R := R) hr
    rw [zcel_i h1 (by decide) (by decide) (by decide)] at he
    exact va_alen (ty := .int) hx hb hK hP (a - 2) 0 he rfl rfl hd (hX _ _ _ _ _ _ h hlen hE H locs lsA hl hP hD hS)
  · exact h.elim
set_option maxHeartbeats 1000000 in
theorem sn_xald (hx : p.tables.exec = Jvm.exec) (hb : c.code = cc) (hT : ∀ a, (K a).1 = 30 → va_T .int (ad a) (K a).2 (fun j => .int (E a j)) A s s.heap ∧ (K a).2 < 2 ^ 31) (hd : decode cc pc = .ok (.iaload, 1)) (hX : ∀ pc ls st I L R, nx pc ls st I L R → zAt p l e Rm s m args below meth c cells slots Z dC dI cA ad K n nL E A pc ls st I L R) (h : z_iald 30 K pc nx rt cx ls st I L R) : zAt p l e Rm s m args below meth c cells slots Z dC dI cA ad K n nL E A pc ls st I L R := by
  unfold z_iald at h
  split at h
  · rename_i i a r
    obtain ⟨k, j, x, h1, hi, hj, h2, h⟩ := h
    intro hlen hE H locs lsA hl hP hD hS
    obtain ⟨hT1, hk⟩ := hT a (by rw [h1])
    rw [h1] at hT1 hk
    obtain ⟨hin, hcl⟩ := zlt_i hi hj hk
    refine va_ti hx hb hT1 hS hin (v := .int x) (by rw [hcl, ← h2, hE a (by rw [h1]) j]) hd ?_
    exact hX _ _ _ _ _ _ h hlen hE H locs lsA hl hP hD hS
  · exact h.elim
set_option maxHeartbeats 1000000 in
theorem sn_xlen (hx : p.tables.exec = Jvm.exec) (hb : c.code = cc) (hT : ∀ a, (K a).1 = 30 → va_T .int (ad a) (K a).2 (fun j => .int (E a j)) A s s.heap ∧ (K a).2 < 2 ^ 31) (hd : decode cc pc = .ok (.arraylength, 1)) (hX : ∀ pc ls st I L R, nx pc ls st I L R → zAt p l e Rm s m args below meth c cells slots Z dC dI cA ad K n nL E A pc ls st I L R) (h : z_alen 30 K pc nx rt cx ls st I L R) : zAt p l e Rm s m args below meth c cells slots Z dC dI cA ad K n nL E A pc ls st I L R := by
  unfold z_alen at h
  split at h
  · rename_i a r
    obtain ⟨k, h1, h⟩ := h
    intro hlen hE H locs lsA hl hP hD hS
    obtain ⟨hT1, hk⟩ := hT a (by rw [h1])
    rw [h1] at hT1 hk
    refine va_tlen hx hb hT1 hS rfl hd ?_
    exact hX _ _ _ _ _ _ h hlen hE H locs lsA hl hP hD hS
  · exact h.elim
set_option maxHeartbeats 1000000 in
theorem sn_gs (hx : p.tables.exec = Jvm.exec) (hb : c.code = cc) (hZ : va_Z "HummingSet" "MINUTES" "[I" (.ref (ad 1)) A s s.heap) (hown : s.vm.findClass own = some m.cls) {idx : Nat} (hlk : zfl own idx "HummingSet" "MINUTES" "[I" args s) (hd : decode cc pc = .ok (.getstatic idx, 3)) (hX : ∀ pc ls st I L R, nx pc ls st I L R → zAt p l e Rm s m args below meth c cells slots Z dC dI cA ad K n nL E A pc ls st I L R) (h : z_gs K pc nx rt cx ls st I L R) : zAt p l e Rm s m args below meth c cells slots Z dC dI cA ad K n nL E A pc ls st I L R := by
  intro hlen hE H locs lsA hl hP hD hS
  rcases hlk with hlk | ⟨host, hlk⟩
  · exact va_gets hx hb hZ hS hown hlk (fun _ q => q) hd (hX _ _ _ _ _ _ h hlen hE H locs lsA hl hP hD hS)
  · exact va_getsN hx hb hZ hS hown hlk (fun _ q => q) hd (hX _ _ _ _ _ _ h hlen hE H locs lsA hl hP hD hS)
/-- switches -/
theorem zsw_in {x : Int32} {d : Prop} {nx : Nat → Prop} : ∀ {qs : List (Int32 × Nat)} {t : Nat} {i : Nat}, zsw x d nx qs → (∀ j q, j < i → qs[j]? = some q → ¬ x = q.1) → qs[i]? = some (x, t) → nx t
  | [], t, i, _, _, h => by simp at h
  | q :: r, t, 0, h, _, hi => by
    simp at hi
    subst hi
    exact h.1 rfl
  | q :: r, t, i + 1, h, hn, hi => zsw_in (i := i) (h.2 (hn 0 q (by omega) rfl)) (fun j q' hj hq => hn (j + 1) q' (by omega) (by simpa using hq)) (by simpa using hi)
theorem zsw_out {x : Int32} {d : Prop} {nx : Nat → Prop} : ∀ {qs : List (Int32 × Nat)}, zsw x d nx qs → (∀ q ∈ qs, ¬ x = q.1) → d
  | [], h, _ => h
  | q :: r, h, hn => zsw_out (h.2 (hn q List.mem_cons_self)) (fun q' hq => hn q' (List.mem_cons_of_mem _ hq))
set_option maxHeartbeats 1000000 in
theorem sn_tsw (hx : p.tables.exec = Jvm.exec) (hb : c.code = cc) {d : Nat} {qs : List (Int32 × Nat)} {dflt lo hi : Int} {offs : Array Int} {len : Nat} (hd : decode cc pc = .ok (.tableswitch dflt lo hi offs, len)) (hdt : (pc : Int) + dflt = (d : Int)) (hlen2 : (qs.length : Int) = hi - lo + 1) (hq : ∀ (i : Nat) (q : Int32 × Nat), qs[i]? = some q → q.1.toInt = lo + i ∧ ∃ off, offs[i]? = some off ∧ (pc : Int) + off = (q.2 : Int)) (hX : ∀ pc ls st I L R, nx pc ls st I L R → zAt p l e Rm s m args below meth c cells slots Z dC dI cA ad K n nL E A pc ls st I L R) (h : z_sw d qs K pc nx rt cx ls st I L R) : zAt p l e Rm s m args below meth c cells slots Z dC dI cA ad K n nL E A pc ls st I L R := by
  unfold z_sw at h
  split at h
  · rename_i x r
    intro hlen hE H locs lsA hl hP hD hS
    by_cases ho : x.toInt < lo ∨ hi < x.toInt
    · refine lv_tableOut hx hb hd ho hdt ?_
      exact hX _ _ _ _ _ _ (zsw_out h (fun q hm e => by obtain ⟨i, hi⟩ := List.getElem?_of_mem hm; have e1 := (hq i q hi).1; have e2 := (List.getElem?_eq_some_iff.mp hi).1; rw [← e] at e1; omega)) hlen hE H locs lsA hl hP hD hS
    · have ho1 : ¬ x.toInt < lo := fun q => ho (Or.inl q)
      have ho2 : ¬ hi < x.toInt := fun q => ho (Or.inr q)
      have hl9 : (x.toInt - lo).toNat < qs.length := by omega
      obtain ⟨q, hqi⟩ : ∃ q, qs[(x.toInt - lo).toNat]? = some q := ⟨_, List.getElem?_eq_getElem hl9⟩
      obtain ⟨e1, off, e2, e3⟩ := hq _ q hqi
      refine lv_tableIn hx hb hd ho1 ho2 e2 e3 ?_
      have hxq : q.1 = x := Int32.toInt_inj.mp (by omega)
      exact hX _ _ _ _ _ _ (zsw_in (i := (x.toInt - lo).toNat) h (fun j q' hj hqj e => by have e4 := (hq j q' hqj).1; rw [← e] at e4; omega) (by rw [hqi, ← hxq])) hlen hE H locs lsA hl hP hD hS
  · exact h.elim
set_option maxHeartbeats 1000000 in
theorem sn_lsw (hx : p.tables.exec = Jvm.exec) (hb : c.code = cc) {d : Nat} {qs : List (Int32 × Nat)} {dflt : Int} {ps : Array (Int × Int)} {len : Nat} (hd : decode cc pc = .ok (.lookupswitch dflt ps, len)) (hps : (ps.toList.zip (ps.toList.drop 1)).all (fun (a, next) => a.1 < next.1) = true) (hdt : (pc : Int) + dflt = (d : Int)) (hq : ps.toList.map (fun q => (q.1, (pc : Int) + q.2)) = qs.map (fun q => (q.1.toInt, (q.2 : Int)))) (hX : ∀ pc ls st I L R, nx pc ls st I L R → zAt p l e Rm s m args below meth c cells slots Z dC dI cA ad K n nL E A pc ls st I L R) (h : z_sw d qs K pc nx rt cx ls st I L R) : zAt p l e Rm s m args below meth c cells slots Z dC dI cA ad K n nL E A pc ls st I L R := by
  unfold z_sw at h
  split at h
  · rename_i x r
    intro hlen hE H locs lsA hl hP hD hS
    have key : ∀ (ps : List (Int × Int)) (qs : List (Int32 × Nat)), ps.map (fun q => (q.1, (pc : Int) + q.2)) = qs.map (fun q => (q.1.toInt, (q.2 : Int))) → zsw x (nx d ls r I L R) (fun t => nx t ls r I L R) qs → ∃ t : Nat, (pc : Int) + Op.lookupswitch.offset ps dflt x.toInt = (t : Int) ∧ nx t ls r I L R := by
      intro ps
      induction ps with
      | nil =>
        intro qs e h
        cases qs with
        | nil => exact ⟨d, hdt, h⟩
        | cons q qr => simp at e
      | cons q pr ih =>
        intro qs e h
        cases qs with
        | nil => simp at e
        | cons q' qr =>
          simp only [List.map_cons, List.cons.injEq, Prod.mk.injEq] at e
          obtain ⟨⟨e1, e2⟩, e3⟩ := e
          by_cases hxq : x = q'.1
          · refine ⟨q'.2, ?_, h.1 hxq⟩
            obtain ⟨q1, q2⟩ := q
            have e4 : x.toInt = q1 := by rw [hxq]; exact e1.symm
            simp only [Op.lookupswitch.offset, e4, if_pos rfl]
            first | exact e2 | simpa using e2
          · obtain ⟨t, g1, g2⟩ := ih qr e3 (h.2 hxq)
            refine ⟨t, ?_, g2⟩
            obtain ⟨q1, q2⟩ := q
            rw [lv_osw hxq e1.symm]
            exact g1
    obtain ⟨t, g1, g2⟩ := key ps.toList qs hq h
    refine lv_lookup hx hb hd hps rfl g1 ?_
    exact hX _ _ _ _ _ _ g2 hlen hE H locs lsA hl hP hD hS
  · exact h.elim
end ZS
