/-! ===== a world that grows: what constructors do ===== -/
def zKg (N a : Nat) : Nat × Nat := if a = 0 then (30, N) else if a = 1 then (30, 5) else if a < 154 then zKC a else (99, 0)
def zKr (N n : Nat) : ZKh := fun a => if a < n + 2 then zKg N a else (99, 0)
theorem zKr_lt {N n a : Nat} (h : a < n + 2) : zKr N n a = zKg N a := if_pos h
theorem zKC_b : ∀ a, a < 154 → (zKC a).2 < 2 ^ 31 ∧ (2 ≤ a → (zKC a).1 ≠ 30) := by decide +kernel
theorem zKn_r (N n : Nat) : zKn (zKr N n) n := by
  intro a h
  unfold zKr at h ⊢
  split at h
  · rename_i h1
    rw [if_pos h1]
    unfold zKg at h ⊢
    split at h
    · exact absurd h (Nat.lt_irrefl 30)
    · split at h
      · exact absurd h (Nat.lt_irrefl 30)
      · rename_i h0 h01
        rw [if_neg h0, if_neg h01]
        split at h
        · rename_i h2
          rw [if_pos h2]
          exact ⟨⟨by omega, h1⟩, (zKC_b a h2).1⟩
        · exact absurd h (by decide)
  · exact absurd h (by decide)
theorem zK30 {N n a : Nat} (h : (zKr N n a).1 = 30) : a = 0 ∨ a = 1 := by
  unfold zKr at h
  split at h
  · unfold zKg at h
    split at h
    · rename_i e; exact Or.inl e
    · split at h
      · rename_i e; exact Or.inr e
      · rename_i h0 h1
        split at h
        · rename_i h2
          exact absurd h ((zKC_b a h2).2 (by omega))
        · exact absurd h (by decide)
  · exact absurd h (by decide)
theorem zKr_0 (N n : Nat) : zKr N n 0 = (30, N) := by simp [zKr, zKg]
theorem zKr_1 (N n : Nat) : zKr N n 1 = (30, 5) := by simp [zKr, zKg]
theorem zext_n {N n n' : Nat} {E I : ZMi} (h : zext (zKr N n) E I) : zext (zKr N n') E I := fun a q j => by
  rcases zK30 q with rfl | rfl
  · exact h 0 (by rw [zKr_0]) j
  · exact h 1 (by rw [zKr_1]) j
def zvk (n : Nat) : Value → Prop
  | .ref r => r < n + 2
  | _ => True
/-- ad and ad' are one on the names so far -/
def zag (n : Nat) (ad ad' : Nat → Nat) : Prop := ∀ i, i < n + 2 → ad' i = ad i
theorem zWd_n {dC : Nat → ClassId} {dI : Nat → Nat → Nat} {cA : Nat → ClassId} {ad ad' : Nat → Nat} {N n n' : Nat} {E : ZMi} {A : Nat → Prop} {s : State} (h : zWd dC dI cA ad (zKr N n) n E A s) (e0 : ad' 0 = ad 0) (e1 : ad' 1 = ad 1) : zWd dC dI cA ad' (zKr N n') n' E A s := by
  obtain ⟨h1, h2, h3, h4⟩ := h
  refine ⟨h1, h2, fun a q => ?_, by rw [e1]; exact h4⟩
  rcases zK30 q with rfl | rfl
  · have := h3 0 (by rw [zKr_0])
    rw [zKr_0] at this
    rw [zKr_0, e0]
    exact this
  · have := h3 1 (by rw [zKr_1])
    rw [zKr_1] at this
    rw [zKr_1, e1]
    exact this
theorem zcel_ad {cA : Nat → ClassId} {ad ad' : Nat → Nat} {K K' : ZKh} {I : ZMi} {L : ZMl} {R R' : ZMr} {a : Nat} (hK : K' a = K a) (hR : ∀ k, zre ad' (R' a k) = zre ad (R a k)) : zcel cA ad' K' I L R' a = zcel cA ad K I L R a := by
  simp only [zcel, zfs, zfv, hK, hR]
theorem zre_ag {n : Nat} {ad ad' : Nat → Nat} (h : zag n ad ad') {x : Nat} (hx : x ≤ n + 2) : zre ad' x = zre ad x := by
  cases x with
  | zero => rfl
  | succ r => show some (ad' r) = some (ad r); rw [h r (by omega)]
theorem zll_ag {n : Nat} {ad ad' : Nat → Nat} (h : zag n ad ad') : ∀ {ls : List Value} {k : Nat}, (∀ v ∈ ls, zvk n v) → zll ad' k ls = zll ad k ls
  | [], _, _ => rfl
  | v :: r, k, hv => by
    have ih := zll_ag h (ls := r) (k := k + 1) (fun w hw => hv w (List.mem_cons_of_mem _ hw))
    have h0 := hv v List.mem_cons_self
    cases v <;> simp only [zll, ih, zcv]
    rw [h _ h0]
theorem zcv_ag {n : Nat} {ad ad' : Nat → Nat} (h : zag n ad ad') {st : List Value} (hv : ∀ v ∈ st, zvk n v) : st.map (zcv ad') = st.map (zcv ad) := List.map_congr_left (fun v hm => by
  have h0 := hv v hm
  cases v <;> simp only [zcv]
  rw [h _ h0])
def zadd (ad : Nat → Nat) (i q : Nat) : Nat → Nat := fun j => if j = i then q else ad j
theorem zadd_ag (n : Nat) (ad : Nat → Nat) (q : Nat) : zag n ad (zadd ad (n + 2) q) := fun i hi => if_neg (by omega)
theorem zag_t {n n' : Nat} {a b c : Nat → Nat} (h : zag n a b) (h2 : zag n' b c) (hn : n ≤ n') : zag n a c := fun i hi => (h2 i (by omega)).trans (h i hi)
theorem zwl_grow {cA : Nat → ClassId} {ad : Nat → Nat} {N n q : Nat} {I : ZMi} {L : ZMl} {R : ZMr} (hR : ∀ a k, R a k ≤ n + 2) : zwl cA (zadd ad (n + 2) q) (zKr N (n + 1)) (n + 1) I L R = zwl cA ad (zKr N n) n I L R ++ [(q, zcel cA (zadd ad (n + 2) q) (zKr N (n + 1)) I L R (n + 2))] := by
  unfold zwl
  rw [List.range_succ, List.map_append]
  congr 1
  · refine List.map_congr_left (fun i hi => ?_)
    have hi := List.mem_range.mp hi
    rw [zadd_ag n ad q (i + 2) (by omega), zcel_ad (K := zKr N n) (by rw [zKr_lt (by omega), zKr_lt (by omega)]) (fun k => zre_ag (zadd_ag n ad q) (hR _ k))]
  · simp [zadd]
def zAO (U : State) : Prop := va_AO "HummingSet$Stage" U ∧ va_AO "HummingSet$Part" U ∧ va_AO "HummingSet$Way" U ∧ (Cond.arrayOver (.array .int)).before #[] U = true
theorem zAO_moved {u U : State} (h : u.vm.Alike U.vm) (q : zAO u) : zAO U := ⟨va_AO.moved h q.1, va_AO.moved h q.2.1, va_AO.moved h q.2.2.1, arrayOver_alikeB h q.2.2.2⟩
abbrev ZFin : Type := Nat → Nat → Nat → Nat → List Value → List Value → ZMi → ZMl → ZMr → Prop
def zCG (dC : Nat → ClassId) (dI : Nat → Nat → Nat) (cA : Nat → ClassId) (N : Nat) (E : ZMi) (A : Nat → Prop) (k mc ms : Nat) (ad : Nat → Nat) (p : Program) (Rm : Room) (s : State) (m : MethodId) (args : Array Value) (meth : Method) (c : Code) : Prop :=
  p.tables.exec = Jvm.exec ∧ c.code = zb k ∧ c.maxLocals = zml k ∧ s.vm.findClass (zy k).cls = some m.cls ∧ (∀ w ∈ zWS, w.before args s = true) ∧ zWd dC dI cA ad (zKr N 0) 0 E A s ∧ zrk k ≤ Rm.frames ∧ 40 * zrk k ≤ Rm.locals ∧ mc ≤ Rm.cells ∧ ms ≤ Rm.slots ∧ (∀ q, s.heap.size ≤ q → A q) ∧ zAO s ∧ (k ≠ 176 → meth.name = "<init>")
theorem zCG_ag {dC : Nat → ClassId} {dI : Nat → Nat → Nat} {cA : Nat → ClassId} {N : Nat} {E : ZMi} {A : Nat → Prop} {k mc ms n : Nat} {ad ad' : Nat → Nat} {p : Program} {Rm : Room} {s : State} {m : MethodId} {args : Array Value} {meth : Method} {c : Code} (h : zag n ad ad') (q : zCG dC dI cA N E A k mc ms ad p Rm s m args meth c) : zCG dC dI cA N E A k mc ms ad' p Rm s m args meth c := by
  obtain ⟨hx, hb, hml, hown, hts, hWd, hr⟩ := q
  exact ⟨hx, hb, hml, hown, hts, zWd_n hWd (h 0 (by omega)) (h 1 (by omega)), hr⟩
/-- the machine's predicate at a frame of method k over a world of n names -/
def zSG (l : Launch) (dC : Nat → ClassId) (dI : Nat → Nat → Nat) (cA : Nat → ClassId) (N : Nat) (E : ZMi) (A : Nat → Prop) (k mc ms cells slots n pc : Nat) (ls st : List Value) (I : ZMi) (L : ZMl) (R : ZMr) (F : ZFin) : Prop :=
  ∀ (ad : Nat → Nat) (p : Program) (e : Env) (Rm : Room) (s : State) (m : MethodId) (args : Array Value) (below : List Frame) (meth : Method) (c : Code) (Z : State → Prop), zCG dC dI cA N E A k mc ms ad p Rm s m args meth c →
    (∀ (ad' : Nat → Nat) (cells slots n' pc : Nat) (ls st : List Value) (I : ZMi) (L : ZMl) (R : ZMr), n ≤ n' → zag n ad ad' → F cells slots n' pc ls st I L R → zAt p l e Rm s m args below meth c cells slots Z dC dI cA ad' (zKr N n') n' (zml k) E A pc ls st I L R) →
    zAt p l e Rm s m args below meth c cells slots Z dC dI cA ad (zKr N n) n (zml k) E A pc ls st I L R
/-- how a constructor ends -/
def zFr (k mc ms : Nat) (Q : Nat → ZMi → ZMl → ZMr → Prop) : ZFin := fun c s n pc _ st I L R => c = mc ∧ s = ms ∧ st = [] ∧ decode (zb k) pc = .ok (.return_, 1) ∧ Q n I L R
def zQG (dC : Nat → ClassId) (dI : Nat → Nat → Nat) (cA : Nat → ClassId) (ad : Nat → Nat) (N n : Nat) (E : ZMi) (A : Nat → Prop) (Q : Nat → ZMi → ZMl → ZMr → Prop) : Array Value → State → Outcome → State → Prop := fun _ st oc t => (∃ (ad' : Nat → Nat) (n' : Nat) (I : ZMi) (L : ZMl) (R : ZMr), oc = .returned none ∧ n ≤ n' ∧ zag n ad ad' ∧ Q n' I L R ∧ zext (zKr N n') E I ∧ va_P (dC, dI) zcls (zwl cA ad' (zKr N n') n' I L R) t.heap ∧ va_D A (zwl cA ad' (zKr N n') n' I L R)) ∧ va_F A st t
def zrmG (k mc ms : Nat) : Room := { frames := zrk k, cells := mc, slots := ms, locals := 40 * zrk k }
def zPG (dC : Nat → ClassId) (dI : Nat → Nat → Nat) (cA : Nat → ClassId) (ad : Nat → Nat) (N n : Nat) (E : ZMi) (A : Nat → Prop) (I : ZMi) (L : ZMl) (R : ZMr) (U : State) : Prop := va_P (dC, dI) zcls (zwl cA ad (zKr N n) n I L R) U.heap ∧ zWd dC dI cA ad (zKr N 0) 0 E A U ∧ zAO U ∧ ∀ q, U.heap.size ≤ q → A q
set_option maxHeartbeats 1000000 in
theorem zmetG {l : Launch} {dC : Nat → ClassId} {dI : Nat → Nat → Nat} {cA : Nat → ClassId} {ad : Nat → Nat} {N n : Nat} {E : ZMi} {A : Nat → Prop} {k mc ms : Nat} {as : List Value} {I : ZMi} {L : ZMl} {R : ZMr} {Q : Nat → ZMi → ZMl → ZMr → Prop} (hy : plainName (zy k).cls = true) (hf : (zsl as).length ≤ zml k) (hrt : zrt k = none) (hin : (zy k).name = "<init>")
    (hE : zext (zKr N n) E I) (hD : va_D A (zwl cA ad (zKr N n) n I L R)) (hw : zSG l dC dI cA N E A k mc ms 0 0 n 0 (zent (zml k) as) [] I L R (zFr k mc ms Q)) :
    Met l (zy k) (Cond.code (zy k) (zb k) (zml k) (zrt k) :: zWS) (zrmG k mc ms) (va_Pc (as.map (zcv ad)) (zPG dC dI cA ad N n E A I L R)) (zQG dC dI cA ad N n E A Q) mc ms A := by
  refine Met.ofW (cc := zb k) (maxL := zml k) (ret := zrt k) hy rfl ?_
  intro p e s m args below meth c s₁ B hml hv
  obtain ⟨rfl, hP, hW, hAO, hA⟩ := hv
  have hts := atoms_spec (ws := Cond.code (zy k) (zb k) (zml k) (zrt k) :: zWS) B.pre
  rw [lg_entry_eq]
  refine hw ad p e (zrmG k mc ms) s m _ below meth c _ ⟨B.exec, B.bytes, hml, findClass_of_methodNamed B.named, fun w h => hts w (List.mem_cons_of_mem _ h), hW, Nat.le_refl _, Nat.le_refl _, Nat.le_refl _, Nat.le_refl _, hA, hAO, fun _ => (name_of_methodNamed B.named B.method).1.trans hin⟩ ?_ (zent_len hf) hE s.heap [] _ (zentry ad hf) hP hD va_S.rf
  intro ad' cells slots n' pc ls st I' L' R' hnn hag hfr
  obtain ⟨rfl, rfl, rfl, hd, hq⟩ := hfr
  intro hlen hE' H locs lsA hl hP' hD' hS
  exact W.vret B.exec B.bytes (B.returns.trans hrt) (fun t ht _ => ⟨⟨ad', n', I', L', R', rfl, hnn, hag, hq, hE', by rw [ht]; exact hP', hD'⟩, hS.F ht⟩) hS.2.2 hd B.notSynchronized
section ZG
variable {l : Launch} {dC : Nat → ClassId} {dI : Nat → Nat → Nat} {cA : Nat → ClassId} {N : Nat} {E : ZMi} {A : Nat → Prop} {k mc ms cells slots n pc : Nat} {ls ls' st r : List Value} {I : ZMi} {L : ZMl} {R : ZMr} {F : ZFin}
theorem g_fin (h : F cells slots n pc ls st I L R) : zSG l dC dI cA N E A k mc ms cells slots n pc ls st I L R F := fun ad p e Rm s m args below meth c Z _ hF => hF ad cells slots n pc ls st I L R (Nat.le_refl _) (fun _ _ => rfl) h
theorem g_al {j : Nat} {i : Fin 4} {x : Nat} (hd : decode (zb k) pc = .ok (.aload_n i, 1)) (hi : (i : Nat) = j) (hl : ls[j]? = some (.ref x)) (h : zSG l dC dI cA N E A k mc ms cells slots n (pc + 1) ls (.ref x :: st) I L R F) : zSG l dC dI cA N E A k mc ms cells slots n pc ls st I L R F := by
  intro ad p e Rm s m args below meth c Z cG hF
  obtain ⟨hx, hb, hml, hown, hts, hWd, hfr, hlo, hce, hsl, hA, hAO, hini⟩ := id cG
  have hg := h ad p e Rm s m args below meth c Z cG hF
  exact sn_aload_n (nx := fun pc ls st I L R => zAt p l e Rm s m args below meth c cells slots Z dC dI cA ad (zKr N n) n (zml k) E A pc ls st I L R) (rt := fun _ _ _ _ => False) (cx := fun _ _ _ _ _ _ => False) hx hb hd hi (fun _ _ _ _ _ _ q => q) (by unfold z_al; rw [hl]; exact hg)
theorem g_as {j : Nat} {i : Fin 4} {x : Nat} (hd : decode (zb k) pc = .ok (.astore_n i, 1)) (hi : (i : Nat) = j) (hj : j < ls.length) (hz : zst ls j (.ref x) = ls') (h : zSG l dC dI cA N E A k mc ms cells slots n (pc + 1) ls' r I L R F) : zSG l dC dI cA N E A k mc ms cells slots n pc ls (.ref x :: r) I L R F := by
  intro ad p e Rm s m args below meth c Z cG hF
  obtain ⟨hx, hb, hml, hown, hts, hWd, hfr, hlo, hce, hsl, hA, hAO, hini⟩ := id cG
  have hg := h ad p e Rm s m args below meth c Z cG hF
  exact sn_astore_n (nx := fun pc ls st I L R => zAt p l e Rm s m args below meth c cells slots Z dC dI cA ad (zKr N n) n (zml k) E A pc ls st I L R) (rt := fun _ _ _ _ => False) (cx := fun _ _ _ _ _ _ => False) hx hb hd hi (fun _ _ _ _ _ _ q => q) (⟨hj, by rw [hz]; exact hg⟩)
theorem g_is {j : Nat} {i : Fin 4} {x : Int32} (hd : decode (zb k) pc = .ok (.istore_n i, 1)) (hi : (i : Nat) = j) (hj : j < ls.length) (hz : zst ls j (.int x) = ls') (h : zSG l dC dI cA N E A k mc ms cells slots n (pc + 1) ls' r I L R F) : zSG l dC dI cA N E A k mc ms cells slots n pc ls (.int x :: r) I L R F := by
  intro ad p e Rm s m args below meth c Z cG hF
  obtain ⟨hx, hb, hml, hown, hts, hWd, hfr, hlo, hce, hsl, hA, hAO, hini⟩ := id cG
  have hg := h ad p e Rm s m args below meth c Z cG hF
  exact sn_istore_n (nx := fun pc ls st I L R => zAt p l e Rm s m args below meth c cells slots Z dC dI cA ad (zKr N n) n (zml k) E A pc ls st I L R) (rt := fun _ _ _ _ => False) (cx := fun _ _ _ _ _ _ => False) hx hb hd hi (fun _ _ _ _ _ _ q => q) (⟨hj, by rw [hz]; exact hg⟩)
theorem g_il {j : Nat} {i : Fin 4} {x : Int32} (hd : decode (zb k) pc = .ok (.iload_n i, 1)) (hi : (i : Nat) = j) (hl : ls[j]? = some (.int x)) (h : zSG l dC dI cA N E A k mc ms cells slots n (pc + 1) ls (.int x :: st) I L R F) : zSG l dC dI cA N E A k mc ms cells slots n pc ls st I L R F := by
  intro ad p e Rm s m args below meth c Z cG hF
  obtain ⟨hx, hb, hml, hown, hts, hWd, hfr, hlo, hce, hsl, hA, hAO, hini⟩ := id cG
  have hg := h ad p e Rm s m args below meth c Z cG hF
  exact sn_iload_n (nx := fun pc ls st I L R => zAt p l e Rm s m args below meth c cells slots Z dC dI cA ad (zKr N n) n (zml k) E A pc ls st I L R) (rt := fun _ _ _ _ => False) (cx := fun _ _ _ _ _ _ => False) hx hb hd hi (fun _ _ _ _ _ _ q => q) (by unfold z_il; rw [hl]; exact hg)
theorem g_ic {v : Int32} {j : Int} (hd : decode (zb k) pc = .ok (.iconst j, 1)) (hv : Int32.ofInt j = v) (h : zSG l dC dI cA N E A k mc ms cells slots n (pc + 1) ls (.int v :: st) I L R F) : zSG l dC dI cA N E A k mc ms cells slots n pc ls st I L R F := by
  intro ad p e Rm s m args below meth c Z cG hF
  obtain ⟨hx, hb, hml, hown, hts, hWd, hfr, hlo, hce, hsl, hA, hAO, hini⟩ := id cG
  have hg := h ad p e Rm s m args below meth c Z cG hF
  exact sn_iconst (nx := fun pc ls st I L R => zAt p l e Rm s m args below meth c cells slots Z dC dI cA ad (zKr N n) n (zml k) E A pc ls st I L R) (rt := fun _ _ _ _ => False) (cx := fun _ _ _ _ _ _ => False) hx hb hd hv (fun _ _ _ _ _ _ q => q) (hg)
theorem g_bi {v : Int32} {j : Int} (hd : decode (zb k) pc = .ok (.bipush j, 2)) (hv : (Int8.ofInt j).toInt32 = v) (h : zSG l dC dI cA N E A k mc ms cells slots n (pc + 2) ls (.int v :: st) I L R F) : zSG l dC dI cA N E A k mc ms cells slots n pc ls st I L R F := by
  intro ad p e Rm s m args below meth c Z cG hF
  obtain ⟨hx, hb, hml, hown, hts, hWd, hfr, hlo, hce, hsl, hA, hAO, hini⟩ := id cG
  have hg := h ad p e Rm s m args below meth c Z cG hF
  exact sn_bipush (nx := fun pc ls st I L R => zAt p l e Rm s m args below meth c cells slots Z dC dI cA ad (zKr N n) n (zml k) E A pc ls st I L R) (rt := fun _ _ _ _ => False) (cx := fun _ _ _ _ _ _ => False) hx hb hd hv (fun _ _ _ _ _ _ q => q) (hg)
theorem g_si {v : Int32} {j : Int} (hd : decode (zb k) pc = .ok (.sipush j, 3)) (hv : (Int16.ofInt j).toInt32 = v) (h : zSG l dC dI cA N E A k mc ms cells slots n (pc + 3) ls (.int v :: st) I L R F) : zSG l dC dI cA N E A k mc ms cells slots n pc ls st I L R F := by
  intro ad p e Rm s m args below meth c Z cG hF
  obtain ⟨hx, hb, hml, hown, hts, hWd, hfr, hlo, hce, hsl, hA, hAO, hini⟩ := id cG
  have hg := h ad p e Rm s m args below meth c Z cG hF
  exact sn_sipush (nx := fun pc ls st I L R => zAt p l e Rm s m args below meth c cells slots Z dC dI cA ad (zKr N n) n (zml k) E A pc ls st I L R) (rt := fun _ _ _ _ => False) (cx := fun _ _ _ _ _ _ => False) hx hb hd hv (fun _ _ _ _ _ _ q => q) (hg)
theorem g_dup {x : Nat} (hd : decode (zb k) pc = .ok (.dup, 1)) (h : zSG l dC dI cA N E A k mc ms cells slots n (pc + 1) ls (.ref x :: .ref x :: st) I L R F) : zSG l dC dI cA N E A k mc ms cells slots n pc ls (.ref x :: st) I L R F := by
  intro ad p e Rm s m args below meth c Z cG hF
  obtain ⟨hx, hb, hml, hown, hts, hWd, hfr, hlo, hce, hsl, hA, hAO, hini⟩ := id cG
  have hg := h ad p e Rm s m args below meth c Z cG hF
  exact sn_dup (nx := fun pc ls st I L R => zAt p l e Rm s m args below meth c cells slots Z dC dI cA ad (zKr N n) n (zml k) E A pc ls st I L R) (rt := fun _ _ _ _ => False) (cx := fun _ _ _ _ _ _ => False) hx hb hd (fun _ _ _ _ _ _ q => q) (⟨rfl, hg⟩)
theorem g_pop {x : Int32} (hd : decode (zb k) pc = .ok (.pop, 1)) (h : zSG l dC dI cA N E A k mc ms cells slots n (pc + 1) ls st I L R F) : zSG l dC dI cA N E A k mc ms cells slots n pc ls (.int x :: st) I L R F := by
  intro ad p e Rm s m args below meth c Z cG hF
  obtain ⟨hx, hb, hml, hown, hts, hWd, hfr, hlo, hce, hsl, hA, hAO, hini⟩ := id cG
  have hg := h ad p e Rm s m args below meth c Z cG hF
  exact sn_pop (nx := fun pc ls st I L R => zAt p l e Rm s m args below meth c cells slots Z dC dI cA ad (zKr N n) n (zml k) E A pc ls st I L R) (rt := fun _ _ _ _ => False) (cx := fun _ _ _ _ _ _ => False) hx hb hd (fun _ _ _ _ _ _ q => q) (⟨rfl, hg⟩)
theorem g_goto {t : Nat} {off : Int} (hd : decode (zb k) pc = .ok (.goto off, 3)) (ht : (pc : Int) + off = (t : Int)) (h : zSG l dC dI cA N E A k mc ms cells slots n t ls st I L R F) : zSG l dC dI cA N E A k mc ms cells slots n pc ls st I L R F := by
  intro ad p e Rm s m args below meth c Z cG hF
  obtain ⟨hx, hb, hml, hown, hts, hWd, hfr, hlo, hce, hsl, hA, hAO, hini⟩ := id cG
  have hg := h ad p e Rm s m args below meth c Z cG hF
  exact sn_goto (nx := fun pc ls st I L R => zAt p l e Rm s m args below meth c cells slots Z dC dI cA ad (zKr N n) n (zml k) E A pc ls st I L R) (rt := fun _ _ _ _ => False) (cx := fun _ _ _ _ _ _ => False) hx hb hd ht (fun _ _ _ _ _ _ q => q) (hg)
theorem g_inc {j : Nat} {x y d : Int32} {dd : Int} (hd : decode (zb k) pc = .ok (.iinc j dd, 3)) (hdd : Int32.ofInt dd = d) (hl : ls[j]? = some (.int x)) (hy : x + d = y) (hz : zst ls j (.int y) = ls') (h : zSG l dC dI cA N E A k mc ms cells slots n (pc + 3) ls' st I L R F) : zSG l dC dI cA N E A k mc ms cells slots n pc ls st I L R F := by
  intro ad p e Rm s m args below meth c Z cG hF
  obtain ⟨hx, hb, hml, hown, hts, hWd, hfr, hlo, hce, hsl, hA, hAO, hini⟩ := id cG
  have hg := h ad p e Rm s m args below meth c Z cG hF
  exact sn_iinc (nx := fun pc ls st I L R => zAt p l e Rm s m args below meth c cells slots Z dC dI cA ad (zKr N n) n (zml k) E A pc ls st I L R) (rt := fun _ _ _ _ => False) (cx := fun _ _ _ _ _ _ => False) hx hb hd hdd (fun _ _ _ _ _ _ q => q) (by unfold z_inc; rw [hl]; exact ⟨y, hy, by rw [hz]; exact hg⟩)
theorem g_geT {t : Nat} {off : Int} {x y : Int32} (hd : decode (zb k) pc = .ok (.if_icmp .ge off, 3)) (ht : (pc : Int) + off = (t : Int)) (hc : y ≤ x) (h : zSG l dC dI cA N E A k mc ms cells slots n t ls r I L R F) : zSG l dC dI cA N E A k mc ms cells slots n pc ls (.int y :: .int x :: r) I L R F := by
  intro ad p e Rm s m args below meth c Z cG hF
  obtain ⟨hx, hb, hml, hown, hts, hWd, hfr, hlo, hce, hsl, hA, hAO, hini⟩ := id cG
  have hg := h ad p e Rm s m args below meth c Z cG hF
  exact sn_ige (nx := fun pc ls st I L R => zAt p l e Rm s m args below meth c cells slots Z dC dI cA ad (zKr N n) n (zml k) E A pc ls st I L R) (rt := fun _ _ _ _ => False) (cx := fun _ _ _ _ _ _ => False) hx hb hd ht (fun _ _ _ _ _ _ q => q) (⟨fun _ => hg, fun q => absurd hc q⟩)
theorem g_geF {t : Nat} {off : Int} {x y : Int32} (hd : decode (zb k) pc = .ok (.if_icmp .ge off, 3)) (ht : (pc : Int) + off = (t : Int)) (hc : ¬ y ≤ x) (h : zSG l dC dI cA N E A k mc ms cells slots n (pc + 3) ls r I L R F) : zSG l dC dI cA N E A k mc ms cells slots n pc ls (.int y :: .int x :: r) I L R F := by
  intro ad p e Rm s m args below meth c Z cG hF
  obtain ⟨hx, hb, hml, hown, hts, hWd, hfr, hlo, hce, hsl, hA, hAO, hini⟩ := id cG
  have hg := h ad p e Rm s m args below meth c Z cG hF
  exact sn_ige (nx := fun pc ls st I L R => zAt p l e Rm s m args below meth c cells slots Z dC dI cA ad (zKr N n) n (zml k) E A pc ls st I L R) (rt := fun _ _ _ _ => False) (cx := fun _ _ _ _ _ _ => False) hx hb hd ht (fun _ _ _ _ _ _ q => q) (⟨fun q => absurd q hc, fun _ => hg⟩)
theorem g_gR {ci j idx a x : Nat} {C : String} {T : u_T} {FT : Nat → FieldType} (ho : zOK ci C T FT) (hj : j < zN ci) {own : String} (how : (zy k).cls = own) (hlk : zfm own idx (T j).1 (T j).2.1 (T j).2.2.1) (hty : zty ci j = 2) (hd : decode (zb k) pc = .ok (.getfield idx, 3)) (hk : (zKr N n a).1 = ci) (hxr : R a j = x + 1) (h : zSG l dC dI cA N E A k mc ms cells slots n (pc + 3) ls (.ref x :: r) I L R F) : zSG l dC dI cA N E A k mc ms cells slots n pc ls (.ref a :: r) I L R F := by
  intro ad p e Rm s m args below meth c Z cG hF
  obtain ⟨hx, hb, hml, hown, hts, hWd, hfr, hlo, hce, hsl, hA, hAO, hini⟩ := id cG
  have hg := h ad p e Rm s m args below meth c Z cG hF
  exact sn_gR (nx := fun pc ls st I L R => zAt p l e Rm s m args below meth c cells slots Z dC dI cA ad (zKr N n) n (zml k) E A pc ls st I L R) (rt := fun _ _ _ _ => False) (cx := fun _ _ _ _ _ _ => False) hx hb (how ▸ hown) hts hWd.1 (zKn_r N n) ho hj (zfm_use hlk hts hWd.2.1) hty hd (fun _ _ _ _ _ _ q => q) (⟨hk, x, hxr, hg⟩)
theorem g_pR {ci j idx a x : Nat} {C : String} {T : u_T} {FT : Nat → FieldType} (ho : zOK ci C T FT) (hj : j < zN ci) {own : String} (how : (zy k).cls = own) (hlk : zfm own idx (T j).1 (T j).2.1 (T j).2.2.1) (hty : zty ci j = 2) (hfin : (T j).2.2.2 = false) (hf : narrow (FT j) (.ref 0) = .ref 0 ∧ ∀ b, narrow (FT j) (.ref b) = .ref b ∧ fits (FT j) (.ref b) = true) (hd : decode (zb k) pc = .ok (.putfield idx, 3)) (hk : (zKr N n a).1 = ci) (h : zSG l dC dI cA N E A k mc ms cells slots n (pc + 3) ls r I L (zup R a j (x + 1)) F) : zSG l dC dI cA N E A k mc ms cells slots n pc ls (.ref x :: .ref a :: r) I L R F := by
  intro ad p e Rm s m args below meth c Z cG hF
  obtain ⟨hx, hb, hml, hown, hts, hWd, hfr, hlo, hce, hsl, hA, hAO, hini⟩ := id cG
  have hg := h ad p e Rm s m args below meth c Z cG hF
  exact sn_pR (nx := fun pc ls st I L R => zAt p l e Rm s m args below meth c cells slots Z dC dI cA ad (zKr N n) n (zml k) E A pc ls st I L R) (rt := fun _ _ _ _ => False) (cx := fun _ _ _ _ _ _ => False) hx hb (how ▸ hown) hts hWd.1 (zKn_r N n) ho hj (zfm_use hlk hts hWd.2.1) hty hfin hf hd (fun _ _ _ _ _ _ q => q) (⟨hk, hg⟩)
theorem g_pRF {ci j idx a x : Nat} {C : String} {T : u_T} {FT : Nat → FieldType} (ho : zOK ci C T FT) (hj : j < zN ci) {own : String} (how : (zy k).cls = own) (h176 : k ≠ 176) (hlk : Cond.fieldLink own idx (T j).1 (T j).2.1 (T j).2.2.1 ∈ zWS) (hty : zty ci j = 2) (hfin : (T j).2.2.2 = true) (hdc : (T j).1 = own) (hf : narrow (FT j) (.ref 0) = .ref 0 ∧ ∀ b, narrow (FT j) (.ref b) = .ref b ∧ fits (FT j) (.ref b) = true) (hd : decode (zb k) pc = .ok (.putfield idx, 3)) (hk : (zKr N n a).1 = ci) (h : zSG l dC dI cA N E A k mc ms cells slots n (pc + 3) ls r I L (zup R a j (x + 1)) F) : zSG l dC dI cA N E A k mc ms cells slots n pc ls (.ref x :: .ref a :: r) I L R F := by
  intro ad p e Rm s m args below meth c Z cG hF
  obtain ⟨hx, hb, hml, hown, hts, hWd, hfr, hlo, hce, hsl, hA, hAO, hini⟩ := id cG
  have hg := h ad p e Rm s m args below meth c Z cG hF
  exact sn_pRF (nx := fun pc ls st I L R => zAt p l e Rm s m args below meth c cells slots Z dC dI cA ad (zKr N n) n (zml k) E A pc ls st I L R) (rt := fun _ _ _ _ => False) (cx := fun _ _ _ _ _ _ => False) hx hb (how ▸ hown) hts hWd.1 (zKn_r N n) ho hj (hts _ hlk) hty hfin (hini h176) hdc hf hd (fun _ _ _ _ _ _ q => q) (⟨hk, hg⟩)
theorem g_iast {a j nn : Nat} {y x : Int32} (hd : decode (zb k) pc = .ok (.iastore, 1)) (hk : zKr N n a = (20, nn)) (hy : y = nI j) (hj : j < nn) (h : zSG l dC dI cA N E A k mc ms cells slots n (pc + 1) ls r (zup I a j x) L R F) : zSG l dC dI cA N E A k mc ms cells slots n pc ls (.int x :: .int y :: .ref a :: r) I L R F := by
  intro ad p e Rm s m args below meth c Z cG hF
  obtain ⟨hx, hb, hml, hown, hts, hWd, hfr, hlo, hce, hsl, hA, hAO, hini⟩ := id cG
  have hg := h ad p e Rm s m args below meth c Z cG hF
  exact sn_iast (nx := fun pc ls st I L R => zAt p l e Rm s m args below meth c cells slots Z dC dI cA ad (zKr N n) n (zml k) E A pc ls st I L R) (rt := fun _ _ _ _ => False) (cx := fun _ _ _ _ _ _ => False) hx hb hWd.1 (zKn_r N n) hd (fun _ _ _ _ _ _ q => q) (⟨nn, j, hk, hy, hj, hg⟩)
theorem g_oi {idx a : Nat} {own : String} (how : (zy k).cls = own) (hlk : Cond.methodLink own idx Lib.objectInit ∈ zWS) (hins : Cond.instanceMethod Lib.objectInit ∈ zWS) (hco : Cond.code Lib.objectInit ⟨#[0xb1]⟩ 1 none ∈ zWS) (hk1 : 1 ≤ zrk k) (hc : zck 0 [] r = true) (hd : decode (zb k) pc = .ok (.invokespecial idx, 3)) (h : zSG l dC dI cA N E A k mc ms cells slots n (pc + 3) ls r I L R F) : zSG l dC dI cA N E A k mc ms cells slots n pc ls (.ref a :: r) I L R F := by
  intro ad p e Rm s m args below meth c Z cG hF
  obtain ⟨hx, hb, hml, hown, hts, hWd, hfr, hlo, hce, hsl, hA, hAO, hini⟩ := id cG
  have hg := h ad p e Rm s m args below meth c Z cG hF
  intro hlen hE H locs lsA hl hP hD hS
  have hcat := zck_1 ad hc
  have hrm : 2 * (F0 m pc lsA ((Value.ref a :: r).map (zcv ad))).monitorRoom + ((r.map (zcv ad)).map fun v => v.category).sum ≤ 8 := lv_room hcat
  exact W.objInit hx hb (how ▸ hown) (hts _ hlk) (hts _ hins) (hts _ hco) rfl (by rw [hml]; exact hl.1) rfl hd (by omega) (by omega) (hg hlen hE H locs lsA hl hP hD hS)
set_option maxHeartbeats 1000000 in
theorem g_cV {k2 idx na ci ml a : Nat} {as : List Value} {C : String} {T : u_T} {FT : Nat → FieldType} (ho : zOK ci C T FT) (hCy : (zy k2).cls = C) (hml2 : zml k2 = ml) (hins : Cond.instanceMethod (zy k2) ∈ zWS) (hsel : Cond.selects C (zy k2) (zy k2) ∈ zWS) (hcal : zcal k2 na) (hrk : zrk k2 < zrk k) (hmx : zml k2 ≤ 21) (hlk : zmm (zy k).cls idx (zy k2)) (hd : decode (zb k) pc = .ok (.invokevirtual idx, 3)) (hz : zarg na [] st = some (as, .ref a :: r)) (hk : (zKr N n a).1 = ci) (hc : zck ml (.ref a :: as) r = true) (hcc : cells ≤ mc) (hss : slots ≤ ms) (post : Option Value → ZMi → ZMl → ZMr → Prop)
    (hs : ∀ (P : Nat → Nat → List Value → List Value → ZMi → ZMl → ZMr → ZRt → Prop), ZCl (zKr N n) P → ∀ Q : ZRt, (∀ v I' L' R', post v I' L' R' → Q v I' L' R') → P k2 0 (zent ml (.ref a :: as)) [] I L R Q)
    (h : ∀ v I' L' R', post v I' L' R' → zSG l dC dI cA N E A k mc ms cells slots n (pc + 3) ls (v.toList ++ r) I' L' R' F) : zSG l dC dI cA N E A k mc ms cells slots n pc ls st I L R F := by
  intro ad p e Rm s m args below meth c Z cG hF
  obtain ⟨hx, hb, hml, hown, hts, hWd, hfr, hlo, hce, hsl, hA, hAO, hini⟩ := id cG
  have cX : zCx dC dI cA ad (zKr N n) n E A k p Rm s m args c cells slots := ⟨hx, hb, hml, hown, hts, zWd_n hWd rfl rfl, hfr, hlo, by omega, by omega⟩
  refine sn_cV (nx := fun pc ls st I L R => zAt p l e Rm s m args below meth c cells slots Z dC dI cA ad (zKr N n) n (zml k) E A pc ls st I L R) (rt := fun _ _ _ _ => False) (cx := fun k2 ls I L R Q2 => zSW l dC dI cA ad (zKr N n) n E A k2 0 ls [] I L R Q2) ho hCy hml2 hins hsel cX (zKn_r N n) hcal hrk hmx (zmm_use hlk hts hWd.2.1) (fun _ _ _ _ _ q => q) hd (fun _ _ _ _ _ _ q => q) ?_
  unfold z_cV
  rw [hz]
  exact ⟨hk, hc, hs _ (zclosed l dC dI cA ad (zKr N n) n E A (zKn_r N n)) _ (fun v I' L' R' q => h v I' L' R' q ad p e Rm s m args below meth c Z cG hF)⟩
set_option maxHeartbeats 2000000 in
theorem g_cI {k2 idx mc2 ms2 a : Nat} (hlk : zmm (zy k).cls idx (zy k2)) (hcal : zcal k2 0) (hins : Cond.instanceMethod (zy k2) ∈ zWS) (hnm : (zy k2).name = "<init>") (hrt : zrt k2 = none) (hrk : zrk k2 < zrk k) (hmx : zml k2 ≤ 21) (hd : decode (zb k) pc = .ok (.invokespecial idx, 3)) (hc : zck (zml k2) [.ref a] r = true) (hcc : cells + mc2 ≤ mc) (hss : slots + ms2 ≤ ms) (hvl : ∀ v ∈ ls, zvk n v) (hvr : ∀ v ∈ r, zvk n v) (Q : Nat → ZMi → ZMl → ZMr → Prop)
    (hs : zSG l dC dI cA N E A k2 mc2 ms2 0 0 n 0 (zent (zml k2) [.ref a]) [] I L R (zFr k2 mc2 ms2 Q))
    (h : ∀ n' I' L' R', Q n' I' L' R' → zSG l dC dI cA N E A k mc ms (cells + mc2) (slots + ms2) n' (pc + 3) ls r I' L' R' F) : zSG l dC dI cA N E A k mc ms cells slots n pc ls (.ref a :: r) I L R F := by
  intro ad p e Rm s m args below meth c Z cG hF
  obtain ⟨hx, hb, hml, hown, hts, hWd, hfr, hlo, hce, hsl, hA, hAO, hini⟩ := id cG
  obtain ⟨hpl, hcw, hnmh, hpar, hinit⟩ := hcal
  intro hlen hE H locs lsA hl hP hD hS
  have hM := zmetG (as := [.ref a]) hpl (zck_2 hc) hrt hnm hE hD hs
  have hws : ∀ w ∈ (Cond.code (zy k2) (zb k2) (zml k2) (zrt k2) :: zWS), ∀ (a' : Array Value) (U : State), s.WarmedH U.vm → w.before a' U = true := pay_in hts (zgoodc hcw)
  have hsig : ∀ sig, parseMethodDescriptor (zy k2).desc = some sig → 0 = sig.parameters.length := fun sig q => by rw [q] at hpar; exact (Option.some.inj hpar).symm
  have hcat := zck_1 ad hc
  have hbl : FrameBlind (va_Pc (([.ref a] : List Value).map (zcv ad)) (zPG dC dI cA ad N n E A I L R)) := fun a U g mk q => ⟨q.1, q.2.1, zWd_blind (U := U) (V := U.calling g mk a) rfl rfl q.2.2.1, zAO_moved (u := U) (U := U.calling g mk a) (Vm.Alike.refl U.vm) q.2.2.2.1, q.2.2.2.2⟩
  have hpc : ∀ U : State, U.heap = H → s.WarmedH U.vm → (va_Pc (([.ref a] : List Value).map (zcv ad)) (zPG dC dI cA ad N n E A I L R)) (([.ref a] : List Value).map (zcv ad)).toArray U := fun U hU hW => ⟨rfl, by rw [hU]; exact hP, zWd_to hS hU hW hWd, zAO_moved hW.alike hAO, fun q hq => hA q (Nat.le_trans hS.1 (by rw [hU] at hq; exact hq))⟩
  have hlo2 : 8 + (zml k2 + 11) + 40 * zrk k2 ≤ Rm.locals := by omega
  have hrun : va_Run p l e Rm s m args below meth c H locs cells slots mc2 ms2 (F0 m pc lsA ((.ref a :: r).map (zcv ad))) (r.map (zcv ad)) (zQG dC dI cA ad N n E A Q (Value.ref (ad a) :: []).toArray) A := by
    rcases zmm_use hlk hts hWd.2.1 with hlk | ⟨host, hlk⟩
    · have cw : CallB Rm s args (zy k).cls idx (zy k2) (zb k2) (zml k2) none (Cond.code (zy k2) (zb k2) (zml k2) (zrt k2) :: zWS) (zrmG k2 mc2 ms2) mc2 ms2 0 := ⟨rfl, rfl, by show zrk k2 + 1 ≤ _; omega, hlo2, hws, by rw [← hrt]; exact List.mem_cons_self, by rw [← hrt]; exact hts _ hcw, hts _ hinit, hnmh, hsig, hlk⟩
      exact va_runI (As := []) (rest := r.map (zcv ad)) (n := 0) (index := idx) (own := (zy k).cls) (bytes := zb k2) (maxL := zml k2) (Ts := zWS) ⟨hx, hb, hml, hown, hts⟩ hM ⟨cw, hnm, hts _ hins⟩ ⟨hbl, hpc⟩ rfl rfl hl.1 rfl (lv_room hcat) hd ⟨by omega, by omega⟩
    · have cw : va_CN Rm s args (zy k).cls idx (zy k2) host (zb k2) (zml k2) none (Cond.code (zy k2) (zb k2) (zml k2) (zrt k2) :: zWS) (zrmG k2 mc2 ms2) mc2 ms2 0 := ⟨⟨rfl, rfl, by show zrk k2 + 1 ≤ _; omega, hlo2, hws, by rw [← hrt]; exact List.mem_cons_self⟩, by rw [← hrt]; exact hts _ hcw, hts _ hinit, hnmh, hsig, hlk⟩
      exact va_runIN (As := []) (rest := r.map (zcv ad)) (n := 0) (index := idx) (own := (zy k).cls) (host := host) (bytes := zb k2) (maxL := zml k2) (Ts := zWS) ⟨hx, hb, hml, hown, hts⟩ hM ⟨cw, hnm, hts _ hins⟩ ⟨hbl, hpc⟩ rfl rfl hl.1 rfl (lv_room hcat) hd ⟨by omega, by omega⟩
  intro T hT X
  obtain ⟨v, st₀, t, T', L9, h0, X', hL, e1, e2, ⟨⟨ad', n', I', L', R', hv, hnn, hag, hq, hE', hP', hD'⟩, hz, hk⟩, stp⟩ := hrun T hT X
  cases hv
  rw [h0] at hz hk
  have hS1 : va_S A s.heap T'.heap (locs ++ L9) := ⟨Nat.le_trans hS.1 (by rw [e1]; exact hz), fun q h1 h2 => by rw [e1, hk q (Nat.lt_of_lt_of_le h1 hS.1) h2]; exact hS.2.1 q h1 h2, fun q hq => by
      rcases List.mem_append.mp hq with h | h
      · exact hS.2.2 q h
      · exact hL q h⟩
  obtain ⟨t2, a1, b1⟩ := h n' I' L' R' hq ad' p e Rm s m args below meth c Z (zCG_ag hag cG) (fun ad2 c2 s2 n2 pc2 ls2 st2 I2 L2 R2 g1 g2 g3 => hF ad2 c2 s2 n2 pc2 ls2 st2 I2 L2 R2 (Nat.le_trans hnn g1) (zag_t hag g2 hnn) g3) hlen hE' T'.heap (locs ++ L9) lsA (by rw [zll_ag hag hvl]; exact hl) (by rw [e1]; exact hP') hD' hS1 T' rfl X'
  refine ⟨t2, stp t2 ?_, b1⟩
  rw [zcv_ag hag hvr] at a1
  exact a1
theorem zRA_i {s : State} {c1 c2 : ClassId} {ty : FieldType} (ht : ty = .int ∨ ty = .long ∨ ty = .byte ∨ ty = .boolean) (h1 : va_RA s c1 ty) (h2 : va_RA s c2 ty) : c1 = c2 := by
  rcases ht with rfl | rfl | rfl | rfl
  · exact Option.some.inj ((va_nm_int h1).symm.trans (va_nm_int h2))
  · exact Option.some.inj ((va_nm_long h1).symm.trans (va_nm_long h2))
  · exact Option.some.inj ((va_nm_byte h1).symm.trans (va_nm_byte h2))
  · exact Option.some.inj ((va_nm_boolean h1).symm.trans (va_nm_boolean h2))
set_option maxHeartbeats 1000000 in
theorem g_na {kd t0 len : Nat} {atype : ArrayType} {ty : FieldType} {x : Int32} (hty : newarray.typeOf atype = ty) (htt : ty = .int ∨ ty = .long ∨ ty = .byte ∨ ty = .boolean) (hdv : defaultValue ty = .int 0) (hkd : 13 ≤ kd ∧ kd ≠ 21 ∧ kd < 24) (ht : ∀ cA, (ztys cA)[t0]? = some (cA kd, ty)) (hw : Cond.arrayClass ty ∈ zWS) (hx0 : ¬ x < 0) (hxn : x.toNatClampNeg = len) (hby : len * componentBytes ty ≤ 536870912) (hk : zKg N (n + 2) = (kd, len)) (hvl : ∀ v ∈ ls, zvk n v) (hvs : ∀ v ∈ st, zvk n v) (hRn : ∀ a j, R a j ≤ n + 2) (hI0 : ∀ j, I (n + 2) j = 0) (hcc : cells + 1 ≤ mc) (hss : slots + len ≤ ms) (hd : decode (zb k) pc = .ok (.newarray atype, 2)) (h : zSG l dC dI cA N E A k mc ms (cells + 1) (slots + len) (n + 1) (pc + 2) ls (.ref (n + 2) :: st) I L R F) : zSG l dC dI cA N E A k mc ms cells slots n pc ls (.int x :: st) I L R F := by
  intro ad p e Rm s m args below meth c Z cG hF
  obtain ⟨hx, hb, hml, hown, hts, hWd, hfr, hlo, hce, hsl, hA, hAO, hini⟩ := id cG
  intro hlen hE H locs lsA hl hP hD hS
  refine va_newa (ty := ty) (a0 := (len, .inl (I (n + 2)))) hx hb (by rw [hty]; exact hts _ hw) hty hWd.1 hP hD hS hA (fun c1 => by rw [vp_cell_i, hdv]; congr 1; funext j; rw [hI0]) hx0 hxn hby (by omega) (by omega) hd (fun q c1 H1 hK1 hP1 hD1 hS1 => ?_)
  have hc1 : c1 = cA kd := zRA_i htt (hK1.2 8 (c1, ty) rfl).2 (hWd.1.2 t0 (cA kd, ty) (ht cA)).2
  subst hc1
  have hag := zadd_ag n ad q
  have hgr := zwl_grow (cA := cA) (ad := ad) (N := N) (n := n) (q := q) (I := I) (L := L) (R := R) hRn
  have hkr : zKr N (n + 1) (n + 2) = (kd, len) := by rw [zKr_lt (by omega)]; exact hk
  have hce' : zcel cA (zadd ad (n + 2) q) (zKr N (n + 1)) I L R (n + 2) = .inl (cA kd, len, .inl (I (n + 2))) := zcel_i hkr hkd.1 hkd.2.1 hkd.2.2
  rw [hce'] at hgr
  have hgo := h (zadd ad (n + 2) q) p e Rm s m args below meth c Z (zCG_ag hag cG) (fun ad2 c2 s2 n2 pc2 ls2 st2 I2 L2 R2 g1 g2 g3 => hF ad2 c2 s2 n2 pc2 ls2 st2 I2 L2 R2 (by omega) (zag_t hag g2 (by omega)) g3) hlen (zext_n hE) H1 locs lsA (by rw [zll_ag hag hvl]; exact hl) (by rw [hgr]; exact hP1) (by rw [hgr]; exact hD1) hS1
  rw [List.map_cons, zcv_ag hag hvs] at hgo
  have hq0 : zcv (zadd ad (n + 2) q) (.ref (n + 2)) = .ref q := by simp [zcv, zadd]
  rw [hq0] at hgo
  exact hgo
set_option maxHeartbeats 1000000 in
theorem g_nl {len : Nat} {x : Int32} (hw : Cond.arrayClass .long ∈ zWS) (hx0 : ¬ x < 0) (hxn : x.toNatClampNeg = len) (hby : len * componentBytes .long ≤ 536870912) (hk : zKg N (n + 2) = (21, len)) (hvl : ∀ v ∈ ls, zvk n v) (hvs : ∀ v ∈ st, zvk n v) (hRn : ∀ a j, R a j ≤ n + 2) (hI0 : ∀ j, L (n + 2) j = 0) (hcc : cells + 1 ≤ mc) (hss : slots + len ≤ ms) (hd : decode (zb k) pc = .ok (.newarray .long, 2)) (h : zSG l dC dI cA N E A k mc ms (cells + 1) (slots + len) (n + 1) (pc + 2) ls (.ref (n + 2) :: st) I L R F) : zSG l dC dI cA N E A k mc ms cells slots n pc ls (.int x :: st) I L R F := by
  intro ad p e Rm s m args below meth c Z cG hF
  obtain ⟨hx, hb, hml, hown, hts, hWd, hfr, hlo, hce, hsl, hA, hAO, hini⟩ := id cG
  intro hlen hE H locs lsA hl hP hD hS
  refine va_newa (atype := .long) (ty := .long) (a0 := (len, .inr (.inl (L (n + 2))))) hx hb (hts _ hw) rfl hWd.1 hP hD hS hA (fun c1 => by rw [vp_cell_l]; congr 1; funext j; rw [hI0]; rfl) hx0 hxn hby (by omega) (by omega) hd (fun q c1 H1 hK1 hP1 hD1 hS1 => ?_)
  have hc1 : c1 = cA 21 := zRA_i (Or.inr (Or.inl rfl)) (hK1.2 8 (c1, .long) rfl).2 (hWd.1.2 1 (cA 21, .long) rfl).2
  subst hc1
  have hag := zadd_ag n ad q
  have hgr := zwl_grow (cA := cA) (ad := ad) (N := N) (n := n) (q := q) (I := I) (L := L) (R := R) hRn
  have hkr : zKr N (n + 1) (n + 2) = (21, len) := by rw [zKr_lt (by omega)]; exact hk
  have hce' : zcel cA (zadd ad (n + 2) q) (zKr N (n + 1)) I L R (n + 2) = .inl (cA 21, len, .inr (.inl (L (n + 2)))) := zcel_l hkr
  rw [hce'] at hgr
  have hgo := h (zadd ad (n + 2) q) p e Rm s m args below meth c Z (zCG_ag hag cG) (fun ad2 c2 s2 n2 pc2 ls2 st2 I2 L2 R2 g1 g2 g3 => hF ad2 c2 s2 n2 pc2 ls2 st2 I2 L2 R2 (by omega) (zag_t hag g2 (by omega)) g3) hlen (zext_n hE) H1 locs lsA (by rw [zll_ag hag hvl]; exact hl) (by rw [hgr]; exact hP1) (by rw [hgr]; exact hD1) hS1
  rw [List.map_cons, zcv_ag hag hvs] at hgo
  have hq0 : zcv (zadd ad (n + 2) q) (.ref (n + 2)) = .ref q := by simp [zcv, zadd]
  rw [hq0] at hgo
  exact hgo
set_option maxHeartbeats 1000000 in
theorem g_nq {kd t0 len idx : Nat} {C own : String} {x : Int32} (how : (zy k).cls = own) (hcl : Cond.classLink own idx C ∈ zWS) (hao : ∀ U, zAO U → va_AO C U) (hkd : 24 ≤ kd) (ht : ∀ cA, (ztys cA)[t0]? = some (cA kd, .object C)) (hx0 : ¬ x < 0) (hxn : x.toNatClampNeg = len) (hby : len * 4 ≤ 536870912) (hk : zKg N (n + 2) = (kd, len)) (hvl : ∀ v ∈ ls, zvk n v) (hvs : ∀ v ∈ st, zvk n v) (hRn : ∀ a j, R a j ≤ n + 2) (hI0 : ∀ j, R (n + 2) j = 0) (hcc : cells + 1 ≤ mc) (hss : slots + len ≤ ms) (hd : decode (zb k) pc = .ok (.anewarray idx, 3)) (h : zSG l dC dI cA N E A k mc ms (cells + 1) (slots + len) (n + 1) (pc + 3) ls (.ref (n + 2) :: st) I L R F) : zSG l dC dI cA N E A k mc ms cells slots n pc ls (.int x :: st) I L R F := by
  intro ad p e Rm s m args below meth c Z cG hF
  obtain ⟨hx, hb, hml, hown, hts, hWd, hfr, hlo, hce, hsl, hA, hAO, hini⟩ := id cG
  intro hlen hE H locs lsA hl hP hD hS
  refine va_newq hx hb (how ▸ hown) (hts _ hcl) (hao s hAO) hWd.1 hP hD hS hA hx0 hxn hby (by omega) (by omega) hd (fun q c1 H1 hK1 hP1 hD1 hS1 => ?_)
  have hc1 : c1 = cA kd := by
    have g1 := (hK1.2 8 (c1, .object C) rfl).2
    have g2 := (hWd.1.2 t0 (cA kd, .object C) (ht cA)).2
    exact Option.some.inj ((va_nmO g1 rfl).symm.trans (va_nmO g2 rfl))
  subst hc1
  have hag := zadd_ag n ad q
  have hgr := zwl_grow (cA := cA) (ad := ad) (N := N) (n := n) (q := q) (I := I) (L := L) (R := R) hRn
  have hkr : zKr N (n + 1) (n + 2) = (kd, len) := by rw [zKr_lt (by omega)]; exact hk
  have hce' : zcel cA (zadd ad (n + 2) q) (zKr N (n + 1)) I L R (n + 2) = .inl (cA kd, len, .inr (.inr (.inr (.inr (fun _ => none))))) := by
    rw [zcel_r hkr hkd]
    exact congrArg (fun f => (Sum.inl (cA kd, len, Sum.inr (Sum.inr (Sum.inr (Sum.inr f)))) : va_E)) (funext fun j => by rw [hI0]; rfl)
  rw [hce'] at hgr
  have hgo := h (zadd ad (n + 2) q) p e Rm s m args below meth c Z (zCG_ag hag cG) (fun ad2 c2 s2 n2 pc2 ls2 st2 I2 L2 R2 g1 g2 g3 => hF ad2 c2 s2 n2 pc2 ls2 st2 I2 L2 R2 (by omega) (zag_t hag g2 (by omega)) g3) hlen (zext_n hE) H1 locs lsA (by rw [zll_ag hag hvl]; exact hl) (by rw [hgr]; exact hP1) (by rw [hgr]; exact hD1) hS1
  rw [List.map_cons, zcv_ag hag hvs] at hgo
  have hq0 : zcv (zadd ad (n + 2) q) (.ref (n + 2)) = .ref q := by simp [zcv, zadd]
  rw [hq0] at hgo
  exact hgo
def zdf0 (t : Nat) : Value := match t with
  | 0 => .int 0
  | 1 => .long 0
  | _ => .null
theorem zfv0 {ad : Nat → Nat} {t : Nat} {I : ZMi} {L : ZMl} {R : ZMr} {a j : Nat} (h1 : I a j = 0) (h2 : L a j = 0) (h3 : R a j = 0) : zfv ad t I L R a j = zdf0 t := by
  match t with
  | 0 => show Value.int _ = _; rw [h1]; rfl
  | 1 => show Value.long _ = _; rw [h2]; rfl
  | t + 2 => show va_rf (zre ad (R a j)) = _; rw [h3]; rfl
set_option maxHeartbeats 1000000 in
theorem g_new {ci idx : Nat} {C own : String} {T : u_T} {FT : Nat → FieldType} (ho : zOK ci C T FT) (how : (zy k).cls = own) (hcl : Cond.classLink own idx C ∈ zWS) (hins : Cond.instantiable C (zN ci) ∈ zWS) (hni : Cond.initialized C ∈ zWS) (hdf : ∀ j, j < zN ci → defaultValue (FT j) = zdf0 (zty ci j)) (hk : zKg N (n + 2) = (ci, 0)) (hvl : ∀ v ∈ ls, zvk n v) (hvs : ∀ v ∈ st, zvk n v) (hRn : ∀ a j, R a j ≤ n + 2) (hI0 : ∀ j, I (n + 2) j = 0) (hL0 : ∀ j, L (n + 2) j = 0) (hR0 : ∀ j, R (n + 2) j = 0) (hcc : cells + 1 ≤ mc) (hss : slots + zN ci ≤ ms) (hd : decode (zb k) pc = .ok (.new idx, 3)) (h : zSG l dC dI cA N E A k mc ms (cells + 1) (slots + zN ci) (n + 1) (pc + 3) ls (.ref (n + 2) :: st) I L R F) : zSG l dC dI cA N E A k mc ms cells slots n pc ls st I L R F := by
  intro ad p e Rm s m args below meth c Z cG hF
  obtain ⟨hx, hb, hml, hown, hts, hWd, hfr, hlo, hce, hsl, hA, hAO, hini⟩ := id cG
  intro hlen hE H locs lsA hl hP hD hS
  obtain ⟨hci, hcls, hin, hnm, hFT⟩ := ho
  have hfs : ∀ ad', zfs ad' ci I L R (n + 2) = (List.range (zN ci)).map (fun j => zdf0 (zty ci j)) := fun ad' => by
    unfold zfs
    refine List.map_congr_left (fun j _ => ?_)
    exact zfv0 (hI0 j) (hL0 j) (hR0 j)
  refine va_new (fs := (List.range (zN ci)).map (fun j => zdf0 (zty ci j))) (C := C) (T := T) (N := zN ci) hx hb hts hin FT hFT (how ▸ hown) (hts _ hcl) (hts _ hins) (hts _ hni) hWd.1 hP hD hS hA hcls (fun j hj => by rw [hdf j hj, vp_V]; simp [hj]) (by omega) (by omega) hd (fun q H1 hP1 hD1 hS1 => ?_)
  have hag := zadd_ag n ad q
  have hgr := zwl_grow (cA := cA) (ad := ad) (N := N) (n := n) (q := q) (I := I) (L := L) (R := R) hRn
  have hkr : zKr N (n + 1) (n + 2) = (ci, 0) := by rw [zKr_lt (by omega)]; exact hk
  have hce' : zcel cA (zadd ad (n + 2) q) (zKr N (n + 1)) I L R (n + 2) = .inr (ci, (List.range (zN ci)).map (fun j => zdf0 (zty ci j))) := by
    rw [zcel_o (by rw [hkr]; exact hci), hkr, hfs]
  rw [hce'] at hgr
  have hgo := h (zadd ad (n + 2) q) p e Rm s m args below meth c Z (zCG_ag hag cG) (fun ad2 c2 s2 n2 pc2 ls2 st2 I2 L2 R2 g1 g2 g3 => hF ad2 c2 s2 n2 pc2 ls2 st2 I2 L2 R2 (by omega) (zag_t hag g2 (by omega)) g3) hlen (zext_n hE) H1 locs lsA (by rw [zll_ag hag hvl]; exact hl) (by rw [hgr]; exact hP1) (by rw [hgr]; exact hD1) hS1
  rw [List.map_cons, zcv_ag hag hvs] at hgo
  have hq0 : zcv (zadd ad (n + 2) q) (.ref (n + 2)) = .ref q := by simp [zcv, zadd]
  rw [hq0] at hgo
  exact hgo
set_option maxHeartbeats 1000000 in
theorem g_aast {kd t0 ci nn j a x : Nat} {C : String} {T : u_T} {FT : Nat → FieldType} {y : Int32} (ho : zOK ci C T FT) (hkd : 24 ≤ kd) (ht : ∀ cA, (ztys cA)[t0]? = some (cA kd, .object C)) (hd : decode (zb k) pc = .ok (.aastore, 1)) (hk : zKr N n a = (kd, nn)) (hk2 : (zKr N n x).1 = ci) (hkd2 : kd < 30) (hy : y = nI j) (hj : j < nn) (h : zSG l dC dI cA N E A k mc ms cells slots n (pc + 1) ls r I L (zup R a j (x + 1)) F) : zSG l dC dI cA N E A k mc ms cells slots n pc ls (.ref x :: .int y :: .ref a :: r) I L R F := by
  intro ad p e Rm s m args below meth c Z cG hF
  obtain ⟨hx, hb, hml, hown, hts, hWd, hfr, hlo, hce, hsl, hA, hAO, hini⟩ := id cG
  intro hlen hE H locs lsA hl hP hD hS
  have hKn := zKn_r N n
  obtain ⟨hci, hcls, hin, hnm, hFT⟩ := ho
  have hra := hKn a (by rw [hk]; exact hkd2)
  have hrx := hKn x (by rw [hk2]; omega)
  have hea := zwl_at (cA := cA) (ad := ad) (K := zKr N n) (I := I) (L := L) (R := R) hra.1
  rw [zcel_r hk hkd] at hea
  have hex := zwl_at (cA := cA) (ad := ad) (K := zKr N n) (I := I) (L := L) (R := R) hrx.1
  rw [zcel_o (by rw [hk2]; exact hci), hk2] at hex
  have hnn : nn < 2 ^ 31 := by have := hra.2; rw [hk] at this; exact this
  obtain ⟨hin2, hclm⟩ := zlt_i hy hj hnn
  refine va_astq hx hb hWd.1 hP hD hS (a - 2) t0 (x - 2) ci (r := (C, T, zN ci)) hea (ht cA) hex hcls hin2 hd (fun H1 locs1 hP1 hD1 hS1 => ?_)
  have hset : (zwl cA ad (zKr N n) n I L R).set (a - 2) (ad a, .inl (cA kd, nn, .inr (.inr (.inr (.inr (va_up (fun j => zre ad (R a j)) y.toNatClampNeg (some (ad x)))))))) = zwl cA ad (zKr N n) n I L (zup R a j (x + 1)) := by
    refine zwl_set hra.1 ?_ (fun b hb => zcel_eq (fun _ => rfl) (fun _ => rfl) (fun q => zup_na _ _ _ _ hb))
    rw [zcel_r hk hkd, hclm]
    refine congrArg (fun f => (Sum.inl (cA kd, nn, Sum.inr (Sum.inr (Sum.inr (Sum.inr f)))) : va_E)) (funext fun q => ?_)
    unfold va_up
    by_cases e : q = j
    · subst e
      rw [zup_s]
      simp [zre]
    · rw [zup_nk _ _ _ _ e]
      simp [e]
  rw [hset] at hP1 hD1
  exact h ad p e Rm s m args below meth c Z cG hF hlen hE H1 locs1 lsA hl hP1 hD1 hS1
end ZG
