/-! ===== soundness, instruction by instruction ===== -/
theorem zst_has2 {ad : Nat → Nat} {lsA : Array Slot} {nL i : Nat} {ls : List Value} {x : Int64} (hi : i + 1 < nL) (hlen : ls.length = nL)
    (h : lv_has lsA nL ((i, Value.long x) :: (zll ad 0 ls).filter (fun q => !(q.1 == i) && (!(q.1 == i + 1) && !(q.1 + 1 == i && q.2.category == 2))))) : lv_has lsA nL (zll ad 0 (zst ls i (.long x))) := by
  refine ⟨h.1, h.2.1, fun q hq => h.2.2 q ?_⟩
  obtain ⟨j, w, h1, h2, h3⟩ := zll_mem.mp hq
  have e : zst ls i (.long x) = ((zkl ls i).set i (.long x)).set (i + 1) .null := rfl
  rw [e] at h1
  by_cases hj1 : j = i + 1
  · subst hj1
    rw [List.getElem?_set_self (by rw [List.length_set, zkl_len]; omega)] at h1
    cases h1
    exact absurd rfl h2
  · rw [List.getElem?_set_ne (Ne.symm hj1)] at h1
    by_cases hj : j = i
    · subst hj
      rw [List.getElem?_set_self (by rw [zkl_len]; omega)] at h1
      cases h1
      rw [h3]
      simp [zcv]
    · rw [List.getElem?_set_ne (Ne.symm hj)] at h1
      obtain ⟨h4, h5⟩ := zkl_at h1 h2
      refine List.mem_cons_of_mem _ (List.mem_filter.mpr ⟨zll_mem.mpr ⟨j, w, h4, h2, h3⟩, ?_⟩)
      rw [h3]
      simp only [Bool.and_eq_true, Bool.not_eq_true', Bool.not_eq_true] at *
      refine ⟨by simpa using hj, by simpa using hj1, ?_⟩
      by_cases hji : j + 1 = i
      · have h6 : ¬ w.category = 2 := fun q => h5 ⟨hji, q⟩
        have h7 : (zcv ad w).category = w.category := by cases w <;> rfl
        simp [h7, h6]
      · simp [hji]
theorem zll_get {ad : Nat → Nat} {lsA : Array Slot} {nL i : Nat} {ls : List Value} {v : Value} (h : lv_has lsA nL (zll ad 0 ls)) (hv : ls[i]? = some v) (hn : v ≠ .null) : lsA[i]? = some (.val (zcv ad v)) := by
  have := h.2.2 (0 + i, zcv ad v) (zll_mem.mpr ⟨i, v, hv, hn, rfl⟩)
  simpa using this
/-- the read-only arrays are as they were -/
def zext (K : ZKh) (E I : ZMi) : Prop := ∀ a, (K a).1 = 30 → ∀ j, I a j = E a j
def zAt (p : Program) (l : Launch) (e : Env) (Rm : Room) (s : State) (m : MethodId) (args : Array Value) (below : List Frame) (meth : Method) (c : Code) (cells slots : Nat) (Z : State → Prop) (dC : Nat → ClassId) (dI : Nat → Nat → Nat) (cA : Nat → ClassId) (ad : Nat → Nat) (K : ZKh) (n nL : Nat) (E : ZMi) (A : Nat → Prop) (pc : Nat) (ls st : List Value) (I : ZMi) (L : ZMl) (R : ZMr) : Prop :=
  ls.length = nL → zext K E I → ∀ (H : Heap) (locs : List Loc) (lsA : Array Slot), lv_has lsA nL (zll ad 0 ls) → va_P (dC, dI) zcls (zwl cA ad K n I L R) H → va_D A (zwl cA ad K n I L R) → va_S A s.heap H locs → W p l e Rm s m args below meth c H locs cells slots Z (F0 m pc lsA (st.map (zcv ad)))
section ZS
variable {p : Program} {l : Launch} {e : Env} {Rm : Room} {s : State} {m : MethodId} {args : Array Value} {below : List Frame} {meth : Method} {c : Code} {cells slots : Nat} {Z : State → Prop}
variable {cc : ByteArray} {pc : Nat} {dC : Nat → ClassId} {dI : Nat → Nat → Nat} {cA : Nat → ClassId} {ad : Nat → Nat} {K : ZKh} {n nL : Nat} {E : ZMi} {A : Nat → Prop} {own : String}
variable {nx : ZNx} {rt : ZRt} {cx : ZCx} {ls st : List Value} {I : ZMi} {L : ZMl} {R : ZMr}
theorem sn_iconst (hx : p.tables.exec = Jvm.exec) (hb : c.code = cc) {v : Int32} {k : Int} (hd : decode cc pc = .ok (.iconst k, 1)) (hv : Int32.ofInt k = v)  (hX : ∀ pc ls st I L R, nx pc ls st I L R → zAt p l e Rm s m args below meth c cells slots Z dC dI cA ad K n nL E A pc ls st I L R) (h : z_ic v 1 K pc nx rt cx ls st I L R) : zAt p l e Rm s m args below meth c cells slots Z dC dI cA ad K n nL E A pc ls st I L R := by
  intro hlen hE H locs lsA hl hP hD hS
  exact lv_iconst hx hb hd hv (hX _ _ _ _ _ _ h hlen hE H locs lsA hl hP hD hS)
theorem sn_bipush (hx : p.tables.exec = Jvm.exec) (hb : c.code = cc) {v : Int32} {k : Int} (hd : decode cc pc = .ok (.bipush k, 2)) (hv : (Int8.ofInt k).toInt32 = v)  (hX : ∀ pc ls st I L R, nx pc ls st I L R → zAt p l e Rm s m args below meth c cells slots Z dC dI cA ad K n nL E A pc ls st I L R) (h : z_ic v 2 K pc nx rt cx ls st I L R) : zAt p l e Rm s m args below meth c cells slots Z dC dI cA ad K n nL E A pc ls st I L R := by
  intro hlen hE H locs lsA hl hP hD hS
  exact lv_bipush hx hb hd hv (hX _ _ _ _ _ _ h hlen hE H locs lsA hl hP hD hS)
theorem sn_sipush (hx : p.tables.exec = Jvm.exec) (hb : c.code = cc) {v : Int32} {k : Int} (hd : decode cc pc = .ok (.sipush k, 3)) (hv : (Int16.ofInt k).toInt32 = v)  (hX : ∀ pc ls st I L R, nx pc ls st I L R → zAt p l e Rm s m args below meth c cells slots Z dC dI cA ad K n nL E A pc ls st I L R) (h : z_ic v 3 K pc nx rt cx ls st I L R) : zAt p l e Rm s m args below meth c cells slots Z dC dI cA ad K n nL E A pc ls st I L R := by
  intro hlen hE H locs lsA hl hP hD hS
  exact lv_sipush hx hb hd hv (hX _ _ _ _ _ _ h hlen hE H locs lsA hl hP hD hS)
theorem sn_lconst (hx : p.tables.exec = Jvm.exec) (hb : c.code = cc) {v : Int64} {k : Fin 2} (hd : decode cc pc = .ok (.lconst k, 1)) (hv : Int64.ofNat (k : Nat) = v)  (hX : ∀ pc ls st I L R, nx pc ls st I L R → zAt p l e Rm s m args below meth c cells slots Z dC dI cA ad K n nL E A pc ls st I L R) (h : z_lc v 1 K pc nx rt cx ls st I L R) : zAt p l e Rm s m args below meth c cells slots Z dC dI cA ad K n nL E A pc ls st I L R := by
  intro hlen hE H locs lsA hl hP hD hS
  exact lv_lconst hx hb hd hv (hX _ _ _ _ _ _ h hlen hE H locs lsA hl hP hD hS)
theorem sn_ldc (hx : p.tables.exec = Jvm.exec) (hb : c.code = cc) (hown : s.vm.findClass own = some m.cls) {v : Int32} {idx : Nat} (hc : (Jvm.Cond.constant own idx v).before args s = true) (hd : decode cc pc = .ok (.ldc idx, 2))  (hX : ∀ pc ls st I L R, nx pc ls st I L R → zAt p l e Rm s m args below meth c cells slots Z dC dI cA ad K n nL E A pc ls st I L R) (h : z_ic v 2 K pc nx rt cx ls st I L R) : zAt p l e Rm s m args below meth c cells slots Z dC dI cA ad K n nL E A pc ls st I L R := by
  intro hlen hE H locs lsA hl hP hD hS
  exact lv_ldc hx hb hown hc hd (hX _ _ _ _ _ _ h hlen hE H locs lsA hl hP hD hS)
theorem sn_ldcw (hx : p.tables.exec = Jvm.exec) (hb : c.code = cc) (hown : s.vm.findClass own = some m.cls) {v : Int32} {idx : Nat} (hc : (Jvm.Cond.constant own idx v).before args s = true) (hd : decode cc pc = .ok (.ldc_w idx, 3))  (hX : ∀ pc ls st I L R, nx pc ls st I L R → zAt p l e Rm s m args below meth c cells slots Z dC dI cA ad K n nL E A pc ls st I L R) (h : z_ic v 3 K pc nx rt cx ls st I L R) : zAt p l e Rm s m args below meth c cells slots Z dC dI cA ad K n nL E A pc ls st I L R := by
  intro hlen hE H locs lsA hl hP hD hS
  exact lv_ldcw hx hb hown hc hd (hX _ _ _ _ _ _ h hlen hE H locs lsA hl hP hD hS)
theorem sn_ldc2 (hx : p.tables.exec = Jvm.exec) (hb : c.code = cc) (hown : s.vm.findClass own = some m.cls) {v : Int64} {idx : Nat} (hc : (Jvm.Cond.constantLong own idx v).before args s = true) (hd : decode cc pc = .ok (.ldc2_w idx, 3))  (hX : ∀ pc ls st I L R, nx pc ls st I L R → zAt p l e Rm s m args below meth c cells slots Z dC dI cA ad K n nL E A pc ls st I L R) (h : z_lc v 3 K pc nx rt cx ls st I L R) : zAt p l e Rm s m args below meth c cells slots Z dC dI cA ad K n nL E A pc ls st I L R := by
  intro hlen hE H locs lsA hl hP hD hS
  exact lv_ldc2 hx hb hown hc hd (hX _ _ _ _ _ _ h hlen hE H locs lsA hl hP hD hS)
theorem sn_iload (hx : p.tables.exec = Jvm.exec) (hb : c.code = cc) {i : Nat} (hd : decode cc pc = .ok (.iload i, 2))  (hX : ∀ pc ls st I L R, nx pc ls st I L R → zAt p l e Rm s m args below meth c cells slots Z dC dI cA ad K n nL E A pc ls st I L R) (h : z_il i 2 K pc nx rt cx ls st I L R) : zAt p l e Rm s m args below meth c cells slots Z dC dI cA ad K n nL E A pc ls st I L R := by
  unfold z_il at h
  split at h
  · rename_i x hg
    intro hlen hE H locs lsA hl hP hD hS
    exact lv_iload hx hb hd (zll_get hl hg (by intro q; cases q)) (hX _ _ _ _ _ _ h hlen hE H locs lsA hl hP hD hS)
  · exact h.elim
theorem sn_iload_n (hx : p.tables.exec = Jvm.exec) (hb : c.code = cc) {i : Nat} {k : Fin 4} (hd : decode cc pc = .ok (.iload_n k, 1)) (hk : (k : Nat) = i)  (hX : ∀ pc ls st I L R, nx pc ls st I L R → zAt p l e Rm s m args below meth c cells slots Z dC dI cA ad K n nL E A pc ls st I L R) (h : z_il i 1 K pc nx rt cx ls st I L R) : zAt p l e Rm s m args below meth c cells slots Z dC dI cA ad K n nL E A pc ls st I L R := by
  unfold z_il at h
  split at h
  · rename_i x hg
    intro hlen hE H locs lsA hl hP hD hS
    exact lv_iload_n hx hb hd hk (zll_get hl hg (by intro q; cases q)) (hX _ _ _ _ _ _ h hlen hE H locs lsA hl hP hD hS)
  · exact h.elim
theorem sn_lload (hx : p.tables.exec = Jvm.exec) (hb : c.code = cc) {i : Nat} (hd : decode cc pc = .ok (.lload i, 2))  (hX : ∀ pc ls st I L R, nx pc ls st I L R → zAt p l e Rm s m args below meth c cells slots Z dC dI cA ad K n nL E A pc ls st I L R) (h : z_ll i 2 K pc nx rt cx ls st I L R) : zAt p l e Rm s m args below meth c cells slots Z dC dI cA ad K n nL E A pc ls st I L R := by
  unfold z_ll at h
  split at h
  · rename_i x hg
    intro hlen hE H locs lsA hl hP hD hS
    exact lv_lload hx hb hd (zll_get hl hg (by intro q; cases q)) (hX _ _ _ _ _ _ h hlen hE H locs lsA hl hP hD hS)
  · exact h.elim
theorem sn_lload_n (hx : p.tables.exec = Jvm.exec) (hb : c.code = cc) {i : Nat} {k : Fin 4} (hd : decode cc pc = .ok (.lload_n k, 1)) (hk : (k : Nat) = i)  (hX : ∀ pc ls st I L R, nx pc ls st I L R → zAt p l e Rm s m args below meth c cells slots Z dC dI cA ad K n nL E A pc ls st I L R) (h : z_ll i 1 K pc nx rt cx ls st I L R) : zAt p l e Rm s m args below meth c cells slots Z dC dI cA ad K n nL E A pc ls st I L R := by
  unfold z_ll at h
  split at h
  · rename_i x hg
    intro hlen hE H locs lsA hl hP hD hS
    exact lv_lload_n hx hb hd hk (zll_get hl hg (by intro q; cases q)) (hX _ _ _ _ _ _ h hlen hE H locs lsA hl hP hD hS)
  · exact h.elim
theorem sn_aload (hx : p.tables.exec = Jvm.exec) (hb : c.code = cc) {i : Nat} (hd : decode cc pc = .ok (.aload i, 2))  (hX : ∀ pc ls st I L R, nx pc ls st I L R → zAt p l e Rm s m args below meth c cells slots Z dC dI cA ad K n nL E A pc ls st I L R) (h : z_al i 2 K pc nx rt cx ls st I L R) : zAt p l e Rm s m args below meth c cells slots Z dC dI cA ad K n nL E A pc ls st I L R := by
  unfold z_al at h
  split at h
  · rename_i x hg
    intro hlen hE H locs lsA hl hP hD hS
    exact lv_aload hx hb hd (zll_get hl hg (by intro q; cases q)) (hX _ _ _ _ _ _ h hlen hE H locs lsA hl hP hD hS)
  · exact h.elim
theorem sn_aload_n (hx : p.tables.exec = Jvm.exec) (hb : c.code = cc) {i : Nat} {k : Fin 4} (hd : decode cc pc = .ok (.aload_n k, 1)) (hk : (k : Nat) = i)  (hX : ∀ pc ls st I L R, nx pc ls st I L R → zAt p l e Rm s m args below meth c cells slots Z dC dI cA ad K n nL E A pc ls st I L R) (h : z_al i 1 K pc nx rt cx ls st I L R) : zAt p l e Rm s m args below meth c cells slots Z dC dI cA ad K n nL E A pc ls st I L R := by
  unfold z_al at h
  split at h
  · rename_i x hg
    intro hlen hE H locs lsA hl hP hD hS
    exact lv_aload_n hx hb hd hk (zll_get hl hg (by intro q; cases q)) (hX _ _ _ _ _ _ h hlen hE H locs lsA hl hP hD hS)
  · exact h.elim
theorem sn_istore (hx : p.tables.exec = Jvm.exec) (hb : c.code = cc) {i : Nat} (hd : decode cc pc = .ok (.istore i, 2))  (hX : ∀ pc ls st I L R, nx pc ls st I L R → zAt p l e Rm s m args below meth c cells slots Z dC dI cA ad K n nL E A pc ls st I L R) (h : z_is i 2 K pc nx rt cx ls st I L R) : zAt p l e Rm s m args below meth c cells slots Z dC dI cA ad K n nL E A pc ls st I L R := by
  unfold z_is at h
  split at h
  · intro hlen hE H locs lsA hl hP hD hS
    refine lv_istore hx hb hd hl (by rw [← hlen]; exact h.1) rfl (fun lsB hl2 => ?_)
    exact hX _ _ _ _ _ _ h.2 (by rw [zst_len]; exact hlen) hE H locs lsB (zst_has1 (by rw [← hlen]; exact h.1) hlen rfl (by intro x q; cases q) hl2) hP hD hS
  · exact h.elim
theorem sn_istore_n (hx : p.tables.exec = Jvm.exec) (hb : c.code = cc) {i : Nat} {k : Fin 4} (hd : decode cc pc = .ok (.istore_n k, 1)) (hk : (k : Nat) = i)  (hX : ∀ pc ls st I L R, nx pc ls st I L R → zAt p l e Rm s m args below meth c cells slots Z dC dI cA ad K n nL E A pc ls st I L R) (h : z_is i 1 K pc nx rt cx ls st I L R) : zAt p l e Rm s m args below meth c cells slots Z dC dI cA ad K n nL E A pc ls st I L R := by
  unfold z_is at h
  split at h
  · intro hlen hE H locs lsA hl hP hD hS
    refine lv_istore_n hx hb hd hk hl (by rw [← hlen]; exact h.1) rfl (fun lsB hl2 => ?_)
    exact hX _ _ _ _ _ _ h.2 (by rw [zst_len]; exact hlen) hE H locs lsB (zst_has1 (by rw [← hlen]; exact h.1) hlen rfl (by intro x q; cases q) hl2) hP hD hS
  · exact h.elim
theorem sn_lstore (hx : p.tables.exec = Jvm.exec) (hb : c.code = cc) {i : Nat} (hd : decode cc pc = .ok (.lstore i, 2))  (hX : ∀ pc ls st I L R, nx pc ls st I L R → zAt p l e Rm s m args below meth c cells slots Z dC dI cA ad K n nL E A pc ls st I L R) (h : z_ls i 2 K pc nx rt cx ls st I L R) : zAt p l e Rm s m args below meth c cells slots Z dC dI cA ad K n nL E A pc ls st I L R := by
  unfold z_ls at h
  split at h
  · intro hlen hE H locs lsA hl hP hD hS
    refine lv_lstore hx hb hd hl (by rw [← hlen]; exact h.1) rfl (fun lsB hl2 => ?_)
    exact hX _ _ _ _ _ _ h.2 (by rw [zst_len]; exact hlen) hE H locs lsB (zst_has2 (by rw [← hlen]; exact h.1) hlen hl2) hP hD hS
  · exact h.elim
theorem sn_lstore_n (hx : p.tables.exec = Jvm.exec) (hb : c.code = cc) {i : Nat} {k : Fin 4} (hd : decode cc pc = .ok (.lstore_n k, 1)) (hk : (k : Nat) = i)  (hX : ∀ pc ls st I L R, nx pc ls st I L R → zAt p l e Rm s m args below meth c cells slots Z dC dI cA ad K n nL E A pc ls st I L R) (h : z_ls i 1 K pc nx rt cx ls st I L R) : zAt p l e Rm s m args below meth c cells slots Z dC dI cA ad K n nL E A pc ls st I L R := by
  unfold z_ls at h
  split at h
  · intro hlen hE H locs lsA hl hP hD hS
    refine lv_lstore_n hx hb hd hk hl (by rw [← hlen]; exact h.1) rfl (fun lsB hl2 => ?_)
    exact hX _ _ _ _ _ _ h.2 (by rw [zst_len]; exact hlen) hE H locs lsB (zst_has2 (by rw [← hlen]; exact h.1) hlen hl2) hP hD hS
  · exact h.elim
theorem sn_astore (hx : p.tables.exec = Jvm.exec) (hb : c.code = cc) {i : Nat} (hd : decode cc pc = .ok (.astore i, 2))  (hX : ∀ pc ls st I L R, nx pc ls st I L R → zAt p l e Rm s m args below meth c cells slots Z dC dI cA ad K n nL E A pc ls st I L R) (h : z_as i 2 K pc nx rt cx ls st I L R) : zAt p l e Rm s m args below meth c cells slots Z dC dI cA ad K n nL E A pc ls st I L R := by
  unfold z_as at h
  split at h
  · intro hlen hE H locs lsA hl hP hD hS
    refine lv_astore hx hb hd hl (by rw [← hlen]; exact h.1) rfl (fun lsB hl2 => ?_)
    exact hX _ _ _ _ _ _ h.2 (by rw [zst_len]; exact hlen) hE H locs lsB (zst_has1 (by rw [← hlen]; exact h.1) hlen rfl (by intro x q; cases q) hl2) hP hD hS
  · exact h.elim
theorem sn_astore_n (hx : p.tables.exec = Jvm.exec) (hb : c.code = cc) {i : Nat} {k : Fin 4} (hd : decode cc pc = .ok (.astore_n k, 1)) (hk : (k : Nat) = i)  (hX : ∀ pc ls st I L R, nx pc ls st I L R → zAt p l e Rm s m args below meth c cells slots Z dC dI cA ad K n nL E A pc ls st I L R) (h : z_as i 1 K pc nx rt cx ls st I L R) : zAt p l e Rm s m args below meth c cells slots Z dC dI cA ad K n nL E A pc ls st I L R := by
  unfold z_as at h
  split at h
  · intro hlen hE H locs lsA hl hP hD hS
    refine lv_astore_n hx hb hd hk hl (by rw [← hlen]; exact h.1) rfl (fun lsB hl2 => ?_)
    exact hX _ _ _ _ _ _ h.2 (by rw [zst_len]; exact hlen) hE H locs lsB (zst_has1 (by rw [← hlen]; exact h.1) hlen rfl (by intro x q; cases q) hl2) hP hD hS
  · exact h.elim
theorem sn_iinc (hx : p.tables.exec = Jvm.exec) (hb : c.code = cc) {i : Nat} {d : Int32} {k : Int} (hd : decode cc pc = .ok (.iinc i k, 3)) (hk : Int32.ofInt k = d)  (hX : ∀ pc ls st I L R, nx pc ls st I L R → zAt p l e Rm s m args below meth c cells slots Z dC dI cA ad K n nL E A pc ls st I L R) (h : z_inc i d K pc nx rt cx ls st I L R) : zAt p l e Rm s m args below meth c cells slots Z dC dI cA ad K n nL E A pc ls st I L R := by
  unfold z_inc at h
  split at h
  · rename_i x hg
    obtain ⟨y, hy, h⟩ := h
    intro hlen hE H locs lsA hl hP hD hS
    obtain ⟨q, hq⟩ := List.getElem?_of_mem (zll_mem.mpr ⟨i, .int x, hg, (by intro q; cases q), rfl⟩ : (0 + i, zcv ad (.int x)) ∈ zll ad 0 ls)
    have hi : i < nL := by rw [← hlen]; exact (List.getElem?_eq_some_iff.mp hg).1
    rw [Nat.zero_add] at hq
    refine lv_iinc (v := y) hx hb hd hl hq (by rw [hk]; exact hy) hi rfl (fun lsB hl2 => ?_)
    exact hX _ _ _ _ _ _ h (by rw [zst_len]; exact hlen) hE H locs lsB (zst_has1 hi hlen rfl (by intro x q; cases q) hl2) hP hD hS
  · exact h.elim
theorem sn_iadd (hx : p.tables.exec = Jvm.exec) (hb : c.code = cc) (hd : decode cc pc = .ok (.iadd, 1))  (hX : ∀ pc ls st I L R, nx pc ls st I L R → zAt p l e Rm s m args below meth c cells slots Z dC dI cA ad K n nL E A pc ls st I L R) (h : z_iadd K pc nx rt cx ls st I L R) : zAt p l e Rm s m args below meth c cells slots Z dC dI cA ad K n nL E A pc ls st I L R := by
  unfold z_iadd at h
  split at h
  · intro hlen hE H locs lsA hl hP hD hS
    exact lv_iadd hx hb hd (hX _ _ _ _ _ _ h hlen hE H locs lsA hl hP hD hS)
  · exact h.elim
theorem sn_isub (hx : p.tables.exec = Jvm.exec) (hb : c.code = cc) (hd : decode cc pc = .ok (.isub, 1))  (hX : ∀ pc ls st I L R, nx pc ls st I L R → zAt p l e Rm s m args below meth c cells slots Z dC dI cA ad K n nL E A pc ls st I L R) (h : z_isub K pc nx rt cx ls st I L R) : zAt p l e Rm s m args below meth c cells slots Z dC dI cA ad K n nL E A pc ls st I L R := by
  unfold z_isub at h
  split at h
  · intro hlen hE H locs lsA hl hP hD hS
    exact lv_isub hx hb hd (hX _ _ _ _ _ _ h hlen hE H locs lsA hl hP hD hS)
  · exact h.elim
theorem sn_imul (hx : p.tables.exec = Jvm.exec) (hb : c.code = cc) (hd : decode cc pc = .ok (.imul, 1))  (hX : ∀ pc ls st I L R, nx pc ls st I L R → zAt p l e Rm s m args below meth c cells slots Z dC dI cA ad K n nL E A pc ls st I L R) (h : z_imul K pc nx rt cx ls st I L R) : zAt p l e Rm s m args below meth c cells slots Z dC dI cA ad K n nL E A pc ls st I L R := by
  unfold z_imul at h
  split at h
  · intro hlen hE H locs lsA hl hP hD hS
    exact lv_imul hx hb hd (hX _ _ _ _ _ _ h hlen hE H locs lsA hl hP hD hS)
  · exact h.elim
theorem sn_iand (hx : p.tables.exec = Jvm.exec) (hb : c.code = cc) (hd : decode cc pc = .ok (.iand, 1))  (hX : ∀ pc ls st I L R, nx pc ls st I L R → zAt p l e Rm s m args below meth c cells slots Z dC dI cA ad K n nL E A pc ls st I L R) (h : z_iand K pc nx rt cx ls st I L R) : zAt p l e Rm s m args below meth c cells slots Z dC dI cA ad K n nL E A pc ls st I L R := by
  unfold z_iand at h
  split at h
  · intro hlen hE H locs lsA hl hP hD hS
    exact lv_iand hx hb hd (hX _ _ _ _ _ _ h hlen hE H locs lsA hl hP hD hS)
  · exact h.elim
theorem sn_ior (hx : p.tables.exec = Jvm.exec) (hb : c.code = cc) (hd : decode cc pc = .ok (.ior, 1))  (hX : ∀ pc ls st I L R, nx pc ls st I L R → zAt p l e Rm s m args below meth c cells slots Z dC dI cA ad K n nL E A pc ls st I L R) (h : z_ior K pc nx rt cx ls st I L R) : zAt p l e Rm s m args below meth c cells slots Z dC dI cA ad K n nL E A pc ls st I L R := by
  unfold z_ior at h
  split at h
  · intro hlen hE H locs lsA hl hP hD hS
    exact lv_ior hx hb hd (hX _ _ _ _ _ _ h hlen hE H locs lsA hl hP hD hS)
  · exact h.elim
theorem sn_ixor (hx : p.tables.exec = Jvm.exec) (hb : c.code = cc) (hd : decode cc pc = .ok (.ixor, 1))  (hX : ∀ pc ls st I L R, nx pc ls st I L R → zAt p l e Rm s m args below meth c cells slots Z dC dI cA ad K n nL E A pc ls st I L R) (h : z_ixor K pc nx rt cx ls st I L R) : zAt p l e Rm s m args below meth c cells slots Z dC dI cA ad K n nL E A pc ls st I L R := by
  unfold z_ixor at h
  split at h
  · intro hlen hE H locs lsA hl hP hD hS
    exact lv_ixor hx hb hd (hX _ _ _ _ _ _ h hlen hE H locs lsA hl hP hD hS)
  · exact h.elim
theorem sn_ineg (hx : p.tables.exec = Jvm.exec) (hb : c.code = cc) (hd : decode cc pc = .ok (.ineg, 1))  (hX : ∀ pc ls st I L R, nx pc ls st I L R → zAt p l e Rm s m args below meth c cells slots Z dC dI cA ad K n nL E A pc ls st I L R) (h : z_ineg K pc nx rt cx ls st I L R) : zAt p l e Rm s m args below meth c cells slots Z dC dI cA ad K n nL E A pc ls st I L R := by
  unfold z_ineg at h
  split at h
  · intro hlen hE H locs lsA hl hP hD hS
    exact lv_ineg hx hb hd (hX _ _ _ _ _ _ h hlen hE H locs lsA hl hP hD hS)
  · exact h.elim
theorem sn_ishl (hx : p.tables.exec = Jvm.exec) (hb : c.code = cc) (hd : decode cc pc = .ok (.ishl, 1))  (hX : ∀ pc ls st I L R, nx pc ls st I L R → zAt p l e Rm s m args below meth c cells slots Z dC dI cA ad K n nL E A pc ls st I L R) (h : z_ishl K pc nx rt cx ls st I L R) : zAt p l e Rm s m args below meth c cells slots Z dC dI cA ad K n nL E A pc ls st I L R := by
  unfold z_ishl at h
  split at h
  · intro hlen hE H locs lsA hl hP hD hS
    exact lv_ishl hx hb hd (hX _ _ _ _ _ _ h hlen hE H locs lsA hl hP hD hS)
  · exact h.elim
theorem sn_ishr (hx : p.tables.exec = Jvm.exec) (hb : c.code = cc) (hd : decode cc pc = .ok (.ishr, 1))  (hX : ∀ pc ls st I L R, nx pc ls st I L R → zAt p l e Rm s m args below meth c cells slots Z dC dI cA ad K n nL E A pc ls st I L R) (h : z_ishr K pc nx rt cx ls st I L R) : zAt p l e Rm s m args below meth c cells slots Z dC dI cA ad K n nL E A pc ls st I L R := by
  unfold z_ishr at h
  split at h
  · intro hlen hE H locs lsA hl hP hD hS
    exact lv_ishr hx hb hd (hX _ _ _ _ _ _ h hlen hE H locs lsA hl hP hD hS)
  · exact h.elim
theorem sn_ladd (hx : p.tables.exec = Jvm.exec) (hb : c.code = cc) (hd : decode cc pc = .ok (.ladd, 1))  (hX : ∀ pc ls st I L R, nx pc ls st I L R → zAt p l e Rm s m args below meth c cells slots Z dC dI cA ad K n nL E A pc ls st I L R) (h : z_ladd K pc nx rt cx ls st I L R) : zAt p l e Rm s m args below meth c cells slots Z dC dI cA ad K n nL E A pc ls st I L R := by
  unfold z_ladd at h
  split at h
  · intro hlen hE H locs lsA hl hP hD hS
    exact lv_ladd hx hb hd (hX _ _ _ _ _ _ h hlen hE H locs lsA hl hP hD hS)
  · exact h.elim
theorem sn_lsub (hx : p.tables.exec = Jvm.exec) (hb : c.code = cc) (hd : decode cc pc = .ok (.lsub, 1))  (hX : ∀ pc ls st I L R, nx pc ls st I L R → zAt p l e Rm s m args below meth c cells slots Z dC dI cA ad K n nL E A pc ls st I L R) (h : z_lsub K pc nx rt cx ls st I L R) : zAt p l e Rm s m args below meth c cells slots Z dC dI cA ad K n nL E A pc ls st I L R := by
  unfold z_lsub at h
  split at h
  · intro hlen hE H locs lsA hl hP hD hS
    exact lv_lsub hx hb hd (hX _ _ _ _ _ _ h hlen hE H locs lsA hl hP hD hS)
  · exact h.elim
theorem sn_lmul (hx : p.tables.exec = Jvm.exec) (hb : c.code = cc) (hd : decode cc pc = .ok (.lmul, 1))  (hX : ∀ pc ls st I L R, nx pc ls st I L R → zAt p l e Rm s m args below meth c cells slots Z dC dI cA ad K n nL E A pc ls st I L R) (h : z_lmul K pc nx rt cx ls st I L R) : zAt p l e Rm s m args below meth c cells slots Z dC dI cA ad K n nL E A pc ls st I L R := by
  unfold z_lmul at h
  split at h
  · intro hlen hE H locs lsA hl hP hD hS
    exact lv_lmul hx hb hd (hX _ _ _ _ _ _ h hlen hE H locs lsA hl hP hD hS)
  · exact h.elim
theorem sn_land (hx : p.tables.exec = Jvm.exec) (hb : c.code = cc) (hd : decode cc pc = .ok (.land, 1))  (hX : ∀ pc ls st I L R, nx pc ls st I L R → zAt p l e Rm s m args below meth c cells slots Z dC dI cA ad K n nL E A pc ls st I L R) (h : z_land K pc nx rt cx ls st I L R) : zAt p l e Rm s m args below meth c cells slots Z dC dI cA ad K n nL E A pc ls st I L R := by
  unfold z_land at h
  split at h
  · intro hlen hE H locs lsA hl hP hD hS
    exact lv_land hx hb hd (hX _ _ _ _ _ _ h hlen hE H locs lsA hl hP hD hS)
  · exact h.elim
theorem sn_lor (hx : p.tables.exec = Jvm.exec) (hb : c.code = cc) (hd : decode cc pc = .ok (.lor, 1))  (hX : ∀ pc ls st I L R, nx pc ls st I L R → zAt p l e Rm s m args below meth c cells slots Z dC dI cA ad K n nL E A pc ls st I L R) (h : z_lor K pc nx rt cx ls st I L R) : zAt p l e Rm s m args below meth c cells slots Z dC dI cA ad K n nL E A pc ls st I L R := by
  unfold z_lor at h
  split at h
  · intro hlen hE H locs lsA hl hP hD hS
    exact lv_lor hx hb hd (hX _ _ _ _ _ _ h hlen hE H locs lsA hl hP hD hS)
  · exact h.elim
theorem sn_iushr (hx : p.tables.exec = Jvm.exec) (hb : c.code = cc) (hd : decode cc pc = .ok (.iushr, 1))  (hX : ∀ pc ls st I L R, nx pc ls st I L R → zAt p l e Rm s m args below meth c cells slots Z dC dI cA ad K n nL E A pc ls st I L R) (h : z_iushr K pc nx rt cx ls st I L R) : zAt p l e Rm s m args below meth c cells slots Z dC dI cA ad K n nL E A pc ls st I L R := by
  unfold z_iushr at h
  split at h
  · intro hlen hE H locs lsA hl hP hD hS
    exact lv_iushr hx hb hd rfl (hX _ _ _ _ _ _ h hlen hE H locs lsA hl hP hD hS)
  · exact h.elim
theorem sn_lshl (hx : p.tables.exec = Jvm.exec) (hb : c.code = cc) (hd : decode cc pc = .ok (.lshl, 1))  (hX : ∀ pc ls st I L R, nx pc ls st I L R → zAt p l e Rm s m args below meth c cells slots Z dC dI cA ad K n nL E A pc ls st I L R) (h : z_lshl K pc nx rt cx ls st I L R) : zAt p l e Rm s m args below meth c cells slots Z dC dI cA ad K n nL E A pc ls st I L R := by
  unfold z_lshl at h
  split at h
  · intro hlen hE H locs lsA hl hP hD hS
    exact lv_lshl hx hb hd rfl (hX _ _ _ _ _ _ h hlen hE H locs lsA hl hP hD hS)
  · exact h.elim
theorem sn_lshr (hx : p.tables.exec = Jvm.exec) (hb : c.code = cc) (hd : decode cc pc = .ok (.lshr, 1))  (hX : ∀ pc ls st I L R, nx pc ls st I L R → zAt p l e Rm s m args below meth c cells slots Z dC dI cA ad K n nL E A pc ls st I L R) (h : z_lshr K pc nx rt cx ls st I L R) : zAt p l e Rm s m args below meth c cells slots Z dC dI cA ad K n nL E A pc ls st I L R := by
  unfold z_lshr at h
  split at h
  · intro hlen hE H locs lsA hl hP hD hS
    exact lv_lshr hx hb hd rfl (hX _ _ _ _ _ _ h hlen hE H locs lsA hl hP hD hS)
  · exact h.elim
theorem sn_lushr (hx : p.tables.exec = Jvm.exec) (hb : c.code = cc) (hd : decode cc pc = .ok (.lushr, 1))  (hX : ∀ pc ls st I L R, nx pc ls st I L R → zAt p l e Rm s m args below meth c cells slots Z dC dI cA ad K n nL E A pc ls st I L R) (h : z_lushr K pc nx rt cx ls st I L R) : zAt p l e Rm s m args below meth c cells slots Z dC dI cA ad K n nL E A pc ls st I L R := by
  unfold z_lushr at h
  split at h
  · intro hlen hE H locs lsA hl hP hD hS
    exact lv_lushr hx hb hd rfl (hX _ _ _ _ _ _ h hlen hE H locs lsA hl hP hD hS)
  · exact h.elim
theorem sn_i2l (hx : p.tables.exec = Jvm.exec) (hb : c.code = cc) (hd : decode cc pc = .ok (.i2l, 1))  (hX : ∀ pc ls st I L R, nx pc ls st I L R → zAt p l e Rm s m args below meth c cells slots Z dC dI cA ad K n nL E A pc ls st I L R) (h : z_i2l K pc nx rt cx ls st I L R) : zAt p l e Rm s m args below meth c cells slots Z dC dI cA ad K n nL E A pc ls st I L R := by
  unfold z_i2l at h
  split at h
  · intro hlen hE H locs lsA hl hP hD hS
    exact lv_i2l hx hb hd rfl (hX _ _ _ _ _ _ h hlen hE H locs lsA hl hP hD hS)
  · exact h.elim
theorem sn_l2i (hx : p.tables.exec = Jvm.exec) (hb : c.code = cc) (hd : decode cc pc = .ok (.l2i, 1))  (hX : ∀ pc ls st I L R, nx pc ls st I L R → zAt p l e Rm s m args below meth c cells slots Z dC dI cA ad K n nL E A pc ls st I L R) (h : z_l2i K pc nx rt cx ls st I L R) : zAt p l e Rm s m args below meth c cells slots Z dC dI cA ad K n nL E A pc ls st I L R := by
  unfold z_l2i at h
  split at h
  · intro hlen hE H locs lsA hl hP hD hS
    exact lv_l2i hx hb hd rfl (hX _ _ _ _ _ _ h hlen hE H locs lsA hl hP hD hS)
  · exact h.elim
theorem sn_i2b (hx : p.tables.exec = Jvm.exec) (hb : c.code = cc) (hd : decode cc pc = .ok (.i2b, 1))  (hX : ∀ pc ls st I L R, nx pc ls st I L R → zAt p l e Rm s m args below meth c cells slots Z dC dI cA ad K n nL E A pc ls st I L R) (h : z_i2b K pc nx rt cx ls st I L R) : zAt p l e Rm s m args below meth c cells slots Z dC dI cA ad K n nL E A pc ls st I L R := by
  unfold z_i2b at h
  split at h
  · intro hlen hE H locs lsA hl hP hD hS
    exact lv_i2b hx hb hd rfl (hX _ _ _ _ _ _ h hlen hE H locs lsA hl hP hD hS)
  · exact h.elim
theorem sn_idiv (hx : p.tables.exec = Jvm.exec) (hb : c.code = cc) (hd : decode cc pc = .ok (.idiv, 1))  (hX : ∀ pc ls st I L R, nx pc ls st I L R → zAt p l e Rm s m args below meth c cells slots Z dC dI cA ad K n nL E A pc ls st I L R) (h : z_idiv K pc nx rt cx ls st I L R) : zAt p l e Rm s m args below meth c cells slots Z dC dI cA ad K n nL E A pc ls st I L R := by
  unfold z_idiv at h
  split at h
  · intro hlen hE H locs lsA hl hP hD hS
    exact lv_idiv hx hb hd h.1 (hX _ _ _ _ _ _ h.2 hlen hE H locs lsA hl hP hD hS)
  · exact h.elim
theorem sn_irem (hx : p.tables.exec = Jvm.exec) (hb : c.code = cc) (hd : decode cc pc = .ok (.irem, 1))  (hX : ∀ pc ls st I L R, nx pc ls st I L R → zAt p l e Rm s m args below meth c cells slots Z dC dI cA ad K n nL E A pc ls st I L R) (h : z_irem K pc nx rt cx ls st I L R) : zAt p l e Rm s m args below meth c cells slots Z dC dI cA ad K n nL E A pc ls st I L R := by
  unfold z_irem at h
  split at h
  · intro hlen hE H locs lsA hl hP hD hS
    exact lv_irem hx hb hd h.1 (hX _ _ _ _ _ _ h.2 hlen hE H locs lsA hl hP hD hS)
  · exact h.elim
theorem sn_ldiv (hx : p.tables.exec = Jvm.exec) (hb : c.code = cc) (hd : decode cc pc = .ok (.ldiv, 1))  (hX : ∀ pc ls st I L R, nx pc ls st I L R → zAt p l e Rm s m args below meth c cells slots Z dC dI cA ad K n nL E A pc ls st I L R) (h : z_ldiv K pc nx rt cx ls st I L R) : zAt p l e Rm s m args below meth c cells slots Z dC dI cA ad K n nL E A pc ls st I L R := by
  unfold z_ldiv at h
  split at h
  · intro hlen hE H locs lsA hl hP hD hS
    exact lv_ldiv hx hb hd h.1 (hX _ _ _ _ _ _ h.2 hlen hE H locs lsA hl hP hD hS)
  · exact h.elim
theorem sn_lrem (hx : p.tables.exec = Jvm.exec) (hb : c.code = cc) (hd : decode cc pc = .ok (.lrem, 1))  (hX : ∀ pc ls st I L R, nx pc ls st I L R → zAt p l e Rm s m args below meth c cells slots Z dC dI cA ad K n nL E A pc ls st I L R) (h : z_lrem K pc nx rt cx ls st I L R) : zAt p l e Rm s m args below meth c cells slots Z dC dI cA ad K n nL E A pc ls st I L R := by
  unfold z_lrem at h
  split at h
  · intro hlen hE H locs lsA hl hP hD hS
    exact lv_lrem hx hb hd h.1 (hX _ _ _ _ _ _ h.2 hlen hE H locs lsA hl hP hD hS)
  · exact h.elim
theorem sn_lcmp (hx : p.tables.exec = Jvm.exec) (hb : c.code = cc) (hd : decode cc pc = .ok (.lcmp, 1))  (hX : ∀ pc ls st I L R, nx pc ls st I L R → zAt p l e Rm s m args below meth c cells slots Z dC dI cA ad K n nL E A pc ls st I L R) (h : z_lcmp K pc nx rt cx ls st I L R) : zAt p l e Rm s m args below meth c cells slots Z dC dI cA ad K n nL E A pc ls st I L R := by
  unfold z_lcmp at h
  split at h
  · intro hlen hE H locs lsA hl hP hD hS
    exact W.lcmp hx hb hd (hX _ _ _ _ _ _ h hlen hE H locs lsA hl hP hD hS)
  · exact h.elim
theorem zcv_cat (ad : Nat → Nat) (v : Value) : (zcv ad v).category = v.category := by cases v <;> rfl
theorem sn_dup (hx : p.tables.exec = Jvm.exec) (hb : c.code = cc) (hd : decode cc pc = .ok (.dup, 1))  (hX : ∀ pc ls st I L R, nx pc ls st I L R → zAt p l e Rm s m args below meth c cells slots Z dC dI cA ad K n nL E A pc ls st I L R) (h : z_dup K pc nx rt cx ls st I L R) : zAt p l e Rm s m args below meth c cells slots Z dC dI cA ad K n nL E A pc ls st I L R := by
  unfold z_dup at h
  split at h
  · intro hlen hE H locs lsA hl hP hD hS
    exact lv_dup hx hb hd (by rw [zcv_cat]; exact h.1) (hX _ _ _ _ _ _ h.2 hlen hE H locs lsA hl hP hD hS)
  · exact h.elim
theorem sn_pop (hx : p.tables.exec = Jvm.exec) (hb : c.code = cc) (hd : decode cc pc = .ok (.pop, 1))  (hX : ∀ pc ls st I L R, nx pc ls st I L R → zAt p l e Rm s m args below meth c cells slots Z dC dI cA ad K n nL E A pc ls st I L R) (h : z_pop K pc nx rt cx ls st I L R) : zAt p l e Rm s m args below meth c cells slots Z dC dI cA ad K n nL E A pc ls st I L R := by
  unfold z_pop at h
  split at h
  · intro hlen hE H locs lsA hl hP hD hS
    exact lv_pop hx hb hd (by rw [zcv_cat]; exact h.1) (hX _ _ _ _ _ _ h.2 hlen hE H locs lsA hl hP hD hS)
  · exact h.elim
theorem sn_dup2 (hx : p.tables.exec = Jvm.exec) (hb : c.code = cc) (hd : decode cc pc = .ok (.dup2, 1))  (hX : ∀ pc ls st I L R, nx pc ls st I L R → zAt p l e Rm s m args below meth c cells slots Z dC dI cA ad K n nL E A pc ls st I L R) (h : z_dup2 K pc nx rt cx ls st I L R) : zAt p l e Rm s m args below meth c cells slots Z dC dI cA ad K n nL E A pc ls st I L R := by
  unfold z_dup2 at h
  split at h
  · intro hlen hE H locs lsA hl hP hD hS
    exact lv_dup2_11 hx hb hd (by rw [zcv_cat]; exact h.1) (by rw [zcv_cat]; exact h.2.1) (hX _ _ _ _ _ _ h.2.2 hlen hE H locs lsA hl hP hD hS)
  · exact h.elim
theorem sn_goto (hx : p.tables.exec = Jvm.exec) (hb : c.code = cc) {t : Nat} {off : Int} (hd : decode cc pc = .ok (.goto off, 3)) (ht : (pc : Int) + off = (t : Int))  (hX : ∀ pc ls st I L R, nx pc ls st I L R → zAt p l e Rm s m args below meth c cells slots Z dC dI cA ad K n nL E A pc ls st I L R) (h : z_goto t K pc nx rt cx ls st I L R) : zAt p l e Rm s m args below meth c cells slots Z dC dI cA ad K n nL E A pc ls st I L R := by
  intro hlen hE H locs lsA hl hP hD hS
  exact lv_goto hx hb hd ht (hX _ _ _ _ _ _ h hlen hE H locs lsA hl hP hD hS)
theorem sn_ifeq (hx : p.tables.exec = Jvm.exec) (hb : c.code = cc) {t : Nat} {off : Int} (hd : decode cc pc = .ok (.ifCond .eq off, 3)) (ht : (pc : Int) + off = (t : Int))  (hX : ∀ pc ls st I L R, nx pc ls st I L R → zAt p l e Rm s m args below meth c cells slots Z dC dI cA ad K n nL E A pc ls st I L R) (h : z_ifeq t K pc nx rt cx ls st I L R) : zAt p l e Rm s m args below meth c cells slots Z dC dI cA ad K n nL E A pc ls st I L R := by
  unfold z_ifeq at h
  split at h
  · intro hlen hE H locs lsA hl hP hD hS
    exact lv_if_eq hx hb hd ht (fun q => hX _ _ _ _ _ _ (h.1 q) hlen hE H locs lsA hl hP hD hS) (fun q => hX _ _ _ _ _ _ (h.2 q) hlen hE H locs lsA hl hP hD hS)
  · exact h.elim
theorem sn_ieq (hx : p.tables.exec = Jvm.exec) (hb : c.code = cc) {t : Nat} {off : Int} (hd : decode cc pc = .ok (.if_icmp .eq off, 3)) (ht : (pc : Int) + off = (t : Int))  (hX : ∀ pc ls st I L R, nx pc ls st I L R → zAt p l e Rm s m args below meth c cells slots Z dC dI cA ad K n nL E A pc ls st I L R) (h : z_ieq t K pc nx rt cx ls st I L R) : zAt p l e Rm s m args below meth c cells slots Z dC dI cA ad K n nL E A pc ls st I L R := by
  unfold z_ieq at h
  split at h
  · intro hlen hE H locs lsA hl hP hD hS
    exact lv_icmp_eq hx hb hd ht (fun q => hX _ _ _ _ _ _ (h.1 q) hlen hE H locs lsA hl hP hD hS) (fun q => hX _ _ _ _ _ _ (h.2 q) hlen hE H locs lsA hl hP hD hS)
  · exact h.elim
theorem sn_ifne (hx : p.tables.exec = Jvm.exec) (hb : c.code = cc) {t : Nat} {off : Int} (hd : decode cc pc = .ok (.ifCond .ne off, 3)) (ht : (pc : Int) + off = (t : Int))  (hX : ∀ pc ls st I L R, nx pc ls st I L R → zAt p l e Rm s m args below meth c cells slots Z dC dI cA ad K n nL E A pc ls st I L R) (h : z_ifne t K pc nx rt cx ls st I L R) : zAt p l e Rm s m args below meth c cells slots Z dC dI cA ad K n nL E A pc ls st I L R := by
  unfold z_ifne at h
  split at h
  · intro hlen hE H locs lsA hl hP hD hS
    exact lv_if_ne hx hb hd ht (fun q => hX _ _ _ _ _ _ (h.1 q) hlen hE H locs lsA hl hP hD hS) (fun q => hX _ _ _ _ _ _ (h.2 q) hlen hE H locs lsA hl hP hD hS)
  · exact h.elim
theorem sn_ine (hx : p.tables.exec = Jvm.exec) (hb : c.code = cc) {t : Nat} {off : Int} (hd : decode cc pc = .ok (.if_icmp .ne off, 3)) (ht : (pc : Int) + off = (t : Int))  (hX : ∀ pc ls st I L R, nx pc ls st I L R → zAt p l e Rm s m args below meth c cells slots Z dC dI cA ad K n nL E A pc ls st I L R) (h : z_ine t K pc nx rt cx ls st I L R) : zAt p l e Rm s m args below meth c cells slots Z dC dI cA ad K n nL E A pc ls st I L R := by
  unfold z_ine at h
  split at h
  · intro hlen hE H locs lsA hl hP hD hS
    exact lv_icmp_ne hx hb hd ht (fun q => hX _ _ _ _ _ _ (h.1 q) hlen hE H locs lsA hl hP hD hS) (fun q => hX _ _ _ _ _ _ (h.2 q) hlen hE H locs lsA hl hP hD hS)
  · exact h.elim
theorem sn_iflt (hx : p.tables.exec = Jvm.exec) (hb : c.code = cc) {t : Nat} {off : Int} (hd : decode cc pc = .ok (.ifCond .lt off, 3)) (ht : (pc : Int) + off = (t : Int))  (hX : ∀ pc ls st I L R, nx pc ls st I L R → zAt p l e Rm s m args below meth c cells slots Z dC dI cA ad K n nL E A pc ls st I L R) (h : z_iflt t K pc nx rt cx ls st I L R) : zAt p l e Rm s m args below meth c cells slots Z dC dI cA ad K n nL E A pc ls st I L R := by
  unfold z_iflt at h
  split at h
  · intro hlen hE H locs lsA hl hP hD hS
    exact lv_if_lt hx hb hd ht (fun q => hX _ _ _ _ _ _ (h.1 q) hlen hE H locs lsA hl hP hD hS) (fun q => hX _ _ _ _ _ _ (h.2 q) hlen hE H locs lsA hl hP hD hS)
  · exact h.elim
theorem sn_ilt (hx : p.tables.exec = Jvm.exec) (hb : c.code = cc) {t : Nat} {off : Int} (hd : decode cc pc = .ok (.if_icmp .lt off, 3)) (ht : (pc : Int) + off = (t : Int))  (hX : ∀ pc ls st I L R, nx pc ls st I L R → zAt p l e Rm s m args below meth c cells slots Z dC dI cA ad K n nL E A pc ls st I L R) (h : z_ilt t K pc nx rt cx ls st I L R) : zAt p l e Rm s m args below meth c cells slots Z dC dI cA ad K n nL E A pc ls st I L R := by
  unfold z_ilt at h
  split at h
  · intro hlen hE H locs lsA hl hP hD hS
    exact lv_icmp_lt hx hb hd ht (fun q => hX _ _ _ _ _ _ (h.1 q) hlen hE H locs lsA hl hP hD hS) (fun q => hX _ _ _ _ _ _ (h.2 q) hlen hE H locs lsA hl hP hD hS)
  · exact h.elim
theorem sn_ifge (hx : p.tables.exec = Jvm.exec) (hb : c.code = cc) {t : Nat} {off : Int} (hd : decode cc pc = .ok (.ifCond .ge off, 3)) (ht : (pc : Int) + off = (t : Int))  (hX : ∀ pc ls st I L R, nx pc ls st I L R → zAt p l e Rm s m args below meth c cells slots Z dC dI cA ad K n nL E A pc ls st I L R) (h : z_ifge t K pc nx rt cx ls st I L R) : zAt p l e Rm s m args below meth c cells slots Z dC dI cA ad K n nL E A pc ls st I L R := by
  unfold z_ifge at h
  split at h
  · intro hlen hE H locs lsA hl hP hD hS
    exact lv_if_ge hx hb hd ht (fun q => hX _ _ _ _ _ _ (h.1 q) hlen hE H locs lsA hl hP hD hS) (fun q => hX _ _ _ _ _ _ (h.2 q) hlen hE H locs lsA hl hP hD hS)
  · exact h.elim
theorem sn_ige (hx : p.tables.exec = Jvm.exec) (hb : c.code = cc) {t : Nat} {off : Int} (hd : decode cc pc = .ok (.if_icmp .ge off, 3)) (ht : (pc : Int) + off = (t : Int))  (hX : ∀ pc ls st I L R, nx pc ls st I L R → zAt p l e Rm s m args below meth c cells slots Z dC dI cA ad K n nL E A pc ls st I L R) (h : z_ige t K pc nx rt cx ls st I L R) : zAt p l e Rm s m args below meth c cells slots Z dC dI cA ad K n nL E A pc ls st I L R := by
  unfold z_ige at h
  split at h
  · intro hlen hE H locs lsA hl hP hD hS
    exact lv_icmp_ge hx hb hd ht (fun q => hX _ _ _ _ _ _ (h.1 q) hlen hE H locs lsA hl hP hD hS) (fun q => hX _ _ _ _ _ _ (h.2 q) hlen hE H locs lsA hl hP hD hS)
  · exact h.elim
theorem sn_ifgt (hx : p.tables.exec = Jvm.exec) (hb : c.code = cc) {t : Nat} {off : Int} (hd : decode cc pc = .ok (.ifCond .gt off, 3)) (ht : (pc : Int) + off = (t : Int))  (hX : ∀ pc ls st I L R, nx pc ls st I L R → zAt p l e Rm s m args below meth c cells slots Z dC dI cA ad K n nL E A pc ls st I L R) (h : z_ifgt t K pc nx rt cx ls st I L R) : zAt p l e Rm s m args below meth c cells slots Z dC dI cA ad K n nL E A pc ls st I L R := by
  unfold z_ifgt at h
  split at h
  · intro hlen hE H locs lsA hl hP hD hS
    exact lv_if_gt hx hb hd ht (fun q => hX _ _ _ _ _ _ (h.1 q) hlen hE H locs lsA hl hP hD hS) (fun q => hX _ _ _ _ _ _ (h.2 q) hlen hE H locs lsA hl hP hD hS)
  · exact h.elim
theorem sn_igt (hx : p.tables.exec = Jvm.exec) (hb : c.code = cc) {t : Nat} {off : Int} (hd : decode cc pc = .ok (.if_icmp .gt off, 3)) (ht : (pc : Int) + off = (t : Int))  (hX : ∀ pc ls st I L R, nx pc ls st I L R → zAt p l e Rm s m args below meth c cells slots Z dC dI cA ad K n nL E A pc ls st I L R) (h : z_igt t K pc nx rt cx ls st I L R) : zAt p l e Rm s m args below meth c cells slots Z dC dI cA ad K n nL E A pc ls st I L R := by
  unfold z_igt at h
  split at h
  · intro hlen hE H locs lsA hl hP hD hS
    exact lv_icmp_gt hx hb hd ht (fun q => hX _ _ _ _ _ _ (h.1 q) hlen hE H locs lsA hl hP hD hS) (fun q => hX _ _ _ _ _ _ (h.2 q) hlen hE H locs lsA hl hP hD hS)
  · exact h.elim
theorem sn_ifle (hx : p.tables.exec = Jvm.exec) (hb : c.code = cc) {t : Nat} {off : Int} (hd : decode cc pc = .ok (.ifCond .le off, 3)) (ht : (pc : Int) + off = (t : Int))  (hX : ∀ pc ls st I L R, nx pc ls st I L R → zAt p l e Rm s m args below meth c cells slots Z dC dI cA ad K n nL E A pc ls st I L R) (h : z_ifle t K pc nx rt cx ls st I L R) : zAt p l e Rm s m args below meth c cells slots Z dC dI cA ad K n nL E A pc ls st I L R := by
  unfold z_ifle at h
  split at h
  · intro hlen hE H locs lsA hl hP hD hS
    exact lv_if_le hx hb hd ht (fun q => hX _ _ _ _ _ _ (h.1 q) hlen hE H locs lsA hl hP hD hS) (fun q => hX _ _ _ _ _ _ (h.2 q) hlen hE H locs lsA hl hP hD hS)
  · exact h.elim
theorem sn_ile (hx : p.tables.exec = Jvm.exec) (hb : c.code = cc) {t : Nat} {off : Int} (hd : decode cc pc = .ok (.if_icmp .le off, 3)) (ht : (pc : Int) + off = (t : Int))  (hX : ∀ pc ls st I L R, nx pc ls st I L R → zAt p l e Rm s m args below meth c cells slots Z dC dI cA ad K n nL E A pc ls st I L R) (h : z_ile t K pc nx rt cx ls st I L R) : zAt p l e Rm s m args below meth c cells slots Z dC dI cA ad K n nL E A pc ls st I L R := by
  unfold z_ile at h
  split at h
  · intro hlen hE H locs lsA hl hP hD hS
    exact lv_icmp_le hx hb hd ht (fun q => hX _ _ _ _ _ _ (h.1 q) hlen hE H locs lsA hl hP hD hS) (fun q => hX _ _ _ _ _ _ (h.2 q) hlen hE H locs lsA hl hP hD hS)
  · exact h.elim
end ZS
