/-! ===== the world of names, and what stands at a place of a method ===== -/
def zcv (ad : Nat → Nat) : Value → Value
  | .ref r => .ref (ad r)
  | v => v
def zre (ad : Nat → Nat) : Nat → Option Nat
  | 0 => none
  | r + 1 => some (ad r)
def zfv (ad : Nat → Nat) (ty : Nat) (I : ZMi) (L : ZMl) (R : ZMr) (a k : Nat) : Value := match ty with
  | 0 => .int (I a k)
  | 1 => .long (L a k)
  | _ => va_rf (zre ad (R a k))
def zfs (ad : Nat → Nat) (ci : Nat) (I : ZMi) (L : ZMl) (R : ZMr) (a : Nat) : List Value := (List.range (zN ci)).map (fun k => zfv ad (zty ci k) I L R a k)
def zcel (cA : Nat → ClassId) (ad : Nat → Nat) (K : ZKh) (I : ZMi) (L : ZMl) (R : ZMr) (a : Nat) : va_E :=
  if (K a).1 < 13 then .inr ((K a).1, zfs ad (K a).1 I L R a)
  else if (K a).1 = 21 then .inl (cA 21, (K a).2, .inr (.inl (L a)))
  else if (K a).1 < 24 then .inl (cA (K a).1, (K a).2, .inl (I a))
  else .inl (cA (K a).1, (K a).2, .inr (.inr (.inr (.inr (fun j => zre ad (R a j))))))
def zwl (cA : Nat → ClassId) (ad : Nat → Nat) (K : ZKh) (n : Nat) (I : ZMi) (L : ZMl) (R : ZMr) : va_W := (List.range n).map (fun i => (ad (i + 2), zcel cA ad K I L R (i + 2)))
theorem zwl_at {cA : Nat → ClassId} {ad : Nat → Nat} {K : ZKh} {n : Nat} {I : ZMi} {L : ZMl} {R : ZMr} {a : Nat} (h : 2 ≤ a ∧ a < n + 2) : (zwl cA ad K n I L R)[a - 2]? = some (ad a, zcel cA ad K I L R a) := by
  have h1 : a - 2 < n := by omega
  have h2 : a - 2 + 2 = a := by omega
  simp [zwl, List.getElem?_map, List.getElem?_range h1, h2]
theorem zwl_set {cA : Nat → ClassId} {ad : Nat → Nat} {K : ZKh} {n : Nat} {I I' : ZMi} {L L' : ZMl} {R R' : ZMr} {a : Nat} {x : va_E} (h : 2 ≤ a ∧ a < n + 2) (hx : x = zcel cA ad K I' L' R' a) (ho : ∀ b, b ≠ a → zcel cA ad K I' L' R' b = zcel cA ad K I L R b) : (zwl cA ad K n I L R).set (a - 2) (ad a, x) = zwl cA ad K n I' L' R' := by
  apply List.ext_getElem?
  intro j
  by_cases hj : j = a - 2
  · subst hj
    rw [List.getElem?_set_self (by simp [zwl]; omega), zwl_at h, hx]
  · rw [List.getElem?_set_ne (Ne.symm hj)]
    simp only [zwl, List.getElem?_map]
    by_cases hl : j < n
    · rw [List.getElem?_range hl]
      simp only [Option.map_some]
      rw [ho (j + 2) (by omega)]
    · rw [List.getElem?_eq_none (by simp; omega)]
      rfl
theorem zfs_at {ad : Nat → Nat} {ci : Nat} {I : ZMi} {L : ZMl} {R : ZMr} {a k : Nat} (h : k < zN ci) : (zfs ad ci I L R a)[k]? = some (zfv ad (zty ci k) I L R a k) := by
  simp [zfs, List.getElem?_map, List.getElem?_range h]
theorem zfs_len {ad : Nat → Nat} {ci : Nat} {I : ZMi} {L : ZMl} {R : ZMr} {a : Nat} : (zfs ad ci I L R a).length = zN ci := by simp [zfs]
theorem zfs_set {ad : Nat → Nat} {ci : Nat} {I I' : ZMi} {L L' : ZMl} {R R' : ZMr} {a k : Nat} {v : Value} (h : k < zN ci) (hv : v = zfv ad (zty ci k) I' L' R' a k) (ho : ∀ j, j ≠ k → zfv ad (zty ci j) I' L' R' a j = zfv ad (zty ci j) I L R a j) : (zfs ad ci I L R a).set k v = zfs ad ci I' L' R' a := by
  apply List.ext_getElem?
  intro j
  by_cases hj : j = k
  · subst hj
    rw [List.getElem?_set_self (by rw [zfs_len]; exact h), zfs_at h, hv]
  · rw [List.getElem?_set_ne (Ne.symm hj)]
    simp only [zfs, List.getElem?_map]
    by_cases hl : j < zN ci
    · rw [List.getElem?_range hl]
      simp only [Option.map_some]
      rw [ho j hj]
    · rw [List.getElem?_eq_none (by simp; omega)]
      rfl
def zll (ad : Nat → Nat) : Nat → List Value → List (Nat × Value)
  | _, [] => []
  | k, .null :: r => zll ad (k + 1) r
  | k, v :: r => (k, zcv ad v) :: zll ad (k + 1) r
theorem zll_cons {ad : Nat → Nat} {k : Nat} {v : Value} {r : List Value} (h : v ≠ .null) : zll ad k (v :: r) = (k, zcv ad v) :: zll ad (k + 1) r := by
  cases v <;> first | rfl | exact absurd rfl h
theorem zll_mem {ad : Nat → Nat} {q : Nat × Value} : ∀ {ls : List Value} {k : Nat}, q ∈ zll ad k ls ↔ ∃ (i : Nat) (v : Value), ls[i]? = some v ∧ v ≠ .null ∧ q = (k + i, zcv ad v)
  | [], k => by simp [zll]
  | w :: r, k => by
    have ih := zll_mem (q := q) (ls := r) (k := k + 1) (ad := ad)
    by_cases hw : w = .null
    · subst hw
      show q ∈ zll ad (k + 1) r ↔ _
      rw [ih]
      constructor
      · rintro ⟨i, v, h1, h2, h3⟩
        exact ⟨i + 1, v, by simpa using h1, h2, by rw [h3]; congr 1; omega⟩
      · rintro ⟨i, v, h1, h2, h3⟩
        cases i with
        | zero => simp at h1; exact absurd h1.symm h2
        | succ i => exact ⟨i, v, by simpa using h1, h2, by rw [h3]; congr 1; omega⟩
    · rw [zll_cons hw, List.mem_cons, ih]
      constructor
      · rintro (h | ⟨i, v, h1, h2, h3⟩)
        · exact ⟨0, w, rfl, hw, by simpa using h⟩
        · exact ⟨i + 1, v, by simpa using h1, h2, by rw [h3]; congr 1; omega⟩
      · rintro ⟨i, v, h1, h2, h3⟩
        cases i with
        | zero => simp at h1; subst h1; exact Or.inl (by simpa using h3)
        | succ i => exact Or.inr ⟨i, v, by simpa using h1, h2, by rw [h3]; congr 1; omega⟩
theorem zkl_len (ls : List Value) (i : Nat) : (zkl ls i).length = ls.length := by
  unfold zkl
  split
  · rfl
  · split <;> simp
theorem zst_len (ls : List Value) (i : Nat) (v : Value) : (zst ls i v).length = ls.length := by
  unfold zst
  split <;> simp [zkl_len]
theorem zkl_at {ls : List Value} {i j : Nat} {v : Value} (h : (zkl ls i)[j]? = some v) (hv : v ≠ .null) : ls[j]? = some v ∧ ¬ (j + 1 = i ∧ v.category = 2) := by
  unfold zkl at h
  split at h
  · exact ⟨h, fun q => by omega⟩
  · rename_i i
    have key : ∀ (w : Value), ls[i]? = some w → (ls.set i .null)[j]? = some v → ls[j]? = some v ∧ ¬ (j + 1 = i + 1 ∧ v.category = 2) := by
      intro w hx h
      by_cases hj : j = i
      · subst hj
        rw [List.getElem?_set_self (List.getElem?_eq_some_iff.mp hx).1] at h
        exact absurd (Option.some.inj h).symm hv
      · rw [List.getElem?_set_ne (Ne.symm hj)] at h
        exact ⟨h, fun q => by omega⟩
    split at h
    · rename_i x hx
      exact key _ hx h
    · rename_i x hx
      exact key _ hx h
    · rename_i hx hx2
      refine ⟨h, fun q => ?_⟩
      obtain ⟨q1, q2⟩ := q
      have e : j = i := by omega
      subst e
      cases v with
      | long x => exact hx x h
      | double x => exact hx2 x h
      | _ => simp [Value.category] at q2
theorem zst_has1 {ad : Nat → Nat} {lsA : Array Slot} {nL i : Nat} {ls : List Value} {v : Value} (hi : i < nL) (hlen : ls.length = nL) (hc : v.category = 1) (hnl : ∀ x, v ≠ .long x)
    (h : lv_has lsA nL ((i, zcv ad v) :: (zll ad 0 ls).filter (fun q => !(q.1 == i) && !(q.1 + 1 == i && q.2.category == 2)))) : lv_has lsA nL (zll ad 0 (zst ls i v)) := by
  refine ⟨h.1, h.2.1, fun q hq => h.2.2 q ?_⟩
  obtain ⟨j, w, h1, h2, h3⟩ := zll_mem.mp hq
  have e : zst ls i v = (zkl ls i).set i v := by
    unfold zst
    split
    · rename_i x; exact absurd rfl (hnl x)
    · rfl
  rw [e] at h1
  by_cases hj : j = i
  · subst hj
    rw [List.getElem?_set_self (by rw [zkl_len]; omega)] at h1
    cases h1
    rw [h3]
    simp
  · rw [List.getElem?_set_ne (Ne.symm hj)] at h1
    obtain ⟨h4, h5⟩ := zkl_at h1 h2
    refine List.mem_cons_of_mem _ (List.mem_filter.mpr ⟨zll_mem.mpr ⟨j, w, h4, h2, h3⟩, ?_⟩)
    rw [h3]
    have hj0 : ¬ (0 + j == i) = true := by simpa using hj
    simp only [Bool.and_eq_true, Bool.not_eq_true', Bool.not_eq_true] at *
    refine ⟨by simpa using hj, ?_⟩
    by_cases hji : j + 1 = i
    · have h6 : ¬ w.category = 2 := fun q => h5 ⟨hji, q⟩
      have h7 : (zcv ad w).category = w.category := by cases w <;> rfl
      simp [h7, h6]
    · simp [hji]

