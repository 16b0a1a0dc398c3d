/-! ===== the model reads a set ===== -/
def zE (I : ZMi) (u : ZU) : Prop := zD I 1 u.1 u.2.1 u.2.2.1 u.2.2.2.1 ∧ I 133 1 = nI u.2.2.2.2.1 ∧ I 135 1 = nI u.2.2.2.2.2 ∧ ∀ s t, u.2.1 ≤ s → s < 6 → t < 3 → I 136 (18 + 3 * s + t) = 0
def zbk (a : Nat) : Nat := if a = 121 ∨ a = 124 ∨ a = 133 ∨ a = 135 ∨ a = 137 then 1 else if a = 122 ∨ a = 123 ∨ a = 138 ∨ a = 139 ∨ a = 140 then 6 else if a = 134 then 24 else if a = 136 then 18 else if a = 141 then 3 else if a = 142 then 5 else 8
/-- all but the told book, the place and the numbers stays -/
def zfV (I I' : ZMi) : Prop := ∀ a k, ¬ (a = 119 ∧ k = 30) → a ≠ 148 → ¬ (121 ≤ a ∧ a ≤ 142 ∧ zbk a ≤ k) → I' a k = I a k
theorem zfV_r (I : ZMi) : zfV I I := fun _ _ _ _ _ => rfl
theorem zfV_t {I I' I2 : ZMi} (h : zfV I I') (h2 : zfV I' I2) : zfV I I2 := fun a k x y z => (h2 a k x y z).trans (h a k x y z)
theorem zfV_Z {I I' : ZMi} (h : zfZ I I') : zfV I I' := fun a k x y _ => h a k x y
theorem zfV_u {I I' : ZMi} (h : zfV I I') {b j : Nat} {x : Int32} (h1 : 121 ≤ b) (h2 : b ≤ 142) (h3 : zbk b ≤ j) : zfV I (zup I' b j x) := fun a k q1 q2 q3 => by
  rw [zup_n _ _ _ _ (fun z => q3 (by rw [z.1, z.2]; exact ⟨h1, h2, h3⟩))]
  exact h a k q1 q2 q3
theorem zTm_fV {I I' : ZMi} {len : Nat} {T : Nat → Nat} (h : zTm I len T) (hf : zfV I I') : zTm I' len T := zTm_to h (hf 119 0 (by decide) (by decide) (by omega)) (fun k => hf 120 k (by omega) (by decide) (by omega))
theorem zE_to {I I' : ZMi} {u : ZU} (h : zE I u) (he : ∀ a, 121 ≤ a → a < 143 → ∀ k, I' a k = I a k) : zE I' u := ⟨zD_to h.1 he, (he 133 (by decide) (by decide) 1).trans h.2.1, (he 135 (by decide) (by decide) 1).trans h.2.2.1, fun s t h1 h2 h3 => (he 136 (by decide) (by decide) _).trans (h.2.2.2 s t h1 h2 h3)⟩
theorem zE_Z {I I' : ZMi} {u : ZU} (h : zE I u) (hf : zfZ I I') : zE I' u := zE_to h (fun a h1 h2 k => hf a k (by omega) (by omega))
theorem zisM0 {x : Int32} {n : Nat} (hn : n < 2 ^ 30) : (if (0 : Int64) ≤ x.toInt64 ∧ x.toInt64 ≤ (nI n - 1).toInt64 then (1 : Int32) else 0) = if zr x n then 1 else 0 := by
  refine zif_c ?_
  have e : (nI n - 1).toInt = (n : Int) - 1 := by
    have := pk_sub_toInt (a := n) (b := 1) hn (by decide)
    exact this
  rw [z_le64, z_le64, z_to64, z_to64, e]
  show (0 ≤ x.toInt ∧ x.toInt ≤ (n : Int) - 1) ↔ (0 ≤ x.toInt ∧ x.toInt < (n : Int))
  omega
def zi2 (t : Nat → Nat) (many p : Nat) (u : ZU) (c : Nat) : Option (ZU × Nat) := match zns t many p many with
  | none => none
  | some q => match ztk u c q.1 with
    | none => none
    | some u' => some (u', q.2)
theorem zi2_n1 {t : Nat → Nat} {many p : Nat} {u : ZU} {c : Nat} (h : zns t many p many = none) : zi2 t many p u c = none := by rw [zi2, h]
theorem zi2_n2 {t : Nat → Nat} {many p : Nat} {u : ZU} {c : Nat} {q : (Nat → Int32) × Nat} (h : zns t many p many = some q) (h2 : ztk u c q.1 = none) : zi2 t many p u c = none := by rw [zi2, h]; show (match ztk u c q.1 with | none => none | some u' => some (u', q.2)) = none; rw [h2]
theorem zi2_s {t : Nat → Nat} {many p : Nat} {u u' : ZU} {c : Nat} {q : (Nat → Int32) × Nat} (h : zns t many p many = some q) (h2 : ztk u c q.1 = some u') : zi2 t many p u c = some (u', q.2) := by rw [zi2, h]; show (match ztk u c q.1 with | none => none | some u' => some (u', q.2)) = _; rw [h2]
theorem zit_i2 (t : Nat → Nat) (p : Nat) (u : ZU) : zit t p u = if zmy (t p) = 0 then none else zi2 t (zmy (t p)) (p + 1) u (t p) := rfl
theorem zE_l {I : ZMi} {S : ZS} {nS nP nW nL nM : Nat} (hE : zE I (S, nS, nP, nW, nL, nM)) (hs6 : nS ≤ 6) (hp8 : nP ≤ 8) (hw6 : nW ≤ 6) {p0 t0 : Nat} (h0 : p0 < nP) (h00 : t0 < 3) {x : Int32} : zE (zup I 134 (24 + 3 * p0 + t0) x) (zsu S 11 p0 t0 x, nS, nP, nW, nL, nM) := by
  obtain ⟨hD, h133, h135, hz⟩ := hE
  simp only at hD h133 h135 hz
  refine ⟨⟨?_, ?_, ?_, fun s hs => ⟨?_, ?_, fun t ht => ?_⟩, fun p hp => ⟨fun j h1 h2 => ?_, fun t ht => ?_⟩, fun i hi j hj => ?_, fun t ht => ?_, fun k hk => ?_⟩, ?_, ?_, fun s t q1 q2 q3 => ?_⟩ <;> simp only at *
  · first | exact hD.1 | (simp only [zup, zsu, true_and, and_true]; repeat (first | rfl | (exfalso; omega) | exact hD.1 | split))
  · first | exact hD.2.1 | (simp only [zup, zsu, true_and, and_true]; repeat (first | rfl | (exfalso; omega) | exact hD.2.1 | split))
  · first | exact hD.2.2.1 | (simp only [zup, zsu, true_and, and_true]; repeat (first | rfl | (exfalso; omega) | exact hD.2.2.1 | split))
  · first | exact (hD.2.2.2.1 s (by omega)).1 | (simp only [zup, zsu, true_and, and_true]; repeat (first | rfl | (exfalso; omega) | exact (hD.2.2.2.1 s (by omega)).1 | split))
  · first | exact (hD.2.2.2.1 s (by omega)).2.1 | (simp only [zup, zsu, true_and, and_true]; repeat (first | rfl | (exfalso; omega) | exact (hD.2.2.2.1 s (by omega)).2.1 | split))
  · first | exact (hD.2.2.2.1 s (by omega)).2.2 t (by omega) | (simp only [zup, zsu, true_and, and_true]; repeat (first | rfl | (exfalso; omega) | exact (hD.2.2.2.1 s (by omega)).2.2 t (by omega) | split))
  · first | exact (hD.2.2.2.2.1 p (by omega)).1 j h1 h2 | (simp only [zup, zsu, true_and, and_true]; repeat (first | rfl | (exfalso; omega) | exact (hD.2.2.2.2.1 p (by omega)).1 j h1 h2 | split))
  · first | exact (hD.2.2.2.2.1 p (by omega)).2 t (by omega) | (simp only [zup, zsu, true_and, and_true]; repeat (first | rfl | (exfalso; omega) | exact (hD.2.2.2.2.1 p (by omega)).2 t (by omega) | split))
  · first | exact hD.2.2.2.2.2.1 i (by omega) j hj | (simp only [zup, zsu, true_and, and_true]; repeat (first | rfl | (exfalso; omega) | exact hD.2.2.2.2.2.1 i (by omega) j hj | split))
  · first | exact hD.2.2.2.2.2.2.1 t ht | (simp only [zup, zsu, true_and, and_true]; repeat (first | rfl | (exfalso; omega) | exact hD.2.2.2.2.2.2.1 t ht | split))
  · first | exact hD.2.2.2.2.2.2.2 k hk | (simp only [zup, zsu, true_and, and_true]; repeat (first | rfl | (exfalso; omega) | exact hD.2.2.2.2.2.2.2 k hk | split))
  · first | exact h133 | (simp only [zup, zsu, true_and, and_true]; repeat (first | rfl | (exfalso; omega) | exact h133 | split))
  · first | exact h135 | (simp only [zup, zsu, true_and, and_true]; repeat (first | rfl | (exfalso; omega) | exact h135 | split))
  · first | exact hz s t q1 q2 q3 | (simp only [zup, zsu, true_and, and_true]; repeat (first | rfl | (exfalso; omega) | exact hz s t q1 q2 q3 | split))
theorem zE_m {I : ZMi} {S : ZS} {nS nP nW nL nM : Nat} (hE : zE I (S, nS, nP, nW, nL, nM)) (hs6 : nS ≤ 6) (hp8 : nP ≤ 8) (hw6 : nW ≤ 6) {s0 t0 : Nat} (h0 : s0 < nS) (h00 : t0 < 3) {x : Int32} : zE (zup I 136 (18 + 3 * s0 + t0) x) (zsu S 2 s0 t0 x, nS, nP, nW, nL, nM) := by
  obtain ⟨hD, h133, h135, hz⟩ := hE
  simp only at hD h133 h135 hz
  refine ⟨⟨?_, ?_, ?_, fun s hs => ⟨?_, ?_, fun t ht => ?_⟩, fun p hp => ⟨fun j h1 h2 => ?_, fun t ht => ?_⟩, fun i hi j hj => ?_, fun t ht => ?_, fun k hk => ?_⟩, ?_, ?_, fun s t q1 q2 q3 => ?_⟩ <;> simp only at *
  · first | exact hD.1 | (simp only [zup, zsu, true_and, and_true]; repeat (first | rfl | (exfalso; omega) | exact hD.1 | split))
  · first | exact hD.2.1 | (simp only [zup, zsu, true_and, and_true]; repeat (first | rfl | (exfalso; omega) | exact hD.2.1 | split))
  · first | exact hD.2.2.1 | (simp only [zup, zsu, true_and, and_true]; repeat (first | rfl | (exfalso; omega) | exact hD.2.2.1 | split))
  · first | exact (hD.2.2.2.1 s (by omega)).1 | (simp only [zup, zsu, true_and, and_true]; repeat (first | rfl | (exfalso; omega) | exact (hD.2.2.2.1 s (by omega)).1 | split))
  · first | exact (hD.2.2.2.1 s (by omega)).2.1 | (simp only [zup, zsu, true_and, and_true]; repeat (first | rfl | (exfalso; omega) | exact (hD.2.2.2.1 s (by omega)).2.1 | split))
  · first | exact (hD.2.2.2.1 s (by omega)).2.2 t (by omega) | (simp only [zup, zsu, true_and, and_true]; repeat (first | rfl | (exfalso; omega) | exact (hD.2.2.2.1 s (by omega)).2.2 t (by omega) | split))
  · first | exact (hD.2.2.2.2.1 p (by omega)).1 j h1 h2 | (simp only [zup, zsu, true_and, and_true]; repeat (first | rfl | (exfalso; omega) | exact (hD.2.2.2.2.1 p (by omega)).1 j h1 h2 | split))
  · first | exact (hD.2.2.2.2.1 p (by omega)).2 t (by omega) | (simp only [zup, zsu, true_and, and_true]; repeat (first | rfl | (exfalso; omega) | exact (hD.2.2.2.2.1 p (by omega)).2 t (by omega) | split))
  · first | exact hD.2.2.2.2.2.1 i (by omega) j hj | (simp only [zup, zsu, true_and, and_true]; repeat (first | rfl | (exfalso; omega) | exact hD.2.2.2.2.2.1 i (by omega) j hj | split))
  · first | exact hD.2.2.2.2.2.2.1 t ht | (simp only [zup, zsu, true_and, and_true]; repeat (first | rfl | (exfalso; omega) | exact hD.2.2.2.2.2.2.1 t ht | split))
  · first | exact hD.2.2.2.2.2.2.2 k hk | (simp only [zup, zsu, true_and, and_true]; repeat (first | rfl | (exfalso; omega) | exact hD.2.2.2.2.2.2.2 k hk | split))
  · first | exact h133 | (simp only [zup, zsu, true_and, and_true]; repeat (first | rfl | (exfalso; omega) | exact h133 | split))
  · first | exact h135 | (simp only [zup, zsu, true_and, and_true]; repeat (first | rfl | (exfalso; omega) | exact h135 | split))
  · first | exact hz s t q1 q2 q3 | (simp only [zup, zsu, true_and, and_true]; repeat (first | rfl | (exfalso; omega) | exact hz s t q1 q2 q3 | split))
theorem zE_c {I : ZMi} {S : ZS} {nS nP nW nL nM : Nat} (hE : zE I (S, nS, nP, nW, nL, nM)) (hs6 : nS ≤ 6) (hp8 : nP ≤ 8) (hw6 : nW ≤ 6) {p0 : Nat} (h0 : p0 < nP) {x : Int32} : zE (zup I 130 (8 + p0) x) (zsu S 8 p0 0 x, nS, nP, nW, nL, nM) := by
  obtain ⟨hD, h133, h135, hz⟩ := hE
  simp only at hD h133 h135 hz
  refine ⟨⟨?_, ?_, ?_, fun s hs => ⟨?_, ?_, fun t ht => ?_⟩, fun p hp => ⟨fun j h1 h2 => ?_, fun t ht => ?_⟩, fun i hi j hj => ?_, fun t ht => ?_, fun k hk => ?_⟩, ?_, ?_, fun s t q1 q2 q3 => ?_⟩ <;> simp only at *
  · first | exact hD.1 | (simp only [zup, zsu, true_and, and_true]; repeat (first | rfl | (exfalso; omega) | exact hD.1 | split))
  · first | exact hD.2.1 | (simp only [zup, zsu, true_and, and_true]; repeat (first | rfl | (exfalso; omega) | exact hD.2.1 | split))
  · first | exact hD.2.2.1 | (simp only [zup, zsu, true_and, and_true]; repeat (first | rfl | (exfalso; omega) | exact hD.2.2.1 | split))
  · first | exact (hD.2.2.2.1 s (by omega)).1 | (simp only [zup, zsu, true_and, and_true]; repeat (first | rfl | (exfalso; omega) | exact (hD.2.2.2.1 s (by omega)).1 | split))
  · first | exact (hD.2.2.2.1 s (by omega)).2.1 | (simp only [zup, zsu, true_and, and_true]; repeat (first | rfl | (exfalso; omega) | exact (hD.2.2.2.1 s (by omega)).2.1 | split))
  · first | exact (hD.2.2.2.1 s (by omega)).2.2 t (by omega) | (simp only [zup, zsu, true_and, and_true]; repeat (first | rfl | (exfalso; omega) | exact (hD.2.2.2.1 s (by omega)).2.2 t (by omega) | split))
  · first | exact (hD.2.2.2.2.1 p (by omega)).1 j h1 h2 | (simp only [zup, zsu, true_and, and_true]; repeat (first | rfl | (exfalso; omega) | exact (hD.2.2.2.2.1 p (by omega)).1 j h1 h2 | split))
  · first | exact (hD.2.2.2.2.1 p (by omega)).2 t (by omega) | (simp only [zup, zsu, true_and, and_true]; repeat (first | rfl | (exfalso; omega) | exact (hD.2.2.2.2.1 p (by omega)).2 t (by omega) | split))
  · first | exact hD.2.2.2.2.2.1 i (by omega) j hj | (simp only [zup, zsu, true_and, and_true]; repeat (first | rfl | (exfalso; omega) | exact hD.2.2.2.2.2.1 i (by omega) j hj | split))
  · first | exact hD.2.2.2.2.2.2.1 t ht | (simp only [zup, zsu, true_and, and_true]; repeat (first | rfl | (exfalso; omega) | exact hD.2.2.2.2.2.2.1 t ht | split))
  · first | exact hD.2.2.2.2.2.2.2 k hk | (simp only [zup, zsu, true_and, and_true]; repeat (first | rfl | (exfalso; omega) | exact hD.2.2.2.2.2.2.2 k hk | split))
  · first | exact h133 | (simp only [zup, zsu, true_and, and_true]; repeat (first | rfl | (exfalso; omega) | exact h133 | split))
  · first | exact h135 | (simp only [zup, zsu, true_and, and_true]; repeat (first | rfl | (exfalso; omega) | exact h135 | split))
  · first | exact hz s t q1 q2 q3 | (simp only [zup, zsu, true_and, and_true]; repeat (first | rfl | (exfalso; omega) | exact hz s t q1 q2 q3 | split))
theorem zE_9 {I : ZMi} {S : ZS} {nS nP nW nL nM : Nat} (hE : zE I (S, nS, nP, nW, nL, nM)) (hs6 : nS ≤ 6) (hp8 : nP ≤ 8) (hw6 : nW ≤ 6) {p0 : Nat} (h0 : p0 < nP) {x : Int32} : zE (zup I 131 (8 + p0) x) (zsu S 9 p0 0 x, nS, nP, nW, nL, nM) := by
  obtain ⟨hD, h133, h135, hz⟩ := hE
  simp only at hD h133 h135 hz
  refine ⟨⟨?_, ?_, ?_, fun s hs => ⟨?_, ?_, fun t ht => ?_⟩, fun p hp => ⟨fun j h1 h2 => ?_, fun t ht => ?_⟩, fun i hi j hj => ?_, fun t ht => ?_, fun k hk => ?_⟩, ?_, ?_, fun s t q1 q2 q3 => ?_⟩ <;> simp only at *
  · first | exact hD.1 | (simp only [zup, zsu, true_and, and_true]; repeat (first | rfl | (exfalso; omega) | exact hD.1 | split))
  · first | exact hD.2.1 | (simp only [zup, zsu, true_and, and_true]; repeat (first | rfl | (exfalso; omega) | exact hD.2.1 | split))
  · first | exact hD.2.2.1 | (simp only [zup, zsu, true_and, and_true]; repeat (first | rfl | (exfalso; omega) | exact hD.2.2.1 | split))
  · first | exact (hD.2.2.2.1 s (by omega)).1 | (simp only [zup, zsu, true_and, and_true]; repeat (first | rfl | (exfalso; omega) | exact (hD.2.2.2.1 s (by omega)).1 | split))
  · first | exact (hD.2.2.2.1 s (by omega)).2.1 | (simp only [zup, zsu, true_and, and_true]; repeat (first | rfl | (exfalso; omega) | exact (hD.2.2.2.1 s (by omega)).2.1 | split))
  · first | exact (hD.2.2.2.1 s (by omega)).2.2 t (by omega) | (simp only [zup, zsu, true_and, and_true]; repeat (first | rfl | (exfalso; omega) | exact (hD.2.2.2.1 s (by omega)).2.2 t (by omega) | split))
  · first | exact (hD.2.2.2.2.1 p (by omega)).1 j h1 h2 | (simp only [zup, zsu, true_and, and_true]; repeat (first | rfl | (exfalso; omega) | exact (hD.2.2.2.2.1 p (by omega)).1 j h1 h2 | split))
  · first | exact (hD.2.2.2.2.1 p (by omega)).2 t (by omega) | (simp only [zup, zsu, true_and, and_true]; repeat (first | rfl | (exfalso; omega) | exact (hD.2.2.2.2.1 p (by omega)).2 t (by omega) | split))
  · first | exact hD.2.2.2.2.2.1 i (by omega) j hj | (simp only [zup, zsu, true_and, and_true]; repeat (first | rfl | (exfalso; omega) | exact hD.2.2.2.2.2.1 i (by omega) j hj | split))
  · first | exact hD.2.2.2.2.2.2.1 t ht | (simp only [zup, zsu, true_and, and_true]; repeat (first | rfl | (exfalso; omega) | exact hD.2.2.2.2.2.2.1 t ht | split))
  · first | exact hD.2.2.2.2.2.2.2 k hk | (simp only [zup, zsu, true_and, and_true]; repeat (first | rfl | (exfalso; omega) | exact hD.2.2.2.2.2.2.2 k hk | split))
  · first | exact h133 | (simp only [zup, zsu, true_and, and_true]; repeat (first | rfl | (exfalso; omega) | exact h133 | split))
  · first | exact h135 | (simp only [zup, zsu, true_and, and_true]; repeat (first | rfl | (exfalso; omega) | exact h135 | split))
  · first | exact hz s t q1 q2 q3 | (simp only [zup, zsu, true_and, and_true]; repeat (first | rfl | (exfalso; omega) | exact hz s t q1 q2 q3 | split))
theorem zE_10 {I : ZMi} {S : ZS} {nS nP nW nL nM : Nat} (hE : zE I (S, nS, nP, nW, nL, nM)) (hs6 : nS ≤ 6) (hp8 : nP ≤ 8) (hw6 : nW ≤ 6) {p0 : Nat} (h0 : p0 < nP) {x : Int32} : zE (zup I 132 (8 + p0) x) (zsu S 10 p0 0 x, nS, nP, nW, nL, nM) := by
  obtain ⟨hD, h133, h135, hz⟩ := hE
  simp only at hD h133 h135 hz
  refine ⟨⟨?_, ?_, ?_, fun s hs => ⟨?_, ?_, fun t ht => ?_⟩, fun p hp => ⟨fun j h1 h2 => ?_, fun t ht => ?_⟩, fun i hi j hj => ?_, fun t ht => ?_, fun k hk => ?_⟩, ?_, ?_, fun s t q1 q2 q3 => ?_⟩ <;> simp only at *
  · first | exact hD.1 | (simp only [zup, zsu, true_and, and_true]; repeat (first | rfl | (exfalso; omega) | exact hD.1 | split))
  · first | exact hD.2.1 | (simp only [zup, zsu, true_and, and_true]; repeat (first | rfl | (exfalso; omega) | exact hD.2.1 | split))
  · first | exact hD.2.2.1 | (simp only [zup, zsu, true_and, and_true]; repeat (first | rfl | (exfalso; omega) | exact hD.2.2.1 | split))
  · first | exact (hD.2.2.2.1 s (by omega)).1 | (simp only [zup, zsu, true_and, and_true]; repeat (first | rfl | (exfalso; omega) | exact (hD.2.2.2.1 s (by omega)).1 | split))
  · first | exact (hD.2.2.2.1 s (by omega)).2.1 | (simp only [zup, zsu, true_and, and_true]; repeat (first | rfl | (exfalso; omega) | exact (hD.2.2.2.1 s (by omega)).2.1 | split))
  · first | exact (hD.2.2.2.1 s (by omega)).2.2 t (by omega) | (simp only [zup, zsu, true_and, and_true]; repeat (first | rfl | (exfalso; omega) | exact (hD.2.2.2.1 s (by omega)).2.2 t (by omega) | split))
  · first | exact (hD.2.2.2.2.1 p (by omega)).1 j h1 h2 | (simp only [zup, zsu, true_and, and_true]; repeat (first | rfl | (exfalso; omega) | exact (hD.2.2.2.2.1 p (by omega)).1 j h1 h2 | split))
  · first | exact (hD.2.2.2.2.1 p (by omega)).2 t (by omega) | (simp only [zup, zsu, true_and, and_true]; repeat (first | rfl | (exfalso; omega) | exact (hD.2.2.2.2.1 p (by omega)).2 t (by omega) | split))
  · first | exact hD.2.2.2.2.2.1 i (by omega) j hj | (simp only [zup, zsu, true_and, and_true]; repeat (first | rfl | (exfalso; omega) | exact hD.2.2.2.2.2.1 i (by omega) j hj | split))
  · first | exact hD.2.2.2.2.2.2.1 t ht | (simp only [zup, zsu, true_and, and_true]; repeat (first | rfl | (exfalso; omega) | exact hD.2.2.2.2.2.2.1 t ht | split))
  · first | exact hD.2.2.2.2.2.2.2 k hk | (simp only [zup, zsu, true_and, and_true]; repeat (first | rfl | (exfalso; omega) | exact hD.2.2.2.2.2.2.2 k hk | split))
  · first | exact h133 | (simp only [zup, zsu, true_and, and_true]; repeat (first | rfl | (exfalso; omega) | exact h133 | split))
  · first | exact h135 | (simp only [zup, zsu, true_and, and_true]; repeat (first | rfl | (exfalso; omega) | exact h135 | split))
  · first | exact hz s t q1 q2 q3 | (simp only [zup, zsu, true_and, and_true]; repeat (first | rfl | (exfalso; omega) | exact hz s t q1 q2 q3 | split))
theorem zE_e {I : ZMi} {S : ZS} {nS nP nW nL nM : Nat} (hE : zE I (S, nS, nP, nW, nL, nM)) (hs6 : nS ≤ 6) (hp8 : nP ≤ 8) (hw6 : nW ≤ 6) {t0 : Nat} (h0 : t0 < 3) {x : Int32} : zE (zup I 141 (3 + t0) x) (zsu S 15 t0 0 x, nS, nP, nW, nL, nM) := by
  obtain ⟨hD, h133, h135, hz⟩ := hE
  simp only at hD h133 h135 hz
  refine ⟨⟨?_, ?_, ?_, fun s hs => ⟨?_, ?_, fun t ht => ?_⟩, fun p hp => ⟨fun j h1 h2 => ?_, fun t ht => ?_⟩, fun i hi j hj => ?_, fun t ht => ?_, fun k hk => ?_⟩, ?_, ?_, fun s t q1 q2 q3 => ?_⟩ <;> simp only at *
  · first | exact hD.1 | (simp only [zup, zsu, true_and, and_true]; repeat (first | rfl | (exfalso; omega) | exact hD.1 | split))
  · first | exact hD.2.1 | (simp only [zup, zsu, true_and, and_true]; repeat (first | rfl | (exfalso; omega) | exact hD.2.1 | split))
  · first | exact hD.2.2.1 | (simp only [zup, zsu, true_and, and_true]; repeat (first | rfl | (exfalso; omega) | exact hD.2.2.1 | split))
  · first | exact (hD.2.2.2.1 s (by omega)).1 | (simp only [zup, zsu, true_and, and_true]; repeat (first | rfl | (exfalso; omega) | exact (hD.2.2.2.1 s (by omega)).1 | split))
  · first | exact (hD.2.2.2.1 s (by omega)).2.1 | (simp only [zup, zsu, true_and, and_true]; repeat (first | rfl | (exfalso; omega) | exact (hD.2.2.2.1 s (by omega)).2.1 | split))
  · first | exact (hD.2.2.2.1 s (by omega)).2.2 t (by omega) | (simp only [zup, zsu, true_and, and_true]; repeat (first | rfl | (exfalso; omega) | exact (hD.2.2.2.1 s (by omega)).2.2 t (by omega) | split))
  · first | exact (hD.2.2.2.2.1 p (by omega)).1 j h1 h2 | (simp only [zup, zsu, true_and, and_true]; repeat (first | rfl | (exfalso; omega) | exact (hD.2.2.2.2.1 p (by omega)).1 j h1 h2 | split))
  · first | exact (hD.2.2.2.2.1 p (by omega)).2 t (by omega) | (simp only [zup, zsu, true_and, and_true]; repeat (first | rfl | (exfalso; omega) | exact (hD.2.2.2.2.1 p (by omega)).2 t (by omega) | split))
  · first | exact hD.2.2.2.2.2.1 i (by omega) j hj | (simp only [zup, zsu, true_and, and_true]; repeat (first | rfl | (exfalso; omega) | exact hD.2.2.2.2.2.1 i (by omega) j hj | split))
  · first | exact hD.2.2.2.2.2.2.1 t ht | (simp only [zup, zsu, true_and, and_true]; repeat (first | rfl | (exfalso; omega) | exact hD.2.2.2.2.2.2.1 t ht | split))
  · first | exact hD.2.2.2.2.2.2.2 k hk | (simp only [zup, zsu, true_and, and_true]; repeat (first | rfl | (exfalso; omega) | exact hD.2.2.2.2.2.2.2 k hk | split))
  · first | exact h133 | (simp only [zup, zsu, true_and, and_true]; repeat (first | rfl | (exfalso; omega) | exact h133 | split))
  · first | exact h135 | (simp only [zup, zsu, true_and, and_true]; repeat (first | rfl | (exfalso; omega) | exact h135 | split))
  · first | exact hz s t q1 q2 q3 | (simp only [zup, zsu, true_and, and_true]; repeat (first | rfl | (exfalso; omega) | exact hz s t q1 q2 q3 | split))
theorem zE_k {I : ZMi} {S : ZS} {nS nP nW nL nM : Nat} (hE : zE I (S, nS, nP, nW, nL, nM)) (hs6 : nS ≤ 6) (hp8 : nP ≤ 8) (hw6 : nW ≤ 6) {t0 : Nat} (h0 : t0 < 5) {x : Int32} : zE (zup I 142 (5 + t0) x) (zsu S 16 t0 0 x, nS, nP, nW, nL, nM) := by
  obtain ⟨hD, h133, h135, hz⟩ := hE
  simp only at hD h133 h135 hz
  refine ⟨⟨?_, ?_, ?_, fun s hs => ⟨?_, ?_, fun t ht => ?_⟩, fun p hp => ⟨fun j h1 h2 => ?_, fun t ht => ?_⟩, fun i hi j hj => ?_, fun t ht => ?_, fun k hk => ?_⟩, ?_, ?_, fun s t q1 q2 q3 => ?_⟩ <;> simp only at *
  · first | exact hD.1 | (simp only [zup, zsu, true_and, and_true]; repeat (first | rfl | (exfalso; omega) | exact hD.1 | split))
  · first | exact hD.2.1 | (simp only [zup, zsu, true_and, and_true]; repeat (first | rfl | (exfalso; omega) | exact hD.2.1 | split))
  · first | exact hD.2.2.1 | (simp only [zup, zsu, true_and, and_true]; repeat (first | rfl | (exfalso; omega) | exact hD.2.2.1 | split))
  · first | exact (hD.2.2.2.1 s (by omega)).1 | (simp only [zup, zsu, true_and, and_true]; repeat (first | rfl | (exfalso; omega) | exact (hD.2.2.2.1 s (by omega)).1 | split))
  · first | exact (hD.2.2.2.1 s (by omega)).2.1 | (simp only [zup, zsu, true_and, and_true]; repeat (first | rfl | (exfalso; omega) | exact (hD.2.2.2.1 s (by omega)).2.1 | split))
  · first | exact (hD.2.2.2.1 s (by omega)).2.2 t (by omega) | (simp only [zup, zsu, true_and, and_true]; repeat (first | rfl | (exfalso; omega) | exact (hD.2.2.2.1 s (by omega)).2.2 t (by omega) | split))
  · first | exact (hD.2.2.2.2.1 p (by omega)).1 j h1 h2 | (simp only [zup, zsu, true_and, and_true]; repeat (first | rfl | (exfalso; omega) | exact (hD.2.2.2.2.1 p (by omega)).1 j h1 h2 | split))
  · first | exact (hD.2.2.2.2.1 p (by omega)).2 t (by omega) | (simp only [zup, zsu, true_and, and_true]; repeat (first | rfl | (exfalso; omega) | exact (hD.2.2.2.2.1 p (by omega)).2 t (by omega) | split))
  · first | exact hD.2.2.2.2.2.1 i (by omega) j hj | (simp only [zup, zsu, true_and, and_true]; repeat (first | rfl | (exfalso; omega) | exact hD.2.2.2.2.2.1 i (by omega) j hj | split))
  · first | exact hD.2.2.2.2.2.2.1 t ht | (simp only [zup, zsu, true_and, and_true]; repeat (first | rfl | (exfalso; omega) | exact hD.2.2.2.2.2.2.1 t ht | split))
  · first | exact hD.2.2.2.2.2.2.2 k hk | (simp only [zup, zsu, true_and, and_true]; repeat (first | rfl | (exfalso; omega) | exact hD.2.2.2.2.2.2.2 k hk | split))
  · first | exact h133 | (simp only [zup, zsu, true_and, and_true]; repeat (first | rfl | (exfalso; omega) | exact h133 | split))
  · first | exact h135 | (simp only [zup, zsu, true_and, and_true]; repeat (first | rfl | (exfalso; omega) | exact h135 | split))
  · first | exact hz s t q1 q2 q3 | (simp only [zup, zsu, true_and, and_true]; repeat (first | rfl | (exfalso; omega) | exact hz s t q1 q2 q3 | split))
theorem zE_nl {I : ZMi} {S : ZS} {nS nP nW nL nM : Nat} (hE : zE I (S, nS, nP, nW, nL, nM)) (hs6 : nS ≤ 6) (hp8 : nP ≤ 8) (hw6 : nW ≤ 6) {n : Nat} : zE (zup I 133 1 (nI n)) (S, nS, nP, nW, n, nM) := by
  obtain ⟨hD, h133, h135, hz⟩ := hE
  simp only at hD h133 h135 hz
  refine ⟨⟨?_, ?_, ?_, fun s hs => ⟨?_, ?_, fun t ht => ?_⟩, fun p hp => ⟨fun j h1 h2 => ?_, fun t ht => ?_⟩, fun i hi j hj => ?_, fun t ht => ?_, fun k hk => ?_⟩, ?_, ?_, fun s t q1 q2 q3 => ?_⟩ <;> simp only at *
  · first | exact hD.1 | (simp only [zup, true_and, and_true]; repeat (first | rfl | (exfalso; omega) | exact hD.1 | split))
  · first | exact hD.2.1 | (simp only [zup, true_and, and_true]; repeat (first | rfl | (exfalso; omega) | exact hD.2.1 | split))
  · first | exact hD.2.2.1 | (simp only [zup, true_and, and_true]; repeat (first | rfl | (exfalso; omega) | exact hD.2.2.1 | split))
  · first | exact (hD.2.2.2.1 s (by omega)).1 | (simp only [zup, true_and, and_true]; repeat (first | rfl | (exfalso; omega) | exact (hD.2.2.2.1 s (by omega)).1 | split))
  · first | exact (hD.2.2.2.1 s (by omega)).2.1 | (simp only [zup, true_and, and_true]; repeat (first | rfl | (exfalso; omega) | exact (hD.2.2.2.1 s (by omega)).2.1 | split))
  · first | exact (hD.2.2.2.1 s (by omega)).2.2 t (by omega) | (simp only [zup, true_and, and_true]; repeat (first | rfl | (exfalso; omega) | exact (hD.2.2.2.1 s (by omega)).2.2 t (by omega) | split))
  · first | exact (hD.2.2.2.2.1 p (by omega)).1 j h1 h2 | (simp only [zup, true_and, and_true]; repeat (first | rfl | (exfalso; omega) | exact (hD.2.2.2.2.1 p (by omega)).1 j h1 h2 | split))
  · first | exact (hD.2.2.2.2.1 p (by omega)).2 t (by omega) | (simp only [zup, true_and, and_true]; repeat (first | rfl | (exfalso; omega) | exact (hD.2.2.2.2.1 p (by omega)).2 t (by omega) | split))
  · first | exact hD.2.2.2.2.2.1 i (by omega) j hj | (simp only [zup, true_and, and_true]; repeat (first | rfl | (exfalso; omega) | exact hD.2.2.2.2.2.1 i (by omega) j hj | split))
  · first | exact hD.2.2.2.2.2.2.1 t ht | (simp only [zup, true_and, and_true]; repeat (first | rfl | (exfalso; omega) | exact hD.2.2.2.2.2.2.1 t ht | split))
  · first | exact hD.2.2.2.2.2.2.2 k hk | (simp only [zup, true_and, and_true]; repeat (first | rfl | (exfalso; omega) | exact hD.2.2.2.2.2.2.2 k hk | split))
  · first | exact h133 | (simp only [zup, true_and, and_true]; repeat (first | rfl | (exfalso; omega) | exact h133 | split))
  · first | exact h135 | (simp only [zup, true_and, and_true]; repeat (first | rfl | (exfalso; omega) | exact h135 | split))
  · first | exact hz s t q1 q2 q3 | (simp only [zup, true_and, and_true]; repeat (first | rfl | (exfalso; omega) | exact hz s t q1 q2 q3 | split))
theorem zE_nm {I : ZMi} {S : ZS} {nS nP nW nL nM : Nat} (hE : zE I (S, nS, nP, nW, nL, nM)) (hs6 : nS ≤ 6) (hp8 : nP ≤ 8) (hw6 : nW ≤ 6) {n : Nat} : zE (zup I 135 1 (nI n)) (S, nS, nP, nW, nL, n) := by
  obtain ⟨hD, h133, h135, hz⟩ := hE
  simp only at hD h133 h135 hz
  refine ⟨⟨?_, ?_, ?_, fun s hs => ⟨?_, ?_, fun t ht => ?_⟩, fun p hp => ⟨fun j h1 h2 => ?_, fun t ht => ?_⟩, fun i hi j hj => ?_, fun t ht => ?_, fun k hk => ?_⟩, ?_, ?_, fun s t q1 q2 q3 => ?_⟩ <;> simp only at *
  · first | exact hD.1 | (simp only [zup, true_and, and_true]; repeat (first | rfl | (exfalso; omega) | exact hD.1 | split))
  · first | exact hD.2.1 | (simp only [zup, true_and, and_true]; repeat (first | rfl | (exfalso; omega) | exact hD.2.1 | split))
  · first | exact hD.2.2.1 | (simp only [zup, true_and, and_true]; repeat (first | rfl | (exfalso; omega) | exact hD.2.2.1 | split))
  · first | exact (hD.2.2.2.1 s (by omega)).1 | (simp only [zup, true_and, and_true]; repeat (first | rfl | (exfalso; omega) | exact (hD.2.2.2.1 s (by omega)).1 | split))
  · first | exact (hD.2.2.2.1 s (by omega)).2.1 | (simp only [zup, true_and, and_true]; repeat (first | rfl | (exfalso; omega) | exact (hD.2.2.2.1 s (by omega)).2.1 | split))
  · first | exact (hD.2.2.2.1 s (by omega)).2.2 t (by omega) | (simp only [zup, true_and, and_true]; repeat (first | rfl | (exfalso; omega) | exact (hD.2.2.2.1 s (by omega)).2.2 t (by omega) | split))
  · first | exact (hD.2.2.2.2.1 p (by omega)).1 j h1 h2 | (simp only [zup, true_and, and_true]; repeat (first | rfl | (exfalso; omega) | exact (hD.2.2.2.2.1 p (by omega)).1 j h1 h2 | split))
  · first | exact (hD.2.2.2.2.1 p (by omega)).2 t (by omega) | (simp only [zup, true_and, and_true]; repeat (first | rfl | (exfalso; omega) | exact (hD.2.2.2.2.1 p (by omega)).2 t (by omega) | split))
  · first | exact hD.2.2.2.2.2.1 i (by omega) j hj | (simp only [zup, true_and, and_true]; repeat (first | rfl | (exfalso; omega) | exact hD.2.2.2.2.2.1 i (by omega) j hj | split))
  · first | exact hD.2.2.2.2.2.2.1 t ht | (simp only [zup, true_and, and_true]; repeat (first | rfl | (exfalso; omega) | exact hD.2.2.2.2.2.2.1 t ht | split))
  · first | exact hD.2.2.2.2.2.2.2 k hk | (simp only [zup, true_and, and_true]; repeat (first | rfl | (exfalso; omega) | exact hD.2.2.2.2.2.2.2 k hk | split))
  · first | exact h133 | (simp only [zup, true_and, and_true]; repeat (first | rfl | (exfalso; omega) | exact h133 | split))
  · first | exact h135 | (simp only [zup, true_and, and_true]; repeat (first | rfl | (exfalso; omega) | exact h135 | split))
  · first | exact hz s t q1 q2 q3 | (simp only [zup, true_and, and_true]; repeat (first | rfl | (exfalso; omega) | exact hz s t q1 q2 q3 | split))
theorem zE_f {I : ZMi} {S : ZS} {nS nP nW nL nM : Nat} (hE : zE I (S, nS, nP, nW, nL, nM)) (hs6 : nS ≤ 6) (hp8 : nP ≤ 8) (hw6 : nW ≤ 6) (h0 : nW < 6) {a b c : Int32} : zE (zup (zup (zup (zup I 138 (6 + nW) a) 139 (6 + nW) b) 140 (6 + nW) c) 137 1 (nI (nW + 1))) (zsu (zsu (zsu S 12 nW 0 a) 13 nW 0 b) 14 nW 0 c, nS, nP, nW + 1, nL, nM) := by
  obtain ⟨hD, h133, h135, hz⟩ := hE
  simp only at hD h133 h135 hz
  refine ⟨⟨?_, ?_, ?_, fun s hs => ⟨?_, ?_, fun t ht => ?_⟩, fun p hp => ⟨fun j h1 h2 => ?_, fun t ht => ?_⟩, fun i hi j hj => ?_, fun t ht => ?_, fun k hk => ?_⟩, ?_, ?_, fun s t q1 q2 q3 => ?_⟩ <;> simp only at *
  · first | exact hD.1 | (simp only [zup, zsu, true_and, and_true]; repeat (first | rfl | (exfalso; omega) | exact hD.1 | split))
  · first | exact hD.2.1 | (simp only [zup, zsu, true_and, and_true]; repeat (first | rfl | (exfalso; omega) | exact hD.2.1 | split))
  · first | exact hD.2.2.1 | (simp only [zup, zsu, true_and, and_true]; repeat (first | rfl | (exfalso; omega) | exact hD.2.2.1 | split))
  · first | exact (hD.2.2.2.1 s (by omega)).1 | (simp only [zup, zsu, true_and, and_true]; repeat (first | rfl | (exfalso; omega) | exact (hD.2.2.2.1 s (by omega)).1 | split))
  · first | exact (hD.2.2.2.1 s (by omega)).2.1 | (simp only [zup, zsu, true_and, and_true]; repeat (first | rfl | (exfalso; omega) | exact (hD.2.2.2.1 s (by omega)).2.1 | split))
  · first | exact (hD.2.2.2.1 s (by omega)).2.2 t (by omega) | (simp only [zup, zsu, true_and, and_true]; repeat (first | rfl | (exfalso; omega) | exact (hD.2.2.2.1 s (by omega)).2.2 t (by omega) | split))
  · first | exact (hD.2.2.2.2.1 p (by omega)).1 j h1 h2 | (simp only [zup, zsu, true_and, and_true]; repeat (first | rfl | (exfalso; omega) | exact (hD.2.2.2.2.1 p (by omega)).1 j h1 h2 | split))
  · first | exact (hD.2.2.2.2.1 p (by omega)).2 t (by omega) | (simp only [zup, zsu, true_and, and_true]; repeat (first | rfl | (exfalso; omega) | exact (hD.2.2.2.2.1 p (by omega)).2 t (by omega) | split))
  · rcases Nat.lt_or_ge i nW with q | q
    · have hj3 : j = 0 ∨ j = 1 ∨ j = 2 := by omega
      have ho := hD.2.2.2.2.2.1 i q j hj
      rcases hj3 with rfl | rfl | rfl <;> (simp only [zup, zsu, true_and, and_true]; repeat (first | rfl | (exfalso; omega) | exact ho | split))
    · have e : i = nW := by omega
      subst e
      have hj3 : j = 0 ∨ j = 1 ∨ j = 2 := by omega
      rcases hj3 with rfl | rfl | rfl <;> (simp only [zup, zsu, true_and, and_true]; repeat (first | rfl | (exfalso; omega) | split))
  · first | exact hD.2.2.2.2.2.2.1 t ht | (simp only [zup, zsu, true_and, and_true]; repeat (first | rfl | (exfalso; omega) | exact hD.2.2.2.2.2.2.1 t ht | split))
  · first | exact hD.2.2.2.2.2.2.2 k hk | (simp only [zup, zsu, true_and, and_true]; repeat (first | rfl | (exfalso; omega) | exact hD.2.2.2.2.2.2.2 k hk | split))
  · first | exact h133 | (simp only [zup, zsu, true_and, and_true]; repeat (first | rfl | (exfalso; omega) | exact h133 | split))
  · first | exact h135 | (simp only [zup, zsu, true_and, and_true]; repeat (first | rfl | (exfalso; omega) | exact h135 | split))
  · first | exact hz s t q1 q2 q3 | (simp only [zup, zsu, true_and, and_true]; repeat (first | rfl | (exfalso; omega) | exact hz s t q1 q2 q3 | split))
theorem zE_s {I : ZMi} {S : ZS} {nS nP nW nL nM : Nat} (hE : zE I (S, nS, nP, nW, nL, nM)) (hs6 : nS ≤ 6) (hp8 : nP ≤ 8) (hw6 : nW ≤ 6) (h0 : nS < 6) {a b : Int32} : zE (zup (zup (zup I 122 (6 + nS) a) 123 (6 + nS) b) 121 1 (nI (nS + 1))) (zS_s S nS a b, nS + 1, nP, nW, nL, nM) := by
  obtain ⟨hD, h133, h135, hz⟩ := hE
  simp only at hD h133 h135 hz
  refine ⟨⟨?_, ?_, ?_, fun s hs => ⟨?_, ?_, fun t ht => ?_⟩, fun p hp => ⟨fun j h1 h2 => ?_, fun t ht => ?_⟩, fun i hi j hj => ?_, fun t ht => ?_, fun k hk => ?_⟩, ?_, ?_, fun s t q1 q2 q3 => ?_⟩ <;> simp only at *
  · first | exact hD.1 | (simp only [zup, zS_s, true_and, and_true]; repeat (first | rfl | (exfalso; omega) | exact hD.1 | split))
  · first | exact hD.2.1 | (simp only [zup, zS_s, true_and, and_true]; repeat (first | rfl | (exfalso; omega) | exact hD.2.1 | split))
  · first | exact hD.2.2.1 | (simp only [zup, zS_s, true_and, and_true]; repeat (first | rfl | (exfalso; omega) | exact hD.2.2.1 | split))
  · rcases Nat.lt_or_ge s nS with q | q
    · simp only [zup, zS_s, true_and, and_true]; repeat (first | rfl | (exfalso; omega) | exact (hD.2.2.2.1 s q).1 | split)
    · have e : s = nS := by omega
      subst e
      simp only [zup, zS_s, true_and, and_true]; repeat (first | rfl | (exfalso; omega) | split)
  · rcases Nat.lt_or_ge s nS with q | q
    · simp only [zup, zS_s, true_and, and_true]; repeat (first | rfl | (exfalso; omega) | exact (hD.2.2.2.1 s q).2.1 | split)
    · have e : s = nS := by omega
      subst e
      simp only [zup, zS_s, true_and, and_true]; repeat (first | rfl | (exfalso; omega) | split)
  · rcases Nat.lt_or_ge s nS with q | q
    · simp only [zup, zS_s, true_and, and_true]; repeat (first | rfl | (exfalso; omega) | exact (hD.2.2.2.1 s q).2.2 t (by omega) | split)
    · have e : s = nS := by omega
      subst e
      simp only [zup, zS_s, true_and, and_true]; repeat (first | rfl | (exfalso; omega) | exact hz s t (Nat.le_refl _) h0 ht | split)
  · first | exact (hD.2.2.2.2.1 p (by omega)).1 j h1 h2 | (simp only [zup, zS_s, true_and, and_true]; repeat (first | rfl | (exfalso; omega) | exact (hD.2.2.2.2.1 p (by omega)).1 j h1 h2 | split))
  · first | exact (hD.2.2.2.2.1 p (by omega)).2 t (by omega) | (simp only [zup, zS_s, true_and, and_true]; repeat (first | rfl | (exfalso; omega) | exact (hD.2.2.2.2.1 p (by omega)).2 t (by omega) | split))
  · first | exact hD.2.2.2.2.2.1 i (by omega) j hj | (simp only [zup, zS_s, true_and, and_true]; repeat (first | rfl | (exfalso; omega) | exact hD.2.2.2.2.2.1 i (by omega) j hj | split))
  · first | exact hD.2.2.2.2.2.2.1 t ht | (simp only [zup, zS_s, true_and, and_true]; repeat (first | rfl | (exfalso; omega) | exact hD.2.2.2.2.2.2.1 t ht | split))
  · first | exact hD.2.2.2.2.2.2.2 k hk | (simp only [zup, zS_s, true_and, and_true]; repeat (first | rfl | (exfalso; omega) | exact hD.2.2.2.2.2.2.2 k hk | split))
  · first | exact h133 | (simp only [zup, zS_s, true_and, and_true]; repeat (first | rfl | (exfalso; omega) | exact h133 | split))
  · first | exact h135 | (simp only [zup, zS_s, true_and, and_true]; repeat (first | rfl | (exfalso; omega) | exact h135 | split))
  · simp only [zup, true_and, and_true]; repeat (first | rfl | (exfalso; omega) | exact hz s t (by omega) q2 q3 | split)
theorem zE_p {I : ZMi} {S : ZS} {nS nP nW nL nM : Nat} (hE : zE I (S, nS, nP, nW, nL, nM)) (hs6 : nS ≤ 6) (hp8 : nP ≤ 8) (hw6 : nW ≤ 6) {I2 : ZMi} (h0 : nP < 8) {a b c d e : Int32} (hf : ∀ x k, ¬ (125 ≤ x ∧ x ≤ 132 ∧ k = 8 + nP) → ¬ (x = 134 ∧ 24 + 3 * nP ≤ k ∧ k < 27 + 3 * nP) → ¬ (x = 124 ∧ k = 1) → I2 x k = I x k) (g1 : ∀ k, 1 ≤ k → k ≤ 8 → I2 (124 + k) (8 * 1 + nP) = zpv a b c d e (k + 2)) (g3 : ∀ t, t < 3 → I2 134 (24 * 1 + 3 * nP + t) = 0) (g5 : I2 124 1 = nI (nP + 1)) : zE I2 (zS_p S nP a b c d e, nS, nP + 1, nW, nL, nM) := by
  obtain ⟨hD, h133, h135, hz⟩ := hE
  simp only at hD h133 h135 hz
  refine ⟨⟨?_, ?_, ?_, fun s hs => ⟨?_, ?_, fun t ht => ?_⟩, fun p hp => ⟨fun j h1 h2 => ?_, fun t ht => ?_⟩, fun i hi j hj => ?_, fun t ht => ?_, fun k hk => ?_⟩, ?_, ?_, fun s t q1 q2 q3 => ?_⟩ <;> simp only at *
  · rw [hf _ _ (by omega) (by omega) (by omega)]; first | exact hD.1 | (simp only [zS_p, true_and, and_true]; repeat (first | rfl | (exfalso; omega) | exact hD.1 | split))
  · exact g5
  · rw [hf _ _ (by omega) (by omega) (by omega)]; first | exact hD.2.2.1 | (simp only [zS_p, true_and, and_true]; repeat (first | rfl | (exfalso; omega) | exact hD.2.2.1 | split))
  · rw [hf _ _ (by omega) (by omega) (by omega)]; first | exact (hD.2.2.2.1 s (by omega)).1 | (simp only [zS_p, true_and, and_true]; repeat (first | rfl | (exfalso; omega) | exact (hD.2.2.2.1 s (by omega)).1 | split))
  · rw [hf _ _ (by omega) (by omega) (by omega)]; first | exact (hD.2.2.2.1 s (by omega)).2.1 | (simp only [zS_p, true_and, and_true]; repeat (first | rfl | (exfalso; omega) | exact (hD.2.2.2.1 s (by omega)).2.1 | split))
  · rw [hf _ _ (by omega) (by omega) (by omega)]; first | exact (hD.2.2.2.1 s (by omega)).2.2 t (by omega) | (simp only [zS_p, true_and, and_true]; repeat (first | rfl | (exfalso; omega) | exact (hD.2.2.2.1 s (by omega)).2.2 t (by omega) | split))
  · rcases Nat.lt_or_ge p nP with q | q
    · rw [hf _ _ (by omega) (by omega) (by omega)]; simp only [zS_p, true_and, and_true]; repeat (first | rfl | (exfalso; omega) | exact (hD.2.2.2.2.1 p q).1 j h1 h2 | split)
    · have hpe : p = nP := by omega
      subst hpe
      rw [g1 j h1 h2]; simp only [zS_p, true_and, and_true]; repeat (first | rfl | (exfalso; omega) | split)
  · rcases Nat.lt_or_ge p nP with q | q
    · rw [hf _ _ (by omega) (by omega) (by omega)]; simp only [zS_p, true_and, and_true]; repeat (first | rfl | (exfalso; omega) | exact (hD.2.2.2.2.1 p q).2 t (by omega) | split)
    · have hpe : p = nP := by omega
      subst hpe
      rw [g3 t ht]; simp only [zS_p, true_and, and_true]; repeat (first | rfl | (exfalso; omega) | split)
  · rw [hf _ _ (by omega) (by omega) (by omega)]; first | exact hD.2.2.2.2.2.1 i (by omega) j hj | (simp only [zS_p, true_and, and_true]; repeat (first | rfl | (exfalso; omega) | exact hD.2.2.2.2.2.1 i (by omega) j hj | split))
  · rw [hf _ _ (by omega) (by omega) (by omega)]; first | exact hD.2.2.2.2.2.2.1 t ht | (simp only [zS_p, true_and, and_true]; repeat (first | rfl | (exfalso; omega) | exact hD.2.2.2.2.2.2.1 t ht | split))
  · rw [hf _ _ (by omega) (by omega) (by omega)]; first | exact hD.2.2.2.2.2.2.2 k hk | (simp only [zS_p, true_and, and_true]; repeat (first | rfl | (exfalso; omega) | exact hD.2.2.2.2.2.2.2 k hk | split))
  · rw [hf _ _ (by omega) (by omega) (by omega)]; first | exact h133 | (simp only [zS_p, true_and, and_true]; repeat (first | rfl | (exfalso; omega) | exact h133 | split))
  · rw [hf _ _ (by omega) (by omega) (by omega)]; first | exact h135 | (simp only [zS_p, true_and, and_true]; repeat (first | rfl | (exfalso; omega) | exact h135 | split))
  · rw [hf _ _ (by omega) (by omega) (by omega)]; first | exact hz s t q1 q2 q3 | (simp only [zS_p, true_and, and_true]; repeat (first | rfl | (exfalso; omega) | exact hz s t q1 q2 q3 | split))
set_option maxRecDepth 4000 in
theorem y_noPart_l {K : ZKh} {P : Nat → Nat → List Value → List Value → ZMi → ZMl → ZMr → ZRt → Prop} {I : ZMi} {L : ZMl} {R : ZMr} {Q : ZRt} (hP : ZCl K P) (hKb : zKb K) (hRb : zRb R) {k : Nat} (hk : k < 16) (h : ∀ I2, (∀ x j, ¬ (130 ≤ x ∧ x ≤ 132 ∧ j = k) → ¬ (x = 134 ∧ 3 * k ≤ j ∧ j < 3 * k + 3) → I2 x j = I x j) → I2 130 k = 10 → I2 131 k = 0 → I2 132 k = 1 → (∀ t, t < 3 → I2 134 (3 * k + t) = 0) → Q none I2 L R) : ∀ t, t ≤ 3 → ∀ (I1 : ZMi), (∀ x j, ¬ (130 ≤ x ∧ x ≤ 132 ∧ j = k) → ¬ (x = 134 ∧ 3 * k ≤ j ∧ j < 3 * k + 3) → I1 x j = I x j) ∧ I1 130 k = 10 ∧ I1 131 k = 0 ∧ I1 132 k = 1 ∧ (∀ i, i < t → I1 134 (3 * k + i) = 0) → P 108 24 [.ref 119, .int (nI k), .int (nI t)] [] I1 L R Q := by
  refine zloop 3 (fun t => ∀ (I1 : ZMi), (∀ x j, ¬ (130 ≤ x ∧ x ≤ 132 ∧ j = k) → ¬ (x = 134 ∧ 3 * k ≤ j ∧ j < 3 * k + 3) → I1 x j = I x j) ∧ I1 130 k = 10 ∧ I1 131 k = 0 ∧ I1 132 k = 1 ∧ (∀ i, i < t → I1 134 (3 * k + i) = 0) → P 108 24 [.ref 119, .int (nI k), .int (nI t)] [] I1 L R Q) ?_
  intro t hle ih I1 hacc
  refine r_il hP c108_24 rfl ?_
  refine r_ic hP c108_25 ?_
  refine r_ige hP c108_26 (fun h26 => ?_) (fun h26 => ?_)
  · have he : t = 3 := Nat.le_antisymm hle ((nI_leI (by omega) (by omega)).mp h26)
    subst he
    exact r_vr hP c108_46 (h _ hacc.1 hacc.2.1 hacc.2.2.1 hacc.2.2.2.1 hacc.2.2.2.2)
  · have hlt : t < 3 := by
      rcases Nat.lt_or_ge t 3 with q | q
      · exact q
      · exact absurd (nI_le q (by omega)) h26
    refine r_al hP c108_29 rfl ?_
    refine r_gR (x := 134) hP c108_30 (zj119 hKb) (zr119_15 hRb) ?_
    refine r_ic hP c108_33 ?_
    refine r_il hP c108_34 rfl ?_
    refine r_imul hP c108_35 ?_
    refine r_ti (y := nI (3 * k)) (pk_mul 3 k) ?_
    refine r_il hP c108_36 rfl ?_
    refine r_iadd hP c108_37 ?_
    refine r_ti (y := nI (3 * k + t)) (nI_add _ _) ?_
    refine r_ic hP c108_38 ?_
    refine r_iast (j := 3 * k + t) hP c108_39 (zk134 hKb) rfl (by omega) ?_
    refine r_inc (y := nI (t + 1)) (ls' := [.ref 119, .int (nI k), .int (nI (t + 1))]) hP c108_40 rfl (nI_1 _) rfl ?_
    refine r_goto hP c108_43 ?_
    exact ih hlt _ ⟨fun x j q1 q2 => (zup_n _ _ _ _ (by omega)).trans (hacc.1 x j q1 q2), (zup_n _ _ _ _ (by omega)).trans hacc.2.1, (zup_n _ _ _ _ (by omega)).trans hacc.2.2.1, (zup_n _ _ _ _ (by omega)).trans hacc.2.2.2.1, fun i hi => by
      rcases Nat.lt_or_ge i t with z | z
      · rw [zup_n _ _ _ _ (by omega)]; exact hacc.2.2.2.2 i z
      · rw [show i = t from by omega, zup_s]⟩
set_option maxRecDepth 4000 in
theorem y_noPart {K : ZKh} {P : Nat → Nat → List Value → List Value → ZMi → ZMl → ZMr → ZRt → Prop} {I : ZMi} {L : ZMl} {R : ZMr} {Q : ZRt} (hP : ZCl K P) (hKb : zKb K) (hRb : zRb R) {k : Nat} (hk : k < 16) (h : ∀ I2, (∀ x j, ¬ (130 ≤ x ∧ x ≤ 132 ∧ j = k) → ¬ (x = 134 ∧ 3 * k ≤ j ∧ j < 3 * k + 3) → I2 x j = I x j) → I2 130 k = 10 → I2 131 k = 0 → I2 132 k = 1 → (∀ t, t < 3 → I2 134 (3 * k + t) = 0) → Q none I2 L R) : P 108 0 [.ref 119, .int (nI k), .null] [] I L R Q := by
  refine r_al hP c108_0 rfl ?_
  refine r_gR (x := 130) hP c108_1 (zj119 hKb) (zr119_11 hRb) ?_
  refine r_il hP c108_4 rfl ?_
  refine r_ic hP c108_5 ?_
  refine r_iast (j := k) hP c108_7 (zk130 hKb) rfl (by omega) ?_
  refine r_al hP c108_8 rfl ?_
  refine r_gR (x := 131) hP c108_9 (zj119 hKb) (zr119_12 hRb) ?_
  refine r_il hP c108_12 rfl ?_
  refine r_ic hP c108_13 ?_
  refine r_iast (j := k) hP c108_14 (zk131 hKb) rfl (by omega) ?_
  refine r_al hP c108_15 rfl ?_
  refine r_gR (x := 132) hP c108_16 (zj119 hKb) (zr119_13 hRb) ?_
  refine r_il hP c108_19 rfl ?_
  refine r_ic hP c108_20 ?_
  refine r_iast (j := k) hP c108_21 (zk132 hKb) rfl (by omega) ?_
  refine r_ic hP c108_22 ?_
  refine r_is (ls' := [.ref 119, .int (nI k), .int 0]) hP c108_23 (Nat.le_of_ble_eq_true rfl) rfl ?_
  exact y_noPart_l hP hKb hRb hk h 0 (Nat.zero_le _) _ ⟨fun x j q1 q2 => (zup_n _ _ _ _ (by omega)).trans ((zup_n _ _ _ _ (by omega)).trans (zup_n _ _ _ _ (by omega))), (zup_n _ _ _ _ (by omega)).trans ((zup_n _ _ _ _ (by omega)).trans (zup_s _ _ _ _)), (zup_n _ _ _ _ (by omega)).trans (zup_s _ _ _ _), zup_s _ _ _ _, fun i hi => absurd hi (Nat.not_lt_zero i)⟩
set_option maxRecDepth 4000 in
theorem y_noSet_c {K : ZKh} {P : Nat → Nat → List Value → List Value → ZMi → ZMl → ZMr → ZRt → Prop} {I : ZMi} {L : ZMl} {R : ZMr} {Q : ZRt} (hP : ZCl K P) (hKb : zKb K) (hRb : zRb R) {b : Nat} (hb : b < 2) (h : ∀ I2, (∀ x j, ¬ ((x = 121 ∨ x = 124 ∨ x = 133 ∨ x = 135 ∨ x = 137) ∧ j = b) → ¬ (x = 136 ∧ 18 * b ≤ j ∧ j < 18 * b + 18) → ¬ (x = 141 ∧ 3 * b ≤ j ∧ j < 3 * b + 3) → ¬ (x = 142 ∧ 5 * b ≤ j ∧ j < 5 * b + 5) → I2 x j = I x j) ∧ (I2 121 b = 0 ∧ I2 124 b = 0 ∧ I2 133 b = 0 ∧ I2 135 b = 0 ∧ I2 137 b = 0) ∧ (∀ i, i < 18 → I2 136 (18 * b + i) = 0) ∧ (∀ i, i < 3 → I2 141 (3 * b + i) = 20) ∧ (∀ i, i < 5 → I2 142 (5 * b + i) = 5) → Q none I2 L R) : ∀ k, k ≤ 5 → ∀ (I1 : ZMi), (∀ x j, ¬ ((x = 121 ∨ x = 124 ∨ x = 133 ∨ x = 135 ∨ x = 137) ∧ j = b) → ¬ (x = 136 ∧ 18 * b ≤ j ∧ j < 18 * b + 18) → ¬ (x = 141 ∧ 3 * b ≤ j ∧ j < 3 * b + 3) → ¬ (x = 142 ∧ 5 * b ≤ j ∧ j < 5 * b + 5) → I1 x j = I x j) ∧ (I1 121 b = 0 ∧ I1 124 b = 0 ∧ I1 133 b = 0 ∧ I1 135 b = 0 ∧ I1 137 b = 0) ∧ (∀ i, i < 18 → I1 136 (18 * b + i) = 0) ∧ (∀ i, i < 3 → I1 141 (3 * b + i) = 20) ∧ (∀ i, i < k → I1 142 (5 * b + i) = 5) → P 109 88 [.ref 119, .int (nI b), .int (nI k)] [] I1 L R Q := by
  refine zloop 5 (fun k => ∀ (I1 : ZMi), (∀ x j, ¬ ((x = 121 ∨ x = 124 ∨ x = 133 ∨ x = 135 ∨ x = 137) ∧ j = b) → ¬ (x = 136 ∧ 18 * b ≤ j ∧ j < 18 * b + 18) → ¬ (x = 141 ∧ 3 * b ≤ j ∧ j < 3 * b + 3) → ¬ (x = 142 ∧ 5 * b ≤ j ∧ j < 5 * b + 5) → I1 x j = I x j) ∧ (I1 121 b = 0 ∧ I1 124 b = 0 ∧ I1 133 b = 0 ∧ I1 135 b = 0 ∧ I1 137 b = 0) ∧ (∀ i, i < 18 → I1 136 (18 * b + i) = 0) ∧ (∀ i, i < 3 → I1 141 (3 * b + i) = 20) ∧ (∀ i, i < k → I1 142 (5 * b + i) = 5) → P 109 88 [.ref 119, .int (nI b), .int (nI k)] [] I1 L R Q) ?_
  intro k hle ih I1 hacc
  refine r_il hP c109_88 rfl ?_
  refine r_ic hP c109_89 ?_
  refine r_ige hP c109_90 (fun h90 => ?_) (fun h90 => ?_)
  · have he : k = 5 := Nat.le_antisymm hle ((nI_leI (by omega) (by omega)).mp h90)
    subst he
    exact r_vr hP c109_110 (h _ hacc)
  · have hlt : k < 5 := by
      rcases Nat.lt_or_ge k 5 with q | q
      · exact q
      · exact absurd (nI_le q (by omega)) h90
    refine r_al hP c109_93 rfl ?_
    refine r_gR (x := 142) hP c109_94 (zj119 hKb) (zr119_23 hRb) ?_
    refine r_ic hP c109_97 ?_
    refine r_il hP c109_98 rfl ?_
    refine r_imul hP c109_99 ?_
    refine r_ti (y := nI (5 * b)) (pk_mul 5 b) ?_
    refine r_il hP c109_100 rfl ?_
    refine r_iadd hP c109_101 ?_
    refine r_ti (y := nI (5 * b + k)) (nI_add _ _) ?_
    refine r_ic hP c109_102 ?_
    refine r_iast (j := 5 * b + k) hP c109_103 (zk142 hKb) rfl (by omega) ?_
    refine r_inc (y := nI (k + 1)) (ls' := [.ref 119, .int (nI b), .int (nI (k + 1))]) hP c109_104 rfl (nI_1 _) rfl ?_
    refine r_goto hP c109_107 ?_
    exact ih hlt _ ⟨fun x j q1 q2 q3 q4 => (zup_n _ _ _ _ (by omega)).trans (hacc.1 x j q1 q2 q3 q4), ⟨(zup_n _ _ _ _ (by omega)).trans hacc.2.1.1, (zup_n _ _ _ _ (by omega)).trans hacc.2.1.2.1, (zup_n _ _ _ _ (by omega)).trans hacc.2.1.2.2.1, (zup_n _ _ _ _ (by omega)).trans hacc.2.1.2.2.2.1, (zup_n _ _ _ _ (by omega)).trans hacc.2.1.2.2.2.2⟩, fun i hi => (zup_n _ _ _ _ (by omega)).trans (hacc.2.2.1 i hi), fun i hi => (zup_n _ _ _ _ (by omega)).trans (hacc.2.2.2.1 i hi), fun i hi => by
      rcases Nat.lt_or_ge i k with z | z
      · rw [zup_n _ _ _ _ (by omega)]; exact hacc.2.2.2.2 i z
      · rw [show i = k from by omega, zup_s]⟩
set_option maxRecDepth 4000 in
theorem y_noSet_b {K : ZKh} {P : Nat → Nat → List Value → List Value → ZMi → ZMl → ZMr → ZRt → Prop} {I : ZMi} {L : ZMl} {R : ZMr} {Q : ZRt} (hP : ZCl K P) (hKb : zKb K) (hRb : zRb R) {b : Nat} (hb : b < 2) (h : ∀ I2, (∀ x j, ¬ ((x = 121 ∨ x = 124 ∨ x = 133 ∨ x = 135 ∨ x = 137) ∧ j = b) → ¬ (x = 136 ∧ 18 * b ≤ j ∧ j < 18 * b + 18) → ¬ (x = 141 ∧ 3 * b ≤ j ∧ j < 3 * b + 3) → ¬ (x = 142 ∧ 5 * b ≤ j ∧ j < 5 * b + 5) → I2 x j = I x j) ∧ (I2 121 b = 0 ∧ I2 124 b = 0 ∧ I2 133 b = 0 ∧ I2 135 b = 0 ∧ I2 137 b = 0) ∧ (∀ i, i < 18 → I2 136 (18 * b + i) = 0) ∧ (∀ i, i < 3 → I2 141 (3 * b + i) = 20) ∧ (∀ i, i < 5 → I2 142 (5 * b + i) = 5) → Q none I2 L R) : ∀ k, k ≤ 3 → ∀ (I1 : ZMi), (∀ x j, ¬ ((x = 121 ∨ x = 124 ∨ x = 133 ∨ x = 135 ∨ x = 137) ∧ j = b) → ¬ (x = 136 ∧ 18 * b ≤ j ∧ j < 18 * b + 18) → ¬ (x = 141 ∧ 3 * b ≤ j ∧ j < 3 * b + 3) → ¬ (x = 142 ∧ 5 * b ≤ j ∧ j < 5 * b + 5) → I1 x j = I x j) ∧ (I1 121 b = 0 ∧ I1 124 b = 0 ∧ I1 133 b = 0 ∧ I1 135 b = 0 ∧ I1 137 b = 0) ∧ (∀ i, i < 18 → I1 136 (18 * b + i) = 0) ∧ (∀ i, i < k → I1 141 (3 * b + i) = 20) ∧ (∀ i, i < 0 → I1 142 (5 * b + i) = 5) → P 109 63 [.ref 119, .int (nI b), .int (nI k)] [] I1 L R Q := by
  refine zloop 3 (fun k => ∀ (I1 : ZMi), (∀ x j, ¬ ((x = 121 ∨ x = 124 ∨ x = 133 ∨ x = 135 ∨ x = 137) ∧ j = b) → ¬ (x = 136 ∧ 18 * b ≤ j ∧ j < 18 * b + 18) → ¬ (x = 141 ∧ 3 * b ≤ j ∧ j < 3 * b + 3) → ¬ (x = 142 ∧ 5 * b ≤ j ∧ j < 5 * b + 5) → I1 x j = I x j) ∧ (I1 121 b = 0 ∧ I1 124 b = 0 ∧ I1 133 b = 0 ∧ I1 135 b = 0 ∧ I1 137 b = 0) ∧ (∀ i, i < 18 → I1 136 (18 * b + i) = 0) ∧ (∀ i, i < k → I1 141 (3 * b + i) = 20) ∧ (∀ i, i < 0 → I1 142 (5 * b + i) = 5) → P 109 63 [.ref 119, .int (nI b), .int (nI k)] [] I1 L R Q) ?_
  intro k hle ih I1 hacc
  refine r_il hP c109_63 rfl ?_
  refine r_ic hP c109_64 ?_
  refine r_ige hP c109_65 (fun h65 => ?_) (fun h65 => ?_)
  · have he : k = 3 := Nat.le_antisymm hle ((nI_leI (by omega) (by omega)).mp h65)
    refine r_ic hP c109_86 ?_
    refine r_is (ls' := [.ref 119, .int (nI b), .int 0]) hP c109_87 (Nat.le_of_ble_eq_true rfl) rfl ?_
    subst he
    exact y_noSet_c hP hKb hRb hb h 0 (Nat.zero_le _) _ hacc
  · have hlt : k < 3 := by
      rcases Nat.lt_or_ge k 3 with q | q
      · exact q
      · exact absurd (nI_le q (by omega)) h65
    refine r_al hP c109_68 rfl ?_
    refine r_gR (x := 141) hP c109_69 (zj119 hKb) (zr119_22 hRb) ?_
    refine r_ic hP c109_72 ?_
    refine r_il hP c109_73 rfl ?_
    refine r_imul hP c109_74 ?_
    refine r_ti (y := nI (3 * b)) (pk_mul 3 b) ?_
    refine r_il hP c109_75 rfl ?_
    refine r_iadd hP c109_76 ?_
    refine r_ti (y := nI (3 * b + k)) (nI_add _ _) ?_
    refine r_ic hP c109_77 ?_
    refine r_iast (j := 3 * b + k) hP c109_79 (zk141 hKb) rfl (by omega) ?_
    refine r_inc (y := nI (k + 1)) (ls' := [.ref 119, .int (nI b), .int (nI (k + 1))]) hP c109_80 rfl (nI_1 _) rfl ?_
    refine r_goto hP c109_83 ?_
    exact ih hlt _ ⟨fun x j q1 q2 q3 q4 => (zup_n _ _ _ _ (by omega)).trans (hacc.1 x j q1 q2 q3 q4), ⟨(zup_n _ _ _ _ (by omega)).trans hacc.2.1.1, (zup_n _ _ _ _ (by omega)).trans hacc.2.1.2.1, (zup_n _ _ _ _ (by omega)).trans hacc.2.1.2.2.1, (zup_n _ _ _ _ (by omega)).trans hacc.2.1.2.2.2.1, (zup_n _ _ _ _ (by omega)).trans hacc.2.1.2.2.2.2⟩, fun i hi => (zup_n _ _ _ _ (by omega)).trans (hacc.2.2.1 i hi), fun i hi => by
      rcases Nat.lt_or_ge i k with z | z
      · rw [zup_n _ _ _ _ (by omega)]; exact hacc.2.2.2.1 i z
      · rw [show i = k from by omega, zup_s], fun i hi => (zup_n _ _ _ _ (by omega)).trans (hacc.2.2.2.2 i hi)⟩
set_option maxRecDepth 4000 in
theorem y_noSet_a {K : ZKh} {P : Nat → Nat → List Value → List Value → ZMi → ZMl → ZMr → ZRt → Prop} {I : ZMi} {L : ZMl} {R : ZMr} {Q : ZRt} (hP : ZCl K P) (hKb : zKb K) (hRb : zRb R) {b : Nat} (hb : b < 2) (h : ∀ I2, (∀ x j, ¬ ((x = 121 ∨ x = 124 ∨ x = 133 ∨ x = 135 ∨ x = 137) ∧ j = b) → ¬ (x = 136 ∧ 18 * b ≤ j ∧ j < 18 * b + 18) → ¬ (x = 141 ∧ 3 * b ≤ j ∧ j < 3 * b + 3) → ¬ (x = 142 ∧ 5 * b ≤ j ∧ j < 5 * b + 5) → I2 x j = I x j) ∧ (I2 121 b = 0 ∧ I2 124 b = 0 ∧ I2 133 b = 0 ∧ I2 135 b = 0 ∧ I2 137 b = 0) ∧ (∀ i, i < 18 → I2 136 (18 * b + i) = 0) ∧ (∀ i, i < 3 → I2 141 (3 * b + i) = 20) ∧ (∀ i, i < 5 → I2 142 (5 * b + i) = 5) → Q none I2 L R) : ∀ k, k ≤ 18 → ∀ (I1 : ZMi), (∀ x j, ¬ ((x = 121 ∨ x = 124 ∨ x = 133 ∨ x = 135 ∨ x = 137) ∧ j = b) → ¬ (x = 136 ∧ 18 * b ≤ j ∧ j < 18 * b + 18) → ¬ (x = 141 ∧ 3 * b ≤ j ∧ j < 3 * b + 3) → ¬ (x = 142 ∧ 5 * b ≤ j ∧ j < 5 * b + 5) → I1 x j = I x j) ∧ (I1 121 b = 0 ∧ I1 124 b = 0 ∧ I1 133 b = 0 ∧ I1 135 b = 0 ∧ I1 137 b = 0) ∧ (∀ i, i < k → I1 136 (18 * b + i) = 0) ∧ (∀ i, i < 0 → I1 141 (3 * b + i) = 20) ∧ (∀ i, i < 0 → I1 142 (5 * b + i) = 5) → P 109 37 [.ref 119, .int (nI b), .int (nI k)] [] I1 L R Q := by
  refine zloop 18 (fun k => ∀ (I1 : ZMi), (∀ x j, ¬ ((x = 121 ∨ x = 124 ∨ x = 133 ∨ x = 135 ∨ x = 137) ∧ j = b) → ¬ (x = 136 ∧ 18 * b ≤ j ∧ j < 18 * b + 18) → ¬ (x = 141 ∧ 3 * b ≤ j ∧ j < 3 * b + 3) → ¬ (x = 142 ∧ 5 * b ≤ j ∧ j < 5 * b + 5) → I1 x j = I x j) ∧ (I1 121 b = 0 ∧ I1 124 b = 0 ∧ I1 133 b = 0 ∧ I1 135 b = 0 ∧ I1 137 b = 0) ∧ (∀ i, i < k → I1 136 (18 * b + i) = 0) ∧ (∀ i, i < 0 → I1 141 (3 * b + i) = 20) ∧ (∀ i, i < 0 → I1 142 (5 * b + i) = 5) → P 109 37 [.ref 119, .int (nI b), .int (nI k)] [] I1 L R Q) ?_
  intro k hle ih I1 hacc
  refine r_il hP c109_37 rfl ?_
  refine r_ic hP c109_38 ?_
  refine r_ige hP c109_40 (fun h40 => ?_) (fun h40 => ?_)
  · have he : k = 18 := Nat.le_antisymm hle ((nI_leI (by omega) (by omega)).mp h40)
    refine r_ic hP c109_61 ?_
    refine r_is (ls' := [.ref 119, .int (nI b), .int 0]) hP c109_62 (Nat.le_of_ble_eq_true rfl) rfl ?_
    subst he
    exact y_noSet_b hP hKb hRb hb h 0 (Nat.zero_le _) _ hacc
  · have hlt : k < 18 := by
      rcases Nat.lt_or_ge k 18 with q | q
      · exact q
      · exact absurd (nI_le q (by omega)) h40
    refine r_al hP c109_43 rfl ?_
    refine r_gR (x := 136) hP c109_44 (zj119 hKb) (zr119_17 hRb) ?_
    refine r_ic hP c109_47 ?_
    refine r_il hP c109_49 rfl ?_
    refine r_imul hP c109_50 ?_
    refine r_ti (y := nI (18 * b)) (pk_mul 18 b) ?_
    refine r_il hP c109_51 rfl ?_
    refine r_iadd hP c109_52 ?_
    refine r_ti (y := nI (18 * b + k)) (nI_add _ _) ?_
    refine r_ic hP c109_53 ?_
    refine r_iast (j := 18 * b + k) hP c109_54 (zk136 hKb) rfl (by omega) ?_
    refine r_inc (y := nI (k + 1)) (ls' := [.ref 119, .int (nI b), .int (nI (k + 1))]) hP c109_55 rfl (nI_1 _) rfl ?_
    refine r_goto hP c109_58 ?_
    exact ih hlt _ ⟨fun x j q1 q2 q3 q4 => (zup_n _ _ _ _ (by omega)).trans (hacc.1 x j q1 q2 q3 q4), ⟨(zup_n _ _ _ _ (by omega)).trans hacc.2.1.1, (zup_n _ _ _ _ (by omega)).trans hacc.2.1.2.1, (zup_n _ _ _ _ (by omega)).trans hacc.2.1.2.2.1, (zup_n _ _ _ _ (by omega)).trans hacc.2.1.2.2.2.1, (zup_n _ _ _ _ (by omega)).trans hacc.2.1.2.2.2.2⟩, fun i hi => by
      rcases Nat.lt_or_ge i k with z | z
      · rw [zup_n _ _ _ _ (by omega)]; exact hacc.2.2.1 i z
      · rw [show i = k from by omega, zup_s], fun i hi => (zup_n _ _ _ _ (by omega)).trans (hacc.2.2.2.1 i hi), fun i hi => (zup_n _ _ _ _ (by omega)).trans (hacc.2.2.2.2 i hi)⟩
set_option maxRecDepth 4000 in
theorem y_noSet {K : ZKh} {P : Nat → Nat → List Value → List Value → ZMi → ZMl → ZMr → ZRt → Prop} {I : ZMi} {L : ZMl} {R : ZMr} {Q : ZRt} (hP : ZCl K P) (hKb : zKb K) (hRb : zRb R) {b : Nat} (hb : b < 2) (h : ∀ I2, (∀ x j, ¬ ((x = 121 ∨ x = 124 ∨ x = 133 ∨ x = 135 ∨ x = 137) ∧ j = b) → ¬ (x = 136 ∧ 18 * b ≤ j ∧ j < 18 * b + 18) → ¬ (x = 141 ∧ 3 * b ≤ j ∧ j < 3 * b + 3) → ¬ (x = 142 ∧ 5 * b ≤ j ∧ j < 5 * b + 5) → I2 x j = I x j) ∧ (I2 121 b = 0 ∧ I2 124 b = 0 ∧ I2 133 b = 0 ∧ I2 135 b = 0 ∧ I2 137 b = 0) ∧ (∀ i, i < 18 → I2 136 (18 * b + i) = 0) ∧ (∀ i, i < 3 → I2 141 (3 * b + i) = 20) ∧ (∀ i, i < 5 → I2 142 (5 * b + i) = 5) → Q none I2 L R) : P 109 0 [.ref 119, .int (nI b), .null] [] I L R Q := by
  refine r_al hP c109_0 rfl ?_
  refine r_gR (x := 121) hP c109_1 (zj119 hKb) (zr119_2 hRb) ?_
  refine r_il hP c109_4 rfl ?_
  refine r_ic hP c109_5 ?_
  refine r_iast (j := b) hP c109_6 (zk121 hKb) rfl (by omega) ?_
  refine r_al hP c109_7 rfl ?_
  refine r_gR (x := 124) hP c109_8 (zj119 hKb) (zr119_5 hRb) ?_
  refine r_il hP c109_11 rfl ?_
  refine r_ic hP c109_12 ?_
  refine r_iast (j := b) hP c109_13 (zk124 hKb) rfl (by omega) ?_
  refine r_al hP c109_14 rfl ?_
  refine r_gR (x := 133) hP c109_15 (zj119 hKb) (zr119_14 hRb) ?_
  refine r_il hP c109_18 rfl ?_
  refine r_ic hP c109_19 ?_
  refine r_iast (j := b) hP c109_20 (zk133 hKb) rfl (by omega) ?_
  refine r_al hP c109_21 rfl ?_
  refine r_gR (x := 135) hP c109_22 (zj119 hKb) (zr119_16 hRb) ?_
  refine r_il hP c109_25 rfl ?_
  refine r_ic hP c109_26 ?_
  refine r_iast (j := b) hP c109_27 (zk135 hKb) rfl (by omega) ?_
  refine r_al hP c109_28 rfl ?_
  refine r_gR (x := 137) hP c109_29 (zj119 hKb) (zr119_18 hRb) ?_
  refine r_il hP c109_32 rfl ?_
  refine r_ic hP c109_33 ?_
  refine r_iast (j := b) hP c109_34 (zk137 hKb) rfl (by omega) ?_
  refine r_ic hP c109_35 ?_
  refine r_is (ls' := [.ref 119, .int (nI b), .int 0]) hP c109_36 (Nat.le_of_ble_eq_true rfl) rfl ?_
  exact y_noSet_a hP hKb hRb hb h 0 (Nat.zero_le _) _ ⟨fun x j q1 q2 q3 q4 => (zup_n _ _ _ _ (by omega)).trans ((zup_n _ _ _ _ (by omega)).trans ((zup_n _ _ _ _ (by omega)).trans ((zup_n _ _ _ _ (by omega)).trans ((zup_n _ _ _ _ (by omega)))))), ⟨((zup_n _ _ _ _ (by omega)).trans ((zup_n _ _ _ _ (by omega)).trans ((zup_n _ _ _ _ (by omega)).trans ((zup_n _ _ _ _ (by omega)).trans (zup_s _ _ _ _))))), ((zup_n _ _ _ _ (by omega)).trans ((zup_n _ _ _ _ (by omega)).trans ((zup_n _ _ _ _ (by omega)).trans (zup_s _ _ _ _)))), ((zup_n _ _ _ _ (by omega)).trans ((zup_n _ _ _ _ (by omega)).trans (zup_s _ _ _ _))), ((zup_n _ _ _ _ (by omega)).trans (zup_s _ _ _ _)), (zup_s _ _ _ _)⟩, fun i hi => absurd hi (Nat.not_lt_zero i), fun i hi => absurd hi (Nat.not_lt_zero i), fun i hi => absurd hi (Nat.not_lt_zero i)⟩
set_option maxRecDepth 4000 in
theorem y_isPartTold {K : ZKh} {P : Nat → Nat → List Value → List Value → ZMi → ZMl → ZMr → ZRt → Prop} {I : ZMi} {L : ZMl} {R : ZMr} {Q : ZRt} (hP : ZCl K P) (hKb : zKb K) (hRb : zRb R) {n : Nat} {x : Int32} (hn : n < 100) (e0 : I 148 0 = x) (e1 : I 124 1 = nI n) (h : Q (some (.int (if zr x n then 1 else 0))) I L R) : P 114 0 [.ref 119] [] I L R Q := by
  refine r_al hP c114_0 rfl ?_
  refine r_gR (x := 148) hP c114_1 (zj119 hKb) (zr119_31 hRb) ?_
  refine r_ic hP c114_4 ?_
  refine r_iald (j := 0) (x := x) hP c114_5 (zk148 hKb) rfl (by decide) e0 ?_
  refine r_i2l hP c114_6 ?_
  refine r_lc hP c114_7 ?_
  refine r_al hP c114_8 rfl ?_
  refine r_gR (x := 124) hP c114_9 (zj119 hKb) (zr119_5 hRb) ?_
  refine r_ic hP c114_12 ?_
  refine r_iald (j := 1) (x := nI n) hP c114_13 (zk124 hKb) rfl (by decide) e1 ?_
  refine r_ic hP c114_14 ?_
  refine r_isub hP c114_15 ?_
  refine r_i2l hP c114_16 ?_
  refine r_cSi (as := [.long x.toInt64, .long 0, .long (((nI n) - 1).toInt64)]) (r := []) (I' := I) (L' := L) (R' := R) (x := if 0 ≤ x.toInt64 ∧ x.toInt64 ≤ (nI n - 1).toInt64 then 1 else 0) hP c114_17 rfl rfl (fun _ h2 => x_isIn hP h2) ?_
  refine r_ti (y := if zr x n then 1 else 0) (zisM0 (by omega)) ?_
  exact r_zrB hP c114_20 h
set_option maxRecDepth 4000 in
theorem y_isStageTold {K : ZKh} {P : Nat → Nat → List Value → List Value → ZMi → ZMl → ZMr → ZRt → Prop} {I : ZMi} {L : ZMl} {R : ZMr} {Q : ZRt} (hP : ZCl K P) (hKb : zKb K) (hRb : zRb R) {n : Nat} {x : Int32} (hn : n < 100) (e0 : I 148 0 = x) (e1 : I 121 1 = nI n) (h : Q (some (.int (if zr x n then 1 else 0))) I L R) : P 115 0 [.ref 119] [] I L R Q := by
  refine r_al hP c115_0 rfl ?_
  refine r_gR (x := 148) hP c115_1 (zj119 hKb) (zr119_31 hRb) ?_
  refine r_ic hP c115_4 ?_
  refine r_iald (j := 0) (x := x) hP c115_5 (zk148 hKb) rfl (by decide) e0 ?_
  refine r_i2l hP c115_6 ?_
  refine r_lc hP c115_7 ?_
  refine r_al hP c115_8 rfl ?_
  refine r_gR (x := 121) hP c115_9 (zj119 hKb) (zr119_2 hRb) ?_
  refine r_ic hP c115_12 ?_
  refine r_iald (j := 1) (x := nI n) hP c115_13 (zk121 hKb) rfl (by decide) e1 ?_
  refine r_ic hP c115_14 ?_
  refine r_isub hP c115_15 ?_
  refine r_i2l hP c115_16 ?_
  refine r_cSi (as := [.long x.toInt64, .long 0, .long (((nI n) - 1).toInt64)]) (r := []) (I' := I) (L' := L) (R' := R) (x := if 0 ≤ x.toInt64 ∧ x.toInt64 ≤ (nI n - 1).toInt64 then 1 else 0) hP c115_17 rfl rfl (fun _ h2 => x_isIn hP h2) ?_
  refine r_ti (y := if zr x n then 1 else 0) (zisM0 (by omega)) ?_
  exact r_zrB hP c115_20 h
set_option maxRecDepth 4000 in
theorem y_stageItem {K : ZKh} {P : Nat → Nat → List Value → List Value → ZMi → ZMl → ZMr → ZRt → Prop} {I : ZMi} {L : ZMl} {R : ZMr} {Q : ZRt} (hP : ZCl K P) (hKb : zKb K) (hRb : zRb R) {len : Nat} {T : Nat → Nat} (hT : zTm I len T) (hl : len ≤ 400) (h256 : ∀ i, T i < 256) {S : ZS} {nS nP nW nL nM : Nat} (hE : zE I (S, nS, nP, nW, nL, nM)) (hub : zUb (S, nS, nP, nW, nL, nM)) {p : Nat} (hpl : I 119 30 = nI p) (hp : p ≤ 450) (h : ∀ I2, zfV I I2 → (∀ r, zi2 (zto T len) 2 p (S, nS, nP, nW, nL, nM) 115 = some r → zE I2 r.1 ∧ I2 119 30 = nI r.2) → Q (some (.int (if (zi2 (zto T len) 2 p (S, nS, nP, nW, nL, nM) 115).isSome = true then 1 else 0))) I2 L R) : P 116 0 [.ref 119, .null] [] I L R Q := by
  obtain ⟨hub1, hub2, hub3, hub4, hub5⟩ := id hub
  simp only at hub1 hub2 hub3 hub4 hub5
  refine r_ic hP c116_0 ?_
  refine r_al hP c116_2 rfl ?_
  refine r_gR (x := 121) hP c116_3 (zj119 hKb) (zr119_2 hRb) ?_
  refine r_ic hP c116_6 ?_
  refine r_iald (j := 1) (x := nI nS) hP c116_7 (zk121 hKb) rfl (by decide) hE.1.1 ?_
  refine r_iadd hP c116_8 ?_
  refine r_ti (y := nI (6 + nS)) (nI_add 6 nS) ?_
  refine r_is (ls' := [.ref 119, .int (nI (6 + nS))]) hP c116_9 (Nat.le_of_ble_eq_true rfl) rfl ?_
  refine r_al hP c116_10 rfl ?_
  refine r_ic hP c116_11 ?_
  refine r_cVip (as := [.int 2]) (r := []) (a := 119) hP c116_12 rfl (zj119 hKb) rfl (fun z I2 L2 R2 => (z = (if (zns (zto T len) 2 p 2).isSome = true then 1 else 0) ∧ zfZ I I2 ∧ (∀ q, zns (zto T len) 2 p 2 = some q → I2 119 30 = nI q.2 ∧ ∀ j, j < 2 → I2 148 j = q.1 j)) ∧ L = L2 ∧ R = R2) (fun Q2 hq => y_figures (many := 2) hP hKb hRb hT hl h256 (by decide) (by omega) hpl (fun I2 a b => hq _ I2 L R ⟨⟨rfl, a, b⟩, rfl, rfl⟩)) ?_
  rintro zz I2 L2 R2 ⟨⟨rfl, ha, hfq⟩, rfl, rfl⟩
  refine r_ifeqB hP c116_15 (fun h15 => ?_) (fun h15 => ?_)
  · refine r_ic hP c116_63 ?_
    first
      | (have hno : zi2 (zto T len) 2 p (S, nS, nP, nW, nL, nM) 115 = none := zi2_n1 (Option.not_isSome_iff_eq_none.mp h15)
         exact r_zr0 hP c116_64 (by rw [hno]; decide) (h _ (zfV_Z ha) (fun r z => by rw [hno] at z; cases z)))
      | (have hno : zi2 (zto T len) 2 p (S, nS, nP, nW, nL, nM) 115 = none := zi2_n2 hq (show zk_s S nS nP nW nL nM (q.1 0) (q.1 1) = none from if_neg (fun z => hlt z.1))
         exact r_zr0 hP c116_64 (by rw [hno]; decide) (h _ (zfV_Z ha) (fun r z => by rw [hno] at z; cases z)))
      | (have hno : zi2 (zto T len) 2 p (S, nS, nP, nW, nL, nM) 115 = none := zi2_n2 hq (show zk_s S nS nP nW nL nM (q.1 0) (q.1 1) = none from if_neg (fun z => h43 z.2.1))
         exact r_zr0 hP c116_64 (by rw [hno]; decide) (h _ (zfV_Z ha) (fun r z => by rw [hno] at z; cases z)))
      | (have hno : zi2 (zto T len) 2 p (S, nS, nP, nW, nL, nM) 115 = none := zi2_n2 hq (show zk_s S nS nP nW nL nM (q.1 0) (q.1 1) = none from if_neg (fun z => h60 z.2.2))
         exact r_zr0 hP c116_64 (by rw [hno]; decide) (h _ (zfV_Z ha) (fun r z => by rw [hno] at z; cases z)))
  · obtain ⟨q, hq⟩ := Option.isSome_iff_exists.mp h15
    obtain ⟨hpq, hf⟩ := hfq q hq
    have hE2 : zE I2 (S, nS, nP, nW, nL, nM) := zE_Z hE ha
    refine r_al hP c116_18 rfl ?_
    refine r_gR (x := 121) hP c116_19 (zj119 hKb) (zr119_2 hRb) ?_
    refine r_ic hP c116_22 ?_
    refine r_iald (j := 1) (x := nI nS) hP c116_23 (zk121 hKb) rfl (by decide) hE2.1.1 ?_
    refine r_ic hP c116_24 ?_
    refine r_ieq hP c116_26 (fun h26 => ?_) (fun h26 => ?_)
    · have hlt : ¬ nS < 6 := by
        have := (nI_eq (b := 6) (by omega) (by decide)).mp h26
        omega
      refine r_ic hP c116_63 ?_
      first
        | (have hno : zi2 (zto T len) 2 p (S, nS, nP, nW, nL, nM) 115 = none := zi2_n1 (Option.not_isSome_iff_eq_none.mp h15)
           exact r_zr0 hP c116_64 (by rw [hno]; decide) (h _ (zfV_Z ha) (fun r z => by rw [hno] at z; cases z)))
        | (have hno : zi2 (zto T len) 2 p (S, nS, nP, nW, nL, nM) 115 = none := zi2_n2 hq (show zk_s S nS nP nW nL nM (q.1 0) (q.1 1) = none from if_neg (fun z => hlt z.1))
           exact r_zr0 hP c116_64 (by rw [hno]; decide) (h _ (zfV_Z ha) (fun r z => by rw [hno] at z; cases z)))
        | (have hno : zi2 (zto T len) 2 p (S, nS, nP, nW, nL, nM) 115 = none := zi2_n2 hq (show zk_s S nS nP nW nL nM (q.1 0) (q.1 1) = none from if_neg (fun z => h43 z.2.1))
           exact r_zr0 hP c116_64 (by rw [hno]; decide) (h _ (zfV_Z ha) (fun r z => by rw [hno] at z; cases z)))
        | (have hno : zi2 (zto T len) 2 p (S, nS, nP, nW, nL, nM) 115 = none := zi2_n2 hq (show zk_s S nS nP nW nL nM (q.1 0) (q.1 1) = none from if_neg (fun z => h60 z.2.2))
           exact r_zr0 hP c116_64 (by rw [hno]; decide) (h _ (zfV_Z ha) (fun r z => by rw [hno] at z; cases z)))
    · have hlt : nS < 6 := by
        have hz : ¬ nS = 6 := fun z => h26 (by rw [z]; rfl)
        omega
      refine r_al hP c116_29 rfl ?_
      refine r_gR (x := 148) hP c116_30 (zj119 hKb) (zr119_31 hRb) ?_
      refine r_ic hP c116_33 ?_
      refine r_iald (j := 0) (x := q.1 0) hP c116_34 (zk148 hKb) rfl (by decide) (hf 0 (by decide)) ?_
      refine r_i2l hP c116_35 ?_
      refine r_lc hP c116_36 ?_
      refine r_lc hP c116_37 ?_
      refine r_cSi (as := [.long ((q.1 0).toInt64), .long 1, .long 50]) (r := []) (I' := I2) (L' := L) (R' := R) (x := if 1 ≤ (q.1 0).toInt64 ∧ (q.1 0).toInt64 ≤ 50 then 1 else 0) hP c116_40 rfl rfl (fun _ h2 => x_isIn hP h2) ?_
      refine r_ti (y := if 1 ≤ (q.1 0) ∧ (q.1 0) ≤ 50 then 1 else 0) (zisC rfl rfl) ?_
      refine r_ifeqB hP c116_43 (fun h43 => ?_) (fun h43 => ?_)
      · refine r_ic hP c116_63 ?_
        first
          | (have hno : zi2 (zto T len) 2 p (S, nS, nP, nW, nL, nM) 115 = none := zi2_n1 (Option.not_isSome_iff_eq_none.mp h15)
             exact r_zr0 hP c116_64 (by rw [hno]; decide) (h _ (zfV_Z ha) (fun r z => by rw [hno] at z; cases z)))
          | (have hno : zi2 (zto T len) 2 p (S, nS, nP, nW, nL, nM) 115 = none := zi2_n2 hq (show zk_s S nS nP nW nL nM (q.1 0) (q.1 1) = none from if_neg (fun z => hlt z.1))
             exact r_zr0 hP c116_64 (by rw [hno]; decide) (h _ (zfV_Z ha) (fun r z => by rw [hno] at z; cases z)))
          | (have hno : zi2 (zto T len) 2 p (S, nS, nP, nW, nL, nM) 115 = none := zi2_n2 hq (show zk_s S nS nP nW nL nM (q.1 0) (q.1 1) = none from if_neg (fun z => h43 z.2.1))
             exact r_zr0 hP c116_64 (by rw [hno]; decide) (h _ (zfV_Z ha) (fun r z => by rw [hno] at z; cases z)))
          | (have hno : zi2 (zto T len) 2 p (S, nS, nP, nW, nL, nM) 115 = none := zi2_n2 hq (show zk_s S nS nP nW nL nM (q.1 0) (q.1 1) = none from if_neg (fun z => h60 z.2.2))
             exact r_zr0 hP c116_64 (by rw [hno]; decide) (h _ (zfV_Z ha) (fun r z => by rw [hno] at z; cases z)))
      · refine r_al hP c116_46 rfl ?_
        refine r_gR (x := 148) hP c116_47 (zj119 hKb) (zr119_31 hRb) ?_
        refine r_ic hP c116_50 ?_
        refine r_iald (j := 1) (x := q.1 1) hP c116_51 (zk148 hKb) rfl (by decide) (hf 1 (by decide)) ?_
        refine r_i2l hP c116_52 ?_
        refine r_lc hP c116_53 ?_
        refine r_lc hP c116_54 ?_
        refine r_cSi (as := [.long ((q.1 1).toInt64), .long 1, .long 99]) (r := []) (I' := I2) (L' := L) (R' := R) (x := if 1 ≤ (q.1 1).toInt64 ∧ (q.1 1).toInt64 ≤ 99 then 1 else 0) hP c116_57 rfl rfl (fun _ h2 => x_isIn hP h2) ?_
        refine r_ti (y := if 1 ≤ (q.1 1) ∧ (q.1 1) ≤ 99 then 1 else 0) (zisC rfl rfl) ?_
        refine r_ifneB hP c116_60 (fun h60 => ?_) (fun h60 => ?_)
        · refine r_al hP c116_65 rfl ?_
          refine r_gR (x := 122) hP c116_66 (zj119 hKb) (zr119_3 hRb) ?_
          refine r_il hP c116_69 rfl ?_
          refine r_al hP c116_70 rfl ?_
          refine r_gR (x := 148) hP c116_71 (zj119 hKb) (zr119_31 hRb) ?_
          refine r_ic hP c116_74 ?_
          refine r_iald (j := 0) (x := q.1 0) hP c116_75 (zk148 hKb) rfl (by decide) (hf 0 (by decide)) ?_
          refine r_iast (j := 6 + nS) hP c116_76 (zk122 hKb) rfl (by omega) ?_
          refine r_al hP c116_77 rfl ?_
          refine r_gR (x := 123) hP c116_78 (zj119 hKb) (zr119_4 hRb) ?_
          refine r_il hP c116_81 rfl ?_
          refine r_al hP c116_82 rfl ?_
          refine r_gR (x := 148) hP c116_83 (zj119 hKb) (zr119_31 hRb) ?_
          refine r_ic hP c116_86 ?_
          refine r_iald (j := 1) (x := q.1 1) hP c116_87 (zk148 hKb) rfl (by decide) ((zup_n _ _ _ _ (by omega)).trans (hf 1 (by decide))) ?_
          refine r_iast (j := 6 + nS) hP c116_88 (zk123 hKb) rfl (by omega) ?_
          refine r_al hP c116_89 rfl ?_
          refine r_gR (x := 121) hP c116_90 (zj119 hKb) (zr119_2 hRb) ?_
          refine r_ic hP c116_93 ?_
          refine r_dup2 hP c116_94 rfl rfl ?_
          refine r_iald (j := 1) (x := nI nS) hP c116_95 (zk121 hKb) rfl (by decide) ((zup_n _ _ _ _ (by omega)).trans ((zup_n _ _ _ _ (by omega)).trans hE2.1.1)) ?_
          refine r_ic hP c116_96 ?_
          refine r_iadd hP c116_97 ?_
          refine r_ti (y := nI (nS + 1)) (nI_1 _) ?_
          refine r_iast (j := 1) hP c116_98 (zk121 hKb) rfl (by decide) ?_
          refine r_ic hP c116_99 ?_
          have hs_ : zi2 (zto T len) 2 p (S, nS, nP, nW, nL, nM) 115 = some _ := zi2_s hq (show zk_s S nS nP nW nL nM (q.1 0) (q.1 1) = some _ from if_pos ⟨hlt, h43, h60⟩)
          exact r_zr1 hP c116_100 (by rw [hs_]; rfl) (h _ (zfV_u ((zfV_u ((zfV_u (zfV_Z ha) (by decide) (by decide) (show 6 ≤ _ from by omega))) (by decide) (by decide) (show 6 ≤ _ from by omega))) (by decide) (by decide) (show 1 ≤ _ from by omega)) (fun r z => by
            rw [hs_] at z
            cases z
            exact ⟨zE_s hE2 hub1 hub2 hub3 hlt, ((zup_n _ _ _ _ (by omega)).trans ((zup_n _ _ _ _ (by omega)).trans ((zup_n _ _ _ _ (by omega)).trans hpq)))⟩))
        · refine r_ic hP c116_63 ?_
          first
            | (have hno : zi2 (zto T len) 2 p (S, nS, nP, nW, nL, nM) 115 = none := zi2_n1 (Option.not_isSome_iff_eq_none.mp h15)
               exact r_zr0 hP c116_64 (by rw [hno]; decide) (h _ (zfV_Z ha) (fun r z => by rw [hno] at z; cases z)))
            | (have hno : zi2 (zto T len) 2 p (S, nS, nP, nW, nL, nM) 115 = none := zi2_n2 hq (show zk_s S nS nP nW nL nM (q.1 0) (q.1 1) = none from if_neg (fun z => hlt z.1))
               exact r_zr0 hP c116_64 (by rw [hno]; decide) (h _ (zfV_Z ha) (fun r z => by rw [hno] at z; cases z)))
            | (have hno : zi2 (zto T len) 2 p (S, nS, nP, nW, nL, nM) 115 = none := zi2_n2 hq (show zk_s S nS nP nW nL nM (q.1 0) (q.1 1) = none from if_neg (fun z => h43 z.2.1))
               exact r_zr0 hP c116_64 (by rw [hno]; decide) (h _ (zfV_Z ha) (fun r z => by rw [hno] at z; cases z)))
            | (have hno : zi2 (zto T len) 2 p (S, nS, nP, nW, nL, nM) 115 = none := zi2_n2 hq (show zk_s S nS nP nW nL nM (q.1 0) (q.1 1) = none from if_neg (fun z => h60 z.2.2))
               exact r_zr0 hP c116_64 (by rw [hno]; decide) (h _ (zfV_Z ha) (fun r z => by rw [hno] at z; cases z)))
set_option maxRecDepth 4000 in
theorem y_partItem {K : ZKh} {P : Nat → Nat → List Value → List Value → ZMi → ZMl → ZMr → ZRt → Prop} {I : ZMi} {L : ZMl} {R : ZMr} {Q : ZRt} (hP : ZCl K P) (hKb : zKb K) (hRb : zRb R) {len : Nat} {T : Nat → Nat} (hT : zTm I len T) (hl : len ≤ 400) (h256 : ∀ i, T i < 256) {S : ZS} {nS nP nW nL nM : Nat} (hE : zE I (S, nS, nP, nW, nL, nM)) (hub : zUb (S, nS, nP, nW, nL, nM)) {p : Nat} (hpl : I 119 30 = nI p) (hp : p ≤ 450) (h : ∀ I2, zfV I I2 → (∀ r, zi2 (zto T len) 5 p (S, nS, nP, nW, nL, nM) 112 = some r → zE I2 r.1 ∧ I2 119 30 = nI r.2) → Q (some (.int (if (zi2 (zto T len) 5 p (S, nS, nP, nW, nL, nM) 112).isSome = true then 1 else 0))) I2 L R) : P 117 0 [.ref 119, .null] [] I L R Q := by
  obtain ⟨hub1, hub2, hub3, hub4, hub5⟩ := id hub
  simp only at hub1 hub2 hub3 hub4 hub5
  refine r_ic hP c117_0 ?_
  refine r_al hP c117_2 rfl ?_
  refine r_gR (x := 124) hP c117_3 (zj119 hKb) (zr119_5 hRb) ?_
  refine r_ic hP c117_6 ?_
  refine r_iald (j := 1) (x := nI nP) hP c117_7 (zk124 hKb) rfl (by decide) hE.1.2.1 ?_
  refine r_iadd hP c117_8 ?_
  refine r_ti (y := nI (8 + nP)) (nI_add 8 nP) ?_
  refine r_is (ls' := [.ref 119, .int (nI (8 + nP))]) hP c117_9 (Nat.le_of_ble_eq_true rfl) rfl ?_
  refine r_al hP c117_10 rfl ?_
  refine r_ic hP c117_11 ?_
  refine r_cVip (as := [.int 5]) (r := []) (a := 119) hP c117_12 rfl (zj119 hKb) rfl (fun z I2 L2 R2 => (z = (if (zns (zto T len) 5 p 5).isSome = true then 1 else 0) ∧ zfZ I I2 ∧ (∀ q, zns (zto T len) 5 p 5 = some q → I2 119 30 = nI q.2 ∧ ∀ j, j < 5 → I2 148 j = q.1 j)) ∧ L = L2 ∧ R = R2) (fun Q2 hq => y_figures (many := 5) hP hKb hRb hT hl h256 (by decide) (by omega) hpl (fun I2 a b => hq _ I2 L R ⟨⟨rfl, a, b⟩, rfl, rfl⟩)) ?_
  rintro zz I2 L2 R2 ⟨⟨rfl, ha, hfq⟩, rfl, rfl⟩
  refine r_ifeqB hP c117_15 (fun h15 => ?_) (fun h15 => ?_)
  · refine r_ic hP c117_104 ?_
    first
      | (have hno : zi2 (zto T len) 5 p (S, nS, nP, nW, nL, nM) 112 = none := zi2_n1 (Option.not_isSome_iff_eq_none.mp h15)
         exact r_zr0 hP c117_105 (by rw [hno]; decide) (h _ (zfV_Z ha) (fun r z => by rw [hno] at z; cases z)))
      | (have hno : zi2 (zto T len) 5 p (S, nS, nP, nW, nL, nM) 112 = none := zi2_n2 hq (show zk_p S nS nP nW nL nM (q.1 0) (q.1 1) (q.1 2) (q.1 3) (q.1 4) = none from if_neg (fun z => hlt z.1))
         exact r_zr0 hP c117_105 (by rw [hno]; decide) (h _ (zfV_Z ha) (fun r z => by rw [hno] at z; cases z)))
      | (have hno : zi2 (zto T len) 5 p (S, nS, nP, nW, nL, nM) 112 = none := zi2_n2 hq (show zk_p S nS nP nW nL nM (q.1 0) (q.1 1) (q.1 2) (q.1 3) (q.1 4) = none from if_neg (fun z => h33 z.2.1))
         exact r_zr0 hP c117_105 (by rw [hno]; decide) (h _ (zfV_Z ha) (fun r z => by rw [hno] at z; cases z)))
      | (have hno : zi2 (zto T len) 5 p (S, nS, nP, nW, nL, nM) 112 = none := zi2_n2 hq (show zk_p S nS nP nW nL nM (q.1 0) (q.1 1) (q.1 2) (q.1 3) (q.1 4) = none from if_neg (fun z => h50 z.2.2.1))
         exact r_zr0 hP c117_105 (by rw [hno]; decide) (h _ (zfV_Z ha) (fun r z => by rw [hno] at z; cases z)))
      | (have hno : zi2 (zto T len) 5 p (S, nS, nP, nW, nL, nM) 112 = none := zi2_n2 hq (show zk_p S nS nP nW nL nM (q.1 0) (q.1 1) (q.1 2) (q.1 3) (q.1 4) = none from if_neg (fun z => h67 z.2.2.2.1))
         exact r_zr0 hP c117_105 (by rw [hno]; decide) (h _ (zfV_Z ha) (fun r z => by rw [hno] at z; cases z)))
      | (have hno : zi2 (zto T len) 5 p (S, nS, nP, nW, nL, nM) 112 = none := zi2_n2 hq (show zk_p S nS nP nW nL nM (q.1 0) (q.1 1) (q.1 2) (q.1 3) (q.1 4) = none from if_neg (fun z => h84 z.2.2.2.2.1))
         exact r_zr0 hP c117_105 (by rw [hno]; decide) (h _ (zfV_Z ha) (fun r z => by rw [hno] at z; cases z)))
      | (have hno : zi2 (zto T len) 5 p (S, nS, nP, nW, nL, nM) 112 = none := zi2_n2 hq (show zk_p S nS nP nW nL nM (q.1 0) (q.1 1) (q.1 2) (q.1 3) (q.1 4) = none from if_neg (fun z => h101 z.2.2.2.2.2))
         exact r_zr0 hP c117_105 (by rw [hno]; decide) (h _ (zfV_Z ha) (fun r z => by rw [hno] at z; cases z)))
  · obtain ⟨q, hq⟩ := Option.isSome_iff_exists.mp h15
    obtain ⟨hpq, hf⟩ := hfq q hq
    have hE2 : zE I2 (S, nS, nP, nW, nL, nM) := zE_Z hE ha
    refine r_al hP c117_18 rfl ?_
    refine r_gR (x := 124) hP c117_19 (zj119 hKb) (zr119_5 hRb) ?_
    refine r_ic hP c117_22 ?_
    refine r_iald (j := 1) (x := nI nP) hP c117_23 (zk124 hKb) rfl (by decide) hE2.1.2.1 ?_
    refine r_ic hP c117_24 ?_
    refine r_ieq hP c117_26 (fun h26 => ?_) (fun h26 => ?_)
    · have hlt : ¬ nP < 8 := by
        have := (nI_eq (b := 8) (by omega) (by decide)).mp h26
        omega
      refine r_ic hP c117_104 ?_
      first
        | (have hno : zi2 (zto T len) 5 p (S, nS, nP, nW, nL, nM) 112 = none := zi2_n1 (Option.not_isSome_iff_eq_none.mp h15)
           exact r_zr0 hP c117_105 (by rw [hno]; decide) (h _ (zfV_Z ha) (fun r z => by rw [hno] at z; cases z)))
        | (have hno : zi2 (zto T len) 5 p (S, nS, nP, nW, nL, nM) 112 = none := zi2_n2 hq (show zk_p S nS nP nW nL nM (q.1 0) (q.1 1) (q.1 2) (q.1 3) (q.1 4) = none from if_neg (fun z => hlt z.1))
           exact r_zr0 hP c117_105 (by rw [hno]; decide) (h _ (zfV_Z ha) (fun r z => by rw [hno] at z; cases z)))
        | (have hno : zi2 (zto T len) 5 p (S, nS, nP, nW, nL, nM) 112 = none := zi2_n2 hq (show zk_p S nS nP nW nL nM (q.1 0) (q.1 1) (q.1 2) (q.1 3) (q.1 4) = none from if_neg (fun z => h33 z.2.1))
           exact r_zr0 hP c117_105 (by rw [hno]; decide) (h _ (zfV_Z ha) (fun r z => by rw [hno] at z; cases z)))
        | (have hno : zi2 (zto T len) 5 p (S, nS, nP, nW, nL, nM) 112 = none := zi2_n2 hq (show zk_p S nS nP nW nL nM (q.1 0) (q.1 1) (q.1 2) (q.1 3) (q.1 4) = none from if_neg (fun z => h50 z.2.2.1))
           exact r_zr0 hP c117_105 (by rw [hno]; decide) (h _ (zfV_Z ha) (fun r z => by rw [hno] at z; cases z)))
        | (have hno : zi2 (zto T len) 5 p (S, nS, nP, nW, nL, nM) 112 = none := zi2_n2 hq (show zk_p S nS nP nW nL nM (q.1 0) (q.1 1) (q.1 2) (q.1 3) (q.1 4) = none from if_neg (fun z => h67 z.2.2.2.1))
           exact r_zr0 hP c117_105 (by rw [hno]; decide) (h _ (zfV_Z ha) (fun r z => by rw [hno] at z; cases z)))
        | (have hno : zi2 (zto T len) 5 p (S, nS, nP, nW, nL, nM) 112 = none := zi2_n2 hq (show zk_p S nS nP nW nL nM (q.1 0) (q.1 1) (q.1 2) (q.1 3) (q.1 4) = none from if_neg (fun z => h84 z.2.2.2.2.1))
           exact r_zr0 hP c117_105 (by rw [hno]; decide) (h _ (zfV_Z ha) (fun r z => by rw [hno] at z; cases z)))
        | (have hno : zi2 (zto T len) 5 p (S, nS, nP, nW, nL, nM) 112 = none := zi2_n2 hq (show zk_p S nS nP nW nL nM (q.1 0) (q.1 1) (q.1 2) (q.1 3) (q.1 4) = none from if_neg (fun z => h101 z.2.2.2.2.2))
           exact r_zr0 hP c117_105 (by rw [hno]; decide) (h _ (zfV_Z ha) (fun r z => by rw [hno] at z; cases z)))
    · have hlt : nP < 8 := by
        have hz : ¬ nP = 8 := fun z => h26 (by rw [z]; rfl)
        omega
      refine r_al hP c117_29 rfl ?_
      refine r_cVi (as := []) (r := []) (I' := I2) (L' := L) (R' := R) (x := if zr (q.1 0) nS then 1 else 0) (a := 119) hP c117_30 rfl (zj119 hKb) rfl (fun _ hq => y_isStageTold (n := nS) hP hKb hRb (by omega) (hf 0 (by decide)) hE2.1.1 hq) ?_
      refine r_ifeqB hP c117_33 (fun h33 => ?_) (fun h33 => ?_)
      · refine r_ic hP c117_104 ?_
        first
          | (have hno : zi2 (zto T len) 5 p (S, nS, nP, nW, nL, nM) 112 = none := zi2_n1 (Option.not_isSome_iff_eq_none.mp h15)
             exact r_zr0 hP c117_105 (by rw [hno]; decide) (h _ (zfV_Z ha) (fun r z => by rw [hno] at z; cases z)))
          | (have hno : zi2 (zto T len) 5 p (S, nS, nP, nW, nL, nM) 112 = none := zi2_n2 hq (show zk_p S nS nP nW nL nM (q.1 0) (q.1 1) (q.1 2) (q.1 3) (q.1 4) = none from if_neg (fun z => hlt z.1))
             exact r_zr0 hP c117_105 (by rw [hno]; decide) (h _ (zfV_Z ha) (fun r z => by rw [hno] at z; cases z)))
          | (have hno : zi2 (zto T len) 5 p (S, nS, nP, nW, nL, nM) 112 = none := zi2_n2 hq (show zk_p S nS nP nW nL nM (q.1 0) (q.1 1) (q.1 2) (q.1 3) (q.1 4) = none from if_neg (fun z => h33 z.2.1))
             exact r_zr0 hP c117_105 (by rw [hno]; decide) (h _ (zfV_Z ha) (fun r z => by rw [hno] at z; cases z)))
          | (have hno : zi2 (zto T len) 5 p (S, nS, nP, nW, nL, nM) 112 = none := zi2_n2 hq (show zk_p S nS nP nW nL nM (q.1 0) (q.1 1) (q.1 2) (q.1 3) (q.1 4) = none from if_neg (fun z => h50 z.2.2.1))
             exact r_zr0 hP c117_105 (by rw [hno]; decide) (h _ (zfV_Z ha) (fun r z => by rw [hno] at z; cases z)))
          | (have hno : zi2 (zto T len) 5 p (S, nS, nP, nW, nL, nM) 112 = none := zi2_n2 hq (show zk_p S nS nP nW nL nM (q.1 0) (q.1 1) (q.1 2) (q.1 3) (q.1 4) = none from if_neg (fun z => h67 z.2.2.2.1))
             exact r_zr0 hP c117_105 (by rw [hno]; decide) (h _ (zfV_Z ha) (fun r z => by rw [hno] at z; cases z)))
          | (have hno : zi2 (zto T len) 5 p (S, nS, nP, nW, nL, nM) 112 = none := zi2_n2 hq (show zk_p S nS nP nW nL nM (q.1 0) (q.1 1) (q.1 2) (q.1 3) (q.1 4) = none from if_neg (fun z => h84 z.2.2.2.2.1))
             exact r_zr0 hP c117_105 (by rw [hno]; decide) (h _ (zfV_Z ha) (fun r z => by rw [hno] at z; cases z)))
          | (have hno : zi2 (zto T len) 5 p (S, nS, nP, nW, nL, nM) 112 = none := zi2_n2 hq (show zk_p S nS nP nW nL nM (q.1 0) (q.1 1) (q.1 2) (q.1 3) (q.1 4) = none from if_neg (fun z => h101 z.2.2.2.2.2))
             exact r_zr0 hP c117_105 (by rw [hno]; decide) (h _ (zfV_Z ha) (fun r z => by rw [hno] at z; cases z)))
      · refine r_al hP c117_36 rfl ?_
        refine r_gR (x := 148) hP c117_37 (zj119 hKb) (zr119_31 hRb) ?_
        refine r_ic hP c117_40 ?_
        refine r_iald (j := 1) (x := q.1 1) hP c117_41 (zk148 hKb) rfl (by decide) (hf 1 (by decide)) ?_
        refine r_i2l hP c117_42 ?_
        refine r_lc hP c117_43 ?_
        refine r_lc hP c117_44 ?_
        refine r_cSi (as := [.long ((q.1 1).toInt64), .long 0, .long 4]) (r := []) (I' := I2) (L' := L) (R' := R) (x := if 0 ≤ (q.1 1).toInt64 ∧ (q.1 1).toInt64 ≤ 4 then 1 else 0) hP c117_47 rfl rfl (fun _ h2 => x_isIn hP h2) ?_
        refine r_ti (y := if 0 ≤ (q.1 1) ∧ (q.1 1) ≤ 4 then 1 else 0) (zisC rfl rfl) ?_
        refine r_ifeqB hP c117_50 (fun h50 => ?_) (fun h50 => ?_)
        · refine r_ic hP c117_104 ?_
          first
            | (have hno : zi2 (zto T len) 5 p (S, nS, nP, nW, nL, nM) 112 = none := zi2_n1 (Option.not_isSome_iff_eq_none.mp h15)
               exact r_zr0 hP c117_105 (by rw [hno]; decide) (h _ (zfV_Z ha) (fun r z => by rw [hno] at z; cases z)))
            | (have hno : zi2 (zto T len) 5 p (S, nS, nP, nW, nL, nM) 112 = none := zi2_n2 hq (show zk_p S nS nP nW nL nM (q.1 0) (q.1 1) (q.1 2) (q.1 3) (q.1 4) = none from if_neg (fun z => hlt z.1))
               exact r_zr0 hP c117_105 (by rw [hno]; decide) (h _ (zfV_Z ha) (fun r z => by rw [hno] at z; cases z)))
            | (have hno : zi2 (zto T len) 5 p (S, nS, nP, nW, nL, nM) 112 = none := zi2_n2 hq (show zk_p S nS nP nW nL nM (q.1 0) (q.1 1) (q.1 2) (q.1 3) (q.1 4) = none from if_neg (fun z => h33 z.2.1))
               exact r_zr0 hP c117_105 (by rw [hno]; decide) (h _ (zfV_Z ha) (fun r z => by rw [hno] at z; cases z)))
            | (have hno : zi2 (zto T len) 5 p (S, nS, nP, nW, nL, nM) 112 = none := zi2_n2 hq (show zk_p S nS nP nW nL nM (q.1 0) (q.1 1) (q.1 2) (q.1 3) (q.1 4) = none from if_neg (fun z => h50 z.2.2.1))
               exact r_zr0 hP c117_105 (by rw [hno]; decide) (h _ (zfV_Z ha) (fun r z => by rw [hno] at z; cases z)))
            | (have hno : zi2 (zto T len) 5 p (S, nS, nP, nW, nL, nM) 112 = none := zi2_n2 hq (show zk_p S nS nP nW nL nM (q.1 0) (q.1 1) (q.1 2) (q.1 3) (q.1 4) = none from if_neg (fun z => h67 z.2.2.2.1))
               exact r_zr0 hP c117_105 (by rw [hno]; decide) (h _ (zfV_Z ha) (fun r z => by rw [hno] at z; cases z)))
            | (have hno : zi2 (zto T len) 5 p (S, nS, nP, nW, nL, nM) 112 = none := zi2_n2 hq (show zk_p S nS nP nW nL nM (q.1 0) (q.1 1) (q.1 2) (q.1 3) (q.1 4) = none from if_neg (fun z => h84 z.2.2.2.2.1))
               exact r_zr0 hP c117_105 (by rw [hno]; decide) (h _ (zfV_Z ha) (fun r z => by rw [hno] at z; cases z)))
            | (have hno : zi2 (zto T len) 5 p (S, nS, nP, nW, nL, nM) 112 = none := zi2_n2 hq (show zk_p S nS nP nW nL nM (q.1 0) (q.1 1) (q.1 2) (q.1 3) (q.1 4) = none from if_neg (fun z => h101 z.2.2.2.2.2))
               exact r_zr0 hP c117_105 (by rw [hno]; decide) (h _ (zfV_Z ha) (fun r z => by rw [hno] at z; cases z)))
        · refine r_al hP c117_53 rfl ?_
          refine r_gR (x := 148) hP c117_54 (zj119 hKb) (zr119_31 hRb) ?_
          refine r_ic hP c117_57 ?_
          refine r_iald (j := 2) (x := q.1 2) hP c117_58 (zk148 hKb) rfl (by decide) (hf 2 (by decide)) ?_
          refine r_i2l hP c117_59 ?_
          refine r_lc hP c117_60 ?_
          refine r_lc hP c117_61 ?_
          refine r_cSi (as := [.long ((q.1 2).toInt64), .long 0, .long 99]) (r := []) (I' := I2) (L' := L) (R' := R) (x := if 0 ≤ (q.1 2).toInt64 ∧ (q.1 2).toInt64 ≤ 99 then 1 else 0) hP c117_64 rfl rfl (fun _ h2 => x_isIn hP h2) ?_
          refine r_ti (y := if 0 ≤ (q.1 2) ∧ (q.1 2) ≤ 99 then 1 else 0) (zisC rfl rfl) ?_
          refine r_ifeqB hP c117_67 (fun h67 => ?_) (fun h67 => ?_)
          · refine r_ic hP c117_104 ?_
            first
              | (have hno : zi2 (zto T len) 5 p (S, nS, nP, nW, nL, nM) 112 = none := zi2_n1 (Option.not_isSome_iff_eq_none.mp h15)
                 exact r_zr0 hP c117_105 (by rw [hno]; decide) (h _ (zfV_Z ha) (fun r z => by rw [hno] at z; cases z)))
              | (have hno : zi2 (zto T len) 5 p (S, nS, nP, nW, nL, nM) 112 = none := zi2_n2 hq (show zk_p S nS nP nW nL nM (q.1 0) (q.1 1) (q.1 2) (q.1 3) (q.1 4) = none from if_neg (fun z => hlt z.1))
                 exact r_zr0 hP c117_105 (by rw [hno]; decide) (h _ (zfV_Z ha) (fun r z => by rw [hno] at z; cases z)))
              | (have hno : zi2 (zto T len) 5 p (S, nS, nP, nW, nL, nM) 112 = none := zi2_n2 hq (show zk_p S nS nP nW nL nM (q.1 0) (q.1 1) (q.1 2) (q.1 3) (q.1 4) = none from if_neg (fun z => h33 z.2.1))
                 exact r_zr0 hP c117_105 (by rw [hno]; decide) (h _ (zfV_Z ha) (fun r z => by rw [hno] at z; cases z)))
              | (have hno : zi2 (zto T len) 5 p (S, nS, nP, nW, nL, nM) 112 = none := zi2_n2 hq (show zk_p S nS nP nW nL nM (q.1 0) (q.1 1) (q.1 2) (q.1 3) (q.1 4) = none from if_neg (fun z => h50 z.2.2.1))
                 exact r_zr0 hP c117_105 (by rw [hno]; decide) (h _ (zfV_Z ha) (fun r z => by rw [hno] at z; cases z)))
              | (have hno : zi2 (zto T len) 5 p (S, nS, nP, nW, nL, nM) 112 = none := zi2_n2 hq (show zk_p S nS nP nW nL nM (q.1 0) (q.1 1) (q.1 2) (q.1 3) (q.1 4) = none from if_neg (fun z => h67 z.2.2.2.1))
                 exact r_zr0 hP c117_105 (by rw [hno]; decide) (h _ (zfV_Z ha) (fun r z => by rw [hno] at z; cases z)))
              | (have hno : zi2 (zto T len) 5 p (S, nS, nP, nW, nL, nM) 112 = none := zi2_n2 hq (show zk_p S nS nP nW nL nM (q.1 0) (q.1 1) (q.1 2) (q.1 3) (q.1 4) = none from if_neg (fun z => h84 z.2.2.2.2.1))
                 exact r_zr0 hP c117_105 (by rw [hno]; decide) (h _ (zfV_Z ha) (fun r z => by rw [hno] at z; cases z)))
              | (have hno : zi2 (zto T len) 5 p (S, nS, nP, nW, nL, nM) 112 = none := zi2_n2 hq (show zk_p S nS nP nW nL nM (q.1 0) (q.1 1) (q.1 2) (q.1 3) (q.1 4) = none from if_neg (fun z => h101 z.2.2.2.2.2))
                 exact r_zr0 hP c117_105 (by rw [hno]; decide) (h _ (zfV_Z ha) (fun r z => by rw [hno] at z; cases z)))
          · refine r_al hP c117_70 rfl ?_
            refine r_gR (x := 148) hP c117_71 (zj119 hKb) (zr119_31 hRb) ?_
            refine r_ic hP c117_74 ?_
            refine r_iald (j := 3) (x := q.1 3) hP c117_75 (zk148 hKb) rfl (by decide) (hf 3 (by decide)) ?_
            refine r_i2l hP c117_76 ?_
            refine r_lc hP c117_77 ?_
            refine r_lc hP c117_78 ?_
            refine r_cSi (as := [.long ((q.1 3).toInt64), .long 0, .long 9]) (r := []) (I' := I2) (L' := L) (R' := R) (x := if 0 ≤ (q.1 3).toInt64 ∧ (q.1 3).toInt64 ≤ 9 then 1 else 0) hP c117_81 rfl rfl (fun _ h2 => x_isIn hP h2) ?_
            refine r_ti (y := if 0 ≤ (q.1 3) ∧ (q.1 3) ≤ 9 then 1 else 0) (zisC rfl rfl) ?_
            refine r_ifeqB hP c117_84 (fun h84 => ?_) (fun h84 => ?_)
            · refine r_ic hP c117_104 ?_
              first
                | (have hno : zi2 (zto T len) 5 p (S, nS, nP, nW, nL, nM) 112 = none := zi2_n1 (Option.not_isSome_iff_eq_none.mp h15)
                   exact r_zr0 hP c117_105 (by rw [hno]; decide) (h _ (zfV_Z ha) (fun r z => by rw [hno] at z; cases z)))
                | (have hno : zi2 (zto T len) 5 p (S, nS, nP, nW, nL, nM) 112 = none := zi2_n2 hq (show zk_p S nS nP nW nL nM (q.1 0) (q.1 1) (q.1 2) (q.1 3) (q.1 4) = none from if_neg (fun z => hlt z.1))
                   exact r_zr0 hP c117_105 (by rw [hno]; decide) (h _ (zfV_Z ha) (fun r z => by rw [hno] at z; cases z)))
                | (have hno : zi2 (zto T len) 5 p (S, nS, nP, nW, nL, nM) 112 = none := zi2_n2 hq (show zk_p S nS nP nW nL nM (q.1 0) (q.1 1) (q.1 2) (q.1 3) (q.1 4) = none from if_neg (fun z => h33 z.2.1))
                   exact r_zr0 hP c117_105 (by rw [hno]; decide) (h _ (zfV_Z ha) (fun r z => by rw [hno] at z; cases z)))
                | (have hno : zi2 (zto T len) 5 p (S, nS, nP, nW, nL, nM) 112 = none := zi2_n2 hq (show zk_p S nS nP nW nL nM (q.1 0) (q.1 1) (q.1 2) (q.1 3) (q.1 4) = none from if_neg (fun z => h50 z.2.2.1))
                   exact r_zr0 hP c117_105 (by rw [hno]; decide) (h _ (zfV_Z ha) (fun r z => by rw [hno] at z; cases z)))
                | (have hno : zi2 (zto T len) 5 p (S, nS, nP, nW, nL, nM) 112 = none := zi2_n2 hq (show zk_p S nS nP nW nL nM (q.1 0) (q.1 1) (q.1 2) (q.1 3) (q.1 4) = none from if_neg (fun z => h67 z.2.2.2.1))
                   exact r_zr0 hP c117_105 (by rw [hno]; decide) (h _ (zfV_Z ha) (fun r z => by rw [hno] at z; cases z)))
                | (have hno : zi2 (zto T len) 5 p (S, nS, nP, nW, nL, nM) 112 = none := zi2_n2 hq (show zk_p S nS nP nW nL nM (q.1 0) (q.1 1) (q.1 2) (q.1 3) (q.1 4) = none from if_neg (fun z => h84 z.2.2.2.2.1))
                   exact r_zr0 hP c117_105 (by rw [hno]; decide) (h _ (zfV_Z ha) (fun r z => by rw [hno] at z; cases z)))
                | (have hno : zi2 (zto T len) 5 p (S, nS, nP, nW, nL, nM) 112 = none := zi2_n2 hq (show zk_p S nS nP nW nL nM (q.1 0) (q.1 1) (q.1 2) (q.1 3) (q.1 4) = none from if_neg (fun z => h101 z.2.2.2.2.2))
                   exact r_zr0 hP c117_105 (by rw [hno]; decide) (h _ (zfV_Z ha) (fun r z => by rw [hno] at z; cases z)))
            · refine r_al hP c117_87 rfl ?_
              refine r_gR (x := 148) hP c117_88 (zj119 hKb) (zr119_31 hRb) ?_
              refine r_ic hP c117_91 ?_
              refine r_iald (j := 4) (x := q.1 4) hP c117_92 (zk148 hKb) rfl (by decide) (hf 4 (by decide)) ?_
              refine r_i2l hP c117_93 ?_
              refine r_lc hP c117_94 ?_
              refine r_lc hP c117_95 ?_
              refine r_cSi (as := [.long ((q.1 4).toInt64), .long 0, .long 30]) (r := []) (I' := I2) (L' := L) (R' := R) (x := if 0 ≤ (q.1 4).toInt64 ∧ (q.1 4).toInt64 ≤ 30 then 1 else 0) hP c117_98 rfl rfl (fun _ h2 => x_isIn hP h2) ?_
              refine r_ti (y := if 0 ≤ (q.1 4) ∧ (q.1 4) ≤ 30 then 1 else 0) (zisC rfl rfl) ?_
              refine r_ifneB hP c117_101 (fun h101 => ?_) (fun h101 => ?_)
              · refine r_al hP c117_106 rfl ?_
                refine r_gR (x := 125) hP c117_107 (zj119 hKb) (zr119_6 hRb) ?_
                refine r_il hP c117_110 rfl ?_
                refine r_al hP c117_111 rfl ?_
                refine r_gR (x := 148) hP c117_112 (zj119 hKb) (zr119_31 hRb) ?_
                refine r_ic hP c117_115 ?_
                refine r_iald (j := 0) (x := q.1 0) hP c117_116 (zk148 hKb) rfl (by decide) (hf 0 (by decide)) ?_
                refine r_iast (j := 8 + nP) hP c117_117 (zk125 hKb) rfl (by omega) ?_
                refine r_al hP c117_118 rfl ?_
                refine r_gR (x := 126) hP c117_119 (zj119 hKb) (zr119_7 hRb) ?_
                refine r_il hP c117_122 rfl ?_
                refine r_al hP c117_123 rfl ?_
                refine r_gR (x := 148) hP c117_124 (zj119 hKb) (zr119_31 hRb) ?_
                refine r_ic hP c117_127 ?_
                refine r_iald (j := 1) (x := q.1 1) hP c117_128 (zk148 hKb) rfl (by decide) ((zup_n _ _ _ _ (by omega)).trans (hf 1 (by decide))) ?_
                refine r_iast (j := 8 + nP) hP c117_129 (zk126 hKb) rfl (by omega) ?_
                refine r_al hP c117_130 rfl ?_
                refine r_gR (x := 127) hP c117_131 (zj119 hKb) (zr119_8 hRb) ?_
                refine r_il hP c117_134 rfl ?_
                refine r_al hP c117_135 rfl ?_
                refine r_gR (x := 148) hP c117_136 (zj119 hKb) (zr119_31 hRb) ?_
                refine r_ic hP c117_139 ?_
                refine r_iald (j := 2) (x := q.1 2) hP c117_140 (zk148 hKb) rfl (by decide) ((zup_n _ _ _ _ (by omega)).trans ((zup_n _ _ _ _ (by omega)).trans (hf 2 (by decide)))) ?_
                refine r_iast (j := 8 + nP) hP c117_141 (zk127 hKb) rfl (by omega) ?_
                refine r_al hP c117_142 rfl ?_
                refine r_gR (x := 128) hP c117_143 (zj119 hKb) (zr119_9 hRb) ?_
                refine r_il hP c117_146 rfl ?_
                refine r_al hP c117_147 rfl ?_
                refine r_gR (x := 148) hP c117_148 (zj119 hKb) (zr119_31 hRb) ?_
                refine r_ic hP c117_151 ?_
                refine r_iald (j := 3) (x := q.1 3) hP c117_152 (zk148 hKb) rfl (by decide) ((zup_n _ _ _ _ (by omega)).trans ((zup_n _ _ _ _ (by omega)).trans ((zup_n _ _ _ _ (by omega)).trans (hf 3 (by decide))))) ?_
                refine r_iast (j := 8 + nP) hP c117_153 (zk128 hKb) rfl (by omega) ?_
                refine r_al hP c117_154 rfl ?_
                refine r_gR (x := 129) hP c117_155 (zj119 hKb) (zr119_10 hRb) ?_
                refine r_il hP c117_158 rfl ?_
                refine r_al hP c117_159 rfl ?_
                refine r_gR (x := 148) hP c117_160 (zj119 hKb) (zr119_31 hRb) ?_
                refine r_ic hP c117_163 ?_
                refine r_iald (j := 4) (x := q.1 4) hP c117_164 (zk148 hKb) rfl (by decide) ((zup_n _ _ _ _ (by omega)).trans ((zup_n _ _ _ _ (by omega)).trans ((zup_n _ _ _ _ (by omega)).trans ((zup_n _ _ _ _ (by omega)).trans (hf 4 (by decide)))))) ?_
                refine r_iast (j := 8 + nP) hP c117_165 (zk129 hKb) rfl (by omega) ?_
                refine r_al hP c117_166 rfl ?_
                refine r_il hP c117_167 rfl ?_
                refine r_cVvp (as := [.int (nI (8 + nP))]) (r := []) (a := 119) hP c117_168 rfl (zj119 hKb) rfl (fun I3 L3 R3 => ((∀ x j, ¬ (130 ≤ x ∧ x ≤ 132 ∧ j = 8 + nP) → ¬ (x = 134 ∧ 3 * (8 + nP) ≤ j ∧ j < 3 * (8 + nP) + 3) → I3 x j = (zup (zup (zup (zup (zup I2 125 (8 + nP) (q.1 0)) 126 (8 + nP) (q.1 1)) 127 (8 + nP) (q.1 2)) 128 (8 + nP) (q.1 3)) 129 (8 + nP) (q.1 4)) x j) ∧ I3 130 (8 + nP) = 10 ∧ I3 131 (8 + nP) = 0 ∧ I3 132 (8 + nP) = 1 ∧ (∀ t, t < 3 → I3 134 (3 * (8 + nP) + t) = 0)) ∧ L = L3 ∧ R = R3) (fun Q2 hq => y_noPart hP hKb hRb (by omega) (fun I3 a b c d e => hq I3 L R ⟨⟨a, b, c, d, e⟩, rfl, rfl⟩)) ?_
                rintro I3 L3 R3 ⟨⟨g1, g2, g3, g4, g5⟩, rfl, rfl⟩
                have e3_124 : I3 124 1 = nI nP := (g1 124 1 (by omega) (by omega)).trans ((zup_n _ _ _ _ (by omega)).trans ((zup_n _ _ _ _ (by omega)).trans ((zup_n _ _ _ _ (by omega)).trans ((zup_n _ _ _ _ (by omega)).trans ((zup_n _ _ _ _ (by omega)).trans (hE2.1.2.1))))))
                refine r_al hP c117_171 rfl ?_
                refine r_gR (x := 124) hP c117_172 (zj119 hKb) (zr119_5 hRb) ?_
                refine r_ic hP c117_175 ?_
                refine r_dup2 hP c117_176 rfl rfl ?_
                refine r_iald (j := 1) (x := nI nP) hP c117_177 (zk124 hKb) rfl (by decide) e3_124 ?_
                refine r_ic hP c117_178 ?_
                refine r_iadd hP c117_179 ?_
                refine r_ti (y := nI (nP + 1)) (nI_1 _) ?_
                refine r_iast (j := 1) hP c117_180 (zk124 hKb) rfl (by decide) ?_
                refine r_ic hP c117_181 ?_
                have hb1 : ∀ a, 130 ≤ a → a ≤ 132 → zbk a ≤ 8 := fun a z1 z2 => by
                  have hc : a = 130 ∨ a = 131 ∨ a = 132 := by omega
                  rcases hc with rfl | rfl | rfl <;> decide
                have hfrp := zfV_u (x := nI (nP + 1)) (zfV_t (zfV_u ((zfV_u ((zfV_u ((zfV_u ((zfV_u (zfV_Z ha) (by decide) (by decide) (show 8 ≤ _ from by omega))) (by decide) (by decide) (show 8 ≤ _ from by omega))) (by decide) (by decide) (show 8 ≤ _ from by omega))) (by decide) (by decide) (show 8 ≤ _ from by omega))) (by decide) (by decide) (show 8 ≤ _ from by omega)) (I2 := I3) (fun a k q1 q2 q3 => g1 a k (fun z => q3 ⟨by omega, by omega, by have := hb1 a z.1 z.2.1; omega⟩) (fun z => q3 ⟨by omega, by omega, by rw [z.1]; show 24 ≤ k; omega⟩))) (b := 124) (j := 1) (by decide) (by decide) (show 1 ≤ 1 from by decide)
                have hs_ : zi2 (zto T len) 5 p (S, nS, nP, nW, nL, nM) 112 = some _ := zi2_s hq (show zk_p S nS nP nW nL nM (q.1 0) (q.1 1) (q.1 2) (q.1 3) (q.1 4) = some _ from if_pos ⟨hlt, h33, h50, h67, h84, h101⟩)
                exact r_zr1 hP c117_182 (by rw [hs_]; rfl) (h _ hfrp (fun r z => by
                  rw [hs_] at z
                  cases z
                  exact ⟨zE_p hE2 hub1 hub2 hub3 hlt (fun x k q1 q2 q3 => (zup_n _ _ _ _ q3).trans ((g1 x k (by omega) (by omega)).trans ((zup_n _ _ _ _ (by omega)).trans ((zup_n _ _ _ _ (by omega)).trans ((zup_n _ _ _ _ (by omega)).trans ((zup_n _ _ _ _ (by omega)).trans (zup_n _ _ _ _ (by omega)))))))) (fun k q1 q2 => (zup_n _ _ _ _ (by omega)).trans (by
                    have hk : k = 1 ∨ k = 2 ∨ k = 3 ∨ k = 4 ∨ k = 5 ∨ k = 6 ∨ k = 7 ∨ k = 8 := by omega
                    rcases hk with rfl | rfl | rfl | rfl | rfl | rfl | rfl | rfl
                    · exact (g1 125 (8 + nP) (by omega) (by omega)).trans ((zup_n _ _ _ _ (by omega)).trans ((zup_n _ _ _ _ (by omega)).trans ((zup_n _ _ _ _ (by omega)).trans ((zup_n _ _ _ _ (by omega)).trans (zup_s _ _ _ _)))))
                    · exact (g1 126 (8 + nP) (by omega) (by omega)).trans ((zup_n _ _ _ _ (by omega)).trans ((zup_n _ _ _ _ (by omega)).trans ((zup_n _ _ _ _ (by omega)).trans (zup_s _ _ _ _))))
                    · exact (g1 127 (8 + nP) (by omega) (by omega)).trans ((zup_n _ _ _ _ (by omega)).trans ((zup_n _ _ _ _ (by omega)).trans (zup_s _ _ _ _)))
                    · exact (g1 128 (8 + nP) (by omega) (by omega)).trans ((zup_n _ _ _ _ (by omega)).trans (zup_s _ _ _ _))
                    · exact (g1 129 (8 + nP) (by omega) (by omega)).trans (zup_s _ _ _ _)
                    · exact g2
                    · exact g3
                    · exact g4)) (fun t ht => (zup_n _ _ _ _ (by omega)).trans (by rw [show 24 * 1 + 3 * nP + t = 3 * (8 + nP) + t from by omega]; exact g5 t ht)) (zup_s _ _ _ _), (zup_n _ _ _ _ (by omega)).trans ((g1 119 30 (by omega) (by omega)).trans ((zup_n _ _ _ _ (by omega)).trans ((zup_n _ _ _ _ (by omega)).trans ((zup_n _ _ _ _ (by omega)).trans ((zup_n _ _ _ _ (by omega)).trans ((zup_n _ _ _ _ (by omega)).trans hpq))))))⟩))
              · refine r_ic hP c117_104 ?_
                first
                  | (have hno : zi2 (zto T len) 5 p (S, nS, nP, nW, nL, nM) 112 = none := zi2_n1 (Option.not_isSome_iff_eq_none.mp h15)
                     exact r_zr0 hP c117_105 (by rw [hno]; decide) (h _ (zfV_Z ha) (fun r z => by rw [hno] at z; cases z)))
                  | (have hno : zi2 (zto T len) 5 p (S, nS, nP, nW, nL, nM) 112 = none := zi2_n2 hq (show zk_p S nS nP nW nL nM (q.1 0) (q.1 1) (q.1 2) (q.1 3) (q.1 4) = none from if_neg (fun z => hlt z.1))
                     exact r_zr0 hP c117_105 (by rw [hno]; decide) (h _ (zfV_Z ha) (fun r z => by rw [hno] at z; cases z)))
                  | (have hno : zi2 (zto T len) 5 p (S, nS, nP, nW, nL, nM) 112 = none := zi2_n2 hq (show zk_p S nS nP nW nL nM (q.1 0) (q.1 1) (q.1 2) (q.1 3) (q.1 4) = none from if_neg (fun z => h33 z.2.1))
                     exact r_zr0 hP c117_105 (by rw [hno]; decide) (h _ (zfV_Z ha) (fun r z => by rw [hno] at z; cases z)))
                  | (have hno : zi2 (zto T len) 5 p (S, nS, nP, nW, nL, nM) 112 = none := zi2_n2 hq (show zk_p S nS nP nW nL nM (q.1 0) (q.1 1) (q.1 2) (q.1 3) (q.1 4) = none from if_neg (fun z => h50 z.2.2.1))
                     exact r_zr0 hP c117_105 (by rw [hno]; decide) (h _ (zfV_Z ha) (fun r z => by rw [hno] at z; cases z)))
                  | (have hno : zi2 (zto T len) 5 p (S, nS, nP, nW, nL, nM) 112 = none := zi2_n2 hq (show zk_p S nS nP nW nL nM (q.1 0) (q.1 1) (q.1 2) (q.1 3) (q.1 4) = none from if_neg (fun z => h67 z.2.2.2.1))
                     exact r_zr0 hP c117_105 (by rw [hno]; decide) (h _ (zfV_Z ha) (fun r z => by rw [hno] at z; cases z)))
                  | (have hno : zi2 (zto T len) 5 p (S, nS, nP, nW, nL, nM) 112 = none := zi2_n2 hq (show zk_p S nS nP nW nL nM (q.1 0) (q.1 1) (q.1 2) (q.1 3) (q.1 4) = none from if_neg (fun z => h84 z.2.2.2.2.1))
                     exact r_zr0 hP c117_105 (by rw [hno]; decide) (h _ (zfV_Z ha) (fun r z => by rw [hno] at z; cases z)))
                  | (have hno : zi2 (zto T len) 5 p (S, nS, nP, nW, nL, nM) 112 = none := zi2_n2 hq (show zk_p S nS nP nW nL nM (q.1 0) (q.1 1) (q.1 2) (q.1 3) (q.1 4) = none from if_neg (fun z => h101 z.2.2.2.2.2))
                     exact r_zr0 hP c117_105 (by rw [hno]; decide) (h _ (zfV_Z ha) (fun r z => by rw [hno] at z; cases z)))
set_option maxRecDepth 4000 in
theorem y_letItem {K : ZKh} {P : Nat → Nat → List Value → List Value → ZMi → ZMl → ZMr → ZRt → Prop} {I : ZMi} {L : ZMl} {R : ZMr} {Q : ZRt} (hP : ZCl K P) (hKb : zKb K) (hRb : zRb R) {len : Nat} {T : Nat → Nat} (hT : zTm I len T) (hl : len ≤ 400) (h256 : ∀ i, T i < 256) {S : ZS} {nS nP nW nL nM : Nat} (hE : zE I (S, nS, nP, nW, nL, nM)) (hub : zUb (S, nS, nP, nW, nL, nM)) {p : Nat} (hpl : I 119 30 = nI p) (hp : p ≤ 450) (h : ∀ I2, zfV I I2 → (∀ r, zi2 (zto T len) 3 p (S, nS, nP, nW, nL, nM) 104 = some r → zE I2 r.1 ∧ I2 119 30 = nI r.2) → Q (some (.int (if (zi2 (zto T len) 3 p (S, nS, nP, nW, nL, nM) 104).isSome = true then 1 else 0))) I2 L R) : P 118 0 [.ref 119] [] I L R Q := by
  obtain ⟨hub1, hub2, hub3, hub4, hub5⟩ := id hub
  simp only at hub1 hub2 hub3 hub4 hub5
  refine r_al hP c118_0 rfl ?_
  refine r_ic hP c118_1 ?_
  refine r_cVip (as := [.int 3]) (r := []) (a := 119) hP c118_2 rfl (zj119 hKb) rfl (fun z I2 L2 R2 => (z = (if (zns (zto T len) 3 p 3).isSome = true then 1 else 0) ∧ zfZ I I2 ∧ (∀ q, zns (zto T len) 3 p 3 = some q → I2 119 30 = nI q.2 ∧ ∀ j, j < 3 → I2 148 j = q.1 j)) ∧ L = L2 ∧ R = R2) (fun Q2 hq => y_figures (many := 3) hP hKb hRb hT hl h256 (by decide) (by omega) hpl (fun I2 a b => hq _ I2 L R ⟨⟨rfl, a, b⟩, rfl, rfl⟩)) ?_
  rintro zz I2 L2 R2 ⟨⟨rfl, ha, hfq⟩, rfl, rfl⟩
  refine r_ifeqB hP c118_5 (fun h5 => ?_) (fun h5 => ?_)
  · refine r_ic hP c118_62 ?_
    first
      | (have hno : zi2 (zto T len) 3 p (S, nS, nP, nW, nL, nM) 104 = none := zi2_n1 (Option.not_isSome_iff_eq_none.mp h5)
         exact r_zr0 hP c118_63 (by rw [hno]; decide) (h _ (zfV_Z ha) (fun r z => by rw [hno] at z; cases z)))
      | (have hno : zi2 (zto T len) 3 p (S, nS, nP, nW, nL, nM) 104 = none := zi2_n2 hq (show zk_h S nS nP nW nL nM (q.1 0) (q.1 1) (q.1 2) = none from if_neg (fun z => hlt z.1))
         exact r_zr0 hP c118_63 (by rw [hno]; decide) (h _ (zfV_Z ha) (fun r z => by rw [hno] at z; cases z)))
      | (have hno : zi2 (zto T len) 3 p (S, nS, nP, nW, nL, nM) 104 = none := zi2_n2 hq (show zk_h S nS nP nW nL nM (q.1 0) (q.1 1) (q.1 2) = none from if_neg (fun z => h23 z.2.1))
         exact r_zr0 hP c118_63 (by rw [hno]; decide) (h _ (zfV_Z ha) (fun r z => by rw [hno] at z; cases z)))
      | (have hno : zi2 (zto T len) 3 p (S, nS, nP, nW, nL, nM) 104 = none := zi2_n2 hq (show zk_h S nS nP nW nL nM (q.1 0) (q.1 1) (q.1 2) = none from if_neg (fun z => h40 z.2.2.1))
         exact r_zr0 hP c118_63 (by rw [hno]; decide) (h _ (zfV_Z ha) (fun r z => by rw [hno] at z; cases z)))
      | (have hno : zi2 (zto T len) 3 p (S, nS, nP, nW, nL, nM) 104 = none := zi2_n2 hq (show zk_h S nS nP nW nL nM (q.1 0) (q.1 1) (q.1 2) = none from if_neg (fun z => h59 z.2.2.2))
         exact r_zr0 hP c118_63 (by rw [hno]; decide) (h _ (zfV_Z ha) (fun r z => by rw [hno] at z; cases z)))
  · obtain ⟨q, hq⟩ := Option.isSome_iff_exists.mp h5
    obtain ⟨hpq, hf⟩ := hfq q hq
    have hE2 : zE I2 (S, nS, nP, nW, nL, nM) := zE_Z hE ha
    refine r_al hP c118_8 rfl ?_
    refine r_gR (x := 133) hP c118_9 (zj119 hKb) (zr119_14 hRb) ?_
    refine r_ic hP c118_12 ?_
    refine r_iald (j := 1) (x := nI nL) hP c118_13 (zk133 hKb) rfl (by decide) hE2.2.1 ?_
    refine r_ic hP c118_14 ?_
    refine r_ieq hP c118_16 (fun h16 => ?_) (fun h16 => ?_)
    · have hlt : ¬ nL < 16 := by
        have := (nI_eq (b := 16) (by omega) (by decide)).mp h16
        omega
      refine r_ic hP c118_62 ?_
      first
        | (have hno : zi2 (zto T len) 3 p (S, nS, nP, nW, nL, nM) 104 = none := zi2_n1 (Option.not_isSome_iff_eq_none.mp h5)
           exact r_zr0 hP c118_63 (by rw [hno]; decide) (h _ (zfV_Z ha) (fun r z => by rw [hno] at z; cases z)))
        | (have hno : zi2 (zto T len) 3 p (S, nS, nP, nW, nL, nM) 104 = none := zi2_n2 hq (show zk_h S nS nP nW nL nM (q.1 0) (q.1 1) (q.1 2) = none from if_neg (fun z => hlt z.1))
           exact r_zr0 hP c118_63 (by rw [hno]; decide) (h _ (zfV_Z ha) (fun r z => by rw [hno] at z; cases z)))
        | (have hno : zi2 (zto T len) 3 p (S, nS, nP, nW, nL, nM) 104 = none := zi2_n2 hq (show zk_h S nS nP nW nL nM (q.1 0) (q.1 1) (q.1 2) = none from if_neg (fun z => h23 z.2.1))
           exact r_zr0 hP c118_63 (by rw [hno]; decide) (h _ (zfV_Z ha) (fun r z => by rw [hno] at z; cases z)))
        | (have hno : zi2 (zto T len) 3 p (S, nS, nP, nW, nL, nM) 104 = none := zi2_n2 hq (show zk_h S nS nP nW nL nM (q.1 0) (q.1 1) (q.1 2) = none from if_neg (fun z => h40 z.2.2.1))
           exact r_zr0 hP c118_63 (by rw [hno]; decide) (h _ (zfV_Z ha) (fun r z => by rw [hno] at z; cases z)))
        | (have hno : zi2 (zto T len) 3 p (S, nS, nP, nW, nL, nM) 104 = none := zi2_n2 hq (show zk_h S nS nP nW nL nM (q.1 0) (q.1 1) (q.1 2) = none from if_neg (fun z => h59 z.2.2.2))
           exact r_zr0 hP c118_63 (by rw [hno]; decide) (h _ (zfV_Z ha) (fun r z => by rw [hno] at z; cases z)))
    · have hlt : nL < 16 := by
        have hz : ¬ nL = 16 := fun z => h16 (by rw [z]; rfl)
        omega
      refine r_al hP c118_19 rfl ?_
      refine r_cVi (as := []) (r := []) (I' := I2) (L' := L) (R' := R) (x := if zr (q.1 0) nP then 1 else 0) (a := 119) hP c118_20 rfl (zj119 hKb) rfl (fun _ hq => y_isPartTold (n := nP) hP hKb hRb (by omega) (hf 0 (by decide)) hE2.1.2.1 hq) ?_
      refine r_ifeqB hP c118_23 (fun h23 => ?_) (fun h23 => ?_)
      · refine r_ic hP c118_62 ?_
        first
          | (have hno : zi2 (zto T len) 3 p (S, nS, nP, nW, nL, nM) 104 = none := zi2_n1 (Option.not_isSome_iff_eq_none.mp h5)
             exact r_zr0 hP c118_63 (by rw [hno]; decide) (h _ (zfV_Z ha) (fun r z => by rw [hno] at z; cases z)))
          | (have hno : zi2 (zto T len) 3 p (S, nS, nP, nW, nL, nM) 104 = none := zi2_n2 hq (show zk_h S nS nP nW nL nM (q.1 0) (q.1 1) (q.1 2) = none from if_neg (fun z => hlt z.1))
             exact r_zr0 hP c118_63 (by rw [hno]; decide) (h _ (zfV_Z ha) (fun r z => by rw [hno] at z; cases z)))
          | (have hno : zi2 (zto T len) 3 p (S, nS, nP, nW, nL, nM) 104 = none := zi2_n2 hq (show zk_h S nS nP nW nL nM (q.1 0) (q.1 1) (q.1 2) = none from if_neg (fun z => h23 z.2.1))
             exact r_zr0 hP c118_63 (by rw [hno]; decide) (h _ (zfV_Z ha) (fun r z => by rw [hno] at z; cases z)))
          | (have hno : zi2 (zto T len) 3 p (S, nS, nP, nW, nL, nM) 104 = none := zi2_n2 hq (show zk_h S nS nP nW nL nM (q.1 0) (q.1 1) (q.1 2) = none from if_neg (fun z => h40 z.2.2.1))
             exact r_zr0 hP c118_63 (by rw [hno]; decide) (h _ (zfV_Z ha) (fun r z => by rw [hno] at z; cases z)))
          | (have hno : zi2 (zto T len) 3 p (S, nS, nP, nW, nL, nM) 104 = none := zi2_n2 hq (show zk_h S nS nP nW nL nM (q.1 0) (q.1 1) (q.1 2) = none from if_neg (fun z => h59 z.2.2.2))
             exact r_zr0 hP c118_63 (by rw [hno]; decide) (h _ (zfV_Z ha) (fun r z => by rw [hno] at z; cases z)))
      · refine r_al hP c118_26 rfl ?_
        refine r_gR (x := 148) hP c118_27 (zj119 hKb) (zr119_31 hRb) ?_
        refine r_ic hP c118_30 ?_
        refine r_iald (j := 1) (x := q.1 1) hP c118_31 (zk148 hKb) rfl (by decide) (hf 1 (by decide)) ?_
        refine r_i2l hP c118_32 ?_
        refine r_lc hP c118_33 ?_
        refine r_lc hP c118_34 ?_
        refine r_cSi (as := [.long ((q.1 1).toInt64), .long 0, .long 2]) (r := []) (I' := I2) (L' := L) (R' := R) (x := if 0 ≤ (q.1 1).toInt64 ∧ (q.1 1).toInt64 ≤ 2 then 1 else 0) hP c118_37 rfl rfl (fun _ h2 => x_isIn hP h2) ?_
        refine r_ti (y := if 0 ≤ (q.1 1) ∧ (q.1 1) ≤ 2 then 1 else 0) (zisC rfl rfl) ?_
        refine r_ifeqB hP c118_40 (fun h40 => ?_) (fun h40 => ?_)
        · refine r_ic hP c118_62 ?_
          first
            | (have hno : zi2 (zto T len) 3 p (S, nS, nP, nW, nL, nM) 104 = none := zi2_n1 (Option.not_isSome_iff_eq_none.mp h5)
               exact r_zr0 hP c118_63 (by rw [hno]; decide) (h _ (zfV_Z ha) (fun r z => by rw [hno] at z; cases z)))
            | (have hno : zi2 (zto T len) 3 p (S, nS, nP, nW, nL, nM) 104 = none := zi2_n2 hq (show zk_h S nS nP nW nL nM (q.1 0) (q.1 1) (q.1 2) = none from if_neg (fun z => hlt z.1))
               exact r_zr0 hP c118_63 (by rw [hno]; decide) (h _ (zfV_Z ha) (fun r z => by rw [hno] at z; cases z)))
            | (have hno : zi2 (zto T len) 3 p (S, nS, nP, nW, nL, nM) 104 = none := zi2_n2 hq (show zk_h S nS nP nW nL nM (q.1 0) (q.1 1) (q.1 2) = none from if_neg (fun z => h23 z.2.1))
               exact r_zr0 hP c118_63 (by rw [hno]; decide) (h _ (zfV_Z ha) (fun r z => by rw [hno] at z; cases z)))
            | (have hno : zi2 (zto T len) 3 p (S, nS, nP, nW, nL, nM) 104 = none := zi2_n2 hq (show zk_h S nS nP nW nL nM (q.1 0) (q.1 1) (q.1 2) = none from if_neg (fun z => h40 z.2.2.1))
               exact r_zr0 hP c118_63 (by rw [hno]; decide) (h _ (zfV_Z ha) (fun r z => by rw [hno] at z; cases z)))
            | (have hno : zi2 (zto T len) 3 p (S, nS, nP, nW, nL, nM) 104 = none := zi2_n2 hq (show zk_h S nS nP nW nL nM (q.1 0) (q.1 1) (q.1 2) = none from if_neg (fun z => h59 z.2.2.2))
               exact r_zr0 hP c118_63 (by rw [hno]; decide) (h _ (zfV_Z ha) (fun r z => by rw [hno] at z; cases z)))
        · refine r_al hP c118_43 rfl ?_
          refine r_gR (x := 148) hP c118_44 (zj119 hKb) (zr119_31 hRb) ?_
          refine r_ic hP c118_47 ?_
          refine r_iald (j := 2) (x := q.1 2) hP c118_48 (zk148 hKb) rfl (by decide) (hf 2 (by decide)) ?_
          refine r_i2l hP c118_49 ?_
          refine r_lc hP c118_50 ?_
          refine r_lc hP c118_53 ?_
          refine r_cSi (as := [.long ((q.1 2).toInt64), .long (-50), .long 50]) (r := []) (I' := I2) (L' := L) (R' := R) (x := if (-50) ≤ (q.1 2).toInt64 ∧ (q.1 2).toInt64 ≤ 50 then 1 else 0) hP c118_56 rfl rfl (fun _ h2 => x_isIn hP h2) ?_
          refine r_ti (y := if (-50) ≤ (q.1 2) ∧ (q.1 2) ≤ 50 then 1 else 0) (zisC rfl rfl) ?_
          refine r_ifneB hP c118_59 (fun h59 => ?_) (fun h59 => ?_)
          · obtain ⟨a, ha1, hae⟩ := (zr_iff (by omega)).mp h23
            obtain ⟨b, hb1, hbe⟩ := zb_nI (n := 2) rfl (by decide) h40
            refine r_al hP c118_64 rfl ?_
            refine r_gR (x := 134) hP c118_65 (zj119 hKb) (zr119_15 hRb) ?_
            refine r_ic hP c118_68 ?_
            refine r_ic hP c118_70 ?_
            refine r_al hP c118_71 rfl ?_
            refine r_gR (x := 148) hP c118_72 (zj119 hKb) (zr119_31 hRb) ?_
            refine r_ic hP c118_75 ?_
            refine r_iald (j := 0) (x := q.1 0) hP c118_76 (zk148 hKb) rfl (by decide) (hf 0 (by decide)) ?_
            refine r_imul hP c118_77 ?_
            refine r_ti (y := nI (3 * a)) (by rw [hae]; exact pk_mul 3 a) ?_
            refine r_iadd hP c118_78 ?_
            refine r_ti (y := nI (24 + 3 * a)) (nI_add 24 (3 * a)) ?_
            refine r_al hP c118_79 rfl ?_
            refine r_gR (x := 148) hP c118_80 (zj119 hKb) (zr119_31 hRb) ?_
            refine r_ic hP c118_83 ?_
            refine r_iald (j := 1) (x := q.1 1) hP c118_84 (zk148 hKb) rfl (by decide) (hf 1 (by decide)) ?_
            refine r_iadd hP c118_85 ?_
            refine r_ti (y := nI (24 + 3 * a + b)) (by rw [hbe]; exact nI_add _ _) ?_
            refine r_dup2 hP c118_86 rfl rfl ?_
            refine r_iald (j := 24 + 3 * a + b) (x := S 11 a b) hP c118_87 (zk134 hKb) rfl (by omega) ((hE2.1.2.2.2.2.1 a ha1).2 b (by omega)) ?_
            refine r_al hP c118_88 rfl ?_
            refine r_gR (x := 148) hP c118_89 (zj119 hKb) (zr119_31 hRb) ?_
            refine r_ic hP c118_92 ?_
            refine r_iald (j := 2) (x := q.1 2) hP c118_93 (zk148 hKb) rfl (by decide) (hf 2 (by decide)) ?_
            refine r_iadd hP c118_94 ?_
            refine r_iast (j := 24 + 3 * a + b) hP c118_95 (zk134 hKb) rfl (by omega) ?_
            refine r_al hP c118_96 rfl ?_
            refine r_gR (x := 133) hP c118_97 (zj119 hKb) (zr119_14 hRb) ?_
            refine r_ic hP c118_100 ?_
            refine r_dup2 hP c118_101 rfl rfl ?_
            refine r_iald (j := 1) (x := nI nL) hP c118_102 (zk133 hKb) rfl (by decide) ((zup_n _ _ _ _ (by omega)).trans hE2.2.1) ?_
            refine r_ic hP c118_103 ?_
            refine r_iadd hP c118_104 ?_
            refine r_ti (y := nI (nL + 1)) (nI_1 _) ?_
            refine r_iast (j := 1) hP c118_105 (zk133 hKb) rfl (by decide) ?_
            refine r_ic hP c118_106 ?_
            have hs_ : zi2 (zto T len) 3 p (S, nS, nP, nW, nL, nM) 104 = some _ := zi2_s hq (show zk_h S nS nP nW nL nM (q.1 0) (q.1 1) (q.1 2) = some _ from if_pos ⟨hlt, h23, h40, h59⟩)
            exact r_zr1 hP c118_107 (by rw [hs_]; rfl) (h _ (zfV_u ((zfV_u (zfV_Z ha) (by decide) (by decide) (show 24 ≤ _ from by omega))) (by decide) (by decide) (show 1 ≤ _ from by omega)) (fun r z => by
              rw [hs_] at z
              cases z
              exact ⟨by rw [hae, hbe, nI_clamp (n := a) (by omega), nI_clamp (n := b) (by omega)]; exact zE_nl (zE_l hE2 hub1 hub2 hub3 ha1 (by omega)) hub1 hub2 hub3, ((zup_n _ _ _ _ (by omega)).trans ((zup_n _ _ _ _ (by omega)).trans hpq))⟩))
          · refine r_ic hP c118_62 ?_
            first
              | (have hno : zi2 (zto T len) 3 p (S, nS, nP, nW, nL, nM) 104 = none := zi2_n1 (Option.not_isSome_iff_eq_none.mp h5)
                 exact r_zr0 hP c118_63 (by rw [hno]; decide) (h _ (zfV_Z ha) (fun r z => by rw [hno] at z; cases z)))
              | (have hno : zi2 (zto T len) 3 p (S, nS, nP, nW, nL, nM) 104 = none := zi2_n2 hq (show zk_h S nS nP nW nL nM (q.1 0) (q.1 1) (q.1 2) = none from if_neg (fun z => hlt z.1))
                 exact r_zr0 hP c118_63 (by rw [hno]; decide) (h _ (zfV_Z ha) (fun r z => by rw [hno] at z; cases z)))
              | (have hno : zi2 (zto T len) 3 p (S, nS, nP, nW, nL, nM) 104 = none := zi2_n2 hq (show zk_h S nS nP nW nL nM (q.1 0) (q.1 1) (q.1 2) = none from if_neg (fun z => h23 z.2.1))
                 exact r_zr0 hP c118_63 (by rw [hno]; decide) (h _ (zfV_Z ha) (fun r z => by rw [hno] at z; cases z)))
              | (have hno : zi2 (zto T len) 3 p (S, nS, nP, nW, nL, nM) 104 = none := zi2_n2 hq (show zk_h S nS nP nW nL nM (q.1 0) (q.1 1) (q.1 2) = none from if_neg (fun z => h40 z.2.2.1))
                 exact r_zr0 hP c118_63 (by rw [hno]; decide) (h _ (zfV_Z ha) (fun r z => by rw [hno] at z; cases z)))
              | (have hno : zi2 (zto T len) 3 p (S, nS, nP, nW, nL, nM) 104 = none := zi2_n2 hq (show zk_h S nS nP nW nL nM (q.1 0) (q.1 1) (q.1 2) = none from if_neg (fun z => h59 z.2.2.2))
                 exact r_zr0 hP c118_63 (by rw [hno]; decide) (h _ (zfV_Z ha) (fun r z => by rw [hno] at z; cases z)))
set_option maxRecDepth 4000 in
theorem y_comeItem {K : ZKh} {P : Nat → Nat → List Value → List Value → ZMi → ZMl → ZMr → ZRt → Prop} {I : ZMi} {L : ZMl} {R : ZMr} {Q : ZRt} (hP : ZCl K P) (hKb : zKb K) (hRb : zRb R) {len : Nat} {T : Nat → Nat} (hT : zTm I len T) (hl : len ≤ 400) (h256 : ∀ i, T i < 256) {S : ZS} {nS nP nW nL nM : Nat} (hE : zE I (S, nS, nP, nW, nL, nM)) (hub : zUb (S, nS, nP, nW, nL, nM)) {p : Nat} (hpl : I 119 30 = nI p) (hp : p ≤ 450) (h : ∀ I2, zfV I I2 → (∀ r, zi2 (zto T len) 3 p (S, nS, nP, nW, nL, nM) 109 = some r → zE I2 r.1 ∧ I2 119 30 = nI r.2) → Q (some (.int (if (zi2 (zto T len) 3 p (S, nS, nP, nW, nL, nM) 109).isSome = true then 1 else 0))) I2 L R) : P 119 0 [.ref 119] [] I L R Q := by
  obtain ⟨hub1, hub2, hub3, hub4, hub5⟩ := id hub
  simp only at hub1 hub2 hub3 hub4 hub5
  refine r_al hP c119_0 rfl ?_
  refine r_ic hP c119_1 ?_
  refine r_cVip (as := [.int 3]) (r := []) (a := 119) hP c119_2 rfl (zj119 hKb) rfl (fun z I2 L2 R2 => (z = (if (zns (zto T len) 3 p 3).isSome = true then 1 else 0) ∧ zfZ I I2 ∧ (∀ q, zns (zto T len) 3 p 3 = some q → I2 119 30 = nI q.2 ∧ ∀ j, j < 3 → I2 148 j = q.1 j)) ∧ L = L2 ∧ R = R2) (fun Q2 hq => y_figures (many := 3) hP hKb hRb hT hl h256 (by decide) (by omega) hpl (fun I2 a b => hq _ I2 L R ⟨⟨rfl, a, b⟩, rfl, rfl⟩)) ?_
  rintro zz I2 L2 R2 ⟨⟨rfl, ha, hfq⟩, rfl, rfl⟩
  refine r_ifeqB hP c119_5 (fun h5 => ?_) (fun h5 => ?_)
  · refine r_ic hP c119_62 ?_
    first
      | (have hno : zi2 (zto T len) 3 p (S, nS, nP, nW, nL, nM) 109 = none := zi2_n1 (Option.not_isSome_iff_eq_none.mp h5)
         exact r_zr0 hP c119_63 (by rw [hno]; decide) (h _ (zfV_Z ha) (fun r z => by rw [hno] at z; cases z)))
      | (have hno : zi2 (zto T len) 3 p (S, nS, nP, nW, nL, nM) 109 = none := zi2_n2 hq (show zk_m S nS nP nW nL nM (q.1 0) (q.1 1) (q.1 2) = none from if_neg (fun z => hlt z.1))
         exact r_zr0 hP c119_63 (by rw [hno]; decide) (h _ (zfV_Z ha) (fun r z => by rw [hno] at z; cases z)))
      | (have hno : zi2 (zto T len) 3 p (S, nS, nP, nW, nL, nM) 109 = none := zi2_n2 hq (show zk_m S nS nP nW nL nM (q.1 0) (q.1 1) (q.1 2) = none from if_neg (fun z => h23 z.2.1))
         exact r_zr0 hP c119_63 (by rw [hno]; decide) (h _ (zfV_Z ha) (fun r z => by rw [hno] at z; cases z)))
      | (have hno : zi2 (zto T len) 3 p (S, nS, nP, nW, nL, nM) 109 = none := zi2_n2 hq (show zk_m S nS nP nW nL nM (q.1 0) (q.1 1) (q.1 2) = none from if_neg (fun z => h40 z.2.2.1))
         exact r_zr0 hP c119_63 (by rw [hno]; decide) (h _ (zfV_Z ha) (fun r z => by rw [hno] at z; cases z)))
      | (have hno : zi2 (zto T len) 3 p (S, nS, nP, nW, nL, nM) 109 = none := zi2_n2 hq (show zk_m S nS nP nW nL nM (q.1 0) (q.1 1) (q.1 2) = none from if_neg (fun z => h59 z.2.2.2))
         exact r_zr0 hP c119_63 (by rw [hno]; decide) (h _ (zfV_Z ha) (fun r z => by rw [hno] at z; cases z)))
  · obtain ⟨q, hq⟩ := Option.isSome_iff_exists.mp h5
    obtain ⟨hpq, hf⟩ := hfq q hq
    have hE2 : zE I2 (S, nS, nP, nW, nL, nM) := zE_Z hE ha
    refine r_al hP c119_8 rfl ?_
    refine r_gR (x := 135) hP c119_9 (zj119 hKb) (zr119_16 hRb) ?_
    refine r_ic hP c119_12 ?_
    refine r_iald (j := 1) (x := nI nM) hP c119_13 (zk135 hKb) rfl (by decide) hE2.2.2.1 ?_
    refine r_ic hP c119_14 ?_
    refine r_ieq hP c119_16 (fun h16 => ?_) (fun h16 => ?_)
    · have hlt : ¬ nM < 6 := by
        have := (nI_eq (b := 6) (by omega) (by decide)).mp h16
        omega
      refine r_ic hP c119_62 ?_
      first
        | (have hno : zi2 (zto T len) 3 p (S, nS, nP, nW, nL, nM) 109 = none := zi2_n1 (Option.not_isSome_iff_eq_none.mp h5)
           exact r_zr0 hP c119_63 (by rw [hno]; decide) (h _ (zfV_Z ha) (fun r z => by rw [hno] at z; cases z)))
        | (have hno : zi2 (zto T len) 3 p (S, nS, nP, nW, nL, nM) 109 = none := zi2_n2 hq (show zk_m S nS nP nW nL nM (q.1 0) (q.1 1) (q.1 2) = none from if_neg (fun z => hlt z.1))
           exact r_zr0 hP c119_63 (by rw [hno]; decide) (h _ (zfV_Z ha) (fun r z => by rw [hno] at z; cases z)))
        | (have hno : zi2 (zto T len) 3 p (S, nS, nP, nW, nL, nM) 109 = none := zi2_n2 hq (show zk_m S nS nP nW nL nM (q.1 0) (q.1 1) (q.1 2) = none from if_neg (fun z => h23 z.2.1))
           exact r_zr0 hP c119_63 (by rw [hno]; decide) (h _ (zfV_Z ha) (fun r z => by rw [hno] at z; cases z)))
        | (have hno : zi2 (zto T len) 3 p (S, nS, nP, nW, nL, nM) 109 = none := zi2_n2 hq (show zk_m S nS nP nW nL nM (q.1 0) (q.1 1) (q.1 2) = none from if_neg (fun z => h40 z.2.2.1))
           exact r_zr0 hP c119_63 (by rw [hno]; decide) (h _ (zfV_Z ha) (fun r z => by rw [hno] at z; cases z)))
        | (have hno : zi2 (zto T len) 3 p (S, nS, nP, nW, nL, nM) 109 = none := zi2_n2 hq (show zk_m S nS nP nW nL nM (q.1 0) (q.1 1) (q.1 2) = none from if_neg (fun z => h59 z.2.2.2))
           exact r_zr0 hP c119_63 (by rw [hno]; decide) (h _ (zfV_Z ha) (fun r z => by rw [hno] at z; cases z)))
    · have hlt : nM < 6 := by
        have hz : ¬ nM = 6 := fun z => h16 (by rw [z]; rfl)
        omega
      refine r_al hP c119_19 rfl ?_
      refine r_cVi (as := []) (r := []) (I' := I2) (L' := L) (R' := R) (x := if zr (q.1 0) nS then 1 else 0) (a := 119) hP c119_20 rfl (zj119 hKb) rfl (fun _ hq => y_isStageTold (n := nS) hP hKb hRb (by omega) (hf 0 (by decide)) hE2.1.1 hq) ?_
      refine r_ifeqB hP c119_23 (fun h23 => ?_) (fun h23 => ?_)
      · refine r_ic hP c119_62 ?_
        first
          | (have hno : zi2 (zto T len) 3 p (S, nS, nP, nW, nL, nM) 109 = none := zi2_n1 (Option.not_isSome_iff_eq_none.mp h5)
             exact r_zr0 hP c119_63 (by rw [hno]; decide) (h _ (zfV_Z ha) (fun r z => by rw [hno] at z; cases z)))
          | (have hno : zi2 (zto T len) 3 p (S, nS, nP, nW, nL, nM) 109 = none := zi2_n2 hq (show zk_m S nS nP nW nL nM (q.1 0) (q.1 1) (q.1 2) = none from if_neg (fun z => hlt z.1))
             exact r_zr0 hP c119_63 (by rw [hno]; decide) (h _ (zfV_Z ha) (fun r z => by rw [hno] at z; cases z)))
          | (have hno : zi2 (zto T len) 3 p (S, nS, nP, nW, nL, nM) 109 = none := zi2_n2 hq (show zk_m S nS nP nW nL nM (q.1 0) (q.1 1) (q.1 2) = none from if_neg (fun z => h23 z.2.1))
             exact r_zr0 hP c119_63 (by rw [hno]; decide) (h _ (zfV_Z ha) (fun r z => by rw [hno] at z; cases z)))
          | (have hno : zi2 (zto T len) 3 p (S, nS, nP, nW, nL, nM) 109 = none := zi2_n2 hq (show zk_m S nS nP nW nL nM (q.1 0) (q.1 1) (q.1 2) = none from if_neg (fun z => h40 z.2.2.1))
             exact r_zr0 hP c119_63 (by rw [hno]; decide) (h _ (zfV_Z ha) (fun r z => by rw [hno] at z; cases z)))
          | (have hno : zi2 (zto T len) 3 p (S, nS, nP, nW, nL, nM) 109 = none := zi2_n2 hq (show zk_m S nS nP nW nL nM (q.1 0) (q.1 1) (q.1 2) = none from if_neg (fun z => h59 z.2.2.2))
             exact r_zr0 hP c119_63 (by rw [hno]; decide) (h _ (zfV_Z ha) (fun r z => by rw [hno] at z; cases z)))
      · refine r_al hP c119_26 rfl ?_
        refine r_gR (x := 148) hP c119_27 (zj119 hKb) (zr119_31 hRb) ?_
        refine r_ic hP c119_30 ?_
        refine r_iald (j := 1) (x := q.1 1) hP c119_31 (zk148 hKb) rfl (by decide) (hf 1 (by decide)) ?_
        refine r_i2l hP c119_32 ?_
        refine r_lc hP c119_33 ?_
        refine r_lc hP c119_34 ?_
        refine r_cSi (as := [.long ((q.1 1).toInt64), .long 0, .long 2]) (r := []) (I' := I2) (L' := L) (R' := R) (x := if 0 ≤ (q.1 1).toInt64 ∧ (q.1 1).toInt64 ≤ 2 then 1 else 0) hP c119_37 rfl rfl (fun _ h2 => x_isIn hP h2) ?_
        refine r_ti (y := if 0 ≤ (q.1 1) ∧ (q.1 1) ≤ 2 then 1 else 0) (zisC rfl rfl) ?_
        refine r_ifeqB hP c119_40 (fun h40 => ?_) (fun h40 => ?_)
        · refine r_ic hP c119_62 ?_
          first
            | (have hno : zi2 (zto T len) 3 p (S, nS, nP, nW, nL, nM) 109 = none := zi2_n1 (Option.not_isSome_iff_eq_none.mp h5)
               exact r_zr0 hP c119_63 (by rw [hno]; decide) (h _ (zfV_Z ha) (fun r z => by rw [hno] at z; cases z)))
            | (have hno : zi2 (zto T len) 3 p (S, nS, nP, nW, nL, nM) 109 = none := zi2_n2 hq (show zk_m S nS nP nW nL nM (q.1 0) (q.1 1) (q.1 2) = none from if_neg (fun z => hlt z.1))
               exact r_zr0 hP c119_63 (by rw [hno]; decide) (h _ (zfV_Z ha) (fun r z => by rw [hno] at z; cases z)))
            | (have hno : zi2 (zto T len) 3 p (S, nS, nP, nW, nL, nM) 109 = none := zi2_n2 hq (show zk_m S nS nP nW nL nM (q.1 0) (q.1 1) (q.1 2) = none from if_neg (fun z => h23 z.2.1))
               exact r_zr0 hP c119_63 (by rw [hno]; decide) (h _ (zfV_Z ha) (fun r z => by rw [hno] at z; cases z)))
            | (have hno : zi2 (zto T len) 3 p (S, nS, nP, nW, nL, nM) 109 = none := zi2_n2 hq (show zk_m S nS nP nW nL nM (q.1 0) (q.1 1) (q.1 2) = none from if_neg (fun z => h40 z.2.2.1))
               exact r_zr0 hP c119_63 (by rw [hno]; decide) (h _ (zfV_Z ha) (fun r z => by rw [hno] at z; cases z)))
            | (have hno : zi2 (zto T len) 3 p (S, nS, nP, nW, nL, nM) 109 = none := zi2_n2 hq (show zk_m S nS nP nW nL nM (q.1 0) (q.1 1) (q.1 2) = none from if_neg (fun z => h59 z.2.2.2))
               exact r_zr0 hP c119_63 (by rw [hno]; decide) (h _ (zfV_Z ha) (fun r z => by rw [hno] at z; cases z)))
        · refine r_al hP c119_43 rfl ?_
          refine r_gR (x := 148) hP c119_44 (zj119 hKb) (zr119_31 hRb) ?_
          refine r_ic hP c119_47 ?_
          refine r_iald (j := 2) (x := q.1 2) hP c119_48 (zk148 hKb) rfl (by decide) (hf 2 (by decide)) ?_
          refine r_i2l hP c119_49 ?_
          refine r_lc hP c119_50 ?_
          refine r_lc hP c119_53 ?_
          refine r_cSi (as := [.long ((q.1 2).toInt64), .long (-50), .long 50]) (r := []) (I' := I2) (L' := L) (R' := R) (x := if (-50) ≤ (q.1 2).toInt64 ∧ (q.1 2).toInt64 ≤ 50 then 1 else 0) hP c119_56 rfl rfl (fun _ h2 => x_isIn hP h2) ?_
          refine r_ti (y := if (-50) ≤ (q.1 2) ∧ (q.1 2) ≤ 50 then 1 else 0) (zisC rfl rfl) ?_
          refine r_ifneB hP c119_59 (fun h59 => ?_) (fun h59 => ?_)
          · obtain ⟨a, ha1, hae⟩ := (zr_iff (by omega)).mp h23
            obtain ⟨b, hb1, hbe⟩ := zb_nI (n := 2) rfl (by decide) h40
            refine r_al hP c119_64 rfl ?_
            refine r_gR (x := 136) hP c119_65 (zj119 hKb) (zr119_17 hRb) ?_
            refine r_ic hP c119_68 ?_
            refine r_ic hP c119_70 ?_
            refine r_al hP c119_71 rfl ?_
            refine r_gR (x := 148) hP c119_72 (zj119 hKb) (zr119_31 hRb) ?_
            refine r_ic hP c119_75 ?_
            refine r_iald (j := 0) (x := q.1 0) hP c119_76 (zk148 hKb) rfl (by decide) (hf 0 (by decide)) ?_
            refine r_imul hP c119_77 ?_
            refine r_ti (y := nI (3 * a)) (by rw [hae]; exact pk_mul 3 a) ?_
            refine r_iadd hP c119_78 ?_
            refine r_ti (y := nI (18 + 3 * a)) (nI_add 18 (3 * a)) ?_
            refine r_al hP c119_79 rfl ?_
            refine r_gR (x := 148) hP c119_80 (zj119 hKb) (zr119_31 hRb) ?_
            refine r_ic hP c119_83 ?_
            refine r_iald (j := 1) (x := q.1 1) hP c119_84 (zk148 hKb) rfl (by decide) (hf 1 (by decide)) ?_
            refine r_iadd hP c119_85 ?_
            refine r_ti (y := nI (18 + 3 * a + b)) (by rw [hbe]; exact nI_add _ _) ?_
            refine r_dup2 hP c119_86 rfl rfl ?_
            refine r_iald (j := 18 + 3 * a + b) (x := S 2 a b) hP c119_87 (zk136 hKb) rfl (by omega) ((hE2.1.2.2.2.1 a ha1).2.2 b (by omega)) ?_
            refine r_al hP c119_88 rfl ?_
            refine r_gR (x := 148) hP c119_89 (zj119 hKb) (zr119_31 hRb) ?_
            refine r_ic hP c119_92 ?_
            refine r_iald (j := 2) (x := q.1 2) hP c119_93 (zk148 hKb) rfl (by decide) (hf 2 (by decide)) ?_
            refine r_iadd hP c119_94 ?_
            refine r_iast (j := 18 + 3 * a + b) hP c119_95 (zk136 hKb) rfl (by omega) ?_
            refine r_al hP c119_96 rfl ?_
            refine r_gR (x := 135) hP c119_97 (zj119 hKb) (zr119_16 hRb) ?_
            refine r_ic hP c119_100 ?_
            refine r_dup2 hP c119_101 rfl rfl ?_
            refine r_iald (j := 1) (x := nI nM) hP c119_102 (zk135 hKb) rfl (by decide) ((zup_n _ _ _ _ (by omega)).trans hE2.2.2.1) ?_
            refine r_ic hP c119_103 ?_
            refine r_iadd hP c119_104 ?_
            refine r_ti (y := nI (nM + 1)) (nI_1 _) ?_
            refine r_iast (j := 1) hP c119_105 (zk135 hKb) rfl (by decide) ?_
            refine r_ic hP c119_106 ?_
            have hs_ : zi2 (zto T len) 3 p (S, nS, nP, nW, nL, nM) 109 = some _ := zi2_s hq (show zk_m S nS nP nW nL nM (q.1 0) (q.1 1) (q.1 2) = some _ from if_pos ⟨hlt, h23, h40, h59⟩)
            exact r_zr1 hP c119_107 (by rw [hs_]; rfl) (h _ (zfV_u ((zfV_u (zfV_Z ha) (by decide) (by decide) (show 18 ≤ _ from by omega))) (by decide) (by decide) (show 1 ≤ _ from by omega)) (fun r z => by
              rw [hs_] at z
              cases z
              exact ⟨by rw [hae, hbe, nI_clamp (n := a) (by omega), nI_clamp (n := b) (by omega)]; exact zE_nm (zE_m hE2 hub1 hub2 hub3 ha1 (by omega)) hub1 hub2 hub3, ((zup_n _ _ _ _ (by omega)).trans ((zup_n _ _ _ _ (by omega)).trans hpq))⟩))
          · refine r_ic hP c119_62 ?_
            first
              | (have hno : zi2 (zto T len) 3 p (S, nS, nP, nW, nL, nM) 109 = none := zi2_n1 (Option.not_isSome_iff_eq_none.mp h5)
                 exact r_zr0 hP c119_63 (by rw [hno]; decide) (h _ (zfV_Z ha) (fun r z => by rw [hno] at z; cases z)))
              | (have hno : zi2 (zto T len) 3 p (S, nS, nP, nW, nL, nM) 109 = none := zi2_n2 hq (show zk_m S nS nP nW nL nM (q.1 0) (q.1 1) (q.1 2) = none from if_neg (fun z => hlt z.1))
                 exact r_zr0 hP c119_63 (by rw [hno]; decide) (h _ (zfV_Z ha) (fun r z => by rw [hno] at z; cases z)))
              | (have hno : zi2 (zto T len) 3 p (S, nS, nP, nW, nL, nM) 109 = none := zi2_n2 hq (show zk_m S nS nP nW nL nM (q.1 0) (q.1 1) (q.1 2) = none from if_neg (fun z => h23 z.2.1))
                 exact r_zr0 hP c119_63 (by rw [hno]; decide) (h _ (zfV_Z ha) (fun r z => by rw [hno] at z; cases z)))
              | (have hno : zi2 (zto T len) 3 p (S, nS, nP, nW, nL, nM) 109 = none := zi2_n2 hq (show zk_m S nS nP nW nL nM (q.1 0) (q.1 1) (q.1 2) = none from if_neg (fun z => h40 z.2.2.1))
                 exact r_zr0 hP c119_63 (by rw [hno]; decide) (h _ (zfV_Z ha) (fun r z => by rw [hno] at z; cases z)))
              | (have hno : zi2 (zto T len) 3 p (S, nS, nP, nW, nL, nM) 109 = none := zi2_n2 hq (show zk_m S nS nP nW nL nM (q.1 0) (q.1 1) (q.1 2) = none from if_neg (fun z => h59 z.2.2.2))
                 exact r_zr0 hP c119_63 (by rw [hno]; decide) (h _ (zfV_Z ha) (fun r z => by rw [hno] at z; cases z)))
set_option maxRecDepth 4000 in
theorem y_wayItem {K : ZKh} {P : Nat → Nat → List Value → List Value → ZMi → ZMl → ZMr → ZRt → Prop} {I : ZMi} {L : ZMl} {R : ZMr} {Q : ZRt} (hP : ZCl K P) (hKb : zKb K) (hRb : zRb R) {len : Nat} {T : Nat → Nat} (hT : zTm I len T) (hl : len ≤ 400) (h256 : ∀ i, T i < 256) {S : ZS} {nS nP nW nL nM : Nat} (hE : zE I (S, nS, nP, nW, nL, nM)) (hub : zUb (S, nS, nP, nW, nL, nM)) {p : Nat} (hpl : I 119 30 = nI p) (hp : p ≤ 450) (h : ∀ I2, zfV I I2 → (∀ r, zi2 (zto T len) 3 p (S, nS, nP, nW, nL, nM) 102 = some r → zE I2 r.1 ∧ I2 119 30 = nI r.2) → Q (some (.int (if (zi2 (zto T len) 3 p (S, nS, nP, nW, nL, nM) 102).isSome = true then 1 else 0))) I2 L R) : P 120 0 [.ref 119, .null] [] I L R Q := by
  obtain ⟨hub1, hub2, hub3, hub4, hub5⟩ := id hub
  simp only at hub1 hub2 hub3 hub4 hub5
  refine r_ic hP c120_0 ?_
  refine r_al hP c120_2 rfl ?_
  refine r_gR (x := 137) hP c120_3 (zj119 hKb) (zr119_18 hRb) ?_
  refine r_ic hP c120_6 ?_
  refine r_iald (j := 1) (x := nI nW) hP c120_7 (zk137 hKb) rfl (by decide) hE.1.2.2.1 ?_
  refine r_iadd hP c120_8 ?_
  refine r_ti (y := nI (6 + nW)) (nI_add 6 nW) ?_
  refine r_is (ls' := [.ref 119, .int (nI (6 + nW))]) hP c120_9 (Nat.le_of_ble_eq_true rfl) rfl ?_
  refine r_al hP c120_10 rfl ?_
  refine r_ic hP c120_11 ?_
  refine r_cVip (as := [.int 3]) (r := []) (a := 119) hP c120_12 rfl (zj119 hKb) rfl (fun z I2 L2 R2 => (z = (if (zns (zto T len) 3 p 3).isSome = true then 1 else 0) ∧ zfZ I I2 ∧ (∀ q, zns (zto T len) 3 p 3 = some q → I2 119 30 = nI q.2 ∧ ∀ j, j < 3 → I2 148 j = q.1 j)) ∧ L = L2 ∧ R = R2) (fun Q2 hq => y_figures (many := 3) hP hKb hRb hT hl h256 (by decide) (by omega) hpl (fun I2 a b => hq _ I2 L R ⟨⟨rfl, a, b⟩, rfl, rfl⟩)) ?_
  rintro zz I2 L2 R2 ⟨⟨rfl, ha, hfq⟩, rfl, rfl⟩
  refine r_ifeqB hP c120_15 (fun h15 => ?_) (fun h15 => ?_)
  · refine r_ic hP c120_72 ?_
    first
      | (have hno : zi2 (zto T len) 3 p (S, nS, nP, nW, nL, nM) 102 = none := zi2_n1 (Option.not_isSome_iff_eq_none.mp h15)
         exact r_zr0 hP c120_73 (by rw [hno]; decide) (h _ (zfV_Z ha) (fun r z => by rw [hno] at z; cases z)))
      | (have hno : zi2 (zto T len) 3 p (S, nS, nP, nW, nL, nM) 102 = none := zi2_n2 hq (show zk_f S nS nP nW nL nM (q.1 0) (q.1 1) (q.1 2) = none from if_neg (fun z => hlt z.1))
         exact r_zr0 hP c120_73 (by rw [hno]; decide) (h _ (zfV_Z ha) (fun r z => by rw [hno] at z; cases z)))
      | (have hno : zi2 (zto T len) 3 p (S, nS, nP, nW, nL, nM) 102 = none := zi2_n2 hq (show zk_f S nS nP nW nL nM (q.1 0) (q.1 1) (q.1 2) = none from if_neg (fun z => h33 z.2.1))
         exact r_zr0 hP c120_73 (by rw [hno]; decide) (h _ (zfV_Z ha) (fun r z => by rw [hno] at z; cases z)))
      | (have hno : zi2 (zto T len) 3 p (S, nS, nP, nW, nL, nM) 102 = none := zi2_n2 hq (show zk_f S nS nP nW nL nM (q.1 0) (q.1 1) (q.1 2) = none from if_neg (fun z => h50 z.2.2.1))
         exact r_zr0 hP c120_73 (by rw [hno]; decide) (h _ (zfV_Z ha) (fun r z => by rw [hno] at z; cases z)))
      | (have hno : zi2 (zto T len) 3 p (S, nS, nP, nW, nL, nM) 102 = none := zi2_n2 hq (show zk_f S nS nP nW nL nM (q.1 0) (q.1 1) (q.1 2) = none from if_neg (fun z => h69 z.2.2.2))
         exact r_zr0 hP c120_73 (by rw [hno]; decide) (h _ (zfV_Z ha) (fun r z => by rw [hno] at z; cases z)))
  · obtain ⟨q, hq⟩ := Option.isSome_iff_exists.mp h15
    obtain ⟨hpq, hf⟩ := hfq q hq
    have hE2 : zE I2 (S, nS, nP, nW, nL, nM) := zE_Z hE ha
    refine r_al hP c120_18 rfl ?_
    refine r_gR (x := 137) hP c120_19 (zj119 hKb) (zr119_18 hRb) ?_
    refine r_ic hP c120_22 ?_
    refine r_iald (j := 1) (x := nI nW) hP c120_23 (zk137 hKb) rfl (by decide) hE2.1.2.2.1 ?_
    refine r_ic hP c120_24 ?_
    refine r_ieq hP c120_26 (fun h26 => ?_) (fun h26 => ?_)
    · have hlt : ¬ nW < 6 := by
        have := (nI_eq (b := 6) (by omega) (by decide)).mp h26
        omega
      refine r_ic hP c120_72 ?_
      first
        | (have hno : zi2 (zto T len) 3 p (S, nS, nP, nW, nL, nM) 102 = none := zi2_n1 (Option.not_isSome_iff_eq_none.mp h15)
           exact r_zr0 hP c120_73 (by rw [hno]; decide) (h _ (zfV_Z ha) (fun r z => by rw [hno] at z; cases z)))
        | (have hno : zi2 (zto T len) 3 p (S, nS, nP, nW, nL, nM) 102 = none := zi2_n2 hq (show zk_f S nS nP nW nL nM (q.1 0) (q.1 1) (q.1 2) = none from if_neg (fun z => hlt z.1))
           exact r_zr0 hP c120_73 (by rw [hno]; decide) (h _ (zfV_Z ha) (fun r z => by rw [hno] at z; cases z)))
        | (have hno : zi2 (zto T len) 3 p (S, nS, nP, nW, nL, nM) 102 = none := zi2_n2 hq (show zk_f S nS nP nW nL nM (q.1 0) (q.1 1) (q.1 2) = none from if_neg (fun z => h33 z.2.1))
           exact r_zr0 hP c120_73 (by rw [hno]; decide) (h _ (zfV_Z ha) (fun r z => by rw [hno] at z; cases z)))
        | (have hno : zi2 (zto T len) 3 p (S, nS, nP, nW, nL, nM) 102 = none := zi2_n2 hq (show zk_f S nS nP nW nL nM (q.1 0) (q.1 1) (q.1 2) = none from if_neg (fun z => h50 z.2.2.1))
           exact r_zr0 hP c120_73 (by rw [hno]; decide) (h _ (zfV_Z ha) (fun r z => by rw [hno] at z; cases z)))
        | (have hno : zi2 (zto T len) 3 p (S, nS, nP, nW, nL, nM) 102 = none := zi2_n2 hq (show zk_f S nS nP nW nL nM (q.1 0) (q.1 1) (q.1 2) = none from if_neg (fun z => h69 z.2.2.2))
           exact r_zr0 hP c120_73 (by rw [hno]; decide) (h _ (zfV_Z ha) (fun r z => by rw [hno] at z; cases z)))
    · have hlt : nW < 6 := by
        have hz : ¬ nW = 6 := fun z => h26 (by rw [z]; rfl)
        omega
      refine r_al hP c120_29 rfl ?_
      refine r_cVi (as := []) (r := []) (I' := I2) (L' := L) (R' := R) (x := if zr (q.1 0) nS then 1 else 0) (a := 119) hP c120_30 rfl (zj119 hKb) rfl (fun _ hq => y_isStageTold (n := nS) hP hKb hRb (by omega) (hf 0 (by decide)) hE2.1.1 hq) ?_
      refine r_ifeqB hP c120_33 (fun h33 => ?_) (fun h33 => ?_)
      · refine r_ic hP c120_72 ?_
        first
          | (have hno : zi2 (zto T len) 3 p (S, nS, nP, nW, nL, nM) 102 = none := zi2_n1 (Option.not_isSome_iff_eq_none.mp h15)
             exact r_zr0 hP c120_73 (by rw [hno]; decide) (h _ (zfV_Z ha) (fun r z => by rw [hno] at z; cases z)))
          | (have hno : zi2 (zto T len) 3 p (S, nS, nP, nW, nL, nM) 102 = none := zi2_n2 hq (show zk_f S nS nP nW nL nM (q.1 0) (q.1 1) (q.1 2) = none from if_neg (fun z => hlt z.1))
             exact r_zr0 hP c120_73 (by rw [hno]; decide) (h _ (zfV_Z ha) (fun r z => by rw [hno] at z; cases z)))
          | (have hno : zi2 (zto T len) 3 p (S, nS, nP, nW, nL, nM) 102 = none := zi2_n2 hq (show zk_f S nS nP nW nL nM (q.1 0) (q.1 1) (q.1 2) = none from if_neg (fun z => h33 z.2.1))
             exact r_zr0 hP c120_73 (by rw [hno]; decide) (h _ (zfV_Z ha) (fun r z => by rw [hno] at z; cases z)))
          | (have hno : zi2 (zto T len) 3 p (S, nS, nP, nW, nL, nM) 102 = none := zi2_n2 hq (show zk_f S nS nP nW nL nM (q.1 0) (q.1 1) (q.1 2) = none from if_neg (fun z => h50 z.2.2.1))
             exact r_zr0 hP c120_73 (by rw [hno]; decide) (h _ (zfV_Z ha) (fun r z => by rw [hno] at z; cases z)))
          | (have hno : zi2 (zto T len) 3 p (S, nS, nP, nW, nL, nM) 102 = none := zi2_n2 hq (show zk_f S nS nP nW nL nM (q.1 0) (q.1 1) (q.1 2) = none from if_neg (fun z => h69 z.2.2.2))
             exact r_zr0 hP c120_73 (by rw [hno]; decide) (h _ (zfV_Z ha) (fun r z => by rw [hno] at z; cases z)))
      · refine r_al hP c120_36 rfl ?_
        refine r_gR (x := 148) hP c120_37 (zj119 hKb) (zr119_31 hRb) ?_
        refine r_ic hP c120_40 ?_
        refine r_iald (j := 1) (x := q.1 1) hP c120_41 (zk148 hKb) rfl (by decide) (hf 1 (by decide)) ?_
        refine r_i2l hP c120_42 ?_
        refine r_lc hP c120_43 ?_
        refine r_lc hP c120_44 ?_
        refine r_cSi (as := [.long ((q.1 1).toInt64), .long 0, .long 2]) (r := []) (I' := I2) (L' := L) (R' := R) (x := if 0 ≤ (q.1 1).toInt64 ∧ (q.1 1).toInt64 ≤ 2 then 1 else 0) hP c120_47 rfl rfl (fun _ h2 => x_isIn hP h2) ?_
        refine r_ti (y := if 0 ≤ (q.1 1) ∧ (q.1 1) ≤ 2 then 1 else 0) (zisC rfl rfl) ?_
        refine r_ifeqB hP c120_50 (fun h50 => ?_) (fun h50 => ?_)
        · refine r_ic hP c120_72 ?_
          first
            | (have hno : zi2 (zto T len) 3 p (S, nS, nP, nW, nL, nM) 102 = none := zi2_n1 (Option.not_isSome_iff_eq_none.mp h15)
               exact r_zr0 hP c120_73 (by rw [hno]; decide) (h _ (zfV_Z ha) (fun r z => by rw [hno] at z; cases z)))
            | (have hno : zi2 (zto T len) 3 p (S, nS, nP, nW, nL, nM) 102 = none := zi2_n2 hq (show zk_f S nS nP nW nL nM (q.1 0) (q.1 1) (q.1 2) = none from if_neg (fun z => hlt z.1))
               exact r_zr0 hP c120_73 (by rw [hno]; decide) (h _ (zfV_Z ha) (fun r z => by rw [hno] at z; cases z)))
            | (have hno : zi2 (zto T len) 3 p (S, nS, nP, nW, nL, nM) 102 = none := zi2_n2 hq (show zk_f S nS nP nW nL nM (q.1 0) (q.1 1) (q.1 2) = none from if_neg (fun z => h33 z.2.1))
               exact r_zr0 hP c120_73 (by rw [hno]; decide) (h _ (zfV_Z ha) (fun r z => by rw [hno] at z; cases z)))
            | (have hno : zi2 (zto T len) 3 p (S, nS, nP, nW, nL, nM) 102 = none := zi2_n2 hq (show zk_f S nS nP nW nL nM (q.1 0) (q.1 1) (q.1 2) = none from if_neg (fun z => h50 z.2.2.1))
               exact r_zr0 hP c120_73 (by rw [hno]; decide) (h _ (zfV_Z ha) (fun r z => by rw [hno] at z; cases z)))
            | (have hno : zi2 (zto T len) 3 p (S, nS, nP, nW, nL, nM) 102 = none := zi2_n2 hq (show zk_f S nS nP nW nL nM (q.1 0) (q.1 1) (q.1 2) = none from if_neg (fun z => h69 z.2.2.2))
               exact r_zr0 hP c120_73 (by rw [hno]; decide) (h _ (zfV_Z ha) (fun r z => by rw [hno] at z; cases z)))
        · refine r_al hP c120_53 rfl ?_
          refine r_gR (x := 148) hP c120_54 (zj119 hKb) (zr119_31 hRb) ?_
          refine r_ic hP c120_57 ?_
          refine r_iald (j := 2) (x := q.1 2) hP c120_58 (zk148 hKb) rfl (by decide) (hf 2 (by decide)) ?_
          refine r_i2l hP c120_59 ?_
          refine r_lc hP c120_60 ?_
          refine r_lc hP c120_63 ?_
          refine r_cSi (as := [.long ((q.1 2).toInt64), .long (-200), .long 200]) (r := []) (I' := I2) (L' := L) (R' := R) (x := if (-200) ≤ (q.1 2).toInt64 ∧ (q.1 2).toInt64 ≤ 200 then 1 else 0) hP c120_66 rfl rfl (fun _ h2 => x_isIn hP h2) ?_
          refine r_ti (y := if (-200) ≤ (q.1 2) ∧ (q.1 2) ≤ 200 then 1 else 0) (zisC rfl rfl) ?_
          refine r_ifneB hP c120_69 (fun h69 => ?_) (fun h69 => ?_)
          · refine r_al hP c120_74 rfl ?_
            refine r_gR (x := 138) hP c120_75 (zj119 hKb) (zr119_19 hRb) ?_
            refine r_il hP c120_78 rfl ?_
            refine r_al hP c120_79 rfl ?_
            refine r_gR (x := 148) hP c120_80 (zj119 hKb) (zr119_31 hRb) ?_
            refine r_ic hP c120_83 ?_
            refine r_iald (j := 0) (x := q.1 0) hP c120_84 (zk148 hKb) rfl (by decide) (hf 0 (by decide)) ?_
            refine r_iast (j := 6 + nW) hP c120_85 (zk138 hKb) rfl (by omega) ?_
            refine r_al hP c120_86 rfl ?_
            refine r_gR (x := 139) hP c120_87 (zj119 hKb) (zr119_20 hRb) ?_
            refine r_il hP c120_90 rfl ?_
            refine r_al hP c120_91 rfl ?_
            refine r_gR (x := 148) hP c120_92 (zj119 hKb) (zr119_31 hRb) ?_
            refine r_ic hP c120_95 ?_
            refine r_iald (j := 1) (x := q.1 1) hP c120_96 (zk148 hKb) rfl (by decide) ((zup_n _ _ _ _ (by omega)).trans (hf 1 (by decide))) ?_
            refine r_iast (j := 6 + nW) hP c120_97 (zk139 hKb) rfl (by omega) ?_
            refine r_al hP c120_98 rfl ?_
            refine r_gR (x := 140) hP c120_99 (zj119 hKb) (zr119_21 hRb) ?_
            refine r_il hP c120_102 rfl ?_
            refine r_al hP c120_103 rfl ?_
            refine r_gR (x := 148) hP c120_104 (zj119 hKb) (zr119_31 hRb) ?_
            refine r_ic hP c120_107 ?_
            refine r_iald (j := 2) (x := q.1 2) hP c120_108 (zk148 hKb) rfl (by decide) ((zup_n _ _ _ _ (by omega)).trans ((zup_n _ _ _ _ (by omega)).trans (hf 2 (by decide)))) ?_
            refine r_iast (j := 6 + nW) hP c120_109 (zk140 hKb) rfl (by omega) ?_
            refine r_al hP c120_110 rfl ?_
            refine r_gR (x := 137) hP c120_111 (zj119 hKb) (zr119_18 hRb) ?_
            refine r_ic hP c120_114 ?_
            refine r_dup2 hP c120_115 rfl rfl ?_
            refine r_iald (j := 1) (x := nI nW) hP c120_116 (zk137 hKb) rfl (by decide) ((zup_n _ _ _ _ (by omega)).trans ((zup_n _ _ _ _ (by omega)).trans ((zup_n _ _ _ _ (by omega)).trans hE2.1.2.2.1))) ?_
            refine r_ic hP c120_117 ?_
            refine r_iadd hP c120_118 ?_
            refine r_ti (y := nI (nW + 1)) (nI_1 _) ?_
            refine r_iast (j := 1) hP c120_119 (zk137 hKb) rfl (by decide) ?_
            refine r_ic hP c120_120 ?_
            have hs_ : zi2 (zto T len) 3 p (S, nS, nP, nW, nL, nM) 102 = some _ := zi2_s hq (show zk_f S nS nP nW nL nM (q.1 0) (q.1 1) (q.1 2) = some _ from if_pos ⟨hlt, h33, h50, h69⟩)
            exact r_zr1 hP c120_121 (by rw [hs_]; rfl) (h _ (zfV_u ((zfV_u ((zfV_u ((zfV_u (zfV_Z ha) (by decide) (by decide) (show 6 ≤ _ from by omega))) (by decide) (by decide) (show 6 ≤ _ from by omega))) (by decide) (by decide) (show 6 ≤ _ from by omega))) (by decide) (by decide) (show 1 ≤ _ from by omega)) (fun r z => by
              rw [hs_] at z
              cases z
              exact ⟨zE_f hE2 hub1 hub2 hub3 hlt, ((zup_n _ _ _ _ (by omega)).trans ((zup_n _ _ _ _ (by omega)).trans ((zup_n _ _ _ _ (by omega)).trans ((zup_n _ _ _ _ (by omega)).trans hpq))))⟩))
          · refine r_ic hP c120_72 ?_
            first
              | (have hno : zi2 (zto T len) 3 p (S, nS, nP, nW, nL, nM) 102 = none := zi2_n1 (Option.not_isSome_iff_eq_none.mp h15)
                 exact r_zr0 hP c120_73 (by rw [hno]; decide) (h _ (zfV_Z ha) (fun r z => by rw [hno] at z; cases z)))
              | (have hno : zi2 (zto T len) 3 p (S, nS, nP, nW, nL, nM) 102 = none := zi2_n2 hq (show zk_f S nS nP nW nL nM (q.1 0) (q.1 1) (q.1 2) = none from if_neg (fun z => hlt z.1))
                 exact r_zr0 hP c120_73 (by rw [hno]; decide) (h _ (zfV_Z ha) (fun r z => by rw [hno] at z; cases z)))
              | (have hno : zi2 (zto T len) 3 p (S, nS, nP, nW, nL, nM) 102 = none := zi2_n2 hq (show zk_f S nS nP nW nL nM (q.1 0) (q.1 1) (q.1 2) = none from if_neg (fun z => h33 z.2.1))
                 exact r_zr0 hP c120_73 (by rw [hno]; decide) (h _ (zfV_Z ha) (fun r z => by rw [hno] at z; cases z)))
              | (have hno : zi2 (zto T len) 3 p (S, nS, nP, nW, nL, nM) 102 = none := zi2_n2 hq (show zk_f S nS nP nW nL nM (q.1 0) (q.1 1) (q.1 2) = none from if_neg (fun z => h50 z.2.2.1))
                 exact r_zr0 hP c120_73 (by rw [hno]; decide) (h _ (zfV_Z ha) (fun r z => by rw [hno] at z; cases z)))
              | (have hno : zi2 (zto T len) 3 p (S, nS, nP, nW, nL, nM) 102 = none := zi2_n2 hq (show zk_f S nS nP nW nL nM (q.1 0) (q.1 1) (q.1 2) = none from if_neg (fun z => h69 z.2.2.2))
                 exact r_zr0 hP c120_73 (by rw [hno]; decide) (h _ (zfV_Z ha) (fun r z => by rw [hno] at z; cases z)))
set_option maxRecDepth 4000 in
theorem y_it_c {K : ZKh} {P : Nat → Nat → List Value → List Value → ZMi → ZMl → ZMr → ZRt → Prop} {I : ZMi} {L : ZMl} {R : ZMr} {Q : ZRt} (hP : ZCl K P) (hKb : zKb K) (hRb : zRb R) {len : Nat} {T : Nat → Nat} (hT : zTm I len T) (hl : len ≤ 400) (h256 : ∀ i, T i < 256) {S : ZS} {nS nP nW nL nM : Nat} (hE : zE I (S, nS, nP, nW, nL, nM)) (hub : zUb (S, nS, nP, nW, nL, nM)) {p : Nat} (hpl : I 119 30 = nI p) (hp : p ≤ 450) {v1 : Value} (h : ∀ I2, zfV I I2 → (∀ r, zi2 (zto T len) 2 p (S, nS, nP, nW, nL, nM) 99 = some r → zE I2 r.1 ∧ I2 119 30 = nI r.2) → Q (some (.int (if (zi2 (zto T len) 2 p (S, nS, nP, nW, nL, nM) 99).isSome = true then 1 else 0))) I2 L R) : P 121 141 [.ref 119, v1] [] I L R Q := by
  obtain ⟨hub1, hub2, hub3, hub4, hub5⟩ := id hub
  simp only at hub1 hub2 hub3 hub4 hub5
  refine r_al hP c121_141 rfl ?_
  refine r_ic hP c121_142 ?_
  refine r_cVip (as := [.int 2]) (r := []) (a := 119) hP c121_143 rfl (zj119 hKb) rfl (fun z I2 L2 R2 => (z = (if (zns (zto T len) 2 p 2).isSome = true then 1 else 0) ∧ zfZ I I2 ∧ (∀ q, zns (zto T len) 2 p 2 = some q → I2 119 30 = nI q.2 ∧ ∀ j, j < 2 → I2 148 j = q.1 j)) ∧ L = L2 ∧ R = R2) (fun Q2 hq => y_figures (many := 2) hP hKb hRb hT hl h256 (by decide) (by omega) hpl (fun I2 a b => hq _ I2 L R ⟨⟨rfl, a, b⟩, rfl, rfl⟩)) ?_
  rintro zz I2 L2 R2 ⟨⟨rfl, ha, hfq⟩, rfl, rfl⟩
  refine r_ifeqB hP c121_146 (fun h146 => ?_) (fun h146 => ?_)
  · refine r_ic hP c121_173 ?_
    first
      | (have hno : zi2 (zto T len) 2 p (S, nS, nP, nW, nL, nM) 99 = none := zi2_n1 (Option.not_isSome_iff_eq_none.mp h146)
         exact r_zr0 hP c121_174 (by rw [hno]; decide) (h _ (zfV_Z ha) (fun r z => by rw [hno] at z; cases z)))
      | (have hno : zi2 (zto T len) 2 p (S, nS, nP, nW, nL, nM) 99 = none := zi2_n2 hq (show zk_c S nS nP nW nL nM (q.1 0) (q.1 1) = none from if_neg (fun z => h153 z.1))
         exact r_zr0 hP c121_174 (by rw [hno]; decide) (h _ (zfV_Z ha) (fun r z => by rw [hno] at z; cases z)))
      | (have hno : zi2 (zto T len) 2 p (S, nS, nP, nW, nL, nM) 99 = none := zi2_n2 hq (show zk_c S nS nP nW nL nM (q.1 0) (q.1 1) = none from if_neg (fun z => h170 z.2))
         exact r_zr0 hP c121_174 (by rw [hno]; decide) (h _ (zfV_Z ha) (fun r z => by rw [hno] at z; cases z)))
  · obtain ⟨q, hq⟩ := Option.isSome_iff_exists.mp h146
    obtain ⟨hpq, hf⟩ := hfq q hq
    have hE2 : zE I2 (S, nS, nP, nW, nL, nM) := zE_Z hE ha
    refine r_al hP c121_149 rfl ?_
    refine r_cVi (as := []) (r := []) (I' := I2) (L' := L) (R' := R) (x := if zr (q.1 0) nP then 1 else 0) (a := 119) hP c121_150 rfl (zj119 hKb) rfl (fun _ hq => y_isPartTold (n := nP) hP hKb hRb (by omega) (hf 0 (by decide)) hE2.1.2.1 hq) ?_
    refine r_ifeqB hP c121_153 (fun h153 => ?_) (fun h153 => ?_)
    · refine r_ic hP c121_173 ?_
      first
        | (have hno : zi2 (zto T len) 2 p (S, nS, nP, nW, nL, nM) 99 = none := zi2_n1 (Option.not_isSome_iff_eq_none.mp h146)
           exact r_zr0 hP c121_174 (by rw [hno]; decide) (h _ (zfV_Z ha) (fun r z => by rw [hno] at z; cases z)))
        | (have hno : zi2 (zto T len) 2 p (S, nS, nP, nW, nL, nM) 99 = none := zi2_n2 hq (show zk_c S nS nP nW nL nM (q.1 0) (q.1 1) = none from if_neg (fun z => h153 z.1))
           exact r_zr0 hP c121_174 (by rw [hno]; decide) (h _ (zfV_Z ha) (fun r z => by rw [hno] at z; cases z)))
        | (have hno : zi2 (zto T len) 2 p (S, nS, nP, nW, nL, nM) 99 = none := zi2_n2 hq (show zk_c S nS nP nW nL nM (q.1 0) (q.1 1) = none from if_neg (fun z => h170 z.2))
           exact r_zr0 hP c121_174 (by rw [hno]; decide) (h _ (zfV_Z ha) (fun r z => by rw [hno] at z; cases z)))
    · refine r_al hP c121_156 rfl ?_
      refine r_gR (x := 148) hP c121_157 (zj119 hKb) (zr119_31 hRb) ?_
      refine r_ic hP c121_160 ?_
      refine r_iald (j := 1) (x := q.1 1) hP c121_161 (zk148 hKb) rfl (by decide) (hf 1 (by decide)) ?_
      refine r_i2l hP c121_162 ?_
      refine r_lc hP c121_163 ?_
      refine r_lc hP c121_164 ?_
      refine r_cSi (as := [.long ((q.1 1).toInt64), .long 1, .long 99]) (r := []) (I' := I2) (L' := L) (R' := R) (x := if 1 ≤ (q.1 1).toInt64 ∧ (q.1 1).toInt64 ≤ 99 then 1 else 0) hP c121_167 rfl rfl (fun _ h2 => x_isIn hP h2) ?_
      refine r_ti (y := if 1 ≤ (q.1 1) ∧ (q.1 1) ≤ 99 then 1 else 0) (zisC rfl rfl) ?_
      refine r_ifneB hP c121_170 (fun h170 => ?_) (fun h170 => ?_)
      · obtain ⟨a, ha1, hae⟩ := (zr_iff (by omega)).mp h153
        refine r_al hP c121_175 rfl ?_
        refine r_gR (x := 130) hP c121_176 (zj119 hKb) (zr119_11 hRb) ?_
        refine r_ic hP c121_179 ?_
        refine r_al hP c121_181 rfl ?_
        refine r_gR (x := 148) hP c121_182 (zj119 hKb) (zr119_31 hRb) ?_
        refine r_ic hP c121_185 ?_
        refine r_iald (j := 0) (x := q.1 0) hP c121_186 (zk148 hKb) rfl (by decide) (hf 0 (by decide)) ?_
        refine r_iadd hP c121_187 ?_
        refine r_ti (y := nI (8 + a)) (by rw [hae]; exact nI_add 8 a) ?_
        refine r_al hP c121_188 rfl ?_
        refine r_gR (x := 148) hP c121_189 (zj119 hKb) (zr119_31 hRb) ?_
        refine r_ic hP c121_192 ?_
        refine r_iald (j := 1) (x := q.1 1) hP c121_193 (zk148 hKb) rfl (by decide) (hf 1 (by decide)) ?_
        refine r_iast (j := 8 + a) hP c121_194 (zk130 hKb) rfl (by omega) ?_
        refine r_ic hP c121_195 ?_
        have hs_ : zi2 (zto T len) 2 p (S, nS, nP, nW, nL, nM) 99 = some _ := zi2_s hq (show zk_c S nS nP nW nL nM (q.1 0) (q.1 1) = some _ from if_pos ⟨h153, h170⟩)
        exact r_zr1 hP c121_196 (by rw [hs_]; rfl) (h _ (zfV_u (zfV_Z ha) (by decide) (by decide) (show 8 ≤ _ from by omega)) (fun r z => by
          rw [hs_] at z
          cases z
          exact ⟨by rw [hae, nI_clamp (n := a) (by omega)]; exact zE_c hE2 hub1 hub2 hub3 ha1, ((zup_n _ _ _ _ (by omega)).trans hpq)⟩))
      · refine r_ic hP c121_173 ?_
        first
          | (have hno : zi2 (zto T len) 2 p (S, nS, nP, nW, nL, nM) 99 = none := zi2_n1 (Option.not_isSome_iff_eq_none.mp h146)
             exact r_zr0 hP c121_174 (by rw [hno]; decide) (h _ (zfV_Z ha) (fun r z => by rw [hno] at z; cases z)))
          | (have hno : zi2 (zto T len) 2 p (S, nS, nP, nW, nL, nM) 99 = none := zi2_n2 hq (show zk_c S nS nP nW nL nM (q.1 0) (q.1 1) = none from if_neg (fun z => h153 z.1))
             exact r_zr0 hP c121_174 (by rw [hno]; decide) (h _ (zfV_Z ha) (fun r z => by rw [hno] at z; cases z)))
          | (have hno : zi2 (zto T len) 2 p (S, nS, nP, nW, nL, nM) 99 = none := zi2_n2 hq (show zk_c S nS nP nW nL nM (q.1 0) (q.1 1) = none from if_neg (fun z => h170 z.2))
             exact r_zr0 hP c121_174 (by rw [hno]; decide) (h _ (zfV_Z ha) (fun r z => by rw [hno] at z; cases z)))
set_option maxRecDepth 4000 in
theorem y_it_e {K : ZKh} {P : Nat → Nat → List Value → List Value → ZMi → ZMl → ZMr → ZRt → Prop} {I : ZMi} {L : ZMl} {R : ZMr} {Q : ZRt} (hP : ZCl K P) (hKb : zKb K) (hRb : zRb R) {len : Nat} {T : Nat → Nat} (hT : zTm I len T) (hl : len ≤ 400) (h256 : ∀ i, T i < 256) {S : ZS} {nS nP nW nL nM : Nat} (hE : zE I (S, nS, nP, nW, nL, nM)) (hub : zUb (S, nS, nP, nW, nL, nM)) {p : Nat} (hpl : I 119 30 = nI p) (hp : p ≤ 450) {v1 : Value} (h : ∀ I2, zfV I I2 → (∀ r, zi2 (zto T len) 2 p (S, nS, nP, nW, nL, nM) 101 = some r → zE I2 r.1 ∧ I2 119 30 = nI r.2) → Q (some (.int (if (zi2 (zto T len) 2 p (S, nS, nP, nW, nL, nM) 101).isSome = true then 1 else 0))) I2 L R) : P 121 197 [.ref 119, v1] [] I L R Q := by
  obtain ⟨hub1, hub2, hub3, hub4, hub5⟩ := id hub
  simp only at hub1 hub2 hub3 hub4 hub5
  refine r_al hP c121_197 rfl ?_
  refine r_ic hP c121_198 ?_
  refine r_cVip (as := [.int 2]) (r := []) (a := 119) hP c121_199 rfl (zj119 hKb) rfl (fun z I2 L2 R2 => (z = (if (zns (zto T len) 2 p 2).isSome = true then 1 else 0) ∧ zfZ I I2 ∧ (∀ q, zns (zto T len) 2 p 2 = some q → I2 119 30 = nI q.2 ∧ ∀ j, j < 2 → I2 148 j = q.1 j)) ∧ L = L2 ∧ R = R2) (fun Q2 hq => y_figures (many := 2) hP hKb hRb hT hl h256 (by decide) (by omega) hpl (fun I2 a b => hq _ I2 L R ⟨⟨rfl, a, b⟩, rfl, rfl⟩)) ?_
  rintro zz I2 L2 R2 ⟨⟨rfl, ha, hfq⟩, rfl, rfl⟩
  refine r_ifeqB hP c121_202 (fun h202 => ?_) (fun h202 => ?_)
  · refine r_ic hP c121_239 ?_
    first
      | (have hno : zi2 (zto T len) 2 p (S, nS, nP, nW, nL, nM) 101 = none := zi2_n1 (Option.not_isSome_iff_eq_none.mp h202)
         exact r_zr0 hP c121_240 (by rw [hno]; decide) (h _ (zfV_Z ha) (fun r z => by rw [hno] at z; cases z)))
      | (have hno : zi2 (zto T len) 2 p (S, nS, nP, nW, nL, nM) 101 = none := zi2_n2 hq (show zk_e S nS nP nW nL nM (q.1 0) (q.1 1) = none from if_neg (fun z => h219 z.1))
         exact r_zr0 hP c121_240 (by rw [hno]; decide) (h _ (zfV_Z ha) (fun r z => by rw [hno] at z; cases z)))
      | (have hno : zi2 (zto T len) 2 p (S, nS, nP, nW, nL, nM) 101 = none := zi2_n2 hq (show zk_e S nS nP nW nL nM (q.1 0) (q.1 1) = none from if_neg (fun z => h236 z.2))
         exact r_zr0 hP c121_240 (by rw [hno]; decide) (h _ (zfV_Z ha) (fun r z => by rw [hno] at z; cases z)))
  · obtain ⟨q, hq⟩ := Option.isSome_iff_exists.mp h202
    obtain ⟨hpq, hf⟩ := hfq q hq
    have hE2 : zE I2 (S, nS, nP, nW, nL, nM) := zE_Z hE ha
    refine r_al hP c121_205 rfl ?_
    refine r_gR (x := 148) hP c121_206 (zj119 hKb) (zr119_31 hRb) ?_
    refine r_ic hP c121_209 ?_
    refine r_iald (j := 0) (x := q.1 0) hP c121_210 (zk148 hKb) rfl (by decide) (hf 0 (by decide)) ?_
    refine r_i2l hP c121_211 ?_
    refine r_lc hP c121_212 ?_
    refine r_lc hP c121_213 ?_
    refine r_cSi (as := [.long ((q.1 0).toInt64), .long 0, .long 2]) (r := []) (I' := I2) (L' := L) (R' := R) (x := if 0 ≤ (q.1 0).toInt64 ∧ (q.1 0).toInt64 ≤ 2 then 1 else 0) hP c121_216 rfl rfl (fun _ h2 => x_isIn hP h2) ?_
    refine r_ti (y := if 0 ≤ (q.1 0) ∧ (q.1 0) ≤ 2 then 1 else 0) (zisC rfl rfl) ?_
    refine r_ifeqB hP c121_219 (fun h219 => ?_) (fun h219 => ?_)
    · refine r_ic hP c121_239 ?_
      first
        | (have hno : zi2 (zto T len) 2 p (S, nS, nP, nW, nL, nM) 101 = none := zi2_n1 (Option.not_isSome_iff_eq_none.mp h202)
           exact r_zr0 hP c121_240 (by rw [hno]; decide) (h _ (zfV_Z ha) (fun r z => by rw [hno] at z; cases z)))
        | (have hno : zi2 (zto T len) 2 p (S, nS, nP, nW, nL, nM) 101 = none := zi2_n2 hq (show zk_e S nS nP nW nL nM (q.1 0) (q.1 1) = none from if_neg (fun z => h219 z.1))
           exact r_zr0 hP c121_240 (by rw [hno]; decide) (h _ (zfV_Z ha) (fun r z => by rw [hno] at z; cases z)))
        | (have hno : zi2 (zto T len) 2 p (S, nS, nP, nW, nL, nM) 101 = none := zi2_n2 hq (show zk_e S nS nP nW nL nM (q.1 0) (q.1 1) = none from if_neg (fun z => h236 z.2))
           exact r_zr0 hP c121_240 (by rw [hno]; decide) (h _ (zfV_Z ha) (fun r z => by rw [hno] at z; cases z)))
    · refine r_al hP c121_222 rfl ?_
      refine r_gR (x := 148) hP c121_223 (zj119 hKb) (zr119_31 hRb) ?_
      refine r_ic hP c121_226 ?_
      refine r_iald (j := 1) (x := q.1 1) hP c121_227 (zk148 hKb) rfl (by decide) (hf 1 (by decide)) ?_
      refine r_i2l hP c121_228 ?_
      refine r_lc hP c121_229 ?_
      refine r_lc hP c121_230 ?_
      refine r_cSi (as := [.long ((q.1 1).toInt64), .long 0, .long 999]) (r := []) (I' := I2) (L' := L) (R' := R) (x := if 0 ≤ (q.1 1).toInt64 ∧ (q.1 1).toInt64 ≤ 999 then 1 else 0) hP c121_233 rfl rfl (fun _ h2 => x_isIn hP h2) ?_
      refine r_ti (y := if 0 ≤ (q.1 1) ∧ (q.1 1) ≤ 999 then 1 else 0) (zisC rfl rfl) ?_
      refine r_ifneB hP c121_236 (fun h236 => ?_) (fun h236 => ?_)
      · obtain ⟨a, ha1, hae⟩ := zb_nI (n := 2) rfl (by decide) h219
        refine r_al hP c121_241 rfl ?_
        refine r_gR (x := 141) hP c121_242 (zj119 hKb) (zr119_22 hRb) ?_
        refine r_ic hP c121_245 ?_
        refine r_al hP c121_246 rfl ?_
        refine r_gR (x := 148) hP c121_247 (zj119 hKb) (zr119_31 hRb) ?_
        refine r_ic hP c121_250 ?_
        refine r_iald (j := 0) (x := q.1 0) hP c121_251 (zk148 hKb) rfl (by decide) (hf 0 (by decide)) ?_
        refine r_iadd hP c121_252 ?_
        refine r_ti (y := nI (3 + a)) (by rw [hae]; exact nI_add 3 a) ?_
        refine r_al hP c121_253 rfl ?_
        refine r_gR (x := 148) hP c121_254 (zj119 hKb) (zr119_31 hRb) ?_
        refine r_ic hP c121_257 ?_
        refine r_iald (j := 1) (x := q.1 1) hP c121_258 (zk148 hKb) rfl (by decide) (hf 1 (by decide)) ?_
        refine r_iast (j := 3 + a) hP c121_259 (zk141 hKb) rfl (by omega) ?_
        refine r_ic hP c121_260 ?_
        have hs_ : zi2 (zto T len) 2 p (S, nS, nP, nW, nL, nM) 101 = some _ := zi2_s hq (show zk_e S nS nP nW nL nM (q.1 0) (q.1 1) = some _ from if_pos ⟨h219, h236⟩)
        exact r_zr1 hP c121_261 (by rw [hs_]; rfl) (h _ (zfV_u (zfV_Z ha) (by decide) (by decide) (show 3 ≤ _ from by omega)) (fun r z => by
          rw [hs_] at z
          cases z
          exact ⟨by rw [hae, nI_clamp (n := a) (by omega)]; exact zE_e hE2 hub1 hub2 hub3 (by omega), ((zup_n _ _ _ _ (by omega)).trans hpq)⟩))
      · refine r_ic hP c121_239 ?_
        first
          | (have hno : zi2 (zto T len) 2 p (S, nS, nP, nW, nL, nM) 101 = none := zi2_n1 (Option.not_isSome_iff_eq_none.mp h202)
             exact r_zr0 hP c121_240 (by rw [hno]; decide) (h _ (zfV_Z ha) (fun r z => by rw [hno] at z; cases z)))
          | (have hno : zi2 (zto T len) 2 p (S, nS, nP, nW, nL, nM) 101 = none := zi2_n2 hq (show zk_e S nS nP nW nL nM (q.1 0) (q.1 1) = none from if_neg (fun z => h219 z.1))
             exact r_zr0 hP c121_240 (by rw [hno]; decide) (h _ (zfV_Z ha) (fun r z => by rw [hno] at z; cases z)))
          | (have hno : zi2 (zto T len) 2 p (S, nS, nP, nW, nL, nM) 101 = none := zi2_n2 hq (show zk_e S nS nP nW nL nM (q.1 0) (q.1 1) = none from if_neg (fun z => h236 z.2))
             exact r_zr0 hP c121_240 (by rw [hno]; decide) (h _ (zfV_Z ha) (fun r z => by rw [hno] at z; cases z)))
set_option maxRecDepth 4000 in
theorem y_it_k {K : ZKh} {P : Nat → Nat → List Value → List Value → ZMi → ZMl → ZMr → ZRt → Prop} {I : ZMi} {L : ZMl} {R : ZMr} {Q : ZRt} (hP : ZCl K P) (hKb : zKb K) (hRb : zRb R) {len : Nat} {T : Nat → Nat} (hT : zTm I len T) (hl : len ≤ 400) (h256 : ∀ i, T i < 256) {S : ZS} {nS nP nW nL nM : Nat} (hE : zE I (S, nS, nP, nW, nL, nM)) (hub : zUb (S, nS, nP, nW, nL, nM)) {p : Nat} (hpl : I 119 30 = nI p) (hp : p ≤ 450) {v1 : Value} (h : ∀ I2, zfV I I2 → (∀ r, zi2 (zto T len) 2 p (S, nS, nP, nW, nL, nM) 107 = some r → zE I2 r.1 ∧ I2 119 30 = nI r.2) → Q (some (.int (if (zi2 (zto T len) 2 p (S, nS, nP, nW, nL, nM) 107).isSome = true then 1 else 0))) I2 L R) : P 121 262 [.ref 119, v1] [] I L R Q := by
  obtain ⟨hub1, hub2, hub3, hub4, hub5⟩ := id hub
  simp only at hub1 hub2 hub3 hub4 hub5
  refine r_al hP c121_262 rfl ?_
  refine r_ic hP c121_263 ?_
  refine r_cVip (as := [.int 2]) (r := []) (a := 119) hP c121_264 rfl (zj119 hKb) rfl (fun z I2 L2 R2 => (z = (if (zns (zto T len) 2 p 2).isSome = true then 1 else 0) ∧ zfZ I I2 ∧ (∀ q, zns (zto T len) 2 p 2 = some q → I2 119 30 = nI q.2 ∧ ∀ j, j < 2 → I2 148 j = q.1 j)) ∧ L = L2 ∧ R = R2) (fun Q2 hq => y_figures (many := 2) hP hKb hRb hT hl h256 (by decide) (by omega) hpl (fun I2 a b => hq _ I2 L R ⟨⟨rfl, a, b⟩, rfl, rfl⟩)) ?_
  rintro zz I2 L2 R2 ⟨⟨rfl, ha, hfq⟩, rfl, rfl⟩
  refine r_ifeqB hP c121_267 (fun h267 => ?_) (fun h267 => ?_)
  · refine r_ic hP c121_304 ?_
    first
      | (have hno : zi2 (zto T len) 2 p (S, nS, nP, nW, nL, nM) 107 = none := zi2_n1 (Option.not_isSome_iff_eq_none.mp h267)
         exact r_zr0 hP c121_305 (by rw [hno]; decide) (h _ (zfV_Z ha) (fun r z => by rw [hno] at z; cases z)))
      | (have hno : zi2 (zto T len) 2 p (S, nS, nP, nW, nL, nM) 107 = none := zi2_n2 hq (show zk_k S nS nP nW nL nM (q.1 0) (q.1 1) = none from if_neg (fun z => h284 z.1))
         exact r_zr0 hP c121_305 (by rw [hno]; decide) (h _ (zfV_Z ha) (fun r z => by rw [hno] at z; cases z)))
      | (have hno : zi2 (zto T len) 2 p (S, nS, nP, nW, nL, nM) 107 = none := zi2_n2 hq (show zk_k S nS nP nW nL nM (q.1 0) (q.1 1) = none from if_neg (fun z => h301 z.2))
         exact r_zr0 hP c121_305 (by rw [hno]; decide) (h _ (zfV_Z ha) (fun r z => by rw [hno] at z; cases z)))
  · obtain ⟨q, hq⟩ := Option.isSome_iff_exists.mp h267
    obtain ⟨hpq, hf⟩ := hfq q hq
    have hE2 : zE I2 (S, nS, nP, nW, nL, nM) := zE_Z hE ha
    refine r_al hP c121_270 rfl ?_
    refine r_gR (x := 148) hP c121_271 (zj119 hKb) (zr119_31 hRb) ?_
    refine r_ic hP c121_274 ?_
    refine r_iald (j := 0) (x := q.1 0) hP c121_275 (zk148 hKb) rfl (by decide) (hf 0 (by decide)) ?_
    refine r_i2l hP c121_276 ?_
    refine r_lc hP c121_277 ?_
    refine r_lc hP c121_278 ?_
    refine r_cSi (as := [.long ((q.1 0).toInt64), .long 0, .long 4]) (r := []) (I' := I2) (L' := L) (R' := R) (x := if 0 ≤ (q.1 0).toInt64 ∧ (q.1 0).toInt64 ≤ 4 then 1 else 0) hP c121_281 rfl rfl (fun _ h2 => x_isIn hP h2) ?_
    refine r_ti (y := if 0 ≤ (q.1 0) ∧ (q.1 0) ≤ 4 then 1 else 0) (zisC rfl rfl) ?_
    refine r_ifeqB hP c121_284 (fun h284 => ?_) (fun h284 => ?_)
    · refine r_ic hP c121_304 ?_
      first
        | (have hno : zi2 (zto T len) 2 p (S, nS, nP, nW, nL, nM) 107 = none := zi2_n1 (Option.not_isSome_iff_eq_none.mp h267)
           exact r_zr0 hP c121_305 (by rw [hno]; decide) (h _ (zfV_Z ha) (fun r z => by rw [hno] at z; cases z)))
        | (have hno : zi2 (zto T len) 2 p (S, nS, nP, nW, nL, nM) 107 = none := zi2_n2 hq (show zk_k S nS nP nW nL nM (q.1 0) (q.1 1) = none from if_neg (fun z => h284 z.1))
           exact r_zr0 hP c121_305 (by rw [hno]; decide) (h _ (zfV_Z ha) (fun r z => by rw [hno] at z; cases z)))
        | (have hno : zi2 (zto T len) 2 p (S, nS, nP, nW, nL, nM) 107 = none := zi2_n2 hq (show zk_k S nS nP nW nL nM (q.1 0) (q.1 1) = none from if_neg (fun z => h301 z.2))
           exact r_zr0 hP c121_305 (by rw [hno]; decide) (h _ (zfV_Z ha) (fun r z => by rw [hno] at z; cases z)))
    · refine r_al hP c121_287 rfl ?_
      refine r_gR (x := 148) hP c121_288 (zj119 hKb) (zr119_31 hRb) ?_
      refine r_ic hP c121_291 ?_
      refine r_iald (j := 1) (x := q.1 1) hP c121_292 (zk148 hKb) rfl (by decide) (hf 1 (by decide)) ?_
      refine r_i2l hP c121_293 ?_
      refine r_lc hP c121_294 ?_
      refine r_lc hP c121_295 ?_
      refine r_cSi (as := [.long ((q.1 1).toInt64), .long 0, .long 50]) (r := []) (I' := I2) (L' := L) (R' := R) (x := if 0 ≤ (q.1 1).toInt64 ∧ (q.1 1).toInt64 ≤ 50 then 1 else 0) hP c121_298 rfl rfl (fun _ h2 => x_isIn hP h2) ?_
      refine r_ti (y := if 0 ≤ (q.1 1) ∧ (q.1 1) ≤ 50 then 1 else 0) (zisC rfl rfl) ?_
      refine r_ifneB hP c121_301 (fun h301 => ?_) (fun h301 => ?_)
      · obtain ⟨a, ha1, hae⟩ := zb_nI (n := 4) rfl (by decide) h284
        refine r_al hP c121_306 rfl ?_
        refine r_gR (x := 142) hP c121_307 (zj119 hKb) (zr119_23 hRb) ?_
        refine r_ic hP c121_310 ?_
        refine r_al hP c121_311 rfl ?_
        refine r_gR (x := 148) hP c121_312 (zj119 hKb) (zr119_31 hRb) ?_
        refine r_ic hP c121_315 ?_
        refine r_iald (j := 0) (x := q.1 0) hP c121_316 (zk148 hKb) rfl (by decide) (hf 0 (by decide)) ?_
        refine r_iadd hP c121_317 ?_
        refine r_ti (y := nI (5 + a)) (by rw [hae]; exact nI_add 5 a) ?_
        refine r_al hP c121_318 rfl ?_
        refine r_gR (x := 148) hP c121_319 (zj119 hKb) (zr119_31 hRb) ?_
        refine r_ic hP c121_322 ?_
        refine r_iald (j := 1) (x := q.1 1) hP c121_323 (zk148 hKb) rfl (by decide) (hf 1 (by decide)) ?_
        refine r_iast (j := 5 + a) hP c121_324 (zk142 hKb) rfl (by omega) ?_
        refine r_ic hP c121_325 ?_
        have hs_ : zi2 (zto T len) 2 p (S, nS, nP, nW, nL, nM) 107 = some _ := zi2_s hq (show zk_k S nS nP nW nL nM (q.1 0) (q.1 1) = some _ from if_pos ⟨h284, h301⟩)
        exact r_zr1 hP c121_326 (by rw [hs_]; rfl) (h _ (zfV_u (zfV_Z ha) (by decide) (by decide) (show 5 ≤ _ from by omega)) (fun r z => by
          rw [hs_] at z
          cases z
          exact ⟨by rw [hae, nI_clamp (n := a) (by omega)]; exact zE_k hE2 hub1 hub2 hub3 (by omega), ((zup_n _ _ _ _ (by omega)).trans hpq)⟩))
      · refine r_ic hP c121_304 ?_
        first
          | (have hno : zi2 (zto T len) 2 p (S, nS, nP, nW, nL, nM) 107 = none := zi2_n1 (Option.not_isSome_iff_eq_none.mp h267)
             exact r_zr0 hP c121_305 (by rw [hno]; decide) (h _ (zfV_Z ha) (fun r z => by rw [hno] at z; cases z)))
          | (have hno : zi2 (zto T len) 2 p (S, nS, nP, nW, nL, nM) 107 = none := zi2_n2 hq (show zk_k S nS nP nW nL nM (q.1 0) (q.1 1) = none from if_neg (fun z => h284 z.1))
             exact r_zr0 hP c121_305 (by rw [hno]; decide) (h _ (zfV_Z ha) (fun r z => by rw [hno] at z; cases z)))
          | (have hno : zi2 (zto T len) 2 p (S, nS, nP, nW, nL, nM) 107 = none := zi2_n2 hq (show zk_k S nS nP nW nL nM (q.1 0) (q.1 1) = none from if_neg (fun z => h301 z.2))
             exact r_zr0 hP c121_305 (by rw [hno]; decide) (h _ (zfV_Z ha) (fun r z => by rw [hno] at z; cases z)))
set_option maxRecDepth 4000 in
theorem y_it_v {K : ZKh} {P : Nat → Nat → List Value → List Value → ZMi → ZMl → ZMr → ZRt → Prop} {I : ZMi} {L : ZMl} {R : ZMr} {Q : ZRt} (hP : ZCl K P) (hKb : zKb K) (hRb : zRb R) {len : Nat} {T : Nat → Nat} (hT : zTm I len T) (hl : len ≤ 400) (h256 : ∀ i, T i < 256) {S : ZS} {nS nP nW nL nM : Nat} (hE : zE I (S, nS, nP, nW, nL, nM)) (hub : zUb (S, nS, nP, nW, nL, nM)) {p : Nat} (hpl : I 119 30 = nI p) (hp : p ≤ 450) {v1 : Value} (h : ∀ I2, zfV I I2 → (∀ r, zi2 (zto T len) 3 p (S, nS, nP, nW, nL, nM) 118 = some r → zE I2 r.1 ∧ I2 119 30 = nI r.2) → Q (some (.int (if (zi2 (zto T len) 3 p (S, nS, nP, nW, nL, nM) 118).isSome = true then 1 else 0))) I2 L R) : P 121 327 [.ref 119, v1] [] I L R Q := by
  obtain ⟨hub1, hub2, hub3, hub4, hub5⟩ := id hub
  simp only at hub1 hub2 hub3 hub4 hub5
  refine r_al hP c121_327 rfl ?_
  refine r_ic hP c121_328 ?_
  refine r_cVip (as := [.int 3]) (r := []) (a := 119) hP c121_329 rfl (zj119 hKb) rfl (fun z I2 L2 R2 => (z = (if (zns (zto T len) 3 p 3).isSome = true then 1 else 0) ∧ zfZ I I2 ∧ (∀ q, zns (zto T len) 3 p 3 = some q → I2 119 30 = nI q.2 ∧ ∀ j, j < 3 → I2 148 j = q.1 j)) ∧ L = L2 ∧ R = R2) (fun Q2 hq => y_figures (many := 3) hP hKb hRb hT hl h256 (by decide) (by omega) hpl (fun I2 a b => hq _ I2 L R ⟨⟨rfl, a, b⟩, rfl, rfl⟩)) ?_
  rintro zz I2 L2 R2 ⟨⟨rfl, ha, hfq⟩, rfl, rfl⟩
  refine r_ifeqB hP c121_332 (fun h332 => ?_) (fun h332 => ?_)
  · refine r_ic hP c121_376 ?_
    first
      | (have hno : zi2 (zto T len) 3 p (S, nS, nP, nW, nL, nM) 118 = none := zi2_n1 (Option.not_isSome_iff_eq_none.mp h332)
         exact r_zr0 hP c121_377 (by rw [hno]; decide) (h _ (zfV_Z ha) (fun r z => by rw [hno] at z; cases z)))
      | (have hno : zi2 (zto T len) 3 p (S, nS, nP, nW, nL, nM) 118 = none := zi2_n2 hq (show zk_v S nS nP nW nL nM (q.1 0) (q.1 1) (q.1 2) = none from if_neg (fun z => h339 z.1))
         exact r_zr0 hP c121_377 (by rw [hno]; decide) (h _ (zfV_Z ha) (fun r z => by rw [hno] at z; cases z)))
      | (have hno : zi2 (zto T len) 3 p (S, nS, nP, nW, nL, nM) 118 = none := zi2_n2 hq (show zk_v S nS nP nW nL nM (q.1 0) (q.1 1) (q.1 2) = none from if_neg (fun z => h356 z.2.1))
         exact r_zr0 hP c121_377 (by rw [hno]; decide) (h _ (zfV_Z ha) (fun r z => by rw [hno] at z; cases z)))
      | (have hno : zi2 (zto T len) 3 p (S, nS, nP, nW, nL, nM) 118 = none := zi2_n2 hq (show zk_v S nS nP nW nL nM (q.1 0) (q.1 1) (q.1 2) = none from if_neg (fun z => h373 z.2.2))
         exact r_zr0 hP c121_377 (by rw [hno]; decide) (h _ (zfV_Z ha) (fun r z => by rw [hno] at z; cases z)))
  · obtain ⟨q, hq⟩ := Option.isSome_iff_exists.mp h332
    obtain ⟨hpq, hf⟩ := hfq q hq
    have hE2 : zE I2 (S, nS, nP, nW, nL, nM) := zE_Z hE ha
    refine r_al hP c121_335 rfl ?_
    refine r_cVi (as := []) (r := []) (I' := I2) (L' := L) (R' := R) (x := if zr (q.1 0) nP then 1 else 0) (a := 119) hP c121_336 rfl (zj119 hKb) rfl (fun _ hq => y_isPartTold (n := nP) hP hKb hRb (by omega) (hf 0 (by decide)) hE2.1.2.1 hq) ?_
    refine r_ifeqB hP c121_339 (fun h339 => ?_) (fun h339 => ?_)
    · refine r_ic hP c121_376 ?_
      first
        | (have hno : zi2 (zto T len) 3 p (S, nS, nP, nW, nL, nM) 118 = none := zi2_n1 (Option.not_isSome_iff_eq_none.mp h332)
           exact r_zr0 hP c121_377 (by rw [hno]; decide) (h _ (zfV_Z ha) (fun r z => by rw [hno] at z; cases z)))
        | (have hno : zi2 (zto T len) 3 p (S, nS, nP, nW, nL, nM) 118 = none := zi2_n2 hq (show zk_v S nS nP nW nL nM (q.1 0) (q.1 1) (q.1 2) = none from if_neg (fun z => h339 z.1))
           exact r_zr0 hP c121_377 (by rw [hno]; decide) (h _ (zfV_Z ha) (fun r z => by rw [hno] at z; cases z)))
        | (have hno : zi2 (zto T len) 3 p (S, nS, nP, nW, nL, nM) 118 = none := zi2_n2 hq (show zk_v S nS nP nW nL nM (q.1 0) (q.1 1) (q.1 2) = none from if_neg (fun z => h356 z.2.1))
           exact r_zr0 hP c121_377 (by rw [hno]; decide) (h _ (zfV_Z ha) (fun r z => by rw [hno] at z; cases z)))
        | (have hno : zi2 (zto T len) 3 p (S, nS, nP, nW, nL, nM) 118 = none := zi2_n2 hq (show zk_v S nS nP nW nL nM (q.1 0) (q.1 1) (q.1 2) = none from if_neg (fun z => h373 z.2.2))
           exact r_zr0 hP c121_377 (by rw [hno]; decide) (h _ (zfV_Z ha) (fun r z => by rw [hno] at z; cases z)))
    · refine r_al hP c121_342 rfl ?_
      refine r_gR (x := 148) hP c121_343 (zj119 hKb) (zr119_31 hRb) ?_
      refine r_ic hP c121_346 ?_
      refine r_iald (j := 1) (x := q.1 1) hP c121_347 (zk148 hKb) rfl (by decide) (hf 1 (by decide)) ?_
      refine r_i2l hP c121_348 ?_
      refine r_lc hP c121_349 ?_
      refine r_lc hP c121_350 ?_
      refine r_cSi (as := [.long ((q.1 1).toInt64), .long 0, .long 900]) (r := []) (I' := I2) (L' := L) (R' := R) (x := if 0 ≤ (q.1 1).toInt64 ∧ (q.1 1).toInt64 ≤ 900 then 1 else 0) hP c121_353 rfl rfl (fun _ h2 => x_isIn hP h2) ?_
      refine r_ti (y := if 0 ≤ (q.1 1) ∧ (q.1 1) ≤ 900 then 1 else 0) (zisC rfl rfl) ?_
      refine r_ifeqB hP c121_356 (fun h356 => ?_) (fun h356 => ?_)
      · refine r_ic hP c121_376 ?_
        first
          | (have hno : zi2 (zto T len) 3 p (S, nS, nP, nW, nL, nM) 118 = none := zi2_n1 (Option.not_isSome_iff_eq_none.mp h332)
             exact r_zr0 hP c121_377 (by rw [hno]; decide) (h _ (zfV_Z ha) (fun r z => by rw [hno] at z; cases z)))
          | (have hno : zi2 (zto T len) 3 p (S, nS, nP, nW, nL, nM) 118 = none := zi2_n2 hq (show zk_v S nS nP nW nL nM (q.1 0) (q.1 1) (q.1 2) = none from if_neg (fun z => h339 z.1))
             exact r_zr0 hP c121_377 (by rw [hno]; decide) (h _ (zfV_Z ha) (fun r z => by rw [hno] at z; cases z)))
          | (have hno : zi2 (zto T len) 3 p (S, nS, nP, nW, nL, nM) 118 = none := zi2_n2 hq (show zk_v S nS nP nW nL nM (q.1 0) (q.1 1) (q.1 2) = none from if_neg (fun z => h356 z.2.1))
             exact r_zr0 hP c121_377 (by rw [hno]; decide) (h _ (zfV_Z ha) (fun r z => by rw [hno] at z; cases z)))
          | (have hno : zi2 (zto T len) 3 p (S, nS, nP, nW, nL, nM) 118 = none := zi2_n2 hq (show zk_v S nS nP nW nL nM (q.1 0) (q.1 1) (q.1 2) = none from if_neg (fun z => h373 z.2.2))
             exact r_zr0 hP c121_377 (by rw [hno]; decide) (h _ (zfV_Z ha) (fun r z => by rw [hno] at z; cases z)))
      · refine r_al hP c121_359 rfl ?_
        refine r_gR (x := 148) hP c121_360 (zj119 hKb) (zr119_31 hRb) ?_
        refine r_ic hP c121_363 ?_
        refine r_iald (j := 2) (x := q.1 2) hP c121_364 (zk148 hKb) rfl (by decide) (hf 2 (by decide)) ?_
        refine r_i2l hP c121_365 ?_
        refine r_lc hP c121_366 ?_
        refine r_lc hP c121_367 ?_
        refine r_cSi (as := [.long ((q.1 2).toInt64), .long 1, .long 99]) (r := []) (I' := I2) (L' := L) (R' := R) (x := if 1 ≤ (q.1 2).toInt64 ∧ (q.1 2).toInt64 ≤ 99 then 1 else 0) hP c121_370 rfl rfl (fun _ h2 => x_isIn hP h2) ?_
        refine r_ti (y := if 1 ≤ (q.1 2) ∧ (q.1 2) ≤ 99 then 1 else 0) (zisC rfl rfl) ?_
        refine r_ifneB hP c121_373 (fun h373 => ?_) (fun h373 => ?_)
        · obtain ⟨a, ha1, hae⟩ := (zr_iff (by omega)).mp h339
          refine r_al hP c121_378 rfl ?_
          refine r_gR (x := 131) hP c121_379 (zj119 hKb) (zr119_12 hRb) ?_
          refine r_ic hP c121_382 ?_
          refine r_al hP c121_384 rfl ?_
          refine r_gR (x := 148) hP c121_385 (zj119 hKb) (zr119_31 hRb) ?_
          refine r_ic hP c121_388 ?_
          refine r_iald (j := 0) (x := q.1 0) hP c121_389 (zk148 hKb) rfl (by decide) (hf 0 (by decide)) ?_
          refine r_iadd hP c121_390 ?_
          refine r_ti (y := nI (8 + a)) (by rw [hae]; exact nI_add 8 a) ?_
          refine r_al hP c121_391 rfl ?_
          refine r_gR (x := 148) hP c121_392 (zj119 hKb) (zr119_31 hRb) ?_
          refine r_ic hP c121_395 ?_
          refine r_iald (j := 1) (x := q.1 1) hP c121_396 (zk148 hKb) rfl (by decide) (hf 1 (by decide)) ?_
          refine r_iast (j := 8 + a) hP c121_397 (zk131 hKb) rfl (by omega) ?_
          refine r_al hP c121_398 rfl ?_
          refine r_gR (x := 132) hP c121_399 (zj119 hKb) (zr119_13 hRb) ?_
          refine r_ic hP c121_402 ?_
          refine r_al hP c121_404 rfl ?_
          refine r_gR (x := 148) hP c121_405 (zj119 hKb) (zr119_31 hRb) ?_
          refine r_ic hP c121_408 ?_
          refine r_iald (j := 0) (x := q.1 0) hP c121_409 (zk148 hKb) rfl (by decide) ((zup_n _ _ _ _ (by omega)).trans (hf 0 (by decide))) ?_
          refine r_iadd hP c121_410 ?_
          refine r_ti (y := nI (8 + a)) (by rw [hae]; exact nI_add 8 a) ?_
          refine r_al hP c121_411 rfl ?_
          refine r_gR (x := 148) hP c121_412 (zj119 hKb) (zr119_31 hRb) ?_
          refine r_ic hP c121_415 ?_
          refine r_iald (j := 2) (x := q.1 2) hP c121_416 (zk148 hKb) rfl (by decide) ((zup_n _ _ _ _ (by omega)).trans (hf 2 (by decide))) ?_
          refine r_iast (j := 8 + a) hP c121_417 (zk132 hKb) rfl (by omega) ?_
          refine r_ic hP c121_418 ?_
          have hs_ : zi2 (zto T len) 3 p (S, nS, nP, nW, nL, nM) 118 = some _ := zi2_s hq (show zk_v S nS nP nW nL nM (q.1 0) (q.1 1) (q.1 2) = some _ from if_pos ⟨h339, h356, h373⟩)
          exact r_zr1 hP c121_419 (by rw [hs_]; rfl) (h _ (zfV_u ((zfV_u (zfV_Z ha) (by decide) (by decide) (show 8 ≤ _ from by omega))) (by decide) (by decide) (show 8 ≤ _ from by omega)) (fun r z => by
            rw [hs_] at z
            cases z
            exact ⟨by rw [hae, nI_clamp (n := a) (by omega)]; exact zE_10 (zE_9 hE2 hub1 hub2 hub3 ha1) hub1 hub2 hub3 ha1, ((zup_n _ _ _ _ (by omega)).trans ((zup_n _ _ _ _ (by omega)).trans hpq))⟩))
        · refine r_ic hP c121_376 ?_
          first
            | (have hno : zi2 (zto T len) 3 p (S, nS, nP, nW, nL, nM) 118 = none := zi2_n1 (Option.not_isSome_iff_eq_none.mp h332)
               exact r_zr0 hP c121_377 (by rw [hno]; decide) (h _ (zfV_Z ha) (fun r z => by rw [hno] at z; cases z)))
            | (have hno : zi2 (zto T len) 3 p (S, nS, nP, nW, nL, nM) 118 = none := zi2_n2 hq (show zk_v S nS nP nW nL nM (q.1 0) (q.1 1) (q.1 2) = none from if_neg (fun z => h339 z.1))
               exact r_zr0 hP c121_377 (by rw [hno]; decide) (h _ (zfV_Z ha) (fun r z => by rw [hno] at z; cases z)))
            | (have hno : zi2 (zto T len) 3 p (S, nS, nP, nW, nL, nM) 118 = none := zi2_n2 hq (show zk_v S nS nP nW nL nM (q.1 0) (q.1 1) (q.1 2) = none from if_neg (fun z => h356 z.2.1))
               exact r_zr0 hP c121_377 (by rw [hno]; decide) (h _ (zfV_Z ha) (fun r z => by rw [hno] at z; cases z)))
            | (have hno : zi2 (zto T len) 3 p (S, nS, nP, nW, nL, nM) 118 = none := zi2_n2 hq (show zk_v S nS nP nW nL nM (q.1 0) (q.1 1) (q.1 2) = none from if_neg (fun z => h373 z.2.2))
               exact r_zr0 hP c121_377 (by rw [hno]; decide) (h _ (zfV_Z ha) (fun r z => by rw [hno] at z; cases z)))
