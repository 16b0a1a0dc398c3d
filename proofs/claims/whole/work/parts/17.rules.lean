/-! ===== rules over the abstract machine ===== -/
section ZR
variable {K : ZKh} {P : Nat → Nat → List Value → List Value → ZMi → ZMl → ZMr → ZRt → Prop} {k pc i : Nat} {ls ls' st r : List Value} {I I' : ZMi} {L L' : ZMl} {R R' : ZMr} {Q : ZRt}
theorem zgo {ins : ZIns} (hP : ZCl K P) (hm : (zT k)[i]? = some (pc, ins)) (h : ins K pc (fun pc ls st I L R => P k pc ls st I L R Q) Q (fun k2 ls I L R Q2 => P k2 0 ls [] I L R Q2) ls st I L R) : P k pc ls st I L R Q := hP k (pc, ins) (List.mem_of_getElem? hm) ls st I L R Q h
theorem r_ic {v : Int32} {n : Nat} (hP : ZCl K P) (hm : (zT k)[i]? = some (pc, z_ic v n)) (h : P k (pc + n) ls (.int v :: st) I L R Q) : P k pc ls st I L R Q := zgo hP hm h
theorem r_lc {v : Int64} {n : Nat} (hP : ZCl K P) (hm : (zT k)[i]? = some (pc, z_lc v n)) (h : P k (pc + n) ls (.long v :: st) I L R Q) : P k pc ls st I L R Q := zgo hP hm h
theorem r_il {j n : Nat} {x : Int32} (hP : ZCl K P) (hm : (zT k)[i]? = some (pc, z_il j n)) (hl : ls[j]? = some (.int x)) (h : P k (pc + n) ls (.int x :: st) I L R Q) : P k pc ls st I L R Q := zgo hP hm (by unfold z_il; rw [hl]; exact h)
theorem r_ll {j n : Nat} {x : Int64} (hP : ZCl K P) (hm : (zT k)[i]? = some (pc, z_ll j n)) (hl : ls[j]? = some (.long x)) (h : P k (pc + n) ls (.long x :: st) I L R Q) : P k pc ls st I L R Q := zgo hP hm (by unfold z_ll; rw [hl]; exact h)
theorem r_al {j n : Nat} {x : Nat} (hP : ZCl K P) (hm : (zT k)[i]? = some (pc, z_al j n)) (hl : ls[j]? = some (.ref x)) (h : P k (pc + n) ls (.ref x :: st) I L R Q) : P k pc ls st I L R Q := zgo hP hm (by unfold z_al; rw [hl]; exact h)
theorem r_is {j n : Nat} {x : Int32} (hP : ZCl K P) (hm : (zT k)[i]? = some (pc, z_is j n)) (hj : j < ls.length) (hz : zst ls j (.int x) = ls') (h : P k (pc + n) ls' r I L R Q) : P k pc ls (.int x :: r) I L R Q := zgo hP hm ⟨hj, by rw [hz]; exact h⟩
theorem r_ls {j n : Nat} {x : Int64} (hP : ZCl K P) (hm : (zT k)[i]? = some (pc, z_ls j n)) (hj : j + 1 < ls.length) (hz : zst ls j (.long x) = ls') (h : P k (pc + n) ls' r I L R Q) : P k pc ls (.long x :: r) I L R Q := zgo hP hm ⟨hj, by rw [hz]; exact h⟩
theorem r_as {j n : Nat} {x : Nat} (hP : ZCl K P) (hm : (zT k)[i]? = some (pc, z_as j n)) (hj : j < ls.length) (hz : zst ls j (.ref x) = ls') (h : P k (pc + n) ls' r I L R Q) : P k pc ls (.ref x :: r) I L R Q := zgo hP hm ⟨hj, by rw [hz]; exact h⟩
theorem r_inc {j : Nat} {x y d : Int32} (hP : ZCl K P) (hm : (zT k)[i]? = some (pc, z_inc j d)) (hl : ls[j]? = some (.int x)) (hy : x + d = y) (hz : zst ls j (.int y) = ls') (h : P k (pc + 3) ls' st I L R Q) : P k pc ls st I L R Q := zgo hP hm (by unfold z_inc; rw [hl]; exact ⟨y, hy, by rw [hz]; exact h⟩)
theorem r_iadd {x y : Int32} (hP : ZCl K P) (hm : (zT k)[i]? = some (pc, z_iadd)) (h : P k (pc + 1) ls (.int (x + y) :: r) I L R Q) : P k pc ls (.int y :: .int x :: r) I L R Q := zgo hP hm h
theorem r_isub {x y : Int32} (hP : ZCl K P) (hm : (zT k)[i]? = some (pc, z_isub)) (h : P k (pc + 1) ls (.int (x - y) :: r) I L R Q) : P k pc ls (.int y :: .int x :: r) I L R Q := zgo hP hm h
theorem r_imul {x y : Int32} (hP : ZCl K P) (hm : (zT k)[i]? = some (pc, z_imul)) (h : P k (pc + 1) ls (.int (x * y) :: r) I L R Q) : P k pc ls (.int y :: .int x :: r) I L R Q := zgo hP hm h
theorem r_iand {x y : Int32} (hP : ZCl K P) (hm : (zT k)[i]? = some (pc, z_iand)) (h : P k (pc + 1) ls (.int (x &&& y) :: r) I L R Q) : P k pc ls (.int y :: .int x :: r) I L R Q := zgo hP hm h
theorem r_ior {x y : Int32} (hP : ZCl K P) (hm : (zT k)[i]? = some (pc, z_ior)) (h : P k (pc + 1) ls (.int (x ||| y) :: r) I L R Q) : P k pc ls (.int y :: .int x :: r) I L R Q := zgo hP hm h
theorem r_ixor {x y : Int32} (hP : ZCl K P) (hm : (zT k)[i]? = some (pc, z_ixor)) (h : P k (pc + 1) ls (.int (x ^^^ y) :: r) I L R Q) : P k pc ls (.int y :: .int x :: r) I L R Q := zgo hP hm h
theorem r_ishl {x y : Int32} (hP : ZCl K P) (hm : (zT k)[i]? = some (pc, z_ishl)) (h : P k (pc + 1) ls (.int (x <<< (y &&& 31)) :: r) I L R Q) : P k pc ls (.int y :: .int x :: r) I L R Q := zgo hP hm h
theorem r_ishr {x y : Int32} (hP : ZCl K P) (hm : (zT k)[i]? = some (pc, z_ishr)) (h : P k (pc + 1) ls (.int (x >>> (y &&& 31)) :: r) I L R Q) : P k pc ls (.int y :: .int x :: r) I L R Q := zgo hP hm h
theorem r_iushr {x y : Int32} (hP : ZCl K P) (hm : (zT k)[i]? = some (pc, z_iushr)) (h : P k (pc + 1) ls (.int ((x.toUInt32 >>> (y.toUInt32 &&& Int32.toUInt32 31)).toInt32) :: r) I L R Q) : P k pc ls (.int y :: .int x :: r) I L R Q := zgo hP hm h
theorem r_idiv {x y : Int32} (hP : ZCl K P) (hm : (zT k)[i]? = some (pc, z_idiv)) (h0 : ¬ y = 0) (h : P k (pc + 1) ls (.int (x / y) :: r) I L R Q) : P k pc ls (.int y :: .int x :: r) I L R Q := zgo hP hm ⟨h0, h⟩
theorem r_irem {x y : Int32} (hP : ZCl K P) (hm : (zT k)[i]? = some (pc, z_irem)) (h0 : ¬ y = 0) (h : P k (pc + 1) ls (.int (x - x / y * y) :: r) I L R Q) : P k pc ls (.int y :: .int x :: r) I L R Q := zgo hP hm ⟨h0, h⟩
theorem r_ineg {x : Int32} (hP : ZCl K P) (hm : (zT k)[i]? = some (pc, z_ineg)) (h : P k (pc + 1) ls (.int (-x) :: r) I L R Q) : P k pc ls (.int x :: r) I L R Q := zgo hP hm h
theorem r_ladd {x y : Int64} (hP : ZCl K P) (hm : (zT k)[i]? = some (pc, z_ladd)) (h : P k (pc + 1) ls (.long (x + y) :: r) I L R Q) : P k pc ls (.long y :: .long x :: r) I L R Q := zgo hP hm h
theorem r_lsub {x y : Int64} (hP : ZCl K P) (hm : (zT k)[i]? = some (pc, z_lsub)) (h : P k (pc + 1) ls (.long (x - y) :: r) I L R Q) : P k pc ls (.long y :: .long x :: r) I L R Q := zgo hP hm h
theorem r_lmul {x y : Int64} (hP : ZCl K P) (hm : (zT k)[i]? = some (pc, z_lmul)) (h : P k (pc + 1) ls (.long (x * y) :: r) I L R Q) : P k pc ls (.long y :: .long x :: r) I L R Q := zgo hP hm h
theorem r_land {x y : Int64} (hP : ZCl K P) (hm : (zT k)[i]? = some (pc, z_land)) (h : P k (pc + 1) ls (.long (x &&& y) :: r) I L R Q) : P k pc ls (.long y :: .long x :: r) I L R Q := zgo hP hm h
theorem r_lor {x y : Int64} (hP : ZCl K P) (hm : (zT k)[i]? = some (pc, z_lor)) (h : P k (pc + 1) ls (.long (x ||| y) :: r) I L R Q) : P k pc ls (.long y :: .long x :: r) I L R Q := zgo hP hm h
theorem r_ldiv {x y : Int64} (hP : ZCl K P) (hm : (zT k)[i]? = some (pc, z_ldiv)) (h0 : ¬ y = 0) (h : P k (pc + 1) ls (.long (x / y) :: r) I L R Q) : P k pc ls (.long y :: .long x :: r) I L R Q := zgo hP hm ⟨h0, h⟩
theorem r_lrem {x y : Int64} (hP : ZCl K P) (hm : (zT k)[i]? = some (pc, z_lrem)) (h0 : ¬ y = 0) (h : P k (pc + 1) ls (.long (x - x / y * y) :: r) I L R Q) : P k pc ls (.long y :: .long x :: r) I L R Q := zgo hP hm ⟨h0, h⟩
theorem r_lshl {x : Int64} {y : Int32} (hP : ZCl K P) (hm : (zT k)[i]? = some (pc, z_lshl)) (h : P k (pc + 1) ls (.long (x <<< (y.toInt64 &&& 63)) :: r) I L R Q) : P k pc ls (.int y :: .long x :: r) I L R Q := zgo hP hm h
theorem r_lshr {x : Int64} {y : Int32} (hP : ZCl K P) (hm : (zT k)[i]? = some (pc, z_lshr)) (h : P k (pc + 1) ls (.long (x >>> (y.toInt64 &&& 63)) :: r) I L R Q) : P k pc ls (.int y :: .long x :: r) I L R Q := zgo hP hm h
theorem r_lushr {x : Int64} {y : Int32} (hP : ZCl K P) (hm : (zT k)[i]? = some (pc, z_lushr)) (h : P k (pc + 1) ls (.long ((x.toUInt64 >>> (y.toInt64.toUInt64 &&& Int64.toUInt64 63)).toInt64) :: r) I L R Q) : P k pc ls (.int y :: .long x :: r) I L R Q := zgo hP hm h
theorem r_i2l {x : Int32} (hP : ZCl K P) (hm : (zT k)[i]? = some (pc, z_i2l)) (h : P k (pc + 1) ls (.long x.toInt64 :: r) I L R Q) : P k pc ls (.int x :: r) I L R Q := zgo hP hm h
theorem r_l2i {x : Int64} (hP : ZCl K P) (hm : (zT k)[i]? = some (pc, z_l2i)) (h : P k (pc + 1) ls (.int x.toInt32 :: r) I L R Q) : P k pc ls (.long x :: r) I L R Q := zgo hP hm h
theorem r_i2b {x : Int32} (hP : ZCl K P) (hm : (zT k)[i]? = some (pc, z_i2b)) (h : P k (pc + 1) ls (.int x.toInt8.toInt32 :: r) I L R Q) : P k pc ls (.int x :: r) I L R Q := zgo hP hm h
theorem r_lcmp {x y : Int64} (hP : ZCl K P) (hm : (zT k)[i]? = some (pc, z_lcmp)) (h : P k (pc + 1) ls (.int (lg_cmp x y) :: r) I L R Q) : P k pc ls (.long y :: .long x :: r) I L R Q := zgo hP hm h
theorem r_dup {v : Value} (hP : ZCl K P) (hm : (zT k)[i]? = some (pc, z_dup)) (hc : v.category = 1) (h : P k (pc + 1) ls (v :: v :: r) I L R Q) : P k pc ls (v :: r) I L R Q := zgo hP hm ⟨hc, h⟩
theorem r_pop {v : Value} (hP : ZCl K P) (hm : (zT k)[i]? = some (pc, z_pop)) (hc : v.category = 1) (h : P k (pc + 1) ls r I L R Q) : P k pc ls (v :: r) I L R Q := zgo hP hm ⟨hc, h⟩
theorem r_dup2 {v w : Value} (hP : ZCl K P) (hm : (zT k)[i]? = some (pc, z_dup2)) (hc : v.category = 1) (hc2 : w.category = 1) (h : P k (pc + 1) ls (v :: w :: v :: w :: r) I L R Q) : P k pc ls (v :: w :: r) I L R Q := zgo hP hm ⟨hc, hc2, h⟩
theorem r_goto {t : Nat} (hP : ZCl K P) (hm : (zT k)[i]? = some (pc, z_goto t)) (h : P k t ls st I L R Q) : P k pc ls st I L R Q := zgo hP hm h
theorem r_ifeq {t : Nat} {x : Int32} (hP : ZCl K P) (hm : (zT k)[i]? = some (pc, z_ifeq t)) (ht : x = 0 → P k t ls r I L R Q) (hf : ¬ x = 0 → P k (pc + 3) ls r I L R Q) : P k pc ls (.int x :: r) I L R Q := zgo hP hm ⟨ht, hf⟩
theorem r_ieq {t : Nat} {x y : Int32} (hP : ZCl K P) (hm : (zT k)[i]? = some (pc, z_ieq t)) (ht : x = y → P k t ls r I L R Q) (hf : ¬ x = y → P k (pc + 3) ls r I L R Q) : P k pc ls (.int y :: .int x :: r) I L R Q := zgo hP hm ⟨ht, hf⟩
theorem zlc_eq (x y : Int64) : ((lg_cmp x y) = 0) ↔ (x = y) := by
  unfold lg_cmp
  have h3 : ∀ a b : Int64, a < b → ¬ b < a := fun a b h => lg_lt_not h
  have h4 : x = y ∨ x < y ∨ y < x := by
    rcases Int.lt_trichotomy x.toInt y.toInt with h | h | h
    · exact Or.inr (Or.inl (Int64.lt_iff_toInt_lt.mpr h))
    · exact Or.inl (Int64.toInt_inj.mp h)
    · exact Or.inr (Or.inr (Int64.lt_iff_toInt_lt.mpr h))
  have h5 : ∀ a b : Int64, a ≤ b ↔ ¬ b < a := fun a b => by rw [Int64.le_iff_toInt_le, Int64.lt_iff_toInt_lt]; omega
  have h6 : ¬ x < x := fun h => h3 x x h h
  rcases h4 with h | h | h
  · subst h; simp [h6, h5]
  · have := h3 _ _ h
    have hne : ¬ x = y := fun e => by subst e; exact h6 h
    simp [h, this, h5, hne]; try decide
  · have := h3 _ _ h
    have hne : ¬ x = y := fun e => by subst e; exact h6 h
    simp [h, this, h5, hne]; try decide
theorem r_ifeqL {t : Nat} {x y : Int64} (hP : ZCl K P) (hm : (zT k)[i]? = some (pc, z_ifeq t)) (ht : x = y → P k t ls r I L R Q) (hf : ¬ x = y → P k (pc + 3) ls r I L R Q) : P k pc ls (.int (lg_cmp x y) :: r) I L R Q := zgo hP hm ⟨fun q => ht ((zlc_eq x y).mp q), fun q => hf (fun q2 => q ((zlc_eq x y).mpr q2))⟩
theorem r_ifne {t : Nat} {x : Int32} (hP : ZCl K P) (hm : (zT k)[i]? = some (pc, z_ifne t)) (ht : ¬ x = 0 → P k t ls r I L R Q) (hf : x = 0 → P k (pc + 3) ls r I L R Q) : P k pc ls (.int x :: r) I L R Q := zgo hP hm ⟨ht, hf⟩
theorem r_ine {t : Nat} {x y : Int32} (hP : ZCl K P) (hm : (zT k)[i]? = some (pc, z_ine t)) (ht : ¬ x = y → P k t ls r I L R Q) (hf : x = y → P k (pc + 3) ls r I L R Q) : P k pc ls (.int y :: .int x :: r) I L R Q := zgo hP hm ⟨ht, hf⟩
theorem zlc_ne (x y : Int64) : (¬ (lg_cmp x y) = 0) ↔ (¬ x = y) := by
  unfold lg_cmp
  have h3 : ∀ a b : Int64, a < b → ¬ b < a := fun a b h => lg_lt_not h
  have h4 : x = y ∨ x < y ∨ y < x := by
    rcases Int.lt_trichotomy x.toInt y.toInt with h | h | h
    · exact Or.inr (Or.inl (Int64.lt_iff_toInt_lt.mpr h))
    · exact Or.inl (Int64.toInt_inj.mp h)
    · exact Or.inr (Or.inr (Int64.lt_iff_toInt_lt.mpr h))
  have h5 : ∀ a b : Int64, a ≤ b ↔ ¬ b < a := fun a b => by rw [Int64.le_iff_toInt_le, Int64.lt_iff_toInt_lt]; omega
  have h6 : ¬ x < x := fun h => h3 x x h h
  rcases h4 with h | h | h
  · subst h; simp [h6, h5]
  · have := h3 _ _ h
    have hne : ¬ x = y := fun e => by subst e; exact h6 h
    simp [h, this, h5, hne]; try decide
  · have := h3 _ _ h
    have hne : ¬ x = y := fun e => by subst e; exact h6 h
    simp [h, this, h5, hne]; try decide
theorem r_ifneL {t : Nat} {x y : Int64} (hP : ZCl K P) (hm : (zT k)[i]? = some (pc, z_ifne t)) (ht : ¬ x = y → P k t ls r I L R Q) (hf : x = y → P k (pc + 3) ls r I L R Q) : P k pc ls (.int (lg_cmp x y) :: r) I L R Q := zgo hP hm ⟨fun q => ht ((zlc_ne x y).mp q), fun q => hf (Classical.byContradiction (fun q2 => ((zlc_ne x y).mpr q2) q))⟩
theorem r_iflt {t : Nat} {x : Int32} (hP : ZCl K P) (hm : (zT k)[i]? = some (pc, z_iflt t)) (ht : x < 0 → P k t ls r I L R Q) (hf : ¬ x < 0 → P k (pc + 3) ls r I L R Q) : P k pc ls (.int x :: r) I L R Q := zgo hP hm ⟨ht, hf⟩
theorem r_ilt {t : Nat} {x y : Int32} (hP : ZCl K P) (hm : (zT k)[i]? = some (pc, z_ilt t)) (ht : x < y → P k t ls r I L R Q) (hf : ¬ x < y → P k (pc + 3) ls r I L R Q) : P k pc ls (.int y :: .int x :: r) I L R Q := zgo hP hm ⟨ht, hf⟩
theorem zlc_lt (x y : Int64) : ((lg_cmp x y) < 0) ↔ (x < y) := by
  unfold lg_cmp
  have h3 : ∀ a b : Int64, a < b → ¬ b < a := fun a b h => lg_lt_not h
  have h4 : x = y ∨ x < y ∨ y < x := by
    rcases Int.lt_trichotomy x.toInt y.toInt with h | h | h
    · exact Or.inr (Or.inl (Int64.lt_iff_toInt_lt.mpr h))
    · exact Or.inl (Int64.toInt_inj.mp h)
    · exact Or.inr (Or.inr (Int64.lt_iff_toInt_lt.mpr h))
  have h5 : ∀ a b : Int64, a ≤ b ↔ ¬ b < a := fun a b => by rw [Int64.le_iff_toInt_le, Int64.lt_iff_toInt_lt]; omega
  have h6 : ¬ x < x := fun h => h3 x x h h
  rcases h4 with h | h | h
  · subst h; simp [h6, h5]
  · have := h3 _ _ h
    have hne : ¬ x = y := fun e => by subst e; exact h6 h
    simp [h, this, h5, hne]; try decide
  · have := h3 _ _ h
    have hne : ¬ x = y := fun e => by subst e; exact h6 h
    simp [h, this, h5, hne]; try decide
theorem r_ifltL {t : Nat} {x y : Int64} (hP : ZCl K P) (hm : (zT k)[i]? = some (pc, z_iflt t)) (ht : x < y → P k t ls r I L R Q) (hf : ¬ x < y → P k (pc + 3) ls r I L R Q) : P k pc ls (.int (lg_cmp x y) :: r) I L R Q := zgo hP hm ⟨fun q => ht ((zlc_lt x y).mp q), fun q => hf (fun q2 => q ((zlc_lt x y).mpr q2))⟩
theorem r_ifge {t : Nat} {x : Int32} (hP : ZCl K P) (hm : (zT k)[i]? = some (pc, z_ifge t)) (ht : 0 ≤ x → P k t ls r I L R Q) (hf : ¬ 0 ≤ x → P k (pc + 3) ls r I L R Q) : P k pc ls (.int x :: r) I L R Q := zgo hP hm ⟨ht, hf⟩
theorem r_ige {t : Nat} {x y : Int32} (hP : ZCl K P) (hm : (zT k)[i]? = some (pc, z_ige t)) (ht : y ≤ x → P k t ls r I L R Q) (hf : ¬ y ≤ x → P k (pc + 3) ls r I L R Q) : P k pc ls (.int y :: .int x :: r) I L R Q := zgo hP hm ⟨ht, hf⟩
theorem zlc_ge (x y : Int64) : (0 ≤ (lg_cmp x y)) ↔ (y ≤ x) := by
  unfold lg_cmp
  have h3 : ∀ a b : Int64, a < b → ¬ b < a := fun a b h => lg_lt_not h
  have h4 : x = y ∨ x < y ∨ y < x := by
    rcases Int.lt_trichotomy x.toInt y.toInt with h | h | h
    · exact Or.inr (Or.inl (Int64.lt_iff_toInt_lt.mpr h))
    · exact Or.inl (Int64.toInt_inj.mp h)
    · exact Or.inr (Or.inr (Int64.lt_iff_toInt_lt.mpr h))
  have h5 : ∀ a b : Int64, a ≤ b ↔ ¬ b < a := fun a b => by rw [Int64.le_iff_toInt_le, Int64.lt_iff_toInt_lt]; omega
  have h6 : ¬ x < x := fun h => h3 x x h h
  rcases h4 with h | h | h
  · subst h; simp [h6, h5]
  · have := h3 _ _ h
    have hne : ¬ x = y := fun e => by subst e; exact h6 h
    simp [h, this, h5, hne]; try decide
  · have := h3 _ _ h
    have hne : ¬ x = y := fun e => by subst e; exact h6 h
    simp [h, this, h5, hne]; try decide
theorem r_ifgeL {t : Nat} {x y : Int64} (hP : ZCl K P) (hm : (zT k)[i]? = some (pc, z_ifge t)) (ht : y ≤ x → P k t ls r I L R Q) (hf : ¬ y ≤ x → P k (pc + 3) ls r I L R Q) : P k pc ls (.int (lg_cmp x y) :: r) I L R Q := zgo hP hm ⟨fun q => ht ((zlc_ge x y).mp q), fun q => hf (fun q2 => q ((zlc_ge x y).mpr q2))⟩
theorem r_ifgt {t : Nat} {x : Int32} (hP : ZCl K P) (hm : (zT k)[i]? = some (pc, z_ifgt t)) (ht : 0 < x → P k t ls r I L R Q) (hf : ¬ 0 < x → P k (pc + 3) ls r I L R Q) : P k pc ls (.int x :: r) I L R Q := zgo hP hm ⟨ht, hf⟩
theorem r_igt {t : Nat} {x y : Int32} (hP : ZCl K P) (hm : (zT k)[i]? = some (pc, z_igt t)) (ht : y < x → P k t ls r I L R Q) (hf : ¬ y < x → P k (pc + 3) ls r I L R Q) : P k pc ls (.int y :: .int x :: r) I L R Q := zgo hP hm ⟨ht, hf⟩
theorem zlc_gt (x y : Int64) : (0 < (lg_cmp x y)) ↔ (y < x) := by
  unfold lg_cmp
  have h3 : ∀ a b : Int64, a < b → ¬ b < a := fun a b h => lg_lt_not h
  have h4 : x = y ∨ x < y ∨ y < x := by
    rcases Int.lt_trichotomy x.toInt y.toInt with h | h | h
    · exact Or.inr (Or.inl (Int64.lt_iff_toInt_lt.mpr h))
    · exact Or.inl (Int64.toInt_inj.mp h)
    · exact Or.inr (Or.inr (Int64.lt_iff_toInt_lt.mpr h))
  have h5 : ∀ a b : Int64, a ≤ b ↔ ¬ b < a := fun a b => by rw [Int64.le_iff_toInt_le, Int64.lt_iff_toInt_lt]; omega
  have h6 : ¬ x < x := fun h => h3 x x h h
  rcases h4 with h | h | h
  · subst h; simp [h6, h5]
  · have := h3 _ _ h
    have hne : ¬ x = y := fun e => by subst e; exact h6 h
    simp [h, this, h5, hne]; try decide
  · have := h3 _ _ h
    have hne : ¬ x = y := fun e => by subst e; exact h6 h
    simp [h, this, h5, hne]; try decide
theorem r_ifgtL {t : Nat} {x y : Int64} (hP : ZCl K P) (hm : (zT k)[i]? = some (pc, z_ifgt t)) (ht : y < x → P k t ls r I L R Q) (hf : ¬ y < x → P k (pc + 3) ls r I L R Q) : P k pc ls (.int (lg_cmp x y) :: r) I L R Q := zgo hP hm ⟨fun q => ht ((zlc_gt x y).mp q), fun q => hf (fun q2 => q ((zlc_gt x y).mpr q2))⟩
theorem r_ifle {t : Nat} {x : Int32} (hP : ZCl K P) (hm : (zT k)[i]? = some (pc, z_ifle t)) (ht : x ≤ 0 → P k t ls r I L R Q) (hf : ¬ x ≤ 0 → P k (pc + 3) ls r I L R Q) : P k pc ls (.int x :: r) I L R Q := zgo hP hm ⟨ht, hf⟩
theorem r_ile {t : Nat} {x y : Int32} (hP : ZCl K P) (hm : (zT k)[i]? = some (pc, z_ile t)) (ht : x ≤ y → P k t ls r I L R Q) (hf : ¬ x ≤ y → P k (pc + 3) ls r I L R Q) : P k pc ls (.int y :: .int x :: r) I L R Q := zgo hP hm ⟨ht, hf⟩
theorem zlc_le (x y : Int64) : ((lg_cmp x y) ≤ 0) ↔ (x ≤ y) := by
  unfold lg_cmp
  have h3 : ∀ a b : Int64, a < b → ¬ b < a := fun a b h => lg_lt_not h
  have h4 : x = y ∨ x < y ∨ y < x := by
    rcases Int.lt_trichotomy x.toInt y.toInt with h | h | h
    · exact Or.inr (Or.inl (Int64.lt_iff_toInt_lt.mpr h))
    · exact Or.inl (Int64.toInt_inj.mp h)
    · exact Or.inr (Or.inr (Int64.lt_iff_toInt_lt.mpr h))
  have h5 : ∀ a b : Int64, a ≤ b ↔ ¬ b < a := fun a b => by rw [Int64.le_iff_toInt_le, Int64.lt_iff_toInt_lt]; omega
  have h6 : ¬ x < x := fun h => h3 x x h h
  rcases h4 with h | h | h
  · subst h; simp [h6, h5]
  · have := h3 _ _ h
    have hne : ¬ x = y := fun e => by subst e; exact h6 h
    simp [h, this, h5, hne]; try decide
  · have := h3 _ _ h
    have hne : ¬ x = y := fun e => by subst e; exact h6 h
    simp [h, this, h5, hne]; try decide
theorem r_ifleL {t : Nat} {x y : Int64} (hP : ZCl K P) (hm : (zT k)[i]? = some (pc, z_ifle t)) (ht : x ≤ y → P k t ls r I L R Q) (hf : ¬ x ≤ y → P k (pc + 3) ls r I L R Q) : P k pc ls (.int (lg_cmp x y) :: r) I L R Q := zgo hP hm ⟨fun q => ht ((zlc_le x y).mp q), fun q => hf (fun q2 => q ((zlc_le x y).mpr q2))⟩
theorem r_ifeqB {t : Nat} {c : Prop} [Decidable c] (hP : ZCl K P) (hm : (zT k)[i]? = some (pc, z_ifeq t)) (ht : ¬ c → P k t ls r I L R Q) (hf : c → P k (pc + 3) ls r I L R Q) : P k pc ls (.int (if c then 1 else 0) :: r) I L R Q := zgo hP hm ⟨fun q => ht (fun hc => by rw [if_pos hc] at q; exact absurd q (by decide)), fun q => hf (Classical.byContradiction (fun hc => q (if_neg hc)))⟩
theorem r_ifneB {t : Nat} {c : Prop} [Decidable c] (hP : ZCl K P) (hm : (zT k)[i]? = some (pc, z_ifne t)) (ht : c → P k t ls r I L R Q) (hf : ¬ c → P k (pc + 3) ls r I L R Q) : P k pc ls (.int (if c then 1 else 0) :: r) I L R Q := zgo hP hm ⟨fun q => ht (Classical.byContradiction (fun hc => q (if_neg hc))), fun q => hf (fun hc => by rw [if_pos hc] at q; exact absurd q (by decide))⟩
theorem r_sw {d : Nat} {qs : List (Int32 × Nat)} {x : Int32} (hP : ZCl K P) (hm : (zT k)[i]? = some (pc, z_sw d qs)) (h : zsw x (P k d ls r I L R Q) (fun t => P k t ls r I L R Q) qs) : P k pc ls (.int x :: r) I L R Q := zgo hP hm h
theorem r_gI {ci j a : Nat} {x : Int32} (hP : ZCl K P) (hm : (zT k)[i]? = some (pc, z_gI ci j)) (hk : (K a).1 = ci) (hx : I a j = x) (h : P k (pc + 3) ls (.int x :: r) I L R Q) : P k pc ls (.ref a :: r) I L R Q := zgo hP hm ⟨hk, x, hx, h⟩
theorem r_gL {ci j a : Nat} {x : Int64} (hP : ZCl K P) (hm : (zT k)[i]? = some (pc, z_gL ci j)) (hk : (K a).1 = ci) (hx : L a j = x) (h : P k (pc + 3) ls (.long x :: r) I L R Q) : P k pc ls (.ref a :: r) I L R Q := zgo hP hm ⟨hk, x, hx, h⟩
theorem r_gR {ci j a : Nat} {x : Nat} (hP : ZCl K P) (hm : (zT k)[i]? = some (pc, z_gR ci j)) (hk : (K a).1 = ci) (hx : R a j = x + 1) (h : P k (pc + 3) ls (.ref x :: r) I L R Q) : P k pc ls (.ref a :: r) I L R Q := zgo hP hm ⟨hk, x, hx, h⟩
theorem r_pI {ci j a : Nat} {x : Int32} (hP : ZCl K P) (hm : (zT k)[i]? = some (pc, z_pI ci j)) (hk : (K a).1 = ci) (h : P k (pc + 3) ls r (zup I a j x) L R Q) : P k pc ls (.int x :: .ref a :: r) I L R Q := zgo hP hm ⟨hk, h⟩
theorem r_pL {ci j a : Nat} {x : Int64} (hP : ZCl K P) (hm : (zT k)[i]? = some (pc, z_pL ci j)) (hk : (K a).1 = ci) (h : P k (pc + 3) ls r I (zup L a j x) R Q) : P k pc ls (.long x :: .ref a :: r) I L R Q := zgo hP hm ⟨hk, h⟩
theorem r_pR {ci j a x : Nat} (hP : ZCl K P) (hm : (zT k)[i]? = some (pc, z_pR ci j)) (hk : (K a).1 = ci) (h : P k (pc + 3) ls r I L (zup R a j (x + 1)) Q) : P k pc ls (.ref x :: .ref a :: r) I L R Q := zgo hP hm ⟨hk, h⟩
theorem r_iald {kd a n j : Nat} {y x : Int32} (hP : ZCl K P) (hm : (zT k)[i]? = some (pc, z_iald kd)) (hk : K a = (kd, n)) (hy : y = nI j) (hj : j < n) (hx : I a j = x) (h : P k (pc + 1) ls (.int x :: r) I L R Q) : P k pc ls (.int y :: .ref a :: r) I L R Q := zgo hP hm ⟨n, j, x, hk, hy, hj, hx, h⟩
theorem r_lald {a n j : Nat} {y : Int32} {x : Int64} (hP : ZCl K P) (hm : (zT k)[i]? = some (pc, z_lald)) (hk : K a = (21, n)) (hy : y = nI j) (hj : j < n) (hx : L a j = x) (h : P k (pc + 1) ls (.long x :: r) I L R Q) : P k pc ls (.int y :: .ref a :: r) I L R Q := zgo hP hm ⟨n, j, x, hk, hy, hj, hx, h⟩
theorem r_aald {kd a n j x : Nat} {y : Int32} (hP : ZCl K P) (hm : (zT k)[i]? = some (pc, z_aald kd)) (hk : K a = (kd, n)) (hy : y = nI j) (hj : j < n) (hx : R a j = x + 1) (h : P k (pc + 1) ls (.ref x :: r) I L R Q) : P k pc ls (.int y :: .ref a :: r) I L R Q := zgo hP hm ⟨n, j, x, hk, hy, hj, hx, h⟩
theorem r_iast {a n j : Nat} {y x : Int32} (hP : ZCl K P) (hm : (zT k)[i]? = some (pc, z_iast)) (hk : K a = (20, n)) (hy : y = nI j) (hj : j < n) (h : P k (pc + 1) ls r (zup I a j x) L R Q) : P k pc ls (.int x :: .int y :: .ref a :: r) I L R Q := zgo hP hm ⟨n, j, hk, hy, hj, h⟩
theorem r_bast {a n j : Nat} {y x : Int32} (hP : ZCl K P) (hm : (zT k)[i]? = some (pc, z_bast)) (hk : K a = (22, n)) (hy : y = nI j) (hj : j < n) (h : P k (pc + 1) ls r (zup I a j (vp_nar .byte x)) L R Q) : P k pc ls (.int x :: .int y :: .ref a :: r) I L R Q := zgo hP hm ⟨n, j, hk, hy, hj, h⟩
theorem r_zast {a n j : Nat} {y x : Int32} (hP : ZCl K P) (hm : (zT k)[i]? = some (pc, z_zast)) (hk : K a = (23, n)) (hy : y = nI j) (hj : j < n) (h : P k (pc + 1) ls r (zup I a j (vp_nar .boolean x)) L R Q) : P k pc ls (.int x :: .int y :: .ref a :: r) I L R Q := zgo hP hm ⟨n, j, hk, hy, hj, h⟩
theorem r_last {a n j : Nat} {y : Int32} {x : Int64} (hP : ZCl K P) (hm : (zT k)[i]? = some (pc, z_last)) (hk : K a = (21, n)) (hy : y = nI j) (hj : j < n) (h : P k (pc + 1) ls r I (zup L a j x) R Q) : P k pc ls (.long x :: .int y :: .ref a :: r) I L R Q := zgo hP hm ⟨n, j, hk, hy, hj, h⟩
theorem r_alen {kd a n : Nat} (hP : ZCl K P) (hm : (zT k)[i]? = some (pc, z_alen kd)) (hk : K a = (kd, n)) (h : P k (pc + 1) ls (.int (nI n) :: r) I L R Q) : P k pc ls (.ref a :: r) I L R Q := zgo hP hm ⟨n, hk, h⟩
theorem r_gs (hP : ZCl K P) (hm : (zT k)[i]? = some (pc, z_gs)) (h : P k (pc + 3) ls (.ref 1 :: st) I L R Q) : P k pc ls st I L R Q := zgo hP hm h
theorem r_mmax {x y : Int32} (hP : ZCl K P) (hm : (zT k)[i]? = some (pc, z_mmax)) (hc : zck 0 [] r = true) (h : P k (pc + 3) ls (.int (if x < y then y else x) :: r) I L R Q) : P k pc ls (.int y :: .int x :: r) I L R Q := zgo hP hm ⟨hc, h⟩
theorem r_mmin {x y : Int32} (hP : ZCl K P) (hm : (zT k)[i]? = some (pc, z_mmin)) (hc : zck 0 [] r = true) (h : P k (pc + 3) ls (.int (if y < x then y else x) :: r) I L R Q) : P k pc ls (.int y :: .int x :: r) I L R Q := zgo hP hm ⟨hc, h⟩
theorem r_mabs {x : Int32} (hP : ZCl K P) (hm : (zT k)[i]? = some (pc, z_mabs)) (hc : zck 0 [] r = true) (h : P k (pc + 3) ls (.int (if 0 ≤ x then x else 0 - x) :: r) I L R Q) : P k pc ls (.int x :: r) I L R Q := zgo hP hm ⟨hc, h⟩
theorem r_mmaxl {x y : Int64} (hP : ZCl K P) (hm : (zT k)[i]? = some (pc, z_mmaxl)) (hc : zck 0 [] r = true) (h : P k (pc + 3) ls (.long (if y < x then x else y) :: r) I L R Q) : P k pc ls (.long y :: .long x :: r) I L R Q := zgo hP hm ⟨hc, h⟩
theorem r_cVi {ci k2 ml na a : Nat} {as : List Value} {x : Int32} (hP : ZCl K P) (hm : (zT k)[i]? = some (pc, z_cV ci k2 ml na)) (hz : zarg na [] st = some (as, .ref a :: r)) (hk : (K a).1 = ci) (hc : zck ml (.ref a :: as) r = true) (hs : ∀ Q2 : ZRt, Q2 (some (.int x)) I' L' R' → P k2 0 (zent ml (.ref a :: as)) [] I L R Q2) (h : P k (pc + 3) ls (.int x :: r) I' L' R' Q) : P k pc ls st I L R Q := zgo hP hm (by unfold z_cV; rw [hz]; exact ⟨hk, hc, hs _ h⟩)
theorem r_cSi {k2 ml na : Nat} {as : List Value} {x : Int32} (hP : ZCl K P) (hm : (zT k)[i]? = some (pc, z_cS k2 ml na)) (hz : zarg na [] st = some (as, r)) (hc : zck ml as r = true) (hs : ∀ Q2 : ZRt, Q2 (some (.int x)) I' L' R' → P k2 0 (zent ml as) [] I L R Q2) (h : P k (pc + 3) ls (.int x :: r) I' L' R' Q) : P k pc ls st I L R Q := zgo hP hm (by unfold z_cS; rw [hz]; exact ⟨hc, hs _ h⟩)
theorem r_cVip {ci k2 ml na a : Nat} {as : List Value} (hP : ZCl K P) (hm : (zT k)[i]? = some (pc, z_cV ci k2 ml na)) (hz : zarg na [] st = some (as, .ref a :: r)) (hk : (K a).1 = ci) (hc : zck ml (.ref a :: as) r = true) (post : Int32 → ZMi → ZMl → ZMr → Prop) (hs : ∀ Q2 : ZRt, (∀ (x : Int32) (I' : ZMi) (L' : ZMl) (R' : ZMr), post x I' L' R' → Q2 (some (.int x)) I' L' R') → P k2 0 (zent ml (.ref a :: as)) [] I L R Q2) (h : ∀ (x : Int32) (I' : ZMi) (L' : ZMl) (R' : ZMr), post x I' L' R' → P k (pc + 3) ls (.int x :: r) I' L' R' Q) : P k pc ls st I L R Q := zgo hP hm (by unfold z_cV; rw [hz]; exact ⟨hk, hc, hs _ h⟩)
theorem r_cSip {k2 ml na : Nat} {as : List Value} (hP : ZCl K P) (hm : (zT k)[i]? = some (pc, z_cS k2 ml na)) (hz : zarg na [] st = some (as, r)) (hc : zck ml as r = true) (post : Int32 → ZMi → ZMl → ZMr → Prop) (hs : ∀ Q2 : ZRt, (∀ (x : Int32) (I' : ZMi) (L' : ZMl) (R' : ZMr), post x I' L' R' → Q2 (some (.int x)) I' L' R') → P k2 0 (zent ml as) [] I L R Q2) (h : ∀ (x : Int32) (I' : ZMi) (L' : ZMl) (R' : ZMr), post x I' L' R' → P k (pc + 3) ls (.int x :: r) I' L' R' Q) : P k pc ls st I L R Q := zgo hP hm (by unfold z_cS; rw [hz]; exact ⟨hc, hs _ h⟩)
theorem r_cVl {ci k2 ml na a : Nat} {as : List Value} {x : Int64} (hP : ZCl K P) (hm : (zT k)[i]? = some (pc, z_cV ci k2 ml na)) (hz : zarg na [] st = some (as, .ref a :: r)) (hk : (K a).1 = ci) (hc : zck ml (.ref a :: as) r = true) (hs : ∀ Q2 : ZRt, Q2 (some (.long x)) I' L' R' → P k2 0 (zent ml (.ref a :: as)) [] I L R Q2) (h : P k (pc + 3) ls (.long x :: r) I' L' R' Q) : P k pc ls st I L R Q := zgo hP hm (by unfold z_cV; rw [hz]; exact ⟨hk, hc, hs _ h⟩)
theorem r_cSl {k2 ml na : Nat} {as : List Value} {x : Int64} (hP : ZCl K P) (hm : (zT k)[i]? = some (pc, z_cS k2 ml na)) (hz : zarg na [] st = some (as, r)) (hc : zck ml as r = true) (hs : ∀ Q2 : ZRt, Q2 (some (.long x)) I' L' R' → P k2 0 (zent ml as) [] I L R Q2) (h : P k (pc + 3) ls (.long x :: r) I' L' R' Q) : P k pc ls st I L R Q := zgo hP hm (by unfold z_cS; rw [hz]; exact ⟨hc, hs _ h⟩)
theorem r_cVlp {ci k2 ml na a : Nat} {as : List Value} (hP : ZCl K P) (hm : (zT k)[i]? = some (pc, z_cV ci k2 ml na)) (hz : zarg na [] st = some (as, .ref a :: r)) (hk : (K a).1 = ci) (hc : zck ml (.ref a :: as) r = true) (post : Int64 → ZMi → ZMl → ZMr → Prop) (hs : ∀ Q2 : ZRt, (∀ (x : Int64) (I' : ZMi) (L' : ZMl) (R' : ZMr), post x I' L' R' → Q2 (some (.long x)) I' L' R') → P k2 0 (zent ml (.ref a :: as)) [] I L R Q2) (h : ∀ (x : Int64) (I' : ZMi) (L' : ZMl) (R' : ZMr), post x I' L' R' → P k (pc + 3) ls (.long x :: r) I' L' R' Q) : P k pc ls st I L R Q := zgo hP hm (by unfold z_cV; rw [hz]; exact ⟨hk, hc, hs _ h⟩)
theorem r_cSlp {k2 ml na : Nat} {as : List Value} (hP : ZCl K P) (hm : (zT k)[i]? = some (pc, z_cS k2 ml na)) (hz : zarg na [] st = some (as, r)) (hc : zck ml as r = true) (post : Int64 → ZMi → ZMl → ZMr → Prop) (hs : ∀ Q2 : ZRt, (∀ (x : Int64) (I' : ZMi) (L' : ZMl) (R' : ZMr), post x I' L' R' → Q2 (some (.long x)) I' L' R') → P k2 0 (zent ml as) [] I L R Q2) (h : ∀ (x : Int64) (I' : ZMi) (L' : ZMl) (R' : ZMr), post x I' L' R' → P k (pc + 3) ls (.long x :: r) I' L' R' Q) : P k pc ls st I L R Q := zgo hP hm (by unfold z_cS; rw [hz]; exact ⟨hc, hs _ h⟩)
theorem r_cVv {ci k2 ml na a : Nat} {as : List Value} (hP : ZCl K P) (hm : (zT k)[i]? = some (pc, z_cV ci k2 ml na)) (hz : zarg na [] st = some (as, .ref a :: r)) (hk : (K a).1 = ci) (hc : zck ml (.ref a :: as) r = true) (hs : ∀ Q2 : ZRt, Q2 none I' L' R' → P k2 0 (zent ml (.ref a :: as)) [] I L R Q2) (h : P k (pc + 3) ls r I' L' R' Q) : P k pc ls st I L R Q := zgo hP hm (by unfold z_cV; rw [hz]; exact ⟨hk, hc, hs _ h⟩)
theorem r_cSv {k2 ml na : Nat} {as : List Value} (hP : ZCl K P) (hm : (zT k)[i]? = some (pc, z_cS k2 ml na)) (hz : zarg na [] st = some (as, r)) (hc : zck ml as r = true) (hs : ∀ Q2 : ZRt, Q2 none I' L' R' → P k2 0 (zent ml as) [] I L R Q2) (h : P k (pc + 3) ls r I' L' R' Q) : P k pc ls st I L R Q := zgo hP hm (by unfold z_cS; rw [hz]; exact ⟨hc, hs _ h⟩)
theorem r_cVvp {ci k2 ml na a : Nat} {as : List Value} (hP : ZCl K P) (hm : (zT k)[i]? = some (pc, z_cV ci k2 ml na)) (hz : zarg na [] st = some (as, .ref a :: r)) (hk : (K a).1 = ci) (hc : zck ml (.ref a :: as) r = true) (post : ZMi → ZMl → ZMr → Prop) (hs : ∀ Q2 : ZRt, (∀ (I' : ZMi) (L' : ZMl) (R' : ZMr), post I' L' R' → Q2 none I' L' R') → P k2 0 (zent ml (.ref a :: as)) [] I L R Q2) (h : ∀ (I' : ZMi) (L' : ZMl) (R' : ZMr), post I' L' R' → P k (pc + 3) ls r I' L' R' Q) : P k pc ls st I L R Q := zgo hP hm (by unfold z_cV; rw [hz]; exact ⟨hk, hc, hs _ h⟩)
theorem r_cSvp {k2 ml na : Nat} {as : List Value} (hP : ZCl K P) (hm : (zT k)[i]? = some (pc, z_cS k2 ml na)) (hz : zarg na [] st = some (as, r)) (hc : zck ml as r = true) (post : ZMi → ZMl → ZMr → Prop) (hs : ∀ Q2 : ZRt, (∀ (I' : ZMi) (L' : ZMl) (R' : ZMr), post I' L' R' → Q2 none I' L' R') → P k2 0 (zent ml as) [] I L R Q2) (h : ∀ (I' : ZMi) (L' : ZMl) (R' : ZMr), post I' L' R' → P k (pc + 3) ls r I' L' R' Q) : P k pc ls st I L R Q := zgo hP hm (by unfold z_cS; rw [hz]; exact ⟨hc, hs _ h⟩)
theorem r_ir {x : Int32} (hP : ZCl K P) (hm : (zT k)[i]? = some (pc, z_ir)) (h : Q (some (.int x)) I L R) : P k pc ls [.int x] I L R Q := zgo hP hm h
theorem r_zr {x : Int32} (hP : ZCl K P) (hm : (zT k)[i]? = some (pc, z_zr)) (hb : x = 0 ∨ x = 1) (h : Q (some (.int x)) I L R) : P k pc ls [.int x] I L R Q := zgo hP hm ⟨hb, h⟩
theorem r_lr {x : Int64} (hP : ZCl K P) (hm : (zT k)[i]? = some (pc, z_lr)) (h : Q (some (.long x)) I L R) : P k pc ls [.long x] I L R Q := zgo hP hm h
theorem r_vr (hP : ZCl K P) (hm : (zT k)[i]? = some (pc, z_vr)) (h : Q none I L R) : P k pc ls [] I L R Q := zgo hP hm h
theorem zsw_c {x q : Int32} {d : Prop} {nx : Nat → Prop} {t : Nat} {qs : List (Int32 × Nat)} (h1 : x = q → nx t) (h2 : ¬ x = q → zsw x d nx qs) : zsw x d nx ((q, t) :: qs) := ⟨h1, h2⟩
theorem zsw_n {x : Int32} {d : Prop} {nx : Nat → Prop} (h : d) : zsw x d nx [] := h
/-- another term for what stands there -/
theorem r_ti {x y : Int32} (e : x = y) (h : P k pc ls (.int y :: r) I L R Q) : P k pc ls (.int x :: r) I L R Q := e ▸ h
theorem r_tl {x y : Int64} (e : x = y) (h : P k pc ls (.long y :: r) I L R Q) : P k pc ls (.long x :: r) I L R Q := e ▸ h
theorem r_I (e : I = I') (h : P k pc ls st I' L R Q) : P k pc ls st I L R Q := e ▸ h
theorem r_L (e : L = L') (h : P k pc ls st I L' R Q) : P k pc ls st I L R Q := e ▸ h
end ZR
