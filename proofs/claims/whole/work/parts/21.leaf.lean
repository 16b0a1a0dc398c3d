/-! ===== leaves ===== -/
section ZR2
variable {K : ZKh} {P : Nat → Nat → List Value → List Value → ZMi → ZMl → ZMr → ZRt → Prop} {k pc i : Nat} {ls ls' st r : List Value} {I I' : ZMi} {L L' : ZMl} {R R' : ZMr} {Q : ZRt}
theorem r_zr1 {c : Prop} [Decidable c] (hP : ZCl K P) (hm : (zT k)[i]? = some (pc, z_zr)) (hc : c) (h : Q (some (.int (if c then 1 else 0))) I L R) : P k pc ls [.int 1] I L R Q := r_zr hP hm (Or.inr rfl) (by rw [if_pos hc] at h; exact h)
theorem r_zr0 {c : Prop} [Decidable c] (hP : ZCl K P) (hm : (zT k)[i]? = some (pc, z_zr)) (hc : ¬ c) (h : Q (some (.int (if c then 1 else 0))) I L R) : P k pc ls [.int 0] I L R Q := r_zr hP hm (Or.inl rfl) (by rw [if_neg hc] at h; exact h)
theorem r_zrB {c : Prop} [Decidable c] (hP : ZCl K P) (hm : (zT k)[i]? = some (pc, z_zr)) (h : Q (some (.int (if c then 1 else 0))) I L R) : P k pc ls [.int (if c then 1 else 0)] I L R Q := r_zr hP hm (by by_cases q : c <;> simp [q]) h
theorem r_irE {x y : Int32} (hP : ZCl K P) (hm : (zT k)[i]? = some (pc, z_ir)) (h : Q (some (.int y)) I L R) (e : x = y) : P k pc ls [.int x] I L R Q := r_ir hP hm (by rw [e]; exact h)
theorem r_lrE {x y : Int64} (hP : ZCl K P) (hm : (zT k)[i]? = some (pc, z_lr)) (h : Q (some (.long y)) I L R) (e : x = y) : P k pc ls [.long x] I L R Q := r_lr hP hm (by rw [e]; exact h)
end ZR2
/-- x names one of n -/
abbrev zr (x : Int32) (n : Nat) : Prop := 0 ≤ x.toInt ∧ x.toInt < (n : Int)
theorem zr_iff {x : Int32} {n : Nat} (hn : n < 2 ^ 31) : zr x n ↔ ∃ j : Nat, j < n ∧ x = nI j := by
  constructor
  · rintro ⟨h1, h2⟩
    refine ⟨x.toInt.toNat, by omega, Int32.toInt_inj.mp ?_⟩
    rw [nI_toInt (by omega)]
    omega
  · rintro ⟨j, hj, rfl⟩
    rw [zr, nI_toInt (by omega)]
    omega
theorem z_lt (x y : Int32) : x < y ↔ x.toInt < y.toInt := Int32.lt_iff_toInt_lt
theorem z_le (x y : Int32) : x ≤ y ↔ x.toInt ≤ y.toInt := Int32.le_iff_toInt_le
theorem z_lt64 (x y : Int64) : x < y ↔ x.toInt < y.toInt := Int64.lt_iff_toInt_lt
theorem z_le64 (x y : Int64) : x ≤ y ↔ x.toInt ≤ y.toInt := Int64.le_iff_toInt_le
theorem z_32 (x : Int32) : -2147483648 ≤ x.toInt ∧ x.toInt < 2147483648 := by
  have h1 := Int32.le_toInt x
  have h2 := Int32.toInt_lt x
  omega
theorem z_to64 (x : Int32) : x.toInt64.toInt = x.toInt := Int32.toInt_toInt64 x
set_option maxRecDepth 4000 in
theorem x_within {K : ZKh} {P : Nat → Nat → List Value → List Value → ZMi → ZMl → ZMr → ZRt → Prop} {I : ZMi} {L : ZMl} {R : ZMr} {Q : ZRt} (hP : ZCl K P) {x a b : Int32} (h : Q (some (.int (if a ≤ x ∧ x ≤ b then 1 else 0))) I L R) : P 100 0 [.int x, .int a, .int b] [] I L R Q := by
  refine r_il hP c100_0 rfl ?_
  refine r_il hP c100_1 rfl ?_
  refine r_ilt hP c100_2 (fun h2 => ?_) (fun h2 => ?_)
  · refine r_ic hP c100_14 ?_
    exact r_zr0 hP c100_15 (by simp only [z_lt, z_le] at *; omega) h
  · refine r_il hP c100_5 rfl ?_
    refine r_il hP c100_6 rfl ?_
    refine r_igt hP c100_7 (fun h7 => ?_) (fun h7 => ?_)
    · refine r_ic hP c100_14 ?_
      exact r_zr0 hP c100_15 (by simp only [z_lt, z_le] at *; omega) h
    · refine r_ic hP c100_10 ?_
      refine r_goto hP c100_11 ?_
      exact r_zr1 hP c100_15 (by simp only [z_lt, z_le] at *; omega) h
set_option maxRecDepth 4000 in
theorem x_isIn {K : ZKh} {P : Nat → Nat → List Value → List Value → ZMi → ZMl → ZMr → ZRt → Prop} {I : ZMi} {L : ZMl} {R : ZMr} {Q : ZRt} (hP : ZCl K P) {x a b : Int64} (h : Q (some (.int (if a ≤ x ∧ x ≤ b then 1 else 0))) I L R) : P 105 0 [.long x, .null, .long a, .null, .long b, .null] [] I L R Q := by
  refine r_ll hP c105_0 rfl ?_
  refine r_ll hP c105_1 rfl ?_
  refine r_lcmp hP c105_2 ?_
  refine r_ifltL hP c105_3 (fun h3 => ?_) (fun h3 => ?_)
  · refine r_ic hP c105_17 ?_
    exact r_zr0 hP c105_18 (by simp only [z_lt64, z_le64] at *; omega) h
  · refine r_ll hP c105_6 rfl ?_
    refine r_ll hP c105_7 rfl ?_
    refine r_lcmp hP c105_9 ?_
    refine r_ifgtL hP c105_10 (fun h10 => ?_) (fun h10 => ?_)
    · refine r_ic hP c105_17 ?_
      exact r_zr0 hP c105_18 (by simp only [z_lt64, z_le64] at *; omega) h
    · refine r_ic hP c105_13 ?_
      refine r_goto hP c105_14 ?_
      exact r_zr1 hP c105_18 (by simp only [z_lt64, z_le64] at *; omega) h
set_option maxRecDepth 4000 in
theorem x_isTone {K : ZKh} {P : Nat → Nat → List Value → List Value → ZMi → ZMl → ZMr → ZRt → Prop} {I : ZMi} {L : ZMl} {R : ZMr} {Q : ZRt} (hP : ZCl K P) {x : Int32} (h : Q (some (.int (if 0 ≤ x ∧ x ≤ 2 then 1 else 0))) I L R) : P 101 0 [.int x] [] I L R Q := by
  refine r_il hP c101_0 rfl ?_
  refine r_ic hP c101_1 ?_
  refine r_ic hP c101_2 ?_
  refine r_cSi (as := [.int x, .int 0, .int 2]) (r := []) (I' := I) (L' := L) (R' := R) (x := if 0 ≤ x ∧ x ≤ 2 then 1 else 0) hP c101_3 rfl rfl (fun _ h2 => x_within hP h2) ?_
  exact r_zrB hP c101_6 h
set_option maxRecDepth 4000 in
theorem x_isMinute {K : ZKh} {P : Nat → Nat → List Value → List Value → ZMi → ZMl → ZMr → ZRt → Prop} {I : ZMi} {L : ZMl} {R : ZMr} {Q : ZRt} (hP : ZCl K P) {x : Int32} (h : Q (some (.int (if 0 ≤ x ∧ x ≤ 30 then 1 else 0))) I L R) : P 102 0 [.int x] [] I L R Q := by
  refine r_il hP c102_0 rfl ?_
  refine r_ic hP c102_1 ?_
  refine r_ic hP c102_2 ?_
  refine r_cSi (as := [.int x, .int 0, .int 30]) (r := []) (I' := I) (L' := L) (R' := R) (x := if 0 ≤ x ∧ x ≤ 30 then 1 else 0) hP c102_4 rfl rfl (fun _ h2 => x_within hP h2) ?_
  exact r_zrB hP c102_7 h
set_option maxRecDepth 4000 in
theorem x_hasStage {K : ZKh} {P : Nat → Nat → List Value → List Value → ZMi → ZMl → ZMr → ZRt → Prop} {I : ZMi} {L : ZMl} {R : ZMr} {Q : ZRt} (hP : ZCl K P) {w n : Nat} {x : Int32} (hk : (K w).1 = 10) (hn : I w 5 = nI n) (hb : n < 2 ^ 31) (h : Q (some (.int (if zr x n then 1 else 0))) I L R) : P 46 0 [.ref w, .int x] [] I L R Q := by
  refine r_il hP c46_0 rfl ?_
  refine r_iflt hP c46_1 (fun h1 => ?_) (fun h1 => ?_)
  · refine r_ic hP c46_16 ?_
    exact r_zr0 hP c46_17 (by simp only [z_lt, z_le, zr] at *; (try rw [nI_toInt (by omega)] at *); have := z_32 x; (try rw [show (0 : Int32).toInt = 0 from rfl] at *); omega) h
  · refine r_il hP c46_4 rfl ?_
    refine r_al hP c46_5 rfl ?_
    refine r_gI (x := nI n) hP c46_6 hk hn ?_
    refine r_ige hP c46_9 (fun h9 => ?_) (fun h9 => ?_)
    · refine r_ic hP c46_16 ?_
      exact r_zr0 hP c46_17 (by simp only [z_lt, z_le, zr] at *; (try rw [nI_toInt (by omega)] at *); have := z_32 x; (try rw [show (0 : Int32).toInt = 0 from rfl] at *); omega) h
    · refine r_ic hP c46_12 ?_
      refine r_goto hP c46_13 ?_
      exact r_zr1 hP c46_17 (by simp only [z_lt, z_le, zr] at *; (try rw [nI_toInt (by omega)] at *); have := z_32 x; (try rw [show (0 : Int32).toInt = 0 from rfl] at *); omega) h
set_option maxRecDepth 4000 in
theorem x_hasPart {K : ZKh} {P : Nat → Nat → List Value → List Value → ZMi → ZMl → ZMr → ZRt → Prop} {I : ZMi} {L : ZMl} {R : ZMr} {Q : ZRt} (hP : ZCl K P) {w n : Nat} {x : Int32} (hk : (K w).1 = 10) (hn : I w 6 = nI n) (hb : n < 2 ^ 31) (h : Q (some (.int (if zr x n then 1 else 0))) I L R) : P 47 0 [.ref w, .int x] [] I L R Q := by
  refine r_il hP c47_0 rfl ?_
  refine r_iflt hP c47_1 (fun h1 => ?_) (fun h1 => ?_)
  · refine r_ic hP c47_16 ?_
    exact r_zr0 hP c47_17 (by simp only [z_lt, z_le, zr] at *; (try rw [nI_toInt (by omega)] at *); have := z_32 x; (try rw [show (0 : Int32).toInt = 0 from rfl] at *); omega) h
  · refine r_il hP c47_4 rfl ?_
    refine r_al hP c47_5 rfl ?_
    refine r_gI (x := nI n) hP c47_6 hk hn ?_
    refine r_ige hP c47_9 (fun h9 => ?_) (fun h9 => ?_)
    · refine r_ic hP c47_16 ?_
      exact r_zr0 hP c47_17 (by simp only [z_lt, z_le, zr] at *; (try rw [nI_toInt (by omega)] at *); have := z_32 x; (try rw [show (0 : Int32).toInt = 0 from rfl] at *); omega) h
    · refine r_ic hP c47_12 ?_
      refine r_goto hP c47_13 ?_
      exact r_zr1 hP c47_17 (by simp only [z_lt, z_le, zr] at *; (try rw [nI_toInt (by omega)] at *); have := z_32 x; (try rw [show (0 : Int32).toInt = 0 from rfl] at *); omega) h
