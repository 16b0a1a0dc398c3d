/-! ===== the class: answers kept, the text ===== -/
def zby (v : Int64) (i : Nat) : Nat := (v.toBitVec.toNat / 256 ^ i) % 256
theorem zby_lt (v : Int64) (i : Nat) : zby v i < 256 := Nat.mod_lt _ (by decide)
theorem zby_x : ∀ i, i < 8 → ((((8 : Int32) * nI i).toInt64.toUInt64 &&& Int64.toUInt64 63) = UInt64.ofNat (8 * i) ∧ (((8 : Int32) * nI i).toInt64 &&& 63) = Int64.ofNat (8 * i)) := by decide +kernel
theorem zby_e (v : Int64) (i : Nat) : (nI (zby v i)).toBitVec = ((v.toBitVec >>> (8 * i)) &&& 255#64).setWidth 32 := by
  show BitVec.ofNat 32 (zby v i) = _
  apply BitVec.eq_of_toNat_eq
  simp only [BitVec.toNat_ofNat, BitVec.toNat_setWidth, BitVec.toNat_and, BitVec.toNat_ushiftRight, Nat.shiftRight_eq_div_pow]
  rw [show (255 % 2 ^ 64 : Nat) = 2 ^ 8 - 1 from rfl, Nat.and_two_pow_sub_one_eq_mod, zby, Nat.pow_mul]
theorem z255 : ∀ j, (h : j < 32) → ¬ j < 8 → (255#32)[j] = false := by decide +kernel
theorem z255b : ∀ j, (h : j < 32) → j < 8 → (255#32)[j] = true := by decide +kernel
theorem zby_m (v : Int64) (i : Nat) (hi : i < 8) : ((v >>> (((8 : Int32) * nI i).toInt64 &&& 63)) &&& 255).toInt32 = nI (zby v i) := by
  rw [(zby_x i hi).2]
  have h8 : i = 0 ∨ i = 1 ∨ i = 2 ∨ i = 3 ∨ i = 4 ∨ i = 5 ∨ i = 6 ∨ i = 7 := by omega
  apply Int32.toBitVec_inj.mp
  rw [zby_e]
  apply BitVec.eq_of_getElem_eq
  intro j hj
  have h64 : j < 64 := by omega
  by_cases hj8 : j < 8
  · rcases h8 with rfl | rfl | rfl | rfl | rfl | rfl | rfl | rfl <;> simp [BitVec.getElem_signExtend, BitVec.getElem_sshiftRight, z255b j hj hj8, h64]
    all_goals (split <;> first | rfl | omega)
  · rcases h8 with rfl | rfl | rfl | rfl | rfl | rfl | rfl | rfl <;> simp [z255 j hj hj8]
theorem zby_c (v : Int64) (i : Nat) (hi : i < 8) : ((v.toUInt64 >>> (((8 : Int32) * nI i).toInt64.toUInt64 &&& Int64.toUInt64 63)).toInt64.toInt32.toInt8.toInt32.toInt8.toInt32 &&& 255) = nI (zby v i) := by
  rw [(zby_x i hi).1]
  have h8 : i = 0 ∨ i = 1 ∨ i = 2 ∨ i = 3 ∨ i = 4 ∨ i = 5 ∨ i = 6 ∨ i = 7 := by omega
  apply Int32.toBitVec_inj.mp
  rw [zby_e]
  apply BitVec.eq_of_getElem_eq
  intro j hj
  have h64 : j < 64 := by omega
  by_cases hj8 : j < 8
  · rcases h8 with rfl | rfl | rfl | rfl | rfl | rfl | rfl | rfl <;> simp [BitVec.getElem_signExtend, z255b j hj hj8, h64, hj8]
  · rcases h8 with rfl | rfl | rfl | rfl | rfl | rfl | rfl | rfl <;> simp [z255 j hj hj8]


def zfA (a : Nat) (I I' : ZMi) : Prop := ∀ x, ¬ (a ≤ x ∧ x ≤ a + 4) → ∀ j, I' x j = I x j
theorem zfA_r (a : Nat) (I : ZMi) : zfA a I I := fun _ _ _ => rfl
theorem zfA_t {a : Nat} {I I' I2 : ZMi} (h : zfA a I I') (h2 : zfA a I' I2) : zfA a I I2 := fun x hx j => (h2 x hx j).trans (h x hx j)
theorem zfA_u {a : Nat} {I I' : ZMi} (h : zfA a I I') {b k : Nat} {x : Int32} (hb : a ≤ b ∧ b ≤ a + 4) : zfA a I (zup I' b k x) := fun y hy j => by
  rw [zup_na _ _ _ _ (by omega)]
  exact h y hy j
def zAs (B : ZA) (c : Nat) (q : Nat × Nat × Int32 × Int32) : ZA := fun i => if i = c then q else B i
theorem zAs_s (B : ZA) (c : Nat) (q : Nat × Nat × Int32 × Int32) : zAs B c q c = q := if_pos rfl
theorem zAs_n (B : ZA) (q : Nat × Nat × Int32 × Int32) {c i : Nat} (h : i < c) : zAs B c q i = B i := if_neg (by omega)
theorem zAn_cong {I : ZMi} {b na : Nat} {A A' : ZA} (h : zAn I b na A) (he : ∀ i, i < na → A' i = A i) : zAn I b na A' := ⟨h.1, fun i hi => by rw [he i hi]; exact h.2 i hi⟩
theorem zAn_up {I : ZMi} {a c : Nat} {B : ZA} (hA : zAn I a c B) (q : Nat × Nat × Int32 × Int32) : zAn (zup (zup (zup (zup (zup I (a + 1) c (nI q.1)) (a + 2) c (nI q.2.1)) (a + 3) c q.2.2.1) (a + 4) c q.2.2.2) a 4 (nI (c + 1))) a (c + 1) (zAs B c q) := by
  refine ⟨zup_s _ _ _ _, fun i hi => ?_⟩
  rcases Nat.lt_or_ge i c with hl | hl
  · rw [zAs_n B q hl]
    refine ⟨?_, ?_, ?_, ?_⟩
    · rw [zup_n _ _ _ _ (by omega), zup_n _ _ _ _ (by omega), zup_n _ _ _ _ (by omega), zup_n _ _ _ _ (by omega), zup_n _ _ _ _ (by omega)]; exact (hA.2 i hl).1
    · rw [zup_n _ _ _ _ (by omega), zup_n _ _ _ _ (by omega), zup_n _ _ _ _ (by omega), zup_n _ _ _ _ (by omega), zup_n _ _ _ _ (by omega)]; exact (hA.2 i hl).2.1
    · rw [zup_n _ _ _ _ (by omega), zup_n _ _ _ _ (by omega), zup_n _ _ _ _ (by omega), zup_n _ _ _ _ (by omega), zup_n _ _ _ _ (by omega)]; exact (hA.2 i hl).2.2.1
    · rw [zup_n _ _ _ _ (by omega), zup_n _ _ _ _ (by omega), zup_n _ _ _ _ (by omega), zup_n _ _ _ _ (by omega), zup_n _ _ _ _ (by omega)]; exact (hA.2 i hl).2.2.2
  · have e : i = c := by omega
    subst e
    rw [zAs_s]
    refine ⟨?_, ?_, ?_, ?_⟩
    · rw [zup_n _ _ _ _ (by omega), zup_n _ _ _ _ (by omega), zup_n _ _ _ _ (by omega), zup_n _ _ _ _ (by omega), zup_s]
    · rw [zup_n _ _ _ _ (by omega), zup_n _ _ _ _ (by omega), zup_n _ _ _ _ (by omega), zup_s]
    · rw [zup_n _ _ _ _ (by omega), zup_n _ _ _ _ (by omega), zup_s]
    · rw [zup_n _ _ _ _ (by omega), zup_s]
theorem zAn_to {I I' : ZMi} {b na : Nat} {A : ZA} (h : zAn I b na A) (he : ∀ x, b ≤ x → x ≤ b + 4 → ∀ j, I' x j = I x j) : zAn I' b na A :=
  ⟨(he b (by omega) (by omega) 4).trans h.1, fun i hi => ⟨(he (b + 1) (by omega) (by omega) i).trans (h.2 i hi).1, (he (b + 2) (by omega) (by omega) i).trans (h.2 i hi).2.1, (he (b + 3) (by omega) (by omega) i).trans (h.2 i hi).2.2.1, (he (b + 4) (by omega) (by omega) i).trans (h.2 i hi).2.2.2⟩⟩
/-- the class's text -/
def zTx (I : ZMi) (len : Nat) (T : Nat → Nat) : Prop := I 3 1 = nI len ∧ ∀ i, i < len → (I 4 i &&& 255) = nI (T i)
def zfT (I I' : ZMi) : Prop := ∀ a k, a ≠ 4 → ¬ (a = 3 ∧ k = 1) → I' a k = I a k
def zca (T : Nat → Nat) (len p : Nat) : Int32 := if p < len then nI (T p) else -1
def zTa (T : Nat → Nat) (len n : Nat) (v : Int64) (i : Nat) : Nat := if i < len then T i else zby v (n - 1 - (i - len))
theorem z400 : ∀ len, len ≤ 400 → (400 : Int32) - nI len = nI (400 - len) := by decide +kernel
theorem zTa_up {I I1 : ZMi} {T : Nat → Nat} {len n d : Nat} {v : Int64} {x : Int32} (hx : (x &&& 255) = nI (zby v (n - 1 - d))) (h : zfT I I1 ∧ zTx I1 (len + d) (zTa T len n v)) : zfT I (zup (zup I1 4 (len + d) x) 3 1 (nI (len + d + 1))) ∧ zTx (zup (zup I1 4 (len + d) x) 3 1 (nI (len + d + 1))) (len + (d + 1)) (zTa T len n v) := by
  refine ⟨fun a k h1 h2 => ?_, zup_s _ _ _ _, fun i hi => ?_⟩
  · rw [zup_n _ _ _ _ (by omega), zup_n _ _ _ _ (by omega)]
    exact h.1 a k h1 h2
  · rw [zup_n _ _ _ _ (by omega)]
    rcases Nat.lt_or_ge i (len + d) with q | q
    · rw [zup_n _ _ _ _ (by omega)]
      exact h.2.2 i q
    · have e : i = len + d := by omega
      subst e
      rw [zup_s, hx, zTa, if_neg (by omega), show len + d - len = d from by omega]
set_option maxRecDepth 4000 in
theorem x_aadd {K : ZKh} {P : Nat → Nat → List Value → List Value → ZMi → ZMl → ZMr → ZRt → Prop} {I : ZMi} {L : ZMl} {R : ZMr} {Q : ZRt} (hP : ZCl K P) (hK : zKa K) (hR : zRa R) {a c : Nat} {B : ZA} (ha : zisA a) (hA : zAn I a c B) (hc : c < 10) (q : Nat × Nat × Int32 × Int32) (h : ∀ I2, zfA a I I2 → zAn I2 a (c + 1) (zAs B c q) → Q none I2 L R) : P 1 0 [.ref a, .int (nI q.1), .int (nI q.2.1), .int q.2.2.1, .int q.2.2.2] [] I L R Q := by
  refine r_al hP c1_0 rfl ?_
  refine r_gI (x := nI c) hP c1_1 (zj_A hK ha) hA.1 ?_
  refine r_ic hP c1_4 ?_
  refine r_ige hP c1_6 (fun h6 => absurd h6 (nI_ge (b := 10) (by omega) (by decide))) (fun h6 => ?_)
  refine r_al hP c1_9 rfl ?_
  refine r_gR (x := a + 1) hP c1_10 (zj_A hK ha) (zr_A1 hR ha) ?_
  refine r_al hP c1_13 rfl ?_
  refine r_gI (x := nI c) hP c1_14 (zj_A hK ha) hA.1 ?_
  refine r_il hP c1_17 rfl ?_
  refine r_iast (j := c) hP c1_18 (zk_A1 hK ha) rfl (by omega) ?_
  refine r_al hP c1_19 rfl ?_
  refine r_gR (x := a + 2) hP c1_20 (zj_A hK ha) (zr_A2 hR ha) ?_
  refine r_al hP c1_23 rfl ?_
  refine r_gI (x := nI c) hP c1_24 (zj_A hK ha) ((zup_n _ _ _ _ (by omega)).trans hA.1) ?_
  refine r_il hP c1_27 rfl ?_
  refine r_iast (j := c) hP c1_28 (zk_A2 hK ha) rfl (by omega) ?_
  refine r_al hP c1_29 rfl ?_
  refine r_gR (x := a + 3) hP c1_30 (zj_A hK ha) (zr_A3 hR ha) ?_
  refine r_al hP c1_33 rfl ?_
  refine r_gI (x := nI c) hP c1_34 (zj_A hK ha) ((zup_n _ _ _ _ (by omega)).trans ((zup_n _ _ _ _ (by omega)).trans hA.1)) ?_
  refine r_il hP c1_37 rfl ?_
  refine r_iast (j := c) hP c1_38 (zk_A3 hK ha) rfl (by omega) ?_
  refine r_al hP c1_39 rfl ?_
  refine r_gR (x := a + 4) hP c1_40 (zj_A hK ha) (zr_A4 hR ha) ?_
  refine r_al hP c1_43 rfl ?_
  refine r_gI (x := nI c) hP c1_44 (zj_A hK ha) ((zup_n _ _ _ _ (by omega)).trans ((zup_n _ _ _ _ (by omega)).trans ((zup_n _ _ _ _ (by omega)).trans hA.1))) ?_
  refine r_il hP c1_47 rfl ?_
  refine r_iast (j := c) hP c1_49 (zk_A4 hK ha) rfl (by omega) ?_
  refine r_al hP c1_50 rfl ?_
  refine r_dup hP c1_51 rfl ?_
  refine r_gI (x := nI c) hP c1_52 (zj_A hK ha) ((zup_n _ _ _ _ (by omega)).trans ((zup_n _ _ _ _ (by omega)).trans ((zup_n _ _ _ _ (by omega)).trans ((zup_n _ _ _ _ (by omega)).trans hA.1)))) ?_
  refine r_ic hP c1_55 ?_
  refine r_iadd hP c1_56 ?_
  refine r_ti (y := nI (c + 1)) (nI_1 _) ?_
  refine r_pI hP c1_57 (zj_A hK ha) ?_
  exact r_vr hP c1_60 (h _ (zfA_u (zfA_u (zfA_u (zfA_u (zfA_u (zfA_r a I) (by omega)) (by omega)) (by omega)) (by omega)) (by omega)) (zAn_up hA q))
set_option maxRecDepth 4000 in
theorem x_acopy_l {K : ZKh} {P : Nat → Nat → List Value → List Value → ZMi → ZMl → ZMr → ZRt → Prop} {I : ZMi} {L : ZMl} {R : ZMr} {Q : ZRt} (hP : ZCl K P) (hK : zKa K) (hR : zRa R) {a b nb : Nat} {B : ZA} (ha : zisA a) (hb : zisA b) (hab : a + 5 ≤ b ∨ b + 5 ≤ a) (hB : zAn I b nb B) (hn : nb ≤ 10) (h : ∀ I2, zfA a I I2 → zAn I2 a nb B → Q none I2 L R) : ∀ i, i ≤ nb → ∀ (I1 : ZMi), zfA a I I1 ∧ zAn I1 a i B → P 2 7 [.ref a, .ref b, .int (nI i)] [] I1 L R Q := by
  refine zloop nb (fun i => ∀ (I1 : ZMi), zfA a I I1 ∧ zAn I1 a i B → P 2 7 [.ref a, .ref b, .int (nI i)] [] I1 L R Q) ?_
  intro i hle ih I1 hacc
  refine r_il hP c2_7 rfl ?_
  refine r_al hP c2_8 rfl ?_
  refine r_gI (x := nI nb) hP c2_9 (zj_A hK hb) ((hacc.1 b (by omega) 4).trans hB.1) ?_
  refine r_ige hP c2_12 (fun h12 => ?_) (fun h12 => ?_)
  · have he : i = nb := Nat.le_antisymm hle ((nI_leI (by omega) (by omega)).mp h12)
    subst he
    exact r_vr hP c2_49 (h _ hacc.1 hacc.2)
  · have hlt : i < nb := by
      rcases Nat.lt_or_ge i nb with q | q
      · exact q
      · exact absurd (nI_le q (by omega)) h12
    refine r_al hP c2_15 rfl ?_
    refine r_al hP c2_16 rfl ?_
    refine r_gR (x := b + 1) hP c2_17 (zj_A hK hb) (zr_A1 hR hb) ?_
    refine r_il hP c2_20 rfl ?_
    refine r_iald (j := i) (x := nI (B i).1) hP c2_21 (zk_A1 hK hb) rfl (by omega) ((hacc.1 (b + 1) (by omega) i).trans (hB.2 i hlt).1) ?_
    refine r_al hP c2_22 rfl ?_
    refine r_gR (x := b + 2) hP c2_23 (zj_A hK hb) (zr_A2 hR hb) ?_
    refine r_il hP c2_26 rfl ?_
    refine r_iald (j := i) (x := nI (B i).2.1) hP c2_27 (zk_A2 hK hb) rfl (by omega) ((hacc.1 (b + 2) (by omega) i).trans (hB.2 i hlt).2.1) ?_
    refine r_al hP c2_28 rfl ?_
    refine r_gR (x := b + 3) hP c2_29 (zj_A hK hb) (zr_A3 hR hb) ?_
    refine r_il hP c2_32 rfl ?_
    refine r_iald (j := i) (x := (B i).2.2.1) hP c2_33 (zk_A3 hK hb) rfl (by omega) ((hacc.1 (b + 3) (by omega) i).trans (hB.2 i hlt).2.2.1) ?_
    refine r_al hP c2_34 rfl ?_
    refine r_gR (x := b + 4) hP c2_35 (zj_A hK hb) (zr_A4 hR hb) ?_
    refine r_il hP c2_38 rfl ?_
    refine r_iald (j := i) (x := (B i).2.2.2) hP c2_39 (zk_A4 hK hb) rfl (by omega) ((hacc.1 (b + 4) (by omega) i).trans (hB.2 i hlt).2.2.2) ?_
    refine r_cVvp (as := [.int (nI (B i).1), .int (nI (B i).2.1), .int ((B i).2.2.1), .int ((B i).2.2.2)]) (r := []) (a := a) hP c2_40 rfl (zj_A hK ha) rfl (fun I2 L2 R2 => (zfA a I1 I2 ∧ zAn I2 a (i + 1) (zAs B i (B i))) ∧ L = L2 ∧ R = R2) (fun Q2 hq => x_aadd hP hK hR ha hacc.2 (by omega) (B i) (fun I2 h1 h2 => hq I2 L R ⟨⟨h1, h2⟩, rfl, rfl⟩)) ?_
    rintro I2 L2 R2 ⟨⟨h1, h2⟩, rfl, rfl⟩
    refine r_inc (y := nI (i + 1)) (ls' := [.ref a, .ref b, .int (nI (i + 1))]) hP c2_43 rfl (nI_1 _) rfl ?_
    refine r_goto hP c2_46 ?_
    exact ih hlt _ ⟨zfA_t hacc.1 h1, zAn_cong h2 (fun j hj => by rcases Nat.lt_or_ge j i with z | z; rw [zAs_n B _ z]; rw [show j = i from by omega, zAs_s])⟩
set_option maxRecDepth 4000 in
theorem x_acopy {K : ZKh} {P : Nat → Nat → List Value → List Value → ZMi → ZMl → ZMr → ZRt → Prop} {I : ZMi} {L : ZMl} {R : ZMr} {Q : ZRt} (hP : ZCl K P) (hK : zKa K) (hR : zRa R) {a b nb : Nat} {B : ZA} (ha : zisA a) (hb : zisA b) (hab : a + 5 ≤ b ∨ b + 5 ≤ a) (hB : zAn I b nb B) (hn : nb ≤ 10) (h : ∀ I2, zfA a I I2 → zAn I2 a nb B → Q none I2 L R) : P 2 0 [.ref a, .ref b, .null] [] I L R Q := by
  refine r_al hP c2_0 rfl ?_
  refine r_ic hP c2_1 ?_
  refine r_pI hP c2_2 (zj_A hK ha) ?_
  refine r_ic hP c2_5 ?_
  refine r_is (ls' := [.ref a, .ref b, .int 0]) hP c2_6 (Nat.le_of_ble_eq_true rfl) rfl ?_
  exact x_acopy_l hP hK hR ha hb hab hB hn h 0 (Nat.zero_le _) _ ⟨zfA_u (zfA_r a I) (by omega), zup_s _ _ _ _, fun i hi => absurd hi (Nat.not_lt_zero i)⟩
set_option maxRecDepth 4000 in
theorem x_hasRoom {K : ZKh} {P : Nat → Nat → List Value → List Value → ZMi → ZMl → ZMr → ZRt → Prop} {I : ZMi} {L : ZMl} {R : ZMr} {Q : ZRt} (hP : ZCl K P) (hK : zKa K) (hR : zRa R) {len : Nat} {T : Nat → Nat} (hT : zTx I len T) (hl : len ≤ 400) {n : Nat} (hn : n ≤ 8) (h : Q (some (.int (if len + n ≤ 400 then 1 else 0))) I L R) : P 40 0 [.ref 3, .int (nI n)] [] I L R Q := by
  refine r_il hP c40_0 rfl ?_
  refine r_ic hP c40_1 ?_
  refine r_al hP c40_4 rfl ?_
  refine r_gI (x := nI len) hP c40_5 (zj3 hK) hT.1 ?_
  refine r_isub hP c40_8 ?_
  refine r_ti (y := nI (400 - len)) (z400 len hl) ?_
  refine r_igt hP c40_9 (fun h9 => ?_) (fun h9 => ?_)
  · refine r_ic hP c40_16 ?_
    exact r_zr0 hP c40_17 (by first | (have := (nI_ltI (by omega) (by omega)).mp h9; omega) | (have := (not_congr (nI_ltI (by omega) (by omega))).mp h9; omega)) h
  · refine r_ic hP c40_12 ?_
    refine r_goto hP c40_13 ?_
    exact r_zr1 hP c40_17 (by first | (have := (nI_ltI (by omega) (by omega)).mp h9; omega) | (have := (not_congr (nI_ltI (by omega) (by omega))).mp h9; omega)) h
set_option maxRecDepth 4000 in
theorem x_at {K : ZKh} {P : Nat → Nat → List Value → List Value → ZMi → ZMl → ZMr → ZRt → Prop} {I : ZMi} {L : ZMl} {R : ZMr} {Q : ZRt} (hP : ZCl K P) (hK : zKa K) (hR : zRa R) {len : Nat} {T : Nat → Nat} (hT : zTx I len T) (hl : len ≤ 400) {p : Nat} (hp : p < 2 ^ 31) (h : Q (some (.int (zca T len p))) I L R) : P 42 0 [.ref 3, .int (nI p)] [] I L R Q := by
  refine r_il hP c42_0 rfl ?_
  refine r_iflt hP c42_1 (fun h1 => absurd h1 (nI_pos (by omega))) (fun h1 => ?_)
  refine r_il hP c42_4 rfl ?_
  refine r_al hP c42_5 rfl ?_
  refine r_gI (x := nI len) hP c42_6 (zj3 hK) hT.1 ?_
  refine r_ige hP c42_9 (fun h9 => ?_) (fun h9 => ?_)
  · have hlt : ¬ p < len := by
      have := (nI_leI (by omega) (by omega)).mp h9
      omega
    refine r_ic hP c42_25 ?_
    exact r_irE hP c42_26 h (by first | (rw [zca, if_pos hlt]; done) | (rw [zca, if_neg hlt]; done))
  · have hlt : p < len := by
      have := (not_congr (nI_leI (by omega) (by omega))).mp h9
      omega
    refine r_al hP c42_12 rfl ?_
    refine r_gR (x := 4) hP c42_13 (zj3 hK) (zr3_0 hR) ?_
    refine r_il hP c42_16 rfl ?_
    refine r_iald (j := p) (x := I 4 p) hP c42_17 (zk4 hK) rfl (by omega) rfl ?_
    refine r_ic hP c42_18 ?_
    refine r_iand hP c42_21 ?_
    refine r_ti (y := nI (T p)) (hT.2 p hlt) ?_
    refine r_goto hP c42_22 ?_
    exact r_irE hP c42_26 h (by first | (rw [zca, if_pos hlt]; done) | (rw [zca, if_neg hlt]; done))
set_option maxRecDepth 4000 in
theorem x_append_l {K : ZKh} {P : Nat → Nat → List Value → List Value → ZMi → ZMl → ZMr → ZRt → Prop} {I : ZMi} {L : ZMl} {R : ZMr} {Q : ZRt} (hP : ZCl K P) (hK : zKa K) (hR : zRa R) {len : Nat} {T : Nat → Nat} (hT : zTx I len T) (hl : len ≤ 400) {n : Nat} {v : Int64} (hn : n ≤ 8) (hr : len + n ≤ 400) (h : ∀ I2, zfT I I2 → zTx I2 (len + n) (zTa T len n v) → Q none I2 L R) : ∀ d, d ≤ n → ∀ (I1 : ZMi), zfT I I1 ∧ zTx I1 (len + d) (zTa T len n v) → P 41 5 [.ref 3, .int (nI n), .long v, .null, .int (nI (n - d) - 1)] [] I1 L R Q := by
  refine zloop n (fun d => ∀ (I1 : ZMi), zfT I I1 ∧ zTx I1 (len + d) (zTa T len n v) → P 41 5 [.ref 3, .int (nI n), .long v, .null, .int (nI (n - d) - 1)] [] I1 L R Q) ?_
  intro d hle ih I1 hacc
  refine r_il hP c41_5 rfl ?_
  refine r_iflt hP c41_7 (fun h7 => ?_) (fun h7 => ?_)
  · have he : d = n := by
      rcases Nat.lt_or_ge d n with q | q
      · rw [zdn q (by omega)] at h7; exact absurd h7 (nI_pos (by omega))
      · omega
    subst he
    exact r_vr hP c41_54 (h _ hacc.1 hacc.2)
  · have hlt : d < n := by
      rcases Nat.lt_or_ge d n with q | q
      · exact q
      · exact absurd (by rw [show n - d = 0 from by omega]; decide) h7
    refine r_al hP c41_10 rfl ?_
    refine r_gI (x := nI (len + d)) hP c41_11 (zj3 hK) hacc.2.1 ?_
    refine r_ic hP c41_14 ?_
    refine r_ige hP c41_17 (fun h17 => absurd h17 (nI_ge (b := 400) (by omega) (by decide))) (fun h17 => ?_)
    refine r_al hP c41_20 rfl ?_
    refine r_gR (x := 4) hP c41_21 (zj3 hK) (zr3_0 hR) ?_
    refine r_al hP c41_24 rfl ?_
    refine r_gI (x := nI (len + d)) hP c41_25 (zj3 hK) hacc.2.1 ?_
    refine r_ll hP c41_28 rfl ?_
    refine r_ic hP c41_29 ?_
    refine r_il hP c41_31 rfl ?_
    refine r_imul hP c41_33 ?_
    refine r_ti (y := 8 * nI (n - 1 - d)) (congrArg (fun z : Int32 => 8 * z) (zdn hlt (by omega))) ?_
    refine r_lushr hP c41_34 ?_
    refine r_l2i hP c41_35 ?_
    refine r_i2b hP c41_36 ?_
    refine r_bast (j := len + d) hP c41_37 (zk4 hK) rfl (by omega) ?_
    refine r_al hP c41_38 rfl ?_
    refine r_dup hP c41_39 rfl ?_
    refine r_gI (x := nI (len + d)) hP c41_40 (zj3 hK) ((zup_n _ _ _ _ (by omega)).trans hacc.2.1) ?_
    refine r_ic hP c41_43 ?_
    refine r_iadd hP c41_44 ?_
    refine r_ti (y := nI (len + d + 1)) (nI_1 _) ?_
    refine r_pI hP c41_45 (zj3 hK) ?_
    refine r_inc (y := nI (n - (d + 1)) - 1) (ls' := [.ref 3, .int (nI n), .long v, .null, .int (nI (n - (d + 1)) - 1)]) hP c41_48 rfl (by rw [zdn hlt (by omega)]; exact zdm hlt (by omega)) rfl ?_
    refine r_goto hP c41_51 ?_
    exact ih hlt _ (zTa_up (zby_c v (n - 1 - d) (by omega)) hacc)
set_option maxRecDepth 4000 in
theorem x_append {K : ZKh} {P : Nat → Nat → List Value → List Value → ZMi → ZMl → ZMr → ZRt → Prop} {I : ZMi} {L : ZMl} {R : ZMr} {Q : ZRt} (hP : ZCl K P) (hK : zKa K) (hR : zRa R) {len : Nat} {T : Nat → Nat} (hT : zTx I len T) (hl : len ≤ 400) {n : Nat} {v : Int64} (hn : n ≤ 8) (hr : len + n ≤ 400) (h : ∀ I2, zfT I I2 → zTx I2 (len + n) (zTa T len n v) → Q none I2 L R) : P 41 0 [.ref 3, .int (nI n), .long v, .null, .null] [] I L R Q := by
  refine r_il hP c41_0 rfl ?_
  refine r_ic hP c41_1 ?_
  refine r_isub hP c41_2 ?_
  refine r_is (ls' := [.ref 3, .int (nI n), .long v, .null, .int ((nI n) - 1)]) hP c41_3 (Nat.le_of_ble_eq_true rfl) rfl ?_
  exact x_append_l hP hK hR hT hl hn hr h 0 (Nat.zero_le _) _ ⟨fun _ _ _ _ => rfl, hT.1, fun i hi => by rw [zTa, if_pos (by omega)]; exact hT.2 i (by omega)⟩
abbrev zwc (len : Nat) (n : Int32) : Prop := (1 ≤ n ∧ n ≤ 8) ∧ len + n.toNatClampNeg ≤ 400
def zwn (len : Nat) (n : Int32) : Nat := if zwc len n then len + n.toNatClampNeg else len
def zwT (T : Nat → Nat) (len : Nat) (n : Int32) (v : Int64) : Nat → Nat := if zwc len n then zTa T len n.toNatClampNeg v else T
def f_write (len : Nat) (n : Int32) : Int32 := if 1 ≤ n ∧ n ≤ 8 then (if len + n.toNatClampNeg ≤ 400 then nI (len + n.toNatClampNeg) else -3) else -1
set_option maxRecDepth 4000 in
theorem x_write {K : ZKh} {P : Nat → Nat → List Value → List Value → ZMi → ZMl → ZMr → ZRt → Prop} {I : ZMi} {L : ZMl} {R : ZMr} {Q : ZRt} (hP : ZCl K P) (hK : zKa K) (hR : zRa R) {len : Nat} {T : Nat → Nat} (hT : zTx I len T) (hl : len ≤ 400) {n0 : Int32} {v : Int64} (h : ∀ I2, zfT I I2 → zTx I2 (zwn len n0) (zwT T len n0 v) → Q (some (.int (f_write len n0))) I2 L R) : P 70 0 [.ref 2, .int n0, .long v, .null] [] I L R Q := by
  refine r_il hP c70_0 rfl ?_
  refine r_ic hP c70_1 ?_
  refine r_ic hP c70_2 ?_
  refine r_cSi (as := [.int n0, .int 1, .int 8]) (r := []) (I' := I) (L' := L) (R' := R) (x := if 1 ≤ n0 ∧ n0 ≤ 8 then 1 else 0) hP c70_4 rfl rfl (fun _ h2 => x_within hP h2) ?_
  refine r_ifneB hP c70_7 (fun h7 => ?_) (fun h7 => ?_)
  · obtain ⟨n, hn, rfl⟩ := zb_nI (n := 8) rfl (by decide) ⟨Int32.le_trans (by decide : (0 : Int32) ≤ 1) h7.1, h7.2⟩
    refine r_al hP c70_12 rfl ?_
    refine r_gR (x := 3) hP c70_13 (zj2 hK) (zr2_0 hR) ?_
    refine r_il hP c70_16 rfl ?_
    refine r_cVi (as := [.int (nI n)]) (r := []) (I' := I) (L' := L) (R' := R) (x := if len + n ≤ 400 then 1 else 0) (a := 3) hP c70_17 rfl (zj3 hK) rfl (fun _ hq => x_hasRoom hP hK hR hT hl hn hq) ?_
    refine r_ifneB hP c70_20 (fun h20 => ?_) (fun h20 => ?_)
    · refine r_al hP c70_26 rfl ?_
      refine r_gR (x := 3) hP c70_27 (zj2 hK) (zr2_0 hR) ?_
      refine r_il hP c70_30 rfl ?_
      refine r_ll hP c70_31 rfl ?_
      refine r_cVvp (as := [.int (nI n), .long v]) (r := []) (a := 3) hP c70_32 rfl (zj3 hK) rfl (fun I2 L2 R2 => (zfT I I2 ∧ zTx I2 (len + n) (zTa T len n v)) ∧ L = L2 ∧ R = R2) (fun Q2 hq => x_append hP hK hR hT hl hn h20 (fun I2 h1 h2 => hq I2 L R ⟨⟨h1, h2⟩, rfl, rfl⟩)) ?_
      rintro I2 L2 R2 ⟨⟨h1, h2⟩, rfl, rfl⟩
      refine r_al hP c70_35 rfl ?_
      refine r_gR (x := 3) hP c70_36 (zj2 hK) (zr2_0 hR) ?_
      refine r_gI (x := nI (len + n)) hP c70_39 (zj3 hK) h2.1 ?_
      have hc : zwc len (nI n) := ⟨h7, by rw [nI_clamp (by omega)]; exact h20⟩
      exact r_irE hP c70_42 (h _ h1 (by rw [zwn, zwT, if_pos hc, if_pos hc, nI_clamp (by omega)]; exact h2)) (by rw [f_write, if_pos h7, nI_clamp (by omega), if_pos h20])
    · refine r_ic hP c70_23 ?_
      have hc : ¬ zwc len (nI n) := fun q => h20 (by have := q.2; rw [nI_clamp (by omega)] at this; exact this)
      exact r_irE hP c70_25 (h _ (fun _ _ _ _ => rfl) (by rw [zwn, zwT, if_neg hc, if_neg hc]; exact hT)) (by rw [f_write, if_pos h7, nI_clamp (by omega), if_neg h20])
  · refine r_ic hP c70_10 ?_
    have hc : ¬ zwc len n0 := fun q => h7 q.1
    exact r_irE hP c70_11 (h _ (fun _ _ _ _ => rfl) (by rw [zwn, zwT, if_neg hc, if_neg hc]; exact hT)) (by rw [f_write, if_neg h7])
set_option maxRecDepth 4000 in
theorem x_wipe {K : ZKh} {P : Nat → Nat → List Value → List Value → ZMi → ZMl → ZMr → ZRt → Prop} {I : ZMi} {L : ZMl} {R : ZMr} {Q : ZRt} (hP : ZCl K P) (hK : zKa K) (hR : zRa R) {len : Nat} {T : Nat → Nat} (hT : zTx I len T) (hl : len ≤ 400) (h : ∀ I2, zfT I I2 → zTx I2 0 T → Q (some (.int (nI len))) I2 L R) : P 71 0 [.ref 2, .null] [] I L R Q := by
  refine r_al hP c71_0 rfl ?_
  refine r_gR (x := 3) hP c71_1 (zj2 hK) (zr2_0 hR) ?_
  refine r_gI (x := nI len) hP c71_4 (zj3 hK) hT.1 ?_
  refine r_is (ls' := [.ref 2, .int (nI len)]) hP c71_7 (Nat.le_of_ble_eq_true rfl) rfl ?_
  refine r_al hP c71_8 rfl ?_
  refine r_gR (x := 3) hP c71_9 (zj2 hK) (zr2_0 hR) ?_
  refine r_ic hP c71_12 ?_
  refine r_pI hP c71_13 (zj3 hK) ?_
  refine r_il hP c71_16 rfl ?_
  exact r_irE hP c71_17 (h _ (fun a k q1 q2 => zup_n _ _ _ _ q2) ⟨zup_s _ _ _ _, fun i hi => absurd hi (Nat.not_lt_zero i)⟩) rfl
def f_count (nS nP len na kp : Nat) (x : Int32) : Int32 := if x = 0 then nI nS else if x = 1 then nI nP else if x = 2 then nI len else if x = 3 then nI na else if x = 4 then nI kp else -1
set_option maxRecDepth 4000 in
theorem x_count {K : ZKh} {P : Nat → Nat → List Value → List Value → ZMi → ZMl → ZMr → ZRt → Prop} {I : ZMi} {L : ZMl} {R : ZMr} {Q : ZRt} (hP : ZCl K P) {w nS nP nW : Nat} {S : ZS} (hK : zKa K) (hR : zRa R) (hw : zisW w) (hC : zC I w S nS nP nW) (hp8 : nP ≤ 8) (hs6 : nS ≤ 6) (hw6 : nW ≤ 6) (hl9 : R 2 9 = w + 1) {len na kp : Nat} {T : Nat → Nat} {A : ZA} (hT : zTx I len T) (hA : zAn I 16 na A) (hkp : I 2 11 = nI kp) {x : Int32} (h : Q (some (.int (f_count nS nP len na kp x))) I L R) : P 97 0 [.ref 2, .int x] [] I L R Q := by
  refine r_il hP c97_0 rfl ?_
  refine r_sw hP c97_1 ?_
  refine zsw_c (fun h1_0 => ?_) (fun h1_0 => ?_)
  · refine r_al hP c97_36 rfl ?_
    refine r_gR (x := w) hP c97_37 (zj2 hK) hl9 ?_
    refine r_gI (x := nI nS) hP c97_40 (zj_W hK hw) (zC_s hC) ?_
    exact r_irE hP c97_43 h (by subst_vars; rfl)
  refine zsw_c (fun h1_1 => ?_) (fun h1_1 => ?_)
  · refine r_al hP c97_44 rfl ?_
    refine r_gR (x := w) hP c97_45 (zj2 hK) hl9 ?_
    refine r_gI (x := nI nP) hP c97_48 (zj_W hK hw) (zC_p hC) ?_
    exact r_irE hP c97_51 h (by subst_vars; rfl)
  refine zsw_c (fun h1_2 => ?_) (fun h1_2 => ?_)
  · refine r_al hP c97_52 rfl ?_
    refine r_gR (x := 3) hP c97_53 (zj2 hK) (zr2_0 hR) ?_
    refine r_gI (x := nI len) hP c97_56 (zj3 hK) hT.1 ?_
    exact r_irE hP c97_59 h (by subst_vars; rfl)
  refine zsw_c (fun h1_3 => ?_) (fun h1_3 => ?_)
  · refine r_al hP c97_60 rfl ?_
    refine r_gR (x := 16) hP c97_61 (zj2 hK) (zr2_3 hR) ?_
    refine r_gI (x := nI na) hP c97_64 (zj16 hK) hA.1 ?_
    exact r_irE hP c97_67 h (by subst_vars; rfl)
  refine zsw_c (fun h1_4 => ?_) (fun h1_4 => ?_)
  · refine r_al hP c97_68 rfl ?_
    refine r_gI (x := nI kp) hP c97_69 (zj2 hK) hkp ?_
    exact r_irE hP c97_72 h (by subst_vars; rfl)
  refine zsw_n ?_
  refine r_ic hP c97_73 ?_
  exact r_irE hP c97_74 h (by rw [f_count, if_neg h1_0, if_neg h1_1, if_neg h1_2, if_neg h1_3, if_neg h1_4])
