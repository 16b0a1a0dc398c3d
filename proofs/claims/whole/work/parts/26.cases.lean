/-! ===== the possible states ===== -/
def zbc (st : Nat) : Nat := ((List.range 8).filter (fun p => st.testBit p)).length
def zwp (S : ZS) (nP st : Nat) : Bool := decide (zbc st ≤ 2) && decide (0 < zwt S st nP)
def zall (S : ZS) (nP : Nat) : List Nat := (List.range (2 ^ nP)).filter (zwp S nP)
def zsw_ (S : ZS) (nP : Nat) (cs : List Nat) : Int64 := cs.foldl (fun a c => a + zwt S c nP) 0
theorem zsw_app (S : ZS) (nP : Nat) (cs : List Nat) (c : Nat) : zsw_ S nP (cs ++ [c]) = zsw_ S nP cs + zwt S c nP := by simp [zsw_, List.foldl_append]
theorem z37 : ∀ n, n ≤ 8 → ((List.range (2 ^ n)).filter (fun st => decide (zbc st ≤ 2))).length ≤ 37 := by decide +kernel
theorem z37l (S : ZS) {nP i : Nat} (hp8 : nP ≤ 8) (hi : i ≤ 2 ^ nP) : ((List.range i).filter (zwp S nP)).length ≤ 37 := by
  have h1 : ((List.range i).filter (zwp S nP)).length ≤ ((List.range i).filter (fun st => decide (zbc st ≤ 2))).length := by
    have e : (List.range i).filter (zwp S nP) = ((List.range i).filter (fun st => decide (zbc st ≤ 2))).filter (fun st => decide (0 < zwt S st nP)) := by
      rw [List.filter_filter]
      congr 1
      funext st
      simp [zwp, Bool.and_comm]
    rw [e]
    exact List.length_filter_le _ _
  have h2 : ((List.range i).filter (fun st => decide (zbc st ≤ 2))).length ≤ ((List.range (2 ^ nP)).filter (fun st => decide (zbc st ≤ 2))).length := by
    have e : List.range (2 ^ nP) = List.range i ++ (List.range (2 ^ nP - i)).map (i + ·) := by
      rw [← List.range_add]
      congr 1
      omega
    rw [e, List.filter_append, List.length_append]
    exact Nat.le_add_right _ _
  exact Nat.le_trans h1 (Nat.le_trans h2 (z37 nP hp8))
/-- the class's list of cases -/
def zCs (I : ZMi) (L : ZMl) (S : ZS) (nP : Nat) (cs : List Nat) : Prop := I 31 2 = nI cs.length ∧ (∀ i, i < cs.length → I 32 i = nI (cs.getD i 0) ∧ L 33 i = zwt S (cs.getD i 0) nP) ∧ L 31 3 = zsw_ S nP cs
def zfc (I I' : ZMi) : Prop := ∀ a, ¬ (9 ≤ a ∧ a < 16) → a ≠ 31 → a ≠ 32 → ∀ k, I' a k = I a k
def zfl_ (L L' : ZMl) : Prop := ∀ a, a ≠ 31 → a ≠ 33 → ∀ k, L' a k = L a k
theorem zfc_r (I : ZMi) : zfc I I := fun _ _ _ _ _ => rfl
theorem zfl_r (L : ZMl) : zfl_ L L := fun _ _ _ _ => rfl
theorem zfc_t {I I' I2 : ZMi} (h : zfc I I') (h2 : zfc I' I2) : zfc I I2 := fun b h3 h4 h5 j => (h2 b h3 h4 h5 j).trans (h b h3 h4 h5 j)
theorem zfl_t {L L' L2 : ZMl} (h : zfl_ L L') (h2 : zfl_ L' L2) : zfl_ L L2 := fun b h3 h4 j => (h2 b h3 h4 j).trans (h b h3 h4 j)
theorem zfc_b {I I' : ZMi} (h : zfr I I') : zfc I I' := fun a h1 _ _ k => h a h1 k
theorem zfc_u {I I' : ZMi} (h : zfc I I') {a k : Nat} {x : Int32} (ha : a = 31 ∨ a = 32) : zfc I (zup I' a k x) := fun b h1 h2 h3 j => by
  rw [zup_na _ _ _ _ (by rcases ha with q | q <;> rw [q] <;> assumption)]
  exact h b h1 h2 h3 j
theorem zfl_u {L L' : ZMl} (h : zfl_ L L') {a k : Nat} {x : Int64} (ha : a = 31 ∨ a = 33) : zfl_ L (zup L' a k x) := fun b h1 h2 j => by
  rw [zup_na _ _ _ _ (by rcases ha with q | q <;> rw [q] <;> assumption)]
  exact h b h1 h2 j
theorem zC_fc {I I' : ZMi} {w : Nat} {S : ZS} {nS nP nW : Nat} (h : zC I w S nS nP nW) (hf : zfc I I') (hw : zisW w) (hs6 : nS ≤ 6) (hp8 : nP ≤ 8) (hw6 : nW ≤ 6) : zC I' w S nS nP nW := zC_to h (fun a h1 h2 k => hf a (by have := zW39 hw; omega) (by have := zW39 hw; omega) (by have := zW39 hw; omega) k) hs6 hp8 hw6
theorem zCs_add {I : ZMi} {L : ZMl} {S : ZS} {nP : Nat} {cs : List Nat} (h : zCs I L S nP cs) (st : Nat) : zCs (zup (zup I 32 cs.length (nI st)) 31 2 (nI (cs.length + 1))) (zup (zup L 33 cs.length (zwt S st nP)) 31 3 (zsw_ S nP cs + zwt S st nP)) S nP (cs ++ [st]) := by
  refine ⟨by rw [zup_s, List.length_append]; rfl, fun i hi => ?_, by rw [zup_s, zsw_app]⟩
  have hi : i < cs.length + 1 := by rw [List.length_append] at hi; exact hi
  have hI : ∀ (f : ZMi) (x : Int32) (k : Nat), zup f 31 2 x 32 k = f 32 k := fun f x k => zup_na _ _ _ _ (by decide)
  have hL : ∀ (f : ZMl) (x : Int64) (k : Nat), zup f 31 3 x 33 k = f 33 k := fun f x k => zup_na _ _ _ _ (by decide)
  rw [hI, hL]
  by_cases e : i = cs.length
  · subst e
    rw [zup_s, zup_s]
    simp
  · rw [zup_nk _ _ _ _ e, zup_nk _ _ _ _ e]
    have hl : i < cs.length := by omega
    have e2 : (cs ++ [st]).getD i 0 = cs.getD i 0 := by simp [List.getD, List.getElem?_append_left hl]
    rw [e2]
    exact h.2.1 i hl
theorem zbc_c : ∀ st, st < 256 → (((((((((nI st) - ((((nI st).toUInt32 >>> ((1 : Int32).toUInt32 &&& Int32.toUInt32 31)).toInt32) &&& 1431655765)) &&& 858993459) + (((((nI st) - ((((nI st).toUInt32 >>> ((1 : Int32).toUInt32 &&& Int32.toUInt32 31)).toInt32) &&& 1431655765)).toUInt32 >>> ((2 : Int32).toUInt32 &&& Int32.toUInt32 31)).toInt32) &&& 858993459)) + ((((((nI st) - ((((nI st).toUInt32 >>> ((1 : Int32).toUInt32 &&& Int32.toUInt32 31)).toInt32) &&& 1431655765)) &&& 858993459) + (((((nI st) - ((((nI st).toUInt32 >>> ((1 : Int32).toUInt32 &&& Int32.toUInt32 31)).toInt32) &&& 1431655765)).toUInt32 >>> ((2 : Int32).toUInt32 &&& Int32.toUInt32 31)).toInt32) &&& 858993459)).toUInt32 >>> ((4 : Int32).toUInt32 &&& Int32.toUInt32 31)).toInt32)) &&& 252645135) + ((((((((nI st) - ((((nI st).toUInt32 >>> ((1 : Int32).toUInt32 &&& Int32.toUInt32 31)).toInt32) &&& 1431655765)) &&& 858993459) + (((((nI st) - ((((nI st).toUInt32 >>> ((1 : Int32).toUInt32 &&& Int32.toUInt32 31)).toInt32) &&& 1431655765)).toUInt32 >>> ((2 : Int32).toUInt32 &&& Int32.toUInt32 31)).toInt32) &&& 858993459)) + ((((((nI st) - ((((nI st).toUInt32 >>> ((1 : Int32).toUInt32 &&& Int32.toUInt32 31)).toInt32) &&& 1431655765)) &&& 858993459) + (((((nI st) - ((((nI st).toUInt32 >>> ((1 : Int32).toUInt32 &&& Int32.toUInt32 31)).toInt32) &&& 1431655765)).toUInt32 >>> ((2 : Int32).toUInt32 &&& Int32.toUInt32 31)).toInt32) &&& 858993459)).toUInt32 >>> ((4 : Int32).toUInt32 &&& Int32.toUInt32 31)).toInt32)) &&& 252645135).toUInt32 >>> ((8 : Int32).toUInt32 &&& Int32.toUInt32 31)).toInt32)) + (((((((((nI st) - ((((nI st).toUInt32 >>> ((1 : Int32).toUInt32 &&& Int32.toUInt32 31)).toInt32) &&& 1431655765)) &&& 858993459) + (((((nI st) - ((((nI st).toUInt32 >>> ((1 : Int32).toUInt32 &&& Int32.toUInt32 31)).toInt32) &&& 1431655765)).toUInt32 >>> ((2 : Int32).toUInt32 &&& Int32.toUInt32 31)).toInt32) &&& 858993459)) + ((((((nI st) - ((((nI st).toUInt32 >>> ((1 : Int32).toUInt32 &&& Int32.toUInt32 31)).toInt32) &&& 1431655765)) &&& 858993459) + (((((nI st) - ((((nI st).toUInt32 >>> ((1 : Int32).toUInt32 &&& Int32.toUInt32 31)).toInt32) &&& 1431655765)).toUInt32 >>> ((2 : Int32).toUInt32 &&& Int32.toUInt32 31)).toInt32) &&& 858993459)).toUInt32 >>> ((4 : Int32).toUInt32 &&& Int32.toUInt32 31)).toInt32)) &&& 252645135) + ((((((((nI st) - ((((nI st).toUInt32 >>> ((1 : Int32).toUInt32 &&& Int32.toUInt32 31)).toInt32) &&& 1431655765)) &&& 858993459) + (((((nI st) - ((((nI st).toUInt32 >>> ((1 : Int32).toUInt32 &&& Int32.toUInt32 31)).toInt32) &&& 1431655765)).toUInt32 >>> ((2 : Int32).toUInt32 &&& Int32.toUInt32 31)).toInt32) &&& 858993459)) + ((((((nI st) - ((((nI st).toUInt32 >>> ((1 : Int32).toUInt32 &&& Int32.toUInt32 31)).toInt32) &&& 1431655765)) &&& 858993459) + (((((nI st) - ((((nI st).toUInt32 >>> ((1 : Int32).toUInt32 &&& Int32.toUInt32 31)).toInt32) &&& 1431655765)).toUInt32 >>> ((2 : Int32).toUInt32 &&& Int32.toUInt32 31)).toInt32) &&& 858993459)).toUInt32 >>> ((4 : Int32).toUInt32 &&& Int32.toUInt32 31)).toInt32)) &&& 252645135).toUInt32 >>> ((8 : Int32).toUInt32 &&& Int32.toUInt32 31)).toInt32)).toUInt32 >>> ((16 : Int32).toUInt32 &&& Int32.toUInt32 31)).toInt32)) &&& 63 : Int32) = nI (zbc st) := by decide +kernel
set_option maxRecDepth 4000 in
theorem x_bitCount {K : ZKh} {P : Nat → Nat → List Value → List Value → ZMi → ZMl → ZMr → ZRt → Prop} {I : ZMi} {L : ZMl} {R : ZMr} {Q : ZRt} (hP : ZCl K P) {st : Nat} (hst : st < 256) (h : Q (some (.int (nI (zbc st)))) I L R) : P 175 0 [.int (nI st)] [] I L R Q := by
  refine r_il hP c175_0 rfl ?_
  refine r_il hP c175_1 rfl ?_
  refine r_ic hP c175_2 ?_
  refine r_iushr hP c175_3 ?_
  refine r_ic hP c175_4 ?_
  refine r_iand hP c175_7 ?_
  refine r_isub hP c175_8 ?_
  refine r_is (ls' := [.int ((nI st) - ((((nI st).toUInt32 >>> ((1 : Int32).toUInt32 &&& Int32.toUInt32 31)).toInt32) &&& 1431655765))]) hP c175_9 (Nat.le_of_ble_eq_true rfl) rfl ?_
  refine r_il hP c175_10 rfl ?_
  refine r_ic hP c175_11 ?_
  refine r_iand hP c175_14 ?_
  refine r_il hP c175_15 rfl ?_
  refine r_ic hP c175_16 ?_
  refine r_iushr hP c175_17 ?_
  refine r_ic hP c175_18 ?_
  refine r_iand hP c175_21 ?_
  refine r_iadd hP c175_22 ?_
  refine r_is (ls' := [.int ((((nI st) - ((((nI st).toUInt32 >>> ((1 : Int32).toUInt32 &&& Int32.toUInt32 31)).toInt32) &&& 1431655765)) &&& 858993459) + (((((nI st) - ((((nI st).toUInt32 >>> ((1 : Int32).toUInt32 &&& Int32.toUInt32 31)).toInt32) &&& 1431655765)).toUInt32 >>> ((2 : Int32).toUInt32 &&& Int32.toUInt32 31)).toInt32) &&& 858993459))]) hP c175_23 (Nat.le_of_ble_eq_true rfl) rfl ?_
  refine r_il hP c175_24 rfl ?_
  refine r_il hP c175_25 rfl ?_
  refine r_ic hP c175_26 ?_
  refine r_iushr hP c175_27 ?_
  refine r_iadd hP c175_28 ?_
  refine r_ic hP c175_29 ?_
  refine r_iand hP c175_32 ?_
  refine r_is (ls' := [.int ((((((nI st) - ((((nI st).toUInt32 >>> ((1 : Int32).toUInt32 &&& Int32.toUInt32 31)).toInt32) &&& 1431655765)) &&& 858993459) + (((((nI st) - ((((nI st).toUInt32 >>> ((1 : Int32).toUInt32 &&& Int32.toUInt32 31)).toInt32) &&& 1431655765)).toUInt32 >>> ((2 : Int32).toUInt32 &&& Int32.toUInt32 31)).toInt32) &&& 858993459)) + ((((((nI st) - ((((nI st).toUInt32 >>> ((1 : Int32).toUInt32 &&& Int32.toUInt32 31)).toInt32) &&& 1431655765)) &&& 858993459) + (((((nI st) - ((((nI st).toUInt32 >>> ((1 : Int32).toUInt32 &&& Int32.toUInt32 31)).toInt32) &&& 1431655765)).toUInt32 >>> ((2 : Int32).toUInt32 &&& Int32.toUInt32 31)).toInt32) &&& 858993459)).toUInt32 >>> ((4 : Int32).toUInt32 &&& Int32.toUInt32 31)).toInt32)) &&& 252645135)]) hP c175_33 (Nat.le_of_ble_eq_true rfl) rfl ?_
  refine r_il hP c175_34 rfl ?_
  refine r_il hP c175_35 rfl ?_
  refine r_ic hP c175_36 ?_
  refine r_iushr hP c175_38 ?_
  refine r_iadd hP c175_39 ?_
  refine r_is (ls' := [.int (((((((nI st) - ((((nI st).toUInt32 >>> ((1 : Int32).toUInt32 &&& Int32.toUInt32 31)).toInt32) &&& 1431655765)) &&& 858993459) + (((((nI st) - ((((nI st).toUInt32 >>> ((1 : Int32).toUInt32 &&& Int32.toUInt32 31)).toInt32) &&& 1431655765)).toUInt32 >>> ((2 : Int32).toUInt32 &&& Int32.toUInt32 31)).toInt32) &&& 858993459)) + ((((((nI st) - ((((nI st).toUInt32 >>> ((1 : Int32).toUInt32 &&& Int32.toUInt32 31)).toInt32) &&& 1431655765)) &&& 858993459) + (((((nI st) - ((((nI st).toUInt32 >>> ((1 : Int32).toUInt32 &&& Int32.toUInt32 31)).toInt32) &&& 1431655765)).toUInt32 >>> ((2 : Int32).toUInt32 &&& Int32.toUInt32 31)).toInt32) &&& 858993459)).toUInt32 >>> ((4 : Int32).toUInt32 &&& Int32.toUInt32 31)).toInt32)) &&& 252645135) + ((((((((nI st) - ((((nI st).toUInt32 >>> ((1 : Int32).toUInt32 &&& Int32.toUInt32 31)).toInt32) &&& 1431655765)) &&& 858993459) + (((((nI st) - ((((nI st).toUInt32 >>> ((1 : Int32).toUInt32 &&& Int32.toUInt32 31)).toInt32) &&& 1431655765)).toUInt32 >>> ((2 : Int32).toUInt32 &&& Int32.toUInt32 31)).toInt32) &&& 858993459)) + ((((((nI st) - ((((nI st).toUInt32 >>> ((1 : Int32).toUInt32 &&& Int32.toUInt32 31)).toInt32) &&& 1431655765)) &&& 858993459) + (((((nI st) - ((((nI st).toUInt32 >>> ((1 : Int32).toUInt32 &&& Int32.toUInt32 31)).toInt32) &&& 1431655765)).toUInt32 >>> ((2 : Int32).toUInt32 &&& Int32.toUInt32 31)).toInt32) &&& 858993459)).toUInt32 >>> ((4 : Int32).toUInt32 &&& Int32.toUInt32 31)).toInt32)) &&& 252645135).toUInt32 >>> ((8 : Int32).toUInt32 &&& Int32.toUInt32 31)).toInt32))]) hP c175_40 (Nat.le_of_ble_eq_true rfl) rfl ?_
  refine r_il hP c175_41 rfl ?_
  refine r_il hP c175_42 rfl ?_
  refine r_ic hP c175_43 ?_
  refine r_iushr hP c175_45 ?_
  refine r_iadd hP c175_46 ?_
  refine r_is (ls' := [.int ((((((((nI st) - ((((nI st).toUInt32 >>> ((1 : Int32).toUInt32 &&& Int32.toUInt32 31)).toInt32) &&& 1431655765)) &&& 858993459) + (((((nI st) - ((((nI st).toUInt32 >>> ((1 : Int32).toUInt32 &&& Int32.toUInt32 31)).toInt32) &&& 1431655765)).toUInt32 >>> ((2 : Int32).toUInt32 &&& Int32.toUInt32 31)).toInt32) &&& 858993459)) + ((((((nI st) - ((((nI st).toUInt32 >>> ((1 : Int32).toUInt32 &&& Int32.toUInt32 31)).toInt32) &&& 1431655765)) &&& 858993459) + (((((nI st) - ((((nI st).toUInt32 >>> ((1 : Int32).toUInt32 &&& Int32.toUInt32 31)).toInt32) &&& 1431655765)).toUInt32 >>> ((2 : Int32).toUInt32 &&& Int32.toUInt32 31)).toInt32) &&& 858993459)).toUInt32 >>> ((4 : Int32).toUInt32 &&& Int32.toUInt32 31)).toInt32)) &&& 252645135) + ((((((((nI st) - ((((nI st).toUInt32 >>> ((1 : Int32).toUInt32 &&& Int32.toUInt32 31)).toInt32) &&& 1431655765)) &&& 858993459) + (((((nI st) - ((((nI st).toUInt32 >>> ((1 : Int32).toUInt32 &&& Int32.toUInt32 31)).toInt32) &&& 1431655765)).toUInt32 >>> ((2 : Int32).toUInt32 &&& Int32.toUInt32 31)).toInt32) &&& 858993459)) + ((((((nI st) - ((((nI st).toUInt32 >>> ((1 : Int32).toUInt32 &&& Int32.toUInt32 31)).toInt32) &&& 1431655765)) &&& 858993459) + (((((nI st) - ((((nI st).toUInt32 >>> ((1 : Int32).toUInt32 &&& Int32.toUInt32 31)).toInt32) &&& 1431655765)).toUInt32 >>> ((2 : Int32).toUInt32 &&& Int32.toUInt32 31)).toInt32) &&& 858993459)).toUInt32 >>> ((4 : Int32).toUInt32 &&& Int32.toUInt32 31)).toInt32)) &&& 252645135).toUInt32 >>> ((8 : Int32).toUInt32 &&& Int32.toUInt32 31)).toInt32)) + (((((((((nI st) - ((((nI st).toUInt32 >>> ((1 : Int32).toUInt32 &&& Int32.toUInt32 31)).toInt32) &&& 1431655765)) &&& 858993459) + (((((nI st) - ((((nI st).toUInt32 >>> ((1 : Int32).toUInt32 &&& Int32.toUInt32 31)).toInt32) &&& 1431655765)).toUInt32 >>> ((2 : Int32).toUInt32 &&& Int32.toUInt32 31)).toInt32) &&& 858993459)) + ((((((nI st) - ((((nI st).toUInt32 >>> ((1 : Int32).toUInt32 &&& Int32.toUInt32 31)).toInt32) &&& 1431655765)) &&& 858993459) + (((((nI st) - ((((nI st).toUInt32 >>> ((1 : Int32).toUInt32 &&& Int32.toUInt32 31)).toInt32) &&& 1431655765)).toUInt32 >>> ((2 : Int32).toUInt32 &&& Int32.toUInt32 31)).toInt32) &&& 858993459)).toUInt32 >>> ((4 : Int32).toUInt32 &&& Int32.toUInt32 31)).toInt32)) &&& 252645135) + ((((((((nI st) - ((((nI st).toUInt32 >>> ((1 : Int32).toUInt32 &&& Int32.toUInt32 31)).toInt32) &&& 1431655765)) &&& 858993459) + (((((nI st) - ((((nI st).toUInt32 >>> ((1 : Int32).toUInt32 &&& Int32.toUInt32 31)).toInt32) &&& 1431655765)).toUInt32 >>> ((2 : Int32).toUInt32 &&& Int32.toUInt32 31)).toInt32) &&& 858993459)) + ((((((nI st) - ((((nI st).toUInt32 >>> ((1 : Int32).toUInt32 &&& Int32.toUInt32 31)).toInt32) &&& 1431655765)) &&& 858993459) + (((((nI st) - ((((nI st).toUInt32 >>> ((1 : Int32).toUInt32 &&& Int32.toUInt32 31)).toInt32) &&& 1431655765)).toUInt32 >>> ((2 : Int32).toUInt32 &&& Int32.toUInt32 31)).toInt32) &&& 858993459)).toUInt32 >>> ((4 : Int32).toUInt32 &&& Int32.toUInt32 31)).toInt32)) &&& 252645135).toUInt32 >>> ((8 : Int32).toUInt32 &&& Int32.toUInt32 31)).toInt32)).toUInt32 >>> ((16 : Int32).toUInt32 &&& Int32.toUInt32 31)).toInt32))]) hP c175_47 (Nat.le_of_ble_eq_true rfl) rfl ?_
  refine r_il hP c175_48 rfl ?_
  refine r_ic hP c175_49 ?_
  refine r_iand hP c175_51 ?_
  exact r_irE hP c175_52 h (zbc_c st hst)
set_option maxRecDepth 4000 in
theorem x_cadd {K : ZKh} {P : Nat → Nat → List Value → List Value → ZMi → ZMl → ZMr → ZRt → Prop} {I : ZMi} {L : ZMl} {R : ZMr} {Q : ZRt} (hP : ZCl K P) {S : ZS} {nP st : Nat} {cs : List Nat} (hK : zKa K) (hR : zRa R) (hcs : zCs I L S nP cs) (hl : cs.length < 37) (hwp : 0 < zwt S st nP) (h : Q none (zup (zup I 32 cs.length (nI st)) 31 2 (nI (cs.length + 1))) (zup (zup L 33 cs.length (zwt S st nP)) 31 3 (zsw_ S nP cs + zwt S st nP)) R) : P 13 0 [.ref 31, .int (nI st), .long (zwt S st nP), .null] [] I L R Q := by
  refine r_ll hP c13_0 rfl ?_
  refine r_lc hP c13_1 ?_
  refine r_lcmp hP c13_2 ?_
  refine r_ifleL hP c13_3 (fun h3 => absurd h3 (Int64.not_le.mpr hwp)) (fun h3 => ?_)
  refine r_al hP c13_6 rfl ?_
  refine r_gI (x := nI cs.length) hP c13_7 (zj31 hK) hcs.1 ?_
  refine r_ic hP c13_10 ?_
  refine r_ige hP c13_12 (fun h12 => absurd h12 (by rw [show (37 : Int32) = nI 37 from rfl, nI_leI (by omega) (by omega)]; omega)) (fun h12 => ?_)
  refine r_al hP c13_15 rfl ?_
  refine r_gR (x := 32) hP c13_16 (zj31 hK) (zr31_0 hR) ?_
  refine r_al hP c13_19 rfl ?_
  refine r_gI (x := nI cs.length) hP c13_20 (zj31 hK) hcs.1 ?_
  refine r_il hP c13_23 rfl ?_
  refine r_iast (j := cs.length) hP c13_24 (zk32 hK) rfl (by omega) ?_
  refine r_al hP c13_25 rfl ?_
  refine r_gR (x := 33) hP c13_26 (zj31 hK) (zr31_1 hR) ?_
  refine r_al hP c13_29 rfl ?_
  refine r_gI (x := nI cs.length) hP c13_30 (zj31 hK) ((zup_n _ _ _ _ (by omega)).trans hcs.1) ?_
  refine r_ll hP c13_33 rfl ?_
  refine r_last (j := cs.length) hP c13_34 (zk33 hK) rfl (by omega) ?_
  refine r_al hP c13_35 rfl ?_
  refine r_dup hP c13_36 rfl ?_
  refine r_gI (x := nI cs.length) hP c13_37 (zj31 hK) ((zup_n _ _ _ _ (by omega)).trans hcs.1) ?_
  refine r_ic hP c13_40 ?_
  refine r_iadd hP c13_41 ?_
  refine r_ti (y := nI (cs.length + 1)) (nI_1 _) ?_
  refine r_pI hP c13_42 (zj31 hK) ?_
  refine r_al hP c13_45 rfl ?_
  refine r_dup hP c13_46 rfl ?_
  refine r_gL (x := zsw_ S nP cs) hP c13_47 (zj31 hK) ((zup_n _ _ _ _ (by omega)).trans hcs.2.2) ?_
  refine r_ll hP c13_50 rfl ?_
  refine r_ladd hP c13_51 ?_
  refine r_pL hP c13_52 (zj31 hK) ?_
  exact r_vr hP c13_55 (by exact h)
theorem x_caddW {K : ZKh} {P : Nat → Nat → List Value → List Value → ZMi → ZMl → ZMr → ZRt → Prop} {I : ZMi} {L : ZMl} {R : ZMr} {Q : ZRt} (hP : ZCl K P) {S : ZS} {nP st : Nat} {cs : List Nat} (hK : zKa K) (hR : zRa R) (hcs : zCs I L S nP cs) (hl : 0 < zwt S st nP → cs.length < 37) (h : ∀ I2 L2, zfc I I2 → zfl_ L L2 → zCs I2 L2 S nP (if 0 < zwt S st nP then cs ++ [st] else cs) → Q none I2 L2 R) : P 13 0 [.ref 31, .int (nI st), .long (zwt S st nP), .null] [] I L R Q := by
  by_cases hw : 0 < zwt S st nP
  · rw [if_pos hw] at h
    exact x_cadd hP hK hR hcs (hl hw) hw (h _ _ (zfc_u (zfc_u (zfc_r I) (Or.inr rfl)) (Or.inl rfl)) (zfl_u (zfl_u (zfl_r L) (Or.inr rfl)) (Or.inl rfl)) (zCs_add hcs st))
  · rw [if_neg hw] at h
    refine r_ll hP c13_0 rfl ?_
    refine r_lc hP c13_1 ?_
    refine r_lcmp hP c13_2 ?_
    refine r_ifleL hP c13_3 (fun h3 => ?_) (fun h3 => absurd (Int64.not_lt.mp hw) h3)
    exact r_vr hP c13_55 (h _ _ (zfc_r I) (zfl_r L) hcs)
set_option maxRecDepth 4000 in
theorem x_fill_l {K : ZKh} {P : Nat → Nat → List Value → List Value → ZMi → ZMl → ZMr → ZRt → Prop} {I : ZMi} {L : ZMl} {R : ZMr} {Q : ZRt} (hP : ZCl K P) {w nS nP nW : Nat} {S : ZS} (hK : zKa K) (hR : zRa R) (hw : zisW w) (hC : zC I w S nS nP nW) (hp8 : nP ≤ 8) (hs6 : nS ≤ 6) (hw6 : nW ≤ 6) (h : ∀ I2 L2, zfc I I2 → zfl_ L L2 → zCs I2 L2 S nP (zall S nP) → Q none I2 L2 R) : ∀ i, i ≤ (2 ^ nP) → ∀ (I1 : ZMi) (L1 : ZMl), zfc I I1 ∧ zfl_ L L1 ∧ zCs I1 L1 S nP ((List.range i).filter (zwp S nP)) → P 12 12 [.ref 31, .ref w, .int (nI i)] [] I1 L1 R Q := by
  refine zloop (2 ^ nP) (fun i => ∀ (I1 : ZMi) (L1 : ZMl), zfc I I1 ∧ zfl_ L L1 ∧ zCs I1 L1 S nP ((List.range i).filter (zwp S nP)) → P 12 12 [.ref 31, .ref w, .int (nI i)] [] I1 L1 R Q) ?_
  intro i hle ih I1 L1 hacc
  have hp256 := zp256 hp8
  refine r_il hP c12_12 rfl ?_
  refine r_ic hP c12_13 ?_
  refine r_ige hP c12_16 (fun h16 => ?_) (fun h16 => ?_)
  · have h16b := (nI_leI (a := 256) (b := i) (by omega) (by omega)).mp h16
    have he : i = 2 ^ nP := by omega
    subst he
    exact r_vr hP c12_51 (h _ _ hacc.1 hacc.2.1 hacc.2.2)
  · refine r_al hP c12_19 rfl ?_
    refine r_il hP c12_20 rfl ?_
    refine r_cVi (as := [.int (nI i)]) (r := []) (I' := I1) (L' := L1) (R' := R) (x := if zr (nI i) (2 ^ nP) then 1 else 0) (a := w) hP c12_21 rfl (zj_W hK hw) rfl (fun _ hq => x_hasState hP hK hR hw (zC_fc hC hacc.1 hw hs6 hp8 hw6) hp8 hs6 hw6 hq) ?_
    refine r_ifeqB hP c12_24 (fun h24 => ?_) (fun h24 => ?_)
    · have he : i = 2 ^ nP := by
        have hn : ¬ i < 2 ^ nP := fun q => h24 (zr_nI q (by omega))
        omega
      subst he
      exact r_vr hP c12_51 (h _ _ hacc.1 hacc.2.1 hacc.2.2)
    · have hlt : i < 2 ^ nP := by
        have hq := h24.2
        rw [nI_toInt (by omega)] at hq
        omega
      have hi256 : i < 256 := by omega
      refine r_il hP c12_27 rfl ?_
      refine r_cSi (as := [.int (nI i)]) (r := []) (I' := I1) (L' := L1) (R' := R) (x := nI (zbc i)) hP c12_28 rfl rfl (fun _ hq => x_bitCount hP hi256 hq) ?_
      refine r_ic hP c12_31 ?_
      refine r_igt hP c12_32 (fun h32 => ?_) (fun h32 => ?_)
      · have hbc := (nI_ltI (a := 2) (b := zbc i) (by omega) (by have := List.length_filter_le (fun p => i.testBit p) (List.range 8); simp only [zbc]; simp at this; omega)).mp h32
        refine r_inc (y := nI (i + 1)) (ls' := [.ref 31, .ref w, .int (nI (i + 1))]) hP c12_45 rfl (nI_1 _) rfl ?_
        refine r_goto hP c12_48 ?_
        exact ih hlt _ _ (by
          rw [List.range_succ, List.filter_append]
          first
            | (refine ⟨zfc_t hacc.1 ha, zfl_t hacc.2.1 hb, ?_⟩
               by_cases hp : 0 < zwt S i nP
               · rw [if_pos hp] at hc
                 rw [List.filter_cons_of_pos (by simp [zwp, hp, hbc])]
                 exact hc
               · rw [if_neg hp] at hc
                 rw [List.filter_cons_of_neg (by simp [zwp, hp]), List.filter_nil, List.append_nil]
                 exact hc)
            | (refine ⟨hacc.1, hacc.2.1, ?_⟩
               rw [List.filter_cons_of_neg (by simp [zwp]; omega), List.filter_nil, List.append_nil]
               exact hacc.2.2))
      · have hbc : zbc i ≤ 2 := by
          have := (not_congr (nI_ltI (a := 2) (b := zbc i) (by omega) (by have := List.length_filter_le (fun p => i.testBit p) (List.range 8); simp only [zbc]; simp at this; omega))).mp h32
          omega
        refine r_al hP c12_35 rfl ?_
        refine r_il hP c12_36 rfl ?_
        refine r_al hP c12_37 rfl ?_
        refine r_il hP c12_38 rfl ?_
        refine r_cVl (as := [.int (nI i)]) (r := [.int (nI i), .ref 31]) (I' := I1) (L' := L1) (R' := R) (x := zwt S i nP) (a := w) hP c12_39 rfl (zj_W hK hw) rfl (fun _ hq => x_weightOf hP hK hR hw (zC_fc hC hacc.1 hw hs6 hp8 hw6) hp8 hs6 hw6 hi256 hq) ?_
        refine r_cVvp (as := [.int (nI i), .long (zwt S i nP)]) (r := []) (a := 31) hP c12_42 rfl (zj31 hK) rfl (fun I2 L2 R2 => (zfc I1 I2 ∧ zfl_ L1 L2 ∧ zCs I2 L2 S nP (if 0 < zwt S i nP then ((List.range i).filter (zwp S nP)) ++ [i] else ((List.range i).filter (zwp S nP)))) ∧ R = R2) (fun Q2 hq => x_caddW hP hK hR hacc.2.2 (fun hp => by have h9 := z37l S hp8 (i := i + 1) (by omega); rw [List.range_succ, List.filter_append, List.filter_cons_of_pos (by simp [zwp, hp, hbc]), List.length_append] at h9; simp at h9; omega) (fun I2 L2 a b c => hq I2 L2 R ⟨⟨a, b, c⟩, rfl⟩)) ?_
        rintro I2 L2 R2 ⟨⟨ha, hb, hc⟩, rfl⟩
        refine r_inc (y := nI (i + 1)) (ls' := [.ref 31, .ref w, .int (nI (i + 1))]) hP c12_45 rfl (nI_1 _) rfl ?_
        refine r_goto hP c12_48 ?_
        exact ih hlt _ _ (by
          rw [List.range_succ, List.filter_append]
          first
            | (refine ⟨zfc_t hacc.1 ha, zfl_t hacc.2.1 hb, ?_⟩
               by_cases hp : 0 < zwt S i nP
               · rw [if_pos hp] at hc
                 rw [List.filter_cons_of_pos (by simp [zwp, hp, hbc])]
                 exact hc
               · rw [if_neg hp] at hc
                 rw [List.filter_cons_of_neg (by simp [zwp, hp]), List.filter_nil, List.append_nil]
                 exact hc)
            | (refine ⟨hacc.1, hacc.2.1, ?_⟩
               rw [List.filter_cons_of_neg (by simp [zwp]; omega), List.filter_nil, List.append_nil]
               exact hacc.2.2))
set_option maxRecDepth 4000 in
theorem x_fill {K : ZKh} {P : Nat → Nat → List Value → List Value → ZMi → ZMl → ZMr → ZRt → Prop} {I : ZMi} {L : ZMl} {R : ZMr} {Q : ZRt} (hP : ZCl K P) {w nS nP nW : Nat} {S : ZS} (hK : zKa K) (hR : zRa R) (hw : zisW w) (hC : zC I w S nS nP nW) (hp8 : nP ≤ 8) (hs6 : nS ≤ 6) (hw6 : nW ≤ 6) (h : ∀ I2 L2, zfc I I2 → zfl_ L L2 → zCs I2 L2 S nP (zall S nP) → Q none I2 L2 R) : P 12 0 [.ref 31, .ref w, .null] [] I L R Q := by
  refine r_al hP c12_0 rfl ?_
  refine r_ic hP c12_1 ?_
  refine r_pI hP c12_2 (zj31 hK) ?_
  refine r_al hP c12_5 rfl ?_
  refine r_lc hP c12_6 ?_
  refine r_pL hP c12_7 (zj31 hK) ?_
  refine r_ic hP c12_10 ?_
  refine r_is (ls' := [.ref 31, .ref w, .int 0]) hP c12_11 (Nat.le_of_ble_eq_true rfl) rfl ?_
  exact x_fill_l hP hK hR hw hC hp8 hs6 hw6 h 0 (Nat.zero_le _) _ _ ⟨zfc_u (zfc_r I) (Or.inl rfl), zfl_u (zfl_r L) (Or.inl rfl), by rw [zup_s]; rfl, fun i hi => absurd hi (Nat.not_lt_zero i), by rw [zup_s]; rfl⟩
def zww (S : ZS) (nP j : Nat) (cs : List Nat) : Int64 := cs.foldl (fun a c => if c.testBit j then a + zwt S c nP else a) 0
theorem z_take {cs : List Nat} {i : Nat} (hi : i < cs.length) : cs.take (i + 1) = cs.take i ++ [cs.getD i 0] := by
  rw [List.take_add_one]
  simp [List.getD, List.getElem?_eq_getElem hi]
theorem z_mem {cs : List Nat} {i : Nat} (hi : i < cs.length) : cs.getD i 0 ∈ cs := by
  simp [List.getD, List.getElem?_eq_getElem hi]
set_option maxRecDepth 4000 in
theorem x_ww_l {K : ZKh} {P : Nat → Nat → List Value → List Value → ZMi → ZMl → ZMr → ZRt → Prop} {I : ZMi} {L : ZMl} {R : ZMr} {Q : ZRt} (hP : ZCl K P) {S : ZS} {nP j : Nat} {cs : List Nat} (hK : zKa K) (hR : zRa R) (hcs : zCs I L S nP cs) (hl : cs.length ≤ 37) (h256 : ∀ c ∈ cs, c < 256) (hj : j < 8) (h : Q (some (.long (zww S nP j cs))) I L R) : ∀ i, i ≤ cs.length → ∀ (acc : Int64), acc = zww S nP j (cs.take i) → P 15 5 [.ref 31, .int (nI j), .long acc, .null, .int (nI i)] [] I L R Q := by
  refine zloop cs.length (fun i => ∀ (acc : Int64), acc = zww S nP j (cs.take i) → P 15 5 [.ref 31, .int (nI j), .long acc, .null, .int (nI i)] [] I L R Q) ?_
  intro i hle ih acc hacc
  refine r_il hP c15_5 rfl ?_
  refine r_al hP c15_7 rfl ?_
  refine r_gI (x := nI cs.length) hP c15_8 (zj31 hK) hcs.1 ?_
  refine r_ige hP c15_11 (fun h11 => ?_) (fun h11 => ?_)
  · have he : i = cs.length := Nat.le_antisymm hle ((nI_leI (by omega) (by omega)).mp h11)
    refine r_ll hP c15_44 rfl ?_
    exact r_lrE hP c15_45 h (by rw [hacc, he, List.take_length])
  · have hlt : i < cs.length := by
      rcases Nat.lt_or_ge i cs.length with q | q
      · exact q
      · exact absurd (nI_le q (by omega)) h11
    refine r_al hP c15_14 rfl ?_
    refine r_gR (x := 32) hP c15_15 (zj31 hK) (zr31_0 hR) ?_
    refine r_il hP c15_18 rfl ?_
    refine r_iald (j := i) (x := nI (cs.getD i 0)) hP c15_20 (zk32 hK) rfl (by omega) (hcs.2.1 i hlt).1 ?_
    refine r_ic hP c15_21 ?_
    refine r_il hP c15_22 rfl ?_
    refine r_ishl hP c15_23 ?_
    refine r_iand hP c15_24 ?_
    refine r_ifeq hP c15_25 (fun h25 => ?_) (fun h25 => ?_)
    · have hb := (zbit_c _ (h256 _ (z_mem hlt)) j hj).mp h25
      refine r_inc (y := nI (i + 1)) (ls' := [.ref 31, .int (nI j), .long acc, .null, .int (nI (i + 1))]) hP c15_38 rfl (nI_1 _) rfl ?_
      refine r_goto hP c15_41 ?_
      exact ih hlt _ (by rw [z_take hlt, zww, List.foldl_append, ← zww, hacc]; simp only [List.foldl_cons, List.foldl_nil]; first | rw [if_pos hb] | rw [if_neg hb])
    · have hb : (cs.getD i 0).testBit j = true := Classical.byContradiction (fun q => h25 ((zbit_c _ (h256 _ (z_mem hlt)) j hj).mpr q))
      refine r_ll hP c15_28 rfl ?_
      refine r_al hP c15_29 rfl ?_
      refine r_gR (x := 33) hP c15_30 (zj31 hK) (zr31_1 hR) ?_
      refine r_il hP c15_33 rfl ?_
      refine r_lald (j := i) (x := zwt S (cs.getD i 0) nP) hP c15_35 (zk33 hK) rfl (by omega) (hcs.2.1 i hlt).2 ?_
      refine r_ladd hP c15_36 ?_
      refine r_ls (ls' := [.ref 31, .int (nI j), .long (acc + (zwt S (cs.getD i 0) nP)), .null, .int (nI i)]) hP c15_37 (Nat.le_of_ble_eq_true rfl) rfl ?_
      refine r_inc (y := nI (i + 1)) (ls' := [.ref 31, .int (nI j), .long (acc + (zwt S (cs.getD i 0) nP)), .null, .int (nI (i + 1))]) hP c15_38 rfl (nI_1 _) rfl ?_
      refine r_goto hP c15_41 ?_
      exact ih hlt _ (by rw [z_take hlt, zww, List.foldl_append, ← zww, hacc]; simp only [List.foldl_cons, List.foldl_nil]; first | rw [if_pos hb] | rw [if_neg hb])
set_option maxRecDepth 4000 in
theorem x_ww {K : ZKh} {P : Nat → Nat → List Value → List Value → ZMi → ZMl → ZMr → ZRt → Prop} {I : ZMi} {L : ZMl} {R : ZMr} {Q : ZRt} (hP : ZCl K P) {S : ZS} {nP j : Nat} {cs : List Nat} (hK : zKa K) (hR : zRa R) (hcs : zCs I L S nP cs) (hl : cs.length ≤ 37) (h256 : ∀ c ∈ cs, c < 256) (hj : j < 8) (h : Q (some (.long (zww S nP j cs))) I L R) : P 15 0 [.ref 31, .int (nI j), .null, .null, .null] [] I L R Q := by
  refine r_lc hP c15_0 ?_
  refine r_ls (ls' := [.ref 31, .int (nI j), .long 0, .null, .null]) hP c15_1 (Nat.le_of_ble_eq_true rfl) rfl ?_
  refine r_ic hP c15_2 ?_
  refine r_is (ls' := [.ref 31, .int (nI j), .long 0, .null, .int 0]) hP c15_3 (Nat.le_of_ble_eq_true rfl) rfl ?_
  exact x_ww_l hP hK hR hcs hl h256 hj h 0 (Nat.zero_le _) _ rfl
def zhv (S : ZS) (nP : Nat) (cs : List Nat) : Int32 × Int64 := cs.foldl (fun a c => if a.2 < zwt S c nP then (nI c, zwt S c nP) else a) (-4, 0)
set_option maxRecDepth 4000 in
theorem x_hv_l {K : ZKh} {P : Nat → Nat → List Value → List Value → ZMi → ZMl → ZMr → ZRt → Prop} {I : ZMi} {L : ZMl} {R : ZMr} {Q : ZRt} (hP : ZCl K P) {S : ZS} {nP : Nat} {cs : List Nat} (hK : zKa K) (hR : zRa R) (hcs : zCs I L S nP cs) (hl : cs.length ≤ 37) (h : Q (some (.int (zhv S nP cs).1)) I L R) : ∀ i, i ≤ cs.length → ∀ (x1 : Int32) (x2 : Int64), (x1, x2) = zhv S nP (cs.take i) → P 16 8 [.ref 31, .int x1, .long x2, .null, .int (nI i)] [] I L R Q := by
  refine zloop cs.length (fun i => ∀ (x1 : Int32) (x2 : Int64), (x1, x2) = zhv S nP (cs.take i) → P 16 8 [.ref 31, .int x1, .long x2, .null, .int (nI i)] [] I L R Q) ?_
  intro i hle ih x1 x2 hacc
  refine r_il hP c16_8 rfl ?_
  refine r_al hP c16_10 rfl ?_
  refine r_gI (x := nI cs.length) hP c16_11 (zj31 hK) hcs.1 ?_
  refine r_ige hP c16_14 (fun h14 => ?_) (fun h14 => ?_)
  · have he : i = cs.length := Nat.le_antisymm hle ((nI_leI (by omega) (by omega)).mp h14)
    refine r_il hP c16_51 rfl ?_
    exact r_irE hP c16_52 h (by rw [he, List.take_length] at hacc; rw [← hacc])
  · have hlt : i < cs.length := by
      rcases Nat.lt_or_ge i cs.length with q | q
      · exact q
      · exact absurd (nI_le q (by omega)) h14
    refine r_al hP c16_17 rfl ?_
    refine r_gR (x := 33) hP c16_18 (zj31 hK) (zr31_1 hR) ?_
    refine r_il hP c16_21 rfl ?_
    refine r_lald (j := i) (x := zwt S (cs.getD i 0) nP) hP c16_23 (zk33 hK) rfl (by omega) (hcs.2.1 i hlt).2 ?_
    refine r_ll hP c16_24 rfl ?_
    refine r_lcmp hP c16_25 ?_
    refine r_ifleL hP c16_26 (fun h26 => ?_) (fun h26 => ?_)
    · refine r_inc (y := nI (i + 1)) (ls' := [.ref 31, .int x1, .long x2, .null, .int (nI (i + 1))]) hP c16_45 rfl (nI_1 _) rfl ?_
      refine r_goto hP c16_48 ?_
      exact ih hlt _ _ (by rw [z_take hlt, zhv, List.foldl_append, ← zhv, ← hacc]; simp only [List.foldl_cons, List.foldl_nil]; first | rw [if_pos (Int64.not_le.mp h26)] | rw [if_neg (fun q => absurd h26 (Int64.not_le.mpr q))])
    · refine r_al hP c16_29 rfl ?_
      refine r_gR (x := 33) hP c16_30 (zj31 hK) (zr31_1 hR) ?_
      refine r_il hP c16_33 rfl ?_
      refine r_lald (j := i) (x := zwt S (cs.getD i 0) nP) hP c16_35 (zk33 hK) rfl (by omega) (hcs.2.1 i hlt).2 ?_
      refine r_ls (ls' := [.ref 31, .int x1, .long (zwt S (cs.getD i 0) nP), .null, .int (nI i)]) hP c16_36 (Nat.le_of_ble_eq_true rfl) rfl ?_
      refine r_al hP c16_37 rfl ?_
      refine r_gR (x := 32) hP c16_38 (zj31 hK) (zr31_0 hR) ?_
      refine r_il hP c16_41 rfl ?_
      refine r_iald (j := i) (x := nI (cs.getD i 0)) hP c16_43 (zk32 hK) rfl (by omega) (hcs.2.1 i hlt).1 ?_
      refine r_is (ls' := [.ref 31, .int (nI (cs.getD i 0)), .long (zwt S (cs.getD i 0) nP), .null, .int (nI i)]) hP c16_44 (Nat.le_of_ble_eq_true rfl) rfl ?_
      refine r_inc (y := nI (i + 1)) (ls' := [.ref 31, .int (nI (cs.getD i 0)), .long (zwt S (cs.getD i 0) nP), .null, .int (nI (i + 1))]) hP c16_45 rfl (nI_1 _) rfl ?_
      refine r_goto hP c16_48 ?_
      exact ih hlt _ _ (by rw [z_take hlt, zhv, List.foldl_append, ← zhv, ← hacc]; simp only [List.foldl_cons, List.foldl_nil]; first | rw [if_pos (Int64.not_le.mp h26)] | rw [if_neg (fun q => absurd h26 (Int64.not_le.mpr q))])
set_option maxRecDepth 4000 in
theorem x_hv {K : ZKh} {P : Nat → Nat → List Value → List Value → ZMi → ZMl → ZMr → ZRt → Prop} {I : ZMi} {L : ZMl} {R : ZMr} {Q : ZRt} (hP : ZCl K P) {S : ZS} {nP : Nat} {cs : List Nat} (hK : zKa K) (hR : zRa R) (hcs : zCs I L S nP cs) (hl : cs.length ≤ 37) (h : Q (some (.int (zhv S nP cs).1)) I L R) : P 16 0 [.ref 31, .null, .null, .null, .null] [] I L R Q := by
  refine r_ic hP c16_0 ?_
  refine r_is (ls' := [.ref 31, .int (-4), .null, .null, .null]) hP c16_2 (Nat.le_of_ble_eq_true rfl) rfl ?_
  refine r_lc hP c16_3 ?_
  refine r_ls (ls' := [.ref 31, .int (-4), .long 0, .null, .null]) hP c16_4 (Nat.le_of_ble_eq_true rfl) rfl ?_
  refine r_ic hP c16_5 ?_
  refine r_is (ls' := [.ref 31, .int (-4), .long 0, .null, .int 0]) hP c16_6 (Nat.le_of_ble_eq_true rfl) rfl ?_
  exact x_hv_l hP hK hR hcs hl h 0 (Nat.zero_le _) _ _ rfl
