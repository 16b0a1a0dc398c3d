/-! ===== one by one; Euclid; the search ===== -/
def zdr (S : ZS) (nS nP : Nat) (cs : List Nat) (T : Nat → Int64) (ch : Nat) : Int64 × Int32 := if znw S nS nP ch cs = 0 then (0, -4) else zgn S T ch (znw S nS nP ch cs) nP
def zdt (S : ZS) (nS nP : Nat) (cs : List Nat) : Nat → (Nat → Int64) × Int32
  | 0 => (fun _ => 0, -4)
  | j + 1 => (fun st => if st = 2 ^ nP - 1 - j then (zdr S nS nP cs (zdt S nS nP cs j).1 (2 ^ nP - 1 - j)).1 else (zdt S nS nP cs j).1 st, (zdr S nS nP cs (zdt S nS nP cs j).1 (2 ^ nP - 1 - j)).2)
theorem zmin_c : ∀ n, n ≤ 8 → (if nI (2 ^ n) < 256 then nI (2 ^ n) else (256 : Int32)) = nI (2 ^ n) := by decide +kernel
theorem zdn {N j : Nat} (hj : j < N) (hN : N ≤ 256) : nI (N - j) - 1 = nI (N - 1 - j) := by
  have := pk_sub (a := N - j) (b := 1) (by omega)
  rw [show N - 1 - j = N - j - 1 from by omega]
  exact this
theorem zdm {N j : Nat} (hj : j < N) (hN : N ≤ 256) : nI (N - 1 - j) + (-1) = nI (N - (j + 1)) - 1 := by
  rw [show N - 1 - j = N - (j + 1) from by omega]
  rw [Int32.sub_eq_add_neg]
set_option maxRecDepth 4000 in
theorem x_row_l {K : ZKh} {P : Nat → Nat → List Value → List Value → ZMi → ZMl → ZMr → ZRt → Prop} {I : ZMi} {L : ZMl} {R : ZMr} {Q : ZRt} (hP : ZCl K P) {w nS nP nW : Nat} {S : ZS} (hK : zKa K) (hR : zRa R) (hw : zisW w) (hC : zC I w S nS nP nW) (hp8 : nP ≤ 8) (hs6 : nS ≤ 6) (hw6 : nW ≤ 6) {cs : List Nat} (hcs : zCs I L S nP cs) (hok : zok S nP cs) (hqt : zQt I S nS nP (2 ^ nP)) (h : ∀ I2 L2, zfi I I2 → (∀ a k, a ≠ 38 → L2 a k = L a k) → L2 38 0 = (zdt S nS nP cs (2 ^ nP)).1 0 → I2 36 2 = (zdt S nS nP cs (2 ^ nP)).2 → Q none I2 L2 R) : ∀ j, j ≤ (2 ^ nP) → ∀ (I1 : ZMi) (L1 : ZMl) (v5 v6 : Value), zfi I I1 ∧ (∀ a k, a ≠ 38 → L1 a k = L a k) ∧ (∀ st, 2 ^ nP - j ≤ st → st < 2 ^ nP → L1 38 st = (zdt S nS nP cs j).1 st) ∧ (0 < j → I1 36 2 = (zdt S nS nP cs j).2) → P 25 18 [.ref 36, .ref w, .ref 31, .int (nI (2 ^ nP - 1)), .int (nI (2 ^ nP - j) - 1), v5, v6] [] I1 L1 R Q := by
  refine zloop (2 ^ nP) (fun j => ∀ (I1 : ZMi) (L1 : ZMl) (v5 v6 : Value), zfi I I1 ∧ (∀ a k, a ≠ 38 → L1 a k = L a k) ∧ (∀ st, 2 ^ nP - j ≤ st → st < 2 ^ nP → L1 38 st = (zdt S nS nP cs j).1 st) ∧ (0 < j → I1 36 2 = (zdt S nS nP cs j).2) → P 25 18 [.ref 36, .ref w, .ref 31, .int (nI (2 ^ nP - 1)), .int (nI (2 ^ nP - j) - 1), v5, v6] [] I1 L1 R Q) ?_
  intro j hle ih I1 L1 v5 v6 hacc
  have hp256 := zp256 hp8
  have hp1 : 0 < 2 ^ nP := Nat.two_pow_pos nP
  have hw39 := zW39 hw
  refine r_il hP c25_18 rfl ?_
  refine r_iflt hP c25_20 (fun h20 => ?_) (fun h20 => ?_)
  · have he : j = 2 ^ nP := by
      rcases Nat.lt_or_ge j (2 ^ nP) with q | q
      · rw [zdn q hp256] at h20
        exact absurd h20 (nI_pos (by omega))
      · omega
    subst he
    exact r_vr hP c25_68 (h _ _ hacc.1 hacc.2.1 (hacc.2.2.1 0 (by omega) hp1) (hacc.2.2.2 hp1))
  · have hlt : j < 2 ^ nP := by
      rcases Nat.lt_or_ge j (2 ^ nP) with q | q
      · exact q
      · exact absurd (by rw [show 2 ^ nP - j = 0 from by omega]; decide) h20
    rw [zdn hlt hp256]
    refine r_al hP c25_23 rfl ?_
    refine r_al hP c25_24 rfl ?_
    refine r_il hP c25_25 rfl ?_
    refine r_cVl (as := [.ref 31, .int (nI (2 ^ nP - 1 - j))]) (r := []) (I' := I1) (L' := L1) (R' := R) (x := znw S nS nP (2 ^ nP - 1 - j) cs) (a := 36) hP c25_27 rfl (zj36 hK) rfl (fun _ hq => x_noisy hP hK hR hp8 (zCs_to hcs (fun k => hacc.1 31 k (by omega)) (fun k => hacc.1 32 k (by omega)) (fun k => hacc.2.1 31 k (by decide)) (fun k => hacc.2.1 33 k (by decide))) hok (zQt_fr hqt (fun k => hacc.1 37 k (by omega))) (by omega) hq) ?_
    refine r_ls (ls' := [.ref 36, .ref w, .ref 31, .int (nI (2 ^ nP - 1)), .int (nI (2 ^ nP - 1 - j)), .long (znw S nS nP (2 ^ nP - 1 - j) cs), .null]) hP c25_30 (Nat.le_of_ble_eq_true rfl) rfl ?_
    refine r_al hP c25_32 rfl ?_
    refine r_gR (x := 38) hP c25_33 (zj36 hK) (zr36_1 hR) ?_
    refine r_il hP c25_36 rfl ?_
    refine r_lc hP c25_38 ?_
    refine r_last (j := 2 ^ nP - 1 - j) hP c25_39 (zk38 hK) rfl (by omega) ?_
    refine r_al hP c25_40 rfl ?_
    refine r_ic hP c25_41 ?_
    refine r_pI hP c25_43 (zj36 hK) ?_
    refine r_ll hP c25_46 rfl ?_
    refine r_lc hP c25_48 ?_
    refine r_lcmp hP c25_49 ?_
    refine r_ifeqL hP c25_50 (fun h50 => ?_) (fun h50 => ?_)
    · refine r_inc (y := nI (2 ^ nP - (j + 1)) - 1) (ls' := [.ref 36, .ref w, .ref 31, .int (nI (2 ^ nP - 1)), .int (nI (2 ^ nP - (j + 1)) - 1), .long (znw S nS nP (2 ^ nP - 1 - j) cs), .null]) hP c25_62 rfl (zdm hlt hp256) rfl ?_
      refine r_goto hP c25_65 ?_
      exact ih hlt _ _ _ _ (by
        have hz : ∀ st, st < 2 ^ nP → 2 ^ nP - (j + 1) ≤ st → st ≠ 2 ^ nP - 1 - j → 2 ^ nP - j ≤ st := fun st a b c => by omega
        first
          | (refine ⟨fun a k q => (zup_n _ _ _ _ q).trans (hacc.1 a k q), fun a k q => (zup_na _ _ _ _ q).trans (hacc.2.1 a k q), fun st a b => ?_, fun _ => ?_⟩
             · by_cases e : st = 2 ^ nP - 1 - j
               · rw [e, zup_s, zdt]; simp only [if_pos, zdr]; rw [if_pos h50]
               · rw [zup_nk _ _ _ _ e, zdt]; simp only [if_neg e]; exact hacc.2.2.1 st (hz st b a e) b
             · rw [zup_s, zdt]; simp only [zdr]; rw [if_pos h50])
          | (refine ⟨fun a k q => (ha a k q).trans ((zup_n _ _ _ _ q).trans (hacc.1 a k q)), fun a k q => (hb a k (fun z => q z.1)).trans ((zup_na _ _ _ _ q).trans (hacc.2.1 a k q)), fun st a b => ?_, fun _ => ?_⟩
             · by_cases e : st = 2 ^ nP - 1 - j
               · rw [e, hc, zdt]; simp only [if_pos, zdr]; rw [if_neg h50]
               · rw [hb 38 st (fun z => e z.2), zup_nk _ _ _ _ e, zdt]; simp only [if_neg e]; exact hacc.2.2.1 st (hz st b a e) b
             · rw [hd, zdt]; simp only [zdr]; rw [if_neg h50]))
    · refine r_al hP c25_53 rfl ?_
      refine r_al hP c25_54 rfl ?_
      refine r_il hP c25_55 rfl ?_
      refine r_ll hP c25_57 rfl ?_
      refine r_cVvp (as := [.ref w, .int (nI (2 ^ nP - 1 - j)), .long (znw S nS nP (2 ^ nP - 1 - j) cs)]) (r := []) (a := 36) hP c25_59 rfl (zj36 hK) rfl (fun I2 L2 R2 => (zfi (zup I1 36 2 (-4)) I2 ∧ zfs_ (zup L1 38 (2 ^ nP - 1 - j) 0) L2 (2 ^ nP - 1 - j) ∧ L2 38 (2 ^ nP - 1 - j) = (zgn S (zdt S nS nP cs j).1 (2 ^ nP - 1 - j) (znw S nS nP (2 ^ nP - 1 - j) cs) nP).1 ∧ I2 36 2 = (zgn S (zdt S nS nP cs j).1 (2 ^ nP - 1 - j) (znw S nS nP (2 ^ nP - 1 - j) cs) nP).2) ∧ R = R2) (fun Q2 hq => x_goOn hP hK hR hw (zC_to hC (fun a h1 h2 k => (zup_n _ _ _ _ (by omega)).trans (hacc.1 a k (by omega))) hs6 hp8 hw6) hp8 hs6 hw6 (by omega) (fun st h1 h2 => (zup_n _ _ _ _ (by omega)).trans (hacc.2.2.1 st (by omega) h2)) (zup_s _ _ _ _) (zup_s _ _ _ _) (fun I2 L2 a b c d => hq I2 L2 R ⟨⟨a, b, c, d⟩, rfl⟩)) ?_
      rintro I2 L2 R2 ⟨⟨ha, hb, hc, hd⟩, rfl⟩
      refine r_inc (y := nI (2 ^ nP - (j + 1)) - 1) (ls' := [.ref 36, .ref w, .ref 31, .int (nI (2 ^ nP - 1)), .int (nI (2 ^ nP - (j + 1)) - 1), .long (znw S nS nP (2 ^ nP - 1 - j) cs), .null]) hP c25_62 rfl (zdm hlt hp256) rfl ?_
      refine r_goto hP c25_65 ?_
      exact ih hlt _ _ _ _ (by
        have hz : ∀ st, st < 2 ^ nP → 2 ^ nP - (j + 1) ≤ st → st ≠ 2 ^ nP - 1 - j → 2 ^ nP - j ≤ st := fun st a b c => by omega
        first
          | (refine ⟨fun a k q => (zup_n _ _ _ _ q).trans (hacc.1 a k q), fun a k q => (zup_na _ _ _ _ q).trans (hacc.2.1 a k q), fun st a b => ?_, fun _ => ?_⟩
             · by_cases e : st = 2 ^ nP - 1 - j
               · rw [e, zup_s, zdt]; simp only [if_pos, zdr]; rw [if_pos h50]
               · rw [zup_nk _ _ _ _ e, zdt]; simp only [if_neg e]; exact hacc.2.2.1 st (hz st b a e) b
             · rw [zup_s, zdt]; simp only [zdr]; rw [if_pos h50])
          | (refine ⟨fun a k q => (ha a k q).trans ((zup_n _ _ _ _ q).trans (hacc.1 a k q)), fun a k q => (hb a k (fun z => q z.1)).trans ((zup_na _ _ _ _ q).trans (hacc.2.1 a k q)), fun st a b => ?_, fun _ => ?_⟩
             · by_cases e : st = 2 ^ nP - 1 - j
               · rw [e, hc, zdt]; simp only [if_pos, zdr]; rw [if_neg h50]
               · rw [hb 38 st (fun z => e z.2), zup_nk _ _ _ _ e, zdt]; simp only [if_neg e]; exact hacc.2.2.1 st (hz st b a e) b
             · rw [hd, zdt]; simp only [zdr]; rw [if_neg h50]))
set_option maxRecDepth 4000 in
theorem x_row {K : ZKh} {P : Nat → Nat → List Value → List Value → ZMi → ZMl → ZMr → ZRt → Prop} {I : ZMi} {L : ZMl} {R : ZMr} {Q : ZRt} (hP : ZCl K P) {w nS nP nW : Nat} {S : ZS} (hK : zKa K) (hR : zRa R) (hw : zisW w) (hC : zC I w S nS nP nW) (hp8 : nP ≤ 8) (hs6 : nS ≤ 6) (hw6 : nW ≤ 6) {cs : List Nat} (hcs : zCs I L S nP cs) (hok : zok S nP cs) (hqt : zQt I S nS nP (2 ^ nP)) (h : ∀ I2 L2, zfi I I2 → (∀ a k, a ≠ 38 → L2 a k = L a k) → L2 38 0 = (zdt S nS nP cs (2 ^ nP)).1 0 → I2 36 2 = (zdt S nS nP cs (2 ^ nP)).2 → Q none I2 L2 R) : P 25 0 [.ref 36, .ref w, .ref 31, .null, .null, .null, .null] [] I L R Q := by
  refine r_ic hP c25_0 ?_
  refine r_ic hP c25_3 ?_
  refine r_al hP c25_4 rfl ?_
  refine r_gI (x := nI nP) hP c25_5 (zj_W hK hw) (zC_p hC) ?_
  refine r_ishl hP c25_8 ?_
  refine r_ti (y := nI (2 ^ nP)) (zpow nP hp8) ?_
  refine r_mmin hP c25_9 rfl ?_
  refine r_ti (y := nI (2 ^ nP)) (zmin_c nP hp8) ?_
  refine r_ic hP c25_12 ?_
  refine r_isub hP c25_13 ?_
  refine r_ti (y := nI (2 ^ nP - 1)) (pk_sub (b := 1) (Nat.two_pow_pos nP)) ?_
  refine r_is (ls' := [.ref 36, .ref w, .ref 31, .int (nI (2 ^ nP - 1)), .null, .null, .null]) hP c25_14 (Nat.le_of_ble_eq_true rfl) rfl ?_
  refine r_il hP c25_15 rfl ?_
  refine r_is (ls' := [.ref 36, .ref w, .ref 31, .int (nI (2 ^ nP - 1)), .int (nI (2 ^ nP - 1)), .null, .null]) hP c25_16 (Nat.le_of_ble_eq_true rfl) rfl ?_
  have e0 : nI (2 ^ nP - 1) = nI (2 ^ nP - 0) - 1 := (pk_sub (a := 2 ^ nP) (b := 1) (Nat.two_pow_pos nP)).symm
  have hx := x_row_l hP hK hR hw hC hp8 hs6 hw6 hcs hok hqt h 0 (Nat.zero_le _) I L .null .null ⟨fun _ _ _ => rfl, fun _ _ _ => rfl, fun st a b => by omega, fun q => absurd q (by decide)⟩
  rw [← e0] at hx
  exact hx
def zeu : Nat → Int64 → Int64 → Int64
  | 0, h, _ => h
  | n + 1, h, l => if l = 0 then h else zeu n l (h - h / l * l)
set_option maxRecDepth 4000 in
theorem x_euclid_l {K : ZKh} {P : Nat → Nat → List Value → List Value → ZMi → ZMl → ZMr → ZRt → Prop} {I : ZMi} {L : ZMl} {R : ZMr} {Q : ZRt} (hP : ZCl K P) {a b : Int64} (h : Q (some (.long (zeu 100 a b))) I L R) : ∀ i, i ≤ 100 → ∀ (x y : Int64) (v9 v10 : Value), zeu 100 a b = zeu (100 - i) x y → P 103 9 [.long a, .null, .long b, .null, .long x, .null, .long y, .null, .int (nI i), v9, v10] [] I L R Q := by
  refine zloop 100 (fun i => ∀ (x y : Int64) (v9 v10 : Value), zeu 100 a b = zeu (100 - i) x y → P 103 9 [.long a, .null, .long b, .null, .long x, .null, .long y, .null, .int (nI i), v9, v10] [] I L R Q) ?_
  intro i hle ih x y v9 v10 hacc
  refine r_il hP c103_9 rfl ?_
  refine r_ic hP c103_11 ?_
  refine r_ige hP c103_13 (fun h13 => ?_) (fun h13 => ?_)
  · have he : i = 100 := Nat.le_antisymm hle ((nI_leI (by omega) (by omega)).mp h13)
    refine r_ll hP c103_44 rfl ?_
    exact r_lrE hP c103_46 h (by first | (rw [hacc, he]; rfl) | (rw [hacc, show 100 - i = 100 - (i + 1) + 1 from (by omega), zeu, if_pos h20]))
  · have hlt : i < 100 := by
      rcases Nat.lt_or_ge i 100 with q | q
      · exact q
      · exact absurd (nI_le q (by omega)) h13
    refine r_ll hP c103_16 rfl ?_
    refine r_lc hP c103_18 ?_
    refine r_lcmp hP c103_19 ?_
    refine r_ifeqL hP c103_20 (fun h20 => ?_) (fun h20 => ?_)
    · refine r_ll hP c103_44 rfl ?_
      exact r_lrE hP c103_46 h (by first | (rw [hacc, he]; rfl) | (rw [hacc, show 100 - i = 100 - (i + 1) + 1 from (by omega), zeu, if_pos h20]))
    · refine r_ll hP c103_23 rfl ?_
      refine r_ll hP c103_25 rfl ?_
      refine r_lrem hP c103_27 h20 ?_
      refine r_ls (ls' := [.long a, .null, .long b, .null, .long x, .null, .long y, .null, .int (nI i), .long (x - x / y * y), .null]) hP c103_28 (Nat.le_of_ble_eq_true rfl) rfl ?_
      refine r_ll hP c103_30 rfl ?_
      refine r_ls (ls' := [.long a, .null, .long b, .null, .long y, .null, .long y, .null, .int (nI i), .long (x - x / y * y), .null]) hP c103_32 (Nat.le_of_ble_eq_true rfl) rfl ?_
      refine r_ll hP c103_34 rfl ?_
      refine r_ls (ls' := [.long a, .null, .long b, .null, .long y, .null, .long (x - x / y * y), .null, .int (nI i), .long (x - x / y * y), .null]) hP c103_36 (Nat.le_of_ble_eq_true rfl) rfl ?_
      refine r_inc (y := nI (i + 1)) (ls' := [.long a, .null, .long b, .null, .long y, .null, .long (x - x / y * y), .null, .int (nI (i + 1)), .long (x - x / y * y), .null]) hP c103_38 rfl (nI_1 _) rfl ?_
      refine r_goto hP c103_41 ?_
      exact ih hlt _ _ _ _ (by rw [hacc, show 100 - i = 100 - (i + 1) + 1 from (by omega), zeu, if_neg h20])
set_option maxRecDepth 4000 in
theorem x_euclid {K : ZKh} {P : Nat → Nat → List Value → List Value → ZMi → ZMl → ZMr → ZRt → Prop} {I : ZMi} {L : ZMl} {R : ZMr} {Q : ZRt} (hP : ZCl K P) {a b : Int64} (h : Q (some (.long (zeu 100 a b))) I L R) : P 103 0 [.long a, .null, .long b, .null, .null, .null, .null, .null, .null, .null, .null] [] I L R Q := by
  refine r_ll hP c103_0 rfl ?_
  refine r_ls (ls' := [.long a, .null, .long b, .null, .long a, .null, .null, .null, .null, .null, .null]) hP c103_1 (Nat.le_of_ble_eq_true rfl) rfl ?_
  refine r_ll hP c103_3 rfl ?_
  refine r_ls (ls' := [.long a, .null, .long b, .null, .long a, .null, .long b, .null, .null, .null, .null]) hP c103_4 (Nat.le_of_ble_eq_true rfl) rfl ?_
  refine r_ic hP c103_6 ?_
  refine r_is (ls' := [.long a, .null, .long b, .null, .long a, .null, .long b, .null, .int 0, .null, .null]) hP c103_7 (Nat.le_of_ble_eq_true rfl) rfl ?_
  exact x_euclid_l hP h 0 (Nat.zero_le _) _ _ _ _ rfl
def zmn (k : Nat) : Int32 := match k with
  | 0 => 1
  | 1 => 3
  | 2 => 2
  | 3 => 4
  | _ => 5
set_option maxRecDepth 4000 in
theorem x_minutes {K : ZKh} {P : Nat → Nat → List Value → List Value → ZMi → ZMl → ZMr → ZRt → Prop} {I : ZMi} {L : ZMl} {R : ZMr} {Q : ZRt} (hP : ZCl K P) {k : Nat} (hK : zKa K) (hmn : ∀ k, k < 5 → I 1 k = zmn k) (hk : k < 5) (h : Q (some (.int (zmn k))) I L R) : P 36 0 [.int (nI k)] [] I L R Q := by
  refine r_il hP c36_0 rfl ?_
  refine r_iflt hP c36_1 (fun h1 => absurd h1 (nI_pos (by omega))) (fun h1 => ?_)
  refine r_il hP c36_4 rfl ?_
  refine r_gs hP c36_5 ?_
  refine r_alen (n := 5) hP c36_8 hK.2 ?_
  refine r_ige hP c36_9 (fun h9 => absurd h9 (nI_ge (by omega) (by decide))) (fun h9 => ?_)
  refine r_gs hP c36_12 ?_
  refine r_il hP c36_15 rfl ?_
  refine r_iald (j := k) (x := zmn k) hP c36_16 hK.2 rfl (by omega) (hmn k (by omega)) ?_
  refine r_goto hP c36_17 ?_
  exact r_irE hP c36_21 h (by rfl)
set_option maxRecDepth 4000 in
theorem x_isBetter {K : ZKh} {P : Nat → Nat → List Value → List Value → ZMi → ZMl → ZMr → ZRt → Prop} {I : ZMi} {L : ZMl} {R : ZMr} {Q : ZRt} (hP : ZCl K P) {k k0 : Nat} {x x0 : Int64} {r r0 : Int32} (hK : zKa K) (hR : zRa R) (hmn : ∀ k, k < 5 → I 1 k = zmn k) (hk : k < 5) (hk0 : k0 < 5) (e1 : I 34 1 = nI k0) (e3 : L 34 3 = x0) (e4 : I 34 4 = r0) (h : Q (some (.int (if x < x0 ∨ (x = x0 ∧ (r < r0 ∨ (r = r0 ∧ zmn k < zmn k0))) then 1 else 0))) I L R) : P 35 0 [.ref 34, .int (nI k), .long x, .null, .int r] [] I L R Q := by
  refine r_ll hP c35_0 rfl ?_
  refine r_al hP c35_1 rfl ?_
  refine r_gL (x := x0) hP c35_2 (zj34 hK) e3 ?_
  refine r_lcmp hP c35_5 ?_
  refine r_ifeqL hP c35_6 (fun h6 => ?_) (fun h6 => ?_)
  · refine r_il hP c35_24 rfl ?_
    refine r_al hP c35_26 rfl ?_
    refine r_gI (x := r0) hP c35_27 (zj34 hK) e4 ?_
    refine r_ieq hP c35_30 (fun h30 => ?_) (fun h30 => ?_)
    · refine r_il hP c35_48 rfl ?_
      refine r_cSi (as := [.int (nI k)]) (r := []) (I' := I) (L' := L) (R' := R) (x := zmn k) hP c35_49 rfl rfl (fun _ hq => x_minutes hP hK hmn hk hq) ?_
      refine r_al hP c35_52 rfl ?_
      refine r_gI (x := nI k0) hP c35_53 (zj34 hK) e1 ?_
      refine r_cSi (as := [.int (nI k0)]) (r := [.int (zmn k)]) (I' := I) (L' := L) (R' := R) (x := zmn k0) hP c35_56 rfl rfl (fun _ hq => x_minutes hP hK hmn hk0 hq) ?_
      refine r_ige hP c35_59 (fun h59 => ?_) (fun h59 => ?_)
      · refine r_ic hP c35_66 ?_
        exact r_zr0 hP c35_67 (by first
          | exact Or.inl (Int64.not_le.mp h15)
          | exact fun q => Or.elim q (fun z => absurd h15 (Int64.not_le.mpr z)) (fun z => h6 z.1)
          | exact Or.inr ⟨h6, Or.inl (Int32.not_le.mp h39)⟩
          | exact fun q => Or.elim q (fun z => Int64.lt_irrefl (h6 ▸ z)) (fun z => Or.elim z.2 (fun y => absurd h39 (Int32.not_le.mpr y)) (fun y => h30 y.1))
          | exact Or.inr ⟨h6, Or.inr ⟨h30, Int32.not_le.mp h59⟩⟩
          | exact fun q => Or.elim q (fun z => Int64.lt_irrefl (h6 ▸ z)) (fun z => Or.elim z.2 (fun y => Int32.lt_irrefl (h30 ▸ y)) (fun y => absurd h59 (Int32.not_le.mpr y.2)))) h
      · refine r_ic hP c35_62 ?_
        refine r_goto hP c35_63 ?_
        exact r_zr1 hP c35_67 (by first
          | exact Or.inl (Int64.not_le.mp h15)
          | exact fun q => Or.elim q (fun z => absurd h15 (Int64.not_le.mpr z)) (fun z => h6 z.1)
          | exact Or.inr ⟨h6, Or.inl (Int32.not_le.mp h39)⟩
          | exact fun q => Or.elim q (fun z => Int64.lt_irrefl (h6 ▸ z)) (fun z => Or.elim z.2 (fun y => absurd h39 (Int32.not_le.mpr y)) (fun y => h30 y.1))
          | exact Or.inr ⟨h6, Or.inr ⟨h30, Int32.not_le.mp h59⟩⟩
          | exact fun q => Or.elim q (fun z => Int64.lt_irrefl (h6 ▸ z)) (fun z => Or.elim z.2 (fun y => Int32.lt_irrefl (h30 ▸ y)) (fun y => absurd h59 (Int32.not_le.mpr y.2)))) h
    · refine r_il hP c35_33 rfl ?_
      refine r_al hP c35_35 rfl ?_
      refine r_gI (x := r0) hP c35_36 (zj34 hK) e4 ?_
      refine r_ige hP c35_39 (fun h39 => ?_) (fun h39 => ?_)
      · refine r_ic hP c35_46 ?_
        exact r_zr0 hP c35_47 (by first
          | exact Or.inl (Int64.not_le.mp h15)
          | exact fun q => Or.elim q (fun z => absurd h15 (Int64.not_le.mpr z)) (fun z => h6 z.1)
          | exact Or.inr ⟨h6, Or.inl (Int32.not_le.mp h39)⟩
          | exact fun q => Or.elim q (fun z => Int64.lt_irrefl (h6 ▸ z)) (fun z => Or.elim z.2 (fun y => absurd h39 (Int32.not_le.mpr y)) (fun y => h30 y.1))
          | exact Or.inr ⟨h6, Or.inr ⟨h30, Int32.not_le.mp h59⟩⟩
          | exact fun q => Or.elim q (fun z => Int64.lt_irrefl (h6 ▸ z)) (fun z => Or.elim z.2 (fun y => Int32.lt_irrefl (h30 ▸ y)) (fun y => absurd h59 (Int32.not_le.mpr y.2)))) h
      · refine r_ic hP c35_42 ?_
        refine r_goto hP c35_43 ?_
        exact r_zr1 hP c35_47 (by first
          | exact Or.inl (Int64.not_le.mp h15)
          | exact fun q => Or.elim q (fun z => absurd h15 (Int64.not_le.mpr z)) (fun z => h6 z.1)
          | exact Or.inr ⟨h6, Or.inl (Int32.not_le.mp h39)⟩
          | exact fun q => Or.elim q (fun z => Int64.lt_irrefl (h6 ▸ z)) (fun z => Or.elim z.2 (fun y => absurd h39 (Int32.not_le.mpr y)) (fun y => h30 y.1))
          | exact Or.inr ⟨h6, Or.inr ⟨h30, Int32.not_le.mp h59⟩⟩
          | exact fun q => Or.elim q (fun z => Int64.lt_irrefl (h6 ▸ z)) (fun z => Or.elim z.2 (fun y => Int32.lt_irrefl (h30 ▸ y)) (fun y => absurd h59 (Int32.not_le.mpr y.2)))) h
  · refine r_ll hP c35_9 rfl ?_
    refine r_al hP c35_10 rfl ?_
    refine r_gL (x := x0) hP c35_11 (zj34 hK) e3 ?_
    refine r_lcmp hP c35_14 ?_
    refine r_ifgeL hP c35_15 (fun h15 => ?_) (fun h15 => ?_)
    · refine r_ic hP c35_22 ?_
      exact r_zr0 hP c35_23 (by first
        | exact Or.inl (Int64.not_le.mp h15)
        | exact fun q => Or.elim q (fun z => absurd h15 (Int64.not_le.mpr z)) (fun z => h6 z.1)
        | exact Or.inr ⟨h6, Or.inl (Int32.not_le.mp h39)⟩
        | exact fun q => Or.elim q (fun z => Int64.lt_irrefl (h6 ▸ z)) (fun z => Or.elim z.2 (fun y => absurd h39 (Int32.not_le.mpr y)) (fun y => h30 y.1))
        | exact Or.inr ⟨h6, Or.inr ⟨h30, Int32.not_le.mp h59⟩⟩
        | exact fun q => Or.elim q (fun z => Int64.lt_irrefl (h6 ▸ z)) (fun z => Or.elim z.2 (fun y => Int32.lt_irrefl (h30 ▸ y)) (fun y => absurd h59 (Int32.not_le.mpr y.2)))) h
    · refine r_ic hP c35_18 ?_
      refine r_goto hP c35_19 ?_
      exact r_zr1 hP c35_23 (by first
        | exact Or.inl (Int64.not_le.mp h15)
        | exact fun q => Or.elim q (fun z => absurd h15 (Int64.not_le.mpr z)) (fun z => h6 z.1)
        | exact Or.inr ⟨h6, Or.inl (Int32.not_le.mp h39)⟩
        | exact fun q => Or.elim q (fun z => Int64.lt_irrefl (h6 ▸ z)) (fun z => Or.elim z.2 (fun y => absurd h39 (Int32.not_le.mpr y)) (fun y => h30 y.1))
        | exact Or.inr ⟨h6, Or.inr ⟨h30, Int32.not_le.mp h59⟩⟩
        | exact fun q => Or.elim q (fun z => Int64.lt_irrefl (h6 ▸ z)) (fun z => Or.elim z.2 (fun y => Int32.lt_irrefl (h30 ▸ y)) (fun y => absurd h59 (Int32.not_le.mpr y.2)))) h
