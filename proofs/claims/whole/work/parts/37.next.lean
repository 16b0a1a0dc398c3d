/-! ===== the class: the next ask ===== -/
def zwu (S : ZS) (nS nP k j : Nat) (m : Int32) (a : (Nat → Int64) × Int64) (c : Nat) : (Nat → Int64) × Int64 := if 0 ≤ zrep S nS nP c k j m ∧ zrep S nS nP c k j m ≤ 9 then (fun i => if i = (zrep S nS nP c k j m).toNatClampNeg then a.1 i + zwt S c nP else a.1 i, if a.1 (zrep S nS nP c k j m).toNatClampNeg + zwt S c nP < a.2 then a.2 else a.1 (zrep S nS nP c k j m).toNatClampNeg + zwt S c nP) else a
def zwo (S : ZS) (nS nP k j : Nat) (m : Int32) (cs : List Nat) : (Nat → Int64) × Int64 := cs.foldl (zwu S nS nP k j m) (fun _ => 0, 0)
theorem zwo_s {S : ZS} {nS nP k j : Nat} {m : Int32} {cs : List Nat} {c : Nat} (hc : c < cs.length) : zwo S nS nP k j m (cs.take (c + 1)) = zwu S nS nP k j m (zwo S nS nP k j m (cs.take c)) (cs.getD c 0) := by
  rw [z_take hc, zwo, List.foldl_append]; rfl
theorem zwu_n {S : ZS} {nS nP k j : Nat} {m : Int32} {a : (Nat → Int64) × Int64} {c : Nat} (h : ¬ (0 ≤ zrep S nS nP c k j m ∧ zrep S nS nP c k j m ≤ 9)) : zwu S nS nP k j m a c = a := if_neg h
theorem zwu_y {S : ZS} {nS nP k j : Nat} {m : Int32} {a : (Nat → Int64) × Int64} {c r : Nat} (hre : zrep S nS nP c k j m = nI r) (hr : r ≤ 9) : zwu S nS nP k j m a c = (fun i => if i = r then a.1 i + zwt S c nP else a.1 i, if a.1 r + zwt S c nP < a.2 then a.2 else a.1 r + zwt S c nP) := by
  have h : 0 ≤ zrep S nS nP c k j m ∧ zrep S nS nP c k j m ≤ 9 := by
    rw [hre]; exact ⟨nI_pos' (by omega), nI_le (b := 9) hr (by decide)⟩
  rw [zwu, if_pos h, hre, nI_clamp (by omega)]
abbrev ZB : Type := Int32 × Int32 × Int64 × Int32
def zbt (b : ZB) (k o : Nat) (x : Int64) (r : Int32) : ZB := if b.1 = -4 ∨ (x < b.2.2.1 ∨ (x = b.2.2.1 ∧ (r < b.2.2.2 ∨ (r = b.2.2.2 ∧ zmn k < zmn b.1.toNatClampNeg)))) then (nI k, nI o, x, r) else b
def zfo (S : ZS) (nS nP : Nat) (m : Int32) (cs : List Nat) (k : Nat) (b : ZB) : Nat → ZB
  | 0 => b
  | o + 1 => zbt (zfo S nS nP m cs k b o) k o (zwo S nS nP k o m cs).2 (zrisk S nS nP (nI k) (nI o))
def zfk (S : ZS) (nS nP : Nat) (m : Int32) (cs : List Nat) : Nat → ZB
  | 0 => (-4, 0, 0, 0)
  | k + 1 => zfo S nS nP m cs k (zfk S nS nP m cs k) (zak (nI k) nS nP)
def zBm (I : ZMi) (L : ZMl) (b : ZB) : Prop := I 34 1 = b.1 ∧ (¬ b.1 = -4 → (∃ k0, k0 < 5 ∧ b.1 = nI k0) ∧ I 34 2 = b.2.1 ∧ L 34 3 = b.2.2.1 ∧ I 34 4 = b.2.2.2)
def zfF (I I' : ZMi) : Prop := ∀ a k, ¬ (9 ≤ a ∧ a < 16) → a ≠ 34 → I' a k = I a k
def zfG (L L' : ZMl) : Prop := ∀ a k, a ≠ 34 → a ≠ 35 → L' a k = L a k
theorem zfF_t {I I' I2 : ZMi} (h : zfF I I') (h2 : zfF I' I2) : zfF I I2 := fun a k x y => (h2 a k x y).trans (h a k x y)
theorem zfG_t {L L' L2 : ZMl} (h : zfG L L') (h2 : zfG L' L2) : zfG L L2 := fun a k x y => (h2 a k x y).trans (h a k x y)
theorem zfF_b {I I' : ZMi} (h : zfr I I') : zfF I I' := fun a k x _ => h a x k
theorem zfG_w {L L' : ZMl} (h : ∀ x k, x ≠ 35 → L' x k = L x k) : zfG L L' := fun a k _ y => h a k y
theorem zfF_u {I I' : ZMi} (h : zfF I I') {k : Nat} {x : Int32} : zfF I (zup I' 34 k x) := fun a j p q => by rw [zup_na _ _ _ _ q]; exact h a j p q
theorem zfG_u {L L' : ZMl} (h : zfG L L') {k : Nat} {x : Int64} : zfG L (zup L' 34 k x) := fun a j p q => by rw [zup_na _ _ _ _ p]; exact h a j p q
theorem zC_fF {I I' : ZMi} {w : Nat} {S : ZS} {nS nP nW : Nat} (h : zC I w S nS nP nW) (hf : zfF I I') (hw : zisW w) (hs6 : nS ≤ 6) (hp8 : nP ≤ 8) (hw6 : nW ≤ 6) : zC I' w S nS nP nW := zC_to h (fun a h1 h2 k => hf a k (by have := zW39 hw; omega) (by have := zW39 hw; omega)) hs6 hp8 hw6
theorem zne4 : ∀ k, k < 5 → ¬ nI k = -4 := by decide +kernel
theorem zBm_up {I : ZMi} {L : ZMl} {k o : Nat} {x : Int64} {r : Int32} (hk : k < 5) : zBm (zup (zup (zup I 34 1 (nI k)) 34 2 (nI o)) 34 4 r) (zup L 34 3 x) (nI k, nI o, x, r) := by
  refine ⟨?_, fun _ => ⟨⟨k, hk, rfl⟩, ?_, zup_s _ _ _ _, zup_s _ _ _ _⟩⟩
  · rw [zup_n _ _ _ _ (by omega), zup_n _ _ _ _ (by omega), zup_s]
  · rw [zup_n _ _ _ _ (by omega), zup_s]
theorem zBm_to {I I' : ZMi} {L L' : ZMl} {b : ZB} (h : zBm I L b) (h1 : ∀ k, I' 34 k = I 34 k) (h2 : ∀ k, L' 34 k = L 34 k) : zBm I' L' b := by
  refine ⟨(h1 1).trans h.1, fun q => ?_⟩
  obtain ⟨a, b, c, d⟩ := h.2 q
  exact ⟨a, (h1 2).trans b, (h2 3).trans c, (h1 4).trans d⟩
theorem zbt_ne {b : ZB} {k o : Nat} {x : Int64} {r : Int32} (hk : k < 5) : ¬ (zbt b k o x r).1 = -4 := by
  unfold zbt
  split
  · exact zne4 k hk
  · rename_i h
    exact fun q => h (Or.inl q)
theorem zfk_ne {S : ZS} {nS nP : Nat} {m : Int32} {cs : List Nat} (hs1 : 1 ≤ nS) : ¬ (zfk S nS nP m cs 5).1 = -4 := by
  obtain ⟨n, rfl⟩ : ∃ n, nS = n + 1 := ⟨nS - 1, by omega⟩
  show ¬ (zfo S (n + 1) nP m cs 4 (zfk S (n + 1) nP m cs 4) (n + 1)).1 = -4
  rw [zfo]
  exact zbt_ne (by decide)
def f_next (S : ZS) (nS nP : Nat) (cs : List Nat) (m y : Int32) : Int64 := if (0 ≤ m ∧ m ≤ 30) ∧ (0 ≤ y ∧ y ≤ 2) then (if cs.length = 0 then -4 else if y = 0 then (zfk S nS nP m cs 5).1.toInt64 else if y = 1 then (zfk S nS nP m cs 5).2.1.toInt64 else (zfk S nS nP m cs 5).2.2.1) else -1
set_option maxRecDepth 4000 in
theorem x_worst_a {K : ZKh} {P : Nat → Nat → List Value → List Value → ZMi → ZMl → ZMr → ZRt → Prop} {I : ZMi} {L : ZMl} {R : ZMr} {Q : ZRt} (hP : ZCl K P) {w nS nP nW : Nat} {S : ZS} (hK : zKa K) (hR : zRa R) (hw : zisW w) (hC : zC I w S nS nP nW) (hp8 : nP ≤ 8) (hs6 : nS ≤ 6) (hw6 : nW ≤ 6) (hs1 : 1 ≤ nS) (hsg : ∀ p, p < nP → ∃ a, a < nS ∧ S 3 p 0 = nI a) {cs : List Nat} (hcs : zCs I L S nP cs) (hok : zok S nP cs) {k j : Nat} {m : Int32} (hk : k < 5) (hj : j < zak (nI k) nS nP) (hx : ∀ L2, (∀ x k, x ≠ 35 → L2 x k = L x k) → (∀ i, i < 10 → L2 35 i = 0) → P 37 24 [.ref 34, .ref w, .ref 7, .ref 31, .int (nI k), .int (nI j), .int m, .int (nI 10), .null, .null, .null] [] I L2 R Q) : ∀ a, a ≤ 10 → ∀ (L1 : ZMl), (∀ x k, x ≠ 35 → L1 x k = L x k) ∧ (∀ i, i < a → L1 35 i = 0) → P 37 3 [.ref 34, .ref w, .ref 7, .ref 31, .int (nI k), .int (nI j), .int m, .int (nI a), .null, .null, .null] [] I L1 R Q := by
  refine zloop 10 (fun a => ∀ (L1 : ZMl), (∀ x k, x ≠ 35 → L1 x k = L x k) ∧ (∀ i, i < a → L1 35 i = 0) → P 37 3 [.ref 34, .ref w, .ref 7, .ref 31, .int (nI k), .int (nI j), .int m, .int (nI a), .null, .null, .null] [] I L1 R Q) ?_
  intro a hle ih L1 hacc
  refine r_il hP c37_3 rfl ?_
  refine r_ic hP c37_5 ?_
  refine r_igt hP c37_7 (fun h7 => ?_) (fun h7 => ?_)
  · have he : a = 10 := by
      have := (nI_ltI (a := 9) (by decide) (by omega)).mp h7
      omega
    subst he
    exact hx _ hacc.1 hacc.2
  · have hlt : a < 10 := by
      have := (not_congr (nI_ltI (a := 9) (by decide) (by omega))).mp h7
      omega
    refine r_al hP c37_10 rfl ?_
    refine r_gR (x := 35) hP c37_11 (zj34 hK) (zr34_0 hR) ?_
    refine r_il hP c37_14 rfl ?_
    refine r_lc hP c37_16 ?_
    refine r_last (j := a) hP c37_17 (zk35 hK) rfl (by omega) ?_
    refine r_inc (y := nI (a + 1)) (ls' := [.ref 34, .ref w, .ref 7, .ref 31, .int (nI k), .int (nI j), .int m, .int (nI (a + 1)), .null, .null, .null]) hP c37_18 rfl (nI_1 _) rfl ?_
    refine r_goto hP c37_21 ?_
    exact ih hlt _ ⟨fun x k q => by rw [zup_na _ _ _ _ q]; exact hacc.1 x k q, fun i hi => by
      rcases Nat.lt_or_ge i a with z | z
      · rw [zup_n _ _ _ _ (by omega)]; exact hacc.2 i z
      · rw [show i = a from by omega, zup_s]⟩
set_option maxRecDepth 4000 in
theorem x_worst_b {K : ZKh} {P : Nat → Nat → List Value → List Value → ZMi → ZMl → ZMr → ZRt → Prop} {I : ZMi} {L : ZMl} {R : ZMr} {Q : ZRt} (hP : ZCl K P) {w nS nP nW : Nat} {S : ZS} (hK : zKa K) (hR : zRa R) (hw : zisW w) (hC : zC I w S nS nP nW) (hp8 : nP ≤ 8) (hs6 : nS ≤ 6) (hw6 : nW ≤ 6) (hs1 : 1 ≤ nS) (hsg : ∀ p, p < nP → ∃ a, a < nS ∧ S 3 p 0 = nI a) {cs : List Nat} (hcs : zCs I L S nP cs) (hok : zok S nP cs) {k j : Nat} {m : Int32} (hk : k < 5) (hj : j < zak (nI k) nS nP) (h : ∀ I2 L2, zfr I I2 → (∀ x k, x ≠ 35 → L2 x k = L x k) → Q (some (.long (zwo S nS nP k j m cs).2)) I2 L2 R) : ∀ c, c ≤ cs.length → ∀ (I1 : ZMi) (L1 : ZMl) (acc : Int64) (v10 : Value), zfr I I1 ∧ (∀ x k, x ≠ 35 → L1 x k = L x k) ∧ (∀ i, i < 10 → L1 35 i = (zwo S nS nP k j m (cs.take c)).1 i) ∧ acc = (zwo S nS nP k j m (cs.take c)).2 → P 37 30 [.ref 34, .ref w, .ref 7, .ref 31, .int (nI k), .int (nI j), .int m, .long acc, .null, .int (nI c), v10] [] I1 L1 R Q := by
  refine zloop cs.length (fun c => ∀ (I1 : ZMi) (L1 : ZMl) (acc : Int64) (v10 : Value), zfr I I1 ∧ (∀ x k, x ≠ 35 → L1 x k = L x k) ∧ (∀ i, i < 10 → L1 35 i = (zwo S nS nP k j m (cs.take c)).1 i) ∧ acc = (zwo S nS nP k j m (cs.take c)).2 → P 37 30 [.ref 34, .ref w, .ref 7, .ref 31, .int (nI k), .int (nI j), .int m, .long acc, .null, .int (nI c), v10] [] I1 L1 R Q) ?_
  intro c hle ih I1 L1 acc v10 hacc
  refine r_il hP c37_30 rfl ?_
  refine r_al hP c37_32 rfl ?_
  refine r_gI (x := nI cs.length) hP c37_33 (zj31 hK) ((hacc.1 31 (by decide) 2).trans hcs.1) ?_
  refine r_ige hP c37_36 (fun h36 => ?_) (fun h36 => ?_)
  · have he : c = cs.length := Nat.le_antisymm hle ((nI_leI (by have := hok.1; omega) (by have := hok.1; omega)).mp h36)
    refine r_ll hP c37_107 rfl ?_
    rw [he, List.take_length] at hacc
    exact r_lrE hP c37_109 (h _ _ hacc.1 hacc.2.1) hacc.2.2.2
  · have hlt : c < cs.length := by
      rcases Nat.lt_or_ge c cs.length with q | q
      · exact q
      · exact absurd (nI_le q (by have := hok.1; omega)) h36
    refine r_al hP c37_39 rfl ?_
    refine r_al hP c37_40 rfl ?_
    refine r_al hP c37_41 rfl ?_
    refine r_gR (x := 32) hP c37_42 (zj31 hK) (zr31_0 hR) ?_
    refine r_il hP c37_45 rfl ?_
    refine r_iald (j := c) (x := nI (cs.getD c 0)) hP c37_47 (zk32 hK) rfl (by have := hok.1; omega) ((hacc.1 32 (by decide) c).trans (hcs.2.1 c hlt).1) ?_
    refine r_il hP c37_48 rfl ?_
    refine r_il hP c37_50 rfl ?_
    refine r_il hP c37_52 rfl ?_
    refine r_cVip (as := [.ref w, .int (nI (cs.getD c 0)), .int (nI k), .int (nI j), .int m]) (r := []) (a := 7) hP c37_54 rfl (zj7 hK) rfl (fun z I2 L2 R2 => (z = zrep S nS nP (cs.getD c 0) k j m ∧ zfr I1 I2) ∧ L1 = L2 ∧ R = R2) (fun Q2 hq => x_reply hP hK hR hw (zC_fr hC hacc.1 hw hs6 hp8 hw6) hp8 hs6 hw6 hs1 hsg (zok_256 hok hp8 _ (z_mem hlt)) hk hj (fun I2 h2 => hq _ I2 L1 R ⟨⟨rfl, h2⟩, rfl, rfl⟩)) ?_
    rintro z I2 L2 R2 ⟨⟨rfl, h2⟩, rfl, rfl⟩
    refine r_is (ls' := [.ref 34, .ref w, .ref 7, .ref 31, .int (nI k), .int (nI j), .int m, .long acc, .null, .int (nI c), .int (zrep S nS nP (cs.getD c 0) k j m)]) hP c37_57 (Nat.le_of_ble_eq_true rfl) rfl ?_
    refine r_il hP c37_59 rfl ?_
    refine r_ic hP c37_61 ?_
    refine r_ic hP c37_62 ?_
    refine r_cSi (as := [.int (zrep S nS nP (cs.getD c 0) k j m), .int 0, .int 9]) (r := []) (I' := I2) (L' := L1) (R' := R) (x := if 0 ≤ zrep S nS nP (cs.getD c 0) k j m ∧ zrep S nS nP (cs.getD c 0) k j m ≤ 9 then 1 else 0) hP c37_64 rfl rfl (fun _ h2 => x_within hP h2) ?_
    refine r_ifeqB hP c37_67 (fun h67 => ?_) (fun h67 => ?_)
    · refine r_inc (y := nI (c + 1)) (ls' := [.ref 34, .ref w, .ref 7, .ref 31, .int (nI k), .int (nI j), .int m, .long acc, .null, .int (nI (c + 1)), .int (zrep S nS nP (cs.getD c 0) k j m)]) hP c37_101 rfl (nI_1 _) rfl ?_
      refine r_goto hP c37_104 ?_
      exact ih hlt _ _ _ _ (by
        rw [zwo_s hlt]
        first
          | (rw [zwu_n h67]; exact ⟨zfr_t hacc.1 h2, hacc.2⟩)
          | (rw [zwu_y hre hr]
             refine ⟨zfr_t hacc.1 h2, fun x k q => ?_, fun i hi => ?_, by rw [hacc.2.2.2]⟩
             · rw [zup_na _ _ _ _ q]; exact hacc.2.1 x k q
             · by_cases z : i = r
               · subst z
                 rw [zup_s]; exact (if_pos rfl).symm
               · rw [zup_n _ _ _ _ (by omega)]; exact (hacc.2.2.1 i hi).trans (if_neg z).symm))
    · obtain ⟨r, hr, hre⟩ := zb_nI (n := 9) rfl (by decide) h67
      refine r_al hP c37_70 rfl ?_
      refine r_gR (x := 35) hP c37_71 (zj34 hK) (zr34_0 hR) ?_
      refine r_il hP c37_74 rfl ?_
      refine r_dup2 hP c37_76 rfl rfl ?_
      refine r_lald (j := r) (x := (zwo S nS nP k j m (cs.take c)).1 r) hP c37_77 (zk35 hK) hre (by omega) (hacc.2.2.1 r (by omega)) ?_
      refine r_al hP c37_78 rfl ?_
      refine r_gR (x := 33) hP c37_79 (zj31 hK) (zr31_1 hR) ?_
      refine r_il hP c37_82 rfl ?_
      refine r_lald (j := c) (x := zwt S (cs.getD c 0) nP) hP c37_84 (zk33 hK) rfl (by have := hok.1; omega) ((hacc.2.1 33 c (by decide)).trans (hcs.2.1 c hlt).2) ?_
      refine r_ladd hP c37_85 ?_
      refine r_last (j := r) hP c37_86 (zk35 hK) hre (by omega) ?_
      refine r_ll hP c37_87 rfl ?_
      refine r_al hP c37_89 rfl ?_
      refine r_gR (x := 35) hP c37_90 (zj34 hK) (zr34_0 hR) ?_
      refine r_il hP c37_93 rfl ?_
      refine r_lald (j := r) (x := ((zwo S nS nP k j m (cs.take c)).1 r) + (zwt S (cs.getD c 0) nP)) hP c37_95 (zk35 hK) hre (by omega) (zup_s _ _ _ _) ?_
      refine r_mmaxl hP c37_96 rfl ?_
      refine r_ls (ls' := [.ref 34, .ref w, .ref 7, .ref 31, .int (nI k), .int (nI j), .int m, .long (if ((zwo S nS nP k j m (cs.take c)).1 r) + (zwt S (cs.getD c 0) nP) < acc then acc else ((zwo S nS nP k j m (cs.take c)).1 r) + (zwt S (cs.getD c 0) nP)), .null, .int (nI c), .int (zrep S nS nP (cs.getD c 0) k j m)]) hP c37_99 (Nat.le_of_ble_eq_true rfl) rfl ?_
      refine r_inc (y := nI (c + 1)) (ls' := [.ref 34, .ref w, .ref 7, .ref 31, .int (nI k), .int (nI j), .int m, .long (if ((zwo S nS nP k j m (cs.take c)).1 r) + (zwt S (cs.getD c 0) nP) < acc then acc else ((zwo S nS nP k j m (cs.take c)).1 r) + (zwt S (cs.getD c 0) nP)), .null, .int (nI (c + 1)), .int (zrep S nS nP (cs.getD c 0) k j m)]) hP c37_101 rfl (nI_1 _) rfl ?_
      refine r_goto hP c37_104 ?_
      exact ih hlt _ _ _ _ (by
        rw [zwo_s hlt]
        first
          | (rw [zwu_n h67]; exact ⟨zfr_t hacc.1 h2, hacc.2⟩)
          | (rw [zwu_y hre hr]
             refine ⟨zfr_t hacc.1 h2, fun x k q => ?_, fun i hi => ?_, by rw [hacc.2.2.2]⟩
             · rw [zup_na _ _ _ _ q]; exact hacc.2.1 x k q
             · by_cases z : i = r
               · subst z
                 rw [zup_s]; exact (if_pos rfl).symm
               · rw [zup_n _ _ _ _ (by omega)]; exact (hacc.2.2.1 i hi).trans (if_neg z).symm))
set_option maxRecDepth 4000 in
theorem x_worst {K : ZKh} {P : Nat → Nat → List Value → List Value → ZMi → ZMl → ZMr → ZRt → Prop} {I : ZMi} {L : ZMl} {R : ZMr} {Q : ZRt} (hP : ZCl K P) {w nS nP nW : Nat} {S : ZS} (hK : zKa K) (hR : zRa R) (hw : zisW w) (hC : zC I w S nS nP nW) (hp8 : nP ≤ 8) (hs6 : nS ≤ 6) (hw6 : nW ≤ 6) (hs1 : 1 ≤ nS) (hsg : ∀ p, p < nP → ∃ a, a < nS ∧ S 3 p 0 = nI a) {cs : List Nat} (hcs : zCs I L S nP cs) (hok : zok S nP cs) {k j : Nat} {m : Int32} (hk : k < 5) (hj : j < zak (nI k) nS nP) (h : ∀ I2 L2, zfr I I2 → (∀ x k, x ≠ 35 → L2 x k = L x k) → Q (some (.long (zwo S nS nP k j m cs).2)) I2 L2 R) : P 37 0 [.ref 34, .ref w, .ref 7, .ref 31, .int (nI k), .int (nI j), .int m, .null, .null, .null, .null] [] I L R Q := by
  refine r_ic hP c37_0 ?_
  refine r_is (ls' := [.ref 34, .ref w, .ref 7, .ref 31, .int (nI k), .int (nI j), .int m, .int 0, .null, .null, .null]) hP c37_1 (Nat.le_of_ble_eq_true rfl) rfl ?_
  refine x_worst_a hP hK hR hw hC hp8 hs6 hw6 hs1 hsg hcs hok hk hj (fun L2 h1 h2 => ?_) 0 (Nat.zero_le _) _ ⟨fun _ _ _ => rfl, fun i hi => absurd hi (Nat.not_lt_zero i)⟩
  refine r_lc hP c37_24 ?_
  refine r_ls (ls' := [.ref 34, .ref w, .ref 7, .ref 31, .int (nI k), .int (nI j), .int m, .long 0, .null, .null, .null]) hP c37_25 (Nat.le_of_ble_eq_true rfl) rfl ?_
  refine r_ic hP c37_27 ?_
  refine r_is (ls' := [.ref 34, .ref w, .ref 7, .ref 31, .int (nI k), .int (nI j), .int m, .long 0, .null, .int 0, .null]) hP c37_28 (Nat.le_of_ble_eq_true rfl) rfl ?_
  exact x_worst_b hP hK hR hw hC hp8 hs6 hw6 hs1 hsg hcs hok hk hj h 0 (Nat.zero_le _) _ _ _ _ ⟨zfr_r I, h1, h2, rfl⟩
set_option maxRecDepth 4000 in
theorem x_find_o {K : ZKh} {P : Nat → Nat → List Value → List Value → ZMi → ZMl → ZMr → ZRt → Prop} {I : ZMi} {L : ZMl} {R : ZMr} {Q : ZRt} (hP : ZCl K P) {w nS nP nW : Nat} {S : ZS} (hK : zKa K) (hR : zRa R) (hw : zisW w) (hC : zC I w S nS nP nW) (hp8 : nP ≤ 8) (hs6 : nS ≤ 6) (hw6 : nW ≤ 6) (hs1 : 1 ≤ nS) (hsg : ∀ p, p < nP → ∃ a, a < nS ∧ S 3 p 0 = nI a) {cs : List Nat} (hcs : zCs I L S nP cs) (hok : zok S nP cs) {m : Int32} (hmn : ∀ k, k < 5 → I 1 k = zmn k) {k : Nat} (hk : k < 5) (hx : ∀ I2 L2 v7 v8 v9, zfF I I2 → zfG L L2 → zBm I2 L2 (zfk S nS nP m cs (k + 1)) → P 34 106 [.ref 34, .ref w, .ref 7, .ref 31, .int m, .int (nI k), .int (nI (zak (nI k) nS nP)), v7, v8, v9] [] I2 L2 R Q) : ∀ o, o ≤ (zak (nI k) nS nP) → ∀ (I1 : ZMi) (L1 : ZMl) (v7 v8 v9 : Value), zfF I I1 ∧ zfG L L1 ∧ zBm I1 L1 (zfo S nS nP m cs k (zfk S nS nP m cs k) o) → P 34 18 [.ref 34, .ref w, .ref 7, .ref 31, .int m, .int (nI k), .int (nI o), v7, v8, v9] [] I1 L1 R Q := by
  refine zloop (zak (nI k) nS nP) (fun o => ∀ (I1 : ZMi) (L1 : ZMl) (v7 v8 v9 : Value), zfF I I1 ∧ zfG L L1 ∧ zBm I1 L1 (zfo S nS nP m cs k (zfk S nS nP m cs k) o) → P 34 18 [.ref 34, .ref w, .ref 7, .ref 31, .int m, .int (nI k), .int (nI o), v7, v8, v9] [] I1 L1 R Q) ?_
  intro o hle ih I1 L1 v7 v8 v9 hacc
  have hz8 := zak_b (x := nI k) hs6 hp8
  refine r_il hP c34_18 rfl ?_
  refine r_al hP c34_20 rfl ?_
  refine r_il hP c34_21 rfl ?_
  refine r_cVi (as := [.int (nI k)]) (r := [.int (nI o)]) (I' := I1) (L' := L1) (R' := R) (x := nI (zak (nI k) nS nP)) (a := w) hP c34_23 rfl (zj_W hK hw) rfl (fun _ hq => x_asksOf hP hK hR hw (zC_fF hC hacc.1 hw hs6 hp8 hw6) hp8 hs6 hw6 hq) ?_
  refine r_ige hP c34_26 (fun h26 => ?_) (fun h26 => ?_)
  · have he : o = zak (nI k) nS nP := Nat.le_antisymm hle ((nI_leI (by omega) (by omega)).mp h26)
    subst he
    exact hx _ _ _ _ _ hacc.1 hacc.2.1 hacc.2.2
  · have hlt : o < (zak (nI k) nS nP) := by
      rcases Nat.lt_or_ge o (zak (nI k) nS nP) with q | q
      · exact q
      · exact absurd (nI_le q (by omega)) h26
    refine r_al hP c34_29 rfl ?_
    refine r_al hP c34_30 rfl ?_
    refine r_al hP c34_31 rfl ?_
    refine r_al hP c34_32 rfl ?_
    refine r_il hP c34_33 rfl ?_
    refine r_il hP c34_35 rfl ?_
    refine r_il hP c34_37 rfl ?_
    refine r_cVlp (as := [.ref w, .ref 7, .ref 31, .int (nI k), .int (nI o), .int m]) (r := []) (a := 34) hP c34_39 rfl (zj34 hK) rfl (fun z I2 L2 R2 => (z = (zwo S nS nP k o m cs).2 ∧ zfr I1 I2 ∧ ∀ x k, x ≠ 35 → L2 x k = L1 x k) ∧ R = R2) (fun Q2 hq => x_worst hP hK hR hw (zC_fF hC hacc.1 hw hs6 hp8 hw6) hp8 hs6 hw6 hs1 hsg (zCs_to hcs (fun k => hacc.1 31 k (by decide) (by decide)) (fun k => hacc.1 32 k (by decide) (by decide)) (fun k => hacc.2.1 31 k (by decide) (by decide)) (fun k => hacc.2.1 33 k (by decide) (by decide))) hok hk hlt (fun I2 L2 a b => hq _ I2 L2 R ⟨⟨rfl, a, b⟩, rfl⟩)) ?_
    rintro z I2 L2 R2 ⟨⟨rfl, ha, hb⟩, rfl⟩
    have hF := zfF_t hacc.1 (zfF_b ha)
    have hG := zfG_t hacc.2.1 (zfG_w hb)
    have hB := zBm_to hacc.2.2 (fun k => ha 34 (by decide) k) (fun k => hb 34 k (by decide))
    refine r_ls (ls' := [.ref 34, .ref w, .ref 7, .ref 31, .int m, .int (nI k), .int (nI o), .long ((zwo S nS nP k o m cs).2), .null, v9]) hP c34_42 (Nat.le_of_ble_eq_true rfl) rfl ?_
    refine r_al hP c34_44 rfl ?_
    refine r_il hP c34_45 rfl ?_
    refine r_il hP c34_47 rfl ?_
    refine r_cVi (as := [.int (nI k), .int (nI o)]) (r := []) (I' := I2) (L' := L2) (R' := R) (x := zrisk S nS nP (nI k) (nI o)) (a := w) hP c34_49 rfl (zj_W hK hw) rfl (fun _ hq => x_riskOf hP hK hR hw (zC_fF hC hF hw hs6 hp8 hw6) hp8 hs6 hw6 (fun q => by have hz := hlt; rw [q, show zak 1 nS nP = nS from rfl] at hz; exact zr_nI hz (by omega)) hq) ?_
    refine r_is (ls' := [.ref 34, .ref w, .ref 7, .ref 31, .int m, .int (nI k), .int (nI o), .long ((zwo S nS nP k o m cs).2), .null, .int (zrisk S nS nP (nI k) (nI o))]) hP c34_52 (Nat.le_of_ble_eq_true rfl) rfl ?_
    refine r_al hP c34_54 rfl ?_
    refine r_gI (x := (zfo S nS nP m cs k (zfk S nS nP m cs k) o).1) hP c34_55 (zj34 hK) hB.1 ?_
    refine r_ic hP c34_58 ?_
    refine r_ieq hP c34_60 (fun h60 => ?_) (fun h60 => ?_)
    · refine r_al hP c34_76 rfl ?_
      refine r_il hP c34_77 rfl ?_
      refine r_pI hP c34_79 (zj34 hK) ?_
      refine r_al hP c34_82 rfl ?_
      refine r_il hP c34_83 rfl ?_
      refine r_pI hP c34_85 (zj34 hK) ?_
      refine r_al hP c34_88 rfl ?_
      refine r_ll hP c34_89 rfl ?_
      refine r_pL hP c34_91 (zj34 hK) ?_
      refine r_al hP c34_94 rfl ?_
      refine r_il hP c34_95 rfl ?_
      refine r_pI hP c34_97 (zj34 hK) ?_
      refine r_inc (y := nI (o + 1)) (ls' := [.ref 34, .ref w, .ref 7, .ref 31, .int m, .int (nI k), .int (nI (o + 1)), .long ((zwo S nS nP k o m cs).2), .null, .int (zrisk S nS nP (nI k) (nI o))]) hP c34_100 rfl (nI_1 _) rfl ?_
      refine r_goto hP c34_103 ?_
      exact ih hlt _ _ _ _ _ (by
        rw [zfo]
        first
          | exact ⟨zfF_u (zfF_u (zfF_u hF)), zfG_u hG, by rw [zbt, if_pos (Or.inl h60)]; exact zBm_up hk⟩
          | exact ⟨zfF_u (zfF_u (zfF_u hF)), zfG_u hG, by
              have hq := h73
              rw [← hkc] at hq
              rw [zbt, if_pos (Or.inr hq)]; exact zBm_up hk⟩
          | exact ⟨hF, hG, by
              have hq := h73
              rw [← hkc] at hq
              rw [zbt, if_neg (fun z => Or.elim z h60 hq)]; exact hB⟩)
    · obtain ⟨⟨k0, hk0, hbe⟩, h2, h3, h4⟩ := hB.2 h60
      have hkc : ((zfo S nS nP m cs k (zfk S nS nP m cs k) o).1).toNatClampNeg = k0 := by rw [hbe]; exact nI_clamp (by omega)
      refine r_al hP c34_63 rfl ?_
      refine r_il hP c34_64 rfl ?_
      refine r_ll hP c34_66 rfl ?_
      refine r_il hP c34_68 rfl ?_
      refine r_cVi (as := [.int (nI k), .long ((zwo S nS nP k o m cs).2), .int (zrisk S nS nP (nI k) (nI o))]) (r := []) (I' := I2) (L' := L2) (R' := R) (x := if (zwo S nS nP k o m cs).2 < (zfo S nS nP m cs k (zfk S nS nP m cs k) o).2.2.1 ∨ ((zwo S nS nP k o m cs).2 = (zfo S nS nP m cs k (zfk S nS nP m cs k) o).2.2.1 ∧ (zrisk S nS nP (nI k) (nI o) < (zfo S nS nP m cs k (zfk S nS nP m cs k) o).2.2.2 ∨ (zrisk S nS nP (nI k) (nI o) = (zfo S nS nP m cs k (zfk S nS nP m cs k) o).2.2.2 ∧ zmn k < zmn k0))) then 1 else 0) (a := 34) hP c34_70 rfl (zj34 hK) rfl (fun _ hq => x_isBetter hP hK hR (fun k hk => (hF 1 k (by decide) (by decide)).trans (hmn k hk)) hk hk0 (hB.1.trans hbe) h3 h4 hq) ?_
      refine r_ifeqB hP c34_73 (fun h73 => ?_) (fun h73 => ?_)
      · refine r_inc (y := nI (o + 1)) (ls' := [.ref 34, .ref w, .ref 7, .ref 31, .int m, .int (nI k), .int (nI (o + 1)), .long ((zwo S nS nP k o m cs).2), .null, .int (zrisk S nS nP (nI k) (nI o))]) hP c34_100 rfl (nI_1 _) rfl ?_
        refine r_goto hP c34_103 ?_
        exact ih hlt _ _ _ _ _ (by
          rw [zfo]
          first
            | exact ⟨zfF_u (zfF_u (zfF_u hF)), zfG_u hG, by rw [zbt, if_pos (Or.inl h60)]; exact zBm_up hk⟩
            | exact ⟨zfF_u (zfF_u (zfF_u hF)), zfG_u hG, by
                have hq := h73
                rw [← hkc] at hq
                rw [zbt, if_pos (Or.inr hq)]; exact zBm_up hk⟩
            | exact ⟨hF, hG, by
                have hq := h73
                rw [← hkc] at hq
                rw [zbt, if_neg (fun z => Or.elim z h60 hq)]; exact hB⟩)
      · refine r_al hP c34_76 rfl ?_
        refine r_il hP c34_77 rfl ?_
        refine r_pI hP c34_79 (zj34 hK) ?_
        refine r_al hP c34_82 rfl ?_
        refine r_il hP c34_83 rfl ?_
        refine r_pI hP c34_85 (zj34 hK) ?_
        refine r_al hP c34_88 rfl ?_
        refine r_ll hP c34_89 rfl ?_
        refine r_pL hP c34_91 (zj34 hK) ?_
        refine r_al hP c34_94 rfl ?_
        refine r_il hP c34_95 rfl ?_
        refine r_pI hP c34_97 (zj34 hK) ?_
        refine r_inc (y := nI (o + 1)) (ls' := [.ref 34, .ref w, .ref 7, .ref 31, .int m, .int (nI k), .int (nI (o + 1)), .long ((zwo S nS nP k o m cs).2), .null, .int (zrisk S nS nP (nI k) (nI o))]) hP c34_100 rfl (nI_1 _) rfl ?_
        refine r_goto hP c34_103 ?_
        exact ih hlt _ _ _ _ _ (by
          rw [zfo]
          first
            | exact ⟨zfF_u (zfF_u (zfF_u hF)), zfG_u hG, by rw [zbt, if_pos (Or.inl h60)]; exact zBm_up hk⟩
            | exact ⟨zfF_u (zfF_u (zfF_u hF)), zfG_u hG, by
                have hq := h73
                rw [← hkc] at hq
                rw [zbt, if_pos (Or.inr hq)]; exact zBm_up hk⟩
            | exact ⟨hF, hG, by
                have hq := h73
                rw [← hkc] at hq
                rw [zbt, if_neg (fun z => Or.elim z h60 hq)]; exact hB⟩)
set_option maxRecDepth 4000 in
theorem x_find_k {K : ZKh} {P : Nat → Nat → List Value → List Value → ZMi → ZMl → ZMr → ZRt → Prop} {I : ZMi} {L : ZMl} {R : ZMr} {Q : ZRt} (hP : ZCl K P) {w nS nP nW : Nat} {S : ZS} (hK : zKa K) (hR : zRa R) (hw : zisW w) (hC : zC I w S nS nP nW) (hp8 : nP ≤ 8) (hs6 : nS ≤ 6) (hw6 : nW ≤ 6) (hs1 : 1 ≤ nS) (hsg : ∀ p, p < nP → ∃ a, a < nS ∧ S 3 p 0 = nI a) {cs : List Nat} (hcs : zCs I L S nP cs) (hok : zok S nP cs) {m : Int32} (hmn : ∀ k, k < 5 → I 1 k = zmn k) (h : ∀ I2 L2, zfF I I2 → zfG L L2 → zBm I2 L2 (zfk S nS nP m cs 5) → Q none I2 L2 R) : ∀ k, k ≤ 5 → ∀ (I1 : ZMi) (L1 : ZMl) (v6 v7 v8 v9 : Value), zfF I I1 ∧ zfG L L1 ∧ zBm I1 L1 (zfk S nS nP m cs k) → P 34 9 [.ref 34, .ref w, .ref 7, .ref 31, .int m, .int (nI k), v6, v7, v8, v9] [] I1 L1 R Q := by
  refine zloop 5 (fun k => ∀ (I1 : ZMi) (L1 : ZMl) (v6 v7 v8 v9 : Value), zfF I I1 ∧ zfG L L1 ∧ zBm I1 L1 (zfk S nS nP m cs k) → P 34 9 [.ref 34, .ref w, .ref 7, .ref 31, .int m, .int (nI k), v6, v7, v8, v9] [] I1 L1 R Q) ?_
  intro k hle ih I1 L1 v6 v7 v8 v9 hacc
  refine r_il hP c34_9 rfl ?_
  refine r_ic hP c34_11 ?_
  refine r_igt hP c34_12 (fun h12 => ?_) (fun h12 => ?_)
  · have he : k = 5 := by
      have := (nI_ltI (a := 4) (by decide) (by omega)).mp h12
      omega
    subst he
    exact r_vr hP c34_112 (h _ _ hacc.1 hacc.2.1 hacc.2.2)
  · have hlt : k < 5 := by
      have := (not_congr (nI_ltI (a := 4) (by decide) (by omega))).mp h12
      omega
    refine r_ic hP c34_15 ?_
    refine r_is (ls' := [.ref 34, .ref w, .ref 7, .ref 31, .int m, .int (nI k), .int 0, v7, v8, v9]) hP c34_16 (Nat.le_of_ble_eq_true rfl) rfl ?_
    refine x_find_o hP hK hR hw hC hp8 hs6 hw6 hs1 hsg hcs hok hmn hlt (fun I2 L2 w7 w8 w9 a b c => ?_) 0 (Nat.zero_le _) _ _ _ _ _ hacc
    refine r_inc (y := nI (k + 1)) (ls' := [.ref 34, .ref w, .ref 7, .ref 31, .int m, .int (nI (k + 1)), .int (nI (zak (nI k) nS nP)), w7, w8, w9]) hP c34_106 rfl (nI_1 _) rfl ?_
    refine r_goto hP c34_109 ?_
    exact ih hlt _ _ _ _ _ _ ⟨a, b, c⟩
set_option maxRecDepth 4000 in
theorem x_find {K : ZKh} {P : Nat → Nat → List Value → List Value → ZMi → ZMl → ZMr → ZRt → Prop} {I : ZMi} {L : ZMl} {R : ZMr} {Q : ZRt} (hP : ZCl K P) {w nS nP nW : Nat} {S : ZS} (hK : zKa K) (hR : zRa R) (hw : zisW w) (hC : zC I w S nS nP nW) (hp8 : nP ≤ 8) (hs6 : nS ≤ 6) (hw6 : nW ≤ 6) (hs1 : 1 ≤ nS) (hsg : ∀ p, p < nP → ∃ a, a < nS ∧ S 3 p 0 = nI a) {cs : List Nat} (hcs : zCs I L S nP cs) (hok : zok S nP cs) {m : Int32} (hmn : ∀ k, k < 5 → I 1 k = zmn k) (h : ∀ I2 L2, zfF I I2 → zfG L L2 → zBm I2 L2 (zfk S nS nP m cs 5) → Q none I2 L2 R) : P 34 0 [.ref 34, .ref w, .ref 7, .ref 31, .int m, .null, .null, .null, .null, .null] [] I L R Q := by
  refine r_al hP c34_0 rfl ?_
  refine r_ic hP c34_1 ?_
  refine r_pI hP c34_3 (zj34 hK) ?_
  refine r_ic hP c34_6 ?_
  refine r_is (ls' := [.ref 34, .ref w, .ref 7, .ref 31, .int m, .int 0, .null, .null, .null, .null]) hP c34_7 (Nat.le_of_ble_eq_true rfl) rfl ?_
  exact x_find_k hP hK hR hw hC hp8 hs6 hw6 hs1 hsg hcs hok hmn h 0 (Nat.zero_le _) _ _ _ _ _ _ ⟨zfF_u (fun _ _ _ _ => rfl), fun _ _ _ _ => rfl, zup_s _ _ _ _, fun q => absurd rfl q⟩
set_option maxRecDepth 4000 in
theorem x_next {K : ZKh} {P : Nat → Nat → List Value → List Value → ZMi → ZMl → ZMr → ZRt → Prop} {I : ZMi} {L : ZMl} {R : ZMr} {Q : ZRt} (hP : ZCl K P) {w nS nP nW : Nat} {S : ZS} (hK : zKa K) (hR : zRa R) (hw : zisW w) (hC : zC I w S nS nP nW) (hp8 : nP ≤ 8) (hs6 : nS ≤ 6) (hw6 : nW ≤ 6) (hs1 : 1 ≤ nS) (hp1 : 1 ≤ nP) (hsg : ∀ p, p < nP → ∃ a, a < nS ∧ S 3 p 0 = nI a) (hl9 : R 2 9 = w + 1) {cs : List Nat} (hcs : zCs I L S nP cs) (hok : zok S nP cs) (hmn : ∀ k, k < 5 → I 1 k = zmn k) {m y : Int32} (h : ∀ I2 L2, zfF I I2 → zfG L L2 → Q (some (.long (f_next S nS nP cs m y))) I2 L2 R) : P 87 0 [.ref 2, .int m, .int y] [] I L R Q := by
  refine r_il hP c87_0 rfl ?_
  refine r_cSi (as := [.int m]) (r := []) (I' := I) (L' := L) (R' := R) (x := if 0 ≤ m ∧ m ≤ 30 then 1 else 0) hP c87_1 rfl rfl (fun _ h2 => x_isMinute hP h2) ?_
  refine r_ifeqB hP c87_4 (fun h4 => ?_) (fun h4 => ?_)
  · refine r_lc hP c87_16 ?_
    first
      | exact r_lrE hP c87_19 (h _ _ (fun _ _ _ _ => rfl) (fun _ _ _ _ => rfl)) (by rw [f_next, if_neg (fun q => h4 q.1)])
      | exact r_lrE hP c87_19 (h _ _ (fun _ _ _ _ => rfl) (fun _ _ _ _ => rfl)) (by rw [f_next, if_neg (fun q => h13 q.2)])
      | exact r_lrE hP c87_19 (h _ _ (fun _ _ _ _ => rfl) (fun _ _ _ _ => rfl)) (by rw [f_next, if_pos ⟨h4, h13⟩, if_pos hl0])
      | exact r_lrE hP c87_19 (h _ _ ha hb) (by rw [f_next, if_pos ⟨h4, h13⟩, if_neg hl0, if_pos h55_0])
      | exact r_lrE hP c87_19 (h _ _ ha hb) (by rw [f_next, if_pos ⟨h4, h13⟩, if_neg hl0, if_neg (fun q => by rw [h55_1] at q; exact absurd q (by decide)), if_pos h55_1])
      | exact r_lrE hP c87_19 (h _ _ ha hb) (by rw [f_next, if_pos ⟨h4, h13⟩, if_neg hl0, if_neg h55_0, if_neg h55_1])
  · refine r_il hP c87_7 rfl ?_
    refine r_ic hP c87_8 ?_
    refine r_ic hP c87_9 ?_
    refine r_cSi (as := [.int y, .int 0, .int 2]) (r := []) (I' := I) (L' := L) (R' := R) (x := if 0 ≤ y ∧ y ≤ 2 then 1 else 0) hP c87_10 rfl rfl (fun _ h2 => x_within hP h2) ?_
    refine r_ifneB hP c87_13 (fun h13 => ?_) (fun h13 => ?_)
    · refine r_al hP c87_20 rfl ?_
      refine r_gR (x := 31) hP c87_21 (zj2 hK) (zr2_6 hR) ?_
      refine r_gI (x := nI cs.length) hP c87_24 (zj31 hK) hcs.1 ?_
      refine r_ifne hP c87_27 (fun h27 => ?_) (fun h27 => ?_)
      · have hl0 : ¬ cs.length = 0 := fun q => h27 (by rw [q]; rfl)
        refine r_al hP c87_34 rfl ?_
        refine r_gR (x := 34) hP c87_35 (zj2 hK) (zr2_7 hR) ?_
        refine r_al hP c87_38 rfl ?_
        refine r_gR (x := w) hP c87_39 (zj2 hK) hl9 ?_
        refine r_al hP c87_42 rfl ?_
        refine r_gR (x := 7) hP c87_43 (zj2 hK) (zr2_2 hR) ?_
        refine r_al hP c87_46 rfl ?_
        refine r_gR (x := 31) hP c87_47 (zj2 hK) (zr2_6 hR) ?_
        refine r_il hP c87_50 rfl ?_
        refine r_cVvp (as := [.ref w, .ref 7, .ref 31, .int m]) (r := []) (a := 34) hP c87_51 rfl (zj34 hK) rfl (fun I2 L2 R2 => (zfF I I2 ∧ zfG L L2 ∧ zBm I2 L2 (zfk S nS nP m cs 5)) ∧ R = R2) (fun Q2 hq => x_find hP hK hR hw hC hp8 hs6 hw6 hs1 hsg hcs hok hmn (fun I2 L2 a b c => hq I2 L2 R ⟨⟨a, b, c⟩, rfl⟩)) ?_
        rintro I2 L2 R2 ⟨⟨ha, hb, hc⟩, rfl⟩
        obtain ⟨-, d2, d3, -⟩ := hc.2 (zfk_ne hs1)
        refine r_il hP c87_54 rfl ?_
        refine r_sw hP c87_55 ?_
        refine zsw_c (fun h55_0 => ?_) (fun h55_0 => ?_)
        · refine r_al hP c87_80 rfl ?_
          refine r_gR (x := 34) hP c87_81 (zj2 hK) (zr2_7 hR) ?_
          refine r_gI (x := (zfk S nS nP m cs 5).1) hP c87_84 (zj34 hK) hc.1 ?_
          refine r_i2l hP c87_87 ?_
          first
            | exact r_lrE hP c87_88 (h _ _ (fun _ _ _ _ => rfl) (fun _ _ _ _ => rfl)) (by rw [f_next, if_neg (fun q => h4 q.1)])
            | exact r_lrE hP c87_88 (h _ _ (fun _ _ _ _ => rfl) (fun _ _ _ _ => rfl)) (by rw [f_next, if_neg (fun q => h13 q.2)])
            | exact r_lrE hP c87_88 (h _ _ (fun _ _ _ _ => rfl) (fun _ _ _ _ => rfl)) (by rw [f_next, if_pos ⟨h4, h13⟩, if_pos hl0])
            | exact r_lrE hP c87_88 (h _ _ ha hb) (by rw [f_next, if_pos ⟨h4, h13⟩, if_neg hl0, if_pos h55_0])
            | exact r_lrE hP c87_88 (h _ _ ha hb) (by rw [f_next, if_pos ⟨h4, h13⟩, if_neg hl0, if_neg (fun q => by rw [h55_1] at q; exact absurd q (by decide)), if_pos h55_1])
            | exact r_lrE hP c87_88 (h _ _ ha hb) (by rw [f_next, if_pos ⟨h4, h13⟩, if_neg hl0, if_neg h55_0, if_neg h55_1])
        refine zsw_c (fun h55_1 => ?_) (fun h55_1 => ?_)
        · refine r_al hP c87_89 rfl ?_
          refine r_gR (x := 34) hP c87_90 (zj2 hK) (zr2_7 hR) ?_
          refine r_gI (x := (zfk S nS nP m cs 5).2.1) hP c87_93 (zj34 hK) d2 ?_
          refine r_i2l hP c87_96 ?_
          first
            | exact r_lrE hP c87_97 (h _ _ (fun _ _ _ _ => rfl) (fun _ _ _ _ => rfl)) (by rw [f_next, if_neg (fun q => h4 q.1)])
            | exact r_lrE hP c87_97 (h _ _ (fun _ _ _ _ => rfl) (fun _ _ _ _ => rfl)) (by rw [f_next, if_neg (fun q => h13 q.2)])
            | exact r_lrE hP c87_97 (h _ _ (fun _ _ _ _ => rfl) (fun _ _ _ _ => rfl)) (by rw [f_next, if_pos ⟨h4, h13⟩, if_pos hl0])
            | exact r_lrE hP c87_97 (h _ _ ha hb) (by rw [f_next, if_pos ⟨h4, h13⟩, if_neg hl0, if_pos h55_0])
            | exact r_lrE hP c87_97 (h _ _ ha hb) (by rw [f_next, if_pos ⟨h4, h13⟩, if_neg hl0, if_neg (fun q => by rw [h55_1] at q; exact absurd q (by decide)), if_pos h55_1])
            | exact r_lrE hP c87_97 (h _ _ ha hb) (by rw [f_next, if_pos ⟨h4, h13⟩, if_neg hl0, if_neg h55_0, if_neg h55_1])
        refine zsw_n ?_
        refine r_al hP c87_98 rfl ?_
        refine r_gR (x := 34) hP c87_99 (zj2 hK) (zr2_7 hR) ?_
        refine r_gL (x := (zfk S nS nP m cs 5).2.2.1) hP c87_102 (zj34 hK) d3 ?_
        first
          | exact r_lrE hP c87_105 (h _ _ (fun _ _ _ _ => rfl) (fun _ _ _ _ => rfl)) (by rw [f_next, if_neg (fun q => h4 q.1)])
          | exact r_lrE hP c87_105 (h _ _ (fun _ _ _ _ => rfl) (fun _ _ _ _ => rfl)) (by rw [f_next, if_neg (fun q => h13 q.2)])
          | exact r_lrE hP c87_105 (h _ _ (fun _ _ _ _ => rfl) (fun _ _ _ _ => rfl)) (by rw [f_next, if_pos ⟨h4, h13⟩, if_pos hl0])
          | exact r_lrE hP c87_105 (h _ _ ha hb) (by rw [f_next, if_pos ⟨h4, h13⟩, if_neg hl0, if_pos h55_0])
          | exact r_lrE hP c87_105 (h _ _ ha hb) (by rw [f_next, if_pos ⟨h4, h13⟩, if_neg hl0, if_neg (fun q => by rw [h55_1] at q; exact absurd q (by decide)), if_pos h55_1])
          | exact r_lrE hP c87_105 (h _ _ ha hb) (by rw [f_next, if_pos ⟨h4, h13⟩, if_neg hl0, if_neg h55_0, if_neg h55_1])
      · have hl0 : cs.length = 0 := (nI_eq (b := 0) (by have := hok.1; omega) (by decide)).mp h27
        refine r_lc hP c87_30 ?_
        first
          | exact r_lrE hP c87_33 (h _ _ (fun _ _ _ _ => rfl) (fun _ _ _ _ => rfl)) (by rw [f_next, if_neg (fun q => h4 q.1)])
          | exact r_lrE hP c87_33 (h _ _ (fun _ _ _ _ => rfl) (fun _ _ _ _ => rfl)) (by rw [f_next, if_neg (fun q => h13 q.2)])
          | exact r_lrE hP c87_33 (h _ _ (fun _ _ _ _ => rfl) (fun _ _ _ _ => rfl)) (by rw [f_next, if_pos ⟨h4, h13⟩, if_pos hl0])
          | exact r_lrE hP c87_33 (h _ _ ha hb) (by rw [f_next, if_pos ⟨h4, h13⟩, if_neg hl0, if_pos h55_0])
          | exact r_lrE hP c87_33 (h _ _ ha hb) (by rw [f_next, if_pos ⟨h4, h13⟩, if_neg hl0, if_neg (fun q => by rw [h55_1] at q; exact absurd q (by decide)), if_pos h55_1])
          | exact r_lrE hP c87_33 (h _ _ ha hb) (by rw [f_next, if_pos ⟨h4, h13⟩, if_neg hl0, if_neg h55_0, if_neg h55_1])
    · refine r_lc hP c87_16 ?_
      first
        | exact r_lrE hP c87_19 (h _ _ (fun _ _ _ _ => rfl) (fun _ _ _ _ => rfl)) (by rw [f_next, if_neg (fun q => h4 q.1)])
        | exact r_lrE hP c87_19 (h _ _ (fun _ _ _ _ => rfl) (fun _ _ _ _ => rfl)) (by rw [f_next, if_neg (fun q => h13 q.2)])
        | exact r_lrE hP c87_19 (h _ _ (fun _ _ _ _ => rfl) (fun _ _ _ _ => rfl)) (by rw [f_next, if_pos ⟨h4, h13⟩, if_pos hl0])
        | exact r_lrE hP c87_19 (h _ _ ha hb) (by rw [f_next, if_pos ⟨h4, h13⟩, if_neg hl0, if_pos h55_0])
        | exact r_lrE hP c87_19 (h _ _ ha hb) (by rw [f_next, if_pos ⟨h4, h13⟩, if_neg hl0, if_neg (fun q => by rw [h55_1] at q; exact absurd q (by decide)), if_pos h55_1])
        | exact r_lrE hP c87_19 (h _ _ ha hb) (by rw [f_next, if_pos ⟨h4, h13⟩, if_neg hl0, if_neg h55_0, if_neg h55_1])
