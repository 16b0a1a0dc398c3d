/-! ===== a set that is being told: the items, the class's takes ===== -/
abbrev ZU : Type := ZS × Nat × Nat × Nat × Nat × Nat
def zsu (S : ZS) (f i j : Nat) (x : Int32) : ZS := fun f' i' j' => if f' = f ∧ i' = i ∧ j' = j then x else S f' i' j'
def zS_s (S : ZS) (n : Nat) (a b : Int32) : ZS := fun f i j => if f = 0 ∧ i = n then a else if f = 1 ∧ i = n then b else if f = 2 ∧ i = n then 0 else S f i j
def zpv (a b c d e : Int32) (f : Nat) : Int32 := match f with
  | 3 => a
  | 4 => b
  | 5 => c
  | 6 => d
  | 7 => e
  | 8 => 10
  | 10 => 1
  | _ => 0
def zS_p (S : ZS) (n : Nat) (a b c d e : Int32) : ZS := fun f i j => if i = n ∧ 3 ≤ f ∧ f ≤ 11 then zpv a b c d e f else S f i j
def zk_s (S : ZS) (nS nP nW nL nM : Nat) (a b : Int32) : Option ZU := if nS < 6 ∧ (1 ≤ a ∧ a ≤ 50) ∧ (1 ≤ b ∧ b ≤ 99) then some (zS_s S nS a b, nS + 1, nP, nW, nL, nM) else none
def zk_p (S : ZS) (nS nP nW nL nM : Nat) (a b c d e : Int32) : Option ZU := if nP < 8 ∧ zr a nS ∧ (0 ≤ b ∧ b ≤ 4) ∧ (0 ≤ c ∧ c ≤ 99) ∧ (0 ≤ d ∧ d ≤ 9) ∧ (0 ≤ e ∧ e ≤ 30) then some (zS_p S nP a b c d e, nS, nP + 1, nW, nL, nM) else none
def zk_h (S : ZS) (nS nP nW nL nM : Nat) (a b c : Int32) : Option ZU := if nL < 16 ∧ zr a nP ∧ (0 ≤ b ∧ b ≤ 2) ∧ (-50 ≤ c ∧ c ≤ 50) then some (zsu S 11 a.toNatClampNeg b.toNatClampNeg (S 11 a.toNatClampNeg b.toNatClampNeg + c), nS, nP, nW, nL + 1, nM) else none
def zk_m (S : ZS) (nS nP nW nL nM : Nat) (a b c : Int32) : Option ZU := if nM < 6 ∧ zr a nS ∧ (0 ≤ b ∧ b ≤ 2) ∧ (-50 ≤ c ∧ c ≤ 50) then some (zsu S 2 a.toNatClampNeg b.toNatClampNeg (S 2 a.toNatClampNeg b.toNatClampNeg + c), nS, nP, nW, nL, nM + 1) else none
def zk_c (S : ZS) (nS nP nW nL nM : Nat) (a b : Int32) : Option ZU := if zr a nP ∧ (1 ≤ b ∧ b ≤ 99) then some (zsu S 8 a.toNatClampNeg 0 b, nS, nP, nW, nL, nM) else none
def zk_f (S : ZS) (nS nP nW nL nM : Nat) (a b c : Int32) : Option ZU := if nW < 6 ∧ zr a nS ∧ (0 ≤ b ∧ b ≤ 2) ∧ (-200 ≤ c ∧ c ≤ 200) then some (zsu (zsu (zsu S 12 nW 0 a) 13 nW 0 b) 14 nW 0 c, nS, nP, nW + 1, nL, nM) else none
def zk_e (S : ZS) (nS nP nW nL nM : Nat) (a b : Int32) : Option ZU := if (0 ≤ a ∧ a ≤ 2) ∧ (0 ≤ b ∧ b ≤ 999) then some (zsu S 15 a.toNatClampNeg 0 b, nS, nP, nW, nL, nM) else none
def zk_k (S : ZS) (nS nP nW nL nM : Nat) (a b : Int32) : Option ZU := if (0 ≤ a ∧ a ≤ 4) ∧ (0 ≤ b ∧ b ≤ 50) then some (zsu S 16 a.toNatClampNeg 0 b, nS, nP, nW, nL, nM) else none
def zk_v (S : ZS) (nS nP nW nL nM : Nat) (a b c : Int32) : Option ZU := if zr a nP ∧ (0 ≤ b ∧ b ≤ 900) ∧ (1 ≤ c ∧ c ≤ 99) then some (zsu (zsu S 9 a.toNatClampNeg 0 b) 10 a.toNatClampNeg 0 c, nS, nP, nW, nL, nM) else none
def zCu (I : ZMi) (w : Nat) (u : ZU) : Prop := zC I w u.1 u.2.1 u.2.2.1 u.2.2.2.1 ∧ I w 8 = nI u.2.2.2.2.1 ∧ I w 9 = nI u.2.2.2.2.2
def zfW (w : Nat) (I I' : ZMi) : Prop := ∀ a k, ¬ (w ≤ a ∧ a < w + 40) → I' a k = I a k
theorem zfW_r (w : Nat) (I : ZMi) : zfW w I I := fun _ _ _ => rfl
theorem zfW_u {w : Nat} {I I' : ZMi} (h : zfW w I I') {b k : Nat} {x : Int32} (hb : w ≤ b ∧ b < w + 40) : zfW w I (zup I' b k x) := fun y j hy => by
  rw [zup_na _ _ _ _ (by omega)]
  exact h y j hy
theorem zfW_t {w : Nat} {I I' I2 : ZMi} (h : zfW w I I') (h2 : zfW w I' I2) : zfW w I I2 := fun x j hx => (h2 x j hx).trans (h x j hx)
theorem zCu_l {I : ZMi} {w : Nat} {S : ZS} {nS nP nW : Nat} (hC : zC I w S nS nP nW) (hs6 : nS ≤ 6) (hp8 : nP ≤ 8) (hw6 : nW ≤ 6) {p0 t0 : Nat} (h0 : p0 < nP) {x : Int32} : zC (zup I (w + 19 + 2 * p0) t0 x) w (zsu S 11 p0 t0 x) nS nP nW := by
  refine ⟨?_, ?_, ?_, fun s hs => ⟨?_, ?_, fun t ht => ?_⟩, fun p hp => ⟨fun j h1 h2 => ?_, fun t ht => ?_⟩, fun i hi j hj => ?_, fun t ht => ?_, fun k hk => ?_⟩
  · first | exact zC_s hC | (simp only [zup, zsu, true_and, and_true]; repeat (first | rfl | (exfalso; omega) | exact zC_s hC | split))
  · first | exact zC_p hC | (simp only [zup, zsu, true_and, and_true]; repeat (first | rfl | (exfalso; omega) | exact zC_p hC | split))
  · first | exact zC_w hC | (simp only [zup, zsu, true_and, and_true]; repeat (first | rfl | (exfalso; omega) | exact zC_w hC | split))
  · first | exact zC_g hC (by omega) | (simp only [zup, zsu, true_and, and_true]; repeat (first | rfl | (exfalso; omega) | exact zC_g hC (by omega) | split))
  · first | exact zC_b hC (by omega) | (simp only [zup, zsu, true_and, and_true]; repeat (first | rfl | (exfalso; omega) | exact zC_b hC (by omega) | split))
  · first | exact zC_m hC (by omega) (by omega) | (simp only [zup, zsu, true_and, and_true]; repeat (first | rfl | (exfalso; omega) | exact zC_m hC (by omega) (by omega) | split))
  · first | exact zC_f hC (by omega) j h1 h2 | (simp only [zup, zsu, true_and, and_true]; repeat (first | rfl | (exfalso; omega) | exact zC_f hC (by omega) j h1 h2 | split))
  · first | exact zC_l hC (by omega) (by omega) | (simp only [zup, zsu, true_and, and_true]; repeat (first | rfl | (exfalso; omega) | exact zC_l hC (by omega) (by omega) | split))
  · first | exact zC_y hC (by omega) j hj | (simp only [zup, zsu, true_and, and_true]; repeat (first | rfl | (exfalso; omega) | exact zC_y hC (by omega) j hj | split))
  · first | exact zC_e hC ht | (simp only [zup, zsu, true_and, and_true]; repeat (first | rfl | (exfalso; omega) | exact zC_e hC ht | split))
  · first | exact zC_k hC hk | (simp only [zup, zsu, true_and, and_true]; repeat (first | rfl | (exfalso; omega) | exact zC_k hC hk | split))
theorem zCu_m {I : ZMi} {w : Nat} {S : ZS} {nS nP nW : Nat} (hC : zC I w S nS nP nW) (hs6 : nS ≤ 6) (hp8 : nP ≤ 8) (hw6 : nW ≤ 6) {s0 t0 : Nat} (h0 : s0 < nS) {x : Int32} : zC (zup I (w + 7 + 2 * s0) t0 x) w (zsu S 2 s0 t0 x) nS nP nW := by
  refine ⟨?_, ?_, ?_, fun s hs => ⟨?_, ?_, fun t ht => ?_⟩, fun p hp => ⟨fun j h1 h2 => ?_, fun t ht => ?_⟩, fun i hi j hj => ?_, fun t ht => ?_, fun k hk => ?_⟩
  · first | exact zC_s hC | (simp only [zup, zsu, true_and, and_true]; repeat (first | rfl | (exfalso; omega) | exact zC_s hC | split))
  · first | exact zC_p hC | (simp only [zup, zsu, true_and, and_true]; repeat (first | rfl | (exfalso; omega) | exact zC_p hC | split))
  · first | exact zC_w hC | (simp only [zup, zsu, true_and, and_true]; repeat (first | rfl | (exfalso; omega) | exact zC_w hC | split))
  · first | exact zC_g hC (by omega) | (simp only [zup, zsu, true_and, and_true]; repeat (first | rfl | (exfalso; omega) | exact zC_g hC (by omega) | split))
  · first | exact zC_b hC (by omega) | (simp only [zup, zsu, true_and, and_true]; repeat (first | rfl | (exfalso; omega) | exact zC_b hC (by omega) | split))
  · first | exact zC_m hC (by omega) (by omega) | (simp only [zup, zsu, true_and, and_true]; repeat (first | rfl | (exfalso; omega) | exact zC_m hC (by omega) (by omega) | split))
  · first | exact zC_f hC (by omega) j h1 h2 | (simp only [zup, zsu, true_and, and_true]; repeat (first | rfl | (exfalso; omega) | exact zC_f hC (by omega) j h1 h2 | split))
  · first | exact zC_l hC (by omega) (by omega) | (simp only [zup, zsu, true_and, and_true]; repeat (first | rfl | (exfalso; omega) | exact zC_l hC (by omega) (by omega) | split))
  · first | exact zC_y hC (by omega) j hj | (simp only [zup, zsu, true_and, and_true]; repeat (first | rfl | (exfalso; omega) | exact zC_y hC (by omega) j hj | split))
  · first | exact zC_e hC ht | (simp only [zup, zsu, true_and, and_true]; repeat (first | rfl | (exfalso; omega) | exact zC_e hC ht | split))
  · first | exact zC_k hC hk | (simp only [zup, zsu, true_and, and_true]; repeat (first | rfl | (exfalso; omega) | exact zC_k hC hk | split))
theorem zCu_c {I : ZMi} {w : Nat} {S : ZS} {nS nP nW : Nat} (hC : zC I w S nS nP nW) (hs6 : nS ≤ 6) (hp8 : nP ≤ 8) (hw6 : nW ≤ 6) {p0 : Nat} (h0 : p0 < nP) {x : Int32} : zC (zup I (w + 18 + 2 * p0) 6 x) w (zsu S 8 p0 0 x) nS nP nW := by
  refine ⟨?_, ?_, ?_, fun s hs => ⟨?_, ?_, fun t ht => ?_⟩, fun p hp => ⟨fun j h1 h2 => ?_, fun t ht => ?_⟩, fun i hi j hj => ?_, fun t ht => ?_, fun k hk => ?_⟩
  · first | exact zC_s hC | (simp only [zup, zsu, true_and, and_true]; repeat (first | rfl | (exfalso; omega) | exact zC_s hC | split))
  · first | exact zC_p hC | (simp only [zup, zsu, true_and, and_true]; repeat (first | rfl | (exfalso; omega) | exact zC_p hC | split))
  · first | exact zC_w hC | (simp only [zup, zsu, true_and, and_true]; repeat (first | rfl | (exfalso; omega) | exact zC_w hC | split))
  · first | exact zC_g hC (by omega) | (simp only [zup, zsu, true_and, and_true]; repeat (first | rfl | (exfalso; omega) | exact zC_g hC (by omega) | split))
  · first | exact zC_b hC (by omega) | (simp only [zup, zsu, true_and, and_true]; repeat (first | rfl | (exfalso; omega) | exact zC_b hC (by omega) | split))
  · first | exact zC_m hC (by omega) (by omega) | (simp only [zup, zsu, true_and, and_true]; repeat (first | rfl | (exfalso; omega) | exact zC_m hC (by omega) (by omega) | split))
  · first | exact zC_f hC (by omega) j h1 h2 | (simp only [zup, zsu, true_and, and_true]; repeat (first | rfl | (exfalso; omega) | exact zC_f hC (by omega) j h1 h2 | split))
  · first | exact zC_l hC (by omega) (by omega) | (simp only [zup, zsu, true_and, and_true]; repeat (first | rfl | (exfalso; omega) | exact zC_l hC (by omega) (by omega) | split))
  · first | exact zC_y hC (by omega) j hj | (simp only [zup, zsu, true_and, and_true]; repeat (first | rfl | (exfalso; omega) | exact zC_y hC (by omega) j hj | split))
  · first | exact zC_e hC ht | (simp only [zup, zsu, true_and, and_true]; repeat (first | rfl | (exfalso; omega) | exact zC_e hC ht | split))
  · first | exact zC_k hC hk | (simp only [zup, zsu, true_and, and_true]; repeat (first | rfl | (exfalso; omega) | exact zC_k hC hk | split))
theorem zCu_9 {I : ZMi} {w : Nat} {S : ZS} {nS nP nW : Nat} (hC : zC I w S nS nP nW) (hs6 : nS ≤ 6) (hp8 : nP ≤ 8) (hw6 : nW ≤ 6) {p0 : Nat} (h0 : p0 < nP) {x : Int32} : zC (zup I (w + 18 + 2 * p0) 7 x) w (zsu S 9 p0 0 x) nS nP nW := by
  refine ⟨?_, ?_, ?_, fun s hs => ⟨?_, ?_, fun t ht => ?_⟩, fun p hp => ⟨fun j h1 h2 => ?_, fun t ht => ?_⟩, fun i hi j hj => ?_, fun t ht => ?_, fun k hk => ?_⟩
  · first | exact zC_s hC | (simp only [zup, zsu, true_and, and_true]; repeat (first | rfl | (exfalso; omega) | exact zC_s hC | split))
  · first | exact zC_p hC | (simp only [zup, zsu, true_and, and_true]; repeat (first | rfl | (exfalso; omega) | exact zC_p hC | split))
  · first | exact zC_w hC | (simp only [zup, zsu, true_and, and_true]; repeat (first | rfl | (exfalso; omega) | exact zC_w hC | split))
  · first | exact zC_g hC (by omega) | (simp only [zup, zsu, true_and, and_true]; repeat (first | rfl | (exfalso; omega) | exact zC_g hC (by omega) | split))
  · first | exact zC_b hC (by omega) | (simp only [zup, zsu, true_and, and_true]; repeat (first | rfl | (exfalso; omega) | exact zC_b hC (by omega) | split))
  · first | exact zC_m hC (by omega) (by omega) | (simp only [zup, zsu, true_and, and_true]; repeat (first | rfl | (exfalso; omega) | exact zC_m hC (by omega) (by omega) | split))
  · first | exact zC_f hC (by omega) j h1 h2 | (simp only [zup, zsu, true_and, and_true]; repeat (first | rfl | (exfalso; omega) | exact zC_f hC (by omega) j h1 h2 | split))
  · first | exact zC_l hC (by omega) (by omega) | (simp only [zup, zsu, true_and, and_true]; repeat (first | rfl | (exfalso; omega) | exact zC_l hC (by omega) (by omega) | split))
  · first | exact zC_y hC (by omega) j hj | (simp only [zup, zsu, true_and, and_true]; repeat (first | rfl | (exfalso; omega) | exact zC_y hC (by omega) j hj | split))
  · first | exact zC_e hC ht | (simp only [zup, zsu, true_and, and_true]; repeat (first | rfl | (exfalso; omega) | exact zC_e hC ht | split))
  · first | exact zC_k hC hk | (simp only [zup, zsu, true_and, and_true]; repeat (first | rfl | (exfalso; omega) | exact zC_k hC hk | split))
theorem zCu_10 {I : ZMi} {w : Nat} {S : ZS} {nS nP nW : Nat} (hC : zC I w S nS nP nW) (hs6 : nS ≤ 6) (hp8 : nP ≤ 8) (hw6 : nW ≤ 6) {p0 : Nat} (h0 : p0 < nP) {x : Int32} : zC (zup I (w + 18 + 2 * p0) 8 x) w (zsu S 10 p0 0 x) nS nP nW := by
  refine ⟨?_, ?_, ?_, fun s hs => ⟨?_, ?_, fun t ht => ?_⟩, fun p hp => ⟨fun j h1 h2 => ?_, fun t ht => ?_⟩, fun i hi j hj => ?_, fun t ht => ?_, fun k hk => ?_⟩
  · first | exact zC_s hC | (simp only [zup, zsu, true_and, and_true]; repeat (first | rfl | (exfalso; omega) | exact zC_s hC | split))
  · first | exact zC_p hC | (simp only [zup, zsu, true_and, and_true]; repeat (first | rfl | (exfalso; omega) | exact zC_p hC | split))
  · first | exact zC_w hC | (simp only [zup, zsu, true_and, and_true]; repeat (first | rfl | (exfalso; omega) | exact zC_w hC | split))
  · first | exact zC_g hC (by omega) | (simp only [zup, zsu, true_and, and_true]; repeat (first | rfl | (exfalso; omega) | exact zC_g hC (by omega) | split))
  · first | exact zC_b hC (by omega) | (simp only [zup, zsu, true_and, and_true]; repeat (first | rfl | (exfalso; omega) | exact zC_b hC (by omega) | split))
  · first | exact zC_m hC (by omega) (by omega) | (simp only [zup, zsu, true_and, and_true]; repeat (first | rfl | (exfalso; omega) | exact zC_m hC (by omega) (by omega) | split))
  · first | exact zC_f hC (by omega) j h1 h2 | (simp only [zup, zsu, true_and, and_true]; repeat (first | rfl | (exfalso; omega) | exact zC_f hC (by omega) j h1 h2 | split))
  · first | exact zC_l hC (by omega) (by omega) | (simp only [zup, zsu, true_and, and_true]; repeat (first | rfl | (exfalso; omega) | exact zC_l hC (by omega) (by omega) | split))
  · first | exact zC_y hC (by omega) j hj | (simp only [zup, zsu, true_and, and_true]; repeat (first | rfl | (exfalso; omega) | exact zC_y hC (by omega) j hj | split))
  · first | exact zC_e hC ht | (simp only [zup, zsu, true_and, and_true]; repeat (first | rfl | (exfalso; omega) | exact zC_e hC ht | split))
  · first | exact zC_k hC hk | (simp only [zup, zsu, true_and, and_true]; repeat (first | rfl | (exfalso; omega) | exact zC_k hC hk | split))
theorem zCu_e {I : ZMi} {w : Nat} {S : ZS} {nS nP nW : Nat} (hC : zC I w S nS nP nW) (hs6 : nS ≤ 6) (hp8 : nP ≤ 8) (hw6 : nW ≤ 6) {t0 : Nat} (h0 : t0 < 3) {x : Int32} : zC (zup I (w + 4) t0 x) w (zsu S 15 t0 0 x) nS nP nW := by
  refine ⟨?_, ?_, ?_, fun s hs => ⟨?_, ?_, fun t ht => ?_⟩, fun p hp => ⟨fun j h1 h2 => ?_, fun t ht => ?_⟩, fun i hi j hj => ?_, fun t ht => ?_, fun k hk => ?_⟩
  · first | exact zC_s hC | (simp only [zup, zsu, true_and, and_true]; repeat (first | rfl | (exfalso; omega) | exact zC_s hC | split))
  · first | exact zC_p hC | (simp only [zup, zsu, true_and, and_true]; repeat (first | rfl | (exfalso; omega) | exact zC_p hC | split))
  · first | exact zC_w hC | (simp only [zup, zsu, true_and, and_true]; repeat (first | rfl | (exfalso; omega) | exact zC_w hC | split))
  · first | exact zC_g hC (by omega) | (simp only [zup, zsu, true_and, and_true]; repeat (first | rfl | (exfalso; omega) | exact zC_g hC (by omega) | split))
  · first | exact zC_b hC (by omega) | (simp only [zup, zsu, true_and, and_true]; repeat (first | rfl | (exfalso; omega) | exact zC_b hC (by omega) | split))
  · first | exact zC_m hC (by omega) (by omega) | (simp only [zup, zsu, true_and, and_true]; repeat (first | rfl | (exfalso; omega) | exact zC_m hC (by omega) (by omega) | split))
  · first | exact zC_f hC (by omega) j h1 h2 | (simp only [zup, zsu, true_and, and_true]; repeat (first | rfl | (exfalso; omega) | exact zC_f hC (by omega) j h1 h2 | split))
  · first | exact zC_l hC (by omega) (by omega) | (simp only [zup, zsu, true_and, and_true]; repeat (first | rfl | (exfalso; omega) | exact zC_l hC (by omega) (by omega) | split))
  · first | exact zC_y hC (by omega) j hj | (simp only [zup, zsu, true_and, and_true]; repeat (first | rfl | (exfalso; omega) | exact zC_y hC (by omega) j hj | split))
  · first | exact zC_e hC ht | (simp only [zup, zsu, true_and, and_true]; repeat (first | rfl | (exfalso; omega) | exact zC_e hC ht | split))
  · first | exact zC_k hC hk | (simp only [zup, zsu, true_and, and_true]; repeat (first | rfl | (exfalso; omega) | exact zC_k hC hk | split))
theorem zCu_k {I : ZMi} {w : Nat} {S : ZS} {nS nP nW : Nat} (hC : zC I w S nS nP nW) (hs6 : nS ≤ 6) (hp8 : nP ≤ 8) (hw6 : nW ≤ 6) {t0 : Nat} (h0 : t0 < 5) {x : Int32} : zC (zup I (w + 5) t0 x) w (zsu S 16 t0 0 x) nS nP nW := by
  refine ⟨?_, ?_, ?_, fun s hs => ⟨?_, ?_, fun t ht => ?_⟩, fun p hp => ⟨fun j h1 h2 => ?_, fun t ht => ?_⟩, fun i hi j hj => ?_, fun t ht => ?_, fun k hk => ?_⟩
  · first | exact zC_s hC | (simp only [zup, zsu, true_and, and_true]; repeat (first | rfl | (exfalso; omega) | exact zC_s hC | split))
  · first | exact zC_p hC | (simp only [zup, zsu, true_and, and_true]; repeat (first | rfl | (exfalso; omega) | exact zC_p hC | split))
  · first | exact zC_w hC | (simp only [zup, zsu, true_and, and_true]; repeat (first | rfl | (exfalso; omega) | exact zC_w hC | split))
  · first | exact zC_g hC (by omega) | (simp only [zup, zsu, true_and, and_true]; repeat (first | rfl | (exfalso; omega) | exact zC_g hC (by omega) | split))
  · first | exact zC_b hC (by omega) | (simp only [zup, zsu, true_and, and_true]; repeat (first | rfl | (exfalso; omega) | exact zC_b hC (by omega) | split))
  · first | exact zC_m hC (by omega) (by omega) | (simp only [zup, zsu, true_and, and_true]; repeat (first | rfl | (exfalso; omega) | exact zC_m hC (by omega) (by omega) | split))
  · first | exact zC_f hC (by omega) j h1 h2 | (simp only [zup, zsu, true_and, and_true]; repeat (first | rfl | (exfalso; omega) | exact zC_f hC (by omega) j h1 h2 | split))
  · first | exact zC_l hC (by omega) (by omega) | (simp only [zup, zsu, true_and, and_true]; repeat (first | rfl | (exfalso; omega) | exact zC_l hC (by omega) (by omega) | split))
  · first | exact zC_y hC (by omega) j hj | (simp only [zup, zsu, true_and, and_true]; repeat (first | rfl | (exfalso; omega) | exact zC_y hC (by omega) j hj | split))
  · first | exact zC_e hC ht | (simp only [zup, zsu, true_and, and_true]; repeat (first | rfl | (exfalso; omega) | exact zC_e hC ht | split))
  · first | exact zC_k hC hk | (simp only [zup, zsu, true_and, and_true]; repeat (first | rfl | (exfalso; omega) | exact zC_k hC hk | split))
theorem zCu_o {I : ZMi} {w : Nat} {S : ZS} {nS nP nW : Nat} (hC : zC I w S nS nP nW) (hs6 : nS ≤ 6) (hp8 : nP ≤ 8) (hw6 : nW ≤ 6) {k0 : Nat} (h0 : k0 = 8 ∨ k0 = 9) {x : Int32} : zC (zup I w k0 x) w S nS nP nW := by
  refine ⟨?_, ?_, ?_, fun s hs => ⟨?_, ?_, fun t ht => ?_⟩, fun p hp => ⟨fun j h1 h2 => ?_, fun t ht => ?_⟩, fun i hi j hj => ?_, fun t ht => ?_, fun k hk => ?_⟩
  · first | exact zC_s hC | (simp only [zup, true_and, and_true]; repeat (first | rfl | (exfalso; omega) | exact zC_s hC | split))
  · first | exact zC_p hC | (simp only [zup, true_and, and_true]; repeat (first | rfl | (exfalso; omega) | exact zC_p hC | split))
  · first | exact zC_w hC | (simp only [zup, true_and, and_true]; repeat (first | rfl | (exfalso; omega) | exact zC_w hC | split))
  · first | exact zC_g hC (by omega) | (simp only [zup, true_and, and_true]; repeat (first | rfl | (exfalso; omega) | exact zC_g hC (by omega) | split))
  · first | exact zC_b hC (by omega) | (simp only [zup, true_and, and_true]; repeat (first | rfl | (exfalso; omega) | exact zC_b hC (by omega) | split))
  · first | exact zC_m hC (by omega) (by omega) | (simp only [zup, true_and, and_true]; repeat (first | rfl | (exfalso; omega) | exact zC_m hC (by omega) (by omega) | split))
  · first | exact zC_f hC (by omega) j h1 h2 | (simp only [zup, true_and, and_true]; repeat (first | rfl | (exfalso; omega) | exact zC_f hC (by omega) j h1 h2 | split))
  · first | exact zC_l hC (by omega) (by omega) | (simp only [zup, true_and, and_true]; repeat (first | rfl | (exfalso; omega) | exact zC_l hC (by omega) (by omega) | split))
  · first | exact zC_y hC (by omega) j hj | (simp only [zup, true_and, and_true]; repeat (first | rfl | (exfalso; omega) | exact zC_y hC (by omega) j hj | split))
  · first | exact zC_e hC ht | (simp only [zup, true_and, and_true]; repeat (first | rfl | (exfalso; omega) | exact zC_e hC ht | split))
  · first | exact zC_k hC hk | (simp only [zup, true_and, and_true]; repeat (first | rfl | (exfalso; omega) | exact zC_k hC hk | split))
theorem zCu_f {I : ZMi} {w : Nat} {S : ZS} {nS nP nW : Nat} (hC : zC I w S nS nP nW) (hs6 : nS ≤ 6) (hp8 : nP ≤ 8) (hw6 : nW ≤ 6) (h0 : nW < 6) {a b c : Int32} : zC (zup (zup (zup (zup I (w + 34 + nW) 0 a) (w + 34 + nW) 1 b) (w + 34 + nW) 2 c) w 7 (nI (nW + 1))) w (zsu (zsu (zsu S 12 nW 0 a) 13 nW 0 b) 14 nW 0 c) nS nP (nW + 1) := by
  refine ⟨?_, ?_, ?_, fun s hs => ⟨?_, ?_, fun t ht => ?_⟩, fun p hp => ⟨fun j h1 h2 => ?_, fun t ht => ?_⟩, fun i hi j hj => ?_, fun t ht => ?_, fun k hk => ?_⟩
  · first | exact zC_s hC | (simp only [zup, zsu, true_and, and_true]; repeat (first | rfl | (exfalso; omega) | exact zC_s hC | split))
  · first | exact zC_p hC | (simp only [zup, zsu, true_and, and_true]; repeat (first | rfl | (exfalso; omega) | exact zC_p hC | split))
  · first | exact zC_w hC | (simp only [zup, zsu, true_and, and_true]; repeat (first | rfl | (exfalso; omega) | exact zC_w hC | split))
  · first | exact zC_g hC (by omega) | (simp only [zup, zsu, true_and, and_true]; repeat (first | rfl | (exfalso; omega) | exact zC_g hC (by omega) | split))
  · first | exact zC_b hC (by omega) | (simp only [zup, zsu, true_and, and_true]; repeat (first | rfl | (exfalso; omega) | exact zC_b hC (by omega) | split))
  · first | exact zC_m hC (by omega) (by omega) | (simp only [zup, zsu, true_and, and_true]; repeat (first | rfl | (exfalso; omega) | exact zC_m hC (by omega) (by omega) | split))
  · first | exact zC_f hC (by omega) j h1 h2 | (simp only [zup, zsu, true_and, and_true]; repeat (first | rfl | (exfalso; omega) | exact zC_f hC (by omega) j h1 h2 | split))
  · first | exact zC_l hC (by omega) (by omega) | (simp only [zup, zsu, true_and, and_true]; repeat (first | rfl | (exfalso; omega) | exact zC_l hC (by omega) (by omega) | split))
  · rcases Nat.lt_or_ge i nW with q | q
    · simp only [zup, zsu, true_and, and_true]; repeat (first | rfl | (exfalso; omega) | exact zC_y hC q j hj | split)
    · have e : i = nW := by omega
      subst e
      have hj3 : j = 0 ∨ j = 1 ∨ j = 2 := by omega
      rcases hj3 with rfl | rfl | rfl <;> (simp only [zup, zsu, true_and, and_true]; repeat (first | rfl | (exfalso; omega) | split))
  · first | exact zC_e hC ht | (simp only [zup, zsu, true_and, and_true]; repeat (first | rfl | (exfalso; omega) | exact zC_e hC ht | split))
  · first | exact zC_k hC hk | (simp only [zup, zsu, true_and, and_true]; repeat (first | rfl | (exfalso; omega) | exact zC_k hC hk | split))
theorem zCu_s {I : ZMi} {w : Nat} {S : ZS} {nS nP nW : Nat} (hC : zC I w S nS nP nW) (hs6 : nS ≤ 6) (hp8 : nP ≤ 8) (hw6 : nW ≤ 6) {I2 : ZMi} (h0 : nS < 6) {a b : Int32} (hf : ∀ x k, ¬ (x = w + 6 + 2 * nS ∧ (k = 1 ∨ k = 2)) → ¬ (x = w + 7 + 2 * nS ∧ k < 3) → ¬ (x = w ∧ k = 5) → I2 x k = I x k) (g1 : I2 (w + 6 + 2 * nS) 1 = a) (g2 : I2 (w + 6 + 2 * nS) 2 = b) (g3 : ∀ t, t < 3 → I2 (w + 7 + 2 * nS) t = 0) (g5 : I2 w 5 = nI (nS + 1)) : zC I2 w (zS_s S nS a b) (nS + 1) nP nW := by
  refine ⟨?_, ?_, ?_, fun s hs => ⟨?_, ?_, fun t ht => ?_⟩, fun p hp => ⟨fun j h1 h2 => ?_, fun t ht => ?_⟩, fun i hi j hj => ?_, fun t ht => ?_, fun k hk => ?_⟩
  · exact g5
  · rw [hf _ _ (by omega) (by omega) (by omega)]; exact zC_p hC
  · rw [hf _ _ (by omega) (by omega) (by omega)]; exact zC_w hC
  · rcases Nat.lt_or_ge s nS with q | q
    · rw [hf _ _ (by omega) (by omega) (by omega)]; simp only [zS_s, true_and, and_true]; repeat (first | rfl | (exfalso; omega) | exact zC_g hC q | split)
    · have e : s = nS := by omega
      subst e
      rw [g1]; simp only [zS_s, true_and, and_true]; repeat (first | rfl | (exfalso; omega) | split)
  · rcases Nat.lt_or_ge s nS with q | q
    · rw [hf _ _ (by omega) (by omega) (by omega)]; simp only [zS_s, true_and, and_true]; repeat (first | rfl | (exfalso; omega) | exact zC_b hC q | split)
    · have e : s = nS := by omega
      subst e
      rw [g2]; simp only [zS_s, true_and, and_true]; repeat (first | rfl | (exfalso; omega) | split)
  · rcases Nat.lt_or_ge s nS with q | q
    · rw [hf _ _ (by omega) (by omega) (by omega)]; simp only [zS_s, true_and, and_true]; repeat (first | rfl | (exfalso; omega) | exact zC_m hC q (by omega) | split)
    · have e : s = nS := by omega
      subst e
      rw [g3 t ht]; simp only [zS_s, true_and, and_true]; repeat (first | rfl | (exfalso; omega) | split)
  · rw [hf _ _ (by omega) (by omega) (by omega)]; simp only [zS_s, true_and, and_true]; repeat (first | rfl | (exfalso; omega) | exact zC_f hC (by omega) j h1 h2 | split)
  · rw [hf _ _ (by omega) (by omega) (by omega)]; simp only [zS_s, true_and, and_true]; repeat (first | rfl | (exfalso; omega) | exact zC_l hC (by omega) (by omega) | split)
  · rw [hf _ _ (by omega) (by omega) (by omega)]; simp only [zS_s, true_and, and_true]; repeat (first | rfl | (exfalso; omega) | exact zC_y hC (by omega) j hj | split)
  · rw [hf _ _ (by omega) (by omega) (by omega)]; simp only [zS_s, true_and, and_true]; repeat (first | rfl | (exfalso; omega) | exact zC_e hC ht | split)
  · rw [hf _ _ (by omega) (by omega) (by omega)]; simp only [zS_s, true_and, and_true]; repeat (first | rfl | (exfalso; omega) | exact zC_k hC hk | split)
theorem zCu_p {I : ZMi} {w : Nat} {S : ZS} {nS nP nW : Nat} (hC : zC I w S nS nP nW) (hs6 : nS ≤ 6) (hp8 : nP ≤ 8) (hw6 : nW ≤ 6) {I2 : ZMi} (h0 : nP < 8) {a b c d e : Int32} (hf : ∀ x k, ¬ (x = w + 18 + 2 * nP ∧ 1 ≤ k ∧ k ≤ 8) → ¬ (x = w + 19 + 2 * nP ∧ k < 3) → ¬ (x = w ∧ k = 6) → I2 x k = I x k) (g1 : ∀ k, 1 ≤ k → k ≤ 8 → I2 (w + 18 + 2 * nP) k = zpv a b c d e (k + 2)) (g3 : ∀ t, t < 3 → I2 (w + 19 + 2 * nP) t = 0) (g5 : I2 w 6 = nI (nP + 1)) : zC I2 w (zS_p S nP a b c d e) nS (nP + 1) nW := by
  refine ⟨?_, ?_, ?_, fun s hs => ⟨?_, ?_, fun t ht => ?_⟩, fun p hp => ⟨fun j h1 h2 => ?_, fun t ht => ?_⟩, fun i hi j hj => ?_, fun t ht => ?_, fun k hk => ?_⟩
  · rw [hf _ _ (by omega) (by omega) (by omega)]; exact zC_s hC
  · exact g5
  · rw [hf _ _ (by omega) (by omega) (by omega)]; exact zC_w hC
  · rw [hf _ _ (by omega) (by omega) (by omega)]; simp only [zS_p, true_and, and_true]; repeat (first | rfl | (exfalso; omega) | exact zC_g hC (by omega) | split)
  · rw [hf _ _ (by omega) (by omega) (by omega)]; simp only [zS_p, true_and, and_true]; repeat (first | rfl | (exfalso; omega) | exact zC_b hC (by omega) | split)
  · rw [hf _ _ (by omega) (by omega) (by omega)]; simp only [zS_p, true_and, and_true]; repeat (first | rfl | (exfalso; omega) | exact zC_m hC (by omega) (by omega) | split)
  · rcases Nat.lt_or_ge p nP with q | q
    · rw [hf _ _ (by omega) (by omega) (by omega)]; simp only [zS_p, true_and, and_true]; repeat (first | rfl | (exfalso; omega) | exact zC_f hC q j h1 h2 | split)
    · have hpe : p = nP := by omega
      subst hpe
      rw [g1 j h1 h2]; simp only [zS_p, true_and, and_true]; repeat (first | rfl | (exfalso; omega) | split)
  · rcases Nat.lt_or_ge p nP with q | q
    · rw [hf _ _ (by omega) (by omega) (by omega)]; simp only [zS_p, true_and, and_true]; repeat (first | rfl | (exfalso; omega) | exact zC_l hC q (by omega) | split)
    · have hpe : p = nP := by omega
      subst hpe
      rw [g3 t ht]; simp only [zS_p, true_and, and_true]; repeat (first | rfl | (exfalso; omega) | split)
  · rw [hf _ _ (by omega) (by omega) (by omega)]; simp only [zS_p, true_and, and_true]; repeat (first | rfl | (exfalso; omega) | exact zC_y hC (by omega) j hj | split)
  · rw [hf _ _ (by omega) (by omega) (by omega)]; simp only [zS_p, true_and, and_true]; repeat (first | rfl | (exfalso; omega) | exact zC_e hC ht | split)
  · rw [hf _ _ (by omega) (by omega) (by omega)]; simp only [zS_p, true_and, and_true]; repeat (first | rfl | (exfalso; omega) | exact zC_k hC hk | split)
set_option maxRecDepth 4000 in
theorem x_tkh {K : ZKh} {P : Nat → Nat → List Value → List Value → ZMi → ZMl → ZMr → ZRt → Prop} {I : ZMi} {L : ZMl} {R : ZMr} {Q : ZRt} (hP : ZCl K P) {w nS nP nW nL nM : Nat} {S : ZS} (hK : zKa K) (hR : zRa R) (hw : zisW w) (hC : zC I w S nS nP nW) (hp8 : nP ≤ 8) (hs6 : nS ≤ 6) (hw6 : nW ≤ 6) (e8 : I w 8 = nI nL) (e9 : I w 9 = nI nM) (hL : nL ≤ 16) (hM : nM ≤ 6) {a0 b0 c0 : Int32} (h : ∀ I2, zfW w I I2 → (∀ u, zk_h S nS nP nW nL nM a0 b0 c0 = some u → zCu I2 w u) → Q (some (.int (if (zk_h S nS nP nW nL nM a0 b0 c0).isSome = true then 1 else 0))) I2 L R) : P 53 0 [.ref w, .int a0, .int b0, .int c0] [] I L R Q := by
  have hw39 := zW39 hw
  refine r_al hP c53_0 rfl ?_
  refine r_gI (x := nI nL) hP c53_1 (zj_W hK hw) e8 ?_
  refine r_ic hP c53_4 ?_
  refine r_ige hP c53_6 (fun h6 => ?_) (fun h6 => ?_)
  · have hlt : ¬ nL < 16 := by
      have := (nI_leI (a := 16) (by decide) (by omega)).mp h6
      omega
    refine r_ic hP c53_35 ?_
    first
      | (have he : zk_h S nS nP nW nL nM a0 b0 c0 = none := if_neg (fun q => hlt q.1)
         exact r_zr0 hP c53_36 (by rw [he]; decide) (h _ (zfW_r w I) (fun u q => by rw [he] at q; cases q)))
      | (have he : zk_h S nS nP nW nL nM a0 b0 c0 = none := if_neg (fun q => h14 q.2.1)
         exact r_zr0 hP c53_36 (by rw [he]; decide) (h _ (zfW_r w I) (fun u q => by rw [he] at q; cases q)))
      | (have he : zk_h S nS nP nW nL nM a0 b0 c0 = none := if_neg (fun q => h21 q.2.2.1)
         exact r_zr0 hP c53_36 (by rw [he]; decide) (h _ (zfW_r w I) (fun u q => by rw [he] at q; cases q)))
      | (have he : zk_h S nS nP nW nL nM a0 b0 c0 = none := if_neg (fun q => h32 q.2.2.2)
         exact r_zr0 hP c53_36 (by rw [he]; decide) (h _ (zfW_r w I) (fun u q => by rw [he] at q; cases q)))
  · have hlt : nL < 16 := by
      have := (not_congr (nI_leI (a := 16) (by decide) (by omega))).mp h6
      omega
    refine r_al hP c53_9 rfl ?_
    refine r_il hP c53_10 rfl ?_
    refine r_cVi (as := [.int a0]) (r := []) (I' := I) (L' := L) (R' := R) (x := if zr a0 nP then 1 else 0) (a := w) hP c53_11 rfl (zj_W hK hw) rfl (fun _ h2 => x_hasPart hP (zj_W hK hw) (zC_p hC) (by omega) h2) ?_
    refine r_ifeqB hP c53_14 (fun h14 => ?_) (fun h14 => ?_)
    · refine r_ic hP c53_35 ?_
      first
        | (have he : zk_h S nS nP nW nL nM a0 b0 c0 = none := if_neg (fun q => hlt q.1)
           exact r_zr0 hP c53_36 (by rw [he]; decide) (h _ (zfW_r w I) (fun u q => by rw [he] at q; cases q)))
        | (have he : zk_h S nS nP nW nL nM a0 b0 c0 = none := if_neg (fun q => h14 q.2.1)
           exact r_zr0 hP c53_36 (by rw [he]; decide) (h _ (zfW_r w I) (fun u q => by rw [he] at q; cases q)))
        | (have he : zk_h S nS nP nW nL nM a0 b0 c0 = none := if_neg (fun q => h21 q.2.2.1)
           exact r_zr0 hP c53_36 (by rw [he]; decide) (h _ (zfW_r w I) (fun u q => by rw [he] at q; cases q)))
        | (have he : zk_h S nS nP nW nL nM a0 b0 c0 = none := if_neg (fun q => h32 q.2.2.2)
           exact r_zr0 hP c53_36 (by rw [he]; decide) (h _ (zfW_r w I) (fun u q => by rw [he] at q; cases q)))
    · refine r_il hP c53_17 rfl ?_
      refine r_cSi (as := [.int b0]) (r := []) (I' := I) (L' := L) (R' := R) (x := if 0 ≤ b0 ∧ b0 ≤ 2 then 1 else 0) hP c53_18 rfl rfl (fun _ h2 => x_isTone hP h2) ?_
      refine r_ifeqB hP c53_21 (fun h21 => ?_) (fun h21 => ?_)
      · refine r_ic hP c53_35 ?_
        first
          | (have he : zk_h S nS nP nW nL nM a0 b0 c0 = none := if_neg (fun q => hlt q.1)
             exact r_zr0 hP c53_36 (by rw [he]; decide) (h _ (zfW_r w I) (fun u q => by rw [he] at q; cases q)))
          | (have he : zk_h S nS nP nW nL nM a0 b0 c0 = none := if_neg (fun q => h14 q.2.1)
             exact r_zr0 hP c53_36 (by rw [he]; decide) (h _ (zfW_r w I) (fun u q => by rw [he] at q; cases q)))
          | (have he : zk_h S nS nP nW nL nM a0 b0 c0 = none := if_neg (fun q => h21 q.2.2.1)
             exact r_zr0 hP c53_36 (by rw [he]; decide) (h _ (zfW_r w I) (fun u q => by rw [he] at q; cases q)))
          | (have he : zk_h S nS nP nW nL nM a0 b0 c0 = none := if_neg (fun q => h32 q.2.2.2)
             exact r_zr0 hP c53_36 (by rw [he]; decide) (h _ (zfW_r w I) (fun u q => by rw [he] at q; cases q)))
      · refine r_il hP c53_24 rfl ?_
        refine r_ic hP c53_25 ?_
        refine r_ic hP c53_27 ?_
        refine r_cSi (as := [.int c0, .int (-50), .int 50]) (r := []) (I' := I) (L' := L) (R' := R) (x := if (-50) ≤ c0 ∧ c0 ≤ 50 then 1 else 0) hP c53_29 rfl rfl (fun _ h2 => x_within hP h2) ?_
        refine r_ifneB hP c53_32 (fun h32 => ?_) (fun h32 => ?_)
        · obtain ⟨a, ha, rfl⟩ := (zr_iff (by omega)).mp h14
          obtain ⟨b, hb, rfl⟩ := zb_nI (n := 2) rfl (by decide) h21
          refine r_al hP c53_37 rfl ?_
          refine r_gR (x := w + 2) hP c53_38 (zj_W hK hw) (zr_pts hR hw) ?_
          refine r_il hP c53_41 rfl ?_
          refine r_aald (j := a) (x := w + 18 + 2 * a) hP c53_42 (zk_pts hK hw) rfl (by omega) (zr_prt hR hw (by omega)) ?_
          refine r_gR (x := w + 19 + 2 * a) hP c53_43 (zj_prt hK hw (by omega)) (zr_lts hR hw (by omega)) ?_
          refine r_il hP c53_46 rfl ?_
          refine r_dup2 hP c53_47 rfl rfl ?_
          refine r_iald (j := b) (x := S 11 a b) hP c53_48 (zk_lts hK hw (by omega)) rfl (by omega) (zC_l hC (by omega) (by omega)) ?_
          refine r_il hP c53_49 rfl ?_
          refine r_iadd hP c53_50 ?_
          refine r_iast (j := b) hP c53_51 (zk_lts hK hw (by omega)) rfl (by omega) ?_
          refine r_al hP c53_52 rfl ?_
          refine r_dup hP c53_53 rfl ?_
          refine r_gI (x := nI nL) hP c53_54 (zj_W hK hw) ((zup_n _ _ _ _ (by omega)).trans e8) ?_
          refine r_ic hP c53_57 ?_
          refine r_iadd hP c53_58 ?_
          refine r_ti (y := nI (nL + 1)) (nI_1 _) ?_
          refine r_pI hP c53_59 (zj_W hK hw) ?_
          refine r_ic hP c53_62 ?_
          have he : zk_h S nS nP nW nL nM (nI a) (nI b) c0 = some _ := if_pos ⟨hlt, h14, h21, h32⟩
          exact r_zr1 hP c53_63 (by rw [he]; rfl) (h _ (zfW_u (zfW_u (zfW_r w I) (by omega)) (by omega)) (fun u q => by
            rw [he] at q
            cases q
            exact ⟨by rw [nI_clamp (n := a) (by omega), nI_clamp (n := b) (by omega)]; exact zCu_o (zCu_l hC hs6 hp8 hw6 ha) hs6 hp8 hw6 (by omega), zup_s _ _ _ _, (zup_n _ _ _ _ (by omega)).trans ((zup_n _ _ _ _ (by omega)).trans e9)⟩))
        · refine r_ic hP c53_35 ?_
          first
            | (have he : zk_h S nS nP nW nL nM a0 b0 c0 = none := if_neg (fun q => hlt q.1)
               exact r_zr0 hP c53_36 (by rw [he]; decide) (h _ (zfW_r w I) (fun u q => by rw [he] at q; cases q)))
            | (have he : zk_h S nS nP nW nL nM a0 b0 c0 = none := if_neg (fun q => h14 q.2.1)
               exact r_zr0 hP c53_36 (by rw [he]; decide) (h _ (zfW_r w I) (fun u q => by rw [he] at q; cases q)))
            | (have he : zk_h S nS nP nW nL nM a0 b0 c0 = none := if_neg (fun q => h21 q.2.2.1)
               exact r_zr0 hP c53_36 (by rw [he]; decide) (h _ (zfW_r w I) (fun u q => by rw [he] at q; cases q)))
            | (have he : zk_h S nS nP nW nL nM a0 b0 c0 = none := if_neg (fun q => h32 q.2.2.2)
               exact r_zr0 hP c53_36 (by rw [he]; decide) (h _ (zfW_r w I) (fun u q => by rw [he] at q; cases q)))
set_option maxRecDepth 4000 in
theorem x_tkm {K : ZKh} {P : Nat → Nat → List Value → List Value → ZMi → ZMl → ZMr → ZRt → Prop} {I : ZMi} {L : ZMl} {R : ZMr} {Q : ZRt} (hP : ZCl K P) {w nS nP nW nL nM : Nat} {S : ZS} (hK : zKa K) (hR : zRa R) (hw : zisW w) (hC : zC I w S nS nP nW) (hp8 : nP ≤ 8) (hs6 : nS ≤ 6) (hw6 : nW ≤ 6) (e8 : I w 8 = nI nL) (e9 : I w 9 = nI nM) (hL : nL ≤ 16) (hM : nM ≤ 6) {a0 b0 c0 : Int32} (h : ∀ I2, zfW w I I2 → (∀ u, zk_m S nS nP nW nL nM a0 b0 c0 = some u → zCu I2 w u) → Q (some (.int (if (zk_m S nS nP nW nL nM a0 b0 c0).isSome = true then 1 else 0))) I2 L R) : P 54 0 [.ref w, .int a0, .int b0, .int c0] [] I L R Q := by
  have hw39 := zW39 hw
  refine r_al hP c54_0 rfl ?_
  refine r_gI (x := nI nM) hP c54_1 (zj_W hK hw) e9 ?_
  refine r_ic hP c54_4 ?_
  refine r_ige hP c54_6 (fun h6 => ?_) (fun h6 => ?_)
  · have hlt : ¬ nM < 6 := by
      have := (nI_leI (a := 6) (by decide) (by omega)).mp h6
      omega
    refine r_ic hP c54_35 ?_
    first
      | (have he : zk_m S nS nP nW nL nM a0 b0 c0 = none := if_neg (fun q => hlt q.1)
         exact r_zr0 hP c54_36 (by rw [he]; decide) (h _ (zfW_r w I) (fun u q => by rw [he] at q; cases q)))
      | (have he : zk_m S nS nP nW nL nM a0 b0 c0 = none := if_neg (fun q => h14 q.2.1)
         exact r_zr0 hP c54_36 (by rw [he]; decide) (h _ (zfW_r w I) (fun u q => by rw [he] at q; cases q)))
      | (have he : zk_m S nS nP nW nL nM a0 b0 c0 = none := if_neg (fun q => h21 q.2.2.1)
         exact r_zr0 hP c54_36 (by rw [he]; decide) (h _ (zfW_r w I) (fun u q => by rw [he] at q; cases q)))
      | (have he : zk_m S nS nP nW nL nM a0 b0 c0 = none := if_neg (fun q => h32 q.2.2.2)
         exact r_zr0 hP c54_36 (by rw [he]; decide) (h _ (zfW_r w I) (fun u q => by rw [he] at q; cases q)))
  · have hlt : nM < 6 := by
      have := (not_congr (nI_leI (a := 6) (by decide) (by omega))).mp h6
      omega
    refine r_al hP c54_9 rfl ?_
    refine r_il hP c54_10 rfl ?_
    refine r_cVi (as := [.int a0]) (r := []) (I' := I) (L' := L) (R' := R) (x := if zr a0 nS then 1 else 0) (a := w) hP c54_11 rfl (zj_W hK hw) rfl (fun _ h2 => x_hasStage hP (zj_W hK hw) (zC_s hC) (by omega) h2) ?_
    refine r_ifeqB hP c54_14 (fun h14 => ?_) (fun h14 => ?_)
    · refine r_ic hP c54_35 ?_
      first
        | (have he : zk_m S nS nP nW nL nM a0 b0 c0 = none := if_neg (fun q => hlt q.1)
           exact r_zr0 hP c54_36 (by rw [he]; decide) (h _ (zfW_r w I) (fun u q => by rw [he] at q; cases q)))
        | (have he : zk_m S nS nP nW nL nM a0 b0 c0 = none := if_neg (fun q => h14 q.2.1)
           exact r_zr0 hP c54_36 (by rw [he]; decide) (h _ (zfW_r w I) (fun u q => by rw [he] at q; cases q)))
        | (have he : zk_m S nS nP nW nL nM a0 b0 c0 = none := if_neg (fun q => h21 q.2.2.1)
           exact r_zr0 hP c54_36 (by rw [he]; decide) (h _ (zfW_r w I) (fun u q => by rw [he] at q; cases q)))
        | (have he : zk_m S nS nP nW nL nM a0 b0 c0 = none := if_neg (fun q => h32 q.2.2.2)
           exact r_zr0 hP c54_36 (by rw [he]; decide) (h _ (zfW_r w I) (fun u q => by rw [he] at q; cases q)))
    · refine r_il hP c54_17 rfl ?_
      refine r_cSi (as := [.int b0]) (r := []) (I' := I) (L' := L) (R' := R) (x := if 0 ≤ b0 ∧ b0 ≤ 2 then 1 else 0) hP c54_18 rfl rfl (fun _ h2 => x_isTone hP h2) ?_
      refine r_ifeqB hP c54_21 (fun h21 => ?_) (fun h21 => ?_)
      · refine r_ic hP c54_35 ?_
        first
          | (have he : zk_m S nS nP nW nL nM a0 b0 c0 = none := if_neg (fun q => hlt q.1)
             exact r_zr0 hP c54_36 (by rw [he]; decide) (h _ (zfW_r w I) (fun u q => by rw [he] at q; cases q)))
          | (have he : zk_m S nS nP nW nL nM a0 b0 c0 = none := if_neg (fun q => h14 q.2.1)
             exact r_zr0 hP c54_36 (by rw [he]; decide) (h _ (zfW_r w I) (fun u q => by rw [he] at q; cases q)))
          | (have he : zk_m S nS nP nW nL nM a0 b0 c0 = none := if_neg (fun q => h21 q.2.2.1)
             exact r_zr0 hP c54_36 (by rw [he]; decide) (h _ (zfW_r w I) (fun u q => by rw [he] at q; cases q)))
          | (have he : zk_m S nS nP nW nL nM a0 b0 c0 = none := if_neg (fun q => h32 q.2.2.2)
             exact r_zr0 hP c54_36 (by rw [he]; decide) (h _ (zfW_r w I) (fun u q => by rw [he] at q; cases q)))
      · refine r_il hP c54_24 rfl ?_
        refine r_ic hP c54_25 ?_
        refine r_ic hP c54_27 ?_
        refine r_cSi (as := [.int c0, .int (-50), .int 50]) (r := []) (I' := I) (L' := L) (R' := R) (x := if (-50) ≤ c0 ∧ c0 ≤ 50 then 1 else 0) hP c54_29 rfl rfl (fun _ h2 => x_within hP h2) ?_
        refine r_ifneB hP c54_32 (fun h32 => ?_) (fun h32 => ?_)
        · obtain ⟨a, ha, rfl⟩ := (zr_iff (by omega)).mp h14
          obtain ⟨b, hb, rfl⟩ := zb_nI (n := 2) rfl (by decide) h21
          refine r_al hP c54_37 rfl ?_
          refine r_gR (x := w + 1) hP c54_38 (zj_W hK hw) (zr_sts hR hw) ?_
          refine r_il hP c54_41 rfl ?_
          refine r_aald (j := a) (x := w + 6 + 2 * a) hP c54_42 (zk_sts hK hw) rfl (by omega) (zr_stg hR hw (by omega)) ?_
          refine r_gR (x := w + 7 + 2 * a) hP c54_43 (zj_stg hK hw (by omega)) (zr_mns hR hw (by omega)) ?_
          refine r_il hP c54_46 rfl ?_
          refine r_dup2 hP c54_47 rfl rfl ?_
          refine r_iald (j := b) (x := S 2 a b) hP c54_48 (zk_mns hK hw (by omega)) rfl (by omega) (zC_m hC (by omega) (by omega)) ?_
          refine r_il hP c54_49 rfl ?_
          refine r_iadd hP c54_50 ?_
          refine r_iast (j := b) hP c54_51 (zk_mns hK hw (by omega)) rfl (by omega) ?_
          refine r_al hP c54_52 rfl ?_
          refine r_dup hP c54_53 rfl ?_
          refine r_gI (x := nI nM) hP c54_54 (zj_W hK hw) ((zup_n _ _ _ _ (by omega)).trans e9) ?_
          refine r_ic hP c54_57 ?_
          refine r_iadd hP c54_58 ?_
          refine r_ti (y := nI (nM + 1)) (nI_1 _) ?_
          refine r_pI hP c54_59 (zj_W hK hw) ?_
          refine r_ic hP c54_62 ?_
          have he : zk_m S nS nP nW nL nM (nI a) (nI b) c0 = some _ := if_pos ⟨hlt, h14, h21, h32⟩
          exact r_zr1 hP c54_63 (by rw [he]; rfl) (h _ (zfW_u (zfW_u (zfW_r w I) (by omega)) (by omega)) (fun u q => by
            rw [he] at q
            cases q
            exact ⟨by rw [nI_clamp (n := a) (by omega), nI_clamp (n := b) (by omega)]; exact zCu_o (zCu_m hC hs6 hp8 hw6 ha) hs6 hp8 hw6 (by omega), (zup_n _ _ _ _ (by omega)).trans ((zup_n _ _ _ _ (by omega)).trans e8), zup_s _ _ _ _⟩))
        · refine r_ic hP c54_35 ?_
          first
            | (have he : zk_m S nS nP nW nL nM a0 b0 c0 = none := if_neg (fun q => hlt q.1)
               exact r_zr0 hP c54_36 (by rw [he]; decide) (h _ (zfW_r w I) (fun u q => by rw [he] at q; cases q)))
            | (have he : zk_m S nS nP nW nL nM a0 b0 c0 = none := if_neg (fun q => h14 q.2.1)
               exact r_zr0 hP c54_36 (by rw [he]; decide) (h _ (zfW_r w I) (fun u q => by rw [he] at q; cases q)))
            | (have he : zk_m S nS nP nW nL nM a0 b0 c0 = none := if_neg (fun q => h21 q.2.2.1)
               exact r_zr0 hP c54_36 (by rw [he]; decide) (h _ (zfW_r w I) (fun u q => by rw [he] at q; cases q)))
            | (have he : zk_m S nS nP nW nL nM a0 b0 c0 = none := if_neg (fun q => h32 q.2.2.2)
               exact r_zr0 hP c54_36 (by rw [he]; decide) (h _ (zfW_r w I) (fun u q => by rw [he] at q; cases q)))
set_option maxRecDepth 4000 in
theorem x_tkc {K : ZKh} {P : Nat → Nat → List Value → List Value → ZMi → ZMl → ZMr → ZRt → Prop} {I : ZMi} {L : ZMl} {R : ZMr} {Q : ZRt} (hP : ZCl K P) {w nS nP nW nL nM : Nat} {S : ZS} (hK : zKa K) (hR : zRa R) (hw : zisW w) (hC : zC I w S nS nP nW) (hp8 : nP ≤ 8) (hs6 : nS ≤ 6) (hw6 : nW ≤ 6) (e8 : I w 8 = nI nL) (e9 : I w 9 = nI nM) (hL : nL ≤ 16) (hM : nM ≤ 6) {a0 b0 : Int32} (h : ∀ I2, zfW w I I2 → (∀ u, zk_c S nS nP nW nL nM a0 b0 = some u → zCu I2 w u) → Q (some (.int (if (zk_c S nS nP nW nL nM a0 b0).isSome = true then 1 else 0))) I2 L R) : P 55 0 [.ref w, .int a0, .int b0] [] I L R Q := by
  have hw39 := zW39 hw
  refine r_al hP c55_0 rfl ?_
  refine r_il hP c55_1 rfl ?_
  refine r_cVi (as := [.int a0]) (r := []) (I' := I) (L' := L) (R' := R) (x := if zr a0 nP then 1 else 0) (a := w) hP c55_2 rfl (zj_W hK hw) rfl (fun _ h2 => x_hasPart hP (zj_W hK hw) (zC_p hC) (by omega) h2) ?_
  refine r_ifeqB hP c55_5 (fun h5 => ?_) (fun h5 => ?_)
  · refine r_ic hP c55_18 ?_
    first
      | (have he : zk_c S nS nP nW nL nM a0 b0 = none := if_neg (fun q => h5 q.1)
         exact r_zr0 hP c55_19 (by rw [he]; decide) (h _ (zfW_r w I) (fun u q => by rw [he] at q; cases q)))
      | (have he : zk_c S nS nP nW nL nM a0 b0 = none := if_neg (fun q => h15 q.2)
         exact r_zr0 hP c55_19 (by rw [he]; decide) (h _ (zfW_r w I) (fun u q => by rw [he] at q; cases q)))
  · refine r_il hP c55_8 rfl ?_
    refine r_ic hP c55_9 ?_
    refine r_ic hP c55_10 ?_
    refine r_cSi (as := [.int b0, .int 1, .int 99]) (r := []) (I' := I) (L' := L) (R' := R) (x := if 1 ≤ b0 ∧ b0 ≤ 99 then 1 else 0) hP c55_12 rfl rfl (fun _ h2 => x_within hP h2) ?_
    refine r_ifneB hP c55_15 (fun h15 => ?_) (fun h15 => ?_)
    · obtain ⟨a, ha, rfl⟩ := (zr_iff (by omega)).mp h5
      refine r_al hP c55_20 rfl ?_
      refine r_gR (x := w + 2) hP c55_21 (zj_W hK hw) (zr_pts hR hw) ?_
      refine r_il hP c55_24 rfl ?_
      refine r_aald (j := a) (x := w + 18 + 2 * a) hP c55_25 (zk_pts hK hw) rfl (by omega) (zr_prt hR hw (by omega)) ?_
      refine r_il hP c55_26 rfl ?_
      refine r_pI hP c55_27 (zj_prt hK hw (by omega)) ?_
      refine r_ic hP c55_30 ?_
      have he : zk_c S nS nP nW nL nM (nI a) b0 = some _ := if_pos ⟨h5, h15⟩
      exact r_zr1 hP c55_31 (by rw [he]; rfl) (h _ (zfW_u (zfW_r w I) (by omega)) (fun u q => by
        rw [he] at q
        cases q
        exact ⟨by rw [nI_clamp (n := a) (by omega)]; exact zCu_c hC hs6 hp8 hw6 ha, (zup_n _ _ _ _ (by omega)).trans e8, (zup_n _ _ _ _ (by omega)).trans e9⟩))
    · refine r_ic hP c55_18 ?_
      first
        | (have he : zk_c S nS nP nW nL nM a0 b0 = none := if_neg (fun q => h5 q.1)
           exact r_zr0 hP c55_19 (by rw [he]; decide) (h _ (zfW_r w I) (fun u q => by rw [he] at q; cases q)))
        | (have he : zk_c S nS nP nW nL nM a0 b0 = none := if_neg (fun q => h15 q.2)
           exact r_zr0 hP c55_19 (by rw [he]; decide) (h _ (zfW_r w I) (fun u q => by rw [he] at q; cases q)))
set_option maxRecDepth 4000 in
theorem x_tke {K : ZKh} {P : Nat → Nat → List Value → List Value → ZMi → ZMl → ZMr → ZRt → Prop} {I : ZMi} {L : ZMl} {R : ZMr} {Q : ZRt} (hP : ZCl K P) {w nS nP nW nL nM : Nat} {S : ZS} (hK : zKa K) (hR : zRa R) (hw : zisW w) (hC : zC I w S nS nP nW) (hp8 : nP ≤ 8) (hs6 : nS ≤ 6) (hw6 : nW ≤ 6) (e8 : I w 8 = nI nL) (e9 : I w 9 = nI nM) (hL : nL ≤ 16) (hM : nM ≤ 6) {a0 b0 : Int32} (h : ∀ I2, zfW w I I2 → (∀ u, zk_e S nS nP nW nL nM a0 b0 = some u → zCu I2 w u) → Q (some (.int (if (zk_e S nS nP nW nL nM a0 b0).isSome = true then 1 else 0))) I2 L R) : P 57 0 [.ref w, .int a0, .int b0] [] I L R Q := by
  have hw39 := zW39 hw
  refine r_il hP c57_0 rfl ?_
  refine r_cSi (as := [.int a0]) (r := []) (I' := I) (L' := L) (R' := R) (x := if 0 ≤ a0 ∧ a0 ≤ 2 then 1 else 0) hP c57_1 rfl rfl (fun _ h2 => x_isTone hP h2) ?_
  refine r_ifeqB hP c57_4 (fun h4 => ?_) (fun h4 => ?_)
  · refine r_ic hP c57_18 ?_
    first
      | (have he : zk_e S nS nP nW nL nM a0 b0 = none := if_neg (fun q => h4 q.1)
         exact r_zr0 hP c57_19 (by rw [he]; decide) (h _ (zfW_r w I) (fun u q => by rw [he] at q; cases q)))
      | (have he : zk_e S nS nP nW nL nM a0 b0 = none := if_neg (fun q => h15 q.2)
         exact r_zr0 hP c57_19 (by rw [he]; decide) (h _ (zfW_r w I) (fun u q => by rw [he] at q; cases q)))
  · refine r_il hP c57_7 rfl ?_
    refine r_ic hP c57_8 ?_
    refine r_ic hP c57_9 ?_
    refine r_cSi (as := [.int b0, .int 0, .int 999]) (r := []) (I' := I) (L' := L) (R' := R) (x := if 0 ≤ b0 ∧ b0 ≤ 999 then 1 else 0) hP c57_12 rfl rfl (fun _ h2 => x_within hP h2) ?_
    refine r_ifneB hP c57_15 (fun h15 => ?_) (fun h15 => ?_)
    · obtain ⟨a, ha, rfl⟩ := zb_nI (n := 2) rfl (by decide) h4
      refine r_al hP c57_20 rfl ?_
      refine r_gR (x := w + 4) hP c57_21 (zj_W hK hw) (zr_ear hR hw) ?_
      refine r_il hP c57_24 rfl ?_
      refine r_il hP c57_25 rfl ?_
      refine r_iast (j := a) hP c57_26 (zk_ear hK hw) rfl (by omega) ?_
      refine r_ic hP c57_27 ?_
      have he : zk_e S nS nP nW nL nM (nI a) b0 = some _ := if_pos ⟨h4, h15⟩
      exact r_zr1 hP c57_28 (by rw [he]; rfl) (h _ (zfW_u (zfW_r w I) (by omega)) (fun u q => by
        rw [he] at q
        cases q
        exact ⟨by rw [nI_clamp (n := a) (by omega)]; exact zCu_e hC hs6 hp8 hw6 (by omega), (zup_n _ _ _ _ (by omega)).trans e8, (zup_n _ _ _ _ (by omega)).trans e9⟩))
    · refine r_ic hP c57_18 ?_
      first
        | (have he : zk_e S nS nP nW nL nM a0 b0 = none := if_neg (fun q => h4 q.1)
           exact r_zr0 hP c57_19 (by rw [he]; decide) (h _ (zfW_r w I) (fun u q => by rw [he] at q; cases q)))
        | (have he : zk_e S nS nP nW nL nM a0 b0 = none := if_neg (fun q => h15 q.2)
           exact r_zr0 hP c57_19 (by rw [he]; decide) (h _ (zfW_r w I) (fun u q => by rw [he] at q; cases q)))
set_option maxRecDepth 4000 in
theorem x_tkk {K : ZKh} {P : Nat → Nat → List Value → List Value → ZMi → ZMl → ZMr → ZRt → Prop} {I : ZMi} {L : ZMl} {R : ZMr} {Q : ZRt} (hP : ZCl K P) {w nS nP nW nL nM : Nat} {S : ZS} (hK : zKa K) (hR : zRa R) (hw : zisW w) (hC : zC I w S nS nP nW) (hp8 : nP ≤ 8) (hs6 : nS ≤ 6) (hw6 : nW ≤ 6) (e8 : I w 8 = nI nL) (e9 : I w 9 = nI nM) (hL : nL ≤ 16) (hM : nM ≤ 6) {a0 b0 : Int32} (h : ∀ I2, zfW w I I2 → (∀ u, zk_k S nS nP nW nL nM a0 b0 = some u → zCu I2 w u) → Q (some (.int (if (zk_k S nS nP nW nL nM a0 b0).isSome = true then 1 else 0))) I2 L R) : P 58 0 [.ref w, .int a0, .int b0] [] I L R Q := by
  have hw39 := zW39 hw
  refine r_il hP c58_0 rfl ?_
  refine r_ic hP c58_1 ?_
  refine r_ic hP c58_2 ?_
  refine r_cSi (as := [.int a0, .int 0, .int 4]) (r := []) (I' := I) (L' := L) (R' := R) (x := if 0 ≤ a0 ∧ a0 ≤ 4 then 1 else 0) hP c58_3 rfl rfl (fun _ h2 => x_within hP h2) ?_
  refine r_ifeqB hP c58_6 (fun h6 => ?_) (fun h6 => ?_)
  · refine r_ic hP c58_19 ?_
    first
      | (have he : zk_k S nS nP nW nL nM a0 b0 = none := if_neg (fun q => h6 q.1)
         exact r_zr0 hP c58_20 (by rw [he]; decide) (h _ (zfW_r w I) (fun u q => by rw [he] at q; cases q)))
      | (have he : zk_k S nS nP nW nL nM a0 b0 = none := if_neg (fun q => h16 q.2)
         exact r_zr0 hP c58_20 (by rw [he]; decide) (h _ (zfW_r w I) (fun u q => by rw [he] at q; cases q)))
  · refine r_il hP c58_9 rfl ?_
    refine r_ic hP c58_10 ?_
    refine r_ic hP c58_11 ?_
    refine r_cSi (as := [.int b0, .int 0, .int 50]) (r := []) (I' := I) (L' := L) (R' := R) (x := if 0 ≤ b0 ∧ b0 ≤ 50 then 1 else 0) hP c58_13 rfl rfl (fun _ h2 => x_within hP h2) ?_
    refine r_ifneB hP c58_16 (fun h16 => ?_) (fun h16 => ?_)
    · obtain ⟨a, ha, rfl⟩ := zb_nI (n := 4) rfl (by decide) h6
      refine r_al hP c58_21 rfl ?_
      refine r_gR (x := w + 5) hP c58_22 (zj_W hK hw) (zr_yrl hR hw) ?_
      refine r_il hP c58_25 rfl ?_
      refine r_il hP c58_26 rfl ?_
      refine r_iast (j := a) hP c58_27 (zk_yrl hK hw) rfl (by omega) ?_
      refine r_ic hP c58_28 ?_
      have he : zk_k S nS nP nW nL nM (nI a) b0 = some _ := if_pos ⟨h6, h16⟩
      exact r_zr1 hP c58_29 (by rw [he]; rfl) (h _ (zfW_u (zfW_r w I) (by omega)) (fun u q => by
        rw [he] at q
        cases q
        exact ⟨by rw [nI_clamp (n := a) (by omega)]; exact zCu_k hC hs6 hp8 hw6 (by omega), (zup_n _ _ _ _ (by omega)).trans e8, (zup_n _ _ _ _ (by omega)).trans e9⟩))
    · refine r_ic hP c58_19 ?_
      first
        | (have he : zk_k S nS nP nW nL nM a0 b0 = none := if_neg (fun q => h6 q.1)
           exact r_zr0 hP c58_20 (by rw [he]; decide) (h _ (zfW_r w I) (fun u q => by rw [he] at q; cases q)))
        | (have he : zk_k S nS nP nW nL nM a0 b0 = none := if_neg (fun q => h16 q.2)
           exact r_zr0 hP c58_20 (by rw [he]; decide) (h _ (zfW_r w I) (fun u q => by rw [he] at q; cases q)))
set_option maxRecDepth 4000 in
theorem x_tkv {K : ZKh} {P : Nat → Nat → List Value → List Value → ZMi → ZMl → ZMr → ZRt → Prop} {I : ZMi} {L : ZMl} {R : ZMr} {Q : ZRt} (hP : ZCl K P) {w nS nP nW nL nM : Nat} {S : ZS} (hK : zKa K) (hR : zRa R) (hw : zisW w) (hC : zC I w S nS nP nW) (hp8 : nP ≤ 8) (hs6 : nS ≤ 6) (hw6 : nW ≤ 6) (e8 : I w 8 = nI nL) (e9 : I w 9 = nI nM) (hL : nL ≤ 16) (hM : nM ≤ 6) {a0 b0 c0 : Int32} (h : ∀ I2, zfW w I I2 → (∀ u, zk_v S nS nP nW nL nM a0 b0 c0 = some u → zCu I2 w u) → Q (some (.int (if (zk_v S nS nP nW nL nM a0 b0 c0).isSome = true then 1 else 0))) I2 L R) : P 59 0 [.ref w, .int a0, .int b0, .int c0] [] I L R Q := by
  have hw39 := zW39 hw
  refine r_al hP c59_0 rfl ?_
  refine r_il hP c59_1 rfl ?_
  refine r_cVi (as := [.int a0]) (r := []) (I' := I) (L' := L) (R' := R) (x := if zr a0 nP then 1 else 0) (a := w) hP c59_2 rfl (zj_W hK hw) rfl (fun _ h2 => x_hasPart hP (zj_W hK hw) (zC_p hC) (by omega) h2) ?_
  refine r_ifeqB hP c59_5 (fun h5 => ?_) (fun h5 => ?_)
  · refine r_ic hP c59_29 ?_
    first
      | (have he : zk_v S nS nP nW nL nM a0 b0 c0 = none := if_neg (fun q => h5 q.1)
         exact r_zr0 hP c59_30 (by rw [he]; decide) (h _ (zfW_r w I) (fun u q => by rw [he] at q; cases q)))
      | (have he : zk_v S nS nP nW nL nM a0 b0 c0 = none := if_neg (fun q => h16 q.2.1)
         exact r_zr0 hP c59_30 (by rw [he]; decide) (h _ (zfW_r w I) (fun u q => by rw [he] at q; cases q)))
      | (have he : zk_v S nS nP nW nL nM a0 b0 c0 = none := if_neg (fun q => h26 q.2.2)
         exact r_zr0 hP c59_30 (by rw [he]; decide) (h _ (zfW_r w I) (fun u q => by rw [he] at q; cases q)))
  · refine r_il hP c59_8 rfl ?_
    refine r_ic hP c59_9 ?_
    refine r_ic hP c59_10 ?_
    refine r_cSi (as := [.int b0, .int 0, .int 900]) (r := []) (I' := I) (L' := L) (R' := R) (x := if 0 ≤ b0 ∧ b0 ≤ 900 then 1 else 0) hP c59_13 rfl rfl (fun _ h2 => x_within hP h2) ?_
    refine r_ifeqB hP c59_16 (fun h16 => ?_) (fun h16 => ?_)
    · refine r_ic hP c59_29 ?_
      first
        | (have he : zk_v S nS nP nW nL nM a0 b0 c0 = none := if_neg (fun q => h5 q.1)
           exact r_zr0 hP c59_30 (by rw [he]; decide) (h _ (zfW_r w I) (fun u q => by rw [he] at q; cases q)))
        | (have he : zk_v S nS nP nW nL nM a0 b0 c0 = none := if_neg (fun q => h16 q.2.1)
           exact r_zr0 hP c59_30 (by rw [he]; decide) (h _ (zfW_r w I) (fun u q => by rw [he] at q; cases q)))
        | (have he : zk_v S nS nP nW nL nM a0 b0 c0 = none := if_neg (fun q => h26 q.2.2)
           exact r_zr0 hP c59_30 (by rw [he]; decide) (h _ (zfW_r w I) (fun u q => by rw [he] at q; cases q)))
    · refine r_il hP c59_19 rfl ?_
      refine r_ic hP c59_20 ?_
      refine r_ic hP c59_21 ?_
      refine r_cSi (as := [.int c0, .int 1, .int 99]) (r := []) (I' := I) (L' := L) (R' := R) (x := if 1 ≤ c0 ∧ c0 ≤ 99 then 1 else 0) hP c59_23 rfl rfl (fun _ h2 => x_within hP h2) ?_
      refine r_ifneB hP c59_26 (fun h26 => ?_) (fun h26 => ?_)
      · obtain ⟨a, ha, rfl⟩ := (zr_iff (by omega)).mp h5
        refine r_al hP c59_31 rfl ?_
        refine r_gR (x := w + 2) hP c59_32 (zj_W hK hw) (zr_pts hR hw) ?_
        refine r_il hP c59_35 rfl ?_
        refine r_aald (j := a) (x := w + 18 + 2 * a) hP c59_36 (zk_pts hK hw) rfl (by omega) (zr_prt hR hw (by omega)) ?_
        refine r_il hP c59_37 rfl ?_
        refine r_pI hP c59_38 (zj_prt hK hw (by omega)) ?_
        refine r_al hP c59_41 rfl ?_
        refine r_gR (x := w + 2) hP c59_42 (zj_W hK hw) (zr_pts hR hw) ?_
        refine r_il hP c59_45 rfl ?_
        refine r_aald (j := a) (x := w + 18 + 2 * a) hP c59_46 (zk_pts hK hw) rfl (by omega) (zr_prt hR hw (by omega)) ?_
        refine r_il hP c59_47 rfl ?_
        refine r_pI hP c59_48 (zj_prt hK hw (by omega)) ?_
        refine r_ic hP c59_51 ?_
        have he : zk_v S nS nP nW nL nM (nI a) b0 c0 = some _ := if_pos ⟨h5, h16, h26⟩
        exact r_zr1 hP c59_52 (by rw [he]; rfl) (h _ (zfW_u (zfW_u (zfW_r w I) (by omega)) (by omega)) (fun u q => by
          rw [he] at q
          cases q
          exact ⟨by rw [nI_clamp (n := a) (by omega)]; exact zCu_10 (zCu_9 hC hs6 hp8 hw6 ha) hs6 hp8 hw6 ha, (zup_n _ _ _ _ (by omega)).trans ((zup_n _ _ _ _ (by omega)).trans e8), (zup_n _ _ _ _ (by omega)).trans ((zup_n _ _ _ _ (by omega)).trans e9)⟩))
      · refine r_ic hP c59_29 ?_
        first
          | (have he : zk_v S nS nP nW nL nM a0 b0 c0 = none := if_neg (fun q => h5 q.1)
             exact r_zr0 hP c59_30 (by rw [he]; decide) (h _ (zfW_r w I) (fun u q => by rw [he] at q; cases q)))
          | (have he : zk_v S nS nP nW nL nM a0 b0 c0 = none := if_neg (fun q => h16 q.2.1)
             exact r_zr0 hP c59_30 (by rw [he]; decide) (h _ (zfW_r w I) (fun u q => by rw [he] at q; cases q)))
          | (have he : zk_v S nS nP nW nL nM a0 b0 c0 = none := if_neg (fun q => h26 q.2.2)
             exact r_zr0 hP c59_30 (by rw [he]; decide) (h _ (zfW_r w I) (fun u q => by rw [he] at q; cases q)))
set_option maxRecDepth 4000 in
theorem x_tkf {K : ZKh} {P : Nat → Nat → List Value → List Value → ZMi → ZMl → ZMr → ZRt → Prop} {I : ZMi} {L : ZMl} {R : ZMr} {Q : ZRt} (hP : ZCl K P) {w nS nP nW nL nM : Nat} {S : ZS} (hK : zKa K) (hR : zRa R) (hw : zisW w) (hC : zC I w S nS nP nW) (hp8 : nP ≤ 8) (hs6 : nS ≤ 6) (hw6 : nW ≤ 6) (e8 : I w 8 = nI nL) (e9 : I w 9 = nI nM) (hL : nL ≤ 16) (hM : nM ≤ 6) {a0 b0 c0 : Int32} (h : ∀ I2, zfW w I I2 → (∀ u, zk_f S nS nP nW nL nM a0 b0 c0 = some u → zCu I2 w u) → Q (some (.int (if (zk_f S nS nP nW nL nM a0 b0 c0).isSome = true then 1 else 0))) I2 L R) : P 56 0 [.ref w, .int a0, .int b0, .int c0, .null] [] I L R Q := by
  have hw39 := zW39 hw
  refine r_al hP c56_0 rfl ?_
  refine r_gI (x := nI nW) hP c56_1 (zj_W hK hw) (zC_w hC) ?_
  refine r_ic hP c56_4 ?_
  refine r_ige hP c56_6 (fun h6 => ?_) (fun h6 => ?_)
  · have hlt : ¬ nW < 6 := by
      have := (nI_leI (a := 6) (by decide) (by omega)).mp h6
      omega
    refine r_ic hP c56_37 ?_
    first
      | (have he : zk_f S nS nP nW nL nM a0 b0 c0 = none := if_neg (fun q => hlt q.1)
         exact r_zr0 hP c56_38 (by rw [he]; decide) (h _ (zfW_r w I) (fun u q => by rw [he] at q; cases q)))
      | (have he : zk_f S nS nP nW nL nM a0 b0 c0 = none := if_neg (fun q => h14 q.2.1)
         exact r_zr0 hP c56_38 (by rw [he]; decide) (h _ (zfW_r w I) (fun u q => by rw [he] at q; cases q)))
      | (have he : zk_f S nS nP nW nL nM a0 b0 c0 = none := if_neg (fun q => h21 q.2.2.1)
         exact r_zr0 hP c56_38 (by rw [he]; decide) (h _ (zfW_r w I) (fun u q => by rw [he] at q; cases q)))
      | (have he : zk_f S nS nP nW nL nM a0 b0 c0 = none := if_neg (fun q => h34 q.2.2.2)
         exact r_zr0 hP c56_38 (by rw [he]; decide) (h _ (zfW_r w I) (fun u q => by rw [he] at q; cases q)))
  · have hlt : nW < 6 := by
      have := (not_congr (nI_leI (a := 6) (by decide) (by omega))).mp h6
      omega
    refine r_al hP c56_9 rfl ?_
    refine r_il hP c56_10 rfl ?_
    refine r_cVi (as := [.int a0]) (r := []) (I' := I) (L' := L) (R' := R) (x := if zr a0 nS then 1 else 0) (a := w) hP c56_11 rfl (zj_W hK hw) rfl (fun _ h2 => x_hasStage hP (zj_W hK hw) (zC_s hC) (by omega) h2) ?_
    refine r_ifeqB hP c56_14 (fun h14 => ?_) (fun h14 => ?_)
    · refine r_ic hP c56_37 ?_
      first
        | (have he : zk_f S nS nP nW nL nM a0 b0 c0 = none := if_neg (fun q => hlt q.1)
           exact r_zr0 hP c56_38 (by rw [he]; decide) (h _ (zfW_r w I) (fun u q => by rw [he] at q; cases q)))
        | (have he : zk_f S nS nP nW nL nM a0 b0 c0 = none := if_neg (fun q => h14 q.2.1)
           exact r_zr0 hP c56_38 (by rw [he]; decide) (h _ (zfW_r w I) (fun u q => by rw [he] at q; cases q)))
        | (have he : zk_f S nS nP nW nL nM a0 b0 c0 = none := if_neg (fun q => h21 q.2.2.1)
           exact r_zr0 hP c56_38 (by rw [he]; decide) (h _ (zfW_r w I) (fun u q => by rw [he] at q; cases q)))
        | (have he : zk_f S nS nP nW nL nM a0 b0 c0 = none := if_neg (fun q => h34 q.2.2.2)
           exact r_zr0 hP c56_38 (by rw [he]; decide) (h _ (zfW_r w I) (fun u q => by rw [he] at q; cases q)))
    · refine r_il hP c56_17 rfl ?_
      refine r_cSi (as := [.int b0]) (r := []) (I' := I) (L' := L) (R' := R) (x := if 0 ≤ b0 ∧ b0 ≤ 2 then 1 else 0) hP c56_18 rfl rfl (fun _ h2 => x_isTone hP h2) ?_
      refine r_ifeqB hP c56_21 (fun h21 => ?_) (fun h21 => ?_)
      · refine r_ic hP c56_37 ?_
        first
          | (have he : zk_f S nS nP nW nL nM a0 b0 c0 = none := if_neg (fun q => hlt q.1)
             exact r_zr0 hP c56_38 (by rw [he]; decide) (h _ (zfW_r w I) (fun u q => by rw [he] at q; cases q)))
          | (have he : zk_f S nS nP nW nL nM a0 b0 c0 = none := if_neg (fun q => h14 q.2.1)
             exact r_zr0 hP c56_38 (by rw [he]; decide) (h _ (zfW_r w I) (fun u q => by rw [he] at q; cases q)))
          | (have he : zk_f S nS nP nW nL nM a0 b0 c0 = none := if_neg (fun q => h21 q.2.2.1)
             exact r_zr0 hP c56_38 (by rw [he]; decide) (h _ (zfW_r w I) (fun u q => by rw [he] at q; cases q)))
          | (have he : zk_f S nS nP nW nL nM a0 b0 c0 = none := if_neg (fun q => h34 q.2.2.2)
             exact r_zr0 hP c56_38 (by rw [he]; decide) (h _ (zfW_r w I) (fun u q => by rw [he] at q; cases q)))
      · refine r_il hP c56_24 rfl ?_
        refine r_ic hP c56_25 ?_
        refine r_ic hP c56_28 ?_
        refine r_cSi (as := [.int c0, .int (-200), .int 200]) (r := []) (I' := I) (L' := L) (R' := R) (x := if (-200) ≤ c0 ∧ c0 ≤ 200 then 1 else 0) hP c56_31 rfl rfl (fun _ h2 => x_within hP h2) ?_
        refine r_ifneB hP c56_34 (fun h34 => ?_) (fun h34 => ?_)
        · refine r_al hP c56_39 rfl ?_
          refine r_gR (x := w + 3) hP c56_40 (zj_W hK hw) (zr_wys hR hw) ?_
          refine r_al hP c56_43 rfl ?_
          refine r_gI (x := nI nW) hP c56_44 (zj_W hK hw) (zC_w hC) ?_
          refine r_aald (j := nW) (x := w + 34 + nW) hP c56_47 (zk_wys hK hw) rfl (by omega) (zr_way hR hw (by omega)) ?_
          refine r_as (ls' := [.ref w, .int a0, .int b0, .int c0, .ref (w + 34 + nW)]) hP c56_48 (Nat.le_of_ble_eq_true rfl) rfl ?_
          refine r_al hP c56_50 rfl ?_
          refine r_il hP c56_52 rfl ?_
          refine r_pI hP c56_53 (zj_way hK hw (by omega)) ?_
          refine r_al hP c56_56 rfl ?_
          refine r_il hP c56_58 rfl ?_
          refine r_pI hP c56_59 (zj_way hK hw (by omega)) ?_
          refine r_al hP c56_62 rfl ?_
          refine r_il hP c56_64 rfl ?_
          refine r_pI hP c56_65 (zj_way hK hw (by omega)) ?_
          refine r_al hP c56_68 rfl ?_
          refine r_dup hP c56_69 rfl ?_
          refine r_gI (x := nI nW) hP c56_70 (zj_W hK hw) ((zup_n _ _ _ _ (by omega)).trans ((zup_n _ _ _ _ (by omega)).trans ((zup_n _ _ _ _ (by omega)).trans (zC_w hC)))) ?_
          refine r_ic hP c56_73 ?_
          refine r_iadd hP c56_74 ?_
          refine r_ti (y := nI (nW + 1)) (nI_1 _) ?_
          refine r_pI hP c56_75 (zj_W hK hw) ?_
          refine r_ic hP c56_78 ?_
          have he : zk_f S nS nP nW nL nM a0 b0 c0 = some _ := if_pos ⟨hlt, h14, h21, h34⟩
          exact r_zr1 hP c56_79 (by rw [he]; rfl) (h _ (zfW_u (zfW_u (zfW_u (zfW_u (zfW_r w I) (by omega)) (by omega)) (by omega)) (by omega)) (fun u q => by
            rw [he] at q
            cases q
            exact ⟨zCu_f hC hs6 hp8 hw6 hlt, (zup_n _ _ _ _ (by omega)).trans ((zup_n _ _ _ _ (by omega)).trans ((zup_n _ _ _ _ (by omega)).trans ((zup_n _ _ _ _ (by omega)).trans e8))), (zup_n _ _ _ _ (by omega)).trans ((zup_n _ _ _ _ (by omega)).trans ((zup_n _ _ _ _ (by omega)).trans ((zup_n _ _ _ _ (by omega)).trans e9)))⟩))
        · refine r_ic hP c56_37 ?_
          first
            | (have he : zk_f S nS nP nW nL nM a0 b0 c0 = none := if_neg (fun q => hlt q.1)
               exact r_zr0 hP c56_38 (by rw [he]; decide) (h _ (zfW_r w I) (fun u q => by rw [he] at q; cases q)))
            | (have he : zk_f S nS nP nW nL nM a0 b0 c0 = none := if_neg (fun q => h14 q.2.1)
               exact r_zr0 hP c56_38 (by rw [he]; decide) (h _ (zfW_r w I) (fun u q => by rw [he] at q; cases q)))
            | (have he : zk_f S nS nP nW nL nM a0 b0 c0 = none := if_neg (fun q => h21 q.2.2.1)
               exact r_zr0 hP c56_38 (by rw [he]; decide) (h _ (zfW_r w I) (fun u q => by rw [he] at q; cases q)))
            | (have he : zk_f S nS nP nW nL nM a0 b0 c0 = none := if_neg (fun q => h34 q.2.2.2)
               exact r_zr0 hP c56_38 (by rw [he]; decide) (h _ (zfW_r w I) (fun u q => by rw [he] at q; cases q)))
set_option maxRecDepth 4000 in
theorem x_tks_l {K : ZKh} {P : Nat → Nat → List Value → List Value → ZMi → ZMl → ZMr → ZRt → Prop} {I : ZMi} {L : ZMl} {R : ZMr} {Q : ZRt} (hP : ZCl K P) {w nS nP nW nL nM : Nat} {S : ZS} (hK : zKa K) (hR : zRa R) (hw : zisW w) (hC : zC I w S nS nP nW) (hp8 : nP ≤ 8) (hs6 : nS ≤ 6) (hw6 : nW ≤ 6) (e8 : I w 8 = nI nL) (e9 : I w 9 = nI nM) (hL : nL ≤ 16) (hM : nM ≤ 6) {a0 b0 : Int32} (hlt6 : nS < 6) (hpos : nS < 6 ∧ (1 ≤ a0 ∧ a0 ≤ 50) ∧ (1 ≤ b0 ∧ b0 ≤ 99)) (h : ∀ I2, zfW w I I2 → (∀ u, zk_s S nS nP nW nL nM a0 b0 = some u → zCu I2 w u) → Q (some (.int (if (zk_s S nS nP nW nL nM a0 b0).isSome = true then 1 else 0))) I2 L R) : ∀ t, t ≤ 3 → ∀ (I1 : ZMi), (∀ x k, ¬ (x = w + 6 + 2 * nS ∧ (k = 1 ∨ k = 2)) → ¬ (x = w + 7 + 2 * nS ∧ k < 3) → I1 x k = I x k) ∧ I1 (w + 6 + 2 * nS) 1 = a0 ∧ I1 (w + 6 + 2 * nS) 2 = b0 ∧ (∀ i, i < t → I1 (w + 7 + 2 * nS) i = 0) → P 51 54 [.ref w, .int a0, .int b0, .ref (w + 6 + 2 * nS), .int (nI t)] [] I1 L R Q := by
  refine zloop 3 (fun t => ∀ (I1 : ZMi), (∀ x k, ¬ (x = w + 6 + 2 * nS ∧ (k = 1 ∨ k = 2)) → ¬ (x = w + 7 + 2 * nS ∧ k < 3) → I1 x k = I x k) ∧ I1 (w + 6 + 2 * nS) 1 = a0 ∧ I1 (w + 6 + 2 * nS) 2 = b0 ∧ (∀ i, i < t → I1 (w + 7 + 2 * nS) i = 0) → P 51 54 [.ref w, .int a0, .int b0, .ref (w + 6 + 2 * nS), .int (nI t)] [] I1 L R Q) ?_
  intro t hle ih I1 hacc
  have hw39 := zW39 hw
  refine r_il hP c51_54 rfl ?_
  refine r_ic hP c51_56 ?_
  refine r_ige hP c51_57 (fun h57 => ?_) (fun h57 => ?_)
  · have he : t = 3 := Nat.le_antisymm hle ((nI_leI (by omega) (by omega)).mp h57)
    refine r_al hP c51_74 rfl ?_
    refine r_dup hP c51_75 rfl ?_
    refine r_gI (x := nI nS) hP c51_76 (zj_W hK hw) ((hacc.1 w 5 (by omega) (by omega)).trans (zC_s hC)) ?_
    refine r_ic hP c51_79 ?_
    refine r_iadd hP c51_80 ?_
    refine r_ti (y := nI (nS + 1)) (nI_1 _) ?_
    refine r_pI hP c51_81 (zj_W hK hw) ?_
    refine r_ic hP c51_84 ?_
    subst he
    have he : zk_s S nS nP nW nL nM a0 b0 = some _ := if_pos hpos
    exact r_zr1 hP c51_85 (by rw [he]; rfl) (h _ (fun x k q => by rw [zup_na _ _ _ _ (by omega)]; exact hacc.1 x k (by omega) (by omega)) (fun u q => by
      rw [he] at q
      cases q
      exact ⟨zCu_s hC hs6 hp8 hw6 hlt6 (fun x k q1 q2 q3 => (zup_n _ _ _ _ q3).trans (hacc.1 x k q1 q2)) ((zup_n _ _ _ _ (by omega)).trans hacc.2.1) ((zup_n _ _ _ _ (by omega)).trans hacc.2.2.1) (fun t ht => (zup_n _ _ _ _ (by omega)).trans (hacc.2.2.2 t ht)) (zup_s _ _ _ _), (zup_n _ _ _ _ (by omega)).trans ((hacc.1 w 8 (by omega) (by omega)).trans e8), (zup_n _ _ _ _ (by omega)).trans ((hacc.1 w 9 (by omega) (by omega)).trans e9)⟩))
  · have hlt : t < 3 := by
      rcases Nat.lt_or_ge t 3 with q | q
      · exact q
      · exact absurd (nI_le q (by omega)) h57
    refine r_al hP c51_60 rfl ?_
    refine r_gR (x := w + 7 + 2 * nS) hP c51_61 (zj_stg hK hw (by omega)) (zr_mns hR hw (by omega)) ?_
    refine r_il hP c51_64 rfl ?_
    refine r_ic hP c51_66 ?_
    refine r_iast (j := t) hP c51_67 (zk_mns hK hw (by omega)) rfl (by omega) ?_
    refine r_inc (y := nI (t + 1)) (ls' := [.ref w, .int a0, .int b0, .ref (w + 6 + 2 * nS), .int (nI (t + 1))]) hP c51_68 rfl (nI_1 _) rfl ?_
    refine r_goto hP c51_71 ?_
    exact ih hlt _ ⟨fun x k q1 q2 => (zup_n _ _ _ _ (by omega)).trans (hacc.1 x k q1 q2), (zup_n _ _ _ _ (by omega)).trans hacc.2.1, (zup_n _ _ _ _ (by omega)).trans hacc.2.2.1, fun i hi => by
      rcases Nat.lt_or_ge i t with z | z
      · rw [zup_n _ _ _ _ (by omega)]; exact hacc.2.2.2 i z
      · rw [show i = t from by omega, zup_s]⟩
set_option maxRecDepth 4000 in
theorem x_tks {K : ZKh} {P : Nat → Nat → List Value → List Value → ZMi → ZMl → ZMr → ZRt → Prop} {I : ZMi} {L : ZMl} {R : ZMr} {Q : ZRt} (hP : ZCl K P) {w nS nP nW nL nM : Nat} {S : ZS} (hK : zKa K) (hR : zRa R) (hw : zisW w) (hC : zC I w S nS nP nW) (hp8 : nP ≤ 8) (hs6 : nS ≤ 6) (hw6 : nW ≤ 6) (e8 : I w 8 = nI nL) (e9 : I w 9 = nI nM) (hL : nL ≤ 16) (hM : nM ≤ 6) {a0 b0 : Int32} (h : ∀ I2, zfW w I I2 → (∀ u, zk_s S nS nP nW nL nM a0 b0 = some u → zCu I2 w u) → Q (some (.int (if (zk_s S nS nP nW nL nM a0 b0).isSome = true then 1 else 0))) I2 L R) : P 51 0 [.ref w, .int a0, .int b0, .null, .null] [] I L R Q := by
  have hw39 := zW39 hw
  refine r_al hP c51_0 rfl ?_
  refine r_gI (x := nI nS) hP c51_1 (zj_W hK hw) (zC_s hC) ?_
  refine r_ic hP c51_4 ?_
  refine r_ige hP c51_6 (fun h6 => ?_) (fun h6 => ?_)
  · have hlt : ¬ nS < 6 := by
      have := (nI_leI (a := 6) (by decide) (by omega)).mp h6
      omega
    refine r_ic hP c51_29 ?_
    first
      | (have he : zk_s S nS nP nW nL nM a0 b0 = none := if_neg (fun q => hlt q.1)
         exact r_zr0 hP c51_30 (by rw [he]; decide) (h _ (zfW_r w I) (fun u q => by rw [he] at q; cases q)))
      | (have he : zk_s S nS nP nW nL nM a0 b0 = none := if_neg (fun q => h16 q.2.1)
         exact r_zr0 hP c51_30 (by rw [he]; decide) (h _ (zfW_r w I) (fun u q => by rw [he] at q; cases q)))
      | (have he : zk_s S nS nP nW nL nM a0 b0 = none := if_neg (fun q => h26 q.2.2)
         exact r_zr0 hP c51_30 (by rw [he]; decide) (h _ (zfW_r w I) (fun u q => by rw [he] at q; cases q)))
  · have hlt : nS < 6 := by
      have := (not_congr (nI_leI (a := 6) (by decide) (by omega))).mp h6
      omega
    refine r_il hP c51_9 rfl ?_
    refine r_ic hP c51_10 ?_
    refine r_ic hP c51_11 ?_
    refine r_cSi (as := [.int a0, .int 1, .int 50]) (r := []) (I' := I) (L' := L) (R' := R) (x := if 1 ≤ a0 ∧ a0 ≤ 50 then 1 else 0) hP c51_13 rfl rfl (fun _ h2 => x_within hP h2) ?_
    refine r_ifeqB hP c51_16 (fun h16 => ?_) (fun h16 => ?_)
    · refine r_ic hP c51_29 ?_
      first
        | (have he : zk_s S nS nP nW nL nM a0 b0 = none := if_neg (fun q => hlt q.1)
           exact r_zr0 hP c51_30 (by rw [he]; decide) (h _ (zfW_r w I) (fun u q => by rw [he] at q; cases q)))
        | (have he : zk_s S nS nP nW nL nM a0 b0 = none := if_neg (fun q => h16 q.2.1)
           exact r_zr0 hP c51_30 (by rw [he]; decide) (h _ (zfW_r w I) (fun u q => by rw [he] at q; cases q)))
        | (have he : zk_s S nS nP nW nL nM a0 b0 = none := if_neg (fun q => h26 q.2.2)
           exact r_zr0 hP c51_30 (by rw [he]; decide) (h _ (zfW_r w I) (fun u q => by rw [he] at q; cases q)))
    · refine r_il hP c51_19 rfl ?_
      refine r_ic hP c51_20 ?_
      refine r_ic hP c51_21 ?_
      refine r_cSi (as := [.int b0, .int 1, .int 99]) (r := []) (I' := I) (L' := L) (R' := R) (x := if 1 ≤ b0 ∧ b0 ≤ 99 then 1 else 0) hP c51_23 rfl rfl (fun _ h2 => x_within hP h2) ?_
      refine r_ifneB hP c51_26 (fun h26 => ?_) (fun h26 => ?_)
      · refine r_al hP c51_31 rfl ?_
        refine r_gR (x := w + 1) hP c51_32 (zj_W hK hw) (zr_sts hR hw) ?_
        refine r_al hP c51_35 rfl ?_
        refine r_gI (x := nI nS) hP c51_36 (zj_W hK hw) (zC_s hC) ?_
        refine r_aald (j := nS) (x := w + 6 + 2 * nS) hP c51_39 (zk_sts hK hw) rfl (by omega) (zr_stg hR hw (by omega)) ?_
        refine r_as (ls' := [.ref w, .int a0, .int b0, .ref (w + 6 + 2 * nS), .null]) hP c51_40 (Nat.le_of_ble_eq_true rfl) rfl ?_
        refine r_al hP c51_41 rfl ?_
        refine r_il hP c51_42 rfl ?_
        refine r_pI hP c51_43 (zj_stg hK hw (by omega)) ?_
        refine r_al hP c51_46 rfl ?_
        refine r_il hP c51_47 rfl ?_
        refine r_pI hP c51_48 (zj_stg hK hw (by omega)) ?_
        refine r_ic hP c51_51 ?_
        refine r_is (ls' := [.ref w, .int a0, .int b0, .ref (w + 6 + 2 * nS), .int 0]) hP c51_52 (Nat.le_of_ble_eq_true rfl) rfl ?_
        exact x_tks_l hP hK hR hw hC hp8 hs6 hw6 e8 e9 hL hM hlt ⟨hlt, h16, h26⟩ h 0 (Nat.zero_le _) _ ⟨fun x k q1 q2 => (zup_n _ _ _ _ (by omega)).trans (zup_n _ _ _ _ (by omega)), (zup_n _ _ _ _ (by omega)).trans (zup_s _ _ _ _), zup_s _ _ _ _, fun i hi => absurd hi (Nat.not_lt_zero i)⟩
      · refine r_ic hP c51_29 ?_
        first
          | (have he : zk_s S nS nP nW nL nM a0 b0 = none := if_neg (fun q => hlt q.1)
             exact r_zr0 hP c51_30 (by rw [he]; decide) (h _ (zfW_r w I) (fun u q => by rw [he] at q; cases q)))
          | (have he : zk_s S nS nP nW nL nM a0 b0 = none := if_neg (fun q => h16 q.2.1)
             exact r_zr0 hP c51_30 (by rw [he]; decide) (h _ (zfW_r w I) (fun u q => by rw [he] at q; cases q)))
          | (have he : zk_s S nS nP nW nL nM a0 b0 = none := if_neg (fun q => h26 q.2.2)
             exact r_zr0 hP c51_30 (by rw [he]; decide) (h _ (zfW_r w I) (fun u q => by rw [he] at q; cases q)))
set_option maxRecDepth 4000 in
theorem x_tkp_l {K : ZKh} {P : Nat → Nat → List Value → List Value → ZMi → ZMl → ZMr → ZRt → Prop} {I : ZMi} {L : ZMl} {R : ZMr} {Q : ZRt} (hP : ZCl K P) {w nS nP nW nL nM : Nat} {S : ZS} (hK : zKa K) (hR : zRa R) (hw : zisW w) (hC : zC I w S nS nP nW) (hp8 : nP ≤ 8) (hs6 : nS ≤ 6) (hw6 : nW ≤ 6) (e8 : I w 8 = nI nL) (e9 : I w 9 = nI nM) (hL : nL ≤ 16) (hM : nM ≤ 6) {a0 b0 c0 d0 f0 : Int32} (hlt6 : nP < 8) (hpos : nP < 8 ∧ zr a0 nS ∧ (0 ≤ b0 ∧ b0 ≤ 4) ∧ (0 ≤ c0 ∧ c0 ≤ 99) ∧ (0 ≤ d0 ∧ d0 ≤ 9) ∧ (0 ≤ f0 ∧ f0 ≤ 30)) (h : ∀ I2, zfW w I I2 → (∀ u, zk_p S nS nP nW nL nM a0 b0 c0 d0 f0 = some u → zCu I2 w u) → Q (some (.int (if (zk_p S nS nP nW nL nM a0 b0 c0 d0 f0).isSome = true then 1 else 0))) I2 L R) : ∀ t, t ≤ 3 → ∀ (I1 : ZMi), (∀ x k, ¬ (x = w + 18 + 2 * nP ∧ 1 ≤ k ∧ k ≤ 8) → ¬ (x = w + 19 + 2 * nP ∧ k < 3) → I1 x k = I x k) ∧ (∀ k, 1 ≤ k → k ≤ 8 → I1 (w + 18 + 2 * nP) k = zpv a0 b0 c0 d0 f0 (k + 2)) ∧ (∀ i, i < t → I1 (w + 19 + 2 * nP) i = 0) → P 52 125 [.ref w, .int a0, .int b0, .int c0, .int d0, .int f0, .ref (w + 18 + 2 * nP), .int (nI t)] [] I1 L R Q := by
  refine zloop 3 (fun t => ∀ (I1 : ZMi), (∀ x k, ¬ (x = w + 18 + 2 * nP ∧ 1 ≤ k ∧ k ≤ 8) → ¬ (x = w + 19 + 2 * nP ∧ k < 3) → I1 x k = I x k) ∧ (∀ k, 1 ≤ k → k ≤ 8 → I1 (w + 18 + 2 * nP) k = zpv a0 b0 c0 d0 f0 (k + 2)) ∧ (∀ i, i < t → I1 (w + 19 + 2 * nP) i = 0) → P 52 125 [.ref w, .int a0, .int b0, .int c0, .int d0, .int f0, .ref (w + 18 + 2 * nP), .int (nI t)] [] I1 L R Q) ?_
  intro t hle ih I1 hacc
  have hw39 := zW39 hw
  refine r_il hP c52_125 rfl ?_
  refine r_ic hP c52_127 ?_
  refine r_ige hP c52_128 (fun h128 => ?_) (fun h128 => ?_)
  · have he : t = 3 := Nat.le_antisymm hle ((nI_leI (by omega) (by omega)).mp h128)
    refine r_al hP c52_146 rfl ?_
    refine r_dup hP c52_147 rfl ?_
    refine r_gI (x := nI nP) hP c52_148 (zj_W hK hw) ((hacc.1 w 6 (by omega) (by omega)).trans (zC_p hC)) ?_
    refine r_ic hP c52_151 ?_
    refine r_iadd hP c52_152 ?_
    refine r_ti (y := nI (nP + 1)) (nI_1 _) ?_
    refine r_pI hP c52_153 (zj_W hK hw) ?_
    refine r_ic hP c52_156 ?_
    subst he
    have he : zk_p S nS nP nW nL nM a0 b0 c0 d0 f0 = some _ := if_pos hpos
    exact r_zr1 hP c52_157 (by rw [he]; rfl) (h _ (fun x k q => by rw [zup_na _ _ _ _ (by omega)]; exact hacc.1 x k (by omega) (by omega)) (fun u q => by
      rw [he] at q
      cases q
      exact ⟨zCu_p hC hs6 hp8 hw6 hlt6 (fun x k q1 q2 q3 => (zup_n _ _ _ _ q3).trans (hacc.1 x k q1 q2)) (fun k q1 q2 => (zup_n _ _ _ _ (by omega)).trans (hacc.2.1 k q1 q2)) (fun t ht => (zup_n _ _ _ _ (by omega)).trans (hacc.2.2 t ht)) (zup_s _ _ _ _), (zup_n _ _ _ _ (by omega)).trans ((hacc.1 w 8 (by omega) (by omega)).trans e8), (zup_n _ _ _ _ (by omega)).trans ((hacc.1 w 9 (by omega) (by omega)).trans e9)⟩))
  · have hlt : t < 3 := by
      rcases Nat.lt_or_ge t 3 with q | q
      · exact q
      · exact absurd (nI_le q (by omega)) h128
    refine r_al hP c52_131 rfl ?_
    refine r_gR (x := w + 19 + 2 * nP) hP c52_133 (zj_prt hK hw (by omega)) (zr_lts hR hw (by omega)) ?_
    refine r_il hP c52_136 rfl ?_
    refine r_ic hP c52_138 ?_
    refine r_iast (j := t) hP c52_139 (zk_lts hK hw (by omega)) rfl (by omega) ?_
    refine r_inc (y := nI (t + 1)) (ls' := [.ref w, .int a0, .int b0, .int c0, .int d0, .int f0, .ref (w + 18 + 2 * nP), .int (nI (t + 1))]) hP c52_140 rfl (nI_1 _) rfl ?_
    refine r_goto hP c52_143 ?_
    exact ih hlt _ ⟨fun x k q1 q2 => (zup_n _ _ _ _ (by omega)).trans (hacc.1 x k q1 q2), fun k q1 q2 => (zup_n _ _ _ _ (by omega)).trans (hacc.2.1 k q1 q2), fun i hi => by
      rcases Nat.lt_or_ge i t with z | z
      · rw [zup_n _ _ _ _ (by omega)]; exact hacc.2.2 i z
      · rw [show i = t from by omega, zup_s]⟩
set_option maxRecDepth 4000 in
theorem x_tkp {K : ZKh} {P : Nat → Nat → List Value → List Value → ZMi → ZMl → ZMr → ZRt → Prop} {I : ZMi} {L : ZMl} {R : ZMr} {Q : ZRt} (hP : ZCl K P) {w nS nP nW nL nM : Nat} {S : ZS} (hK : zKa K) (hR : zRa R) (hw : zisW w) (hC : zC I w S nS nP nW) (hp8 : nP ≤ 8) (hs6 : nS ≤ 6) (hw6 : nW ≤ 6) (e8 : I w 8 = nI nL) (e9 : I w 9 = nI nM) (hL : nL ≤ 16) (hM : nM ≤ 6) {a0 b0 c0 d0 f0 : Int32} (h : ∀ I2, zfW w I I2 → (∀ u, zk_p S nS nP nW nL nM a0 b0 c0 d0 f0 = some u → zCu I2 w u) → Q (some (.int (if (zk_p S nS nP nW nL nM a0 b0 c0 d0 f0).isSome = true then 1 else 0))) I2 L R) : P 52 0 [.ref w, .int a0, .int b0, .int c0, .int d0, .int f0, .null, .null] [] I L R Q := by
  have hw39 := zW39 hw
  refine r_al hP c52_0 rfl ?_
  refine r_gI (x := nI nP) hP c52_1 (zj_W hK hw) (zC_p hC) ?_
  refine r_ic hP c52_4 ?_
  refine r_ige hP c52_6 (fun h6 => ?_) (fun h6 => ?_)
  · have hlt : ¬ nP < 8 := by
      have := (nI_leI (a := 8) (by decide) (by omega)).mp h6
      omega
    refine r_ic hP c52_58 ?_
    first
      | (have he : zk_p S nS nP nW nL nM a0 b0 c0 d0 f0 = none := if_neg (fun q => hlt q.1)
         exact r_zr0 hP c52_59 (by rw [he]; decide) (h _ (zfW_r w I) (fun u q => by rw [he] at q; cases q)))
      | (have he : zk_p S nS nP nW nL nM a0 b0 c0 d0 f0 = none := if_neg (fun q => h14 q.2.1)
         exact r_zr0 hP c52_59 (by rw [he]; decide) (h _ (zfW_r w I) (fun u q => by rw [he] at q; cases q)))
      | (have he : zk_p S nS nP nW nL nM a0 b0 c0 d0 f0 = none := if_neg (fun q => h23 q.2.2.1)
         exact r_zr0 hP c52_59 (by rw [he]; decide) (h _ (zfW_r w I) (fun u q => by rw [he] at q; cases q)))
      | (have he : zk_p S nS nP nW nL nM a0 b0 c0 d0 f0 = none := if_neg (fun q => h33 q.2.2.2.1)
         exact r_zr0 hP c52_59 (by rw [he]; decide) (h _ (zfW_r w I) (fun u q => by rw [he] at q; cases q)))
      | (have he : zk_p S nS nP nW nL nM a0 b0 c0 d0 f0 = none := if_neg (fun q => h44 q.2.2.2.2.1)
         exact r_zr0 hP c52_59 (by rw [he]; decide) (h _ (zfW_r w I) (fun u q => by rw [he] at q; cases q)))
      | (have he : zk_p S nS nP nW nL nM a0 b0 c0 d0 f0 = none := if_neg (fun q => h55 q.2.2.2.2.2)
         exact r_zr0 hP c52_59 (by rw [he]; decide) (h _ (zfW_r w I) (fun u q => by rw [he] at q; cases q)))
  · have hlt : nP < 8 := by
      have := (not_congr (nI_leI (a := 8) (by decide) (by omega))).mp h6
      omega
    refine r_al hP c52_9 rfl ?_
    refine r_il hP c52_10 rfl ?_
    refine r_cVi (as := [.int a0]) (r := []) (I' := I) (L' := L) (R' := R) (x := if zr a0 nS then 1 else 0) (a := w) hP c52_11 rfl (zj_W hK hw) rfl (fun _ h2 => x_hasStage hP (zj_W hK hw) (zC_s hC) (by omega) h2) ?_
    refine r_ifeqB hP c52_14 (fun h14 => ?_) (fun h14 => ?_)
    · refine r_ic hP c52_58 ?_
      first
        | (have he : zk_p S nS nP nW nL nM a0 b0 c0 d0 f0 = none := if_neg (fun q => hlt q.1)
           exact r_zr0 hP c52_59 (by rw [he]; decide) (h _ (zfW_r w I) (fun u q => by rw [he] at q; cases q)))
        | (have he : zk_p S nS nP nW nL nM a0 b0 c0 d0 f0 = none := if_neg (fun q => h14 q.2.1)
           exact r_zr0 hP c52_59 (by rw [he]; decide) (h _ (zfW_r w I) (fun u q => by rw [he] at q; cases q)))
        | (have he : zk_p S nS nP nW nL nM a0 b0 c0 d0 f0 = none := if_neg (fun q => h23 q.2.2.1)
           exact r_zr0 hP c52_59 (by rw [he]; decide) (h _ (zfW_r w I) (fun u q => by rw [he] at q; cases q)))
        | (have he : zk_p S nS nP nW nL nM a0 b0 c0 d0 f0 = none := if_neg (fun q => h33 q.2.2.2.1)
           exact r_zr0 hP c52_59 (by rw [he]; decide) (h _ (zfW_r w I) (fun u q => by rw [he] at q; cases q)))
        | (have he : zk_p S nS nP nW nL nM a0 b0 c0 d0 f0 = none := if_neg (fun q => h44 q.2.2.2.2.1)
           exact r_zr0 hP c52_59 (by rw [he]; decide) (h _ (zfW_r w I) (fun u q => by rw [he] at q; cases q)))
        | (have he : zk_p S nS nP nW nL nM a0 b0 c0 d0 f0 = none := if_neg (fun q => h55 q.2.2.2.2.2)
           exact r_zr0 hP c52_59 (by rw [he]; decide) (h _ (zfW_r w I) (fun u q => by rw [he] at q; cases q)))
    · refine r_il hP c52_17 rfl ?_
      refine r_ic hP c52_18 ?_
      refine r_ic hP c52_19 ?_
      refine r_cSi (as := [.int b0, .int 0, .int 4]) (r := []) (I' := I) (L' := L) (R' := R) (x := if 0 ≤ b0 ∧ b0 ≤ 4 then 1 else 0) hP c52_20 rfl rfl (fun _ h2 => x_within hP h2) ?_
      refine r_ifeqB hP c52_23 (fun h23 => ?_) (fun h23 => ?_)
      · refine r_ic hP c52_58 ?_
        first
          | (have he : zk_p S nS nP nW nL nM a0 b0 c0 d0 f0 = none := if_neg (fun q => hlt q.1)
             exact r_zr0 hP c52_59 (by rw [he]; decide) (h _ (zfW_r w I) (fun u q => by rw [he] at q; cases q)))
          | (have he : zk_p S nS nP nW nL nM a0 b0 c0 d0 f0 = none := if_neg (fun q => h14 q.2.1)
             exact r_zr0 hP c52_59 (by rw [he]; decide) (h _ (zfW_r w I) (fun u q => by rw [he] at q; cases q)))
          | (have he : zk_p S nS nP nW nL nM a0 b0 c0 d0 f0 = none := if_neg (fun q => h23 q.2.2.1)
             exact r_zr0 hP c52_59 (by rw [he]; decide) (h _ (zfW_r w I) (fun u q => by rw [he] at q; cases q)))
          | (have he : zk_p S nS nP nW nL nM a0 b0 c0 d0 f0 = none := if_neg (fun q => h33 q.2.2.2.1)
             exact r_zr0 hP c52_59 (by rw [he]; decide) (h _ (zfW_r w I) (fun u q => by rw [he] at q; cases q)))
          | (have he : zk_p S nS nP nW nL nM a0 b0 c0 d0 f0 = none := if_neg (fun q => h44 q.2.2.2.2.1)
             exact r_zr0 hP c52_59 (by rw [he]; decide) (h _ (zfW_r w I) (fun u q => by rw [he] at q; cases q)))
          | (have he : zk_p S nS nP nW nL nM a0 b0 c0 d0 f0 = none := if_neg (fun q => h55 q.2.2.2.2.2)
             exact r_zr0 hP c52_59 (by rw [he]; decide) (h _ (zfW_r w I) (fun u q => by rw [he] at q; cases q)))
      · refine r_il hP c52_26 rfl ?_
        refine r_ic hP c52_27 ?_
        refine r_ic hP c52_28 ?_
        refine r_cSi (as := [.int c0, .int 0, .int 99]) (r := []) (I' := I) (L' := L) (R' := R) (x := if 0 ≤ c0 ∧ c0 ≤ 99 then 1 else 0) hP c52_30 rfl rfl (fun _ h2 => x_within hP h2) ?_
        refine r_ifeqB hP c52_33 (fun h33 => ?_) (fun h33 => ?_)
        · refine r_ic hP c52_58 ?_
          first
            | (have he : zk_p S nS nP nW nL nM a0 b0 c0 d0 f0 = none := if_neg (fun q => hlt q.1)
               exact r_zr0 hP c52_59 (by rw [he]; decide) (h _ (zfW_r w I) (fun u q => by rw [he] at q; cases q)))
            | (have he : zk_p S nS nP nW nL nM a0 b0 c0 d0 f0 = none := if_neg (fun q => h14 q.2.1)
               exact r_zr0 hP c52_59 (by rw [he]; decide) (h _ (zfW_r w I) (fun u q => by rw [he] at q; cases q)))
            | (have he : zk_p S nS nP nW nL nM a0 b0 c0 d0 f0 = none := if_neg (fun q => h23 q.2.2.1)
               exact r_zr0 hP c52_59 (by rw [he]; decide) (h _ (zfW_r w I) (fun u q => by rw [he] at q; cases q)))
            | (have he : zk_p S nS nP nW nL nM a0 b0 c0 d0 f0 = none := if_neg (fun q => h33 q.2.2.2.1)
               exact r_zr0 hP c52_59 (by rw [he]; decide) (h _ (zfW_r w I) (fun u q => by rw [he] at q; cases q)))
            | (have he : zk_p S nS nP nW nL nM a0 b0 c0 d0 f0 = none := if_neg (fun q => h44 q.2.2.2.2.1)
               exact r_zr0 hP c52_59 (by rw [he]; decide) (h _ (zfW_r w I) (fun u q => by rw [he] at q; cases q)))
            | (have he : zk_p S nS nP nW nL nM a0 b0 c0 d0 f0 = none := if_neg (fun q => h55 q.2.2.2.2.2)
               exact r_zr0 hP c52_59 (by rw [he]; decide) (h _ (zfW_r w I) (fun u q => by rw [he] at q; cases q)))
        · refine r_il hP c52_36 rfl ?_
          refine r_ic hP c52_38 ?_
          refine r_ic hP c52_39 ?_
          refine r_cSi (as := [.int d0, .int 0, .int 9]) (r := []) (I' := I) (L' := L) (R' := R) (x := if 0 ≤ d0 ∧ d0 ≤ 9 then 1 else 0) hP c52_41 rfl rfl (fun _ h2 => x_within hP h2) ?_
          refine r_ifeqB hP c52_44 (fun h44 => ?_) (fun h44 => ?_)
          · refine r_ic hP c52_58 ?_
            first
              | (have he : zk_p S nS nP nW nL nM a0 b0 c0 d0 f0 = none := if_neg (fun q => hlt q.1)
                 exact r_zr0 hP c52_59 (by rw [he]; decide) (h _ (zfW_r w I) (fun u q => by rw [he] at q; cases q)))
              | (have he : zk_p S nS nP nW nL nM a0 b0 c0 d0 f0 = none := if_neg (fun q => h14 q.2.1)
                 exact r_zr0 hP c52_59 (by rw [he]; decide) (h _ (zfW_r w I) (fun u q => by rw [he] at q; cases q)))
              | (have he : zk_p S nS nP nW nL nM a0 b0 c0 d0 f0 = none := if_neg (fun q => h23 q.2.2.1)
                 exact r_zr0 hP c52_59 (by rw [he]; decide) (h _ (zfW_r w I) (fun u q => by rw [he] at q; cases q)))
              | (have he : zk_p S nS nP nW nL nM a0 b0 c0 d0 f0 = none := if_neg (fun q => h33 q.2.2.2.1)
                 exact r_zr0 hP c52_59 (by rw [he]; decide) (h _ (zfW_r w I) (fun u q => by rw [he] at q; cases q)))
              | (have he : zk_p S nS nP nW nL nM a0 b0 c0 d0 f0 = none := if_neg (fun q => h44 q.2.2.2.2.1)
                 exact r_zr0 hP c52_59 (by rw [he]; decide) (h _ (zfW_r w I) (fun u q => by rw [he] at q; cases q)))
              | (have he : zk_p S nS nP nW nL nM a0 b0 c0 d0 f0 = none := if_neg (fun q => h55 q.2.2.2.2.2)
                 exact r_zr0 hP c52_59 (by rw [he]; decide) (h _ (zfW_r w I) (fun u q => by rw [he] at q; cases q)))
          · refine r_il hP c52_47 rfl ?_
            refine r_ic hP c52_49 ?_
            refine r_ic hP c52_50 ?_
            refine r_cSi (as := [.int f0, .int 0, .int 30]) (r := []) (I' := I) (L' := L) (R' := R) (x := if 0 ≤ f0 ∧ f0 ≤ 30 then 1 else 0) hP c52_52 rfl rfl (fun _ h2 => x_within hP h2) ?_
            refine r_ifneB hP c52_55 (fun h55 => ?_) (fun h55 => ?_)
            · refine r_al hP c52_60 rfl ?_
              refine r_gR (x := w + 2) hP c52_61 (zj_W hK hw) (zr_pts hR hw) ?_
              refine r_al hP c52_64 rfl ?_
              refine r_gI (x := nI nP) hP c52_65 (zj_W hK hw) (zC_p hC) ?_
              refine r_aald (j := nP) (x := w + 18 + 2 * nP) hP c52_68 (zk_pts hK hw) rfl (by omega) (zr_prt hR hw (by omega)) ?_
              refine r_as (ls' := [.ref w, .int a0, .int b0, .int c0, .int d0, .int f0, .ref (w + 18 + 2 * nP), .null]) hP c52_69 (Nat.le_of_ble_eq_true rfl) rfl ?_
              refine r_al hP c52_71 rfl ?_
              refine r_il hP c52_73 rfl ?_
              refine r_pI hP c52_74 (zj_prt hK hw (by omega)) ?_
              refine r_al hP c52_77 rfl ?_
              refine r_il hP c52_79 rfl ?_
              refine r_pI hP c52_80 (zj_prt hK hw (by omega)) ?_
              refine r_al hP c52_83 rfl ?_
              refine r_il hP c52_85 rfl ?_
              refine r_pI hP c52_86 (zj_prt hK hw (by omega)) ?_
              refine r_al hP c52_89 rfl ?_
              refine r_il hP c52_91 rfl ?_
              refine r_pI hP c52_93 (zj_prt hK hw (by omega)) ?_
              refine r_al hP c52_96 rfl ?_
              refine r_il hP c52_98 rfl ?_
              refine r_pI hP c52_100 (zj_prt hK hw (by omega)) ?_
              refine r_al hP c52_103 rfl ?_
              refine r_ic hP c52_105 ?_
              refine r_pI hP c52_107 (zj_prt hK hw (by omega)) ?_
              refine r_al hP c52_110 rfl ?_
              refine r_ic hP c52_112 ?_
              refine r_pI hP c52_113 (zj_prt hK hw (by omega)) ?_
              refine r_al hP c52_116 rfl ?_
              refine r_ic hP c52_118 ?_
              refine r_pI hP c52_119 (zj_prt hK hw (by omega)) ?_
              refine r_ic hP c52_122 ?_
              refine r_is (ls' := [.ref w, .int a0, .int b0, .int c0, .int d0, .int f0, .ref (w + 18 + 2 * nP), .int 0]) hP c52_123 (Nat.le_of_ble_eq_true rfl) rfl ?_
              exact x_tkp_l hP hK hR hw hC hp8 hs6 hw6 e8 e9 hL hM hlt ⟨hlt, h14, h23, h33, h44, h55⟩ h 0 (Nat.zero_le _) _ ⟨fun x k q1 q2 => by
                simp only [zup, true_and, and_true]; repeat (first | rfl | (exfalso; omega) | split), fun k q1 q2 => by
                have hk : k = 1 ∨ k = 2 ∨ k = 3 ∨ k = 4 ∨ k = 5 ∨ k = 6 ∨ k = 7 ∨ k = 8 := by omega
                rcases hk with rfl | rfl | rfl | rfl | rfl | rfl | rfl | rfl <;> (simp only [zup, true_and, and_true]; repeat (first | rfl | (exfalso; omega) | split)), fun i hi => absurd hi (Nat.not_lt_zero i)⟩
            · refine r_ic hP c52_58 ?_
              first
                | (have he : zk_p S nS nP nW nL nM a0 b0 c0 d0 f0 = none := if_neg (fun q => hlt q.1)
                   exact r_zr0 hP c52_59 (by rw [he]; decide) (h _ (zfW_r w I) (fun u q => by rw [he] at q; cases q)))
                | (have he : zk_p S nS nP nW nL nM a0 b0 c0 d0 f0 = none := if_neg (fun q => h14 q.2.1)
                   exact r_zr0 hP c52_59 (by rw [he]; decide) (h _ (zfW_r w I) (fun u q => by rw [he] at q; cases q)))
                | (have he : zk_p S nS nP nW nL nM a0 b0 c0 d0 f0 = none := if_neg (fun q => h23 q.2.2.1)
                   exact r_zr0 hP c52_59 (by rw [he]; decide) (h _ (zfW_r w I) (fun u q => by rw [he] at q; cases q)))
                | (have he : zk_p S nS nP nW nL nM a0 b0 c0 d0 f0 = none := if_neg (fun q => h33 q.2.2.2.1)
                   exact r_zr0 hP c52_59 (by rw [he]; decide) (h _ (zfW_r w I) (fun u q => by rw [he] at q; cases q)))
                | (have he : zk_p S nS nP nW nL nM a0 b0 c0 d0 f0 = none := if_neg (fun q => h44 q.2.2.2.2.1)
                   exact r_zr0 hP c52_59 (by rw [he]; decide) (h _ (zfW_r w I) (fun u q => by rw [he] at q; cases q)))
                | (have he : zk_p S nS nP nW nL nM a0 b0 c0 d0 f0 = none := if_neg (fun q => h55 q.2.2.2.2.2)
                   exact r_zr0 hP c52_59 (by rw [he]; decide) (h _ (zfW_r w I) (fun u q => by rw [he] at q; cases q)))
