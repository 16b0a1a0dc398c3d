/-! ===== the abstract machine ===== -/
abbrev ZMi : Type := Nat → Nat → Int32
abbrev ZMl : Type := Nat → Nat → Int64
abbrev ZMr : Type := Nat → Nat → Nat
/-- shapes: kind and length, by name -/
abbrev ZKh : Type := Nat → Nat × Nat
abbrev ZNx : Type := Nat → List Value → List Value → ZMi → ZMl → ZMr → Prop
abbrev ZRt : Type := Option Value → ZMi → ZMl → ZMr → Prop
abbrev ZCx : Type := Nat → List Value → ZMi → ZMl → ZMr → ZRt → Prop
abbrev ZIns : Type := ZKh → Nat → ZNx → ZRt → ZCx → List Value → List Value → ZMi → ZMl → ZMr → Prop
def zup {α : Type} (f : Nat → Nat → α) (a k : Nat) (x : α) : Nat → Nat → α := fun b j => if b = a ∧ j = k then x else f b j
theorem zup_s {α : Type} (f : Nat → Nat → α) (a k : Nat) (x : α) : zup f a k x a k = x := by simp [zup]
theorem zup_n {α : Type} (f : Nat → Nat → α) (a k : Nat) (x : α) {b j : Nat} (h : ¬ (b = a ∧ j = k)) : zup f a k x b j = f b j := by simp [zup, h]
theorem zup_na {α : Type} (f : Nat → Nat → α) (a k : Nat) (x : α) {b j : Nat} (h : b ≠ a) : zup f a k x b j = f b j := by simp [zup, h]
theorem zup_nk {α : Type} (f : Nat → Nat → α) (a k : Nat) (x : α) {b j : Nat} (h : j ≠ k) : zup f a k x b j = f b j := by simp [zup, h]
/-- a store into the locals -/
def zkl (ls : List Value) (i : Nat) : List Value := match i with
  | 0 => ls
  | j + 1 => match ls[j]? with
    | some (.long _) => ls.set j .null
    | some (.double _) => ls.set j .null
    | _ => ls
def zst (ls : List Value) (i : Nat) (v : Value) : List Value := match v with
  | .long x => ((zkl ls i).set i (.long x)).set (i + 1) .null
  | w => (zkl ls i).set i w
/-- arguments off the stack -/
def zarg : Nat → List Value → List Value → Option (List Value × List Value)
  | 0, acc, st => some (acc, st)
  | n + 1, acc, v :: st => zarg n (v :: acc) st
  | _ + 1, _, [] => none
def zsl : List Value → List Value
  | [] => []
  | .long x :: r => .long x :: .null :: zsl r
  | .double x :: r => .double x :: .null :: zsl r
  | v :: r => v :: zsl r
def zent (n : Nat) (as : List Value) : List Value := zsl as ++ List.replicate (n - (zsl as).length) .null
def zck (ml : Nat) (as st : List Value) : Bool := Nat.ble ((st.map fun v => v.category).sum) 8 && Nat.ble (zsl as).length ml
-- constants, locals
def z_ic (v : Int32) (n : Nat) : ZIns := fun _ pc nx _ _ ls st I L R => nx (pc + n) ls (.int v :: st) I L R
def z_lc (v : Int64) (n : Nat) : ZIns := fun _ pc nx _ _ ls st I L R => nx (pc + n) ls (.long v :: st) I L R
def z_il (i n : Nat) : ZIns := fun _ pc nx _ _ ls st I L R => match ls[i]? with
  | some (.int x) => nx (pc + n) ls (.int x :: st) I L R
  | _ => False
def z_ll (i n : Nat) : ZIns := fun _ pc nx _ _ ls st I L R => match ls[i]? with
  | some (.long x) => nx (pc + n) ls (.long x :: st) I L R
  | _ => False
def z_al (i n : Nat) : ZIns := fun _ pc nx _ _ ls st I L R => match ls[i]? with
  | some (.ref x) => nx (pc + n) ls (.ref x :: st) I L R
  | _ => False
def z_is (i n : Nat) : ZIns := fun _ pc nx _ _ ls st I L R => match st with
  | .int x :: r => i < ls.length ∧ nx (pc + n) (zst ls i (.int x)) r I L R
  | _ => False
def z_ls (i n : Nat) : ZIns := fun _ pc nx _ _ ls st I L R => match st with
  | .long x :: r => i + 1 < ls.length ∧ nx (pc + n) (zst ls i (.long x)) r I L R
  | _ => False
def z_as (i n : Nat) : ZIns := fun _ pc nx _ _ ls st I L R => match st with
  | .ref x :: r => i < ls.length ∧ nx (pc + n) (zst ls i (.ref x)) r I L R
  | _ => False
def z_inc (i : Nat) (d : Int32) : ZIns := fun _ pc nx _ _ ls st I L R => match ls[i]? with
  | some (.int x) => ∃ y : Int32, x + d = y ∧ nx (pc + 3) (zst ls i (.int y)) st I L R
  | _ => False
-- arithmetic
def z_iadd : ZIns := fun _ pc nx _ _ ls st I L R => match st with
  | .int y :: .int x :: r => nx (pc + 1) ls (.int (x + y) :: r) I L R
  | _ => False
def z_isub : ZIns := fun _ pc nx _ _ ls st I L R => match st with
  | .int y :: .int x :: r => nx (pc + 1) ls (.int (x - y) :: r) I L R
  | _ => False
def z_imul : ZIns := fun _ pc nx _ _ ls st I L R => match st with
  | .int y :: .int x :: r => nx (pc + 1) ls (.int (x * y) :: r) I L R
  | _ => False
def z_iand : ZIns := fun _ pc nx _ _ ls st I L R => match st with
  | .int y :: .int x :: r => nx (pc + 1) ls (.int (x &&& y) :: r) I L R
  | _ => False
def z_ior : ZIns := fun _ pc nx _ _ ls st I L R => match st with
  | .int y :: .int x :: r => nx (pc + 1) ls (.int (x ||| y) :: r) I L R
  | _ => False
def z_ixor : ZIns := fun _ pc nx _ _ ls st I L R => match st with
  | .int y :: .int x :: r => nx (pc + 1) ls (.int (x ^^^ y) :: r) I L R
  | _ => False
def z_idiv : ZIns := fun _ pc nx _ _ ls st I L R => match st with
  | .int y :: .int x :: r => ¬ y = 0 ∧ nx (pc + 1) ls (.int (x / y) :: r) I L R
  | _ => False
def z_irem : ZIns := fun _ pc nx _ _ ls st I L R => match st with
  | .int y :: .int x :: r => ¬ y = 0 ∧ nx (pc + 1) ls (.int (x - x / y * y) :: r) I L R
  | _ => False
def z_ineg : ZIns := fun _ pc nx _ _ ls st I L R => match st with
  | .int x :: r => nx (pc + 1) ls (.int (-x) :: r) I L R
  | _ => False
def z_ishl : ZIns := fun _ pc nx _ _ ls st I L R => match st with
  | .int y :: .int x :: r => nx (pc + 1) ls (.int (x <<< (y &&& 31)) :: r) I L R
  | _ => False
def z_ishr : ZIns := fun _ pc nx _ _ ls st I L R => match st with
  | .int y :: .int x :: r => nx (pc + 1) ls (.int (x >>> (y &&& 31)) :: r) I L R
  | _ => False
def z_iushr : ZIns := fun _ pc nx _ _ ls st I L R => match st with
  | .int y :: .int x :: r => nx (pc + 1) ls (.int ((x.toUInt32 >>> (y.toUInt32 &&& Int32.toUInt32 31)).toInt32) :: r) I L R
  | _ => False
def z_ladd : ZIns := fun _ pc nx _ _ ls st I L R => match st with
  | .long y :: .long x :: r => nx (pc + 1) ls (.long (x + y) :: r) I L R
  | _ => False
def z_lsub : ZIns := fun _ pc nx _ _ ls st I L R => match st with
  | .long y :: .long x :: r => nx (pc + 1) ls (.long (x - y) :: r) I L R
  | _ => False
def z_lmul : ZIns := fun _ pc nx _ _ ls st I L R => match st with
  | .long y :: .long x :: r => nx (pc + 1) ls (.long (x * y) :: r) I L R
  | _ => False
def z_land : ZIns := fun _ pc nx _ _ ls st I L R => match st with
  | .long y :: .long x :: r => nx (pc + 1) ls (.long (x &&& y) :: r) I L R
  | _ => False
def z_lor : ZIns := fun _ pc nx _ _ ls st I L R => match st with
  | .long y :: .long x :: r => nx (pc + 1) ls (.long (x ||| y) :: r) I L R
  | _ => False
def z_ldiv : ZIns := fun _ pc nx _ _ ls st I L R => match st with
  | .long y :: .long x :: r => ¬ y = 0 ∧ nx (pc + 1) ls (.long (x / y) :: r) I L R
  | _ => False
def z_lrem : ZIns := fun _ pc nx _ _ ls st I L R => match st with
  | .long y :: .long x :: r => ¬ y = 0 ∧ nx (pc + 1) ls (.long (x - x / y * y) :: r) I L R
  | _ => False
def z_lshl : ZIns := fun _ pc nx _ _ ls st I L R => match st with
  | .int y :: .long x :: r => nx (pc + 1) ls (.long (x <<< (y.toInt64 &&& 63)) :: r) I L R
  | _ => False
def z_lshr : ZIns := fun _ pc nx _ _ ls st I L R => match st with
  | .int y :: .long x :: r => nx (pc + 1) ls (.long (x >>> (y.toInt64 &&& 63)) :: r) I L R
  | _ => False
def z_lushr : ZIns := fun _ pc nx _ _ ls st I L R => match st with
  | .int y :: .long x :: r => nx (pc + 1) ls (.long ((x.toUInt64 >>> (y.toInt64.toUInt64 &&& Int64.toUInt64 63)).toInt64) :: r) I L R
  | _ => False
def z_i2l : ZIns := fun _ pc nx _ _ ls st I L R => match st with
  | .int x :: r => nx (pc + 1) ls (.long x.toInt64 :: r) I L R
  | _ => False
def z_l2i : ZIns := fun _ pc nx _ _ ls st I L R => match st with
  | .long x :: r => nx (pc + 1) ls (.int x.toInt32 :: r) I L R
  | _ => False
def z_i2b : ZIns := fun _ pc nx _ _ ls st I L R => match st with
  | .int x :: r => nx (pc + 1) ls (.int x.toInt8.toInt32 :: r) I L R
  | _ => False
def z_lcmp : ZIns := fun _ pc nx _ _ ls st I L R => match st with
  | .long y :: .long x :: r => nx (pc + 1) ls (.int (lg_cmp x y) :: r) I L R
  | _ => False
-- stack
def z_dup : ZIns := fun _ pc nx _ _ ls st I L R => match st with
  | v :: r => v.category = 1 ∧ nx (pc + 1) ls (v :: v :: r) I L R
  | _ => False
def z_dup2 : ZIns := fun _ pc nx _ _ ls st I L R => match st with
  | v :: w :: r => v.category = 1 ∧ w.category = 1 ∧ nx (pc + 1) ls (v :: w :: v :: w :: r) I L R
  | _ => False
def z_pop : ZIns := fun _ pc nx _ _ ls st I L R => match st with
  | v :: r => v.category = 1 ∧ nx (pc + 1) ls r I L R
  | _ => False
-- branches
def z_goto (t : Nat) : ZIns := fun _ _ nx _ _ ls st I L R => nx t ls st I L R
def z_ifeq (t : Nat) : ZIns := fun _ pc nx _ _ ls st I L R => match st with
  | .int x :: r => (x = 0 → nx t ls r I L R) ∧ (¬ x = 0 → nx (pc + 3) ls r I L R)
  | _ => False
def z_ifne (t : Nat) : ZIns := fun _ pc nx _ _ ls st I L R => match st with
  | .int x :: r => (¬ x = 0 → nx t ls r I L R) ∧ (x = 0 → nx (pc + 3) ls r I L R)
  | _ => False
def z_iflt (t : Nat) : ZIns := fun _ pc nx _ _ ls st I L R => match st with
  | .int x :: r => (x < 0 → nx t ls r I L R) ∧ (¬ x < 0 → nx (pc + 3) ls r I L R)
  | _ => False
def z_ifge (t : Nat) : ZIns := fun _ pc nx _ _ ls st I L R => match st with
  | .int x :: r => (0 ≤ x → nx t ls r I L R) ∧ (¬ 0 ≤ x → nx (pc + 3) ls r I L R)
  | _ => False
def z_ifgt (t : Nat) : ZIns := fun _ pc nx _ _ ls st I L R => match st with
  | .int x :: r => (0 < x → nx t ls r I L R) ∧ (¬ 0 < x → nx (pc + 3) ls r I L R)
  | _ => False
def z_ifle (t : Nat) : ZIns := fun _ pc nx _ _ ls st I L R => match st with
  | .int x :: r => (x ≤ 0 → nx t ls r I L R) ∧ (¬ x ≤ 0 → nx (pc + 3) ls r I L R)
  | _ => False
def z_ieq (t : Nat) : ZIns := fun _ pc nx _ _ ls st I L R => match st with
  | .int y :: .int x :: r => (x = y → nx t ls r I L R) ∧ (¬ x = y → nx (pc + 3) ls r I L R)
  | _ => False
def z_ine (t : Nat) : ZIns := fun _ pc nx _ _ ls st I L R => match st with
  | .int y :: .int x :: r => (¬ x = y → nx t ls r I L R) ∧ (x = y → nx (pc + 3) ls r I L R)
  | _ => False
def z_ilt (t : Nat) : ZIns := fun _ pc nx _ _ ls st I L R => match st with
  | .int y :: .int x :: r => (x < y → nx t ls r I L R) ∧ (¬ x < y → nx (pc + 3) ls r I L R)
  | _ => False
def z_ige (t : Nat) : ZIns := fun _ pc nx _ _ ls st I L R => match st with
  | .int y :: .int x :: r => (y ≤ x → nx t ls r I L R) ∧ (¬ y ≤ x → nx (pc + 3) ls r I L R)
  | _ => False
def z_igt (t : Nat) : ZIns := fun _ pc nx _ _ ls st I L R => match st with
  | .int y :: .int x :: r => (y < x → nx t ls r I L R) ∧ (¬ y < x → nx (pc + 3) ls r I L R)
  | _ => False
def z_ile (t : Nat) : ZIns := fun _ pc nx _ _ ls st I L R => match st with
  | .int y :: .int x :: r => (x ≤ y → nx t ls r I L R) ∧ (¬ x ≤ y → nx (pc + 3) ls r I L R)
  | _ => False
/-- a switch: the cases in their order, then the default -/
def zsw (x : Int32) (d : Prop) (nx : Nat → Prop) : List (Int32 × Nat) → Prop
  | [] => d
  | q :: r => (x = q.1 → nx q.2) ∧ (¬ x = q.1 → zsw x d nx r)
def z_sw (d : Nat) (qs : List (Int32 × Nat)) : ZIns := fun _ _ nx _ _ ls st I L R => match st with
  | .int x :: r => zsw x (nx d ls r I L R) (fun t => nx t ls r I L R) qs
  | _ => False
-- memory
def z_gI (ci k : Nat) : ZIns := fun K pc nx _ _ ls st I L R => match st with
  | .ref a :: r => (K a).1 = ci ∧ ∃ x : Int32, I a k = x ∧ nx (pc + 3) ls (.int x :: r) I L R
  | _ => False
def z_gL (ci k : Nat) : ZIns := fun K pc nx _ _ ls st I L R => match st with
  | .ref a :: r => (K a).1 = ci ∧ ∃ x : Int64, L a k = x ∧ nx (pc + 3) ls (.long x :: r) I L R
  | _ => False
def z_gR (ci k : Nat) : ZIns := fun K pc nx _ _ ls st I L R => match st with
  | .ref a :: r => (K a).1 = ci ∧ ∃ x : Nat, R a k = x + 1 ∧ nx (pc + 3) ls (.ref x :: r) I L R
  | _ => False
def z_pI (ci k : Nat) : ZIns := fun K pc nx _ _ ls st I L R => match st with
  | .int x :: .ref a :: r => (K a).1 = ci ∧ nx (pc + 3) ls r (zup I a k x) L R
  | _ => False
def z_pL (ci k : Nat) : ZIns := fun K pc nx _ _ ls st I L R => match st with
  | .long x :: .ref a :: r => (K a).1 = ci ∧ nx (pc + 3) ls r I (zup L a k x) R
  | _ => False
def z_pR (ci k : Nat) : ZIns := fun K pc nx _ _ ls st I L R => match st with
  | .ref x :: .ref a :: r => (K a).1 = ci ∧ nx (pc + 3) ls r I L (zup R a k (x + 1))
  | _ => False
/-- an int out of an array of kind kd (int[], byte[], boolean[], a read-only int[]) -/
def z_iald (kd : Nat) : ZIns := fun K pc nx _ _ ls st I L R => match st with
  | .int i :: .ref a :: r => ∃ (n j : Nat) (x : Int32), K a = (kd, n) ∧ i = nI j ∧ j < n ∧ I a j = x ∧ nx (pc + 1) ls (.int x :: r) I L R
  | _ => False
def z_lald : ZIns := fun K pc nx _ _ ls st I L R => match st with
  | .int i :: .ref a :: r => ∃ (n j : Nat) (x : Int64), K a = (21, n) ∧ i = nI j ∧ j < n ∧ L a j = x ∧ nx (pc + 1) ls (.long x :: r) I L R
  | _ => False
def z_aald (kd : Nat) : ZIns := fun K pc nx _ _ ls st I L R => match st with
  | .int i :: .ref a :: r => ∃ (n j x : Nat), K a = (kd, n) ∧ i = nI j ∧ j < n ∧ R a j = x + 1 ∧ nx (pc + 1) ls (.ref x :: r) I L R
  | _ => False
def z_iast : ZIns := fun K pc nx _ _ ls st I L R => match st with
  | .int x :: .int i :: .ref a :: r => ∃ (n j : Nat), K a = (20, n) ∧ i = nI j ∧ j < n ∧ nx (pc + 1) ls r (zup I a j x) L R
  | _ => False
def z_bast : ZIns := fun K pc nx _ _ ls st I L R => match st with
  | .int x :: .int i :: .ref a :: r => ∃ (n j : Nat), K a = (22, n) ∧ i = nI j ∧ j < n ∧ nx (pc + 1) ls r (zup I a j (vp_nar .byte x)) L R
  | _ => False
def z_zast : ZIns := fun K pc nx _ _ ls st I L R => match st with
  | .int x :: .int i :: .ref a :: r => ∃ (n j : Nat), K a = (23, n) ∧ i = nI j ∧ j < n ∧ nx (pc + 1) ls r (zup I a j (vp_nar .boolean x)) L R
  | _ => False
def z_last : ZIns := fun K pc nx _ _ ls st I L R => match st with
  | .long x :: .int i :: .ref a :: r => ∃ (n j : Nat), K a = (21, n) ∧ i = nI j ∧ j < n ∧ nx (pc + 1) ls r I (zup L a j x) R
  | _ => False
def z_alen (kd : Nat) : ZIns := fun K pc nx _ _ ls st I L R => match st with
  | .ref a :: r => ∃ n : Nat, K a = (kd, n) ∧ nx (pc + 1) ls (.int (nI n) :: r) I L R
  | _ => False
/-- the one static array -/
def z_gs : ZIns := fun _ pc nx _ _ ls st I L R => nx (pc + 3) ls (.ref 1 :: st) I L R
-- calls and returns
def z_cV (ci m' ml na : Nat) : ZIns := fun K pc nx _ cx ls st I L R => match zarg na [] st with
  | some (as, .ref a :: r) => (K a).1 = ci ∧ zck ml (.ref a :: as) r = true ∧ cx m' (zent ml (.ref a :: as)) I L R (fun v I' L' R' => nx (pc + 3) ls (v.toList ++ r) I' L' R')
  | _ => False
def z_cS (m' ml na : Nat) : ZIns := fun _ pc nx _ cx ls st I L R => match zarg na [] st with
  | some (as, r) => zck ml as r = true ∧ cx m' (zent ml as) I L R (fun v I' L' R' => nx (pc + 3) ls (v.toList ++ r) I' L' R')
  | _ => False
def z_ir : ZIns := fun _ _ _ rt _ _ st I L R => match st with
  | [.int v] => rt (some (.int v)) I L R
  | _ => False
def z_lr : ZIns := fun _ _ _ rt _ _ st I L R => match st with
  | [.long v] => rt (some (.long v)) I L R
  | _ => False
def z_vr : ZIns := fun _ _ _ rt _ _ st I L R => match st with
  | [] => rt none I L R
  | _ => False
def z_zr : ZIns := fun _ _ _ rt _ _ st I L R => match st with
  | [.int v] => (v = 0 ∨ v = 1) ∧ rt (some (.int v)) I L R
  | _ => False
def z_mmax : ZIns := fun _ pc nx _ _ ls st I L R => match st with
  | .int y :: .int x :: r => zck 0 [] r = true ∧ nx (pc + 3) ls (.int (if x < y then y else x) :: r) I L R
  | _ => False
def z_mmin : ZIns := fun _ pc nx _ _ ls st I L R => match st with
  | .int y :: .int x :: r => zck 0 [] r = true ∧ nx (pc + 3) ls (.int (if y < x then y else x) :: r) I L R
  | _ => False
def z_mabs : ZIns := fun _ pc nx _ _ ls st I L R => match st with
  | .int x :: r => zck 0 [] r = true ∧ nx (pc + 3) ls (.int (if 0 ≤ x then x else 0 - x) :: r) I L R
  | _ => False
def z_mmaxl : ZIns := fun _ pc nx _ _ ls st I L R => match st with
  | .long y :: .long x :: r => zck 0 [] r = true ∧ nx (pc + 3) ls (.long (if y < x then x else y) :: r) I L R
  | _ => False
