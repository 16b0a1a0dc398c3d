/-! ===== reading a text: what both sides read; the class's reader ===== -/
def zto (T : Nat → Nat) (len p : Nat) : Nat := if p < len then T p else 0
def zcn (t : Nat → Nat) : Nat → Nat → Nat
  | _, 0 => 0
  | q, k + 1 => if 48 ≤ t q ∧ t q ≤ 57 then zcn t (q + 1) k + 1 else 0
def zva (t : Nat → Nat) (q : Nat) : Nat → Nat
  | 0 => 0
  | n + 1 => 10 * zva t q n + (t (q + n) - 48)
def zn_q (t : Nat → Nat) (p : Nat) : Nat := if t p = 45 then p + 1 else p
def zn_n (t : Nat → Nat) (p : Nat) : Nat := zcn t (zn_q t p) 3
def zn_e (t : Nat → Nat) (p : Nat) : Nat := zn_q t p + zn_n t p
def zn_w (t : Nat → Nat) (p : Nat) : Nat := zva t (zn_q t p) (zn_n t p)
def zn_v (t : Nat → Nat) (p : Nat) : Int32 := if t p = 45 then -(nI (zn_w t p)) else nI (zn_w t p)
abbrev zn_k (t : Nat → Nat) (p : Nat) : Prop := ¬ zn_n t p = 0 ∧ ¬ (t p = 45 ∧ zn_w t p = 0)
def znm (t : Nat → Nat) (p d : Nat) : Option (Int32 × Nat) := if zn_k t p ∧ t (zn_e t p) = d then some (zn_v t p, zn_e t p + 1) else none
def zns (t : Nat → Nat) (many p : Nat) : Nat → Option ((Nat → Int32) × Nat)
  | 0 => some (fun _ => 0, p)
  | i + 1 => match zns t many p i with
    | none => none
    | some q => match znm t q.2 (if i + 1 < many then 44 else 59) with
      | none => none
      | some r => some (fun j => if j = i then r.1 else q.1 j, r.2)
def zmy (c : Nat) : Nat := if c = 99 ∨ c = 101 ∨ c = 107 ∨ c = 115 then 2 else if c = 102 ∨ c = 104 ∨ c = 109 ∨ c = 118 then 3 else if c = 112 then 5 else 0
def ztk (u : ZU) (c : Nat) (f : Nat → Int32) : Option ZU :=
  if c = 115 then zk_s u.1 u.2.1 u.2.2.1 u.2.2.2.1 u.2.2.2.2.1 u.2.2.2.2.2 (f 0) (f 1)
  else if c = 112 then zk_p u.1 u.2.1 u.2.2.1 u.2.2.2.1 u.2.2.2.2.1 u.2.2.2.2.2 (f 0) (f 1) (f 2) (f 3) (f 4)
  else if c = 104 then zk_h u.1 u.2.1 u.2.2.1 u.2.2.2.1 u.2.2.2.2.1 u.2.2.2.2.2 (f 0) (f 1) (f 2)
  else if c = 109 then zk_m u.1 u.2.1 u.2.2.1 u.2.2.2.1 u.2.2.2.2.1 u.2.2.2.2.2 (f 0) (f 1) (f 2)
  else if c = 99 then zk_c u.1 u.2.1 u.2.2.1 u.2.2.2.1 u.2.2.2.2.1 u.2.2.2.2.2 (f 0) (f 1)
  else if c = 102 then zk_f u.1 u.2.1 u.2.2.1 u.2.2.2.1 u.2.2.2.2.1 u.2.2.2.2.2 (f 0) (f 1) (f 2)
  else if c = 101 then zk_e u.1 u.2.1 u.2.2.1 u.2.2.2.1 u.2.2.2.2.1 u.2.2.2.2.2 (f 0) (f 1)
  else if c = 107 then zk_k u.1 u.2.1 u.2.2.1 u.2.2.2.1 u.2.2.2.2.1 u.2.2.2.2.2 (f 0) (f 1)
  else if c = 118 then zk_v u.1 u.2.1 u.2.2.1 u.2.2.2.1 u.2.2.2.2.1 u.2.2.2.2.2 (f 0) (f 1) (f 2)
  else none
def zit (t : Nat → Nat) (p : Nat) (u : ZU) : Option (ZU × Nat) := if zmy (t p) = 0 then none else match zns t (zmy (t p)) (p + 1) (zmy (t p)) with
  | none => none
  | some q => match ztk u (t p) q.1 with
    | none => none
    | some u' => some (u', q.2)
def zrd (t : Nat → Nat) (len : Nat) : Nat → Nat → ZU → Int32 × ZU
  | 0, _, u => (-4, u)
  | f + 1, p, u => if p < len then (match zit t p u with
    | none => (nI p, u)
    | some q => zrd t len f q.2 q.1) else (-4, u)
def zu0 : ZU := (fun f _ _ => if f = 15 then 20 else if f = 16 then 5 else 0, 0, 0, 0, 0, 0)
def zUb (u : ZU) : Prop := u.2.1 ≤ 6 ∧ u.2.2.1 ≤ 8 ∧ u.2.2.2.1 ≤ 6 ∧ u.2.2.2.2.1 ≤ 16 ∧ u.2.2.2.2.2 ≤ 6
theorem zcn_le (t : Nat → Nat) : ∀ k q, zcn t q k ≤ k
  | 0, _ => Nat.le_refl 0
  | k + 1, q => by
    have := zcn_le t k (q + 1)
    unfold zcn
    split <;> omega
theorem zn_q_le (t : Nat → Nat) (p : Nat) : p ≤ zn_q t p ∧ zn_q t p ≤ p + 1 := by unfold zn_q; split <;> omega
theorem zn_e_le (t : Nat → Nat) (p : Nat) : p ≤ zn_e t p ∧ zn_e t p ≤ p + 4 := by
  have h1 := zn_q_le t p
  have h2 : zn_n t p ≤ 3 := zcn_le t 3 _
  unfold zn_e; omega
theorem znm_le {t : Nat → Nat} {p d : Nat} {r : Int32 × Nat} (h : znm t p d = some r) : p + 1 ≤ r.2 ∧ r.2 ≤ p + 5 := by
  unfold znm at h
  split at h
  · cases h
    have := zn_e_le t p
    exact ⟨by show p + 1 ≤ zn_e t p + 1; omega, by show zn_e t p + 1 ≤ p + 5; omega⟩
  · cases h
theorem zns_le {t : Nat → Nat} {many p : Nat} : ∀ {i : Nat} {q : (Nat → Int32) × Nat}, zns t many p i = some q → p ≤ q.2 ∧ q.2 ≤ p + 5 * i
  | 0, q, h => by cases h; exact ⟨Nat.le_refl _, Nat.le_refl _⟩
  | i + 1, q, h => by
    unfold zns at h
    split at h
    · cases h
    · rename_i q1 h1
      split at h
      · cases h
      · rename_i r hr
        cases h
        have a := zns_le h1
        have b := znm_le hr
        exact ⟨by show p ≤ r.2; omega, by show r.2 ≤ p + 5 * (i + 1); omega⟩
theorem zns_s {t : Nat → Nat} {many p i : Nat} {q : (Nat → Int32) × Nat} {r : Int32 × Nat} (h : zns t many p i = some q) (hr : znm t q.2 (if i + 1 < many then 44 else 59) = some r) : zns t many p (i + 1) = some (fun j => if j = i then r.1 else q.1 j, r.2) := by
  rw [zns, h]
  simp only
  rw [hr]
theorem zns_n {t : Nat → Nat} {many p i : Nat} {q : (Nat → Int32) × Nat} (h : zns t many p i = some q) (hr : znm t q.2 (if i + 1 < many then 44 else 59) = none) : zns t many p (i + 1) = none := by
  rw [zns, h]
  simp only
  rw [hr]
theorem zns_nn {t : Nat → Nat} {many p i : Nat} (h : zns t many p i = none) : ∀ k, zns t many p (i + k) = none
  | 0 => h
  | k + 1 => by rw [← Nat.add_assoc, zns, zns_nn h k]
theorem zit_n1 {t : Nat → Nat} {p : Nat} {u : ZU} (h : zmy (t p) = 0) : zit t p u = none := if_pos h
theorem zit_n2 {t : Nat → Nat} {p : Nat} {u : ZU} {i : Nat} (hi : i ≤ zmy (t p)) (h : zns t (zmy (t p)) (p + 1) i = none) : zit t p u = none := by
  unfold zit
  split
  · rfl
  · have := zns_nn h (zmy (t p) - i)
    rw [show i + (zmy (t p) - i) = zmy (t p) from by omega] at this
    rw [this]
theorem zit_n3 {t : Nat → Nat} {p : Nat} {u : ZU} {q : (Nat → Int32) × Nat} (h : zns t (zmy (t p)) (p + 1) (zmy (t p)) = some q) (h2 : ztk u (t p) q.1 = none) : zit t p u = none := by
  unfold zit
  split
  · rfl
  · rw [h]
    simp only
    rw [h2]
theorem zit_s {t : Nat → Nat} {p : Nat} {u u' : ZU} {q : (Nat → Int32) × Nat} (h0 : ¬ zmy (t p) = 0) (h : zns t (zmy (t p)) (p + 1) (zmy (t p)) = some q) (h2 : ztk u (t p) q.1 = some u') : zit t p u = some (u', q.2) := by
  unfold zit
  rw [if_neg h0, h]
  simp only
  rw [h2]
theorem zmy_5 (c : Nat) : zmy c = 0 ∨ (2 ≤ zmy c ∧ zmy c ≤ 5) := by
  unfold zmy
  split
  · omega
  · split
    · omega
    · split <;> omega
theorem zit_le {t : Nat → Nat} {p : Nat} {u : ZU} {r : ZU × Nat} (h : zit t p u = some r) : p + 1 ≤ r.2 ∧ r.2 ≤ p + 26 := by
  unfold zit at h
  split at h
  · cases h
  · split at h
    · cases h
    · rename_i q hq
      split at h
      · cases h
      · cases h
        have a := zns_le hq
        have b := zmy_5 (t p)
        exact ⟨by show p + 1 ≤ q.2; omega, by show q.2 ≤ p + 26; omega⟩
theorem zif_some {c : Prop} [Decidable c] {a b : ZU} (h : (if c then some a else none) = some b) : c ∧ a = b := by
  split at h
  · rename_i q
    cases h
    exact ⟨q, rfl⟩
  · cases h
theorem ztk_ub {u u' : ZU} {c : Nat} {f : Nat → Int32} (hu : zUb u) (h : ztk u c f = some u') : zUb u' := by
  obtain ⟨h1, h2, h3, h4, h5⟩ := hu
  unfold ztk at h
  repeat' split at h
  all_goals first
    | (unfold zk_s at h; obtain ⟨z, rfl⟩ := zif_some h; exact ⟨by show _ + 1 ≤ 6; omega, h2, h3, h4, h5⟩)
    | (unfold zk_p at h; obtain ⟨z, rfl⟩ := zif_some h; exact ⟨h1, by show _ + 1 ≤ 8; omega, h3, h4, h5⟩)
    | (unfold zk_h at h; obtain ⟨z, rfl⟩ := zif_some h; exact ⟨h1, h2, h3, by show _ + 1 ≤ 16; omega, h5⟩)
    | (unfold zk_m at h; obtain ⟨z, rfl⟩ := zif_some h; exact ⟨h1, h2, h3, h4, by show _ + 1 ≤ 6; omega⟩)
    | (unfold zk_f at h; obtain ⟨z, rfl⟩ := zif_some h; exact ⟨h1, h2, by show _ + 1 ≤ 6; omega, h4, h5⟩)
    | (unfold zk_c at h; obtain ⟨z, rfl⟩ := zif_some h; exact ⟨h1, h2, h3, h4, h5⟩)
    | (unfold zk_e at h; obtain ⟨z, rfl⟩ := zif_some h; exact ⟨h1, h2, h3, h4, h5⟩)
    | (unfold zk_k at h; obtain ⟨z, rfl⟩ := zif_some h; exact ⟨h1, h2, h3, h4, h5⟩)
    | (unfold zk_v at h; obtain ⟨z, rfl⟩ := zif_some h; exact ⟨h1, h2, h3, h4, h5⟩)
    | (cases h)
theorem zit_ub {t : Nat → Nat} {p : Nat} {u : ZU} {r : ZU × Nat} (hu : zUb u) (h : zit t p u = some r) : zUb r.1 := by
  unfold zit at h
  split at h
  · cases h
  · split at h
    · cases h
    · split at h
      · cases h
      · rename_i u' hu'
        cases h
        exact ztk_ub hu hu'
theorem zrd_end {t : Nat → Nat} {len p : Nat} {u : ZU} (h : len ≤ p) : ∀ f, zrd t len f p u = (-4, u)
  | 0 => rfl
  | f + 1 => by rw [zrd, if_neg (by omega)]
theorem zrd_n {t : Nat → Nat} {len p f : Nat} {u : ZU} (hp : p < len) (h : zit t p u = none) : zrd t len (f + 1) p u = (nI p, u) := by rw [zrd, if_pos hp, h]
theorem zrd_s {t : Nat → Nat} {len p f : Nat} {u : ZU} {q : ZU × Nat} (hp : p < len) (h : zit t p u = some q) : zrd t len (f + 1) p u = zrd t len f q.2 q.1 := by rw [zrd, if_pos hp, h]
theorem zca_eq {T : Nat → Nat} {len p c : Nat} (h256 : ∀ i, T i < 256) (h0 : 0 < c) (hc : c < 256) : zca T len p = nI c ↔ zto T len p = c := by
  have := h256 p
  unfold zca zto
  split
  · exact nI_eq (by omega) (by omega)
  · have h1 : ∀ c, c < 256 → ¬ (-1 : Int32) = nI c := by decide +kernel
    exact ⟨fun q => absurd q (h1 c hc), fun q => by omega⟩
theorem zca_dg {T : Nat → Nat} {len p : Nat} (h256 : ∀ i, T i < 256) : (48 ≤ zca T len p ∧ zca T len p ≤ 57) ↔ (48 ≤ zto T len p ∧ zto T len p ≤ 57) := by
  have := h256 p
  unfold zca zto
  split
  · rw [show (48 : Int32) = nI 48 from rfl, show (57 : Int32) = nI 57 from rfl, nI_leI (by omega) (by omega), nI_leI (by omega) (by omega)]
  · exact ⟨fun q => absurd q (by decide), fun q => by omega⟩
theorem zva_s {T : Nat → Nat} {len q n : Nat} (hd : 48 ≤ zto T len (q + n) ∧ zto T len (q + n) ≤ 57) : nI (zva (zto T len) q n) * 10 + zca T len (q + n) - 48 = nI (zva (zto T len) q (n + 1)) := by
  have e : zca T len (q + n) = nI (zto T len (q + n)) := by
    unfold zca zto at *
    split
    · rfl
    · rename_i h; rw [if_neg h] at hd; omega
  rw [e, zva, show (10 : Int32) = nI 10 from rfl, show (48 : Int32) = nI 48 from rfl, pk_mul, nI_add, pk_sub (by omega)]
  congr 1
  omega
theorem zcn_z {t : Nat → Nat} {q k : Nat} (h : ¬ (48 ≤ t q ∧ t q ≤ 57)) : zcn t q k = 0 := by
  cases k with
  | zero => rfl
  | succ k => rw [zcn, if_neg h]
theorem zCu_0 {I : ZMi} {w : Nat} (h : (I w 5 = 0 ∧ I w 6 = 0 ∧ I w 7 = 0 ∧ I w 8 = 0 ∧ I w 9 = 0) ∧ (∀ i, i < 3 → I (w + 4) i = 20) ∧ (∀ i, i < 5 → I (w + 5) i = 5)) : zCu I w zu0 :=
  ⟨⟨h.1.1, h.1.2.1, h.1.2.2.1, fun s hs => absurd hs (Nat.not_lt_zero s), fun s hs => absurd hs (Nat.not_lt_zero s), fun s hs => absurd hs (Nat.not_lt_zero s), fun t ht => h.2.1 t ht, fun k hk => h.2.2 k hk⟩, h.1.2.2.2.1, h.1.2.2.2.2⟩
theorem zcl_up {I I1 : ZMi} {w a b c d : Nat} {x : Int32} (h : zfW w I I1 ∧ (I1 w 5 = 0 ∧ I1 w 6 = 0 ∧ I1 w 7 = 0 ∧ I1 w 8 = 0 ∧ I1 w 9 = 0) ∧ (∀ i, i < a → I1 (w + 4) i = 20) ∧ (∀ i, i < b → I1 (w + 5) i = 5)) (hc : (c = 4 ∧ d = a ∧ x = 20) ∨ (c = 5 ∧ d = b ∧ x = 5)) : zfW w I (zup I1 (w + c) d x) ∧ ((zup I1 (w + c) d x) w 5 = 0 ∧ (zup I1 (w + c) d x) w 6 = 0 ∧ (zup I1 (w + c) d x) w 7 = 0 ∧ (zup I1 (w + c) d x) w 8 = 0 ∧ (zup I1 (w + c) d x) w 9 = 0) ∧ (∀ i, i < (if c = 4 then a + 1 else a) → (zup I1 (w + c) d x) (w + 4) i = 20) ∧ (∀ i, i < (if c = 4 then b else b + 1) → (zup I1 (w + c) d x) (w + 5) i = 5) := by
  obtain ⟨h1, ⟨h5, h6, h7, h8, h9⟩, h2, h3⟩ := h
  refine ⟨zfW_u h1 (by omega), ⟨?_, ?_, ?_, ?_, ?_⟩, fun i hi => ?_, fun i hi => ?_⟩
  · rw [zup_n _ _ _ _ (by omega)]; exact h5
  · rw [zup_n _ _ _ _ (by omega)]; exact h6
  · rw [zup_n _ _ _ _ (by omega)]; exact h7
  · rw [zup_n _ _ _ _ (by omega)]; exact h8
  · rw [zup_n _ _ _ _ (by omega)]; exact h9
  · rcases hc with ⟨rfl, rfl, rfl⟩ | ⟨rfl, rfl, rfl⟩
    · rw [if_pos rfl] at hi
      rcases Nat.lt_or_ge i d with q | q
      · rw [zup_n _ _ _ _ (by omega)]; exact h2 i q
      · rw [show i = d from by omega, zup_s]
    · rw [if_neg (by decide)] at hi
      rw [zup_n _ _ _ _ (by omega)]; exact h2 i hi
  · rcases hc with ⟨rfl, rfl, rfl⟩ | ⟨rfl, rfl, rfl⟩
    · rw [if_pos rfl] at hi
      rw [zup_n _ _ _ _ (by omega)]; exact h3 i hi
    · rw [if_neg (by decide)] at hi
      rcases Nat.lt_or_ge i d with q | q
      · rw [zup_n _ _ _ _ (by omega)]; exact h3 i q
      · rw [show i = d from by omega, zup_s]
set_option maxRecDepth 4000 in
theorem x_clear_b {K : ZKh} {P : Nat → Nat → List Value → List Value → ZMi → ZMl → ZMr → ZRt → Prop} {I : ZMi} {L : ZMl} {R : ZMr} {Q : ZRt} (hP : ZCl K P) {w : Nat} (hK : zKa K) (hR : zRa R) (hw : zisW w) (h : ∀ I2, zfW w I I2 → zCu I2 w zu0 → Q none I2 L R) : ∀ k, k ≤ 5 → ∀ (I1 : ZMi), zfW w I I1 ∧ (I1 w 5 = 0 ∧ I1 w 6 = 0 ∧ I1 w 7 = 0 ∧ I1 w 8 = 0 ∧ I1 w 9 = 0) ∧ (∀ i, i < 3 → I1 (w + 4) i = 20) ∧ (∀ i, i < k → I1 (w + 5) i = 5) → P 45 48 [.ref w, .int (nI k)] [] I1 L R Q := by
  refine zloop 5 (fun k => ∀ (I1 : ZMi), zfW w I I1 ∧ (I1 w 5 = 0 ∧ I1 w 6 = 0 ∧ I1 w 7 = 0 ∧ I1 w 8 = 0 ∧ I1 w 9 = 0) ∧ (∀ i, i < 3 → I1 (w + 4) i = 20) ∧ (∀ i, i < k → I1 (w + 5) i = 5) → P 45 48 [.ref w, .int (nI k)] [] I1 L R Q) ?_
  intro k hle ih I1 hacc
  have hw39 := zW39 hw
  refine r_il hP c45_48 rfl ?_
  refine r_ic hP c45_49 ?_
  refine r_ige hP c45_50 (fun h50 => ?_) (fun h50 => ?_)
  · have he : k = 5 := Nat.le_antisymm hle ((nI_leI (by omega) (by omega)).mp h50)
    subst he
    exact r_vr hP c45_66 (h _ hacc.1 (zCu_0 hacc.2))
  · have hlt : k < 5 := by
      rcases Nat.lt_or_ge k 5 with q | q
      · exact q
      · exact absurd (nI_le q (by omega)) h50
    refine r_al hP c45_53 rfl ?_
    refine r_gR (x := w + 5) hP c45_54 (zj_W hK hw) (zr_yrl hR hw) ?_
    refine r_il hP c45_57 rfl ?_
    refine r_ic hP c45_58 ?_
    refine r_iast (j := k) hP c45_59 (zk_yrl hK hw) rfl (by omega) ?_
    refine r_inc (y := nI (k + 1)) (ls' := [.ref w, .int (nI (k + 1))]) hP c45_60 rfl (nI_1 _) rfl ?_
    refine r_goto hP c45_63 ?_
    exact ih hlt _ (zcl_up (c := 5) hacc (Or.inr ⟨rfl, rfl, rfl⟩))
set_option maxRecDepth 4000 in
theorem x_clear_a {K : ZKh} {P : Nat → Nat → List Value → List Value → ZMi → ZMl → ZMr → ZRt → Prop} {I : ZMi} {L : ZMl} {R : ZMr} {Q : ZRt} (hP : ZCl K P) {w : Nat} (hK : zKa K) (hR : zRa R) (hw : zisW w) (h : ∀ I2, zfW w I I2 → zCu I2 w zu0 → Q none I2 L R) : ∀ t, t ≤ 3 → ∀ (I1 : ZMi), zfW w I I1 ∧ (I1 w 5 = 0 ∧ I1 w 6 = 0 ∧ I1 w 7 = 0 ∧ I1 w 8 = 0 ∧ I1 w 9 = 0) ∧ (∀ i, i < t → I1 (w + 4) i = 20) ∧ (∀ i, i < 0 → I1 (w + 5) i = 5) → P 45 27 [.ref w, .int (nI t)] [] I1 L R Q := by
  refine zloop 3 (fun t => ∀ (I1 : ZMi), zfW w I I1 ∧ (I1 w 5 = 0 ∧ I1 w 6 = 0 ∧ I1 w 7 = 0 ∧ I1 w 8 = 0 ∧ I1 w 9 = 0) ∧ (∀ i, i < t → I1 (w + 4) i = 20) ∧ (∀ i, i < 0 → I1 (w + 5) i = 5) → P 45 27 [.ref w, .int (nI t)] [] I1 L R Q) ?_
  intro t hle ih I1 hacc
  have hw39 := zW39 hw
  refine r_il hP c45_27 rfl ?_
  refine r_ic hP c45_28 ?_
  refine r_ige hP c45_29 (fun h29 => ?_) (fun h29 => ?_)
  · have he : t = 3 := Nat.le_antisymm hle ((nI_leI (by omega) (by omega)).mp h29)
    refine r_ic hP c45_46 ?_
    refine r_is (ls' := [.ref w, .int 0]) hP c45_47 (Nat.le_of_ble_eq_true rfl) rfl ?_
    subst he
    exact x_clear_b hP hK hR hw h 0 (Nat.zero_le _) _ hacc
  · have hlt : t < 3 := by
      rcases Nat.lt_or_ge t 3 with q | q
      · exact q
      · exact absurd (nI_le q (by omega)) h29
    refine r_al hP c45_32 rfl ?_
    refine r_gR (x := w + 4) hP c45_33 (zj_W hK hw) (zr_ear hR hw) ?_
    refine r_il hP c45_36 rfl ?_
    refine r_ic hP c45_37 ?_
    refine r_iast (j := t) hP c45_39 (zk_ear hK hw) rfl (by omega) ?_
    refine r_inc (y := nI (t + 1)) (ls' := [.ref w, .int (nI (t + 1))]) hP c45_40 rfl (nI_1 _) rfl ?_
    refine r_goto hP c45_43 ?_
    exact ih hlt _ (zcl_up (c := 4) hacc (Or.inl ⟨rfl, rfl, rfl⟩))
set_option maxRecDepth 4000 in
theorem x_clear {K : ZKh} {P : Nat → Nat → List Value → List Value → ZMi → ZMl → ZMr → ZRt → Prop} {I : ZMi} {L : ZMl} {R : ZMr} {Q : ZRt} (hP : ZCl K P) {w : Nat} (hK : zKa K) (hR : zRa R) (hw : zisW w) (h : ∀ I2, zfW w I I2 → zCu I2 w zu0 → Q none I2 L R) : P 45 0 [.ref w, .null] [] I L R Q := by
  have hw39 := zW39 hw
  refine r_al hP c45_0 rfl ?_
  refine r_ic hP c45_1 ?_
  refine r_pI hP c45_2 (zj_W hK hw) ?_
  refine r_al hP c45_5 rfl ?_
  refine r_ic hP c45_6 ?_
  refine r_pI hP c45_7 (zj_W hK hw) ?_
  refine r_al hP c45_10 rfl ?_
  refine r_ic hP c45_11 ?_
  refine r_pI hP c45_12 (zj_W hK hw) ?_
  refine r_al hP c45_15 rfl ?_
  refine r_ic hP c45_16 ?_
  refine r_pI hP c45_17 (zj_W hK hw) ?_
  refine r_al hP c45_20 rfl ?_
  refine r_ic hP c45_21 ?_
  refine r_pI hP c45_22 (zj_W hK hw) ?_
  refine r_ic hP c45_25 ?_
  refine r_is (ls' := [.ref w, .int 0]) hP c45_26 (Nat.le_of_ble_eq_true rfl) rfl ?_
  exact x_clear_a hP hK hR hw h 0 (Nat.zero_le _) _ ⟨zfW_u (zfW_u (zfW_u (zfW_u (zfW_u (zfW_r w I) (by omega)) (by omega)) (by omega)) (by omega)) (by omega), ⟨((zup_n _ _ _ _ (by omega)).trans ((zup_n _ _ _ _ (by omega)).trans ((zup_n _ _ _ _ (by omega)).trans ((zup_n _ _ _ _ (by omega)).trans (zup_s _ _ _ _))))), ((zup_n _ _ _ _ (by omega)).trans ((zup_n _ _ _ _ (by omega)).trans ((zup_n _ _ _ _ (by omega)).trans (zup_s _ _ _ _)))), ((zup_n _ _ _ _ (by omega)).trans ((zup_n _ _ _ _ (by omega)).trans (zup_s _ _ _ _))), ((zup_n _ _ _ _ (by omega)).trans (zup_s _ _ _ _)), (zup_s _ _ _ _)⟩, fun i hi => absurd hi (Nat.not_lt_zero i), fun i hi => absurd hi (Nat.not_lt_zero i)⟩
set_option maxRecDepth 4000 in
theorem x_numbersOf {K : ZKh} {P : Nat → Nat → List Value → List Value → ZMi → ZMl → ZMr → ZRt → Prop} {I : ZMi} {L : ZMl} {R : ZMr} {Q : ZRt} (hP : ZCl K P) {c : Nat} (hc : c < 256) (h : Q (some (.int (nI (zmy c)))) I L R) : P 30 0 [.int (nI c)] [] I L R Q := by
  refine r_il hP c30_0 rfl ?_
  refine r_sw hP c30_1 ?_
  refine zsw_c (fun h1_0 => ?_) (fun h1_0 => ?_)
  · refine r_ic hP c30_96 ?_
    first
      | exact r_irE hP c30_97 h (by rw [show c = 99 from (nI_eq (by omega) (by decide)).mp h1_0]; rfl)
      | exact r_irE hP c30_97 h (by rw [show c = 100 from (nI_eq (by omega) (by decide)).mp h1_1]; rfl)
      | exact r_irE hP c30_97 h (by rw [show c = 101 from (nI_eq (by omega) (by decide)).mp h1_2]; rfl)
      | exact r_irE hP c30_97 h (by rw [show c = 102 from (nI_eq (by omega) (by decide)).mp h1_3]; rfl)
      | exact r_irE hP c30_97 h (by rw [show c = 103 from (nI_eq (by omega) (by decide)).mp h1_4]; rfl)
      | exact r_irE hP c30_97 h (by rw [show c = 104 from (nI_eq (by omega) (by decide)).mp h1_5]; rfl)
      | exact r_irE hP c30_97 h (by rw [show c = 105 from (nI_eq (by omega) (by decide)).mp h1_6]; rfl)
      | exact r_irE hP c30_97 h (by rw [show c = 106 from (nI_eq (by omega) (by decide)).mp h1_7]; rfl)
      | exact r_irE hP c30_97 h (by rw [show c = 107 from (nI_eq (by omega) (by decide)).mp h1_8]; rfl)
      | exact r_irE hP c30_97 h (by rw [show c = 108 from (nI_eq (by omega) (by decide)).mp h1_9]; rfl)
      | exact r_irE hP c30_97 h (by rw [show c = 109 from (nI_eq (by omega) (by decide)).mp h1_10]; rfl)
      | exact r_irE hP c30_97 h (by rw [show c = 110 from (nI_eq (by omega) (by decide)).mp h1_11]; rfl)
      | exact r_irE hP c30_97 h (by rw [show c = 111 from (nI_eq (by omega) (by decide)).mp h1_12]; rfl)
      | exact r_irE hP c30_97 h (by rw [show c = 112 from (nI_eq (by omega) (by decide)).mp h1_13]; rfl)
      | exact r_irE hP c30_97 h (by rw [show c = 113 from (nI_eq (by omega) (by decide)).mp h1_14]; rfl)
      | exact r_irE hP c30_97 h (by rw [show c = 114 from (nI_eq (by omega) (by decide)).mp h1_15]; rfl)
      | exact r_irE hP c30_97 h (by rw [show c = 115 from (nI_eq (by omega) (by decide)).mp h1_16]; rfl)
      | exact r_irE hP c30_97 h (by rw [show c = 116 from (nI_eq (by omega) (by decide)).mp h1_17]; rfl)
      | exact r_irE hP c30_97 h (by rw [show c = 117 from (nI_eq (by omega) (by decide)).mp h1_18]; rfl)
      | exact r_irE hP c30_97 h (by rw [show c = 118 from (nI_eq (by omega) (by decide)).mp h1_19]; rfl)
  refine zsw_c (fun h1_1 => ?_) (fun h1_1 => ?_)
  · refine r_ic hP c30_102 ?_
    first
      | exact r_irE hP c30_103 h (by rw [show c = 99 from (nI_eq (by omega) (by decide)).mp h1_0]; rfl)
      | exact r_irE hP c30_103 h (by rw [show c = 100 from (nI_eq (by omega) (by decide)).mp h1_1]; rfl)
      | exact r_irE hP c30_103 h (by rw [show c = 101 from (nI_eq (by omega) (by decide)).mp h1_2]; rfl)
      | exact r_irE hP c30_103 h (by rw [show c = 102 from (nI_eq (by omega) (by decide)).mp h1_3]; rfl)
      | exact r_irE hP c30_103 h (by rw [show c = 103 from (nI_eq (by omega) (by decide)).mp h1_4]; rfl)
      | exact r_irE hP c30_103 h (by rw [show c = 104 from (nI_eq (by omega) (by decide)).mp h1_5]; rfl)
      | exact r_irE hP c30_103 h (by rw [show c = 105 from (nI_eq (by omega) (by decide)).mp h1_6]; rfl)
      | exact r_irE hP c30_103 h (by rw [show c = 106 from (nI_eq (by omega) (by decide)).mp h1_7]; rfl)
      | exact r_irE hP c30_103 h (by rw [show c = 107 from (nI_eq (by omega) (by decide)).mp h1_8]; rfl)
      | exact r_irE hP c30_103 h (by rw [show c = 108 from (nI_eq (by omega) (by decide)).mp h1_9]; rfl)
      | exact r_irE hP c30_103 h (by rw [show c = 109 from (nI_eq (by omega) (by decide)).mp h1_10]; rfl)
      | exact r_irE hP c30_103 h (by rw [show c = 110 from (nI_eq (by omega) (by decide)).mp h1_11]; rfl)
      | exact r_irE hP c30_103 h (by rw [show c = 111 from (nI_eq (by omega) (by decide)).mp h1_12]; rfl)
      | exact r_irE hP c30_103 h (by rw [show c = 112 from (nI_eq (by omega) (by decide)).mp h1_13]; rfl)
      | exact r_irE hP c30_103 h (by rw [show c = 113 from (nI_eq (by omega) (by decide)).mp h1_14]; rfl)
      | exact r_irE hP c30_103 h (by rw [show c = 114 from (nI_eq (by omega) (by decide)).mp h1_15]; rfl)
      | exact r_irE hP c30_103 h (by rw [show c = 115 from (nI_eq (by omega) (by decide)).mp h1_16]; rfl)
      | exact r_irE hP c30_103 h (by rw [show c = 116 from (nI_eq (by omega) (by decide)).mp h1_17]; rfl)
      | exact r_irE hP c30_103 h (by rw [show c = 117 from (nI_eq (by omega) (by decide)).mp h1_18]; rfl)
      | exact r_irE hP c30_103 h (by rw [show c = 118 from (nI_eq (by omega) (by decide)).mp h1_19]; rfl)
      | exact r_irE hP c30_103 h (by
          rw [zmy, if_neg (fun q => ?_), if_neg (fun q => ?_), if_neg (fun q => ?_)]
          · rfl
          · subst q; exact h1_13 rfl
          · rcases q with rfl | rfl | rfl | rfl; exact h1_3 rfl; exact h1_5 rfl; exact h1_10 rfl; exact h1_19 rfl
          · rcases q with rfl | rfl | rfl | rfl; exact h1_0 rfl; exact h1_2 rfl; exact h1_8 rfl; exact h1_16 rfl)
  refine zsw_c (fun h1_2 => ?_) (fun h1_2 => ?_)
  · refine r_ic hP c30_96 ?_
    first
      | exact r_irE hP c30_97 h (by rw [show c = 99 from (nI_eq (by omega) (by decide)).mp h1_0]; rfl)
      | exact r_irE hP c30_97 h (by rw [show c = 100 from (nI_eq (by omega) (by decide)).mp h1_1]; rfl)
      | exact r_irE hP c30_97 h (by rw [show c = 101 from (nI_eq (by omega) (by decide)).mp h1_2]; rfl)
      | exact r_irE hP c30_97 h (by rw [show c = 102 from (nI_eq (by omega) (by decide)).mp h1_3]; rfl)
      | exact r_irE hP c30_97 h (by rw [show c = 103 from (nI_eq (by omega) (by decide)).mp h1_4]; rfl)
      | exact r_irE hP c30_97 h (by rw [show c = 104 from (nI_eq (by omega) (by decide)).mp h1_5]; rfl)
      | exact r_irE hP c30_97 h (by rw [show c = 105 from (nI_eq (by omega) (by decide)).mp h1_6]; rfl)
      | exact r_irE hP c30_97 h (by rw [show c = 106 from (nI_eq (by omega) (by decide)).mp h1_7]; rfl)
      | exact r_irE hP c30_97 h (by rw [show c = 107 from (nI_eq (by omega) (by decide)).mp h1_8]; rfl)
      | exact r_irE hP c30_97 h (by rw [show c = 108 from (nI_eq (by omega) (by decide)).mp h1_9]; rfl)
      | exact r_irE hP c30_97 h (by rw [show c = 109 from (nI_eq (by omega) (by decide)).mp h1_10]; rfl)
      | exact r_irE hP c30_97 h (by rw [show c = 110 from (nI_eq (by omega) (by decide)).mp h1_11]; rfl)
      | exact r_irE hP c30_97 h (by rw [show c = 111 from (nI_eq (by omega) (by decide)).mp h1_12]; rfl)
      | exact r_irE hP c30_97 h (by rw [show c = 112 from (nI_eq (by omega) (by decide)).mp h1_13]; rfl)
      | exact r_irE hP c30_97 h (by rw [show c = 113 from (nI_eq (by omega) (by decide)).mp h1_14]; rfl)
      | exact r_irE hP c30_97 h (by rw [show c = 114 from (nI_eq (by omega) (by decide)).mp h1_15]; rfl)
      | exact r_irE hP c30_97 h (by rw [show c = 115 from (nI_eq (by omega) (by decide)).mp h1_16]; rfl)
      | exact r_irE hP c30_97 h (by rw [show c = 116 from (nI_eq (by omega) (by decide)).mp h1_17]; rfl)
      | exact r_irE hP c30_97 h (by rw [show c = 117 from (nI_eq (by omega) (by decide)).mp h1_18]; rfl)
      | exact r_irE hP c30_97 h (by rw [show c = 118 from (nI_eq (by omega) (by decide)).mp h1_19]; rfl)
  refine zsw_c (fun h1_3 => ?_) (fun h1_3 => ?_)
  · refine r_ic hP c30_98 ?_
    first
      | exact r_irE hP c30_99 h (by rw [show c = 99 from (nI_eq (by omega) (by decide)).mp h1_0]; rfl)
      | exact r_irE hP c30_99 h (by rw [show c = 100 from (nI_eq (by omega) (by decide)).mp h1_1]; rfl)
      | exact r_irE hP c30_99 h (by rw [show c = 101 from (nI_eq (by omega) (by decide)).mp h1_2]; rfl)
      | exact r_irE hP c30_99 h (by rw [show c = 102 from (nI_eq (by omega) (by decide)).mp h1_3]; rfl)
      | exact r_irE hP c30_99 h (by rw [show c = 103 from (nI_eq (by omega) (by decide)).mp h1_4]; rfl)
      | exact r_irE hP c30_99 h (by rw [show c = 104 from (nI_eq (by omega) (by decide)).mp h1_5]; rfl)
      | exact r_irE hP c30_99 h (by rw [show c = 105 from (nI_eq (by omega) (by decide)).mp h1_6]; rfl)
      | exact r_irE hP c30_99 h (by rw [show c = 106 from (nI_eq (by omega) (by decide)).mp h1_7]; rfl)
      | exact r_irE hP c30_99 h (by rw [show c = 107 from (nI_eq (by omega) (by decide)).mp h1_8]; rfl)
      | exact r_irE hP c30_99 h (by rw [show c = 108 from (nI_eq (by omega) (by decide)).mp h1_9]; rfl)
      | exact r_irE hP c30_99 h (by rw [show c = 109 from (nI_eq (by omega) (by decide)).mp h1_10]; rfl)
      | exact r_irE hP c30_99 h (by rw [show c = 110 from (nI_eq (by omega) (by decide)).mp h1_11]; rfl)
      | exact r_irE hP c30_99 h (by rw [show c = 111 from (nI_eq (by omega) (by decide)).mp h1_12]; rfl)
      | exact r_irE hP c30_99 h (by rw [show c = 112 from (nI_eq (by omega) (by decide)).mp h1_13]; rfl)
      | exact r_irE hP c30_99 h (by rw [show c = 113 from (nI_eq (by omega) (by decide)).mp h1_14]; rfl)
      | exact r_irE hP c30_99 h (by rw [show c = 114 from (nI_eq (by omega) (by decide)).mp h1_15]; rfl)
      | exact r_irE hP c30_99 h (by rw [show c = 115 from (nI_eq (by omega) (by decide)).mp h1_16]; rfl)
      | exact r_irE hP c30_99 h (by rw [show c = 116 from (nI_eq (by omega) (by decide)).mp h1_17]; rfl)
      | exact r_irE hP c30_99 h (by rw [show c = 117 from (nI_eq (by omega) (by decide)).mp h1_18]; rfl)
      | exact r_irE hP c30_99 h (by rw [show c = 118 from (nI_eq (by omega) (by decide)).mp h1_19]; rfl)
  refine zsw_c (fun h1_4 => ?_) (fun h1_4 => ?_)
  · refine r_ic hP c30_102 ?_
    first
      | exact r_irE hP c30_103 h (by rw [show c = 99 from (nI_eq (by omega) (by decide)).mp h1_0]; rfl)
      | exact r_irE hP c30_103 h (by rw [show c = 100 from (nI_eq (by omega) (by decide)).mp h1_1]; rfl)
      | exact r_irE hP c30_103 h (by rw [show c = 101 from (nI_eq (by omega) (by decide)).mp h1_2]; rfl)
      | exact r_irE hP c30_103 h (by rw [show c = 102 from (nI_eq (by omega) (by decide)).mp h1_3]; rfl)
      | exact r_irE hP c30_103 h (by rw [show c = 103 from (nI_eq (by omega) (by decide)).mp h1_4]; rfl)
      | exact r_irE hP c30_103 h (by rw [show c = 104 from (nI_eq (by omega) (by decide)).mp h1_5]; rfl)
      | exact r_irE hP c30_103 h (by rw [show c = 105 from (nI_eq (by omega) (by decide)).mp h1_6]; rfl)
      | exact r_irE hP c30_103 h (by rw [show c = 106 from (nI_eq (by omega) (by decide)).mp h1_7]; rfl)
      | exact r_irE hP c30_103 h (by rw [show c = 107 from (nI_eq (by omega) (by decide)).mp h1_8]; rfl)
      | exact r_irE hP c30_103 h (by rw [show c = 108 from (nI_eq (by omega) (by decide)).mp h1_9]; rfl)
      | exact r_irE hP c30_103 h (by rw [show c = 109 from (nI_eq (by omega) (by decide)).mp h1_10]; rfl)
      | exact r_irE hP c30_103 h (by rw [show c = 110 from (nI_eq (by omega) (by decide)).mp h1_11]; rfl)
      | exact r_irE hP c30_103 h (by rw [show c = 111 from (nI_eq (by omega) (by decide)).mp h1_12]; rfl)
      | exact r_irE hP c30_103 h (by rw [show c = 112 from (nI_eq (by omega) (by decide)).mp h1_13]; rfl)
      | exact r_irE hP c30_103 h (by rw [show c = 113 from (nI_eq (by omega) (by decide)).mp h1_14]; rfl)
      | exact r_irE hP c30_103 h (by rw [show c = 114 from (nI_eq (by omega) (by decide)).mp h1_15]; rfl)
      | exact r_irE hP c30_103 h (by rw [show c = 115 from (nI_eq (by omega) (by decide)).mp h1_16]; rfl)
      | exact r_irE hP c30_103 h (by rw [show c = 116 from (nI_eq (by omega) (by decide)).mp h1_17]; rfl)
      | exact r_irE hP c30_103 h (by rw [show c = 117 from (nI_eq (by omega) (by decide)).mp h1_18]; rfl)
      | exact r_irE hP c30_103 h (by rw [show c = 118 from (nI_eq (by omega) (by decide)).mp h1_19]; rfl)
      | exact r_irE hP c30_103 h (by
          rw [zmy, if_neg (fun q => ?_), if_neg (fun q => ?_), if_neg (fun q => ?_)]
          · rfl
          · subst q; exact h1_13 rfl
          · rcases q with rfl | rfl | rfl | rfl; exact h1_3 rfl; exact h1_5 rfl; exact h1_10 rfl; exact h1_19 rfl
          · rcases q with rfl | rfl | rfl | rfl; exact h1_0 rfl; exact h1_2 rfl; exact h1_8 rfl; exact h1_16 rfl)
  refine zsw_c (fun h1_5 => ?_) (fun h1_5 => ?_)
  · refine r_ic hP c30_98 ?_
    first
      | exact r_irE hP c30_99 h (by rw [show c = 99 from (nI_eq (by omega) (by decide)).mp h1_0]; rfl)
      | exact r_irE hP c30_99 h (by rw [show c = 100 from (nI_eq (by omega) (by decide)).mp h1_1]; rfl)
      | exact r_irE hP c30_99 h (by rw [show c = 101 from (nI_eq (by omega) (by decide)).mp h1_2]; rfl)
      | exact r_irE hP c30_99 h (by rw [show c = 102 from (nI_eq (by omega) (by decide)).mp h1_3]; rfl)
      | exact r_irE hP c30_99 h (by rw [show c = 103 from (nI_eq (by omega) (by decide)).mp h1_4]; rfl)
      | exact r_irE hP c30_99 h (by rw [show c = 104 from (nI_eq (by omega) (by decide)).mp h1_5]; rfl)
      | exact r_irE hP c30_99 h (by rw [show c = 105 from (nI_eq (by omega) (by decide)).mp h1_6]; rfl)
      | exact r_irE hP c30_99 h (by rw [show c = 106 from (nI_eq (by omega) (by decide)).mp h1_7]; rfl)
      | exact r_irE hP c30_99 h (by rw [show c = 107 from (nI_eq (by omega) (by decide)).mp h1_8]; rfl)
      | exact r_irE hP c30_99 h (by rw [show c = 108 from (nI_eq (by omega) (by decide)).mp h1_9]; rfl)
      | exact r_irE hP c30_99 h (by rw [show c = 109 from (nI_eq (by omega) (by decide)).mp h1_10]; rfl)
      | exact r_irE hP c30_99 h (by rw [show c = 110 from (nI_eq (by omega) (by decide)).mp h1_11]; rfl)
      | exact r_irE hP c30_99 h (by rw [show c = 111 from (nI_eq (by omega) (by decide)).mp h1_12]; rfl)
      | exact r_irE hP c30_99 h (by rw [show c = 112 from (nI_eq (by omega) (by decide)).mp h1_13]; rfl)
      | exact r_irE hP c30_99 h (by rw [show c = 113 from (nI_eq (by omega) (by decide)).mp h1_14]; rfl)
      | exact r_irE hP c30_99 h (by rw [show c = 114 from (nI_eq (by omega) (by decide)).mp h1_15]; rfl)
      | exact r_irE hP c30_99 h (by rw [show c = 115 from (nI_eq (by omega) (by decide)).mp h1_16]; rfl)
      | exact r_irE hP c30_99 h (by rw [show c = 116 from (nI_eq (by omega) (by decide)).mp h1_17]; rfl)
      | exact r_irE hP c30_99 h (by rw [show c = 117 from (nI_eq (by omega) (by decide)).mp h1_18]; rfl)
      | exact r_irE hP c30_99 h (by rw [show c = 118 from (nI_eq (by omega) (by decide)).mp h1_19]; rfl)
  refine zsw_c (fun h1_6 => ?_) (fun h1_6 => ?_)
  · refine r_ic hP c30_102 ?_
    first
      | exact r_irE hP c30_103 h (by rw [show c = 99 from (nI_eq (by omega) (by decide)).mp h1_0]; rfl)
      | exact r_irE hP c30_103 h (by rw [show c = 100 from (nI_eq (by omega) (by decide)).mp h1_1]; rfl)
      | exact r_irE hP c30_103 h (by rw [show c = 101 from (nI_eq (by omega) (by decide)).mp h1_2]; rfl)
      | exact r_irE hP c30_103 h (by rw [show c = 102 from (nI_eq (by omega) (by decide)).mp h1_3]; rfl)
      | exact r_irE hP c30_103 h (by rw [show c = 103 from (nI_eq (by omega) (by decide)).mp h1_4]; rfl)
      | exact r_irE hP c30_103 h (by rw [show c = 104 from (nI_eq (by omega) (by decide)).mp h1_5]; rfl)
      | exact r_irE hP c30_103 h (by rw [show c = 105 from (nI_eq (by omega) (by decide)).mp h1_6]; rfl)
      | exact r_irE hP c30_103 h (by rw [show c = 106 from (nI_eq (by omega) (by decide)).mp h1_7]; rfl)
      | exact r_irE hP c30_103 h (by rw [show c = 107 from (nI_eq (by omega) (by decide)).mp h1_8]; rfl)
      | exact r_irE hP c30_103 h (by rw [show c = 108 from (nI_eq (by omega) (by decide)).mp h1_9]; rfl)
      | exact r_irE hP c30_103 h (by rw [show c = 109 from (nI_eq (by omega) (by decide)).mp h1_10]; rfl)
      | exact r_irE hP c30_103 h (by rw [show c = 110 from (nI_eq (by omega) (by decide)).mp h1_11]; rfl)
      | exact r_irE hP c30_103 h (by rw [show c = 111 from (nI_eq (by omega) (by decide)).mp h1_12]; rfl)
      | exact r_irE hP c30_103 h (by rw [show c = 112 from (nI_eq (by omega) (by decide)).mp h1_13]; rfl)
      | exact r_irE hP c30_103 h (by rw [show c = 113 from (nI_eq (by omega) (by decide)).mp h1_14]; rfl)
      | exact r_irE hP c30_103 h (by rw [show c = 114 from (nI_eq (by omega) (by decide)).mp h1_15]; rfl)
      | exact r_irE hP c30_103 h (by rw [show c = 115 from (nI_eq (by omega) (by decide)).mp h1_16]; rfl)
      | exact r_irE hP c30_103 h (by rw [show c = 116 from (nI_eq (by omega) (by decide)).mp h1_17]; rfl)
      | exact r_irE hP c30_103 h (by rw [show c = 117 from (nI_eq (by omega) (by decide)).mp h1_18]; rfl)
      | exact r_irE hP c30_103 h (by rw [show c = 118 from (nI_eq (by omega) (by decide)).mp h1_19]; rfl)
      | exact r_irE hP c30_103 h (by
          rw [zmy, if_neg (fun q => ?_), if_neg (fun q => ?_), if_neg (fun q => ?_)]
          · rfl
          · subst q; exact h1_13 rfl
          · rcases q with rfl | rfl | rfl | rfl; exact h1_3 rfl; exact h1_5 rfl; exact h1_10 rfl; exact h1_19 rfl
          · rcases q with rfl | rfl | rfl | rfl; exact h1_0 rfl; exact h1_2 rfl; exact h1_8 rfl; exact h1_16 rfl)
  refine zsw_c (fun h1_7 => ?_) (fun h1_7 => ?_)
  · refine r_ic hP c30_102 ?_
    first
      | exact r_irE hP c30_103 h (by rw [show c = 99 from (nI_eq (by omega) (by decide)).mp h1_0]; rfl)
      | exact r_irE hP c30_103 h (by rw [show c = 100 from (nI_eq (by omega) (by decide)).mp h1_1]; rfl)
      | exact r_irE hP c30_103 h (by rw [show c = 101 from (nI_eq (by omega) (by decide)).mp h1_2]; rfl)
      | exact r_irE hP c30_103 h (by rw [show c = 102 from (nI_eq (by omega) (by decide)).mp h1_3]; rfl)
      | exact r_irE hP c30_103 h (by rw [show c = 103 from (nI_eq (by omega) (by decide)).mp h1_4]; rfl)
      | exact r_irE hP c30_103 h (by rw [show c = 104 from (nI_eq (by omega) (by decide)).mp h1_5]; rfl)
      | exact r_irE hP c30_103 h (by rw [show c = 105 from (nI_eq (by omega) (by decide)).mp h1_6]; rfl)
      | exact r_irE hP c30_103 h (by rw [show c = 106 from (nI_eq (by omega) (by decide)).mp h1_7]; rfl)
      | exact r_irE hP c30_103 h (by rw [show c = 107 from (nI_eq (by omega) (by decide)).mp h1_8]; rfl)
      | exact r_irE hP c30_103 h (by rw [show c = 108 from (nI_eq (by omega) (by decide)).mp h1_9]; rfl)
      | exact r_irE hP c30_103 h (by rw [show c = 109 from (nI_eq (by omega) (by decide)).mp h1_10]; rfl)
      | exact r_irE hP c30_103 h (by rw [show c = 110 from (nI_eq (by omega) (by decide)).mp h1_11]; rfl)
      | exact r_irE hP c30_103 h (by rw [show c = 111 from (nI_eq (by omega) (by decide)).mp h1_12]; rfl)
      | exact r_irE hP c30_103 h (by rw [show c = 112 from (nI_eq (by omega) (by decide)).mp h1_13]; rfl)
      | exact r_irE hP c30_103 h (by rw [show c = 113 from (nI_eq (by omega) (by decide)).mp h1_14]; rfl)
      | exact r_irE hP c30_103 h (by rw [show c = 114 from (nI_eq (by omega) (by decide)).mp h1_15]; rfl)
      | exact r_irE hP c30_103 h (by rw [show c = 115 from (nI_eq (by omega) (by decide)).mp h1_16]; rfl)
      | exact r_irE hP c30_103 h (by rw [show c = 116 from (nI_eq (by omega) (by decide)).mp h1_17]; rfl)
      | exact r_irE hP c30_103 h (by rw [show c = 117 from (nI_eq (by omega) (by decide)).mp h1_18]; rfl)
      | exact r_irE hP c30_103 h (by rw [show c = 118 from (nI_eq (by omega) (by decide)).mp h1_19]; rfl)
      | exact r_irE hP c30_103 h (by
          rw [zmy, if_neg (fun q => ?_), if_neg (fun q => ?_), if_neg (fun q => ?_)]
          · rfl
          · subst q; exact h1_13 rfl
          · rcases q with rfl | rfl | rfl | rfl; exact h1_3 rfl; exact h1_5 rfl; exact h1_10 rfl; exact h1_19 rfl
          · rcases q with rfl | rfl | rfl | rfl; exact h1_0 rfl; exact h1_2 rfl; exact h1_8 rfl; exact h1_16 rfl)
  refine zsw_c (fun h1_8 => ?_) (fun h1_8 => ?_)
  · refine r_ic hP c30_96 ?_
    first
      | exact r_irE hP c30_97 h (by rw [show c = 99 from (nI_eq (by omega) (by decide)).mp h1_0]; rfl)
      | exact r_irE hP c30_97 h (by rw [show c = 100 from (nI_eq (by omega) (by decide)).mp h1_1]; rfl)
      | exact r_irE hP c30_97 h (by rw [show c = 101 from (nI_eq (by omega) (by decide)).mp h1_2]; rfl)
      | exact r_irE hP c30_97 h (by rw [show c = 102 from (nI_eq (by omega) (by decide)).mp h1_3]; rfl)
      | exact r_irE hP c30_97 h (by rw [show c = 103 from (nI_eq (by omega) (by decide)).mp h1_4]; rfl)
      | exact r_irE hP c30_97 h (by rw [show c = 104 from (nI_eq (by omega) (by decide)).mp h1_5]; rfl)
      | exact r_irE hP c30_97 h (by rw [show c = 105 from (nI_eq (by omega) (by decide)).mp h1_6]; rfl)
      | exact r_irE hP c30_97 h (by rw [show c = 106 from (nI_eq (by omega) (by decide)).mp h1_7]; rfl)
      | exact r_irE hP c30_97 h (by rw [show c = 107 from (nI_eq (by omega) (by decide)).mp h1_8]; rfl)
      | exact r_irE hP c30_97 h (by rw [show c = 108 from (nI_eq (by omega) (by decide)).mp h1_9]; rfl)
      | exact r_irE hP c30_97 h (by rw [show c = 109 from (nI_eq (by omega) (by decide)).mp h1_10]; rfl)
      | exact r_irE hP c30_97 h (by rw [show c = 110 from (nI_eq (by omega) (by decide)).mp h1_11]; rfl)
      | exact r_irE hP c30_97 h (by rw [show c = 111 from (nI_eq (by omega) (by decide)).mp h1_12]; rfl)
      | exact r_irE hP c30_97 h (by rw [show c = 112 from (nI_eq (by omega) (by decide)).mp h1_13]; rfl)
      | exact r_irE hP c30_97 h (by rw [show c = 113 from (nI_eq (by omega) (by decide)).mp h1_14]; rfl)
      | exact r_irE hP c30_97 h (by rw [show c = 114 from (nI_eq (by omega) (by decide)).mp h1_15]; rfl)
      | exact r_irE hP c30_97 h (by rw [show c = 115 from (nI_eq (by omega) (by decide)).mp h1_16]; rfl)
      | exact r_irE hP c30_97 h (by rw [show c = 116 from (nI_eq (by omega) (by decide)).mp h1_17]; rfl)
      | exact r_irE hP c30_97 h (by rw [show c = 117 from (nI_eq (by omega) (by decide)).mp h1_18]; rfl)
      | exact r_irE hP c30_97 h (by rw [show c = 118 from (nI_eq (by omega) (by decide)).mp h1_19]; rfl)
  refine zsw_c (fun h1_9 => ?_) (fun h1_9 => ?_)
  · refine r_ic hP c30_102 ?_
    first
      | exact r_irE hP c30_103 h (by rw [show c = 99 from (nI_eq (by omega) (by decide)).mp h1_0]; rfl)
      | exact r_irE hP c30_103 h (by rw [show c = 100 from (nI_eq (by omega) (by decide)).mp h1_1]; rfl)
      | exact r_irE hP c30_103 h (by rw [show c = 101 from (nI_eq (by omega) (by decide)).mp h1_2]; rfl)
      | exact r_irE hP c30_103 h (by rw [show c = 102 from (nI_eq (by omega) (by decide)).mp h1_3]; rfl)
      | exact r_irE hP c30_103 h (by rw [show c = 103 from (nI_eq (by omega) (by decide)).mp h1_4]; rfl)
      | exact r_irE hP c30_103 h (by rw [show c = 104 from (nI_eq (by omega) (by decide)).mp h1_5]; rfl)
      | exact r_irE hP c30_103 h (by rw [show c = 105 from (nI_eq (by omega) (by decide)).mp h1_6]; rfl)
      | exact r_irE hP c30_103 h (by rw [show c = 106 from (nI_eq (by omega) (by decide)).mp h1_7]; rfl)
      | exact r_irE hP c30_103 h (by rw [show c = 107 from (nI_eq (by omega) (by decide)).mp h1_8]; rfl)
      | exact r_irE hP c30_103 h (by rw [show c = 108 from (nI_eq (by omega) (by decide)).mp h1_9]; rfl)
      | exact r_irE hP c30_103 h (by rw [show c = 109 from (nI_eq (by omega) (by decide)).mp h1_10]; rfl)
      | exact r_irE hP c30_103 h (by rw [show c = 110 from (nI_eq (by omega) (by decide)).mp h1_11]; rfl)
      | exact r_irE hP c30_103 h (by rw [show c = 111 from (nI_eq (by omega) (by decide)).mp h1_12]; rfl)
      | exact r_irE hP c30_103 h (by rw [show c = 112 from (nI_eq (by omega) (by decide)).mp h1_13]; rfl)
      | exact r_irE hP c30_103 h (by rw [show c = 113 from (nI_eq (by omega) (by decide)).mp h1_14]; rfl)
      | exact r_irE hP c30_103 h (by rw [show c = 114 from (nI_eq (by omega) (by decide)).mp h1_15]; rfl)
      | exact r_irE hP c30_103 h (by rw [show c = 115 from (nI_eq (by omega) (by decide)).mp h1_16]; rfl)
      | exact r_irE hP c30_103 h (by rw [show c = 116 from (nI_eq (by omega) (by decide)).mp h1_17]; rfl)
      | exact r_irE hP c30_103 h (by rw [show c = 117 from (nI_eq (by omega) (by decide)).mp h1_18]; rfl)
      | exact r_irE hP c30_103 h (by rw [show c = 118 from (nI_eq (by omega) (by decide)).mp h1_19]; rfl)
      | exact r_irE hP c30_103 h (by
          rw [zmy, if_neg (fun q => ?_), if_neg (fun q => ?_), if_neg (fun q => ?_)]
          · rfl
          · subst q; exact h1_13 rfl
          · rcases q with rfl | rfl | rfl | rfl; exact h1_3 rfl; exact h1_5 rfl; exact h1_10 rfl; exact h1_19 rfl
          · rcases q with rfl | rfl | rfl | rfl; exact h1_0 rfl; exact h1_2 rfl; exact h1_8 rfl; exact h1_16 rfl)
  refine zsw_c (fun h1_10 => ?_) (fun h1_10 => ?_)
  · refine r_ic hP c30_98 ?_
    first
      | exact r_irE hP c30_99 h (by rw [show c = 99 from (nI_eq (by omega) (by decide)).mp h1_0]; rfl)
      | exact r_irE hP c30_99 h (by rw [show c = 100 from (nI_eq (by omega) (by decide)).mp h1_1]; rfl)
      | exact r_irE hP c30_99 h (by rw [show c = 101 from (nI_eq (by omega) (by decide)).mp h1_2]; rfl)
      | exact r_irE hP c30_99 h (by rw [show c = 102 from (nI_eq (by omega) (by decide)).mp h1_3]; rfl)
      | exact r_irE hP c30_99 h (by rw [show c = 103 from (nI_eq (by omega) (by decide)).mp h1_4]; rfl)
      | exact r_irE hP c30_99 h (by rw [show c = 104 from (nI_eq (by omega) (by decide)).mp h1_5]; rfl)
      | exact r_irE hP c30_99 h (by rw [show c = 105 from (nI_eq (by omega) (by decide)).mp h1_6]; rfl)
      | exact r_irE hP c30_99 h (by rw [show c = 106 from (nI_eq (by omega) (by decide)).mp h1_7]; rfl)
      | exact r_irE hP c30_99 h (by rw [show c = 107 from (nI_eq (by omega) (by decide)).mp h1_8]; rfl)
      | exact r_irE hP c30_99 h (by rw [show c = 108 from (nI_eq (by omega) (by decide)).mp h1_9]; rfl)
      | exact r_irE hP c30_99 h (by rw [show c = 109 from (nI_eq (by omega) (by decide)).mp h1_10]; rfl)
      | exact r_irE hP c30_99 h (by rw [show c = 110 from (nI_eq (by omega) (by decide)).mp h1_11]; rfl)
      | exact r_irE hP c30_99 h (by rw [show c = 111 from (nI_eq (by omega) (by decide)).mp h1_12]; rfl)
      | exact r_irE hP c30_99 h (by rw [show c = 112 from (nI_eq (by omega) (by decide)).mp h1_13]; rfl)
      | exact r_irE hP c30_99 h (by rw [show c = 113 from (nI_eq (by omega) (by decide)).mp h1_14]; rfl)
      | exact r_irE hP c30_99 h (by rw [show c = 114 from (nI_eq (by omega) (by decide)).mp h1_15]; rfl)
      | exact r_irE hP c30_99 h (by rw [show c = 115 from (nI_eq (by omega) (by decide)).mp h1_16]; rfl)
      | exact r_irE hP c30_99 h (by rw [show c = 116 from (nI_eq (by omega) (by decide)).mp h1_17]; rfl)
      | exact r_irE hP c30_99 h (by rw [show c = 117 from (nI_eq (by omega) (by decide)).mp h1_18]; rfl)
      | exact r_irE hP c30_99 h (by rw [show c = 118 from (nI_eq (by omega) (by decide)).mp h1_19]; rfl)
  refine zsw_c (fun h1_11 => ?_) (fun h1_11 => ?_)
  · refine r_ic hP c30_102 ?_
    first
      | exact r_irE hP c30_103 h (by rw [show c = 99 from (nI_eq (by omega) (by decide)).mp h1_0]; rfl)
      | exact r_irE hP c30_103 h (by rw [show c = 100 from (nI_eq (by omega) (by decide)).mp h1_1]; rfl)
      | exact r_irE hP c30_103 h (by rw [show c = 101 from (nI_eq (by omega) (by decide)).mp h1_2]; rfl)
      | exact r_irE hP c30_103 h (by rw [show c = 102 from (nI_eq (by omega) (by decide)).mp h1_3]; rfl)
      | exact r_irE hP c30_103 h (by rw [show c = 103 from (nI_eq (by omega) (by decide)).mp h1_4]; rfl)
      | exact r_irE hP c30_103 h (by rw [show c = 104 from (nI_eq (by omega) (by decide)).mp h1_5]; rfl)
      | exact r_irE hP c30_103 h (by rw [show c = 105 from (nI_eq (by omega) (by decide)).mp h1_6]; rfl)
      | exact r_irE hP c30_103 h (by rw [show c = 106 from (nI_eq (by omega) (by decide)).mp h1_7]; rfl)
      | exact r_irE hP c30_103 h (by rw [show c = 107 from (nI_eq (by omega) (by decide)).mp h1_8]; rfl)
      | exact r_irE hP c30_103 h (by rw [show c = 108 from (nI_eq (by omega) (by decide)).mp h1_9]; rfl)
      | exact r_irE hP c30_103 h (by rw [show c = 109 from (nI_eq (by omega) (by decide)).mp h1_10]; rfl)
      | exact r_irE hP c30_103 h (by rw [show c = 110 from (nI_eq (by omega) (by decide)).mp h1_11]; rfl)
      | exact r_irE hP c30_103 h (by rw [show c = 111 from (nI_eq (by omega) (by decide)).mp h1_12]; rfl)
      | exact r_irE hP c30_103 h (by rw [show c = 112 from (nI_eq (by omega) (by decide)).mp h1_13]; rfl)
      | exact r_irE hP c30_103 h (by rw [show c = 113 from (nI_eq (by omega) (by decide)).mp h1_14]; rfl)
      | exact r_irE hP c30_103 h (by rw [show c = 114 from (nI_eq (by omega) (by decide)).mp h1_15]; rfl)
      | exact r_irE hP c30_103 h (by rw [show c = 115 from (nI_eq (by omega) (by decide)).mp h1_16]; rfl)
      | exact r_irE hP c30_103 h (by rw [show c = 116 from (nI_eq (by omega) (by decide)).mp h1_17]; rfl)
      | exact r_irE hP c30_103 h (by rw [show c = 117 from (nI_eq (by omega) (by decide)).mp h1_18]; rfl)
      | exact r_irE hP c30_103 h (by rw [show c = 118 from (nI_eq (by omega) (by decide)).mp h1_19]; rfl)
      | exact r_irE hP c30_103 h (by
          rw [zmy, if_neg (fun q => ?_), if_neg (fun q => ?_), if_neg (fun q => ?_)]
          · rfl
          · subst q; exact h1_13 rfl
          · rcases q with rfl | rfl | rfl | rfl; exact h1_3 rfl; exact h1_5 rfl; exact h1_10 rfl; exact h1_19 rfl
          · rcases q with rfl | rfl | rfl | rfl; exact h1_0 rfl; exact h1_2 rfl; exact h1_8 rfl; exact h1_16 rfl)
  refine zsw_c (fun h1_12 => ?_) (fun h1_12 => ?_)
  · refine r_ic hP c30_102 ?_
    first
      | exact r_irE hP c30_103 h (by rw [show c = 99 from (nI_eq (by omega) (by decide)).mp h1_0]; rfl)
      | exact r_irE hP c30_103 h (by rw [show c = 100 from (nI_eq (by omega) (by decide)).mp h1_1]; rfl)
      | exact r_irE hP c30_103 h (by rw [show c = 101 from (nI_eq (by omega) (by decide)).mp h1_2]; rfl)
      | exact r_irE hP c30_103 h (by rw [show c = 102 from (nI_eq (by omega) (by decide)).mp h1_3]; rfl)
      | exact r_irE hP c30_103 h (by rw [show c = 103 from (nI_eq (by omega) (by decide)).mp h1_4]; rfl)
      | exact r_irE hP c30_103 h (by rw [show c = 104 from (nI_eq (by omega) (by decide)).mp h1_5]; rfl)
      | exact r_irE hP c30_103 h (by rw [show c = 105 from (nI_eq (by omega) (by decide)).mp h1_6]; rfl)
      | exact r_irE hP c30_103 h (by rw [show c = 106 from (nI_eq (by omega) (by decide)).mp h1_7]; rfl)
      | exact r_irE hP c30_103 h (by rw [show c = 107 from (nI_eq (by omega) (by decide)).mp h1_8]; rfl)
      | exact r_irE hP c30_103 h (by rw [show c = 108 from (nI_eq (by omega) (by decide)).mp h1_9]; rfl)
      | exact r_irE hP c30_103 h (by rw [show c = 109 from (nI_eq (by omega) (by decide)).mp h1_10]; rfl)
      | exact r_irE hP c30_103 h (by rw [show c = 110 from (nI_eq (by omega) (by decide)).mp h1_11]; rfl)
      | exact r_irE hP c30_103 h (by rw [show c = 111 from (nI_eq (by omega) (by decide)).mp h1_12]; rfl)
      | exact r_irE hP c30_103 h (by rw [show c = 112 from (nI_eq (by omega) (by decide)).mp h1_13]; rfl)
      | exact r_irE hP c30_103 h (by rw [show c = 113 from (nI_eq (by omega) (by decide)).mp h1_14]; rfl)
      | exact r_irE hP c30_103 h (by rw [show c = 114 from (nI_eq (by omega) (by decide)).mp h1_15]; rfl)
      | exact r_irE hP c30_103 h (by rw [show c = 115 from (nI_eq (by omega) (by decide)).mp h1_16]; rfl)
      | exact r_irE hP c30_103 h (by rw [show c = 116 from (nI_eq (by omega) (by decide)).mp h1_17]; rfl)
      | exact r_irE hP c30_103 h (by rw [show c = 117 from (nI_eq (by omega) (by decide)).mp h1_18]; rfl)
      | exact r_irE hP c30_103 h (by rw [show c = 118 from (nI_eq (by omega) (by decide)).mp h1_19]; rfl)
      | exact r_irE hP c30_103 h (by
          rw [zmy, if_neg (fun q => ?_), if_neg (fun q => ?_), if_neg (fun q => ?_)]
          · rfl
          · subst q; exact h1_13 rfl
          · rcases q with rfl | rfl | rfl | rfl; exact h1_3 rfl; exact h1_5 rfl; exact h1_10 rfl; exact h1_19 rfl
          · rcases q with rfl | rfl | rfl | rfl; exact h1_0 rfl; exact h1_2 rfl; exact h1_8 rfl; exact h1_16 rfl)
  refine zsw_c (fun h1_13 => ?_) (fun h1_13 => ?_)
  · refine r_ic hP c30_100 ?_
    first
      | exact r_irE hP c30_101 h (by rw [show c = 99 from (nI_eq (by omega) (by decide)).mp h1_0]; rfl)
      | exact r_irE hP c30_101 h (by rw [show c = 100 from (nI_eq (by omega) (by decide)).mp h1_1]; rfl)
      | exact r_irE hP c30_101 h (by rw [show c = 101 from (nI_eq (by omega) (by decide)).mp h1_2]; rfl)
      | exact r_irE hP c30_101 h (by rw [show c = 102 from (nI_eq (by omega) (by decide)).mp h1_3]; rfl)
      | exact r_irE hP c30_101 h (by rw [show c = 103 from (nI_eq (by omega) (by decide)).mp h1_4]; rfl)
      | exact r_irE hP c30_101 h (by rw [show c = 104 from (nI_eq (by omega) (by decide)).mp h1_5]; rfl)
      | exact r_irE hP c30_101 h (by rw [show c = 105 from (nI_eq (by omega) (by decide)).mp h1_6]; rfl)
      | exact r_irE hP c30_101 h (by rw [show c = 106 from (nI_eq (by omega) (by decide)).mp h1_7]; rfl)
      | exact r_irE hP c30_101 h (by rw [show c = 107 from (nI_eq (by omega) (by decide)).mp h1_8]; rfl)
      | exact r_irE hP c30_101 h (by rw [show c = 108 from (nI_eq (by omega) (by decide)).mp h1_9]; rfl)
      | exact r_irE hP c30_101 h (by rw [show c = 109 from (nI_eq (by omega) (by decide)).mp h1_10]; rfl)
      | exact r_irE hP c30_101 h (by rw [show c = 110 from (nI_eq (by omega) (by decide)).mp h1_11]; rfl)
      | exact r_irE hP c30_101 h (by rw [show c = 111 from (nI_eq (by omega) (by decide)).mp h1_12]; rfl)
      | exact r_irE hP c30_101 h (by rw [show c = 112 from (nI_eq (by omega) (by decide)).mp h1_13]; rfl)
      | exact r_irE hP c30_101 h (by rw [show c = 113 from (nI_eq (by omega) (by decide)).mp h1_14]; rfl)
      | exact r_irE hP c30_101 h (by rw [show c = 114 from (nI_eq (by omega) (by decide)).mp h1_15]; rfl)
      | exact r_irE hP c30_101 h (by rw [show c = 115 from (nI_eq (by omega) (by decide)).mp h1_16]; rfl)
      | exact r_irE hP c30_101 h (by rw [show c = 116 from (nI_eq (by omega) (by decide)).mp h1_17]; rfl)
      | exact r_irE hP c30_101 h (by rw [show c = 117 from (nI_eq (by omega) (by decide)).mp h1_18]; rfl)
      | exact r_irE hP c30_101 h (by rw [show c = 118 from (nI_eq (by omega) (by decide)).mp h1_19]; rfl)
  refine zsw_c (fun h1_14 => ?_) (fun h1_14 => ?_)
  · refine r_ic hP c30_102 ?_
    first
      | exact r_irE hP c30_103 h (by rw [show c = 99 from (nI_eq (by omega) (by decide)).mp h1_0]; rfl)
      | exact r_irE hP c30_103 h (by rw [show c = 100 from (nI_eq (by omega) (by decide)).mp h1_1]; rfl)
      | exact r_irE hP c30_103 h (by rw [show c = 101 from (nI_eq (by omega) (by decide)).mp h1_2]; rfl)
      | exact r_irE hP c30_103 h (by rw [show c = 102 from (nI_eq (by omega) (by decide)).mp h1_3]; rfl)
      | exact r_irE hP c30_103 h (by rw [show c = 103 from (nI_eq (by omega) (by decide)).mp h1_4]; rfl)
      | exact r_irE hP c30_103 h (by rw [show c = 104 from (nI_eq (by omega) (by decide)).mp h1_5]; rfl)
      | exact r_irE hP c30_103 h (by rw [show c = 105 from (nI_eq (by omega) (by decide)).mp h1_6]; rfl)
      | exact r_irE hP c30_103 h (by rw [show c = 106 from (nI_eq (by omega) (by decide)).mp h1_7]; rfl)
      | exact r_irE hP c30_103 h (by rw [show c = 107 from (nI_eq (by omega) (by decide)).mp h1_8]; rfl)
      | exact r_irE hP c30_103 h (by rw [show c = 108 from (nI_eq (by omega) (by decide)).mp h1_9]; rfl)
      | exact r_irE hP c30_103 h (by rw [show c = 109 from (nI_eq (by omega) (by decide)).mp h1_10]; rfl)
      | exact r_irE hP c30_103 h (by rw [show c = 110 from (nI_eq (by omega) (by decide)).mp h1_11]; rfl)
      | exact r_irE hP c30_103 h (by rw [show c = 111 from (nI_eq (by omega) (by decide)).mp h1_12]; rfl)
      | exact r_irE hP c30_103 h (by rw [show c = 112 from (nI_eq (by omega) (by decide)).mp h1_13]; rfl)
      | exact r_irE hP c30_103 h (by rw [show c = 113 from (nI_eq (by omega) (by decide)).mp h1_14]; rfl)
      | exact r_irE hP c30_103 h (by rw [show c = 114 from (nI_eq (by omega) (by decide)).mp h1_15]; rfl)
      | exact r_irE hP c30_103 h (by rw [show c = 115 from (nI_eq (by omega) (by decide)).mp h1_16]; rfl)
      | exact r_irE hP c30_103 h (by rw [show c = 116 from (nI_eq (by omega) (by decide)).mp h1_17]; rfl)
      | exact r_irE hP c30_103 h (by rw [show c = 117 from (nI_eq (by omega) (by decide)).mp h1_18]; rfl)
      | exact r_irE hP c30_103 h (by rw [show c = 118 from (nI_eq (by omega) (by decide)).mp h1_19]; rfl)
      | exact r_irE hP c30_103 h (by
          rw [zmy, if_neg (fun q => ?_), if_neg (fun q => ?_), if_neg (fun q => ?_)]
          · rfl
          · subst q; exact h1_13 rfl
          · rcases q with rfl | rfl | rfl | rfl; exact h1_3 rfl; exact h1_5 rfl; exact h1_10 rfl; exact h1_19 rfl
          · rcases q with rfl | rfl | rfl | rfl; exact h1_0 rfl; exact h1_2 rfl; exact h1_8 rfl; exact h1_16 rfl)
  refine zsw_c (fun h1_15 => ?_) (fun h1_15 => ?_)
  · refine r_ic hP c30_102 ?_
    first
      | exact r_irE hP c30_103 h (by rw [show c = 99 from (nI_eq (by omega) (by decide)).mp h1_0]; rfl)
      | exact r_irE hP c30_103 h (by rw [show c = 100 from (nI_eq (by omega) (by decide)).mp h1_1]; rfl)
      | exact r_irE hP c30_103 h (by rw [show c = 101 from (nI_eq (by omega) (by decide)).mp h1_2]; rfl)
      | exact r_irE hP c30_103 h (by rw [show c = 102 from (nI_eq (by omega) (by decide)).mp h1_3]; rfl)
      | exact r_irE hP c30_103 h (by rw [show c = 103 from (nI_eq (by omega) (by decide)).mp h1_4]; rfl)
      | exact r_irE hP c30_103 h (by rw [show c = 104 from (nI_eq (by omega) (by decide)).mp h1_5]; rfl)
      | exact r_irE hP c30_103 h (by rw [show c = 105 from (nI_eq (by omega) (by decide)).mp h1_6]; rfl)
      | exact r_irE hP c30_103 h (by rw [show c = 106 from (nI_eq (by omega) (by decide)).mp h1_7]; rfl)
      | exact r_irE hP c30_103 h (by rw [show c = 107 from (nI_eq (by omega) (by decide)).mp h1_8]; rfl)
      | exact r_irE hP c30_103 h (by rw [show c = 108 from (nI_eq (by omega) (by decide)).mp h1_9]; rfl)
      | exact r_irE hP c30_103 h (by rw [show c = 109 from (nI_eq (by omega) (by decide)).mp h1_10]; rfl)
      | exact r_irE hP c30_103 h (by rw [show c = 110 from (nI_eq (by omega) (by decide)).mp h1_11]; rfl)
      | exact r_irE hP c30_103 h (by rw [show c = 111 from (nI_eq (by omega) (by decide)).mp h1_12]; rfl)
      | exact r_irE hP c30_103 h (by rw [show c = 112 from (nI_eq (by omega) (by decide)).mp h1_13]; rfl)
      | exact r_irE hP c30_103 h (by rw [show c = 113 from (nI_eq (by omega) (by decide)).mp h1_14]; rfl)
      | exact r_irE hP c30_103 h (by rw [show c = 114 from (nI_eq (by omega) (by decide)).mp h1_15]; rfl)
      | exact r_irE hP c30_103 h (by rw [show c = 115 from (nI_eq (by omega) (by decide)).mp h1_16]; rfl)
      | exact r_irE hP c30_103 h (by rw [show c = 116 from (nI_eq (by omega) (by decide)).mp h1_17]; rfl)
      | exact r_irE hP c30_103 h (by rw [show c = 117 from (nI_eq (by omega) (by decide)).mp h1_18]; rfl)
      | exact r_irE hP c30_103 h (by rw [show c = 118 from (nI_eq (by omega) (by decide)).mp h1_19]; rfl)
      | exact r_irE hP c30_103 h (by
          rw [zmy, if_neg (fun q => ?_), if_neg (fun q => ?_), if_neg (fun q => ?_)]
          · rfl
          · subst q; exact h1_13 rfl
          · rcases q with rfl | rfl | rfl | rfl; exact h1_3 rfl; exact h1_5 rfl; exact h1_10 rfl; exact h1_19 rfl
          · rcases q with rfl | rfl | rfl | rfl; exact h1_0 rfl; exact h1_2 rfl; exact h1_8 rfl; exact h1_16 rfl)
  refine zsw_c (fun h1_16 => ?_) (fun h1_16 => ?_)
  · refine r_ic hP c30_96 ?_
    first
      | exact r_irE hP c30_97 h (by rw [show c = 99 from (nI_eq (by omega) (by decide)).mp h1_0]; rfl)
      | exact r_irE hP c30_97 h (by rw [show c = 100 from (nI_eq (by omega) (by decide)).mp h1_1]; rfl)
      | exact r_irE hP c30_97 h (by rw [show c = 101 from (nI_eq (by omega) (by decide)).mp h1_2]; rfl)
      | exact r_irE hP c30_97 h (by rw [show c = 102 from (nI_eq (by omega) (by decide)).mp h1_3]; rfl)
      | exact r_irE hP c30_97 h (by rw [show c = 103 from (nI_eq (by omega) (by decide)).mp h1_4]; rfl)
      | exact r_irE hP c30_97 h (by rw [show c = 104 from (nI_eq (by omega) (by decide)).mp h1_5]; rfl)
      | exact r_irE hP c30_97 h (by rw [show c = 105 from (nI_eq (by omega) (by decide)).mp h1_6]; rfl)
      | exact r_irE hP c30_97 h (by rw [show c = 106 from (nI_eq (by omega) (by decide)).mp h1_7]; rfl)
      | exact r_irE hP c30_97 h (by rw [show c = 107 from (nI_eq (by omega) (by decide)).mp h1_8]; rfl)
      | exact r_irE hP c30_97 h (by rw [show c = 108 from (nI_eq (by omega) (by decide)).mp h1_9]; rfl)
      | exact r_irE hP c30_97 h (by rw [show c = 109 from (nI_eq (by omega) (by decide)).mp h1_10]; rfl)
      | exact r_irE hP c30_97 h (by rw [show c = 110 from (nI_eq (by omega) (by decide)).mp h1_11]; rfl)
      | exact r_irE hP c30_97 h (by rw [show c = 111 from (nI_eq (by omega) (by decide)).mp h1_12]; rfl)
      | exact r_irE hP c30_97 h (by rw [show c = 112 from (nI_eq (by omega) (by decide)).mp h1_13]; rfl)
      | exact r_irE hP c30_97 h (by rw [show c = 113 from (nI_eq (by omega) (by decide)).mp h1_14]; rfl)
      | exact r_irE hP c30_97 h (by rw [show c = 114 from (nI_eq (by omega) (by decide)).mp h1_15]; rfl)
      | exact r_irE hP c30_97 h (by rw [show c = 115 from (nI_eq (by omega) (by decide)).mp h1_16]; rfl)
      | exact r_irE hP c30_97 h (by rw [show c = 116 from (nI_eq (by omega) (by decide)).mp h1_17]; rfl)
      | exact r_irE hP c30_97 h (by rw [show c = 117 from (nI_eq (by omega) (by decide)).mp h1_18]; rfl)
      | exact r_irE hP c30_97 h (by rw [show c = 118 from (nI_eq (by omega) (by decide)).mp h1_19]; rfl)
  refine zsw_c (fun h1_17 => ?_) (fun h1_17 => ?_)
  · refine r_ic hP c30_102 ?_
    first
      | exact r_irE hP c30_103 h (by rw [show c = 99 from (nI_eq (by omega) (by decide)).mp h1_0]; rfl)
      | exact r_irE hP c30_103 h (by rw [show c = 100 from (nI_eq (by omega) (by decide)).mp h1_1]; rfl)
      | exact r_irE hP c30_103 h (by rw [show c = 101 from (nI_eq (by omega) (by decide)).mp h1_2]; rfl)
      | exact r_irE hP c30_103 h (by rw [show c = 102 from (nI_eq (by omega) (by decide)).mp h1_3]; rfl)
      | exact r_irE hP c30_103 h (by rw [show c = 103 from (nI_eq (by omega) (by decide)).mp h1_4]; rfl)
      | exact r_irE hP c30_103 h (by rw [show c = 104 from (nI_eq (by omega) (by decide)).mp h1_5]; rfl)
      | exact r_irE hP c30_103 h (by rw [show c = 105 from (nI_eq (by omega) (by decide)).mp h1_6]; rfl)
      | exact r_irE hP c30_103 h (by rw [show c = 106 from (nI_eq (by omega) (by decide)).mp h1_7]; rfl)
      | exact r_irE hP c30_103 h (by rw [show c = 107 from (nI_eq (by omega) (by decide)).mp h1_8]; rfl)
      | exact r_irE hP c30_103 h (by rw [show c = 108 from (nI_eq (by omega) (by decide)).mp h1_9]; rfl)
      | exact r_irE hP c30_103 h (by rw [show c = 109 from (nI_eq (by omega) (by decide)).mp h1_10]; rfl)
      | exact r_irE hP c30_103 h (by rw [show c = 110 from (nI_eq (by omega) (by decide)).mp h1_11]; rfl)
      | exact r_irE hP c30_103 h (by rw [show c = 111 from (nI_eq (by omega) (by decide)).mp h1_12]; rfl)
      | exact r_irE hP c30_103 h (by rw [show c = 112 from (nI_eq (by omega) (by decide)).mp h1_13]; rfl)
      | exact r_irE hP c30_103 h (by rw [show c = 113 from (nI_eq (by omega) (by decide)).mp h1_14]; rfl)
      | exact r_irE hP c30_103 h (by rw [show c = 114 from (nI_eq (by omega) (by decide)).mp h1_15]; rfl)
      | exact r_irE hP c30_103 h (by rw [show c = 115 from (nI_eq (by omega) (by decide)).mp h1_16]; rfl)
      | exact r_irE hP c30_103 h (by rw [show c = 116 from (nI_eq (by omega) (by decide)).mp h1_17]; rfl)
      | exact r_irE hP c30_103 h (by rw [show c = 117 from (nI_eq (by omega) (by decide)).mp h1_18]; rfl)
      | exact r_irE hP c30_103 h (by rw [show c = 118 from (nI_eq (by omega) (by decide)).mp h1_19]; rfl)
      | exact r_irE hP c30_103 h (by
          rw [zmy, if_neg (fun q => ?_), if_neg (fun q => ?_), if_neg (fun q => ?_)]
          · rfl
          · subst q; exact h1_13 rfl
          · rcases q with rfl | rfl | rfl | rfl; exact h1_3 rfl; exact h1_5 rfl; exact h1_10 rfl; exact h1_19 rfl
          · rcases q with rfl | rfl | rfl | rfl; exact h1_0 rfl; exact h1_2 rfl; exact h1_8 rfl; exact h1_16 rfl)
  refine zsw_c (fun h1_18 => ?_) (fun h1_18 => ?_)
  · refine r_ic hP c30_102 ?_
    first
      | exact r_irE hP c30_103 h (by rw [show c = 99 from (nI_eq (by omega) (by decide)).mp h1_0]; rfl)
      | exact r_irE hP c30_103 h (by rw [show c = 100 from (nI_eq (by omega) (by decide)).mp h1_1]; rfl)
      | exact r_irE hP c30_103 h (by rw [show c = 101 from (nI_eq (by omega) (by decide)).mp h1_2]; rfl)
      | exact r_irE hP c30_103 h (by rw [show c = 102 from (nI_eq (by omega) (by decide)).mp h1_3]; rfl)
      | exact r_irE hP c30_103 h (by rw [show c = 103 from (nI_eq (by omega) (by decide)).mp h1_4]; rfl)
      | exact r_irE hP c30_103 h (by rw [show c = 104 from (nI_eq (by omega) (by decide)).mp h1_5]; rfl)
      | exact r_irE hP c30_103 h (by rw [show c = 105 from (nI_eq (by omega) (by decide)).mp h1_6]; rfl)
      | exact r_irE hP c30_103 h (by rw [show c = 106 from (nI_eq (by omega) (by decide)).mp h1_7]; rfl)
      | exact r_irE hP c30_103 h (by rw [show c = 107 from (nI_eq (by omega) (by decide)).mp h1_8]; rfl)
      | exact r_irE hP c30_103 h (by rw [show c = 108 from (nI_eq (by omega) (by decide)).mp h1_9]; rfl)
      | exact r_irE hP c30_103 h (by rw [show c = 109 from (nI_eq (by omega) (by decide)).mp h1_10]; rfl)
      | exact r_irE hP c30_103 h (by rw [show c = 110 from (nI_eq (by omega) (by decide)).mp h1_11]; rfl)
      | exact r_irE hP c30_103 h (by rw [show c = 111 from (nI_eq (by omega) (by decide)).mp h1_12]; rfl)
      | exact r_irE hP c30_103 h (by rw [show c = 112 from (nI_eq (by omega) (by decide)).mp h1_13]; rfl)
      | exact r_irE hP c30_103 h (by rw [show c = 113 from (nI_eq (by omega) (by decide)).mp h1_14]; rfl)
      | exact r_irE hP c30_103 h (by rw [show c = 114 from (nI_eq (by omega) (by decide)).mp h1_15]; rfl)
      | exact r_irE hP c30_103 h (by rw [show c = 115 from (nI_eq (by omega) (by decide)).mp h1_16]; rfl)
      | exact r_irE hP c30_103 h (by rw [show c = 116 from (nI_eq (by omega) (by decide)).mp h1_17]; rfl)
      | exact r_irE hP c30_103 h (by rw [show c = 117 from (nI_eq (by omega) (by decide)).mp h1_18]; rfl)
      | exact r_irE hP c30_103 h (by rw [show c = 118 from (nI_eq (by omega) (by decide)).mp h1_19]; rfl)
      | exact r_irE hP c30_103 h (by
          rw [zmy, if_neg (fun q => ?_), if_neg (fun q => ?_), if_neg (fun q => ?_)]
          · rfl
          · subst q; exact h1_13 rfl
          · rcases q with rfl | rfl | rfl | rfl; exact h1_3 rfl; exact h1_5 rfl; exact h1_10 rfl; exact h1_19 rfl
          · rcases q with rfl | rfl | rfl | rfl; exact h1_0 rfl; exact h1_2 rfl; exact h1_8 rfl; exact h1_16 rfl)
  refine zsw_c (fun h1_19 => ?_) (fun h1_19 => ?_)
  · refine r_ic hP c30_98 ?_
    first
      | exact r_irE hP c30_99 h (by rw [show c = 99 from (nI_eq (by omega) (by decide)).mp h1_0]; rfl)
      | exact r_irE hP c30_99 h (by rw [show c = 100 from (nI_eq (by omega) (by decide)).mp h1_1]; rfl)
      | exact r_irE hP c30_99 h (by rw [show c = 101 from (nI_eq (by omega) (by decide)).mp h1_2]; rfl)
      | exact r_irE hP c30_99 h (by rw [show c = 102 from (nI_eq (by omega) (by decide)).mp h1_3]; rfl)
      | exact r_irE hP c30_99 h (by rw [show c = 103 from (nI_eq (by omega) (by decide)).mp h1_4]; rfl)
      | exact r_irE hP c30_99 h (by rw [show c = 104 from (nI_eq (by omega) (by decide)).mp h1_5]; rfl)
      | exact r_irE hP c30_99 h (by rw [show c = 105 from (nI_eq (by omega) (by decide)).mp h1_6]; rfl)
      | exact r_irE hP c30_99 h (by rw [show c = 106 from (nI_eq (by omega) (by decide)).mp h1_7]; rfl)
      | exact r_irE hP c30_99 h (by rw [show c = 107 from (nI_eq (by omega) (by decide)).mp h1_8]; rfl)
      | exact r_irE hP c30_99 h (by rw [show c = 108 from (nI_eq (by omega) (by decide)).mp h1_9]; rfl)
      | exact r_irE hP c30_99 h (by rw [show c = 109 from (nI_eq (by omega) (by decide)).mp h1_10]; rfl)
      | exact r_irE hP c30_99 h (by rw [show c = 110 from (nI_eq (by omega) (by decide)).mp h1_11]; rfl)
      | exact r_irE hP c30_99 h (by rw [show c = 111 from (nI_eq (by omega) (by decide)).mp h1_12]; rfl)
      | exact r_irE hP c30_99 h (by rw [show c = 112 from (nI_eq (by omega) (by decide)).mp h1_13]; rfl)
      | exact r_irE hP c30_99 h (by rw [show c = 113 from (nI_eq (by omega) (by decide)).mp h1_14]; rfl)
      | exact r_irE hP c30_99 h (by rw [show c = 114 from (nI_eq (by omega) (by decide)).mp h1_15]; rfl)
      | exact r_irE hP c30_99 h (by rw [show c = 115 from (nI_eq (by omega) (by decide)).mp h1_16]; rfl)
      | exact r_irE hP c30_99 h (by rw [show c = 116 from (nI_eq (by omega) (by decide)).mp h1_17]; rfl)
      | exact r_irE hP c30_99 h (by rw [show c = 117 from (nI_eq (by omega) (by decide)).mp h1_18]; rfl)
      | exact r_irE hP c30_99 h (by rw [show c = 118 from (nI_eq (by omega) (by decide)).mp h1_19]; rfl)
  refine zsw_n ?_
  refine r_ic hP c30_102 ?_
  first
    | exact r_irE hP c30_103 h (by rw [show c = 99 from (nI_eq (by omega) (by decide)).mp h1_0]; rfl)
    | exact r_irE hP c30_103 h (by rw [show c = 100 from (nI_eq (by omega) (by decide)).mp h1_1]; rfl)
    | exact r_irE hP c30_103 h (by rw [show c = 101 from (nI_eq (by omega) (by decide)).mp h1_2]; rfl)
    | exact r_irE hP c30_103 h (by rw [show c = 102 from (nI_eq (by omega) (by decide)).mp h1_3]; rfl)
    | exact r_irE hP c30_103 h (by rw [show c = 103 from (nI_eq (by omega) (by decide)).mp h1_4]; rfl)
    | exact r_irE hP c30_103 h (by rw [show c = 104 from (nI_eq (by omega) (by decide)).mp h1_5]; rfl)
    | exact r_irE hP c30_103 h (by rw [show c = 105 from (nI_eq (by omega) (by decide)).mp h1_6]; rfl)
    | exact r_irE hP c30_103 h (by rw [show c = 106 from (nI_eq (by omega) (by decide)).mp h1_7]; rfl)
    | exact r_irE hP c30_103 h (by rw [show c = 107 from (nI_eq (by omega) (by decide)).mp h1_8]; rfl)
    | exact r_irE hP c30_103 h (by rw [show c = 108 from (nI_eq (by omega) (by decide)).mp h1_9]; rfl)
    | exact r_irE hP c30_103 h (by rw [show c = 109 from (nI_eq (by omega) (by decide)).mp h1_10]; rfl)
    | exact r_irE hP c30_103 h (by rw [show c = 110 from (nI_eq (by omega) (by decide)).mp h1_11]; rfl)
    | exact r_irE hP c30_103 h (by rw [show c = 111 from (nI_eq (by omega) (by decide)).mp h1_12]; rfl)
    | exact r_irE hP c30_103 h (by rw [show c = 112 from (nI_eq (by omega) (by decide)).mp h1_13]; rfl)
    | exact r_irE hP c30_103 h (by rw [show c = 113 from (nI_eq (by omega) (by decide)).mp h1_14]; rfl)
    | exact r_irE hP c30_103 h (by rw [show c = 114 from (nI_eq (by omega) (by decide)).mp h1_15]; rfl)
    | exact r_irE hP c30_103 h (by rw [show c = 115 from (nI_eq (by omega) (by decide)).mp h1_16]; rfl)
    | exact r_irE hP c30_103 h (by rw [show c = 116 from (nI_eq (by omega) (by decide)).mp h1_17]; rfl)
    | exact r_irE hP c30_103 h (by rw [show c = 117 from (nI_eq (by omega) (by decide)).mp h1_18]; rfl)
    | exact r_irE hP c30_103 h (by rw [show c = 118 from (nI_eq (by omega) (by decide)).mp h1_19]; rfl)
    | exact r_irE hP c30_103 h (by
        rw [zmy, if_neg (fun q => ?_), if_neg (fun q => ?_), if_neg (fun q => ?_)]
        · rfl
        · subst q; exact h1_13 rfl
        · rcases q with rfl | rfl | rfl | rfl; exact h1_3 rfl; exact h1_5 rfl; exact h1_10 rfl; exact h1_19 rfl
        · rcases q with rfl | rfl | rfl | rfl; exact h1_0 rfl; exact h1_2 rfl; exact h1_8 rfl; exact h1_16 rfl)
theorem zTx_to {I I' : ZMi} {len : Nat} {T : Nat → Nat} (h : zTx I len T) (h1 : I' 3 1 = I 3 1) (h2 : ∀ k, I' 4 k = I 4 k) : zTx I' len T := ⟨h1.trans h.1, fun i hi => by rw [h2]; exact h.2 i hi⟩
def zfN (I I' : ZMi) : Prop := ∀ a k, ¬ (a = 5 ∧ k = 1) → a ≠ 6 → I' a k = I a k
theorem zfN_t {I I' I2 : ZMi} (h : zfN I I') (h2 : zfN I' I2) : zfN I I2 := fun a k x y => (h2 a k x y).trans (h a k x y)
theorem zTx_fN {I I' : ZMi} {len : Nat} {T : Nat → Nat} (h : zTx I len T) (hf : zfN I I') : zTx I' len T := zTx_to h (hf 3 1 (by decide) (by decide)) (fun k => hf 4 k (by omega) (by decide))
set_option maxRecDepth 4000 in
theorem x_rn_l {K : ZKh} {P : Nat → Nat → List Value → List Value → ZMi → ZMl → ZMr → ZRt → Prop} {I : ZMi} {L : ZMl} {R : ZMr} {Q : ZRt} (hP : ZCl K P) (hK : zKa K) (hR : zRa R) {len : Nat} {T : Nat → Nat} (hT : zTx I len T) (hl : len ≤ 400) (h256 : ∀ i, T i < 256) {q i : Nat} {mv : Int32} (hq : q ≤ 2000) (hx : ∀ I2, (∀ a k, ¬ (a = 5 ∧ k = 1) → I2 a k = I a k) → I2 5 1 = nI (q + zcn (zto T len) q 3) → P 31 98 [.ref 5, .ref 3, .int (nI i), .int mv, .int (nI (zva (zto T len) q (zcn (zto T len) q 3))), .int (nI (zcn (zto T len) q 3))] [] I2 L R Q) : ∀ n, n ≤ 3 → ∀ (I1 : ZMi), (∀ a k, ¬ (a = 5 ∧ k = 1) → I1 a k = I a k) ∧ I1 5 1 = nI (q + n) ∧ zcn (zto T len) q 3 = n + zcn (zto T len) (q + n) (3 - n) → P 31 39 [.ref 5, .ref 3, .int (nI i), .int mv, .int (nI (zva (zto T len) q n)), .int (nI n)] [] I1 L R Q := by
  refine zloop 3 (fun n => ∀ (I1 : ZMi), (∀ a k, ¬ (a = 5 ∧ k = 1) → I1 a k = I a k) ∧ I1 5 1 = nI (q + n) ∧ zcn (zto T len) q 3 = n + zcn (zto T len) (q + n) (3 - n) → P 31 39 [.ref 5, .ref 3, .int (nI i), .int mv, .int (nI (zva (zto T len) q n)), .int (nI n)] [] I1 L R Q) ?_
  intro n hle ih I1 hacc
  refine r_il hP c31_39 rfl ?_
  refine r_ic hP c31_41 ?_
  refine r_ige hP c31_42 (fun h42 => ?_) (fun h42 => ?_)
  · have he : n = 3 := Nat.le_antisymm hle ((nI_leI (by omega) (by omega)).mp h42)
    have hz : zcn (zto T len) q 3 = n := by rw [hacc.2.2, he]; rfl
    rw [hz] at hx
    exact hx _ hacc.1 hacc.2.1
  · have hlt : n < 3 := by
      rcases Nat.lt_or_ge n 3 with q | q
      · exact q
      · exact absurd (nI_le q (by omega)) h42
    refine r_al hP c31_45 rfl ?_
    refine r_al hP c31_46 rfl ?_
    refine r_gI (x := nI (q + n)) hP c31_47 (zj5 hK) hacc.2.1 ?_
    refine r_cVi (as := [.int (nI (q + n))]) (r := []) (I' := I1) (L' := L) (R' := R) (x := zca T len (q + n)) (a := 3) hP c31_50 rfl (zj3 hK) rfl (fun _ hq => x_at hP hK hR (zTx_to hT (hacc.1 3 1 (by decide)) (fun k => hacc.1 4 k (by omega))) hl (by omega) hq) ?_
    refine r_ic hP c31_53 ?_
    refine r_ic hP c31_55 ?_
    refine r_cSi (as := [.int (zca T len (q + n)), .int 48, .int 57]) (r := []) (I' := I1) (L' := L) (R' := R) (x := if 48 ≤ zca T len (q + n) ∧ zca T len (q + n) ≤ 57 then 1 else 0) hP c31_57 rfl rfl (fun _ h2 => x_within hP h2) ?_
    refine r_ifeqB hP c31_60 (fun h60 => ?_) (fun h60 => ?_)
    · have hz : zcn (zto T len) q 3 = n := by rw [hacc.2.2, zcn_z (fun z => h60 ((zca_dg h256).mpr z))]; rfl
      rw [hz] at hx
      exact hx _ hacc.1 hacc.2.1
    · have hd := (zca_dg h256).mp h60
      refine r_il hP c31_63 rfl ?_
      refine r_ic hP c31_65 ?_
      refine r_imul hP c31_67 ?_
      refine r_al hP c31_68 rfl ?_
      refine r_al hP c31_69 rfl ?_
      refine r_gI (x := nI (q + n)) hP c31_70 (zj5 hK) hacc.2.1 ?_
      refine r_cVi (as := [.int (nI (q + n))]) (r := [.int ((nI (zva (zto T len) q n)) * 10)]) (I' := I1) (L' := L) (R' := R) (x := zca T len (q + n)) (a := 3) hP c31_73 rfl (zj3 hK) rfl (fun _ hq => x_at hP hK hR (zTx_to hT (hacc.1 3 1 (by decide)) (fun k => hacc.1 4 k (by omega))) hl (by omega) hq) ?_
      refine r_iadd hP c31_76 ?_
      refine r_ic hP c31_77 ?_
      refine r_isub hP c31_79 ?_
      refine r_ti (y := nI (zva (zto T len) q (n + 1))) (zva_s hd) ?_
      refine r_is (ls' := [.ref 5, .ref 3, .int (nI i), .int mv, .int (nI (zva (zto T len) q (n + 1))), .int (nI n)]) hP c31_80 (Nat.le_of_ble_eq_true rfl) rfl ?_
      refine r_inc (y := nI (n + 1)) (ls' := [.ref 5, .ref 3, .int (nI i), .int mv, .int (nI (zva (zto T len) q (n + 1))), .int (nI (n + 1))]) hP c31_82 rfl (nI_1 _) rfl ?_
      refine r_al hP c31_85 rfl ?_
      refine r_dup hP c31_86 rfl ?_
      refine r_gI (x := nI (q + n)) hP c31_87 (zj5 hK) hacc.2.1 ?_
      refine r_ic hP c31_90 ?_
      refine r_iadd hP c31_91 ?_
      refine r_ti (y := nI (q + n + 1)) (nI_1 _) ?_
      refine r_pI hP c31_92 (zj5 hK) ?_
      refine r_goto hP c31_95 ?_
      exact ih hlt _ ⟨fun a k q1 => (zup_n _ _ _ _ q1).trans (hacc.1 a k q1), zup_s _ _ _ _, by
        rw [hacc.2.2, show 3 - n = (3 - (n + 1)) + 1 from by omega, zcn, if_pos hd]
        show n + (zcn _ (q + n + 1) (3 - (n + 1)) + 1) = n + 1 + zcn _ (q + n + 1) (3 - (n + 1))
        omega⟩
theorem zva_b {t : Nat → Nat} {q : Nat} (h : ∀ i, t i < 256) : ∀ n, n ≤ 3 → zva t q n < 100000
  | n, hn => by
    have h0 := h q
    have h1 := h (q + 1)
    have h2 := h (q + 2)
    have hc : n = 0 ∨ n = 1 ∨ n = 2 ∨ n = 3 := by omega
    rcases hc with rfl | rfl | rfl | rfl <;> simp only [zva, Nat.add_zero] <;> omega
theorem zto_b {T : Nat → Nat} {len : Nat} (h : ∀ i, T i < 256) : ∀ i, zto T len i < 256 := fun i => by
  have := h i
  unfold zto
  split <;> omega
set_option maxRecDepth 4000 in
theorem x_readNumber {K : ZKh} {P : Nat → Nat → List Value → List Value → ZMi → ZMl → ZMr → ZRt → Prop} {I : ZMi} {L : ZMl} {R : ZMr} {Q : ZRt} (hP : ZCl K P) (hK : zKa K) (hR : zRa R) {len : Nat} {T : Nat → Nat} (hT : zTx I len T) (hl : len ≤ 400) (h256 : ∀ i, T i < 256) {p i : Nat} (hpl : I 5 1 = nI p) (hp : p ≤ 1000) (hi : i < 5) (h : ∀ I2, zfN I I2 → (zn_k (zto T len) p → I2 5 1 = nI (zn_e (zto T len) p) ∧ I2 6 i = zn_v (zto T len) p ∧ ∀ j, j ≠ i → I2 6 j = I 6 j) → Q (some (.int (if zn_k (zto T len) p then 1 else 0))) I2 L R) : P 31 0 [.ref 5, .ref 3, .int (nI i), .null, .null, .null] [] I L R Q := by
  have h256b := zto_b (len := len) h256
  refine r_al hP c31_0 rfl ?_
  refine r_al hP c31_1 rfl ?_
  refine r_gI (x := nI p) hP c31_2 (zj5 hK) hpl ?_
  refine r_cVi (as := [.int (nI p)]) (r := []) (I' := I) (L' := L) (R' := R) (x := zca T len (p)) (a := 3) hP c31_5 rfl (zj3 hK) rfl (fun _ hq => x_at hP hK hR hT hl (by omega) hq) ?_
  refine r_ic hP c31_8 ?_
  refine r_ine hP c31_10 (fun h10 => ?_) (fun h10 => ?_)
  · have hm : ¬ (zto T len) p = 45 := fun z => h10 ((zca_eq (c := 45) h256 (by decide) (by decide)).mpr z)
    refine r_ic hP c31_17 ?_
    refine r_is (ls' := [.ref 5, .ref 3, .int (nI i), .int 0, .null, .null]) hP c31_18 (Nat.le_of_ble_eq_true rfl) rfl ?_
    refine r_il hP c31_19 rfl ?_
    refine r_ifeq hP c31_20 (fun h20 => ?_) (fun h20 => absurd h20 (not_not_intro rfl))
    refine r_ic hP c31_33 ?_
    refine r_is (ls' := [.ref 5, .ref 3, .int (nI i), .int 0, .int 0, .null]) hP c31_34 (Nat.le_of_ble_eq_true rfl) rfl ?_
    refine r_ic hP c31_36 ?_
    refine r_is (ls' := [.ref 5, .ref 3, .int (nI i), .int 0, .int 0, .int 0]) hP c31_37 (Nat.le_of_ble_eq_true rfl) rfl ?_
    have hqe : zn_q (zto T len) p = p := if_neg hm
    refine x_rn_l (q := p) (mv := 0) hP hK hR hT hl h256 (by omega) (fun I2 h1 h2 => ?_) 0 (Nat.zero_le _) _ ⟨fun _ _ _ => rfl, hpl, (Nat.zero_add _).symm⟩
    have hn3 : (zcn (zto T len) (p) 3) ≤ 3 := zcn_le _ 3 _
    have hnn : zn_n (zto T len) p = (zcn (zto T len) (p) 3) := by rw [zn_n, hqe]
    have hww : zn_w (zto T len) p = zva (zto T len) (p) (zcn (zto T len) (p) 3) := by rw [zn_w, hnn, hqe]
    have hee : zn_e (zto T len) p = p + (zcn (zto T len) (p) 3) := by rw [zn_e, hnn, hqe]
    have hb9 := zva_b (t := (zto T len)) (q := p) h256b (zcn (zto T len) (p) 3) hn3
    have hfN : zfN I I2 := fun a k q1 q2 => (h1 a k q1)
    refine r_il hP c31_98 rfl ?_
    refine r_ifeq hP c31_100 (fun h100 => ?_) (fun h100 => ?_)
    · refine r_ic hP c31_121 ?_
      first
        | exact r_zr0 hP c31_122 (fun z => z.1 (by rw [hnn]; exact (nI_eq (b := 0) (by omega) (by decide)).mp h100)) (h _ hfN (fun z => absurd (by rw [hnn]; exact (nI_eq (b := 0) (by omega) (by decide)).mp h100) z.1))
        | exact r_zr0 hP c31_122 (fun z => z.2 ⟨hm, by rw [hww]; exact (nI_eq (b := 0) (by omega) (by decide)).mp h109⟩) (h _ hfN (fun z => absurd ⟨hm, by rw [hww]; exact (nI_eq (b := 0) (by omega) (by decide)).mp h109⟩ z.2))
    · refine r_il hP c31_103 rfl ?_
      refine r_ifeq hP c31_104 (fun h104 => ?_) (fun h104 => absurd h104 (not_not_intro rfl))
      refine r_il hP c31_112 rfl ?_
      refine r_iflt hP c31_113 (fun h113 => absurd h113 (nI_pos (by omega))) (fun h113 => ?_)
      refine r_il hP c31_116 rfl ?_
      refine r_ic hP c31_117 ?_
      refine r_ilt hP c31_118 (fun h118 => ?_) (fun h118 => absurd h118 (not_not_intro (nI_lt (b := 5) hi (by decide))))
      refine r_al hP c31_123 rfl ?_
      refine r_gR (x := 6) hP c31_124 (zj5 hK) (zr5_0 hR) ?_
      refine r_il hP c31_127 rfl ?_
      refine r_il hP c31_128 rfl ?_
      refine r_ifeq hP c31_129 (fun h129 => ?_) (fun h129 => absurd h129 (not_not_intro rfl))
      refine r_il hP c31_138 rfl ?_
      refine r_iast (j := i) hP c31_140 (zk6 hK) rfl (by omega) ?_
      refine r_ic hP c31_141 ?_
      have hk : zn_k (zto T len) p := ⟨fun z => h100 (by rw [hnn] at z; rw [z]; rfl), fun z => hm z.1⟩
      exact r_zr1 hP c31_142 hk (h _ (fun a k q1 q2 => (zup_na _ _ _ _ q2).trans (hfN a k q1 q2)) (fun _ => ⟨by rw [hee]; exact (zup_n _ _ _ _ (by omega)).trans h2, (by rw [zn_v, if_neg hm, hww]; exact zup_s _ _ _ _), fun j hj => (zup_n _ _ _ _ (by omega)).trans ((h1 6 j (by omega)))⟩))
  · have hm : (zto T len) p = 45 := (zca_eq (c := 45) h256 (by decide) (by decide)).mp h10
    refine r_ic hP c31_13 ?_
    refine r_goto hP c31_14 ?_
    refine r_is (ls' := [.ref 5, .ref 3, .int (nI i), .int 1, .null, .null]) hP c31_18 (Nat.le_of_ble_eq_true rfl) rfl ?_
    refine r_il hP c31_19 rfl ?_
    refine r_ifeq hP c31_20 (fun h20 => absurd h20 (by decide)) (fun h20 => ?_)
    refine r_al hP c31_23 rfl ?_
    refine r_dup hP c31_24 rfl ?_
    refine r_gI (x := nI p) hP c31_25 (zj5 hK) hpl ?_
    refine r_ic hP c31_28 ?_
    refine r_iadd hP c31_29 ?_
    refine r_ti (y := nI (p + 1)) (nI_1 _) ?_
    refine r_pI hP c31_30 (zj5 hK) ?_
    refine r_ic hP c31_33 ?_
    refine r_is (ls' := [.ref 5, .ref 3, .int (nI i), .int 1, .int 0, .null]) hP c31_34 (Nat.le_of_ble_eq_true rfl) rfl ?_
    refine r_ic hP c31_36 ?_
    refine r_is (ls' := [.ref 5, .ref 3, .int (nI i), .int 1, .int 0, .int 0]) hP c31_37 (Nat.le_of_ble_eq_true rfl) rfl ?_
    have hqe : zn_q (zto T len) p = p + 1 := if_pos hm
    refine x_rn_l (q := p + 1) (mv := 1) hP hK hR (zTx_to hT (zup_n _ _ _ _ (by decide)) (fun k => zup_n _ _ _ _ (by omega))) hl h256 (by omega) (fun I2 h1 h2 => ?_) 0 (Nat.zero_le _) _ ⟨fun _ _ _ => rfl, zup_s _ _ _ _, (Nat.zero_add _).symm⟩
    have hn3 : (zcn (zto T len) (p + 1) 3) ≤ 3 := zcn_le _ 3 _
    have hnn : zn_n (zto T len) p = (zcn (zto T len) (p + 1) 3) := by rw [zn_n, hqe]
    have hww : zn_w (zto T len) p = zva (zto T len) (p + 1) (zcn (zto T len) (p + 1) 3) := by rw [zn_w, hnn, hqe]
    have hee : zn_e (zto T len) p = p + 1 + (zcn (zto T len) (p + 1) 3) := by rw [zn_e, hnn, hqe]
    have hb9 := zva_b (t := (zto T len)) (q := p + 1) h256b (zcn (zto T len) (p + 1) 3) hn3
    have hfN : zfN I I2 := fun a k q1 q2 => (h1 a k q1).trans (zup_n _ _ _ _ q1)
    refine r_il hP c31_98 rfl ?_
    refine r_ifeq hP c31_100 (fun h100 => ?_) (fun h100 => ?_)
    · refine r_ic hP c31_121 ?_
      first
        | exact r_zr0 hP c31_122 (fun z => z.1 (by rw [hnn]; exact (nI_eq (b := 0) (by omega) (by decide)).mp h100)) (h _ hfN (fun z => absurd (by rw [hnn]; exact (nI_eq (b := 0) (by omega) (by decide)).mp h100) z.1))
        | exact r_zr0 hP c31_122 (fun z => z.2 ⟨hm, by rw [hww]; exact (nI_eq (b := 0) (by omega) (by decide)).mp h109⟩) (h _ hfN (fun z => absurd ⟨hm, by rw [hww]; exact (nI_eq (b := 0) (by omega) (by decide)).mp h109⟩ z.2))
    · refine r_il hP c31_103 rfl ?_
      refine r_ifeq hP c31_104 (fun h104 => absurd h104 (by decide)) (fun h104 => ?_)
      refine r_il hP c31_107 rfl ?_
      refine r_ifeq hP c31_109 (fun h109 => ?_) (fun h109 => ?_)
      · refine r_ic hP c31_121 ?_
        first
          | exact r_zr0 hP c31_122 (fun z => z.1 (by rw [hnn]; exact (nI_eq (b := 0) (by omega) (by decide)).mp h100)) (h _ hfN (fun z => absurd (by rw [hnn]; exact (nI_eq (b := 0) (by omega) (by decide)).mp h100) z.1))
          | exact r_zr0 hP c31_122 (fun z => z.2 ⟨hm, by rw [hww]; exact (nI_eq (b := 0) (by omega) (by decide)).mp h109⟩) (h _ hfN (fun z => absurd ⟨hm, by rw [hww]; exact (nI_eq (b := 0) (by omega) (by decide)).mp h109⟩ z.2))
      · refine r_il hP c31_112 rfl ?_
        refine r_iflt hP c31_113 (fun h113 => absurd h113 (nI_pos (by omega))) (fun h113 => ?_)
        refine r_il hP c31_116 rfl ?_
        refine r_ic hP c31_117 ?_
        refine r_ilt hP c31_118 (fun h118 => ?_) (fun h118 => absurd h118 (not_not_intro (nI_lt (b := 5) hi (by decide))))
        refine r_al hP c31_123 rfl ?_
        refine r_gR (x := 6) hP c31_124 (zj5 hK) (zr5_0 hR) ?_
        refine r_il hP c31_127 rfl ?_
        refine r_il hP c31_128 rfl ?_
        refine r_ifeq hP c31_129 (fun h129 => absurd h129 (by decide)) (fun h129 => ?_)
        refine r_il hP c31_132 rfl ?_
        refine r_ineg hP c31_134 ?_
        refine r_goto hP c31_135 ?_
        refine r_iast (j := i) hP c31_140 (zk6 hK) rfl (by omega) ?_
        refine r_ic hP c31_141 ?_
        have hk : zn_k (zto T len) p := ⟨fun z => h100 (by rw [hnn] at z; rw [z]; rfl), fun z => h109 (by have y := z.2; rw [hww] at y; rw [y]; rfl)⟩
        exact r_zr1 hP c31_142 hk (h _ (fun a k q1 q2 => (zup_na _ _ _ _ q2).trans (hfN a k q1 q2)) (fun _ => ⟨by rw [hee]; exact (zup_n _ _ _ _ (by omega)).trans h2, (by rw [zn_v, if_pos hm, hww]; exact zup_s _ _ _ _), fun j hj => (zup_n _ _ _ _ (by omega)).trans ((h1 6 j (by omega)).trans (zup_n _ _ _ _ (by omega)))⟩))
