/-! ===== the class reads a text ===== -/
abbrev ZFp : Type := (Nat → Int32) × Nat
def zfR (v : Nat) (I I' : ZMi) : Prop := ∀ a k, ¬ (v ≤ a ∧ a < v + 40) → ¬ (a = 5 ∧ k = 1) → a ≠ 6 → I' a k = I a k
theorem zfR_t {v : Nat} {I I' I2 : ZMi} (h : zfR v I I') (h2 : zfR v I' I2) : zfR v I I2 := fun a k x y z => (h2 a k x y z).trans (h a k x y z)
theorem zfR_N {v : Nat} {I I' : ZMi} (h : zfN I I') : zfR v I I' := fun a k _ y z => h a k y z
theorem zfR_W {v : Nat} {I I' : ZMi} (h : zfW v I I') : zfR v I I' := fun a k x _ _ => h a k x
theorem zCu_to {I I' : ZMi} {v : Nat} {u : ZU} (h : zCu I v u) (hub : zUb u) (he : ∀ a, v ≤ a → a < v + 40 → ∀ k, I' a k = I a k) : zCu I' v u := ⟨zC_to h.1 he hub.1 hub.2.1 hub.2.2.1, (he v (by omega) (by omega) 8).trans h.2.1, (he v (by omega) (by omega) 9).trans h.2.2⟩
theorem zTx_fR {v : Nat} {I I' : ZMi} {len : Nat} {T : Nat → Nat} (hv : zisW v) (h : zTx I len T) (hf : zfR v I I') : zTx I' len T := by
  have := zW39 hv
  exact zTx_to h (hf 3 1 (by omega) (by decide) (by decide)) (fun k => hf 4 k (by omega) (by omega) (by decide))
theorem zca_to {T : Nat → Nat} {len p : Nat} (h : p < len) : zca T len p = nI (zto T len p) := by rw [zca, zto, if_pos h, if_pos h]
theorem zit_is {t : Nat → Nat} {p : Nat} {u : ZU} {q : (Nat → Int32) × Nat} (h0 : ¬ zmy (t p) = 0) (h : zns t (zmy (t p)) (p + 1) (zmy (t p)) = some q) : (zit t p u).isSome = (ztk u (t p) q.1).isSome := by
  cases h2 : ztk u (t p) q.1 with
  | none => rw [zit_n3 h h2]; rfl
  | some u2 => rw [zit_s h0 h h2]; rfl
theorem zmy_no {c : Nat} (h : ∀ n, 99 ≤ n → n ≤ 118 → ¬ c = n) : zmy c = 0 := by
  have g := fun n a b => h n a b
  rw [zmy, if_neg (fun q => ?_), if_neg (fun q => ?_), if_neg (fun q => ?_)]
  · exact h 112 (by decide) (by decide) q
  · rcases q with q | q | q | q <;> exact h _ (by omega) (by omega) q
  · rcases q with q | q | q | q <;> exact h _ (by omega) (by omega) q
set_option maxRecDepth 4000 in
theorem x_takeItem {K : ZKh} {P : Nat → Nat → List Value → List Value → ZMi → ZMl → ZMr → ZRt → Prop} {I : ZMi} {L : ZMl} {R : ZMr} {Q : ZRt} (hP : ZCl K P) (hK : zKa K) (hR : zRa R) {v : Nat} {u : ZU} (hv : zisW v) (hu : zCu I v u) (hub : zUb u) {c : Nat} {f : Nat → Int32} (hc256 : c < 256) (hmy : ¬ zmy c = 0) (hf : ∀ j, j < zmy c → I 6 j = f j) (h : ∀ I2, zfW v I I2 → (∀ u2, ztk u c f = some u2 → zCu I2 v u2) → Q (some (.int (if (ztk u c f).isSome = true then 1 else 0))) I2 L R) : P 32 0 [.ref 5, .int (nI c), .ref v, .null, .null, .null] [] I L R Q := by
  have h2m : 2 ≤ zmy c := by have := zmy_5 c; omega
  refine r_al hP c32_0 rfl ?_
  refine r_gR (x := 6) hP c32_1 (zj5 hK) (zr5_0 hR) ?_
  refine r_ic hP c32_4 ?_
  refine r_iald (j := 0) (x := f 0) hP c32_5 (zk6 hK) rfl (by decide) (hf 0 (by omega)) ?_
  refine r_is (ls' := [.ref 5, .int (nI c), .ref v, .int (f 0), .null, .null]) hP c32_6 (Nat.le_of_ble_eq_true rfl) rfl ?_
  refine r_al hP c32_7 rfl ?_
  refine r_gR (x := 6) hP c32_8 (zj5 hK) (zr5_0 hR) ?_
  refine r_ic hP c32_11 ?_
  refine r_iald (j := 1) (x := f 1) hP c32_12 (zk6 hK) rfl (by decide) (hf 1 (by omega)) ?_
  refine r_is (ls' := [.ref 5, .int (nI c), .ref v, .int (f 0), .int (f 1), .null]) hP c32_13 (Nat.le_of_ble_eq_true rfl) rfl ?_
  refine r_al hP c32_15 rfl ?_
  refine r_gR (x := 6) hP c32_16 (zj5 hK) (zr5_0 hR) ?_
  refine r_ic hP c32_19 ?_
  refine r_iald (j := 2) (x := I 6 2) hP c32_20 (zk6 hK) rfl (by decide) rfl ?_
  refine r_is (ls' := [.ref 5, .int (nI c), .ref v, .int (f 0), .int (f 1), .int (I 6 2)]) hP c32_21 (Nat.le_of_ble_eq_true rfl) rfl ?_
  refine r_il hP c32_23 rfl ?_
  refine r_sw hP c32_24 ?_
  refine zsw_c (fun h24_0 => ?_) (fun h24_0 => ?_)
  · have hc : c = 99 := (nI_eq (by omega) (by decide)).mp h24_0
    refine r_al hP c32_170 rfl ?_
    refine r_il hP c32_171 rfl ?_
    refine r_il hP c32_172 rfl ?_
    refine r_cVip (as := [.int (f 0), .int (f 1)]) (r := []) (a := v) hP c32_174 rfl (zj_W hK hv) rfl (fun z I2 L2 R2 => (z = (if (ztk u c f).isSome = true then 1 else 0) ∧ zfW v I I2 ∧ ∀ u2, ztk u c f = some u2 → zCu I2 v u2) ∧ L = L2 ∧ R = R2) (fun Q2 hq => have he : ztk u c f = zk_c u.1 u.2.1 u.2.2.1 u.2.2.2.1 u.2.2.2.2.1 u.2.2.2.2.2 (f 0) (f 1) := (by rw [hc]; rfl); x_tkc hP hK hR hv hu.1 hub.2.1 hub.1 hub.2.2.1 hu.2.1 hu.2.2 hub.2.2.2.1 hub.2.2.2.2 (fun I2 a b => hq _ I2 L R ⟨⟨by rw [he], a, by rw [he]; exact b⟩, rfl, rfl⟩)) ?_
    rintro z I2 L2 R2 ⟨⟨rfl, ha, hb⟩, rfl, rfl⟩
    exact r_zrB hP c32_177 (h _ ha hb)
  refine zsw_c (fun h24_1 => ?_) (fun h24_1 => ?_)
  · exact absurd (by rw [show c = 100 from (nI_eq (by omega) (by decide)).mp h24_1]; rfl) hmy
  refine zsw_c (fun h24_2 => ?_) (fun h24_2 => ?_)
  · have hc : c = 101 := (nI_eq (by omega) (by decide)).mp h24_2
    refine r_al hP c32_188 rfl ?_
    refine r_il hP c32_189 rfl ?_
    refine r_il hP c32_190 rfl ?_
    refine r_cVip (as := [.int (f 0), .int (f 1)]) (r := []) (a := v) hP c32_192 rfl (zj_W hK hv) rfl (fun z I2 L2 R2 => (z = (if (ztk u c f).isSome = true then 1 else 0) ∧ zfW v I I2 ∧ ∀ u2, ztk u c f = some u2 → zCu I2 v u2) ∧ L = L2 ∧ R = R2) (fun Q2 hq => have he : ztk u c f = zk_e u.1 u.2.1 u.2.2.1 u.2.2.2.1 u.2.2.2.2.1 u.2.2.2.2.2 (f 0) (f 1) := (by rw [hc]; rfl); x_tke hP hK hR hv hu.1 hub.2.1 hub.1 hub.2.2.1 hu.2.1 hu.2.2 hub.2.2.2.1 hub.2.2.2.2 (fun I2 a b => hq _ I2 L R ⟨⟨by rw [he], a, by rw [he]; exact b⟩, rfl, rfl⟩)) ?_
    rintro z I2 L2 R2 ⟨⟨rfl, ha, hb⟩, rfl, rfl⟩
    exact r_zrB hP c32_195 (h _ ha hb)
  refine zsw_c (fun h24_3 => ?_) (fun h24_3 => ?_)
  · have hc : c = 102 := (nI_eq (by omega) (by decide)).mp h24_3
    have hf2 : I 6 2 = f 2 := hf 2 (by rw [hc]; decide)
    refine r_al hP c32_178 rfl ?_
    refine r_il hP c32_179 rfl ?_
    refine r_il hP c32_180 rfl ?_
    refine r_il hP c32_182 rfl ?_
    refine r_cVip (as := [.int (f 0), .int (f 1), .int (I 6 2)]) (r := []) (a := v) hP c32_184 rfl (zj_W hK hv) rfl (fun z I2 L2 R2 => (z = (if (ztk u c f).isSome = true then 1 else 0) ∧ zfW v I I2 ∧ ∀ u2, ztk u c f = some u2 → zCu I2 v u2) ∧ L = L2 ∧ R = R2) (fun Q2 hq => have he : ztk u c f = zk_f u.1 u.2.1 u.2.2.1 u.2.2.2.1 u.2.2.2.2.1 u.2.2.2.2.2 (f 0) (f 1) (I 6 2) := (by rw [hf2, hc]; rfl); x_tkf hP hK hR hv hu.1 hub.2.1 hub.1 hub.2.2.1 hu.2.1 hu.2.2 hub.2.2.2.1 hub.2.2.2.2 (fun I2 a b => hq _ I2 L R ⟨⟨by rw [he], a, by rw [he]; exact b⟩, rfl, rfl⟩)) ?_
    rintro z I2 L2 R2 ⟨⟨rfl, ha, hb⟩, rfl, rfl⟩
    exact r_zrB hP c32_187 (h _ ha hb)
  refine zsw_c (fun h24_4 => ?_) (fun h24_4 => ?_)
  · exact absurd (by rw [show c = 103 from (nI_eq (by omega) (by decide)).mp h24_4]; rfl) hmy
  refine zsw_c (fun h24_5 => ?_) (fun h24_5 => ?_)
  · have hc : c = 104 := (nI_eq (by omega) (by decide)).mp h24_5
    have hf2 : I 6 2 = f 2 := hf 2 (by rw [hc]; decide)
    refine r_al hP c32_150 rfl ?_
    refine r_il hP c32_151 rfl ?_
    refine r_il hP c32_152 rfl ?_
    refine r_il hP c32_154 rfl ?_
    refine r_cVip (as := [.int (f 0), .int (f 1), .int (I 6 2)]) (r := []) (a := v) hP c32_156 rfl (zj_W hK hv) rfl (fun z I2 L2 R2 => (z = (if (ztk u c f).isSome = true then 1 else 0) ∧ zfW v I I2 ∧ ∀ u2, ztk u c f = some u2 → zCu I2 v u2) ∧ L = L2 ∧ R = R2) (fun Q2 hq => have he : ztk u c f = zk_h u.1 u.2.1 u.2.2.1 u.2.2.2.1 u.2.2.2.2.1 u.2.2.2.2.2 (f 0) (f 1) (I 6 2) := (by rw [hf2, hc]; rfl); x_tkh hP hK hR hv hu.1 hub.2.1 hub.1 hub.2.2.1 hu.2.1 hu.2.2 hub.2.2.2.1 hub.2.2.2.2 (fun I2 a b => hq _ I2 L R ⟨⟨by rw [he], a, by rw [he]; exact b⟩, rfl, rfl⟩)) ?_
    rintro z I2 L2 R2 ⟨⟨rfl, ha, hb⟩, rfl, rfl⟩
    exact r_zrB hP c32_159 (h _ ha hb)
  refine zsw_c (fun h24_6 => ?_) (fun h24_6 => ?_)
  · exact absurd (by rw [show c = 105 from (nI_eq (by omega) (by decide)).mp h24_6]; rfl) hmy
  refine zsw_c (fun h24_7 => ?_) (fun h24_7 => ?_)
  · exact absurd (by rw [show c = 106 from (nI_eq (by omega) (by decide)).mp h24_7]; rfl) hmy
  refine zsw_c (fun h24_8 => ?_) (fun h24_8 => ?_)
  · have hc : c = 107 := (nI_eq (by omega) (by decide)).mp h24_8
    refine r_al hP c32_196 rfl ?_
    refine r_il hP c32_197 rfl ?_
    refine r_il hP c32_198 rfl ?_
    refine r_cVip (as := [.int (f 0), .int (f 1)]) (r := []) (a := v) hP c32_200 rfl (zj_W hK hv) rfl (fun z I2 L2 R2 => (z = (if (ztk u c f).isSome = true then 1 else 0) ∧ zfW v I I2 ∧ ∀ u2, ztk u c f = some u2 → zCu I2 v u2) ∧ L = L2 ∧ R = R2) (fun Q2 hq => have he : ztk u c f = zk_k u.1 u.2.1 u.2.2.1 u.2.2.2.1 u.2.2.2.2.1 u.2.2.2.2.2 (f 0) (f 1) := (by rw [hc]; rfl); x_tkk hP hK hR hv hu.1 hub.2.1 hub.1 hub.2.2.1 hu.2.1 hu.2.2 hub.2.2.2.1 hub.2.2.2.2 (fun I2 a b => hq _ I2 L R ⟨⟨by rw [he], a, by rw [he]; exact b⟩, rfl, rfl⟩)) ?_
    rintro z I2 L2 R2 ⟨⟨rfl, ha, hb⟩, rfl, rfl⟩
    exact r_zrB hP c32_203 (h _ ha hb)
  refine zsw_c (fun h24_9 => ?_) (fun h24_9 => ?_)
  · exact absurd (by rw [show c = 108 from (nI_eq (by omega) (by decide)).mp h24_9]; rfl) hmy
  refine zsw_c (fun h24_10 => ?_) (fun h24_10 => ?_)
  · have hc : c = 109 := (nI_eq (by omega) (by decide)).mp h24_10
    have hf2 : I 6 2 = f 2 := hf 2 (by rw [hc]; decide)
    refine r_al hP c32_160 rfl ?_
    refine r_il hP c32_161 rfl ?_
    refine r_il hP c32_162 rfl ?_
    refine r_il hP c32_164 rfl ?_
    refine r_cVip (as := [.int (f 0), .int (f 1), .int (I 6 2)]) (r := []) (a := v) hP c32_166 rfl (zj_W hK hv) rfl (fun z I2 L2 R2 => (z = (if (ztk u c f).isSome = true then 1 else 0) ∧ zfW v I I2 ∧ ∀ u2, ztk u c f = some u2 → zCu I2 v u2) ∧ L = L2 ∧ R = R2) (fun Q2 hq => have he : ztk u c f = zk_m u.1 u.2.1 u.2.2.1 u.2.2.2.1 u.2.2.2.2.1 u.2.2.2.2.2 (f 0) (f 1) (I 6 2) := (by rw [hf2, hc]; rfl); x_tkm hP hK hR hv hu.1 hub.2.1 hub.1 hub.2.2.1 hu.2.1 hu.2.2 hub.2.2.2.1 hub.2.2.2.2 (fun I2 a b => hq _ I2 L R ⟨⟨by rw [he], a, by rw [he]; exact b⟩, rfl, rfl⟩)) ?_
    rintro z I2 L2 R2 ⟨⟨rfl, ha, hb⟩, rfl, rfl⟩
    exact r_zrB hP c32_169 (h _ ha hb)
  refine zsw_c (fun h24_11 => ?_) (fun h24_11 => ?_)
  · exact absurd (by rw [show c = 110 from (nI_eq (by omega) (by decide)).mp h24_11]; rfl) hmy
  refine zsw_c (fun h24_12 => ?_) (fun h24_12 => ?_)
  · exact absurd (by rw [show c = 111 from (nI_eq (by omega) (by decide)).mp h24_12]; rfl) hmy
  refine zsw_c (fun h24_13 => ?_) (fun h24_13 => ?_)
  · have hc : c = 112 := (nI_eq (by omega) (by decide)).mp h24_13
    have hf2 : I 6 2 = f 2 := hf 2 (by rw [hc]; decide)
    refine r_al hP c32_128 rfl ?_
    refine r_il hP c32_129 rfl ?_
    refine r_il hP c32_130 rfl ?_
    refine r_il hP c32_132 rfl ?_
    refine r_al hP c32_134 rfl ?_
    refine r_gR (x := 6) hP c32_135 (zj5 hK) (zr5_0 hR) ?_
    refine r_ic hP c32_138 ?_
    refine r_iald (j := 3) (x := f 3) hP c32_139 (zk6 hK) rfl (by decide) (hf 3 (by rw [hc]; decide)) ?_
    refine r_al hP c32_140 rfl ?_
    refine r_gR (x := 6) hP c32_141 (zj5 hK) (zr5_0 hR) ?_
    refine r_ic hP c32_144 ?_
    refine r_iald (j := 4) (x := f 4) hP c32_145 (zk6 hK) rfl (by decide) (hf 4 (by rw [hc]; decide)) ?_
    refine r_cVip (as := [.int (f 0), .int (f 1), .int (I 6 2), .int (f 3), .int (f 4)]) (r := []) (a := v) hP c32_146 rfl (zj_W hK hv) rfl (fun z I2 L2 R2 => (z = (if (ztk u c f).isSome = true then 1 else 0) ∧ zfW v I I2 ∧ ∀ u2, ztk u c f = some u2 → zCu I2 v u2) ∧ L = L2 ∧ R = R2) (fun Q2 hq => have he : ztk u c f = zk_p u.1 u.2.1 u.2.2.1 u.2.2.2.1 u.2.2.2.2.1 u.2.2.2.2.2 (f 0) (f 1) (I 6 2) (f 3) (f 4) := (by rw [hf2, hc]; rfl); x_tkp hP hK hR hv hu.1 hub.2.1 hub.1 hub.2.2.1 hu.2.1 hu.2.2 hub.2.2.2.1 hub.2.2.2.2 (fun I2 a b => hq _ I2 L R ⟨⟨by rw [he], a, by rw [he]; exact b⟩, rfl, rfl⟩)) ?_
    rintro z I2 L2 R2 ⟨⟨rfl, ha, hb⟩, rfl, rfl⟩
    exact r_zrB hP c32_149 (h _ ha hb)
  refine zsw_c (fun h24_14 => ?_) (fun h24_14 => ?_)
  · exact absurd (by rw [show c = 113 from (nI_eq (by omega) (by decide)).mp h24_14]; rfl) hmy
  refine zsw_c (fun h24_15 => ?_) (fun h24_15 => ?_)
  · exact absurd (by rw [show c = 114 from (nI_eq (by omega) (by decide)).mp h24_15]; rfl) hmy
  refine zsw_c (fun h24_16 => ?_) (fun h24_16 => ?_)
  · have hc : c = 115 := (nI_eq (by omega) (by decide)).mp h24_16
    refine r_al hP c32_120 rfl ?_
    refine r_il hP c32_121 rfl ?_
    refine r_il hP c32_122 rfl ?_
    refine r_cVip (as := [.int (f 0), .int (f 1)]) (r := []) (a := v) hP c32_124 rfl (zj_W hK hv) rfl (fun z I2 L2 R2 => (z = (if (ztk u c f).isSome = true then 1 else 0) ∧ zfW v I I2 ∧ ∀ u2, ztk u c f = some u2 → zCu I2 v u2) ∧ L = L2 ∧ R = R2) (fun Q2 hq => have he : ztk u c f = zk_s u.1 u.2.1 u.2.2.1 u.2.2.2.1 u.2.2.2.2.1 u.2.2.2.2.2 (f 0) (f 1) := (by rw [hc]; rfl); x_tks hP hK hR hv hu.1 hub.2.1 hub.1 hub.2.2.1 hu.2.1 hu.2.2 hub.2.2.2.1 hub.2.2.2.2 (fun I2 a b => hq _ I2 L R ⟨⟨by rw [he], a, by rw [he]; exact b⟩, rfl, rfl⟩)) ?_
    rintro z I2 L2 R2 ⟨⟨rfl, ha, hb⟩, rfl, rfl⟩
    exact r_zrB hP c32_127 (h _ ha hb)
  refine zsw_c (fun h24_17 => ?_) (fun h24_17 => ?_)
  · exact absurd (by rw [show c = 116 from (nI_eq (by omega) (by decide)).mp h24_17]; rfl) hmy
  refine zsw_c (fun h24_18 => ?_) (fun h24_18 => ?_)
  · exact absurd (by rw [show c = 117 from (nI_eq (by omega) (by decide)).mp h24_18]; rfl) hmy
  refine zsw_c (fun h24_19 => ?_) (fun h24_19 => ?_)
  · have hc : c = 118 := (nI_eq (by omega) (by decide)).mp h24_19
    have hf2 : I 6 2 = f 2 := hf 2 (by rw [hc]; decide)
    refine r_al hP c32_204 rfl ?_
    refine r_il hP c32_205 rfl ?_
    refine r_il hP c32_206 rfl ?_
    refine r_il hP c32_208 rfl ?_
    refine r_cVip (as := [.int (f 0), .int (f 1), .int (I 6 2)]) (r := []) (a := v) hP c32_210 rfl (zj_W hK hv) rfl (fun z I2 L2 R2 => (z = (if (ztk u c f).isSome = true then 1 else 0) ∧ zfW v I I2 ∧ ∀ u2, ztk u c f = some u2 → zCu I2 v u2) ∧ L = L2 ∧ R = R2) (fun Q2 hq => have he : ztk u c f = zk_v u.1 u.2.1 u.2.2.1 u.2.2.2.1 u.2.2.2.2.1 u.2.2.2.2.2 (f 0) (f 1) (I 6 2) := (by rw [hf2, hc]; rfl); x_tkv hP hK hR hv hu.1 hub.2.1 hub.1 hub.2.2.1 hu.2.1 hu.2.2 hub.2.2.2.1 hub.2.2.2.2 (fun I2 a b => hq _ I2 L R ⟨⟨by rw [he], a, by rw [he]; exact b⟩, rfl, rfl⟩)) ?_
    rintro z I2 L2 R2 ⟨⟨rfl, ha, hb⟩, rfl, rfl⟩
    exact r_zrB hP c32_213 (h _ ha hb)
  refine zsw_n ?_
  exact absurd (zmy_no (fun n h1 h2 => by
    have hn : n = 99 ∨ n = 100 ∨ n = 101 ∨ n = 102 ∨ n = 103 ∨ n = 104 ∨ n = 105 ∨ n = 106 ∨ n = 107 ∨ n = 108 ∨ n = 109 ∨ n = 110 ∨ n = 111 ∨ n = 112 ∨ n = 113 ∨ n = 114 ∨ n = 115 ∨ n = 116 ∨ n = 117 ∨ n = 118 := by omega
    rcases hn with rfl | rfl | rfl | rfl | rfl | rfl | rfl | rfl | rfl | rfl | rfl | rfl | rfl | rfl | rfl | rfl | rfl | rfl | rfl | rfl
    · exact fun q => h24_0 (by rw [q]; rfl)
    · exact fun q => h24_1 (by rw [q]; rfl)
    · exact fun q => h24_2 (by rw [q]; rfl)
    · exact fun q => h24_3 (by rw [q]; rfl)
    · exact fun q => h24_4 (by rw [q]; rfl)
    · exact fun q => h24_5 (by rw [q]; rfl)
    · exact fun q => h24_6 (by rw [q]; rfl)
    · exact fun q => h24_7 (by rw [q]; rfl)
    · exact fun q => h24_8 (by rw [q]; rfl)
    · exact fun q => h24_9 (by rw [q]; rfl)
    · exact fun q => h24_10 (by rw [q]; rfl)
    · exact fun q => h24_11 (by rw [q]; rfl)
    · exact fun q => h24_12 (by rw [q]; rfl)
    · exact fun q => h24_13 (by rw [q]; rfl)
    · exact fun q => h24_14 (by rw [q]; rfl)
    · exact fun q => h24_15 (by rw [q]; rfl)
    · exact fun q => h24_16 (by rw [q]; rfl)
    · exact fun q => h24_17 (by rw [q]; rfl)
    · exact fun q => h24_18 (by rw [q]; rfl)
    · exact fun q => h24_19 (by rw [q]; rfl))) hmy
set_option maxRecDepth 4000 in
theorem x_item_l {K : ZKh} {P : Nat → Nat → List Value → List Value → ZMi → ZMl → ZMr → ZRt → Prop} {I : ZMi} {L : ZMl} {R : ZMr} {Q : ZRt} (hP : ZCl K P) (hK : zKa K) (hR : zRa R) {len : Nat} {T : Nat → Nat} (hT : zTx I len T) (hl : len ≤ 400) (h256 : ∀ i, T i < 256) {v : Nat} {u : ZU} (hv : zisW v) (hu : zCu I v u) (hub : zUb u) {p : Nat} (hp : p < len) (hmy : ¬ zmy (zto T len p) = 0) (h : ∀ I2, zfR v I I2 → (∀ u2 q, zit (zto T len) p u = some (u2, q) → zCu I2 v u2 ∧ I2 5 1 = nI q) → Q (some (.int (if (zit (zto T len) p u).isSome = true then 1 else 0))) I2 L R) : ∀ i, i ≤ (zmy (zto T len p)) → ∀ (I1 : ZMi) (q : ZFp), zfN I I1 ∧ zns (zto T len) (zmy (zto T len p)) (p + 1) i = some q ∧ I1 5 1 = nI q.2 ∧ (∀ j, j < i → I1 6 j = q.1 j) → P 29 35 [.ref 5, .ref 3, .ref v, .int (nI (zto T len p)), .int (nI (zmy (zto T len p))), .int (nI i)] [] I1 L R Q := by
  refine zloop (zmy (zto T len p)) (fun i => ∀ (I1 : ZMi) (q : ZFp), zfN I I1 ∧ zns (zto T len) (zmy (zto T len p)) (p + 1) i = some q ∧ I1 5 1 = nI q.2 ∧ (∀ j, j < i → I1 6 j = q.1 j) → P 29 35 [.ref 5, .ref 3, .ref v, .int (nI (zto T len p)), .int (nI (zmy (zto T len p))), .int (nI i)] [] I1 L R Q) ?_
  intro i hle ih I1 q hacc
  have hv39 := zW39 hv
  have hm5 := zmy_5 (zto T len p)
  have hqb := zns_le hacc.2.1
  refine r_il hP c29_35 rfl ?_
  refine r_il hP c29_37 rfl ?_
  refine r_ige hP c29_39 (fun h39 => ?_) (fun h39 => ?_)
  · have he : i = zmy (zto T len p) := Nat.le_antisymm hle ((nI_leI (by omega) (by omega)).mp h39)
    subst he
    have hq := hacc.2.1
    refine r_al hP c29_97 rfl ?_
    refine r_il hP c29_98 rfl ?_
    refine r_al hP c29_99 rfl ?_
    refine r_cVip (as := [.int (nI (zto T len p)), .ref v]) (r := []) (a := 5) hP c29_100 rfl (zj5 hK) rfl (fun z I2 L2 R2 => (z = (if (ztk u (zto T len p) q.1).isSome = true then 1 else 0) ∧ zfW v I1 I2 ∧ ∀ u2, ztk u (zto T len p) q.1 = some u2 → zCu I2 v u2) ∧ L = L2 ∧ R = R2) (fun Q2 hq2 => x_takeItem hP hK hR hv (zCu_to hu hub (fun a q1 q2 k => hacc.1 a k (by omega) (by omega))) hub (zto_b h256 p) hmy hacc.2.2.2 (fun I2 a b => hq2 _ I2 L R ⟨⟨rfl, a, b⟩, rfl, rfl⟩)) ?_
    rintro z I2 L2 R2 ⟨⟨rfl, ha, hb⟩, rfl, rfl⟩
    have hs := zit_is (u := u) hmy hq
    exact r_zrB hP c29_103 (by
      rw [← hs]
      exact h _ (zfR_t (zfR_N hacc.1) (zfR_W ha)) (fun u2 q2 z => by
        cases h2 : ztk u (zto T len p) q.1 with
        | none => rw [zit_n3 hq h2] at z; cases z
        | some u3 =>
          rw [zit_s hmy hq h2] at z
          cases z
          exact ⟨hb _ h2, (ha 5 1 (by omega)).trans hacc.2.2.1⟩))
  · have hlt : i < (zmy (zto T len p)) := by
      rcases Nat.lt_or_ge i (zmy (zto T len p)) with q | q
      · exact q
      · exact absurd (nI_le q (by omega)) h39
    refine r_al hP c29_42 rfl ?_
    refine r_al hP c29_43 rfl ?_
    refine r_il hP c29_44 rfl ?_
    refine r_cVip (as := [.ref 3, .int (nI i)]) (r := []) (a := 5) hP c29_46 rfl (zj5 hK) rfl (fun z I2 L2 R2 => (z = (if zn_k (zto T len) q.2 then 1 else 0) ∧ zfN I1 I2 ∧ (zn_k (zto T len) q.2 → I2 5 1 = nI (zn_e (zto T len) q.2) ∧ I2 6 i = zn_v (zto T len) q.2 ∧ ∀ j, j ≠ i → I2 6 j = I1 6 j)) ∧ L = L2 ∧ R = R2) (fun Q2 hq => x_readNumber hP hK hR (zTx_fN hT hacc.1) hl h256 hacc.2.2.1 (by omega) (by omega) (fun I2 a b => hq _ I2 L R ⟨⟨rfl, a, b⟩, rfl, rfl⟩)) ?_
    rintro z I2 L2 R2 ⟨⟨rfl, ha, hb⟩, rfl, rfl⟩
    refine r_ifeqB hP c29_49 (fun h49 => ?_) (fun h49 => ?_)
    · refine r_ic hP c29_79 ?_
      first
        | (have hz : zit (zto T len) p u = none := zit_n2 hlt (zns_n hacc.2.1 (if_neg (fun z => h49 z.1)))
           exact r_zr0 hP c29_80 (by rw [hz]; decide) (h _ (zfR_N (zfN_t hacc.1 ha)) (fun u2 q2 z => by rw [hz] at z; cases z)))
        | (have hz : zit (zto T len) p u = none := zit_n2 hlt (zns_n hacc.2.1 (if_neg (fun z => hdn z.2)))
           exact r_zr0 hP c29_80 (by rw [hz]; decide) (h _ (zfR_N (zfN_t hacc.1 ha)) (fun u2 q2 z => by rw [hz] at z; cases z)))
    · obtain ⟨g1, g2, g3⟩ := hb h49
      have hze := zn_e_le (zto T len) q.2
      refine r_al hP c29_52 rfl ?_
      refine r_al hP c29_53 rfl ?_
      refine r_gI (x := nI (zn_e (zto T len) q.2)) hP c29_54 (zj5 hK) g1 ?_
      refine r_cVi (as := [.int (nI (zn_e (zto T len) q.2))]) (r := []) (I' := I2) (L' := L) (R' := R) (x := zca T len (zn_e (zto T len) q.2)) (a := 3) hP c29_57 rfl (zj3 hK) rfl (fun _ hq => x_at hP hK hR (zTx_fN hT (zfN_t hacc.1 ha)) hl (by omega) hq) ?_
      refine r_il hP c29_60 rfl ?_
      refine r_ic hP c29_62 ?_
      refine r_iadd hP c29_63 ?_
      refine r_ti (y := nI (i + 1)) (nI_1 _) ?_
      refine r_il hP c29_64 rfl ?_
      refine r_ige hP c29_66 (fun h66 => ?_) (fun h66 => ?_)
      · have hdl : ¬ i + 1 < zmy (zto T len p) := by
          have := (nI_leI (by omega) (by omega)).mp h66
          omega
        have hde : (if i + 1 < zmy (zto T len p) then 44 else 59) = 59 := if_neg hdl
        refine r_ic hP c29_74 ?_
        refine r_ieq hP c29_76 (fun h76 => ?_) (fun h76 => ?_)
        · have hdd : (zto T len) (zn_e (zto T len) q.2) = (if i + 1 < zmy (zto T len p) then 44 else 59) := by rw [hde]; exact (zca_eq h256 (by decide) (by decide)).mp h76
          refine r_al hP c29_81 rfl ?_
          refine r_dup hP c29_82 rfl ?_
          refine r_gI (x := nI (zn_e (zto T len) q.2)) hP c29_83 (zj5 hK) g1 ?_
          refine r_ic hP c29_86 ?_
          refine r_iadd hP c29_87 ?_
          refine r_ti (y := nI ((zn_e (zto T len) q.2) + 1)) (nI_1 _) ?_
          refine r_pI hP c29_88 (zj5 hK) ?_
          refine r_inc (y := nI (i + 1)) (ls' := [.ref 5, .ref 3, .ref v, .int (nI (zto T len p)), .int (nI (zmy (zto T len p))), .int (nI (i + 1))]) hP c29_91 rfl (nI_1 _) rfl ?_
          refine r_goto hP c29_94 ?_
          exact ih hlt _ _ ⟨zfN_t hacc.1 (fun a k q1 q2 => (zup_n _ _ _ _ q1).trans (ha a k q1 q2)), zns_s hacc.2.1 (if_pos (And.intro h49 hdd)), zup_s _ _ _ _, fun j hj => by
            rcases Nat.lt_or_ge j i with z | z
            · rw [zup_n _ _ _ _ (by omega), g3 j (by omega), hacc.2.2.2 j z]
              exact (if_neg (by omega)).symm
            · have e : j = i := by omega
              subst e
              rw [zup_n _ _ _ _ (by omega), g2]
              exact (if_pos rfl).symm⟩
        · have hdn : ¬ (zto T len) (zn_e (zto T len) q.2) = (if i + 1 < zmy (zto T len p) then 44 else 59) := by rw [hde]; exact fun z => h76 ((zca_eq h256 (by decide) (by decide)).mpr z)
          refine r_ic hP c29_79 ?_
          first
            | (have hz : zit (zto T len) p u = none := zit_n2 hlt (zns_n hacc.2.1 (if_neg (fun z => h49 z.1)))
               exact r_zr0 hP c29_80 (by rw [hz]; decide) (h _ (zfR_N (zfN_t hacc.1 ha)) (fun u2 q2 z => by rw [hz] at z; cases z)))
            | (have hz : zit (zto T len) p u = none := zit_n2 hlt (zns_n hacc.2.1 (if_neg (fun z => hdn z.2)))
               exact r_zr0 hP c29_80 (by rw [hz]; decide) (h _ (zfR_N (zfN_t hacc.1 ha)) (fun u2 q2 z => by rw [hz] at z; cases z)))
      · have hdl : i + 1 < zmy (zto T len p) := by
          have := (not_congr (nI_leI (by omega) (by omega))).mp h66
          omega
        have hde : (if i + 1 < zmy (zto T len p) then 44 else 59) = 44 := if_pos hdl
        refine r_ic hP c29_69 ?_
        refine r_goto hP c29_71 ?_
        refine r_ieq hP c29_76 (fun h76 => ?_) (fun h76 => ?_)
        · have hdd : (zto T len) (zn_e (zto T len) q.2) = (if i + 1 < zmy (zto T len p) then 44 else 59) := by rw [hde]; exact (zca_eq h256 (by decide) (by decide)).mp h76
          refine r_al hP c29_81 rfl ?_
          refine r_dup hP c29_82 rfl ?_
          refine r_gI (x := nI (zn_e (zto T len) q.2)) hP c29_83 (zj5 hK) g1 ?_
          refine r_ic hP c29_86 ?_
          refine r_iadd hP c29_87 ?_
          refine r_ti (y := nI ((zn_e (zto T len) q.2) + 1)) (nI_1 _) ?_
          refine r_pI hP c29_88 (zj5 hK) ?_
          refine r_inc (y := nI (i + 1)) (ls' := [.ref 5, .ref 3, .ref v, .int (nI (zto T len p)), .int (nI (zmy (zto T len p))), .int (nI (i + 1))]) hP c29_91 rfl (nI_1 _) rfl ?_
          refine r_goto hP c29_94 ?_
          exact ih hlt _ _ ⟨zfN_t hacc.1 (fun a k q1 q2 => (zup_n _ _ _ _ q1).trans (ha a k q1 q2)), zns_s hacc.2.1 (if_pos (And.intro h49 hdd)), zup_s _ _ _ _, fun j hj => by
            rcases Nat.lt_or_ge j i with z | z
            · rw [zup_n _ _ _ _ (by omega), g3 j (by omega), hacc.2.2.2 j z]
              exact (if_neg (by omega)).symm
            · have e : j = i := by omega
              subst e
              rw [zup_n _ _ _ _ (by omega), g2]
              exact (if_pos rfl).symm⟩
        · have hdn : ¬ (zto T len) (zn_e (zto T len) q.2) = (if i + 1 < zmy (zto T len p) then 44 else 59) := by rw [hde]; exact fun z => h76 ((zca_eq h256 (by decide) (by decide)).mpr z)
          refine r_ic hP c29_79 ?_
          first
            | (have hz : zit (zto T len) p u = none := zit_n2 hlt (zns_n hacc.2.1 (if_neg (fun z => h49 z.1)))
               exact r_zr0 hP c29_80 (by rw [hz]; decide) (h _ (zfR_N (zfN_t hacc.1 ha)) (fun u2 q2 z => by rw [hz] at z; cases z)))
            | (have hz : zit (zto T len) p u = none := zit_n2 hlt (zns_n hacc.2.1 (if_neg (fun z => hdn z.2)))
               exact r_zr0 hP c29_80 (by rw [hz]; decide) (h _ (zfR_N (zfN_t hacc.1 ha)) (fun u2 q2 z => by rw [hz] at z; cases z)))
set_option maxRecDepth 4000 in
theorem x_readItem {K : ZKh} {P : Nat → Nat → List Value → List Value → ZMi → ZMl → ZMr → ZRt → Prop} {I : ZMi} {L : ZMl} {R : ZMr} {Q : ZRt} (hP : ZCl K P) (hK : zKa K) (hR : zRa R) {len : Nat} {T : Nat → Nat} (hT : zTx I len T) (hl : len ≤ 400) (h256 : ∀ i, T i < 256) {v : Nat} {u : ZU} (hv : zisW v) (hu : zCu I v u) (hub : zUb u) {p : Nat} (hp : p < len) (hpl : I 5 1 = nI p) (h : ∀ I2, zfR v I I2 → (∀ u2 q, zit (zto T len) p u = some (u2, q) → zCu I2 v u2 ∧ I2 5 1 = nI q) → Q (some (.int (if (zit (zto T len) p u).isSome = true then 1 else 0))) I2 L R) : P 29 0 [.ref 5, .ref 3, .ref v, .null, .null, .null] [] I L R Q := by
  have hm5 := zmy_5 (zto T len p)
  refine r_al hP c29_0 rfl ?_
  refine r_al hP c29_1 rfl ?_
  refine r_gI (x := nI p) hP c29_2 (zj5 hK) hpl ?_
  refine r_cVi (as := [.int (nI p)]) (r := []) (I' := I) (L' := L) (R' := R) (x := zca T len p) (a := 3) hP c29_5 rfl (zj3 hK) rfl (fun _ hq => x_at hP hK hR hT hl (by omega) hq) ?_
  refine r_ti (y := nI (zto T len p)) (zca_to hp) ?_
  refine r_is (ls' := [.ref 5, .ref 3, .ref v, .int (nI (zto T len p)), .null, .null]) hP c29_8 (Nat.le_of_ble_eq_true rfl) rfl ?_
  refine r_il hP c29_9 rfl ?_
  refine r_cSi (as := [.int (nI (zto T len p))]) (r := []) (I' := I) (L' := L) (R' := R) (x := nI (zmy (zto T len p))) hP c29_10 rfl rfl (fun _ hq => x_numbersOf hP (zto_b h256 p) hq) ?_
  refine r_is (ls' := [.ref 5, .ref 3, .ref v, .int (nI (zto T len p)), .int (nI (zmy (zto T len p))), .null]) hP c29_13 (Nat.le_of_ble_eq_true rfl) rfl ?_
  refine r_il hP c29_15 rfl ?_
  refine r_ifne hP c29_17 (fun h17 => ?_) (fun h17 => ?_)
  · have hmy : ¬ zmy (zto T len p) = 0 := fun z => h17 (by rw [z]; rfl)
    refine r_al hP c29_22 rfl ?_
    refine r_dup hP c29_23 rfl ?_
    refine r_gI (x := nI p) hP c29_24 (zj5 hK) hpl ?_
    refine r_ic hP c29_27 ?_
    refine r_iadd hP c29_28 ?_
    refine r_ti (y := nI (p + 1)) (nI_1 _) ?_
    refine r_pI hP c29_29 (zj5 hK) ?_
    refine r_ic hP c29_32 ?_
    refine r_is (ls' := [.ref 5, .ref 3, .ref v, .int (nI (zto T len p)), .int (nI (zmy (zto T len p))), .int 0]) hP c29_33 (Nat.le_of_ble_eq_true rfl) rfl ?_
    exact x_item_l hP hK hR hT hl h256 hv hu hub hp hmy h 0 (Nat.zero_le _) _ (fun _ => 0, p + 1) ⟨fun a k q1 q2 => zup_n _ _ _ _ q1, rfl, zup_s _ _ _ _, fun j hj => absurd hj (Nat.not_lt_zero j)⟩
  · have hmy : zmy (zto T len p) = 0 := (nI_eq (b := 0) (by omega) (by decide)).mp h17
    refine r_ic hP c29_20 ?_
    have hz : zit (zto T len) p u = none := zit_n1 hmy
    exact r_zr0 hP c29_21 (by rw [hz]; decide) (h _ (fun _ _ _ _ _ => rfl) (fun u2 q2 z => by rw [hz] at z; cases z))
theorem zne400 : ∀ p, p < 400 → ¬ nI p = -4 := by decide +kernel
set_option maxRecDepth 4000 in
theorem x_read_l {K : ZKh} {P : Nat → Nat → List Value → List Value → ZMi → ZMl → ZMr → ZRt → Prop} {I : ZMi} {L : ZMl} {R : ZMr} {Q : ZRt} (hP : ZCl K P) (hK : zKa K) (hR : zRa R) {len : Nat} {T : Nat → Nat} (hT : zTx I len T) (hl : len ≤ 400) (h256 : ∀ i, T i < 256) {v : Nat} (hv : zisW v) (h : ∀ I2, zfR v I I2 → ((zrd (zto T len) len 400 0 zu0).1 = -4 → zCu I2 v (zrd (zto T len) len 400 0 zu0).2) → Q (some (.int (zrd (zto T len) len 400 0 zu0).1)) I2 L R) : ∀ i, i ≤ 400 → ∀ (I1 : ZMi) (p : Nat) (u : ZU) (v4 : Value), zfR v I I1 ∧ I1 5 1 = nI p ∧ zCu I1 v u ∧ zUb u ∧ i ≤ p ∧ p ≤ 500 ∧ (zrd (zto T len) len 400 0 zu0) = zrd (zto T len) len (400 - i) p u → P 28 11 [.ref 5, .ref 3, .ref v, .int (nI i), v4] [] I1 L R Q := by
  refine zloop 400 (fun i => ∀ (I1 : ZMi) (p : Nat) (u : ZU) (v4 : Value), zfR v I I1 ∧ I1 5 1 = nI p ∧ zCu I1 v u ∧ zUb u ∧ i ≤ p ∧ p ≤ 500 ∧ (zrd (zto T len) len 400 0 zu0) = zrd (zto T len) len (400 - i) p u → P 28 11 [.ref 5, .ref 3, .ref v, .int (nI i), v4] [] I1 L R Q) ?_
  intro i hle ih I1 p u v4 hacc
  have hv39 := zW39 hv
  have hp500 := hacc.2.2.2.2.2.1
  refine r_il hP c28_11 rfl ?_
  refine r_ic hP c28_12 ?_
  refine r_ige hP c28_15 (fun h15 => ?_) (fun h15 => ?_)
  · have he : i = 400 := Nat.le_antisymm hle ((nI_leI (by omega) (by omega)).mp h15)
    have hge : len ≤ p := by have := hacc.2.2.2.2.1; omega
    refine r_ic hP c28_53 ?_
    have hz : (zrd (zto T len) len 400 0 zu0) = (-4, u) := by rw [hacc.2.2.2.2.2.2]; exact zrd_end hge _
    exact r_irE hP c28_55 (h _ hacc.1 (fun _ => by rw [hz]; exact hacc.2.2.1)) (by rw [hz])
  · have hlt : i < 400 := by
      rcases Nat.lt_or_ge i 400 with q | q
      · exact q
      · exact absurd (nI_le q (by omega)) h15
    refine r_al hP c28_18 rfl ?_
    refine r_gI (x := nI p) hP c28_19 (zj5 hK) hacc.2.1 ?_
    refine r_al hP c28_22 rfl ?_
    refine r_gI (x := nI len) hP c28_23 (zj3 hK) (zTx_fR hv hT hacc.1).1 ?_
    refine r_ige hP c28_26 (fun h26 => ?_) (fun h26 => ?_)
    · have hge : len ≤ p := (nI_leI (by omega) (by omega)).mp h26
      refine r_ic hP c28_53 ?_
      have hz : (zrd (zto T len) len 400 0 zu0) = (-4, u) := by rw [hacc.2.2.2.2.2.2]; exact zrd_end hge _
      exact r_irE hP c28_55 (h _ hacc.1 (fun _ => by rw [hz]; exact hacc.2.2.1)) (by rw [hz])
    · have hlt2 : p < len := by
        have := (not_congr (nI_leI (by omega) (by omega))).mp h26
        omega
      refine r_al hP c28_29 rfl ?_
      refine r_gI (x := nI p) hP c28_30 (zj5 hK) hacc.2.1 ?_
      refine r_is (ls' := [.ref 5, .ref 3, .ref v, .int (nI i), .int (nI p)]) hP c28_33 (Nat.le_of_ble_eq_true rfl) rfl ?_
      refine r_al hP c28_35 rfl ?_
      refine r_al hP c28_36 rfl ?_
      refine r_al hP c28_37 rfl ?_
      refine r_cVip (as := [.ref 3, .ref v]) (r := []) (a := 5) hP c28_38 rfl (zj5 hK) rfl (fun z I2 L2 R2 => (z = (if (zit (zto T len) p u).isSome = true then 1 else 0) ∧ zfR v I1 I2 ∧ ∀ u2 q, zit (zto T len) p u = some (u2, q) → zCu I2 v u2 ∧ I2 5 1 = nI q) ∧ L = L2 ∧ R = R2) (fun Q2 hq => x_readItem hP hK hR (zTx_fR hv hT hacc.1) hl h256 hv hacc.2.2.1 hacc.2.2.2.1 hlt2 hacc.2.1 (fun I2 a b => hq _ I2 L R ⟨⟨rfl, a, b⟩, rfl, rfl⟩)) ?_
      rintro z I2 L2 R2 ⟨⟨rfl, ha, hb⟩, rfl, rfl⟩
      refine r_ifneB hP c28_41 (fun h41 => ?_) (fun h41 => ?_)
      · refine r_inc (y := nI (i + 1)) (ls' := [.ref 5, .ref 3, .ref v, .int (nI (i + 1)), .int (nI p)]) hP c28_47 rfl (nI_1 _) rfl ?_
        refine r_goto hP c28_50 ?_
        obtain ⟨r, hr⟩ := Option.isSome_iff_exists.mp h41
        have hb2 := hb r.1 r.2 hr
        have hle2 := zit_le hr
        exact ih hlt _ r.2 r.1 _ ⟨zfR_t hacc.1 ha, hb2.2, hb2.1, zit_ub hacc.2.2.2.1 hr, by omega, by omega, by rw [hacc.2.2.2.2.2.2, show 400 - i = (400 - (i + 1)) + 1 from by omega]; exact zrd_s hlt2 hr⟩
      · refine r_il hP c28_44 rfl ?_
        have hn : zit (zto T len) p u = none := by
          cases hc : zit (zto T len) p u with
          | none => rfl
          | some r => rw [hc] at h41; exact absurd rfl h41
        have hz : (zrd (zto T len) len 400 0 zu0) = (nI p, u) := by rw [hacc.2.2.2.2.2.2, show 400 - i = (400 - (i + 1)) + 1 from by omega]; exact zrd_n hlt2 hn
        exact r_irE hP c28_46 (h _ (zfR_t hacc.1 ha) (fun z => by rw [hz] at z; exact absurd z (zne400 p (by omega)))) (by rw [hz])
theorem zub0 : zUb zu0 := ⟨Nat.zero_le _, Nat.zero_le _, Nat.zero_le _, Nat.zero_le _, Nat.zero_le _⟩
set_option maxRecDepth 4000 in
theorem x_read {K : ZKh} {P : Nat → Nat → List Value → List Value → ZMi → ZMl → ZMr → ZRt → Prop} {I : ZMi} {L : ZMl} {R : ZMr} {Q : ZRt} (hP : ZCl K P) (hK : zKa K) (hR : zRa R) {len : Nat} {T : Nat → Nat} (hT : zTx I len T) (hl : len ≤ 400) (h256 : ∀ i, T i < 256) {v : Nat} (hv : zisW v) (h : ∀ I2, zfR v I I2 → ((zrd (zto T len) len 400 0 zu0).1 = -4 → zCu I2 v (zrd (zto T len) len 400 0 zu0).2) → Q (some (.int (zrd (zto T len) len 400 0 zu0).1)) I2 L R) : P 28 0 [.ref 5, .ref 3, .ref v, .null, .null] [] I L R Q := by
  have hv39 := zW39 hv
  refine r_al hP c28_0 rfl ?_
  refine r_cVvp (as := []) (r := []) (a := v) hP c28_1 rfl (zj_W hK hv) rfl (fun I2 L2 R2 => (zfW v I I2 ∧ zCu I2 v zu0) ∧ L = L2 ∧ R = R2) (fun Q2 hq => x_clear hP hK hR hv (fun I2 a b => hq I2 L R ⟨⟨a, b⟩, rfl, rfl⟩)) ?_
  rintro I2 L2 R2 ⟨⟨ha, hb⟩, rfl, rfl⟩
  refine r_al hP c28_4 rfl ?_
  refine r_ic hP c28_5 ?_
  refine r_pI hP c28_6 (zj5 hK) ?_
  refine r_ic hP c28_9 ?_
  refine r_is (ls' := [.ref 5, .ref 3, .ref v, .int 0, .null]) hP c28_10 (Nat.le_of_ble_eq_true rfl) rfl ?_
  exact x_read_l hP hK hR hT hl h256 hv h 0 (Nat.zero_le _) _ 0 zu0 _ ⟨fun a k q1 q2 q3 => (zup_n _ _ _ _ q2).trans (ha a k q1), zup_s _ _ _ _, zCu_to hb zub0 (fun a q1 q2 k => zup_n _ _ _ _ (by omega)), zub0, Nat.le_refl _, by decide, rfl⟩
set_option maxRecDepth 4000 in
theorem x_fault {K : ZKh} {P : Nat → Nat → List Value → List Value → ZMi → ZMl → ZMr → ZRt → Prop} {I : ZMi} {L : ZMl} {R : ZMr} {Q : ZRt} (hP : ZCl K P) (hK : zKa K) (hR : zRa R) {len : Nat} {T : Nat → Nat} (hT : zTx I len T) (hl : len ≤ 400) (h256 : ∀ i, T i < 256) {v : Nat} (hv : zisW v) (hl10 : R 2 10 = v + 1) (h : ∀ I2, zfR v I I2 → Q (some (.int (zrd (zto T len) len 400 0 zu0).1)) I2 L R) : P 72 0 [.ref 2] [] I L R Q := by
  refine r_al hP c72_0 rfl ?_
  refine r_gR (x := 5) hP c72_1 (zj2 hK) (zr2_1 hR) ?_
  refine r_al hP c72_4 rfl ?_
  refine r_gR (x := 3) hP c72_5 (zj2 hK) (zr2_0 hR) ?_
  refine r_al hP c72_8 rfl ?_
  refine r_gR (x := v) hP c72_9 (zj2 hK) hl10 ?_
  refine r_cVip (as := [.ref 3, .ref v]) (r := []) (a := 5) hP c72_12 rfl (zj5 hK) rfl (fun z I2 L2 R2 => (z = (zrd (zto T len) len 400 0 zu0).1 ∧ zfR v I I2 ∧ ((zrd (zto T len) len 400 0 zu0).1 = -4 → zCu I2 v (zrd (zto T len) len 400 0 zu0).2)) ∧ L = L2 ∧ R = R2) (fun Q2 hq => x_read hP hK hR hT hl h256 hv (fun I2 a b => hq _ I2 L R ⟨⟨rfl, a, b⟩, rfl, rfl⟩)) ?_
  rintro z I2 L2 R2 ⟨⟨rfl, ha, hb⟩, rfl, rfl⟩
  exact r_irE hP c72_15 (h _ ha) rfl
