/-! ===== one word an instruction ===== -/
/-- instruction q of method k keeps to the machine -/
def zSn (k : Nat) (q : Nat × ZIns) : Prop := ∀ (l : Launch) (dC : Nat → ClassId) (dI : Nat → Nat → Nat) (cA : Nat → ClassId) (ad : Nat → Nat) (K : ZKh) (n : Nat) (E : ZMi) (A : Nat → Prop), zKn K n → ∀ (ls st : List Value) (I : ZMi) (L : ZMl) (R : ZMr) (Q : ZRt),
  q.2 K q.1 (fun pc ls st I L R => zSW l dC dI cA ad K n E A k pc ls st I L R Q) Q (fun k2 ls I L R Q2 => zSW l dC dI cA ad K n E A k2 0 ls [] I L R Q2) ls st I L R → zSW l dC dI cA ad K n E A k q.1 ls st I L R Q
def zfm (own : String) (idx : Nat) (ref name desc : String) : Prop := Cond.fieldLink own idx ref name desc ∈ zWS ∨ ∃ host, Cond.fieldLinkNest own idx ref name desc host ∈ zNW
def zmm (own : String) (idx : Nat) (y : MethodName) : Prop := Cond.methodLink own idx y ∈ zWS ∨ ∃ host, Cond.methodLinkNest own idx y host ∈ zNW
theorem zfm_use {own : String} {idx : Nat} {ref name desc : String} {args : Array Value} {s : State} (h : zfm own idx ref name desc) (hts : ∀ w ∈ zWS, w.before args s = true) (hn : ∀ w ∈ zNW, va_Nw w s) : zfl own idx ref name desc args s := by
  rcases h with h | ⟨host, h⟩
  · exact Or.inl (hts _ h)
  · exact Or.inr ⟨host, va_Nw.use rfl (hn _ h)⟩
theorem zmm_use {own : String} {idx : Nat} {y : MethodName} {args : Array Value} {s : State} (h : zmm own idx y) (hts : ∀ w ∈ zWS, w.before args s = true) (hn : ∀ w ∈ zNW, va_Nw w s) : zml2 own idx y args s := by
  rcases h with h | ⟨host, h⟩
  · exact Or.inl (hts _ h)
  · exact Or.inr ⟨host, va_Nw.use rfl (hn _ h)⟩
theorem w_iconst {k pc : Nat} {v : Int32} {j : Int} (hd : decode (zb k) pc = .ok (.iconst j, 1)) (hv : Int32.ofInt j = v) : zSn k (pc, z_ic v 1) := by
  intro l dC dI cA ad K n E A hKn ls st I L R Q h p e Rm s m args below meth c cells slots Z cX hR
  obtain ⟨hx, hb, hml, hown, hts, hWd, hfr, hlo, hce, hsl⟩ := id cX
  have hX := fun pc ls st I L R (q : zSW l dC dI cA ad K n E A k pc ls st I L R Q) => q p e Rm s m args below meth c cells slots Z cX hR
  have hC := fun (k2 : Nat) ls I L R Q (q : zSW l dC dI cA ad K n E A k2 0 ls [] I L R Q) => q
  exact sn_iconst (nx := fun pc ls st I L R => zSW l dC dI cA ad K n E A k pc ls st I L R Q) (rt := Q) (cx := fun k2 ls I L R Q2 => zSW l dC dI cA ad K n E A k2 0 ls [] I L R Q2) hx hb hd hv hX h
theorem w_bipush {k pc : Nat} {v : Int32} {j : Int} (hd : decode (zb k) pc = .ok (.bipush j, 2)) (hv : (Int8.ofInt j).toInt32 = v) : zSn k (pc, z_ic v 2) := by
  intro l dC dI cA ad K n E A hKn ls st I L R Q h p e Rm s m args below meth c cells slots Z cX hR
  obtain ⟨hx, hb, hml, hown, hts, hWd, hfr, hlo, hce, hsl⟩ := id cX
  have hX := fun pc ls st I L R (q : zSW l dC dI cA ad K n E A k pc ls st I L R Q) => q p e Rm s m args below meth c cells slots Z cX hR
  have hC := fun (k2 : Nat) ls I L R Q (q : zSW l dC dI cA ad K n E A k2 0 ls [] I L R Q) => q
  exact sn_bipush (nx := fun pc ls st I L R => zSW l dC dI cA ad K n E A k pc ls st I L R Q) (rt := Q) (cx := fun k2 ls I L R Q2 => zSW l dC dI cA ad K n E A k2 0 ls [] I L R Q2) hx hb hd hv hX h
theorem w_sipush {k pc : Nat} {v : Int32} {j : Int} (hd : decode (zb k) pc = .ok (.sipush j, 3)) (hv : (Int16.ofInt j).toInt32 = v) : zSn k (pc, z_ic v 3) := by
  intro l dC dI cA ad K n E A hKn ls st I L R Q h p e Rm s m args below meth c cells slots Z cX hR
  obtain ⟨hx, hb, hml, hown, hts, hWd, hfr, hlo, hce, hsl⟩ := id cX
  have hX := fun pc ls st I L R (q : zSW l dC dI cA ad K n E A k pc ls st I L R Q) => q p e Rm s m args below meth c cells slots Z cX hR
  have hC := fun (k2 : Nat) ls I L R Q (q : zSW l dC dI cA ad K n E A k2 0 ls [] I L R Q) => q
  exact sn_sipush (nx := fun pc ls st I L R => zSW l dC dI cA ad K n E A k pc ls st I L R Q) (rt := Q) (cx := fun k2 ls I L R Q2 => zSW l dC dI cA ad K n E A k2 0 ls [] I L R Q2) hx hb hd hv hX h
theorem w_lconst {k pc : Nat} {v : Int64} {j : Fin 2} (hd : decode (zb k) pc = .ok (.lconst j, 1)) (hv : Int64.ofNat (j : Nat) = v) : zSn k (pc, z_lc v 1) := by
  intro l dC dI cA ad K n E A hKn ls st I L R Q h p e Rm s m args below meth c cells slots Z cX hR
  obtain ⟨hx, hb, hml, hown, hts, hWd, hfr, hlo, hce, hsl⟩ := id cX
  have hX := fun pc ls st I L R (q : zSW l dC dI cA ad K n E A k pc ls st I L R Q) => q p e Rm s m args below meth c cells slots Z cX hR
  have hC := fun (k2 : Nat) ls I L R Q (q : zSW l dC dI cA ad K n E A k2 0 ls [] I L R Q) => q
  exact sn_lconst (nx := fun pc ls st I L R => zSW l dC dI cA ad K n E A k pc ls st I L R Q) (rt := Q) (cx := fun k2 ls I L R Q2 => zSW l dC dI cA ad K n E A k2 0 ls [] I L R Q2) hx hb hd hv hX h
theorem w_ldc {k pc : Nat} {own : String} (ho : (zy k).cls = own) {v : Int32} {idx : Nat} (hc : Cond.constant own idx v ∈ zWS) (hd : decode (zb k) pc = .ok (.ldc idx, 2)) : zSn k (pc, z_ic v 2) := by
  intro l dC dI cA ad K n E A hKn ls st I L R Q h p e Rm s m args below meth c cells slots Z cX hR
  obtain ⟨hx, hb, hml, hown, hts, hWd, hfr, hlo, hce, hsl⟩ := id cX
  have hX := fun pc ls st I L R (q : zSW l dC dI cA ad K n E A k pc ls st I L R Q) => q p e Rm s m args below meth c cells slots Z cX hR
  have hC := fun (k2 : Nat) ls I L R Q (q : zSW l dC dI cA ad K n E A k2 0 ls [] I L R Q) => q
  exact sn_ldc (nx := fun pc ls st I L R => zSW l dC dI cA ad K n E A k pc ls st I L R Q) (rt := Q) (cx := fun k2 ls I L R Q2 => zSW l dC dI cA ad K n E A k2 0 ls [] I L R Q2) hx hb (ho ▸ hown) (hts _ hc) hd hX h
theorem w_ldcw {k pc : Nat} {own : String} (ho : (zy k).cls = own) {v : Int32} {idx : Nat} (hc : Cond.constant own idx v ∈ zWS) (hd : decode (zb k) pc = .ok (.ldc_w idx, 3)) : zSn k (pc, z_ic v 3) := by
  intro l dC dI cA ad K n E A hKn ls st I L R Q h p e Rm s m args below meth c cells slots Z cX hR
  obtain ⟨hx, hb, hml, hown, hts, hWd, hfr, hlo, hce, hsl⟩ := id cX
  have hX := fun pc ls st I L R (q : zSW l dC dI cA ad K n E A k pc ls st I L R Q) => q p e Rm s m args below meth c cells slots Z cX hR
  have hC := fun (k2 : Nat) ls I L R Q (q : zSW l dC dI cA ad K n E A k2 0 ls [] I L R Q) => q
  exact sn_ldcw (nx := fun pc ls st I L R => zSW l dC dI cA ad K n E A k pc ls st I L R Q) (rt := Q) (cx := fun k2 ls I L R Q2 => zSW l dC dI cA ad K n E A k2 0 ls [] I L R Q2) hx hb (ho ▸ hown) (hts _ hc) hd hX h
theorem w_ldc2 {k pc : Nat} {own : String} (ho : (zy k).cls = own) {v : Int64} {idx : Nat} (hc : Cond.constantLong own idx v ∈ zWS) (hd : decode (zb k) pc = .ok (.ldc2_w idx, 3)) : zSn k (pc, z_lc v 3) := by
  intro l dC dI cA ad K n E A hKn ls st I L R Q h p e Rm s m args below meth c cells slots Z cX hR
  obtain ⟨hx, hb, hml, hown, hts, hWd, hfr, hlo, hce, hsl⟩ := id cX
  have hX := fun pc ls st I L R (q : zSW l dC dI cA ad K n E A k pc ls st I L R Q) => q p e Rm s m args below meth c cells slots Z cX hR
  have hC := fun (k2 : Nat) ls I L R Q (q : zSW l dC dI cA ad K n E A k2 0 ls [] I L R Q) => q
  exact sn_ldc2 (nx := fun pc ls st I L R => zSW l dC dI cA ad K n E A k pc ls st I L R Q) (rt := Q) (cx := fun k2 ls I L R Q2 => zSW l dC dI cA ad K n E A k2 0 ls [] I L R Q2) hx hb (ho ▸ hown) (hts _ hc) hd hX h
theorem w_iload {k pc : Nat} {i : Nat} (hd : decode (zb k) pc = .ok (.iload i, 2)) : zSn k (pc, z_il i 2) := by
  intro l dC dI cA ad K n E A hKn ls st I L R Q h p e Rm s m args below meth c cells slots Z cX hR
  obtain ⟨hx, hb, hml, hown, hts, hWd, hfr, hlo, hce, hsl⟩ := id cX
  have hX := fun pc ls st I L R (q : zSW l dC dI cA ad K n E A k pc ls st I L R Q) => q p e Rm s m args below meth c cells slots Z cX hR
  have hC := fun (k2 : Nat) ls I L R Q (q : zSW l dC dI cA ad K n E A k2 0 ls [] I L R Q) => q
  exact sn_iload (nx := fun pc ls st I L R => zSW l dC dI cA ad K n E A k pc ls st I L R Q) (rt := Q) (cx := fun k2 ls I L R Q2 => zSW l dC dI cA ad K n E A k2 0 ls [] I L R Q2) hx hb hd hX h
theorem w_iload_n {k pc : Nat} {i : Nat} {j : Fin 4} (hd : decode (zb k) pc = .ok (.iload_n j, 1)) (hj : (j : Nat) = i) : zSn k (pc, z_il i 1) := by
  intro l dC dI cA ad K n E A hKn ls st I L R Q h p e Rm s m args below meth c cells slots Z cX hR
  obtain ⟨hx, hb, hml, hown, hts, hWd, hfr, hlo, hce, hsl⟩ := id cX
  have hX := fun pc ls st I L R (q : zSW l dC dI cA ad K n E A k pc ls st I L R Q) => q p e Rm s m args below meth c cells slots Z cX hR
  have hC := fun (k2 : Nat) ls I L R Q (q : zSW l dC dI cA ad K n E A k2 0 ls [] I L R Q) => q
  exact sn_iload_n (nx := fun pc ls st I L R => zSW l dC dI cA ad K n E A k pc ls st I L R Q) (rt := Q) (cx := fun k2 ls I L R Q2 => zSW l dC dI cA ad K n E A k2 0 ls [] I L R Q2) hx hb hd hj hX h
theorem w_lload {k pc : Nat} {i : Nat} (hd : decode (zb k) pc = .ok (.lload i, 2)) : zSn k (pc, z_ll i 2) := by
  intro l dC dI cA ad K n E A hKn ls st I L R Q h p e Rm s m args below meth c cells slots Z cX hR
  obtain ⟨hx, hb, hml, hown, hts, hWd, hfr, hlo, hce, hsl⟩ := id cX
  have hX := fun pc ls st I L R (q : zSW l dC dI cA ad K n E A k pc ls st I L R Q) => q p e Rm s m args below meth c cells slots Z cX hR
  have hC := fun (k2 : Nat) ls I L R Q (q : zSW l dC dI cA ad K n E A k2 0 ls [] I L R Q) => q
  exact sn_lload (nx := fun pc ls st I L R => zSW l dC dI cA ad K n E A k pc ls st I L R Q) (rt := Q) (cx := fun k2 ls I L R Q2 => zSW l dC dI cA ad K n E A k2 0 ls [] I L R Q2) hx hb hd hX h
theorem w_lload_n {k pc : Nat} {i : Nat} {j : Fin 4} (hd : decode (zb k) pc = .ok (.lload_n j, 1)) (hj : (j : Nat) = i) : zSn k (pc, z_ll i 1) := by
  intro l dC dI cA ad K n E A hKn ls st I L R Q h p e Rm s m args below meth c cells slots Z cX hR
  obtain ⟨hx, hb, hml, hown, hts, hWd, hfr, hlo, hce, hsl⟩ := id cX
  have hX := fun pc ls st I L R (q : zSW l dC dI cA ad K n E A k pc ls st I L R Q) => q p e Rm s m args below meth c cells slots Z cX hR
  have hC := fun (k2 : Nat) ls I L R Q (q : zSW l dC dI cA ad K n E A k2 0 ls [] I L R Q) => q
  exact sn_lload_n (nx := fun pc ls st I L R => zSW l dC dI cA ad K n E A k pc ls st I L R Q) (rt := Q) (cx := fun k2 ls I L R Q2 => zSW l dC dI cA ad K n E A k2 0 ls [] I L R Q2) hx hb hd hj hX h
theorem w_aload {k pc : Nat} {i : Nat} (hd : decode (zb k) pc = .ok (.aload i, 2)) : zSn k (pc, z_al i 2) := by
  intro l dC dI cA ad K n E A hKn ls st I L R Q h p e Rm s m args below meth c cells slots Z cX hR
  obtain ⟨hx, hb, hml, hown, hts, hWd, hfr, hlo, hce, hsl⟩ := id cX
  have hX := fun pc ls st I L R (q : zSW l dC dI cA ad K n E A k pc ls st I L R Q) => q p e Rm s m args below meth c cells slots Z cX hR
  have hC := fun (k2 : Nat) ls I L R Q (q : zSW l dC dI cA ad K n E A k2 0 ls [] I L R Q) => q
  exact sn_aload (nx := fun pc ls st I L R => zSW l dC dI cA ad K n E A k pc ls st I L R Q) (rt := Q) (cx := fun k2 ls I L R Q2 => zSW l dC dI cA ad K n E A k2 0 ls [] I L R Q2) hx hb hd hX h
theorem w_aload_n {k pc : Nat} {i : Nat} {j : Fin 4} (hd : decode (zb k) pc = .ok (.aload_n j, 1)) (hj : (j : Nat) = i) : zSn k (pc, z_al i 1) := by
  intro l dC dI cA ad K n E A hKn ls st I L R Q h p e Rm s m args below meth c cells slots Z cX hR
  obtain ⟨hx, hb, hml, hown, hts, hWd, hfr, hlo, hce, hsl⟩ := id cX
  have hX := fun pc ls st I L R (q : zSW l dC dI cA ad K n E A k pc ls st I L R Q) => q p e Rm s m args below meth c cells slots Z cX hR
  have hC := fun (k2 : Nat) ls I L R Q (q : zSW l dC dI cA ad K n E A k2 0 ls [] I L R Q) => q
  exact sn_aload_n (nx := fun pc ls st I L R => zSW l dC dI cA ad K n E A k pc ls st I L R Q) (rt := Q) (cx := fun k2 ls I L R Q2 => zSW l dC dI cA ad K n E A k2 0 ls [] I L R Q2) hx hb hd hj hX h
theorem w_istore {k pc : Nat} {i : Nat} (hd : decode (zb k) pc = .ok (.istore i, 2)) : zSn k (pc, z_is i 2) := by
  intro l dC dI cA ad K n E A hKn ls st I L R Q h p e Rm s m args below meth c cells slots Z cX hR
  obtain ⟨hx, hb, hml, hown, hts, hWd, hfr, hlo, hce, hsl⟩ := id cX
  have hX := fun pc ls st I L R (q : zSW l dC dI cA ad K n E A k pc ls st I L R Q) => q p e Rm s m args below meth c cells slots Z cX hR
  have hC := fun (k2 : Nat) ls I L R Q (q : zSW l dC dI cA ad K n E A k2 0 ls [] I L R Q) => q
  exact sn_istore (nx := fun pc ls st I L R => zSW l dC dI cA ad K n E A k pc ls st I L R Q) (rt := Q) (cx := fun k2 ls I L R Q2 => zSW l dC dI cA ad K n E A k2 0 ls [] I L R Q2) hx hb hd hX h
theorem w_istore_n {k pc : Nat} {i : Nat} {j : Fin 4} (hd : decode (zb k) pc = .ok (.istore_n j, 1)) (hj : (j : Nat) = i) : zSn k (pc, z_is i 1) := by
  intro l dC dI cA ad K n E A hKn ls st I L R Q h p e Rm s m args below meth c cells slots Z cX hR
  obtain ⟨hx, hb, hml, hown, hts, hWd, hfr, hlo, hce, hsl⟩ := id cX
  have hX := fun pc ls st I L R (q : zSW l dC dI cA ad K n E A k pc ls st I L R Q) => q p e Rm s m args below meth c cells slots Z cX hR
  have hC := fun (k2 : Nat) ls I L R Q (q : zSW l dC dI cA ad K n E A k2 0 ls [] I L R Q) => q
  exact sn_istore_n (nx := fun pc ls st I L R => zSW l dC dI cA ad K n E A k pc ls st I L R Q) (rt := Q) (cx := fun k2 ls I L R Q2 => zSW l dC dI cA ad K n E A k2 0 ls [] I L R Q2) hx hb hd hj hX h
theorem w_lstore {k pc : Nat} {i : Nat} (hd : decode (zb k) pc = .ok (.lstore i, 2)) : zSn k (pc, z_ls i 2) := by
  intro l dC dI cA ad K n E A hKn ls st I L R Q h p e Rm s m args below meth c cells slots Z cX hR
  obtain ⟨hx, hb, hml, hown, hts, hWd, hfr, hlo, hce, hsl⟩ := id cX
  have hX := fun pc ls st I L R (q : zSW l dC dI cA ad K n E A k pc ls st I L R Q) => q p e Rm s m args below meth c cells slots Z cX hR
  have hC := fun (k2 : Nat) ls I L R Q (q : zSW l dC dI cA ad K n E A k2 0 ls [] I L R Q) => q
  exact sn_lstore (nx := fun pc ls st I L R => zSW l dC dI cA ad K n E A k pc ls st I L R Q) (rt := Q) (cx := fun k2 ls I L R Q2 => zSW l dC dI cA ad K n E A k2 0 ls [] I L R Q2) hx hb hd hX h
theorem w_lstore_n {k pc : Nat} {i : Nat} {j : Fin 4} (hd : decode (zb k) pc = .ok (.lstore_n j, 1)) (hj : (j : Nat) = i) : zSn k (pc, z_ls i 1) := by
  intro l dC dI cA ad K n E A hKn ls st I L R Q h p e Rm s m args below meth c cells slots Z cX hR
  obtain ⟨hx, hb, hml, hown, hts, hWd, hfr, hlo, hce, hsl⟩ := id cX
  have hX := fun pc ls st I L R (q : zSW l dC dI cA ad K n E A k pc ls st I L R Q) => q p e Rm s m args below meth c cells slots Z cX hR
  have hC := fun (k2 : Nat) ls I L R Q (q : zSW l dC dI cA ad K n E A k2 0 ls [] I L R Q) => q
  exact sn_lstore_n (nx := fun pc ls st I L R => zSW l dC dI cA ad K n E A k pc ls st I L R Q) (rt := Q) (cx := fun k2 ls I L R Q2 => zSW l dC dI cA ad K n E A k2 0 ls [] I L R Q2) hx hb hd hj hX h
theorem w_astore {k pc : Nat} {i : Nat} (hd : decode (zb k) pc = .ok (.astore i, 2)) : zSn k (pc, z_as i 2) := by
  intro l dC dI cA ad K n E A hKn ls st I L R Q h p e Rm s m args below meth c cells slots Z cX hR
  obtain ⟨hx, hb, hml, hown, hts, hWd, hfr, hlo, hce, hsl⟩ := id cX
  have hX := fun pc ls st I L R (q : zSW l dC dI cA ad K n E A k pc ls st I L R Q) => q p e Rm s m args below meth c cells slots Z cX hR
  have hC := fun (k2 : Nat) ls I L R Q (q : zSW l dC dI cA ad K n E A k2 0 ls [] I L R Q) => q
  exact sn_astore (nx := fun pc ls st I L R => zSW l dC dI cA ad K n E A k pc ls st I L R Q) (rt := Q) (cx := fun k2 ls I L R Q2 => zSW l dC dI cA ad K n E A k2 0 ls [] I L R Q2) hx hb hd hX h
theorem w_astore_n {k pc : Nat} {i : Nat} {j : Fin 4} (hd : decode (zb k) pc = .ok (.astore_n j, 1)) (hj : (j : Nat) = i) : zSn k (pc, z_as i 1) := by
  intro l dC dI cA ad K n E A hKn ls st I L R Q h p e Rm s m args below meth c cells slots Z cX hR
  obtain ⟨hx, hb, hml, hown, hts, hWd, hfr, hlo, hce, hsl⟩ := id cX
  have hX := fun pc ls st I L R (q : zSW l dC dI cA ad K n E A k pc ls st I L R Q) => q p e Rm s m args below meth c cells slots Z cX hR
  have hC := fun (k2 : Nat) ls I L R Q (q : zSW l dC dI cA ad K n E A k2 0 ls [] I L R Q) => q
  exact sn_astore_n (nx := fun pc ls st I L R => zSW l dC dI cA ad K n E A k pc ls st I L R Q) (rt := Q) (cx := fun k2 ls I L R Q2 => zSW l dC dI cA ad K n E A k2 0 ls [] I L R Q2) hx hb hd hj hX h
theorem w_iinc {k pc : Nat} {i : Nat} {d : Int32} {j : Int} (hd : decode (zb k) pc = .ok (.iinc i j, 3)) (hj : Int32.ofInt j = d) : zSn k (pc, z_inc i d) := by
  intro l dC dI cA ad K n E A hKn ls st I L R Q h p e Rm s m args below meth c cells slots Z cX hR
  obtain ⟨hx, hb, hml, hown, hts, hWd, hfr, hlo, hce, hsl⟩ := id cX
  have hX := fun pc ls st I L R (q : zSW l dC dI cA ad K n E A k pc ls st I L R Q) => q p e Rm s m args below meth c cells slots Z cX hR
  have hC := fun (k2 : Nat) ls I L R Q (q : zSW l dC dI cA ad K n E A k2 0 ls [] I L R Q) => q
  exact sn_iinc (nx := fun pc ls st I L R => zSW l dC dI cA ad K n E A k pc ls st I L R Q) (rt := Q) (cx := fun k2 ls I L R Q2 => zSW l dC dI cA ad K n E A k2 0 ls [] I L R Q2) hx hb hd hj hX h
theorem w_iadd {k pc : Nat} (hd : decode (zb k) pc = .ok (.iadd, 1)) : zSn k (pc, z_iadd) := by
  intro l dC dI cA ad K n E A hKn ls st I L R Q h p e Rm s m args below meth c cells slots Z cX hR
  obtain ⟨hx, hb, hml, hown, hts, hWd, hfr, hlo, hce, hsl⟩ := id cX
  have hX := fun pc ls st I L R (q : zSW l dC dI cA ad K n E A k pc ls st I L R Q) => q p e Rm s m args below meth c cells slots Z cX hR
  have hC := fun (k2 : Nat) ls I L R Q (q : zSW l dC dI cA ad K n E A k2 0 ls [] I L R Q) => q
  exact sn_iadd (nx := fun pc ls st I L R => zSW l dC dI cA ad K n E A k pc ls st I L R Q) (rt := Q) (cx := fun k2 ls I L R Q2 => zSW l dC dI cA ad K n E A k2 0 ls [] I L R Q2) hx hb hd hX h
theorem w_isub {k pc : Nat} (hd : decode (zb k) pc = .ok (.isub, 1)) : zSn k (pc, z_isub) := by
  intro l dC dI cA ad K n E A hKn ls st I L R Q h p e Rm s m args below meth c cells slots Z cX hR
  obtain ⟨hx, hb, hml, hown, hts, hWd, hfr, hlo, hce, hsl⟩ := id cX
  have hX := fun pc ls st I L R (q : zSW l dC dI cA ad K n E A k pc ls st I L R Q) => q p e Rm s m args below meth c cells slots Z cX hR
  have hC := fun (k2 : Nat) ls I L R Q (q : zSW l dC dI cA ad K n E A k2 0 ls [] I L R Q) => q
  exact sn_isub (nx := fun pc ls st I L R => zSW l dC dI cA ad K n E A k pc ls st I L R Q) (rt := Q) (cx := fun k2 ls I L R Q2 => zSW l dC dI cA ad K n E A k2 0 ls [] I L R Q2) hx hb hd hX h
theorem w_imul {k pc : Nat} (hd : decode (zb k) pc = .ok (.imul, 1)) : zSn k (pc, z_imul) := by
  intro l dC dI cA ad K n E A hKn ls st I L R Q h p e Rm s m args below meth c cells slots Z cX hR
  obtain ⟨hx, hb, hml, hown, hts, hWd, hfr, hlo, hce, hsl⟩ := id cX
  have hX := fun pc ls st I L R (q : zSW l dC dI cA ad K n E A k pc ls st I L R Q) => q p e Rm s m args below meth c cells slots Z cX hR
  have hC := fun (k2 : Nat) ls I L R Q (q : zSW l dC dI cA ad K n E A k2 0 ls [] I L R Q) => q
  exact sn_imul (nx := fun pc ls st I L R => zSW l dC dI cA ad K n E A k pc ls st I L R Q) (rt := Q) (cx := fun k2 ls I L R Q2 => zSW l dC dI cA ad K n E A k2 0 ls [] I L R Q2) hx hb hd hX h
theorem w_iand {k pc : Nat} (hd : decode (zb k) pc = .ok (.iand, 1)) : zSn k (pc, z_iand) := by
  intro l dC dI cA ad K n E A hKn ls st I L R Q h p e Rm s m args below meth c cells slots Z cX hR
  obtain ⟨hx, hb, hml, hown, hts, hWd, hfr, hlo, hce, hsl⟩ := id cX
  have hX := fun pc ls st I L R (q : zSW l dC dI cA ad K n E A k pc ls st I L R Q) => q p e Rm s m args below meth c cells slots Z cX hR
  have hC := fun (k2 : Nat) ls I L R Q (q : zSW l dC dI cA ad K n E A k2 0 ls [] I L R Q) => q
  exact sn_iand (nx := fun pc ls st I L R => zSW l dC dI cA ad K n E A k pc ls st I L R Q) (rt := Q) (cx := fun k2 ls I L R Q2 => zSW l dC dI cA ad K n E A k2 0 ls [] I L R Q2) hx hb hd hX h
theorem w_ior {k pc : Nat} (hd : decode (zb k) pc = .ok (.ior, 1)) : zSn k (pc, z_ior) := by
  intro l dC dI cA ad K n E A hKn ls st I L R Q h p e Rm s m args below meth c cells slots Z cX hR
  obtain ⟨hx, hb, hml, hown, hts, hWd, hfr, hlo, hce, hsl⟩ := id cX
  have hX := fun pc ls st I L R (q : zSW l dC dI cA ad K n E A k pc ls st I L R Q) => q p e Rm s m args below meth c cells slots Z cX hR
  have hC := fun (k2 : Nat) ls I L R Q (q : zSW l dC dI cA ad K n E A k2 0 ls [] I L R Q) => q
  exact sn_ior (nx := fun pc ls st I L R => zSW l dC dI cA ad K n E A k pc ls st I L R Q) (rt := Q) (cx := fun k2 ls I L R Q2 => zSW l dC dI cA ad K n E A k2 0 ls [] I L R Q2) hx hb hd hX h
theorem w_ixor {k pc : Nat} (hd : decode (zb k) pc = .ok (.ixor, 1)) : zSn k (pc, z_ixor) := by
  intro l dC dI cA ad K n E A hKn ls st I L R Q h p e Rm s m args below meth c cells slots Z cX hR
  obtain ⟨hx, hb, hml, hown, hts, hWd, hfr, hlo, hce, hsl⟩ := id cX
  have hX := fun pc ls st I L R (q : zSW l dC dI cA ad K n E A k pc ls st I L R Q) => q p e Rm s m args below meth c cells slots Z cX hR
  have hC := fun (k2 : Nat) ls I L R Q (q : zSW l dC dI cA ad K n E A k2 0 ls [] I L R Q) => q
  exact sn_ixor (nx := fun pc ls st I L R => zSW l dC dI cA ad K n E A k pc ls st I L R Q) (rt := Q) (cx := fun k2 ls I L R Q2 => zSW l dC dI cA ad K n E A k2 0 ls [] I L R Q2) hx hb hd hX h
theorem w_ineg {k pc : Nat} (hd : decode (zb k) pc = .ok (.ineg, 1)) : zSn k (pc, z_ineg) := by
  intro l dC dI cA ad K n E A hKn ls st I L R Q h p e Rm s m args below meth c cells slots Z cX hR
  obtain ⟨hx, hb, hml, hown, hts, hWd, hfr, hlo, hce, hsl⟩ := id cX
  have hX := fun pc ls st I L R (q : zSW l dC dI cA ad K n E A k pc ls st I L R Q) => q p e Rm s m args below meth c cells slots Z cX hR
  have hC := fun (k2 : Nat) ls I L R Q (q : zSW l dC dI cA ad K n E A k2 0 ls [] I L R Q) => q
  exact sn_ineg (nx := fun pc ls st I L R => zSW l dC dI cA ad K n E A k pc ls st I L R Q) (rt := Q) (cx := fun k2 ls I L R Q2 => zSW l dC dI cA ad K n E A k2 0 ls [] I L R Q2) hx hb hd hX h
theorem w_ishl {k pc : Nat} (hd : decode (zb k) pc = .ok (.ishl, 1)) : zSn k (pc, z_ishl) := by
  intro l dC dI cA ad K n E A hKn ls st I L R Q h p e Rm s m args below meth c cells slots Z cX hR
  obtain ⟨hx, hb, hml, hown, hts, hWd, hfr, hlo, hce, hsl⟩ := id cX
  have hX := fun pc ls st I L R (q : zSW l dC dI cA ad K n E A k pc ls st I L R Q) => q p e Rm s m args below meth c cells slots Z cX hR
  have hC := fun (k2 : Nat) ls I L R Q (q : zSW l dC dI cA ad K n E A k2 0 ls [] I L R Q) => q
  exact sn_ishl (nx := fun pc ls st I L R => zSW l dC dI cA ad K n E A k pc ls st I L R Q) (rt := Q) (cx := fun k2 ls I L R Q2 => zSW l dC dI cA ad K n E A k2 0 ls [] I L R Q2) hx hb hd hX h
theorem w_ishr {k pc : Nat} (hd : decode (zb k) pc = .ok (.ishr, 1)) : zSn k (pc, z_ishr) := by
  intro l dC dI cA ad K n E A hKn ls st I L R Q h p e Rm s m args below meth c cells slots Z cX hR
  obtain ⟨hx, hb, hml, hown, hts, hWd, hfr, hlo, hce, hsl⟩ := id cX
  have hX := fun pc ls st I L R (q : zSW l dC dI cA ad K n E A k pc ls st I L R Q) => q p e Rm s m args below meth c cells slots Z cX hR
  have hC := fun (k2 : Nat) ls I L R Q (q : zSW l dC dI cA ad K n E A k2 0 ls [] I L R Q) => q
  exact sn_ishr (nx := fun pc ls st I L R => zSW l dC dI cA ad K n E A k pc ls st I L R Q) (rt := Q) (cx := fun k2 ls I L R Q2 => zSW l dC dI cA ad K n E A k2 0 ls [] I L R Q2) hx hb hd hX h
theorem w_ladd {k pc : Nat} (hd : decode (zb k) pc = .ok (.ladd, 1)) : zSn k (pc, z_ladd) := by
  intro l dC dI cA ad K n E A hKn ls st I L R Q h p e Rm s m args below meth c cells slots Z cX hR
  obtain ⟨hx, hb, hml, hown, hts, hWd, hfr, hlo, hce, hsl⟩ := id cX
  have hX := fun pc ls st I L R (q : zSW l dC dI cA ad K n E A k pc ls st I L R Q) => q p e Rm s m args below meth c cells slots Z cX hR
  have hC := fun (k2 : Nat) ls I L R Q (q : zSW l dC dI cA ad K n E A k2 0 ls [] I L R Q) => q
  exact sn_ladd (nx := fun pc ls st I L R => zSW l dC dI cA ad K n E A k pc ls st I L R Q) (rt := Q) (cx := fun k2 ls I L R Q2 => zSW l dC dI cA ad K n E A k2 0 ls [] I L R Q2) hx hb hd hX h
theorem w_lsub {k pc : Nat} (hd : decode (zb k) pc = .ok (.lsub, 1)) : zSn k (pc, z_lsub) := by
  intro l dC dI cA ad K n E A hKn ls st I L R Q h p e Rm s m args below meth c cells slots Z cX hR
  obtain ⟨hx, hb, hml, hown, hts, hWd, hfr, hlo, hce, hsl⟩ := id cX
  have hX := fun pc ls st I L R (q : zSW l dC dI cA ad K n E A k pc ls st I L R Q) => q p e Rm s m args below meth c cells slots Z cX hR
  have hC := fun (k2 : Nat) ls I L R Q (q : zSW l dC dI cA ad K n E A k2 0 ls [] I L R Q) => q
  exact sn_lsub (nx := fun pc ls st I L R => zSW l dC dI cA ad K n E A k pc ls st I L R Q) (rt := Q) (cx := fun k2 ls I L R Q2 => zSW l dC dI cA ad K n E A k2 0 ls [] I L R Q2) hx hb hd hX h
theorem w_lmul {k pc : Nat} (hd : decode (zb k) pc = .ok (.lmul, 1)) : zSn k (pc, z_lmul) := by
  intro l dC dI cA ad K n E A hKn ls st I L R Q h p e Rm s m args below meth c cells slots Z cX hR
  obtain ⟨hx, hb, hml, hown, hts, hWd, hfr, hlo, hce, hsl⟩ := id cX
  have hX := fun pc ls st I L R (q : zSW l dC dI cA ad K n E A k pc ls st I L R Q) => q p e Rm s m args below meth c cells slots Z cX hR
  have hC := fun (k2 : Nat) ls I L R Q (q : zSW l dC dI cA ad K n E A k2 0 ls [] I L R Q) => q
  exact sn_lmul (nx := fun pc ls st I L R => zSW l dC dI cA ad K n E A k pc ls st I L R Q) (rt := Q) (cx := fun k2 ls I L R Q2 => zSW l dC dI cA ad K n E A k2 0 ls [] I L R Q2) hx hb hd hX h
theorem w_land {k pc : Nat} (hd : decode (zb k) pc = .ok (.land, 1)) : zSn k (pc, z_land) := by
  intro l dC dI cA ad K n E A hKn ls st I L R Q h p e Rm s m args below meth c cells slots Z cX hR
  obtain ⟨hx, hb, hml, hown, hts, hWd, hfr, hlo, hce, hsl⟩ := id cX
  have hX := fun pc ls st I L R (q : zSW l dC dI cA ad K n E A k pc ls st I L R Q) => q p e Rm s m args below meth c cells slots Z cX hR
  have hC := fun (k2 : Nat) ls I L R Q (q : zSW l dC dI cA ad K n E A k2 0 ls [] I L R Q) => q
  exact sn_land (nx := fun pc ls st I L R => zSW l dC dI cA ad K n E A k pc ls st I L R Q) (rt := Q) (cx := fun k2 ls I L R Q2 => zSW l dC dI cA ad K n E A k2 0 ls [] I L R Q2) hx hb hd hX h
theorem w_lor {k pc : Nat} (hd : decode (zb k) pc = .ok (.lor, 1)) : zSn k (pc, z_lor) := by
  intro l dC dI cA ad K n E A hKn ls st I L R Q h p e Rm s m args below meth c cells slots Z cX hR
  obtain ⟨hx, hb, hml, hown, hts, hWd, hfr, hlo, hce, hsl⟩ := id cX
  have hX := fun pc ls st I L R (q : zSW l dC dI cA ad K n E A k pc ls st I L R Q) => q p e Rm s m args below meth c cells slots Z cX hR
  have hC := fun (k2 : Nat) ls I L R Q (q : zSW l dC dI cA ad K n E A k2 0 ls [] I L R Q) => q
  exact sn_lor (nx := fun pc ls st I L R => zSW l dC dI cA ad K n E A k pc ls st I L R Q) (rt := Q) (cx := fun k2 ls I L R Q2 => zSW l dC dI cA ad K n E A k2 0 ls [] I L R Q2) hx hb hd hX h
theorem w_iushr {k pc : Nat} (hd : decode (zb k) pc = .ok (.iushr, 1)) : zSn k (pc, z_iushr) := by
  intro l dC dI cA ad K n E A hKn ls st I L R Q h p e Rm s m args below meth c cells slots Z cX hR
  obtain ⟨hx, hb, hml, hown, hts, hWd, hfr, hlo, hce, hsl⟩ := id cX
  have hX := fun pc ls st I L R (q : zSW l dC dI cA ad K n E A k pc ls st I L R Q) => q p e Rm s m args below meth c cells slots Z cX hR
  have hC := fun (k2 : Nat) ls I L R Q (q : zSW l dC dI cA ad K n E A k2 0 ls [] I L R Q) => q
  exact sn_iushr (nx := fun pc ls st I L R => zSW l dC dI cA ad K n E A k pc ls st I L R Q) (rt := Q) (cx := fun k2 ls I L R Q2 => zSW l dC dI cA ad K n E A k2 0 ls [] I L R Q2) hx hb hd hX h
theorem w_lshl {k pc : Nat} (hd : decode (zb k) pc = .ok (.lshl, 1)) : zSn k (pc, z_lshl) := by
  intro l dC dI cA ad K n E A hKn ls st I L R Q h p e Rm s m args below meth c cells slots Z cX hR
  obtain ⟨hx, hb, hml, hown, hts, hWd, hfr, hlo, hce, hsl⟩ := id cX
  have hX := fun pc ls st I L R (q : zSW l dC dI cA ad K n E A k pc ls st I L R Q) => q p e Rm s m args below meth c cells slots Z cX hR
  have hC := fun (k2 : Nat) ls I L R Q (q : zSW l dC dI cA ad K n E A k2 0 ls [] I L R Q) => q
  exact sn_lshl (nx := fun pc ls st I L R => zSW l dC dI cA ad K n E A k pc ls st I L R Q) (rt := Q) (cx := fun k2 ls I L R Q2 => zSW l dC dI cA ad K n E A k2 0 ls [] I L R Q2) hx hb hd hX h
theorem w_lshr {k pc : Nat} (hd : decode (zb k) pc = .ok (.lshr, 1)) : zSn k (pc, z_lshr) := by
  intro l dC dI cA ad K n E A hKn ls st I L R Q h p e Rm s m args below meth c cells slots Z cX hR
  obtain ⟨hx, hb, hml, hown, hts, hWd, hfr, hlo, hce, hsl⟩ := id cX
  have hX := fun pc ls st I L R (q : zSW l dC dI cA ad K n E A k pc ls st I L R Q) => q p e Rm s m args below meth c cells slots Z cX hR
  have hC := fun (k2 : Nat) ls I L R Q (q : zSW l dC dI cA ad K n E A k2 0 ls [] I L R Q) => q
  exact sn_lshr (nx := fun pc ls st I L R => zSW l dC dI cA ad K n E A k pc ls st I L R Q) (rt := Q) (cx := fun k2 ls I L R Q2 => zSW l dC dI cA ad K n E A k2 0 ls [] I L R Q2) hx hb hd hX h
theorem w_lushr {k pc : Nat} (hd : decode (zb k) pc = .ok (.lushr, 1)) : zSn k (pc, z_lushr) := by
  intro l dC dI cA ad K n E A hKn ls st I L R Q h p e Rm s m args below meth c cells slots Z cX hR
  obtain ⟨hx, hb, hml, hown, hts, hWd, hfr, hlo, hce, hsl⟩ := id cX
  have hX := fun pc ls st I L R (q : zSW l dC dI cA ad K n E A k pc ls st I L R Q) => q p e Rm s m args below meth c cells slots Z cX hR
  have hC := fun (k2 : Nat) ls I L R Q (q : zSW l dC dI cA ad K n E A k2 0 ls [] I L R Q) => q
  exact sn_lushr (nx := fun pc ls st I L R => zSW l dC dI cA ad K n E A k pc ls st I L R Q) (rt := Q) (cx := fun k2 ls I L R Q2 => zSW l dC dI cA ad K n E A k2 0 ls [] I L R Q2) hx hb hd hX h
theorem w_i2l {k pc : Nat} (hd : decode (zb k) pc = .ok (.i2l, 1)) : zSn k (pc, z_i2l) := by
  intro l dC dI cA ad K n E A hKn ls st I L R Q h p e Rm s m args below meth c cells slots Z cX hR
  obtain ⟨hx, hb, hml, hown, hts, hWd, hfr, hlo, hce, hsl⟩ := id cX
  have hX := fun pc ls st I L R (q : zSW l dC dI cA ad K n E A k pc ls st I L R Q) => q p e Rm s m args below meth c cells slots Z cX hR
  have hC := fun (k2 : Nat) ls I L R Q (q : zSW l dC dI cA ad K n E A k2 0 ls [] I L R Q) => q
  exact sn_i2l (nx := fun pc ls st I L R => zSW l dC dI cA ad K n E A k pc ls st I L R Q) (rt := Q) (cx := fun k2 ls I L R Q2 => zSW l dC dI cA ad K n E A k2 0 ls [] I L R Q2) hx hb hd hX h
theorem w_l2i {k pc : Nat} (hd : decode (zb k) pc = .ok (.l2i, 1)) : zSn k (pc, z_l2i) := by
  intro l dC dI cA ad K n E A hKn ls st I L R Q h p e Rm s m args below meth c cells slots Z cX hR
  obtain ⟨hx, hb, hml, hown, hts, hWd, hfr, hlo, hce, hsl⟩ := id cX
  have hX := fun pc ls st I L R (q : zSW l dC dI cA ad K n E A k pc ls st I L R Q) => q p e Rm s m args below meth c cells slots Z cX hR
  have hC := fun (k2 : Nat) ls I L R Q (q : zSW l dC dI cA ad K n E A k2 0 ls [] I L R Q) => q
  exact sn_l2i (nx := fun pc ls st I L R => zSW l dC dI cA ad K n E A k pc ls st I L R Q) (rt := Q) (cx := fun k2 ls I L R Q2 => zSW l dC dI cA ad K n E A k2 0 ls [] I L R Q2) hx hb hd hX h
theorem w_i2b {k pc : Nat} (hd : decode (zb k) pc = .ok (.i2b, 1)) : zSn k (pc, z_i2b) := by
  intro l dC dI cA ad K n E A hKn ls st I L R Q h p e Rm s m args below meth c cells slots Z cX hR
  obtain ⟨hx, hb, hml, hown, hts, hWd, hfr, hlo, hce, hsl⟩ := id cX
  have hX := fun pc ls st I L R (q : zSW l dC dI cA ad K n E A k pc ls st I L R Q) => q p e Rm s m args below meth c cells slots Z cX hR
  have hC := fun (k2 : Nat) ls I L R Q (q : zSW l dC dI cA ad K n E A k2 0 ls [] I L R Q) => q
  exact sn_i2b (nx := fun pc ls st I L R => zSW l dC dI cA ad K n E A k pc ls st I L R Q) (rt := Q) (cx := fun k2 ls I L R Q2 => zSW l dC dI cA ad K n E A k2 0 ls [] I L R Q2) hx hb hd hX h
theorem w_idiv {k pc : Nat} (hd : decode (zb k) pc = .ok (.idiv, 1)) : zSn k (pc, z_idiv) := by
  intro l dC dI cA ad K n E A hKn ls st I L R Q h p e Rm s m args below meth c cells slots Z cX hR
  obtain ⟨hx, hb, hml, hown, hts, hWd, hfr, hlo, hce, hsl⟩ := id cX
  have hX := fun pc ls st I L R (q : zSW l dC dI cA ad K n E A k pc ls st I L R Q) => q p e Rm s m args below meth c cells slots Z cX hR
  have hC := fun (k2 : Nat) ls I L R Q (q : zSW l dC dI cA ad K n E A k2 0 ls [] I L R Q) => q
  exact sn_idiv (nx := fun pc ls st I L R => zSW l dC dI cA ad K n E A k pc ls st I L R Q) (rt := Q) (cx := fun k2 ls I L R Q2 => zSW l dC dI cA ad K n E A k2 0 ls [] I L R Q2) hx hb hd hX h
theorem w_irem {k pc : Nat} (hd : decode (zb k) pc = .ok (.irem, 1)) : zSn k (pc, z_irem) := by
  intro l dC dI cA ad K n E A hKn ls st I L R Q h p e Rm s m args below meth c cells slots Z cX hR
  obtain ⟨hx, hb, hml, hown, hts, hWd, hfr, hlo, hce, hsl⟩ := id cX
  have hX := fun pc ls st I L R (q : zSW l dC dI cA ad K n E A k pc ls st I L R Q) => q p e Rm s m args below meth c cells slots Z cX hR
  have hC := fun (k2 : Nat) ls I L R Q (q : zSW l dC dI cA ad K n E A k2 0 ls [] I L R Q) => q
  exact sn_irem (nx := fun pc ls st I L R => zSW l dC dI cA ad K n E A k pc ls st I L R Q) (rt := Q) (cx := fun k2 ls I L R Q2 => zSW l dC dI cA ad K n E A k2 0 ls [] I L R Q2) hx hb hd hX h
theorem w_ldiv {k pc : Nat} (hd : decode (zb k) pc = .ok (.ldiv, 1)) : zSn k (pc, z_ldiv) := by
  intro l dC dI cA ad K n E A hKn ls st I L R Q h p e Rm s m args below meth c cells slots Z cX hR
  obtain ⟨hx, hb, hml, hown, hts, hWd, hfr, hlo, hce, hsl⟩ := id cX
  have hX := fun pc ls st I L R (q : zSW l dC dI cA ad K n E A k pc ls st I L R Q) => q p e Rm s m args below meth c cells slots Z cX hR
  have hC := fun (k2 : Nat) ls I L R Q (q : zSW l dC dI cA ad K n E A k2 0 ls [] I L R Q) => q
  exact sn_ldiv (nx := fun pc ls st I L R => zSW l dC dI cA ad K n E A k pc ls st I L R Q) (rt := Q) (cx := fun k2 ls I L R Q2 => zSW l dC dI cA ad K n E A k2 0 ls [] I L R Q2) hx hb hd hX h
theorem w_lrem {k pc : Nat} (hd : decode (zb k) pc = .ok (.lrem, 1)) : zSn k (pc, z_lrem) := by
  intro l dC dI cA ad K n E A hKn ls st I L R Q h p e Rm s m args below meth c cells slots Z cX hR
  obtain ⟨hx, hb, hml, hown, hts, hWd, hfr, hlo, hce, hsl⟩ := id cX
  have hX := fun pc ls st I L R (q : zSW l dC dI cA ad K n E A k pc ls st I L R Q) => q p e Rm s m args below meth c cells slots Z cX hR
  have hC := fun (k2 : Nat) ls I L R Q (q : zSW l dC dI cA ad K n E A k2 0 ls [] I L R Q) => q
  exact sn_lrem (nx := fun pc ls st I L R => zSW l dC dI cA ad K n E A k pc ls st I L R Q) (rt := Q) (cx := fun k2 ls I L R Q2 => zSW l dC dI cA ad K n E A k2 0 ls [] I L R Q2) hx hb hd hX h
theorem w_lcmp {k pc : Nat} (hd : decode (zb k) pc = .ok (.lcmp, 1)) : zSn k (pc, z_lcmp) := by
  intro l dC dI cA ad K n E A hKn ls st I L R Q h p e Rm s m args below meth c cells slots Z cX hR
  obtain ⟨hx, hb, hml, hown, hts, hWd, hfr, hlo, hce, hsl⟩ := id cX
  have hX := fun pc ls st I L R (q : zSW l dC dI cA ad K n E A k pc ls st I L R Q) => q p e Rm s m args below meth c cells slots Z cX hR
  have hC := fun (k2 : Nat) ls I L R Q (q : zSW l dC dI cA ad K n E A k2 0 ls [] I L R Q) => q
  exact sn_lcmp (nx := fun pc ls st I L R => zSW l dC dI cA ad K n E A k pc ls st I L R Q) (rt := Q) (cx := fun k2 ls I L R Q2 => zSW l dC dI cA ad K n E A k2 0 ls [] I L R Q2) hx hb hd hX h
theorem w_dup {k pc : Nat} (hd : decode (zb k) pc = .ok (.dup, 1)) : zSn k (pc, z_dup) := by
  intro l dC dI cA ad K n E A hKn ls st I L R Q h p e Rm s m args below meth c cells slots Z cX hR
  obtain ⟨hx, hb, hml, hown, hts, hWd, hfr, hlo, hce, hsl⟩ := id cX
  have hX := fun pc ls st I L R (q : zSW l dC dI cA ad K n E A k pc ls st I L R Q) => q p e Rm s m args below meth c cells slots Z cX hR
  have hC := fun (k2 : Nat) ls I L R Q (q : zSW l dC dI cA ad K n E A k2 0 ls [] I L R Q) => q
  exact sn_dup (nx := fun pc ls st I L R => zSW l dC dI cA ad K n E A k pc ls st I L R Q) (rt := Q) (cx := fun k2 ls I L R Q2 => zSW l dC dI cA ad K n E A k2 0 ls [] I L R Q2) hx hb hd hX h
theorem w_pop {k pc : Nat} (hd : decode (zb k) pc = .ok (.pop, 1)) : zSn k (pc, z_pop) := by
  intro l dC dI cA ad K n E A hKn ls st I L R Q h p e Rm s m args below meth c cells slots Z cX hR
  obtain ⟨hx, hb, hml, hown, hts, hWd, hfr, hlo, hce, hsl⟩ := id cX
  have hX := fun pc ls st I L R (q : zSW l dC dI cA ad K n E A k pc ls st I L R Q) => q p e Rm s m args below meth c cells slots Z cX hR
  have hC := fun (k2 : Nat) ls I L R Q (q : zSW l dC dI cA ad K n E A k2 0 ls [] I L R Q) => q
  exact sn_pop (nx := fun pc ls st I L R => zSW l dC dI cA ad K n E A k pc ls st I L R Q) (rt := Q) (cx := fun k2 ls I L R Q2 => zSW l dC dI cA ad K n E A k2 0 ls [] I L R Q2) hx hb hd hX h
theorem w_dup2 {k pc : Nat} (hd : decode (zb k) pc = .ok (.dup2, 1)) : zSn k (pc, z_dup2) := by
  intro l dC dI cA ad K n E A hKn ls st I L R Q h p e Rm s m args below meth c cells slots Z cX hR
  obtain ⟨hx, hb, hml, hown, hts, hWd, hfr, hlo, hce, hsl⟩ := id cX
  have hX := fun pc ls st I L R (q : zSW l dC dI cA ad K n E A k pc ls st I L R Q) => q p e Rm s m args below meth c cells slots Z cX hR
  have hC := fun (k2 : Nat) ls I L R Q (q : zSW l dC dI cA ad K n E A k2 0 ls [] I L R Q) => q
  exact sn_dup2 (nx := fun pc ls st I L R => zSW l dC dI cA ad K n E A k pc ls st I L R Q) (rt := Q) (cx := fun k2 ls I L R Q2 => zSW l dC dI cA ad K n E A k2 0 ls [] I L R Q2) hx hb hd hX h
theorem w_goto {k pc : Nat} {t : Nat} {off : Int} (hd : decode (zb k) pc = .ok (.goto off, 3)) (ht : (pc : Int) + off = (t : Int)) : zSn k (pc, z_goto t) := by
  intro l dC dI cA ad K n E A hKn ls st I L R Q h p e Rm s m args below meth c cells slots Z cX hR
  obtain ⟨hx, hb, hml, hown, hts, hWd, hfr, hlo, hce, hsl⟩ := id cX
  have hX := fun pc ls st I L R (q : zSW l dC dI cA ad K n E A k pc ls st I L R Q) => q p e Rm s m args below meth c cells slots Z cX hR
  have hC := fun (k2 : Nat) ls I L R Q (q : zSW l dC dI cA ad K n E A k2 0 ls [] I L R Q) => q
  exact sn_goto (nx := fun pc ls st I L R => zSW l dC dI cA ad K n E A k pc ls st I L R Q) (rt := Q) (cx := fun k2 ls I L R Q2 => zSW l dC dI cA ad K n E A k2 0 ls [] I L R Q2) hx hb hd ht hX h
theorem w_ifeq {k pc : Nat} {t : Nat} {off : Int} (hd : decode (zb k) pc = .ok (.ifCond .eq off, 3)) (ht : (pc : Int) + off = (t : Int)) : zSn k (pc, z_ifeq t) := by
  intro l dC dI cA ad K n E A hKn ls st I L R Q h p e Rm s m args below meth c cells slots Z cX hR
  obtain ⟨hx, hb, hml, hown, hts, hWd, hfr, hlo, hce, hsl⟩ := id cX
  have hX := fun pc ls st I L R (q : zSW l dC dI cA ad K n E A k pc ls st I L R Q) => q p e Rm s m args below meth c cells slots Z cX hR
  have hC := fun (k2 : Nat) ls I L R Q (q : zSW l dC dI cA ad K n E A k2 0 ls [] I L R Q) => q
  exact sn_ifeq (nx := fun pc ls st I L R => zSW l dC dI cA ad K n E A k pc ls st I L R Q) (rt := Q) (cx := fun k2 ls I L R Q2 => zSW l dC dI cA ad K n E A k2 0 ls [] I L R Q2) hx hb hd ht hX h
theorem w_ieq {k pc : Nat} {t : Nat} {off : Int} (hd : decode (zb k) pc = .ok (.if_icmp .eq off, 3)) (ht : (pc : Int) + off = (t : Int)) : zSn k (pc, z_ieq t) := by
  intro l dC dI cA ad K n E A hKn ls st I L R Q h p e Rm s m args below meth c cells slots Z cX hR
  obtain ⟨hx, hb, hml, hown, hts, hWd, hfr, hlo, hce, hsl⟩ := id cX
  have hX := fun pc ls st I L R (q : zSW l dC dI cA ad K n E A k pc ls st I L R Q) => q p e Rm s m args below meth c cells slots Z cX hR
  have hC := fun (k2 : Nat) ls I L R Q (q : zSW l dC dI cA ad K n E A k2 0 ls [] I L R Q) => q
  exact sn_ieq (nx := fun pc ls st I L R => zSW l dC dI cA ad K n E A k pc ls st I L R Q) (rt := Q) (cx := fun k2 ls I L R Q2 => zSW l dC dI cA ad K n E A k2 0 ls [] I L R Q2) hx hb hd ht hX h
theorem w_ifne {k pc : Nat} {t : Nat} {off : Int} (hd : decode (zb k) pc = .ok (.ifCond .ne off, 3)) (ht : (pc : Int) + off = (t : Int)) : zSn k (pc, z_ifne t) := by
  intro l dC dI cA ad K n E A hKn ls st I L R Q h p e Rm s m args below meth c cells slots Z cX hR
  obtain ⟨hx, hb, hml, hown, hts, hWd, hfr, hlo, hce, hsl⟩ := id cX
  have hX := fun pc ls st I L R (q : zSW l dC dI cA ad K n E A k pc ls st I L R Q) => q p e Rm s m args below meth c cells slots Z cX hR
  have hC := fun (k2 : Nat) ls I L R Q (q : zSW l dC dI cA ad K n E A k2 0 ls [] I L R Q) => q
  exact sn_ifne (nx := fun pc ls st I L R => zSW l dC dI cA ad K n E A k pc ls st I L R Q) (rt := Q) (cx := fun k2 ls I L R Q2 => zSW l dC dI cA ad K n E A k2 0 ls [] I L R Q2) hx hb hd ht hX h
theorem w_ine {k pc : Nat} {t : Nat} {off : Int} (hd : decode (zb k) pc = .ok (.if_icmp .ne off, 3)) (ht : (pc : Int) + off = (t : Int)) : zSn k (pc, z_ine t) := by
  intro l dC dI cA ad K n E A hKn ls st I L R Q h p e Rm s m args below meth c cells slots Z cX hR
  obtain ⟨hx, hb, hml, hown, hts, hWd, hfr, hlo, hce, hsl⟩ := id cX
  have hX := fun pc ls st I L R (q : zSW l dC dI cA ad K n E A k pc ls st I L R Q) => q p e Rm s m args below meth c cells slots Z cX hR
  have hC := fun (k2 : Nat) ls I L R Q (q : zSW l dC dI cA ad K n E A k2 0 ls [] I L R Q) => q
  exact sn_ine (nx := fun pc ls st I L R => zSW l dC dI cA ad K n E A k pc ls st I L R Q) (rt := Q) (cx := fun k2 ls I L R Q2 => zSW l dC dI cA ad K n E A k2 0 ls [] I L R Q2) hx hb hd ht hX h
theorem w_iflt {k pc : Nat} {t : Nat} {off : Int} (hd : decode (zb k) pc = .ok (.ifCond .lt off, 3)) (ht : (pc : Int) + off = (t : Int)) : zSn k (pc, z_iflt t) := by
  intro l dC dI cA ad K n E A hKn ls st I L R Q h p e Rm s m args below meth c cells slots Z cX hR
  obtain ⟨hx, hb, hml, hown, hts, hWd, hfr, hlo, hce, hsl⟩ := id cX
  have hX := fun pc ls st I L R (q : zSW l dC dI cA ad K n E A k pc ls st I L R Q) => q p e Rm s m args below meth c cells slots Z cX hR
  have hC := fun (k2 : Nat) ls I L R Q (q : zSW l dC dI cA ad K n E A k2 0 ls [] I L R Q) => q
  exact sn_iflt (nx := fun pc ls st I L R => zSW l dC dI cA ad K n E A k pc ls st I L R Q) (rt := Q) (cx := fun k2 ls I L R Q2 => zSW l dC dI cA ad K n E A k2 0 ls [] I L R Q2) hx hb hd ht hX h
theorem w_ilt {k pc : Nat} {t : Nat} {off : Int} (hd : decode (zb k) pc = .ok (.if_icmp .lt off, 3)) (ht : (pc : Int) + off = (t : Int)) : zSn k (pc, z_ilt t) := by
  intro l dC dI cA ad K n E A hKn ls st I L R Q h p e Rm s m args below meth c cells slots Z cX hR
  obtain ⟨hx, hb, hml, hown, hts, hWd, hfr, hlo, hce, hsl⟩ := id cX
  have hX := fun pc ls st I L R (q : zSW l dC dI cA ad K n E A k pc ls st I L R Q) => q p e Rm s m args below meth c cells slots Z cX hR
  have hC := fun (k2 : Nat) ls I L R Q (q : zSW l dC dI cA ad K n E A k2 0 ls [] I L R Q) => q
  exact sn_ilt (nx := fun pc ls st I L R => zSW l dC dI cA ad K n E A k pc ls st I L R Q) (rt := Q) (cx := fun k2 ls I L R Q2 => zSW l dC dI cA ad K n E A k2 0 ls [] I L R Q2) hx hb hd ht hX h
theorem w_ifge {k pc : Nat} {t : Nat} {off : Int} (hd : decode (zb k) pc = .ok (.ifCond .ge off, 3)) (ht : (pc : Int) + off = (t : Int)) : zSn k (pc, z_ifge t) := by
  intro l dC dI cA ad K n E A hKn ls st I L R Q h p e Rm s m args below meth c cells slots Z cX hR
  obtain ⟨hx, hb, hml, hown, hts, hWd, hfr, hlo, hce, hsl⟩ := id cX
  have hX := fun pc ls st I L R (q : zSW l dC dI cA ad K n E A k pc ls st I L R Q) => q p e Rm s m args below meth c cells slots Z cX hR
  have hC := fun (k2 : Nat) ls I L R Q (q : zSW l dC dI cA ad K n E A k2 0 ls [] I L R Q) => q
  exact sn_ifge (nx := fun pc ls st I L R => zSW l dC dI cA ad K n E A k pc ls st I L R Q) (rt := Q) (cx := fun k2 ls I L R Q2 => zSW l dC dI cA ad K n E A k2 0 ls [] I L R Q2) hx hb hd ht hX h
theorem w_ige {k pc : Nat} {t : Nat} {off : Int} (hd : decode (zb k) pc = .ok (.if_icmp .ge off, 3)) (ht : (pc : Int) + off = (t : Int)) : zSn k (pc, z_ige t) := by
  intro l dC dI cA ad K n E A hKn ls st I L R Q h p e Rm s m args below meth c cells slots Z cX hR
  obtain ⟨hx, hb, hml, hown, hts, hWd, hfr, hlo, hce, hsl⟩ := id cX
  have hX := fun pc ls st I L R (q : zSW l dC dI cA ad K n E A k pc ls st I L R Q) => q p e Rm s m args below meth c cells slots Z cX hR
  have hC := fun (k2 : Nat) ls I L R Q (q : zSW l dC dI cA ad K n E A k2 0 ls [] I L R Q) => q
  exact sn_ige (nx := fun pc ls st I L R => zSW l dC dI cA ad K n E A k pc ls st I L R Q) (rt := Q) (cx := fun k2 ls I L R Q2 => zSW l dC dI cA ad K n E A k2 0 ls [] I L R Q2) hx hb hd ht hX h
theorem w_ifgt {k pc : Nat} {t : Nat} {off : Int} (hd : decode (zb k) pc = .ok (.ifCond .gt off, 3)) (ht : (pc : Int) + off = (t : Int)) : zSn k (pc, z_ifgt t) := by
  intro l dC dI cA ad K n E A hKn ls st I L R Q h p e Rm s m args below meth c cells slots Z cX hR
  obtain ⟨hx, hb, hml, hown, hts, hWd, hfr, hlo, hce, hsl⟩ := id cX
  have hX := fun pc ls st I L R (q : zSW l dC dI cA ad K n E A k pc ls st I L R Q) => q p e Rm s m args below meth c cells slots Z cX hR
  have hC := fun (k2 : Nat) ls I L R Q (q : zSW l dC dI cA ad K n E A k2 0 ls [] I L R Q) => q
  exact sn_ifgt (nx := fun pc ls st I L R => zSW l dC dI cA ad K n E A k pc ls st I L R Q) (rt := Q) (cx := fun k2 ls I L R Q2 => zSW l dC dI cA ad K n E A k2 0 ls [] I L R Q2) hx hb hd ht hX h
theorem w_igt {k pc : Nat} {t : Nat} {off : Int} (hd : decode (zb k) pc = .ok (.if_icmp .gt off, 3)) (ht : (pc : Int) + off = (t : Int)) : zSn k (pc, z_igt t) := by
  intro l dC dI cA ad K n E A hKn ls st I L R Q h p e Rm s m args below meth c cells slots Z cX hR
  obtain ⟨hx, hb, hml, hown, hts, hWd, hfr, hlo, hce, hsl⟩ := id cX
  have hX := fun pc ls st I L R (q : zSW l dC dI cA ad K n E A k pc ls st I L R Q) => q p e Rm s m args below meth c cells slots Z cX hR
  have hC := fun (k2 : Nat) ls I L R Q (q : zSW l dC dI cA ad K n E A k2 0 ls [] I L R Q) => q
  exact sn_igt (nx := fun pc ls st I L R => zSW l dC dI cA ad K n E A k pc ls st I L R Q) (rt := Q) (cx := fun k2 ls I L R Q2 => zSW l dC dI cA ad K n E A k2 0 ls [] I L R Q2) hx hb hd ht hX h
theorem w_ifle {k pc : Nat} {t : Nat} {off : Int} (hd : decode (zb k) pc = .ok (.ifCond .le off, 3)) (ht : (pc : Int) + off = (t : Int)) : zSn k (pc, z_ifle t) := by
  intro l dC dI cA ad K n E A hKn ls st I L R Q h p e Rm s m args below meth c cells slots Z cX hR
  obtain ⟨hx, hb, hml, hown, hts, hWd, hfr, hlo, hce, hsl⟩ := id cX
  have hX := fun pc ls st I L R (q : zSW l dC dI cA ad K n E A k pc ls st I L R Q) => q p e Rm s m args below meth c cells slots Z cX hR
  have hC := fun (k2 : Nat) ls I L R Q (q : zSW l dC dI cA ad K n E A k2 0 ls [] I L R Q) => q
  exact sn_ifle (nx := fun pc ls st I L R => zSW l dC dI cA ad K n E A k pc ls st I L R Q) (rt := Q) (cx := fun k2 ls I L R Q2 => zSW l dC dI cA ad K n E A k2 0 ls [] I L R Q2) hx hb hd ht hX h
theorem w_ile {k pc : Nat} {t : Nat} {off : Int} (hd : decode (zb k) pc = .ok (.if_icmp .le off, 3)) (ht : (pc : Int) + off = (t : Int)) : zSn k (pc, z_ile t) := by
  intro l dC dI cA ad K n E A hKn ls st I L R Q h p e Rm s m args below meth c cells slots Z cX hR
  obtain ⟨hx, hb, hml, hown, hts, hWd, hfr, hlo, hce, hsl⟩ := id cX
  have hX := fun pc ls st I L R (q : zSW l dC dI cA ad K n E A k pc ls st I L R Q) => q p e Rm s m args below meth c cells slots Z cX hR
  have hC := fun (k2 : Nat) ls I L R Q (q : zSW l dC dI cA ad K n E A k2 0 ls [] I L R Q) => q
  exact sn_ile (nx := fun pc ls st I L R => zSW l dC dI cA ad K n E A k pc ls st I L R Q) (rt := Q) (cx := fun k2 ls I L R Q2 => zSW l dC dI cA ad K n E A k2 0 ls [] I L R Q2) hx hb hd ht hX h
theorem w_tsw {k pc : Nat} {d : Nat} {qs : List (Int32 × Nat)} {dflt lo hi : Int} {offs : Array Int} {len : Nat} (hd : decode (zb k) pc = .ok (.tableswitch dflt lo hi offs, len)) (hdt : (pc : Int) + dflt = (d : Int)) (hlen2 : (qs.length : Int) = hi - lo + 1) (hq : (List.range qs.length).all (fun i => match qs[i]?, offs[i]? with | some q, some off => decide (q.1.toInt = lo + i) && decide ((pc : Int) + off = (q.2 : Int)) | _, _ => false) = true) : zSn k (pc, z_sw d qs) := by
  intro l dC dI cA ad K n E A hKn ls st I L R Q h p e Rm s m args below meth c cells slots Z cX hR
  obtain ⟨hx, hb, hml, hown, hts, hWd, hfr, hlo, hce, hsl⟩ := id cX
  have hX := fun pc ls st I L R (q : zSW l dC dI cA ad K n E A k pc ls st I L R Q) => q p e Rm s m args below meth c cells slots Z cX hR
  have hC := fun (k2 : Nat) ls I L R Q (q : zSW l dC dI cA ad K n E A k2 0 ls [] I L R Q) => q
  exact sn_tsw (nx := fun pc ls st I L R => zSW l dC dI cA ad K n E A k pc ls st I L R Q) (rt := Q) (cx := fun k2 ls I L R Q2 => zSW l dC dI cA ad K n E A k2 0 ls [] I L R Q2) hx hb hd hdt hlen2 (fun i q hi => by
    have h1 := List.all_eq_true.mp hq i (List.mem_range.mpr (List.getElem?_eq_some_iff.mp hi).1)
    rw [hi] at h1
    cases ho : offs[i]? with
    | none => rw [ho] at h1; simp at h1
    | some off => rw [ho] at h1; simp only [Bool.and_eq_true, decide_eq_true_eq] at h1; exact ⟨h1.1, off, rfl, h1.2⟩) hX h
theorem w_lsw {k pc : Nat} {d : Nat} {qs : List (Int32 × Nat)} {dflt : Int} {ps : Array (Int × Int)} {len : Nat} (hd : decode (zb k) pc = .ok (.lookupswitch dflt ps, len)) (hps : (ps.toList.zip (ps.toList.drop 1)).all (fun (a, next) => a.1 < next.1) = true) (hdt : (pc : Int) + dflt = (d : Int)) (hq : ps.toList.map (fun q => (q.1, (pc : Int) + q.2)) = qs.map (fun q => (q.1.toInt, (q.2 : Int)))) : zSn k (pc, z_sw d qs) := by
  intro l dC dI cA ad K n E A hKn ls st I L R Q h p e Rm s m args below meth c cells slots Z cX hR
  obtain ⟨hx, hb, hml, hown, hts, hWd, hfr, hlo, hce, hsl⟩ := id cX
  have hX := fun pc ls st I L R (q : zSW l dC dI cA ad K n E A k pc ls st I L R Q) => q p e Rm s m args below meth c cells slots Z cX hR
  have hC := fun (k2 : Nat) ls I L R Q (q : zSW l dC dI cA ad K n E A k2 0 ls [] I L R Q) => q
  exact sn_lsw (nx := fun pc ls st I L R => zSW l dC dI cA ad K n E A k pc ls st I L R Q) (rt := Q) (cx := fun k2 ls I L R Q2 => zSW l dC dI cA ad K n E A k2 0 ls [] I L R Q2) hx hb hd hps hdt hq hX h
theorem w_gI {k pc : Nat} {own : String} (how : (zy k).cls = own) {ci j idx : Nat} {C : String} {T : u_T} {F : Nat → FieldType} (ho : zOK ci C T F) (hj : j < zN ci) (hlk : zfm own idx (T j).1 (T j).2.1 (T j).2.2.1) (hty : zty ci j = 0) (hd : decode (zb k) pc = .ok (.getfield idx, 3)) : zSn k (pc, z_gI ci j) := by
  intro l dC dI cA ad K n E A hKn ls st I L R Q h p e Rm s m args below meth c cells slots Z cX hR
  obtain ⟨hx, hb, hml, hown, hts, hWd, hfr, hlo, hce, hsl⟩ := id cX
  have hX := fun pc ls st I L R (q : zSW l dC dI cA ad K n E A k pc ls st I L R Q) => q p e Rm s m args below meth c cells slots Z cX hR
  have hC := fun (k2 : Nat) ls I L R Q (q : zSW l dC dI cA ad K n E A k2 0 ls [] I L R Q) => q
  exact sn_gI (nx := fun pc ls st I L R => zSW l dC dI cA ad K n E A k pc ls st I L R Q) (rt := Q) (cx := fun k2 ls I L R Q2 => zSW l dC dI cA ad K n E A k2 0 ls [] I L R Q2) hx hb (how ▸ hown) hts hWd.1 hKn ho hj (zfm_use hlk hts hWd.2.1) hty hd hX h
theorem w_gL {k pc : Nat} {own : String} (how : (zy k).cls = own) {ci j idx : Nat} {C : String} {T : u_T} {F : Nat → FieldType} (ho : zOK ci C T F) (hj : j < zN ci) (hlk : zfm own idx (T j).1 (T j).2.1 (T j).2.2.1) (hty : zty ci j = 1) (hd : decode (zb k) pc = .ok (.getfield idx, 3)) : zSn k (pc, z_gL ci j) := by
  intro l dC dI cA ad K n E A hKn ls st I L R Q h p e Rm s m args below meth c cells slots Z cX hR
  obtain ⟨hx, hb, hml, hown, hts, hWd, hfr, hlo, hce, hsl⟩ := id cX
  have hX := fun pc ls st I L R (q : zSW l dC dI cA ad K n E A k pc ls st I L R Q) => q p e Rm s m args below meth c cells slots Z cX hR
  have hC := fun (k2 : Nat) ls I L R Q (q : zSW l dC dI cA ad K n E A k2 0 ls [] I L R Q) => q
  exact sn_gL (nx := fun pc ls st I L R => zSW l dC dI cA ad K n E A k pc ls st I L R Q) (rt := Q) (cx := fun k2 ls I L R Q2 => zSW l dC dI cA ad K n E A k2 0 ls [] I L R Q2) hx hb (how ▸ hown) hts hWd.1 hKn ho hj (zfm_use hlk hts hWd.2.1) hty hd hX h
theorem w_gR {k pc : Nat} {own : String} (how : (zy k).cls = own) {ci j idx : Nat} {C : String} {T : u_T} {F : Nat → FieldType} (ho : zOK ci C T F) (hj : j < zN ci) (hlk : zfm own idx (T j).1 (T j).2.1 (T j).2.2.1) (hty : zty ci j = 2) (hd : decode (zb k) pc = .ok (.getfield idx, 3)) : zSn k (pc, z_gR ci j) := by
  intro l dC dI cA ad K n E A hKn ls st I L R Q h p e Rm s m args below meth c cells slots Z cX hR
  obtain ⟨hx, hb, hml, hown, hts, hWd, hfr, hlo, hce, hsl⟩ := id cX
  have hX := fun pc ls st I L R (q : zSW l dC dI cA ad K n E A k pc ls st I L R Q) => q p e Rm s m args below meth c cells slots Z cX hR
  have hC := fun (k2 : Nat) ls I L R Q (q : zSW l dC dI cA ad K n E A k2 0 ls [] I L R Q) => q
  exact sn_gR (nx := fun pc ls st I L R => zSW l dC dI cA ad K n E A k pc ls st I L R Q) (rt := Q) (cx := fun k2 ls I L R Q2 => zSW l dC dI cA ad K n E A k2 0 ls [] I L R Q2) hx hb (how ▸ hown) hts hWd.1 hKn ho hj (zfm_use hlk hts hWd.2.1) hty hd hX h
theorem w_pI {k pc : Nat} {own : String} (how : (zy k).cls = own) {ci j idx : Nat} {C : String} {T : u_T} {F : Nat → FieldType} (ho : zOK ci C T F) (hj : j < zN ci) (hlk : zfm own idx (T j).1 (T j).2.1 (T j).2.2.1) (hty : zty ci j = 0) (hfin : (T j).2.2.2 = false) (hf : F j = .int) (hd : decode (zb k) pc = .ok (.putfield idx, 3)) : zSn k (pc, z_pI ci j) := by
  intro l dC dI cA ad K n E A hKn ls st I L R Q h p e Rm s m args below meth c cells slots Z cX hR
  obtain ⟨hx, hb, hml, hown, hts, hWd, hfr, hlo, hce, hsl⟩ := id cX
  have hX := fun pc ls st I L R (q : zSW l dC dI cA ad K n E A k pc ls st I L R Q) => q p e Rm s m args below meth c cells slots Z cX hR
  have hC := fun (k2 : Nat) ls I L R Q (q : zSW l dC dI cA ad K n E A k2 0 ls [] I L R Q) => q
  exact sn_pI (nx := fun pc ls st I L R => zSW l dC dI cA ad K n E A k pc ls st I L R Q) (rt := Q) (cx := fun k2 ls I L R Q2 => zSW l dC dI cA ad K n E A k2 0 ls [] I L R Q2) hx hb (how ▸ hown) hts hWd.1 hKn ho hj (zfm_use hlk hts hWd.2.1) hty hfin hf hd hX h
theorem w_pL {k pc : Nat} {own : String} (how : (zy k).cls = own) {ci j idx : Nat} {C : String} {T : u_T} {F : Nat → FieldType} (ho : zOK ci C T F) (hj : j < zN ci) (hlk : zfm own idx (T j).1 (T j).2.1 (T j).2.2.1) (hty : zty ci j = 1) (hfin : (T j).2.2.2 = false) (hf : F j = .long) (hd : decode (zb k) pc = .ok (.putfield idx, 3)) : zSn k (pc, z_pL ci j) := by
  intro l dC dI cA ad K n E A hKn ls st I L R Q h p e Rm s m args below meth c cells slots Z cX hR
  obtain ⟨hx, hb, hml, hown, hts, hWd, hfr, hlo, hce, hsl⟩ := id cX
  have hX := fun pc ls st I L R (q : zSW l dC dI cA ad K n E A k pc ls st I L R Q) => q p e Rm s m args below meth c cells slots Z cX hR
  have hC := fun (k2 : Nat) ls I L R Q (q : zSW l dC dI cA ad K n E A k2 0 ls [] I L R Q) => q
  exact sn_pL (nx := fun pc ls st I L R => zSW l dC dI cA ad K n E A k pc ls st I L R Q) (rt := Q) (cx := fun k2 ls I L R Q2 => zSW l dC dI cA ad K n E A k2 0 ls [] I L R Q2) hx hb (how ▸ hown) hts hWd.1 hKn ho hj (zfm_use hlk hts hWd.2.1) hty hfin hf hd hX h
theorem w_pR {k pc : Nat} {own : String} (how : (zy k).cls = own) {ci j idx : Nat} {C : String} {T : u_T} {F : Nat → FieldType} (ho : zOK ci C T F) (hj : j < zN ci) (hlk : zfm own idx (T j).1 (T j).2.1 (T j).2.2.1) (hty : zty ci j = 2) (hfin : (T j).2.2.2 = false) (hf : narrow (F j) (.ref 0) = .ref 0 ∧ ∀ b, narrow (F j) (.ref b) = .ref b ∧ fits (F j) (.ref b) = true) (hd : decode (zb k) pc = .ok (.putfield idx, 3)) : zSn k (pc, z_pR ci j) := by
  intro l dC dI cA ad K n E A hKn ls st I L R Q h p e Rm s m args below meth c cells slots Z cX hR
  obtain ⟨hx, hb, hml, hown, hts, hWd, hfr, hlo, hce, hsl⟩ := id cX
  have hX := fun pc ls st I L R (q : zSW l dC dI cA ad K n E A k pc ls st I L R Q) => q p e Rm s m args below meth c cells slots Z cX hR
  have hC := fun (k2 : Nat) ls I L R Q (q : zSW l dC dI cA ad K n E A k2 0 ls [] I L R Q) => q
  exact sn_pR (nx := fun pc ls st I L R => zSW l dC dI cA ad K n E A k pc ls st I L R Q) (rt := Q) (cx := fun k2 ls I L R Q2 => zSW l dC dI cA ad K n E A k2 0 ls [] I L R Q2) hx hb (how ▸ hown) hts hWd.1 hKn ho hj (zfm_use hlk hts hWd.2.1) hty hfin hf hd hX h
theorem w_iald {k pc : Nat} (hd : decode (zb k) pc = .ok (.iaload, 1)) : zSn k (pc, z_iald 20) := by
  intro l dC dI cA ad K n E A hKn ls st I L R Q h p e Rm s m args below meth c cells slots Z cX hR
  obtain ⟨hx, hb, hml, hown, hts, hWd, hfr, hlo, hce, hsl⟩ := id cX
  have hX := fun pc ls st I L R (q : zSW l dC dI cA ad K n E A k pc ls st I L R Q) => q p e Rm s m args below meth c cells slots Z cX hR
  have hC := fun (k2 : Nat) ls I L R Q (q : zSW l dC dI cA ad K n E A k2 0 ls [] I L R Q) => q
  exact sn_iald (nx := fun pc ls st I L R => zSW l dC dI cA ad K n E A k pc ls st I L R Q) (rt := Q) (cx := fun k2 ls I L R Q2 => zSW l dC dI cA ad K n E A k2 0 ls [] I L R Q2) hx hb hWd.1 hKn hd hX h
theorem w_bald {k pc : Nat} (hd : decode (zb k) pc = .ok (.baload, 1)) : zSn k (pc, z_iald 22) := by
  intro l dC dI cA ad K n E A hKn ls st I L R Q h p e Rm s m args below meth c cells slots Z cX hR
  obtain ⟨hx, hb, hml, hown, hts, hWd, hfr, hlo, hce, hsl⟩ := id cX
  have hX := fun pc ls st I L R (q : zSW l dC dI cA ad K n E A k pc ls st I L R Q) => q p e Rm s m args below meth c cells slots Z cX hR
  have hC := fun (k2 : Nat) ls I L R Q (q : zSW l dC dI cA ad K n E A k2 0 ls [] I L R Q) => q
  exact sn_bald (nx := fun pc ls st I L R => zSW l dC dI cA ad K n E A k pc ls st I L R Q) (rt := Q) (cx := fun k2 ls I L R Q2 => zSW l dC dI cA ad K n E A k2 0 ls [] I L R Q2) hx hb hWd.1 hKn hd hX h
theorem w_zald {k pc : Nat} (hd : decode (zb k) pc = .ok (.baload, 1)) : zSn k (pc, z_iald 23) := by
  intro l dC dI cA ad K n E A hKn ls st I L R Q h p e Rm s m args below meth c cells slots Z cX hR
  obtain ⟨hx, hb, hml, hown, hts, hWd, hfr, hlo, hce, hsl⟩ := id cX
  have hX := fun pc ls st I L R (q : zSW l dC dI cA ad K n E A k pc ls st I L R Q) => q p e Rm s m args below meth c cells slots Z cX hR
  have hC := fun (k2 : Nat) ls I L R Q (q : zSW l dC dI cA ad K n E A k2 0 ls [] I L R Q) => q
  exact sn_zald (nx := fun pc ls st I L R => zSW l dC dI cA ad K n E A k pc ls st I L R Q) (rt := Q) (cx := fun k2 ls I L R Q2 => zSW l dC dI cA ad K n E A k2 0 ls [] I L R Q2) hx hb hWd.1 hKn hd hX h
theorem w_lald {k pc : Nat} (hd : decode (zb k) pc = .ok (.laload, 1)) : zSn k (pc, z_lald) := by
  intro l dC dI cA ad K n E A hKn ls st I L R Q h p e Rm s m args below meth c cells slots Z cX hR
  obtain ⟨hx, hb, hml, hown, hts, hWd, hfr, hlo, hce, hsl⟩ := id cX
  have hX := fun pc ls st I L R (q : zSW l dC dI cA ad K n E A k pc ls st I L R Q) => q p e Rm s m args below meth c cells slots Z cX hR
  have hC := fun (k2 : Nat) ls I L R Q (q : zSW l dC dI cA ad K n E A k2 0 ls [] I L R Q) => q
  exact sn_lald (nx := fun pc ls st I L R => zSW l dC dI cA ad K n E A k pc ls st I L R Q) (rt := Q) (cx := fun k2 ls I L R Q2 => zSW l dC dI cA ad K n E A k2 0 ls [] I L R Q2) hx hb hWd.1 hKn hd hX h
theorem w_aald24 {k pc : Nat} (hd : decode (zb k) pc = .ok (.aaload, 1)) : zSn k (pc, z_aald 24) := by
  intro l dC dI cA ad K n E A hKn ls st I L R Q h p e Rm s m args below meth c cells slots Z cX hR
  obtain ⟨hx, hb, hml, hown, hts, hWd, hfr, hlo, hce, hsl⟩ := id cX
  have hX := fun pc ls st I L R (q : zSW l dC dI cA ad K n E A k pc ls st I L R Q) => q p e Rm s m args below meth c cells slots Z cX hR
  have hC := fun (k2 : Nat) ls I L R Q (q : zSW l dC dI cA ad K n E A k2 0 ls [] I L R Q) => q
  exact sn_aald24 (nx := fun pc ls st I L R => zSW l dC dI cA ad K n E A k pc ls st I L R Q) (rt := Q) (cx := fun k2 ls I L R Q2 => zSW l dC dI cA ad K n E A k2 0 ls [] I L R Q2) hx hb hWd.1 hKn hd hX h
theorem w_aald25 {k pc : Nat} (hd : decode (zb k) pc = .ok (.aaload, 1)) : zSn k (pc, z_aald 25) := by
  intro l dC dI cA ad K n E A hKn ls st I L R Q h p e Rm s m args below meth c cells slots Z cX hR
  obtain ⟨hx, hb, hml, hown, hts, hWd, hfr, hlo, hce, hsl⟩ := id cX
  have hX := fun pc ls st I L R (q : zSW l dC dI cA ad K n E A k pc ls st I L R Q) => q p e Rm s m args below meth c cells slots Z cX hR
  have hC := fun (k2 : Nat) ls I L R Q (q : zSW l dC dI cA ad K n E A k2 0 ls [] I L R Q) => q
  exact sn_aald25 (nx := fun pc ls st I L R => zSW l dC dI cA ad K n E A k pc ls st I L R Q) (rt := Q) (cx := fun k2 ls I L R Q2 => zSW l dC dI cA ad K n E A k2 0 ls [] I L R Q2) hx hb hWd.1 hKn hd hX h
theorem w_aald26 {k pc : Nat} (hd : decode (zb k) pc = .ok (.aaload, 1)) : zSn k (pc, z_aald 26) := by
  intro l dC dI cA ad K n E A hKn ls st I L R Q h p e Rm s m args below meth c cells slots Z cX hR
  obtain ⟨hx, hb, hml, hown, hts, hWd, hfr, hlo, hce, hsl⟩ := id cX
  have hX := fun pc ls st I L R (q : zSW l dC dI cA ad K n E A k pc ls st I L R Q) => q p e Rm s m args below meth c cells slots Z cX hR
  have hC := fun (k2 : Nat) ls I L R Q (q : zSW l dC dI cA ad K n E A k2 0 ls [] I L R Q) => q
  exact sn_aald26 (nx := fun pc ls st I L R => zSW l dC dI cA ad K n E A k pc ls st I L R Q) (rt := Q) (cx := fun k2 ls I L R Q2 => zSW l dC dI cA ad K n E A k2 0 ls [] I L R Q2) hx hb hWd.1 hKn hd hX h
theorem w_aald27 {k pc : Nat} (hd : decode (zb k) pc = .ok (.aaload, 1)) : zSn k (pc, z_aald 27) := by
  intro l dC dI cA ad K n E A hKn ls st I L R Q h p e Rm s m args below meth c cells slots Z cX hR
  obtain ⟨hx, hb, hml, hown, hts, hWd, hfr, hlo, hce, hsl⟩ := id cX
  have hX := fun pc ls st I L R (q : zSW l dC dI cA ad K n E A k pc ls st I L R Q) => q p e Rm s m args below meth c cells slots Z cX hR
  have hC := fun (k2 : Nat) ls I L R Q (q : zSW l dC dI cA ad K n E A k2 0 ls [] I L R Q) => q
  exact sn_aald27 (nx := fun pc ls st I L R => zSW l dC dI cA ad K n E A k pc ls st I L R Q) (rt := Q) (cx := fun k2 ls I L R Q2 => zSW l dC dI cA ad K n E A k2 0 ls [] I L R Q2) hx hb hWd.1 hKn hd hX h
theorem w_iast {k pc : Nat} (hd : decode (zb k) pc = .ok (.iastore, 1)) : zSn k (pc, z_iast) := by
  intro l dC dI cA ad K n E A hKn ls st I L R Q h p e Rm s m args below meth c cells slots Z cX hR
  obtain ⟨hx, hb, hml, hown, hts, hWd, hfr, hlo, hce, hsl⟩ := id cX
  have hX := fun pc ls st I L R (q : zSW l dC dI cA ad K n E A k pc ls st I L R Q) => q p e Rm s m args below meth c cells slots Z cX hR
  have hC := fun (k2 : Nat) ls I L R Q (q : zSW l dC dI cA ad K n E A k2 0 ls [] I L R Q) => q
  exact sn_iast (nx := fun pc ls st I L R => zSW l dC dI cA ad K n E A k pc ls st I L R Q) (rt := Q) (cx := fun k2 ls I L R Q2 => zSW l dC dI cA ad K n E A k2 0 ls [] I L R Q2) hx hb hWd.1 hKn hd hX h
theorem w_bast {k pc : Nat} (hd : decode (zb k) pc = .ok (.bastore, 1)) : zSn k (pc, z_bast) := by
  intro l dC dI cA ad K n E A hKn ls st I L R Q h p e Rm s m args below meth c cells slots Z cX hR
  obtain ⟨hx, hb, hml, hown, hts, hWd, hfr, hlo, hce, hsl⟩ := id cX
  have hX := fun pc ls st I L R (q : zSW l dC dI cA ad K n E A k pc ls st I L R Q) => q p e Rm s m args below meth c cells slots Z cX hR
  have hC := fun (k2 : Nat) ls I L R Q (q : zSW l dC dI cA ad K n E A k2 0 ls [] I L R Q) => q
  exact sn_bast (nx := fun pc ls st I L R => zSW l dC dI cA ad K n E A k pc ls st I L R Q) (rt := Q) (cx := fun k2 ls I L R Q2 => zSW l dC dI cA ad K n E A k2 0 ls [] I L R Q2) hx hb hWd.1 hKn hd hX h
theorem w_zast {k pc : Nat} (hd : decode (zb k) pc = .ok (.bastore, 1)) : zSn k (pc, z_zast) := by
  intro l dC dI cA ad K n E A hKn ls st I L R Q h p e Rm s m args below meth c cells slots Z cX hR
  obtain ⟨hx, hb, hml, hown, hts, hWd, hfr, hlo, hce, hsl⟩ := id cX
  have hX := fun pc ls st I L R (q : zSW l dC dI cA ad K n E A k pc ls st I L R Q) => q p e Rm s m args below meth c cells slots Z cX hR
  have hC := fun (k2 : Nat) ls I L R Q (q : zSW l dC dI cA ad K n E A k2 0 ls [] I L R Q) => q
  exact sn_zast (nx := fun pc ls st I L R => zSW l dC dI cA ad K n E A k pc ls st I L R Q) (rt := Q) (cx := fun k2 ls I L R Q2 => zSW l dC dI cA ad K n E A k2 0 ls [] I L R Q2) hx hb hWd.1 hKn hd hX h
theorem w_last {k pc : Nat} (hd : decode (zb k) pc = .ok (.lastore, 1)) : zSn k (pc, z_last) := by
  intro l dC dI cA ad K n E A hKn ls st I L R Q h p e Rm s m args below meth c cells slots Z cX hR
  obtain ⟨hx, hb, hml, hown, hts, hWd, hfr, hlo, hce, hsl⟩ := id cX
  have hX := fun pc ls st I L R (q : zSW l dC dI cA ad K n E A k pc ls st I L R Q) => q p e Rm s m args below meth c cells slots Z cX hR
  have hC := fun (k2 : Nat) ls I L R Q (q : zSW l dC dI cA ad K n E A k2 0 ls [] I L R Q) => q
  exact sn_last (nx := fun pc ls st I L R => zSW l dC dI cA ad K n E A k pc ls st I L R Q) (rt := Q) (cx := fun k2 ls I L R Q2 => zSW l dC dI cA ad K n E A k2 0 ls [] I L R Q2) hx hb hWd.1 hKn hd hX h
theorem w_alen {k pc : Nat} (hd : decode (zb k) pc = .ok (.arraylength, 1)) : zSn k (pc, z_alen 20) := by
  intro l dC dI cA ad K n E A hKn ls st I L R Q h p e Rm s m args below meth c cells slots Z cX hR
  obtain ⟨hx, hb, hml, hown, hts, hWd, hfr, hlo, hce, hsl⟩ := id cX
  have hX := fun pc ls st I L R (q : zSW l dC dI cA ad K n E A k pc ls st I L R Q) => q p e Rm s m args below meth c cells slots Z cX hR
  have hC := fun (k2 : Nat) ls I L R Q (q : zSW l dC dI cA ad K n E A k2 0 ls [] I L R Q) => q
  exact sn_alen (nx := fun pc ls st I L R => zSW l dC dI cA ad K n E A k pc ls st I L R Q) (rt := Q) (cx := fun k2 ls I L R Q2 => zSW l dC dI cA ad K n E A k2 0 ls [] I L R Q2) hx hb hWd.1 hKn hd hX h
theorem w_xald {k pc : Nat} (hd : decode (zb k) pc = .ok (.iaload, 1)) : zSn k (pc, z_iald 30) := by
  intro l dC dI cA ad K n E A hKn ls st I L R Q h p e Rm s m args below meth c cells slots Z cX hR
  obtain ⟨hx, hb, hml, hown, hts, hWd, hfr, hlo, hce, hsl⟩ := id cX
  have hX := fun pc ls st I L R (q : zSW l dC dI cA ad K n E A k pc ls st I L R Q) => q p e Rm s m args below meth c cells slots Z cX hR
  have hC := fun (k2 : Nat) ls I L R Q (q : zSW l dC dI cA ad K n E A k2 0 ls [] I L R Q) => q
  exact sn_xald (nx := fun pc ls st I L R => zSW l dC dI cA ad K n E A k pc ls st I L R Q) (rt := Q) (cx := fun k2 ls I L R Q2 => zSW l dC dI cA ad K n E A k2 0 ls [] I L R Q2) hx hb hWd.2.2.1 hd hX h
theorem w_xlen {k pc : Nat} (hd : decode (zb k) pc = .ok (.arraylength, 1)) : zSn k (pc, z_alen 30) := by
  intro l dC dI cA ad K n E A hKn ls st I L R Q h p e Rm s m args below meth c cells slots Z cX hR
  obtain ⟨hx, hb, hml, hown, hts, hWd, hfr, hlo, hce, hsl⟩ := id cX
  have hX := fun pc ls st I L R (q : zSW l dC dI cA ad K n E A k pc ls st I L R Q) => q p e Rm s m args below meth c cells slots Z cX hR
  have hC := fun (k2 : Nat) ls I L R Q (q : zSW l dC dI cA ad K n E A k2 0 ls [] I L R Q) => q
  exact sn_xlen (nx := fun pc ls st I L R => zSW l dC dI cA ad K n E A k pc ls st I L R Q) (rt := Q) (cx := fun k2 ls I L R Q2 => zSW l dC dI cA ad K n E A k2 0 ls [] I L R Q2) hx hb hWd.2.2.1 hd hX h
theorem w_gs {k pc : Nat} {own : String} (ho : (zy k).cls = own) {idx : Nat} (hlk : zfm own idx "HummingSet" "MINUTES" "[I") (hd : decode (zb k) pc = .ok (.getstatic idx, 3)) : zSn k (pc, z_gs) := by
  intro l dC dI cA ad K n E A hKn ls st I L R Q h p e Rm s m args below meth c cells slots Z cX hR
  obtain ⟨hx, hb, hml, hown, hts, hWd, hfr, hlo, hce, hsl⟩ := id cX
  have hX := fun pc ls st I L R (q : zSW l dC dI cA ad K n E A k pc ls st I L R Q) => q p e Rm s m args below meth c cells slots Z cX hR
  have hC := fun (k2 : Nat) ls I L R Q (q : zSW l dC dI cA ad K n E A k2 0 ls [] I L R Q) => q
  exact sn_gs (nx := fun pc ls st I L R => zSW l dC dI cA ad K n E A k pc ls st I L R Q) (rt := Q) (cx := fun k2 ls I L R Q2 => zSW l dC dI cA ad K n E A k2 0 ls [] I L R Q2) hx hb hWd.2.2.2 (ho ▸ hown) (zfm_use hlk hts hWd.2.1) hd hX h
theorem w_mmax {k pc : Nat} {own : String} (ho : (zy k).cls = own) {idx : Nat} (hlk : Cond.methodLink own idx Lib.Math.max.name ∈ zWS) (hst : Cond.static Lib.Math.max.name ∈ zWS) (hin : Cond.initialized "java/lang/Math" ∈ zWS) (hcd : Cond.code Lib.Math.max.name Lib.Math.max.code 2 (some .int) ∈ zWS) (hrk : 1 ≤ zrk k) (hd : decode (zb k) pc = .ok (.invokestatic idx, 3)) : zSn k (pc, z_mmax) := by
  intro l dC dI cA ad K n E A hKn ls st I L R Q h p e Rm s m args below meth c cells slots Z cX hR
  obtain ⟨hx, hb, hml, hown, hts, hWd, hfr, hlo, hce, hsl⟩ := id cX
  have hX := fun pc ls st I L R (q : zSW l dC dI cA ad K n E A k pc ls st I L R Q) => q p e Rm s m args below meth c cells slots Z cX hR
  have hC := fun (k2 : Nat) ls I L R Q (q : zSW l dC dI cA ad K n E A k2 0 ls [] I L R Q) => q
  exact sn_mmax (nx := fun pc ls st I L R => zSW l dC dI cA ad K n E A k pc ls st I L R Q) (rt := Q) (cx := fun k2 ls I L R Q2 => zSW l dC dI cA ad K n E A k2 0 ls [] I L R Q2) hx hb hml (ho ▸ hown) (hts _ hlk) (hts _ hst) (hts _ hin) (hts _ hcd) (by omega) (by omega) hce hsl hd hX h
theorem w_mmin {k pc : Nat} {own : String} (ho : (zy k).cls = own) {idx : Nat} (hlk : Cond.methodLink own idx Lib.Math.min.name ∈ zWS) (hst : Cond.static Lib.Math.min.name ∈ zWS) (hin : Cond.initialized "java/lang/Math" ∈ zWS) (hcd : Cond.code Lib.Math.min.name Lib.Math.min.code 2 (some .int) ∈ zWS) (hrk : 1 ≤ zrk k) (hd : decode (zb k) pc = .ok (.invokestatic idx, 3)) : zSn k (pc, z_mmin) := by
  intro l dC dI cA ad K n E A hKn ls st I L R Q h p e Rm s m args below meth c cells slots Z cX hR
  obtain ⟨hx, hb, hml, hown, hts, hWd, hfr, hlo, hce, hsl⟩ := id cX
  have hX := fun pc ls st I L R (q : zSW l dC dI cA ad K n E A k pc ls st I L R Q) => q p e Rm s m args below meth c cells slots Z cX hR
  have hC := fun (k2 : Nat) ls I L R Q (q : zSW l dC dI cA ad K n E A k2 0 ls [] I L R Q) => q
  exact sn_mmin (nx := fun pc ls st I L R => zSW l dC dI cA ad K n E A k pc ls st I L R Q) (rt := Q) (cx := fun k2 ls I L R Q2 => zSW l dC dI cA ad K n E A k2 0 ls [] I L R Q2) hx hb hml (ho ▸ hown) (hts _ hlk) (hts _ hst) (hts _ hin) (hts _ hcd) (by omega) (by omega) hce hsl hd hX h
theorem w_mabs {k pc : Nat} {own : String} (ho : (zy k).cls = own) {idx : Nat} (hlk : Cond.methodLink own idx Lib.Math.abs.name ∈ zWS) (hst : Cond.static Lib.Math.abs.name ∈ zWS) (hin : Cond.initialized "java/lang/Math" ∈ zWS) (hcd : Cond.code Lib.Math.abs.name Lib.Math.abs.code 1 (some .int) ∈ zWS) (hrk : 1 ≤ zrk k) (hd : decode (zb k) pc = .ok (.invokestatic idx, 3)) : zSn k (pc, z_mabs) := by
  intro l dC dI cA ad K n E A hKn ls st I L R Q h p e Rm s m args below meth c cells slots Z cX hR
  obtain ⟨hx, hb, hml, hown, hts, hWd, hfr, hlo, hce, hsl⟩ := id cX
  have hX := fun pc ls st I L R (q : zSW l dC dI cA ad K n E A k pc ls st I L R Q) => q p e Rm s m args below meth c cells slots Z cX hR
  have hC := fun (k2 : Nat) ls I L R Q (q : zSW l dC dI cA ad K n E A k2 0 ls [] I L R Q) => q
  exact sn_mabs (nx := fun pc ls st I L R => zSW l dC dI cA ad K n E A k pc ls st I L R Q) (rt := Q) (cx := fun k2 ls I L R Q2 => zSW l dC dI cA ad K n E A k2 0 ls [] I L R Q2) hx hb hml (ho ▸ hown) (hts _ hlk) (hts _ hst) (hts _ hin) (hts _ hcd) (by omega) (by omega) hce hsl hd hX h
theorem w_mmaxl {k pc : Nat} {own : String} (ho : (zy k).cls = own) {idx : Nat} (hlk : Cond.methodLink own idx Lib.MathLoose.max_long.x ∈ zWS) (hst : Cond.static Lib.MathLoose.max_long.x ∈ zWS) (hin : Cond.initialized "java/lang/Math" ∈ zWS) (hcd : Cond.code Lib.MathLoose.max_long.x Lib.MathLoose.max_long.code 4 (some .long) ∈ zWS) (hrk : 1 ≤ zrk k) (hd : decode (zb k) pc = .ok (.invokestatic idx, 3)) : zSn k (pc, z_mmaxl) := by
  intro l dC dI cA ad K n E A hKn ls st I L R Q h p e Rm s m args below meth c cells slots Z cX hR
  obtain ⟨hx, hb, hml, hown, hts, hWd, hfr, hlo, hce, hsl⟩ := id cX
  have hX := fun pc ls st I L R (q : zSW l dC dI cA ad K n E A k pc ls st I L R Q) => q p e Rm s m args below meth c cells slots Z cX hR
  have hC := fun (k2 : Nat) ls I L R Q (q : zSW l dC dI cA ad K n E A k2 0 ls [] I L R Q) => q
  exact sn_mmaxl (nx := fun pc ls st I L R => zSW l dC dI cA ad K n E A k pc ls st I L R Q) (rt := Q) (cx := fun k2 ls I L R Q2 => zSW l dC dI cA ad K n E A k2 0 ls [] I L R Q2) hx hb hml (ho ▸ hown) (hts _ hlk) (hts _ hst) (hts _ hin) (hts _ hcd) (by omega) (by omega) hce hsl hd hX h
theorem w_ir {k pc : Nat} (hd : decode (zb k) pc = .ok (.ireturn, 1)) (hr : zrt k = some .int) : zSn k (pc, z_ir) := by
  intro l dC dI cA ad K n E A hKn ls st I L R Q h p e Rm s m args below meth c cells slots Z cX hR
  obtain ⟨hx, hb, hml, hown, hts, hWd, hfr, hlo, hce, hsl⟩ := id cX
  have hX := fun pc ls st I L R (q : zSW l dC dI cA ad K n E A k pc ls st I L R Q) => q p e Rm s m args below meth c cells slots Z cX hR
  have hC := fun (k2 : Nat) ls I L R Q (q : zSW l dC dI cA ad K n E A k2 0 ls [] I L R Q) => q
  exact sn_ir (nx := fun pc ls st I L R => zSW l dC dI cA ad K n E A k pc ls st I L R Q) (rt := Q) (cx := fun k2 ls I L R Q2 => zSW l dC dI cA ad K n E A k2 0 ls [] I L R Q2) hR hd hr h
theorem w_zr {k pc : Nat} (hd : decode (zb k) pc = .ok (.ireturn, 1)) (hr : zrt k = some .boolean) : zSn k (pc, z_zr) := by
  intro l dC dI cA ad K n E A hKn ls st I L R Q h p e Rm s m args below meth c cells slots Z cX hR
  obtain ⟨hx, hb, hml, hown, hts, hWd, hfr, hlo, hce, hsl⟩ := id cX
  have hX := fun pc ls st I L R (q : zSW l dC dI cA ad K n E A k pc ls st I L R Q) => q p e Rm s m args below meth c cells slots Z cX hR
  have hC := fun (k2 : Nat) ls I L R Q (q : zSW l dC dI cA ad K n E A k2 0 ls [] I L R Q) => q
  exact sn_zr (nx := fun pc ls st I L R => zSW l dC dI cA ad K n E A k pc ls st I L R Q) (rt := Q) (cx := fun k2 ls I L R Q2 => zSW l dC dI cA ad K n E A k2 0 ls [] I L R Q2) hR hd hr h
theorem w_lr {k pc : Nat} (hd : decode (zb k) pc = .ok (.lreturn, 1)) (hr : zrt k = some .long) : zSn k (pc, z_lr) := by
  intro l dC dI cA ad K n E A hKn ls st I L R Q h p e Rm s m args below meth c cells slots Z cX hR
  obtain ⟨hx, hb, hml, hown, hts, hWd, hfr, hlo, hce, hsl⟩ := id cX
  have hX := fun pc ls st I L R (q : zSW l dC dI cA ad K n E A k pc ls st I L R Q) => q p e Rm s m args below meth c cells slots Z cX hR
  have hC := fun (k2 : Nat) ls I L R Q (q : zSW l dC dI cA ad K n E A k2 0 ls [] I L R Q) => q
  exact sn_lr (nx := fun pc ls st I L R => zSW l dC dI cA ad K n E A k pc ls st I L R Q) (rt := Q) (cx := fun k2 ls I L R Q2 => zSW l dC dI cA ad K n E A k2 0 ls [] I L R Q2) hR hd hr h
theorem w_vr {k pc : Nat} (hd : decode (zb k) pc = .ok (.return_, 1)) (hr : zrt k = none) : zSn k (pc, z_vr) := by
  intro l dC dI cA ad K n E A hKn ls st I L R Q h p e Rm s m args below meth c cells slots Z cX hR
  obtain ⟨hx, hb, hml, hown, hts, hWd, hfr, hlo, hce, hsl⟩ := id cX
  have hX := fun pc ls st I L R (q : zSW l dC dI cA ad K n E A k pc ls st I L R Q) => q p e Rm s m args below meth c cells slots Z cX hR
  have hC := fun (k2 : Nat) ls I L R Q (q : zSW l dC dI cA ad K n E A k2 0 ls [] I L R Q) => q
  exact sn_vr (nx := fun pc ls st I L R => zSW l dC dI cA ad K n E A k pc ls st I L R Q) (rt := Q) (cx := fun k2 ls I L R Q2 => zSW l dC dI cA ad K n E A k2 0 ls [] I L R Q2) hR hd hr h
theorem w_cV {k pc : Nat} {own : String} (how : (zy k).cls = own) {k2 idx na ci ml : Nat} {C : String} {T : u_T} {F : Nat → FieldType} (ho : zOK ci C T F) (hCy : (zy k2).cls = C) (hml2 : zml k2 = ml) (hins : Cond.instanceMethod (zy k2) ∈ zWS) (hsel : Cond.selects C (zy k2) (zy k2) ∈ zWS) (hcal : zcal k2 na) (hrk : zrk k2 < zrk k) (hmx : zml k2 ≤ 21) (hlk : zmm own idx (zy k2)) (hd : decode (zb k) pc = .ok (.invokevirtual idx, 3)) : zSn k (pc, z_cV ci k2 ml na) := by
  intro l dC dI cA ad K n E A hKn ls st I L R Q h p e Rm s m args below meth c cells slots Z cX hR
  obtain ⟨hx, hb, hml, hown, hts, hWd, hfr, hlo, hce, hsl⟩ := id cX
  have hX := fun pc ls st I L R (q : zSW l dC dI cA ad K n E A k pc ls st I L R Q) => q p e Rm s m args below meth c cells slots Z cX hR
  have hC := fun (k2 : Nat) ls I L R Q (q : zSW l dC dI cA ad K n E A k2 0 ls [] I L R Q) => q
  exact sn_cV (nx := fun pc ls st I L R => zSW l dC dI cA ad K n E A k pc ls st I L R Q) (rt := Q) (cx := fun k2 ls I L R Q2 => zSW l dC dI cA ad K n E A k2 0 ls [] I L R Q2) ho hCy hml2 hins hsel cX hKn hcal hrk hmx (zmm_use (how ▸ hlk) hts hWd.2.1) (hC _) hd hX h
theorem w_cS {k pc : Nat} {own : String} (how : (zy k).cls = own) {k2 idx na ml : Nat} (hml2 : zml k2 = ml) (hsta : Cond.static (zy k2) ∈ zWS) (hcal : zcal k2 na) (hrk : zrk k2 < zrk k) (hmx : zml k2 ≤ 21) (hlk : zmm own idx (zy k2)) (hd : decode (zb k) pc = .ok (.invokestatic idx, 3)) : zSn k (pc, z_cS k2 ml na) := by
  intro l dC dI cA ad K n E A hKn ls st I L R Q h p e Rm s m args below meth c cells slots Z cX hR
  obtain ⟨hx, hb, hml, hown, hts, hWd, hfr, hlo, hce, hsl⟩ := id cX
  have hX := fun pc ls st I L R (q : zSW l dC dI cA ad K n E A k pc ls st I L R Q) => q p e Rm s m args below meth c cells slots Z cX hR
  have hC := fun (k2 : Nat) ls I L R Q (q : zSW l dC dI cA ad K n E A k2 0 ls [] I L R Q) => q
  exact sn_cS (nx := fun pc ls st I L R => zSW l dC dI cA ad K n E A k pc ls st I L R Q) (rt := Q) (cx := fun k2 ls I L R Q2 => zSW l dC dI cA ad K n E A k2 0 ls [] I L R Q2) hml2 hsta cX hKn hcal hrk hmx (zmm_use (how ▸ hlk) hts hWd.2.1) (hC _) hd hX h
