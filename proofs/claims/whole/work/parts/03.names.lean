/-! ===== the classes, their fields; the words ===== -/
def zWS : List Cond := lw_tbl.filter goodWord
def zisN : Cond → Bool
  | .fieldLinkNest _ _ _ _ _ _ => true
  | .methodLinkNest _ _ _ _ => true
  | _ => false
def zNW : List Cond := tables_1.filter zisN
theorem zmW {w : Cond} (i : Nat) (h : tables_1[i]? = some w) (hg : goodWord w = true) : w ∈ zWS := List.mem_filter.mpr ⟨List.mem_append_right _ (List.mem_of_getElem? h), hg⟩
theorem zmS {w : Cond} (i : Nat) (h : (k2_sels lw_privs)[i]? = some w) (hg : goodWord w = true) : w ∈ zWS := List.mem_filter.mpr ⟨List.mem_append_left _ (List.mem_of_getElem? h), hg⟩
theorem zmN {w : Cond} (i : Nat) (h : tables_1[i]? = some w) (hg : zisN w = true) : w ∈ zNW := List.mem_filter.mpr ⟨List.mem_of_getElem? h, hg⟩
theorem zgood : GoodIn zWS zWS := fun _ h => ⟨h, good_of_word (List.mem_filter.mp h).2⟩
theorem zgoodc {w : Cond} (h : w ∈ zWS) : GoodIn zWS (w :: zWS) := fun v hv => (List.mem_cons.mp hv).elim (fun e => by rw [e]; exact zgood w h) (zgood v)
theorem zNW_warm {s U : State} (hW : s.WarmedH U.vm) (h : ∀ w ∈ zNW, va_Nw w s) : ∀ w ∈ zNW, va_Nw w U := by
  intro w hw
  have h1 := (List.mem_filter.mp hw).2
  have h2 := h w hw
  cases w <;> first | exact va_Nw.warmF hW h2 | exact va_Nw.warmM hW h2 | (simp [zisN] at h1)
theorem zNW_same {s U : State} (hv : s.vm = U.vm) (h : ∀ w ∈ zNW, va_Nw w s) : ∀ w ∈ zNW, va_Nw w U := by
  intro w hw
  have h1 := (List.mem_filter.mp hw).2
  have h2 := h w hw
  refine va_Nw.same ?_ hv h2
  cases w <;> first | rfl | (simp [zisN] at h1)
def zC0 : String := "HummingSet$Answers"
def zT0 : u_T := fun k => match k with
  | 0 => ("HummingSet$Answers", "kinds", "[I", true)
  | 1 => ("HummingSet$Answers", "ofs", "[I", true)
  | 2 => ("HummingSet$Answers", "minutes", "[I", true)
  | 3 => ("HummingSet$Answers", "replies", "[I", true)
  | _ => ("HummingSet$Answers", "count", "I", false)
def zF0 : Nat → FieldType := fun k => match k with
  | 0 => .array .int
  | 1 => .array .int
  | 2 => .array .int
  | 3 => .array .int
  | _ => .int
def zY0 : Nat → Nat := fun k => match k with
  | 0 => 2
  | 1 => 2
  | 2 => 2
  | 3 => 2
  | _ => 0
theorem zn0 : ∀ a, a < 5 → ∀ b, b < 5 → a ≠ b → (zT0 a).2.1 ≠ (zT0 b).2.1 := by decide +kernel
theorem zf0 : ∀ k, k < 5 → parseFieldDescriptor (zT0 k).2.2.1 = some (zF0 k) := by decide +kernel
theorem zl0 : ∀ w ∈ u_ws zC0 zT0 5, w ∈ zWS := by
  intro w hw
  obtain ⟨k, hk, rfl⟩ := List.mem_map.mp hw
  have hk := List.mem_range.mp hk
  match k, hk with
  | 0, _ => exact zmW 88 (by decide +kernel) rfl
  | 1, _ => exact zmW 90 (by decide +kernel) rfl
  | 2, _ => exact zmW 92 (by decide +kernel) rfl
  | 3, _ => exact zmW 94 (by decide +kernel) rfl
  | 4, _ => exact zmW 96 (by decide +kernel) rfl
  | n + 5, h => exact absurd h (by omega)
def zC1 : String := "HummingSet$Bench"
def zT1 : u_T := fun k => match k with
  | 0 => ("HummingSet$Bench", "ins", "[[I", true)
  | _ => ("HummingSet$Bench", "ends", "[I", true)
def zF1 : Nat → FieldType := fun k => match k with
  | 0 => .array (.array .int)
  | _ => .array .int
def zY1 : Nat → Nat := fun k => match k with
  | 0 => 2
  | _ => 2
theorem zn1 : ∀ a, a < 2 → ∀ b, b < 2 → a ≠ b → (zT1 a).2.1 ≠ (zT1 b).2.1 := by decide +kernel
theorem zf1 : ∀ k, k < 2 → parseFieldDescriptor (zT1 k).2.2.1 = some (zF1 k) := by decide +kernel
theorem zl1 : ∀ w ∈ u_ws zC1 zT1 2, w ∈ zWS := by
  intro w hw
  obtain ⟨k, hk, rfl⟩ := List.mem_map.mp hw
  have hk := List.mem_range.mp hk
  match k, hk with
  | 0, _ => exact zmW 66 (by decide +kernel) rfl
  | 1, _ => exact zmW 68 (by decide +kernel) rfl
  | n + 2, h => exact absurd h (by omega)
def zC2 : String := "HummingSet$Cases"
def zT2 : u_T := fun k => match k with
  | 0 => ("HummingSet$Cases", "states", "[I", true)
  | 1 => ("HummingSet$Cases", "weights", "[J", true)
  | 2 => ("HummingSet$Cases", "count", "I", false)
  | _ => ("HummingSet$Cases", "total", "J", false)
def zF2 : Nat → FieldType := fun k => match k with
  | 0 => .array .int
  | 1 => .array .long
  | 2 => .int
  | _ => .long
def zY2 : Nat → Nat := fun k => match k with
  | 0 => 2
  | 1 => 2
  | 2 => 0
  | _ => 1
theorem zn2 : ∀ a, a < 4 → ∀ b, b < 4 → a ≠ b → (zT2 a).2.1 ≠ (zT2 b).2.1 := by decide +kernel
theorem zf2 : ∀ k, k < 4 → parseFieldDescriptor (zT2 k).2.2.1 = some (zF2 k) := by decide +kernel
theorem zl2 : ∀ w ∈ u_ws zC2 zT2 4, w ∈ zWS := by
  intro w hw
  obtain ⟨k, hk, rfl⟩ := List.mem_map.mp hw
  have hk := List.mem_range.mp hk
  match k, hk with
  | 0, _ => exact zmW 118 (by decide +kernel) rfl
  | 1, _ => exact zmW 120 (by decide +kernel) rfl
  | 2, _ => exact zmW 122 (by decide +kernel) rfl
  | 3, _ => exact zmW 124 (by decide +kernel) rfl
  | n + 4, h => exact absurd h (by omega)
def zC3 : String := "HummingSet$Part"
def zT3 : u_T := fun k => match k with
  | 0 => ("HummingSet$Part", "lets", "[I", true)
  | 1 => ("HummingSet$Part", "stage", "I", false)
  | 2 => ("HummingSet$Part", "kind", "I", false)
  | 3 => ("HummingSet$Part", "age", "I", false)
  | 4 => ("HummingSet$Part", "trouble", "I", false)
  | 5 => ("HummingSet$Part", "warm", "I", false)
  | 6 => ("HummingSet$Part", "cost", "I", false)
  | 7 => ("HummingSet$Part", "volts", "I", false)
  | _ => ("HummingSet$Part", "loss", "I", false)
def zF3 : Nat → FieldType := fun k => match k with
  | 0 => .array .int
  | 1 => .int
  | 2 => .int
  | 3 => .int
  | 4 => .int
  | 5 => .int
  | 6 => .int
  | 7 => .int
  | _ => .int
def zY3 : Nat → Nat := fun k => match k with
  | 0 => 2
  | 1 => 0
  | 2 => 0
  | 3 => 0
  | 4 => 0
  | 5 => 0
  | 6 => 0
  | 7 => 0
  | _ => 0
theorem zn3 : ∀ a, a < 9 → ∀ b, b < 9 → a ≠ b → (zT3 a).2.1 ≠ (zT3 b).2.1 := by decide +kernel
theorem zf3 : ∀ k, k < 9 → parseFieldDescriptor (zT3 k).2.2.1 = some (zF3 k) := by decide +kernel
theorem zl3 : ∀ w ∈ u_ws zC3 zT3 9, w ∈ zWS := by
  intro w hw
  obtain ⟨k, hk, rfl⟩ := List.mem_map.mp hw
  have hk := List.mem_range.mp hk
  match k, hk with
  | 0, _ => exact zmW 230 (by decide +kernel) rfl
  | 1, _ => exact zmW 232 (by decide +kernel) rfl
  | 2, _ => exact zmW 234 (by decide +kernel) rfl
  | 3, _ => exact zmW 236 (by decide +kernel) rfl
  | 4, _ => exact zmW 238 (by decide +kernel) rfl
  | 5, _ => exact zmW 240 (by decide +kernel) rfl
  | 6, _ => exact zmW 242 (by decide +kernel) rfl
  | 7, _ => exact zmW 244 (by decide +kernel) rfl
  | 8, _ => exact zmW 246 (by decide +kernel) rfl
  | n + 9, h => exact absurd h (by omega)
def zC4 : String := "HummingSet$Plan"
def zT4 : u_T := fun k => match k with
  | 0 => ("HummingSet$Plan", "quiet", "[Z", true)
  | 1 => ("HummingSet$Plan", "sums", "[J", true)
  | _ => ("HummingSet$Plan", "firstPart", "I", false)
def zF4 : Nat → FieldType := fun k => match k with
  | 0 => .array .boolean
  | 1 => .array .long
  | _ => .int
def zY4 : Nat → Nat := fun k => match k with
  | 0 => 2
  | 1 => 2
  | _ => 0
theorem zn4 : ∀ a, a < 3 → ∀ b, b < 3 → a ≠ b → (zT4 a).2.1 ≠ (zT4 b).2.1 := by decide +kernel
theorem zf4 : ∀ k, k < 3 → parseFieldDescriptor (zT4 k).2.2.1 = some (zF4 k) := by decide +kernel
theorem zl4 : ∀ w ∈ u_ws zC4 zT4 3, w ∈ zWS := by
  intro w hw
  obtain ⟨k, hk, rfl⟩ := List.mem_map.mp hw
  have hk := List.mem_range.mp hk
  match k, hk with
  | 0, _ => exact zmW 164 (by decide +kernel) rfl
  | 1, _ => exact zmW 166 (by decide +kernel) rfl
  | 2, _ => exact zmW 168 (by decide +kernel) rfl
  | n + 3, h => exact absurd h (by omega)
def zC5 : String := "HummingSet$Reader"
def zT5 : u_T := fun k => match k with
  | 0 => ("HummingSet$Reader", "numbers", "[I", true)
  | _ => ("HummingSet$Reader", "place", "I", false)
def zF5 : Nat → FieldType := fun k => match k with
  | 0 => .array .int
  | _ => .int
def zY5 : Nat → Nat := fun k => match k with
  | 0 => 2
  | _ => 0
theorem zn5 : ∀ a, a < 2 → ∀ b, b < 2 → a ≠ b → (zT5 a).2.1 ≠ (zT5 b).2.1 := by decide +kernel
theorem zf5 : ∀ k, k < 2 → parseFieldDescriptor (zT5 k).2.2.1 = some (zF5 k) := by decide +kernel
theorem zl5 : ∀ w ∈ u_ws zC5 zT5 2, w ∈ zWS := by
  intro w hw
  obtain ⟨k, hk, rfl⟩ := List.mem_map.mp hw
  have hk := List.mem_range.mp hk
  match k, hk with
  | 0, _ => exact zmW 48 (by decide +kernel) rfl
  | 1, _ => exact zmW 50 (by decide +kernel) rfl
  | n + 2, h => exact absurd h (by omega)
def zC6 : String := "HummingSet$Search"
def zT6 : u_T := fun k => match k with
  | 0 => ("HummingSet$Search", "byReply", "[J", true)
  | 1 => ("HummingSet$Search", "kind", "I", false)
  | 2 => ("HummingSet$Search", "of", "I", false)
  | 3 => ("HummingSet$Search", "weight", "J", false)
  | _ => ("HummingSet$Search", "danger", "I", false)
def zF6 : Nat → FieldType := fun k => match k with
  | 0 => .array .long
  | 1 => .int
  | 2 => .int
  | 3 => .long
  | _ => .int
def zY6 : Nat → Nat := fun k => match k with
  | 0 => 2
  | 1 => 0
  | 2 => 0
  | 3 => 1
  | _ => 0
theorem zn6 : ∀ a, a < 5 → ∀ b, b < 5 → a ≠ b → (zT6 a).2.1 ≠ (zT6 b).2.1 := by decide +kernel
theorem zf6 : ∀ k, k < 5 → parseFieldDescriptor (zT6 k).2.2.1 = some (zF6 k) := by decide +kernel
theorem zl6 : ∀ w ∈ u_ws zC6 zT6 5, w ∈ zWS := by
  intro w hw
  obtain ⟨k, hk, rfl⟩ := List.mem_map.mp hw
  have hk := List.mem_range.mp hk
  match k, hk with
  | 0, _ => exact zmW 142 (by decide +kernel) rfl
  | 1, _ => exact zmW 144 (by decide +kernel) rfl
  | 2, _ => exact zmW 146 (by decide +kernel) rfl
  | 3, _ => exact zmW 148 (by decide +kernel) rfl
  | 4, _ => exact zmW 150 (by decide +kernel) rfl
  | n + 5, h => exact absurd h (by omega)
def zC7 : String := "HummingSet$Stage"
def zT7 : u_T := fun k => match k with
  | 0 => ("HummingSet$Stage", "mains", "[I", true)
  | 1 => ("HummingSet$Stage", "gain", "I", false)
  | _ => ("HummingSet$Stage", "bears", "I", false)
def zF7 : Nat → FieldType := fun k => match k with
  | 0 => .array .int
  | 1 => .int
  | _ => .int
def zY7 : Nat → Nat := fun k => match k with
  | 0 => 2
  | 1 => 0
  | _ => 0
theorem zn7 : ∀ a, a < 3 → ∀ b, b < 3 → a ≠ b → (zT7 a).2.1 ≠ (zT7 b).2.1 := by decide +kernel
theorem zf7 : ∀ k, k < 3 → parseFieldDescriptor (zT7 k).2.2.1 = some (zF7 k) := by decide +kernel
theorem zl7 : ∀ w ∈ u_ws zC7 zT7 3, w ∈ zWS := by
  intro w hw
  obtain ⟨k, hk, rfl⟩ := List.mem_map.mp hw
  have hk := List.mem_range.mp hk
  match k, hk with
  | 0, _ => exact zmW 195 (by decide +kernel) rfl
  | 1, _ => exact zmW 197 (by decide +kernel) rfl
  | 2, _ => exact zmW 199 (by decide +kernel) rfl
  | n + 3, h => exact absurd h (by omega)
def zC8 : String := "HummingSet$Text"
def zT8 : u_T := fun k => match k with
  | 0 => ("HummingSet$Text", "bytes", "[B", true)
  | _ => ("HummingSet$Text", "length", "I", false)
def zF8 : Nat → FieldType := fun k => match k with
  | 0 => .array .byte
  | _ => .int
def zY8 : Nat → Nat := fun k => match k with
  | 0 => 2
  | _ => 0
theorem zn8 : ∀ a, a < 2 → ∀ b, b < 2 → a ≠ b → (zT8 a).2.1 ≠ (zT8 b).2.1 := by decide +kernel
theorem zf8 : ∀ k, k < 2 → parseFieldDescriptor (zT8 k).2.2.1 = some (zF8 k) := by decide +kernel
theorem zl8 : ∀ w ∈ u_ws zC8 zT8 2, w ∈ zWS := by
  intro w hw
  obtain ⟨k, hk, rfl⟩ := List.mem_map.mp hw
  have hk := List.mem_range.mp hk
  match k, hk with
  | 0, _ => exact zmW 34 (by decide +kernel) rfl
  | 1, _ => exact zmW 36 (by decide +kernel) rfl
  | n + 2, h => exact absurd h (by omega)
def zC9 : String := "HummingSet$Way"
def zT9 : u_T := fun k => match k with
  | 0 => ("HummingSet$Way", "stage", "I", false)
  | 1 => ("HummingSet$Way", "tone", "I", false)
  | _ => ("HummingSet$Way", "hundredths", "I", false)
def zF9 : Nat → FieldType := fun k => match k with
  | 0 => .int
  | 1 => .int
  | _ => .int
def zY9 : Nat → Nat := fun k => match k with
  | 0 => 0
  | 1 => 0
  | _ => 0
theorem zn9 : ∀ a, a < 3 → ∀ b, b < 3 → a ≠ b → (zT9 a).2.1 ≠ (zT9 b).2.1 := by decide +kernel
theorem zf9 : ∀ k, k < 3 → parseFieldDescriptor (zT9 k).2.2.1 = some (zF9 k) := by decide +kernel
theorem zl9 : ∀ w ∈ u_ws zC9 zT9 3, w ∈ zWS := by
  intro w hw
  obtain ⟨k, hk, rfl⟩ := List.mem_map.mp hw
  have hk := List.mem_range.mp hk
  match k, hk with
  | 0, _ => exact zmW 257 (by decide +kernel) rfl
  | 1, _ => exact zmW 259 (by decide +kernel) rfl
  | 2, _ => exact zmW 261 (by decide +kernel) rfl
  | n + 3, h => exact absurd h (by omega)
def zC10 : String := "HummingSet$Wireless"
def zT10 : u_T := fun k => match k with
  | 0 => ("HummingSet$Wireless", "stages", "[LHummingSet$Stage;", true)
  | 1 => ("HummingSet$Wireless", "parts", "[LHummingSet$Part;", true)
  | 2 => ("HummingSet$Wireless", "ways", "[LHummingSet$Way;", true)
  | 3 => ("HummingSet$Wireless", "ears", "[I", true)
  | 4 => ("HummingSet$Wireless", "yearly", "[I", true)
  | 5 => ("HummingSet$Wireless", "stageCount", "I", false)
  | 6 => ("HummingSet$Wireless", "partCount", "I", false)
  | 7 => ("HummingSet$Wireless", "wayCount", "I", false)
  | 8 => ("HummingSet$Wireless", "letCount", "I", false)
  | _ => ("HummingSet$Wireless", "mainsCount", "I", false)
def zF10 : Nat → FieldType := fun k => match k with
  | 0 => .array (.object "HummingSet$Stage")
  | 1 => .array (.object "HummingSet$Part")
  | 2 => .array (.object "HummingSet$Way")
  | 3 => .array .int
  | 4 => .array .int
  | 5 => .int
  | 6 => .int
  | 7 => .int
  | 8 => .int
  | _ => .int
def zY10 : Nat → Nat := fun k => match k with
  | 0 => 2
  | 1 => 2
  | 2 => 2
  | 3 => 2
  | 4 => 2
  | 5 => 0
  | 6 => 0
  | 7 => 0
  | 8 => 0
  | _ => 0
theorem zn10 : ∀ a, a < 10 → ∀ b, b < 10 → a ≠ b → (zT10 a).2.1 ≠ (zT10 b).2.1 := by decide +kernel
theorem zf10 : ∀ k, k < 10 → parseFieldDescriptor (zT10 k).2.2.1 = some (zF10 k) := by decide +kernel
theorem zl10 : ∀ w ∈ u_ws zC10 zT10 10, w ∈ zWS := by
  intro w hw
  obtain ⟨k, hk, rfl⟩ := List.mem_map.mp hw
  have hk := List.mem_range.mp hk
  match k, hk with
  | 0, _ => exact zmW 288 (by decide +kernel) rfl
  | 1, _ => exact zmW 290 (by decide +kernel) rfl
  | 2, _ => exact zmW 292 (by decide +kernel) rfl
  | 3, _ => exact zmW 294 (by decide +kernel) rfl
  | 4, _ => exact zmW 296 (by decide +kernel) rfl
  | 5, _ => exact zmW 298 (by decide +kernel) rfl
  | 6, _ => exact zmW 300 (by decide +kernel) rfl
  | 7, _ => exact zmW 302 (by decide +kernel) rfl
  | 8, _ => exact zmW 304 (by decide +kernel) rfl
  | 9, _ => exact zmW 306 (by decide +kernel) rfl
  | n + 10, h => exact absurd h (by omega)
def zC11 : String := "HummingSet"
def zT11 : u_T := fun k => match k with
  | 0 => ("HummingSet", "text", "LHummingSet$Text;", true)
  | 1 => ("HummingSet", "reader", "LHummingSet$Reader;", true)
  | 2 => ("HummingSet", "bench", "LHummingSet$Bench;", true)
  | 3 => ("HummingSet", "answers", "LHummingSet$Answers;", true)
  | 4 => ("HummingSet", "firstKept", "LHummingSet$Answers;", true)
  | 5 => ("HummingSet", "secondKept", "LHummingSet$Answers;", true)
  | 6 => ("HummingSet", "cases", "LHummingSet$Cases;", true)
  | 7 => ("HummingSet", "search", "LHummingSet$Search;", true)
  | 8 => ("HummingSet", "plan", "LHummingSet$Plan;", true)
  | 9 => ("HummingSet", "laid", "LHummingSet$Wireless;", false)
  | 10 => ("HummingSet", "spare", "LHummingSet$Wireless;", false)
  | _ => ("HummingSet", "kept", "I", false)
def zF11 : Nat → FieldType := fun k => match k with
  | 0 => .object "HummingSet$Text"
  | 1 => .object "HummingSet$Reader"
  | 2 => .object "HummingSet$Bench"
  | 3 => .object "HummingSet$Answers"
  | 4 => .object "HummingSet$Answers"
  | 5 => .object "HummingSet$Answers"
  | 6 => .object "HummingSet$Cases"
  | 7 => .object "HummingSet$Search"
  | 8 => .object "HummingSet$Plan"
  | 9 => .object "HummingSet$Wireless"
  | 10 => .object "HummingSet$Wireless"
  | _ => .int
def zY11 : Nat → Nat := fun k => match k with
  | 0 => 2
  | 1 => 2
  | 2 => 2
  | 3 => 2
  | 4 => 2
  | 5 => 2
  | 6 => 2
  | 7 => 2
  | 8 => 2
  | 9 => 2
  | 10 => 2
  | _ => 0
theorem zn11 : ∀ a, a < 12 → ∀ b, b < 12 → a ≠ b → (zT11 a).2.1 ≠ (zT11 b).2.1 := by decide +kernel
theorem zf11 : ∀ k, k < 12 → parseFieldDescriptor (zT11 k).2.2.1 = some (zF11 k) := by decide +kernel
theorem zl11 : ∀ w ∈ u_ws zC11 zT11 12, w ∈ zWS := by
  intro w hw
  obtain ⟨k, hk, rfl⟩ := List.mem_map.mp hw
  have hk := List.mem_range.mp hk
  match k, hk with
  | 0, _ => exact zmW 416 (by decide +kernel) rfl
  | 1, _ => exact zmW 418 (by decide +kernel) rfl
  | 2, _ => exact zmW 420 (by decide +kernel) rfl
  | 3, _ => exact zmW 422 (by decide +kernel) rfl
  | 4, _ => exact zmW 424 (by decide +kernel) rfl
  | 5, _ => exact zmW 426 (by decide +kernel) rfl
  | 6, _ => exact zmW 428 (by decide +kernel) rfl
  | 7, _ => exact zmW 430 (by decide +kernel) rfl
  | 8, _ => exact zmW 432 (by decide +kernel) rfl
  | 9, _ => exact zmW 434 (by decide +kernel) rfl
  | 10, _ => exact zmW 436 (by decide +kernel) rfl
  | 11, _ => exact zmW 438 (by decide +kernel) rfl
  | n + 12, h => exact absurd h (by omega)
def zC12 : String := "HummingSetModel"
def zT12 : u_T := fun k => match k with
  | 0 => ("HummingSetModel", "length", "I", false)
  | 1 => ("HummingSetModel", "text", "[I", true)
  | 2 => ("HummingSetModel", "stageMany", "[I", true)
  | 3 => ("HummingSetModel", "gains", "[I", true)
  | 4 => ("HummingSetModel", "bears", "[I", true)
  | 5 => ("HummingSetModel", "partMany", "[I", true)
  | 6 => ("HummingSetModel", "stageOf", "[I", true)
  | 7 => ("HummingSetModel", "kinds", "[I", true)
  | 8 => ("HummingSetModel", "ages", "[I", true)
  | 9 => ("HummingSetModel", "chances", "[I", true)
  | 10 => ("HummingSetModel", "warms", "[I", true)
  | 11 => ("HummingSetModel", "costs", "[I", true)
  | 12 => ("HummingSetModel", "volts0", "[I", true)
  | 13 => ("HummingSetModel", "losses", "[I", true)
  | 14 => ("HummingSetModel", "letsMany", "[I", true)
  | 15 => ("HummingSetModel", "lets", "[I", true)
  | 16 => ("HummingSetModel", "comesMany", "[I", true)
  | 17 => ("HummingSetModel", "comes", "[I", true)
  | 18 => ("HummingSetModel", "wayMany", "[I", true)
  | 19 => ("HummingSetModel", "wayStage", "[I", true)
  | 20 => ("HummingSetModel", "wayTone", "[I", true)
  | 21 => ("HummingSetModel", "wayBack", "[I", true)
  | 22 => ("HummingSetModel", "ears", "[I", true)
  | 23 => ("HummingSetModel", "rates", "[I", true)
  | 24 => ("HummingSetModel", "answerMany", "[I", true)
  | 25 => ("HummingSetModel", "askKind", "[I", true)
  | 26 => ("HummingSetModel", "askOf", "[I", true)
  | 27 => ("HummingSetModel", "askAt", "[I", true)
  | 28 => ("HummingSetModel", "answers", "[I", true)
  | 29 => ("HummingSetModel", "keptMany", "I", false)
  | 30 => ("HummingSetModel", "place", "I", false)
  | 31 => ("HummingSetModel", "told", "[I", true)
  | 32 => ("HummingSetModel", "stateMany", "I", false)
  | 33 => ("HummingSetModel", "states", "[I", true)
  | 34 => ("HummingSetModel", "weights", "[J", true)
  | 35 => ("HummingSetModel", "byAnswer", "[J", true)
  | 36 => ("HummingSetModel", "least", "[J", true)
  | _ => ("HummingSetModel", "nexts", "[I", true)
def zF12 : Nat → FieldType := fun k => match k with
  | 0 => .int
  | 1 => .array .int
  | 2 => .array .int
  | 3 => .array .int
  | 4 => .array .int
  | 5 => .array .int
  | 6 => .array .int
  | 7 => .array .int
  | 8 => .array .int
  | 9 => .array .int
  | 10 => .array .int
  | 11 => .array .int
  | 12 => .array .int
  | 13 => .array .int
  | 14 => .array .int
  | 15 => .array .int
  | 16 => .array .int
  | 17 => .array .int
  | 18 => .array .int
  | 19 => .array .int
  | 20 => .array .int
  | 21 => .array .int
  | 22 => .array .int
  | 23 => .array .int
  | 24 => .array .int
  | 25 => .array .int
  | 26 => .array .int
  | 27 => .array .int
  | 28 => .array .int
  | 29 => .int
  | 30 => .int
  | 31 => .array .int
  | 32 => .int
  | 33 => .array .int
  | 34 => .array .long
  | 35 => .array .long
  | 36 => .array .long
  | _ => .array .int
def zY12 : Nat → Nat := fun k => match k with
  | 0 => 0
  | 1 => 2
  | 2 => 2
  | 3 => 2
  | 4 => 2
  | 5 => 2
  | 6 => 2
  | 7 => 2
  | 8 => 2
  | 9 => 2
  | 10 => 2
  | 11 => 2
  | 12 => 2
  | 13 => 2
  | 14 => 2
  | 15 => 2
  | 16 => 2
  | 17 => 2
  | 18 => 2
  | 19 => 2
  | 20 => 2
  | 21 => 2
  | 22 => 2
  | 23 => 2
  | 24 => 2
  | 25 => 2
  | 26 => 2
  | 27 => 2
  | 28 => 2
  | 29 => 0
  | 30 => 0
  | 31 => 2
  | 32 => 0
  | 33 => 2
  | 34 => 2
  | 35 => 2
  | 36 => 2
  | _ => 2
theorem zn12 : ∀ a, a < 38 → ∀ b, b < 38 → a ≠ b → (zT12 a).2.1 ≠ (zT12 b).2.1 := by decide +kernel
theorem zf12 : ∀ k, k < 38 → parseFieldDescriptor (zT12 k).2.2.1 = some (zF12 k) := by decide +kernel
theorem zl12 : ∀ w ∈ u_ws zC12 zT12 38, w ∈ zWS := by
  intro w hw
  obtain ⟨k, hk, rfl⟩ := List.mem_map.mp hw
  have hk := List.mem_range.mp hk
  match k, hk with
  | 0, _ => exact zmW 813 (by decide +kernel) rfl
  | 1, _ => exact zmW 815 (by decide +kernel) rfl
  | 2, _ => exact zmW 817 (by decide +kernel) rfl
  | 3, _ => exact zmW 819 (by decide +kernel) rfl
  | 4, _ => exact zmW 821 (by decide +kernel) rfl
  | 5, _ => exact zmW 823 (by decide +kernel) rfl
  | 6, _ => exact zmW 825 (by decide +kernel) rfl
  | 7, _ => exact zmW 827 (by decide +kernel) rfl
  | 8, _ => exact zmW 829 (by decide +kernel) rfl
  | 9, _ => exact zmW 831 (by decide +kernel) rfl
  | 10, _ => exact zmW 833 (by decide +kernel) rfl
  | 11, _ => exact zmW 835 (by decide +kernel) rfl
  | 12, _ => exact zmW 837 (by decide +kernel) rfl
  | 13, _ => exact zmW 839 (by decide +kernel) rfl
  | 14, _ => exact zmW 841 (by decide +kernel) rfl
  | 15, _ => exact zmW 843 (by decide +kernel) rfl
  | 16, _ => exact zmW 845 (by decide +kernel) rfl
  | 17, _ => exact zmW 847 (by decide +kernel) rfl
  | 18, _ => exact zmW 849 (by decide +kernel) rfl
  | 19, _ => exact zmW 851 (by decide +kernel) rfl
  | 20, _ => exact zmW 853 (by decide +kernel) rfl
  | 21, _ => exact zmW 855 (by decide +kernel) rfl
  | 22, _ => exact zmW 857 (by decide +kernel) rfl
  | 23, _ => exact zmW 859 (by decide +kernel) rfl
  | 24, _ => exact zmW 861 (by decide +kernel) rfl
  | 25, _ => exact zmW 863 (by decide +kernel) rfl
  | 26, _ => exact zmW 865 (by decide +kernel) rfl
  | 27, _ => exact zmW 867 (by decide +kernel) rfl
  | 28, _ => exact zmW 869 (by decide +kernel) rfl
  | 29, _ => exact zmW 871 (by decide +kernel) rfl
  | 30, _ => exact zmW 873 (by decide +kernel) rfl
  | 31, _ => exact zmW 875 (by decide +kernel) rfl
  | 32, _ => exact zmW 877 (by decide +kernel) rfl
  | 33, _ => exact zmW 879 (by decide +kernel) rfl
  | 34, _ => exact zmW 881 (by decide +kernel) rfl
  | 35, _ => exact zmW 883 (by decide +kernel) rfl
  | 36, _ => exact zmW 885 (by decide +kernel) rfl
  | 37, _ => exact zmW 887 (by decide +kernel) rfl
  | n + 38, h => exact absurd h (by omega)
abbrev zcls : List vw_C := [(zC0, zT0, 5), (zC1, zT1, 2), (zC2, zT2, 4), (zC3, zT3, 9), (zC4, zT4, 3), (zC5, zT5, 2), (zC6, zT6, 5), (zC7, zT7, 3), (zC8, zT8, 2), (zC9, zT9, 3), (zC10, zT10, 10), (zC11, zT11, 12), (zC12, zT12, 38)]
def zN : Nat → Nat := fun k => match k with
  | 0 => 5
  | 1 => 2
  | 2 => 4
  | 3 => 9
  | 4 => 3
  | 5 => 2
  | 6 => 5
  | 7 => 3
  | 8 => 2
  | 9 => 3
  | 10 => 10
  | 11 => 12
  | _ => 38
def zty : Nat → Nat → Nat := fun k => match k with
  | 0 => zY0
  | 1 => zY1
  | 2 => zY2
  | 3 => zY3
  | 4 => zY4
  | 5 => zY5
  | 6 => zY6
  | 7 => zY7
  | 8 => zY8
  | 9 => zY9
  | 10 => zY10
  | 11 => zY11
  | _ => zY12
/-- what a class's rows give -/
def zOK (ci : Nat) (C : String) (T : u_T) (F : Nat → FieldType) : Prop := ci < 13 ∧ zcls[ci]? = some (C, T, zN ci) ∧ (∀ w ∈ u_ws C T (zN ci), w ∈ zWS) ∧ (∀ a, a < zN ci → ∀ b, b < zN ci → a ≠ b → (T a).2.1 ≠ (T b).2.1) ∧ ∀ k, k < zN ci → parseFieldDescriptor (T k).2.2.1 = some (F k)
theorem zo0 : zOK 0 zC0 zT0 zF0 := ⟨by decide, rfl, zl0, zn0, zf0⟩
theorem zo1 : zOK 1 zC1 zT1 zF1 := ⟨by decide, rfl, zl1, zn1, zf1⟩
theorem zo2 : zOK 2 zC2 zT2 zF2 := ⟨by decide, rfl, zl2, zn2, zf2⟩
theorem zo3 : zOK 3 zC3 zT3 zF3 := ⟨by decide, rfl, zl3, zn3, zf3⟩
theorem zo4 : zOK 4 zC4 zT4 zF4 := ⟨by decide, rfl, zl4, zn4, zf4⟩
theorem zo5 : zOK 5 zC5 zT5 zF5 := ⟨by decide, rfl, zl5, zn5, zf5⟩
theorem zo6 : zOK 6 zC6 zT6 zF6 := ⟨by decide, rfl, zl6, zn6, zf6⟩
theorem zo7 : zOK 7 zC7 zT7 zF7 := ⟨by decide, rfl, zl7, zn7, zf7⟩
theorem zo8 : zOK 8 zC8 zT8 zF8 := ⟨by decide, rfl, zl8, zn8, zf8⟩
theorem zo9 : zOK 9 zC9 zT9 zF9 := ⟨by decide, rfl, zl9, zn9, zf9⟩
theorem zo10 : zOK 10 zC10 zT10 zF10 := ⟨by decide, rfl, zl10, zn10, zf10⟩
theorem zo11 : zOK 11 zC11 zT11 zF11 := ⟨by decide, rfl, zl11, zn11, zf11⟩
theorem zo12 : zOK 12 zC12 zT12 zF12 := ⟨by decide, rfl, zl12, zn12, zf12⟩
