/-! THE WORDS that every method of the system may use: all good words of the tables -/
def gm_TB : List Cond := lw_tbl.filter goodWord
theorem gm_tb {w : Cond} (h : w ∈ lw_tbl) (hg : goodWord w = true) : w ∈ gm_TB := List.mem_filter.mpr ⟨h, hg⟩
theorem gm_tb_in {w : Cond} (h : w ∈ gm_TB) : w ∈ lw_tbl := (List.mem_filter.mp h).1
theorem gm_t1 {w : Cond} (h : w ∈ tables_1_1) (hg : goodWord w = true) : w ∈ gm_TB := gm_tb (List.mem_append_right _ (List.mem_append_left _ h)) hg
theorem gm_t2 {w : Cond} (h : w ∈ tables_1_2) (hg : goodWord w = true) : w ∈ gm_TB := gm_tb (List.mem_append_right _ (List.mem_append_right _ (List.mem_append_left _ h))) hg
theorem gm_t3 {w : Cond} (h : w ∈ tables_1_3) (hg : goodWord w = true) : w ∈ gm_TB := gm_tb (List.mem_append_right _ (List.mem_append_right _ (List.mem_append_right _ (List.mem_append_left _ h)))) hg
theorem gm_t4 {w : Cond} (h : w ∈ tables_1_4) (hg : goodWord w = true) : w ∈ gm_TB := gm_tb (List.mem_append_right _ (List.mem_append_right _ (List.mem_append_right _ (List.mem_append_right _ (List.mem_append_left _ h))))) hg
theorem gm_t5 {w : Cond} (h : w ∈ tables_1_5) (hg : goodWord w = true) : w ∈ gm_TB := gm_tb (List.mem_append_right _ (List.mem_append_right _ (List.mem_append_right _ (List.mem_append_right _ (List.mem_append_right _ (List.mem_append_left _ h)))))) hg
theorem gm_t6 {w : Cond} (h : w ∈ tables_1_6) (hg : goodWord w = true) : w ∈ gm_TB := gm_tb (List.mem_append_right _ (List.mem_append_right _ (List.mem_append_right _ (List.mem_append_right _ (List.mem_append_right _ (List.mem_append_right _ h)))))) hg
theorem gm_tp {w : Cond} (h : w ∈ k2_sels lw_privs) (hg : goodWord w = true) : w ∈ gm_TB := gm_tb (List.mem_append_left _ h) hg
theorem gm_good {ws : List Cond} (hw : ∀ w ∈ ws, w ∈ gm_TB) : GoodIn gm_TB ws := fun w h => ⟨hw w h, good_of_word (List.mem_filter.mp (hw w h)).2⟩
abbrev gm_Y : Type := MethodName × ByteArray × Nat × Option FieldType
/-- a field of the tables: the link from own's pool, class number, place of the field, its type, final or not -/
def gm_Fld (own : String) (idx ci k : Nat) (ty : FieldType) (fin : Bool) : Prop := ∃ (C : String) (T : u_T) (N : Nat) (ty0 : Nat → FieldType), vwCl[ci]? = some (C, T, N) ∧ k < N ∧ Cond.fieldLink own idx C (T k).2.1 (T k).2.2.1 ∈ gm_TB ∧ (T k).1 = C ∧ (∀ w ∈ u_ws C T N, w ∈ gm_TB) ∧ (∀ j, j < N → parseFieldDescriptor (T j).2.2.1 = some (ty0 j)) ∧ (∀ a, a < N → ∀ b, b < N → a ≠ b → (T a).2.1 ≠ (T b).2.1) ∧ ty0 k = ty ∧ (T k).2.2.2 = fin
def gm_Mv (Y : gm_Y) (n : Nat) : Prop := Cond.instanceMethod Y.1 ∈ gm_TB ∧ Cond.selects Y.1.cls Y.1 Y.1 ∈ gm_TB ∧ Cond.initialized Y.1.cls ∈ gm_TB ∧ Cond.code Y.1 Y.2.1 Y.2.2.1 Y.2.2.2 ∈ gm_TB ∧ plainFor Y.1 = true ∧ (Y.1.cls ≠ "java/lang/invoke/MethodHandle" ∧ Y.1.cls ≠ "java/lang/invoke/VarHandle") ∧ Y.2.2.1 ≤ 17 ∧ (parseMethodDescriptor Y.1.desc).map (fun d => d.parameters.length) = some n ∧ n + 1 ≤ Y.2.2.1
def gm_Ms (Y : gm_Y) (n : Nat) : Prop := Cond.static Y.1 ∈ gm_TB ∧ Cond.initialized Y.1.cls ∈ gm_TB ∧ Cond.code Y.1 Y.2.1 Y.2.2.1 Y.2.2.2 ∈ gm_TB ∧ plainFor Y.1 = true ∧ (Y.1.cls ≠ "java/lang/invoke/MethodHandle" ∧ Y.1.cls ≠ "java/lang/invoke/VarHandle") ∧ Y.2.2.1 ≤ 17 ∧ (parseMethodDescriptor Y.1.desc).map (fun d => d.parameters.length) = some n ∧ n ≤ Y.2.2.1
theorem gm_inX0 : ∀ w ∈ u_ws RX0 TX0 18, w ∈ gm_TB := by
  intro w hw
  obtain ⟨k, hk, rfl⟩ := List.mem_map.mp hw
  have hk2 : k < 18 := List.mem_range.mp hk
  clear hw hk
  match k, hk2 with
  | 0, _ => exact gm_t1 (List.mem_of_getElem? (i := 145) (by decide +kernel)) rfl
  | 1, _ => exact gm_t1 (List.mem_of_getElem? (i := 147) (by decide +kernel)) rfl
  | 2, _ => exact gm_t1 (List.mem_of_getElem? (i := 149) (by decide +kernel)) rfl
  | 3, _ => exact gm_t1 (List.mem_of_getElem? (i := 151) (by decide +kernel)) rfl
  | 4, _ => exact gm_t1 (List.mem_of_getElem? (i := 153) (by decide +kernel)) rfl
  | 5, _ => exact gm_t1 (List.mem_of_getElem? (i := 155) (by decide +kernel)) rfl
  | 6, _ => exact gm_t1 (List.mem_of_getElem? (i := 157) (by decide +kernel)) rfl
  | 7, _ => exact gm_t1 (List.mem_of_getElem? (i := 159) (by decide +kernel)) rfl
  | 8, _ => exact gm_t1 (List.mem_of_getElem? (i := 161) (by decide +kernel)) rfl
  | 9, _ => exact gm_t1 (List.mem_of_getElem? (i := 163) (by decide +kernel)) rfl
  | 10, _ => exact gm_t1 (List.mem_of_getElem? (i := 165) (by decide +kernel)) rfl
  | 11, _ => exact gm_t1 (List.mem_of_getElem? (i := 167) (by decide +kernel)) rfl
  | 12, _ => exact gm_t1 (List.mem_of_getElem? (i := 169) (by decide +kernel)) rfl
  | 13, _ => exact gm_t1 (List.mem_of_getElem? (i := 171) (by decide +kernel)) rfl
  | 14, _ => exact gm_t1 (List.mem_of_getElem? (i := 173) (by decide +kernel)) rfl
  | 15, _ => exact gm_t1 (List.mem_of_getElem? (i := 175) (by decide +kernel)) rfl
  | 16, _ => exact gm_t1 (List.mem_of_getElem? (i := 177) (by decide +kernel)) rfl
  | 17, _ => exact gm_t1 (List.mem_of_getElem? (i := 179) (by decide +kernel)) rfl
  | k + 18, h => exact absurd h (by omega)
theorem gm_inX1 : ∀ w ∈ u_ws RX1 TX1 7, w ∈ gm_TB := by
  intro w hw
  obtain ⟨k, hk, rfl⟩ := List.mem_map.mp hw
  have hk2 : k < 7 := List.mem_range.mp hk
  clear hw hk
  match k, hk2 with
  | 0, _ => exact gm_t1 (List.mem_of_getElem? (i := 81) (by decide +kernel)) rfl
  | 1, _ => exact gm_t1 (List.mem_of_getElem? (i := 83) (by decide +kernel)) rfl
  | 2, _ => exact gm_t1 (List.mem_of_getElem? (i := 85) (by decide +kernel)) rfl
  | 3, _ => exact gm_t1 (List.mem_of_getElem? (i := 87) (by decide +kernel)) rfl
  | 4, _ => exact gm_t1 (List.mem_of_getElem? (i := 89) (by decide +kernel)) rfl
  | 5, _ => exact gm_t1 (List.mem_of_getElem? (i := 91) (by decide +kernel)) rfl
  | 6, _ => exact gm_t1 (List.mem_of_getElem? (i := 93) (by decide +kernel)) rfl
  | k + 7, h => exact absurd h (by omega)
theorem gm_inX2 : ∀ w ∈ u_ws RX2 TX2 5, w ∈ gm_TB := by
  intro w hw
  obtain ⟨k, hk, rfl⟩ := List.mem_map.mp hw
  have hk2 : k < 5 := List.mem_range.mp hk
  clear hw hk
  match k, hk2 with
  | 0, _ => exact gm_t2 (List.mem_of_getElem? (i := 28) (by decide +kernel)) rfl
  | 1, _ => exact gm_t2 (List.mem_of_getElem? (i := 30) (by decide +kernel)) rfl
  | 2, _ => exact gm_t2 (List.mem_of_getElem? (i := 32) (by decide +kernel)) rfl
  | 3, _ => exact gm_t2 (List.mem_of_getElem? (i := 34) (by decide +kernel)) rfl
  | 4, _ => exact gm_t2 (List.mem_of_getElem? (i := 36) (by decide +kernel)) rfl
  | k + 5, h => exact absurd h (by omega)
theorem gm_inX3 : ∀ w ∈ u_ws RX3 TX3 2, w ∈ gm_TB := by
  intro w hw
  obtain ⟨k, hk, rfl⟩ := List.mem_map.mp hw
  have hk2 : k < 2 := List.mem_range.mp hk
  clear hw hk
  match k, hk2 with
  | 0, _ => exact gm_t1 (List.mem_of_getElem? (i := 235) (by decide +kernel)) rfl
  | 1, _ => exact gm_t1 (List.mem_of_getElem? (i := 237) (by decide +kernel)) rfl
  | k + 2, h => exact absurd h (by omega)
theorem gm_inX4 : ∀ w ∈ u_ws RX4 TX4 5, w ∈ gm_TB := by
  intro w hw
  obtain ⟨k, hk, rfl⟩ := List.mem_map.mp hw
  have hk2 : k < 5 := List.mem_range.mp hk
  clear hw hk
  match k, hk2 with
  | 0, _ => exact gm_t1 (List.mem_of_getElem? (i := 52) (by decide +kernel)) rfl
  | 1, _ => exact gm_t1 (List.mem_of_getElem? (i := 54) (by decide +kernel)) rfl
  | 2, _ => exact gm_t1 (List.mem_of_getElem? (i := 56) (by decide +kernel)) rfl
  | 3, _ => exact gm_t1 (List.mem_of_getElem? (i := 58) (by decide +kernel)) rfl
  | 4, _ => exact gm_t1 (List.mem_of_getElem? (i := 60) (by decide +kernel)) rfl
  | k + 5, h => exact absurd h (by omega)
theorem gm_inX5 : ∀ w ∈ u_ws RX5 TX5 9, w ∈ gm_TB := by
  intro w hw
  obtain ⟨k, hk, rfl⟩ := List.mem_map.mp hw
  have hk2 : k < 9 := List.mem_range.mp hk
  clear hw hk
  match k, hk2 with
  | 0, _ => exact gm_t1 (List.mem_of_getElem? (i := 213) (by decide +kernel)) rfl
  | 1, _ => exact gm_t1 (List.mem_of_getElem? (i := 215) (by decide +kernel)) rfl
  | 2, _ => exact gm_t1 (List.mem_of_getElem? (i := 217) (by decide +kernel)) rfl
  | 3, _ => exact gm_t1 (List.mem_of_getElem? (i := 219) (by decide +kernel)) rfl
  | 4, _ => exact gm_t1 (List.mem_of_getElem? (i := 221) (by decide +kernel)) rfl
  | 5, _ => exact gm_t1 (List.mem_of_getElem? (i := 223) (by decide +kernel)) rfl
  | 6, _ => exact gm_t1 (List.mem_of_getElem? (i := 225) (by decide +kernel)) rfl
  | 7, _ => exact gm_t1 (List.mem_of_getElem? (i := 227) (by decide +kernel)) rfl
  | 8, _ => exact gm_t1 (List.mem_of_getElem? (i := 229) (by decide +kernel)) rfl
  | k + 9, h => exact absurd h (by omega)
theorem gm_inX6 : ∀ w ∈ u_ws RX6 TX6 7, w ∈ gm_TB := by
  intro w hw
  obtain ⟨k, hk, rfl⟩ := List.mem_map.mp hw
  have hk2 : k < 7 := List.mem_range.mp hk
  clear hw hk
  match k, hk2 with
  | 0, _ => exact gm_t2 (List.mem_of_getElem? (i := 115) (by decide +kernel)) rfl
  | 1, _ => exact gm_t2 (List.mem_of_getElem? (i := 117) (by decide +kernel)) rfl
  | 2, _ => exact gm_t2 (List.mem_of_getElem? (i := 119) (by decide +kernel)) rfl
  | 3, _ => exact gm_t2 (List.mem_of_getElem? (i := 121) (by decide +kernel)) rfl
  | 4, _ => exact gm_t2 (List.mem_of_getElem? (i := 123) (by decide +kernel)) rfl
  | 5, _ => exact gm_t2 (List.mem_of_getElem? (i := 125) (by decide +kernel)) rfl
  | 6, _ => exact gm_t2 (List.mem_of_getElem? (i := 127) (by decide +kernel)) rfl
  | k + 7, h => exact absurd h (by omega)
theorem gm_inX7 : ∀ w ∈ u_ws RX7 TX7 3, w ∈ gm_TB := by
  intro w hw
  obtain ⟨k, hk, rfl⟩ := List.mem_map.mp hw
  have hk2 : k < 3 := List.mem_range.mp hk
  clear hw hk
  match k, hk2 with
  | 0, _ => exact gm_t2 (List.mem_of_getElem? (i := 10) (by decide +kernel)) rfl
  | 1, _ => exact gm_t2 (List.mem_of_getElem? (i := 12) (by decide +kernel)) rfl
  | 2, _ => exact gm_t2 (List.mem_of_getElem? (i := 14) (by decide +kernel)) rfl
  | k + 3, h => exact absurd h (by omega)
theorem gm_inX8 : ∀ w ∈ u_ws RX8 TX8 2, w ∈ gm_TB := by
  intro w hw
  obtain ⟨k, hk, rfl⟩ := List.mem_map.mp hw
  have hk2 : k < 2 := List.mem_range.mp hk
  clear hw hk
  match k, hk2 with
  | 0, _ => exact gm_t1 (List.mem_of_getElem? (i := 105) (by decide +kernel)) rfl
  | 1, _ => exact gm_t1 (List.mem_of_getElem? (i := 107) (by decide +kernel)) rfl
  | k + 2, h => exact absurd h (by omega)
theorem gm_inX9 : ∀ w ∈ u_ws RX9 TX9 14, w ∈ gm_TB := by
  intro w hw
  obtain ⟨k, hk, rfl⟩ := List.mem_map.mp hw
  have hk2 : k < 14 := List.mem_range.mp hk
  clear hw hk
  match k, hk2 with
  | 0, _ => exact gm_t2 (List.mem_of_getElem? (i := 67) (by decide +kernel)) rfl
  | 1, _ => exact gm_t2 (List.mem_of_getElem? (i := 69) (by decide +kernel)) rfl
  | 2, _ => exact gm_t2 (List.mem_of_getElem? (i := 71) (by decide +kernel)) rfl
  | 3, _ => exact gm_t2 (List.mem_of_getElem? (i := 73) (by decide +kernel)) rfl
  | 4, _ => exact gm_t2 (List.mem_of_getElem? (i := 75) (by decide +kernel)) rfl
  | 5, _ => exact gm_t2 (List.mem_of_getElem? (i := 77) (by decide +kernel)) rfl
  | 6, _ => exact gm_t2 (List.mem_of_getElem? (i := 79) (by decide +kernel)) rfl
  | 7, _ => exact gm_t2 (List.mem_of_getElem? (i := 81) (by decide +kernel)) rfl
  | 8, _ => exact gm_t2 (List.mem_of_getElem? (i := 83) (by decide +kernel)) rfl
  | 9, _ => exact gm_t2 (List.mem_of_getElem? (i := 85) (by decide +kernel)) rfl
  | 10, _ => exact gm_t2 (List.mem_of_getElem? (i := 87) (by decide +kernel)) rfl
  | 11, _ => exact gm_t2 (List.mem_of_getElem? (i := 89) (by decide +kernel)) rfl
  | 12, _ => exact gm_t2 (List.mem_of_getElem? (i := 91) (by decide +kernel)) rfl
  | 13, _ => exact gm_t2 (List.mem_of_getElem? (i := 93) (by decide +kernel)) rfl
  | k + 14, h => exact absurd h (by omega)
theorem gm_inX10 : ∀ w ∈ u_ws RX10 TX10 5, w ∈ gm_TB := by
  intro w hw
  obtain ⟨k, hk, rfl⟩ := List.mem_map.mp hw
  have hk2 : k < 5 := List.mem_range.mp hk
  clear hw hk
  match k, hk2 with
  | 0, _ => exact gm_t2 (List.mem_of_getElem? (i := 137) (by decide +kernel)) rfl
  | 1, _ => exact gm_t2 (List.mem_of_getElem? (i := 139) (by decide +kernel)) rfl
  | 2, _ => exact gm_t2 (List.mem_of_getElem? (i := 141) (by decide +kernel)) rfl
  | 3, _ => exact gm_t2 (List.mem_of_getElem? (i := 143) (by decide +kernel)) rfl
  | 4, _ => exact gm_t2 (List.mem_of_getElem? (i := 145) (by decide +kernel)) rfl
  | k + 5, h => exact absurd h (by omega)
theorem gm_inX11 : ∀ w ∈ u_ws RX11 TX11 58, w ∈ gm_TB := by
  intro w hw
  obtain ⟨k, hk, rfl⟩ := List.mem_map.mp hw
  have hk2 : k < 58 := List.mem_range.mp hk
  clear hw hk
  match k, hk2 with
  | 0, _ => exact gm_t4 (List.mem_of_getElem? (i := 204) (by decide +kernel)) rfl
  | 1, _ => exact gm_t4 (List.mem_of_getElem? (i := 206) (by decide +kernel)) rfl
  | 2, _ => exact gm_t4 (List.mem_of_getElem? (i := 208) (by decide +kernel)) rfl
  | 3, _ => exact gm_t4 (List.mem_of_getElem? (i := 210) (by decide +kernel)) rfl
  | 4, _ => exact gm_t4 (List.mem_of_getElem? (i := 212) (by decide +kernel)) rfl
  | 5, _ => exact gm_t4 (List.mem_of_getElem? (i := 214) (by decide +kernel)) rfl
  | 6, _ => exact gm_t4 (List.mem_of_getElem? (i := 216) (by decide +kernel)) rfl
  | 7, _ => exact gm_t4 (List.mem_of_getElem? (i := 218) (by decide +kernel)) rfl
  | 8, _ => exact gm_t4 (List.mem_of_getElem? (i := 220) (by decide +kernel)) rfl
  | 9, _ => exact gm_t4 (List.mem_of_getElem? (i := 222) (by decide +kernel)) rfl
  | 10, _ => exact gm_t4 (List.mem_of_getElem? (i := 224) (by decide +kernel)) rfl
  | 11, _ => exact gm_t4 (List.mem_of_getElem? (i := 226) (by decide +kernel)) rfl
  | 12, _ => exact gm_t4 (List.mem_of_getElem? (i := 228) (by decide +kernel)) rfl
  | 13, _ => exact gm_t4 (List.mem_of_getElem? (i := 230) (by decide +kernel)) rfl
  | 14, _ => exact gm_t4 (List.mem_of_getElem? (i := 232) (by decide +kernel)) rfl
  | 15, _ => exact gm_t4 (List.mem_of_getElem? (i := 234) (by decide +kernel)) rfl
  | 16, _ => exact gm_t4 (List.mem_of_getElem? (i := 236) (by decide +kernel)) rfl
  | 17, _ => exact gm_t4 (List.mem_of_getElem? (i := 238) (by decide +kernel)) rfl
  | 18, _ => exact gm_t5 (List.mem_of_getElem? (i := 0) (by decide +kernel)) rfl
  | 19, _ => exact gm_t5 (List.mem_of_getElem? (i := 2) (by decide +kernel)) rfl
  | 20, _ => exact gm_t5 (List.mem_of_getElem? (i := 4) (by decide +kernel)) rfl
  | 21, _ => exact gm_t5 (List.mem_of_getElem? (i := 6) (by decide +kernel)) rfl
  | 22, _ => exact gm_t5 (List.mem_of_getElem? (i := 8) (by decide +kernel)) rfl
  | 23, _ => exact gm_t5 (List.mem_of_getElem? (i := 10) (by decide +kernel)) rfl
  | 24, _ => exact gm_t5 (List.mem_of_getElem? (i := 12) (by decide +kernel)) rfl
  | 25, _ => exact gm_t5 (List.mem_of_getElem? (i := 14) (by decide +kernel)) rfl
  | 26, _ => exact gm_t5 (List.mem_of_getElem? (i := 16) (by decide +kernel)) rfl
  | 27, _ => exact gm_t5 (List.mem_of_getElem? (i := 18) (by decide +kernel)) rfl
  | 28, _ => exact gm_t5 (List.mem_of_getElem? (i := 20) (by decide +kernel)) rfl
  | 29, _ => exact gm_t5 (List.mem_of_getElem? (i := 22) (by decide +kernel)) rfl
  | 30, _ => exact gm_t5 (List.mem_of_getElem? (i := 24) (by decide +kernel)) rfl
  | 31, _ => exact gm_t5 (List.mem_of_getElem? (i := 26) (by decide +kernel)) rfl
  | 32, _ => exact gm_t5 (List.mem_of_getElem? (i := 28) (by decide +kernel)) rfl
  | 33, _ => exact gm_t5 (List.mem_of_getElem? (i := 30) (by decide +kernel)) rfl
  | 34, _ => exact gm_t5 (List.mem_of_getElem? (i := 32) (by decide +kernel)) rfl
  | 35, _ => exact gm_t5 (List.mem_of_getElem? (i := 34) (by decide +kernel)) rfl
  | 36, _ => exact gm_t5 (List.mem_of_getElem? (i := 36) (by decide +kernel)) rfl
  | 37, _ => exact gm_t5 (List.mem_of_getElem? (i := 38) (by decide +kernel)) rfl
  | 38, _ => exact gm_t5 (List.mem_of_getElem? (i := 40) (by decide +kernel)) rfl
  | 39, _ => exact gm_t5 (List.mem_of_getElem? (i := 42) (by decide +kernel)) rfl
  | 40, _ => exact gm_t5 (List.mem_of_getElem? (i := 44) (by decide +kernel)) rfl
  | 41, _ => exact gm_t5 (List.mem_of_getElem? (i := 46) (by decide +kernel)) rfl
  | 42, _ => exact gm_t5 (List.mem_of_getElem? (i := 48) (by decide +kernel)) rfl
  | 43, _ => exact gm_t5 (List.mem_of_getElem? (i := 50) (by decide +kernel)) rfl
  | 44, _ => exact gm_t5 (List.mem_of_getElem? (i := 52) (by decide +kernel)) rfl
  | 45, _ => exact gm_t5 (List.mem_of_getElem? (i := 54) (by decide +kernel)) rfl
  | 46, _ => exact gm_t5 (List.mem_of_getElem? (i := 56) (by decide +kernel)) rfl
  | 47, _ => exact gm_t5 (List.mem_of_getElem? (i := 58) (by decide +kernel)) rfl
  | 48, _ => exact gm_t5 (List.mem_of_getElem? (i := 60) (by decide +kernel)) rfl
  | 49, _ => exact gm_t5 (List.mem_of_getElem? (i := 62) (by decide +kernel)) rfl
  | 50, _ => exact gm_t5 (List.mem_of_getElem? (i := 64) (by decide +kernel)) rfl
  | 51, _ => exact gm_t5 (List.mem_of_getElem? (i := 66) (by decide +kernel)) rfl
  | 52, _ => exact gm_t5 (List.mem_of_getElem? (i := 68) (by decide +kernel)) rfl
  | 53, _ => exact gm_t5 (List.mem_of_getElem? (i := 70) (by decide +kernel)) rfl
  | 54, _ => exact gm_t5 (List.mem_of_getElem? (i := 72) (by decide +kernel)) rfl
  | 55, _ => exact gm_t5 (List.mem_of_getElem? (i := 74) (by decide +kernel)) rfl
  | 56, _ => exact gm_t5 (List.mem_of_getElem? (i := 76) (by decide +kernel)) rfl
  | 57, _ => exact gm_t5 (List.mem_of_getElem? (i := 78) (by decide +kernel)) rfl
  | k + 58, h => exact absurd h (by omega)
