def zt : List Cond := lw_tbl.filter goodWord
theorem zt_mem {w : Cond} (h : w ∈ lw_tbl) (hg : goodWord w = true) : w ∈ zt := List.mem_filter.mpr ⟨h, hg⟩
theorem zt_good {w : Cond} (h : w ∈ zt) : goodWord w = true := (List.mem_filter.mp h).2
theorem zt_tbl {w : Cond} (h : w ∈ zt) : w ∈ lw_tbl := (List.mem_filter.mp h).1
def zT0 : u_T := fun k => match k with
  | 0 => ("CircuitWays", "net", "LCircuitWays$Net;", true)
  | 1 => ("CircuitWays", "shares", "LCircuitWays$Shares;", true)
  | 2 => ("CircuitWays", "tails", "LCircuitWays$Tails;", true)
  | 3 => ("CircuitWays", "firstPlan", "LCircuitWays$FirstPlan;", true)
  | 4 => ("CircuitWays", "tree", "LCircuitWays$Tree;", true)
  | 5 => ("CircuitWays", "pairs", "LCircuitWays$Pairs;", true)
  | 6 => ("CircuitWays", "circles", "LCircuitWays$Circles;", true)
  | 7 => ("CircuitWays", "ways", "LCircuitWays$Ways;", true)
  | _ => ("CircuitWays", "row", "LCircuitWays$Row;", true)
def zy0 : Nat → FieldType := fun k => match k with
  | 0 => .object "CircuitWays$Net"
  | 1 => .object "CircuitWays$Shares"
  | 2 => .object "CircuitWays$Tails"
  | 3 => .object "CircuitWays$FirstPlan"
  | 4 => .object "CircuitWays$Tree"
  | 5 => .object "CircuitWays$Pairs"
  | 6 => .object "CircuitWays$Circles"
  | 7 => .object "CircuitWays$Ways"
  | _ => .object "CircuitWays$Row"
theorem zn0 : ∀ a, a < 9 → ∀ b, b < 9 → a ≠ b → (zT0 a).2.1 ≠ (zT0 b).2.1 := by decide +kernel
theorem zo0 : ∀ k, k < 9 → parseFieldDescriptor (zT0 k).2.2.1 = some (zy0 k) := by decide +kernel
theorem zi0 : ∀ w ∈ u_ws "CircuitWays" zT0 9, w ∈ zt := by
  intro w hw
  obtain ⟨j, hj, rfl⟩ := List.mem_map.mp hw
  have hj := List.mem_range.mp hj
  match j, hj with
  | 0, _ => exact zt_mem (List.mem_of_getElem? (i := 360) (by decide +kernel)) rfl
  | 1, _ => exact zt_mem (List.mem_of_getElem? (i := 362) (by decide +kernel)) rfl
  | 2, _ => exact zt_mem (List.mem_of_getElem? (i := 364) (by decide +kernel)) rfl
  | 3, _ => exact zt_mem (List.mem_of_getElem? (i := 366) (by decide +kernel)) rfl
  | 4, _ => exact zt_mem (List.mem_of_getElem? (i := 368) (by decide +kernel)) rfl
  | 5, _ => exact zt_mem (List.mem_of_getElem? (i := 370) (by decide +kernel)) rfl
  | 6, _ => exact zt_mem (List.mem_of_getElem? (i := 372) (by decide +kernel)) rfl
  | 7, _ => exact zt_mem (List.mem_of_getElem? (i := 374) (by decide +kernel)) rfl
  | 8, _ => exact zt_mem (List.mem_of_getElem? (i := 376) (by decide +kernel)) rfl
  | j + 9, h => exact absurd h (by omega)
def zT1 : u_T := fun k => match k with
  | 0 => ("CircuitWays$Net", "loads", "[I", true)
  | 1 => ("CircuitWays$Net", "costs", "[I", true)
  | 2 => ("CircuitWays$Net", "prices", "[I", true)
  | 3 => ("CircuitWays$Net", "earlier", "[I", true)
  | 4 => ("CircuitWays$Net", "size", "I", false)
  | 5 => ("CircuitWays$Net", "most", "I", false)
  | 6 => ("CircuitWays$Net", "room", "I", false)
  | 7 => ("CircuitWays$Net", "open", "I", false)
  | _ => ("CircuitWays$Net", "changes", "I", false)
def zy1 : Nat → FieldType := fun k => match k with
  | 0 => .array .int
  | 1 => .array .int
  | 2 => .array .int
  | 3 => .array .int
  | 4 => .int
  | 5 => .int
  | 6 => .int
  | 7 => .int
  | _ => .int
theorem zn1 : ∀ a, a < 9 → ∀ b, b < 9 → a ≠ b → (zT1 a).2.1 ≠ (zT1 b).2.1 := by decide +kernel
theorem zo1 : ∀ k, k < 9 → parseFieldDescriptor (zT1 k).2.2.1 = some (zy1 k) := by decide +kernel
theorem zi1 : ∀ w ∈ u_ws "CircuitWays$Net" zT1 9, w ∈ zt := by
  intro w hw
  obtain ⟨j, hj, rfl⟩ := List.mem_map.mp hw
  have hj := List.mem_range.mp hj
  match j, hj with
  | 0, _ => exact zt_mem (List.mem_of_getElem? (i := 109) (by decide +kernel)) rfl
  | 1, _ => exact zt_mem (List.mem_of_getElem? (i := 111) (by decide +kernel)) rfl
  | 2, _ => exact zt_mem (List.mem_of_getElem? (i := 113) (by decide +kernel)) rfl
  | 3, _ => exact zt_mem (List.mem_of_getElem? (i := 115) (by decide +kernel)) rfl
  | 4, _ => exact zt_mem (List.mem_of_getElem? (i := 117) (by decide +kernel)) rfl
  | 5, _ => exact zt_mem (List.mem_of_getElem? (i := 119) (by decide +kernel)) rfl
  | 6, _ => exact zt_mem (List.mem_of_getElem? (i := 121) (by decide +kernel)) rfl
  | 7, _ => exact zt_mem (List.mem_of_getElem? (i := 123) (by decide +kernel)) rfl
  | 8, _ => exact zt_mem (List.mem_of_getElem? (i := 125) (by decide +kernel)) rfl
  | j + 9, h => exact absurd h (by omega)
def zT2 : u_T := fun k => match k with
  | 0 => ("CircuitWays$Paths", "net", "LCircuitWays$Net;", true)
  | 1 => ("CircuitWays$Paths", "setLoad", "[I", true)
  | 2 => ("CircuitWays$Paths", "followers", "[I", true)
  | 3 => ("CircuitWays$Paths", "pathCost", "[I", true)
  | 4 => ("CircuitWays$Paths", "pathWays", "[I", true)
  | 5 => ("CircuitWays$Paths", "roundCost", "[I", true)
  | _ => ("CircuitWays$Paths", "roundWays", "[I", true)
def zy2 : Nat → FieldType := fun k => match k with
  | 0 => .object "CircuitWays$Net"
  | 1 => .array .int
  | 2 => .array .int
  | 3 => .array .int
  | 4 => .array .int
  | 5 => .array .int
  | _ => .array .int
theorem zn2 : ∀ a, a < 7 → ∀ b, b < 7 → a ≠ b → (zT2 a).2.1 ≠ (zT2 b).2.1 := by decide +kernel
theorem zo2 : ∀ k, k < 7 → parseFieldDescriptor (zT2 k).2.2.1 = some (zy2 k) := by decide +kernel
theorem zi2 : ∀ w ∈ u_ws "CircuitWays$Paths" zT2 7, w ∈ zt := by
  intro w hw
  obtain ⟨j, hj, rfl⟩ := List.mem_map.mp hw
  have hj := List.mem_range.mp hj
  match j, hj with
  | 0, _ => exact zt_mem (List.mem_of_getElem? (i := 146) (by decide +kernel)) rfl
  | 1, _ => exact zt_mem (List.mem_of_getElem? (i := 148) (by decide +kernel)) rfl
  | 2, _ => exact zt_mem (List.mem_of_getElem? (i := 150) (by decide +kernel)) rfl
  | 3, _ => exact zt_mem (List.mem_of_getElem? (i := 152) (by decide +kernel)) rfl
  | 4, _ => exact zt_mem (List.mem_of_getElem? (i := 154) (by decide +kernel)) rfl
  | 5, _ => exact zt_mem (List.mem_of_getElem? (i := 156) (by decide +kernel)) rfl
  | 6, _ => exact zt_mem (List.mem_of_getElem? (i := 158) (by decide +kernel)) rfl
  | j + 7, h => exact absurd h (by omega)
def zT3 : u_T := fun k => match k with
  | 0 => ("CircuitWays$Shares", "net", "LCircuitWays$Net;", true)
  | 1 => ("CircuitWays$Shares", "paths", "LCircuitWays$Paths;", true)
  | 2 => ("CircuitWays$Shares", "cost", "[I", true)
  | 3 => ("CircuitWays$Shares", "waysOf", "[I", true)
  | 4 => ("CircuitWays$Shares", "least", "I", false)
  | 5 => ("CircuitWays$Shares", "leastCount", "I", false)
  | _ => ("CircuitWays$Shares", "seen", "I", false)
def zy3 : Nat → FieldType := fun k => match k with
  | 0 => .object "CircuitWays$Net"
  | 1 => .object "CircuitWays$Paths"
  | 2 => .array .int
  | 3 => .array .int
  | 4 => .int
  | 5 => .int
  | _ => .int
theorem zn3 : ∀ a, a < 7 → ∀ b, b < 7 → a ≠ b → (zT3 a).2.1 ≠ (zT3 b).2.1 := by decide +kernel
theorem zo3 : ∀ k, k < 7 → parseFieldDescriptor (zT3 k).2.2.1 = some (zy3 k) := by decide +kernel
theorem zi3 : ∀ w ∈ u_ws "CircuitWays$Shares" zT3 7, w ∈ zt := by
  intro w hw
  obtain ⟨j, hj, rfl⟩ := List.mem_map.mp hw
  have hj := List.mem_range.mp hj
  match j, hj with
  | 0, _ => exact zt_mem (List.mem_of_getElem? (i := 177) (by decide +kernel)) rfl
  | 1, _ => exact zt_mem (List.mem_of_getElem? (i := 179) (by decide +kernel)) rfl
  | 2, _ => exact zt_mem (List.mem_of_getElem? (i := 181) (by decide +kernel)) rfl
  | 3, _ => exact zt_mem (List.mem_of_getElem? (i := 183) (by decide +kernel)) rfl
  | 4, _ => exact zt_mem (List.mem_of_getElem? (i := 185) (by decide +kernel)) rfl
  | 5, _ => exact zt_mem (List.mem_of_getElem? (i := 187) (by decide +kernel)) rfl
  | 6, _ => exact zt_mem (List.mem_of_getElem? (i := 189) (by decide +kernel)) rfl
  | j + 7, h => exact absurd h (by omega)
def zT4 : u_T := fun k => match k with
  | 0 => ("CircuitWays$Tails", "net", "LCircuitWays$Net;", true)
  | 1 => ("CircuitWays$Tails", "paths", "LCircuitWays$Paths;", true)
  | 2 => ("CircuitWays$Tails", "shares", "LCircuitWays$Shares;", true)
  | 3 => ("CircuitWays$Tails", "cost", "[I", true)
  | 4 => ("CircuitWays$Tails", "above", "[Z", true)
  | 5 => ("CircuitWays$Tails", "seen", "I", false)
  | 6 => ("CircuitWays$Tails", "free", "I", false)
  | _ => ("CircuitWays$Tails", "rounds", "I", false)
def zy4 : Nat → FieldType := fun k => match k with
  | 0 => .object "CircuitWays$Net"
  | 1 => .object "CircuitWays$Paths"
  | 2 => .object "CircuitWays$Shares"
  | 3 => .array .int
  | 4 => .array .boolean
  | 5 => .int
  | 6 => .int
  | _ => .int
theorem zn4 : ∀ a, a < 8 → ∀ b, b < 8 → a ≠ b → (zT4 a).2.1 ≠ (zT4 b).2.1 := by decide +kernel
theorem zo4 : ∀ k, k < 8 → parseFieldDescriptor (zT4 k).2.2.1 = some (zy4 k) := by decide +kernel
theorem zi4 : ∀ w ∈ u_ws "CircuitWays$Tails" zT4 8, w ∈ zt := by
  intro w hw
  obtain ⟨j, hj, rfl⟩ := List.mem_map.mp hw
  have hj := List.mem_range.mp hj
  match j, hj with
  | 0, _ => exact zt_mem (List.mem_of_getElem? (i := 206) (by decide +kernel)) rfl
  | 1, _ => exact zt_mem (List.mem_of_getElem? (i := 208) (by decide +kernel)) rfl
  | 2, _ => exact zt_mem (List.mem_of_getElem? (i := 210) (by decide +kernel)) rfl
  | 3, _ => exact zt_mem (List.mem_of_getElem? (i := 212) (by decide +kernel)) rfl
  | 4, _ => exact zt_mem (List.mem_of_getElem? (i := 214) (by decide +kernel)) rfl
  | 5, _ => exact zt_mem (List.mem_of_getElem? (i := 216) (by decide +kernel)) rfl
  | 6, _ => exact zt_mem (List.mem_of_getElem? (i := 218) (by decide +kernel)) rfl
  | 7, _ => exact zt_mem (List.mem_of_getElem? (i := 220) (by decide +kernel)) rfl
  | j + 8, h => exact absurd h (by omega)
def zT5 : u_T := fun k => match k with
  | 0 => ("CircuitWays$FirstPlan", "net", "LCircuitWays$Net;", true)
  | 1 => ("CircuitWays$FirstPlan", "shares", "LCircuitWays$Shares;", true)
  | 2 => ("CircuitWays$FirstPlan", "tails", "LCircuitWays$Tails;", true)
  | 3 => ("CircuitWays$FirstPlan", "written", "[I", true)
  | 4 => ("CircuitWays$FirstPlan", "length", "I", false)
  | 5 => ("CircuitWays$FirstPlan", "seen", "I", false)
  | 6 => ("CircuitWays$FirstPlan", "due", "I", false)
  | _ => ("CircuitWays$FirstPlan", "free", "I", false)
def zy5 : Nat → FieldType := fun k => match k with
  | 0 => .object "CircuitWays$Net"
  | 1 => .object "CircuitWays$Shares"
  | 2 => .object "CircuitWays$Tails"
  | 3 => .array .int
  | 4 => .int
  | 5 => .int
  | 6 => .int
  | _ => .int
theorem zn5 : ∀ a, a < 8 → ∀ b, b < 8 → a ≠ b → (zT5 a).2.1 ≠ (zT5 b).2.1 := by decide +kernel
theorem zo5 : ∀ k, k < 8 → parseFieldDescriptor (zT5 k).2.2.1 = some (zy5 k) := by decide +kernel
theorem zi5 : ∀ w ∈ u_ws "CircuitWays$FirstPlan" zT5 8, w ∈ zt := by
  intro w hw
  obtain ⟨j, hj, rfl⟩ := List.mem_map.mp hw
  have hj := List.mem_range.mp hj
  match j, hj with
  | 0, _ => exact zt_mem (List.mem_of_getElem? (i := 240) (by decide +kernel)) rfl
  | 1, _ => exact zt_mem (List.mem_of_getElem? (i := 242) (by decide +kernel)) rfl
  | 2, _ => exact zt_mem (List.mem_of_getElem? (i := 244) (by decide +kernel)) rfl
  | 3, _ => exact zt_mem (List.mem_of_getElem? (i := 246) (by decide +kernel)) rfl
  | 4, _ => exact zt_mem (List.mem_of_getElem? (i := 248) (by decide +kernel)) rfl
  | 5, _ => exact zt_mem (List.mem_of_getElem? (i := 250) (by decide +kernel)) rfl
  | 6, _ => exact zt_mem (List.mem_of_getElem? (i := 252) (by decide +kernel)) rfl
  | 7, _ => exact zt_mem (List.mem_of_getElem? (i := 254) (by decide +kernel)) rfl
  | j + 8, h => exact absurd h (by omega)
def zT6 : u_T := fun k => match k with
  | 0 => ("CircuitWays$Tree", "net", "LCircuitWays$Net;", true)
  | 1 => ("CircuitWays$Tree", "weights", "[I", true)
  | 2 => ("CircuitWays$Tree", "part", "[I", true)
  | 3 => ("CircuitWays$Tree", "lesser", "[I", true)
  | 4 => ("CircuitWays$Tree", "other", "[I", true)
  | 5 => ("CircuitWays$Tree", "chosen", "I", false)
  | _ => ("CircuitWays$Tree", "cost", "I", false)
def zy6 : Nat → FieldType := fun k => match k with
  | 0 => .object "CircuitWays$Net"
  | 1 => .array .int
  | 2 => .array .int
  | 3 => .array .int
  | 4 => .array .int
  | 5 => .int
  | _ => .int
theorem zn6 : ∀ a, a < 7 → ∀ b, b < 7 → a ≠ b → (zT6 a).2.1 ≠ (zT6 b).2.1 := by decide +kernel
theorem zo6 : ∀ k, k < 7 → parseFieldDescriptor (zT6 k).2.2.1 = some (zy6 k) := by decide +kernel
theorem zi6 : ∀ w ∈ u_ws "CircuitWays$Tree" zT6 7, w ∈ zt := by
  intro w hw
  obtain ⟨j, hj, rfl⟩ := List.mem_map.mp hw
  have hj := List.mem_range.mp hj
  match j, hj with
  | 0, _ => exact zt_mem (List.mem_of_getElem? (i := 273) (by decide +kernel)) rfl
  | 1, _ => exact zt_mem (List.mem_of_getElem? (i := 275) (by decide +kernel)) rfl
  | 2, _ => exact zt_mem (List.mem_of_getElem? (i := 277) (by decide +kernel)) rfl
  | 3, _ => exact zt_mem (List.mem_of_getElem? (i := 279) (by decide +kernel)) rfl
  | 4, _ => exact zt_mem (List.mem_of_getElem? (i := 281) (by decide +kernel)) rfl
  | 5, _ => exact zt_mem (List.mem_of_getElem? (i := 283) (by decide +kernel)) rfl
  | 6, _ => exact zt_mem (List.mem_of_getElem? (i := 285) (by decide +kernel)) rfl
  | j + 7, h => exact absurd h (by omega)
def zT7 : u_T := fun k => match k with
  | 0 => ("CircuitWays$Pairs", "net", "LCircuitWays$Net;", true)
  | _ => ("CircuitWays$Pairs", "cost", "[I", true)
def zy7 : Nat → FieldType := fun k => match k with
  | 0 => .object "CircuitWays$Net"
  | _ => .array .int
theorem zn7 : ∀ a, a < 2 → ∀ b, b < 2 → a ≠ b → (zT7 a).2.1 ≠ (zT7 b).2.1 := by decide +kernel
theorem zo7 : ∀ k, k < 2 → parseFieldDescriptor (zT7 k).2.2.1 = some (zy7 k) := by decide +kernel
theorem zi7 : ∀ w ∈ u_ws "CircuitWays$Pairs" zT7 2, w ∈ zt := by
  intro w hw
  obtain ⟨j, hj, rfl⟩ := List.mem_map.mp hw
  have hj := List.mem_range.mp hj
  match j, hj with
  | 0, _ => exact zt_mem (List.mem_of_getElem? (i := 296) (by decide +kernel)) rfl
  | 1, _ => exact zt_mem (List.mem_of_getElem? (i := 298) (by decide +kernel)) rfl
  | j + 2, h => exact absurd h (by omega)
def zT8 : u_T := fun k => match k with
  | 0 => ("CircuitWays$Circles", "net", "LCircuitWays$Net;", true)
  | 1 => ("CircuitWays$Circles", "follower", "[I", true)
  | _ => ("CircuitWays$Circles", "members", "[I", true)
def zy8 : Nat → FieldType := fun k => match k with
  | 0 => .object "CircuitWays$Net"
  | 1 => .array .int
  | _ => .array .int
theorem zn8 : ∀ a, a < 3 → ∀ b, b < 3 → a ≠ b → (zT8 a).2.1 ≠ (zT8 b).2.1 := by decide +kernel
theorem zo8 : ∀ k, k < 3 → parseFieldDescriptor (zT8 k).2.2.1 = some (zy8 k) := by decide +kernel
theorem zi8 : ∀ w ∈ u_ws "CircuitWays$Circles" zT8 3, w ∈ zt := by
  intro w hw
  obtain ⟨j, hj, rfl⟩ := List.mem_map.mp hw
  have hj := List.mem_range.mp hj
  match j, hj with
  | 0, _ => exact zt_mem (List.mem_of_getElem? (i := 311) (by decide +kernel)) rfl
  | 1, _ => exact zt_mem (List.mem_of_getElem? (i := 313) (by decide +kernel)) rfl
  | 2, _ => exact zt_mem (List.mem_of_getElem? (i := 315) (by decide +kernel)) rfl
  | j + 3, h => exact absurd h (by omega)
def zT9 : u_T := fun k => match k with
  | 0 => ("CircuitWays$Ways", "net", "LCircuitWays$Net;", true)
  | _ => ("CircuitWays$Ways", "reachedWithout", "[I", true)
def zy9 : Nat → FieldType := fun k => match k with
  | 0 => .object "CircuitWays$Net"
  | _ => .array .int
theorem zn9 : ∀ a, a < 2 → ∀ b, b < 2 → a ≠ b → (zT9 a).2.1 ≠ (zT9 b).2.1 := by decide +kernel
theorem zo9 : ∀ k, k < 2 → parseFieldDescriptor (zT9 k).2.2.1 = some (zy9 k) := by decide +kernel
theorem zi9 : ∀ w ∈ u_ws "CircuitWays$Ways" zT9 2, w ∈ zt := by
  intro w hw
  obtain ⟨j, hj, rfl⟩ := List.mem_map.mp hw
  have hj := List.mem_range.mp hj
  match j, hj with
  | 0, _ => exact zt_mem (List.mem_of_getElem? (i := 326) (by decide +kernel)) rfl
  | 1, _ => exact zt_mem (List.mem_of_getElem? (i := 328) (by decide +kernel)) rfl
  | j + 2, h => exact absurd h (by omega)
def zT10 : u_T := fun k => match k with
  | 0 => ("CircuitWays$Row", "net", "LCircuitWays$Net;", true)
  | 1 => ("CircuitWays$Row", "numbers", "[I", true)
  | 2 => ("CircuitWays$Row", "trial", "[I", true)
  | _ => ("CircuitWays$Row", "size", "I", false)
def zy10 : Nat → FieldType := fun k => match k with
  | 0 => .object "CircuitWays$Net"
  | 1 => .array .int
  | 2 => .array .int
  | _ => .int
theorem zn10 : ∀ a, a < 4 → ∀ b, b < 4 → a ≠ b → (zT10 a).2.1 ≠ (zT10 b).2.1 := by decide +kernel
theorem zo10 : ∀ k, k < 4 → parseFieldDescriptor (zT10 k).2.2.1 = some (zy10 k) := by decide +kernel
theorem zi10 : ∀ w ∈ u_ws "CircuitWays$Row" zT10 4, w ∈ zt := by
  intro w hw
  obtain ⟨j, hj, rfl⟩ := List.mem_map.mp hw
  have hj := List.mem_range.mp hj
  match j, hj with
  | 0, _ => exact zt_mem (List.mem_of_getElem? (i := 342) (by decide +kernel)) rfl
  | 1, _ => exact zt_mem (List.mem_of_getElem? (i := 344) (by decide +kernel)) rfl
  | 2, _ => exact zt_mem (List.mem_of_getElem? (i := 346) (by decide +kernel)) rfl
  | 3, _ => exact zt_mem (List.mem_of_getElem? (i := 348) (by decide +kernel)) rfl
  | j + 4, h => exact absurd h (by omega)
def zT11 : u_T := fun k => match k with
  | 0 => ("CircuitWaysModel", "thrown", "I", false)
  | 1 => ("CircuitWaysModel", "nodes", "I", false)
  | 2 => ("CircuitWaysModel", "load", "[I", true)
  | 3 => ("CircuitWaysModel", "arc", "[I", true)
  | 4 => ("CircuitWaysModel", "price", "[I", true)
  | 5 => ("CircuitWaysModel", "isAhead", "[Z", true)
  | 6 => ("CircuitWaysModel", "most", "I", false)
  | 7 => ("CircuitWaysModel", "room", "I", false)
  | 8 => ("CircuitWaysModel", "open", "I", false)
  | 9 => ("CircuitWaysModel", "weight", "[I", true)
  | 10 => ("CircuitWaysModel", "next", "[I", true)
  | 11 => ("CircuitWaysModel", "row", "[I", true)
  | 12 => ("CircuitWaysModel", "rowSize", "I", false)
  | 13 => ("CircuitWaysModel", "isKnown", "Z", false)
  | 14 => ("CircuitWaysModel", "best", "I", false)
  | 15 => ("CircuitWaysModel", "many", "I", false)
  | 16 => ("CircuitWaysModel", "with", "[I", true)
  | 17 => ("CircuitWaysModel", "without", "[I", true)
  | 18 => ("CircuitWaysModel", "first", "[I", true)
  | 19 => ("CircuitWaysModel", "firstSize", "I", false)
  | 20 => ("CircuitWaysModel", "written", "[I", true)
  | 21 => ("CircuitWaysModel", "writtenSize", "I", false)
  | 22 => ("CircuitWaysModel", "used", "I", false)
  | 23 => ("CircuitWaysModel", "here", "I", false)
  | 24 => ("CircuitWaysModel", "hereLoad", "I", false)
  | 25 => ("CircuitWaysModel", "rounds", "I", false)
  | 26 => ("CircuitWaysModel", "edgeA", "[I", true)
  | 27 => ("CircuitWaysModel", "edgeB", "[I", true)
  | 28 => ("CircuitWaysModel", "edges", "I", false)
  | 29 => ("CircuitWaysModel", "part", "[I", true)
  | _ => ("CircuitWaysModel", "paired", "[I", true)
def zy11 : Nat → FieldType := fun k => match k with
  | 0 => .int
  | 1 => .int
  | 2 => .array .int
  | 3 => .array .int
  | 4 => .array .int
  | 5 => .array .boolean
  | 6 => .int
  | 7 => .int
  | 8 => .int
  | 9 => .array .int
  | 10 => .array .int
  | 11 => .array .int
  | 12 => .int
  | 13 => .boolean
  | 14 => .int
  | 15 => .int
  | 16 => .array .int
  | 17 => .array .int
  | 18 => .array .int
  | 19 => .int
  | 20 => .array .int
  | 21 => .int
  | 22 => .int
  | 23 => .int
  | 24 => .int
  | 25 => .int
  | 26 => .array .int
  | 27 => .array .int
  | 28 => .int
  | 29 => .array .int
  | _ => .array .int
theorem zn11 : ∀ a, a < 31 → ∀ b, b < 31 → a ≠ b → (zT11 a).2.1 ≠ (zT11 b).2.1 := by decide +kernel
theorem zo11 : ∀ k, k < 31 → parseFieldDescriptor (zT11 k).2.2.1 = some (zy11 k) := by decide +kernel
theorem zi11 : ∀ w ∈ u_ws "CircuitWaysModel" zT11 31, w ∈ zt := by
  intro w hw
  obtain ⟨j, hj, rfl⟩ := List.mem_map.mp hw
  have hj := List.mem_range.mp hj
  match j, hj with
  | 0, _ => exact zt_mem (List.mem_of_getElem? (i := 823) (by decide +kernel)) rfl
  | 1, _ => exact zt_mem (List.mem_of_getElem? (i := 825) (by decide +kernel)) rfl
  | 2, _ => exact zt_mem (List.mem_of_getElem? (i := 827) (by decide +kernel)) rfl
  | 3, _ => exact zt_mem (List.mem_of_getElem? (i := 829) (by decide +kernel)) rfl
  | 4, _ => exact zt_mem (List.mem_of_getElem? (i := 831) (by decide +kernel)) rfl
  | 5, _ => exact zt_mem (List.mem_of_getElem? (i := 833) (by decide +kernel)) rfl
  | 6, _ => exact zt_mem (List.mem_of_getElem? (i := 835) (by decide +kernel)) rfl
  | 7, _ => exact zt_mem (List.mem_of_getElem? (i := 837) (by decide +kernel)) rfl
  | 8, _ => exact zt_mem (List.mem_of_getElem? (i := 839) (by decide +kernel)) rfl
  | 9, _ => exact zt_mem (List.mem_of_getElem? (i := 841) (by decide +kernel)) rfl
  | 10, _ => exact zt_mem (List.mem_of_getElem? (i := 843) (by decide +kernel)) rfl
  | 11, _ => exact zt_mem (List.mem_of_getElem? (i := 845) (by decide +kernel)) rfl
  | 12, _ => exact zt_mem (List.mem_of_getElem? (i := 847) (by decide +kernel)) rfl
  | 13, _ => exact zt_mem (List.mem_of_getElem? (i := 849) (by decide +kernel)) rfl
  | 14, _ => exact zt_mem (List.mem_of_getElem? (i := 851) (by decide +kernel)) rfl
  | 15, _ => exact zt_mem (List.mem_of_getElem? (i := 853) (by decide +kernel)) rfl
  | 16, _ => exact zt_mem (List.mem_of_getElem? (i := 855) (by decide +kernel)) rfl
  | 17, _ => exact zt_mem (List.mem_of_getElem? (i := 857) (by decide +kernel)) rfl
  | 18, _ => exact zt_mem (List.mem_of_getElem? (i := 859) (by decide +kernel)) rfl
  | 19, _ => exact zt_mem (List.mem_of_getElem? (i := 861) (by decide +kernel)) rfl
  | 20, _ => exact zt_mem (List.mem_of_getElem? (i := 863) (by decide +kernel)) rfl
  | 21, _ => exact zt_mem (List.mem_of_getElem? (i := 865) (by decide +kernel)) rfl
  | 22, _ => exact zt_mem (List.mem_of_getElem? (i := 867) (by decide +kernel)) rfl
  | 23, _ => exact zt_mem (List.mem_of_getElem? (i := 869) (by decide +kernel)) rfl
  | 24, _ => exact zt_mem (List.mem_of_getElem? (i := 871) (by decide +kernel)) rfl
  | 25, _ => exact zt_mem (List.mem_of_getElem? (i := 873) (by decide +kernel)) rfl
  | 26, _ => exact zt_mem (List.mem_of_getElem? (i := 875) (by decide +kernel)) rfl
  | 27, _ => exact zt_mem (List.mem_of_getElem? (i := 877) (by decide +kernel)) rfl
  | 28, _ => exact zt_mem (List.mem_of_getElem? (i := 879) (by decide +kernel)) rfl
  | 29, _ => exact zt_mem (List.mem_of_getElem? (i := 881) (by decide +kernel)) rfl
  | 30, _ => exact zt_mem (List.mem_of_getElem? (i := 883) (by decide +kernel)) rfl
  | j + 31, h => exact absurd h (by omega)
abbrev zcl : List vw_C := [("CircuitWays", zT0, 9), ("CircuitWays$Net", zT1, 9), ("CircuitWays$Paths", zT2, 7), ("CircuitWays$Shares", zT3, 7), ("CircuitWays$Tails", zT4, 8), ("CircuitWays$FirstPlan", zT5, 8), ("CircuitWays$Tree", zT6, 7), ("CircuitWays$Pairs", zT7, 2), ("CircuitWays$Circles", zT8, 3), ("CircuitWays$Ways", zT9, 2), ("CircuitWays$Row", zT10, 4), ("CircuitWaysModel", zT11, 31)]
def zty : Nat → Nat → FieldType := fun c => match c with
  | 0 => zy0
  | 1 => zy1
  | 2 => zy2
  | 3 => zy3
  | 4 => zy4
  | 5 => zy5
  | 6 => zy6
  | 7 => zy7
  | 8 => zy8
  | 9 => zy9
  | 10 => zy10
  | _ => zy11
theorem zcl_in : ∀ (ci : Nat) (q : vw_C), zcl[ci]? = some q → (∀ w ∈ u_ws q.1 q.2.1 q.2.2, w ∈ zt) := by
  intro ci q h
  match ci, h with
  | 0, h => cases h; exact zi0
  | 1, h => cases h; exact zi1
  | 2, h => cases h; exact zi2
  | 3, h => cases h; exact zi3
  | 4, h => cases h; exact zi4
  | 5, h => cases h; exact zi5
  | 6, h => cases h; exact zi6
  | 7, h => cases h; exact zi7
  | 8, h => cases h; exact zi8
  | 9, h => cases h; exact zi9
  | 10, h => cases h; exact zi10
  | 11, h => cases h; exact zi11
  | k + 12, h => simp [zcl] at h
theorem zcl_ty : ∀ (ci : Nat) (q : vw_C), zcl[ci]? = some q → (∀ k, k < q.2.2 → parseFieldDescriptor (q.2.1 k).2.2.1 = some (zty ci k)) := by
  intro ci q h
  match ci, h with
  | 0, h => cases h; exact zo0
  | 1, h => cases h; exact zo1
  | 2, h => cases h; exact zo2
  | 3, h => cases h; exact zo3
  | 4, h => cases h; exact zo4
  | 5, h => cases h; exact zo5
  | 6, h => cases h; exact zo6
  | 7, h => cases h; exact zo7
  | 8, h => cases h; exact zo8
  | 9, h => cases h; exact zo9
  | 10, h => cases h; exact zo10
  | 11, h => cases h; exact zo11
  | k + 12, h => simp [zcl] at h
theorem zcl_nm : ∀ (ci : Nat) (q : vw_C), zcl[ci]? = some q → (∀ a, a < q.2.2 → ∀ b, b < q.2.2 → a ≠ b → (q.2.1 a).2.1 ≠ (q.2.1 b).2.1) := by
  intro ci q h
  match ci, h with
  | 0, h => cases h; exact zn0
  | 1, h => cases h; exact zn1
  | 2, h => cases h; exact zn2
  | 3, h => cases h; exact zn3
  | 4, h => cases h; exact zn4
  | 5, h => cases h; exact zn5
  | 6, h => cases h; exact zn6
  | 7, h => cases h; exact zn7
  | 8, h => cases h; exact zn8
  | 9, h => cases h; exact zn9
  | 10, h => cases h; exact zn10
  | 11, h => cases h; exact zn11
  | k + 12, h => simp [zcl] at h
theorem zw0 : Cond.instantiable "CircuitWays" 9 ∈ zt ∧ Cond.initialized "CircuitWays" ∈ zt := ⟨zt_mem (List.mem_of_getElem? (i := 55) (by decide +kernel)) rfl, zt_mem (List.mem_of_getElem? (i := 40) (by decide +kernel)) rfl⟩
theorem zw1 : Cond.instantiable "CircuitWays$Net" 9 ∈ zt ∧ Cond.initialized "CircuitWays$Net" ∈ zt := ⟨zt_mem (List.mem_of_getElem? (i := 63) (by decide +kernel)) rfl, zt_mem (List.mem_of_getElem? (i := 41) (by decide +kernel)) rfl⟩
theorem zw2 : Cond.instantiable "CircuitWays$Paths" 7 ∈ zt ∧ Cond.initialized "CircuitWays$Paths" ∈ zt := ⟨zt_mem (List.mem_of_getElem? (i := 130) (by decide +kernel)) rfl, zt_mem (List.mem_of_getElem? (i := 42) (by decide +kernel)) rfl⟩
theorem zw3 : Cond.instantiable "CircuitWays$Shares" 7 ∈ zt ∧ Cond.initialized "CircuitWays$Shares" ∈ zt := ⟨zt_mem (List.mem_of_getElem? (i := 162) (by decide +kernel)) rfl, zt_mem (List.mem_of_getElem? (i := 43) (by decide +kernel)) rfl⟩
theorem zw4 : Cond.instantiable "CircuitWays$Tails" 8 ∈ zt ∧ Cond.initialized "CircuitWays$Tails" ∈ zt := ⟨zt_mem (List.mem_of_getElem? (i := 193) (by decide +kernel)) rfl, zt_mem (List.mem_of_getElem? (i := 44) (by decide +kernel)) rfl⟩
theorem zw5 : Cond.instantiable "CircuitWays$FirstPlan" 8 ∈ zt ∧ Cond.initialized "CircuitWays$FirstPlan" ∈ zt := ⟨zt_mem (List.mem_of_getElem? (i := 225) (by decide +kernel)) rfl, zt_mem (List.mem_of_getElem? (i := 45) (by decide +kernel)) rfl⟩
theorem zw6 : Cond.instantiable "CircuitWays$Tree" 7 ∈ zt ∧ Cond.initialized "CircuitWays$Tree" ∈ zt := ⟨zt_mem (List.mem_of_getElem? (i := 258) (by decide +kernel)) rfl, zt_mem (List.mem_of_getElem? (i := 46) (by decide +kernel)) rfl⟩
theorem zw7 : Cond.instantiable "CircuitWays$Pairs" 2 ∈ zt ∧ Cond.initialized "CircuitWays$Pairs" ∈ zt := ⟨zt_mem (List.mem_of_getElem? (i := 289) (by decide +kernel)) rfl, zt_mem (List.mem_of_getElem? (i := 47) (by decide +kernel)) rfl⟩
theorem zw8 : Cond.instantiable "CircuitWays$Circles" 3 ∈ zt ∧ Cond.initialized "CircuitWays$Circles" ∈ zt := ⟨zt_mem (List.mem_of_getElem? (i := 302) (by decide +kernel)) rfl, zt_mem (List.mem_of_getElem? (i := 48) (by decide +kernel)) rfl⟩
theorem zw9 : Cond.instantiable "CircuitWays$Ways" 2 ∈ zt ∧ Cond.initialized "CircuitWays$Ways" ∈ zt := ⟨zt_mem (List.mem_of_getElem? (i := 319) (by decide +kernel)) rfl, zt_mem (List.mem_of_getElem? (i := 49) (by decide +kernel)) rfl⟩
theorem zw10 : Cond.instantiable "CircuitWays$Row" 4 ∈ zt ∧ Cond.initialized "CircuitWays$Row" ∈ zt := ⟨zt_mem (List.mem_of_getElem? (i := 332) (by decide +kernel)) rfl, zt_mem (List.mem_of_getElem? (i := 50) (by decide +kernel)) rfl⟩
theorem zw11 : Cond.instantiable "CircuitWaysModel" 31 ∈ zt ∧ Cond.initialized "CircuitWaysModel" ∈ zt := ⟨zt_mem (List.mem_of_getElem? (i := 786) (by decide +kernel)) rfl, zt_mem (List.mem_of_getElem? (i := 51) (by decide +kernel)) rfl⟩
theorem zcl_new : ∀ (ci : Nat) (q : vw_C), zcl[ci]? = some q → (Cond.instantiable q.1 q.2.2 ∈ zt ∧ Cond.initialized q.1 ∈ zt) := by
  intro ci q h
  match ci, h with
  | 0, h => cases h; exact zw0
  | 1, h => cases h; exact zw1
  | 2, h => cases h; exact zw2
  | 3, h => cases h; exact zw3
  | 4, h => cases h; exact zw4
  | 5, h => cases h; exact zw5
  | 6, h => cases h; exact zw6
  | 7, h => cases h; exact zw7
  | 8, h => cases h; exact zw8
  | 9, h => cases h; exact zw9
  | 10, h => cases h; exact zw10
  | 11, h => cases h; exact zw11
  | k + 12, h => simp [zcl] at h
def znest : List Cond := [.methodLinkNest "CircuitWays$Net" 45 (⟨"CircuitWays", "bit", "(I)I"⟩ : MethodName) "CircuitWays", .methodLinkNest "CircuitWays$Paths" 69 (⟨"CircuitWays", "bit", "(I)I"⟩ : MethodName) "CircuitWays", .methodLinkNest "CircuitWays$Paths" 81 (⟨"CircuitWays", "sum", "(II)I"⟩ : MethodName) "CircuitWays", .methodLinkNest "CircuitWays$Net" 54 (⟨"CircuitWays", "sum", "(II)I"⟩ : MethodName) "CircuitWays", .methodLinkNest "CircuitWays$Shares" 73 (⟨"CircuitWays", "sum", "(II)I"⟩ : MethodName) "CircuitWays", .methodLinkNest "CircuitWays$Tails" 49 (⟨"CircuitWays", "bit", "(I)I"⟩ : MethodName) "CircuitWays", .methodLinkNest "CircuitWays$Tails" 66 (⟨"CircuitWays", "sum", "(II)I"⟩ : MethodName) "CircuitWays", .methodLinkNest "CircuitWays$FirstPlan" 83 (⟨"CircuitWays", "bit", "(I)I"⟩ : MethodName) "CircuitWays", .methodLinkNest "CircuitWays$Shares" 70 (⟨"CircuitWays", "bit", "(I)I"⟩ : MethodName) "CircuitWays", .methodLinkNest "CircuitWays$Tree" 57 (⟨"CircuitWays", "sum", "(II)I"⟩ : MethodName) "CircuitWays", .methodLinkNest "CircuitWays$Pairs" 35 (⟨"CircuitWays", "sum", "(II)I"⟩ : MethodName) "CircuitWays", .methodLinkNest "CircuitWays$Row" 32 (⟨"CircuitWays", "bit", "(I)I"⟩ : MethodName) "CircuitWays", .methodLinkNest "CircuitWays$Row" 40 (⟨"CircuitWays", "sum", "(II)I"⟩ : MethodName) "CircuitWays"]
theorem znest_in : ∀ w ∈ znest, w ∈ lw_tbl := by
  have h : znest = [434, 469, 495, 503, 518, 553, 563, 582, 604, 642, 677, 753, 759].filterMap (fun i => lw_tbl[i]?) := by decide +kernel
  intro w hw
  rw [h] at hw
  obtain ⟨i, -, hi⟩ := List.mem_filterMap.mp hw
  exact List.mem_of_getElem? hi
theorem zarr_int : Cond.arrayClass .int ∈ zt := zt_mem (List.mem_of_getElem? (i := 128) (by decide +kernel)) rfl
theorem zarr_boolean : Cond.arrayClass .boolean ∈ zt := zt_mem (List.mem_of_getElem? (i := 223) (by decide +kernel)) rfl
