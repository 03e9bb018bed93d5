def sf_F0 : u_T := fun k => match k with
  | 0 => ("SplitFares", "desk", "LSplitFares$Desk;", true)
  | 1 => ("SplitFares", "tape", "LSplitFares$Tape;", true)
  | 2 => ("SplitFares", "reader", "LSplitFares$Reader;", true)
  | 3 => ("SplitFares", "images", "[LSplitFares$Office;", true)
  | 4 => ("SplitFares", "refusals", "[I", true)
  | 5 => ("SplitFares", "answers", "[I", true)
  | 6 => ("SplitFares", "drawnTerms", "[I", true)
  | 7 => ("SplitFares", "chances", "[J", true)
  | 8 => ("SplitFares", "anyDrawn", "Z", false)
  | 9 => ("SplitFares", "latestFault", "I", false)
  | 10 => ("SplitFares", "latestStopped", "I", false)
  | 11 => ("SplitFares", "latestDelays", "I", false)
  | _ => ("SplitFares", "latestStatus", "I", false)
def sf_T0 : Nat → FieldType := fun k => match k with
  | 0 => .object "SplitFares$Desk"
  | 1 => .object "SplitFares$Tape"
  | 2 => .object "SplitFares$Reader"
  | 3 => .array (.object "SplitFares$Office")
  | 4 => .array .int
  | 5 => .array .int
  | 6 => .array .int
  | 7 => .array .long
  | 8 => .boolean
  | 9 => .int
  | 10 => .int
  | 11 => .int
  | _ => .int
theorem sf_nm0 : ∀ a, a < 13 → ∀ b, b < 13 → a ≠ b → (sf_F0 a).2.1 ≠ (sf_F0 b).2.1 := by decide +kernel
theorem sf_ty0 : ∀ k, k < 13 → parseFieldDescriptor (sf_F0 k).2.2.1 = some (sf_T0 k) := by decide +kernel
theorem sf_us0 : ∀ w ∈ u_ws "SplitFares" sf_F0 13, w ∈ sf_TB := by
  show ∀ w ∈ [u_lay "SplitFares" sf_F0 0, u_lay "SplitFares" sf_F0 1, u_lay "SplitFares" sf_F0 2, u_lay "SplitFares" sf_F0 3, u_lay "SplitFares" sf_F0 4, u_lay "SplitFares" sf_F0 5, u_lay "SplitFares" sf_F0 6, u_lay "SplitFares" sf_F0 7, u_lay "SplitFares" sf_F0 8, u_lay "SplitFares" sf_F0 9, u_lay "SplitFares" sf_F0 10, u_lay "SplitFares" sf_F0 11, u_lay "SplitFares" sf_F0 12], w ∈ sf_TB
  exact List.forall_mem_cons.mpr ⟨sw_328, List.forall_mem_cons.mpr ⟨sw_330, List.forall_mem_cons.mpr ⟨sw_332, List.forall_mem_cons.mpr ⟨sw_334, List.forall_mem_cons.mpr ⟨sw_336, List.forall_mem_cons.mpr ⟨sw_338, List.forall_mem_cons.mpr ⟨sw_340, List.forall_mem_cons.mpr ⟨sw_342, List.forall_mem_cons.mpr ⟨sw_344, List.forall_mem_cons.mpr ⟨sw_346, List.forall_mem_cons.mpr ⟨sw_348, List.forall_mem_cons.mpr ⟨sw_350, List.forall_mem_cons.mpr ⟨sw_352, fun _ h => absurd h List.not_mem_nil⟩⟩⟩⟩⟩⟩⟩⟩⟩⟩⟩⟩⟩
def sf_F1 : u_T := fun k => match k with
  | 0 => ("SplitFares$Desk", "office", "LSplitFares$Office;", true)
  | 1 => ("SplitFares$Desk", "ways", "LSplitFares$Ways;", true)
  | 2 => ("SplitFares$Desk", "log", "LSplitFares$Log;", true)
  | 3 => ("SplitFares$Desk", "logBefore", "LSplitFares$Log;", true)
  | 4 => ("SplitFares$Desk", "pocketBefore", "LSplitFares$Pocket;", true)
  | 5 => ("SplitFares$Desk", "machine", "LSplitFares$Machine;", true)
  | 6 => ("SplitFares$Desk", "done", "I", false)
  | _ => ("SplitFares$Desk", "latestRide", "I", false)
def sf_T1 : Nat → FieldType := fun k => match k with
  | 0 => .object "SplitFares$Office"
  | 1 => .object "SplitFares$Ways"
  | 2 => .object "SplitFares$Log"
  | 3 => .object "SplitFares$Log"
  | 4 => .object "SplitFares$Pocket"
  | 5 => .object "SplitFares$Machine"
  | 6 => .int
  | _ => .int
theorem sf_nm1 : ∀ a, a < 8 → ∀ b, b < 8 → a ≠ b → (sf_F1 a).2.1 ≠ (sf_F1 b).2.1 := by decide +kernel
theorem sf_ty1 : ∀ k, k < 8 → parseFieldDescriptor (sf_F1 k).2.2.1 = some (sf_T1 k) := by decide +kernel
theorem sf_us1 : ∀ w ∈ u_ws "SplitFares$Desk" sf_F1 8, w ∈ sf_TB := by
  show ∀ w ∈ [u_lay "SplitFares$Desk" sf_F1 0, u_lay "SplitFares$Desk" sf_F1 1, u_lay "SplitFares$Desk" sf_F1 2, u_lay "SplitFares$Desk" sf_F1 3, u_lay "SplitFares$Desk" sf_F1 4, u_lay "SplitFares$Desk" sf_F1 5, u_lay "SplitFares$Desk" sf_F1 6, u_lay "SplitFares$Desk" sf_F1 7], w ∈ sf_TB
  exact List.forall_mem_cons.mpr ⟨sw_203, List.forall_mem_cons.mpr ⟨sw_205, List.forall_mem_cons.mpr ⟨sw_207, List.forall_mem_cons.mpr ⟨sw_209, List.forall_mem_cons.mpr ⟨sw_211, List.forall_mem_cons.mpr ⟨sw_213, List.forall_mem_cons.mpr ⟨sw_215, List.forall_mem_cons.mpr ⟨sw_217, fun _ h => absurd h List.not_mem_nil⟩⟩⟩⟩⟩⟩⟩⟩
def sf_F2 : u_T := fun k => match k with
  | 0 => ("SplitFares$Log", "pockets", "[LSplitFares$Pocket;", true)
  | 1 => ("SplitFares$Log", "kinds", "[I", true)
  | 2 => ("SplitFares$Log", "first", "I", false)
  | _ => ("SplitFares$Log", "size", "I", false)
def sf_T2 : Nat → FieldType := fun k => match k with
  | 0 => .array (.object "SplitFares$Pocket")
  | 1 => .array .int
  | 2 => .int
  | _ => .int
theorem sf_nm2 : ∀ a, a < 4 → ∀ b, b < 4 → a ≠ b → (sf_F2 a).2.1 ≠ (sf_F2 b).2.1 := by decide +kernel
theorem sf_ty2 : ∀ k, k < 4 → parseFieldDescriptor (sf_F2 k).2.2.1 = some (sf_T2 k) := by decide +kernel
theorem sf_us2 : ∀ w ∈ u_ws "SplitFares$Log" sf_F2 4, w ∈ sf_TB := by
  show ∀ w ∈ [u_lay "SplitFares$Log" sf_F2 0, u_lay "SplitFares$Log" sf_F2 1, u_lay "SplitFares$Log" sf_F2 2, u_lay "SplitFares$Log" sf_F2 3], w ∈ sf_TB
  exact List.forall_mem_cons.mpr ⟨sw_178, List.forall_mem_cons.mpr ⟨sw_180, List.forall_mem_cons.mpr ⟨sw_182, List.forall_mem_cons.mpr ⟨sw_184, fun _ h => absurd h List.not_mem_nil⟩⟩⟩⟩
def sf_F3 : u_T := fun k => match k with
  | 0 => ("SplitFares$Machine", "words", "[I", true)
  | _ => ("SplitFares$Machine", "stack", "[I", true)
def sf_T3 : Nat → FieldType := fun k => match k with
  | 0 => .array .int
  | _ => .array .int
theorem sf_nm3 : ∀ a, a < 2 → ∀ b, b < 2 → a ≠ b → (sf_F3 a).2.1 ≠ (sf_F3 b).2.1 := by decide +kernel
theorem sf_ty3 : ∀ k, k < 2 → parseFieldDescriptor (sf_F3 k).2.2.1 = some (sf_T3 k) := by decide +kernel
theorem sf_us3 : ∀ w ∈ u_ws "SplitFares$Machine" sf_F3 2, w ∈ sf_TB := by
  show ∀ w ∈ [u_lay "SplitFares$Machine" sf_F3 0, u_lay "SplitFares$Machine" sf_F3 1], w ∈ sf_TB
  exact List.forall_mem_cons.mpr ⟨sw_80, List.forall_mem_cons.mpr ⟨sw_82, fun _ h => absurd h List.not_mem_nil⟩⟩
def sf_F4 : u_T := fun k => match k with
  | 0 => ("SplitFares$Office", "pocket", "LSplitFares$Pocket;", true)
  | 1 => ("SplitFares$Office", "trainCount", "I", false)
  | 2 => ("SplitFares$Office", "stops", "[I", true)
  | 3 => ("SplitFares$Office", "ups", "[I", true)
  | 4 => ("SplitFares$Office", "hours", "[I", true)
  | 5 => ("SplitFares$Office", "lawCount", "I", false)
  | 6 => ("SplitFares$Office", "lawInForce", "I", false)
  | 7 => ("SplitFares$Office", "laws", "[LSplitFares$Program;", true)
  | 8 => ("SplitFares$Office", "toldCount", "I", false)
  | 9 => ("SplitFares$Office", "toldStations", "[I", true)
  | 10 => ("SplitFares$Office", "toldCosts", "[I", true)
  | 11 => ("SplitFares$Office", "checks", "I", false)
  | 12 => ("SplitFares$Office", "mood", "I", false)
  | _ => ("SplitFares$Office", "machine", "LSplitFares$Machine;", true)
def sf_T4 : Nat → FieldType := fun k => match k with
  | 0 => .object "SplitFares$Pocket"
  | 1 => .int
  | 2 => .array .int
  | 3 => .array .int
  | 4 => .array .int
  | 5 => .int
  | 6 => .int
  | 7 => .array (.object "SplitFares$Program")
  | 8 => .int
  | 9 => .array .int
  | 10 => .array .int
  | 11 => .int
  | 12 => .int
  | _ => .object "SplitFares$Machine"
theorem sf_nm4 : ∀ a, a < 14 → ∀ b, b < 14 → a ≠ b → (sf_F4 a).2.1 ≠ (sf_F4 b).2.1 := by decide +kernel
theorem sf_ty4 : ∀ k, k < 14 → parseFieldDescriptor (sf_F4 k).2.2.1 = some (sf_T4 k) := by decide +kernel
theorem sf_us4 : ∀ w ∈ u_ws "SplitFares$Office" sf_F4 14, w ∈ sf_TB := by
  show ∀ w ∈ [u_lay "SplitFares$Office" sf_F4 0, u_lay "SplitFares$Office" sf_F4 1, u_lay "SplitFares$Office" sf_F4 2, u_lay "SplitFares$Office" sf_F4 3, u_lay "SplitFares$Office" sf_F4 4, u_lay "SplitFares$Office" sf_F4 5, u_lay "SplitFares$Office" sf_F4 6, u_lay "SplitFares$Office" sf_F4 7, u_lay "SplitFares$Office" sf_F4 8, u_lay "SplitFares$Office" sf_F4 9, u_lay "SplitFares$Office" sf_F4 10, u_lay "SplitFares$Office" sf_F4 11, u_lay "SplitFares$Office" sf_F4 12, u_lay "SplitFares$Office" sf_F4 13], w ∈ sf_TB
  exact List.forall_mem_cons.mpr ⟨sw_113, List.forall_mem_cons.mpr ⟨sw_115, List.forall_mem_cons.mpr ⟨sw_117, List.forall_mem_cons.mpr ⟨sw_119, List.forall_mem_cons.mpr ⟨sw_121, List.forall_mem_cons.mpr ⟨sw_123, List.forall_mem_cons.mpr ⟨sw_125, List.forall_mem_cons.mpr ⟨sw_127, List.forall_mem_cons.mpr ⟨sw_129, List.forall_mem_cons.mpr ⟨sw_131, List.forall_mem_cons.mpr ⟨sw_133, List.forall_mem_cons.mpr ⟨sw_135, List.forall_mem_cons.mpr ⟨sw_137, List.forall_mem_cons.mpr ⟨sw_139, fun _ h => absurd h List.not_mem_nil⟩⟩⟩⟩⟩⟩⟩⟩⟩⟩⟩⟩⟩⟩
def sf_F5 : u_T := fun k => match k with
  | 0 => ("SplitFares$Pocket", "tickets", "[I", true)
  | 1 => ("SplitFares$Pocket", "purse", "I", false)
  | 2 => ("SplitFares$Pocket", "at", "I", false)
  | _ => ("SplitFares$Pocket", "day", "I", false)
def sf_T5 : Nat → FieldType := fun k => match k with
  | 0 => .array .int
  | 1 => .int
  | 2 => .int
  | _ => .int
theorem sf_nm5 : ∀ a, a < 4 → ∀ b, b < 4 → a ≠ b → (sf_F5 a).2.1 ≠ (sf_F5 b).2.1 := by decide +kernel
theorem sf_ty5 : ∀ k, k < 4 → parseFieldDescriptor (sf_F5 k).2.2.1 = some (sf_T5 k) := by decide +kernel
theorem sf_us5 : ∀ w ∈ u_ws "SplitFares$Pocket" sf_F5 4, w ∈ sf_TB := by
  show ∀ w ∈ [u_lay "SplitFares$Pocket" sf_F5 0, u_lay "SplitFares$Pocket" sf_F5 1, u_lay "SplitFares$Pocket" sf_F5 2, u_lay "SplitFares$Pocket" sf_F5 3], w ∈ sf_TB
  exact List.forall_mem_cons.mpr ⟨sw_58, List.forall_mem_cons.mpr ⟨sw_60, List.forall_mem_cons.mpr ⟨sw_62, List.forall_mem_cons.mpr ⟨sw_64, fun _ h => absurd h List.not_mem_nil⟩⟩⟩⟩
def sf_F6 : u_T := fun k => match k with
  | 0 => ("SplitFares$Program", "ops", "[I", true)
  | 1 => ("SplitFares$Program", "args", "[I", true)
  | 2 => ("SplitFares$Program", "clauses", "[I", true)
  | 3 => ("SplitFares$Program", "size", "I", false)
  | _ => ("SplitFares$Program", "clauseCount", "I", false)
def sf_T6 : Nat → FieldType := fun k => match k with
  | 0 => .array .int
  | 1 => .array .int
  | 2 => .array .int
  | 3 => .int
  | _ => .int
theorem sf_nm6 : ∀ a, a < 5 → ∀ b, b < 5 → a ≠ b → (sf_F6 a).2.1 ≠ (sf_F6 b).2.1 := by decide +kernel
theorem sf_ty6 : ∀ k, k < 5 → parseFieldDescriptor (sf_F6 k).2.2.1 = some (sf_T6 k) := by decide +kernel
theorem sf_us6 : ∀ w ∈ u_ws "SplitFares$Program" sf_F6 5, w ∈ sf_TB := by
  show ∀ w ∈ [u_lay "SplitFares$Program" sf_F6 0, u_lay "SplitFares$Program" sf_F6 1, u_lay "SplitFares$Program" sf_F6 2, u_lay "SplitFares$Program" sf_F6 3, u_lay "SplitFares$Program" sf_F6 4], w ∈ sf_TB
  exact List.forall_mem_cons.mpr ⟨sw_254, List.forall_mem_cons.mpr ⟨sw_256, List.forall_mem_cons.mpr ⟨sw_258, List.forall_mem_cons.mpr ⟨sw_260, List.forall_mem_cons.mpr ⟨sw_262, fun _ h => absurd h List.not_mem_nil⟩⟩⟩⟩⟩
def sf_F7 : u_T := fun k => match k with
  | 0 => ("SplitFares$Reader", "draft", "LSplitFares$Program;", true)
  | 1 => ("SplitFares$Reader", "tokens", "LSplitFares$Tokens;", true)
  | 2 => ("SplitFares$Reader", "forOrders", "Z", false)
  | _ => ("SplitFares$Reader", "parts", "I", false)
def sf_T7 : Nat → FieldType := fun k => match k with
  | 0 => .object "SplitFares$Program"
  | 1 => .object "SplitFares$Tokens"
  | 2 => .boolean
  | _ => .int
theorem sf_nm7 : ∀ a, a < 4 → ∀ b, b < 4 → a ≠ b → (sf_F7 a).2.1 ≠ (sf_F7 b).2.1 := by decide +kernel
theorem sf_ty7 : ∀ k, k < 4 → parseFieldDescriptor (sf_F7 k).2.2.1 = some (sf_T7 k) := by decide +kernel
theorem sf_us7 : ∀ w ∈ u_ws "SplitFares$Reader" sf_F7 4, w ∈ sf_TB := by
  show ∀ w ∈ [u_lay "SplitFares$Reader" sf_F7 0, u_lay "SplitFares$Reader" sf_F7 1, u_lay "SplitFares$Reader" sf_F7 2, u_lay "SplitFares$Reader" sf_F7 3], w ∈ sf_TB
  exact List.forall_mem_cons.mpr ⟨sw_304, List.forall_mem_cons.mpr ⟨sw_306, List.forall_mem_cons.mpr ⟨sw_308, List.forall_mem_cons.mpr ⟨sw_310, fun _ h => absurd h List.not_mem_nil⟩⟩⟩⟩
def sf_F8 : u_T := fun k => match k with
  | 0 => ("SplitFares$Tape", "bytes", "[I", true)
  | _ => ("SplitFares$Tape", "length", "I", false)
def sf_T8 : Nat → FieldType := fun k => match k with
  | 0 => .array .int
  | _ => .int
theorem sf_nm8 : ∀ a, a < 2 → ∀ b, b < 2 → a ≠ b → (sf_F8 a).2.1 ≠ (sf_F8 b).2.1 := by decide +kernel
theorem sf_ty8 : ∀ k, k < 2 → parseFieldDescriptor (sf_F8 k).2.2.1 = some (sf_T8 k) := by decide +kernel
theorem sf_us8 : ∀ w ∈ u_ws "SplitFares$Tape" sf_F8 2, w ∈ sf_TB := by
  show ∀ w ∈ [u_lay "SplitFares$Tape" sf_F8 0, u_lay "SplitFares$Tape" sf_F8 1], w ∈ sf_TB
  exact List.forall_mem_cons.mpr ⟨sw_230, List.forall_mem_cons.mpr ⟨sw_232, fun _ h => absurd h List.not_mem_nil⟩⟩
def sf_F9 : u_T := fun k => match k with
  | 0 => ("SplitFares$Tokens", "text", "[I", true)
  | 1 => ("SplitFares$Tokens", "kinds", "[I", true)
  | 2 => ("SplitFares$Tokens", "starts", "[I", true)
  | 3 => ("SplitFares$Tokens", "stops", "[I", true)
  | 4 => ("SplitFares$Tokens", "size", "I", false)
  | 5 => ("SplitFares$Tokens", "now", "I", false)
  | 6 => ("SplitFares$Tokens", "kind", "I", false)
  | 7 => ("SplitFares$Tokens", "start", "I", false)
  | _ => ("SplitFares$Tokens", "stop", "I", false)
def sf_T9 : Nat → FieldType := fun k => match k with
  | 0 => .array .int
  | 1 => .array .int
  | 2 => .array .int
  | 3 => .array .int
  | 4 => .int
  | 5 => .int
  | 6 => .int
  | 7 => .int
  | _ => .int
theorem sf_nm9 : ∀ a, a < 9 → ∀ b, b < 9 → a ≠ b → (sf_F9 a).2.1 ≠ (sf_F9 b).2.1 := by decide +kernel
theorem sf_ty9 : ∀ k, k < 9 → parseFieldDescriptor (sf_F9 k).2.2.1 = some (sf_T9 k) := by decide +kernel
theorem sf_us9 : ∀ w ∈ u_ws "SplitFares$Tokens" sf_F9 9, w ∈ sf_TB := by
  show ∀ w ∈ [u_lay "SplitFares$Tokens" sf_F9 0, u_lay "SplitFares$Tokens" sf_F9 1, u_lay "SplitFares$Tokens" sf_F9 2, u_lay "SplitFares$Tokens" sf_F9 3, u_lay "SplitFares$Tokens" sf_F9 4, u_lay "SplitFares$Tokens" sf_F9 5, u_lay "SplitFares$Tokens" sf_F9 6, u_lay "SplitFares$Tokens" sf_F9 7, u_lay "SplitFares$Tokens" sf_F9 8], w ∈ sf_TB
  exact List.forall_mem_cons.mpr ⟨sw_280, List.forall_mem_cons.mpr ⟨sw_282, List.forall_mem_cons.mpr ⟨sw_284, List.forall_mem_cons.mpr ⟨sw_286, List.forall_mem_cons.mpr ⟨sw_288, List.forall_mem_cons.mpr ⟨sw_290, List.forall_mem_cons.mpr ⟨sw_292, List.forall_mem_cons.mpr ⟨sw_294, List.forall_mem_cons.mpr ⟨sw_296, fun _ h => absurd h List.not_mem_nil⟩⟩⟩⟩⟩⟩⟩⟩⟩
def sf_F10 : u_T := fun k => match k with
  | 0 => ("SplitFares$Ways", "legs", "[I", true)
  | 1 => ("SplitFares$Ways", "sorts", "[I", true)
  | 2 => ("SplitFares$Ways", "joint", "[I", true)
  | 3 => ("SplitFares$Ways", "best", "[I", true)
  | _ => ("SplitFares$Ways", "bestNow", "[I", true)
def sf_T10 : Nat → FieldType := fun k => match k with
  | 0 => .array .int
  | 1 => .array .int
  | 2 => .array .int
  | 3 => .array .int
  | _ => .array .int
theorem sf_nm10 : ∀ a, a < 5 → ∀ b, b < 5 → a ≠ b → (sf_F10 a).2.1 ≠ (sf_F10 b).2.1 := by decide +kernel
theorem sf_ty10 : ∀ k, k < 5 → parseFieldDescriptor (sf_F10 k).2.2.1 = some (sf_T10 k) := by decide +kernel
theorem sf_us10 : ∀ w ∈ u_ws "SplitFares$Ways" sf_F10 5, w ∈ sf_TB := by
  show ∀ w ∈ [u_lay "SplitFares$Ways" sf_F10 0, u_lay "SplitFares$Ways" sf_F10 1, u_lay "SplitFares$Ways" sf_F10 2, u_lay "SplitFares$Ways" sf_F10 3, u_lay "SplitFares$Ways" sf_F10 4], w ∈ sf_TB
  exact List.forall_mem_cons.mpr ⟨sw_153, List.forall_mem_cons.mpr ⟨sw_155, List.forall_mem_cons.mpr ⟨sw_157, List.forall_mem_cons.mpr ⟨sw_159, List.forall_mem_cons.mpr ⟨sw_161, fun _ h => absurd h List.not_mem_nil⟩⟩⟩⟩⟩
def sf_F11 : u_T := fun k => match k with
  | 0 => ("SplitFaresModel", "status", "I", false)
  | 1 => ("SplitFaresModel", "refused", "[I", true)
  | 2 => ("SplitFaresModel", "kept", "[I", true)
  | 3 => ("SplitFaresModel", "images", "[I", true)
  | 4 => ("SplitFaresModel", "hasImage", "[Z", true)
  | 5 => ("SplitFaresModel", "aside", "[I", true)
  | 6 => ("SplitFaresModel", "delays0", "I", false)
  | 7 => ("SplitFaresModel", "words", "[B", true)
  | 8 => ("SplitFaresModel", "firstWord", "I", false)
  | 9 => ("SplitFaresModel", "lastWord", "I", false)
  | 10 => ("SplitFaresModel", "isOrders", "Z", false)
  | 11 => ("SplitFaresModel", "tape", "[B", true)
  | 12 => ("SplitFaresModel", "five", "[I", true)
  | 13 => ("SplitFaresModel", "taped", "I", false)
  | 14 => ("SplitFaresModel", "fault", "I", false)
  | 15 => ("SplitFaresModel", "code", "[I", true)
  | 16 => ("SplitFaresModel", "value", "[I", true)
  | 17 => ("SplitFaresModel", "placed", "[I", true)
  | 18 => ("SplitFaresModel", "tokens", "I", false)
  | 19 => ("SplitFaresModel", "token", "I", false)
  | 20 => ("SplitFaresModel", "leaves", "I", false)
  | 21 => ("SplitFaresModel", "bad", "I", false)
  | 22 => ("SplitFaresModel", "go", "I", false)
  | 23 => ("SplitFaresModel", "goEnd", "I", false)
  | 24 => ("SplitFaresModel", "broken", "Z", false)
  | 25 => ("SplitFaresModel", "inOrders", "Z", false)
  | 26 => ("SplitFaresModel", "asked", "[I", true)
  | 27 => ("SplitFaresModel", "orderDone", "I", false)
  | 28 => ("SplitFaresModel", "orderLatest", "I", false)
  | 29 => ("SplitFaresModel", "line", "[I", true)
  | 30 => ("SplitFaresModel", "lineMany", "I", false)
  | 31 => ("SplitFaresModel", "leg", "[I", true)
  | 32 => ("SplitFaresModel", "left", "[I", true)
  | 33 => ("SplitFaresModel", "leftBy", "[I", true)
  | 34 => ("SplitFaresModel", "waysLeft", "[I", true)
  | 35 => ("SplitFaresModel", "there", "[I", true)
  | 36 => ("SplitFaresModel", "back0", "[I", true)
  | 37 => ("SplitFaresModel", "both", "[I", true)
  | 38 => ("SplitFaresModel", "left0", "[I", true)
  | 39 => ("SplitFaresModel", "leftAhead", "[I", true)
  | 40 => ("SplitFaresModel", "undoMany", "I", false)
  | 41 => ("SplitFaresModel", "fares", "[I", true)
  | 42 => ("SplitFaresModel", "shares", "[J", true)
  | 43 => ("SplitFaresModel", "stopped0", "I", false)
  | 44 => ("SplitFaresModel", "orderAt", "I", false)
  | 45 => ("SplitFaresModel", "howOften", "I", false)
  | 46 => ("SplitFaresModel", "head", "I", false)
  | 47 => ("SplitFaresModel", "sumsAre", "Z", false)
  | 48 => ("SplitFaresModel", "testIs", "Z", false)
  | 49 => ("SplitFaresModel", "sums", "[J", true)
  | 50 => ("SplitFaresModel", "drawnTold", "[I", true)
  | 51 => ("SplitFaresModel", "hasDrawn", "Z", false)
  | _ => ("SplitFaresModel", "latest", "I", false)
def sf_T11 : Nat → FieldType := fun k => match k with
  | 0 => .int
  | 1 => .array .int
  | 2 => .array .int
  | 3 => .array .int
  | 4 => .array .boolean
  | 5 => .array .int
  | 6 => .int
  | 7 => .array .byte
  | 8 => .int
  | 9 => .int
  | 10 => .boolean
  | 11 => .array .byte
  | 12 => .array .int
  | 13 => .int
  | 14 => .int
  | 15 => .array .int
  | 16 => .array .int
  | 17 => .array .int
  | 18 => .int
  | 19 => .int
  | 20 => .int
  | 21 => .int
  | 22 => .int
  | 23 => .int
  | 24 => .boolean
  | 25 => .boolean
  | 26 => .array .int
  | 27 => .int
  | 28 => .int
  | 29 => .array .int
  | 30 => .int
  | 31 => .array .int
  | 32 => .array .int
  | 33 => .array .int
  | 34 => .array .int
  | 35 => .array .int
  | 36 => .array .int
  | 37 => .array .int
  | 38 => .array .int
  | 39 => .array .int
  | 40 => .int
  | 41 => .array .int
  | 42 => .array .long
  | 43 => .int
  | 44 => .int
  | 45 => .int
  | 46 => .int
  | 47 => .boolean
  | 48 => .boolean
  | 49 => .array .long
  | 50 => .array .int
  | 51 => .boolean
  | _ => .int
theorem sf_nm11 : ∀ a, a < 53 → ∀ b, b < 53 → a ≠ b → (sf_F11 a).2.1 ≠ (sf_F11 b).2.1 := by decide +kernel
theorem sf_ty11 : ∀ k, k < 53 → parseFieldDescriptor (sf_F11 k).2.2.1 = some (sf_T11 k) := by decide +kernel
theorem sf_us11 : ∀ w ∈ u_ws "SplitFaresModel" sf_F11 53, w ∈ sf_TB := by
  show ∀ w ∈ [u_lay "SplitFaresModel" sf_F11 0, u_lay "SplitFaresModel" sf_F11 1, u_lay "SplitFaresModel" sf_F11 2, u_lay "SplitFaresModel" sf_F11 3, u_lay "SplitFaresModel" sf_F11 4, u_lay "SplitFaresModel" sf_F11 5, u_lay "SplitFaresModel" sf_F11 6, u_lay "SplitFaresModel" sf_F11 7, u_lay "SplitFaresModel" sf_F11 8, u_lay "SplitFaresModel" sf_F11 9, u_lay "SplitFaresModel" sf_F11 10, u_lay "SplitFaresModel" sf_F11 11, u_lay "SplitFaresModel" sf_F11 12, u_lay "SplitFaresModel" sf_F11 13, u_lay "SplitFaresModel" sf_F11 14, u_lay "SplitFaresModel" sf_F11 15, u_lay "SplitFaresModel" sf_F11 16, u_lay "SplitFaresModel" sf_F11 17, u_lay "SplitFaresModel" sf_F11 18, u_lay "SplitFaresModel" sf_F11 19, u_lay "SplitFaresModel" sf_F11 20, u_lay "SplitFaresModel" sf_F11 21, u_lay "SplitFaresModel" sf_F11 22, u_lay "SplitFaresModel" sf_F11 23, u_lay "SplitFaresModel" sf_F11 24, u_lay "SplitFaresModel" sf_F11 25, u_lay "SplitFaresModel" sf_F11 26, u_lay "SplitFaresModel" sf_F11 27, u_lay "SplitFaresModel" sf_F11 28, u_lay "SplitFaresModel" sf_F11 29, u_lay "SplitFaresModel" sf_F11 30, u_lay "SplitFaresModel" sf_F11 31, u_lay "SplitFaresModel" sf_F11 32, u_lay "SplitFaresModel" sf_F11 33, u_lay "SplitFaresModel" sf_F11 34, u_lay "SplitFaresModel" sf_F11 35, u_lay "SplitFaresModel" sf_F11 36, u_lay "SplitFaresModel" sf_F11 37, u_lay "SplitFaresModel" sf_F11 38, u_lay "SplitFaresModel" sf_F11 39, u_lay "SplitFaresModel" sf_F11 40, u_lay "SplitFaresModel" sf_F11 41, u_lay "SplitFaresModel" sf_F11 42, u_lay "SplitFaresModel" sf_F11 43, u_lay "SplitFaresModel" sf_F11 44, u_lay "SplitFaresModel" sf_F11 45, u_lay "SplitFaresModel" sf_F11 46, u_lay "SplitFaresModel" sf_F11 47, u_lay "SplitFaresModel" sf_F11 48, u_lay "SplitFaresModel" sf_F11 49, u_lay "SplitFaresModel" sf_F11 50, u_lay "SplitFaresModel" sf_F11 51, u_lay "SplitFaresModel" sf_F11 52], w ∈ sf_TB
  exact List.forall_mem_cons.mpr ⟨sw_1125, List.forall_mem_cons.mpr ⟨sw_1127, List.forall_mem_cons.mpr ⟨sw_1129, List.forall_mem_cons.mpr ⟨sw_1131, List.forall_mem_cons.mpr ⟨sw_1133, List.forall_mem_cons.mpr ⟨sw_1135, List.forall_mem_cons.mpr ⟨sw_1137, List.forall_mem_cons.mpr ⟨sw_1139, List.forall_mem_cons.mpr ⟨sw_1141, List.forall_mem_cons.mpr ⟨sw_1143, List.forall_mem_cons.mpr ⟨sw_1145, List.forall_mem_cons.mpr ⟨sw_1147, List.forall_mem_cons.mpr ⟨sw_1149, List.forall_mem_cons.mpr ⟨sw_1151, List.forall_mem_cons.mpr ⟨sw_1153, List.forall_mem_cons.mpr ⟨sw_1155, List.forall_mem_cons.mpr ⟨sw_1157, List.forall_mem_cons.mpr ⟨sw_1159, List.forall_mem_cons.mpr ⟨sw_1161, List.forall_mem_cons.mpr ⟨sw_1163, List.forall_mem_cons.mpr ⟨sw_1165, List.forall_mem_cons.mpr ⟨sw_1167, List.forall_mem_cons.mpr ⟨sw_1169, List.forall_mem_cons.mpr ⟨sw_1171, List.forall_mem_cons.mpr ⟨sw_1173, List.forall_mem_cons.mpr ⟨sw_1175, List.forall_mem_cons.mpr ⟨sw_1177, List.forall_mem_cons.mpr ⟨sw_1179, List.forall_mem_cons.mpr ⟨sw_1181, List.forall_mem_cons.mpr ⟨sw_1183, List.forall_mem_cons.mpr ⟨sw_1185, List.forall_mem_cons.mpr ⟨sw_1187, List.forall_mem_cons.mpr ⟨sw_1189, List.forall_mem_cons.mpr ⟨sw_1191, List.forall_mem_cons.mpr ⟨sw_1193, List.forall_mem_cons.mpr ⟨sw_1195, List.forall_mem_cons.mpr ⟨sw_1197, List.forall_mem_cons.mpr ⟨sw_1199, List.forall_mem_cons.mpr ⟨sw_1201, List.forall_mem_cons.mpr ⟨sw_1203, List.forall_mem_cons.mpr ⟨sw_1205, List.forall_mem_cons.mpr ⟨sw_1207, List.forall_mem_cons.mpr ⟨sw_1209, List.forall_mem_cons.mpr ⟨sw_1211, List.forall_mem_cons.mpr ⟨sw_1213, List.forall_mem_cons.mpr ⟨sw_1215, List.forall_mem_cons.mpr ⟨sw_1217, List.forall_mem_cons.mpr ⟨sw_1219, List.forall_mem_cons.mpr ⟨sw_1221, List.forall_mem_cons.mpr ⟨sw_1223, List.forall_mem_cons.mpr ⟨sw_1225, List.forall_mem_cons.mpr ⟨sw_1227, List.forall_mem_cons.mpr ⟨sw_1229, fun _ h => absurd h List.not_mem_nil⟩⟩⟩⟩⟩⟩⟩⟩⟩⟩⟩⟩⟩⟩⟩⟩⟩⟩⟩⟩⟩⟩⟩⟩⟩⟩⟩⟩⟩⟩⟩⟩⟩⟩⟩⟩⟩⟩⟩⟩⟩⟩⟩⟩⟩⟩⟩⟩⟩⟩⟩⟩⟩
def sf_cl : List vw_C := [("SplitFares", sf_F0, 13), ("SplitFares$Desk", sf_F1, 8), ("SplitFares$Log", sf_F2, 4), ("SplitFares$Machine", sf_F3, 2), ("SplitFares$Office", sf_F4, 14), ("SplitFares$Pocket", sf_F5, 4), ("SplitFares$Program", sf_F6, 5), ("SplitFares$Reader", sf_F7, 4), ("SplitFares$Tape", sf_F8, 2), ("SplitFares$Tokens", sf_F9, 9), ("SplitFares$Ways", sf_F10, 5), ("SplitFaresModel", sf_F11, 53)]
def sf_N (ci : Nat) : Nat := ([13, 8, 4, 2, 14, 4, 5, 4, 2, 9, 5, 53] : List Nat).getD ci 0
/-- is field k of class ci a reference? -/
def sf_fr (ci k : Nat) : Bool := (([[true, true, true, true, true, true, true, true, false, false, false, false, false], [true, true, true, true, true, true, false, false], [true, true, false, false], [true, true], [true, false, true, true, true, false, false, true, false, true, true, false, false, true], [true, false, false, false], [true, true, true, false, false], [true, true, false, false], [true, false], [true, true, true, true, false, false, false, false, false], [true, true, true, true, true], [false, true, true, true, true, true, false, true, false, false, false, true, true, false, false, true, true, true, false, false, false, false, false, false, false, false, true, false, false, true, false, true, true, true, true, true, true, true, true, true, false, true, true, false, false, false, false, false, false, true, true, false, false]] : List (List Bool)).getD ci []).getD k false
