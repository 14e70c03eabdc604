def RX0 : String := "TunnelHearsay$Crew"
def TX0 : u_T := fun k => match k with
  | 0 => ("TunnelHearsay$Crew", "kind", "[I", true)
  | 1 => ("TunnelHearsay$Crew", "m", "[I", true)
  | 2 => ("TunnelHearsay$Crew", "side", "[I", true)
  | _ => ("TunnelHearsay$Crew", "size", "I", false)
def tyX0 : Nat → FieldType := fun k => match k with
  | 0 => .array .int
  | 1 => .array .int
  | 2 => .array .int
  | _ => .int
theorem nmX0 : ∀ a, a < 4 → ∀ b, b < 4 → a ≠ b → (TX0 a).2.1 ≠ (TX0 b).2.1 := by decide +kernel
theorem tyX0_ok : ∀ k, k < 4 → parseFieldDescriptor (TX0 k).2.2.1 = some (tyX0 k) := by decide +kernel
def RX1 : String := "TunnelHearsay$Digging"
def TX1 : u_T := fun k => match k with
  | 0 => ("TunnelHearsay$Digging", "hill", "LTunnelHearsay$Hill;", true)
  | 1 => ("TunnelHearsay$Digging", "crew", "LTunnelHearsay$Crew;", true)
  | 2 => ("TunnelHearsay$Digging", "ears", "LTunnelHearsay$Law;", true)
  | 3 => ("TunnelHearsay$Digging", "digs", "LTunnelHearsay$Law;", true)
  | 4 => ("TunnelHearsay$Digging", "votes", "[I", true)
  | 5 => ("TunnelHearsay$Digging", "last", "I", false)
  | 6 => ("TunnelHearsay$Digging", "right", "I", false)
  | 7 => ("TunnelHearsay$Digging", "down", "I", false)
  | 8 => ("TunnelHearsay$Digging", "off", "I", false)
  | _ => ("TunnelHearsay$Digging", "alongX", "Z", false)
def tyX1 : Nat → FieldType := fun k => match k with
  | 0 => .object "TunnelHearsay$Hill"
  | 1 => .object "TunnelHearsay$Crew"
  | 2 => .object "TunnelHearsay$Law"
  | 3 => .object "TunnelHearsay$Law"
  | 4 => .array .int
  | 5 => .int
  | 6 => .int
  | 7 => .int
  | 8 => .int
  | _ => .boolean
theorem nmX1 : ∀ a, a < 10 → ∀ b, b < 10 → a ≠ b → (TX1 a).2.1 ≠ (TX1 b).2.1 := by decide +kernel
theorem tyX1_ok : ∀ k, k < 10 → parseFieldDescriptor (TX1 k).2.2.1 = some (tyX1 k) := by decide +kernel
def RX2 : String := "TunnelHearsay$Hill"
def TX2 : u_T := fun k => match k with
  | 0 => ("TunnelHearsay$Hill", "rock", "[I", true)
  | 1 => ("TunnelHearsay$Hill", "dug", "[I", true)
  | 2 => ("TunnelHearsay$Hill", "at", "[I", true)
  | 3 => ("TunnelHearsay$Hill", "power", "[I", true)
  | 4 => ("TunnelHearsay$Hill", "work", "[I", true)
  | 5 => ("TunnelHearsay$Hill", "last", "[I", true)
  | 6 => ("TunnelHearsay$Hill", "was", "[I", true)
  | 7 => ("TunnelHearsay$Hill", "turn", "I", false)
  | 8 => ("TunnelHearsay$Hill", "delay", "I", false)
  | _ => ("TunnelHearsay$Hill", "year", "I", false)
def tyX2 : Nat → FieldType := fun k => match k with
  | 0 => .array .int
  | 1 => .array .int
  | 2 => .array .int
  | 3 => .array .int
  | 4 => .array .int
  | 5 => .array .int
  | 6 => .array .int
  | 7 => .int
  | 8 => .int
  | _ => .int
theorem nmX2 : ∀ a, a < 10 → ∀ b, b < 10 → a ≠ b → (TX2 a).2.1 ≠ (TX2 b).2.1 := by decide +kernel
theorem tyX2_ok : ∀ k, k < 10 → parseFieldDescriptor (TX2 k).2.2.1 = some (tyX2 k) := by decide +kernel
def RX3 : String := "TunnelHearsay$Law"
def TX3 : u_T := fun k => match k with
  | 0 => ("TunnelHearsay$Law", "codes", "LTunnelHearsay$Row;", true)
  | _ => ("TunnelHearsay$Law", "stack", "[I", true)
def tyX3 : Nat → FieldType := fun k => match k with
  | 0 => .object "TunnelHearsay$Row"
  | _ => .array .int
theorem nmX3 : ∀ a, a < 2 → ∀ b, b < 2 → a ≠ b → (TX3 a).2.1 ≠ (TX3 b).2.1 := by decide +kernel
theorem tyX3_ok : ∀ k, k < 2 → parseFieldDescriptor (TX3 k).2.2.1 = some (tyX3 k) := by decide +kernel
def RX4 : String := "TunnelHearsay$Reader"
def TX4 : u_T := fun k => match k with
  | 0 => ("TunnelHearsay$Reader", "codes", "LTunnelHearsay$Row;", true)
  | 1 => ("TunnelHearsay$Reader", "tape", "LTunnelHearsay$Row;", true)
  | 2 => ("TunnelHearsay$Reader", "use", "I", false)
  | 3 => ("TunnelHearsay$Reader", "place", "I", false)
  | _ => ("TunnelHearsay$Reader", "fault", "I", false)
def tyX4 : Nat → FieldType := fun k => match k with
  | 0 => .object "TunnelHearsay$Row"
  | 1 => .object "TunnelHearsay$Row"
  | 2 => .int
  | 3 => .int
  | _ => .int
theorem nmX4 : ∀ a, a < 5 → ∀ b, b < 5 → a ≠ b → (TX4 a).2.1 ≠ (TX4 b).2.1 := by decide +kernel
theorem tyX4_ok : ∀ k, k < 5 → parseFieldDescriptor (TX4 k).2.2.1 = some (tyX4 k) := by decide +kernel
def RX5 : String := "TunnelHearsay$Row"
def TX5 : u_T := fun k => match k with
  | 0 => ("TunnelHearsay$Row", "numbers", "[I", true)
  | _ => ("TunnelHearsay$Row", "size", "I", false)
def tyX5 : Nat → FieldType := fun k => match k with
  | 0 => .array .int
  | _ => .int
theorem nmX5 : ∀ a, a < 2 → ∀ b, b < 2 → a ≠ b → (TX5 a).2.1 ≠ (TX5 b).2.1 := by decide +kernel
theorem tyX5_ok : ∀ k, k < 2 → parseFieldDescriptor (TX5 k).2.2.1 = some (tyX5 k) := by decide +kernel
def RX6 : String := "TunnelHearsay$Scene"
def TX6 : u_T := fun k => match k with
  | 0 => ("TunnelHearsay$Scene", "hill", "LTunnelHearsay$Hill;", true)
  | 1 => ("TunnelHearsay$Scene", "crew", "LTunnelHearsay$Crew;", true)
  | 2 => ("TunnelHearsay$Scene", "ears", "LTunnelHearsay$Law;", true)
  | 3 => ("TunnelHearsay$Scene", "digs", "LTunnelHearsay$Law;", true)
  | 4 => ("TunnelHearsay$Scene", "tape", "LTunnelHearsay$Row;", true)
  | 5 => ("TunnelHearsay$Scene", "waiting", "LTunnelHearsay$Row;", true)
  | _ => ("TunnelHearsay$Scene", "z", "I", false)
def tyX6 : Nat → FieldType := fun k => match k with
  | 0 => .object "TunnelHearsay$Hill"
  | 1 => .object "TunnelHearsay$Crew"
  | 2 => .object "TunnelHearsay$Law"
  | 3 => .object "TunnelHearsay$Law"
  | 4 => .object "TunnelHearsay$Row"
  | 5 => .object "TunnelHearsay$Row"
  | _ => .int
theorem nmX6 : ∀ a, a < 7 → ∀ b, b < 7 → a ≠ b → (TX6 a).2.1 ≠ (TX6 b).2.1 := by decide +kernel
theorem tyX6_ok : ∀ k, k < 7 → parseFieldDescriptor (TX6 k).2.2.1 = some (tyX6 k) := by decide +kernel
def RX7 : String := "TunnelHearsay$Sheet"
def TX7 : u_T := fun k => match k with
  | 0 => ("TunnelHearsay$Sheet", "numbers", "[I", true)
  | 1 => ("TunnelHearsay$Sheet", "bits", "I", false)
  | _ => ("TunnelHearsay$Sheet", "size", "I", false)
def tyX7 : Nat → FieldType := fun k => match k with
  | 0 => .array .int
  | 1 => .int
  | _ => .int
theorem nmX7 : ∀ a, a < 3 → ∀ b, b < 3 → a ≠ b → (TX7 a).2.1 ≠ (TX7 b).2.1 := by decide +kernel
theorem tyX7_ok : ∀ k, k < 3 → parseFieldDescriptor (TX7 k).2.2.1 = some (tyX7 k) := by decide +kernel
def RX8 : String := "TunnelHearsay$Voices"
def TX8 : u_T := fun k => match k with
  | 0 => ("TunnelHearsay$Voices", "begun", "LTunnelHearsay$Row;", true)
  | 1 => ("TunnelHearsay$Voices", "kind", "I", false)
  | 2 => ("TunnelHearsay$Voices", "n", "I", false)
  | _ => ("TunnelHearsay$Voices", "m", "I", false)
def tyX8 : Nat → FieldType := fun k => match k with
  | 0 => .object "TunnelHearsay$Row"
  | 1 => .int
  | 2 => .int
  | _ => .int
theorem nmX8 : ∀ a, a < 4 → ∀ b, b < 4 → a ≠ b → (TX8 a).2.1 ≠ (TX8 b).2.1 := by decide +kernel
theorem tyX8_ok : ∀ k, k < 4 → parseFieldDescriptor (TX8 k).2.2.1 = some (tyX8 k) := by decide +kernel
def RX9 : String := "TunnelHearsay$Walks"
def TX9 : u_T := fun k => match k with
  | 0 => ("TunnelHearsay$Walks", "hill", "LTunnelHearsay$Hill;", true)
  | 1 => ("TunnelHearsay$Walks", "price", "[I", true)
  | 2 => ("TunnelHearsay$Walks", "settled", "[I", true)
  | _ => ("TunnelHearsay$Walks", "queue", "[I", true)
def tyX9 : Nat → FieldType := fun k => match k with
  | 0 => .object "TunnelHearsay$Hill"
  | 1 => .array .int
  | 2 => .array .int
  | _ => .array .int
theorem nmX9 : ∀ a, a < 4 → ∀ b, b < 4 → a ≠ b → (TX9 a).2.1 ≠ (TX9 b).2.1 := by decide +kernel
theorem tyX9_ok : ∀ k, k < 4 → parseFieldDescriptor (TX9 k).2.2.1 = some (tyX9 k) := by decide +kernel
def RX10 : String := "TunnelHearsay"
def TX10 : u_T := fun k => match k with
  | 0 => ("TunnelHearsay", "now", "LTunnelHearsay$Scene;", true)
  | 1 => ("TunnelHearsay", "kept", "LTunnelHearsay$Scene;", true)
  | 2 => ("TunnelHearsay", "digging", "LTunnelHearsay$Digging;", true)
  | 3 => ("TunnelHearsay", "thought", "LTunnelHearsay$Digging;", true)
  | 4 => ("TunnelHearsay", "reader", "LTunnelHearsay$Reader;", true)
  | 5 => ("TunnelHearsay", "walks", "LTunnelHearsay$Walks;", true)
  | 6 => ("TunnelHearsay", "voices", "LTunnelHearsay$Voices;", true)
  | 7 => ("TunnelHearsay", "sheets", "[LTunnelHearsay$Sheet;", true)
  | 8 => ("TunnelHearsay", "errors", "[I", true)
  | _ => ("TunnelHearsay", "images", "I", false)
def tyX10 : Nat → FieldType := fun k => match k with
  | 0 => .object "TunnelHearsay$Scene"
  | 1 => .object "TunnelHearsay$Scene"
  | 2 => .object "TunnelHearsay$Digging"
  | 3 => .object "TunnelHearsay$Digging"
  | 4 => .object "TunnelHearsay$Reader"
  | 5 => .object "TunnelHearsay$Walks"
  | 6 => .object "TunnelHearsay$Voices"
  | 7 => .array (.object "TunnelHearsay$Sheet")
  | 8 => .array .int
  | _ => .int
theorem nmX10 : ∀ a, a < 10 → ∀ b, b < 10 → a ≠ b → (TX10 a).2.1 ≠ (TX10 b).2.1 := by decide +kernel
theorem tyX10_ok : ∀ k, k < 10 → parseFieldDescriptor (TX10 k).2.2.1 = some (tyX10 k) := by decide +kernel
def RX11 : String := "TunnelHearsayModel"
def TX11 : u_T := fun k => match k with
  | 0 => ("TunnelHearsayModel", "d", "[I", true)
  | 1 => ("TunnelHearsayModel", "kept", "[I", true)
  | 2 => ("TunnelHearsayModel", "aside", "[I", true)
  | 3 => ("TunnelHearsayModel", "images", "I", false)
  | 4 => ("TunnelHearsayModel", "found", "[I", true)
  | 5 => ("TunnelHearsayModel", "base", "I", false)
  | 6 => ("TunnelHearsayModel", "at", "I", false)
  | 7 => ("TunnelHearsayModel", "size", "I", false)
  | 8 => ("TunnelHearsayModel", "fault", "I", false)
  | 9 => ("TunnelHearsayModel", "opened", "I", false)
  | 10 => ("TunnelHearsayModel", "isDigs", "Z", false)
  | 11 => ("TunnelHearsayModel", "names", "[I", true)
  | 12 => ("TunnelHearsayModel", "code", "[I", true)
  | 13 => ("TunnelHearsayModel", "coded", "I", false)
  | 14 => ("TunnelHearsayModel", "pile", "[I", true)
  | 15 => ("TunnelHearsayModel", "without", "I", false)
  | 16 => ("TunnelHearsayModel", "way", "[I", true)
  | 17 => ("TunnelHearsayModel", "partOf", "[I", true)
  | 18 => ("TunnelHearsayModel", "traced", "[I", true)
  | 19 => ("TunnelHearsayModel", "traceMany", "I", false)
  | 20 => ("TunnelHearsayModel", "who", "I", false)
  | 21 => ("TunnelHearsayModel", "bitsOf", "[I", true)
  | 22 => ("TunnelHearsayModel", "sizeOf", "[I", true)
  | 23 => ("TunnelHearsayModel", "number", "[I", true)
  | _ => ("TunnelHearsayModel", "lifted", "[I", true)
def tyX11 : Nat → FieldType := fun k => match k with
  | 0 => .array .int
  | 1 => .array .int
  | 2 => .array .int
  | 3 => .int
  | 4 => .array .int
  | 5 => .int
  | 6 => .int
  | 7 => .int
  | 8 => .int
  | 9 => .int
  | 10 => .boolean
  | 11 => .array .int
  | 12 => .array .int
  | 13 => .int
  | 14 => .array .int
  | 15 => .int
  | 16 => .array .int
  | 17 => .array .int
  | 18 => .array .int
  | 19 => .int
  | 20 => .int
  | 21 => .array .int
  | 22 => .array .int
  | 23 => .array .int
  | _ => .array .int
theorem nmX11 : ∀ a, a < 25 → ∀ b, b < 25 → a ≠ b → (TX11 a).2.1 ≠ (TX11 b).2.1 := by decide +kernel
theorem tyX11_ok : ∀ k, k < 25 → parseFieldDescriptor (TX11 k).2.2.1 = some (tyX11 k) := by decide +kernel
def RJ9 : String := "java/lang/Math"
def RJ10 : String := "java/lang/System"
def RJ7 : String := "java/util/Arrays"
def RL : String := "TunnelHearsayLaw"
def zcl : List vw_C := [(RX0, TX0, 4), (RX1, TX1, 10), (RX2, TX2, 10), (RX3, TX3, 2), (RX4, TX4, 5), (RX5, TX5, 2), (RX6, TX6, 7), (RX7, TX7, 3), (RX8, TX8, 4), (RX9, TX9, 4), (RX10, TX10, 10), (RX11, TX11, 25)]
def zty : Nat → Nat → FieldType := fun c => match c with
  | 0 => tyX0
  | 1 => tyX1
  | 2 => tyX2
  | 3 => tyX3
  | 4 => tyX4
  | 5 => tyX5
  | 6 => tyX6
  | 7 => tyX7
  | 8 => tyX8
  | 9 => tyX9
  | 10 => tyX10
  | _ => tyX11
def zfl : Nat → List (Option (Option Nat)) := fun c => match c with
  | 0 => [some none, some none, some none, none]
  | 1 => [some none, some none, some none, some none, some none, none, none, none, none, none]
  | 2 => [some none, some none, some none, some none, some none, some none, some none, none, none, none]
  | 3 => [some none, some none]
  | 4 => [some none, some none, none, none, none]
  | 5 => [some none, none]
  | 6 => [some none, some none, some none, some none, some none, some none, none]
  | 7 => [some none, none, none]
  | 8 => [some none, none, none, none]
  | 9 => [some none, some none, some none, some none]
  | 10 => [some none, some none, some none, some none, some none, some none, some none, some none, some none, none]
  | _ => [some none, some none, some none, none, some none, none, none, none, none, none, none, some none, some none, none, some none, none, some none, some none, some none, none, none, some none, some none, some none, some none]
def zTb : List Cond := lw_tbl.filter goodWord
theorem layX0 : (List.range 4).all (fun k => decide (lw_tbl[([176, 178, 180, 182] : List Nat).getD k 0]? = some (u_lay RX0 TX0 k))) = true := by decide +kernel
theorem inX0 : ∀ w ∈ u_ws RX0 TX0 4, w ∈ zTb := by
  intro w hw
  obtain ⟨k, hk, rfl⟩ := List.mem_map.mp hw
  have h1 := List.all_eq_true.mp layX0 k hk
  have h2 := of_decide_eq_true h1
  refine List.mem_filter.mpr ⟨List.mem_of_getElem? h2, ?_⟩
  unfold u_lay
  split <;> rfl
theorem layX1 : (List.range 10).all (fun k => decide (lw_tbl[([272, 274, 276, 278, 280, 282, 284, 286, 288, 290] : List Nat).getD k 0]? = some (u_lay RX1 TX1 k))) = true := by decide +kernel
theorem inX1 : ∀ w ∈ u_ws RX1 TX1 10, w ∈ zTb := by
  intro w hw
  obtain ⟨k, hk, rfl⟩ := List.mem_map.mp hw
  have h1 := List.all_eq_true.mp layX1 k hk
  have h2 := of_decide_eq_true h1
  refine List.mem_filter.mpr ⟨List.mem_of_getElem? h2, ?_⟩
  unfold u_lay
  split <;> rfl
theorem layX2 : (List.range 10).all (fun k => decide (lw_tbl[([134, 136, 138, 140, 142, 144, 146, 148, 150, 152] : List Nat).getD k 0]? = some (u_lay RX2 TX2 k))) = true := by decide +kernel
theorem inX2 : ∀ w ∈ u_ws RX2 TX2 10, w ∈ zTb := by
  intro w hw
  obtain ⟨k, hk, rfl⟩ := List.mem_map.mp hw
  have h1 := List.all_eq_true.mp layX2 k hk
  have h2 := of_decide_eq_true h1
  refine List.mem_filter.mpr ⟨List.mem_of_getElem? h2, ?_⟩
  unfold u_lay
  split <;> rfl
theorem layX3 : (List.range 2).all (fun k => decide (lw_tbl[([218, 220] : List Nat).getD k 0]? = some (u_lay RX3 TX3 k))) = true := by decide +kernel
theorem inX3 : ∀ w ∈ u_ws RX3 TX3 2, w ∈ zTb := by
  intro w hw
  obtain ⟨k, hk, rfl⟩ := List.mem_map.mp hw
  have h1 := List.all_eq_true.mp layX3 k hk
  have h2 := of_decide_eq_true h1
  refine List.mem_filter.mpr ⟨List.mem_of_getElem? h2, ?_⟩
  unfold u_lay
  split <;> rfl
theorem layX4 : (List.range 5).all (fun k => decide (lw_tbl[([311, 313, 315, 317, 319] : List Nat).getD k 0]? = some (u_lay RX4 TX4 k))) = true := by decide +kernel
theorem inX4 : ∀ w ∈ u_ws RX4 TX4 5, w ∈ zTb := by
  intro w hw
  obtain ⟨k, hk, rfl⟩ := List.mem_map.mp hw
  have h1 := List.all_eq_true.mp layX4 k hk
  have h2 := of_decide_eq_true h1
  refine List.mem_filter.mpr ⟨List.mem_of_getElem? h2, ?_⟩
  unfold u_lay
  split <;> rfl
theorem layX5 : (List.range 2).all (fun k => decide (lw_tbl[([209, 211] : List Nat).getD k 0]? = some (u_lay RX5 TX5 k))) = true := by decide +kernel
theorem inX5 : ∀ w ∈ u_ws RX5 TX5 2, w ∈ zTb := by
  intro w hw
  obtain ⟨k, hk, rfl⟩ := List.mem_map.mp hw
  have h1 := List.all_eq_true.mp layX5 k hk
  have h2 := of_decide_eq_true h1
  refine List.mem_filter.mpr ⟨List.mem_of_getElem? h2, ?_⟩
  unfold u_lay
  split <;> rfl
theorem layX6 : (List.range 7).all (fun k => decide (lw_tbl[([239, 241, 243, 245, 247, 249, 251] : List Nat).getD k 0]? = some (u_lay RX6 TX6 k))) = true := by decide +kernel
theorem inX6 : ∀ w ∈ u_ws RX6 TX6 7, w ∈ zTb := by
  intro w hw
  obtain ⟨k, hk, rfl⟩ := List.mem_map.mp hw
  have h1 := List.all_eq_true.mp layX6 k hk
  have h2 := of_decide_eq_true h1
  refine List.mem_filter.mpr ⟨List.mem_of_getElem? h2, ?_⟩
  unfold u_lay
  split <;> rfl
theorem layX7 : (List.range 3).all (fun k => decide (lw_tbl[([376, 378, 380] : List Nat).getD k 0]? = some (u_lay RX7 TX7 k))) = true := by decide +kernel
theorem inX7 : ∀ w ∈ u_ws RX7 TX7 3, w ∈ zTb := by
  intro w hw
  obtain ⟨k, hk, rfl⟩ := List.mem_map.mp hw
  have h1 := List.all_eq_true.mp layX7 k hk
  have h2 := of_decide_eq_true h1
  refine List.mem_filter.mpr ⟨List.mem_of_getElem? h2, ?_⟩
  unfold u_lay
  split <;> rfl
theorem layX8 : (List.range 4).all (fun k => decide (lw_tbl[([354, 356, 358, 360] : List Nat).getD k 0]? = some (u_lay RX8 TX8 k))) = true := by decide +kernel
theorem inX8 : ∀ w ∈ u_ws RX8 TX8 4, w ∈ zTb := by
  intro w hw
  obtain ⟨k, hk, rfl⟩ := List.mem_map.mp hw
  have h1 := List.all_eq_true.mp layX8 k hk
  have h2 := of_decide_eq_true h1
  refine List.mem_filter.mpr ⟨List.mem_of_getElem? h2, ?_⟩
  unfold u_lay
  split <;> rfl
theorem layX9 : (List.range 4).all (fun k => decide (lw_tbl[([332, 334, 336, 338] : List Nat).getD k 0]? = some (u_lay RX9 TX9 k))) = true := by decide +kernel
theorem inX9 : ∀ w ∈ u_ws RX9 TX9 4, w ∈ zTb := by
  intro w hw
  obtain ⟨k, hk, rfl⟩ := List.mem_map.mp hw
  have h1 := List.all_eq_true.mp layX9 k hk
  have h2 := of_decide_eq_true h1
  refine List.mem_filter.mpr ⟨List.mem_of_getElem? h2, ?_⟩
  unfold u_lay
  split <;> rfl
theorem layX10 : (List.range 10).all (fun k => decide (lw_tbl[([393, 395, 397, 399, 401, 403, 405, 407, 409, 411] : List Nat).getD k 0]? = some (u_lay RX10 TX10 k))) = true := by decide +kernel
theorem inX10 : ∀ w ∈ u_ws RX10 TX10 10, w ∈ zTb := by
  intro w hw
  obtain ⟨k, hk, rfl⟩ := List.mem_map.mp hw
  have h1 := List.all_eq_true.mp layX10 k hk
  have h2 := of_decide_eq_true h1
  refine List.mem_filter.mpr ⟨List.mem_of_getElem? h2, ?_⟩
  unfold u_lay
  split <;> rfl
theorem layX11 : (List.range 25).all (fun k => decide (lw_tbl[([914, 916, 918, 920, 922, 924, 926, 928, 930, 932, 934, 936, 938, 940, 942, 944, 946, 948, 950, 952, 954, 956, 958, 960, 962] : List Nat).getD k 0]? = some (u_lay RX11 TX11 k))) = true := by decide +kernel
theorem inX11 : ∀ w ∈ u_ws RX11 TX11 25, w ∈ zTb := by
  intro w hw
  obtain ⟨k, hk, rfl⟩ := List.mem_map.mp hw
  have h1 := List.all_eq_true.mp layX11 k hk
  have h2 := of_decide_eq_true h1
  refine List.mem_filter.mpr ⟨List.mem_of_getElem? h2, ?_⟩
  unfold u_lay
  split <;> rfl
abbrev cX0_init : ByteArray := prog_2_method_1_code
def yX0_init : MethodName := ⟨RX0, "<init>", "()V"⟩
abbrev cX0_isOrIsUnder : ByteArray := prog_2_method_2_code
def yX0_isOrIsUnder : MethodName := ⟨RX0, "isOrIsUnder", "(II)Z"⟩
abbrev cX0_copyFrom : ByteArray := prog_2_method_3_code
def yX0_copyFrom : MethodName := ⟨RX0, "copyFrom", "(LTunnelHearsay$Crew;)V"⟩
abbrev cX1_init : ByteArray := prog_3_method_1_code
def yX1_init : MethodName := ⟨RX1, "<init>", "(LTunnelHearsay$Hill;LTunnelHearsay$Crew;LTunnelHearsay$Law;LTunnelHearsay$Law;)V"⟩
abbrev cX1_goYear : ByteArray := prog_3_method_2_code
def yX1_goYear : MethodName := ⟨RX1, "goYear", "()V"⟩
abbrev cX1_hearkens : ByteArray := prog_3_method_3_code
def yX1_hearkens : MethodName := ⟨RX1, "hearkens", "(I)I"⟩
abbrev cX1_listen : ByteArray := prog_3_method_4_code
def yX1_listen : MethodName := ⟨RX1, "listen", "(I)V"⟩
abbrev cX1_pointOf : ByteArray := prog_3_method_5_code
def yX1_pointOf : MethodName := ⟨RX1, "pointOf", "(I)I"⟩
abbrev cX1_pointAsEngineer : ByteArray := prog_3_method_6_code
def yX1_pointAsEngineer : MethodName := ⟨RX1, "pointAsEngineer", "()I"⟩
abbrev cX1_pointAsSurveyor : ByteArray := prog_3_method_7_code
def yX1_pointAsSurveyor : MethodName := ⟨RX1, "pointAsSurveyor", "()I"⟩
abbrev cX1_pointAsDreamer : ByteArray := prog_3_method_8_code
def yX1_pointAsDreamer : MethodName := ⟨RX1, "pointAsDreamer", "(I)I"⟩
abbrev cX1_pointAsForeman : ByteArray := prog_3_method_9_code
def yX1_pointAsForeman : MethodName := ⟨RX1, "pointAsForeman", "(I)I"⟩
abbrev cX1_turned : ByteArray := prog_3_method_10_code
def yX1_turned : MethodName := ⟨RX1, "turned", "(II)I"⟩
abbrev cX1_weightOf : ByteArray := prog_3_method_11_code
def yX1_weightOf : MethodName := ⟨RX1, "weightOf", "(I)I"⟩
abbrev cX1_earsOf : ByteArray := prog_3_method_12_code
def yX1_earsOf : MethodName := ⟨RX1, "earsOf", "(II)I"⟩
abbrev cX2_init : ByteArray := prog_4_method_1_code
def yX2_init : MethodName := ⟨RX2, "<init>", "()V"⟩
abbrev cX2_beside : ByteArray := prog_4_method_2_code
def yX2_beside : MethodName := ⟨RX2, "beside", "(II)I"⟩
abbrev cX2_far : ByteArray := prog_4_method_3_code
def yX2_far : MethodName := ⟨RX2, "far", "(II)I"⟩
abbrev cX2_gap : ByteArray := prog_4_method_4_code
def yX2_gap : MethodName := ⟨RX2, "gap", "()I"⟩
abbrev cX2_headsAt : ByteArray := prog_4_method_5_code
def yX2_headsAt : MethodName := ⟨RX2, "headsAt", "(I)I"⟩
abbrev cX2_settle : ByteArray := prog_4_method_6_code
def yX2_settle : MethodName := ⟨RX2, "settle", "(II)V"⟩
abbrev cX2_hears : ByteArray := prog_4_method_7_code
def yX2_hears : MethodName := ⟨RX2, "hears", "(I)I"⟩
abbrev cX2_go : ByteArray := prog_4_method_8_code
def yX2_go : MethodName := ⟨RX2, "go", "(IILTunnelHearsay$Law;)V"⟩
abbrev cX2_endYear : ByteArray := prog_4_method_9_code
def yX2_endYear : MethodName := ⟨RX2, "endYear", "()V"⟩
abbrev cX2_copyFrom : ByteArray := prog_4_method_10_code
def yX2_copyFrom : MethodName := ⟨RX2, "copyFrom", "(LTunnelHearsay$Hill;)V"⟩
abbrev cX3_init : ByteArray := prog_5_method_1_code
def yX3_init : MethodName := ⟨RX3, "<init>", "()V"⟩
abbrev cX3_gives : ByteArray := prog_5_method_2_code
def yX3_gives : MethodName := ⟨RX3, "gives", "(III)I"⟩
abbrev cX3_operand : ByteArray := prog_5_method_3_code
def yX3_operand : MethodName := ⟨RX3, "operand", "(IIII)I"⟩
abbrev cX3_joined : ByteArray := prog_5_method_4_code
def yX3_joined : MethodName := ⟨RX3, "joined", "(III)I"⟩
abbrev cX4_init : ByteArray := prog_6_method_1_code
def yX4_init : MethodName := ⟨RX4, "<init>", "(LTunnelHearsay$Row;)V"⟩
abbrev cX4_read : ByteArray := prog_6_method_2_code
def yX4_read : MethodName := ⟨RX4, "read", "(I)I"⟩
abbrev cX4_readLevel : ByteArray := prog_6_method_3_code
def yX4_readLevel : MethodName := ⟨RX4, "readLevel", "(II)V"⟩
abbrev cX4_readUnit : ByteArray := prog_6_method_4_code
def yX4_readUnit : MethodName := ⟨RX4, "readUnit", "(I)V"⟩
abbrev cX4_readNumber : ByteArray := prog_6_method_5_code
def yX4_readNumber : MethodName := ⟨RX4, "readNumber", "()V"⟩
abbrev cX4_readClosing : ByteArray := prog_6_method_6_code
def yX4_readClosing : MethodName := ⟨RX4, "readClosing", "()V"⟩
abbrev cX4_next : ByteArray := prog_6_method_7_code
def yX4_next : MethodName := ⟨RX4, "next", "()I"⟩
abbrev cX4_failHere : ByteArray := prog_6_method_8_code
def yX4_failHere : MethodName := ⟨RX4, "failHere", "()V"⟩
abbrev cX4_isDigit : ByteArray := prog_6_method_9_code
def yX4_isDigit : MethodName := ⟨RX4, "isDigit", "(I)Z"⟩
abbrev cX4_nameOf : ByteArray := prog_6_method_10_code
def yX4_nameOf : MethodName := ⟨RX4, "nameOf", "(I)I"⟩
abbrev cX4_levelOf : ByteArray := prog_6_method_11_code
def yX4_levelOf : MethodName := ⟨RX4, "levelOf", "(I)I"⟩
abbrev cX5_init : ByteArray := prog_7_method_1_code
def yX5_init : MethodName := ⟨RX5, "<init>", "(I)V"⟩
abbrev cX5_add : ByteArray := prog_7_method_2_code
def yX5_add : MethodName := ⟨RX5, "add", "(I)Z"⟩
abbrev cX5_copyFrom : ByteArray := prog_7_method_3_code
def yX5_copyFrom : MethodName := ⟨RX5, "copyFrom", "(LTunnelHearsay$Row;)V"⟩
abbrev cX6_init : ByteArray := prog_8_method_1_code
def yX6_init : MethodName := ⟨RX6, "<init>", "()V"⟩
abbrev cX6_lawOf : ByteArray := prog_8_method_2_code
def yX6_lawOf : MethodName := ⟨RX6, "lawOf", "(I)LTunnelHearsay$Law;"⟩
abbrev cX6_draw : ByteArray := prog_8_method_3_code
def yX6_draw : MethodName := ⟨RX6, "draw", "()I"⟩
abbrev cX6_copyFrom : ByteArray := prog_8_method_4_code
def yX6_copyFrom : MethodName := ⟨RX6, "copyFrom", "(LTunnelHearsay$Scene;)V"⟩
abbrev cX7_init : ByteArray := prog_9_method_1_code
def yX7_init : MethodName := ⟨RX7, "<init>", "()V"⟩
abbrev cX7_begin : ByteArray := prog_9_method_2_code
def yX7_begin : MethodName := ⟨RX7, "begin", "(II)V"⟩
abbrev cX7_write : ByteArray := prog_9_method_3_code
def yX7_write : MethodName := ⟨RX7, "write", "(II)V"⟩
abbrev cX7_holds : ByteArray := prog_9_method_4_code
def yX7_holds : MethodName := ⟨RX7, "holds", "(II)Z"⟩
abbrev cX8_init : ByteArray := prog_10_method_1_code
def yX8_init : MethodName := ⟨RX8, "<init>", "()V"⟩
abbrev cX8_speak : ByteArray := prog_10_method_2_code
def yX8_speak : MethodName := ⟨RX8, "speak", "(LTunnelHearsay$Crew;III)I"⟩
abbrev cX8_say : ByteArray := prog_10_method_3_code
def yX8_say : MethodName := ⟨RX8, "say", "(IIII)I"⟩
abbrev cX8_bodyOf : ByteArray := prog_10_method_4_code
def yX8_bodyOf : MethodName := ⟨RX8, "bodyOf", "(IIII)I"⟩
abbrev cX9_init : ByteArray := prog_11_method_1_code
def yX9_init : MethodName := ⟨RX9, "<init>", "(LTunnelHearsay$Hill;)V"⟩
abbrev cX9_leastRock : ByteArray := prog_11_method_2_code
def yX9_leastRock : MethodName := ⟨RX9, "leastRock", "(II)I"⟩
abbrev cX9_toll : ByteArray := prog_11_method_3_code
def yX9_toll : MethodName := ⟨RX9, "toll", "(I)I"⟩
abbrev cX9_cheapest : ByteArray := prog_11_method_4_code
def yX9_cheapest : MethodName := ⟨RX9, "cheapest", "()I"⟩
abbrev cX9_fewestWays : ByteArray := prog_11_method_5_code
def yX9_fewestWays : MethodName := ⟨RX9, "fewestWays", "(II)I"⟩
abbrev cX9_partsDug : ByteArray := prog_11_method_6_code
def yX9_partsDug : MethodName := ⟨RX9, "partsDug", "()I"⟩
abbrev cX9_flood : ByteArray := prog_11_method_7_code
def yX9_flood : MethodName := ⟨RX9, "flood", "(I)V"⟩
abbrev cX9_isDug : ByteArray := prog_11_method_8_code
def yX9_isDug : MethodName := ⟨RX9, "isDug", "(I)Z"⟩
abbrev cX9_alongLeft : ByteArray := prog_11_method_9_code
def yX9_alongLeft : MethodName := ⟨RX9, "alongLeft", "(III)I"⟩
abbrev cX9_wayAlongLeft : ByteArray := prog_11_method_10_code
def yX9_wayAlongLeft : MethodName := ⟨RX9, "wayAlongLeft", "(II)I"⟩
abbrev cX10_init : ByteArray := prog_1_method_1_code
def yX10_init : MethodName := ⟨RX10, "<init>", "()V"⟩
abbrev cX10_rock : ByteArray := prog_1_method_2_code
def yX10_rock : MethodName := ⟨RX10, "rock", "(II)I"⟩
abbrev cX10_dig : ByteArray := prog_1_method_3_code
def yX10_dig : MethodName := ⟨RX10, "dig", "(II)I"⟩
abbrev cX10_ofCell : ByteArray := prog_1_method_4_code
def yX10_ofCell : MethodName := ⟨RX10, "ofCell", "(II)I"⟩
abbrev cX10_head : ByteArray := prog_1_method_5_code
def yX10_head : MethodName := ⟨RX10, "head", "(III)I"⟩
abbrev cX10_mostOfHead : ByteArray := prog_1_method_6_code
def yX10_mostOfHead : MethodName := ⟨RX10, "mostOfHead", "(I)I"⟩
abbrev cX10_ofHead : ByteArray := prog_1_method_7_code
def yX10_ofHead : MethodName := ⟨RX10, "ofHead", "(II)I"⟩
abbrev cX10_delay : ByteArray := prog_1_method_8_code
def yX10_delay : MethodName := ⟨RX10, "delay", "(I)I"⟩
abbrev cX10_engineer : ByteArray := prog_1_method_9_code
def yX10_engineer : MethodName := ⟨RX10, "engineer", "(II)I"⟩
abbrev cX10_ofEngineer : ByteArray := prog_1_method_10_code
def yX10_ofEngineer : MethodName := ⟨RX10, "ofEngineer", "(II)I"⟩
abbrev cX10_change : ByteArray := prog_1_method_11_code
def yX10_change : MethodName := ⟨RX10, "change", "(II)I"⟩
abbrev cX10_become : ByteArray := prog_1_method_12_code
def yX10_become : MethodName := ⟨RX10, "become", "(II)I"⟩
abbrev cX10_as : ByteArray := prog_1_method_13_code
def yX10_as : MethodName := ⟨RX10, "as", "(II)I"⟩
abbrev cX10_feed : ByteArray := prog_1_method_14_code
def yX10_feed : MethodName := ⟨RX10, "feed", "(JI)I"⟩
abbrev cX10_text : ByteArray := prog_1_method_15_code
def yX10_text : MethodName := ⟨RX10, "text", "(I)I"⟩
abbrev cX10_law : ByteArray := prog_1_method_16_code
def yX10_law : MethodName := ⟨RX10, "law", "(IIII)I"⟩
abbrev cX10_years : ByteArray := prog_1_method_17_code
def yX10_years : MethodName := ⟨RX10, "years", "(I)I"⟩
abbrev cX10_loose : ByteArray := prog_1_method_18_code
def yX10_loose : MethodName := ⟨RX10, "loose", "(I)I"⟩
abbrev cX10_then : ByteArray := prog_1_method_19_code
def yX10_then : MethodName := ⟨RX10, "then", "(III)I"⟩
abbrev cX10_meets : ByteArray := prog_1_method_20_code
def yX10_meets : MethodName := ⟨RX10, "meets", "()I"⟩
abbrev cX10_apart : ByteArray := prog_1_method_21_code
def yX10_apart : MethodName := ⟨RX10, "apart", "(I)I"⟩
abbrev cX10_delayFor : ByteArray := prog_1_method_22_code
def yX10_delayFor : MethodName := ⟨RX10, "delayFor", "(I)I"⟩
abbrev cX10_powerFor : ByteArray := prog_1_method_23_code
def yX10_powerFor : MethodName := ⟨RX10, "powerFor", "(III)I"⟩
abbrev cX10_needless : ByteArray := prog_1_method_24_code
def yX10_needless : MethodName := ⟨RX10, "needless", "(I)I"⟩
abbrev cX10_heard : ByteArray := prog_1_method_25_code
def yX10_heard : MethodName := ⟨RX10, "heard", "(III)I"⟩
abbrev cX10_which : ByteArray := prog_1_method_26_code
def yX10_which : MethodName := ⟨RX10, "which", "(II)I"⟩
abbrev cX10_join : ByteArray := prog_1_method_27_code
def yX10_join : MethodName := ⟨RX10, "join", "(II)I"⟩
abbrev cX10_steps : ByteArray := prog_1_method_28_code
def yX10_steps : MethodName := ⟨RX10, "steps", "(II)I"⟩
abbrev cX10_hand : ByteArray := prog_1_method_29_code
def yX10_hand : MethodName := ⟨RX10, "hand", "(III)I"⟩
abbrev cX10_parts : ByteArray := prog_1_method_30_code
def yX10_parts : MethodName := ⟨RX10, "parts", "()I"⟩
abbrev cX10_odds : ByteArray := prog_1_method_31_code
def yX10_odds : MethodName := ⟨RX10, "odds", "(III)I"⟩
abbrev cX10_seed : ByteArray := prog_1_method_32_code
def yX10_seed : MethodName := ⟨RX10, "seed", "(I)I"⟩
abbrev cX10_voice : ByteArray := prog_1_method_33_code
def yX10_voice : MethodName := ⟨RX10, "voice", "(III)I"⟩
abbrev cX10_trace : ByteArray := prog_1_method_34_code
def yX10_trace : MethodName := ⟨RX10, "trace", "(I)I"⟩
abbrev cX10_sheet : ByteArray := prog_1_method_35_code
def yX10_sheet : MethodName := ⟨RX10, "sheet", "(III)I"⟩
abbrev cX10_put : ByteArray := prog_1_method_36_code
def yX10_put : MethodName := ⟨RX10, "put", "(III)I"⟩
abbrev cX10_move : ByteArray := prog_1_method_37_code
def yX10_move : MethodName := ⟨RX10, "move", "(IIIII)I"⟩
abbrev cX10_rocks : ByteArray := prog_1_method_38_code
def yX10_rocks : MethodName := ⟨RX10, "rocks", "(I)I"⟩
abbrev cX10_judge : ByteArray := prog_1_method_39_code
def yX10_judge : MethodName := ⟨RX10, "judge", "(I)I"⟩
abbrev cX10_image : ByteArray := prog_1_method_40_code
def yX10_image : MethodName := ⟨RX10, "image", "()I"⟩
abbrev cX10_restore : ByteArray := prog_1_method_41_code
def yX10_restore : MethodName := ⟨RX10, "restore", "()I"⟩
abbrev cX10_tell : ByteArray := prog_1_method_42_code
def yX10_tell : MethodName := ⟨RX10, "tell", "(I)I"⟩
abbrev cX10_check : ByteArray := prog_1_method_43_code
def yX10_check : MethodName := ⟨RX10, "check", "()I"⟩
abbrev cX10_count : ByteArray := prog_1_method_44_code
def yX10_count : MethodName := ⟨RX10, "count", "(I)I"⟩
abbrev cX10_told : ByteArray := prog_1_method_45_code
def yX10_told : MethodName := ⟨RX10, "told", "(I)I"⟩
abbrev cX10_failed : ByteArray := prog_1_method_46_code
def yX10_failed : MethodName := ⟨RX10, "failed", "(I)I"⟩
abbrev cX10_isBeyond : ByteArray := prog_1_method_47_code
def yX10_isBeyond : MethodName := ⟨RX10, "isBeyond", "(II)Z"⟩
abbrev cX10_isNobody : ByteArray := prog_1_method_48_code
def yX10_isNobody : MethodName := ⟨RX10, "isNobody", "(I)Z"⟩
abbrev cX10_think : ByteArray := prog_1_method_49_code
def yX10_think : MethodName := ⟨RX10, "think", "()V"⟩
abbrev cX10_gapBehind : ByteArray := prog_1_method_50_code
def yX10_gapBehind : MethodName := ⟨RX10, "gapBehind", "(I)I"⟩
abbrev cX10_goesAsTold : ByteArray := prog_1_method_51_code
def yX10_goesAsTold : MethodName := ⟨RX10, "goesAsTold", "(LTunnelHearsay$Sheet;I)Z"⟩
abbrev cX10_sharedFactor : ByteArray := prog_1_method_52_code
def yX10_sharedFactor : MethodName := ⟨RX10, "sharedFactor", "(II)I"⟩
abbrev cX10_sumOf : ByteArray := prog_1_method_53_code
def yX10_sumOf : MethodName := ⟨RX10, "sumOf", "([II)I"⟩
abbrev cX11_init : ByteArray := prog_13_method_1_code
def yX11_init : MethodName := ⟨RX11, "<init>", "()V"⟩
abbrev cX11_finds : ByteArray := prog_13_method_3_code
def yX11_finds : MethodName := ⟨RX11, "finds", "(I)I"⟩
abbrev cX11_in : ByteArray := prog_13_method_4_code
def yX11_in : MethodName := ⟨RX11, "in", "(JJJ)Z"⟩
abbrev cX11_held : ByteArray := prog_13_method_5_code
def yX11_held : MethodName := ⟨RX11, "held", "(III)I"⟩
abbrev cX11_size : ByteArray := prog_13_method_6_code
def yX11_size : MethodName := ⟨RX11, "size", "(I)I"⟩
abbrev cX11_isEngineer : ByteArray := prog_13_method_7_code
def yX11_isEngineer : MethodName := ⟨RX11, "isEngineer", "(I)Z"⟩
abbrev cX11_isCell : ByteArray := prog_13_method_8_code
def yX11_isCell : MethodName := ⟨RX11, "isCell", "(I)Z"⟩
abbrev cX11_isHead : ByteArray := prog_13_method_9_code
def yX11_isHead : MethodName := ⟨RX11, "isHead", "(I)Z"⟩
abbrev cX11_of : ByteArray := prog_13_method_10_code
def yX11_of : MethodName := ⟨RX11, "of", "(II)I"⟩
abbrev cX11_its : ByteArray := prog_13_method_11_code
def yX11_its : MethodName := ⟨RX11, "its", "(II)I"⟩
abbrev cX11_above : ByteArray := prog_13_method_12_code
def yX11_above : MethodName := ⟨RX11, "above", "(I)I"⟩
abbrev cX11_becomes : ByteArray := prog_13_method_13_code
def yX11_becomes : MethodName := ⟨RX11, "becomes", "(II)I"⟩
abbrev cX11_keepAside : ByteArray := prog_13_method_14_code
def yX11_keepAside : MethodName := ⟨RX11, "keepAside", "()V"⟩
abbrev cX11_putBack : ByteArray := prog_13_method_15_code
def yX11_putBack : MethodName := ⟨RX11, "putBack", "()V"⟩
abbrev cX11_here : ByteArray := prog_13_method_16_code
def yX11_here : MethodName := ⟨RX11, "here", "()I"⟩
abbrev cX11_wrong : ByteArray := prog_13_method_17_code
def yX11_wrong : MethodName := ⟨RX11, "wrong", "()V"⟩
abbrev cX11_takes : ByteArray := prog_13_method_18_code
def yX11_takes : MethodName := ⟨RX11, "takes", "(I)Z"⟩
abbrev cX11_nameOf : ByteArray := prog_13_method_19_code
def yX11_nameOf : MethodName := ⟨RX11, "nameOf", "(I)I"⟩
abbrev cX11_lay : ByteArray := prog_13_method_20_code
def yX11_lay : MethodName := ⟨RX11, "lay", "(I)V"⟩
abbrev cX11_either : ByteArray := prog_13_method_21_code
def yX11_either : MethodName := ⟨RX11, "either", "()V"⟩
abbrev cX11_both : ByteArray := prog_13_method_22_code
def yX11_both : MethodName := ⟨RX11, "both", "()V"⟩
abbrev cX11_compared : ByteArray := prog_13_method_23_code
def yX11_compared : MethodName := ⟨RX11, "compared", "()V"⟩
abbrev cX11_sum : ByteArray := prog_13_method_24_code
def yX11_sum : MethodName := ⟨RX11, "sum", "()V"⟩
abbrev cX11_product : ByteArray := prog_13_method_25_code
def yX11_product : MethodName := ⟨RX11, "product", "()V"⟩
abbrev cX11_opens : ByteArray := prog_13_method_26_code
def yX11_opens : MethodName := ⟨RX11, "opens", "(I)V"⟩
abbrev cX11_unit : ByteArray := prog_13_method_27_code
def yX11_unit : MethodName := ⟨RX11, "unit", "()V"⟩
abbrev cX11_reads : ByteArray := prog_13_method_28_code
def yX11_reads : MethodName := ⟨RX11, "reads", "(III)V"⟩
abbrev cX11_done : ByteArray := prog_13_method_29_code
def yX11_done : MethodName := ⟨RX11, "done", "(III)I"⟩
abbrev cX11_worked : ByteArray := prog_13_method_30_code
def yX11_worked : MethodName := ⟨RX11, "worked", "(II)I"⟩
abbrev cX11_feed : ByteArray := prog_13_method_31_code
def yX11_feed : MethodName := ⟨RX11, "feed", "(JI)I"⟩
abbrev cX11_text : ByteArray := prog_13_method_32_code
def yX11_text : MethodName := ⟨RX11, "text", "(I)I"⟩
abbrev cX11_textGives : ByteArray := prog_13_method_33_code
def yX11_textGives : MethodName := ⟨RX11, "textGives", "(IIII)I"⟩
abbrev cX11_law : ByteArray := prog_13_method_34_code
def yX11_law : MethodName := ⟨RX11, "law", "(IIII)I"⟩
abbrev cX11_far : ByteArray := prog_13_method_35_code
def yX11_far : MethodName := ⟨RX11, "far", "(II)I"⟩
abbrev cX11_beside : ByteArray := prog_13_method_36_code
def yX11_beside : MethodName := ⟨RX11, "beside", "(II)I"⟩
abbrev cX11_heads : ByteArray := prog_13_method_37_code
def yX11_heads : MethodName := ⟨RX11, "heads", "()I"⟩
abbrev cX11_isPut : ByteArray := prog_13_method_38_code
def yX11_isPut : MethodName := ⟨RX11, "isPut", "(II)V"⟩
abbrev cX11_heardBy : ByteArray := prog_13_method_39_code
def yX11_heardBy : MethodName := ⟨RX11, "heardBy", "(I)I"⟩
abbrev cX11_farHeard : ByteArray := prog_13_method_40_code
def yX11_farHeard : MethodName := ⟨RX11, "farHeard", "(I)I"⟩
abbrev cX11_turned : ByteArray := prog_13_method_41_code
def yX11_turned : MethodName := ⟨RX11, "turned", "(II)I"⟩
abbrev cX11_points : ByteArray := prog_13_method_42_code
def yX11_points : MethodName := ⟨RX11, "points", "(I)I"⟩
abbrev cX11_earsOf : ByteArray := prog_13_method_43_code
def yX11_earsOf : MethodName := ⟨RX11, "earsOf", "(I)I"⟩
abbrev cX11_gives : ByteArray := prog_13_method_44_code
def yX11_gives : MethodName := ⟨RX11, "gives", "(I)I"⟩
abbrev cX11_hearkens : ByteArray := prog_13_method_45_code
def yX11_hearkens : MethodName := ⟨RX11, "hearkens", "(I)I"⟩
abbrev cX11_goes : ByteArray := prog_13_method_46_code
def yX11_goes : MethodName := ⟨RX11, "goes", "(II)V"⟩
abbrev cX11_yearGoes : ByteArray := prog_13_method_47_code
def yX11_yearGoes : MethodName := ⟨RX11, "yearGoes", "()V"⟩
abbrev cX11_yearsGo : ByteArray := prog_13_method_48_code
def yX11_yearsGo : MethodName := ⟨RX11, "yearsGo", "(I)V"⟩
abbrev cX11_rock : ByteArray := prog_13_method_49_code
def yX11_rock : MethodName := ⟨RX11, "rock", "(II)I"⟩
abbrev cX11_headsAt : ByteArray := prog_13_method_50_code
def yX11_headsAt : MethodName := ⟨RX11, "headsAt", "(I)I"⟩
abbrev cX11_dig : ByteArray := prog_13_method_51_code
def yX11_dig : MethodName := ⟨RX11, "dig", "(II)I"⟩
abbrev cX11_ofCell : ByteArray := prog_13_method_52_code
def yX11_ofCell : MethodName := ⟨RX11, "ofCell", "(II)I"⟩
abbrev cX11_head : ByteArray := prog_13_method_53_code
def yX11_head : MethodName := ⟨RX11, "head", "(III)I"⟩
abbrev cX11_ofHead : ByteArray := prog_13_method_54_code
def yX11_ofHead : MethodName := ⟨RX11, "ofHead", "(II)I"⟩
abbrev cX11_delay : ByteArray := prog_13_method_55_code
def yX11_delay : MethodName := ⟨RX11, "delay", "(I)I"⟩
abbrev cX11_isKm : ByteArray := prog_13_method_56_code
def yX11_isKm : MethodName := ⟨RX11, "isKm", "(I)Z"⟩
abbrev cX11_engineer : ByteArray := prog_13_method_57_code
def yX11_engineer : MethodName := ⟨RX11, "engineer", "(II)I"⟩
abbrev cX11_ofEngineer : ByteArray := prog_13_method_58_code
def yX11_ofEngineer : MethodName := ⟨RX11, "ofEngineer", "(II)I"⟩
abbrev cX11_change : ByteArray := prog_13_method_59_code
def yX11_change : MethodName := ⟨RX11, "change", "(II)I"⟩
abbrev cX11_become : ByteArray := prog_13_method_60_code
def yX11_become : MethodName := ⟨RX11, "become", "(II)I"⟩
abbrev cX11_as : ByteArray := prog_13_method_61_code
def yX11_as : MethodName := ⟨RX11, "as", "(II)I"⟩
abbrev cX11_isLate : ByteArray := prog_13_method_62_code
def yX11_isLate : MethodName := ⟨RX11, "isLate", "(I)Z"⟩
abbrev cX11_years : ByteArray := prog_13_method_63_code
def yX11_years : MethodName := ⟨RX11, "years", "(I)I"⟩
abbrev cX11_draw : ByteArray := prog_13_method_64_code
def yX11_draw : MethodName := ⟨RX11, "draw", "()I"⟩
abbrev cX11_loose : ByteArray := prog_13_method_65_code
def yX11_loose : MethodName := ⟨RX11, "loose", "(I)I"⟩
abbrev cX11_seed : ByteArray := prog_13_method_66_code
def yX11_seed : MethodName := ⟨RX11, "seed", "(I)I"⟩
abbrev cX11_isAhead : ByteArray := prog_13_method_67_code
def yX11_isAhead : MethodName := ⟨RX11, "isAhead", "(I)Z"⟩
abbrev cX11_then : ByteArray := prog_13_method_68_code
def yX11_then : MethodName := ⟨RX11, "then", "(III)I"⟩
abbrev cX11_meets : ByteArray := prog_13_method_69_code
def yX11_meets : MethodName := ⟨RX11, "meets", "()I"⟩
abbrev cX11_apartBehind : ByteArray := prog_13_method_70_code
def yX11_apartBehind : MethodName := ⟨RX11, "apartBehind", "(I)I"⟩
abbrev cX11_apart : ByteArray := prog_13_method_71_code
def yX11_apart : MethodName := ⟨RX11, "apart", "(I)I"⟩
abbrev cX11_delayFor : ByteArray := prog_13_method_72_code
def yX11_delayFor : MethodName := ⟨RX11, "delayFor", "(I)I"⟩
abbrev cX11_powerFor : ByteArray := prog_13_method_73_code
def yX11_powerFor : MethodName := ⟨RX11, "powerFor", "(III)I"⟩
abbrev cX11_needless : ByteArray := prog_13_method_74_code
def yX11_needless : MethodName := ⟨RX11, "needless", "(I)I"⟩
abbrev cX11_isTold : ByteArray := prog_13_method_75_code
def yX11_isTold : MethodName := ⟨RX11, "isTold", "(II)Z"⟩
abbrev cX11_heard : ByteArray := prog_13_method_76_code
def yX11_heard : MethodName := ⟨RX11, "heard", "(III)I"⟩
abbrev cX11_which : ByteArray := prog_13_method_77_code
def yX11_which : MethodName := ⟨RX11, "which", "(II)I"⟩
abbrev cX11_measures : ByteArray := prog_13_method_78_code
def yX11_measures : MethodName := ⟨RX11, "measures", "(IZ)V"⟩
abbrev cX11_takesRock : ByteArray := prog_13_method_79_code
def yX11_takesRock : MethodName := ⟨RX11, "takesRock", "(I)I"⟩
abbrev cX11_join : ByteArray := prog_13_method_80_code
def yX11_join : MethodName := ⟨RX11, "join", "(II)I"⟩
abbrev cX11_steps : ByteArray := prog_13_method_81_code
def yX11_steps : MethodName := ⟨RX11, "steps", "(II)I"⟩
abbrev cX11_isOpen : ByteArray := prog_13_method_82_code
def yX11_isOpen : MethodName := ⟨RX11, "isOpen", "(II)Z"⟩
abbrev cX11_hand : ByteArray := prog_13_method_83_code
def yX11_hand : MethodName := ⟨RX11, "hand", "(III)I"⟩
abbrev cX11_parts : ByteArray := prog_13_method_84_code
def yX11_parts : MethodName := ⟨RX11, "parts", "()I"⟩
abbrev cX11_common : ByteArray := prog_13_method_85_code
def yX11_common : MethodName := ⟨RX11, "common", "(II)I"⟩
abbrev cX11_odds : ByteArray := prog_13_method_86_code
def yX11_odds : MethodName := ⟨RX11, "odds", "(III)I"⟩
abbrev cX11_ran : ByteArray := prog_13_method_87_code
def yX11_ran : MethodName := ⟨RX11, "ran", "(I)V"⟩
abbrev cX11_knocksBy : ByteArray := prog_13_method_88_code
def yX11_knocksBy : MethodName := ⟨RX11, "knocksBy", "(II)I"⟩
abbrev cX11_hearsBy : ByteArray := prog_13_method_89_code
def yX11_hearsBy : MethodName := ⟨RX11, "hearsBy", "(II)I"⟩
abbrev cX11_digsBy : ByteArray := prog_13_method_90_code
def yX11_digsBy : MethodName := ⟨RX11, "digsBy", "(II)I"⟩
abbrev cX11_tellsBy : ByteArray := prog_13_method_91_code
def yX11_tellsBy : MethodName := ⟨RX11, "tellsBy", "(II)I"⟩
abbrev cX11_voice : ByteArray := prog_13_method_92_code
def yX11_voice : MethodName := ⟨RX11, "voice", "(III)I"⟩
abbrev cX11_trace : ByteArray := prog_13_method_93_code
def yX11_trace : MethodName := ⟨RX11, "trace", "(I)I"⟩
abbrev cX11_isSheet : ByteArray := prog_13_method_94_code
def yX11_isSheet : MethodName := ⟨RX11, "isSheet", "(I)Z"⟩
abbrev cX11_sheet : ByteArray := prog_13_method_95_code
def yX11_sheet : MethodName := ⟨RX11, "sheet", "(III)I"⟩
abbrev cX11_put : ByteArray := prog_13_method_96_code
def yX11_put : MethodName := ⟨RX11, "put", "(III)I"⟩
abbrev cX11_move : ByteArray := prog_13_method_97_code
def yX11_move : MethodName := ⟨RX11, "move", "(IIIII)I"⟩
abbrev cX11_rocks : ByteArray := prog_13_method_98_code
def yX11_rocks : MethodName := ⟨RX11, "rocks", "(I)I"⟩
abbrev cX11_judge : ByteArray := prog_13_method_99_code
def yX11_judge : MethodName := ⟨RX11, "judge", "(I)I"⟩
abbrev cX11_image : ByteArray := prog_13_method_100_code
def yX11_image : MethodName := ⟨RX11, "image", "()I"⟩
abbrev cX11_restore : ByteArray := prog_13_method_101_code
def yX11_restore : MethodName := ⟨RX11, "restore", "()I"⟩
abbrev cX11_tell : ByteArray := prog_13_method_102_code
def yX11_tell : MethodName := ⟨RX11, "tell", "(I)I"⟩
abbrev cX11_check : ByteArray := prog_13_method_103_code
def yX11_check : MethodName := ⟨RX11, "check", "()I"⟩
abbrev cX11_sumOf : ByteArray := prog_13_method_104_code
def yX11_sumOf : MethodName := ⟨RX11, "sumOf", "(III)I"⟩
abbrev cX11_count : ByteArray := prog_13_method_105_code
def yX11_count : MethodName := ⟨RX11, "count", "(I)I"⟩
abbrev cX11_told : ByteArray := prog_13_method_106_code
def yX11_told : MethodName := ⟨RX11, "told", "(I)I"⟩
abbrev cJ9_abs_0f7a4 : ByteArray := prog_14_method_59_code
def yJ9_abs_0f7a4 : MethodName := ⟨RJ9, "abs", "(I)I"⟩
abbrev cJ9_max_7cf53 : ByteArray := prog_14_method_65_code
def yJ9_max_7cf53 : MethodName := ⟨RJ9, "max", "(II)I"⟩
abbrev cJ9_min_7cf53 : ByteArray := prog_14_method_69_code
def yJ9_min_7cf53 : MethodName := ⟨RJ9, "min", "(II)I"⟩
abbrev cJ7_fill_53178 : ByteArray := prog_16_method_103_code
def yJ7_fill_53178 : MethodName := ⟨RJ7, "fill", "([II)V"⟩
