-- class names and field tables (from the printed names)
def RX0 : String := "GatedDevices$Cache"
def TX0 : u_T := fun k => match k with
  | 0 => ("GatedDevices$Cache", "length", "I", false)
  | 1 => ("GatedDevices$Cache", "domain", "[I", true)
  | 2 => ("GatedDevices$Cache", "page", "[I", true)
  | 3 => ("GatedDevices$Cache", "frame", "[I", true)
  | _ => ("GatedDevices$Cache", "rights", "[I", true)
def tyX0 : Nat → FieldType := fun k => match k with
  | 0 => .int
  | 1 => .array .int
  | 2 => .array .int
  | 3 => .array .int
  | _ => .array .int
theorem nmX0 : ∀ a, a < 5 → ∀ b, b < 5 → a ≠ b → (TX0 a).2.1 ≠ (TX0 b).2.1 := by decide +kernel
theorem tyX0_ok : ∀ k, k < 5 → parseFieldDescriptor (TX0 k).2.2.1 = some (tyX0 k) := by decide +kernel
def RX1 : String := "GatedDevices$Frames"
def TX1 : u_T := fun k => match k with
  | 0 => ("GatedDevices$Frames", "uses", "[I", true)
  | 1 => ("GatedDevices$Frames", "left", "[I", true)
  | 2 => ("GatedDevices$Frames", "uncovered", "[J", true)
  | _ => ("GatedDevices$Frames", "coveredAt", "[I", true)
def tyX1 : Nat → FieldType := fun k => match k with
  | 0 => .array .int
  | 1 => .array .int
  | 2 => .array .long
  | _ => .array .int
theorem nmX1 : ∀ a, a < 4 → ∀ b, b < 4 → a ≠ b → (TX1 a).2.1 ≠ (TX1 b).2.1 := by decide +kernel
theorem tyX1_ok : ∀ k, k < 4 → parseFieldDescriptor (TX1 k).2.2.1 = some (tyX1 k) := by decide +kernel
def RX2 : String := "GatedDevices$Log"
def TX2 : u_T := fun k => match k with
  | 0 => ("GatedDevices$Log", "causes", "I", false)
  | 1 => ("GatedDevices$Log", "cause", "[I", true)
  | 2 => ("GatedDevices$Log", "about", "[I", true)
  | 3 => ("GatedDevices$Log", "records", "I", false)
  | 4 => ("GatedDevices$Log", "sign", "[I", true)
  | 5 => ("GatedDevices$Log", "page", "[I", true)
  | 6 => ("GatedDevices$Log", "right", "[I", true)
  | 7 => ("GatedDevices$Log", "innermost", "[I", true)
  | 8 => ("GatedDevices$Log", "hits", "I", false)
  | 9 => ("GatedDevices$Log", "walks", "I", false)
  | _ => ("GatedDevices$Log", "staleHits", "I", false)
def tyX2 : Nat → FieldType := fun k => match k with
  | 0 => .int
  | 1 => .array .int
  | 2 => .array .int
  | 3 => .int
  | 4 => .array .int
  | 5 => .array .int
  | 6 => .array .int
  | 7 => .array .int
  | 8 => .int
  | 9 => .int
  | _ => .int
theorem nmX2 : ∀ a, a < 11 → ∀ b, b < 11 → a ≠ b → (TX2 a).2.1 ≠ (TX2 b).2.1 := by decide +kernel
theorem tyX2_ok : ∀ k, k < 11 → parseFieldDescriptor (TX2 k).2.2.1 = some (tyX2 k) := by decide +kernel
def RX3 : String := "GatedDevices$Queue"
def TX3 : u_T := fun k => match k with
  | 0 => ("GatedDevices$Queue", "length", "I", false)
  | 1 => ("GatedDevices$Queue", "sort", "[I", true)
  | 2 => ("GatedDevices$Queue", "domain", "[I", true)
  | 3 => ("GatedDevices$Queue", "number", "[I", true)
  | 4 => ("GatedDevices$Queue", "arrival", "[I", true)
  | 5 => ("GatedDevices$Queue", "arrivals", "I", false)
  | 6 => ("GatedDevices$Queue", "fencesCame", "I", false)
  | _ => ("GatedDevices$Queue", "fencesPassed", "I", false)
def tyX3 : Nat → FieldType := fun k => match k with
  | 0 => .int
  | 1 => .array .int
  | 2 => .array .int
  | 3 => .array .int
  | 4 => .array .int
  | 5 => .int
  | 6 => .int
  | _ => .int
theorem nmX3 : ∀ a, a < 8 → ∀ b, b < 8 → a ≠ b → (TX3 a).2.1 ≠ (TX3 b).2.1 := by decide +kernel
theorem tyX3_ok : ∀ k, k < 8 → parseFieldDescriptor (TX3 k).2.2.1 = some (tyX3 k) := by decide +kernel
def RX4 : String := "GatedDevices$Reader"
def TX4 : u_T := fun k => match k with
  | 0 => ("GatedDevices$Reader", "tape", "[I", true)
  | 1 => ("GatedDevices$Reader", "taped", "I", false)
  | 2 => ("GatedDevices$Reader", "tree", "LGatedDevices$Tree;", true)
  | 3 => ("GatedDevices$Reader", "end", "I", false)
  | 4 => ("GatedDevices$Reader", "next", "I", false)
  | 5 => ("GatedDevices$Reader", "place", "I", false)
  | 6 => ("GatedDevices$Reader", "sort", "I", false)
  | 7 => ("GatedDevices$Reader", "value", "I", false)
  | 8 => ("GatedDevices$Reader", "roomTold", "Z", false)
  | 9 => ("GatedDevices$Reader", "seedTold", "Z", false)
  | 10 => ("GatedDevices$Reader", "lines", "I", false)
  | 11 => ("GatedDevices$Reader", "faultSort", "I", false)
  | _ => ("GatedDevices$Reader", "faultPlace", "I", false)
def tyX4 : Nat → FieldType := fun k => match k with
  | 0 => .array .int
  | 1 => .int
  | 2 => .object "GatedDevices$Tree"
  | 3 => .int
  | 4 => .int
  | 5 => .int
  | 6 => .int
  | 7 => .int
  | 8 => .boolean
  | 9 => .boolean
  | 10 => .int
  | 11 => .int
  | _ => .int
theorem nmX4 : ∀ a, a < 13 → ∀ b, b < 13 → a ≠ b → (TX4 a).2.1 ≠ (TX4 b).2.1 := by decide +kernel
theorem tyX4_ok : ∀ k, k < 13 → parseFieldDescriptor (TX4 k).2.2.1 = some (tyX4 k) := by decide +kernel
def RX5 : String := "GatedDevices$Requests"
def TX5 : u_T := fun k => match k with
  | 0 => ("GatedDevices$Requests", "length", "I", false)
  | 1 => ("GatedDevices$Requests", "device", "[I", true)
  | 2 => ("GatedDevices$Requests", "page", "[I", true)
  | 3 => ("GatedDevices$Requests", "right", "[I", true)
  | 4 => ("GatedDevices$Requests", "batch", "[I", true)
  | 5 => ("GatedDevices$Requests", "closed", "I", false)
  | 6 => ("GatedDevices$Requests", "came", "I", false)
  | 7 => ("GatedDevices$Requests", "taken", "I", false)
  | _ => ("GatedDevices$Requests", "failed", "I", false)
def tyX5 : Nat → FieldType := fun k => match k with
  | 0 => .int
  | 1 => .array .int
  | 2 => .array .int
  | 3 => .array .int
  | 4 => .array .int
  | 5 => .int
  | 6 => .int
  | 7 => .int
  | _ => .int
theorem nmX5 : ∀ a, a < 9 → ∀ b, b < 9 → a ≠ b → (TX5 a).2.1 ≠ (TX5 b).2.1 := by decide +kernel
theorem tyX5_ok : ∀ k, k < 9 → parseFieldDescriptor (TX5 k).2.2.1 = some (tyX5 k) := by decide +kernel
def RX6 : String := "GatedDevices$State"
def TX6 : u_T := fun k => match k with
  | 0 => ("GatedDevices$State", "tree", "LGatedDevices$Tree;", true)
  | 1 => ("GatedDevices$State", "tables", "LGatedDevices$Tables;", true)
  | 2 => ("GatedDevices$State", "frames", "LGatedDevices$Frames;", true)
  | 3 => ("GatedDevices$State", "queue", "LGatedDevices$Queue;", true)
  | 4 => ("GatedDevices$State", "cache", "LGatedDevices$Cache;", true)
  | 5 => ("GatedDevices$State", "requests", "LGatedDevices$Requests;", true)
  | 6 => ("GatedDevices$State", "log", "LGatedDevices$Log;", true)
  | _ => ("GatedDevices$State", "domainBy", "[I", true)
def tyX6 : Nat → FieldType := fun k => match k with
  | 0 => .object "GatedDevices$Tree"
  | 1 => .object "GatedDevices$Tables"
  | 2 => .object "GatedDevices$Frames"
  | 3 => .object "GatedDevices$Queue"
  | 4 => .object "GatedDevices$Cache"
  | 5 => .object "GatedDevices$Requests"
  | 6 => .object "GatedDevices$Log"
  | _ => .array .int
theorem nmX6 : ∀ a, a < 8 → ∀ b, b < 8 → a ≠ b → (TX6 a).2.1 ≠ (TX6 b).2.1 := by decide +kernel
theorem tyX6_ok : ∀ k, k < 8 → parseFieldDescriptor (TX6 k).2.2.1 = some (tyX6 k) := by decide +kernel
def RX7 : String := "GatedDevices$Tables"
def TX7 : u_T := fun k => match k with
  | 0 => ("GatedDevices$Tables", "domains", "I", false)
  | 1 => ("GatedDevices$Tables", "lazy", "[I", true)
  | 2 => ("GatedDevices$Tables", "owed", "[I", true)
  | 3 => ("GatedDevices$Tables", "frameAt", "[I", true)
  | 4 => ("GatedDevices$Tables", "rightsAt", "[I", true)
  | 5 => ("GatedDevices$Tables", "reservedAt", "[I", true)
  | _ => ("GatedDevices$Tables", "blockAt", "[I", true)
def tyX7 : Nat → FieldType := fun k => match k with
  | 0 => .int
  | 1 => .array .int
  | 2 => .array .int
  | 3 => .array .int
  | 4 => .array .int
  | 5 => .array .int
  | _ => .array .int
theorem nmX7 : ∀ a, a < 7 → ∀ b, b < 7 → a ≠ b → (TX7 a).2.1 ≠ (TX7 b).2.1 := by decide +kernel
theorem tyX7_ok : ∀ k, k < 7 → parseFieldDescriptor (TX7 k).2.2.1 = some (tyX7 k) := by decide +kernel
def RX8 : String := "GatedDevices$Tree"
def TX8 : u_T := fun k => match k with
  | 0 => ("GatedDevices$Tree", "bridges", "I", false)
  | 1 => ("GatedDevices$Tree", "bridgeName", "[I", true)
  | 2 => ("GatedDevices$Tree", "bridgeKind", "[I", true)
  | 3 => ("GatedDevices$Tree", "upFrom", "[I", true)
  | 4 => ("GatedDevices$Tree", "devices", "I", false)
  | 5 => ("GatedDevices$Tree", "deviceName", "[I", true)
  | 6 => ("GatedDevices$Tree", "above", "[I", true)
  | 7 => ("GatedDevices$Tree", "stalls", "[I", true)
  | 8 => ("GatedDevices$Tree", "aliases", "I", false)
  | 9 => ("GatedDevices$Tree", "aliasOne", "[I", true)
  | 10 => ("GatedDevices$Tree", "aliasOther", "[I", true)
  | 11 => ("GatedDevices$Tree", "spans", "I", false)
  | 12 => ("GatedDevices$Tree", "spanDevice", "[I", true)
  | 13 => ("GatedDevices$Tree", "spanFirst", "[I", true)
  | 14 => ("GatedDevices$Tree", "spanLast", "[I", true)
  | 15 => ("GatedDevices$Tree", "room", "I", false)
  | 16 => ("GatedDevices$Tree", "seed", "I", false)
  | 17 => ("GatedDevices$Tree", "lowest", "[I", true)
  | _ => ("GatedDevices$Tree", "lowestTried", "[I", true)
def tyX8 : Nat → FieldType := fun k => match k with
  | 0 => .int
  | 1 => .array .int
  | 2 => .array .int
  | 3 => .array .int
  | 4 => .int
  | 5 => .array .int
  | 6 => .array .int
  | 7 => .array .int
  | 8 => .int
  | 9 => .array .int
  | 10 => .array .int
  | 11 => .int
  | 12 => .array .int
  | 13 => .array .int
  | 14 => .array .int
  | 15 => .int
  | 16 => .int
  | 17 => .array .int
  | _ => .array .int
theorem nmX8 : ∀ a, a < 19 → ∀ b, b < 19 → a ≠ b → (TX8 a).2.1 ≠ (TX8 b).2.1 := by decide +kernel
theorem tyX8_ok : ∀ k, k < 19 → parseFieldDescriptor (TX8 k).2.2.1 = some (tyX8 k) := by decide +kernel
def RX9 : String := "GatedDevices"
def TX9 : u_T := fun k => match k with
  | 0 => ("GatedDevices", "reader", "LGatedDevices$Reader;", true)
  | 1 => ("GatedDevices", "now", "LGatedDevices$State;", true)
  | 2 => ("GatedDevices", "image", "LGatedDevices$State;", true)
  | 3 => ("GatedDevices", "trial", "LGatedDevices$State;", true)
  | _ => ("GatedDevices", "imaged", "Z", false)
def tyX9 : Nat → FieldType := fun k => match k with
  | 0 => .object "GatedDevices$Reader"
  | 1 => .object "GatedDevices$State"
  | 2 => .object "GatedDevices$State"
  | 3 => .object "GatedDevices$State"
  | _ => .boolean
theorem nmX9 : ∀ a, a < 5 → ∀ b, b < 5 → a ≠ b → (TX9 a).2.1 ≠ (TX9 b).2.1 := by decide +kernel
theorem tyX9_ok : ∀ k, k < 5 → parseFieldDescriptor (TX9 k).2.2.1 = some (tyX9 k) := by decide +kernel
def RX10 : String := "GatedDevicesModel"
def TX10 : u_T := fun k => match k with
  | 0 => ("GatedDevicesModel", "tape", "[I", true)
  | 1 => ("GatedDevicesModel", "tapeSize", "I", false)
  | 2 => ("GatedDevicesModel", "thrown", "I", false)
  | 3 => ("GatedDevicesModel", "words", "[I", true)
  | 4 => ("GatedDevicesModel", "fault", "I", false)
  | 5 => ("GatedDevicesModel", "faultPlace", "I", false)
  | 6 => ("GatedDevicesModel", "stop", "I", false)
  | 7 => ("GatedDevicesModel", "next", "I", false)
  | 8 => ("GatedDevicesModel", "kind", "I", false)
  | 9 => ("GatedDevicesModel", "which", "I", false)
  | 10 => ("GatedDevicesModel", "at", "I", false)
  | 11 => ("GatedDevicesModel", "bridges", "I", false)
  | 12 => ("GatedDevicesModel", "devices", "I", false)
  | 13 => ("GatedDevicesModel", "aliases1", "I", false)
  | 14 => ("GatedDevicesModel", "spans", "I", false)
  | 15 => ("GatedDevicesModel", "bridgesRead", "I", false)
  | 16 => ("GatedDevicesModel", "devicesRead", "I", false)
  | 17 => ("GatedDevicesModel", "aliasesRead", "I", false)
  | 18 => ("GatedDevicesModel", "spansRead", "I", false)
  | 19 => ("GatedDevicesModel", "bridgeName", "[I", true)
  | 20 => ("GatedDevicesModel", "bridgeAbove", "[I", true)
  | 21 => ("GatedDevicesModel", "bridgeKind", "[I", true)
  | 22 => ("GatedDevicesModel", "deviceName", "[I", true)
  | 23 => ("GatedDevicesModel", "deviceAbove", "[I", true)
  | 24 => ("GatedDevicesModel", "stalls", "[I", true)
  | 25 => ("GatedDevicesModel", "aliasOf", "[I", true)
  | 26 => ("GatedDevicesModel", "spanOf", "[I", true)
  | 27 => ("GatedDevicesModel", "told", "[I", true)
  | 28 => ("GatedDevicesModel", "isRoom", "Z", false)
  | 29 => ("GatedDevicesModel", "isSeed", "Z", false)
  | 30 => ("GatedDevicesModel", "got", "I", false)
  | 31 => ("GatedDevicesModel", "groupOf", "[I", true)
  | 32 => ("GatedDevicesModel", "met", "[I", true)
  | 33 => ("GatedDevicesModel", "all", "[I", true)
  | 34 => ("GatedDevicesModel", "bank", "I", false)
  | 35 => ("GatedDevicesModel", "isImage", "Z", false)
  | 36 => ("GatedDevicesModel", "lookWhy", "I", false)
  | 37 => ("GatedDevicesModel", "lookAbout", "I", false)
  | _ => ("GatedDevicesModel", "drawn", "J", false)
def tyX10 : Nat → FieldType := fun k => match k with
  | 0 => .array .int
  | 1 => .int
  | 2 => .int
  | 3 => .array .int
  | 4 => .int
  | 5 => .int
  | 6 => .int
  | 7 => .int
  | 8 => .int
  | 9 => .int
  | 10 => .int
  | 11 => .int
  | 12 => .int
  | 13 => .int
  | 14 => .int
  | 15 => .int
  | 16 => .int
  | 17 => .int
  | 18 => .int
  | 19 => .array .int
  | 20 => .array .int
  | 21 => .array .int
  | 22 => .array .int
  | 23 => .array .int
  | 24 => .array .int
  | 25 => .array .int
  | 26 => .array .int
  | 27 => .array .int
  | 28 => .boolean
  | 29 => .boolean
  | 30 => .int
  | 31 => .array .int
  | 32 => .array .int
  | 33 => .array .int
  | 34 => .int
  | 35 => .boolean
  | 36 => .int
  | 37 => .int
  | _ => .long
theorem nmX10 : ∀ a, a < 39 → ∀ b, b < 39 → a ≠ b → (TX10 a).2.1 ≠ (TX10 b).2.1 := by decide +kernel
theorem tyX10_ok : ∀ k, k < 39 → parseFieldDescriptor (TX10 k).2.2.1 = some (tyX10 k) := by decide +kernel
