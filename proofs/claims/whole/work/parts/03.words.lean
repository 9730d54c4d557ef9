def mm_T0 : u_T := fun k => match k with
  | _ => ("MachineWitness$HoldActs", "store", "LMachineWitness$Store;", true)
def mm_T1 : u_T := fun k => match k with
  | 0 => ("MachineWitness$Mover", "programs", "[LMachineWitness$Program;", true)
  | 1 => ("MachineWitness$Mover", "numbers", "LMachineWitness$NumberActs;", true)
  | 2 => ("MachineWitness$Mover", "holds", "LMachineWitness$HoldActs;", true)
  | _ => ("MachineWitness$Mover", "objects", "LMachineWitness$ObjectActs;", true)
def mm_T2 : u_T := fun k => match k with
  | _ => ("MachineWitness$NumberActs", "reals", "LMachineWitness$Reals;", true)
def mm_T3 : u_T := fun k => match k with
  | 0 => ("MachineWitness$ObjectActs", "reals", "LMachineWitness$Reals;", true)
  | _ => ("MachineWitness$ObjectActs", "traced", "I", false)
def mm_T4 : u_T := fun k => match k with
  | 0 => ("MachineWitness$Program", "index", "I", true)
  | 1 => ("MachineWitness$Program", "size", "I", false)
  | 2 => ("MachineWitness$Program", "handlers", "I", false)
  | 3 => ("MachineWitness$Program", "acts", "[I", true)
  | _ => ("MachineWitness$Program", "taken", "[I", true)
def mm_T5 : u_T := fun k => match k with
  | _ => ("MachineWitness$Reals", "powers", "[D", true)
def mm_T6 : u_T := fun k => match k with
  | 0 => ("MachineWitness$Store", "things", "[LMachineWitness$Thing;", true)
  | _ => ("MachineWitness$Store", "made", "I", false)
def mm_T7 : u_T := fun k => match k with
  | 0 => ("MachineWitness$Strand", "index", "I", true)
  | 1 => ("MachineWitness$Strand", "numbers", "[J", true)
  | 2 => ("MachineWitness$Strand", "doubles", "[D", true)
  | 3 => ("MachineWitness$Strand", "floats", "[F", true)
  | 4 => ("MachineWitness$Strand", "holds", "[LMachineWitness$Thing;", true)
  | 5 => ("MachineWitness$Strand", "called", "[LMachineWitness$Program;", true)
  | 6 => ("MachineWitness$Strand", "places", "[I", true)
  | 7 => ("MachineWitness$Strand", "depth", "I", false)
  | 8 => ("MachineWitness$Strand", "done", "I", false)
  | 9 => ("MachineWitness$Strand", "failed", "I", false)
  | 10 => ("MachineWitness$Strand", "failedNow", "I", false)
  | 11 => ("MachineWitness$Strand", "latest", "I", false)
  | 12 => ("MachineWitness$Strand", "latestProgram", "I", false)
  | 13 => ("MachineWitness$Strand", "latestPlace", "I", false)
  | _ => ("MachineWitness$Strand", "wanted", "LMachineWitness$Thing;", false)
def mm_T8 : u_T := fun k => match k with
  | 0 => ("MachineWitness$Thing", "index", "I", true)
  | 1 => ("MachineWitness$Thing", "sort", "I", false)
  | 2 => ("MachineWitness$Thing", "length", "I", false)
  | 3 => ("MachineWitness$Thing", "owner", "I", false)
  | 4 => ("MachineWitness$Thing", "times", "I", false)
  | 5 => ("MachineWitness$Thing", "wholes", "[J", true)
  | 6 => ("MachineWitness$Thing", "reals", "[D", true)
  | 7 => ("MachineWitness$Thing", "parts", "[LMachineWitness$Thing;", true)
  | 8 => ("MachineWitness$Thing", "n", "J", false)
  | 9 => ("MachineWitness$Thing", "x", "D", false)
  | 10 => ("MachineWitness$Thing", "f", "F", false)
  | 11 => ("MachineWitness$Thing", "next", "LMachineWitness$Thing;", false)
  | 12 => ("MachineWitness$Thing", "line", "LMachineWitness$Thing;", false)
  | 13 => ("MachineWitness$Thing", "tally", "I", false)
  | 14 => ("MachineWitness$Thing", "nodeMark", "I", false)
  | 15 => ("MachineWitness$Thing", "leafMark", "I", false)
  | _ => ("MachineWitness$Thing", "twigMark", "I", false)
def mm_T9 : u_T := fun k => match k with
  | 0 => ("MachineWitness", "programs", "[LMachineWitness$Program;", true)
  | 1 => ("MachineWitness", "strands", "[LMachineWitness$Strand;", true)
  | 2 => ("MachineWitness", "store", "LMachineWitness$Store;", true)
  | 3 => ("MachineWitness", "reals", "LMachineWitness$Reals;", true)
  | 4 => ("MachineWitness", "objects", "LMachineWitness$ObjectActs;", true)
  | _ => ("MachineWitness", "mover", "LMachineWitness$Mover;", true)
def mm_T10 : u_T := fun k => match k with
  | 0 => ("MachineWitnessModel", "things", "I", false)
  | 1 => ("MachineWitnessModel", "sort", "[I", true)
  | 2 => ("MachineWitnessModel", "size", "[I", true)
  | 3 => ("MachineWitnessModel", "whole", "[J", true)
  | 4 => ("MachineWitnessModel", "real", "[D", true)
  | 5 => ("MachineWitnessModel", "n", "[J", true)
  | 6 => ("MachineWitnessModel", "x", "[D", true)
  | 7 => ("MachineWitnessModel", "f", "[D", true)
  | 8 => ("MachineWitnessModel", "next", "[I", true)
  | 9 => ("MachineWitnessModel", "line", "[I", true)
  | 10 => ("MachineWitnessModel", "tally", "[I", true)
  | 11 => ("MachineWitnessModel", "marks", "[I", true)
  | 12 => ("MachineWitnessModel", "lockedBy", "[I", true)
  | 13 => ("MachineWitnessModel", "locked", "[I", true)
  | 14 => ("MachineWitnessModel", "trace", "I", false)
  | 15 => ("MachineWitnessModel", "many", "[I", true)
  | 16 => ("MachineWitnessModel", "ops", "[I", true)
  | 17 => ("MachineWitnessModel", "as", "[I", true)
  | 18 => ("MachineWitnessModel", "bs", "[I", true)
  | 19 => ("MachineWitnessModel", "cs", "[I", true)
  | 20 => ("MachineWitnessModel", "handlers", "[I", true)
  | 21 => ("MachineWitnessModel", "from", "[I", true)
  | 22 => ("MachineWitnessModel", "to", "[I", true)
  | 23 => ("MachineWitnessModel", "taken", "[I", true)
  | 24 => ("MachineWitnessModel", "goesTo", "[I", true)
  | 25 => ("MachineWitnessModel", "numbers", "[J", true)
  | 26 => ("MachineWitnessModel", "doubles", "[D", true)
  | 27 => ("MachineWitnessModel", "floats", "[D", true)
  | 28 => ("MachineWitnessModel", "holds", "[I", true)
  | 29 => ("MachineWitnessModel", "isOn", "[Z", true)
  | 30 => ("MachineWitnessModel", "deep", "[I", true)
  | 31 => ("MachineWitnessModel", "programs", "[I", true)
  | 32 => ("MachineWitnessModel", "places", "[I", true)
  | 33 => ("MachineWitnessModel", "done", "[I", true)
  | 34 => ("MachineWitnessModel", "failed", "[I", true)
  | 35 => ("MachineWitnessModel", "latest", "[I", true)
  | 36 => ("MachineWitnessModel", "latestProgram", "[I", true)
  | 37 => ("MachineWitnessModel", "latestPlace", "[I", true)
  | 38 => ("MachineWitnessModel", "waits", "[I", true)
  | 39 => ("MachineWitnessModel", "thread", "I", false)
  | 40 => ("MachineWitnessModel", "a", "I", false)
  | 41 => ("MachineWitnessModel", "b", "I", false)
  | 42 => ("MachineWitnessModel", "c", "I", false)
  | 43 => ("MachineWitnessModel", "bad", "I", false)
  | _ => ("MachineWitnessModel", "goes", "I", false)
def mm_t0 : Nat → FieldType := fun k => match k with
  | _ => (.object "MachineWitness$Store")
def mm_t1 : Nat → FieldType := fun k => match k with
  | 0 => (.array (.object "MachineWitness$Program"))
  | 1 => (.object "MachineWitness$NumberActs")
  | 2 => (.object "MachineWitness$HoldActs")
  | _ => (.object "MachineWitness$ObjectActs")
def mm_t2 : Nat → FieldType := fun k => match k with
  | _ => (.object "MachineWitness$Reals")
def mm_t3 : Nat → FieldType := fun k => match k with
  | 0 => (.object "MachineWitness$Reals")
  | _ => .int
def mm_t4 : Nat → FieldType := fun k => match k with
  | 0 => .int
  | 1 => .int
  | 2 => .int
  | 3 => (.array .int)
  | _ => (.array .int)
def mm_t5 : Nat → FieldType := fun k => match k with
  | _ => (.array .double)
def mm_t6 : Nat → FieldType := fun k => match k with
  | 0 => (.array (.object "MachineWitness$Thing"))
  | _ => .int
def mm_t7 : Nat → FieldType := fun k => match k with
  | 0 => .int
  | 1 => (.array .long)
  | 2 => (.array .double)
  | 3 => (.array .float)
  | 4 => (.array (.object "MachineWitness$Thing"))
  | 5 => (.array (.object "MachineWitness$Program"))
  | 6 => (.array .int)
  | 7 => .int
  | 8 => .int
  | 9 => .int
  | 10 => .int
  | 11 => .int
  | 12 => .int
  | 13 => .int
  | _ => (.object "MachineWitness$Thing")
def mm_t8 : Nat → FieldType := fun k => match k with
  | 0 => .int
  | 1 => .int
  | 2 => .int
  | 3 => .int
  | 4 => .int
  | 5 => (.array .long)
  | 6 => (.array .double)
  | 7 => (.array (.object "MachineWitness$Thing"))
  | 8 => .long
  | 9 => .double
  | 10 => .float
  | 11 => (.object "MachineWitness$Thing")
  | 12 => (.object "MachineWitness$Thing")
  | 13 => .int
  | 14 => .int
  | 15 => .int
  | _ => .int
def mm_t9 : Nat → FieldType := fun k => match k with
  | 0 => (.array (.object "MachineWitness$Program"))
  | 1 => (.array (.object "MachineWitness$Strand"))
  | 2 => (.object "MachineWitness$Store")
  | 3 => (.object "MachineWitness$Reals")
  | 4 => (.object "MachineWitness$ObjectActs")
  | _ => (.object "MachineWitness$Mover")
def mm_t10 : Nat → FieldType := fun k => match k with
  | 0 => .int
  | 1 => (.array .int)
  | 2 => (.array .int)
  | 3 => (.array .long)
  | 4 => (.array .double)
  | 5 => (.array .long)
  | 6 => (.array .double)
  | 7 => (.array .double)
  | 8 => (.array .int)
  | 9 => (.array .int)
  | 10 => (.array .int)
  | 11 => (.array .int)
  | 12 => (.array .int)
  | 13 => (.array .int)
  | 14 => .int
  | 15 => (.array .int)
  | 16 => (.array .int)
  | 17 => (.array .int)
  | 18 => (.array .int)
  | 19 => (.array .int)
  | 20 => (.array .int)
  | 21 => (.array .int)
  | 22 => (.array .int)
  | 23 => (.array .int)
  | 24 => (.array .int)
  | 25 => (.array .long)
  | 26 => (.array .double)
  | 27 => (.array .double)
  | 28 => (.array .int)
  | 29 => (.array .boolean)
  | 30 => (.array .int)
  | 31 => (.array .int)
  | 32 => (.array .int)
  | 33 => (.array .int)
  | 34 => (.array .int)
  | 35 => (.array .int)
  | 36 => (.array .int)
  | 37 => (.array .int)
  | 38 => (.array .int)
  | 39 => .int
  | 40 => .int
  | 41 => .int
  | 42 => .int
  | 43 => .int
  | _ => .int
def mm_cls : List vw_C := [("MachineWitness$HoldActs", mm_T0, 1), ("MachineWitness$Mover", mm_T1, 4), ("MachineWitness$NumberActs", mm_T2, 1), ("MachineWitness$ObjectActs", mm_T3, 2), ("MachineWitness$Program", mm_T4, 5), ("MachineWitness$Reals", mm_T5, 1), ("MachineWitness$Store", mm_T6, 2), ("MachineWitness$Strand", mm_T7, 15), ("MachineWitness$Thing", mm_T8, 17), ("MachineWitness", mm_T9, 6), ("MachineWitnessModel", mm_T10, 45)]
def mm_cty (c : Nat) : Nat → FieldType := match c with
  | 0 => mm_t0
  | 1 => mm_t1
  | 2 => mm_t2
  | 3 => mm_t3
  | 4 => mm_t4
  | 5 => mm_t5
  | 6 => mm_t6
  | 7 => mm_t7
  | 8 => mm_t8
  | 9 => mm_t9
  | _ => mm_t10
def mm_tbl : List Cond := lw_tbl.filter goodWord
theorem mm_tb {z : Cond} (h : z ∈ tables_1) (hg : goodWord z = true) : z ∈ mm_tbl := List.mem_filter.mpr ⟨List.mem_append_right _ h, hg⟩
theorem mm_m1 {z : Cond} (h : z ∈ tables_1_1) : z ∈ tables_1 := List.mem_append_left _ h
theorem mm_m2 {z : Cond} (h : z ∈ tables_1_2) : z ∈ tables_1 := List.mem_append_right _ (List.mem_append_left _ h)
theorem mm_m3 {z : Cond} (h : z ∈ tables_1_3) : z ∈ tables_1 := List.mem_append_right _ (List.mem_append_right _ (List.mem_append_left _ h))
theorem mm_m4 {z : Cond} (h : z ∈ tables_1_4) : z ∈ tables_1 := List.mem_append_right _ (List.mem_append_right _ (List.mem_append_right _ (List.mem_append_left _ h)))
theorem mm_m5 {z : Cond} (h : z ∈ tables_1_5) : z ∈ tables_1 := List.mem_append_right _ (List.mem_append_right _ (List.mem_append_right _ (List.mem_append_right _ (List.mem_append_left _ h))))
theorem mm_m6 {z : Cond} (h : z ∈ tables_1_6) : z ∈ tables_1 := List.mem_append_right _ (List.mem_append_right _ (List.mem_append_right _ (List.mem_append_right _ (List.mem_append_right _ (List.mem_append_left _ h)))))
theorem mm_m7 {z : Cond} (h : z ∈ tables_1_7) : z ∈ tables_1 := List.mem_append_right _ (List.mem_append_right _ (List.mem_append_right _ (List.mem_append_right _ (List.mem_append_right _ (List.mem_append_right _ (h))))))
theorem mm_lays : (mm_cls.all fun q => (u_ws q.1 q.2.1 q.2.2).all fun z => decide (z ∈ tables_1)) = true := by decide +kernel
theorem mm_nms : (mm_cls.all fun q => (List.range q.2.2).all fun a => (List.range q.2.2).all fun b => a == b || !((q.2.1 a).2.1 == (q.2.1 b).2.1)) = true := by decide +kernel
theorem mm_tys : ((List.range 11).all fun c => match mm_cls[c]? with | some q => (List.range q.2.2).all fun k => decide (parseFieldDescriptor (q.2.1 k).2.2.1 = some (mm_cty c k)) | none => false) = true := by decide +kernel
theorem mm_dcl : (mm_cls.all fun q => (List.range q.2.2).all fun k => decide ((q.2.1 k).1 = q.1)) = true := by decide +kernel
def mm_tc (ty : FieldType) (tc : Nat) : Bool := match tc with
  | 0 => decide (ty = .int)
  | 1 => decide (ty = .long)
  | 2 => decide (ty = .float)
  | 3 => decide (ty = .double)
  | _ => match ty with
    | .object _ => true
    | .array _ => true
    | _ => false
theorem mm_tcs : ((List.range 11).all fun c => match mm_cls[c]? with | some q => (List.range q.2.2).all fun k => mm_tc (mm_cty c k) (mm_ft c k).1 && Nat.ble (mm_ft c k).1 6 | none => false) = true := by decide +kernel
def mm_ins_w : List (Nat × Nat) := [(180, 9), (168, 7), (170, 8), (61, 4), (74, 5), (49, 3), (33, 2), (98, 6), (633, 15), (21, 1), (934, 10)]
theorem mm_insts : ((List.range 11).all fun c => match mm_cls[c]?, mm_ins_w[c]? with | some q, some z => decide (tables_1[z.1]? = some (Cond.instantiable q.1 q.2.2)) && decide (tables_1[z.2]? = some (Cond.initialized q.1)) | _, _ => false) = true := by decide +kernel
def mm_fls : List (String × Nat × Nat × Nat × Nat) := [("MachineWitness$Store", 11, 6, 0, 40), ("MachineWitness$Store", 15, 6, 1, 41), ("MachineWitness", 238, 6, 1, 42), ("MachineWitness$Reals", 9, 5, 0, 55), ("MachineWitness$ObjectActs", 9, 3, 0, 66), ("MachineWitness$ObjectActs", 113, 3, 1, 67), ("MachineWitness", 235, 3, 1, 68), ("MachineWitness$Program", 18, 4, 0, 79), ("MachineWitness$Strand", 79, 4, 0, 80), ("MachineWitness$Program", 22, 4, 1, 81), ("MachineWitness", 241, 4, 1, 82), ("MachineWitness$Program", 29, 4, 2, 83), ("MachineWitness$Program", 11, 4, 3, 84), ("MachineWitness$Program", 15, 4, 4, 85), ("MachineWitness$Strand", 46, 7, 0, 105), ("MachineWitness$Mover", 112, 7, 0, 106), ("MachineWitness", 232, 7, 0, 107), ("MachineWitness$Strand", 11, 7, 1, 108), ("MachineWitness$Strand", 15, 7, 2, 109), ("MachineWitness$Strand", 19, 7, 3, 110), ("MachineWitness$Strand", 25, 7, 4, 111), ("MachineWitness$Strand", 31, 7, 5, 112), ("MachineWitness$Strand", 35, 7, 6, 113), ("MachineWitness$Mover", 135, 7, 7, 114), ("MachineWitness$Strand", 49, 7, 7, 115), ("MachineWitness", 163, 7, 7, 116), ("MachineWitness$Mover", 65, 7, 8, 117), ("MachineWitness", 147, 7, 8, 118), ("MachineWitness$Strand", 96, 7, 8, 119), ("MachineWitness", 151, 7, 9, 120), ("MachineWitness$Strand", 73, 7, 9, 121), ("MachineWitness$Mover", 129, 7, 10, 122), ("MachineWitness$Strand", 70, 7, 10, 123), ("MachineWitness$Mover", 132, 7, 11, 124), ("MachineWitness", 154, 7, 11, 125), ("MachineWitness$Strand", 76, 7, 11, 126), ("MachineWitness$Strand", 39, 7, 12, 127), ("MachineWitness", 157, 7, 12, 128), ("MachineWitness$Strand", 43, 7, 13, 129), ("MachineWitness", 160, 7, 13, 130), ("MachineWitness$Mover", 115, 7, 14, 131), ("MachineWitness", 166, 7, 14, 132), ("MachineWitness$Strand", 66, 7, 14, 133), ("MachineWitness$NumberActs", 9, 2, 0, 175), ("MachineWitness$HoldActs", 9, 0, 0, 185), ("MachineWitness$Mover", 9, 1, 0, 193), ("MachineWitness$Mover", 15, 1, 1, 194), ("MachineWitness$Mover", 19, 1, 2, 195), ("MachineWitness$Mover", 23, 1, 3, 196), ("MachineWitness", 13, 9, 0, 206), ("MachineWitness", 19, 9, 1, 207), ("MachineWitness", 26, 9, 2, 208), ("MachineWitness", 33, 9, 3, 209), ("MachineWitness", 42, 9, 4, 210), ("MachineWitness", 63, 9, 5, 211), ("MachineWitness$Thing", 27, 8, 0, 639), ("MachineWitness", 247, 8, 0, 640), ("MachineWitness$Thing", 30, 8, 1, 641), ("MachineWitness$ItemActs", 54, 8, 1, 642), ("MachineWitness$ObjectActs", 116, 8, 1, 643), ("MachineWitness$HoldActs", 89, 8, 1, 644), ("MachineWitness", 173, 8, 1, 645), ("MachineWitness$Thing", 33, 8, 2, 646), ("MachineWitness$HoldActs", 115, 8, 2, 647), ("MachineWitness$ItemActs", 115, 8, 2, 648), ("MachineWitness", 178, 8, 2, 649), ("MachineWitness$Thing", 9, 8, 3, 650), ("MachineWitness$Store", 30, 8, 3, 651), ("MachineWitness$Mover", 107, 8, 3, 652), ("MachineWitness", 181, 8, 3, 653), ("MachineWitness$Thing", 70, 8, 4, 654), ("MachineWitness$Mover", 119, 8, 4, 655), ("MachineWitness", 184, 8, 4, 656), ("MachineWitness$Thing", 15, 8, 5, 657), ("MachineWitness$ItemActs", 76, 8, 5, 658), ("MachineWitness$HoldActs", 97, 8, 5, 659), ("MachineWitness", 194, 8, 5, 660), ("MachineWitness$Thing", 19, 8, 6, 661), ("MachineWitness$ItemActs", 64, 8, 6, 662), ("MachineWitness$HoldActs", 107, 8, 6, 663), ("MachineWitness", 191, 8, 6, 664), ("MachineWitness$Thing", 23, 8, 7, 665), ("MachineWitness$HoldActs", 85, 8, 7, 666), ("MachineWitness$ItemActs", 100, 8, 7, 667), ("MachineWitness", 198, 8, 7, 668), ("MachineWitness$Thing", 39, 8, 8, 669), ("MachineWitness$ObjectActs", 69, 8, 8, 670), ("MachineWitness", 205, 8, 8, 671), ("MachineWitness$Thing", 43, 8, 9, 672), ("MachineWitness$ObjectActs", 72, 8, 9, 673), ("MachineWitness", 208, 8, 9, 674), ("MachineWitness$Thing", 47, 8, 10, 675), ("MachineWitness$ObjectActs", 76, 8, 10, 676), ("MachineWitness", 211, 8, 10, 677), ("MachineWitness$Thing", 51, 8, 11, 678), ("MachineWitness$ObjectActs", 84, 8, 11, 679), ("MachineWitness", 214, 8, 11, 680), ("MachineWitness$Thing", 55, 8, 12, 681), ("MachineWitness$ObjectActs", 92, 8, 12, 682), ("MachineWitness", 217, 8, 12, 683), ("MachineWitness$Thing", 58, 8, 13, 684), ("MachineWitness$ObjectActs", 95, 8, 13, 685), ("MachineWitness", 220, 8, 13, 686), ("MachineWitness$Thing", 61, 8, 14, 687), ("MachineWitness$ObjectActs", 98, 8, 14, 688), ("MachineWitness", 223, 8, 14, 689), ("MachineWitness$Thing", 64, 8, 15, 690), ("MachineWitness$ObjectActs", 101, 8, 15, 691), ("MachineWitness", 226, 8, 15, 692), ("MachineWitness$Thing", 67, 8, 16, 693), ("MachineWitness$ObjectActs", 104, 8, 16, 694), ("MachineWitness", 229, 8, 16, 695), ("MachineWitnessModel", 127, 10, 0, 943), ("MachineWitnessModel", 7, 10, 1, 944), ("MachineWitnessModel", 13, 10, 2, 945), ("MachineWitnessModel", 16, 10, 3, 946), ("MachineWitnessModel", 20, 10, 4, 947), ("MachineWitnessModel", 24, 10, 5, 948), ("MachineWitnessModel", 27, 10, 6, 949), ("MachineWitnessModel", 30, 10, 7, 950), ("MachineWitnessModel", 33, 10, 8, 951), ("MachineWitnessModel", 36, 10, 9, 952), ("MachineWitnessModel", 39, 10, 10, 953), ("MachineWitnessModel", 42, 10, 11, 954), ("MachineWitnessModel", 45, 10, 12, 955), ("MachineWitnessModel", 48, 10, 13, 956), ("MachineWitnessModel", 131, 10, 14, 957), ("MachineWitnessModel", 51, 10, 15, 958), ("MachineWitnessModel", 54, 10, 16, 959), ("MachineWitnessModel", 57, 10, 17, 960), ("MachineWitnessModel", 60, 10, 18, 961), ("MachineWitnessModel", 63, 10, 19, 962), ("MachineWitnessModel", 66, 10, 20, 963), ("MachineWitnessModel", 69, 10, 21, 964), ("MachineWitnessModel", 72, 10, 22, 965), ("MachineWitnessModel", 75, 10, 23, 966), ("MachineWitnessModel", 78, 10, 24, 967), ("MachineWitnessModel", 81, 10, 25, 968), ("MachineWitnessModel", 84, 10, 26, 969), ("MachineWitnessModel", 87, 10, 27, 970), ("MachineWitnessModel", 90, 10, 28, 971), ("MachineWitnessModel", 93, 10, 29, 972), ("MachineWitnessModel", 97, 10, 30, 973), ("MachineWitnessModel", 100, 10, 31, 974), ("MachineWitnessModel", 103, 10, 32, 975), ("MachineWitnessModel", 106, 10, 33, 976), ("MachineWitnessModel", 109, 10, 34, 977), ("MachineWitnessModel", 112, 10, 35, 978), ("MachineWitnessModel", 115, 10, 36, 979), ("MachineWitnessModel", 118, 10, 37, 980), ("MachineWitnessModel", 121, 10, 38, 981), ("MachineWitnessModel", 181, 10, 39, 982), ("MachineWitnessModel", 271, 10, 40, 983), ("MachineWitnessModel", 268, 10, 41, 984), ("MachineWitnessModel", 274, 10, 42, 985), ("MachineWitnessModel", 205, 10, 43, 986), ("MachineWitnessModel", 414, 10, 44, 987)]
theorem mm_flw : (mm_fls.all fun z => match mm_cls[z.2.2.1]? with | some q => decide (z.2.2.2.1 < q.2.2) && decide (tables_1[z.2.2.2.2]? = some (Cond.fieldLink z.1 z.2.1 (q.2.1 z.2.2.2.1).1 (q.2.1 z.2.2.2.1).2.1 (q.2.1 z.2.2.2.1).2.2.1)) | none => false) = true := by decide +kernel
def mm_sn : List String := ["OF_OPS", "LEAST", "MOST", "CHANGE_TO", "CHANGE_FROM", "OF_FIELDS"]
def mm_sfs : List (String × Nat × Nat × Nat) := [("MachineWitness$Shapes", 9, 0, 236), ("MachineWitness$Shapes", 26, 1, 244), ("MachineWitness$Shapes", 29, 2, 246), ("MachineWitness$Shapes", 32, 3, 251), ("MachineWitness$Shapes", 35, 4, 253), ("MachineWitness$Shapes", 38, 5, 255)]
theorem mm_sfw : (mm_sfs.all fun z => match mm_sn[z.2.2.1]? with | some n => decide (tables_1[z.2.2.2]? = some (Cond.fieldLink z.1 z.2.1 "MachineWitness$Shapes" n "[I")) | none => false) = true := by decide +kernel
def mm_cts : List (String × Nat × Nat × Nat × Nat) := [("MachineWitness$Reals", 13, 2, 4611686018427387904, 54), ("MachineWitness$Reals", 15, 2, 9218868437227405311, 432), ("MachineWitness$Reals", 17, 2, 18442240474082181119, 433), ("MachineWitness$Reals", 89, 2, 4503599627370496, 446), ("MachineWitness$Reals", 91, 2, 4832362400168542208, 447), ("MachineWitness$Reals", 23, 2, 4841369599423283200, 448), ("MachineWitness$Reals", 72, 1, 4503599627370495, 452), ("MachineWitness$Reals", 74, 1, 4503599627370496, 453), ("MachineWitness$Reals", 25, 2, 14064741636278059008, 494), ("MachineWitness$Reals", 41, 2, 13830554455654793216, 507), ("MachineWitness$ObjectActs", 129, 1, 2, 565), ("MachineWitness$ObjectActs", 149, 2, 4616189618054758400, 583), ("MachineWitness$ObjectActs", 141, 2, 4611686018427387904, 585), ("MachineWitness$ObjectActs", 161, 1, 3, 602), ("MachineWitness$HoldActs", 66, 1, 12, 623), ("MachineWitness$HoldActs", 77, 1, 6, 740), ("MachineWitness", 117, 1, 9223372036854775808, 842), ("MachineWitness$Reals", 79, 1, 9218868437227405312, 854), ("MachineWitness$Reals", 81, 1, 9223372036854775808, 855), ("MachineWitness$Reals", 83, 0, 2139095040, 865), ("MachineWitness$Reals", 93, 2, 4039728865751334912, 870), ("MachineWitness$Reals", 95, 1, 1023, 871), ("MachineWitness$Reals", 97, 1, 127, 872), ("MachineWitness$Reals", 99, 1, 8388607, 873), ("MachineWitness$Reals", 88, 0, 2147483648, 874), ("MachineWitnessModel", 227, 1, 5, 1084), ("MachineWitnessModel", 248, 1, 65, 1091), ("MachineWitnessModel", 208, 1, 7, 1098), ("MachineWitnessModel", 210, 1, 3, 1102), ("MachineWitnessModel", 223, 1, 18446744073709551556, 1103), ("MachineWitnessModel", 225, 1, 60, 1104), ("MachineWitnessModel", 221, 1, 11, 1105), ("MachineWitnessModel", 184, 1, 8, 1109), ("MachineWitnessModel", 233, 1, 4, 1110), ("MachineWitnessModel", 196, 1, 14, 1117), ("MachineWitnessModel", 198, 1, 16, 1118), ("MachineWitnessModel", 200, 1, 25, 1119), ("MachineWitnessModel", 241, 1, 20, 1123), ("MachineWitnessModel", 243, 1, 29, 1124), ("MachineWitnessModel", 212, 1, 39, 1128), ("MachineWitnessModel", 260, 1, 10, 1133), ("MachineWitnessModel", 392, 1, 2, 1146), ("MachineWitnessModel", 452, 1, 500, 1151), ("MachineWitnessModel", 153, 2, 4611686018427387904, 1195), ("MachineWitnessModel", 266, 1, 63, 1212), ("MachineWitnessModel", 179, 1, 18446744073709551615, 1213), ("MachineWitnessModel", 134, 2, 9218868437227405311, 1228), ("MachineWitnessModel", 136, 2, 18442240474082181119, 1229), ("MachineWitnessModel", 146, 2, 4841369599423283200, 1261), ("MachineWitnessModel", 148, 2, 14064741636278059008, 1262), ("MachineWitnessModel", 155, 2, 4602678819172646912, 1266), ("MachineWitnessModel", 164, 2, 13830554455654793216, 1267), ("MachineWitnessModel", 186, 1, 12, 1287), ("MachineWitnessModel", 340, 1, 6, 1296), ("MachineWitnessModel", 342, 1, 160, 1297), ("MachineWitnessModel", 394, 2, 4616189618054758400, 1379), ("MachineWitnessModel", 463, 1, 9223372036854775808, 1404), ("java/lang/Double", 137, 1, 9221120237041090560, 1418), ("java/lang/Float", 77, 0, 2143289344, 1432)]
def mm_ctc (own : String) (i k v : Nat) : Cond := match k with
  | 0 => .constant own i (nI v)
  | 1 => .constantLong own i (lN v)
  | _ => .constantDouble own i (UInt64.ofNat v)
theorem mm_ctw : (mm_cts.all fun z => decide (tables_1[z.2.2.2.2]? = some (mm_ctc z.1 z.2.1 z.2.2.1 z.2.2.2.1))) = true := by decide +kernel
def mm_cls_l : List (String × Nat × Nat × Nat) := [("MachineWitnessLaw", 7, 9, 20), ("MachineWitness", 11, 4, 28), ("MachineWitness", 17, 7, 30), ("MachineWitness", 23, 6, 32), ("MachineWitness$Store", 9, 8, 38), ("MachineWitness", 30, 5, 48), ("MachineWitness", 37, 3, 60), ("MachineWitness$Strand", 23, 8, 103), ("MachineWitness$Strand", 29, 4, 104), ("MachineWitness", 50, 1, 167), ("MachineWitness", 52, 2, 169), ("MachineWitness", 55, 0, 179), ("MachineWitness$Thing", 10, 8, 638), ("MachineWitnessLaw", 10, 10, 933)]
theorem mm_clw : (mm_cls_l.all fun z => match mm_cls[z.2.2.1]? with | some q => decide (tables_1[z.2.2.2]? = some (Cond.classLink z.1 z.2.1 q.1)) | none => false) = true := by decide +kernel
def mm_ois : List (String × Nat × Nat) := [("MachineWitness", 3, 25), ("MachineWitness$Store", 1, 37), ("MachineWitness$Reals", 3, 53), ("MachineWitness$ObjectActs", 3, 65), ("MachineWitness$Program", 3, 78), ("MachineWitness$Strand", 3, 102), ("MachineWitness$NumberActs", 3, 174), ("MachineWitness$HoldActs", 3, 184), ("MachineWitness$Mover", 3, 192), ("MachineWitness$Thing", 3, 637), ("MachineWitnessModel", 1, 938)]
theorem mm_oiw : (mm_ois.all fun z => decide (tables_1[z.2.2]? = some (Cond.methodLink z.1 z.2.1 objectInit))) = true := by decide +kernel
theorem mm_oi2 : Cond.instanceMethod objectInit ∈ tables_1 ∧ Cond.code objectInit ⟨#[0xb1]⟩ 1 none ∈ tables_1 := by decide +kernel
def mm_prs : List (String × Nat × Nat × Nat) := [("MachineWitness$Strand", 52, 1, 334), ("MachineWitness$Reals", 43, 3, 385), ("MachineWitness$Reals", 69, 1, 457), ("MachineWitness$Reals", 61, 2, 458), ("MachineWitness$HoldActs", 79, 4, 741), ("MachineWitness$HoldActs", 101, 7, 755), ("java/lang/Double", 134, 5, 1415)]
def mm_prn (k : Nat) : MethodName := match k with
  | 1 => Lib.Math.max.name
  | 2 => Lib.Math.min.name
  | 3 => Lib.Math.abs.name
  | 4 => Lib.MathLoose.max_long.x
  | 5 => ⟨"java/lang/Double", "doubleToRawLongBits", "(D)J"⟩
  | _ => arraycopyName
theorem mm_prw : (mm_prs.all fun z => decide (tables_1[z.2.2.2]? = some (Cond.methodLink z.1 z.2.1 (mm_prn z.2.2.1)))) = true := by decide +kernel
theorem mm_prc : ((Cond.static Lib.Math.max.name ∈ tables_1 ∧ Cond.code Lib.Math.max.name Lib.Math.max.code 2 (some .int) ∈ tables_1) ∧ (Cond.static Lib.Math.min.name ∈ tables_1 ∧ Cond.code Lib.Math.min.name Lib.Math.min.code 2 (some .int) ∈ tables_1) ∧ (Cond.static Lib.Math.abs.name ∈ tables_1 ∧ Cond.code Lib.Math.abs.name Lib.Math.abs.code 1 (some .int) ∈ tables_1) ∧ (Cond.static Lib.MathLoose.max_long.x ∈ tables_1 ∧ Cond.code Lib.MathLoose.max_long.x Lib.MathLoose.max_long.code 4 (some .long) ∈ tables_1)) ∧ Cond.initialized "java/lang/Math" ∈ tables_1 ∧ Cond.initialized "java/lang/Double" ∈ tables_1 ∧ Cond.initialized "java/lang/System" ∈ tables_1 ∧ (Cond.static (mm_prn 5) ∈ tables_1 ∧ Cond.native (mm_prn 5) ∈ tables_1) ∧ Cond.static arraycopyName ∈ tables_1 ∧ Cond.native arraycopyName ∈ tables_1 := by decide +kernel
def mm_ety (et : Nat) : FieldType := match et with
  | 0 => .int
  | 1 => .long
  | 2 => .float
  | 3 => .double
  | 4 => .boolean
  | 5 => .object "MachineWitness$Program"
  | 6 => .object "MachineWitness$Strand"
  | _ => .object "MachineWitness$Thing"
theorem mm_aws : (Cond.arrayClass .int ∈ tables_1 ∧ Cond.arrayClass .long ∈ tables_1 ∧ Cond.arrayClass .float ∈ tables_1 ∧ Cond.arrayClass .double ∈ tables_1 ∧ Cond.arrayClass .boolean ∈ tables_1) ∧ Cond.arrayOver (mm_ety 5) ∈ tables_1 ∧ Cond.arrayOver (mm_ety 6) ∈ tables_1 ∧ Cond.arrayOver (mm_ety 7) ∈ tables_1 := by decide +kernel
def mm_pcs : List mm_E → Nat
  | [] => 0
  | e :: _ => e.1
def mm_lok (i : Instr) (len : Nat) : Bool := match i with
  | .iload _ => len == 2
  | .lload _ => len == 2
  | .fload _ => len == 2
  | .dload _ => len == 2
  | .aload _ => len == 2
  | .istore _ => len == 2
  | .lstore _ => len == 2
  | .fstore _ => len == 2
  | .dstore _ => len == 2
  | .astore _ => len == 2
  | .bipush _ => len == 2
  | .ldc _ => len == 2
  | .newarray _ => len == 2
  | .sipush _ => len == 3
  | .ldc2_w _ => len == 3
  | .iinc _ _ => len == 3
  | .goto _ => len == 3
  | .ifCond _ _ => len == 3
  | .if_icmp _ _ => len == 3
  | .ifnull _ => len == 3
  | .ifnonnull _ => len == 3
  | .if_acmp _ _ => len == 3
  | .getfield _ => len == 3
  | .putfield _ => len == 3
  | .getstatic _ => len == 3
  | .new _ => len == 3
  | .anewarray _ => len == 3
  | .invokespecial _ => len == 3
  | .invokestatic _ => len == 3
  | .invokevirtual _ => len == 3
  | .tableswitch _ _ _ _ => true
  | .lookupswitch _ _ => true
  | _ => len == 1
def mm_ck2 (own : String) (nm : MethodName) (fr lo ml : Nat) (pc : Nat) (i : Instr) (x1 x2 x3 x4 x5 : Nat) (t : List Nat) : Bool := match i with
    | .iconst n => decide (Int32.ofInt n = mm_cv x1 x2)
    | .bipush n => decide ((Int8.ofInt n).toInt32 = mm_cv x1 x2)
    | .sipush n => decide ((Int16.ofInt n).toInt32 = mm_cv x1 x2)
    | .ldc k => (x1 == 0) && mm_cts.any fun z => decide (z.1 = own) && (z.2.1 == k) && (z.2.2.1 == 0) && (z.2.2.2.1 == x2)
    | .ldc2_w k => (x1 == 1 || x1 == 2) && mm_cts.any fun z => decide (z.1 = own) && (z.2.1 == k) && (z.2.2.1 == x1) && (z.2.2.2.1 == x2)
    | .iinc k n => decide (Int32.ofInt n = mm_cv x1 x2) && decide (k < ml)
    | .istore k => decide (k < ml)
    | .fstore k => decide (k < ml)
    | .astore k => decide (k < ml)
    | .lstore k => decide (k + 1 < ml)
    | .dstore k => decide (k + 1 < ml)
    | .istore_n k => decide (k.val < ml)
    | .fstore_n k => decide (k.val < ml)
    | .astore_n k => decide (k.val < ml)
    | .lstore_n k => decide (k.val + 1 < ml)
    | .dstore_n k => decide (k.val + 1 < ml)
    | .goto o => decide ((pc : Int) + o = (x1 : Int))
    | .ifCond _ o => decide ((pc : Int) + o = (x1 : Int))
    | .if_icmp _ o => decide ((pc : Int) + o = (x1 : Int))
    | .ifnull o => decide ((pc : Int) + o = (x1 : Int))
    | .ifnonnull o => decide ((pc : Int) + o = (x1 : Int))
    | .if_acmp _ o => decide ((pc : Int) + o = (x1 : Int))
    | .tableswitch d lo hi os => decide ((pc : Int) + d = (x1 : Int)) && decide (lo = (x2 : Int)) && decide (hi = (x3 : Int)) && decide (os.toList.map (fun o => (pc : Int) + o) = t.map (fun (n : Nat) => (n : Int))) && decide (t.length = x3 + 1 - x2) && decide (x3 < 1000)
    | .lookupswitch d ps => decide ((pc : Int) + d = (x1 : Int)) && decide (ps.toList.flatMap (fun z => [z.1, (pc : Int) + z.2]) = t.map (fun (n : Nat) => (n : Int))) && (ps.toList.zip (ps.toList.drop 1)).all (fun (a, next) => a.1 < next.1) && ps.toList.all (fun z => decide (0 ≤ z.1) && decide (z.1 < 1000))
    | .getfield k => (mm_fls.any fun z => decide (z.1 = own) && (z.2.1 == k) && (z.2.2.1 == x1) && (z.2.2.2.1 == x2)) && decide (mm_ft x1 x2 = (x3, x4, x5))
    | .putfield k => (mm_fls.any fun z => decide (z.1 = own) && (z.2.1 == k) && (z.2.2.1 == x1) && (z.2.2.2.1 == x2)) && decide (mm_ft x1 x2 = (x3, x4, x5)) && (match mm_cls[x1]? with | some q => !(q.2.1 x2).2.2.2 || (decide (nm.name = "<init>") && decide (q.1 = own)) | none => false)
    | .getstatic k => (mm_sfs.any fun z => decide (z.1 = own) && (z.2.1 == k) && (z.2.2.1 == x1)) && decide (x1 < 6)
    | .new k => (mm_cls_l.any fun z => decide (z.1 = own) && (z.2.1 == k) && (z.2.2.1 == x1)) && (match mm_cls[x1]? with | some q => (q.2.2 == x2) | none => false)
    | .anewarray k => (mm_cls_l.any fun z => decide (z.1 = own) && (z.2.1 == k) && (z.2.2.1 == x1)) && (match mm_cls[x1]? with | some q => decide (mm_ety x2 = .object q.1) | none => false) && decide (5 ≤ x2) && decide (mm_ka x3 = some (x2, x4)) && decide (x4 ≤ 2000)
    | .newarray ty => decide (newarray.typeOf ty = mm_ety x2) && decide (x2 < 5) && decide (mm_ka x3 = some (x2, x4)) && decide (x4 ≤ 2000)
    | .invokespecial k => !(x1 == 1) || ((mm_ois.any fun z => decide (z.1 = own) && (z.2.1 == k)) && Nat.ble 1 fr && Nat.ble 20 lo)
    | .invokestatic k => (x1 == 0) || ((mm_prs.any fun z => decide (z.1 = own) && (z.2.1 == k) && (z.2.2.1 == (if x1 == 8 then 7 else x1))) && Nat.ble 1 fr && Nat.ble 60 lo)
    | _ => true
def mm_ck (own : String) (nm : MethodName) (fr lo ml : Nat) (e : mm_E) : Bool := match e with
  | (pc, i, len, (x1, x2, x3, x4, x5), t) => mm_lok i len && mm_ck2 own nm fr lo ml pc i x1 x2 x3 x4 x5 t
def mm_adj : List mm_E → Bool
  | a :: b :: l => (a.1 + a.2.2.1 == b.1) && mm_adj (b :: l)
  | _ => true
def mm_ckd (by_ : ByteArray) (l : List mm_E) : Bool := l.all fun e => decide (decode by_ e.1 = .ok (e.2.1, e.2.2.1))
/-- classes whose methods, but for <init>, make nothing -/
def mm_nac (own : String) : Bool := own == "MachineWitnessModel" || own == "java/lang/Double" || own == "java/lang/Float"
def mm_na (Y : mm_Y) : Bool := mm_nac (mm_ow Y) && !((mm_nm Y).name == "<init>")
def mm_al (i : Instr) : Bool := match i with
  | .new _ => true
  | .newarray _ => true
  | .anewarray _ => true
  | _ => false
theorem mm_na_own {Y : mm_Y} (h : mm_na Y = true) : mm_nac (mm_ow Y) = true := by
  unfold mm_na at h
  rw [Bool.and_eq_true] at h
  exact h.1
def mm_ok (Y : mm_Y) : Prop := mm_ckd (mm_by Y) (mm_co Y) = true ∧ ((mm_co Y).all (mm_ck (mm_ow Y) (mm_nm Y) (mm_fr Y) (mm_lo Y) (mm_ml Y)) && mm_adj (mm_co Y)) = true ∧ (mm_pcs (mm_co Y) = 0 ∧ plainFor (mm_nm Y) = true ∧ (mm_na Y && (mm_co Y).any (fun e => mm_al e.2.1)) = false) ∧ Cond.code (mm_nm Y) (mm_by Y) (mm_ml Y) (mm_re Y) ∈ tables_1
